section
/-! 29c -/
theorem F_X5_takeWord_s16_t {g : Nat → Int} {n : Nat} (hn : n ≤ 1600) : twm g n (F_X5_takeWord_s16 g (n : Int)) ws_16 := by
  constructor
  · intro p hp
    unfold F_X5_takeWord_s16 F_X5_takeWord_s16_14 F_X5_takeWord_s16_27
    rw [lf_b_e, cl_w_16, wl_c, cl_mve hn hp]
    by_cases q : wl g n ws_16 p = -1
    · rw [if_pos q, if_pos q]
      rfl
    · rw [if_neg q, if_neg q]
      rfl
  · unfold F_X5_takeWord_s16 F_X5_takeWord_s16_14 F_X5_takeWord_s16_27
    rw [lf_b_e, cl_w_16, if_neg (show ¬ (0 : Int) = 1 from by decide), if_pos rfl]
    rfl
theorem F_X5_takeWord_s17_t {g : Nat → Int} {n : Nat} (hn : n ≤ 1600) : twm g n (F_X5_takeWord_s17 g (n : Int)) ws_17 := by
  constructor
  · intro p hp
    unfold F_X5_takeWord_s17 F_X5_takeWord_s17_14 F_X5_takeWord_s17_27
    rw [lf_b_e, cl_w_17, wl_c, cl_mve hn hp]
    by_cases q : wl g n ws_17 p = -1
    · rw [if_pos q, if_pos q]
      rfl
    · rw [if_neg q, if_neg q]
      rfl
  · unfold F_X5_takeWord_s17 F_X5_takeWord_s17_14 F_X5_takeWord_s17_27
    rw [lf_b_e, cl_w_17, if_neg (show ¬ (0 : Int) = 1 from by decide), if_pos rfl]
    rfl
theorem F_X5_takeWord_s18_t {g : Nat → Int} {n : Nat} (hn : n ≤ 1600) : twm g n (F_X5_takeWord_s18 g (n : Int)) ws_18 := by
  constructor
  · intro p hp
    unfold F_X5_takeWord_s18 F_X5_takeWord_s18_14 F_X5_takeWord_s18_27
    rw [lf_b_e, cl_w_18, wl_c, cl_mve hn hp]
    by_cases q : wl g n ws_18 p = -1
    · rw [if_pos q, if_pos q]
      rfl
    · rw [if_neg q, if_neg q]
      rfl
  · unfold F_X5_takeWord_s18 F_X5_takeWord_s18_14 F_X5_takeWord_s18_27
    rw [lf_b_e, cl_w_18, if_neg (show ¬ (0 : Int) = 1 from by decide), if_pos rfl]
    rfl
theorem F_X5_takeWord_s14_t {g : Nat → Int} {n : Nat} (hn : n ≤ 1600) : twm g n (F_X5_takeWord_s14 g (n : Int)) ws_14 := by
  constructor
  · intro p hp
    unfold F_X5_takeWord_s14 F_X5_takeWord_s14_14 F_X5_takeWord_s14_27
    rw [lf_b_e, cl_w_14, wl_c, cl_mve hn hp]
    by_cases q : wl g n ws_14 p = -1
    · rw [if_pos q, if_pos q]
      rfl
    · rw [if_neg q, if_neg q]
      rfl
  · unfold F_X5_takeWord_s14 F_X5_takeWord_s14_14 F_X5_takeWord_s14_27
    rw [lf_b_e, cl_w_14, if_neg (show ¬ (0 : Int) = 1 from by decide), if_pos rfl]
    rfl
theorem F_X5_takeWord_s13_t {g : Nat → Int} {n : Nat} (hn : n ≤ 1600) : twm g n (F_X5_takeWord_s13 g (n : Int)) ws_13 := by
  constructor
  · intro p hp
    unfold F_X5_takeWord_s13 F_X5_takeWord_s13_14 F_X5_takeWord_s13_27
    rw [lf_b_e, cl_w_13, wl_c, cl_mve hn hp]
    by_cases q : wl g n ws_13 p = -1
    · rw [if_pos q, if_pos q]
      rfl
    · rw [if_neg q, if_neg q]
      rfl
  · unfold F_X5_takeWord_s13 F_X5_takeWord_s13_14 F_X5_takeWord_s13_27
    rw [lf_b_e, cl_w_13, if_neg (show ¬ (0 : Int) = 1 from by decide), if_pos rfl]
    rfl
end
section
/-! 29d -/
/-! parts, pairs, facts -/
def lf5 {α : Type} (o : Int × Int × Int × Int × Int) (k : Int → Int → Int → Int → Int → α) : α := lf_p o (fun a t => lf_p t (fun b t => lf_p t (fun d t => lf_p t (fun f q => k a b d f q))))
def gEnt (g : Nat → Int) (n be : Int) : Int × Int × Int × Int := lf_p (F_X5_moveTo g n be) (fun a t => (lf_p t (fun b d => ((1 : Int), a, b, d))))
def lf4 {α : Type} (o : Int × Int × Int × Int) (k : Int → Int → Int → Int → α) : α := lf_p o (fun r t => lf_p t (fun a t => lf_p t (fun b d => k r a b d)))
theorem lf4_e {α : Type} (r a b d : Int) (k : Int → Int → Int → Int → α) : lf4 (r, a, b, d) k = k r a b d := rfl
theorem lf5_e {α : Type} (g : Nat → Int) (n : Nat) (s : ST) (k : Int → Int → Int → Int → Int → α) : lf5 (cst g n s) k = k (cst g n s).1 (cst g n s).2.1 (cst g n s).2.2.1 (cst g n s).2.2.2.1 (cst g n s).2.2.2.2 := rfl
theorem gEnt_1 {g : Nat → Int} {n p : Nat} (hn : n ≤ 1600) (hp : p ≤ n) : gEnt g (n : Int) (tx_e g n p : Int) = ((1 : Int), (tx_a g n (tx_e g n p) : Int), (tx_e g n (tx_e g n p) : Int), (tx_k g n (tx_e g n p) : Int)) := by
  unfold gEnt
  rw [cl_mve hn hp, lf_p_e, lf_p_e]
theorem run_sub {g : Nat → Int} {n : Nat} {X : XF} {sp : Nat → CD → ST × CD} (hX : meets g n X sp) {s : ST} {c c' : CD} (hv : sv n s) (h : ∀ q, s = .inr q → c = c') : tellC g n (runX g n X s c) (sbC s c' sp) := by
  cases s with
  | inl q =>
    obtain ⟨d, e1, e2⟩ := hX (.inl q) c hv
    exact ⟨d, e1, fun q r => by cases r⟩
  | inr p =>
    rw [← h p rfl]
    exact hX (.inr p) c hv
/-- a step deeper: what opens here, if it may -/
def opn (g : Nat → Int) (n : Nat) (b : Bool) (p : Nat) (c : CD) (k : Nat → CD → ST × CD) : ST × CD := if b = true then k (tx_e g n p) c else (.inl (4, (tx_a g n p : Int)), c)
theorem opn_t {g : Nat → Int} {n p : Nat} {c : CD} {k : Nat → CD → ST × CD} : opn g n true p c k = k (tx_e g n p) c := if_pos rfl
theorem opn_f {g : Nat → Int} {n p : Nat} {c : CD} {k : Nat → CD → ST × CD} : opn g n false p c k = (.inl (4, (tx_a g n p : Int)), c) := if_neg (fun r => Bool.noConfusion r)
def sp_pair (g : Nat → Int) (n : Nat) (b : Bool) (S : Nat → CD → ST × CD) (op : Int) (p : Nat) (c : CD) : ST × CD := if tx_k g n p = 3 ∧ g (tx_a g n p) = 40 then opn g n b p c (fun p1 c => (sb (sbC (sb (S p1 c).1 (sp_need g n 44)) (S p1 c).2 S).1 (sp_need g n 41), em (sbC (sb (S p1 c).1 (sp_need g n 44)) (S p1 c).2 S).2 op)) else (.inl (1, (tx_a g n p : Int)), c)
def gPair (g : Nat → Int) (n : Int) (S : XF) (xa be so : Int) (cd : Nat → Int) (sz fa pl op : Int) : XO := lf_b (F_X5_sees g xa so (40 : Int)) (fun r => (if r = (0 : Int) then (lf_p (F_X5_fail fa pl (1 : Int) xa) (fun x y => (n, n, (0 : Int), x, y, sz, cd))) else (lf4 (gEnt g n be) (fun _ a b d => (lf7 (S a b d cd sz fa pl) (fun a2 b2 d2 f2 q2 z2 w2 => (lf5 (F_X5_need g n a2 b2 d2 f2 q2 (44 : Int)) (fun a3 b3 d3 f3 q3 => (lf7 (S a3 b3 d3 w2 z2 f3 q3) (fun a4 b4 d4 f4 q4 z4 w4 => (lf5 (F_X5_need g n a4 b4 d4 f4 q4 (41 : Int)) (fun a5 b5 d5 f5 q5 => (lf_p (F_X5_emit w4 z4 op) (fun z6 w6 => (a5, b5, d5, f5, q5, z6, w6)))))))))))))))
theorem sp_need_gt {g : Nat → Int} {n p : Nat} {c : Int} {q : Nat} (h : sp_need g n c p = .inr q) : p < q := by
  unfold sp_need at h
  split at h
  · rename_i r
    cases h
    exact tx_e_gt' (by have := r.1; omega)
  · cases h
theorem sp_need_sv {g : Nat → Int} {n : Nat} {s : ST} {c : Int} (h : sv n s) : sv n (sb s (sp_need g n c)) := sv_sb h (fun _ hp => sp_need_v _ hp)
theorem pair_ok {g : Nat → Int} {n : Nat} {S : Nat → CD → ST × CD} {b : Bool} {op : Int} (h : okR n S) : okR n (sp_pair g n b S op) := by
  intro p c hp
  unfold sp_pair
  split
  · rename_i r
    have hlt : p < tx_e g n p := tx_e_gt' (by have := r.1; omega)
    unfold opn
    split
    · dsimp only
      have h1 := h (tx_e g n p) c (tx_e_le hp)
      cases e1 : (S (tx_e g n p) c).1 with
      | inl q0 =>
        rw [e1] at h1
        exact ⟨h1.1, fun q r => by cases r⟩
      | inr p1 =>
        rw [e1] at h1
        have l1 := h1.2 p1 rfl
        show sv n (sb (sbC (sp_need g n 44 p1) _ S).1 (sp_need g n 41)) ∧ ∀ q, sb (sbC (sp_need g n 44 p1) _ S).1 (sp_need g n 41) = .inr q → p < q
        have h2 := sp_need_v (g := g) 44 h1.1
        cases e2 : sp_need g n 44 p1 with
        | inl q0 =>
          rw [e2] at h2
          exact ⟨h2, fun q r => by cases r⟩
        | inr p2 =>
          rw [e2] at h2
          have l2 := sp_need_gt e2
          have h3 := h p2 (S (tx_e g n p) c).2 h2
          show sv n (sb (S p2 _).1 (sp_need g n 41)) ∧ ∀ q, sb (S p2 _).1 (sp_need g n 41) = .inr q → p < q
          cases e3 : (S p2 (S (tx_e g n p) c).2).1 with
          | inl q0 =>
            rw [e3] at h3
            exact ⟨h3.1, fun q r => by cases r⟩
          | inr p3 =>
            rw [e3] at h3
            have l3 := h3.2 p3 rfl
            exact ⟨sp_need_v 41 h3.1, fun q r => by have := sp_need_gt (show sp_need g n 41 p3 = .inr q from r); omega⟩
    · exact ⟨sv_l (by decide), fun q r => by cases r⟩
  · exact ⟨sv_l (by decide), fun q r => by cases r⟩
theorem gPair_1 {g : Nat → Int} {n p : Nat} {X : XF} {S : Nat → CD → ST × CD} {op : Int} {c : CD} (hn : n ≤ 1600) (hp : p ≤ n) (hX : meets g n X S) (hok : okR n S) : tellC g n (gPair g (n : Int) X (tx_a g n p : Int) (tx_e g n p : Int) (tx_k g n p : Int) c.2 c.1 (0 : Int) (-1 : Int) op) (sp_pair g n true S op p c) := by
  unfold gPair sp_pair
  rw [lf_b_e]
  by_cases q : tsn g n 40 p
  · rw [cl_see1 q, if_neg (show ¬ (1 : Int) = 0 from by decide), if_pos (show tx_k g n p = 3 ∧ g (tx_a g n p) = 40 from q), opn_t]
    rw [gEnt_1 hn hp, lf4_e]
    have hv := hok (tx_e g n p) c (tx_e_le hp)
    obtain ⟨d1, e1, e2⟩ := hX (.inr (tx_e g n p)) c (tx_e_le hp)
    have e3 : X (tx_a g n (tx_e g n p) : Int) (tx_e g n (tx_e g n p) : Int) (tx_k g n (tx_e g n p) : Int) c.2 c.1 (0 : Int) (-1 : Int) = ap5 (cst g n (S (tx_e g n p) c).1) d1 := e1
    have e4 : ∀ q, (S (tx_e g n p) c).1 = .inr q → d1 = (S (tx_e g n p) c).2 := e2
    rw [e3]
    generalize S (tx_e g n p) c = r1 at hv e4
    rw [lf7_e, cl_need_s hn hv.1, lf5_e]
    have hv2 : sv n (sb r1.1 (sp_need g n 44)) := sp_need_sv hv.1
    obtain ⟨d2, e5, e6⟩ := run_sub hX (c := d1) (c' := r1.2) hv2 (fun q r => by
      cases e : r1.1 with
      | inl q0 => rw [e] at r; cases r
      | inr p1 => exact e4 p1 e)
    show tellC g n (lf7 (runX g n X (sb r1.1 (sp_need g n 44)) d1) _) _
    rw [e5]
    have hv3 : sv n (sbC (sb r1.1 (sp_need g n 44)) r1.2 S).1 := by
      cases e : sb r1.1 (sp_need g n 44) with
      | inl q0 => rw [e] at hv2; exact hv2
      | inr p2 => rw [e] at hv2; exact (hok p2 r1.2 hv2).1
    generalize sbC (sb r1.1 (sp_need g n 44)) r1.2 S = r3 at hv3 e6
    rw [lf7_e, cl_need_s hn hv3, lf5_e]
    refine ⟨em d2 op, rfl, fun q r => ?_⟩
    cases e : r3.1 with
    | inl q0 =>
      have r' : sb r3.1 (sp_need g n 41) = .inr q := r
      rw [e] at r'
      cases r'
    | inr p3 =>
      show em d2 op = em r3.2 op
      rw [e6 p3 e]
  · rw [cl_see0 q, if_pos rfl, if_neg (show ¬ (tx_k g n p = 3 ∧ g (tx_a g n p) = 40) from q), cl_fail0]
    exact ⟨c, rfl, fun q r => by cases r⟩
/-- a word that tells a number -/
def sp_pw (g : Nat → Int) (n : Nat) (al : Int) (p : Nat) (c : CD) : ST × CD := if wl g n ws_20 p = -1 ∨ lf_o lf_iand (lf_o lf_ishr al (wl g n ws_20 p)) 1 = 0 then (.inl (1, (tx_a g n p : Int)), c) else (.inr (tx_e g n p), em c (-1 - wl g n ws_20 p))
theorem cl_pw1 {g : Nat → Int} {n p : Nat} {al : Int} {c : CD} (hn : n ≤ 1600) (hp : p ≤ n) : tellC g n (F_X5_partWord g (n : Int) (tx_a g n p : Int) (tx_e g n p : Int) (tx_k g n p : Int) al c.2 c.1 (0 : Int) (-1 : Int)) (sp_pw g n al p c) := by
  unfold F_X5_partWord F_X5_partWord_23 sp_pw
  rw [lf_b_e, cl_w_20, wl_c, cl_fail0, cl_mve hn hp]
  by_cases q : wl g n ws_20 p = -1
  · rw [if_pos q, if_pos (Or.inl q)]
    exact ⟨c, rfl, fun q r => by cases r⟩
  · rw [if_neg q]
    by_cases q2 : lf_o lf_iand (lf_o lf_ishr al (wl g n ws_20 p)) 1 = 0
    · rw [if_pos q2, if_pos (Or.inr q2)]
      exact ⟨c, rfl, fun q r => by cases r⟩
    · rw [if_neg q2, if_neg (fun r => r.elim q q2)]
      exact ⟨em c (-1 - wl g n ws_20 p), rfl, fun q r => rfl⟩
theorem cl_pw0 {g : Nat → Int} {n : Nat} {al f q : Int} {c : CD} (h : ¬ f = 0) : F_X5_partWord g (n : Int) (n : Int) (n : Int) (0 : Int) al c.2 c.1 f q = ap5 (cst g n (.inl (f, q))) c := by
  unfold F_X5_partWord F_X5_partWord_23
  rw [lf_b_e, cl_w_20, if_neg (show ¬ (0 : Int) = 1 from by decide), if_pos rfl, cl_fail1 h]
  rfl
theorem pw_ok {g : Nat → Int} {n : Nat} {al : Int} : okR n (sp_pw g n al) := by
  intro p c hp
  unfold sp_pw
  split
  · exact ⟨sv_l (by decide), fun q r => by cases r⟩
  · rename_i h
    refine ⟨tx_e_le hp, fun q r => ?_⟩
    cases r
    exact tx_e_gt' (by have := wl_k (fun e => h (Or.inl e)); omega)
end
section
/-! 29e -/
def tup7 (a b d f q z : Int) (w : Nat → Int) : XO := (a, b, d, f, q, z, w)
theorem lf7_t (o : XO) : lf7 o tup7 = o := rfl
def gPart (g : Nat → Int) (n al : Int) (S P : XF) : XF := fun xa be so cd sz fa pl => if so = (2 : Int) then (lf_p (F_X5_number_a0_0_a1_9999 g n xa be so fa pl) (fun r t => (lf5 t (fun a b d f q => (lf_p (F_X5_emit cd sz r) (fun z w => tup7 a b d f q z w)))))) else (lf_b (F_X5_sees g xa so (40 : Int)) (fun r1 => (if r1 = (0 : Int) then (lf4 (F_X5_takeWord_s17 g n xa be so) (fun r2 a b d => (if r2 = (0 : Int) then (lf4 (F_X5_takeWord_s18 g n a b d) (fun r3 a2 b2 d2 => (if r3 = (0 : Int) then (if al = (3707 : Int) then (lf_b (F_X5_wordIn_s19 g a2 b2 d2) (fun r4 => (if r4 = (-1 : Int) then (lf7 (F_X5_partWord g n a2 b2 d2 al cd sz fa pl) tup7) else (lf4 (gEnt g n b2) (fun _ a3 b3 d3 => (lf7 (P a3 b3 d3 cd sz fa pl) (fun a4 b4 d4 f4 q4 z4 w4 => (lf_p (F_X5_emit w4 z4 (-32 : Int)) (fun z5 w5 => tup7 a4 b4 d4 f4 q4 z5 w5))))))))) else (lf7 (F_X5_partWord g n a2 b2 d2 al cd sz fa pl) tup7)) else (lf7 (gPair g n S a2 b2 d2 cd sz fa pl (-25 : Int)) tup7)))) else (lf7 (gPair g n S a b d cd sz fa pl (-24 : Int)) tup7)))) else (lf4 (gEnt g n be) (fun _ a b d => (lf7 (S a b d cd sz fa pl) (fun a2 b2 d2 f2 q2 z2 w2 => (lf5 (F_X5_need g n a2 b2 d2 f2 q2 (41 : Int)) (fun a3 b3 d3 f3 q3 => tup7 a3 b3 d3 f3 q3 z2 w2)))))))))
def gE6 (xa fa pl : Int) : Int × Int × Int := lf_p (F_X5_fail fa pl (4 : Int) xa) (fun x y => ((0 : Int), x, y))
def gPair6 (g : Nat → Int) (xa so fa pl : Int) : Int × Int := lf_b (F_X5_sees g xa so (40 : Int)) (fun r => (if r = (0 : Int) then (lf_p (F_X5_fail fa pl (1 : Int) xa) (fun x y => (x, y))) else (lf_p (gE6 xa fa pl) (fun _ t => (lf_p t (fun x y => (x, y)))))))
def gPart6 (g : Nat → Int) (n al : Int) : XF := fun xa be so cd sz fa pl => if so = (2 : Int) then (lf_p (F_X5_number_a0_0_a1_9999 g n xa be so fa pl) (fun r t => (lf5 t (fun a b d f q => (lf_p (F_X5_emit cd sz r) (fun z w => tup7 a b d f q z w)))))) else (lf_b (F_X5_sees g xa so (40 : Int)) (fun r1 => (if r1 = (0 : Int) then (lf4 (F_X5_takeWord_s17 g n xa be so) (fun r2 a b d => (if r2 = (0 : Int) then (lf4 (F_X5_takeWord_s18 g n a b d) (fun r3 a2 b2 d2 => (if r3 = (0 : Int) then (if al = (3707 : Int) then (lf_b (F_X5_wordIn_s19 g a2 b2 d2) (fun r4 => (if r4 = (-1 : Int) then (lf7 (F_X5_partWord g n a2 b2 d2 al cd sz fa pl) tup7) else (lf_p (gE6 a2 fa pl) (fun _ t => (lf_p t (fun x y => tup7 n n (0 : Int) x y sz cd))))))) else (lf7 (F_X5_partWord g n a2 b2 d2 al cd sz fa pl) tup7)) else (lf_p (gPair6 g a2 d2 fa pl) (fun x y => tup7 n n (0 : Int) x y sz cd))))) else (lf_p (gPair6 g a d fa pl) (fun x y => tup7 n n (0 : Int) x y sz cd))))) else (lf_p (gE6 xa fa pl) (fun _ t => (lf_p t (fun x y => tup7 n n (0 : Int) x y sz cd)))))))
def sp_partD (g : Nat → Int) (n : Nat) (al : Int) (b : Bool) (S P : Nat → CD → ST × CD) (p : Nat) (c : CD) : ST × CD := if tx_k g n p = 2 then ((sp_num g n 0 9999 p).2, em c (sp_num g n 0 9999 p).1) else if tx_k g n p = 3 ∧ g (tx_a g n p) = 40 then opn g n b p c (fun p1 c => (sb (S p1 c).1 (sp_need g n 41), (S p1 c).2)) else if ¬ wl g n ws_17 p = -1 then sp_pair g n b S (-24) (tx_e g n p) c else if ¬ wl g n ws_18 p = -1 then sp_pair g n b S (-25) (tx_e g n p) c else if al = 3707 ∧ ¬ wl g n ws_19 p = -1 then opn g n b p c (fun p1 c => ((P p1 c).1, em (P p1 c).2 (-32))) else sp_pw g n al p c
theorem sp_num_gt {g : Nat → Int} {n p q : Nat} {lo hi : Int} (h : (sp_num g n lo hi p).2 = .inr q) : p < q := by
  unfold sp_num at h
  split at h
  · rename_i r
    split at h
    · split at h
      · cases h
      · cases h
        exact tx_e_gt' (by omega)
    · cases h
  · cases h
theorem part_ok {g : Nat → Int} {n : Nat} {al : Int} {b : Bool} {S P : Nat → CD → ST × CD} (hS : okR n S) (hP : okR n P) : okR n (sp_partD g n al b S P) := by
  intro p c hp
  unfold sp_partD
  split
  · exact ⟨sp_num_v 0 9999 hp, fun q r => sp_num_gt r⟩
  · split
    · rename_i r
      have hlt : p < tx_e g n p := tx_e_gt' (by have := r.1; omega)
      unfold opn
      split
      · dsimp only
        have h1 := hS (tx_e g n p) c (tx_e_le hp)
        cases e1 : (S (tx_e g n p) c).1 with
        | inl q0 =>
          rw [e1] at h1
          exact ⟨h1.1, fun q r => by cases r⟩
        | inr p1 =>
          rw [e1] at h1
          have l1 := h1.2 p1 rfl
          exact ⟨sp_need_v 41 h1.1, fun q r => by have := sp_need_gt (show sp_need g n 41 p1 = .inr q from r); omega⟩
      · exact ⟨sv_l (by decide), fun q r => by cases r⟩
    · split
      · rename_i r
        have hlt : p < tx_e g n p := tx_e_gt' (by have := wl_k r; omega)
        have := pair_ok (g := g) (b := b) (op := -24) hS (tx_e g n p) c (tx_e_le hp)
        exact ⟨this.1, fun q r => by have := this.2 q r; omega⟩
      · split
        · rename_i r
          have hlt : p < tx_e g n p := tx_e_gt' (by have := wl_k r; omega)
          have := pair_ok (g := g) (b := b) (op := -25) hS (tx_e g n p) c (tx_e_le hp)
          exact ⟨this.1, fun q r => by have := this.2 q r; omega⟩
        · split
          · rename_i r
            have hlt : p < tx_e g n p := tx_e_gt' (by have := wl_k r.2; omega)
            unfold opn
            split
            · dsimp only
              have h1 := hP (tx_e g n p) c (tx_e_le hp)
              exact ⟨h1.1, fun q r => by have := h1.2 q r; omega⟩
            · exact ⟨sv_l (by decide), fun q r => by cases r⟩
          · exact pw_ok p c hp
theorem tw_1 {g : Nat → Int} {n p : Nat} {TW : Int → Int → Int → Int × Int × Int × Int} {ws : List (List Int)} (h : twm g n TW ws) (hp : p ≤ n) (q : wl g n ws p = -1) : TW (tx_a g n p : Int) (tx_e g n p : Int) (tx_k g n p : Int) = ((0 : Int), (tx_a g n p : Int), (tx_e g n p : Int), (tx_k g n p : Int)) := by rw [h.1 p hp, if_pos q]
theorem tw_2 {g : Nat → Int} {n p : Nat} {TW : Int → Int → Int → Int × Int × Int × Int} {ws : List (List Int)} (h : twm g n TW ws) (hp : p ≤ n) (q : ¬ wl g n ws p = -1) : TW (tx_a g n p : Int) (tx_e g n p : Int) (tx_k g n p : Int) = ((1 : Int), (tx_a g n (tx_e g n p) : Int), (tx_e g n (tx_e g n p) : Int), (tx_k g n (tx_e g n p) : Int)) := by rw [h.1 p hp, if_neg q]
/-- what a faulty state makes of a part: nothing -/
theorem gPart_0 {g : Nat → Int} {n : Nat} {al f q : Int} {S P : XF} {c : CD} (hn : n ≤ 1600) (h : ¬ f = 0) : gPart g (n : Int) al S P (n : Int) (n : Int) (0 : Int) c.2 c.1 f q = ap5 (cst g n (.inl (f, q))) c := by
  unfold gPart
  rw [if_neg (show ¬ (0 : Int) = 2 from by decide), lf_b_e, cl_seen, if_pos rfl, (F_X5_takeWord_s17_t hn).2]
  rw [lf4_e, if_pos rfl, (F_X5_takeWord_s18_t hn).2, lf4_e, if_pos rfl, lf_b_e, cl_w_19, if_neg (show ¬ (0 : Int) = 1 from by decide), if_pos rfl, cl_pw0 h]
  split
  · rfl
  · rfl
theorem gPart6_0 {g : Nat → Int} {n : Nat} {al f q : Int} {c : CD} (hn : n ≤ 1600) (h : ¬ f = 0) : gPart6 g (n : Int) al (n : Int) (n : Int) (0 : Int) c.2 c.1 f q = ap5 (cst g n (.inl (f, q))) c := by
  unfold gPart6
  rw [if_neg (show ¬ (0 : Int) = 2 from by decide), lf_b_e, cl_seen, if_pos rfl, (F_X5_takeWord_s17_t hn).2]
  rw [lf4_e, if_pos rfl, (F_X5_takeWord_s18_t hn).2, lf4_e, if_pos rfl, lf_b_e, cl_w_19, if_neg (show ¬ (0 : Int) = 1 from by decide), if_pos rfl, cl_pw0 h]
  split
  · rfl
  · rfl
theorem gPart_m {g : Nat → Int} {n : Nat} {al : Int} {X Y : XF} {S P : Nat → CD → ST × CD} (hn : n ≤ 1600) (hX : meets g n X S) (hS : okR n S) (hY : meets g n Y P) : meets g n (gPart g (n : Int) al X Y) (sp_partD g n al true S P) := by
  intro s c hv
  cases s with
  | inl q => exact ⟨c, gPart_0 hn hv, fun q r => by cases r⟩
  | inr p =>
    show tellC g n (gPart g (n : Int) al X Y (tx_a g n p : Int) (tx_e g n p : Int) (tx_k g n p : Int) c.2 c.1 (0 : Int) (-1 : Int)) (sp_partD g n al true S P p c)
    unfold gPart sp_partD
    by_cases q0 : tx_k g n p = 2
    · rw [if_pos (by omega), if_pos q0, F_X5_number_a0_0_a1_9999_g, gN_1 hn hv]
      exact ⟨em c (sp_num g n 0 9999 p).1, rfl, fun _ _ => rfl⟩
    · rw [if_neg (by omega), if_neg q0, lf_b_e]
      by_cases q1 : tsn g n 40 p
      · rw [cl_see1 q1, if_neg (show ¬ (1 : Int) = 0 from by decide), if_pos (show tx_k g n p = 3 ∧ g (tx_a g n p) = 40 from q1)]
        rw [opn_t, gEnt_1 hn hv, lf4_e]
        have hv1 := hS (tx_e g n p) c (tx_e_le hv)
        obtain ⟨d1, e1, e2⟩ := hX (.inr (tx_e g n p)) c (tx_e_le hv)
        have e3 : X (tx_a g n (tx_e g n p) : Int) (tx_e g n (tx_e g n p) : Int) (tx_k g n (tx_e g n p) : Int) c.2 c.1 (0 : Int) (-1 : Int) = ap5 (cst g n (S (tx_e g n p) c).1) d1 := e1
        have e4 : ∀ q, (S (tx_e g n p) c).1 = .inr q → d1 = (S (tx_e g n p) c).2 := e2
        rw [e3]
        generalize S (tx_e g n p) c = r1 at hv1 e4
        rw [lf7_e, cl_need_s hn hv1.1, lf5_e]
        refine ⟨d1, rfl, fun q r => ?_⟩
        cases e : r1.1 with
        | inl q0 =>
          have r' : sb r1.1 (sp_need g n 41) = .inr q := r
          rw [e] at r'
          cases r'
        | inr p3 => exact e4 p3 e
      · rw [cl_see0 q1, if_pos rfl, if_neg (show ¬ (tx_k g n p = 3 ∧ g (tx_a g n p) = 40) from q1)]
        by_cases q2 : wl g n ws_17 p = -1
        · rw [tw_1 (F_X5_takeWord_s17_t hn) hv q2, if_neg (fun r => r q2)]
          rw [lf4_e, if_pos rfl]
          by_cases q3 : wl g n ws_18 p = -1
          · rw [tw_1 (F_X5_takeWord_s18_t hn) hv q3, if_neg (fun r => r q3)]
            rw [lf4_e, if_pos rfl, lf_b_e, cl_w_19, wl_c]
            by_cases q4 : al = 3707
            · rw [if_pos q4]
              by_cases q5 : wl g n ws_19 p = -1
              · rw [if_pos q5, if_neg (fun r => r.2 q5)]
                exact cl_pw1 hn hv
              · rw [if_neg q5, if_pos ⟨q4, q5⟩]
                rw [opn_t, gEnt_1 hn hv, lf4_e]
                obtain ⟨d1, e1, e2⟩ := hY (.inr (tx_e g n p)) c (tx_e_le hv)
                have e3 : Y (tx_a g n (tx_e g n p) : Int) (tx_e g n (tx_e g n p) : Int) (tx_k g n (tx_e g n p) : Int) c.2 c.1 (0 : Int) (-1 : Int) = ap5 (cst g n (P (tx_e g n p) c).1) d1 := e1
                have e4 : ∀ q, (P (tx_e g n p) c).1 = .inr q → d1 = (P (tx_e g n p) c).2 := e2
                rw [e3]
                exact ⟨em d1 (-32), rfl, fun q r => by rw [e4 q r]⟩
            · rw [if_neg q4, if_neg (fun r => q4 r.1)]
              exact cl_pw1 hn hv
          · rw [tw_2 (F_X5_takeWord_s18_t hn) hv q3, if_pos q3]
            rw [lf4_e, if_neg (show ¬ (1 : Int) = 0 from by decide), lf7_t]
            exact gPair_1 hn (tx_e_le hv) hX hS
        · rw [tw_2 (F_X5_takeWord_s17_t hn) hv q2, if_pos q2]
          rw [lf4_e, if_neg (show ¬ (1 : Int) = 0 from by decide), lf7_t]
          exact gPair_1 hn (tx_e_le hv) hX hS
theorem gPair6_1 {g : Nat → Int} {n p : Nat} {S : Nat → CD → ST × CD} {op : Int} {c : CD} : tellC g n (lf_p (gPair6 g (tx_a g n p : Int) (tx_k g n p : Int) (0 : Int) (-1 : Int)) (fun x y => tup7 (n : Int) (n : Int) (0 : Int) x y c.1 c.2)) (sp_pair g n false S op p c) := by
  unfold gPair6 gE6 sp_pair
  rw [lf_b_e, cl_fail0, cl_fail0]
  by_cases q : tsn g n 40 p
  · rw [cl_see1 q, if_neg (show ¬ (1 : Int) = 0 from by decide), if_pos (show tx_k g n p = 3 ∧ g (tx_a g n p) = 40 from q), opn_f]
    exact ⟨c, rfl, fun q r => by cases r⟩
  · rw [cl_see0 q, if_pos rfl, if_neg (show ¬ (tx_k g n p = 3 ∧ g (tx_a g n p) = 40) from q)]
    exact ⟨c, rfl, fun q r => by cases r⟩
theorem gPart6_m {g : Nat → Int} {n : Nat} {al : Int} {S P : Nat → CD → ST × CD} (hn : n ≤ 1600) : meets g n (gPart6 g (n : Int) al) (sp_partD g n al false S P) := by
  intro s c hv
  cases s with
  | inl q => exact ⟨c, gPart6_0 hn hv, fun q r => by cases r⟩
  | inr p =>
    show tellC g n (gPart6 g (n : Int) al (tx_a g n p : Int) (tx_e g n p : Int) (tx_k g n p : Int) c.2 c.1 (0 : Int) (-1 : Int)) (sp_partD g n al false S P p c)
    unfold gPart6 sp_partD
    by_cases q0 : tx_k g n p = 2
    · rw [if_pos (by omega), if_pos q0, F_X5_number_a0_0_a1_9999_g, gN_1 hn hv]
      exact ⟨em c (sp_num g n 0 9999 p).1, rfl, fun _ _ => rfl⟩
    · rw [if_neg (by omega), if_neg q0, lf_b_e]
      by_cases q1 : tsn g n 40 p
      · rw [cl_see1 q1, if_neg (show ¬ (1 : Int) = 0 from by decide), if_pos (show tx_k g n p = 3 ∧ g (tx_a g n p) = 40 from q1)]
        unfold gE6
        rw [opn_f, cl_fail0]
        exact ⟨c, rfl, fun q r => by cases r⟩
      · rw [cl_see0 q1, if_pos rfl, if_neg (show ¬ (tx_k g n p = 3 ∧ g (tx_a g n p) = 40) from q1)]
        by_cases q2 : wl g n ws_17 p = -1
        · rw [tw_1 (F_X5_takeWord_s17_t hn) hv q2, if_neg (fun r => r q2)]
          rw [lf4_e, if_pos rfl]
          by_cases q3 : wl g n ws_18 p = -1
          · rw [tw_1 (F_X5_takeWord_s18_t hn) hv q3, if_neg (fun r => r q3)]
            rw [lf4_e, if_pos rfl, lf_b_e, cl_w_19, wl_c]
            by_cases q4 : al = 3707
            · rw [if_pos q4]
              by_cases q5 : wl g n ws_19 p = -1
              · rw [if_pos q5, if_neg (fun r => r.2 q5)]
                exact cl_pw1 hn hv
              · rw [if_neg q5, if_pos ⟨q4, q5⟩]
                unfold gE6
                rw [opn_f, cl_fail0]
                exact ⟨c, rfl, fun q r => by cases r⟩
            · rw [if_neg q4, if_neg (fun r => q4 r.1)]
              exact cl_pw1 hn hv
          · rw [tw_2 (F_X5_takeWord_s18_t hn) hv q3, if_pos q3]
            rw [lf4_e, if_neg (show ¬ (1 : Int) = 0 from by decide)]
            exact gPair6_1
        · rw [tw_2 (F_X5_takeWord_s17_t hn) hv q2, if_pos q2]
          rw [lf4_e, if_neg (show ¬ (1 : Int) = 0 from by decide)]
          exact gPair6_1
end
section
/-! 29f -/
/-! facts -/
def lf3 {α : Type} (o : Int × Int × Int) (k : Int → Int → Int → α) : α := lf_p o (fun a t => lf_p t (fun b d => k a b d))
def lf6 {α : Type} (o : Int × Int × Int × Int × Int × Int) (k : Int → Int → Int → Int → Int → Int → α) : α := lf_p o (fun r t => lf5 t (fun a b d f q => k r a b d f q))
theorem lf3_e {α : Type} (a b d : Int) (k : Int → Int → Int → α) : lf3 (a, b, d) k = k a b d := rfl
theorem lf6_e {α : Type} (r a b d f q : Int) (k : Int → Int → Int → Int → Int → Int → α) : lf6 (r, a, b, d, f, q) k = k r a b d f q := rfl
/-- a sign that compares, taken -/
def sp_sg (g : Nat → Int) (n p : Nat) : Int × ST := if tx_k g n p = 3 ∧ g (tx_a g n p) = 60 then (-26, .inr (tx_e g n p)) else if tx_k g n p = 3 ∧ g (tx_a g n p) = 62 then (-27, .inr (tx_e g n p)) else if tx_k g n p = 3 ∧ g (tx_a g n p) = 61 then (-28, .inr (tx_e g n p)) else (-28, .inl (1, (tx_a g n p : Int)))
def gSg {α : Type} (g : Nat → Int) (n a b d f q : Int) (k : Int → Int → Int → Int → Int → Int → α) : α := lf6 (F_X5_signHere g n a b d f q) (fun r a3 b3 d3 f3 q3 => (lf3 (F_X5_moveTo g n b3) (fun a4 b4 d4 => k r a4 b4 d4 f3 q3)))
theorem gSg_s {α : Type} {g : Nat → Int} {n : Nat} {s : ST} {k : Int → Int → Int → Int → Int → Int → α} (hn : n ≤ 1600) (hv : sv n s) : gSg g (n : Int) (cst g n s).1 (cst g n s).2.1 (cst g n s).2.2.1 (cst g n s).2.2.2.1 (cst g n s).2.2.2.2 k = k (sbv s (sp_sg g n) (-28)).1 (cst g n (sbv s (sp_sg g n) (-28)).2).1 (cst g n (sbv s (sp_sg g n) (-28)).2).2.1 (cst g n (sbv s (sp_sg g n) (-28)).2).2.2.1 (cst g n (sbv s (sp_sg g n) (-28)).2).2.2.2.1 (cst g n (sbv s (sp_sg g n) (-28)).2).2.2.2.2 := by
  unfold gSg F_X5_signHere F_X5_signHere_42
  cases s with
  | inl q =>
    show lf6 (lf_b (F_X5_sees g (n : Int) (0 : Int) (60 : Int)) _) _ = _
    rw [lf_b_e, cl_seen, if_pos rfl, lf_b_e]
    show lf6 (if F_X5_sees g (n : Int) (0 : Int) (62 : Int) = (0 : Int) then _ else _) _ = _
    rw [cl_seen, if_pos rfl, lf_b_e]
    show lf6 (if F_X5_sees g (n : Int) (0 : Int) (61 : Int) = (0 : Int) then (lf_p (F_X5_fail q.1 q.2 (1 : Int) (n : Int)) _) else _) _ = _
    rw [cl_seen, if_pos rfl, cl_fail1 hv, lf_p_e, lf6_e, cl_mvn hn, lf3_e]
    rfl
  | inr p =>
    show lf6 (lf_b (F_X5_sees g (tx_a g n p : Int) (tx_k g n p : Int) (60 : Int)) _) _ = k (sp_sg g n p).1 (cst g n (sp_sg g n p).2).1 (cst g n (sp_sg g n p).2).2.1 (cst g n (sp_sg g n p).2).2.2.1 (cst g n (sp_sg g n p).2).2.2.2.1 (cst g n (sp_sg g n p).2).2.2.2.2
    unfold sp_sg
    rw [lf_b_e]
    by_cases q1 : tsn g n 60 p
    · rw [cl_see1 q1, if_neg (show ¬ (1 : Int) = 0 from by decide), if_pos (show tx_k g n p = 3 ∧ g (tx_a g n p) = 60 from q1), lf6_e]
      show lf3 (F_X5_moveTo g (n : Int) (tx_e g n p : Int)) _ = _
      rw [cl_mve hn hv, lf3_e]
      rfl
    · rw [cl_see0 q1, if_pos rfl, if_neg (show ¬ (tx_k g n p = 3 ∧ g (tx_a g n p) = 60) from q1), lf_b_e]
      show lf6 (if F_X5_sees g (tx_a g n p : Int) (tx_k g n p : Int) (62 : Int) = (0 : Int) then _ else _) _ = _
      by_cases q2 : tsn g n 62 p
      · rw [cl_see1 q2, if_neg (show ¬ (1 : Int) = 0 from by decide), if_pos (show tx_k g n p = 3 ∧ g (tx_a g n p) = 62 from q2), lf6_e]
        show lf3 (F_X5_moveTo g (n : Int) (tx_e g n p : Int)) _ = _
        rw [cl_mve hn hv, lf3_e]
        rfl
      · rw [cl_see0 q2, if_pos rfl, if_neg (show ¬ (tx_k g n p = 3 ∧ g (tx_a g n p) = 62) from q2), lf_b_e]
        show lf6 (if F_X5_sees g (tx_a g n p : Int) (tx_k g n p : Int) (61 : Int) = (0 : Int) then (lf_p (F_X5_fail (0 : Int) (-1 : Int) (1 : Int) (tx_a g n p : Int)) _) else _) _ = _
        by_cases q3 : tsn g n 61 p
        · rw [cl_see1 q3, if_neg (show ¬ (1 : Int) = 0 from by decide), if_pos (show tx_k g n p = 3 ∧ g (tx_a g n p) = 61 from q3), lf6_e]
          show lf3 (F_X5_moveTo g (n : Int) (tx_e g n p : Int)) _ = _
          rw [cl_mve hn hv, lf3_e]
          rfl
        · rw [cl_see0 q3, if_pos rfl, if_neg (show ¬ (tx_k g n p = 3 ∧ g (tx_a g n p) = 61) from q3), cl_fail0, lf_p_e, lf6_e, cl_mvn hn, lf3_e]
          rfl
theorem sp_sg_v {g : Nat → Int} {n p : Nat} (hp : p ≤ n) : sv n (sp_sg g n p).2 := by
  unfold sp_sg
  split
  · exact tx_e_le hp
  · split
    · exact tx_e_le hp
    · split
      · exact tx_e_le hp
      · exact sv_l (by decide)
theorem sp_sg_gt {g : Nat → Int} {n p q : Nat} (h : (sp_sg g n p).2 = .inr q) : p < q := by
  unfold sp_sg at h
  split at h
  · rename_i r
    cases h
    exact tx_e_gt' (by have := r.1; omega)
  · split at h
    · rename_i r
      cases h
      exact tx_e_gt' (by have := r.1; omega)
    · split at h
      · rename_i r
        cases h
        exact tx_e_gt' (by have := r.1; omega)
      · cases h
def gCmp (g : Nat → Int) (n : Int) (S : XF) : XF := fun a b d cd sz fa pl => (lf7 (S a b d cd sz fa pl) (fun a2 b2 d2 f2 q2 z2 w2 => (gSg g n a2 b2 d2 f2 q2 (fun r a4 b4 d4 f3 q3 => (lf7 (S a4 b4 d4 w2 z2 f3 q3) (fun a5 b5 d5 f5 q5 z5 w5 => (lf_p (F_X5_emit w5 z5 r) (fun z6 w6 => tup7 a5 b5 d5 f5 q5 z6 w6))))))))
def spCmp (g : Nat → Int) (n : Nat) (S : Nat → CD → ST × CD) (p : Nat) (c : CD) : ST × CD := ((sbC (sbv (S p c).1 (sp_sg g n) (-28)).2 (S p c).2 S).1, em (sbC (sbv (S p c).1 (sp_sg g n) (-28)).2 (S p c).2 S).2 (sbv (S p c).1 (sp_sg g n) (-28)).1)
theorem cmp_ok {g : Nat → Int} {n : Nat} {S : Nat → CD → ST × CD} (h : okR n S) : okR n (spCmp g n S) := by
  intro p c hp
  have h1 := h p c hp
  unfold spCmp
  show sv n (sbC (sbv (S p c).1 (sp_sg g n) (-28)).2 (S p c).2 S).1 ∧ ∀ q, (sbC (sbv (S p c).1 (sp_sg g n) (-28)).2 (S p c).2 S).1 = .inr q → p < q
  cases e1 : (S p c).1 with
  | inl q0 =>
    rw [e1] at h1
    exact ⟨h1.1, fun q r => by cases r⟩
  | inr p1 =>
    rw [e1] at h1
    have l1 := h1.2 p1 rfl
    show sv n (sbC (sp_sg g n p1).2 (S p c).2 S).1 ∧ ∀ q, (sbC (sp_sg g n p1).2 (S p c).2 S).1 = .inr q → p < q
    have h2 := sp_sg_v (g := g) h1.1
    cases e2 : (sp_sg g n p1).2 with
    | inl q0 =>
      rw [e2] at h2
      exact ⟨h2, fun q r => by cases r⟩
    | inr p2 =>
      rw [e2] at h2
      have l2 := sp_sg_gt e2
      have h3 := h p2 (S p c).2 h2
      exact ⟨h3.1, fun q r => by have := h3.2 q r; omega⟩
theorem gCmp_m {g : Nat → Int} {n : Nat} {X : XF} {S : Nat → CD → ST × CD} (hn : n ≤ 1600) (hX : meets g n X S) (hS : okR n S) : meets g n (gCmp g (n : Int) X) (spCmp g n S) := by
  have key : ∀ (s : ST) (c : CD) (r1 : ST × CD) (d1 : CD), sv n r1.1 → (∀ q, r1.1 = .inr q → d1 = r1.2) → tellC g n (gSg g (n : Int) (cst g n r1.1).1 (cst g n r1.1).2.1 (cst g n r1.1).2.2.1 (cst g n r1.1).2.2.2.1 (cst g n r1.1).2.2.2.2 (fun r a4 b4 d4 f3 q3 => (lf7 (X a4 b4 d4 d1.2 d1.1 f3 q3) (fun a5 b5 d5 f5 q5 z5 w5 => (lf_p (F_X5_emit w5 z5 r) (fun z6 w6 => tup7 a5 b5 d5 f5 q5 z6 w6)))))) ((sbC (sbv r1.1 (sp_sg g n) (-28)).2 r1.2 S).1, em (sbC (sbv r1.1 (sp_sg g n) (-28)).2 r1.2 S).2 (sbv r1.1 (sp_sg g n) (-28)).1) := by
    intro s c r1 d1 hv he
    rw [gSg_s hn hv]
    have hv2 : sv n (sbv r1.1 (sp_sg g n) (-28)).2 := sbv_v hv (fun _ hp => sp_sg_v hp)
    obtain ⟨d2, e5, e6⟩ := run_sub hX (c := d1) (c' := r1.2) hv2 (fun q r => by
      cases e : r1.1 with
      | inl q0 => rw [e] at r; cases r
      | inr p1 => exact he p1 e)
    show tellC g n (lf7 (runX g n X (sbv r1.1 (sp_sg g n) (-28)).2 d1) _) _
    rw [e5]
    rw [lf7_e]
    exact ⟨em d2 (sbv r1.1 (sp_sg g n) (-28)).1, rfl, fun q r => by rw [e6 q r]⟩
  intro s c hv
  obtain ⟨d1, e1, e2⟩ := hX s c hv
  unfold runX gCmp
  unfold runX at e1
  rw [e1, lf7_e]
  cases s with
  | inl q =>
    obtain ⟨d, e3, e4⟩ := key (.inl q) c (.inl q, c) d1 hv (fun q r => by cases r)
    exact ⟨d, e3, fun q r => by cases r⟩
  | inr p => exact key (.inr p) c (S p c) d1 (hS p c hv).1 e2
def gFact (g : Nat → Int) (n : Int) (S T Fq : XF) : XF := fun xa be so cd sz fa pl => lf_b (F_X5_wordIn_s15 g xa be so) (fun r1 => (if r1 = (-1 : Int) then (lf_b (F_X5_sees g xa so (91 : Int)) (fun r2 => (if r2 = (0 : Int) then (lf4 (F_X5_takeWord_s16 g n xa be so) (fun r3 a b d => (if r3 = (0 : Int) then gCmp g n S a b d cd sz fa pl else (lf_p (F_X5_emit cd sz (1 : Int)) (fun z w => tup7 a b d fa pl z w))))) else (lf4 (gEnt g n be) (fun _ a b d => (lf7 (T a b d cd sz fa pl) (fun a2 b2 d2 f2 q2 z2 w2 => (lf5 (F_X5_need g n a2 b2 d2 f2 q2 (93 : Int)) (fun a3 b3 d3 f3 q3 => tup7 a3 b3 d3 f3 q3 z2 w2))))))))) else (lf4 (gEnt g n be) (fun _ a b d => (lf7 (Fq a b d cd sz fa pl) (fun a2 b2 d2 f2 q2 z2 w2 => (lf_p (F_X5_emit w2 z2 (-31 : Int)) (fun z3 w3 => tup7 a2 b2 d2 f2 q2 z3 w3))))))))
def gFact6 (g : Nat → Int) (n : Int) (S : XF) : XF := fun xa be so cd sz fa pl => lf_b (F_X5_wordIn_s15 g xa be so) (fun r1 => (if r1 = (-1 : Int) then (lf_b (F_X5_sees g xa so (91 : Int)) (fun r2 => (if r2 = (0 : Int) then (lf4 (F_X5_takeWord_s16 g n xa be so) (fun r3 a b d => (if r3 = (0 : Int) then gCmp g n S a b d cd sz fa pl else (lf_p (F_X5_emit cd sz (1 : Int)) (fun z w => tup7 a b d fa pl z w))))) else (lf_p (gE6 xa fa pl) (fun _ t => (lf_p t (fun x y => tup7 n n (0 : Int) x y sz cd))))))) else (lf_p (gE6 xa fa pl) (fun _ t => (lf_p t (fun x y => tup7 n n (0 : Int) x y sz cd))))))
def sp_factD (g : Nat → Int) (n : Nat) (b : Bool) (S T Fq : Nat → CD → ST × CD) (p : Nat) (c : CD) : ST × CD := if ¬ wl g n ws_15 p = -1 then opn g n b p c (fun p1 c => ((Fq p1 c).1, em (Fq p1 c).2 (-31))) else if tx_k g n p = 3 ∧ g (tx_a g n p) = 91 then opn g n b p c (fun p1 c => (sb (T p1 c).1 (sp_need g n 93), (T p1 c).2)) else if ¬ wl g n ws_16 p = -1 then (.inr (tx_e g n p), em c 1) else spCmp g n S p c
theorem fact_ok {g : Nat → Int} {n : Nat} {b : Bool} {S T Fq : Nat → CD → ST × CD} (hS : okR n S) (hT : okR n T) (hF : okR n Fq) : okR n (sp_factD g n b S T Fq) := by
  intro p c hp
  unfold sp_factD
  split
  · rename_i r
    have hlt : p < tx_e g n p := tx_e_gt' (by have := wl_k r; omega)
    unfold opn
    split
    · dsimp only
      have h1 := hF (tx_e g n p) c (tx_e_le hp)
      exact ⟨h1.1, fun q r => by have := h1.2 q r; omega⟩
    · exact ⟨sv_l (by decide), fun q r => by cases r⟩
  · split
    · rename_i r
      have hlt : p < tx_e g n p := tx_e_gt' (by have := r.1; omega)
      unfold opn
      split
      · dsimp only
        have h1 := hT (tx_e g n p) c (tx_e_le hp)
        cases e1 : (T (tx_e g n p) c).1 with
        | inl q0 =>
          rw [e1] at h1
          exact ⟨h1.1, fun q r => by cases r⟩
        | inr p1 =>
          rw [e1] at h1
          have l1 := h1.2 p1 rfl
          exact ⟨sp_need_v 93 h1.1, fun q r => by have := sp_need_gt (show sp_need g n 93 p1 = .inr q from r); omega⟩
      · exact ⟨sv_l (by decide), fun q r => by cases r⟩
    · split
      · rename_i r
        refine ⟨tx_e_le hp, fun q e => ?_⟩
        cases e
        exact tx_e_gt' (by have := wl_k r; omega)
      · exact cmp_ok hS p c hp
/-- the way of a fact without a bracket or 'not' -/
theorem fact_rest {g : Nat → Int} {n p : Nat} {X : XF} {S : Nat → CD → ST × CD} {c : CD} (hn : n ≤ 1600) (hp : p ≤ n) (hX : meets g n X S) (hS : okR n S) : tellC g n (lf4 (F_X5_takeWord_s16 g (n : Int) (tx_a g n p : Int) (tx_e g n p : Int) (tx_k g n p : Int)) (fun r3 a b d => (if r3 = (0 : Int) then gCmp g (n : Int) X a b d c.2 c.1 (0 : Int) (-1 : Int) else (lf_p (F_X5_emit c.2 c.1 (1 : Int)) (fun z w => tup7 a b d (0 : Int) (-1 : Int) z w))))) (if ¬ wl g n ws_16 p = -1 then (.inr (tx_e g n p), em c 1) else spCmp g n S p c) := by
  by_cases q : wl g n ws_16 p = -1
  · rw [tw_1 (F_X5_takeWord_s16_t hn) hp q, if_neg (fun r => r q), lf4_e, if_pos rfl]
    exact gCmp_m hn hX hS (.inr p) c hp
  · rw [tw_2 (F_X5_takeWord_s16_t hn) hp q, if_pos q, lf4_e, if_neg (show ¬ (1 : Int) = 0 from by decide)]
    exact ⟨em c 1, rfl, fun _ _ => rfl⟩
theorem fact_rest0 {g : Nat → Int} {n : Nat} {X : XF} {S : Nat → CD → ST × CD} {c : CD} {q : Int × Int} (hn : n ≤ 1600) (h : ¬ q.1 = 0) (hX : meets g n X S) (hS : okR n S) : tellC g n (lf4 (F_X5_takeWord_s16 g (n : Int) (n : Int) (n : Int) (0 : Int)) (fun r3 a b d => (if r3 = (0 : Int) then gCmp g (n : Int) X a b d c.2 c.1 q.1 q.2 else (lf_p (F_X5_emit c.2 c.1 (1 : Int)) (fun z w => tup7 a b d q.1 q.2 z w))))) (.inl q, c) := by
  rw [(F_X5_takeWord_s16_t hn).2, lf4_e, if_pos rfl]
  exact gCmp_m hn hX hS (.inl q) c h
theorem gFact_m {g : Nat → Int} {n : Nat} {X Y Z : XF} {S T Fq : Nat → CD → ST × CD} (hn : n ≤ 1600) (hX : meets g n X S) (hS : okR n S) (hY : meets g n Y T) (hT : okR n T) (hZ : meets g n Z Fq) : meets g n (gFact g (n : Int) X Y Z) (sp_factD g n true S T Fq) := by
  intro s c hv
  cases s with
  | inl q =>
    show tellC g n (gFact g (n : Int) X Y Z (n : Int) (n : Int) (0 : Int) c.2 c.1 q.1 q.2) (.inl q, c)
    unfold gFact
    rw [lf_b_e, cl_w_15, if_neg (show ¬ (0 : Int) = 1 from by decide), if_pos rfl, lf_b_e, cl_seen, if_pos rfl]
    exact fact_rest0 hn hv hX hS
  | inr p =>
    show tellC g n (gFact g (n : Int) X Y Z (tx_a g n p : Int) (tx_e g n p : Int) (tx_k g n p : Int) c.2 c.1 (0 : Int) (-1 : Int)) (sp_factD g n true S T Fq p c)
    unfold gFact sp_factD
    rw [lf_b_e, cl_w_15, wl_c]
    by_cases q0 : wl g n ws_15 p = -1
    · rw [if_pos q0, if_neg (fun r => r q0), lf_b_e]
      by_cases q1 : tsn g n 91 p
      · rw [cl_see1 q1, if_neg (show ¬ (1 : Int) = 0 from by decide), if_pos (show tx_k g n p = 3 ∧ g (tx_a g n p) = 91 from q1)]
        rw [opn_t, gEnt_1 hn hv, lf4_e]
        have hv1 := hT (tx_e g n p) c (tx_e_le hv)
        obtain ⟨d1, e1, e2⟩ := hY (.inr (tx_e g n p)) c (tx_e_le hv)
        have e3 : Y (tx_a g n (tx_e g n p) : Int) (tx_e g n (tx_e g n p) : Int) (tx_k g n (tx_e g n p) : Int) c.2 c.1 (0 : Int) (-1 : Int) = ap5 (cst g n (T (tx_e g n p) c).1) d1 := e1
        have e4 : ∀ q, (T (tx_e g n p) c).1 = .inr q → d1 = (T (tx_e g n p) c).2 := e2
        rw [e3]
        generalize T (tx_e g n p) c = r1 at hv1 e4
        rw [lf7_e, cl_need_s hn hv1.1, lf5_e]
        refine ⟨d1, rfl, fun q r => ?_⟩
        cases e : r1.1 with
        | inl q0 =>
          have r' : sb r1.1 (sp_need g n 93) = .inr q := r
          rw [e] at r'
          cases r'
        | inr p3 => exact e4 p3 e
      · rw [cl_see0 q1, if_pos rfl, if_neg (show ¬ (tx_k g n p = 3 ∧ g (tx_a g n p) = 91) from q1)]
        exact fact_rest hn hv hX hS
    · rw [if_neg q0, if_pos q0]
      rw [opn_t, gEnt_1 hn hv, lf4_e]
      obtain ⟨d1, e1, e2⟩ := hZ (.inr (tx_e g n p)) c (tx_e_le hv)
      have e3 : Z (tx_a g n (tx_e g n p) : Int) (tx_e g n (tx_e g n p) : Int) (tx_k g n (tx_e g n p) : Int) c.2 c.1 (0 : Int) (-1 : Int) = ap5 (cst g n (Fq (tx_e g n p) c).1) d1 := e1
      have e4 : ∀ q, (Fq (tx_e g n p) c).1 = .inr q → d1 = (Fq (tx_e g n p) c).2 := e2
      rw [e3]
      exact ⟨em d1 (-31), rfl, fun q r => by rw [e4 q r]⟩
theorem gFact6_m {g : Nat → Int} {n : Nat} {X : XF} {S T Fq : Nat → CD → ST × CD} (hn : n ≤ 1600) (hX : meets g n X S) (hS : okR n S) : meets g n (gFact6 g (n : Int) X) (sp_factD g n false S T Fq) := by
  intro s c hv
  cases s with
  | inl q =>
    show tellC g n (gFact6 g (n : Int) X (n : Int) (n : Int) (0 : Int) c.2 c.1 q.1 q.2) (.inl q, c)
    unfold gFact6
    rw [lf_b_e, cl_w_15, if_neg (show ¬ (0 : Int) = 1 from by decide), if_pos rfl, lf_b_e, cl_seen, if_pos rfl]
    exact fact_rest0 hn hv hX hS
  | inr p =>
    show tellC g n (gFact6 g (n : Int) X (tx_a g n p : Int) (tx_e g n p : Int) (tx_k g n p : Int) c.2 c.1 (0 : Int) (-1 : Int)) (sp_factD g n false S T Fq p c)
    unfold gFact6 gE6 sp_factD
    rw [lf_b_e, cl_w_15, wl_c, cl_fail0]
    by_cases q0 : wl g n ws_15 p = -1
    · rw [if_pos q0, if_neg (fun r => r q0), lf_b_e]
      by_cases q1 : tsn g n 91 p
      · rw [cl_see1 q1, if_neg (show ¬ (1 : Int) = 0 from by decide), if_pos (show tx_k g n p = 3 ∧ g (tx_a g n p) = 91 from q1)]
        rw [opn_f]
        exact ⟨c, rfl, fun q r => by cases r⟩
      · rw [cl_see0 q1, if_pos rfl, if_neg (show ¬ (tx_k g n p = 3 ∧ g (tx_a g n p) = 91) from q1)]
        exact fact_rest hn hv hX hS
    · rw [if_neg q0, if_pos q0]
      rw [opn_f]
      exact ⟨c, rfl, fun q r => by cases r⟩
end
section
/-! 29g -/
/-! the levels: how many more may open -/
def dmR : Nat → CD → ST × CD := fun _ c => (.inl (4, 0), c)
theorem dmR_ok {n : Nat} : okR n dmR := fun p c hp => ⟨sv_l (by decide), fun q r => by cases r⟩
def sPrO (g : Nat → Int) (n : Nat) (sp : Nat → CD → ST × CD) : Nat → CD → ST × CD := spL g n sp 42 47 (-22) (-23)
def sSuO (g : Nat → Int) (n : Nat) (sp : Nat → CD → ST × CD) : Nat → CD → ST × CD := spL g n (sPrO g n sp) 43 45 (-20) (-21)
def sPart (g : Nat → Int) (n : Nat) (al : Int) : Nat → Nat → CD → ST × CD
  | 0 => sp_partD g n al false dmR dmR
  | d + 1 => sp_partD g n al true (sSuO g n (sPart g n al d)) (sPart g n al d)
theorem sPrO_ok {g : Nat → Int} {n : Nat} {sp : Nat → CD → ST × CD} (h : okR n sp) : okR n (sPrO g n sp) := spL_ok h
theorem sSuO_ok {g : Nat → Int} {n : Nat} {sp : Nat → CD → ST × CD} (h : okR n sp) : okR n (sSuO g n sp) := spL_ok (sPrO_ok h)
theorem sPart_ok {g : Nat → Int} {n : Nat} {al : Int} : ∀ d, okR n (sPart g n al d)
  | 0 => part_ok dmR_ok dmR_ok
  | d + 1 => part_ok (sSuO_ok (sPart_ok d)) (sPart_ok d)
def sSum (g : Nat → Int) (n : Nat) (al : Int) (d : Nat) : Nat → CD → ST × CD := sSuO g n (sPart g n al d)
theorem sSum_ok {g : Nat → Int} {n : Nat} {al : Int} (d : Nat) : okR n (sSum g n al d) := sSuO_ok (sPart_ok d)
def sBoO (g : Nat → Int) (n : Nat) (sp : Nat → CD → ST × CD) : Nat → CD → ST × CD := spV g n sp ws_14 (-29)
def sTeO (g : Nat → Int) (n : Nat) (sp : Nat → CD → ST × CD) : Nat → CD → ST × CD := spV g n (sBoO g n sp) ws_13 (-30)
def sFact (g : Nat → Int) (n : Nat) (al : Int) : Nat → Nat → CD → ST × CD
  | 0 => sp_factD g n false (sSum g n al 0) dmR dmR
  | d + 1 => sp_factD g n true (sSum g n al (d + 1)) (sTeO g n (sFact g n al d)) (sFact g n al d)
theorem sTeO_ok {g : Nat → Int} {n : Nat} {sp : Nat → CD → ST × CD} (h : okR n sp) : okR n (sTeO g n sp) := spV_ok (spV_ok h)
theorem sFact_ok {g : Nat → Int} {n : Nat} {al : Int} : ∀ d, okR n (sFact g n al d)
  | 0 => fact_ok (sSum_ok 0) dmR_ok dmR_ok
  | d + 1 => fact_ok (sSum_ok (d + 1)) (sTeO_ok (sFact_ok d)) (sFact_ok d)
def sTest (g : Nat → Int) (n : Nat) (al : Int) (d : Nat) : Nat → CD → ST × CD := sTeO g n (sFact g n al d)
theorem sTest_ok {g : Nat → Int} {n : Nat} {al : Int} (d : Nat) : okR n (sTest g n al d) := sTeO_ok (sFact_ok d)
theorem pa_6 {g : Nat → Int} {n : Nat} {al : Int} (hn : n ≤ 1600) : meets g n (fun a b d cd sz fa pl => F_X5_part_a0_6 g (n : Int) a b d al cd sz fa pl) (sPart g n al 0) := gPart6_m hn
theorem prl_6 (g : Nat → Int) (n : Nat) (al : Int) : ∀ m : Nat, F_X5_product_a0_6_7 g (n : Int) al m = gl g (n : Int) (fun a b d cd sz fa pl => F_X5_part_a0_6 g (n : Int) a b d al cd sz fa pl) 42 47 (-22) (-23) m
  | 0 => rfl
  | m + 1 => by
    show F_X5_product_a0_6_7b g (n : Int) al (F_X5_product_a0_6_7 g (n : Int) al m) = gl_b g (n : Int) (fun a b d cd sz fa pl => F_X5_part_a0_6 g (n : Int) a b d al cd sz fa pl) 42 47 (-22) (-23) (gl g (n : Int) (fun a b d cd sz fa pl => F_X5_part_a0_6 g (n : Int) a b d al cd sz fa pl) 42 47 (-22) (-23) m)
    rw [prl_6 g n al m]
    rfl
theorem pr_6 {g : Nat → Int} {n : Nat} {al : Int} (hn : n ≤ 1600) : meets g n (fun a b d cd sz fa pl => F_X5_product_a0_6 g (n : Int) a b d al cd sz fa pl) (sPrO g n (sPart g n al 0)) := by
  have e : (fun a b d cd sz fa pl => F_X5_product_a0_6 g (n : Int) a b d al cd sz fa pl) = gL g (n : Int) (fun a b d cd sz fa pl => F_X5_part_a0_6 g (n : Int) a b d al cd sz fa pl) 42 47 (-22) (-23) := by
    funext a b d cd sz fa pl
    unfold F_X5_product_a0_6
    rw [prl_6]
    rfl
  rw [e]
  exact gL_m hn (pa_6 hn) (sPart_ok 0)
theorem sul_6 (g : Nat → Int) (n : Nat) (al : Int) : ∀ m : Nat, F_X5_sum_a0_6_7 g (n : Int) al m = gl g (n : Int) (fun a b d cd sz fa pl => F_X5_product_a0_6 g (n : Int) a b d al cd sz fa pl) 43 45 (-20) (-21) m
  | 0 => rfl
  | m + 1 => by
    show F_X5_sum_a0_6_7b g (n : Int) al (F_X5_sum_a0_6_7 g (n : Int) al m) = gl_b g (n : Int) (fun a b d cd sz fa pl => F_X5_product_a0_6 g (n : Int) a b d al cd sz fa pl) 43 45 (-20) (-21) (gl g (n : Int) (fun a b d cd sz fa pl => F_X5_product_a0_6 g (n : Int) a b d al cd sz fa pl) 43 45 (-20) (-21) m)
    rw [sul_6 g n al m]
    rfl
theorem su_6 {g : Nat → Int} {n : Nat} {al : Int} (hn : n ≤ 1600) : meets g n (fun a b d cd sz fa pl => F_X5_sum_a0_6 g (n : Int) a b d al cd sz fa pl) (sSum g n al 0) := by
  have e : (fun a b d cd sz fa pl => F_X5_sum_a0_6 g (n : Int) a b d al cd sz fa pl) = gL g (n : Int) (fun a b d cd sz fa pl => F_X5_product_a0_6 g (n : Int) a b d al cd sz fa pl) 43 45 (-20) (-21) := by
    funext a b d cd sz fa pl
    unfold F_X5_sum_a0_6
    rw [sul_6]
    rfl
  rw [e]
  exact gL_m hn (pr_6 hn) (sPrO_ok (sPart_ok 0))
theorem fa_6 {g : Nat → Int} {n : Nat} {al : Int} (hn : n ≤ 1600) : meets g n (fun a b d cd sz fa pl => F_X5_fact_a0_6 g (n : Int) a b d al cd sz fa pl) (sFact g n al 0) := by
  have e : (fun a b d cd sz fa pl => F_X5_fact_a0_6 g (n : Int) a b d al cd sz fa pl) = gFact6 g (n : Int) (fun a b d cd sz fa pl => F_X5_sum_a0_6 g (n : Int) a b d al cd sz fa pl) := rfl
  rw [e]
  exact gFact6_m hn (su_6 hn) (sSum_ok 0)
theorem bol_6 (g : Nat → Int) (n : Nat) (al : Int) : ∀ m : Nat, F_X5_both_a0_6_7 g (n : Int) al m = gv (fun a b d cd sz fa pl => F_X5_fact_a0_6 g (n : Int) a b d al cd sz fa pl) (F_X5_takeWord_s14 g (n : Int)) (-29) m
  | 0 => rfl
  | m + 1 => by
    show F_X5_both_a0_6_7b g (n : Int) al (F_X5_both_a0_6_7 g (n : Int) al m) = gv_b (fun a b d cd sz fa pl => F_X5_fact_a0_6 g (n : Int) a b d al cd sz fa pl) (F_X5_takeWord_s14 g (n : Int)) (-29) (gv (fun a b d cd sz fa pl => F_X5_fact_a0_6 g (n : Int) a b d al cd sz fa pl) (F_X5_takeWord_s14 g (n : Int)) (-29) m)
    rw [bol_6 g n al m]
    rfl
theorem bo_6 {g : Nat → Int} {n : Nat} {al : Int} (hn : n ≤ 1600) : meets g n (fun a b d cd sz fa pl => F_X5_both_a0_6 g (n : Int) a b d al cd sz fa pl) (sBoO g n (sFact g n al 0)) := by
  have e : (fun a b d cd sz fa pl => F_X5_both_a0_6 g (n : Int) a b d al cd sz fa pl) = gV (fun a b d cd sz fa pl => F_X5_fact_a0_6 g (n : Int) a b d al cd sz fa pl) (F_X5_takeWord_s14 g (n : Int)) (-29) := by
    funext a b d cd sz fa pl
    unfold F_X5_both_a0_6
    rw [bol_6]
    rfl
  rw [e]
  exact gV_m hn (F_X5_takeWord_s14_t hn) (fa_6 hn) (sFact_ok 0)
theorem tel_6 (g : Nat → Int) (n : Nat) (al : Int) : ∀ m : Nat, F_X5_test_a0_6_7 g (n : Int) al m = gv (fun a b d cd sz fa pl => F_X5_both_a0_6 g (n : Int) a b d al cd sz fa pl) (F_X5_takeWord_s13 g (n : Int)) (-30) m
  | 0 => rfl
  | m + 1 => by
    show F_X5_test_a0_6_7b g (n : Int) al (F_X5_test_a0_6_7 g (n : Int) al m) = gv_b (fun a b d cd sz fa pl => F_X5_both_a0_6 g (n : Int) a b d al cd sz fa pl) (F_X5_takeWord_s13 g (n : Int)) (-30) (gv (fun a b d cd sz fa pl => F_X5_both_a0_6 g (n : Int) a b d al cd sz fa pl) (F_X5_takeWord_s13 g (n : Int)) (-30) m)
    rw [tel_6 g n al m]
    rfl
theorem te_6 {g : Nat → Int} {n : Nat} {al : Int} (hn : n ≤ 1600) : meets g n (fun a b d cd sz fa pl => F_X5_test_a0_6 g (n : Int) a b d al cd sz fa pl) (sTest g n al 0) := by
  have e : (fun a b d cd sz fa pl => F_X5_test_a0_6 g (n : Int) a b d al cd sz fa pl) = gV (fun a b d cd sz fa pl => F_X5_both_a0_6 g (n : Int) a b d al cd sz fa pl) (F_X5_takeWord_s13 g (n : Int)) (-30) := by
    funext a b d cd sz fa pl
    unfold F_X5_test_a0_6
    rw [tel_6]
    rfl
  rw [e]
  exact gV_m hn (F_X5_takeWord_s13_t hn) (bo_6 hn) (spV_ok (sFact_ok 0))
theorem pa_5 {g : Nat → Int} {n : Nat} {al : Int} (hn : n ≤ 1600) : meets g n (fun a b d cd sz fa pl => F_X5_part_a0_5 g (n : Int) a b d al cd sz fa pl) (sPart g n al 1) := by
  have e : (fun a b d cd sz fa pl => F_X5_part_a0_5 g (n : Int) a b d al cd sz fa pl) = gPart g (n : Int) al (fun a b d cd sz fa pl => F_X5_sum_a0_6 g (n : Int) a b d al cd sz fa pl) (fun a b d cd sz fa pl => F_X5_part_a0_6 g (n : Int) a b d al cd sz fa pl) := rfl
  rw [e]
  exact gPart_m hn (su_6 hn) (sSum_ok 0) (pa_6 hn)
theorem prl_5 (g : Nat → Int) (n : Nat) (al : Int) : ∀ m : Nat, F_X5_product_a0_5_7 g (n : Int) al m = gl g (n : Int) (fun a b d cd sz fa pl => F_X5_part_a0_5 g (n : Int) a b d al cd sz fa pl) 42 47 (-22) (-23) m
  | 0 => rfl
  | m + 1 => by
    show F_X5_product_a0_5_7b g (n : Int) al (F_X5_product_a0_5_7 g (n : Int) al m) = gl_b g (n : Int) (fun a b d cd sz fa pl => F_X5_part_a0_5 g (n : Int) a b d al cd sz fa pl) 42 47 (-22) (-23) (gl g (n : Int) (fun a b d cd sz fa pl => F_X5_part_a0_5 g (n : Int) a b d al cd sz fa pl) 42 47 (-22) (-23) m)
    rw [prl_5 g n al m]
    rfl
theorem pr_5 {g : Nat → Int} {n : Nat} {al : Int} (hn : n ≤ 1600) : meets g n (fun a b d cd sz fa pl => F_X5_product_a0_5 g (n : Int) a b d al cd sz fa pl) (sPrO g n (sPart g n al 1)) := by
  have e : (fun a b d cd sz fa pl => F_X5_product_a0_5 g (n : Int) a b d al cd sz fa pl) = gL g (n : Int) (fun a b d cd sz fa pl => F_X5_part_a0_5 g (n : Int) a b d al cd sz fa pl) 42 47 (-22) (-23) := by
    funext a b d cd sz fa pl
    unfold F_X5_product_a0_5
    rw [prl_5]
    rfl
  rw [e]
  exact gL_m hn (pa_5 hn) (sPart_ok 1)
theorem sul_5 (g : Nat → Int) (n : Nat) (al : Int) : ∀ m : Nat, F_X5_sum_a0_5_7 g (n : Int) al m = gl g (n : Int) (fun a b d cd sz fa pl => F_X5_product_a0_5 g (n : Int) a b d al cd sz fa pl) 43 45 (-20) (-21) m
  | 0 => rfl
  | m + 1 => by
    show F_X5_sum_a0_5_7b g (n : Int) al (F_X5_sum_a0_5_7 g (n : Int) al m) = gl_b g (n : Int) (fun a b d cd sz fa pl => F_X5_product_a0_5 g (n : Int) a b d al cd sz fa pl) 43 45 (-20) (-21) (gl g (n : Int) (fun a b d cd sz fa pl => F_X5_product_a0_5 g (n : Int) a b d al cd sz fa pl) 43 45 (-20) (-21) m)
    rw [sul_5 g n al m]
    rfl
theorem su_5 {g : Nat → Int} {n : Nat} {al : Int} (hn : n ≤ 1600) : meets g n (fun a b d cd sz fa pl => F_X5_sum_a0_5 g (n : Int) a b d al cd sz fa pl) (sSum g n al 1) := by
  have e : (fun a b d cd sz fa pl => F_X5_sum_a0_5 g (n : Int) a b d al cd sz fa pl) = gL g (n : Int) (fun a b d cd sz fa pl => F_X5_product_a0_5 g (n : Int) a b d al cd sz fa pl) 43 45 (-20) (-21) := by
    funext a b d cd sz fa pl
    unfold F_X5_sum_a0_5
    rw [sul_5]
    rfl
  rw [e]
  exact gL_m hn (pr_5 hn) (sPrO_ok (sPart_ok 1))
theorem fa_5 {g : Nat → Int} {n : Nat} {al : Int} (hn : n ≤ 1600) : meets g n (fun a b d cd sz fa pl => F_X5_fact_a0_5 g (n : Int) a b d al cd sz fa pl) (sFact g n al 1) := by
  have e : (fun a b d cd sz fa pl => F_X5_fact_a0_5 g (n : Int) a b d al cd sz fa pl) = gFact g (n : Int) (fun a b d cd sz fa pl => F_X5_sum_a0_5 g (n : Int) a b d al cd sz fa pl) (fun a b d cd sz fa pl => F_X5_test_a0_6 g (n : Int) a b d al cd sz fa pl) (fun a b d cd sz fa pl => F_X5_fact_a0_6 g (n : Int) a b d al cd sz fa pl) := rfl
  rw [e]
  exact gFact_m hn (su_5 hn) (sSum_ok 1) (te_6 hn) (sTest_ok 0) (fa_6 hn)
theorem bol_5 (g : Nat → Int) (n : Nat) (al : Int) : ∀ m : Nat, F_X5_both_a0_5_7 g (n : Int) al m = gv (fun a b d cd sz fa pl => F_X5_fact_a0_5 g (n : Int) a b d al cd sz fa pl) (F_X5_takeWord_s14 g (n : Int)) (-29) m
  | 0 => rfl
  | m + 1 => by
    show F_X5_both_a0_5_7b g (n : Int) al (F_X5_both_a0_5_7 g (n : Int) al m) = gv_b (fun a b d cd sz fa pl => F_X5_fact_a0_5 g (n : Int) a b d al cd sz fa pl) (F_X5_takeWord_s14 g (n : Int)) (-29) (gv (fun a b d cd sz fa pl => F_X5_fact_a0_5 g (n : Int) a b d al cd sz fa pl) (F_X5_takeWord_s14 g (n : Int)) (-29) m)
    rw [bol_5 g n al m]
    rfl
theorem bo_5 {g : Nat → Int} {n : Nat} {al : Int} (hn : n ≤ 1600) : meets g n (fun a b d cd sz fa pl => F_X5_both_a0_5 g (n : Int) a b d al cd sz fa pl) (sBoO g n (sFact g n al 1)) := by
  have e : (fun a b d cd sz fa pl => F_X5_both_a0_5 g (n : Int) a b d al cd sz fa pl) = gV (fun a b d cd sz fa pl => F_X5_fact_a0_5 g (n : Int) a b d al cd sz fa pl) (F_X5_takeWord_s14 g (n : Int)) (-29) := by
    funext a b d cd sz fa pl
    unfold F_X5_both_a0_5
    rw [bol_5]
    rfl
  rw [e]
  exact gV_m hn (F_X5_takeWord_s14_t hn) (fa_5 hn) (sFact_ok 1)
theorem tel_5 (g : Nat → Int) (n : Nat) (al : Int) : ∀ m : Nat, F_X5_test_a0_5_7 g (n : Int) al m = gv (fun a b d cd sz fa pl => F_X5_both_a0_5 g (n : Int) a b d al cd sz fa pl) (F_X5_takeWord_s13 g (n : Int)) (-30) m
  | 0 => rfl
  | m + 1 => by
    show F_X5_test_a0_5_7b g (n : Int) al (F_X5_test_a0_5_7 g (n : Int) al m) = gv_b (fun a b d cd sz fa pl => F_X5_both_a0_5 g (n : Int) a b d al cd sz fa pl) (F_X5_takeWord_s13 g (n : Int)) (-30) (gv (fun a b d cd sz fa pl => F_X5_both_a0_5 g (n : Int) a b d al cd sz fa pl) (F_X5_takeWord_s13 g (n : Int)) (-30) m)
    rw [tel_5 g n al m]
    rfl
theorem te_5 {g : Nat → Int} {n : Nat} {al : Int} (hn : n ≤ 1600) : meets g n (fun a b d cd sz fa pl => F_X5_test_a0_5 g (n : Int) a b d al cd sz fa pl) (sTest g n al 1) := by
  have e : (fun a b d cd sz fa pl => F_X5_test_a0_5 g (n : Int) a b d al cd sz fa pl) = gV (fun a b d cd sz fa pl => F_X5_both_a0_5 g (n : Int) a b d al cd sz fa pl) (F_X5_takeWord_s13 g (n : Int)) (-30) := by
    funext a b d cd sz fa pl
    unfold F_X5_test_a0_5
    rw [tel_5]
    rfl
  rw [e]
  exact gV_m hn (F_X5_takeWord_s13_t hn) (bo_5 hn) (spV_ok (sFact_ok 1))
theorem pa_4 {g : Nat → Int} {n : Nat} {al : Int} (hn : n ≤ 1600) : meets g n (fun a b d cd sz fa pl => F_X5_part_a0_4 g (n : Int) a b d al cd sz fa pl) (sPart g n al 2) := by
  have e : (fun a b d cd sz fa pl => F_X5_part_a0_4 g (n : Int) a b d al cd sz fa pl) = gPart g (n : Int) al (fun a b d cd sz fa pl => F_X5_sum_a0_5 g (n : Int) a b d al cd sz fa pl) (fun a b d cd sz fa pl => F_X5_part_a0_5 g (n : Int) a b d al cd sz fa pl) := rfl
  rw [e]
  exact gPart_m hn (su_5 hn) (sSum_ok 1) (pa_5 hn)
theorem prl_4 (g : Nat → Int) (n : Nat) (al : Int) : ∀ m : Nat, F_X5_product_a0_4_7 g (n : Int) al m = gl g (n : Int) (fun a b d cd sz fa pl => F_X5_part_a0_4 g (n : Int) a b d al cd sz fa pl) 42 47 (-22) (-23) m
  | 0 => rfl
  | m + 1 => by
    show F_X5_product_a0_4_7b g (n : Int) al (F_X5_product_a0_4_7 g (n : Int) al m) = gl_b g (n : Int) (fun a b d cd sz fa pl => F_X5_part_a0_4 g (n : Int) a b d al cd sz fa pl) 42 47 (-22) (-23) (gl g (n : Int) (fun a b d cd sz fa pl => F_X5_part_a0_4 g (n : Int) a b d al cd sz fa pl) 42 47 (-22) (-23) m)
    rw [prl_4 g n al m]
    rfl
theorem pr_4 {g : Nat → Int} {n : Nat} {al : Int} (hn : n ≤ 1600) : meets g n (fun a b d cd sz fa pl => F_X5_product_a0_4 g (n : Int) a b d al cd sz fa pl) (sPrO g n (sPart g n al 2)) := by
  have e : (fun a b d cd sz fa pl => F_X5_product_a0_4 g (n : Int) a b d al cd sz fa pl) = gL g (n : Int) (fun a b d cd sz fa pl => F_X5_part_a0_4 g (n : Int) a b d al cd sz fa pl) 42 47 (-22) (-23) := by
    funext a b d cd sz fa pl
    unfold F_X5_product_a0_4
    rw [prl_4]
    rfl
  rw [e]
  exact gL_m hn (pa_4 hn) (sPart_ok 2)
theorem sul_4 (g : Nat → Int) (n : Nat) (al : Int) : ∀ m : Nat, F_X5_sum_a0_4_7 g (n : Int) al m = gl g (n : Int) (fun a b d cd sz fa pl => F_X5_product_a0_4 g (n : Int) a b d al cd sz fa pl) 43 45 (-20) (-21) m
  | 0 => rfl
  | m + 1 => by
    show F_X5_sum_a0_4_7b g (n : Int) al (F_X5_sum_a0_4_7 g (n : Int) al m) = gl_b g (n : Int) (fun a b d cd sz fa pl => F_X5_product_a0_4 g (n : Int) a b d al cd sz fa pl) 43 45 (-20) (-21) (gl g (n : Int) (fun a b d cd sz fa pl => F_X5_product_a0_4 g (n : Int) a b d al cd sz fa pl) 43 45 (-20) (-21) m)
    rw [sul_4 g n al m]
    rfl
theorem su_4 {g : Nat → Int} {n : Nat} {al : Int} (hn : n ≤ 1600) : meets g n (fun a b d cd sz fa pl => F_X5_sum_a0_4 g (n : Int) a b d al cd sz fa pl) (sSum g n al 2) := by
  have e : (fun a b d cd sz fa pl => F_X5_sum_a0_4 g (n : Int) a b d al cd sz fa pl) = gL g (n : Int) (fun a b d cd sz fa pl => F_X5_product_a0_4 g (n : Int) a b d al cd sz fa pl) 43 45 (-20) (-21) := by
    funext a b d cd sz fa pl
    unfold F_X5_sum_a0_4
    rw [sul_4]
    rfl
  rw [e]
  exact gL_m hn (pr_4 hn) (sPrO_ok (sPart_ok 2))
theorem fa_4 {g : Nat → Int} {n : Nat} {al : Int} (hn : n ≤ 1600) : meets g n (fun a b d cd sz fa pl => F_X5_fact_a0_4 g (n : Int) a b d al cd sz fa pl) (sFact g n al 2) := by
  have e : (fun a b d cd sz fa pl => F_X5_fact_a0_4 g (n : Int) a b d al cd sz fa pl) = gFact g (n : Int) (fun a b d cd sz fa pl => F_X5_sum_a0_4 g (n : Int) a b d al cd sz fa pl) (fun a b d cd sz fa pl => F_X5_test_a0_5 g (n : Int) a b d al cd sz fa pl) (fun a b d cd sz fa pl => F_X5_fact_a0_5 g (n : Int) a b d al cd sz fa pl) := rfl
  rw [e]
  exact gFact_m hn (su_4 hn) (sSum_ok 2) (te_5 hn) (sTest_ok 1) (fa_5 hn)
theorem bol_4 (g : Nat → Int) (n : Nat) (al : Int) : ∀ m : Nat, F_X5_both_a0_4_7 g (n : Int) al m = gv (fun a b d cd sz fa pl => F_X5_fact_a0_4 g (n : Int) a b d al cd sz fa pl) (F_X5_takeWord_s14 g (n : Int)) (-29) m
  | 0 => rfl
  | m + 1 => by
    show F_X5_both_a0_4_7b g (n : Int) al (F_X5_both_a0_4_7 g (n : Int) al m) = gv_b (fun a b d cd sz fa pl => F_X5_fact_a0_4 g (n : Int) a b d al cd sz fa pl) (F_X5_takeWord_s14 g (n : Int)) (-29) (gv (fun a b d cd sz fa pl => F_X5_fact_a0_4 g (n : Int) a b d al cd sz fa pl) (F_X5_takeWord_s14 g (n : Int)) (-29) m)
    rw [bol_4 g n al m]
    rfl
theorem bo_4 {g : Nat → Int} {n : Nat} {al : Int} (hn : n ≤ 1600) : meets g n (fun a b d cd sz fa pl => F_X5_both_a0_4 g (n : Int) a b d al cd sz fa pl) (sBoO g n (sFact g n al 2)) := by
  have e : (fun a b d cd sz fa pl => F_X5_both_a0_4 g (n : Int) a b d al cd sz fa pl) = gV (fun a b d cd sz fa pl => F_X5_fact_a0_4 g (n : Int) a b d al cd sz fa pl) (F_X5_takeWord_s14 g (n : Int)) (-29) := by
    funext a b d cd sz fa pl
    unfold F_X5_both_a0_4
    rw [bol_4]
    rfl
  rw [e]
  exact gV_m hn (F_X5_takeWord_s14_t hn) (fa_4 hn) (sFact_ok 2)
theorem tel_4 (g : Nat → Int) (n : Nat) (al : Int) : ∀ m : Nat, F_X5_test_a0_4_7 g (n : Int) al m = gv (fun a b d cd sz fa pl => F_X5_both_a0_4 g (n : Int) a b d al cd sz fa pl) (F_X5_takeWord_s13 g (n : Int)) (-30) m
  | 0 => rfl
  | m + 1 => by
    show F_X5_test_a0_4_7b g (n : Int) al (F_X5_test_a0_4_7 g (n : Int) al m) = gv_b (fun a b d cd sz fa pl => F_X5_both_a0_4 g (n : Int) a b d al cd sz fa pl) (F_X5_takeWord_s13 g (n : Int)) (-30) (gv (fun a b d cd sz fa pl => F_X5_both_a0_4 g (n : Int) a b d al cd sz fa pl) (F_X5_takeWord_s13 g (n : Int)) (-30) m)
    rw [tel_4 g n al m]
    rfl
theorem te_4 {g : Nat → Int} {n : Nat} {al : Int} (hn : n ≤ 1600) : meets g n (fun a b d cd sz fa pl => F_X5_test_a0_4 g (n : Int) a b d al cd sz fa pl) (sTest g n al 2) := by
  have e : (fun a b d cd sz fa pl => F_X5_test_a0_4 g (n : Int) a b d al cd sz fa pl) = gV (fun a b d cd sz fa pl => F_X5_both_a0_4 g (n : Int) a b d al cd sz fa pl) (F_X5_takeWord_s13 g (n : Int)) (-30) := by
    funext a b d cd sz fa pl
    unfold F_X5_test_a0_4
    rw [tel_4]
    rfl
  rw [e]
  exact gV_m hn (F_X5_takeWord_s13_t hn) (bo_4 hn) (spV_ok (sFact_ok 2))
theorem pa_3 {g : Nat → Int} {n : Nat} {al : Int} (hn : n ≤ 1600) : meets g n (fun a b d cd sz fa pl => F_X5_part_a0_3 g (n : Int) a b d al cd sz fa pl) (sPart g n al 3) := by
  have e : (fun a b d cd sz fa pl => F_X5_part_a0_3 g (n : Int) a b d al cd sz fa pl) = gPart g (n : Int) al (fun a b d cd sz fa pl => F_X5_sum_a0_4 g (n : Int) a b d al cd sz fa pl) (fun a b d cd sz fa pl => F_X5_part_a0_4 g (n : Int) a b d al cd sz fa pl) := rfl
  rw [e]
  exact gPart_m hn (su_4 hn) (sSum_ok 2) (pa_4 hn)
theorem prl_3 (g : Nat → Int) (n : Nat) (al : Int) : ∀ m : Nat, F_X5_product_a0_3_7 g (n : Int) al m = gl g (n : Int) (fun a b d cd sz fa pl => F_X5_part_a0_3 g (n : Int) a b d al cd sz fa pl) 42 47 (-22) (-23) m
  | 0 => rfl
  | m + 1 => by
    show F_X5_product_a0_3_7b g (n : Int) al (F_X5_product_a0_3_7 g (n : Int) al m) = gl_b g (n : Int) (fun a b d cd sz fa pl => F_X5_part_a0_3 g (n : Int) a b d al cd sz fa pl) 42 47 (-22) (-23) (gl g (n : Int) (fun a b d cd sz fa pl => F_X5_part_a0_3 g (n : Int) a b d al cd sz fa pl) 42 47 (-22) (-23) m)
    rw [prl_3 g n al m]
    rfl
theorem pr_3 {g : Nat → Int} {n : Nat} {al : Int} (hn : n ≤ 1600) : meets g n (fun a b d cd sz fa pl => F_X5_product_a0_3 g (n : Int) a b d al cd sz fa pl) (sPrO g n (sPart g n al 3)) := by
  have e : (fun a b d cd sz fa pl => F_X5_product_a0_3 g (n : Int) a b d al cd sz fa pl) = gL g (n : Int) (fun a b d cd sz fa pl => F_X5_part_a0_3 g (n : Int) a b d al cd sz fa pl) 42 47 (-22) (-23) := by
    funext a b d cd sz fa pl
    unfold F_X5_product_a0_3
    rw [prl_3]
    rfl
  rw [e]
  exact gL_m hn (pa_3 hn) (sPart_ok 3)
theorem sul_3 (g : Nat → Int) (n : Nat) (al : Int) : ∀ m : Nat, F_X5_sum_a0_3_7 g (n : Int) al m = gl g (n : Int) (fun a b d cd sz fa pl => F_X5_product_a0_3 g (n : Int) a b d al cd sz fa pl) 43 45 (-20) (-21) m
  | 0 => rfl
  | m + 1 => by
    show F_X5_sum_a0_3_7b g (n : Int) al (F_X5_sum_a0_3_7 g (n : Int) al m) = gl_b g (n : Int) (fun a b d cd sz fa pl => F_X5_product_a0_3 g (n : Int) a b d al cd sz fa pl) 43 45 (-20) (-21) (gl g (n : Int) (fun a b d cd sz fa pl => F_X5_product_a0_3 g (n : Int) a b d al cd sz fa pl) 43 45 (-20) (-21) m)
    rw [sul_3 g n al m]
    rfl
theorem su_3 {g : Nat → Int} {n : Nat} {al : Int} (hn : n ≤ 1600) : meets g n (fun a b d cd sz fa pl => F_X5_sum_a0_3 g (n : Int) a b d al cd sz fa pl) (sSum g n al 3) := by
  have e : (fun a b d cd sz fa pl => F_X5_sum_a0_3 g (n : Int) a b d al cd sz fa pl) = gL g (n : Int) (fun a b d cd sz fa pl => F_X5_product_a0_3 g (n : Int) a b d al cd sz fa pl) 43 45 (-20) (-21) := by
    funext a b d cd sz fa pl
    unfold F_X5_sum_a0_3
    rw [sul_3]
    rfl
  rw [e]
  exact gL_m hn (pr_3 hn) (sPrO_ok (sPart_ok 3))
theorem fa_3 {g : Nat → Int} {n : Nat} {al : Int} (hn : n ≤ 1600) : meets g n (fun a b d cd sz fa pl => F_X5_fact_a0_3 g (n : Int) a b d al cd sz fa pl) (sFact g n al 3) := by
  have e : (fun a b d cd sz fa pl => F_X5_fact_a0_3 g (n : Int) a b d al cd sz fa pl) = gFact g (n : Int) (fun a b d cd sz fa pl => F_X5_sum_a0_3 g (n : Int) a b d al cd sz fa pl) (fun a b d cd sz fa pl => F_X5_test_a0_4 g (n : Int) a b d al cd sz fa pl) (fun a b d cd sz fa pl => F_X5_fact_a0_4 g (n : Int) a b d al cd sz fa pl) := rfl
  rw [e]
  exact gFact_m hn (su_3 hn) (sSum_ok 3) (te_4 hn) (sTest_ok 2) (fa_4 hn)
theorem bol_3 (g : Nat → Int) (n : Nat) (al : Int) : ∀ m : Nat, F_X5_both_a0_3_7 g (n : Int) al m = gv (fun a b d cd sz fa pl => F_X5_fact_a0_3 g (n : Int) a b d al cd sz fa pl) (F_X5_takeWord_s14 g (n : Int)) (-29) m
  | 0 => rfl
  | m + 1 => by
    show F_X5_both_a0_3_7b g (n : Int) al (F_X5_both_a0_3_7 g (n : Int) al m) = gv_b (fun a b d cd sz fa pl => F_X5_fact_a0_3 g (n : Int) a b d al cd sz fa pl) (F_X5_takeWord_s14 g (n : Int)) (-29) (gv (fun a b d cd sz fa pl => F_X5_fact_a0_3 g (n : Int) a b d al cd sz fa pl) (F_X5_takeWord_s14 g (n : Int)) (-29) m)
    rw [bol_3 g n al m]
    rfl
theorem bo_3 {g : Nat → Int} {n : Nat} {al : Int} (hn : n ≤ 1600) : meets g n (fun a b d cd sz fa pl => F_X5_both_a0_3 g (n : Int) a b d al cd sz fa pl) (sBoO g n (sFact g n al 3)) := by
  have e : (fun a b d cd sz fa pl => F_X5_both_a0_3 g (n : Int) a b d al cd sz fa pl) = gV (fun a b d cd sz fa pl => F_X5_fact_a0_3 g (n : Int) a b d al cd sz fa pl) (F_X5_takeWord_s14 g (n : Int)) (-29) := by
    funext a b d cd sz fa pl
    unfold F_X5_both_a0_3
    rw [bol_3]
    rfl
  rw [e]
  exact gV_m hn (F_X5_takeWord_s14_t hn) (fa_3 hn) (sFact_ok 3)
theorem tel_3 (g : Nat → Int) (n : Nat) (al : Int) : ∀ m : Nat, F_X5_test_a0_3_7 g (n : Int) al m = gv (fun a b d cd sz fa pl => F_X5_both_a0_3 g (n : Int) a b d al cd sz fa pl) (F_X5_takeWord_s13 g (n : Int)) (-30) m
  | 0 => rfl
  | m + 1 => by
    show F_X5_test_a0_3_7b g (n : Int) al (F_X5_test_a0_3_7 g (n : Int) al m) = gv_b (fun a b d cd sz fa pl => F_X5_both_a0_3 g (n : Int) a b d al cd sz fa pl) (F_X5_takeWord_s13 g (n : Int)) (-30) (gv (fun a b d cd sz fa pl => F_X5_both_a0_3 g (n : Int) a b d al cd sz fa pl) (F_X5_takeWord_s13 g (n : Int)) (-30) m)
    rw [tel_3 g n al m]
    rfl
theorem te_3 {g : Nat → Int} {n : Nat} {al : Int} (hn : n ≤ 1600) : meets g n (fun a b d cd sz fa pl => F_X5_test_a0_3 g (n : Int) a b d al cd sz fa pl) (sTest g n al 3) := by
  have e : (fun a b d cd sz fa pl => F_X5_test_a0_3 g (n : Int) a b d al cd sz fa pl) = gV (fun a b d cd sz fa pl => F_X5_both_a0_3 g (n : Int) a b d al cd sz fa pl) (F_X5_takeWord_s13 g (n : Int)) (-30) := by
    funext a b d cd sz fa pl
    unfold F_X5_test_a0_3
    rw [tel_3]
    rfl
  rw [e]
  exact gV_m hn (F_X5_takeWord_s13_t hn) (bo_3 hn) (spV_ok (sFact_ok 3))
theorem pa_2 {g : Nat → Int} {n : Nat} {al : Int} (hn : n ≤ 1600) : meets g n (fun a b d cd sz fa pl => F_X5_part_a0_2 g (n : Int) a b d al cd sz fa pl) (sPart g n al 4) := by
  have e : (fun a b d cd sz fa pl => F_X5_part_a0_2 g (n : Int) a b d al cd sz fa pl) = gPart g (n : Int) al (fun a b d cd sz fa pl => F_X5_sum_a0_3 g (n : Int) a b d al cd sz fa pl) (fun a b d cd sz fa pl => F_X5_part_a0_3 g (n : Int) a b d al cd sz fa pl) := rfl
  rw [e]
  exact gPart_m hn (su_3 hn) (sSum_ok 3) (pa_3 hn)
theorem prl_2 (g : Nat → Int) (n : Nat) (al : Int) : ∀ m : Nat, F_X5_product_a0_2_7 g (n : Int) al m = gl g (n : Int) (fun a b d cd sz fa pl => F_X5_part_a0_2 g (n : Int) a b d al cd sz fa pl) 42 47 (-22) (-23) m
  | 0 => rfl
  | m + 1 => by
    show F_X5_product_a0_2_7b g (n : Int) al (F_X5_product_a0_2_7 g (n : Int) al m) = gl_b g (n : Int) (fun a b d cd sz fa pl => F_X5_part_a0_2 g (n : Int) a b d al cd sz fa pl) 42 47 (-22) (-23) (gl g (n : Int) (fun a b d cd sz fa pl => F_X5_part_a0_2 g (n : Int) a b d al cd sz fa pl) 42 47 (-22) (-23) m)
    rw [prl_2 g n al m]
    rfl
theorem pr_2 {g : Nat → Int} {n : Nat} {al : Int} (hn : n ≤ 1600) : meets g n (fun a b d cd sz fa pl => F_X5_product_a0_2 g (n : Int) a b d al cd sz fa pl) (sPrO g n (sPart g n al 4)) := by
  have e : (fun a b d cd sz fa pl => F_X5_product_a0_2 g (n : Int) a b d al cd sz fa pl) = gL g (n : Int) (fun a b d cd sz fa pl => F_X5_part_a0_2 g (n : Int) a b d al cd sz fa pl) 42 47 (-22) (-23) := by
    funext a b d cd sz fa pl
    unfold F_X5_product_a0_2
    rw [prl_2]
    rfl
  rw [e]
  exact gL_m hn (pa_2 hn) (sPart_ok 4)
theorem sul_2 (g : Nat → Int) (n : Nat) (al : Int) : ∀ m : Nat, F_X5_sum_a0_2_7 g (n : Int) al m = gl g (n : Int) (fun a b d cd sz fa pl => F_X5_product_a0_2 g (n : Int) a b d al cd sz fa pl) 43 45 (-20) (-21) m
  | 0 => rfl
  | m + 1 => by
    show F_X5_sum_a0_2_7b g (n : Int) al (F_X5_sum_a0_2_7 g (n : Int) al m) = gl_b g (n : Int) (fun a b d cd sz fa pl => F_X5_product_a0_2 g (n : Int) a b d al cd sz fa pl) 43 45 (-20) (-21) (gl g (n : Int) (fun a b d cd sz fa pl => F_X5_product_a0_2 g (n : Int) a b d al cd sz fa pl) 43 45 (-20) (-21) m)
    rw [sul_2 g n al m]
    rfl
theorem su_2 {g : Nat → Int} {n : Nat} {al : Int} (hn : n ≤ 1600) : meets g n (fun a b d cd sz fa pl => F_X5_sum_a0_2 g (n : Int) a b d al cd sz fa pl) (sSum g n al 4) := by
  have e : (fun a b d cd sz fa pl => F_X5_sum_a0_2 g (n : Int) a b d al cd sz fa pl) = gL g (n : Int) (fun a b d cd sz fa pl => F_X5_product_a0_2 g (n : Int) a b d al cd sz fa pl) 43 45 (-20) (-21) := by
    funext a b d cd sz fa pl
    unfold F_X5_sum_a0_2
    rw [sul_2]
    rfl
  rw [e]
  exact gL_m hn (pr_2 hn) (sPrO_ok (sPart_ok 4))
theorem fa_2 {g : Nat → Int} {n : Nat} {al : Int} (hn : n ≤ 1600) : meets g n (fun a b d cd sz fa pl => F_X5_fact_a0_2 g (n : Int) a b d al cd sz fa pl) (sFact g n al 4) := by
  have e : (fun a b d cd sz fa pl => F_X5_fact_a0_2 g (n : Int) a b d al cd sz fa pl) = gFact g (n : Int) (fun a b d cd sz fa pl => F_X5_sum_a0_2 g (n : Int) a b d al cd sz fa pl) (fun a b d cd sz fa pl => F_X5_test_a0_3 g (n : Int) a b d al cd sz fa pl) (fun a b d cd sz fa pl => F_X5_fact_a0_3 g (n : Int) a b d al cd sz fa pl) := rfl
  rw [e]
  exact gFact_m hn (su_2 hn) (sSum_ok 4) (te_3 hn) (sTest_ok 3) (fa_3 hn)
theorem bol_2 (g : Nat → Int) (n : Nat) (al : Int) : ∀ m : Nat, F_X5_both_a0_2_7 g (n : Int) al m = gv (fun a b d cd sz fa pl => F_X5_fact_a0_2 g (n : Int) a b d al cd sz fa pl) (F_X5_takeWord_s14 g (n : Int)) (-29) m
  | 0 => rfl
  | m + 1 => by
    show F_X5_both_a0_2_7b g (n : Int) al (F_X5_both_a0_2_7 g (n : Int) al m) = gv_b (fun a b d cd sz fa pl => F_X5_fact_a0_2 g (n : Int) a b d al cd sz fa pl) (F_X5_takeWord_s14 g (n : Int)) (-29) (gv (fun a b d cd sz fa pl => F_X5_fact_a0_2 g (n : Int) a b d al cd sz fa pl) (F_X5_takeWord_s14 g (n : Int)) (-29) m)
    rw [bol_2 g n al m]
    rfl
theorem bo_2 {g : Nat → Int} {n : Nat} {al : Int} (hn : n ≤ 1600) : meets g n (fun a b d cd sz fa pl => F_X5_both_a0_2 g (n : Int) a b d al cd sz fa pl) (sBoO g n (sFact g n al 4)) := by
  have e : (fun a b d cd sz fa pl => F_X5_both_a0_2 g (n : Int) a b d al cd sz fa pl) = gV (fun a b d cd sz fa pl => F_X5_fact_a0_2 g (n : Int) a b d al cd sz fa pl) (F_X5_takeWord_s14 g (n : Int)) (-29) := by
    funext a b d cd sz fa pl
    unfold F_X5_both_a0_2
    rw [bol_2]
    rfl
  rw [e]
  exact gV_m hn (F_X5_takeWord_s14_t hn) (fa_2 hn) (sFact_ok 4)
theorem tel_2 (g : Nat → Int) (n : Nat) (al : Int) : ∀ m : Nat, F_X5_test_a0_2_7 g (n : Int) al m = gv (fun a b d cd sz fa pl => F_X5_both_a0_2 g (n : Int) a b d al cd sz fa pl) (F_X5_takeWord_s13 g (n : Int)) (-30) m
  | 0 => rfl
  | m + 1 => by
    show F_X5_test_a0_2_7b g (n : Int) al (F_X5_test_a0_2_7 g (n : Int) al m) = gv_b (fun a b d cd sz fa pl => F_X5_both_a0_2 g (n : Int) a b d al cd sz fa pl) (F_X5_takeWord_s13 g (n : Int)) (-30) (gv (fun a b d cd sz fa pl => F_X5_both_a0_2 g (n : Int) a b d al cd sz fa pl) (F_X5_takeWord_s13 g (n : Int)) (-30) m)
    rw [tel_2 g n al m]
    rfl
theorem te_2 {g : Nat → Int} {n : Nat} {al : Int} (hn : n ≤ 1600) : meets g n (fun a b d cd sz fa pl => F_X5_test_a0_2 g (n : Int) a b d al cd sz fa pl) (sTest g n al 4) := by
  have e : (fun a b d cd sz fa pl => F_X5_test_a0_2 g (n : Int) a b d al cd sz fa pl) = gV (fun a b d cd sz fa pl => F_X5_both_a0_2 g (n : Int) a b d al cd sz fa pl) (F_X5_takeWord_s13 g (n : Int)) (-30) := by
    funext a b d cd sz fa pl
    unfold F_X5_test_a0_2
    rw [tel_2]
    rfl
  rw [e]
  exact gV_m hn (F_X5_takeWord_s13_t hn) (bo_2 hn) (spV_ok (sFact_ok 4))
theorem pa_1 {g : Nat → Int} {n : Nat} {al : Int} (hn : n ≤ 1600) : meets g n (fun a b d cd sz fa pl => F_X5_part_a0_1 g (n : Int) a b d al cd sz fa pl) (sPart g n al 5) := by
  have e : (fun a b d cd sz fa pl => F_X5_part_a0_1 g (n : Int) a b d al cd sz fa pl) = gPart g (n : Int) al (fun a b d cd sz fa pl => F_X5_sum_a0_2 g (n : Int) a b d al cd sz fa pl) (fun a b d cd sz fa pl => F_X5_part_a0_2 g (n : Int) a b d al cd sz fa pl) := rfl
  rw [e]
  exact gPart_m hn (su_2 hn) (sSum_ok 4) (pa_2 hn)
theorem prl_1 (g : Nat → Int) (n : Nat) (al : Int) : ∀ m : Nat, F_X5_product_a0_1_7 g (n : Int) al m = gl g (n : Int) (fun a b d cd sz fa pl => F_X5_part_a0_1 g (n : Int) a b d al cd sz fa pl) 42 47 (-22) (-23) m
  | 0 => rfl
  | m + 1 => by
    show F_X5_product_a0_1_7b g (n : Int) al (F_X5_product_a0_1_7 g (n : Int) al m) = gl_b g (n : Int) (fun a b d cd sz fa pl => F_X5_part_a0_1 g (n : Int) a b d al cd sz fa pl) 42 47 (-22) (-23) (gl g (n : Int) (fun a b d cd sz fa pl => F_X5_part_a0_1 g (n : Int) a b d al cd sz fa pl) 42 47 (-22) (-23) m)
    rw [prl_1 g n al m]
    rfl
theorem pr_1 {g : Nat → Int} {n : Nat} {al : Int} (hn : n ≤ 1600) : meets g n (fun a b d cd sz fa pl => F_X5_product_a0_1 g (n : Int) a b d al cd sz fa pl) (sPrO g n (sPart g n al 5)) := by
  have e : (fun a b d cd sz fa pl => F_X5_product_a0_1 g (n : Int) a b d al cd sz fa pl) = gL g (n : Int) (fun a b d cd sz fa pl => F_X5_part_a0_1 g (n : Int) a b d al cd sz fa pl) 42 47 (-22) (-23) := by
    funext a b d cd sz fa pl
    unfold F_X5_product_a0_1
    rw [prl_1]
    rfl
  rw [e]
  exact gL_m hn (pa_1 hn) (sPart_ok 5)
theorem sul_1 (g : Nat → Int) (n : Nat) (al : Int) : ∀ m : Nat, F_X5_sum_a0_1_7 g (n : Int) al m = gl g (n : Int) (fun a b d cd sz fa pl => F_X5_product_a0_1 g (n : Int) a b d al cd sz fa pl) 43 45 (-20) (-21) m
  | 0 => rfl
  | m + 1 => by
    show F_X5_sum_a0_1_7b g (n : Int) al (F_X5_sum_a0_1_7 g (n : Int) al m) = gl_b g (n : Int) (fun a b d cd sz fa pl => F_X5_product_a0_1 g (n : Int) a b d al cd sz fa pl) 43 45 (-20) (-21) (gl g (n : Int) (fun a b d cd sz fa pl => F_X5_product_a0_1 g (n : Int) a b d al cd sz fa pl) 43 45 (-20) (-21) m)
    rw [sul_1 g n al m]
    rfl
theorem su_1 {g : Nat → Int} {n : Nat} {al : Int} (hn : n ≤ 1600) : meets g n (fun a b d cd sz fa pl => F_X5_sum_a0_1 g (n : Int) a b d al cd sz fa pl) (sSum g n al 5) := by
  have e : (fun a b d cd sz fa pl => F_X5_sum_a0_1 g (n : Int) a b d al cd sz fa pl) = gL g (n : Int) (fun a b d cd sz fa pl => F_X5_product_a0_1 g (n : Int) a b d al cd sz fa pl) 43 45 (-20) (-21) := by
    funext a b d cd sz fa pl
    unfold F_X5_sum_a0_1
    rw [sul_1]
    rfl
  rw [e]
  exact gL_m hn (pr_1 hn) (sPrO_ok (sPart_ok 5))
theorem fa_1 {g : Nat → Int} {n : Nat} {al : Int} (hn : n ≤ 1600) : meets g n (fun a b d cd sz fa pl => F_X5_fact_a0_1 g (n : Int) a b d al cd sz fa pl) (sFact g n al 5) := by
  have e : (fun a b d cd sz fa pl => F_X5_fact_a0_1 g (n : Int) a b d al cd sz fa pl) = gFact g (n : Int) (fun a b d cd sz fa pl => F_X5_sum_a0_1 g (n : Int) a b d al cd sz fa pl) (fun a b d cd sz fa pl => F_X5_test_a0_2 g (n : Int) a b d al cd sz fa pl) (fun a b d cd sz fa pl => F_X5_fact_a0_2 g (n : Int) a b d al cd sz fa pl) := rfl
  rw [e]
  exact gFact_m hn (su_1 hn) (sSum_ok 5) (te_2 hn) (sTest_ok 4) (fa_2 hn)
theorem bol_1 (g : Nat → Int) (n : Nat) (al : Int) : ∀ m : Nat, F_X5_both_a0_1_7 g (n : Int) al m = gv (fun a b d cd sz fa pl => F_X5_fact_a0_1 g (n : Int) a b d al cd sz fa pl) (F_X5_takeWord_s14 g (n : Int)) (-29) m
  | 0 => rfl
  | m + 1 => by
    show F_X5_both_a0_1_7b g (n : Int) al (F_X5_both_a0_1_7 g (n : Int) al m) = gv_b (fun a b d cd sz fa pl => F_X5_fact_a0_1 g (n : Int) a b d al cd sz fa pl) (F_X5_takeWord_s14 g (n : Int)) (-29) (gv (fun a b d cd sz fa pl => F_X5_fact_a0_1 g (n : Int) a b d al cd sz fa pl) (F_X5_takeWord_s14 g (n : Int)) (-29) m)
    rw [bol_1 g n al m]
    rfl
theorem bo_1 {g : Nat → Int} {n : Nat} {al : Int} (hn : n ≤ 1600) : meets g n (fun a b d cd sz fa pl => F_X5_both_a0_1 g (n : Int) a b d al cd sz fa pl) (sBoO g n (sFact g n al 5)) := by
  have e : (fun a b d cd sz fa pl => F_X5_both_a0_1 g (n : Int) a b d al cd sz fa pl) = gV (fun a b d cd sz fa pl => F_X5_fact_a0_1 g (n : Int) a b d al cd sz fa pl) (F_X5_takeWord_s14 g (n : Int)) (-29) := by
    funext a b d cd sz fa pl
    unfold F_X5_both_a0_1
    rw [bol_1]
    rfl
  rw [e]
  exact gV_m hn (F_X5_takeWord_s14_t hn) (fa_1 hn) (sFact_ok 5)
theorem tel_1 (g : Nat → Int) (n : Nat) (al : Int) : ∀ m : Nat, F_X5_test_a0_1_7 g (n : Int) al m = gv (fun a b d cd sz fa pl => F_X5_both_a0_1 g (n : Int) a b d al cd sz fa pl) (F_X5_takeWord_s13 g (n : Int)) (-30) m
  | 0 => rfl
  | m + 1 => by
    show F_X5_test_a0_1_7b g (n : Int) al (F_X5_test_a0_1_7 g (n : Int) al m) = gv_b (fun a b d cd sz fa pl => F_X5_both_a0_1 g (n : Int) a b d al cd sz fa pl) (F_X5_takeWord_s13 g (n : Int)) (-30) (gv (fun a b d cd sz fa pl => F_X5_both_a0_1 g (n : Int) a b d al cd sz fa pl) (F_X5_takeWord_s13 g (n : Int)) (-30) m)
    rw [tel_1 g n al m]
    rfl
theorem te_1 {g : Nat → Int} {n : Nat} {al : Int} (hn : n ≤ 1600) : meets g n (fun a b d cd sz fa pl => F_X5_test_a0_1 g (n : Int) a b d al cd sz fa pl) (sTest g n al 5) := by
  have e : (fun a b d cd sz fa pl => F_X5_test_a0_1 g (n : Int) a b d al cd sz fa pl) = gV (fun a b d cd sz fa pl => F_X5_both_a0_1 g (n : Int) a b d al cd sz fa pl) (F_X5_takeWord_s13 g (n : Int)) (-30) := by
    funext a b d cd sz fa pl
    unfold F_X5_test_a0_1
    rw [tel_1]
    rfl
  rw [e]
  exact gV_m hn (F_X5_takeWord_s13_t hn) (bo_1 hn) (spV_ok (sFact_ok 5))
theorem pa_0 {g : Nat → Int} {n : Nat} {al : Int} (hn : n ≤ 1600) : meets g n (fun a b d cd sz fa pl => F_X5_part_a0_0 g (n : Int) a b d al cd sz fa pl) (sPart g n al 6) := by
  have e : (fun a b d cd sz fa pl => F_X5_part_a0_0 g (n : Int) a b d al cd sz fa pl) = gPart g (n : Int) al (fun a b d cd sz fa pl => F_X5_sum_a0_1 g (n : Int) a b d al cd sz fa pl) (fun a b d cd sz fa pl => F_X5_part_a0_1 g (n : Int) a b d al cd sz fa pl) := rfl
  rw [e]
  exact gPart_m hn (su_1 hn) (sSum_ok 5) (pa_1 hn)
theorem prl_0 (g : Nat → Int) (n : Nat) (al : Int) : ∀ m : Nat, F_X5_product_a0_0_7 g (n : Int) al m = gl g (n : Int) (fun a b d cd sz fa pl => F_X5_part_a0_0 g (n : Int) a b d al cd sz fa pl) 42 47 (-22) (-23) m
  | 0 => rfl
  | m + 1 => by
    show F_X5_product_a0_0_7b g (n : Int) al (F_X5_product_a0_0_7 g (n : Int) al m) = gl_b g (n : Int) (fun a b d cd sz fa pl => F_X5_part_a0_0 g (n : Int) a b d al cd sz fa pl) 42 47 (-22) (-23) (gl g (n : Int) (fun a b d cd sz fa pl => F_X5_part_a0_0 g (n : Int) a b d al cd sz fa pl) 42 47 (-22) (-23) m)
    rw [prl_0 g n al m]
    rfl
theorem pr_0 {g : Nat → Int} {n : Nat} {al : Int} (hn : n ≤ 1600) : meets g n (fun a b d cd sz fa pl => F_X5_product_a0_0 g (n : Int) a b d al cd sz fa pl) (sPrO g n (sPart g n al 6)) := by
  have e : (fun a b d cd sz fa pl => F_X5_product_a0_0 g (n : Int) a b d al cd sz fa pl) = gL g (n : Int) (fun a b d cd sz fa pl => F_X5_part_a0_0 g (n : Int) a b d al cd sz fa pl) 42 47 (-22) (-23) := by
    funext a b d cd sz fa pl
    unfold F_X5_product_a0_0
    rw [prl_0]
    rfl
  rw [e]
  exact gL_m hn (pa_0 hn) (sPart_ok 6)
theorem sul_0 (g : Nat → Int) (n : Nat) (al : Int) : ∀ m : Nat, F_X5_sum_a0_0_7 g (n : Int) al m = gl g (n : Int) (fun a b d cd sz fa pl => F_X5_product_a0_0 g (n : Int) a b d al cd sz fa pl) 43 45 (-20) (-21) m
  | 0 => rfl
  | m + 1 => by
    show F_X5_sum_a0_0_7b g (n : Int) al (F_X5_sum_a0_0_7 g (n : Int) al m) = gl_b g (n : Int) (fun a b d cd sz fa pl => F_X5_product_a0_0 g (n : Int) a b d al cd sz fa pl) 43 45 (-20) (-21) (gl g (n : Int) (fun a b d cd sz fa pl => F_X5_product_a0_0 g (n : Int) a b d al cd sz fa pl) 43 45 (-20) (-21) m)
    rw [sul_0 g n al m]
    rfl
theorem su_0 {g : Nat → Int} {n : Nat} {al : Int} (hn : n ≤ 1600) : meets g n (fun a b d cd sz fa pl => F_X5_sum_a0_0 g (n : Int) a b d al cd sz fa pl) (sSum g n al 6) := by
  have e : (fun a b d cd sz fa pl => F_X5_sum_a0_0 g (n : Int) a b d al cd sz fa pl) = gL g (n : Int) (fun a b d cd sz fa pl => F_X5_product_a0_0 g (n : Int) a b d al cd sz fa pl) 43 45 (-20) (-21) := by
    funext a b d cd sz fa pl
    unfold F_X5_sum_a0_0
    rw [sul_0]
    rfl
  rw [e]
  exact gL_m hn (pr_0 hn) (sPrO_ok (sPart_ok 6))
theorem fa_0 {g : Nat → Int} {n : Nat} {al : Int} (hn : n ≤ 1600) : meets g n (fun a b d cd sz fa pl => F_X5_fact_a0_0 g (n : Int) a b d al cd sz fa pl) (sFact g n al 6) := by
  have e : (fun a b d cd sz fa pl => F_X5_fact_a0_0 g (n : Int) a b d al cd sz fa pl) = gFact g (n : Int) (fun a b d cd sz fa pl => F_X5_sum_a0_0 g (n : Int) a b d al cd sz fa pl) (fun a b d cd sz fa pl => F_X5_test_a0_1 g (n : Int) a b d al cd sz fa pl) (fun a b d cd sz fa pl => F_X5_fact_a0_1 g (n : Int) a b d al cd sz fa pl) := rfl
  rw [e]
  exact gFact_m hn (su_0 hn) (sSum_ok 6) (te_1 hn) (sTest_ok 5) (fa_1 hn)
theorem bol_0 (g : Nat → Int) (n : Nat) (al : Int) : ∀ m : Nat, F_X5_both_a0_0_7 g (n : Int) al m = gv (fun a b d cd sz fa pl => F_X5_fact_a0_0 g (n : Int) a b d al cd sz fa pl) (F_X5_takeWord_s14 g (n : Int)) (-29) m
  | 0 => rfl
  | m + 1 => by
    show F_X5_both_a0_0_7b g (n : Int) al (F_X5_both_a0_0_7 g (n : Int) al m) = gv_b (fun a b d cd sz fa pl => F_X5_fact_a0_0 g (n : Int) a b d al cd sz fa pl) (F_X5_takeWord_s14 g (n : Int)) (-29) (gv (fun a b d cd sz fa pl => F_X5_fact_a0_0 g (n : Int) a b d al cd sz fa pl) (F_X5_takeWord_s14 g (n : Int)) (-29) m)
    rw [bol_0 g n al m]
    rfl
theorem bo_0 {g : Nat → Int} {n : Nat} {al : Int} (hn : n ≤ 1600) : meets g n (fun a b d cd sz fa pl => F_X5_both_a0_0 g (n : Int) a b d al cd sz fa pl) (sBoO g n (sFact g n al 6)) := by
  have e : (fun a b d cd sz fa pl => F_X5_both_a0_0 g (n : Int) a b d al cd sz fa pl) = gV (fun a b d cd sz fa pl => F_X5_fact_a0_0 g (n : Int) a b d al cd sz fa pl) (F_X5_takeWord_s14 g (n : Int)) (-29) := by
    funext a b d cd sz fa pl
    unfold F_X5_both_a0_0
    rw [bol_0]
    rfl
  rw [e]
  exact gV_m hn (F_X5_takeWord_s14_t hn) (fa_0 hn) (sFact_ok 6)
theorem tel_0 (g : Nat → Int) (n : Nat) (al : Int) : ∀ m : Nat, F_X5_test_a0_0_7 g (n : Int) al m = gv (fun a b d cd sz fa pl => F_X5_both_a0_0 g (n : Int) a b d al cd sz fa pl) (F_X5_takeWord_s13 g (n : Int)) (-30) m
  | 0 => rfl
  | m + 1 => by
    show F_X5_test_a0_0_7b g (n : Int) al (F_X5_test_a0_0_7 g (n : Int) al m) = gv_b (fun a b d cd sz fa pl => F_X5_both_a0_0 g (n : Int) a b d al cd sz fa pl) (F_X5_takeWord_s13 g (n : Int)) (-30) (gv (fun a b d cd sz fa pl => F_X5_both_a0_0 g (n : Int) a b d al cd sz fa pl) (F_X5_takeWord_s13 g (n : Int)) (-30) m)
    rw [tel_0 g n al m]
    rfl
theorem te_0 {g : Nat → Int} {n : Nat} {al : Int} (hn : n ≤ 1600) : meets g n (fun a b d cd sz fa pl => F_X5_test_a0_0 g (n : Int) a b d al cd sz fa pl) (sTest g n al 6) := by
  have e : (fun a b d cd sz fa pl => F_X5_test_a0_0 g (n : Int) a b d al cd sz fa pl) = gV (fun a b d cd sz fa pl => F_X5_both_a0_0 g (n : Int) a b d al cd sz fa pl) (F_X5_takeWord_s13 g (n : Int)) (-30) := by
    funext a b d cd sz fa pl
    unfold F_X5_test_a0_0
    rw [tel_0]
    rfl
  rw [e]
  exact gV_m hn (F_X5_takeWord_s13_t hn) (bo_0 hn) (spV_ok (sFact_ok 6))
end
section
/-! 29h -/
/-! what is coded grows by one at least, and by no more than there are bytes -/
theorem em_le (c : CD) (op : Int) : c.1 ≤ (em c op).1 ∧ (em c op).1 ≤ c.1 + 1 := by
  unfold em F_X5_emit
  split
  · exact ⟨Int.le_refl _, by show c.1 ≤ c.1 + 1; omega⟩
  · exact ⟨by show c.1 ≤ c.1 + 1; omega, Int.le_refl _⟩
theorem em_1 {c : CD} (op : Int) (h : c.1 < 1600) : (em c op).1 = c.1 + 1 := by
  unfold em F_X5_emit
  rw [if_neg (by omega)]
def okG (n : Nat) (sp : Nat → CD → ST × CD) : Prop := ∀ p c, p ≤ n → 0 ≤ c.1 → c.1 ≤ (p : Int) → ∀ q, (sp p c).1 = .inr q → c.1 < (sp p c).2.1 ∧ (sp p c).2.1 ≤ c.1 + ((q : Int) - (p : Int))
theorem lpS_G {g : Nat → Int} {n : Nat} {sp : Nat → CD → ST × CD} {c1 c2 o1 o2 : Int} (h : okR n sp) (hG : okG n sp) : ∀ (m p : Nat) (c : CD), p ≤ n → 0 ≤ c.1 → c.1 ≤ (p : Int) → ∀ q, (lpS g n sp c1 c2 o1 o2 m p c).1 = .inr q → c.1 ≤ (lpS g n sp c1 c2 o1 o2 m p c).2.1 ∧ (lpS g n sp c1 c2 o1 o2 m p c).2.1 ≤ c.1 + ((q : Int) - (p : Int)) := by
  intro m
  induction m with
  | zero => intro p c hp h0 h1 q e; cases e; exact ⟨Int.le_refl _, by show c.1 ≤ _; omega⟩
  | succ m ih =>
    intro p c hp h0 h1 q
    have step : ∀ o, tx_k g n p = 3 → (sbC (sp (tx_e g n p) c).1 (sp (tx_e g n p) c).2 (fun p2 d => lpS g n sp c1 c2 o1 o2 m p2 (em d o))).1 = .inr q → c.1 ≤ (sbC (sp (tx_e g n p) c).1 (sp (tx_e g n p) c).2 (fun p2 d => lpS g n sp c1 c2 o1 o2 m p2 (em d o))).2.1 ∧ (sbC (sp (tx_e g n p) c).1 (sp (tx_e g n p) c).2 (fun p2 d => lpS g n sp c1 c2 o1 o2 m p2 (em d o))).2.1 ≤ c.1 + ((q : Int) - (p : Int)) := by
      intro o hk r
      have h5 := h (tx_e g n p) c (tx_e_le hp)
      have h2 : p < tx_e g n p := tx_e_gt' (by omega)
      have h6 := hG (tx_e g n p) c (tx_e_le hp) h0 (by omega)
      cases e : (sp (tx_e g n p) c).1 with
      | inl q0 => rw [e] at r; cases r
      | inr p2 =>
        rw [e] at h5 h6 r
        have h3 := h5.2 p2 rfl
        have h7 := h6 p2 rfl
        have h8 := em_le (sp (tx_e g n p) c).2 o
        have h9 := ih p2 (em (sp (tx_e g n p) c).2 o) h5.1 (by omega) (by omega) q r
        show c.1 ≤ (lpS g n sp c1 c2 o1 o2 m p2 (em (sp (tx_e g n p) c).2 o)).2.1 ∧ (lpS g n sp c1 c2 o1 o2 m p2 (em (sp (tx_e g n p) c).2 o)).2.1 ≤ c.1 + ((q : Int) - (p : Int))
        exact ⟨by omega, by omega⟩
    unfold lpS
    split
    · rename_i k; exact step o1 k.1
    · split
      · rename_i k; exact step o2 k.1
      · intro e; cases e; exact ⟨Int.le_refl _, by show c.1 ≤ _; omega⟩
theorem spL_G {g : Nat → Int} {n : Nat} {sp : Nat → CD → ST × CD} {c1 c2 o1 o2 : Int} (h : okR n sp) (hG : okG n sp) : okG n (spL g n sp c1 c2 o1 o2) := by
  intro p c hp h0 h1 q
  have h5 := h p c hp
  have h6 := hG p c hp h0 h1
  unfold spL
  cases e : (sp p c).1 with
  | inl q0 => intro r; cases r
  | inr p2 =>
    rw [e] at h5 h6
    have h3 := h5.2 p2 rfl
    have h7 := h6 p2 rfl
    intro r
    have h9 := lpS_G (g := g) (c1 := c1) (c2 := c2) (o1 := o1) (o2 := o2) h hG 1602 p2 (sp p c).2 h5.1 (by omega) (by omega) q r
    show c.1 < (lpS g n sp c1 c2 o1 o2 1602 p2 (sp p c).2).2.1 ∧ (lpS g n sp c1 c2 o1 o2 1602 p2 (sp p c).2).2.1 ≤ _
    exact ⟨by omega, by omega⟩
theorem lpV_G {g : Nat → Int} {n : Nat} {sp : Nat → CD → ST × CD} {ws : List (List Int)} {op : Int} (h : okR n sp) (hG : okG n sp) : ∀ (m p : Nat) (c : CD), p ≤ n → 0 ≤ c.1 → c.1 ≤ (p : Int) → ∀ q, (lpV g n sp ws op m p c).1 = .inr q → c.1 ≤ (lpV g n sp ws op m p c).2.1 ∧ (lpV g n sp ws op m p c).2.1 ≤ c.1 + ((q : Int) - (p : Int)) := by
  intro m
  induction m with
  | zero => intro p c hp h0 h1 q e; cases e; exact ⟨Int.le_refl _, by show c.1 ≤ _; omega⟩
  | succ m ih =>
    intro p c hp h0 h1 q
    unfold lpV
    split
    · intro e; cases e; exact ⟨Int.le_refl _, by show c.1 ≤ _; omega⟩
    · rename_i hk
      have h5 := h (tx_e g n p) c (tx_e_le hp)
      have h2 : p < tx_e g n p := tx_e_gt' (by have := wl_k hk; omega)
      have h6 := hG (tx_e g n p) c (tx_e_le hp) h0 (by omega)
      cases e : (sp (tx_e g n p) c).1 with
      | inl q0 => intro r; cases r
      | inr p2 =>
        rw [e] at h5 h6
        have h3 := h5.2 p2 rfl
        have h7 := h6 p2 rfl
        have h8 := em_le (sp (tx_e g n p) c).2 op
        intro r
        have h9 := ih p2 (em (sp (tx_e g n p) c).2 op) h5.1 (by omega) (by omega) q r
        show c.1 ≤ (lpV g n sp ws op m p2 (em (sp (tx_e g n p) c).2 op)).2.1 ∧ (lpV g n sp ws op m p2 (em (sp (tx_e g n p) c).2 op)).2.1 ≤ _
        exact ⟨by omega, by omega⟩
theorem spV_G {g : Nat → Int} {n : Nat} {sp : Nat → CD → ST × CD} {ws : List (List Int)} {op : Int} (h : okR n sp) (hG : okG n sp) : okG n (spV g n sp ws op) := by
  intro p c hp h0 h1 q
  have h5 := h p c hp
  have h6 := hG p c hp h0 h1
  unfold spV
  cases e : (sp p c).1 with
  | inl q0 => intro r; cases r
  | inr p2 =>
    rw [e] at h5 h6
    have h3 := h5.2 p2 rfl
    have h7 := h6 p2 rfl
    intro r
    have h9 := lpV_G (g := g) (ws := ws) (op := op) h hG 1602 p2 (sp p c).2 h5.1 (by omega) (by omega) q r
    show c.1 < (lpV g n sp ws op 1602 p2 (sp p c).2).2.1 ∧ (lpV g n sp ws op 1602 p2 (sp p c).2).2.1 ≤ _
    exact ⟨by omega, by omega⟩
theorem pair_G {g : Nat → Int} {n : Nat} {S : Nat → CD → ST × CD} {b : Bool} {op : Int} (h : okR n S) (hG : okG n S) : okG n (sp_pair g n b S op) := by
  intro p c hp h0 h1 q
  unfold sp_pair
  split
  · rename_i k
    have hlt : p < tx_e g n p := tx_e_gt' (by have := k.1; omega)
    cases b with
    | false => rw [opn_f]; intro r; cases r
    | true =>
      rw [opn_t]
      have h5 := h (tx_e g n p) c (tx_e_le hp)
      have h6 := hG (tx_e g n p) c (tx_e_le hp) h0 (by omega)
      cases e1 : (S (tx_e g n p) c).1 with
      | inl q0 => intro r; cases r
      | inr p1 =>
        rw [e1] at h5 h6
        have l1 := h5.2 p1 rfl
        have g1 := h6 p1 rfl
        show sb (sbC (sp_need g n 44 p1) (S (tx_e g n p) c).2 S).1 (sp_need g n 41) = .inr q → c.1 < (em (sbC (sp_need g n 44 p1) (S (tx_e g n p) c).2 S).2 op).1 ∧ (em (sbC (sp_need g n 44 p1) (S (tx_e g n p) c).2 S).2 op).1 ≤ _
        have h2 := sp_need_v (g := g) 44 h5.1
        cases e2 : sp_need g n 44 p1 with
        | inl q0 => intro r; cases r
        | inr p2 =>
          rw [e2] at h2
          have l2 := sp_need_gt e2
          have h3 := h p2 (S (tx_e g n p) c).2 h2
          have g3 := hG p2 (S (tx_e g n p) c).2 h2 (by omega) (by omega)
          show sb (S p2 (S (tx_e g n p) c).2).1 (sp_need g n 41) = .inr q → c.1 < (em (S p2 (S (tx_e g n p) c).2).2 op).1 ∧ (em (S p2 (S (tx_e g n p) c).2).2 op).1 ≤ _
          cases e3 : (S p2 (S (tx_e g n p) c).2).1 with
          | inl q0 => intro r; cases r
          | inr p3 =>
            rw [e3] at h3 g3
            have l3 := h3.2 p3 rfl
            have g4 := g3 p3 rfl
            intro r
            have l4 := sp_need_gt (show sp_need g n 41 p3 = .inr q from r)
            have h8 := em_le (S p2 (S (tx_e g n p) c).2).2 op
            exact ⟨by omega, by omega⟩
  · intro r; cases r
theorem pw_G {g : Nat → Int} {n : Nat} {al : Int} (hn : n ≤ 1600) : okG n (sp_pw g n al) := by
  intro p c hp h0 h1 q
  have hok := (pw_ok (g := g) (al := al) p c hp)
  unfold sp_pw at *
  split
  · intro r; cases r
  · rename_i k
    intro r
    rw [if_neg k] at hok
    have l := hok.2 q r
    have l2 : q ≤ n := by
      have := hok.1
      cases r
      exact this
    have := em_1 (c := c) (-1 - wl g n ws_20 p) (by omega)
    exact ⟨by show c.1 < (em c _).1; omega, by show (em c _).1 ≤ _; omega⟩
theorem part_G {g : Nat → Int} {n : Nat} {al : Int} {b : Bool} {S P : Nat → CD → ST × CD} (hn : n ≤ 1600) (hS : okR n S) (gS : okG n S) (hP : okR n P) (gP : okG n P) : okG n (sp_partD g n al b S P) := by
  intro p c hp h0 h1 q
  unfold sp_partD
  split
  · intro r
    have l := sp_num_gt r
    have l2 : q ≤ n := by
      have := sp_num_v (g := g) 0 9999 hp
      have r' : (sp_num g n 0 9999 p).2 = .inr q := r
      rw [r'] at this
      exact this
    have := em_1 (c := c) (sp_num g n 0 9999 p).1 (by omega)
    exact ⟨by show c.1 < (em c _).1; omega, by show (em c _).1 ≤ _; omega⟩
  · split
    · rename_i k
      have hlt : p < tx_e g n p := tx_e_gt' (by have := k.1; omega)
      cases b with
      | false => rw [opn_f]; intro r; cases r
      | true =>
        rw [opn_t]
        have h5 := hS (tx_e g n p) c (tx_e_le hp)
        have h6 := gS (tx_e g n p) c (tx_e_le hp) h0 (by omega)
        cases e1 : (S (tx_e g n p) c).1 with
        | inl q0 => intro r; cases r
        | inr p1 =>
          rw [e1] at h5 h6
          have l1 := h5.2 p1 rfl
          have g1 := h6 p1 rfl
          intro r
          have l4 := sp_need_gt (show sp_need g n 41 p1 = .inr q from r)
          exact ⟨g1.1, by show (S (tx_e g n p) c).2.1 ≤ _; omega⟩
    · split
      · rename_i k
        have hlt : p < tx_e g n p := tx_e_gt' (by have := wl_k k; omega)
        intro r
        have := pair_G (g := g) (b := b) (op := -24) hS gS (tx_e g n p) c (tx_e_le hp) h0 (by omega) q r
        exact ⟨this.1, by omega⟩
      · split
        · rename_i k
          have hlt : p < tx_e g n p := tx_e_gt' (by have := wl_k k; omega)
          intro r
          have := pair_G (g := g) (b := b) (op := -25) hS gS (tx_e g n p) c (tx_e_le hp) h0 (by omega) q r
          exact ⟨this.1, by omega⟩
        · split
          · rename_i k
            have hlt : p < tx_e g n p := tx_e_gt' (by have := wl_k k.2; omega)
            cases b with
            | false => rw [opn_f]; intro r; cases r
            | true =>
              rw [opn_t]
              intro r
              have g1 := gP (tx_e g n p) c (tx_e_le hp) h0 (by omega) q r
              have h8 := em_le (P (tx_e g n p) c).2 (-32)
              exact ⟨by show c.1 < (em _ _).1; omega, by show (em _ _).1 ≤ _; omega⟩
          · exact pw_G hn p c hp h0 h1 q
theorem cmp_G {g : Nat → Int} {n : Nat} {S : Nat → CD → ST × CD} (h : okR n S) (hG : okG n S) : okG n (spCmp g n S) := by
  intro p c hp h0 h1 q
  have h5 := h p c hp
  have h6 := hG p c hp h0 h1
  unfold spCmp
  show (sbC (sbv (S p c).1 (sp_sg g n) (-28)).2 (S p c).2 S).1 = .inr q → c.1 < (em (sbC (sbv (S p c).1 (sp_sg g n) (-28)).2 (S p c).2 S).2 (sbv (S p c).1 (sp_sg g n) (-28)).1).1 ∧ (em (sbC (sbv (S p c).1 (sp_sg g n) (-28)).2 (S p c).2 S).2 (sbv (S p c).1 (sp_sg g n) (-28)).1).1 ≤ _
  cases e1 : (S p c).1 with
  | inl q0 => intro r; cases r
  | inr p1 =>
    rw [e1] at h5 h6
    have l1 := h5.2 p1 rfl
    have g1 := h6 p1 rfl
    show (sbC (sp_sg g n p1).2 (S p c).2 S).1 = .inr q → c.1 < (em (sbC (sp_sg g n p1).2 (S p c).2 S).2 (sp_sg g n p1).1).1 ∧ (em (sbC (sp_sg g n p1).2 (S p c).2 S).2 (sp_sg g n p1).1).1 ≤ _
    have h2 := sp_sg_v (g := g) h5.1
    cases e2 : (sp_sg g n p1).2 with
    | inl q0 => intro r; cases r
    | inr p2 =>
      rw [e2] at h2
      have l2 := sp_sg_gt e2
      have g3 := hG p2 (S p c).2 h2 (by omega) (by omega)
      intro r
      have g4 := g3 q r
      have h8 := em_le (S p2 (S p c).2).2 (sp_sg g n p1).1
      show c.1 < (em (S p2 (S p c).2).2 (sp_sg g n p1).1).1 ∧ (em (S p2 (S p c).2).2 (sp_sg g n p1).1).1 ≤ _
      exact ⟨by omega, by omega⟩
theorem fact_G {g : Nat → Int} {n : Nat} {b : Bool} {S T Fq : Nat → CD → ST × CD} (hn : n ≤ 1600) (hS : okR n S) (gS : okG n S) (hT : okR n T) (gT : okG n T) (gF : okG n Fq) : okG n (sp_factD g n b S T Fq) := by
  intro p c hp h0 h1 q
  unfold sp_factD
  split
  · rename_i k
    have hlt : p < tx_e g n p := tx_e_gt' (by have := wl_k k; omega)
    cases b with
    | false => rw [opn_f]; intro r; cases r
    | true =>
      rw [opn_t]
      intro r
      have g1 := gF (tx_e g n p) c (tx_e_le hp) h0 (by omega) q r
      have h8 := em_le (Fq (tx_e g n p) c).2 (-31)
      exact ⟨by show c.1 < (em _ _).1; omega, by show (em _ _).1 ≤ _; omega⟩
  · split
    · rename_i k
      have hlt : p < tx_e g n p := tx_e_gt' (by have := k.1; omega)
      cases b with
      | false => rw [opn_f]; intro r; cases r
      | true =>
        rw [opn_t]
        have h5 := hT (tx_e g n p) c (tx_e_le hp)
        have h6 := gT (tx_e g n p) c (tx_e_le hp) h0 (by omega)
        cases e1 : (T (tx_e g n p) c).1 with
        | inl q0 => intro r; cases r
        | inr p1 =>
          rw [e1] at h5 h6
          have l1 := h5.2 p1 rfl
          have g1 := h6 p1 rfl
          intro r
          have l4 := sp_need_gt (show sp_need g n 93 p1 = .inr q from r)
          exact ⟨g1.1, by show (T (tx_e g n p) c).2.1 ≤ _; omega⟩
    · split
      · rename_i k
        intro r
        have hlt : p < tx_e g n p := tx_e_gt' (by have := wl_k k; omega)
        have hle := tx_e_le (f := g) hp
        have e : tx_e g n p = q := by cases r; rfl
        have := em_1 (c := c) 1 (by omega)
        exact ⟨by show c.1 < (em c _).1; omega, by show (em c _).1 ≤ _; omega⟩
      · exact cmp_G hS gS p c hp h0 h1 q
theorem dmR_G {n : Nat} : okG n dmR := fun p c hp h0 h1 q r => by cases r
theorem sPart_G {g : Nat → Int} {n : Nat} {al : Int} (hn : n ≤ 1600) : ∀ d, okG n (sPart g n al d)
  | 0 => part_G hn dmR_ok dmR_G dmR_ok dmR_G
  | d + 1 => part_G hn (sSuO_ok (sPart_ok d)) (spL_G (sPrO_ok (sPart_ok d)) (spL_G (sPart_ok d) (sPart_G hn d))) (sPart_ok d) (sPart_G hn d)
theorem sSum_G {g : Nat → Int} {n : Nat} {al : Int} (hn : n ≤ 1600) (d : Nat) : okG n (sSum g n al d) := spL_G (sPrO_ok (sPart_ok d)) (spL_G (sPart_ok d) (sPart_G hn d))
theorem sFact_G {g : Nat → Int} {n : Nat} {al : Int} (hn : n ≤ 1600) : ∀ d, okG n (sFact g n al d)
  | 0 => fact_G hn (sSum_ok 0) (sSum_G hn 0) dmR_ok dmR_G dmR_G
  | d + 1 => fact_G hn (sSum_ok (d + 1)) (sSum_G hn (d + 1)) (sTeO_ok (sFact_ok d)) (spV_G (spV_ok (sFact_ok d)) (spV_G (sFact_ok d) (sFact_G hn d))) (sFact_G hn d)
theorem sTest_G {g : Nat → Int} {n : Nat} {al : Int} (hn : n ≤ 1600) (d : Nat) : okG n (sTest g n al d) := spV_G (spV_ok (sFact_ok d)) (spV_G (sFact_ok d) (sFact_G hn d))
end
section
/-! 2a -/
/-! the class reads a text -/
theorem sbv_in {s : ST} {f : Nat → Int × ST} {d : Int} {q : Nat} (h : (sbv s f d).2 = .inr q) : ∃ p, s = .inr p ∧ (f p).2 = .inr q := by
  cases s with
  | inl x => cases h
  | inr p => exact ⟨p, rfl, h⟩
theorem sb_in {s : ST} {f : Nat → ST} {q : Nat} (h : sb s f = .inr q) : ∃ p, s = .inr p ∧ f p = .inr q := by
  cases s with
  | inl x => cases h
  | inr p => exact ⟨p, rfl, h⟩
theorem sp_w_gt {g : Nat → Int} {n p q : Nat} {ws : List (List Int)} (h : sp_w g n ws p = .inr q) : p < q := by
  unfold sp_w at h
  split at h
  · cases h
  · rename_i k
    cases h
    exact tx_e_gt' (by have := wl_k k; omega)
theorem sp_nb_gt {g : Nat → Int} {n p q : Nat} {ws : List (List Int)} {lo hi : Int} (h : (sp_nb g n ws lo hi p).2 = .inr q) : p < q := by
  unfold sp_nb at h
  cases e : sp_w g n ws p with
  | inl x => rw [e] at h; cases h
  | inr p2 =>
    rw [e] at h
    have h1 := sp_w_gt e
    have h2 := sp_num_gt (show (sp_num g n lo hi p2).2 = .inr q from h)
    omega
theorem sp_new_gt {g : Nat → Int} {n p q : Nat} {Ks Ws : List (List Int)} (h : sp_new g n Ks Ws p = .inr q) : p < q ∧ isNm g n p = true := by
  unfold sp_new at h
  split at h
  · rename_i k
    split at h
    · cases h
      exact ⟨tx_e_gt' (by have := (isNm_W k).1; omega), k⟩
    · cases h
  · cases h
theorem sp_kn_gt {g : Nat → Int} {n p q : Nat} {Ks : List (List Int)} (h : (sp_kn g n Ks p).2 = .inr q) : p < q := by
  unfold sp_kn at h
  split at h
  · rename_i k
    split at h
    · cases h
    · cases h
      exact tx_e_gt' (by have := (isNm_W k).1; omega)
  · cases h
theorem sp_k3_gt {g : Nat → Int} {n p q : Nat} {Ks Ws : List (List Int)} (h : (sp_k3 g n Ks Ws p).2 = .inr q) : tx_e g n p < q ∧ isNm g n (tx_e g n p) = true ∧ ∃ p1, sp_k0 g n Ks Ws p = .inr p1 := by
  obtain ⟨p3, e3, h3⟩ := sbv_in h
  obtain ⟨p2, e2, h2⟩ := sbv_in e3
  obtain ⟨p1, e1, h1⟩ := sbv_in e2
  have l0 := sp_new_gt e1
  have l1 := sp_nb_gt h1
  have l2 := sp_nb_gt h2
  have l3 := sp_nb_gt h3
  exact ⟨by have := l0.1; omega, l0.2, p1, e1⟩
theorem sp_c3_gt {g : Nat → Int} {n p q : Nat} {Ks Ws : List (List Int)} (h : (sp_c3 g n Ks Ws p).2 = .inr q) : tx_e g n p < q ∧ isNm g n (tx_e g n p) = true ∧ ∃ p1, sp_k0 g n Ks Ws p = .inr p1 := by
  obtain ⟨p3, e3, h3⟩ := sbv_in h
  obtain ⟨p2, e2, h2⟩ := sbv_in e3
  obtain ⟨p1, e1, h1⟩ := sb_in e2
  have l0 := sp_new_gt e1
  have l1 := sp_w_gt h1
  have l2 := sp_kn_gt h2
  have l3 := sp_nb_gt h3
  exact ⟨by have := l0.1; omega, l0.2, p1, e1⟩
def ap9 (c : Int × Int × Int × Int × Int) (al sz : Int) (sp cd : Nat → Int) : Int × Int × Int × Int × Int × Int × Int × (Nat → Int) × (Nat → Int) := (c.1, c.2.1, c.2.2.1, al, c.2.2.2.1, c.2.2.2.2, sz, sp, cd)
/-- the code of a statement -/
def cod (g : Nat → Int) (n : Nat) (i : Int) (al : Int) (p : Nat) (c : CD) : ST × CD := if i = 4 then sSum g n al 6 p c else sTest g n al 6 p c
theorem cod_ok {g : Nat → Int} {n : Nat} {i al : Int} : okR n (cod g n i al) := by
  intro p c hp
  unfold cod
  split
  · exact sSum_ok 6 p c hp
  · exact sTest_ok 6 p c hp
theorem cod_G {g : Nat → Int} {n : Nat} {i al : Int} (hn : n ≤ 1600) : okG n (cod g n i al) := by
  intro p c hp h0 h1
  unfold cod
  split
  · exact sSum_G hn 6 p c hp h0 h1
  · exact sTest_G hn 6 p c hp h0 h1
theorem cl_code1 {g : Nat → Int} {n p : Nat} {c : CD} {sp : Nat → Int} {al0 al i : Int} (hn : n ≤ 1600) (hp : p ≤ n) (h : sp (Int.toNat (i + 1)) ≤ sp (Int.toNat i)) : ∃ d : CD, F_X5_codeStatement g (n : Int) (tx_a g n p : Int) (tx_e g n p : Int) al0 c.2 c.1 sp (0 : Int) (-1 : Int) i al = ap9 (cst g n (cod g n i al (tx_e g n p) c).1) al d.1 (lf_up (lf_up sp i c.1) (i + 1) d.1) d.2 ∧ ∀ q, (cod g n i al (tx_e g n p) c).1 = .inr q → d = (cod g n i al (tx_e g n p) c).2 := by
  unfold F_X5_codeStatement F_X5_codeStatement_80 cod
  rw [if_pos h, cl_mve hn hp, lf_p_e, lf_p_e]
  by_cases q : i = 4
  · rw [if_pos q, if_pos q]
    obtain ⟨d, e1, e2⟩ := su_0 (al := al) hn (.inr (tx_e g n p)) c (tx_e_le hp)
    have e3 : F_X5_sum_a0_0 g (n : Int) (tx_a g n (tx_e g n p) : Int) (tx_e g n (tx_e g n p) : Int) (tx_k g n (tx_e g n p) : Int) al c.2 c.1 (0 : Int) (-1 : Int) = ap5 (cst g n (sSum g n al 6 (tx_e g n p) c).1) d := e1
    rw [e3]
    exact ⟨d, rfl, e2⟩
  · rw [if_neg q, if_neg q]
    obtain ⟨d, e1, e2⟩ := te_0 (al := al) hn (.inr (tx_e g n p)) c (tx_e_le hp)
    have e3 : F_X5_test_a0_0 g (n : Int) (tx_a g n (tx_e g n p) : Int) (tx_e g n (tx_e g n p) : Int) (tx_k g n (tx_e g n p) : Int) al c.2 c.1 (0 : Int) (-1 : Int) = ap5 (cst g n (sTest g n al 6 (tx_e g n p) c).1) d := e1
    rw [e3]
    exact ⟨d, rfl, e2⟩
theorem cl_code5 {g : Nat → Int} {n : Nat} {c : CD} {sp : Nat → Int} {al0 al i a e : Int} (h : ¬ sp (Int.toNat (i + 1)) ≤ sp (Int.toNat i)) : F_X5_codeStatement g (n : Int) a e al0 c.2 c.1 sp (0 : Int) (-1 : Int) i al = ap9 (cst g n (.inl (5, a))) al0 c.1 sp c.2 := by
  unfold F_X5_codeStatement
  rw [if_neg h, cl_fail0]
  rfl
/-- what has been told: names of kinds, of walkers, whether car, red, learns; what is coded -/
abbrev PL : Type := List (List Int) × List (List Int) × Bool × Bool × Bool × CD
def sp_st (g : Nat → Int) (n p : Nat) (st : PL) : ST × PL := if wl g n ws_0 p = 0 then (if st.1.length < 6 then ((sp_k3 g n st.1 st.2.1 p).2, (st.1 ++ [wd g n (tx_e g n p)], st.2)) else (.inl (5, (tx_a g n p : Int)), st)) else if wl g n ws_0 p = 1 then (if st.2.1.length < 12 then ((sp_c3 g n st.1 st.2.1 p).2, (st.1, st.2.1 ++ [wd g n (tx_e g n p)], st.2.2)) else (.inl (5, (tx_a g n p : Int)), st)) else if wl g n ws_0 p = 2 then (if st.2.2.1 = true then (.inl (5, (tx_a g n p : Int)), st) else ((cod g n 0 7 (tx_e g n p) st.2.2.2.2.2).1, (st.1, st.2.1, true, st.2.2.2.1, st.2.2.2.2.1, (cod g n 0 7 (tx_e g n p) st.2.2.2.2.2).2))) else if wl g n ws_0 p = 3 then (if st.2.2.2.1 = true then (.inl (5, (tx_a g n p : Int)), st) else ((cod g n 2 507 (tx_e g n p) st.2.2.2.2.2).1, (st.1, st.2.1, st.2.2.1, true, st.2.2.2.2.1, (cod g n 2 507 (tx_e g n p) st.2.2.2.2.2).2))) else if wl g n ws_0 p = 4 then (if st.2.2.2.2.1 = true then (.inl (5, (tx_a g n p : Int)), st) else ((cod g n 4 123 (tx_e g n p) st.2.2.2.2.2).1, (st.1, st.2.1, st.2.2.1, st.2.2.2.1, true, (cod g n 4 123 (tx_e g n p) st.2.2.2.2.2).2))) else if wl g n ws_0 p = 5 then ((sp_nb g n ws_1 0 100 p).2, st) else (.inl (1, (tx_a g n p : Int)), st)
def rcL (g : Nat → Int) (n : Nat) : Nat → Nat → Nat → PL → Sum (Int × Int) (Nat × PL)
  | 0, _, _, _ => .inl (0, 0)
  | f + 1, k, p, st => if tx_k g n p = 0 then .inr (k, st) else if 80 ≤ k then .inl (5, (tx_a g n p : Int)) else match sb (sp_st g n p st).1 (sp_need g n 59) with
    | .inl q => .inl q
    | .inr p2 => rcL g n f (k + 1) p2 (sp_st g n p st).2
abbrev RO : Type := Int × Int × Int × Int × Int × Int × Int × Int × Int × Int × Int × Int × Int × Int × Int × Int × (Nat → Int) × (Nat → Int) × (Nat → Int) × (Nat → Int) × (Nat → Int) × (Nat → Int) × (Nat → Int) × (Nat → Int) × (Nat → Int)
/-- what the output tells -/
def tellR (cy gr ru le : Int) (o : RO) (r : Sum (Int × Int) (Nat × PL)) : Prop := match r with
  | .inl q => o.2.2.2.2.2.1 = q.1 ∧ o.2.2.2.2.2.2.1 = q.2
  | .inr x => o.2.2.2.2.2.1 = 0 ∧ o.2.2.2.2.2.2.1 = -1 ∧ o.2.2.2.2.2.2.2.1 = cy ∧ o.2.2.2.2.2.2.2.2.1 = gr ∧ o.2.2.2.2.2.2.2.2.2.1 = ru ∧ o.2.2.2.2.2.2.2.2.2.2.1 = le ∧ o.2.2.2.2.2.2.2.2.2.2.2.2.1 = (x.1 : Int) ∧ o.2.2.2.2.2.2.2.2.2.2.2.2.2.1 = (x.2.1.length : Int) ∧ o.2.2.2.2.2.2.2.2.2.2.2.2.2.2.1 = (x.2.2.1.length : Int) ∧ nms o.2.2.2.2.2.2.2.2.2.2.2.2.2.2.2.2.2.2.1 x.2.1 x.2.2.1
theorem rc_146 {g : Nat → Int} {n : Nat} {s : ST} (hn : n ≤ 1600) (hv : sv n s) (cy gr ru le cnt : Int) (K : Int → Int → Int → Int → Int → Int → Int → Int → Int → Int → (Nat → Int) → (Nat → Int) → Int → Int → Int → Int → Int → Int → (Nat → Int) → (Nat → Int) → (Nat → Int) → (Nat → Int) → (Nat → Int) → (Nat → Int) → (Nat → Int) → RO) (ki : Int) (A5 A6 A7 A8 : Nat → Int) (wa : Int) (A2 A9 A10 : Nat → Int) (al sz : Int) (A3 A11 : Nat → Int) (aw : Int) : F_X5_readCrossing_146 g (n : Int) cy gr ru le cnt K (cst g n s).1 (cst g n s).2.1 (cst g n s).2.2.1 (cst g n s).2.2.2.1 (cst g n s).2.2.2.2 ki A5 A6 A7 A8 wa A2 A9 A10 al sz A3 A11 aw = K (n : Int) (cst g n (sb s (sp_need g n 59))).1 (cst g n (sb s (sp_need g n 59))).2.1 (cst g n (sb s (sp_need g n 59))).2.2.1 (cst g n (sb s (sp_need g n 59))).2.2.2.1 (cst g n (sb s (sp_need g n 59))).2.2.2.2 cy gr ru le A2 A3 (cnt + 1) al aw ki wa sz A5 A6 A7 A8 A9 A10 A11 := by
  unfold F_X5_readCrossing_146
  rw [cl_need_s hn hv, lf_pc]
  repeat rw [lf_p2]
theorem rc_0 {g : Nat → Int} {n m : Nat} {f q cy gr ru le cnt al aw ki wa sz : Int} {A2 A3 A5 A6 A7 A8 A9 A10 A11 : Nat → Int} : (F_X5_readCrossing_18 g (m + 1) (n : Int) (n : Int) (n : Int) (0 : Int) f q cy gr ru le A2 A3 cnt al aw ki wa sz A5 A6 A7 A8 A9 A10 A11).2.2.2.2.2.1 = f ∧ (F_X5_readCrossing_18 g (m + 1) (n : Int) (n : Int) (n : Int) (0 : Int) f q cy gr ru le A2 A3 cnt al aw ki wa sz A5 A6 A7 A8 A9 A10 A11).2.2.2.2.2.2.1 = q := by
  have e : F_X5_readCrossing_18 g (m + 1) (n : Int) (n : Int) (n : Int) (0 : Int) f q cy gr ru le A2 A3 cnt al aw ki wa sz A5 A6 A7 A8 A9 A10 A11 = F_X5_readCrossing_174 cnt (n : Int) (n : Int) (n : Int) (0 : Int) al f q cy gr ru le aw ki wa sz A2 A3 A5 A6 A7 A8 A9 A10 A11 := by
    show F_X5_readCrossing_18b g _ (n : Int) (n : Int) (n : Int) (0 : Int) f q cy gr ru le A2 A3 cnt al aw ki wa sz A5 A6 A7 A8 A9 A10 A11 = _
    unfold F_X5_readCrossing_18b F_X5_readCrossing_158
    rw [if_pos rfl, if_pos rfl]
  rw [e]
  exact ⟨rfl, rfl⟩
/-- whether each of the three has been told, by what its span holds -/
def tf (A : Nat → Int) (t0 t1 t2 : Bool) : Prop := (t0 = true ↔ ¬ A 1 ≤ A 0) ∧ (t1 = true ↔ ¬ A 3 ≤ A 2) ∧ (t2 = true ↔ ¬ A 5 ≤ A 4)
end
section
/-! 2b -/
theorem tf_0 {A : Nat → Int} {t0 t1 t2 : Bool} {x y : Int} (h : tf A t0 t1 t2) (hx : x < y) : tf (lf_up (lf_up A 0 x) (0 + 1) y) true t1 t2 := by
  refine ⟨⟨fun _ => ?_, fun _ => rfl⟩, h.2.1, h.2.2⟩
  show ¬ y ≤ x
  omega
theorem tf_1 {A : Nat → Int} {t0 t1 t2 : Bool} {x y : Int} (h : tf A t0 t1 t2) (hx : x < y) : tf (lf_up (lf_up A 2 x) (2 + 1) y) t0 true t2 := by
  refine ⟨h.1, ⟨fun _ => ?_, fun _ => rfl⟩, h.2.2⟩
  show ¬ y ≤ x
  omega
theorem tf_2 {A : Nat → Int} {t0 t1 t2 : Bool} {x y : Int} (h : tf A t0 t1 t2) (hx : x < y) : tf (lf_up (lf_up A 4 x) (4 + 1) y) t0 t1 true := by
  refine ⟨h.1, h.2.1, ⟨fun _ => ?_, fun _ => rfl⟩⟩
  show ¬ y ≤ x
  omega
theorem lf_p9 {γ : Type} (c : Int × Int × Int × Int × Int) (al sz : Int) (sp cd : Nat → Int) (G : Int → Int × Int × Int × Int × Int × Int × (Nat → Int) × (Nat → Int) → γ) : lf_p (ap9 c al sz sp cd) G = G c.1 (c.2.1, c.2.2.1, al, c.2.2.2.1, c.2.2.2.2, sz, sp, cd) := rfl
theorem sv_le {n q : Nat} {s : ST} (h : sv n s) (e : s = .inr q) : q ≤ n := by rw [e] at h; exact h
theorem rc_loop {g : Nat → Int} {n : Nat} {cy gr ru le : Int} (hn : n ≤ 1600) : ∀ (f k p : Nat) (st : PL) (al aw : Int) (A2 A3 A5 A6 A7 A8 A9 A10 : Nat → Int), p ≤ n → k ≤ 80 → 81 ≤ k + f → nms A5 st.1 st.2.1 → tf A3 st.2.2.1 st.2.2.2.1 st.2.2.2.2.1 → 0 ≤ st.2.2.2.2.2.1 → st.2.2.2.2.2.1 ≤ (p : Int) → tellR cy gr ru le (F_X5_readCrossing_18 g f (n : Int) (tx_a g n p : Int) (tx_e g n p : Int) (tx_k g n p : Int) (0 : Int) (-1 : Int) cy gr ru le A2 A3 (k : Int) al aw (st.1.length : Int) (st.2.1.length : Int) st.2.2.2.2.2.1 A5 A6 A7 A8 A9 A10 st.2.2.2.2.2.2) (rcL g n f k p st) := by
  intro f
  induction f with
  | zero => intro k p st al aw A2 A3 A5 A6 A7 A8 A9 A10 h1 h2 h3; omega
  | succ f ih =>
    intro k p st al aw A2 A3 A5 A6 A7 A8 A9 A10 h1 h2 h3 h4 h5 h6 h7
    show tellR cy gr ru le (F_X5_readCrossing_18b g (F_X5_readCrossing_18 g f) (n : Int) (tx_a g n p : Int) (tx_e g n p : Int) (tx_k g n p : Int) (0 : Int) (-1 : Int) cy gr ru le A2 A3 (k : Int) al aw (st.1.length : Int) (st.2.1.length : Int) st.2.2.2.2.2.1 A5 A6 A7 A8 A9 A10 st.2.2.2.2.2.2) _
    unfold F_X5_readCrossing_18b rcL
    by_cases k0 : tx_k g n p = 0
    · rw [if_pos (by omega), if_pos k0]
      unfold F_X5_readCrossing_158 F_X5_readCrossing_174
      rw [if_pos (by omega)]
      exact ⟨rfl, rfl, rfl, rfl, rfl, rfl, rfl, rfl, rfl, h4⟩
    · rw [if_neg (by omega), if_neg k0]
      by_cases k1 : 80 ≤ k
      · rw [if_pos (by omega), if_pos k1]
        unfold F_X5_readCrossing_158 F_X5_readCrossing_174
        rw [if_neg (by omega), cl_fail0, lf_p_e]
        exact ⟨rfl, rfl⟩
      · rw [if_neg (by omega), if_neg k1, lf_b_e, cl_w_0, wl_c]
        have hlt : p < tx_e g n p := tx_e_gt' k0
        have hle := tx_e_le (f := g) h1
        have key : ∀ (s : ST) (st2 : PL) (ki wa : Int) (d : CD) (al2 aw2 : Int) (B2 B3 B5 B6 B7 B8 B9 B10 : Nat → Int), sv n s → (∀ q, s = .inr q → p ≤ q ∧ ki = (st2.1.length : Int) ∧ wa = (st2.2.1.length : Int) ∧ d = st2.2.2.2.2.2 ∧ nms B5 st2.1 st2.2.1 ∧ tf B3 st2.2.2.1 st2.2.2.2.1 st2.2.2.2.2.1 ∧ 0 ≤ d.1 ∧ d.1 ≤ (q : Int)) → tellR cy gr ru le (F_X5_readCrossing_146 g (n : Int) cy gr ru le (k : Int) (F_X5_readCrossing_18 g f) (cst g n s).1 (cst g n s).2.1 (cst g n s).2.2.1 (cst g n s).2.2.2.1 (cst g n s).2.2.2.2 ki B5 B6 B7 B8 wa B2 B9 B10 al2 d.1 B3 d.2 aw2) (match sb s (sp_need g n 59) with
            | .inl q => .inl q
            | .inr p2 => rcL g n f (k + 1) p2 st2) := by
          intro s st2 ki wa d al2 aw2 B2 B3 B5 B6 B7 B8 B9 B10 hv hx
          rw [rc_146 hn hv]
          have hv2 : sv n (sb s (sp_need g n 59)) := sp_need_sv hv
          cases e : sb s (sp_need g n 59) with
          | inl q =>
            obtain ⟨f', rfl⟩ : ∃ f', f = f' + 1 := ⟨f - 1, by omega⟩
            exact rc_0
          | inr p2 =>
            rw [e] at hv2
            obtain ⟨p1, es, e2⟩ := sb_in e
            obtain ⟨x1, x2, x3, x4, x5, x6, x7, x8⟩ := hx p1 es
            have x9 := sp_need_gt e2
            subst x2
            subst x3
            subst x4
            have := ih (k + 1) p2 st2 al2 aw2 B2 B3 B5 B6 B7 B8 B9 B10 hv2 (by omega) (by omega) x5 x6 x7 (by omega)
            rw [show ((k + 1 : Nat) : Int) = (k : Int) + 1 from by omega] at this
            exact this
        obtain ⟨Ks, Ws, t0, t1, t2, c⟩ := st
        have h4 : nms A5 Ks Ws := h4
        have h5 : tf A3 t0 t1 t2 := h5
        have h6 : 0 ≤ c.1 := h6
        have h7 : c.1 ≤ (p : Int) := h7
        show tellR cy gr ru le _ (match sb (sp_st g n p (Ks, Ws, t0, t1, t2, c)).1 (sp_need g n 59) with
            | .inl q => .inl q
            | .inr p2 => rcL g n f (k + 1) p2 (sp_st g n p (Ks, Ws, t0, t1, t2, c)).2)
        by_cases w0 : wl g n ws_0 p = 0
        · rw [if_pos w0]
          by_cases l0 : Ks.length < 6
          · have e9 : sp_st g n p (Ks, Ws, t0, t1, t2, c) = ((sp_k3 g n Ks Ws p).2, (Ks ++ [wd g n (tx_e g n p)], Ws, t0, t1, t2, c)) := by
              unfold sp_st
              rw [if_pos w0]
              exact if_pos l0
            rw [e9]
            show tellR cy gr ru le (lf_p (F_X5_kindStatement g (n : Int) (tx_a g n p : Int) (tx_e g n p : Int) (Ks.length : Int) A6 A7 A8 (Ws.length : Int) A5 (0 : Int) (-1 : Int)) _) _
            rw [cl_kind hn h1 h4 l0, lf_pa, lf_p_e, lf_p_e, lf_p_e, lf_p_e, lf_p_e, lf_p_e, lf_p_e, lf_p_e]
            refine key (sp_k3 g n Ks Ws p).2 (Ks ++ [wd g n (tx_e g n p)], Ws, t0, t1, t2, c) _ _ c _ _ _ _ _ _ _ _ _ _ (sp_k3_v Ks Ws h1) (fun q e => ?_)
            obtain ⟨y1, y2, p1, y3⟩ := sp_k3_gt e
            refine ⟨by omega, ?_, rfl, rfl, ?_, h5, h6, by omega⟩
            · show (Ks.length : Int) + 1 = ((Ks ++ [wd g n (tx_e g n p)]).length : Int)
              rw [List.length_append]
              show (Ks.length : Int) + 1 = ((Ks.length + 1 : Nat) : Int)
              omega
            · show nms (nN A5 Ks.length (wd g n (tx_e g n p)) (sp_k0 g n Ks Ws p)) (Ks ++ [wd g n (tx_e g n p)]) Ws
              rw [y3]
              exact nms_k1 (isNm_W y2).2 h4 l0
          · have e9 : sp_st g n p (Ks, Ws, t0, t1, t2, c) = (.inl (5, (tx_a g n p : Int)), (Ks, Ws, t0, t1, t2, c)) := by
              unfold sp_st
              rw [if_pos w0]
              exact if_neg l0
            have e8 : (Ks.length : Int) = 6 := by have := h4.2.2.2.2.1; omega
            rw [e9]
            show tellR cy gr ru le (lf_p (F_X5_kindStatement g (n : Int) (tx_a g n p : Int) (tx_e g n p : Int) (Ks.length : Int) A6 A7 A8 (Ws.length : Int) A5 (0 : Int) (-1 : Int)) _) _
            rw [e8, cl_kind5, lf_pa, lf_p_e, lf_p_e, lf_p_e, lf_p_e, lf_p_e, lf_p_e, lf_p_e, lf_p_e]
            exact key (.inl (5, (tx_a g n p : Int))) (Ks, Ws, t0, t1, t2, c) _ _ c _ _ _ _ _ _ _ _ _ _ (sv_l (by decide)) (fun q e => by cases e)
        · rw [if_neg w0]
          by_cases w1 : wl g n ws_0 p = 1
          · rw [if_pos w1]
            by_cases l0 : Ws.length < 12
            · have e9 : sp_st g n p (Ks, Ws, t0, t1, t2, c) = ((sp_c3 g n Ks Ws p).2, (Ks, Ws ++ [wd g n (tx_e g n p)], t0, t1, t2, c)) := by
                unfold sp_st
                rw [if_neg w0, if_pos w1]
                exact if_pos l0
              rw [e9]
              show tellR cy gr ru le (lf_p (F_X5_comesStatement g (n : Int) (tx_a g n p : Int) (tx_e g n p : Int) (Ks.length : Int) (Ws.length : Int) A9 A10 A2 A5 (0 : Int) (-1 : Int)) _) _
              rw [cl_comes hn h1 h4 l0, lf_pa, lf_p_e, lf_p_e, lf_p_e, lf_p_e, lf_p_e, lf_p_e, lf_p_e, lf_p_e]
              refine key (sp_c3 g n Ks Ws p).2 (Ks, Ws ++ [wd g n (tx_e g n p)], t0, t1, t2, c) _ _ c _ _ _ _ _ _ _ _ _ _ (sp_c3_v Ks Ws h1) (fun q e => ?_)
              obtain ⟨y1, y2, p1, y3⟩ := sp_c3_gt e
              refine ⟨by omega, rfl, ?_, rfl, ?_, h5, h6, by omega⟩
              · show (Ws.length : Int) + 1 = ((Ws ++ [wd g n (tx_e g n p)]).length : Int)
                rw [List.length_append]
                show (Ws.length : Int) + 1 = ((Ws.length + 1 : Nat) : Int)
                omega
              · show nms (nN A5 (6 + Ws.length) (wd g n (tx_e g n p)) (sp_k0 g n Ks Ws p)) Ks (Ws ++ [wd g n (tx_e g n p)])
                rw [y3]
                exact nms_w1 (isNm_W y2).2 h4 l0
            · have e9 : sp_st g n p (Ks, Ws, t0, t1, t2, c) = (.inl (5, (tx_a g n p : Int)), (Ks, Ws, t0, t1, t2, c)) := by
                unfold sp_st
                rw [if_neg w0, if_pos w1]
                exact if_neg l0
              have e8 : (Ws.length : Int) = 12 := by have := h4.2.2.2.2.2; omega
              rw [e9]
              show tellR cy gr ru le (lf_p (F_X5_comesStatement g (n : Int) (tx_a g n p : Int) (tx_e g n p : Int) (Ks.length : Int) (Ws.length : Int) A9 A10 A2 A5 (0 : Int) (-1 : Int)) _) _
              rw [e8, cl_comes5, lf_pa, lf_p_e, lf_p_e, lf_p_e, lf_p_e, lf_p_e, lf_p_e, lf_p_e, lf_p_e]
              exact key (.inl (5, (tx_a g n p : Int))) (Ks, Ws, t0, t1, t2, c) _ _ c _ _ _ _ _ _ _ _ _ _ (sv_l (by decide)) (fun q e => by cases e)
          · rw [if_neg w1]
            by_cases w2 : wl g n ws_0 p = 2
            · rw [if_pos w2]
              cases hb : t0 with
              | true =>
                rw [hb] at h5
                have e9 : sp_st g n p (Ks, Ws, true, t1, t2, c) = (.inl (5, (tx_a g n p : Int)), (Ks, Ws, true, t1, t2, c)) := by
                  unfold sp_st
                  rw [if_neg w0, if_neg w1, if_pos w2]
                  exact if_pos rfl
                rw [e9]
                show tellR cy gr ru le (lf_p (F_X5_codeStatement g (n : Int) (tx_a g n p : Int) (tx_e g n p : Int) al c.2 c.1 A3 (0 : Int) (-1 : Int) (0 : Int) (7 : Int)) _) _
                rw [cl_code5 (h5.1.mp rfl), lf_p9, lf_p_e, lf_p_e, lf_p_e, lf_p_e, lf_p_e, lf_p_e, lf_p_e]
                exact key (.inl (5, (tx_a g n p : Int))) (Ks, Ws, true, t1, t2, c) _ _ c _ _ _ _ _ _ _ _ _ _ (sv_l (by decide)) (fun q e => by cases e)
              | false =>
                rw [hb] at h5
                have e9 : sp_st g n p (Ks, Ws, false, t1, t2, c) = ((cod g n 0 7 (tx_e g n p) c).1, (Ks, Ws, true, t1, t2, (cod g n 0 7 (tx_e g n p) c).2)) := by
                  unfold sp_st
                  rw [if_neg w0, if_neg w1, if_pos w2]
                  exact if_neg (fun r => Bool.noConfusion r)
                rw [e9]
                have hs : A3 (Int.toNat ((0 : Int) + 1)) ≤ A3 (Int.toNat (0 : Int)) := Classical.byContradiction (fun r => Bool.noConfusion (h5.1.mpr r))
                obtain ⟨d, e1, e2⟩ := cl_code1 (g := g) (c := c) (al0 := al) (al := 7) (i := 0) hn h1 hs
                show tellR cy gr ru le (lf_p (F_X5_codeStatement g (n : Int) (tx_a g n p : Int) (tx_e g n p : Int) al c.2 c.1 A3 (0 : Int) (-1 : Int) (0 : Int) (7 : Int)) _) _
                rw [e1, lf_p9, lf_p_e, lf_p_e, lf_p_e, lf_p_e, lf_p_e, lf_p_e, lf_p_e]
                refine key (cod g n 0 7 (tx_e g n p) c).1 (Ks, Ws, true, t1, t2, (cod g n 0 7 (tx_e g n p) c).2) _ _ d _ _ _ _ _ _ _ _ _ _ (cod_ok _ c hle).1 (fun q e => ?_)
                have y1 := (cod_ok _ c hle).2 q e
                have y2 := cod_G hn _ c hle h6 (by omega) q e
                have y3 := e2 q e
                refine ⟨by omega, rfl, rfl, y3, h4, tf_0 h5 ?_, ?_, ?_⟩
                · rw [y3]; exact y2.1
                · rw [y3]; omega
                · rw [y3]; omega
            · rw [if_neg w2]
              by_cases w3 : wl g n ws_0 p = 3
              · rw [if_pos w3]
                cases hb : t1 with
                | true =>
                  rw [hb] at h5
                  have e9 : sp_st g n p (Ks, Ws, t0, true, t2, c) = (.inl (5, (tx_a g n p : Int)), (Ks, Ws, t0, true, t2, c)) := by
                    unfold sp_st
                    rw [if_neg w0, if_neg w1, if_neg w2, if_pos w3]
                    exact if_pos rfl
                  rw [e9]
                  show tellR cy gr ru le (lf_p (F_X5_codeStatement g (n : Int) (tx_a g n p : Int) (tx_e g n p : Int) al c.2 c.1 A3 (0 : Int) (-1 : Int) (2 : Int) (507 : Int)) _) _
                  rw [cl_code5 (h5.2.1.mp rfl), lf_p9, lf_p_e, lf_p_e, lf_p_e, lf_p_e, lf_p_e, lf_p_e, lf_p_e]
                  exact key (.inl (5, (tx_a g n p : Int))) (Ks, Ws, t0, true, t2, c) _ _ c _ _ _ _ _ _ _ _ _ _ (sv_l (by decide)) (fun q e => by cases e)
                | false =>
                  rw [hb] at h5
                  have e9 : sp_st g n p (Ks, Ws, t0, false, t2, c) = ((cod g n 2 507 (tx_e g n p) c).1, (Ks, Ws, t0, true, t2, (cod g n 2 507 (tx_e g n p) c).2)) := by
                    unfold sp_st
                    rw [if_neg w0, if_neg w1, if_neg w2, if_pos w3]
                    exact if_neg (fun r => Bool.noConfusion r)
                  rw [e9]
                  have hs : A3 (Int.toNat ((2 : Int) + 1)) ≤ A3 (Int.toNat (2 : Int)) := Classical.byContradiction (fun r => Bool.noConfusion (h5.2.1.mpr r))
                  obtain ⟨d, e1, e2⟩ := cl_code1 (g := g) (c := c) (al0 := al) (al := 507) (i := 2) hn h1 hs
                  show tellR cy gr ru le (lf_p (F_X5_codeStatement g (n : Int) (tx_a g n p : Int) (tx_e g n p : Int) al c.2 c.1 A3 (0 : Int) (-1 : Int) (2 : Int) (507 : Int)) _) _
                  rw [e1, lf_p9, lf_p_e, lf_p_e, lf_p_e, lf_p_e, lf_p_e, lf_p_e, lf_p_e]
                  refine key (cod g n 2 507 (tx_e g n p) c).1 (Ks, Ws, t0, true, t2, (cod g n 2 507 (tx_e g n p) c).2) _ _ d _ _ _ _ _ _ _ _ _ _ (cod_ok _ c hle).1 (fun q e => ?_)
                  have y1 := (cod_ok _ c hle).2 q e
                  have y2 := cod_G hn _ c hle h6 (by omega) q e
                  have y3 := e2 q e
                  refine ⟨by omega, rfl, rfl, y3, h4, tf_1 h5 ?_, ?_, ?_⟩
                  · rw [y3]; exact y2.1
                  · rw [y3]; omega
                  · rw [y3]; omega
              · rw [if_neg w3]
                by_cases w4 : wl g n ws_0 p = 4
                · rw [if_pos w4]
                  cases hb : t2 with
                  | true =>
                    rw [hb] at h5
                    have e9 : sp_st g n p (Ks, Ws, t0, t1, true, c) = (.inl (5, (tx_a g n p : Int)), (Ks, Ws, t0, t1, true, c)) := by
                      unfold sp_st
                      rw [if_neg w0, if_neg w1, if_neg w2, if_neg w3, if_pos w4]
                      exact if_pos rfl
                    rw [e9]
                    show tellR cy gr ru le (lf_p (F_X5_codeStatement g (n : Int) (tx_a g n p : Int) (tx_e g n p : Int) al c.2 c.1 A3 (0 : Int) (-1 : Int) (4 : Int) (123 : Int)) _) _
                    rw [cl_code5 (h5.2.2.mp rfl), lf_p9, lf_p_e, lf_p_e, lf_p_e, lf_p_e, lf_p_e, lf_p_e, lf_p_e]
                    exact key (.inl (5, (tx_a g n p : Int))) (Ks, Ws, t0, t1, true, c) _ _ c _ _ _ _ _ _ _ _ _ _ (sv_l (by decide)) (fun q e => by cases e)
                  | false =>
                    rw [hb] at h5
                    have e9 : sp_st g n p (Ks, Ws, t0, t1, false, c) = ((cod g n 4 123 (tx_e g n p) c).1, (Ks, Ws, t0, t1, true, (cod g n 4 123 (tx_e g n p) c).2)) := by
                      unfold sp_st
                      rw [if_neg w0, if_neg w1, if_neg w2, if_neg w3, if_pos w4]
                      exact if_neg (fun r => Bool.noConfusion r)
                    rw [e9]
                    have hs : A3 (Int.toNat ((4 : Int) + 1)) ≤ A3 (Int.toNat (4 : Int)) := Classical.byContradiction (fun r => Bool.noConfusion (h5.2.2.mpr r))
                    obtain ⟨d, e1, e2⟩ := cl_code1 (g := g) (c := c) (al0 := al) (al := 123) (i := 4) hn h1 hs
                    show tellR cy gr ru le (lf_p (F_X5_codeStatement g (n : Int) (tx_a g n p : Int) (tx_e g n p : Int) al c.2 c.1 A3 (0 : Int) (-1 : Int) (4 : Int) (123 : Int)) _) _
                    rw [e1, lf_p9, lf_p_e, lf_p_e, lf_p_e, lf_p_e, lf_p_e, lf_p_e, lf_p_e]
                    refine key (cod g n 4 123 (tx_e g n p) c).1 (Ks, Ws, t0, t1, true, (cod g n 4 123 (tx_e g n p) c).2) _ _ d _ _ _ _ _ _ _ _ _ _ (cod_ok _ c hle).1 (fun q e => ?_)
                    have y1 := (cod_ok _ c hle).2 q e
                    have y2 := cod_G hn _ c hle h6 (by omega) q e
                    have y3 := e2 q e
                    refine ⟨by omega, rfl, rfl, y3, h4, tf_2 h5 ?_, ?_, ?_⟩
                    · rw [y3]; exact y2.1
                    · rw [y3]; omega
                    · rw [y3]; omega
                · rw [if_neg w4]
                  by_cases w5 : wl g n ws_0 p = 5
                  · rw [if_pos w5]
                    have e9 : sp_st g n p (Ks, Ws, t0, t1, t2, c) = ((sp_nb g n ws_1 0 100 p).2, (Ks, Ws, t0, t1, t2, c)) := by
                      unfold sp_st
                      rw [if_neg w0, if_neg w1, if_neg w2, if_neg w3, if_neg w4]
                      exact if_pos w5
                    rw [e9, F_X5_numberBehind_a1_0_a2_100_s1_1 hn h1, lf_p_e, lf_pc]
                    repeat rw [lf_p2]
                    refine key (sp_nb g n ws_1 0 100 p).2 (Ks, Ws, t0, t1, t2, c) _ _ c _ _ _ _ _ _ _ _ _ _ (sp_nb_v ws_1 0 100 h1) (fun q e => ?_)
                    have y1 := sp_nb_gt e
                    exact ⟨by omega, rfl, rfl, rfl, h4, h5, h6, by omega⟩
                  · rw [if_neg w5]
                    have e9 : sp_st g n p (Ks, Ws, t0, t1, t2, c) = (.inl (1, (tx_a g n p : Int)), (Ks, Ws, t0, t1, t2, c)) := by
                      unfold sp_st
                      rw [if_neg w0, if_neg w1, if_neg w2, if_neg w3, if_neg w4]
                      exact if_neg w5
                    rw [e9, cl_fail0, lf_p_e]
                    exact key (.inl (1, (tx_a g n p : Int))) (Ks, Ws, t0, t1, t2, c) _ _ c _ _ _ _ _ _ _ _ _ _ (sv_l (by decide)) (fun q e => by cases e)
end
section
/-! 2c -/
/-- the whole text, as it is to be read -/
def rcT (g : Nat → Int) (n : Nat) (cd : Nat → Int) : Sum (Int × Int) (Nat × PL) := match sb (sp_1d g n (.inr 0)).2 (sp_need g n 59) with
  | .inl q => .inl q
  | .inr p => rcL g n 81 1 p ([], [], false, false, false, (0, cd))
theorem cl_begin {g comers spans : Nat → Int} {n : Nat} (hn : n ≤ 1600) : F_X5_begin g comers spans (n : Int) = ((n : Int), (tx_a g n 0 : Int), (tx_e g n 0 : Int), (tx_k g n 0 : Int), lf_fl comers 200 0, lf_fl spans 6 0) := by
  unfold F_X5_begin F_X4_clear
  rw [lf_p_e, show min (n : Int) (1600 : Int) = (n : Int) from by omega]
  have e : F_X5_moveTo g (n : Int) (0 : Int) = ((tx_a g n 0 : Int), (tx_e g n 0 : Int), (tx_k g n 0 : Int)) := cl_mv (p := 0) hn (Nat.zero_le n)
  rw [e, lf_p_e, lf_p_e]
theorem nms_0 (N : Nat → Int) : nms N [] [] := ⟨fun j hj => absurd hj (Nat.not_lt_zero j), fun j hj => absurd hj (Nat.not_lt_zero j), fun j hj => absurd hj (Nat.not_lt_zero j), fun j hj => absurd hj (Nat.not_lt_zero j), Nat.zero_le 6, Nat.zero_le 12⟩
theorem tf_fl (A : Nat → Int) : tf (lf_fl A 6 0) false false false := ⟨⟨fun r => Bool.noConfusion r, fun r => absurd (Int.le_refl 0) r⟩, ⟨fun r => Bool.noConfusion r, fun r => absurd (Int.le_refl 0) r⟩, ⟨fun r => Bool.noConfusion r, fun r => absurd (Int.le_refl 0) r⟩⟩
theorem rc_start {g code : Nat → Int} {n p : Nat} {cy gr ru le : Int} (hn : n ≤ 1600) (hp : p ≤ n) (al aw : Int) (A2 A3 A5 A6 A7 A8 A9 A10 : Nat → Int) (h3 : tf A3 false false false) : tellR cy gr ru le (F_X5_readCrossing_18 g 81 (n : Int) (tx_a g n p : Int) (tx_e g n p : Int) (tx_k g n p : Int) (0 : Int) (-1 : Int) cy gr ru le A2 A3 (1 : Int) al aw (0 : Int) (0 : Int) (0 : Int) A5 A6 A7 A8 A9 A10 code) (rcL g n 81 1 p ([], [], false, false, false, (0, code))) := by
  have h := rc_loop (g := g) (cy := cy) (gr := gr) (ru := ru) (le := le) hn 81 1 p ([], [], false, false, false, (0, code)) al aw A2 A3 A5 A6 A7 A8 A9 A10 hp (by omega) (by omega) (nms_0 _) h3 (Int.le_refl 0) (by show (0 : Int) ≤ _; omega)
  have e1 : ((1 : Nat) : Int) = (1 : Int) := rfl
  have e2 : (((([], [], false, false, false, (0, code)) : PL).1.length : Nat) : Int) = (0 : Int) := rfl
  have e4 : (([], [], false, false, false, (0, code)) : PL).2.2.2.2.2.1 = (0 : Int) := rfl
  have e5 : (([], [], false, false, false, (0, code)) : PL).2.2.2.2.2.2 = code := rfl
  rw [e1, e2, e4, e5] at h
  exact h
theorem cl_rc1 {g calm pace trusts kindOf comesAt comers names code spans : Nat → Int} {n : Nat} {al : Int} {s1 : ST} {cy gr ru le : Int} (hn : n ≤ 1600) (e1 : F_X5_firstStatement g (n : Int) (tx_a g n 0 : Int) (tx_e g n 0 : Int) (tx_k g n 0 : Int) (0 : Int) (-1 : Int) = ap5 (cst g n s1) (cy, gr, ru, le)) (hv1 : sv n s1) : F_X5_readCrossing g al calm pace trusts kindOf comesAt comers names code spans (n : Int) = F_X5_readCrossing_18 g 81 (n : Int) (cst g n (sb s1 (sp_need g n 59))).1 (cst g n (sb s1 (sp_need g n 59))).2.1 (cst g n (sb s1 (sp_need g n 59))).2.2.1 (cst g n (sb s1 (sp_need g n 59))).2.2.2.1 (cst g n (sb s1 (sp_need g n 59))).2.2.2.2 cy gr ru le (lf_fl comers 200 0) (lf_fl spans 6 0) (1 : Int) al (0 : Int) (0 : Int) (0 : Int) (0 : Int) names calm pace trusts kindOf comesAt code := by
  unfold F_X5_readCrossing
  rw [cl_begin hn, lf_p_e, lf_p_e, lf_p_e, lf_p_e, lf_p_e, e1, lf_pa, lf_p_e, lf_p_e, lf_p_e, lf_p_e, lf_p_e, lf_p_e, lf_p_e, cl_need_s hn hv1, lf_pc]
  repeat rw [lf_p2]
theorem cl_rc {g calm pace trusts kindOf comesAt comers names code spans : Nat → Int} {n : Nat} {al : Int} (hn : n ≤ 1600) : tellR (sp_1a g n (.inr 0)).1 (sp_1b g n (.inr 0)).1 (sp_1c g n (.inr 0)).1 (sp_1d g n (.inr 0)).1 (F_X5_readCrossing g al calm pace trusts kindOf comesAt comers names code spans (n : Int)) (rcT g n code) := by
  have hv : sv n (.inr 0) := Nat.zero_le n
  have hv1 : sv n (sp_1d g n (.inr 0)).2 := sp_1d_v hv
  rw [cl_rc1 hn (cl_first (s := .inr 0) hn hv) hv1]
  unfold rcT
  have hv2 : sv n (sb (sp_1d g n (.inr 0)).2 (sp_need g n 59)) := sp_need_sv hv1
  generalize (sp_1a g n (.inr 0)).1 = cy
  generalize (sp_1b g n (.inr 0)).1 = gr
  generalize (sp_1c g n (.inr 0)).1 = ru
  generalize (sp_1d g n (.inr 0)).1 = le
  generalize sb (sp_1d g n (.inr 0)).2 (sp_need g n 59) = s2 at hv2
  cases s2 with
  | inl q => exact rc_0 (m := 80)
  | inr p => exact rc_start hn hv2 _ _ _ _ _ _ _ _ _ _ (tf_fl _)
end
section
/-! 33 -/
def W_cycle : List Int := [99, 121, 99, 108, 101]
def W_green : List Int := [103, 114, 101, 101, 110]
def W_rule : List Int := [114, 117, 108, 101]
def W_least : List Int := [108, 101, 97, 115, 116]
def W_kind : List Int := [107, 105, 110, 100]
def W_calm : List Int := [99, 97, 108, 109]
def W_pace : List Int := [112, 97, 99, 101]
def W_trusts : List Int := [116, 114, 117, 115, 116, 115]
def W_comes : List Int := [99, 111, 109, 101, 115]
def W_is : List Int := [105, 115]
def W_at : List Int := [97, 116]
def W_car : List Int := [99, 97, 114]
def W_red : List Int := [114, 101, 100]
def W_learns : List Int := [108, 101, 97, 114, 110, 115]
def W_away : List Int := [97, 119, 97, 121]
def W_second : List Int := [115, 101, 99, 111, 110, 100]
def W_day : List Int := [100, 97, 121]
def W_phase : List Int := [112, 104, 97, 115, 101]
def W_waited : List Int := [119, 97, 105, 116, 101, 100]
def W_gap : List Int := [103, 97, 112]
def W_reds : List Int := [114, 101, 100, 115]
def W_number : List Int := [110, 117, 109, 98, 101, 114]
def W_went : List Int := [119, 101, 110, 116]
def W_harm : List Int := [104, 97, 114, 109]
def W_or : List Int := [111, 114]
def W_and : List Int := [97, 110, 100]
def W_not : List Int := [110, 111, 116]
def W_all : List Int := [97, 108, 108]
def W_min : List Int := [109, 105, 110]
def W_max : List Int := [109, 97, 120]
def orw (g : Nat → Int) (n p : Nat) : List (List Int) → Bool
  | [] => false
  | w :: ws => wh g n w p || orw g n p ws
theorem orw_c {g : Nat → Int} {n p : Nat} {w : List Int} {ws : List (List Int)} : orw g n p (w :: ws) = (wh g n w p || orw g n p ws) := rfl
theorem orw_1 {g : Nat → Int} {n p : Nat} (hk : tx_k g n p = 1) : ∀ (ws : List (List Int)) (i : Nat), orw g n p ws = decide (¬ wfind g (tx_a g n p) (tx_e g n p) ws i = -1)
  | [], i => by
    show false = decide (¬ (-1 : Int) = -1)
    decide
  | w :: ws, i => by
    show (wh g n w p || orw g n p ws) = decide (¬ (if wq g (tx_e g n p) w (tx_a g n p) = true then (i : Int) else wfind g (tx_a g n p) (tx_e g n p) ws (i + 1)) = -1)
    rw [orw_1 hk ws (i + 1)]
    unfold wh
    rw [decide_eq_true hk, Bool.true_and]
    cases c : wq g (tx_e g n p) w (tx_a g n p) with
    | true =>
      rw [if_pos rfl, Bool.true_or, decide_eq_true (by omega)]
    | false => rw [if_neg (fun r => Bool.noConfusion r), Bool.false_or]
theorem orw_0 {g : Nat → Int} {n p : Nat} (hk : ¬ tx_k g n p = 1) : ∀ ws : List (List Int), orw g n p ws = false
  | [] => rfl
  | w :: ws => by
    show (wh g n w p || orw g n p ws) = false
    rw [orw_0 hk ws]
    unfold wh
    rw [decide_eq_false hk]
    rfl
/-- one of the language's own words stands here -/
def ow (g : Nat → Int) (n p : Nat) : Bool := decide (¬ wl g n ws_12 p = -1)
theorem orw_ow {g : Nat → Int} {n p : Nat} : orw g n p ws_12 = ow g n p := by
  unfold ow wl
  by_cases hk : tx_k g n p = 1
  · rw [if_pos hk, orw_1 hk ws_12 0]
  · rw [if_neg hk, orw_0 hk]
    decide
/-- the words that the model holds -/
def mw (w1 w2 w3 w4 w5 w6 w7 w8 w9 w10 w11 w12 w13 w14 w15 w16 w17 w18 w19 w20 w21 w22 w23 w24 w25 w26 w27 w28 w29 w30 : Nat → Int) : Prop := wa w1 W_cycle ∧ wa w2 W_green ∧ wa w3 W_rule ∧ wa w4 W_least ∧ wa w5 W_kind ∧ wa w6 W_calm ∧ wa w7 W_pace ∧ wa w8 W_trusts ∧ wa w9 W_comes ∧ wa w10 W_is ∧ wa w11 W_at ∧ wa w12 W_car ∧ wa w13 W_red ∧ wa w14 W_learns ∧ wa w15 W_away ∧ wa w16 W_second ∧ wa w17 W_day ∧ wa w18 W_phase ∧ wa w19 W_waited ∧ wa w20 W_gap ∧ wa w21 W_reds ∧ wa w22 W_number ∧ wa w23 W_went ∧ wa w24 W_harm ∧ wa w25 W_or ∧ wa w26 W_and ∧ wa w27 W_not ∧ wa w28 W_all ∧ wa w29 W_min ∧ wa w30 W_max
theorem ow_299_1 {g : Nat → Int} {n p : Nat} {xe : Int} {w1 w2 w3 w4 w5 w6 w7 w8 w9 w10 w11 w12 w13 w14 w15 w16 w17 w18 w19 w20 w21 w22 w23 w24 w25 w26 w27 w28 w29 w30 : Nat → Int} (l : Int) : F_X10_isOwnHere_299 (n : Int) xe (0 : Int) g w25 w26 w27 w28 w29 w30 l (tx_a g n p : Int) (1 : Int) = ((1 : Int), (tx_a g n p : Int)) := by
  unfold F_X10_isOwnHere_299 F_X10_isOwnHere_370
  rw [if_neg (by decide)]
  exact rfl
theorem ow_299_0 {g : Nat → Int} {n p : Nat} {xa xe : Int} {w1 w2 w3 w4 w5 w6 w7 w8 w9 w10 w11 w12 w13 w14 w15 w16 w17 w18 w19 w20 w21 w22 w23 w24 w25 w26 w27 w28 w29 w30 : Nat → Int} (hn : n ≤ 1600) (hm : mw w1 w2 w3 w4 w5 w6 w7 w8 w9 w10 w11 w12 w13 w14 w15 w16 w17 w18 w19 w20 w21 w22 w23 w24 w25 w26 w27 w28 w29 w30) (h : mp g n p xa xe) (l : Int) : F_X10_isOwnHere_299 (n : Int) xe (0 : Int) g w25 w26 w27 w28 w29 w30 l (tx_a g n p : Int) (0 : Int) = (b2 (orw g n p [W_or, W_and, W_not, W_all, W_min, W_max]), (tx_a g n p : Int)) := by
  unfold F_X10_isOwnHere_299
  rw [if_pos rfl]
  rw [F_X10_isHere_r2_1 hn (W := W_or) rfl hm.2.2.2.2.2.2.2.2.2.2.2.2.2.2.2.2.2.2.2.2.2.2.2.2.1 (mp_a h), lf_p_e, orw_c]
  cases c24 : wh g n W_or p with
  | true =>
    rw [if_neg (show ¬ b2 true = 0 from by decide)]
    unfold F_X10_isOwnHere_370
    exact rfl
  | false =>
    rw [if_pos (show b2 false = 0 from rfl), Bool.false_or]
    rw [F_X10_isHere_1 hn (W := W_and) rfl hm.2.2.2.2.2.2.2.2.2.2.2.2.2.2.2.2.2.2.2.2.2.2.2.2.2.1 (mp_a h), lf_p_e, orw_c]
    cases c25 : wh g n W_and p with
    | true =>
      rw [if_neg (show ¬ b2 true = 0 from by decide)]
      unfold F_X10_isOwnHere_370
      exact rfl
    | false =>
      rw [if_pos (show b2 false = 0 from rfl), Bool.false_or]
      rw [F_X10_isHere_1 hn (W := W_not) rfl hm.2.2.2.2.2.2.2.2.2.2.2.2.2.2.2.2.2.2.2.2.2.2.2.2.2.2.1 (mp_a h), lf_p_e, orw_c]
      cases c26 : wh g n W_not p with
      | true =>
        rw [if_neg (show ¬ b2 true = 0 from by decide)]
        unfold F_X10_isOwnHere_370
        exact rfl
      | false =>
        rw [if_pos (show b2 false = 0 from rfl), Bool.false_or]
        rw [F_X10_isHere_1 hn (W := W_all) rfl hm.2.2.2.2.2.2.2.2.2.2.2.2.2.2.2.2.2.2.2.2.2.2.2.2.2.2.2.1 (mp_a h), lf_p_e, orw_c]
        cases c27 : wh g n W_all p with
        | true =>
          rw [if_neg (show ¬ b2 true = 0 from by decide)]
          unfold F_X10_isOwnHere_370
          exact rfl
        | false =>
          rw [if_pos (show b2 false = 0 from rfl), Bool.false_or]
          rw [F_X10_isHere_1 hn (W := W_min) rfl hm.2.2.2.2.2.2.2.2.2.2.2.2.2.2.2.2.2.2.2.2.2.2.2.2.2.2.2.2.1 (mp_a h), lf_p_e, orw_c]
          cases c28 : wh g n W_min p with
          | true =>
            rw [if_neg (show ¬ b2 true = 0 from by decide)]
            unfold F_X10_isOwnHere_370
            exact rfl
          | false =>
            rw [if_pos (show b2 false = 0 from rfl), Bool.false_or]
            rw [F_X10_isHere_1 hn (W := W_max) rfl hm.2.2.2.2.2.2.2.2.2.2.2.2.2.2.2.2.2.2.2.2.2.2.2.2.2.2.2.2.2 (mp_a h), lf_p_e, orw_c]
            cases c29 : wh g n W_max p with
            | true =>
              rw [if_neg (show ¬ b2 true = 0 from by decide)]
              unfold F_X10_isOwnHere_370
              exact rfl
            | false =>
              rw [if_pos (show b2 false = 0 from rfl), Bool.false_or]
              rfl
theorem ow_223_1 {g : Nat → Int} {n p : Nat} {xe : Int} {w1 w2 w3 w4 w5 w6 w7 w8 w9 w10 w11 w12 w13 w14 w15 w16 w17 w18 w19 w20 w21 w22 w23 w24 w25 w26 w27 w28 w29 w30 : Nat → Int} (l : Int) : F_X10_isOwnHere_223 (n : Int) xe (0 : Int) g w19 w20 w21 w22 w23 w24 w25 w26 w27 w28 w29 w30 l (tx_a g n p : Int) (1 : Int) = ((1 : Int), (tx_a g n p : Int)) := by
  unfold F_X10_isOwnHere_223 F_X10_isOwnHere_294
  rw [if_neg (by decide)]
  exact ow_299_1 (w1 := w1) (w2 := w2) (w3 := w3) (w4 := w4) (w5 := w5) (w6 := w6) (w7 := w7) (w8 := w8) (w9 := w9) (w10 := w10) (w11 := w11) (w12 := w12) (w13 := w13) (w14 := w14) (w15 := w15) (w16 := w16) (w17 := w17) (w18 := w18) (w19 := w19) (w20 := w20) (w21 := w21) (w22 := w22) (w23 := w23) (w24 := w24) _
theorem ow_223_0 {g : Nat → Int} {n p : Nat} {xa xe : Int} {w1 w2 w3 w4 w5 w6 w7 w8 w9 w10 w11 w12 w13 w14 w15 w16 w17 w18 w19 w20 w21 w22 w23 w24 w25 w26 w27 w28 w29 w30 : Nat → Int} (hn : n ≤ 1600) (hm : mw w1 w2 w3 w4 w5 w6 w7 w8 w9 w10 w11 w12 w13 w14 w15 w16 w17 w18 w19 w20 w21 w22 w23 w24 w25 w26 w27 w28 w29 w30) (h : mp g n p xa xe) (l : Int) : F_X10_isOwnHere_223 (n : Int) xe (0 : Int) g w19 w20 w21 w22 w23 w24 w25 w26 w27 w28 w29 w30 l (tx_a g n p : Int) (0 : Int) = (b2 (orw g n p [W_waited, W_gap, W_reds, W_number, W_went, W_harm, W_or, W_and, W_not, W_all, W_min, W_max]), (tx_a g n p : Int)) := by
  unfold F_X10_isOwnHere_223
  rw [if_pos rfl]
  rw [F_X10_isHere_r6_1 hn (W := W_waited) rfl hm.2.2.2.2.2.2.2.2.2.2.2.2.2.2.2.2.2.2.1 (mp_a h), lf_p_e, orw_c]
  cases c18 : wh g n W_waited p with
  | true =>
    rw [if_neg (show ¬ b2 true = 0 from by decide)]
    unfold F_X10_isOwnHere_294
    exact ow_299_1 (w1 := w1) (w2 := w2) (w3 := w3) (w4 := w4) (w5 := w5) (w6 := w6) (w7 := w7) (w8 := w8) (w9 := w9) (w10 := w10) (w11 := w11) (w12 := w12) (w13 := w13) (w14 := w14) (w15 := w15) (w16 := w16) (w17 := w17) (w18 := w18) (w19 := w19) (w20 := w20) (w21 := w21) (w22 := w22) (w23 := w23) (w24 := w24) _
  | false =>
    rw [if_pos (show b2 false = 0 from rfl), Bool.false_or]
    rw [F_X10_isHere_1 hn (W := W_gap) rfl hm.2.2.2.2.2.2.2.2.2.2.2.2.2.2.2.2.2.2.2.1 (mp_a h), lf_p_e, orw_c]
    cases c19 : wh g n W_gap p with
    | true =>
      rw [if_neg (show ¬ b2 true = 0 from by decide)]
      unfold F_X10_isOwnHere_294
      exact ow_299_1 (w1 := w1) (w2 := w2) (w3 := w3) (w4 := w4) (w5 := w5) (w6 := w6) (w7 := w7) (w8 := w8) (w9 := w9) (w10 := w10) (w11 := w11) (w12 := w12) (w13 := w13) (w14 := w14) (w15 := w15) (w16 := w16) (w17 := w17) (w18 := w18) (w19 := w19) (w20 := w20) (w21 := w21) (w22 := w22) (w23 := w23) (w24 := w24) _
    | false =>
      rw [if_pos (show b2 false = 0 from rfl), Bool.false_or]
      rw [F_X10_isHere_r4_1 hn (W := W_reds) rfl hm.2.2.2.2.2.2.2.2.2.2.2.2.2.2.2.2.2.2.2.2.1 (mp_a h), lf_p_e, orw_c]
      cases c20 : wh g n W_reds p with
      | true =>
        rw [if_neg (show ¬ b2 true = 0 from by decide)]
        unfold F_X10_isOwnHere_294
        exact ow_299_1 (w1 := w1) (w2 := w2) (w3 := w3) (w4 := w4) (w5 := w5) (w6 := w6) (w7 := w7) (w8 := w8) (w9 := w9) (w10 := w10) (w11 := w11) (w12 := w12) (w13 := w13) (w14 := w14) (w15 := w15) (w16 := w16) (w17 := w17) (w18 := w18) (w19 := w19) (w20 := w20) (w21 := w21) (w22 := w22) (w23 := w23) (w24 := w24) _
      | false =>
        rw [if_pos (show b2 false = 0 from rfl), Bool.false_or]
        rw [F_X10_isHere_r6_1 hn (W := W_number) rfl hm.2.2.2.2.2.2.2.2.2.2.2.2.2.2.2.2.2.2.2.2.2.1 (mp_a h), lf_p_e, orw_c]
        cases c21 : wh g n W_number p with
        | true =>
          rw [if_neg (show ¬ b2 true = 0 from by decide)]
          unfold F_X10_isOwnHere_294
          exact ow_299_1 (w1 := w1) (w2 := w2) (w3 := w3) (w4 := w4) (w5 := w5) (w6 := w6) (w7 := w7) (w8 := w8) (w9 := w9) (w10 := w10) (w11 := w11) (w12 := w12) (w13 := w13) (w14 := w14) (w15 := w15) (w16 := w16) (w17 := w17) (w18 := w18) (w19 := w19) (w20 := w20) (w21 := w21) (w22 := w22) (w23 := w23) (w24 := w24) _
        | false =>
          rw [if_pos (show b2 false = 0 from rfl), Bool.false_or]
          rw [F_X10_isHere_r4_1 hn (W := W_went) rfl hm.2.2.2.2.2.2.2.2.2.2.2.2.2.2.2.2.2.2.2.2.2.2.1 (mp_a h), lf_p_e, orw_c]
          cases c22 : wh g n W_went p with
          | true =>
            rw [if_neg (show ¬ b2 true = 0 from by decide)]
            unfold F_X10_isOwnHere_294
            exact ow_299_1 (w1 := w1) (w2 := w2) (w3 := w3) (w4 := w4) (w5 := w5) (w6 := w6) (w7 := w7) (w8 := w8) (w9 := w9) (w10 := w10) (w11 := w11) (w12 := w12) (w13 := w13) (w14 := w14) (w15 := w15) (w16 := w16) (w17 := w17) (w18 := w18) (w19 := w19) (w20 := w20) (w21 := w21) (w22 := w22) (w23 := w23) (w24 := w24) _
          | false =>
            rw [if_pos (show b2 false = 0 from rfl), Bool.false_or]
            rw [F_X10_isHere_r4_1 hn (W := W_harm) rfl hm.2.2.2.2.2.2.2.2.2.2.2.2.2.2.2.2.2.2.2.2.2.2.2.1 (mp_a h), lf_p_e, orw_c]
            cases c23 : wh g n W_harm p with
            | true =>
              rw [if_neg (show ¬ b2 true = 0 from by decide)]
              unfold F_X10_isOwnHere_294
              exact ow_299_1 (w1 := w1) (w2 := w2) (w3 := w3) (w4 := w4) (w5 := w5) (w6 := w6) (w7 := w7) (w8 := w8) (w9 := w9) (w10 := w10) (w11 := w11) (w12 := w12) (w13 := w13) (w14 := w14) (w15 := w15) (w16 := w16) (w17 := w17) (w18 := w18) (w19 := w19) (w20 := w20) (w21 := w21) (w22 := w22) (w23 := w23) (w24 := w24) _
            | false =>
              rw [if_pos (show b2 false = 0 from rfl), Bool.false_or]
              exact ow_299_0 hn hm h _
theorem ow_147_1 {g : Nat → Int} {n p : Nat} {xe : Int} {w1 w2 w3 w4 w5 w6 w7 w8 w9 w10 w11 w12 w13 w14 w15 w16 w17 w18 w19 w20 w21 w22 w23 w24 w25 w26 w27 w28 w29 w30 : Nat → Int} (l : Int) : F_X10_isOwnHere_147 (n : Int) xe (0 : Int) g w13 w14 w15 w16 w17 w18 w19 w20 w21 w22 w23 w24 w25 w26 w27 w28 w29 w30 l (tx_a g n p : Int) (1 : Int) = ((1 : Int), (tx_a g n p : Int)) := by
  unfold F_X10_isOwnHere_147 F_X10_isOwnHere_218
  rw [if_neg (by decide)]
  exact ow_223_1 (w1 := w1) (w2 := w2) (w3 := w3) (w4 := w4) (w5 := w5) (w6 := w6) (w7 := w7) (w8 := w8) (w9 := w9) (w10 := w10) (w11 := w11) (w12 := w12) (w13 := w13) (w14 := w14) (w15 := w15) (w16 := w16) (w17 := w17) (w18 := w18) _
theorem ow_147_0 {g : Nat → Int} {n p : Nat} {xa xe : Int} {w1 w2 w3 w4 w5 w6 w7 w8 w9 w10 w11 w12 w13 w14 w15 w16 w17 w18 w19 w20 w21 w22 w23 w24 w25 w26 w27 w28 w29 w30 : Nat → Int} (hn : n ≤ 1600) (hm : mw w1 w2 w3 w4 w5 w6 w7 w8 w9 w10 w11 w12 w13 w14 w15 w16 w17 w18 w19 w20 w21 w22 w23 w24 w25 w26 w27 w28 w29 w30) (h : mp g n p xa xe) (l : Int) : F_X10_isOwnHere_147 (n : Int) xe (0 : Int) g w13 w14 w15 w16 w17 w18 w19 w20 w21 w22 w23 w24 w25 w26 w27 w28 w29 w30 l (tx_a g n p : Int) (0 : Int) = (b2 (orw g n p [W_red, W_learns, W_away, W_second, W_day, W_phase, W_waited, W_gap, W_reds, W_number, W_went, W_harm, W_or, W_and, W_not, W_all, W_min, W_max]), (tx_a g n p : Int)) := by
  unfold F_X10_isOwnHere_147
  rw [if_pos rfl]
  rw [F_X10_isHere_1 hn (W := W_red) rfl hm.2.2.2.2.2.2.2.2.2.2.2.2.1 (mp_a h), lf_p_e, orw_c]
  cases c12 : wh g n W_red p with
  | true =>
    rw [if_neg (show ¬ b2 true = 0 from by decide)]
    unfold F_X10_isOwnHere_218
    exact ow_223_1 (w1 := w1) (w2 := w2) (w3 := w3) (w4 := w4) (w5 := w5) (w6 := w6) (w7 := w7) (w8 := w8) (w9 := w9) (w10 := w10) (w11 := w11) (w12 := w12) (w13 := w13) (w14 := w14) (w15 := w15) (w16 := w16) (w17 := w17) (w18 := w18) _
  | false =>
    rw [if_pos (show b2 false = 0 from rfl), Bool.false_or]
    rw [F_X10_isHere_r6_1 hn (W := W_learns) rfl hm.2.2.2.2.2.2.2.2.2.2.2.2.2.1 (mp_a h), lf_p_e, orw_c]
    cases c13 : wh g n W_learns p with
    | true =>
      rw [if_neg (show ¬ b2 true = 0 from by decide)]
      unfold F_X10_isOwnHere_218
      exact ow_223_1 (w1 := w1) (w2 := w2) (w3 := w3) (w4 := w4) (w5 := w5) (w6 := w6) (w7 := w7) (w8 := w8) (w9 := w9) (w10 := w10) (w11 := w11) (w12 := w12) (w13 := w13) (w14 := w14) (w15 := w15) (w16 := w16) (w17 := w17) (w18 := w18) _
    | false =>
      rw [if_pos (show b2 false = 0 from rfl), Bool.false_or]
      rw [F_X10_isHere_r4_1 hn (W := W_away) rfl hm.2.2.2.2.2.2.2.2.2.2.2.2.2.2.1 (mp_a h), lf_p_e, orw_c]
      cases c14 : wh g n W_away p with
      | true =>
        rw [if_neg (show ¬ b2 true = 0 from by decide)]
        unfold F_X10_isOwnHere_218
        exact ow_223_1 (w1 := w1) (w2 := w2) (w3 := w3) (w4 := w4) (w5 := w5) (w6 := w6) (w7 := w7) (w8 := w8) (w9 := w9) (w10 := w10) (w11 := w11) (w12 := w12) (w13 := w13) (w14 := w14) (w15 := w15) (w16 := w16) (w17 := w17) (w18 := w18) _
      | false =>
        rw [if_pos (show b2 false = 0 from rfl), Bool.false_or]
        rw [F_X10_isHere_r6_1 hn (W := W_second) rfl hm.2.2.2.2.2.2.2.2.2.2.2.2.2.2.2.1 (mp_a h), lf_p_e, orw_c]
        cases c15 : wh g n W_second p with
        | true =>
          rw [if_neg (show ¬ b2 true = 0 from by decide)]
          unfold F_X10_isOwnHere_218
          exact ow_223_1 (w1 := w1) (w2 := w2) (w3 := w3) (w4 := w4) (w5 := w5) (w6 := w6) (w7 := w7) (w8 := w8) (w9 := w9) (w10 := w10) (w11 := w11) (w12 := w12) (w13 := w13) (w14 := w14) (w15 := w15) (w16 := w16) (w17 := w17) (w18 := w18) _
        | false =>
          rw [if_pos (show b2 false = 0 from rfl), Bool.false_or]
          rw [F_X10_isHere_1 hn (W := W_day) rfl hm.2.2.2.2.2.2.2.2.2.2.2.2.2.2.2.2.1 (mp_a h), lf_p_e, orw_c]
          cases c16 : wh g n W_day p with
          | true =>
            rw [if_neg (show ¬ b2 true = 0 from by decide)]
            unfold F_X10_isOwnHere_218
            exact ow_223_1 (w1 := w1) (w2 := w2) (w3 := w3) (w4 := w4) (w5 := w5) (w6 := w6) (w7 := w7) (w8 := w8) (w9 := w9) (w10 := w10) (w11 := w11) (w12 := w12) (w13 := w13) (w14 := w14) (w15 := w15) (w16 := w16) (w17 := w17) (w18 := w18) _
          | false =>
            rw [if_pos (show b2 false = 0 from rfl), Bool.false_or]
            rw [F_X10_isHere_r5_1 hn (W := W_phase) rfl hm.2.2.2.2.2.2.2.2.2.2.2.2.2.2.2.2.2.1 (mp_a h), lf_p_e, orw_c]
            cases c17 : wh g n W_phase p with
            | true =>
              rw [if_neg (show ¬ b2 true = 0 from by decide)]
              unfold F_X10_isOwnHere_218
              exact ow_223_1 (w1 := w1) (w2 := w2) (w3 := w3) (w4 := w4) (w5 := w5) (w6 := w6) (w7 := w7) (w8 := w8) (w9 := w9) (w10 := w10) (w11 := w11) (w12 := w12) (w13 := w13) (w14 := w14) (w15 := w15) (w16 := w16) (w17 := w17) (w18 := w18) _
            | false =>
              rw [if_pos (show b2 false = 0 from rfl), Bool.false_or]
              exact ow_223_0 hn hm h _
theorem ow_71_1 {g : Nat → Int} {n p : Nat} {xe : Int} {w1 w2 w3 w4 w5 w6 w7 w8 w9 w10 w11 w12 w13 w14 w15 w16 w17 w18 w19 w20 w21 w22 w23 w24 w25 w26 w27 w28 w29 w30 : Nat → Int} : F_X10_isOwnHere_71 (n : Int) xe (0 : Int) g w7 w8 w9 w10 w11 w12 w13 w14 w15 w16 w17 w18 w19 w20 w21 w22 w23 w24 w25 w26 w27 w28 w29 w30 (tx_a g n p : Int) (1 : Int) = ((1 : Int), (tx_a g n p : Int)) := by
  unfold F_X10_isOwnHere_71 F_X10_isOwnHere_142
  rw [if_neg (by decide)]
  exact ow_147_1 (w1 := w1) (w2 := w2) (w3 := w3) (w4 := w4) (w5 := w5) (w6 := w6) (w7 := w7) (w8 := w8) (w9 := w9) (w10 := w10) (w11 := w11) (w12 := w12) _
theorem ow_71_0 {g : Nat → Int} {n p : Nat} {xa xe : Int} {w1 w2 w3 w4 w5 w6 w7 w8 w9 w10 w11 w12 w13 w14 w15 w16 w17 w18 w19 w20 w21 w22 w23 w24 w25 w26 w27 w28 w29 w30 : Nat → Int} (hn : n ≤ 1600) (hm : mw w1 w2 w3 w4 w5 w6 w7 w8 w9 w10 w11 w12 w13 w14 w15 w16 w17 w18 w19 w20 w21 w22 w23 w24 w25 w26 w27 w28 w29 w30) (h : mp g n p xa xe) : F_X10_isOwnHere_71 (n : Int) xe (0 : Int) g w7 w8 w9 w10 w11 w12 w13 w14 w15 w16 w17 w18 w19 w20 w21 w22 w23 w24 w25 w26 w27 w28 w29 w30 (tx_a g n p : Int) (0 : Int) = (b2 (orw g n p [W_pace, W_trusts, W_comes, W_is, W_at, W_car, W_red, W_learns, W_away, W_second, W_day, W_phase, W_waited, W_gap, W_reds, W_number, W_went, W_harm, W_or, W_and, W_not, W_all, W_min, W_max]), (tx_a g n p : Int)) := by
  unfold F_X10_isOwnHere_71
  rw [if_pos rfl]
  rw [F_X10_isHere_r4_1 hn (W := W_pace) rfl hm.2.2.2.2.2.2.1 (mp_a h), lf_p_e, orw_c]
  cases c6 : wh g n W_pace p with
  | true =>
    rw [if_neg (show ¬ b2 true = 0 from by decide)]
    unfold F_X10_isOwnHere_142
    exact ow_147_1 (w1 := w1) (w2 := w2) (w3 := w3) (w4 := w4) (w5 := w5) (w6 := w6) (w7 := w7) (w8 := w8) (w9 := w9) (w10 := w10) (w11 := w11) (w12 := w12) _
  | false =>
    rw [if_pos (show b2 false = 0 from rfl), Bool.false_or]
    rw [F_X10_isHere_r6_1 hn (W := W_trusts) rfl hm.2.2.2.2.2.2.2.1 (mp_a h), lf_p_e, orw_c]
    cases c7 : wh g n W_trusts p with
    | true =>
      rw [if_neg (show ¬ b2 true = 0 from by decide)]
      unfold F_X10_isOwnHere_142
      exact ow_147_1 (w1 := w1) (w2 := w2) (w3 := w3) (w4 := w4) (w5 := w5) (w6 := w6) (w7 := w7) (w8 := w8) (w9 := w9) (w10 := w10) (w11 := w11) (w12 := w12) _
    | false =>
      rw [if_pos (show b2 false = 0 from rfl), Bool.false_or]
      rw [F_X10_isHere_r5_1 hn (W := W_comes) rfl hm.2.2.2.2.2.2.2.2.1 (mp_a h), lf_p_e, orw_c]
      cases c8 : wh g n W_comes p with
      | true =>
        rw [if_neg (show ¬ b2 true = 0 from by decide)]
        unfold F_X10_isOwnHere_142
        exact ow_147_1 (w1 := w1) (w2 := w2) (w3 := w3) (w4 := w4) (w5 := w5) (w6 := w6) (w7 := w7) (w8 := w8) (w9 := w9) (w10 := w10) (w11 := w11) (w12 := w12) _
      | false =>
        rw [if_pos (show b2 false = 0 from rfl), Bool.false_or]
        rw [F_X10_isHere_r2_1 hn (W := W_is) rfl hm.2.2.2.2.2.2.2.2.2.1 (mp_a h), lf_p_e, orw_c]
        cases c9 : wh g n W_is p with
        | true =>
          rw [if_neg (show ¬ b2 true = 0 from by decide)]
          unfold F_X10_isOwnHere_142
          exact ow_147_1 (w1 := w1) (w2 := w2) (w3 := w3) (w4 := w4) (w5 := w5) (w6 := w6) (w7 := w7) (w8 := w8) (w9 := w9) (w10 := w10) (w11 := w11) (w12 := w12) _
        | false =>
          rw [if_pos (show b2 false = 0 from rfl), Bool.false_or]
          rw [F_X10_isHere_r2_1 hn (W := W_at) rfl hm.2.2.2.2.2.2.2.2.2.2.1 (mp_a h), lf_p_e, orw_c]
          cases c10 : wh g n W_at p with
          | true =>
            rw [if_neg (show ¬ b2 true = 0 from by decide)]
            unfold F_X10_isOwnHere_142
            exact ow_147_1 (w1 := w1) (w2 := w2) (w3 := w3) (w4 := w4) (w5 := w5) (w6 := w6) (w7 := w7) (w8 := w8) (w9 := w9) (w10 := w10) (w11 := w11) (w12 := w12) _
          | false =>
            rw [if_pos (show b2 false = 0 from rfl), Bool.false_or]
            rw [F_X10_isHere_1 hn (W := W_car) rfl hm.2.2.2.2.2.2.2.2.2.2.2.1 (mp_a h), lf_p_e, orw_c]
            cases c11 : wh g n W_car p with
            | true =>
              rw [if_neg (show ¬ b2 true = 0 from by decide)]
              unfold F_X10_isOwnHere_142
              exact ow_147_1 (w1 := w1) (w2 := w2) (w3 := w3) (w4 := w4) (w5 := w5) (w6 := w6) (w7 := w7) (w8 := w8) (w9 := w9) (w10 := w10) (w11 := w11) (w12 := w12) _
            | false =>
              rw [if_pos (show b2 false = 0 from rfl), Bool.false_or]
              exact ow_147_0 hn hm h _
theorem ow_own {g : Nat → Int} {n p : Nat} {xa xe : Int} {w1 w2 w3 w4 w5 w6 w7 w8 w9 w10 w11 w12 w13 w14 w15 w16 w17 w18 w19 w20 w21 w22 w23 w24 w25 w26 w27 w28 w29 w30 : Nat → Int} (hn : n ≤ 1600) (hm : mw w1 w2 w3 w4 w5 w6 w7 w8 w9 w10 w11 w12 w13 w14 w15 w16 w17 w18 w19 w20 w21 w22 w23 w24 w25 w26 w27 w28 w29 w30) (h : mp g n p xa xe) : F_X10_isOwnHere xa (n : Int) xe (0 : Int) g w1 w2 w3 w4 w5 w6 w7 w8 w9 w10 w11 w12 w13 w14 w15 w16 w17 w18 w19 w20 w21 w22 w23 w24 w25 w26 w27 w28 w29 w30 = (b2 (ow g n p), (tx_a g n p : Int)) := by
  rw [← orw_ow, show ws_12 = [W_cycle, W_green, W_rule, W_least, W_kind, W_calm, W_pace, W_trusts, W_comes, W_is, W_at, W_car, W_red, W_learns, W_away, W_second, W_day, W_phase, W_waited, W_gap, W_reds, W_number, W_went, W_harm, W_or, W_and, W_not, W_all, W_min, W_max] from rfl]
  unfold F_X10_isOwnHere
  rw [F_X10_isHere_r5_1 hn (W := W_cycle) rfl hm.1 h, lf_p_e, orw_c]
  cases c0 : wh g n W_cycle p with
  | true =>
    rw [if_neg (show ¬ b2 true = 0 from by decide)]
    unfold F_X10_isOwnHere_66
    exact ow_71_1 (w1 := w1) (w2 := w2) (w3 := w3) (w4 := w4) (w5 := w5) (w6 := w6)
  | false =>
    rw [if_pos (show b2 false = 0 from rfl), Bool.false_or]
    rw [F_X10_isHere_r5_1 hn (W := W_green) rfl hm.2.1 (mp_a h), lf_p_e, orw_c]
    cases c1 : wh g n W_green p with
    | true =>
      rw [if_neg (show ¬ b2 true = 0 from by decide)]
      unfold F_X10_isOwnHere_66
      exact ow_71_1 (w1 := w1) (w2 := w2) (w3 := w3) (w4 := w4) (w5 := w5) (w6 := w6)
    | false =>
      rw [if_pos (show b2 false = 0 from rfl), Bool.false_or]
      rw [F_X10_isHere_r4_1 hn (W := W_rule) rfl hm.2.2.1 (mp_a h), lf_p_e, orw_c]
      cases c2 : wh g n W_rule p with
      | true =>
        rw [if_neg (show ¬ b2 true = 0 from by decide)]
        unfold F_X10_isOwnHere_66
        exact ow_71_1 (w1 := w1) (w2 := w2) (w3 := w3) (w4 := w4) (w5 := w5) (w6 := w6)
      | false =>
        rw [if_pos (show b2 false = 0 from rfl), Bool.false_or]
        rw [F_X10_isHere_r5_1 hn (W := W_least) rfl hm.2.2.2.1 (mp_a h), lf_p_e, orw_c]
        cases c3 : wh g n W_least p with
        | true =>
          rw [if_neg (show ¬ b2 true = 0 from by decide)]
          unfold F_X10_isOwnHere_66
          exact ow_71_1 (w1 := w1) (w2 := w2) (w3 := w3) (w4 := w4) (w5 := w5) (w6 := w6)
        | false =>
          rw [if_pos (show b2 false = 0 from rfl), Bool.false_or]
          rw [F_X10_isHere_r4_1 hn (W := W_kind) rfl hm.2.2.2.2.1 (mp_a h), lf_p_e, orw_c]
          cases c4 : wh g n W_kind p with
          | true =>
            rw [if_neg (show ¬ b2 true = 0 from by decide)]
            unfold F_X10_isOwnHere_66
            exact ow_71_1 (w1 := w1) (w2 := w2) (w3 := w3) (w4 := w4) (w5 := w5) (w6 := w6)
          | false =>
            rw [if_pos (show b2 false = 0 from rfl), Bool.false_or]
            rw [F_X10_isHere_r4_1 hn (W := W_calm) rfl hm.2.2.2.2.2.1 (mp_a h), lf_p_e, orw_c]
            cases c5 : wh g n W_calm p with
            | true =>
              rw [if_neg (show ¬ b2 true = 0 from by decide)]
              unfold F_X10_isOwnHere_66
              exact ow_71_1 (w1 := w1) (w2 := w2) (w3 := w3) (w4 := w4) (w5 := w5) (w6 := w6)
            | false =>
              rw [if_pos (show b2 false = 0 from rfl), Bool.false_or]
              exact ow_71_0 hn hm h
end
section
/-! 34 -/
/-! names as numbers -/
theorem lol_mul {X Y : Int} (h1 : 0 ≤ X) (h2 : X ≤ 1000000000) (h3 : 0 ≤ Y) (h4 : Y ≤ 1000000000) (h5 : 0 ≤ X * Y) (h6 : X * Y ≤ 1000000000000) : lf_ol lf_lmul X Y = X * Y := by
  have e : (2 : Int) ^ 63 = 9223372036854775808 := by decide
  show (Int64.ofInt X * Int64.ofInt Y).toInt = X * Y
  rw [Int64.toInt_mul, Int64.toInt_ofInt_of_le (by omega) (by omega), Int64.toInt_ofInt_of_le (by omega) (by omega)]
  exact Int.bmod_eq_of_le (by omega) (by omega)
theorem lol_add {X Y : Int} (h1 : -1000000000000 ≤ X) (h2 : X ≤ 1000000000000) (h3 : -1000000000000 ≤ Y) (h4 : Y ≤ 1000000000000) : lf_ol lf_ladd X Y = X + Y := by
  have e : (2 : Int) ^ 63 = 9223372036854775808 := by decide
  show (Int64.ofInt X + Int64.ofInt Y).toInt = X + Y
  rw [Int64.toInt_add, Int64.toInt_ofInt_of_le (by omega) (by omega), Int64.toInt_ofInt_of_le (by omega) (by omega)]
  exact Int.bmod_eq_of_le (by omega) (by omega)
theorem lol_sub {X Y : Int} (h1 : -1000000000000 ≤ X) (h2 : X ≤ 1000000000000) (h3 : -1000000000000 ≤ Y) (h4 : Y ≤ 1000000000000) : lf_ol lf_lsub X Y = X - Y := by
  have e : (2 : Int) ^ 63 = 9223372036854775808 := by decide
  show (Int64.ofInt X - Int64.ofInt Y).toInt = X - Y
  rw [Int64.toInt_sub, Int64.toInt_ofInt_of_le (by omega) (by omega), Int64.toInt_ofInt_of_le (by omega) (by omega)]
  exact Int.bmod_eq_of_le (by omega) (by omega)
def nr : List Int → Int
  | [] => 0
  | d :: w => 27 * nr w + d - 97 + 1
def wr (g : Nat → Int) (a : Nat) : Nat → List Int
  | 0 => []
  | k + 1 => g (a + k) :: wr g a k
def b27 : Nat → Int
  | 0 => 1
  | k + 1 => 27 * b27 k
def v27 (w : List Int) : Int := nr w.reverse
theorem b27_le {k : Nat} (h : k ≤ 5) : b27 k ≤ 14348907 := by
  rcases (by omega : k = 0 ∨ k = 1 ∨ k = 2 ∨ k = 3 ∨ k = 4 ∨ k = 5) with e | e | e | e | e | e <;> (rw [e]; decide)
theorem nr_b {g : Nat → Int} {a : Nat} : ∀ k : Nat, (∀ i, i < k → 97 ≤ g (a + i) ∧ g (a + i) ≤ 122) → 0 ≤ nr (wr g a k) ∧ nr (wr g a k) < b27 k
  | 0, _ => ⟨Int.le_refl 0, show (0 : Int) < 1 by decide⟩
  | k + 1, h => by
    have i1 := nr_b k (fun i hi => h i (by omega))
    have i2 := h k (by omega)
    show 0 ≤ 27 * nr (wr g a k) + g (a + k) - 97 + 1 ∧ 27 * nr (wr g a k) + g (a + k) - 97 + 1 < 27 * b27 k
    exact ⟨by omega, by omega⟩
theorem nr_st {v d : Int} (h1 : 0 ≤ v) (h2 : v ≤ 14348907) (h3 : 97 ≤ d) (h4 : d ≤ 122) : lf_ol lf_ladd (lf_ol lf_lsub (lf_ol lf_ladd (lf_ol lf_lmul (27 : Int) v) d) (97 : Int)) (1 : Int) = 27 * v + d - 97 + 1 := by
  have e1 : lf_ol lf_lmul (27 : Int) v = 27 * v := lol_mul (by omega) (by omega) (by omega) (by omega) (by omega) (by omega)
  have e2 : lf_ol lf_ladd (27 * v) d = 27 * v + d := lol_add (by omega) (by omega) (by omega) (by omega)
  have e3 : lf_ol lf_lsub (27 * v + d) (97 : Int) = 27 * v + d - 97 := lol_sub (by omega) (by omega) (by omega) (by omega)
  rw [e1, e2, e3]
  exact lol_add (by omega) (by omega) (by omega) (by omega)
theorem wr_rev (g : Nat → Int) (a : Nat) : ∀ m : Nat, ((List.range m).map (fun i => g (a + i))).reverse = wr g a m
  | 0 => rfl
  | m + 1 => by
    rw [List.range_succ, List.map_append, List.reverse_append, wr_rev g a m]
    rfl
theorem wd_v {g : Nat → Int} {n p : Nat} : nr (wr g (tx_a g n p) (tx_e g n p - tx_a g n p)) = v27 (wd g n p) := by
  unfold v27 wd
  rw [wr_rev]
theorem nr_ge : ∀ w : List Int, (∀ x ∈ w, 97 ≤ x ∧ x ≤ 122) → 0 ≤ nr w
  | [], _ => by decide
  | d :: w, h => by
    have i1 := nr_ge w (fun x hx => h x (List.mem_cons_of_mem _ hx))
    have i2 := h d (List.mem_cons_self ..)
    show 0 ≤ 27 * nr w + d - 97 + 1
    omega
theorem nr_inj : ∀ v w : List Int, (∀ x ∈ v, 97 ≤ x ∧ x ≤ 122) → (∀ x ∈ w, 97 ≤ x ∧ x ≤ 122) → nr v = nr w → v = w
  | [], [], _, _, _ => rfl
  | [], d :: w, _, h, e => by
    have i1 := nr_ge w (fun x hx => h x (List.mem_cons_of_mem _ hx))
    have i2 := h d (List.mem_cons_self ..)
    have e2 : (0 : Int) = 27 * nr w + d - 97 + 1 := e
    omega
  | d :: w, [], h, _, e => by
    have i1 := nr_ge w (fun x hx => h x (List.mem_cons_of_mem _ hx))
    have i2 := h d (List.mem_cons_self ..)
    have e2 : 27 * nr w + d - 97 + 1 = (0 : Int) := e
    omega
  | c :: v, d :: w, h1, h2, e => by
    have i1 := h1 c (List.mem_cons_self ..)
    have i2 := h2 d (List.mem_cons_self ..)
    have e2 : 27 * nr v + c - 97 + 1 = 27 * nr w + d - 97 + 1 := e
    have e3 : c = d := by omega
    have e4 : nr v = nr w := by omega
    rw [e3, nr_inj v w (fun x hx => h1 x (List.mem_cons_of_mem _ hx)) (fun x hx => h2 x (List.mem_cons_of_mem _ hx)) e4]
theorem isW_m {w : List Int} (h : isW w) : ∀ x ∈ w.reverse, 97 ≤ x ∧ x ≤ 122 := by
  intro x hx
  rw [List.mem_reverse] at hx
  obtain ⟨i, hi, e⟩ := List.getElem_of_mem hx
  have := h.2 i hi
  rw [List.getD_eq_getElem?_getD, List.getElem?_eq_getElem hi] at this
  have h2 : 97 ≤ w[i] ∧ w[i] ≤ 122 := this
  rw [e] at h2
  exact h2
theorem v27_inj {v w : List Int} (hv : isW v) (hw : isW w) (h : v27 v = v27 w) : v = w := List.reverse_inj.mp (nr_inj _ _ (isW_m hv) (isW_m hw) h)
/-- the model's names, from a place on -/
def keptM (N : Nat → Int) (fr : Nat) (L : List (List Int)) : Prop := ∀ i, i < L.length → N (fr + i) = v27 (L.getD i [])
def gO_b (N : Nat → Int) (t fr v : Int) (K : Int → Int) (k : Int) : Int := if t ≤ k then (-1 : Int) else if (lf_cmp (N (Int.toNat (fr + k))) v) = (0 : Int) then k else K (k + (1 : Int))
def gO (N : Nat → Int) (t fr v : Int) : Nat → Int → Int
  | 0 => fun _ => (0 : Int)
  | m + 1 => gO_b N t fr v (gO N t fr v m)
theorem cmp_0 {X Y : Int} : lf_cmp X Y = 0 ↔ X = Y := by
  unfold lf_cmp
  constructor
  · intro h
    split at h
    · omega
    · split at h
      · assumption
      · omega
  · intro h
    rw [if_neg (by omega), if_pos h]
theorem gO_s {N : Nat → Int} {fr : Nat} {w : List Int} (hw : isW w) : ∀ (L : List (List Int)) (m i : Nat), (∀ j, j < L.length → isW (L.getD j [])) → keptM N (fr + i) L → L.length < m → gO N ((i + L.length : Nat) : Int) (fr : Int) (v27 w) m (i : Int) = fi w L i := by
  intro L
  induction L with
  | nil =>
    intro m i h1 h2 h3
    obtain ⟨k, rfl⟩ : ∃ k, m = k + 1 := ⟨m - 1, by have : 0 < m := h3; omega⟩
    show gO_b N _ _ _ _ _ = _
    unfold gO_b
    rw [if_pos (by show ((i + 0 : Nat) : Int) ≤ _; omega)]
    rfl
  | cons x L ih =>
    intro m i h1 h2 h3
    obtain ⟨k, rfl⟩ : ∃ k, m = k + 1 := ⟨m - 1, by have : 0 < m := Nat.lt_of_le_of_lt (Nat.zero_le _) h3; omega⟩
    have h3' : L.length + 1 < k + 1 := h3
    show gO_b N _ _ _ (gO N _ _ _ k) _ = _
    unfold gO_b
    rw [if_neg (by show ¬ ((i + (L.length + 1) : Nat) : Int) ≤ _; omega), show Int.toNat ((fr : Int) + (i : Int)) = fr + i from by omega]
    have hx : N (fr + i) = v27 x := h2 0 (by show 0 < L.length + 1; omega)
    have h1x : isW x := h1 0 (by show 0 < L.length + 1; omega)
    rw [hx]
    show _ = if x = w then (i : Int) else fi w L (i + 1)
    by_cases q : x = w
    · rw [if_pos (cmp_0.mpr (by rw [q])), if_pos q]
    · rw [if_neg (fun r => q (v27_inj h1x hw (cmp_0.mp r))), if_neg q]
      have := ih k (i + 1) (fun j hj => h1 (j + 1) (by show j + 1 < L.length + 1; omega)) (fun j hj => by
        have := h2 (j + 1) (by show j + 1 < L.length + 1; omega)
        rw [show fr + (i + 1) + j = fr + i + (j + 1) from by omega]
        exact this) (by omega)
      rw [show (i : Int) + 1 = ((i + 1 : Nat) : Int) from by omega, show (i + (x :: L).length) = i + 1 + L.length from by show i + (L.length + 1) = _; omega]
      exact this
/-- the names of the model -/
def mnm (M N : Nat → Int) (Ks Ws : List (List Int)) : Prop := M 0 = (Ks.length : Int) ∧ M 1 = (Ws.length : Int) ∧ (∀ j, j < Ks.length → isW (Ks.getD j [])) ∧ (∀ j, j < Ws.length → isW (Ws.getD j [])) ∧ keptM N 0 Ks ∧ keptM N 12 Ws ∧ Ks.length ≤ 6 ∧ Ws.length ≤ 12
theorem no_0l (M N : Nat → Int) (v : Int) : ∀ m : Nat, F_X10_nameOf_a0_0_3 M N v m = gO N (M 0) (0 : Int) v m
  | 0 => rfl
  | m + 1 => by
    show F_X10_nameOf_a0_0_3b M N v (F_X10_nameOf_a0_0_3 M N v m) = gO_b N (M 0) (0 : Int) v (gO N (M 0) (0 : Int) v m)
    rw [no_0l M N v m]
    rfl
theorem no_1l (M N : Nat → Int) (v : Int) : ∀ m : Nat, F_X10_nameOf_a0_1_3 M N v m = gO N (M 1) (12 : Int) v m
  | 0 => rfl
  | m + 1 => by
    show F_X10_nameOf_a0_1_3b M N v (F_X10_nameOf_a0_1_3 M N v m) = gO_b N (M 1) (12 : Int) v (gO N (M 1) (12 : Int) v m)
    rw [no_1l M N v m]
    rfl
theorem no_0 {M N : Nat → Int} {Ks Ws : List (List Int)} {w : List Int} (hw : isW w) (h : mnm M N Ks Ws) : F_X10_nameOf_a0_0 M N (v27 w) = fi w Ks 0 := by
  obtain ⟨h1, h2, h3, h4, h5, h6, h7, h8⟩ := h
  unfold F_X10_nameOf_a0_0
  rw [no_0l, h1, show (Ks.length : Int) = ((0 + Ks.length : Nat) : Int) from by omega]
  exact gO_s (fr := 0) hw Ks 8 0 h3 h5 (by omega)
theorem no_1 {M N : Nat → Int} {Ks Ws : List (List Int)} {w : List Int} (hw : isW w) (h : mnm M N Ks Ws) : F_X10_nameOf_a0_1 M N (v27 w) = fi w Ws 0 := by
  obtain ⟨h1, h2, h3, h4, h5, h6, h7, h8⟩ := h
  unfold F_X10_nameOf_a0_1
  rw [no_1l, h2, show (Ws.length : Int) = ((0 + Ws.length : Nat) : Int) from by omega]
  exact gO_s (fr := 12) hw Ws 14 0 h4 h6 (by omega)
theorem wq_own : ws_12.all (fun w => decide (w.length ≤ 6)) = true := by decide
theorem wfind_len {g : Nat → Int} {a e : Nat} : ∀ (ws : List (List Int)) (i : Nat), ws.all (fun w => decide (w.length ≤ 6)) = true → ¬ wfind g a e ws i = -1 → e ≤ a + 6
  | [], _, _, h => absurd rfl h
  | w :: ws, i, hl, h => by
    have h1 : w.length ≤ 6 := of_decide_eq_true (List.all_eq_true.mp hl w (List.mem_cons_self ..))
    have h2 : ws.all (fun w => decide (w.length ≤ 6)) = true := List.all_eq_true.mpr (fun x hx => List.all_eq_true.mp hl x (List.mem_cons_of_mem _ hx))
    have h3 : ¬ (if wq g e w a = true then (i : Int) else wfind g a e ws (i + 1)) = -1 := h
    by_cases q : wq g e w a = true
    · have := wq_len w a q
      omega
    · rw [if_neg q] at h3
      exact wfind_len ws (i + 1) h2 h3
theorem ow_len {g : Nat → Int} {n p : Nat} (h : ¬ wl g n ws_12 p = -1) : tx_e g n p ≤ tx_a g n p + 6 := by
  have hk := wl_k h
  unfold wl at h
  rw [if_pos hk] at h
  exact wfind_len ws_12 0 wq_own h
/-- the letters of a name -/
theorem nm_loop {g : Nat → Int} {n b e : Nat} {xe : Int} (he : e ≤ n) (hd : ∀ k, b ≤ k → k < e → tx_so g n k = 1) (hx : e < n → ¬ tx_so g n e = 1) : ∀ (m a : Nat), b ≤ a → a ≤ e → a ≤ b + 6 → n - a < m → F_X10_name_58 (n : Int) xe (0 : Int) (-1 : Int) g m (a : Int) (b : Int) (nr (wr g b (a - b))) = if e ≤ b + 6 then (nr (wr g b (e - b)), (e : Int), (e : Int), (0 : Int), (-1 : Int), (b : Int)) else ((0 : Int), (b : Int) + 6, xe, (1 : Int), (b : Int) + 6, (b : Int)) := by
  intro m
  induction m with
  | zero => intro a h1 h2 h3 h4; omega
  | succ m ih =>
    intro a h1 h2 h3 h4
    show F_X10_name_58b (n : Int) xe (0 : Int) (-1 : Int) g (F_X10_name_58 (n : Int) xe (0 : Int) (-1 : Int) g m) (a : Int) (b : Int) (nr (wr g b (a - b))) = _
    unfold F_X10_name_58b F_X10_name_145
    rw [Int.toNat_natCast, lf_b_e]
    by_cases c : a = e
    · rw [if_pos (by omega : e ≤ b + 6)]
      by_cases c2 : a < n
      · rw [if_neg (by omega), so_let c2, if_neg (show ¬ tx_so g n a = 1 from by rw [c]; exact hx (by omega)), if_pos rfl, c]
      · rw [if_pos (by omega), c]
    · have h7 := hd a h1 (by omega)
      have h8 := tx_so_1 h7
      rw [if_neg (by omega), so_let h8.1, if_pos h7, if_neg (show ¬ (1 : Int) = 0 from by decide)]
      by_cases c3 : a = b + 6
      · rw [if_pos (by omega), if_neg (by omega), show (a : Int) = (b : Int) + 6 from by omega]
      · have hb := nr_b (g := g) (a := b) (a - b) (fun i hi => (tx_so_1 (hd (b + i) (by omega) (by omega))).2)
        have hb2 := b27_le (k := a - b) (by omega)
        rw [if_neg (by omega), nr_st hb.1 (by omega) h8.2.1 h8.2.2, show (a : Int) + (1 : Int) = ((a + 1 : Nat) : Int) from by omega]
        have e9 : 27 * nr (wr g b (a - b)) + g a - 97 + 1 = nr (wr g b (a + 1 - b)) := by
          rw [show a + 1 - b = (a - b) + 1 from by omega]
          show _ = 27 * nr (wr g b (a - b)) + g (b + (a - b)) - 97 + 1
          rw [show b + (a - b) = a from by omega]
        rw [e9]
        exact ih (a + 1) (by omega) (by omega) (by omega) (by omega)
def rm6 (g : Nat → Int) (n : Nat) (s : ST) (o : Int × Int × Int × Int × Int × Int) : Prop := rm g n s o.2.1 o.2.2.1 o.2.2.2.1 o.2.2.2.2.1
def sp_nm (g : Nat → Int) (n p : Nat) : ST := if isNm g n p = true then .inr (tx_e g n p) else .inl (1, wrN g n p)
theorem nm_1 {g : Nat → Int} {n p : Nat} {xa xe np : Int} {w1 w2 w3 w4 w5 w6 w7 w8 w9 w10 w11 w12 w13 w14 w15 w16 w17 w18 w19 w20 w21 w22 w23 w24 w25 w26 w27 w28 w29 w30 : Nat → Int} (hn : n ≤ 1600) (hm : mw w1 w2 w3 w4 w5 w6 w7 w8 w9 w10 w11 w12 w13 w14 w15 w16 w17 w18 w19 w20 w21 w22 w23 w24 w25 w26 w27 w28 w29 w30) (h : mp g n p xa xe) : rm6 g n (sp_nm g n p) (F_X10_name xa (n : Int) xe (0 : Int) (-1 : Int) np g w1 w2 w3 w4 w5 w6 w7 w8 w9 w10 w11 w12 w13 w14 w15 w16 w17 w18 w19 w20 w21 w22 w23 w24 w25 w26 w27 w28 w29 w30) ∧ (isNm g n p = true → (F_X10_name xa (n : Int) xe (0 : Int) (-1 : Int) np g w1 w2 w3 w4 w5 w6 w7 w8 w9 w10 w11 w12 w13 w14 w15 w16 w17 w18 w19 w20 w21 w22 w23 w24 w25 w26 w27 w28 w29 w30).1 = v27 (wd g n p) ∧ (F_X10_name xa (n : Int) xe (0 : Int) (-1 : Int) np g w1 w2 w3 w4 w5 w6 w7 w8 w9 w10 w11 w12 w13 w14 w15 w16 w17 w18 w19 w20 w21 w22 w23 w24 w25 w26 w27 w28 w29 w30).2.2.2.2.2 = (tx_a g n p : Int)) := by
  have e1 : F_X10_name xa (n : Int) xe (0 : Int) (-1 : Int) np g w1 w2 w3 w4 w5 w6 w7 w8 w9 w10 w11 w12 w13 w14 w15 w16 w17 w18 w19 w20 w21 w22 w23 w24 w25 w26 w27 w28 w29 w30 = if isNm g n p = true then (v27 (wd g n p), (tx_e g n p : Int), (tx_e g n p : Int), (0 : Int), (-1 : Int), (tx_a g n p : Int)) else if tx_k g n p = 1 ∧ ¬ tx_e g n p - tx_a g n p ≤ 6 then ((0 : Int), (tx_a g n p : Int) + 6, xe, (1 : Int), (tx_a g n p : Int) + 6, (tx_a g n p : Int)) else ((0 : Int), (tx_a g n p : Int), xe, (1 : Int), (tx_a g n p : Int), np) := by
    unfold F_X10_name F_X10_name_37
    rw [if_pos rfl, ml_look hn h, lf_p_e, lf_b_e, lk_let]
    by_cases q : tx_so g n (tx_a g n p) = 1
    · have hlt := tx_so_1 q
      rw [if_pos q, if_neg (show ¬ (1 : Int) = 0 from by decide)]
      by_cases q2 : (tx_a g n p : Int) = xe
      · have q3 := (mp_gl h).mp q2
        have hk := tx_k_yes rfl q3.1 q3.2.1 q3.2.2 (Or.inl q)
        have hN : ¬ isNm g n p = true := fun r => by have := (isNm_W r).1; omega
        rw [if_pos q2, if_neg hN, if_neg (fun r => by omega)]
      · have hk : tx_k g n p = 1 := by
          rw [tx_k_no rfl (fun r => q2 ((mp_gl h).mpr ⟨r.1, r.2.1, r.2.2.1⟩))]
          exact q
        have h9 := tx_e_in hk (Or.inl rfl)
        have he := tx_e_le (f := g) h.1
        have hx : tx_e g n p < n → ¬ tx_so g n (tx_e g n p) = 1 := by
          intro r1 r2
          have e : tx_e g n p = tx_run (tx_s g n 1) n (tx_a g n p + 1) := by
            unfold tx_e
            rw [if_neg (by omega), if_neg (by omega), q]
          have := tx_run_end (tx_s g n 1) n (tx_a g n p + 1)
          rw [← e] at this
          exact this ⟨r1, decide_eq_true r2⟩
        rw [if_neg q2, ow_own hn hm (mp_a h), lf_p_e]
        unfold ow
        by_cases q4 : wl g n ws_12 p = -1
        · rw [decide_eq_false (fun r => r q4), if_pos (show b2 false = 0 from rfl)]
          have e0 : nr (wr g (tx_a g n p) (tx_a g n p - tx_a g n p)) = (0 : Int) := by rw [Nat.sub_self]; rfl
          have e8 := nm_loop (xe := xe) he (fun k h1 h2 => h9.2 k h1 h2) hx 1602 (tx_a g n p) (Nat.le_refl _) (by omega) (by omega) (by omega)
          rw [e0] at e8
          rw [e8]
          by_cases q5 : tx_e g n p ≤ tx_a g n p + 6
          · have hN : isNm g n p = true := by
              unfold isNm
              rw [decide_eq_true hk, decide_eq_true (by omega), decide_eq_true q4]
              rfl
            rw [if_pos q5, if_pos hN, wd_v]
          · have hN : ¬ isNm g n p = true := fun r => by have := (isNm_W r).2.1; rw [wd_len] at this; omega
            rw [if_neg q5, if_neg hN, if_pos ⟨hk, by omega⟩]
        · have hN : ¬ isNm g n p = true := fun r => by
            unfold isNm at r
            rw [decide_eq_false q4, Bool.and_false] at r
            exact Bool.noConfusion r
          have := ow_len q4
          rw [decide_eq_true q4, if_neg (show ¬ b2 true = 0 from by decide), if_neg hN, if_neg (fun r => r.2 (by omega))]
    · have hk : ¬ tx_k g n p = 1 := by
        rcases tx_k_so (g := g) (n := n) (p := p) with r | r
        · omega
        · omega
      have hN : ¬ isNm g n p = true := fun r => hk (isNm_W r).1
      rw [if_neg q, if_pos rfl, if_neg hN, if_neg (fun r => hk r.1)]
  rw [e1]
  unfold sp_nm wrN
  by_cases hN : isNm g n p = true
  · rw [if_pos hN, if_pos hN]
    exact ⟨⟨rfl, rfl, mp_tok h.1 (isNm_W hN).1 (Or.inl rfl)⟩, fun _ => ⟨rfl, rfl⟩⟩
  · rw [if_neg hN, if_neg hN]
    refine ⟨?_, fun r => absurd r hN⟩
    by_cases q : tx_k g n p = 1 ∧ ¬ tx_e g n p - tx_a g n p ≤ 6
    · rw [if_pos q, if_pos q]
      exact ⟨rfl, rfl⟩
    · rw [if_neg q, if_neg q]
      exact ⟨rfl, rfl⟩
theorem nm_0 {g : Nat → Int} {xa n xe xb xp np : Int} {w1 w2 w3 w4 w5 w6 w7 w8 w9 w10 w11 w12 w13 w14 w15 w16 w17 w18 w19 w20 w21 w22 w23 w24 w25 w26 w27 w28 w29 w30 : Nat → Int} (h : ¬ xb = 0) : F_X10_name xa n xe xb xp np g w1 w2 w3 w4 w5 w6 w7 w8 w9 w10 w11 w12 w13 w14 w15 w16 w17 w18 w19 w20 w21 w22 w23 w24 w25 w26 w27 w28 w29 w30 = ((0 : Int), xa, xe, xb, xp, np) := by
  unfold F_X10_name
  rw [if_neg h]
/-- a new name -/
theorem nw_1 {g M N : Nat → Int} {n p : Nat} {xa xe np : Int} {Ks Ws : List (List Int)} {w1 w2 w3 w4 w5 w6 w7 w8 w9 w10 w11 w12 w13 w14 w15 w16 w17 w18 w19 w20 w21 w22 w23 w24 w25 w26 w27 w28 w29 w30 : Nat → Int} (hn : n ≤ 1600) (hm : mw w1 w2 w3 w4 w5 w6 w7 w8 w9 w10 w11 w12 w13 w14 w15 w16 w17 w18 w19 w20 w21 w22 w23 w24 w25 w26 w27 w28 w29 w30) (h : mp g n p xa xe) (hN : mnm M N Ks Ws) : rm6 g n (sp_new g n Ks Ws p) (F_X10_newName xa (n : Int) xe (0 : Int) (-1 : Int) np g w1 w2 w3 w4 w5 w6 w7 w8 w9 w10 w11 w12 w13 w14 w15 w16 w17 w18 w19 w20 w21 w22 w23 w24 w25 w26 w27 w28 w29 w30 M N) ∧ (∀ q, sp_new g n Ks Ws p = .inr q → (F_X10_newName xa (n : Int) xe (0 : Int) (-1 : Int) np g w1 w2 w3 w4 w5 w6 w7 w8 w9 w10 w11 w12 w13 w14 w15 w16 w17 w18 w19 w20 w21 w22 w23 w24 w25 w26 w27 w28 w29 w30 M N).1 = v27 (wd g n p)) := by
  have h1 := nm_1 (np := np) hn hm h
  unfold F_X10_newName
  generalize F_X10_name xa (n : Int) xe (0 : Int) (-1 : Int) np g w1 w2 w3 w4 w5 w6 w7 w8 w9 w10 w11 w12 w13 w14 w15 w16 w17 w18 w19 w20 w21 w22 w23 w24 w25 w26 w27 w28 w29 w30 = o at h1 ⊢
  obtain ⟨r1, a1, x1, b1, p1, n1⟩ := o
  rw [lf_p_e, lf_p_e, lf_p_e, lf_p_e, lf_p_e]
  obtain ⟨h2, h3⟩ := h1
  unfold sp_nm at h2
  unfold sp_new
  by_cases c : isNm g n p = true
  · rw [if_pos c] at h2
    obtain ⟨y1, y2, y3⟩ := h2
    have z1 : r1 = v27 (wd g n p) := (h3 c).1
    have z2 : n1 = (tx_a g n p : Int) := (h3 c).2
    have y1 : b1 = 0 := y1
    have y2 : p1 = -1 := y2
    have y3 : mp g n (tx_e g n p) a1 x1 := y3
    subst y1
    subst y2
    subst z1
    subst z2
    rw [if_pos rfl, if_pos c, lf_b_e, no_0 (isNm_W c).2 hN, lf_b_e]
    by_cases q1 : fi (wd g n p) Ks 0 = -1
    · rw [if_pos q1, no_1 (isNm_W c).2 hN]
      by_cases q2 : fi (wd g n p) Ws 0 = -1
      · rw [if_pos q2, if_pos ⟨q1, q2⟩]
        exact ⟨⟨rfl, rfl, y3⟩, fun _ _ => rfl⟩
      · rw [if_neg q2, if_neg (fun r => q2 r.2)]
        exact ⟨⟨rfl, rfl⟩, fun q r => by cases r⟩
    · rw [if_neg q1, if_neg (fun r => q1 r.1)]
      exact ⟨⟨rfl, rfl⟩, fun q r => by cases r⟩
  · rw [if_neg c] at h2
    obtain ⟨y1, y2⟩ := h2
    have y1 : b1 = 1 := y1
    subst y1
    rw [if_neg (show ¬ (1 : Int) = 0 from by decide), if_neg c]
    exact ⟨⟨rfl, y2⟩, fun q r => by cases r⟩
theorem nw_0 {g M N : Nat → Int} {xa n xe xb xp np : Int} {w1 w2 w3 w4 w5 w6 w7 w8 w9 w10 w11 w12 w13 w14 w15 w16 w17 w18 w19 w20 w21 w22 w23 w24 w25 w26 w27 w28 w29 w30 : Nat → Int} (h : ¬ xb = 0) : F_X10_newName xa n xe xb xp np g w1 w2 w3 w4 w5 w6 w7 w8 w9 w10 w11 w12 w13 w14 w15 w16 w17 w18 w19 w20 w21 w22 w23 w24 w25 w26 w27 w28 w29 w30 M N = ((0 : Int), xa, xe, xb, xp, np) := by
  unfold F_X10_newName
  rw [nm_0 h, lf_p_e, lf_p_e, lf_p_e, lf_p_e, lf_p_e, if_neg h]
end
section
/-! 35 -/
theorem gM_s {g : Nat → Int} {n : Nat} {s : ST} {xa xe xb xp : Int} (hn : n ≤ 1600) (hv : sv n s) (h : rm g n s xa xe xb xp) (lo hi d : Int) : rm5 g n (sbv s (sp_num g n lo hi) d) (gM xa (n : Int) xe xb xp g lo hi) := by
  cases s with
  | inl q =>
    have hb : ¬ xb = 0 := fun r => hv (h.1.symm.trans r)
    unfold gM
    rw [if_neg hb]
    exact ⟨h, fun p r => by cases r⟩
  | inr p =>
    obtain ⟨h1, h2, h3⟩ := h
    subst h1
    subst h2
    exact gM_1 hn h3 lo hi
theorem sbv_nb {g : Nat → Int} {n : Nat} {s : ST} {ws : List (List Int)} {lo hi : Int} : sbv (sb s (sp_w g n ws)) (sp_num g n lo hi) lo = sbv s (sp_nb g n ws lo hi) lo := by
  cases s with
  | inl q => rfl
  | inr p =>
    show sbv (sp_w g n ws p) (sp_num g n lo hi) lo = sp_nb g n ws lo hi p
    unfold sp_nb
    cases sp_w g n ws p with
    | inl q => rfl
    | inr p2 => rfl
theorem sbv_hi {g : Nat → Int} {n : Nat} {s : ST} {lo hi hi2 d : Int} (h : ∀ p, s = .inr p → hi = hi2) : sbv s (sp_num g n lo hi) d = sbv s (sp_num g n lo hi2) d := by
  cases s with
  | inl q => rfl
  | inr p => rw [h p rfl]
theorem sp_num_in {g : Nat → Int} {n p q : Nat} {lo hi : Int} (h : (sp_num g n lo hi p).2 = .inr q) : lo ≤ (sp_num g n lo hi p).1 ∧ (sp_num g n lo hi p).1 ≤ hi := by
  unfold sp_num at *
  split at h
  · rename_i k
    rw [if_pos k]
    split at h
    · rename_i k2
      rw [if_pos k2]
      split at h
      · cases h
      · rename_i k3
        rw [if_neg k3]
        exact ⟨by show lo ≤ dval _ _ _ _; omega, by show dval _ _ _ _ ≤ hi; omega⟩
    · cases h
  · cases h
theorem sp_nb_in {g : Nat → Int} {n p q : Nat} {ws : List (List Int)} {lo hi : Int} (h : (sp_nb g n ws lo hi p).2 = .inr q) : lo ≤ (sp_nb g n ws lo hi p).1 ∧ (sp_nb g n ws lo hi p).1 ≤ hi := by
  unfold sp_nb at *
  cases e : sp_w g n ws p with
  | inl x => rw [e] at h; cases h
  | inr p2 =>
    rw [e] at h
    exact sp_num_in h
theorem bt_s {g bar : Nat → Int} {n : Nat} {s : ST} {xa xe xb xp : Int} {w1 w2 w3 w4 w5 w6 w7 w8 w9 w10 w11 w12 w13 w14 w15 w16 w17 w18 w19 w20 w21 w22 w23 w24 w25 w26 w27 w28 w29 w30 : Nat → Int} (hn : n ≤ 1600) (hm : mw w1 w2 w3 w4 w5 w6 w7 w8 w9 w10 w11 w12 w13 w14 w15 w16 w17 w18 w19 w20 w21 w22 w23 w24 w25 w26 w27 w28 w29 w30) (hv : sv n s) (h : rm g n s xa xe xb xp) : rm g n (sb (sp_1d g n s).2 (sp_need g n 59)) (F_X10_barTold xa (n : Int) xe xb xp g w1 w2 w3 w4 bar).1 (F_X10_barTold xa (n : Int) xe xb xp g w1 w2 w3 w4 bar).2.1 (F_X10_barTold xa (n : Int) xe xb xp g w1 w2 w3 w4 bar).2.2.1 (F_X10_barTold xa (n : Int) xe xb xp g w1 w2 w3 w4 bar).2.2.2.1 ∧ ∀ p, sb (sp_1d g n s).2 (sp_need g n 59) = .inr p → (F_X10_barTold xa (n : Int) xe xb xp g w1 w2 w3 w4 bar).2.2.2.2 0 = (sp_1a g n s).1 ∧ (F_X10_barTold xa (n : Int) xe xb xp g w1 w2 w3 w4 bar).2.2.2.2 1 = (sp_1b g n s).1 ∧ (F_X10_barTold xa (n : Int) xe xb xp g w1 w2 w3 w4 bar).2.2.2.2 2 = (sp_1c g n s).1 ∧ (F_X10_barTold xa (n : Int) xe xb xp g w1 w2 w3 w4 bar).2.2.2.2 3 = (sp_1d g n s).1 := by
  unfold F_X10_barTold
  have r1 := F_X10_asks_r5_s hn (W := W_cycle) rfl hm.1 hv h
  have v1 : sv n (sb s (sp_w g n [W_cycle])) := sv_sb hv (fun _ hp => sp_w_v _ hp)
  generalize F_X10_asks_r5 xa (n : Int) xe xb xp g w1 = o1 at r1 ⊢
  obtain ⟨xa1, xe1, xb1, xp1⟩ := o1
  have r1 : rm g n (sb s (sp_w g n [W_cycle])) xa1 xe1 xb1 xp1 := r1
  rw [lf_p_e, lf_p_e, lf_p_e]
  have r2 := gM_s hn v1 r1 10 120 10
  rw [F_X10_number_a0_10_a1_120_g]
  generalize gM xa1 (n : Int) xe1 xb1 xp1 g 10 120 = o2 at r2 ⊢
  obtain ⟨y2, xa2, xe2, xb2, xp2⟩ := o2
  rw [sbv_nb] at r2
  have r2 : rm5 g n (sp_1a g n s) (y2, xa2, xe2, xb2, xp2) := r2
  have y2h : ∀ p77, (sp_1a g n s).2 = .inr p77 → y2 = (sp_1a g n s).1 := r2.2
  have r2 : rm g n (sp_1a g n s).2 xa2 xe2 xb2 xp2 := r2.1
  rw [lf_p_e, lf_p_e, lf_p_e, lf_p_e]
  have r3 := F_X10_asks_r5_s hn (W := W_green) rfl hm.2.1 (sp_1a_v hv) r2
  have v3 : sv n (sb (sp_1a g n s).2 (sp_w g n [W_green])) := sv_sb (sp_1a_v hv) (fun _ hp => sp_w_v _ hp)
  generalize F_X10_asks_r5 xa2 (n : Int) xe2 xb2 xp2 g w2 = o3 at r3 ⊢
  obtain ⟨xa3, xe3, xb3, xp3⟩ := o3
  have r3 : rm g n (sb (sp_1a g n s).2 (sp_w g n [W_green])) xa3 xe3 xb3 xp3 := r3
  rw [lf_p_e, lf_p_e, lf_p_e]
  rw [show (lf_up bar (0 : Int) y2) 0 = y2 from rfl]
  by_cases c60 : y2 ≤ 60
  · rw [if_pos c60]
    have r4 := gM_s hn v3 r3 1 (lf_o lf_isub y2 1) 1
    rw [F_X10_number_a0_1_g]
    generalize gM xa3 (n : Int) xe3 xb3 xp3 g 1 (lf_o lf_isub y2 1) = o4 at r4 ⊢
    obtain ⟨y4, xa4, xe4, xb4, xp4⟩ := o4
    rw [sbv_hi (hi2 := min 60 ((sp_1a g n s).1 - 1)) (fun p e => by
      obtain ⟨p0, e0, e1⟩ := sb_in e
      have y0 := y2h p0 e0
      obtain ⟨p9, e9, e8⟩ := sbv_in e0
      have y9 := sp_nb_in e8
      subst e9
      have y8 : 10 ≤ (sp_1a g n (.inr p9)).1 ∧ (sp_1a g n (.inr p9)).1 ≤ 120 := y9
      rw [y0, lo_sub (by omega) (by omega) (by omega) (by omega) (by omega) (by omega)]
      omega), sbv_nb] at r4
    have r4 : rm5 g n (sp_1b g n s) (y4, xa4, xe4, xb4, xp4) := r4
    have y4h : ∀ p77, (sp_1b g n s).2 = .inr p77 → y4 = (sp_1b g n s).1 := r4.2
    have r4 : rm g n (sp_1b g n s).2 xa4 xe4 xb4 xp4 := r4.1
    rw [lf_p_e, lf_p_e, lf_p_e, lf_p_e]
    have r5 := F_X10_asks_r4_s hn (W := W_rule) rfl hm.2.2.1 (sp_1b_v hv) r4
    have v5 : sv n (sb (sp_1b g n s).2 (sp_w g n [W_rule])) := sv_sb (sp_1b_v hv) (fun _ hp => sp_w_v _ hp)
    generalize F_X10_asks_r4 xa4 (n : Int) xe4 xb4 xp4 g w3 = o5 at r5 ⊢
    obtain ⟨xa5, xe5, xb5, xp5⟩ := o5
    have r5 : rm g n (sb (sp_1b g n s).2 (sp_w g n [W_rule])) xa5 xe5 xb5 xp5 := r5
    rw [lf_p_e, lf_p_e, lf_p_e]
    have r6 := gM_s hn v5 r5 0 2 0
    rw [F_X10_number_a0_0_a1_2_g]
    generalize gM xa5 (n : Int) xe5 xb5 xp5 g 0 2 = o6 at r6 ⊢
    obtain ⟨y6, xa6, xe6, xb6, xp6⟩ := o6
    rw [sbv_nb] at r6
    have r6 : rm5 g n (sp_1c g n s) (y6, xa6, xe6, xb6, xp6) := r6
    have y6h : ∀ p77, (sp_1c g n s).2 = .inr p77 → y6 = (sp_1c g n s).1 := r6.2
    have r6 : rm g n (sp_1c g n s).2 xa6 xe6 xb6 xp6 := r6.1
    rw [lf_p_e, lf_p_e, lf_p_e, lf_p_e]
    have r7 := F_X10_asks_r5_s hn (W := W_least) rfl hm.2.2.2.1 (sp_1c_v hv) r6
    have v7 : sv n (sb (sp_1c g n s).2 (sp_w g n [W_least])) := sv_sb (sp_1c_v hv) (fun _ hp => sp_w_v _ hp)
    generalize F_X10_asks_r5 xa6 (n : Int) xe6 xb6 xp6 g w4 = o7 at r7 ⊢
    obtain ⟨xa7, xe7, xb7, xp7⟩ := o7
    have r7 : rm g n (sb (sp_1c g n s).2 (sp_w g n [W_least])) xa7 xe7 xb7 xp7 := r7
    rw [lf_p_e, lf_p_e, lf_p_e]
    have r8 := gM_s hn v7 r7 0 99 0
    rw [F_X10_number_a0_0_a1_99_g]
    generalize gM xa7 (n : Int) xe7 xb7 xp7 g 0 99 = o8 at r8 ⊢
    obtain ⟨y8, xa8, xe8, xb8, xp8⟩ := o8
    rw [sbv_nb] at r8
    have r8 : rm5 g n (sp_1d g n s) (y8, xa8, xe8, xb8, xp8) := r8
    have y8h : ∀ p77, (sp_1d g n s).2 = .inr p77 → y8 = (sp_1d g n s).1 := r8.2
    have r8 : rm g n (sp_1d g n s).2 xa8 xe8 xb8 xp8 := r8.1
    rw [lf_p_e, lf_p_e, lf_p_e, lf_p_e]
    have r9 := F_X10_asksSign_a0_59_s hn (sp_1d_v hv) r8
    generalize F_X10_asksSign_a0_59 xa8 (n : Int) xb8 xp8 g = o9 at r9 ⊢
    obtain ⟨xa9, xb9, xp9⟩ := o9
    rw [lf_p_e, lf_p_e]
    refine ⟨r9, fun p e => ?_⟩
    obtain ⟨p4, e4, _⟩ := sb_in e
    obtain ⟨p3, e3, _⟩ := sbv_in e4
    obtain ⟨p2, e2, _⟩ := sbv_in e3
    obtain ⟨p1, e1, _⟩ := sbv_in e2
    exact ⟨y2h p1 e1, y4h p2 e2, y6h p3 e3, y8h p4 e4⟩
  · rw [if_neg c60]
    have r4 := gM_s hn v3 r3 1 60 1
    rw [F_X10_number_a0_1_a1_60_g]
    generalize gM xa3 (n : Int) xe3 xb3 xp3 g 1 60 = o4 at r4 ⊢
    obtain ⟨y4, xa4, xe4, xb4, xp4⟩ := o4
    rw [sbv_hi (hi2 := min 60 ((sp_1a g n s).1 - 1)) (fun p e => by
      obtain ⟨p0, e0, e1⟩ := sb_in e
      have y0 := y2h p0 e0
      omega), sbv_nb] at r4
    have r4 : rm5 g n (sp_1b g n s) (y4, xa4, xe4, xb4, xp4) := r4
    have y4h : ∀ p77, (sp_1b g n s).2 = .inr p77 → y4 = (sp_1b g n s).1 := r4.2
    have r4 : rm g n (sp_1b g n s).2 xa4 xe4 xb4 xp4 := r4.1
    rw [lf_p_e, lf_p_e, lf_p_e, lf_p_e]
    have r5 := F_X10_asks_r4_s hn (W := W_rule) rfl hm.2.2.1 (sp_1b_v hv) r4
    have v5 : sv n (sb (sp_1b g n s).2 (sp_w g n [W_rule])) := sv_sb (sp_1b_v hv) (fun _ hp => sp_w_v _ hp)
    generalize F_X10_asks_r4 xa4 (n : Int) xe4 xb4 xp4 g w3 = o5 at r5 ⊢
    obtain ⟨xa5, xe5, xb5, xp5⟩ := o5
    have r5 : rm g n (sb (sp_1b g n s).2 (sp_w g n [W_rule])) xa5 xe5 xb5 xp5 := r5
    rw [lf_p_e, lf_p_e, lf_p_e]
    have r6 := gM_s hn v5 r5 0 2 0
    rw [F_X10_number_a0_0_a1_2_g]
    generalize gM xa5 (n : Int) xe5 xb5 xp5 g 0 2 = o6 at r6 ⊢
    obtain ⟨y6, xa6, xe6, xb6, xp6⟩ := o6
    rw [sbv_nb] at r6
    have r6 : rm5 g n (sp_1c g n s) (y6, xa6, xe6, xb6, xp6) := r6
    have y6h : ∀ p77, (sp_1c g n s).2 = .inr p77 → y6 = (sp_1c g n s).1 := r6.2
    have r6 : rm g n (sp_1c g n s).2 xa6 xe6 xb6 xp6 := r6.1
    rw [lf_p_e, lf_p_e, lf_p_e, lf_p_e]
    have r7 := F_X10_asks_r5_s hn (W := W_least) rfl hm.2.2.2.1 (sp_1c_v hv) r6
    have v7 : sv n (sb (sp_1c g n s).2 (sp_w g n [W_least])) := sv_sb (sp_1c_v hv) (fun _ hp => sp_w_v _ hp)
    generalize F_X10_asks_r5 xa6 (n : Int) xe6 xb6 xp6 g w4 = o7 at r7 ⊢
    obtain ⟨xa7, xe7, xb7, xp7⟩ := o7
    have r7 : rm g n (sb (sp_1c g n s).2 (sp_w g n [W_least])) xa7 xe7 xb7 xp7 := r7
    rw [lf_p_e, lf_p_e, lf_p_e]
    have r8 := gM_s hn v7 r7 0 99 0
    rw [F_X10_number_a0_0_a1_99_g]
    generalize gM xa7 (n : Int) xe7 xb7 xp7 g 0 99 = o8 at r8 ⊢
    obtain ⟨y8, xa8, xe8, xb8, xp8⟩ := o8
    rw [sbv_nb] at r8
    have r8 : rm5 g n (sp_1d g n s) (y8, xa8, xe8, xb8, xp8) := r8
    have y8h : ∀ p77, (sp_1d g n s).2 = .inr p77 → y8 = (sp_1d g n s).1 := r8.2
    have r8 : rm g n (sp_1d g n s).2 xa8 xe8 xb8 xp8 := r8.1
    rw [lf_p_e, lf_p_e, lf_p_e, lf_p_e]
    have r9 := F_X10_asksSign_a0_59_s hn (sp_1d_v hv) r8
    generalize F_X10_asksSign_a0_59 xa8 (n : Int) xb8 xp8 g = o9 at r9 ⊢
    obtain ⟨xa9, xb9, xp9⟩ := o9
    rw [lf_p_e, lf_p_e]
    refine ⟨r9, fun p e => ?_⟩
    obtain ⟨p4, e4, _⟩ := sb_in e
    obtain ⟨p3, e3, _⟩ := sbv_in e4
    obtain ⟨p2, e2, _⟩ := sbv_in e3
    obtain ⟨p1, e1, _⟩ := sbv_in e2
    exact ⟨y2h p1 e1, y4h p2 e2, y6h p3 e3, y8h p4 e4⟩
theorem mnm_k1 {M N : Nat → Int} {Ks Ws : List (List Int)} {w : List Int} (hw : isW w) (h : mnm M N Ks Ws) (hl : Ks.length < 6) : mnm (lf_up M 0 (M 0 + 1)) (lf_up N (M 0) (v27 w)) (Ks ++ [w]) Ws := by
  obtain ⟨h1, h2, h3, h4, h5, h6, h7, h8⟩ := h
  have e : (Ks ++ [w]).length = Ks.length + 1 := by rw [List.length_append]; rfl
  refine ⟨?_, h2, fun j hj => ?_, h4, fun i hi => ?_, fun i hi => ?_, by omega, h8⟩
  · show M 0 + 1 = _
    rw [h1, e]
    omega
  · rw [getD_app]
    by_cases q : j < Ks.length
    · rw [if_pos q]; exact h3 j q
    · rw [if_neg q, if_pos (by omega)]; exact hw
  · unfold lf_up
    rw [h1, Int.toNat_natCast, getD_app]
    by_cases q : i < Ks.length
    · rw [if_neg (by omega), if_pos q]; exact h5 i q
    · rw [if_pos (by omega), if_neg q, if_pos (by omega)]
  · unfold lf_up
    rw [h1, Int.toNat_natCast, if_neg (by omega)]
    exact h6 i hi
theorem kt_1 {g M N kd tr : Nat → Int} {n p : Nat} {xa xe np bg : Int} {Ks Ws : List (List Int)} {w1 w2 w3 w4 w5 w6 w7 w8 w9 w10 w11 w12 w13 w14 w15 w16 w17 w18 w19 w20 w21 w22 w23 w24 w25 w26 w27 w28 w29 w30 : Nat → Int} (hn : n ≤ 1600) (hm : mw w1 w2 w3 w4 w5 w6 w7 w8 w9 w10 w11 w12 w13 w14 w15 w16 w17 w18 w19 w20 w21 w22 w23 w24 w25 w26 w27 w28 w29 w30) (hp : p ≤ n) (h : mp g n (tx_e g n p) xa xe) (hN : mnm M N Ks Ws) (hl : Ks.length < 6) : rm g n (sp_k3 g n Ks Ws p).2 (F_X10_kindTold xa (n : Int) xe (0 : Int) (-1 : Int) np g w1 w2 w3 w4 w5 w6 w7 w8 w9 w10 w11 w12 w13 w14 w15 w16 w17 w18 w19 w20 w21 w22 w23 w24 w25 w26 w27 w28 w29 w30 M N kd tr bg).1 (F_X10_kindTold xa (n : Int) xe (0 : Int) (-1 : Int) np g w1 w2 w3 w4 w5 w6 w7 w8 w9 w10 w11 w12 w13 w14 w15 w16 w17 w18 w19 w20 w21 w22 w23 w24 w25 w26 w27 w28 w29 w30 M N kd tr bg).2.1 (F_X10_kindTold xa (n : Int) xe (0 : Int) (-1 : Int) np g w1 w2 w3 w4 w5 w6 w7 w8 w9 w10 w11 w12 w13 w14 w15 w16 w17 w18 w19 w20 w21 w22 w23 w24 w25 w26 w27 w28 w29 w30 M N kd tr bg).2.2.1 (F_X10_kindTold xa (n : Int) xe (0 : Int) (-1 : Int) np g w1 w2 w3 w4 w5 w6 w7 w8 w9 w10 w11 w12 w13 w14 w15 w16 w17 w18 w19 w20 w21 w22 w23 w24 w25 w26 w27 w28 w29 w30 M N kd tr bg).2.2.2.1 ∧ ∀ q, (sp_k3 g n Ks Ws p).2 = .inr q → mnm (F_X10_kindTold xa (n : Int) xe (0 : Int) (-1 : Int) np g w1 w2 w3 w4 w5 w6 w7 w8 w9 w10 w11 w12 w13 w14 w15 w16 w17 w18 w19 w20 w21 w22 w23 w24 w25 w26 w27 w28 w29 w30 M N kd tr bg).2.2.2.2.2.1 (F_X10_kindTold xa (n : Int) xe (0 : Int) (-1 : Int) np g w1 w2 w3 w4 w5 w6 w7 w8 w9 w10 w11 w12 w13 w14 w15 w16 w17 w18 w19 w20 w21 w22 w23 w24 w25 w26 w27 w28 w29 w30 M N kd tr bg).2.2.2.2.2.2.1 (Ks ++ [wd g n (tx_e g n p)]) Ws := by
  unfold F_X10_kindTold F_X10_isFull_a0_0_a1_6
  rw [if_pos rfl, if_neg (show ¬ M 0 = 6 from by have := hN.1; omega), lf_p_e, lf_p_e, if_pos rfl]
  have hv0 : sv n (sp_k0 g n Ks Ws p) := sp_k0_v Ks Ws hp
  have r0 := nw_1 (np := np) hn hm h hN
  generalize F_X10_newName xa (n : Int) xe (0 : Int) (-1 : Int) np g w1 w2 w3 w4 w5 w6 w7 w8 w9 w10 w11 w12 w13 w14 w15 w16 w17 w18 w19 w20 w21 w22 w23 w24 w25 w26 w27 w28 w29 w30 M N = o1 at r0 ⊢
  obtain ⟨y1, xa1, xe1, xb1, xp1, n1⟩ := o1
  have y1h : ∀ q, sp_k0 g n Ks Ws p = .inr q → y1 = v27 (wd g n (tx_e g n p)) := r0.2
  have r1 : rm g n (sp_k0 g n Ks Ws p) xa1 xe1 xb1 xp1 := r0.1
  rw [lf_p_e, lf_p_e, lf_p_e, lf_p_e, lf_p_e]
  have r2 := F_X10_asks_r4_s hn (W := W_calm) rfl hm.2.2.2.2.2.1 hv0 r1
  have v2 : sv n (sb (sp_k0 g n Ks Ws p) (sp_w g n [W_calm])) := sv_sb hv0 (fun _ hp => sp_w_v _ hp)
  generalize F_X10_asks_r4 xa1 (n : Int) xe1 xb1 xp1 g w6 = o2 at r2 ⊢
  obtain ⟨xa2, xe2, xb2, xp2⟩ := o2
  have r2 : rm g n (sb (sp_k0 g n Ks Ws p) (sp_w g n [W_calm])) xa2 xe2 xb2 xp2 := r2
  rw [lf_p_e, lf_p_e, lf_p_e]
  have r3 := gM_s hn v2 r2 0 99 0
  rw [F_X10_number_a0_0_a1_99_g]
  generalize gM xa2 (n : Int) xe2 xb2 xp2 g 0 99 = o3 at r3 ⊢
  obtain ⟨y3, xa3, xe3, xb3, xp3⟩ := o3
  rw [sbv_nb] at r3
  have r3 : rm5 g n (sp_k1 g n Ks Ws p) (y3, xa3, xe3, xb3, xp3) := r3
  have y3h : ∀ p77, (sp_k1 g n Ks Ws p).2 = .inr p77 → y3 = (sp_k1 g n Ks Ws p).1 := r3.2
  have r3 : rm g n (sp_k1 g n Ks Ws p).2 xa3 xe3 xb3 xp3 := r3.1
  rw [lf_p_e, lf_p_e, lf_p_e, lf_p_e]
  have r4 := F_X10_asks_r4_s hn (W := W_pace) rfl hm.2.2.2.2.2.2.1 (sp_k1_v Ks Ws hp) r3
  have v4 : sv n (sb (sp_k1 g n Ks Ws p).2 (sp_w g n [W_pace])) := sv_sb (sp_k1_v Ks Ws hp) (fun _ hp => sp_w_v _ hp)
  generalize F_X10_asks_r4 xa3 (n : Int) xe3 xb3 xp3 g w7 = o4 at r4 ⊢
  obtain ⟨xa4, xe4, xb4, xp4⟩ := o4
  have r4 : rm g n (sb (sp_k1 g n Ks Ws p).2 (sp_w g n [W_pace])) xa4 xe4 xb4 xp4 := r4
  rw [lf_p_e, lf_p_e, lf_p_e]
  have r5 := gM_s hn v4 r4 1 20 1
  rw [F_X10_number_a0_1_a1_20_g]
  generalize gM xa4 (n : Int) xe4 xb4 xp4 g 1 20 = o5 at r5 ⊢
  obtain ⟨y5, xa5, xe5, xb5, xp5⟩ := o5
  rw [sbv_nb] at r5
  have r5 : rm5 g n (sp_k2 g n Ks Ws p) (y5, xa5, xe5, xb5, xp5) := r5
  have y5h : ∀ p77, (sp_k2 g n Ks Ws p).2 = .inr p77 → y5 = (sp_k2 g n Ks Ws p).1 := r5.2
  have r5 : rm g n (sp_k2 g n Ks Ws p).2 xa5 xe5 xb5 xp5 := r5.1
  rw [lf_p_e, lf_p_e, lf_p_e, lf_p_e]
  have r6 := F_X10_asks_r6_s hn (W := W_trusts) rfl hm.2.2.2.2.2.2.2.1 (sp_k2_v Ks Ws hp) r5
  have v6 : sv n (sb (sp_k2 g n Ks Ws p).2 (sp_w g n [W_trusts])) := sv_sb (sp_k2_v Ks Ws hp) (fun _ hp => sp_w_v _ hp)
  generalize F_X10_asks_r6 xa5 (n : Int) xe5 xb5 xp5 g w8 = o6 at r6 ⊢
  obtain ⟨xa6, xe6, xb6, xp6⟩ := o6
  have r6 : rm g n (sb (sp_k2 g n Ks Ws p).2 (sp_w g n [W_trusts])) xa6 xe6 xb6 xp6 := r6
  rw [lf_p_e, lf_p_e, lf_p_e]
  have r7 := gM_s hn v6 r6 0 9 0
  rw [F_X10_number_a0_0_a1_9_g]
  generalize gM xa6 (n : Int) xe6 xb6 xp6 g 0 9 = o7 at r7 ⊢
  obtain ⟨y7, xa7, xe7, xb7, xp7⟩ := o7
  rw [sbv_nb] at r7
  have r7 : rm5 g n (sp_k3 g n Ks Ws p) (y7, xa7, xe7, xb7, xp7) := r7
  have y7h : ∀ p77, (sp_k3 g n Ks Ws p).2 = .inr p77 → y7 = (sp_k3 g n Ks Ws p).1 := r7.2
  have r7 : rm g n (sp_k3 g n Ks Ws p).2 xa7 xe7 xb7 xp7 := r7.1
  rw [lf_p_e, lf_p_e, lf_p_e, lf_p_e]
  have hv9 := sp_k3_v (g := g) Ks Ws hp
  cases e : (sp_k3 g n Ks Ws p).2 with
  | inl x =>
    rw [e] at r7 hv9
    have hb : ¬ xb7 = 0 := fun r => hv9 (r7.1.symm.trans r)
    rw [if_neg hb]
    exact ⟨r7, fun q r => by cases r⟩
  | inr q9 =>
    have e9 := e
    rw [e] at r7
    rw [if_pos r7.1]
    refine ⟨r7, fun q r => ?_⟩
    obtain ⟨z1, z2, p1, z3⟩ := sp_k3_gt e9
    rw [y1h p1 z3]
    exact mnm_k1 (isNm_W z2).2 hN hl
end
