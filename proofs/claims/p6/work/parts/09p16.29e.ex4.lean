def tup7 (a b d f q z : Int) (w : Nat → Int) : XO := (a, b, d, f, q, z, w)
theorem lf7_t (o : XO) : lf7 o tup7 = o := rfl
def gPart (g : Nat → Int) (n al : Int) (S P : XF) : XF := fun xa be so cd sz fa pl => if so = (2 : Int) then (lf_p (F_X5_number_a0_0_a1_9999 g n xa be so fa pl) (fun r t => (lf5 t (fun a b d f q => (lf_p (F_X5_emit cd sz r) (fun z w => tup7 a b d f q z w)))))) else (lf_b (F_X5_sees g xa so (40 : Int)) (fun r1 => (if r1 = (0 : Int) then (lf4 (F_X5_takeWord_s17 g n xa be so) (fun r2 a b d => (if r2 = (0 : Int) then (lf4 (F_X5_takeWord_s18 g n a b d) (fun r3 a2 b2 d2 => (if r3 = (0 : Int) then (if al = (3707 : Int) then (lf_b (F_X5_wordIn_s19 g a2 b2 d2) (fun r4 => (if r4 = (-1 : Int) then (lf7 (F_X5_partWord g n a2 b2 d2 al cd sz fa pl) tup7) else (lf4 (gEnt g n b2) (fun _ a3 b3 d3 => (lf7 (P a3 b3 d3 cd sz fa pl) (fun a4 b4 d4 f4 q4 z4 w4 => (lf_p (F_X5_emit w4 z4 (-32 : Int)) (fun z5 w5 => tup7 a4 b4 d4 f4 q4 z5 w5))))))))) else (lf7 (F_X5_partWord g n a2 b2 d2 al cd sz fa pl) tup7)) else (lf7 (gPair g n S a2 b2 d2 cd sz fa pl (-25 : Int)) tup7)))) else (lf7 (gPair g n S a b d cd sz fa pl (-24 : Int)) tup7)))) else (lf4 (gEnt g n be) (fun _ a b d => (lf7 (S a b d cd sz fa pl) (fun a2 b2 d2 f2 q2 z2 w2 => (lf5 (F_X5_need g n a2 b2 d2 f2 q2 (41 : Int)) (fun a3 b3 d3 f3 q3 => tup7 a3 b3 d3 f3 q3 z2 w2)))))))))
def gE6 (xa fa pl : Int) : Int × Int × Int := lf_p (F_X5_fail fa pl (4 : Int) xa) (fun x y => ((0 : Int), x, y))
def gPair6 (g : Nat → Int) (xa so fa pl : Int) : Int × Int := lf_b (F_X5_sees g xa so (40 : Int)) (fun r => (if r = (0 : Int) then (lf_p (F_X5_fail fa pl (1 : Int) xa) (fun x y => (x, y))) else (lf_p (gE6 xa fa pl) (fun _ t => (lf_p t (fun x y => (x, y)))))))
def gPart6 (g : Nat → Int) (n al : Int) : XF := fun xa be so cd sz fa pl => if so = (2 : Int) then (lf_p (F_X5_number_a0_0_a1_9999 g n xa be so fa pl) (fun r t => (lf5 t (fun a b d f q => (lf_p (F_X5_emit cd sz r) (fun z w => tup7 a b d f q z w)))))) else (lf_b (F_X5_sees g xa so (40 : Int)) (fun r1 => (if r1 = (0 : Int) then (lf4 (F_X5_takeWord_s17 g n xa be so) (fun r2 a b d => (if r2 = (0 : Int) then (lf4 (F_X5_takeWord_s18 g n a b d) (fun r3 a2 b2 d2 => (if r3 = (0 : Int) then (if al = (3707 : Int) then (lf_b (F_X5_wordIn_s19 g a2 b2 d2) (fun r4 => (if r4 = (-1 : Int) then (lf7 (F_X5_partWord g n a2 b2 d2 al cd sz fa pl) tup7) else (lf_p (gE6 a2 fa pl) (fun _ t => (lf_p t (fun x y => tup7 n n (0 : Int) x y sz cd))))))) else (lf7 (F_X5_partWord g n a2 b2 d2 al cd sz fa pl) tup7)) else (lf_p (gPair6 g a2 d2 fa pl) (fun x y => tup7 n n (0 : Int) x y sz cd))))) else (lf_p (gPair6 g a d fa pl) (fun x y => tup7 n n (0 : Int) x y sz cd))))) else (lf_p (gE6 xa fa pl) (fun _ t => (lf_p t (fun x y => tup7 n n (0 : Int) x y sz cd)))))))
def sp_partD (g : Nat → Int) (n : Nat) (al : Int) (b : Bool) (S P : Nat → CD → ST × CD) (p : Nat) (c : CD) : ST × CD := if tx_k g n p = 2 then ((sp_num g n 0 9999 p).2, em c (sp_num g n 0 9999 p).1) else if tx_k g n p = 3 ∧ g (tx_a g n p) = 40 then opn g n b p c (fun p1 c => (sb (S p1 c).1 (sp_need g n 41), (S p1 c).2)) else if ¬ wl g n ws_17 p = -1 then sp_pair g n b S (-24) (tx_e g n p) c else if ¬ wl g n ws_18 p = -1 then sp_pair g n b S (-25) (tx_e g n p) c else if al = 3707 ∧ ¬ wl g n ws_19 p = -1 then opn g n b p c (fun p1 c => ((P p1 c).1, em (P p1 c).2 (-32))) else sp_pw g n al p c
theorem sp_num_gt {g : Nat → Int} {n p q : Nat} {lo hi : Int} (h : (sp_num g n lo hi p).2 = .inr q) : p < q := by
  unfold sp_num at h
  split at h
  · rename_i r
    split at h
    · split at h
      · cases h
      · cases h
        exact tx_e_gt' (by omega)
    · cases h
  · cases h
theorem part_ok {g : Nat → Int} {n : Nat} {al : Int} {b : Bool} {S P : Nat → CD → ST × CD} (hS : okR n S) (hP : okR n P) : okR n (sp_partD g n al b S P) := by
  intro p c hp
  unfold sp_partD
  split
  · exact ⟨sp_num_v 0 9999 hp, fun q r => sp_num_gt r⟩
  · split
    · rename_i r
      have hlt : p < tx_e g n p := tx_e_gt' (by have := r.1; omega)
      unfold opn
      split
      · dsimp only
        have h1 := hS (tx_e g n p) c (tx_e_le hp)
        cases e1 : (S (tx_e g n p) c).1 with
        | inl q0 =>
          rw [e1] at h1
          exact ⟨h1.1, fun q r => by cases r⟩
        | inr p1 =>
          rw [e1] at h1
          have l1 := h1.2 p1 rfl
          exact ⟨sp_need_v 41 h1.1, fun q r => by have := sp_need_gt (show sp_need g n 41 p1 = .inr q from r); omega⟩
      · exact ⟨sv_l (by decide), fun q r => by cases r⟩
    · split
      · rename_i r
        have hlt : p < tx_e g n p := tx_e_gt' (by have := wl_k r; omega)
        have := pair_ok (g := g) (b := b) (op := -24) hS (tx_e g n p) c (tx_e_le hp)
        exact ⟨this.1, fun q r => by have := this.2 q r; omega⟩
      · split
        · rename_i r
          have hlt : p < tx_e g n p := tx_e_gt' (by have := wl_k r; omega)
          have := pair_ok (g := g) (b := b) (op := -25) hS (tx_e g n p) c (tx_e_le hp)
          exact ⟨this.1, fun q r => by have := this.2 q r; omega⟩
        · split
          · rename_i r
            have hlt : p < tx_e g n p := tx_e_gt' (by have := wl_k r.2; omega)
            unfold opn
            split
            · dsimp only
              have h1 := hP (tx_e g n p) c (tx_e_le hp)
              exact ⟨h1.1, fun q r => by have := h1.2 q r; omega⟩
            · exact ⟨sv_l (by decide), fun q r => by cases r⟩
          · exact pw_ok p c hp
theorem tw_1 {g : Nat → Int} {n p : Nat} {TW : Int → Int → Int → Int × Int × Int × Int} {ws : List (List Int)} (h : twm g n TW ws) (hp : p ≤ n) (q : wl g n ws p = -1) : TW (tx_a g n p : Int) (tx_e g n p : Int) (tx_k g n p : Int) = ((0 : Int), (tx_a g n p : Int), (tx_e g n p : Int), (tx_k g n p : Int)) := by rw [h.1 p hp, if_pos q]
theorem tw_2 {g : Nat → Int} {n p : Nat} {TW : Int → Int → Int → Int × Int × Int × Int} {ws : List (List Int)} (h : twm g n TW ws) (hp : p ≤ n) (q : ¬ wl g n ws p = -1) : TW (tx_a g n p : Int) (tx_e g n p : Int) (tx_k g n p : Int) = ((1 : Int), (tx_a g n (tx_e g n p) : Int), (tx_e g n (tx_e g n p) : Int), (tx_k g n (tx_e g n p) : Int)) := by rw [h.1 p hp, if_neg q]
/-- what a faulty state makes of a part: nothing -/
theorem gPart_0 {g : Nat → Int} {n : Nat} {al f q : Int} {S P : XF} {c : CD} (hn : n ≤ 1600) (h : ¬ f = 0) : gPart g (n : Int) al S P (n : Int) (n : Int) (0 : Int) c.2 c.1 f q = ap5 (cst g n (.inl (f, q))) c := by
  unfold gPart
  rw [if_neg (show ¬ (0 : Int) = 2 from by decide), lf_b_e, cl_seen, if_pos rfl, (F_X5_takeWord_s17_t hn).2]
  rw [lf4_e, if_pos rfl, (F_X5_takeWord_s18_t hn).2, lf4_e, if_pos rfl, lf_b_e, cl_w_19, if_neg (show ¬ (0 : Int) = 1 from by decide), if_pos rfl, cl_pw0 h]
  split
  · rfl
  · rfl
theorem gPart6_0 {g : Nat → Int} {n : Nat} {al f q : Int} {c : CD} (hn : n ≤ 1600) (h : ¬ f = 0) : gPart6 g (n : Int) al (n : Int) (n : Int) (0 : Int) c.2 c.1 f q = ap5 (cst g n (.inl (f, q))) c := by
  unfold gPart6
  rw [if_neg (show ¬ (0 : Int) = 2 from by decide), lf_b_e, cl_seen, if_pos rfl, (F_X5_takeWord_s17_t hn).2]
  rw [lf4_e, if_pos rfl, (F_X5_takeWord_s18_t hn).2, lf4_e, if_pos rfl, lf_b_e, cl_w_19, if_neg (show ¬ (0 : Int) = 1 from by decide), if_pos rfl, cl_pw0 h]
  split
  · rfl
  · rfl
theorem gPart_m {g : Nat → Int} {n : Nat} {al : Int} {X Y : XF} {S P : Nat → CD → ST × CD} (hn : n ≤ 1600) (hX : meets g n X S) (hS : okR n S) (hY : meets g n Y P) : meets g n (gPart g (n : Int) al X Y) (sp_partD g n al true S P) := by
  intro s c hv
  cases s with
  | inl q => exact ⟨c, gPart_0 hn hv, fun q r => by cases r⟩
  | inr p =>
    show tellC g n (gPart g (n : Int) al X Y (tx_a g n p : Int) (tx_e g n p : Int) (tx_k g n p : Int) c.2 c.1 (0 : Int) (-1 : Int)) (sp_partD g n al true S P p c)
    unfold gPart sp_partD
    by_cases q0 : tx_k g n p = 2
    · rw [if_pos (by omega), if_pos q0, F_X5_number_a0_0_a1_9999_g, gN_1 hn hv]
      exact ⟨em c (sp_num g n 0 9999 p).1, rfl, fun _ _ => rfl⟩
    · rw [if_neg (by omega), if_neg q0, lf_b_e]
      by_cases q1 : tsn g n 40 p
      · rw [cl_see1 q1, if_neg (show ¬ (1 : Int) = 0 from by decide), if_pos (show tx_k g n p = 3 ∧ g (tx_a g n p) = 40 from q1)]
        rw [opn_t, gEnt_1 hn hv, lf4_e]
        have hv1 := hS (tx_e g n p) c (tx_e_le hv)
        obtain ⟨d1, e1, e2⟩ := hX (.inr (tx_e g n p)) c (tx_e_le hv)
        have e3 : X (tx_a g n (tx_e g n p) : Int) (tx_e g n (tx_e g n p) : Int) (tx_k g n (tx_e g n p) : Int) c.2 c.1 (0 : Int) (-1 : Int) = ap5 (cst g n (S (tx_e g n p) c).1) d1 := e1
        have e4 : ∀ q, (S (tx_e g n p) c).1 = .inr q → d1 = (S (tx_e g n p) c).2 := e2
        rw [e3]
        generalize S (tx_e g n p) c = r1 at hv1 e4
        rw [lf7_e, cl_need_s hn hv1.1, lf5_e]
        refine ⟨d1, rfl, fun q r => ?_⟩
        cases e : r1.1 with
        | inl q0 =>
          have r' : sb r1.1 (sp_need g n 41) = .inr q := r
          rw [e] at r'
          cases r'
        | inr p3 => exact e4 p3 e
      · rw [cl_see0 q1, if_pos rfl, if_neg (show ¬ (tx_k g n p = 3 ∧ g (tx_a g n p) = 40) from q1)]
        by_cases q2 : wl g n ws_17 p = -1
        · rw [tw_1 (F_X5_takeWord_s17_t hn) hv q2, if_neg (fun r => r q2)]
          rw [lf4_e, if_pos rfl]
          by_cases q3 : wl g n ws_18 p = -1
          · rw [tw_1 (F_X5_takeWord_s18_t hn) hv q3, if_neg (fun r => r q3)]
            rw [lf4_e, if_pos rfl, lf_b_e, cl_w_19, wl_c]
            by_cases q4 : al = 3707
            · rw [if_pos q4]
              by_cases q5 : wl g n ws_19 p = -1
              · rw [if_pos q5, if_neg (fun r => r.2 q5)]
                exact cl_pw1 hn hv
              · rw [if_neg q5, if_pos ⟨q4, q5⟩]
                rw [opn_t, gEnt_1 hn hv, lf4_e]
                obtain ⟨d1, e1, e2⟩ := hY (.inr (tx_e g n p)) c (tx_e_le hv)
                have e3 : Y (tx_a g n (tx_e g n p) : Int) (tx_e g n (tx_e g n p) : Int) (tx_k g n (tx_e g n p) : Int) c.2 c.1 (0 : Int) (-1 : Int) = ap5 (cst g n (P (tx_e g n p) c).1) d1 := e1
                have e4 : ∀ q, (P (tx_e g n p) c).1 = .inr q → d1 = (P (tx_e g n p) c).2 := e2
                rw [e3]
                exact ⟨em d1 (-32), rfl, fun q r => by rw [e4 q r]⟩
            · rw [if_neg q4, if_neg (fun r => q4 r.1)]
              exact cl_pw1 hn hv
          · rw [tw_2 (F_X5_takeWord_s18_t hn) hv q3, if_pos q3]
            rw [lf4_e, if_neg (show ¬ (1 : Int) = 0 from by decide), lf7_t]
            exact gPair_1 hn (tx_e_le hv) hX hS
        · rw [tw_2 (F_X5_takeWord_s17_t hn) hv q2, if_pos q2]
          rw [lf4_e, if_neg (show ¬ (1 : Int) = 0 from by decide), lf7_t]
          exact gPair_1 hn (tx_e_le hv) hX hS
theorem gPair6_1 {g : Nat → Int} {n p : Nat} {S : Nat → CD → ST × CD} {op : Int} {c : CD} : tellC g n (lf_p (gPair6 g (tx_a g n p : Int) (tx_k g n p : Int) (0 : Int) (-1 : Int)) (fun x y => tup7 (n : Int) (n : Int) (0 : Int) x y c.1 c.2)) (sp_pair g n false S op p c) := by
  unfold gPair6 gE6 sp_pair
  rw [lf_b_e, cl_fail0, cl_fail0]
  by_cases q : tsn g n 40 p
  · rw [cl_see1 q, if_neg (show ¬ (1 : Int) = 0 from by decide), if_pos (show tx_k g n p = 3 ∧ g (tx_a g n p) = 40 from q), opn_f]
    exact ⟨c, rfl, fun q r => by cases r⟩
  · rw [cl_see0 q, if_pos rfl, if_neg (show ¬ (tx_k g n p = 3 ∧ g (tx_a g n p) = 40) from q)]
    exact ⟨c, rfl, fun q r => by cases r⟩
theorem gPart6_m {g : Nat → Int} {n : Nat} {al : Int} {S P : Nat → CD → ST × CD} (hn : n ≤ 1600) : meets g n (gPart6 g (n : Int) al) (sp_partD g n al false S P) := by
  intro s c hv
  cases s with
  | inl q => exact ⟨c, gPart6_0 hn hv, fun q r => by cases r⟩
  | inr p =>
    show tellC g n (gPart6 g (n : Int) al (tx_a g n p : Int) (tx_e g n p : Int) (tx_k g n p : Int) c.2 c.1 (0 : Int) (-1 : Int)) (sp_partD g n al false S P p c)
    unfold gPart6 sp_partD
    by_cases q0 : tx_k g n p = 2
    · rw [if_pos (by omega), if_pos q0, F_X5_number_a0_0_a1_9999_g, gN_1 hn hv]
      exact ⟨em c (sp_num g n 0 9999 p).1, rfl, fun _ _ => rfl⟩
    · rw [if_neg (by omega), if_neg q0, lf_b_e]
      by_cases q1 : tsn g n 40 p
      · rw [cl_see1 q1, if_neg (show ¬ (1 : Int) = 0 from by decide), if_pos (show tx_k g n p = 3 ∧ g (tx_a g n p) = 40 from q1)]
        unfold gE6
        rw [opn_f, cl_fail0]
        exact ⟨c, rfl, fun q r => by cases r⟩
      · rw [cl_see0 q1, if_pos rfl, if_neg (show ¬ (tx_k g n p = 3 ∧ g (tx_a g n p) = 40) from q1)]
        by_cases q2 : wl g n ws_17 p = -1
        · rw [tw_1 (F_X5_takeWord_s17_t hn) hv q2, if_neg (fun r => r q2)]
          rw [lf4_e, if_pos rfl]
          by_cases q3 : wl g n ws_18 p = -1
          · rw [tw_1 (F_X5_takeWord_s18_t hn) hv q3, if_neg (fun r => r q3)]
            rw [lf4_e, if_pos rfl, lf_b_e, cl_w_19, wl_c]
            by_cases q4 : al = 3707
            · rw [if_pos q4]
              by_cases q5 : wl g n ws_19 p = -1
              · rw [if_pos q5, if_neg (fun r => r.2 q5)]
                exact cl_pw1 hn hv
              · rw [if_neg q5, if_pos ⟨q4, q5⟩]
                unfold gE6
                rw [opn_f, cl_fail0]
                exact ⟨c, rfl, fun q r => by cases r⟩
            · rw [if_neg q4, if_neg (fun r => q4 r.1)]
              exact cl_pw1 hn hv
          · rw [tw_2 (F_X5_takeWord_s18_t hn) hv q3, if_pos q3]
            rw [lf4_e, if_neg (show ¬ (1 : Int) = 0 from by decide)]
            exact gPair6_1
        · rw [tw_2 (F_X5_takeWord_s17_t hn) hv q2, if_pos q2]
          rw [lf4_e, if_neg (show ¬ (1 : Int) = 0 from by decide)]
          exact gPair6_1
