section QF
variable {g : Nat → Int} {n : Nat} {al tk : Int} {B : List Int} {o0 : Int} {d : Nat} {vall vmin vmax v1 v2 v3 v4 v5 v6 v7 v8 v9 v10 v11 v12 v13 : Nat → Int}
/-- a fact without square or not -/
theorem q_fact (hn : n ≤ 1600) (hB : ¬ (1 ≤ B.headD 0 ∧ B.headD 0 ≤ 4)) (hq : qw v1 v2 v3 v4 v5 v6 v7 v8 v9 v10 v11 v12 v13) (hall : wa vall W_all) (hmin : wa vmin W_min) (hmax : wa vmax W_max) (ht : tkA tk al) {p : Nat} {xa xe c : Int} {w cd : Nat → Int} (h : qS g n B o0 d [] o0 p xa xe (0 : Int) (-1 : Int) c (B.length : Int) o0 w) : qU g n B o0 d (fcS g n al o0 p) p (F_X10_qFact xa (n : Int) xe (0 : Int) (-1 : Int) tk c (B.length : Int) o0 g vall vmin vmax v1 v2 v3 v4 v5 v6 v7 v8 v9 v10 v11 v12 v13 cd w) := by
  obtain ⟨h1, h2, h3, h4, h5, h6', h7, h8, h9, h10, h11, h12⟩ := h
  have h5' : c + (d : Int) + (B.length : Int) ≤ (p : Int) := h5
  unfold F_X10_qFact fcS
  rw [F_X10_takes_1 hn (W := W_all) rfl hall h7]
  cases ca : wh g n W_all p with
  | true =>
    have k16 : ¬ wl g n ws_16 p = -1 := by
      rw [show wl g n ws_16 p = 0 from (wl_1 W_all).trans (if_pos ca)]
      decide
    have hk := (wh_k ca).1
    have hlt : p < tx_e g n p := tx_e_gt' (by omega)
    rw [if_pos rfl, lf_p_e, lf_p_e, if_neg (show ¬ (1 : Int) = 0 from by decide), if_pos k16]
    unfold F_X10_qCode
    rw [lf_p_e]
    refine Or.inr ⟨tx_e g n p, rfl, hlt, h1, h2, h3, h4, ?_, ?_, mp_tok h7.1 hk (Or.inl rfl), rfl, rfl, rfl, rfl, h12⟩
    · show c + 1 + (d : Int) + (B.length : Int) ≤ _
      omega
    · show 0 ≤ c + 1
      omega
  | false =>
    have k16 : wl g n ws_16 p = -1 := (wl_1 W_all).trans (if_neg (fun r => Bool.noConfusion (ca.symm.trans r)))
    rw [if_neg (show ¬ false = true from fun r => Bool.noConfusion r), lf_p_e, lf_p_e, if_pos rfl, if_neg (show ¬ ¬ wl g n ws_16 p = -1 from fun r => r k16)]
    have hs1 := q_sums hn hB hq hmin hmax ht (cd := cd) (show qS g n B o0 d [] o0 p (tx_a g n p : Int) xe (0 : Int) (-1 : Int) c (B.length : Int) o0 w from ⟨h1, h2, h3, h4, h5, h6', mp_a h7, rfl, rfl, rfl, rfl, h12⟩)
    generalize F_X10_qSums (tx_a g n p : Int) (n : Int) xe (0 : Int) (-1 : Int) tk c (B.length : Int) o0 g vmin vmax v1 v2 v3 v4 v5 v6 v7 v8 v9 v10 v11 v12 v13 cd w = R at hs1 ⊢
    obtain ⟨y1, y2, y3, y4, y5, y6, y7, y8, y9⟩ := R
    rw [lf_p_e, lf_p_e, lf_p_e, lf_p_e, lf_p_e, lf_p_e, lf_p_e, lf_p_e]
    rcases hs1 with ⟨q, e, q1, q2, q3⟩ | ⟨p1, e, hlt, hs⟩
    · have q2' : y3 = q.1 := q2
      rw [if_neg (show ¬ y3 = 0 from fun r => q1 (q2'.symm.trans r)), e]
      exact Or.inl ⟨q, rfl, q1, q2, q3⟩
    · have hs' : qS g n B o0 d [] o0 p1 y1 y2 y3 y4 y5 y6 y7 y8 := hs
      obtain ⟨s1, s2, s3, s4, s5, s6, s7, s8, s9, s10, s11, s12⟩ := hs'
      subst s8
      subst s9
      subst s10
      subst s11
      have s5' : y5 + (d : Int) + (B.length : Int) ≤ (p1 : Int) := s5
      rw [if_pos rfl, ml_look hn s7, lf_p_e, e]
      have two : ∀ k : Int, tx_k g n p1 = 3 → qU g n B y7 d (RR g n al true [] y7 (tx_e g n p1)) p (lf_p (F_X10_qSums ((tx_a g n p1 : Int) + (1 : Int)) (n : Int) y2 (0 : Int) (-1 : Int) tk y5 (B.length : Int) y7 g vmin vmax v1 v2 v3 v4 v5 v6 v7 v8 v9 v10 v11 v12 v13 y9 y8) (fun v83 t_v84 => (lf_p t_v84 (fun v84 t_v85 => (lf_p t_v85 (fun v85 t_v86 => (lf_p t_v86 (fun v86 t_v87 => (lf_p t_v87 (fun v87 t_v88 => (lf_p t_v88 (fun v88 t_v89 => (lf_p t_v89 (fun v89 t_f90 => (lf_p t_f90 (fun f90 f91 => (lf_p (F_X10_qCode v87 f91 k) (fun v113 f114 => (v83, v84, v85, v86, v113, v88, v89, f90, f114))))))))))))))))))) := by
        intro k hk
        have hlt2 : p1 < tx_e g n p1 := tx_e_gt' (by omega)
        have hs2 := q_sums (d := d + 1) hn hB hq hmin hmax ht (cd := y9) (show qS g n B y7 (d + 1) [] y7 (tx_e g n p1) ((tx_a g n p1 : Int) + 1) y2 (0 : Int) (-1 : Int) y5 (B.length : Int) y7 y8 from ⟨h1, s2, s3, s4, (by show y5 + ((d + 1 : Nat) : Int) + (B.length : Int) ≤ _; omega), s6, mp_sgn s7 hk, rfl, rfl, rfl, rfl, s12⟩)
        generalize F_X10_qSums ((tx_a g n p1 : Int) + (1 : Int)) (n : Int) y2 (0 : Int) (-1 : Int) tk y5 (B.length : Int) y7 g vmin vmax v1 v2 v3 v4 v5 v6 v7 v8 v9 v10 v11 v12 v13 y9 y8 = R at hs2 ⊢
        obtain ⟨z1, z2, z3, z4, z5, z6, z7, z8, z9⟩ := R
        rw [lf_p_e, lf_p_e, lf_p_e, lf_p_e, lf_p_e, lf_p_e, lf_p_e, lf_p_e]
        unfold F_X10_qCode
        rw [lf_p_e]
        rcases hs2 with r | ⟨p2, e2, hlt3, hs3⟩
        · exact Or.inl r
        · have hs' : qS g n B y7 (d + 1) [] y7 p2 z1 z2 z3 z4 z5 z6 z7 z8 := hs3
          obtain ⟨t1, t2, t3, t4, t5, t6, t7, t8, t9, t10, t11, t12⟩ := hs'
          have t5' : z5 + ((d + 1 : Nat) : Int) + (B.length : Int) ≤ (p2 : Int) := t5
          refine Or.inr ⟨p2, e2, by omega, t1, t2, t3, t4, ?_, ?_, t7, t8, t9, t10, t11, t12⟩
          · show z5 + 1 + (d : Int) + (B.length : Int) ≤ _
            omega
          · show 0 ≤ z5 + 1
            omega
      by_cases c1 : lk g n p1 = 60
      · have c1' := (lk_sgn (by omega)).mp c1
        rw [if_pos c1, show sb (.inr p1 : ST) (fun p1 => sb (sp_sg g n p1).2 (fun p2 => RR g n al true [] y7 p2)) = RR g n al true [] y7 (tx_e g n p1) from by
          show sb (sp_sg g n p1).2 _ = _
          rw [show (sp_sg g n p1) = (-26, .inr (tx_e g n p1)) from if_pos c1']
          rfl]
        exact two 7 c1'.1
      · have c1' : ¬ (tx_k g n p1 = 3 ∧ g (tx_a g n p1) = 60) := fun r => c1 ((lk_sgn (by omega)).mpr r)
        rw [if_neg c1]
        by_cases c2 : lk g n p1 = 62
        · have c2' := (lk_sgn (by omega)).mp c2
          rw [if_pos c2, show sb (.inr p1 : ST) (fun p1 => sb (sp_sg g n p1).2 (fun p2 => RR g n al true [] y7 p2)) = RR g n al true [] y7 (tx_e g n p1) from by
            show sb (sp_sg g n p1).2 _ = _
            rw [show (sp_sg g n p1) = (-27, .inr (tx_e g n p1)) from (if_neg c1').trans (if_pos c2')]
            rfl]
          exact two 8 c2'.1
        · have c2' : ¬ (tx_k g n p1 = 3 ∧ g (tx_a g n p1) = 62) := fun r => c2 ((lk_sgn (by omega)).mpr r)
          rw [if_neg c2]
          by_cases c3 : lk g n p1 = 61
          · have c3' := (lk_sgn (by omega)).mp c3
            rw [if_pos c3, show sb (.inr p1 : ST) (fun p1 => sb (sp_sg g n p1).2 (fun p2 => RR g n al true [] y7 p2)) = RR g n al true [] y7 (tx_e g n p1) from by
              show sb (sp_sg g n p1).2 _ = _
              rw [show (sp_sg g n p1) = (-28, .inr (tx_e g n p1)) from (if_neg c1').trans ((if_neg c2').trans (if_pos c3'))]
              rfl]
            exact two 9 c3'.1
          · have c3' : ¬ (tx_k g n p1 = 3 ∧ g (tx_a g n p1) = 61) := fun r => c3 ((lk_sgn (by omega)).mpr r)
            rw [if_neg c3, show sb (.inr p1 : ST) (fun p1 => sb (sp_sg g n p1).2 (fun p2 => RR g n al true [] y7 p2)) = .inl (1, (tx_a g n p1 : Int)) from by
              show sb (sp_sg g n p1).2 _ = _
              rw [show (sp_sg g n p1) = (-28, .inl (1, (tx_a g n p1 : Int))) from (if_neg c1').trans ((if_neg c2').trans (if_neg c3'))]
              rfl]
            exact Or.inl ⟨(1, (tx_a g n p1 : Int)), rfl, (show ¬ (1 : Int) = 0 from by decide), rfl, rfl⟩
end QF
/-! what waits amid a test -/
def isO (x : Int) : Bool := decide (10 ≤ x) && decide (x ≤ 11)
theorem isO_i {x : Int} : isO x = true ↔ (10 ≤ x ∧ x ≤ 11) := by
  unfold isO
  rw [Bool.and_eq_true, decide_eq_true_iff, decide_eq_true_iff]
def stQ : List Int → List Int
  | [] => []
  | x :: P => if isO x = true then stQ P else x :: stQ P
theorem stQ_o {x : Int} {P : List Int} (h : isO x = true) : stQ (x :: P) = stQ P := if_pos h
theorem stQ_n {x : Int} {P : List Int} (h : ¬ isO x = true) : stQ (x :: P) = x :: stQ P := if_neg h
def n2 : List Int → Prop
  | [] => True
  | x :: _ => ¬ x = 12
def okQ : List Int → Prop
  | [] => True
  | x :: P => okQ P ∧ ((isO x = true ∧ n2 P) ∨ x = 25 ∨ x = 12)
theorem okQ_h {P : List Int} (h : okQ P) : ¬ (1 ≤ P.headD 0 ∧ P.headD 0 ≤ 4) := by
  cases P with
  | nil => show ¬ (1 ≤ (0 : Int) ∧ (0 : Int) ≤ 4); decide
  | cons x P =>
    show ¬ (1 ≤ x ∧ x ≤ 4)
    rcases h.2 with r | r | r
    · have := isO_i.mp r.1
      omega
    · omega
    · omega
def hs : List Int → Prop
  | [] => True
  | x :: _ => x = 25
theorem hs_nt {T : List Int} (h : hs T) (k : Int) : ntD T k = (T, k) := by
  cases T with
  | nil => rfl
  | cons x T =>
    have h1 : x = 25 := h
    exact if_neg (by omega)
theorem okQ_hs : ∀ {P : List Int}, okQ P → n2 P → hs (stQ P)
  | [], _, _ => True.intro
  | x :: P, h, h2 => by
    have h2' : ¬ x = 12 := h2
    rcases h.2 with r | r | r
    · rw [stQ_o r.1]
      exact okQ_hs h.1 r.2
    · rw [stQ_n (fun s => by have := isO_i.mp s; omega)]
      exact r
    · exact absurd r h2'
theorem ok_nt : ∀ {P : List Int} (o : Int), okQ P → stQ (ntD P o).1 = (ntD (stQ P) o).1 ∧ (ntD P o).2 = (ntD (stQ P) o).2 ∧ okQ (ntD P o).1 ∧ n2 (ntD P o).1 ∧ (ntD P o).2 + ((stQ P).length : Int) = o + ((stQ (ntD P o).1).length : Int) ∧ (ntD P o).2 ≤ o
  | [], _, _ => ⟨rfl, rfl, True.intro, True.intro, rfl, Int.le_refl _⟩
  | x :: P, o, h => by
    by_cases q : x = 12
    · have e : ntD (x :: P) o = ntD P (o - 1) := if_pos q
      have e1 : stQ (x :: P) = x :: stQ P := stQ_n (fun r => by have := isO_i.mp r; omega)
      have e2 : ntD (x :: stQ P) o = ntD (stQ P) (o - 1) := if_pos q
      rw [e, e1, e2]
      obtain ⟨a1, a2, a3, a4, a5, a6⟩ := ok_nt (o - 1) h.1
      refine ⟨a1, a2, a3, a4, ?_, by omega⟩
      show _ + (((stQ P).length + 1 : Nat) : Int) = _
      omega
    · have e : ntD (x :: P) o = (x :: P, o) := if_neg q
      have e2 : ntD (stQ (x :: P)) o = (stQ (x :: P), o) := hs_nt (okQ_hs h q) o
      rw [e, e2]
      exact ⟨rfl, rfl, h, q, rfl, Int.le_refl _⟩
theorem tMem_c {x : Int} {T : List Int} : tMem (x :: T) = (decide (x = 25) || tMem T) := rfl
theorem ok_sq : ∀ {P : List Int}, okQ P → n2 P → (tMem P = false ∧ stQ P = []) ∨ (tMem P = true ∧ stQ P = 25 :: stQ (tPop P) ∧ okQ (tPop P))
  | [], _, _ => Or.inl ⟨rfl, rfl⟩
  | x :: P, h, h2 => by
    have h2' : ¬ x = 12 := h2
    have ep : tPop (x :: P) = if x = 25 then P else tPop P := rfl
    rcases h.2 with r | r | r
    · have hx := isO_i.mp r.1
      rw [tMem_c, ep, if_neg (by omega), decide_eq_false (by omega), Bool.false_or, stQ_o r.1]
      exact ok_sq h.1 r.2
    · rw [tMem_c, ep, if_pos r, decide_eq_true r, Bool.true_or, stQ_n (fun s => by have := isO_i.mp s; omega), r]
      exact Or.inr ⟨rfl, rfl, h.1⟩
    · exact absurd r h2'
def opQ (hi : Int) : List Int → List Int
  | [] => []
  | x :: P => if 10 ≤ x ∧ x ≤ hi then opQ hi P else x :: P
theorem opQ_ok {hi : Int} (hlo : hi ≤ 11) : ∀ {P : List Int}, okQ P → n2 P → okQ (opQ hi P) ∧ n2 (opQ hi P) ∧ stQ (opQ hi P) = stQ P
  | [], _, _ => ⟨True.intro, True.intro, rfl⟩
  | x :: P, h, h2 => by
    by_cases q : 10 ≤ x ∧ x ≤ hi
    · have e : opQ hi (x :: P) = opQ hi P := if_pos q
      have q2 : isO x = true := isO_i.mpr ⟨q.1, by omega⟩
      rcases h.2 with r | r | r
      · rw [e, stQ_o r.1]
        exact opQ_ok hlo h.1 r.2
      · omega
      · omega
    · have e : opQ hi (x :: P) = x :: P := if_neg q
      rw [e]
      exact ⟨h, h2, rfl⟩
theorem opQ_p {hi : Int} {w : Nat → Int} : ∀ (P : List Int), pwl w P → pwl w (opQ hi P)
  | [], h => h
  | x :: P, h => by
    show pwl w (if 10 ≤ x ∧ x ≤ hi then opQ hi P else x :: P)
    by_cases q : 10 ≤ x ∧ x ≤ hi
    · rw [if_pos q]; exact opQ_p P h.2
    · rw [if_neg q]; exact h
theorem ntD_p {w : Nat → Int} : ∀ (P : List Int) (o : Int), pwl w P → pwl w (ntD P o).1
  | [], _, h => h
  | x :: P, o, h => by
    show pwl w (if x = 12 then ntD P (o - 1) else (x :: P, o)).1
    by_cases q : x = 12
    · rw [if_pos q]; exact ntD_p P (o - 1) h.2
    · rw [if_neg q]; exact h
theorem tPop_p {w : Nat → Int} : ∀ (P : List Int), pwl w P → pwl w (tPop P)
  | [], h => h
  | x :: P, h => by
    show pwl w (if x = 25 then P else tPop P)
    by_cases q : x = 25
    · rw [if_pos q]; exact h.2
    · rw [if_neg q]; exact tPop_p P h.2
theorem q_nt {w : Nat → Int} : ∀ (P : List Int) (f : Nat) (c o : Int) (cd : Nat → Int), pwl w P → P.length < f → -2000 ≤ o - (P.length : Int) → o ≤ 2000 → ∃ c2 cd2, F_X10_qDropsNots_0 (0 : Int) w f c (P.length : Int) o cd = (c2, ((ntD P o).1.length : Int), (ntD P o).2, cd2) ∧ c2 + ((ntD P o).1.length : Int) = c + (P.length : Int) := by
  intro P
  induction P with
  | nil =>
    intro f c o cd h hf h1 h2
    obtain ⟨k, rfl⟩ : ∃ k, f = k + 1 := ⟨f - 1, by have : 0 < f := hf; omega⟩
    refine ⟨c, cd, ?_, rfl⟩
    have e : F_X10_qIsOn_a0_12 (([] : List Int).length : Int) w = if ([] : List Int).headD 0 = 12 then 1 else 0 := g_on h 12 (by decide)
    rw [if_neg (show ¬ (([] : List Int).headD 0 : Int) = 12 from by decide)] at e
    show F_X10_qDropsNots_0b (0 : Int) w _ c (([] : List Int).length : Int) o cd = _
    unfold F_X10_qDropsNots_0b
    rw [if_pos rfl, lf_b_e, e, if_pos rfl]
    rfl
  | cons x P ih =>
    intro f c o cd h hf h1 h2
    obtain ⟨k, rfl⟩ : ∃ k, f = k + 1 := ⟨f - 1, by have : 0 < f := Nat.lt_of_le_of_lt (Nat.zero_le _) hf; omega⟩
    have h1' : -2000 ≤ o - ((P.length + 1 : Nat) : Int) := h1
    have e : F_X10_qIsOn_a0_12 ((x :: P).length : Int) w = if x = 12 then 1 else 0 := g_on h 12 (by decide)
    obtain ⟨c2, cd2, e3, e4⟩ := ih k (c + 1) (o - 1) (lf_up cd c (w P.length)) h.2 (by have : P.length + 1 < k + 1 := hf; omega) (by omega) (by omega)
    show ∃ c2 cd2, F_X10_qDropsNots_0b (0 : Int) w (F_X10_qDropsNots_0 (0 : Int) w k) c ((x :: P).length : Int) o cd = (c2, ((if x = 12 then ntD P (o - 1) else (x :: P, o)).1.length : Int), (if x = 12 then ntD P (o - 1) else (x :: P, o)).2, cd2) ∧ c2 + ((if x = 12 then ntD P (o - 1) else (x :: P, o)).1.length : Int) = c + ((P.length + 1 : Nat) : Int)
    unfold F_X10_qDropsNots_0b
    rw [if_pos rfl, lf_b_e, e]
    by_cases q : x = 12
    · rw [if_pos q, if_pos q, if_neg (show ¬ (1 : Int) = 0 from by decide), show F_X10_qDrops c ((x :: P).length : Int) cd w = ((c + 1), (P.length : Int), lf_up cd c (w P.length)) from q_drop, lf_p_e, lf_p_e, lo_sub (by omega) (by omega) (by omega) (by omega) (by omega) (by omega)]
      exact ⟨c2, cd2, e3, by omega⟩
    · rw [if_neg q, if_neg q, if_pos rfl]
      exact ⟨c, cd, rfl, rfl⟩
theorem q_nots {w cd : Nat → Int} {P : List Int} {c o : Int} (h : pwl w P) (hl : P.length ≤ 1700) (h1 : 0 ≤ o) (h2 : o ≤ 6) : ∃ c2 cd2, F_X10_qDropsNots (0 : Int) c (P.length : Int) o cd w = (c2, ((ntD P o).1.length : Int), (ntD P o).2, cd2) ∧ c2 + ((ntD P o).1.length : Int) = c + (P.length : Int) := q_nt P 1702 c o cd h (by omega) (by omega) (by omega)
theorem q_nots0 {w cd : Nat → Int} {xb c m o : Int} (h : ¬ xb = 0) : F_X10_qDropsNots xb c m o cd w = (c, m, o, cd) := by
  show F_X10_qDropsNots_0b xb w _ c m o cd = _
  unfold F_X10_qDropsNots_0b
  rw [if_neg h]
/-- is a square open? -/
theorem q_hs {w : Nat → Int} : ∀ (R C : List Int) (f : Nat), pwl w (R.reverse ++ C) → R.length < f → F_X10_qHasSquare_2 ((R.reverse ++ C).length : Int) w f (C.length : Int) = b2 (tMem R.reverse) := by
  intro R
  induction R with
  | nil =>
    intro C f h hf
    obtain ⟨k, rfl⟩ : ∃ k, f = k + 1 := ⟨f - 1, by have : 0 < f := hf; omega⟩
    show F_X10_qHasSquare_2b (C.length : Int) w _ (C.length : Int) = 0
    unfold F_X10_qHasSquare_2b
    rw [if_pos (Int.le_refl _)]
  | cons x R ih =>
    intro C f h hf
    obtain ⟨k, rfl⟩ : ∃ k, f = k + 1 := ⟨f - 1, by have : 0 < f := Nat.lt_of_le_of_lt (Nat.zero_le _) hf; omega⟩
    have er : (x :: R).reverse ++ C = R.reverse ++ (x :: C) := by
      rw [List.reverse_cons, List.append_assoc]
      rfl
    have em : tMem (x :: R).reverse = (tMem R.reverse || decide (x = 25)) := by
      unfold tMem
      rw [List.reverse_cons, List.any_append]
      show (_ || (decide (x = 25) || false)) = _
      rw [Bool.or_false]
    rw [er] at h ⊢
    rw [em]
    have hx : w C.length = x := (pwl_tl (T := R.reverse) h).1
    have hl : (R.reverse ++ (x :: C)).length = R.length + (C.length + 1) := by
      rw [List.length_append, List.length_reverse]
      rfl
    show F_X10_qHasSquare_2b ((R.reverse ++ (x :: C)).length : Int) w (F_X10_qHasSquare_2 ((R.reverse ++ (x :: C)).length : Int) w k) (C.length : Int) = _
    unfold F_X10_qHasSquare_2b
    rw [if_neg (by omega), Int.toNat_natCast, hx]
    by_cases q : x = 25
    · rw [if_pos q, decide_eq_true q, Bool.or_true]
      rfl
    · rw [if_neg q, decide_eq_false q, Bool.or_false]
      exact ih (x :: C) k h (by have : R.length + 1 < k + 1 := hf; omega)
theorem q_has {w : Nat → Int} {P : List Int} (h : pwl w P) (hl : P.length ≤ 1700) : F_X10_qHasSquare (P.length : Int) w = b2 (tMem P) := by
  have := q_hs (w := w) P.reverse [] 1702 (by rw [List.reverse_reverse, List.append_nil]; exact h) (by rw [List.length_reverse]; omega)
  rw [List.reverse_reverse, List.append_nil] at this
  exact this
