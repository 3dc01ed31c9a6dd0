/-- what is told of codes: the model's flags -/
def mtf (A : Nat → Int) (t0 t1 t2 : Bool) : Prop := (t0 = true ↔ ¬ A 0 = -1) ∧ (t1 = true ↔ ¬ A 1 = -1) ∧ (t2 = true ↔ ¬ A 2 = -1)
theorem mtf_0 {A : Nat → Int} {t0 t1 t2 : Bool} {x : Int} (h : mtf A t0 t1 t2) (hx : 0 ≤ x) : mtf (lf_up A 0 x) true t1 t2 := ⟨⟨fun _ => by show ¬ x = -1; omega, fun _ => rfl⟩, h.2.1, h.2.2⟩
theorem mtf_1 {A : Nat → Int} {t0 t1 t2 : Bool} {x : Int} (h : mtf A t0 t1 t2) (hx : 0 ≤ x) : mtf (lf_up A 1 x) t0 true t2 := ⟨h.1, ⟨fun _ => by show ¬ x = -1; omega, fun _ => rfl⟩, h.2.2⟩
theorem mtf_2 {A : Nat → Int} {t0 t1 t2 : Bool} {x : Int} (h : mtf A t0 t1 t2) (hx : 0 ≤ x) : mtf (lf_up A 2 x) t0 t1 true := ⟨h.1, h.2.1, ⟨fun _ => by show ¬ x = -1; omega, fun _ => rfl⟩⟩
theorem ct_0l {ce A1 A17 A19 : Nat → Int} {xa xe xb xp qn m o : Int} : ∀ (f : Nat) (l x : Int) (A21 : Nat → Int), 0 ≤ l → l ≤ qn → qn - l < (f : Int) → ∃ cd, F_X10_codesTold_a0_0_92 ce f xa xe xb xp qn m o A1 A17 A19 l x A21 = (xa, xe, xb, xp, x + (qn - l), (0 : Int), qn, m, o, (0 : Int), A1, A17, A19, lf_up ce (0 : Int) (x + (qn - l)), cd) := by
  intro f
  induction f with
  | zero => intro l x A21 h0 h1 h2; omega
  | succ f ih =>
    intro l x A21 h0 h1 h2
    show ∃ cd, F_X10_codesTold_a0_0_92b ce (F_X10_codesTold_a0_0_92 ce f) xa xe xb xp qn m o A1 A17 A19 l x A21 = _
    unfold F_X10_codesTold_a0_0_92b
    by_cases q : qn ≤ l
    · rw [if_pos q, show x + (qn - l) = x from by omega]
      exact ⟨A21, rfl⟩
    · rw [if_neg q]
      obtain ⟨cd, e⟩ := ih (l + 1) (x + 1) (lf_up A21 x (A19 (Int.toNat l))) (by omega) (by omega) (by omega)
      rw [show x + 1 + (qn - (l + 1)) = x + (qn - l) from by omega] at e
      exact ⟨cd, e⟩
theorem ct_0 {g : Nat → Int} {n p : Nat} {vnot vand vor vall vmin vmax v1 v2 v3 v4 v5 v6 v7 v8 v9 v10 v11 v12 v13 cf ce cs qc qwt : Nat → Int} {xa xe cod0 x1 x2 x3 x4 x5 bg : Int} (c : CD) (hn : n ≤ 1600) (hq : qw v1 v2 v3 v4 v5 v6 v7 v8 v9 v10 v11 v12 v13) (hnot : wa vnot W_not) (hand : wa vand W_and) (hor : wa vor W_or) (hall : wa vall W_all) (hmin : wa vmin W_min) (hmax : wa vmax W_max) (h : mp g n p xa xe) (hc : 0 ≤ cod0) (hf : cf 0 = -1) : rm g n (sTest g n 7 6 p c).1 (F_X10_codesTold_a0_0 xa (n : Int) xe (0 : Int) (-1 : Int) cod0 x1 x2 x3 x4 x5 g cf ce cs vnot vand vor vall vmin vmax v1 v2 v3 v4 v5 v6 v7 v8 v9 v10 v11 v12 v13 qc qwt bg).1 (F_X10_codesTold_a0_0 xa (n : Int) xe (0 : Int) (-1 : Int) cod0 x1 x2 x3 x4 x5 g cf ce cs vnot vand vor vall vmin vmax v1 v2 v3 v4 v5 v6 v7 v8 v9 v10 v11 v12 v13 qc qwt bg).2.1 (F_X10_codesTold_a0_0 xa (n : Int) xe (0 : Int) (-1 : Int) cod0 x1 x2 x3 x4 x5 g cf ce cs vnot vand vor vall vmin vmax v1 v2 v3 v4 v5 v6 v7 v8 v9 v10 v11 v12 v13 qc qwt bg).2.2.1 (F_X10_codesTold_a0_0 xa (n : Int) xe (0 : Int) (-1 : Int) cod0 x1 x2 x3 x4 x5 g cf ce cs vnot vand vor vall vmin vmax v1 v2 v3 v4 v5 v6 v7 v8 v9 v10 v11 v12 v13 qc qwt bg).2.2.2.1 ∧ ∀ q, (sTest g n 7 6 p c).1 = .inr q → 0 ≤ (F_X10_codesTold_a0_0 xa (n : Int) xe (0 : Int) (-1 : Int) cod0 x1 x2 x3 x4 x5 g cf ce cs vnot vand vor vall vmin vmax v1 v2 v3 v4 v5 v6 v7 v8 v9 v10 v11 v12 v13 qc qwt bg).2.2.2.2.1 ∧ (F_X10_codesTold_a0_0 xa (n : Int) xe (0 : Int) (-1 : Int) cod0 x1 x2 x3 x4 x5 g cf ce cs vnot vand vor vall vmin vmax v1 v2 v3 v4 v5 v6 v7 v8 v9 v10 v11 v12 v13 qc qwt bg).2.2.2.2.1 + (p : Int) ≤ cod0 + (q : Int) ∧ (F_X10_codesTold_a0_0 xa (n : Int) xe (0 : Int) (-1 : Int) cod0 x1 x2 x3 x4 x5 g cf ce cs vnot vand vor vall vmin vmax v1 v2 v3 v4 v5 v6 v7 v8 v9 v10 v11 v12 v13 qc qwt bg).2.2.2.2.2.2.2.2.2.2.1 = lf_up cf (0 : Int) cod0 := by
  have hpn := h.1
  have e0 : TT g n 7 true [] 0 p = (sTest g n 7 6 p c).1 := test_eq (g := g) (al := 7) hn 6 (Nat.le_refl _) p c h.1
  rw [← e0]
  unfold F_X10_codesTold_a0_0
  rw [if_pos rfl, if_pos hf]
  have hu := q_test (al := 7) (tk := 0) hn hq hnot hand hor hall hmin hmax (Or.inl ⟨rfl, rfl⟩) (cd := qc) (w := qwt) h (Nat.le_refl p)
  have hu' : qU g n [] 0 p (TT g n 7 true [] 0 p) p (F_X10_qTest xa (n : Int) xe (0 : Int) (-1 : Int) (0 : Int) (0 : Int) (0 : Int) (0 : Int) g vnot vand vor vall vmin vmax v1 v2 v3 v4 v5 v6 v7 v8 v9 v10 v11 v12 v13 qc qwt) := hu
  generalize F_X10_qTest xa (n : Int) xe (0 : Int) (-1 : Int) (0 : Int) (0 : Int) (0 : Int) (0 : Int) g vnot vand vor vall vmin vmax v1 v2 v3 v4 v5 v6 v7 v8 v9 v10 v11 v12 v13 qc qwt = R at hu' ⊢
  obtain ⟨y1, y2, y3, y4, y5, y6, y7, y8, y9⟩ := R
  rw [lf_p_e, lf_p_e, lf_p_e, lf_p_e, lf_p_e, lf_p_e, lf_p_e, lf_p_e]
  rcases hu' with ⟨q, e, q1, q2, q3⟩ | ⟨p1, e, hlt, hs⟩
  · have q2' : y3 = q.1 := q2
    rw [if_neg (show ¬ y3 = 0 from fun r => q1 (q2'.symm.trans r)), e]
    exact ⟨⟨q2, q3⟩, fun _ r => by cases r⟩
  · have hs' : qS g n [] 0 p [] 0 p1 y1 y2 y3 y4 y5 y6 y7 y8 := hs
    obtain ⟨s1, s2, s3, s4, s5, s6, s7, s8, s9, s10, s11, s12⟩ := hs'
    subst s8
    subst s9
    have s5' : y5 + (p : Int) + ((0 : Nat) : Int) ≤ (p1 : Int) := s5
    have hp1 := s7.1
    obtain ⟨cd, e2⟩ := ct_0l (ce := ce) (A1 := lf_up cf (0 : Int) cod0) (A17 := y8) (A19 := y9) (xa := y1) (xe := y2) (xb := (0 : Int)) (xp := (-1 : Int)) (qn := y5) (m := y6) (o := y7) 1602 0 cod0 cs (Int.le_refl _) s6 (by omega)
    rw [if_pos rfl, e2, e]
    refine ⟨⟨rfl, rfl, s7⟩, fun q r => ⟨?_, ?_, rfl⟩⟩
    · show 0 ≤ cod0 + (y5 - 0)
      omega
    · cases r
      show cod0 + (y5 - 0) + (p : Int) ≤ cod0 + (p1 : Int)
      omega
theorem ct_0n {g : Nat → Int} {n : Nat} {vnot vand vor vall vmin vmax v1 v2 v3 v4 v5 v6 v7 v8 v9 v10 v11 v12 v13 cf ce cs qc qwt : Nat → Int} {xa xe cod0 x1 x2 x3 x4 x5 bg : Int} (hf : ¬ cf 0 = -1) : F_X10_codesTold_a0_0 xa (n : Int) xe (0 : Int) (-1 : Int) cod0 x1 x2 x3 x4 x5 g cf ce cs vnot vand vor vall vmin vmax v1 v2 v3 v4 v5 v6 v7 v8 v9 v10 v11 v12 v13 qc qwt bg = (xa, xe, (5 : Int), bg, cod0, x1, x2, x3, x4, x5, cf, qwt, qc, ce, cs) := by
  unfold F_X10_codesTold_a0_0
  rw [if_pos rfl, if_neg hf]
theorem ct_1l {ce A1 A17 A19 : Nat → Int} {xa xe xb xp qn m o : Int} : ∀ (f : Nat) (l x : Int) (A21 : Nat → Int), 0 ≤ l → l ≤ qn → qn - l < (f : Int) → ∃ cd, F_X10_codesTold_a0_1_92 ce f xa xe xb xp qn m o A1 A17 A19 l x A21 = (xa, xe, xb, xp, x + (qn - l), (1 : Int), qn, m, o, (0 : Int), A1, A17, A19, lf_up ce (1 : Int) (x + (qn - l)), cd) := by
  intro f
  induction f with
  | zero => intro l x A21 h0 h1 h2; omega
  | succ f ih =>
    intro l x A21 h0 h1 h2
    show ∃ cd, F_X10_codesTold_a0_1_92b ce (F_X10_codesTold_a0_1_92 ce f) xa xe xb xp qn m o A1 A17 A19 l x A21 = _
    unfold F_X10_codesTold_a0_1_92b
    by_cases q : qn ≤ l
    · rw [if_pos q, show x + (qn - l) = x from by omega]
      exact ⟨A21, rfl⟩
    · rw [if_neg q]
      obtain ⟨cd, e⟩ := ih (l + 1) (x + 1) (lf_up A21 x (A19 (Int.toNat l))) (by omega) (by omega) (by omega)
      rw [show x + 1 + (qn - (l + 1)) = x + (qn - l) from by omega] at e
      exact ⟨cd, e⟩
theorem ct_1 {g : Nat → Int} {n p : Nat} {vnot vand vor vall vmin vmax v1 v2 v3 v4 v5 v6 v7 v8 v9 v10 v11 v12 v13 cf ce cs qc qwt : Nat → Int} {xa xe cod0 x1 x2 x3 x4 x5 bg : Int} (c : CD) (hn : n ≤ 1600) (hq : qw v1 v2 v3 v4 v5 v6 v7 v8 v9 v10 v11 v12 v13) (hnot : wa vnot W_not) (hand : wa vand W_and) (hor : wa vor W_or) (hall : wa vall W_all) (hmin : wa vmin W_min) (hmax : wa vmax W_max) (h : mp g n p xa xe) (hc : 0 ≤ cod0) (hf : cf 1 = -1) : rm g n (sTest g n 507 6 p c).1 (F_X10_codesTold_a0_1 xa (n : Int) xe (0 : Int) (-1 : Int) cod0 x1 x2 x3 x4 x5 g cf ce cs vnot vand vor vall vmin vmax v1 v2 v3 v4 v5 v6 v7 v8 v9 v10 v11 v12 v13 qc qwt bg).1 (F_X10_codesTold_a0_1 xa (n : Int) xe (0 : Int) (-1 : Int) cod0 x1 x2 x3 x4 x5 g cf ce cs vnot vand vor vall vmin vmax v1 v2 v3 v4 v5 v6 v7 v8 v9 v10 v11 v12 v13 qc qwt bg).2.1 (F_X10_codesTold_a0_1 xa (n : Int) xe (0 : Int) (-1 : Int) cod0 x1 x2 x3 x4 x5 g cf ce cs vnot vand vor vall vmin vmax v1 v2 v3 v4 v5 v6 v7 v8 v9 v10 v11 v12 v13 qc qwt bg).2.2.1 (F_X10_codesTold_a0_1 xa (n : Int) xe (0 : Int) (-1 : Int) cod0 x1 x2 x3 x4 x5 g cf ce cs vnot vand vor vall vmin vmax v1 v2 v3 v4 v5 v6 v7 v8 v9 v10 v11 v12 v13 qc qwt bg).2.2.2.1 ∧ ∀ q, (sTest g n 507 6 p c).1 = .inr q → 0 ≤ (F_X10_codesTold_a0_1 xa (n : Int) xe (0 : Int) (-1 : Int) cod0 x1 x2 x3 x4 x5 g cf ce cs vnot vand vor vall vmin vmax v1 v2 v3 v4 v5 v6 v7 v8 v9 v10 v11 v12 v13 qc qwt bg).2.2.2.2.1 ∧ (F_X10_codesTold_a0_1 xa (n : Int) xe (0 : Int) (-1 : Int) cod0 x1 x2 x3 x4 x5 g cf ce cs vnot vand vor vall vmin vmax v1 v2 v3 v4 v5 v6 v7 v8 v9 v10 v11 v12 v13 qc qwt bg).2.2.2.2.1 + (p : Int) ≤ cod0 + (q : Int) ∧ (F_X10_codesTold_a0_1 xa (n : Int) xe (0 : Int) (-1 : Int) cod0 x1 x2 x3 x4 x5 g cf ce cs vnot vand vor vall vmin vmax v1 v2 v3 v4 v5 v6 v7 v8 v9 v10 v11 v12 v13 qc qwt bg).2.2.2.2.2.2.2.2.2.2.1 = lf_up cf (1 : Int) cod0 := by
  have hpn := h.1
  have e0 : TT g n 507 true [] 0 p = (sTest g n 507 6 p c).1 := test_eq (g := g) (al := 507) hn 6 (Nat.le_refl _) p c h.1
  rw [← e0]
  unfold F_X10_codesTold_a0_1
  rw [if_pos rfl, if_pos hf]
  have hu := q_test (al := 507) (tk := 1) hn hq hnot hand hor hall hmin hmax (Or.inr (Or.inl ⟨rfl, rfl⟩)) (cd := qc) (w := qwt) h (Nat.le_refl p)
  have hu' : qU g n [] 0 p (TT g n 507 true [] 0 p) p (F_X10_qTest xa (n : Int) xe (0 : Int) (-1 : Int) (1 : Int) (0 : Int) (0 : Int) (0 : Int) g vnot vand vor vall vmin vmax v1 v2 v3 v4 v5 v6 v7 v8 v9 v10 v11 v12 v13 qc qwt) := hu
  generalize F_X10_qTest xa (n : Int) xe (0 : Int) (-1 : Int) (1 : Int) (0 : Int) (0 : Int) (0 : Int) g vnot vand vor vall vmin vmax v1 v2 v3 v4 v5 v6 v7 v8 v9 v10 v11 v12 v13 qc qwt = R at hu' ⊢
  obtain ⟨y1, y2, y3, y4, y5, y6, y7, y8, y9⟩ := R
  rw [lf_p_e, lf_p_e, lf_p_e, lf_p_e, lf_p_e, lf_p_e, lf_p_e, lf_p_e]
  rcases hu' with ⟨q, e, q1, q2, q3⟩ | ⟨p1, e, hlt, hs⟩
  · have q2' : y3 = q.1 := q2
    rw [if_neg (show ¬ y3 = 0 from fun r => q1 (q2'.symm.trans r)), e]
    exact ⟨⟨q2, q3⟩, fun _ r => by cases r⟩
  · have hs' : qS g n [] 0 p [] 0 p1 y1 y2 y3 y4 y5 y6 y7 y8 := hs
    obtain ⟨s1, s2, s3, s4, s5, s6, s7, s8, s9, s10, s11, s12⟩ := hs'
    subst s8
    subst s9
    have s5' : y5 + (p : Int) + ((0 : Nat) : Int) ≤ (p1 : Int) := s5
    have hp1 := s7.1
    obtain ⟨cd, e2⟩ := ct_1l (ce := ce) (A1 := lf_up cf (1 : Int) cod0) (A17 := y8) (A19 := y9) (xa := y1) (xe := y2) (xb := (0 : Int)) (xp := (-1 : Int)) (qn := y5) (m := y6) (o := y7) 1602 0 cod0 cs (Int.le_refl _) s6 (by omega)
    rw [if_pos rfl, e2, e]
    refine ⟨⟨rfl, rfl, s7⟩, fun q r => ⟨?_, ?_, rfl⟩⟩
    · show 0 ≤ cod0 + (y5 - 0)
      omega
    · cases r
      show cod0 + (y5 - 0) + (p : Int) ≤ cod0 + (p1 : Int)
      omega
theorem ct_1n {g : Nat → Int} {n : Nat} {vnot vand vor vall vmin vmax v1 v2 v3 v4 v5 v6 v7 v8 v9 v10 v11 v12 v13 cf ce cs qc qwt : Nat → Int} {xa xe cod0 x1 x2 x3 x4 x5 bg : Int} (hf : ¬ cf 1 = -1) : F_X10_codesTold_a0_1 xa (n : Int) xe (0 : Int) (-1 : Int) cod0 x1 x2 x3 x4 x5 g cf ce cs vnot vand vor vall vmin vmax v1 v2 v3 v4 v5 v6 v7 v8 v9 v10 v11 v12 v13 qc qwt bg = (xa, xe, (5 : Int), bg, cod0, x1, x2, x3, x4, x5, cf, qwt, qc, ce, cs) := by
  unfold F_X10_codesTold_a0_1
  rw [if_pos rfl, if_neg hf]
theorem ct_2l {ce A1 A17 A19 : Nat → Int} {xa xe xb xp qn m o : Int} : ∀ (f : Nat) (l x : Int) (A21 : Nat → Int), 0 ≤ l → l ≤ qn → qn - l < (f : Int) → ∃ cd, F_X10_codesTold_a0_2_92 ce f xa xe xb xp qn m o A1 A17 A19 l x A21 = (xa, xe, xb, xp, x + (qn - l), (2 : Int), qn, m, o, (0 : Int), A1, A17, A19, lf_up ce (2 : Int) (x + (qn - l)), cd) := by
  intro f
  induction f with
  | zero => intro l x A21 h0 h1 h2; omega
  | succ f ih =>
    intro l x A21 h0 h1 h2
    show ∃ cd, F_X10_codesTold_a0_2_92b ce (F_X10_codesTold_a0_2_92 ce f) xa xe xb xp qn m o A1 A17 A19 l x A21 = _
    unfold F_X10_codesTold_a0_2_92b
    by_cases q : qn ≤ l
    · rw [if_pos q, show x + (qn - l) = x from by omega]
      exact ⟨A21, rfl⟩
    · rw [if_neg q]
      obtain ⟨cd, e⟩ := ih (l + 1) (x + 1) (lf_up A21 x (A19 (Int.toNat l))) (by omega) (by omega) (by omega)
      rw [show x + 1 + (qn - (l + 1)) = x + (qn - l) from by omega] at e
      exact ⟨cd, e⟩
theorem ct_2 {g : Nat → Int} {n p : Nat} {vmin vmax v1 v2 v3 v4 v5 v6 v7 v8 v9 v10 v11 v12 v13 cf ce cs qc qwt : Nat → Int} {xa xe cod0 x1 x2 x3 x4 x5 bg : Int} (c : CD) (hn : n ≤ 1600) (hq : qw v1 v2 v3 v4 v5 v6 v7 v8 v9 v10 v11 v12 v13) (hmin : wa vmin W_min) (hmax : wa vmax W_max) (h : mp g n p xa xe) (hc : 0 ≤ cod0) (hf : cf 2 = -1) : rm g n (sSum g n 123 6 p c).1 (F_X10_codesTold_a0_2 xa (n : Int) xe (0 : Int) (-1 : Int) cod0 x1 x2 x3 x4 x5 g cf ce cs vmin vmax v1 v2 v3 v4 v5 v6 v7 v8 v9 v10 v11 v12 v13 qc qwt bg).1 (F_X10_codesTold_a0_2 xa (n : Int) xe (0 : Int) (-1 : Int) cod0 x1 x2 x3 x4 x5 g cf ce cs vmin vmax v1 v2 v3 v4 v5 v6 v7 v8 v9 v10 v11 v12 v13 qc qwt bg).2.1 (F_X10_codesTold_a0_2 xa (n : Int) xe (0 : Int) (-1 : Int) cod0 x1 x2 x3 x4 x5 g cf ce cs vmin vmax v1 v2 v3 v4 v5 v6 v7 v8 v9 v10 v11 v12 v13 qc qwt bg).2.2.1 (F_X10_codesTold_a0_2 xa (n : Int) xe (0 : Int) (-1 : Int) cod0 x1 x2 x3 x4 x5 g cf ce cs vmin vmax v1 v2 v3 v4 v5 v6 v7 v8 v9 v10 v11 v12 v13 qc qwt bg).2.2.2.1 ∧ ∀ q, (sSum g n 123 6 p c).1 = .inr q → 0 ≤ (F_X10_codesTold_a0_2 xa (n : Int) xe (0 : Int) (-1 : Int) cod0 x1 x2 x3 x4 x5 g cf ce cs vmin vmax v1 v2 v3 v4 v5 v6 v7 v8 v9 v10 v11 v12 v13 qc qwt bg).2.2.2.2.1 ∧ (F_X10_codesTold_a0_2 xa (n : Int) xe (0 : Int) (-1 : Int) cod0 x1 x2 x3 x4 x5 g cf ce cs vmin vmax v1 v2 v3 v4 v5 v6 v7 v8 v9 v10 v11 v12 v13 qc qwt bg).2.2.2.2.1 + (p : Int) ≤ cod0 + (q : Int) ∧ (F_X10_codesTold_a0_2 xa (n : Int) xe (0 : Int) (-1 : Int) cod0 x1 x2 x3 x4 x5 g cf ce cs vmin vmax v1 v2 v3 v4 v5 v6 v7 v8 v9 v10 v11 v12 v13 qc qwt bg).2.2.2.2.2.2.2.2.2.2.1 = lf_up cf (2 : Int) cod0 := by
  have hpn := h.1
  have e0 : RR g n 123 true [] 0 p = (sSum g n 123 6 p c).1 := sum_eq (g := g) (al := 123) hn 6 (Nat.le_refl _) p c h.1
  rw [← e0]
  unfold F_X10_codesTold_a0_2
  rw [if_pos rfl, if_pos hf]
  have hu := q_sums (B := []) (o0 := 0) (d := p) (al := 123) (tk := 2) hn (show ¬ (1 ≤ (0 : Int) ∧ (0 : Int) ≤ 4) from by decide) hq hmin hmax (Or.inr (Or.inr (Or.inl ⟨rfl, rfl⟩))) (p := p) (cd := qc) (w := qwt) ⟨True.intro, rfl, Int.le_refl _, (by decide), (by show (0 : Int) + (p : Int) + ((0 : Nat) : Int) ≤ _; omega), Int.le_refl _, h, rfl, rfl, rfl, rfl, True.intro⟩
  have hu' : qU g n [] 0 p (RR g n 123 true [] 0 p) p (F_X10_qSums xa (n : Int) xe (0 : Int) (-1 : Int) (2 : Int) (0 : Int) (0 : Int) (0 : Int) g vmin vmax v1 v2 v3 v4 v5 v6 v7 v8 v9 v10 v11 v12 v13 qc qwt) := hu
  generalize F_X10_qSums xa (n : Int) xe (0 : Int) (-1 : Int) (2 : Int) (0 : Int) (0 : Int) (0 : Int) g vmin vmax v1 v2 v3 v4 v5 v6 v7 v8 v9 v10 v11 v12 v13 qc qwt = R at hu' ⊢
  obtain ⟨y1, y2, y3, y4, y5, y6, y7, y8, y9⟩ := R
  rw [lf_p_e, lf_p_e, lf_p_e, lf_p_e, lf_p_e, lf_p_e, lf_p_e, lf_p_e]
  rcases hu' with ⟨q, e, q1, q2, q3⟩ | ⟨p1, e, hlt, hs⟩
  · have q2' : y3 = q.1 := q2
    rw [if_neg (show ¬ y3 = 0 from fun r => q1 (q2'.symm.trans r)), e]
    exact ⟨⟨q2, q3⟩, fun _ r => by cases r⟩
  · have hs' : qS g n [] 0 p [] 0 p1 y1 y2 y3 y4 y5 y6 y7 y8 := hs
    obtain ⟨s1, s2, s3, s4, s5, s6, s7, s8, s9, s10, s11, s12⟩ := hs'
    subst s8
    subst s9
    have s5' : y5 + (p : Int) + ((0 : Nat) : Int) ≤ (p1 : Int) := s5
    have hp1 := s7.1
    obtain ⟨cd, e2⟩ := ct_2l (ce := ce) (A1 := lf_up cf (2 : Int) cod0) (A17 := y8) (A19 := y9) (xa := y1) (xe := y2) (xb := (0 : Int)) (xp := (-1 : Int)) (qn := y5) (m := y6) (o := y7) 1602 0 cod0 cs (Int.le_refl _) s6 (by omega)
    rw [if_pos rfl, e2, e]
    refine ⟨⟨rfl, rfl, s7⟩, fun q r => ⟨?_, ?_, rfl⟩⟩
    · show 0 ≤ cod0 + (y5 - 0)
      omega
    · cases r
      show cod0 + (y5 - 0) + (p : Int) ≤ cod0 + (p1 : Int)
      omega
theorem ct_2n {g : Nat → Int} {n : Nat} {vmin vmax v1 v2 v3 v4 v5 v6 v7 v8 v9 v10 v11 v12 v13 cf ce cs qc qwt : Nat → Int} {xa xe cod0 x1 x2 x3 x4 x5 bg : Int} (hf : ¬ cf 2 = -1) : F_X10_codesTold_a0_2 xa (n : Int) xe (0 : Int) (-1 : Int) cod0 x1 x2 x3 x4 x5 g cf ce cs vmin vmax v1 v2 v3 v4 v5 v6 v7 v8 v9 v10 v11 v12 v13 qc qwt bg = (xa, xe, (5 : Int), bg, cod0, x1, x2, x3, x4, x5, cf, qwt, qc, ce, cs) := by
  unfold F_X10_codesTold_a0_2
  rw [if_pos rfl, if_neg hf]
theorem kt_f {g M N kd tr : Nat → Int} {xa n xe np bg : Int} {w1 w2 w3 w4 w5 w6 w7 w8 w9 w10 w11 w12 w13 w14 w15 w16 w17 w18 w19 w20 w21 w22 w23 w24 w25 w26 w27 w28 w29 w30 : Nat → Int} (h : M 0 = 6) : F_X10_kindTold xa n xe (0 : Int) (-1 : Int) np g w1 w2 w3 w4 w5 w6 w7 w8 w9 w10 w11 w12 w13 w14 w15 w16 w17 w18 w19 w20 w21 w22 w23 w24 w25 w26 w27 w28 w29 w30 M N kd tr bg = (xa, xe, (5 : Int), bg, np, M, N, kd, tr) := by
  unfold F_X10_kindTold F_X10_isFull_a0_0_a1_6
  rw [if_pos rfl, if_pos h, lf_p_e, lf_p_e, if_neg (show ¬ (1 : Int) = 0 from by decide)]
theorem wt_f {g M N wk : Nat → Int} {xa n xe np bg : Int} {w1 w2 w3 w4 w5 w6 w7 w8 w9 w10 w11 w12 w13 w14 w15 w16 w17 w18 w19 w20 w21 w22 w23 w24 w25 w26 w27 w28 w29 w30 : Nat → Int} (h : M 1 = 12) : F_X10_walkerTold xa n xe (0 : Int) (-1 : Int) np g w1 w2 w3 w4 w5 w6 w7 w8 w9 w10 w11 w12 w13 w14 w15 w16 w17 w18 w19 w20 w21 w22 w23 w24 w25 w26 w27 w28 w29 w30 M N wk bg = (xa, xe, (5 : Int), bg, np, M, N, wk) := by
  unfold F_X10_walkerTold F_X10_isFull_a0_1_a1_12
  rw [if_pos rfl, if_pos h, lf_p_e, lf_p_e, if_neg (show ¬ (1 : Int) = 0 from by decide)]
