section
/-! 4h -/
theorem q_110 {w : Nat → Int} {l xa xe xp o : Int} : ∀ (P : List Int) (f : Nat) (c : Int) (cd : Nat → Int), P.length < f → ∃ cd2, F_X10_qTest_110 f l xa xe (0 : Int) xp c (P.length : Int) o w cd = (xa, xe, (0 : Int), xp, c + (P.length : Int), (0 : Int), o, w, cd2) := by
  intro P
  induction P with
  | nil =>
    intro f c cd hf
    obtain ⟨k, rfl⟩ : ∃ k, f = k + 1 := ⟨f - 1, by have : 0 < f := hf; omega⟩
    refine ⟨cd, ?_⟩
    show F_X10_qTest_110b _ l xa xe (0 : Int) xp c (0 : Int) o w cd = _
    unfold F_X10_qTest_110b
    rw [if_pos rfl, if_pos (Int.le_refl _), show c + (([] : List Int).length : Int) = c from by show c + ((0 : Nat) : Int) = c; omega]
  | cons x P ih =>
    intro f c cd hf
    obtain ⟨k, rfl⟩ : ∃ k, f = k + 1 := ⟨f - 1, by have : 0 < f := Nat.lt_of_le_of_lt (Nat.zero_le _) hf; omega⟩
    obtain ⟨cd2, e⟩ := ih k (c + 1) (lf_up cd c (w P.length)) (by have : P.length + 1 < k + 1 := hf; omega)
    have e2 : ((x :: P).length : Int) = (P.length : Int) + 1 := rfl
    refine ⟨cd2, ?_⟩
    show F_X10_qTest_110b (F_X10_qTest_110 k) l xa xe (0 : Int) xp c ((x :: P).length : Int) o w cd = _
    unfold F_X10_qTest_110b
    rw [if_pos rfl, if_neg (by omega), show F_X10_qDrops c ((x :: P).length : Int) cd w = ((c + 1), (P.length : Int), lf_up cd c (w P.length)) from q_drop, lf_p_e, lf_p_e, e, e2, show c + 1 + (P.length : Int) = c + ((P.length : Int) + 1) from by omega]
section QW
variable {g : Nat → Int} {n : Nat} {al tk : Int} {d : Nat} {vnot vand vor vall vmin vmax v1 v2 v3 v4 v5 v6 v7 v8 v9 v10 v11 v12 v13 : Nat → Int}
theorem q_t0 {l xa xe xb xp c m o : Int} {w cd : Nat → Int} (hb : ¬ xb = 0) (k : Nat) : F_X10_qTest_2 (n : Int) tk g vnot vand vor vall vmin vmax v1 v2 v3 v4 v5 v6 v7 v8 v9 v10 v11 v12 v13 (k + 1) l xa xe xb xp c m o w cd = (xa, xe, xb, xp, c, m, o, w, cd) := by
  have e : F_X10_qTest_110 1627 l xa xe xb xp c m o w cd = (xa, xe, xb, xp, c, m, o, w, cd) := by
    show F_X10_qTest_110b _ l xa xe xb xp c m o w cd = _
    unfold F_X10_qTest_110b
    rw [if_neg hb]
  show F_X10_qTest_2b (n : Int) tk g vnot vand vor vall vmin vmax v1 v2 v3 v4 v5 v6 v7 v8 v9 v10 v11 v12 v13 _ l xa xe xb xp c m o w cd = _
  unfold F_X10_qTest_2b
  rw [if_neg hb, e]
  by_cases q : l = 0
  · rw [if_pos q]
  · rw [if_neg q]
theorem q_te (hn : n ≤ 1600) (hq : qw v1 v2 v3 v4 v5 v6 v7 v8 v9 v10 v11 v12 v13) (hnot : wa vnot W_not) (hand : wa vand W_and) (hor : wa vor W_or) (hall : wa vall W_all) (hmin : wa vmin W_min) (hmax : wa vmax W_max) (ht : tkA tk al) : ∀ (f : Nat) (P : List Int) (o : Int) (p : Nat) (xa xe c : Int) (w cd : Nat → Int), qV g n d P o p xa xe (0 : Int) (-1 : Int) c (P.length : Int) o w → n - p + 1 < f → qU g n [] 0 d (TT g n al true (stQ P) o p) p (F_X10_qTest_2 (n : Int) tk g vnot vand vor vall vmin vmax v1 v2 v3 v4 v5 v6 v7 v8 v9 v10 v11 v12 v13 f (1 : Int) xa xe (0 : Int) (-1 : Int) c (P.length : Int) o w cd) := by
  intro f
  induction f with
  | zero => intro P o p xa xe c w cd h hf; omega
  | succ f ih =>
    intro P o p xa xe c w cd h hf
    obtain ⟨f, rfl⟩ : ∃ k, f = k + 1 := ⟨f - 1, by omega⟩
    obtain ⟨h1, h2, h4, h5, h6', h7, h8, h9, h10, h11, h12⟩ := h
    have hpn := h7.1
    have hle := tx_e_le (f := g) h7.1
    have qUm : ∀ {S : ST} {p1 : Nat} {R : Int × Int × Int × Int × Int × Int × Int × (Nat → Int) × (Nat → Int)}, p ≤ p1 → qU g n [] 0 d S p1 R → qU g n [] 0 d S p R := by
      intro S p1 R hh hr
      rcases hr with r | ⟨p4, a1, a2, a3⟩
      · exact Or.inl r
      · exact Or.inr ⟨p4, a1, by omega, a3⟩
    show qU g n [] 0 d (TT g n al true (stQ P) o p) p (F_X10_qTest_2b (n : Int) tk g vnot vand vor vall vmin vmax v1 v2 v3 v4 v5 v6 v7 v8 v9 v10 v11 v12 v13 (F_X10_qTest_2 (n : Int) tk g vnot vand vor vall vmin vmax v1 v2 v3 v4 v5 v6 v7 v8 v9 v10 v11 v12 v13 (f + 1)) (1 : Int) xa xe (0 : Int) (-1 : Int) c (P.length : Int) o w cd)
    unfold F_X10_qTest_2b
    rw [if_neg (show ¬ (1 : Int) = 0 from by decide), if_pos rfl, ml_look hn h7, lf_p_e]
    by_cases c1 : lk g n p = 91
    · have q' : tx_k g n p = 3 ∧ g (tx_a g n p) = 91 := (lk_sgn (by omega)).mp c1
      have hlt : p < tx_e g n p := tx_e_gt' (by have := q'.1; omega)
      unfold F_X10_qOpens_a0_25
      rw [if_pos c1, if_pos rfl]
      by_cases h6o : o = 6
      · rw [if_pos h6o, lf_p_e, lf_p_e, lf_p_e, lf_p_e, q_t0 (show ¬ (4 : Int) = 0 from by decide), h6o, TT_s6 q']
        exact Or.inl ⟨(4, (tx_a g n p : Int)), rfl, (show ¬ (4 : Int) = 0 from by decide), rfl, rfl⟩
      · rw [if_neg h6o, lf_p_e, lf_p_e, lf_p_e, lf_p_e, lo_add (by omega) (by omega) (by omega) (by omega) (by omega) (by omega), TT_s1 h7.1 q' h6o]
        have hs : stQ (25 :: P) = 25 :: stQ P := rfl
        rw [← hs]
        refine qUm (Nat.le_of_lt hlt) (ih (25 :: P) (o + 1) (tx_e g n p) _ xe c _ _ ⟨⟨h1, Or.inr (Or.inl rfl)⟩, ?_, by omega, ?_, h6', mp_sgn h7 q'.1, rfl, rfl, rfl, rfl, pwl_push h12 25⟩ (by omega))
        · rw [hs, h2]
          rfl
        · show c + (d : Int) + ((P.length + 1 : Nat) : Int) ≤ _
          omega
    · have q' : ¬ (tx_k g n p = 3 ∧ g (tx_a g n p) = 91) := fun r => c1 ((lk_sgn (by omega)).mpr r)
      rw [if_neg c1, F_X10_isHere_1 hn (W := W_not) rfl hnot (mp_a h7), lf_p_e]
      cases cn : wh g n W_not p with
      | true =>
        have k15 : ¬ wl g n ws_15 p = -1 := by
          rw [show wl g n ws_15 p = 0 from (wl_1 W_not).trans (if_pos cn)]
          decide
        have hk := (wh_k cn).1
        have hlt : p < tx_e g n p := tx_e_gt' (by omega)
        unfold F_X10_qOpens_a0_12
        rw [if_neg (show ¬ b2 true = 0 from by decide), if_pos rfl]
        by_cases h6o : o = 6
        · rw [if_pos h6o, lf_p_e, lf_p_e, lf_p_e, lf_p_e]
          unfold F_X10_asks
          rw [if_neg (show ¬ (4 : Int) = 0 from by decide), lf_p_e, lf_p_e, lf_p_e, q_t0 (show ¬ (4 : Int) = 0 from by decide), h6o, TT_n6 k15]
          exact Or.inl ⟨(4, (tx_a g n p : Int)), rfl, (show ¬ (4 : Int) = 0 from by decide), rfl, rfl⟩
        · rw [if_neg h6o, lf_p_e, lf_p_e, lf_p_e, lf_p_e, F_X10_asks_t hn (W := W_not) rfl hnot (mp_a h7) cn, lf_p_e, lf_p_e, lf_p_e, lo_add (by omega) (by omega) (by omega) (by omega) (by omega) (by omega), TT_n1 h7.1 k15 h6o]
          have hs : stQ (12 :: P) = 12 :: stQ P := rfl
          rw [← hs]
          refine qUm (Nat.le_of_lt hlt) (ih (12 :: P) (o + 1) (tx_e g n p) _ _ c _ _ ⟨⟨h1, Or.inr (Or.inr rfl)⟩, ?_, by omega, ?_, h6', mp_tok h7.1 hk (Or.inl rfl), rfl, rfl, rfl, rfl, pwl_push h12 12⟩ (by omega))
          · rw [hs, h2]
            rfl
          · show c + (d : Int) + ((P.length + 1 : Nat) : Int) ≤ _
            omega
      | false =>
        have k15 : wl g n ws_15 p = -1 := (wl_1 W_not).trans (if_neg (fun r => Bool.noConfusion (cn.symm.trans r)))
        rw [if_pos (show b2 false = 0 from rfl), TT_at h7.1 q' k15]
        have hfa := q_fact hn (okQ_h h1) hq hall hmin hmax ht (o0 := o) (d := d) (cd := cd) (show qS g n P o d [] o p (tx_a g n p : Int) xe (0 : Int) (-1 : Int) c (P.length : Int) o w from ⟨True.intro, (by show o = o + ((0 : Nat) : Int); omega), by omega, h4, (by show c + (d : Int) + (P.length : Int) ≤ _; omega), h6', mp_a h7, rfl, rfl, rfl, rfl, h12⟩)
        generalize F_X10_qFact (tx_a g n p : Int) (n : Int) xe (0 : Int) (-1 : Int) tk c (P.length : Int) o g vall vmin vmax v1 v2 v3 v4 v5 v6 v7 v8 v9 v10 v11 v12 v13 cd w = R at hfa ⊢
        obtain ⟨y1, y2, y3, y4, y5, y6, y7, y8, y9⟩ := R
        rw [lf_p_e, lf_p_e, lf_p_e, lf_p_e, lf_p_e, lf_p_e, lf_p_e, lf_p_e]
        rcases hfa with ⟨q, e, q1, q2, q3⟩ | ⟨p2, e, hlt, hs⟩
        · have q2' : y3 = q.1 := q2
          have y3n : ¬ y3 = 0 := fun r => q1 (q2'.symm.trans r)
          rw [q_nots0 y3n, lf_p_e, lf_p_e, lf_p_e, if_neg y3n, q_t0 y3n, e]
          exact Or.inl ⟨q, rfl, q1, q2, q3⟩
        · have hs' : qS g n P o d [] o p2 y1 y2 y3 y4 y5 y6 y7 y8 := hs
          obtain ⟨s1, s2, s3, s4, s5, s6, s7, s8, s9, s10, s11, s12⟩ := hs'
          subst s8
          subst s9
          have s10' : y6 = (P.length : Int) := s10
          subst s10'
          subst s11
          have s5' : y5 + (d : Int) + (P.length : Int) ≤ (p2 : Int) := s5
          have hp2 := s7.1
          have s12' : pwl y8 P := s12
          obtain ⟨c3, cd3, e4, e5⟩ := q_nots (c := y5) (cd := y9) (o := y7) s12' (by omega) s3 s4
          obtain ⟨u1, u2, u3, u4, u5, u6⟩ := ok_nt y7 h1
          have hln := ntD_len P y7
          have hv : qV g n d (ntD P y7).1 (ntD P y7).2 p2 y1 y2 (0 : Int) (-1 : Int) c3 ((ntD P y7).1.length : Int) (ntD P y7).2 y8 := ⟨u3, by omega, by omega, by omega, by omega, s7, rfl, rfl, rfl, rfl, ntD_p P y7 s12'⟩
          have hgo : qH g n al d (TT g n al false (stQ (ntD P y7).1) (ntD P y7).2 p2) p2 (F_X10_qGoesOnTest y1 (n : Int) y2 (0 : Int) (-1 : Int) c3 ((ntD P y7).1.length : Int) (ntD P y7).2 g vand vor cd3 y8) := q_goest hn hand hor 1602 (ntD P y7).1 (ntD P y7).2 p2 y1 c3 cd3 hv u4 (by omega)
          rw [e4, lf_p_e, lf_p_e, lf_p_e, if_pos rfl, e, show sb (.inr p2 : ST) (fun p2 => TT g n al false (ntD (stQ P) y7).1 (ntD (stQ P) y7).2 p2) = TT g n al false (stQ (ntD P y7).1) (ntD P y7).2 p2 from by rw [u1, u2]; rfl]
          generalize F_X10_qGoesOnTest y1 (n : Int) y2 (0 : Int) (-1 : Int) c3 ((ntD P y7).1.length : Int) (ntD P y7).2 g vand vor cd3 y8 = R at hgo ⊢
          obtain ⟨z0, z1, z2, z3, z4, z5, z6, z7, z8, z9⟩ := R
          rw [lf_p_e, lf_p_e, lf_p_e, lf_p_e, lf_p_e, lf_p_e, lf_p_e, lf_p_e, lf_p_e]
          rcases hgo with ⟨r1, P3, o3, p3, e3, hlt3, hs3⟩ | ⟨r1, q, e3, q1, q2, q3⟩ | ⟨r1, P3, o3, p3, e3, hle3, hnil, hs3⟩
          · have r1' : z0 = 1 := r1
            have hs' : qV g n d P3 o3 p3 z1 z2 z3 z4 z5 z6 z7 z8 := hs3
            obtain ⟨t1, t2, t4, t5, t6, t7, t8, t9, t10, t11, t12⟩ := hs'
            subst t8
            subst t9
            subst t10
            subst t11
            rw [if_neg (show ¬ z0 = 0 from by omega), e3]
            exact qUm (by omega) (ih P3 z7 p3 z1 z2 z5 z8 z9 ⟨t1, t2, t4, t5, t6, t7, rfl, rfl, rfl, rfl, t12⟩ (by omega))
          · have r1' : z0 = 0 := r1
            have q2' : z3 = q.1 := q2
            rw [if_pos r1', q_t0 (show ¬ z3 = 0 from fun r => q1 (q2'.symm.trans r))]
            exact Or.inl ⟨q, e3, q1, q2, q3⟩
          · have r1' : z0 = 0 := r1
            have hs' : qV g n d P3 o3 p3 z1 z2 z3 z4 z5 z6 z7 z8 := hs3
            obtain ⟨t1, t2, t4, t5, t6, t7, t8, t9, t10, t11, t12⟩ := hs'
            subst t8
            subst t9
            subst t10
            subst t11
            have hp3 := t7.1
            have ho : z7 = 0 := by
              rw [t2, hnil]
              rfl
            obtain ⟨cd2, e6⟩ := q_110 (w := z8) (l := (0 : Int)) (xa := z1) (xe := z2) (xp := (-1 : Int)) (o := z7) P3 1627 z5 z9 (by omega)
            rw [if_pos r1']
            show qU g n [] 0 d _ p (F_X10_qTest_2b (n : Int) tk g vnot vand vor vall vmin vmax v1 v2 v3 v4 v5 v6 v7 v8 v9 v10 v11 v12 v13 (F_X10_qTest_2 (n : Int) tk g vnot vand vor vall vmin vmax v1 v2 v3 v4 v5 v6 v7 v8 v9 v10 v11 v12 v13 f) (0 : Int) z1 z2 (0 : Int) (-1 : Int) z5 (P3.length : Int) z7 z8 z9)
            unfold F_X10_qTest_2b
            rw [if_pos rfl, e6, e3]
            refine Or.inr ⟨p3, rfl, by omega, True.intro, rfl, Int.le_refl _, (by decide), ?_, ?_, t7, rfl, rfl, rfl, ho, True.intro⟩
            · show z5 + (P3.length : Int) + (d : Int) + ((0 : Nat) : Int) ≤ (p3 : Int)
              omega
            · show 0 ≤ z5 + (P3.length : Int)
              omega
theorem q_test (hn : n ≤ 1600) (hq : qw v1 v2 v3 v4 v5 v6 v7 v8 v9 v10 v11 v12 v13) (hnot : wa vnot W_not) (hand : wa vand W_and) (hor : wa vor W_or) (hall : wa vall W_all) (hmin : wa vmin W_min) (hmax : wa vmax W_max) (ht : tkA tk al) {p : Nat} {xa xe : Int} {w cd : Nat → Int} (h : mp g n p xa xe) (hd : d ≤ p) : qU g n [] 0 d (TT g n al true [] 0 p) p (F_X10_qTest xa (n : Int) xe (0 : Int) (-1 : Int) tk (0 : Int) (0 : Int) (0 : Int) g vnot vand vor vall vmin vmax v1 v2 v3 v4 v5 v6 v7 v8 v9 v10 v11 v12 v13 cd w) := by
  have hpn := h.1
  exact q_te hn hq hnot hand hor hall hmin hmax ht 3203 [] 0 p xa xe 0 w cd ⟨True.intro, rfl, (by decide), (by show (0 : Int) + (d : Int) + ((0 : Nat) : Int) ≤ _; omega), Int.le_refl _, h, rfl, rfl, rfl, rfl, True.intro⟩ (by omega)
end QW
end
section
/-! 4i -/
/-- what is told of codes: the model's flags -/
def mtf (A : Nat → Int) (t0 t1 t2 : Bool) : Prop := (t0 = true ↔ ¬ A 0 = -1) ∧ (t1 = true ↔ ¬ A 1 = -1) ∧ (t2 = true ↔ ¬ A 2 = -1)
theorem mtf_0 {A : Nat → Int} {t0 t1 t2 : Bool} {x : Int} (h : mtf A t0 t1 t2) (hx : 0 ≤ x) : mtf (lf_up A 0 x) true t1 t2 := ⟨⟨fun _ => by show ¬ x = -1; omega, fun _ => rfl⟩, h.2.1, h.2.2⟩
theorem mtf_1 {A : Nat → Int} {t0 t1 t2 : Bool} {x : Int} (h : mtf A t0 t1 t2) (hx : 0 ≤ x) : mtf (lf_up A 1 x) t0 true t2 := ⟨h.1, ⟨fun _ => by show ¬ x = -1; omega, fun _ => rfl⟩, h.2.2⟩
theorem mtf_2 {A : Nat → Int} {t0 t1 t2 : Bool} {x : Int} (h : mtf A t0 t1 t2) (hx : 0 ≤ x) : mtf (lf_up A 2 x) t0 t1 true := ⟨h.1, h.2.1, ⟨fun _ => by show ¬ x = -1; omega, fun _ => rfl⟩⟩
theorem ct_0l {ce A1 A17 A19 : Nat → Int} {xa xe xb xp qn m o : Int} : ∀ (f : Nat) (l x : Int) (A21 : Nat → Int), 0 ≤ l → l ≤ qn → qn - l < (f : Int) → ∃ cd, F_X10_codesTold_a0_0_92 ce f xa xe xb xp qn m o A1 A17 A19 l x A21 = (xa, xe, xb, xp, x + (qn - l), (0 : Int), qn, m, o, (0 : Int), A1, A17, A19, lf_up ce (0 : Int) (x + (qn - l)), cd) := by
  intro f
  induction f with
  | zero => intro l x A21 h0 h1 h2; omega
  | succ f ih =>
    intro l x A21 h0 h1 h2
    show ∃ cd, F_X10_codesTold_a0_0_92b ce (F_X10_codesTold_a0_0_92 ce f) xa xe xb xp qn m o A1 A17 A19 l x A21 = _
    unfold F_X10_codesTold_a0_0_92b
    by_cases q : qn ≤ l
    · rw [if_pos q, show x + (qn - l) = x from by omega]
      exact ⟨A21, rfl⟩
    · rw [if_neg q]
      obtain ⟨cd, e⟩ := ih (l + 1) (x + 1) (lf_up A21 x (A19 (Int.toNat l))) (by omega) (by omega) (by omega)
      rw [show x + 1 + (qn - (l + 1)) = x + (qn - l) from by omega] at e
      exact ⟨cd, e⟩
theorem ct_0 {g : Nat → Int} {n p : Nat} {vnot vand vor vall vmin vmax v1 v2 v3 v4 v5 v6 v7 v8 v9 v10 v11 v12 v13 cf ce cs qc qwt : Nat → Int} {xa xe cod0 x1 x2 x3 x4 x5 bg : Int} (c : CD) (hn : n ≤ 1600) (hq : qw v1 v2 v3 v4 v5 v6 v7 v8 v9 v10 v11 v12 v13) (hnot : wa vnot W_not) (hand : wa vand W_and) (hor : wa vor W_or) (hall : wa vall W_all) (hmin : wa vmin W_min) (hmax : wa vmax W_max) (h : mp g n p xa xe) (hc : 0 ≤ cod0) (hf : cf 0 = -1) : rm g n (sTest g n 7 6 p c).1 (F_X10_codesTold_a0_0 xa (n : Int) xe (0 : Int) (-1 : Int) cod0 x1 x2 x3 x4 x5 g cf ce cs vnot vand vor vall vmin vmax v1 v2 v3 v4 v5 v6 v7 v8 v9 v10 v11 v12 v13 qc qwt bg).1 (F_X10_codesTold_a0_0 xa (n : Int) xe (0 : Int) (-1 : Int) cod0 x1 x2 x3 x4 x5 g cf ce cs vnot vand vor vall vmin vmax v1 v2 v3 v4 v5 v6 v7 v8 v9 v10 v11 v12 v13 qc qwt bg).2.1 (F_X10_codesTold_a0_0 xa (n : Int) xe (0 : Int) (-1 : Int) cod0 x1 x2 x3 x4 x5 g cf ce cs vnot vand vor vall vmin vmax v1 v2 v3 v4 v5 v6 v7 v8 v9 v10 v11 v12 v13 qc qwt bg).2.2.1 (F_X10_codesTold_a0_0 xa (n : Int) xe (0 : Int) (-1 : Int) cod0 x1 x2 x3 x4 x5 g cf ce cs vnot vand vor vall vmin vmax v1 v2 v3 v4 v5 v6 v7 v8 v9 v10 v11 v12 v13 qc qwt bg).2.2.2.1 ∧ ∀ q, (sTest g n 7 6 p c).1 = .inr q → 0 ≤ (F_X10_codesTold_a0_0 xa (n : Int) xe (0 : Int) (-1 : Int) cod0 x1 x2 x3 x4 x5 g cf ce cs vnot vand vor vall vmin vmax v1 v2 v3 v4 v5 v6 v7 v8 v9 v10 v11 v12 v13 qc qwt bg).2.2.2.2.1 ∧ (F_X10_codesTold_a0_0 xa (n : Int) xe (0 : Int) (-1 : Int) cod0 x1 x2 x3 x4 x5 g cf ce cs vnot vand vor vall vmin vmax v1 v2 v3 v4 v5 v6 v7 v8 v9 v10 v11 v12 v13 qc qwt bg).2.2.2.2.1 + (p : Int) ≤ cod0 + (q : Int) ∧ (F_X10_codesTold_a0_0 xa (n : Int) xe (0 : Int) (-1 : Int) cod0 x1 x2 x3 x4 x5 g cf ce cs vnot vand vor vall vmin vmax v1 v2 v3 v4 v5 v6 v7 v8 v9 v10 v11 v12 v13 qc qwt bg).2.2.2.2.2.2.2.2.2.2.1 = lf_up cf (0 : Int) cod0 := by
  have hpn := h.1
  have e0 : TT g n 7 true [] 0 p = (sTest g n 7 6 p c).1 := test_eq (g := g) (al := 7) hn 6 (Nat.le_refl _) p c h.1
  rw [← e0]
  unfold F_X10_codesTold_a0_0
  rw [if_pos rfl, if_pos hf]
  have hu := q_test (al := 7) (tk := 0) hn hq hnot hand hor hall hmin hmax (Or.inl ⟨rfl, rfl⟩) (cd := qc) (w := qwt) h (Nat.le_refl p)
  have hu' : qU g n [] 0 p (TT g n 7 true [] 0 p) p (F_X10_qTest xa (n : Int) xe (0 : Int) (-1 : Int) (0 : Int) (0 : Int) (0 : Int) (0 : Int) g vnot vand vor vall vmin vmax v1 v2 v3 v4 v5 v6 v7 v8 v9 v10 v11 v12 v13 qc qwt) := hu
  generalize F_X10_qTest xa (n : Int) xe (0 : Int) (-1 : Int) (0 : Int) (0 : Int) (0 : Int) (0 : Int) g vnot vand vor vall vmin vmax v1 v2 v3 v4 v5 v6 v7 v8 v9 v10 v11 v12 v13 qc qwt = R at hu' ⊢
  obtain ⟨y1, y2, y3, y4, y5, y6, y7, y8, y9⟩ := R
  rw [lf_p_e, lf_p_e, lf_p_e, lf_p_e, lf_p_e, lf_p_e, lf_p_e, lf_p_e]
  rcases hu' with ⟨q, e, q1, q2, q3⟩ | ⟨p1, e, hlt, hs⟩
  · have q2' : y3 = q.1 := q2
    rw [if_neg (show ¬ y3 = 0 from fun r => q1 (q2'.symm.trans r)), e]
    exact ⟨⟨q2, q3⟩, fun _ r => by cases r⟩
  · have hs' : qS g n [] 0 p [] 0 p1 y1 y2 y3 y4 y5 y6 y7 y8 := hs
    obtain ⟨s1, s2, s3, s4, s5, s6, s7, s8, s9, s10, s11, s12⟩ := hs'
    subst s8
    subst s9
    have s5' : y5 + (p : Int) + ((0 : Nat) : Int) ≤ (p1 : Int) := s5
    have hp1 := s7.1
    obtain ⟨cd, e2⟩ := ct_0l (ce := ce) (A1 := lf_up cf (0 : Int) cod0) (A17 := y8) (A19 := y9) (xa := y1) (xe := y2) (xb := (0 : Int)) (xp := (-1 : Int)) (qn := y5) (m := y6) (o := y7) 1602 0 cod0 cs (Int.le_refl _) s6 (by omega)
    rw [if_pos rfl, e2, e]
    refine ⟨⟨rfl, rfl, s7⟩, fun q r => ⟨?_, ?_, rfl⟩⟩
    · show 0 ≤ cod0 + (y5 - 0)
      omega
    · cases r
      show cod0 + (y5 - 0) + (p : Int) ≤ cod0 + (p1 : Int)
      omega
theorem ct_0n {g : Nat → Int} {n : Nat} {vnot vand vor vall vmin vmax v1 v2 v3 v4 v5 v6 v7 v8 v9 v10 v11 v12 v13 cf ce cs qc qwt : Nat → Int} {xa xe cod0 x1 x2 x3 x4 x5 bg : Int} (hf : ¬ cf 0 = -1) : F_X10_codesTold_a0_0 xa (n : Int) xe (0 : Int) (-1 : Int) cod0 x1 x2 x3 x4 x5 g cf ce cs vnot vand vor vall vmin vmax v1 v2 v3 v4 v5 v6 v7 v8 v9 v10 v11 v12 v13 qc qwt bg = (xa, xe, (5 : Int), bg, cod0, x1, x2, x3, x4, x5, cf, qwt, qc, ce, cs) := by
  unfold F_X10_codesTold_a0_0
  rw [if_pos rfl, if_neg hf]
theorem ct_1l {ce A1 A17 A19 : Nat → Int} {xa xe xb xp qn m o : Int} : ∀ (f : Nat) (l x : Int) (A21 : Nat → Int), 0 ≤ l → l ≤ qn → qn - l < (f : Int) → ∃ cd, F_X10_codesTold_a0_1_92 ce f xa xe xb xp qn m o A1 A17 A19 l x A21 = (xa, xe, xb, xp, x + (qn - l), (1 : Int), qn, m, o, (0 : Int), A1, A17, A19, lf_up ce (1 : Int) (x + (qn - l)), cd) := by
  intro f
  induction f with
  | zero => intro l x A21 h0 h1 h2; omega
  | succ f ih =>
    intro l x A21 h0 h1 h2
    show ∃ cd, F_X10_codesTold_a0_1_92b ce (F_X10_codesTold_a0_1_92 ce f) xa xe xb xp qn m o A1 A17 A19 l x A21 = _
    unfold F_X10_codesTold_a0_1_92b
    by_cases q : qn ≤ l
    · rw [if_pos q, show x + (qn - l) = x from by omega]
      exact ⟨A21, rfl⟩
    · rw [if_neg q]
      obtain ⟨cd, e⟩ := ih (l + 1) (x + 1) (lf_up A21 x (A19 (Int.toNat l))) (by omega) (by omega) (by omega)
      rw [show x + 1 + (qn - (l + 1)) = x + (qn - l) from by omega] at e
      exact ⟨cd, e⟩
theorem ct_1 {g : Nat → Int} {n p : Nat} {vnot vand vor vall vmin vmax v1 v2 v3 v4 v5 v6 v7 v8 v9 v10 v11 v12 v13 cf ce cs qc qwt : Nat → Int} {xa xe cod0 x1 x2 x3 x4 x5 bg : Int} (c : CD) (hn : n ≤ 1600) (hq : qw v1 v2 v3 v4 v5 v6 v7 v8 v9 v10 v11 v12 v13) (hnot : wa vnot W_not) (hand : wa vand W_and) (hor : wa vor W_or) (hall : wa vall W_all) (hmin : wa vmin W_min) (hmax : wa vmax W_max) (h : mp g n p xa xe) (hc : 0 ≤ cod0) (hf : cf 1 = -1) : rm g n (sTest g n 507 6 p c).1 (F_X10_codesTold_a0_1 xa (n : Int) xe (0 : Int) (-1 : Int) cod0 x1 x2 x3 x4 x5 g cf ce cs vnot vand vor vall vmin vmax v1 v2 v3 v4 v5 v6 v7 v8 v9 v10 v11 v12 v13 qc qwt bg).1 (F_X10_codesTold_a0_1 xa (n : Int) xe (0 : Int) (-1 : Int) cod0 x1 x2 x3 x4 x5 g cf ce cs vnot vand vor vall vmin vmax v1 v2 v3 v4 v5 v6 v7 v8 v9 v10 v11 v12 v13 qc qwt bg).2.1 (F_X10_codesTold_a0_1 xa (n : Int) xe (0 : Int) (-1 : Int) cod0 x1 x2 x3 x4 x5 g cf ce cs vnot vand vor vall vmin vmax v1 v2 v3 v4 v5 v6 v7 v8 v9 v10 v11 v12 v13 qc qwt bg).2.2.1 (F_X10_codesTold_a0_1 xa (n : Int) xe (0 : Int) (-1 : Int) cod0 x1 x2 x3 x4 x5 g cf ce cs vnot vand vor vall vmin vmax v1 v2 v3 v4 v5 v6 v7 v8 v9 v10 v11 v12 v13 qc qwt bg).2.2.2.1 ∧ ∀ q, (sTest g n 507 6 p c).1 = .inr q → 0 ≤ (F_X10_codesTold_a0_1 xa (n : Int) xe (0 : Int) (-1 : Int) cod0 x1 x2 x3 x4 x5 g cf ce cs vnot vand vor vall vmin vmax v1 v2 v3 v4 v5 v6 v7 v8 v9 v10 v11 v12 v13 qc qwt bg).2.2.2.2.1 ∧ (F_X10_codesTold_a0_1 xa (n : Int) xe (0 : Int) (-1 : Int) cod0 x1 x2 x3 x4 x5 g cf ce cs vnot vand vor vall vmin vmax v1 v2 v3 v4 v5 v6 v7 v8 v9 v10 v11 v12 v13 qc qwt bg).2.2.2.2.1 + (p : Int) ≤ cod0 + (q : Int) ∧ (F_X10_codesTold_a0_1 xa (n : Int) xe (0 : Int) (-1 : Int) cod0 x1 x2 x3 x4 x5 g cf ce cs vnot vand vor vall vmin vmax v1 v2 v3 v4 v5 v6 v7 v8 v9 v10 v11 v12 v13 qc qwt bg).2.2.2.2.2.2.2.2.2.2.1 = lf_up cf (1 : Int) cod0 := by
  have hpn := h.1
  have e0 : TT g n 507 true [] 0 p = (sTest g n 507 6 p c).1 := test_eq (g := g) (al := 507) hn 6 (Nat.le_refl _) p c h.1
  rw [← e0]
  unfold F_X10_codesTold_a0_1
  rw [if_pos rfl, if_pos hf]
  have hu := q_test (al := 507) (tk := 1) hn hq hnot hand hor hall hmin hmax (Or.inr (Or.inl ⟨rfl, rfl⟩)) (cd := qc) (w := qwt) h (Nat.le_refl p)
  have hu' : qU g n [] 0 p (TT g n 507 true [] 0 p) p (F_X10_qTest xa (n : Int) xe (0 : Int) (-1 : Int) (1 : Int) (0 : Int) (0 : Int) (0 : Int) g vnot vand vor vall vmin vmax v1 v2 v3 v4 v5 v6 v7 v8 v9 v10 v11 v12 v13 qc qwt) := hu
  generalize F_X10_qTest xa (n : Int) xe (0 : Int) (-1 : Int) (1 : Int) (0 : Int) (0 : Int) (0 : Int) g vnot vand vor vall vmin vmax v1 v2 v3 v4 v5 v6 v7 v8 v9 v10 v11 v12 v13 qc qwt = R at hu' ⊢
  obtain ⟨y1, y2, y3, y4, y5, y6, y7, y8, y9⟩ := R
  rw [lf_p_e, lf_p_e, lf_p_e, lf_p_e, lf_p_e, lf_p_e, lf_p_e, lf_p_e]
  rcases hu' with ⟨q, e, q1, q2, q3⟩ | ⟨p1, e, hlt, hs⟩
  · have q2' : y3 = q.1 := q2
    rw [if_neg (show ¬ y3 = 0 from fun r => q1 (q2'.symm.trans r)), e]
    exact ⟨⟨q2, q3⟩, fun _ r => by cases r⟩
  · have hs' : qS g n [] 0 p [] 0 p1 y1 y2 y3 y4 y5 y6 y7 y8 := hs
    obtain ⟨s1, s2, s3, s4, s5, s6, s7, s8, s9, s10, s11, s12⟩ := hs'
    subst s8
    subst s9
    have s5' : y5 + (p : Int) + ((0 : Nat) : Int) ≤ (p1 : Int) := s5
    have hp1 := s7.1
    obtain ⟨cd, e2⟩ := ct_1l (ce := ce) (A1 := lf_up cf (1 : Int) cod0) (A17 := y8) (A19 := y9) (xa := y1) (xe := y2) (xb := (0 : Int)) (xp := (-1 : Int)) (qn := y5) (m := y6) (o := y7) 1602 0 cod0 cs (Int.le_refl _) s6 (by omega)
    rw [if_pos rfl, e2, e]
    refine ⟨⟨rfl, rfl, s7⟩, fun q r => ⟨?_, ?_, rfl⟩⟩
    · show 0 ≤ cod0 + (y5 - 0)
      omega
    · cases r
      show cod0 + (y5 - 0) + (p : Int) ≤ cod0 + (p1 : Int)
      omega
theorem ct_1n {g : Nat → Int} {n : Nat} {vnot vand vor vall vmin vmax v1 v2 v3 v4 v5 v6 v7 v8 v9 v10 v11 v12 v13 cf ce cs qc qwt : Nat → Int} {xa xe cod0 x1 x2 x3 x4 x5 bg : Int} (hf : ¬ cf 1 = -1) : F_X10_codesTold_a0_1 xa (n : Int) xe (0 : Int) (-1 : Int) cod0 x1 x2 x3 x4 x5 g cf ce cs vnot vand vor vall vmin vmax v1 v2 v3 v4 v5 v6 v7 v8 v9 v10 v11 v12 v13 qc qwt bg = (xa, xe, (5 : Int), bg, cod0, x1, x2, x3, x4, x5, cf, qwt, qc, ce, cs) := by
  unfold F_X10_codesTold_a0_1
  rw [if_pos rfl, if_neg hf]
theorem ct_2l {ce A1 A17 A19 : Nat → Int} {xa xe xb xp qn m o : Int} : ∀ (f : Nat) (l x : Int) (A21 : Nat → Int), 0 ≤ l → l ≤ qn → qn - l < (f : Int) → ∃ cd, F_X10_codesTold_a0_2_92 ce f xa xe xb xp qn m o A1 A17 A19 l x A21 = (xa, xe, xb, xp, x + (qn - l), (2 : Int), qn, m, o, (0 : Int), A1, A17, A19, lf_up ce (2 : Int) (x + (qn - l)), cd) := by
  intro f
  induction f with
  | zero => intro l x A21 h0 h1 h2; omega
  | succ f ih =>
    intro l x A21 h0 h1 h2
    show ∃ cd, F_X10_codesTold_a0_2_92b ce (F_X10_codesTold_a0_2_92 ce f) xa xe xb xp qn m o A1 A17 A19 l x A21 = _
    unfold F_X10_codesTold_a0_2_92b
    by_cases q : qn ≤ l
    · rw [if_pos q, show x + (qn - l) = x from by omega]
      exact ⟨A21, rfl⟩
    · rw [if_neg q]
      obtain ⟨cd, e⟩ := ih (l + 1) (x + 1) (lf_up A21 x (A19 (Int.toNat l))) (by omega) (by omega) (by omega)
      rw [show x + 1 + (qn - (l + 1)) = x + (qn - l) from by omega] at e
      exact ⟨cd, e⟩
theorem ct_2 {g : Nat → Int} {n p : Nat} {vmin vmax v1 v2 v3 v4 v5 v6 v7 v8 v9 v10 v11 v12 v13 cf ce cs qc qwt : Nat → Int} {xa xe cod0 x1 x2 x3 x4 x5 bg : Int} (c : CD) (hn : n ≤ 1600) (hq : qw v1 v2 v3 v4 v5 v6 v7 v8 v9 v10 v11 v12 v13) (hmin : wa vmin W_min) (hmax : wa vmax W_max) (h : mp g n p xa xe) (hc : 0 ≤ cod0) (hf : cf 2 = -1) : rm g n (sSum g n 123 6 p c).1 (F_X10_codesTold_a0_2 xa (n : Int) xe (0 : Int) (-1 : Int) cod0 x1 x2 x3 x4 x5 g cf ce cs vmin vmax v1 v2 v3 v4 v5 v6 v7 v8 v9 v10 v11 v12 v13 qc qwt bg).1 (F_X10_codesTold_a0_2 xa (n : Int) xe (0 : Int) (-1 : Int) cod0 x1 x2 x3 x4 x5 g cf ce cs vmin vmax v1 v2 v3 v4 v5 v6 v7 v8 v9 v10 v11 v12 v13 qc qwt bg).2.1 (F_X10_codesTold_a0_2 xa (n : Int) xe (0 : Int) (-1 : Int) cod0 x1 x2 x3 x4 x5 g cf ce cs vmin vmax v1 v2 v3 v4 v5 v6 v7 v8 v9 v10 v11 v12 v13 qc qwt bg).2.2.1 (F_X10_codesTold_a0_2 xa (n : Int) xe (0 : Int) (-1 : Int) cod0 x1 x2 x3 x4 x5 g cf ce cs vmin vmax v1 v2 v3 v4 v5 v6 v7 v8 v9 v10 v11 v12 v13 qc qwt bg).2.2.2.1 ∧ ∀ q, (sSum g n 123 6 p c).1 = .inr q → 0 ≤ (F_X10_codesTold_a0_2 xa (n : Int) xe (0 : Int) (-1 : Int) cod0 x1 x2 x3 x4 x5 g cf ce cs vmin vmax v1 v2 v3 v4 v5 v6 v7 v8 v9 v10 v11 v12 v13 qc qwt bg).2.2.2.2.1 ∧ (F_X10_codesTold_a0_2 xa (n : Int) xe (0 : Int) (-1 : Int) cod0 x1 x2 x3 x4 x5 g cf ce cs vmin vmax v1 v2 v3 v4 v5 v6 v7 v8 v9 v10 v11 v12 v13 qc qwt bg).2.2.2.2.1 + (p : Int) ≤ cod0 + (q : Int) ∧ (F_X10_codesTold_a0_2 xa (n : Int) xe (0 : Int) (-1 : Int) cod0 x1 x2 x3 x4 x5 g cf ce cs vmin vmax v1 v2 v3 v4 v5 v6 v7 v8 v9 v10 v11 v12 v13 qc qwt bg).2.2.2.2.2.2.2.2.2.2.1 = lf_up cf (2 : Int) cod0 := by
  have hpn := h.1
  have e0 : RR g n 123 true [] 0 p = (sSum g n 123 6 p c).1 := sum_eq (g := g) (al := 123) hn 6 (Nat.le_refl _) p c h.1
  rw [← e0]
  unfold F_X10_codesTold_a0_2
  rw [if_pos rfl, if_pos hf]
  have hu := q_sums (B := []) (o0 := 0) (d := p) (al := 123) (tk := 2) hn (show ¬ (1 ≤ (0 : Int) ∧ (0 : Int) ≤ 4) from by decide) hq hmin hmax (Or.inr (Or.inr (Or.inl ⟨rfl, rfl⟩))) (p := p) (cd := qc) (w := qwt) ⟨True.intro, rfl, Int.le_refl _, (by decide), (by show (0 : Int) + (p : Int) + ((0 : Nat) : Int) ≤ _; omega), Int.le_refl _, h, rfl, rfl, rfl, rfl, True.intro⟩
  have hu' : qU g n [] 0 p (RR g n 123 true [] 0 p) p (F_X10_qSums xa (n : Int) xe (0 : Int) (-1 : Int) (2 : Int) (0 : Int) (0 : Int) (0 : Int) g vmin vmax v1 v2 v3 v4 v5 v6 v7 v8 v9 v10 v11 v12 v13 qc qwt) := hu
  generalize F_X10_qSums xa (n : Int) xe (0 : Int) (-1 : Int) (2 : Int) (0 : Int) (0 : Int) (0 : Int) g vmin vmax v1 v2 v3 v4 v5 v6 v7 v8 v9 v10 v11 v12 v13 qc qwt = R at hu' ⊢
  obtain ⟨y1, y2, y3, y4, y5, y6, y7, y8, y9⟩ := R
  rw [lf_p_e, lf_p_e, lf_p_e, lf_p_e, lf_p_e, lf_p_e, lf_p_e, lf_p_e]
  rcases hu' with ⟨q, e, q1, q2, q3⟩ | ⟨p1, e, hlt, hs⟩
  · have q2' : y3 = q.1 := q2
    rw [if_neg (show ¬ y3 = 0 from fun r => q1 (q2'.symm.trans r)), e]
    exact ⟨⟨q2, q3⟩, fun _ r => by cases r⟩
  · have hs' : qS g n [] 0 p [] 0 p1 y1 y2 y3 y4 y5 y6 y7 y8 := hs
    obtain ⟨s1, s2, s3, s4, s5, s6, s7, s8, s9, s10, s11, s12⟩ := hs'
    subst s8
    subst s9
    have s5' : y5 + (p : Int) + ((0 : Nat) : Int) ≤ (p1 : Int) := s5
    have hp1 := s7.1
    obtain ⟨cd, e2⟩ := ct_2l (ce := ce) (A1 := lf_up cf (2 : Int) cod0) (A17 := y8) (A19 := y9) (xa := y1) (xe := y2) (xb := (0 : Int)) (xp := (-1 : Int)) (qn := y5) (m := y6) (o := y7) 1602 0 cod0 cs (Int.le_refl _) s6 (by omega)
    rw [if_pos rfl, e2, e]
    refine ⟨⟨rfl, rfl, s7⟩, fun q r => ⟨?_, ?_, rfl⟩⟩
    · show 0 ≤ cod0 + (y5 - 0)
      omega
    · cases r
      show cod0 + (y5 - 0) + (p : Int) ≤ cod0 + (p1 : Int)
      omega
theorem ct_2n {g : Nat → Int} {n : Nat} {vmin vmax v1 v2 v3 v4 v5 v6 v7 v8 v9 v10 v11 v12 v13 cf ce cs qc qwt : Nat → Int} {xa xe cod0 x1 x2 x3 x4 x5 bg : Int} (hf : ¬ cf 2 = -1) : F_X10_codesTold_a0_2 xa (n : Int) xe (0 : Int) (-1 : Int) cod0 x1 x2 x3 x4 x5 g cf ce cs vmin vmax v1 v2 v3 v4 v5 v6 v7 v8 v9 v10 v11 v12 v13 qc qwt bg = (xa, xe, (5 : Int), bg, cod0, x1, x2, x3, x4, x5, cf, qwt, qc, ce, cs) := by
  unfold F_X10_codesTold_a0_2
  rw [if_pos rfl, if_neg hf]
theorem kt_f {g M N kd tr : Nat → Int} {xa n xe np bg : Int} {w1 w2 w3 w4 w5 w6 w7 w8 w9 w10 w11 w12 w13 w14 w15 w16 w17 w18 w19 w20 w21 w22 w23 w24 w25 w26 w27 w28 w29 w30 : Nat → Int} (h : M 0 = 6) : F_X10_kindTold xa n xe (0 : Int) (-1 : Int) np g w1 w2 w3 w4 w5 w6 w7 w8 w9 w10 w11 w12 w13 w14 w15 w16 w17 w18 w19 w20 w21 w22 w23 w24 w25 w26 w27 w28 w29 w30 M N kd tr bg = (xa, xe, (5 : Int), bg, np, M, N, kd, tr) := by
  unfold F_X10_kindTold F_X10_isFull_a0_0_a1_6
  rw [if_pos rfl, if_pos h, lf_p_e, lf_p_e, if_neg (show ¬ (1 : Int) = 0 from by decide)]
theorem wt_f {g M N wk : Nat → Int} {xa n xe np bg : Int} {w1 w2 w3 w4 w5 w6 w7 w8 w9 w10 w11 w12 w13 w14 w15 w16 w17 w18 w19 w20 w21 w22 w23 w24 w25 w26 w27 w28 w29 w30 : Nat → Int} (h : M 1 = 12) : F_X10_walkerTold xa n xe (0 : Int) (-1 : Int) np g w1 w2 w3 w4 w5 w6 w7 w8 w9 w10 w11 w12 w13 w14 w15 w16 w17 w18 w19 w20 w21 w22 w23 w24 w25 w26 w27 w28 w29 w30 M N wk bg = (xa, xe, (5 : Int), bg, np, M, N, wk) := by
  unfold F_X10_walkerTold F_X10_isFull_a0_1_a1_12
  rw [if_pos rfl, if_pos h, lf_p_e, lf_p_e, if_neg (show ¬ (1 : Int) = 0 from by decide)]
end
section
/-! 4j -/
/-- what statementTold leaves -/
def stO (g : Nat → Int) (n : Nat) (S : ST) (st : PL) (k : Int) (O : Int × Int × Int × Int × Int × Int × Int × Int × Int × Int × Int × Int × Int × (Nat → Int) × (Nat → Int) × (Nat → Int) × (Nat → Int) × (Nat → Int) × (Nat → Int) × (Nat → Int) × (Nat → Int) × (Nat → Int) × (Nat → Int)) : Prop := rm g n S O.1 O.2.1 O.2.2.1 O.2.2.2.1 ∧ ∀ q, S = .inr q → O.2.2.2.2.2.2.2.1 = k + 1 ∧ mnm O.2.2.2.2.2.2.2.2.2.2.2.2.2.2.2.2.2.2.1 O.2.2.2.2.2.2.2.2.2.2.2.2.2.2.2.2.2.2.2.1 st.1 st.2.1 ∧ mtf O.2.2.2.2.2.2.2.2.2.2.2.2.2.1 st.2.2.1 st.2.2.2.1 st.2.2.2.2.1 ∧ 0 ≤ O.2.2.2.2.2.2.1 ∧ O.2.2.2.2.2.2.1 ≤ (q : Int)
theorem st_fin {g : Nat → Int} {n : Nat} {s : ST} {st : PL} {k ya ye yb yp np aw cod0 x1 x2 x3 x4 x5 : Int} {cf a1 a2 a3 a4 M N wk kd tr : Nat → Int} (hn : n ≤ 1600) (hv : sv n s) (h : rm g n s ya ye yb yp) (hk : 0 ≤ k ∧ k ≤ 80) (hok : ∀ q, s = .inr q → mnm M N st.1 st.2.1 ∧ mtf cf st.2.2.1 st.2.2.2.1 st.2.2.2.2.1 ∧ 0 ≤ cod0 ∧ cod0 ≤ (q : Int)) : stO g n (sb s (sp_need g n 59)) st k (lf_p (F_X10_asksSign_a0_59 ya (n : Int) yb yp g) (fun v172 t_v173 => (lf_p t_v173 (fun v173 v174 => (v172, ye, v173, v174, np, aw, cod0, (lf_o lf_iadd k (1 : Int)), x1, x2, x3, x4, x5, cf, a1, a2, a3, a4, M, N, wk, kd, tr))))) := by
  have h59 := F_X10_asksSign_a0_59_s hn hv h
  generalize F_X10_asksSign_a0_59 ya (n : Int) yb yp g = Z at h59 ⊢
  obtain ⟨z1, z2, z3⟩ := Z
  rw [lf_p_e, lf_p_e]
  refine ⟨h59, fun q e => ?_⟩
  obtain ⟨p0, e0, e1⟩ := sb_in e
  obtain ⟨k1, k2, k3, k4⟩ := hok p0 e0
  have hlt : p0 ≤ q := by
    unfold sp_need at e1
    split at e1
    · cases e1
      exact Nat.le_of_lt (tx_e_gt' (by rename_i z; have := z.1; omega))
    · cases e1
  refine ⟨lo_add (by omega) (by omega) (by omega) (by omega) (by omega) (by omega), k1, k2, k3, ?_⟩
  show cod0 ≤ (q : Int)
  omega
theorem st_1 {g M N kd tr wk cf ce cs qc qwt : Nat → Int} {n p : Nat} {xa xe np aw cod0 x1 x2 x3 x4 x5 k : Int} {Ks Ws : List (List Int)} {t0 t1 t2 : Bool} {c : CD} {w1 w2 w3 w4 w5 w6 w7 w8 w9 w10 w11 w12 w13 w14 w15 w16 w17 w18 w19 w20 w21 w22 w23 w24 w25 w26 w27 w28 w29 w30 : Nat → Int} {vnot vand vor vall vmin vmax v1 v2 v3 v4 v5 v6 v7 v8 v9 v10 v11 v12 v13 : Nat → Int} (hn : n ≤ 1600) (hm : mw w1 w2 w3 w4 w5 w6 w7 w8 w9 w10 w11 w12 w13 w14 w15 w16 w17 w18 w19 w20 w21 w22 w23 w24 w25 w26 w27 w28 w29 w30) (hq : qw v1 v2 v3 v4 v5 v6 v7 v8 v9 v10 v11 v12 v13) (hnot : wa vnot W_not) (hand : wa vand W_and) (hor : wa vor W_or) (hall : wa vall W_all) (hmin : wa vmin W_min) (hmax : wa vmax W_max) (h : mp g n p xa xe) (hN : mnm M N Ks Ws) (hf : mtf cf t0 t1 t2) (hc : 0 ≤ cod0) (hcp : cod0 ≤ (p : Int)) (hk : 0 ≤ k ∧ k < 80) : stO g n (sb (sp_st g n p (Ks, Ws, t0, t1, t2, c)).1 (sp_need g n 59)) (sp_st g n p (Ks, Ws, t0, t1, t2, c)).2 k (F_X10_statementTold (tx_a g n p : Int) (n : Int) xe (0 : Int) (-1 : Int) np aw cod0 k x1 x2 x3 x4 x5 g w1 w2 w3 w4 w5 w6 w7 w8 w9 w10 w11 w12 w13 w14 w15 w16 w17 w18 w19 w20 w21 w22 w23 w24 w25 w26 w27 w28 w29 w30 M N kd tr wk cf ce cs vnot vand vor vall vmin vmax v1 v2 v3 v4 v5 v6 v7 v8 v9 v10 v11 v12 v13 qc qwt) := by
  have h0 := mp_a h
  have hpn := h.1
  have ew : wl g n ws_0 p = wlf g n p [W_kind, W_comes, W_car, W_red, W_learns, W_away] 0 := (wlf_1 ws_0 0).symm
  have f5 : ∀ q, (.inl (5, (tx_a g n p : Int)) : ST) = .inr q → False := fun q r => by cases r
  have hv5 : sv n (.inl (5, (tx_a g n p : Int)) : ST) := sv_l (by decide)
  unfold F_X10_statementTold
  rw [if_neg (by omega)]
  rw [F_X10_takes_r4_1 hn (W := W_kind) rfl hm.2.2.2.2.1 h0]
  rw [wlf_c] at ew
  cases c0 : wh g n W_kind p with
  | true =>
    rw [c0, if_pos rfl] at ew
    have ew' : wl g n ws_0 p = 0 := ew
    have hk1 := (wh_k c0).1
    have hle := tx_e_le (f := g) hpn
    have hme := mp_tok hpn hk1 (Or.inl rfl)
    rw [if_pos rfl, lf_p_e, lf_p_e, if_neg (show ¬ (1 : Int) = 0 from by decide)]
    by_cases hl : Ks.length < 6
    · have es : sp_st g n p (Ks, Ws, t0, t1, t2, c) = ((sp_k3 g n Ks Ws p).2, (Ks ++ [wd g n (tx_e g n p)], Ws, t0, t1, t2, c)) := by
        unfold sp_st
        rw [ew', if_pos rfl]
        exact if_pos hl
      rw [es]
      have hkt := kt_1 (np := np) (bg := (tx_a g n p : Int)) (kd := kd) (tr := tr) hn hm hpn hme hN hl
      generalize F_X10_kindTold (tx_e g n p : Int) (n : Int) (tx_e g n p : Int) (0 : Int) (-1 : Int) np g w1 w2 w3 w4 w5 w6 w7 w8 w9 w10 w11 w12 w13 w14 w15 w16 w17 w18 w19 w20 w21 w22 w23 w24 w25 w26 w27 w28 w29 w30 M N kd tr (tx_a g n p : Int) = R at hkt ⊢
      obtain ⟨r1, r2, r3, r4, r5, r6, r7, r8, r9⟩ := R
      rw [lf_p_e, lf_p_e, lf_p_e, lf_p_e, lf_p_e, lf_p_e, lf_p_e, lf_p_e]
      exact st_fin hn (sp_k3_v _ _ hpn) hkt.1 (by omega) (fun q e => ⟨hkt.2 q e, hf, hc, by have h9 := (sp_k3_gt e).1; have h8 : p < tx_e g n p := tx_e_gt' (by omega); omega⟩)
    · have es : sp_st g n p (Ks, Ws, t0, t1, t2, c) = (.inl (5, (tx_a g n p : Int)), (Ks, Ws, t0, t1, t2, c)) := by
        unfold sp_st
        rw [ew', if_pos rfl]
        exact if_neg hl
      have hM : M 0 = 6 := by
        have a1 := hN.1
        have a2 := hN.2.2.2.2.2.2.1
        omega
      rw [es, kt_f hM, lf_p_e, lf_p_e, lf_p_e, lf_p_e, lf_p_e, lf_p_e, lf_p_e, lf_p_e]
      exact st_fin hn hv5 ⟨rfl, rfl⟩ (by omega) (fun q e => (f5 q e).elim)
  | false =>
    rw [c0, if_neg (show ¬ false = true from fun r => Bool.noConfusion r)] at ew
    rw [if_neg (show ¬ false = true from fun r => Bool.noConfusion r), lf_p_e, lf_p_e, if_pos rfl]
    rw [F_X10_takes_r5_1 hn (W := W_comes) rfl hm.2.2.2.2.2.2.2.2.1 h0]
    rw [wlf_c] at ew
    cases c1 : wh g n W_comes p with
    | true =>
      rw [c1, if_pos rfl] at ew
      have ew' : wl g n ws_0 p = 1 := ew
      have hk1 := (wh_k c1).1
      have hle := tx_e_le (f := g) hpn
      have hme := mp_tok hpn hk1 (Or.inl rfl)
      rw [if_pos rfl, lf_p_e, lf_p_e, if_neg (show ¬ (1 : Int) = 0 from by decide)]
      by_cases hl : Ws.length < 12
      · have es : sp_st g n p (Ks, Ws, t0, t1, t2, c) = ((sp_c3 g n Ks Ws p).2, (Ks, Ws ++ [wd g n (tx_e g n p)], t0, t1, t2, c)) := by
          unfold sp_st
          rw [ew', if_neg (show ¬ (1 : Int) = 0 from by decide), if_pos rfl]
          exact if_pos hl
        rw [es]
        have hkt := wt_1 (np := np) (bg := (tx_a g n p : Int)) (wk := wk) hn hm hpn hme hN hl
        generalize F_X10_walkerTold (tx_e g n p : Int) (n : Int) (tx_e g n p : Int) (0 : Int) (-1 : Int) np g w1 w2 w3 w4 w5 w6 w7 w8 w9 w10 w11 w12 w13 w14 w15 w16 w17 w18 w19 w20 w21 w22 w23 w24 w25 w26 w27 w28 w29 w30 M N wk (tx_a g n p : Int) = R at hkt ⊢
        obtain ⟨r1, r2, r3, r4, r5, r6, r7, r8⟩ := R
        rw [lf_p_e, lf_p_e, lf_p_e, lf_p_e, lf_p_e, lf_p_e, lf_p_e]
        exact st_fin hn (sp_c3_v _ _ hpn) hkt.1 (by omega) (fun q e => ⟨hkt.2 q e, hf, hc, by have h9 := (sp_c3_gt e).1; have h8 : p < tx_e g n p := tx_e_gt' (by omega); omega⟩)
      · have es : sp_st g n p (Ks, Ws, t0, t1, t2, c) = (.inl (5, (tx_a g n p : Int)), (Ks, Ws, t0, t1, t2, c)) := by
          unfold sp_st
          rw [ew', if_neg (show ¬ (1 : Int) = 0 from by decide), if_pos rfl]
          exact if_neg hl
        have hM : M 1 = 12 := by
          have a1 := hN.2.1
          have a2 := hN.2.2.2.2.2.2.2
          omega
        rw [es, wt_f hM, lf_p_e, lf_p_e, lf_p_e, lf_p_e, lf_p_e, lf_p_e, lf_p_e]
        exact st_fin hn hv5 ⟨rfl, rfl⟩ (by omega) (fun q e => (f5 q e).elim)
    | false =>
      rw [c1, if_neg (show ¬ false = true from fun r => Bool.noConfusion r)] at ew
      rw [if_neg (show ¬ false = true from fun r => Bool.noConfusion r), lf_p_e, lf_p_e, if_pos rfl]
      rw [F_X10_takes_1 hn (W := W_car) rfl hm.2.2.2.2.2.2.2.2.2.2.2.1 h0]
      rw [wlf_c] at ew
      cases c2 : wh g n W_car p with
      | true =>
        rw [c2, if_pos rfl] at ew
        have ew' : wl g n ws_0 p = 2 := ew
        have hk1 := (wh_k c2).1
        have hle := tx_e_le (f := g) hpn
        have hme := mp_tok hpn hk1 (Or.inl rfl)
        rw [if_pos rfl, lf_p_e, lf_p_e, if_neg (show ¬ (1 : Int) = 0 from by decide)]
        cases ht : t0 with
        | true =>
          have hcf : ¬ cf 0 = -1 := hf.1.mp ht
          have es : sp_st g n p (Ks, Ws, t0, t1, t2, c) = (.inl (5, (tx_a g n p : Int)), (Ks, Ws, t0, t1, t2, c)) := by
            unfold sp_st
            rw [ew', if_neg (show ¬ (2 : Int) = 0 from by decide), if_neg (show ¬ (2 : Int) = 1 from by decide), if_pos rfl]
            exact if_pos ht
          rw [ht] at es
          rw [es, ct_0n hcf, lf_p_e, lf_p_e, lf_p_e, lf_p_e, lf_p_e, lf_p_e, lf_p_e, lf_p_e, lf_p_e, lf_p_e, lf_p_e, lf_p_e, lf_p_e, lf_p_e]
          exact st_fin hn hv5 ⟨rfl, rfl⟩ (by omega) (fun q e => (f5 q e).elim)
        | false =>
          have hcf : cf 0 = -1 := Decidable.byContradiction (fun r => Bool.noConfusion (ht.symm.trans (hf.1.mpr r)))
          have es : sp_st g n p (Ks, Ws, t0, t1, t2, c) = ((cod g n 0 7 (tx_e g n p) c).1, (Ks, Ws, true, t1, t2, (cod g n 0 7 (tx_e g n p) c).2)) := by
            unfold sp_st
            rw [ew', if_neg (show ¬ (2 : Int) = 0 from by decide), if_neg (show ¬ (2 : Int) = 1 from by decide), if_pos rfl]
            exact if_neg (fun r => Bool.noConfusion (ht.symm.trans r))
          rw [ht] at es
          have ec : (cod g n 0 7 (tx_e g n p) c) = sTest g n 7 6 (tx_e g n p) c := if_neg (by decide)
          rw [es]
          have hct := ct_0 (cs := cs) (ce := ce) (qc := qc) (qwt := qwt) (x1 := x1) (x2 := x2) (x3 := x3) (x4 := x4) (x5 := x5) (bg := (tx_a g n p : Int)) c hn hq hnot hand hor hall hmin hmax hme hc hcf
          rw [← ec] at hct
          generalize F_X10_codesTold_a0_0 (tx_e g n p : Int) (n : Int) (tx_e g n p : Int) (0 : Int) (-1 : Int) cod0 x1 x2 x3 x4 x5 g cf ce cs vnot vand vor vall vmin vmax v1 v2 v3 v4 v5 v6 v7 v8 v9 v10 v11 v12 v13 qc qwt (tx_a g n p : Int) = R at hct ⊢
          obtain ⟨r1, r2, r3, r4, r5, r6, r7, r8, r9, r10, r11, r12, r13, r14, r15⟩ := R
          rw [lf_p_e, lf_p_e, lf_p_e, lf_p_e, lf_p_e, lf_p_e, lf_p_e, lf_p_e, lf_p_e, lf_p_e, lf_p_e, lf_p_e, lf_p_e, lf_p_e]
          refine st_fin hn (cod_ok (tx_e g n p) c hle).1 hct.1 (by omega) (fun q e => ?_)
          obtain ⟨a1, a3, a2⟩ := hct.2 q e
          have h8 : p < tx_e g n p := tx_e_gt' (by omega)
          have a2' : r11 = lf_up cf (0 : Int) cod0 := a2
          exact ⟨hN, (by rw [a2']; exact mtf_0 hf hc), a1, by have a3' : r5 + (tx_e g n p : Int) ≤ cod0 + (q : Int) := a3; show r5 ≤ (q : Int); omega⟩
      | false =>
        rw [c2, if_neg (show ¬ false = true from fun r => Bool.noConfusion r)] at ew
        rw [if_neg (show ¬ false = true from fun r => Bool.noConfusion r), lf_p_e, lf_p_e, if_pos rfl]
        rw [F_X10_takes_1 hn (W := W_red) rfl hm.2.2.2.2.2.2.2.2.2.2.2.2.1 h0]
        rw [wlf_c] at ew
        cases c3 : wh g n W_red p with
        | true =>
          rw [c3, if_pos rfl] at ew
          have ew' : wl g n ws_0 p = 3 := ew
          have hk1 := (wh_k c3).1
          have hle := tx_e_le (f := g) hpn
          have hme := mp_tok hpn hk1 (Or.inl rfl)
          rw [if_pos rfl, lf_p_e, lf_p_e, if_neg (show ¬ (1 : Int) = 0 from by decide)]
          cases ht : t1 with
          | true =>
            have hcf : ¬ cf 1 = -1 := hf.2.1.mp ht
            have es : sp_st g n p (Ks, Ws, t0, t1, t2, c) = (.inl (5, (tx_a g n p : Int)), (Ks, Ws, t0, t1, t2, c)) := by
              unfold sp_st
              rw [ew', if_neg (show ¬ (3 : Int) = 0 from by decide), if_neg (show ¬ (3 : Int) = 1 from by decide), if_neg (show ¬ (3 : Int) = 2 from by decide), if_pos rfl]
              exact if_pos ht
            rw [ht] at es
            rw [es, ct_1n hcf, lf_p_e, lf_p_e, lf_p_e, lf_p_e, lf_p_e, lf_p_e, lf_p_e, lf_p_e, lf_p_e, lf_p_e, lf_p_e, lf_p_e, lf_p_e, lf_p_e]
            exact st_fin hn hv5 ⟨rfl, rfl⟩ (by omega) (fun q e => (f5 q e).elim)
          | false =>
            have hcf : cf 1 = -1 := Decidable.byContradiction (fun r => Bool.noConfusion (ht.symm.trans (hf.2.1.mpr r)))
            have es : sp_st g n p (Ks, Ws, t0, t1, t2, c) = ((cod g n 2 507 (tx_e g n p) c).1, (Ks, Ws, t0, true, t2, (cod g n 2 507 (tx_e g n p) c).2)) := by
              unfold sp_st
              rw [ew', if_neg (show ¬ (3 : Int) = 0 from by decide), if_neg (show ¬ (3 : Int) = 1 from by decide), if_neg (show ¬ (3 : Int) = 2 from by decide), if_pos rfl]
              exact if_neg (fun r => Bool.noConfusion (ht.symm.trans r))
            rw [ht] at es
            have ec : (cod g n 2 507 (tx_e g n p) c) = sTest g n 507 6 (tx_e g n p) c := if_neg (by decide)
            rw [es]
            have hct := ct_1 (cs := cs) (ce := ce) (qc := qc) (qwt := qwt) (x1 := x1) (x2 := x2) (x3 := x3) (x4 := x4) (x5 := x5) (bg := (tx_a g n p : Int)) c hn hq hnot hand hor hall hmin hmax hme hc hcf
            rw [← ec] at hct
            generalize F_X10_codesTold_a0_1 (tx_e g n p : Int) (n : Int) (tx_e g n p : Int) (0 : Int) (-1 : Int) cod0 x1 x2 x3 x4 x5 g cf ce cs vnot vand vor vall vmin vmax v1 v2 v3 v4 v5 v6 v7 v8 v9 v10 v11 v12 v13 qc qwt (tx_a g n p : Int) = R at hct ⊢
            obtain ⟨r1, r2, r3, r4, r5, r6, r7, r8, r9, r10, r11, r12, r13, r14, r15⟩ := R
            rw [lf_p_e, lf_p_e, lf_p_e, lf_p_e, lf_p_e, lf_p_e, lf_p_e, lf_p_e, lf_p_e, lf_p_e, lf_p_e, lf_p_e, lf_p_e, lf_p_e]
            refine st_fin hn (cod_ok (tx_e g n p) c hle).1 hct.1 (by omega) (fun q e => ?_)
            obtain ⟨a1, a3, a2⟩ := hct.2 q e
            have h8 : p < tx_e g n p := tx_e_gt' (by omega)
            have a2' : r11 = lf_up cf (1 : Int) cod0 := a2
            exact ⟨hN, (by rw [a2']; exact mtf_1 hf hc), a1, by have a3' : r5 + (tx_e g n p : Int) ≤ cod0 + (q : Int) := a3; show r5 ≤ (q : Int); omega⟩
        | false =>
          rw [c3, if_neg (show ¬ false = true from fun r => Bool.noConfusion r)] at ew
          rw [if_neg (show ¬ false = true from fun r => Bool.noConfusion r), lf_p_e, lf_p_e, if_pos rfl]
          rw [F_X10_takes_r6_1 hn (W := W_learns) rfl hm.2.2.2.2.2.2.2.2.2.2.2.2.2.1 h0]
          rw [wlf_c] at ew
          cases c4 : wh g n W_learns p with
          | true =>
            rw [c4, if_pos rfl] at ew
            have ew' : wl g n ws_0 p = 4 := ew
            have hk1 := (wh_k c4).1
            have hle := tx_e_le (f := g) hpn
            have hme := mp_tok hpn hk1 (Or.inl rfl)
            rw [if_pos rfl, lf_p_e, lf_p_e, if_neg (show ¬ (1 : Int) = 0 from by decide)]
            cases ht : t2 with
            | true =>
              have hcf : ¬ cf 2 = -1 := hf.2.2.mp ht
              have es : sp_st g n p (Ks, Ws, t0, t1, t2, c) = (.inl (5, (tx_a g n p : Int)), (Ks, Ws, t0, t1, t2, c)) := by
                unfold sp_st
                rw [ew', if_neg (show ¬ (4 : Int) = 0 from by decide), if_neg (show ¬ (4 : Int) = 1 from by decide), if_neg (show ¬ (4 : Int) = 2 from by decide), if_neg (show ¬ (4 : Int) = 3 from by decide), if_pos rfl]
                exact if_pos ht
              rw [ht] at es
              rw [es, ct_2n hcf, lf_p_e, lf_p_e, lf_p_e, lf_p_e, lf_p_e, lf_p_e, lf_p_e, lf_p_e, lf_p_e, lf_p_e, lf_p_e, lf_p_e, lf_p_e, lf_p_e]
              exact st_fin hn hv5 ⟨rfl, rfl⟩ (by omega) (fun q e => (f5 q e).elim)
            | false =>
              have hcf : cf 2 = -1 := Decidable.byContradiction (fun r => Bool.noConfusion (ht.symm.trans (hf.2.2.mpr r)))
              have es : sp_st g n p (Ks, Ws, t0, t1, t2, c) = ((cod g n 4 123 (tx_e g n p) c).1, (Ks, Ws, t0, t1, true, (cod g n 4 123 (tx_e g n p) c).2)) := by
                unfold sp_st
                rw [ew', if_neg (show ¬ (4 : Int) = 0 from by decide), if_neg (show ¬ (4 : Int) = 1 from by decide), if_neg (show ¬ (4 : Int) = 2 from by decide), if_neg (show ¬ (4 : Int) = 3 from by decide), if_pos rfl]
                exact if_neg (fun r => Bool.noConfusion (ht.symm.trans r))
              rw [ht] at es
              have ec : (cod g n 4 123 (tx_e g n p) c) = sSum g n 123 6 (tx_e g n p) c := if_pos rfl
              rw [es]
              have hct := ct_2 (cs := cs) (ce := ce) (qc := qc) (qwt := qwt) (x1 := x1) (x2 := x2) (x3 := x3) (x4 := x4) (x5 := x5) (bg := (tx_a g n p : Int)) c hn hq hmin hmax hme hc hcf
              rw [← ec] at hct
              generalize F_X10_codesTold_a0_2 (tx_e g n p : Int) (n : Int) (tx_e g n p : Int) (0 : Int) (-1 : Int) cod0 x1 x2 x3 x4 x5 g cf ce cs vmin vmax v1 v2 v3 v4 v5 v6 v7 v8 v9 v10 v11 v12 v13 qc qwt (tx_a g n p : Int) = R at hct ⊢
              obtain ⟨r1, r2, r3, r4, r5, r6, r7, r8, r9, r10, r11, r12, r13, r14, r15⟩ := R
              rw [lf_p_e, lf_p_e, lf_p_e, lf_p_e, lf_p_e, lf_p_e, lf_p_e, lf_p_e, lf_p_e, lf_p_e, lf_p_e, lf_p_e, lf_p_e, lf_p_e]
              refine st_fin hn (cod_ok (tx_e g n p) c hle).1 hct.1 (by omega) (fun q e => ?_)
              obtain ⟨a1, a3, a2⟩ := hct.2 q e
              have h8 : p < tx_e g n p := tx_e_gt' (by omega)
              have a2' : r11 = lf_up cf (2 : Int) cod0 := a2
              exact ⟨hN, (by rw [a2']; exact mtf_2 hf hc), a1, by have a3' : r5 + (tx_e g n p : Int) ≤ cod0 + (q : Int) := a3; show r5 ≤ (q : Int); omega⟩
          | false =>
            rw [c4, if_neg (show ¬ false = true from fun r => Bool.noConfusion r)] at ew
            rw [if_neg (show ¬ false = true from fun r => Bool.noConfusion r), lf_p_e, lf_p_e, if_pos rfl]
            have es1 : (sp_st g n p (Ks, Ws, t0, t1, t2, c)).1 = (sp_nb g n ws_1 0 100 p).2 ∧ (sp_st g n p (Ks, Ws, t0, t1, t2, c)).2 = (Ks, Ws, t0, t1, t2, c) := by
              rw [wlf_c] at ew
              cases c5 : wh g n W_away p with
              | true =>
                rw [c5, if_pos rfl] at ew
                have ew' : wl g n ws_0 p = 5 := ew
                have es : sp_st g n p (Ks, Ws, t0, t1, t2, c) = ((sp_nb g n ws_1 0 100 p).2, (Ks, Ws, t0, t1, t2, c)) := by
                  unfold sp_st
                  rw [ew', if_neg (show ¬ (5 : Int) = 0 from by decide), if_neg (show ¬ (5 : Int) = 1 from by decide), if_neg (show ¬ (5 : Int) = 2 from by decide), if_neg (show ¬ (5 : Int) = 3 from by decide), if_neg (show ¬ (5 : Int) = 4 from by decide), if_pos rfl]
                rw [es]
                exact ⟨rfl, rfl⟩
              | false =>
                rw [c5, if_neg (show ¬ false = true from fun r => Bool.noConfusion r)] at ew
                have ew' : wl g n ws_0 p = -1 := ew
                have es : sp_st g n p (Ks, Ws, t0, t1, t2, c) = (.inl (1, (tx_a g n p : Int)), (Ks, Ws, t0, t1, t2, c)) := by
                  unfold sp_st
                  rw [ew', if_neg (show ¬ (-1 : Int) = 0 from by decide), if_neg (show ¬ (-1 : Int) = 1 from by decide), if_neg (show ¬ (-1 : Int) = 2 from by decide), if_neg (show ¬ (-1 : Int) = 3 from by decide), if_neg (show ¬ (-1 : Int) = 4 from by decide), if_neg (show ¬ (-1 : Int) = 5 from by decide)]
                rw [es]
                have e1 : sp_w g n ws_1 p = .inl (1, (tx_a g n p : Int)) := (sp_w1 W_away).trans (if_neg (fun r => Bool.noConfusion (c5.symm.trans r)))
                refine ⟨?_, rfl⟩
                unfold sp_nb
                rw [e1]
            rw [es1.1, es1.2]
            have ha := F_X10_asks_r4_s (W := W_away) (s := .inr p) (xb := 0) (xp := -1) hn rfl hm.2.2.2.2.2.2.2.2.2.2.2.2.2.2.1 hpn ⟨rfl, rfl, h0⟩
            generalize F_X10_asks_r4 (tx_a g n p : Int) (n : Int) xe (0 : Int) (-1 : Int) g w15 = R at ha ⊢
            obtain ⟨r1, r2, r3, r4⟩ := R
            rw [lf_p_e, lf_p_e, lf_p_e, F_X10_number_a0_0_a1_100_g]
            have ha' : rm g n (sp_w g n ws_1 p) r1 r2 r3 r4 := ha
            have hb := gM_s hn (sp_w_v ws_1 hpn) ha' 0 100 0
            generalize gM r1 (n : Int) r2 r3 r4 g (0 : Int) (100 : Int) = R at hb ⊢
            obtain ⟨q1, q2, q3, q4, q5⟩ := R
            rw [lf_p_e, lf_p_e, lf_p_e, lf_p_e]
            exact st_fin hn (sp_nb_v ws_1 0 100 hpn) hb.1 (by omega) (fun q e => ⟨hN, hf, hc, by have h9 := sp_nb_gt e; omega⟩)
end
section
/-! 4k -/
theorem sp_st_sv {g : Nat → Int} {n p : Nat} {st : PL} (hp : p ≤ n) : sv n (sb (sp_st g n p st).1 (sp_need g n 59)) := by
  refine sv_sb ?_ (fun _ hq => sp_need_v _ hq)
  have hle := tx_e_le (f := g) hp
  have v5 : sv n (.inl (5, (tx_a g n p : Int)) : ST) := sv_l (by decide)
  unfold sp_st
  split
  · split
    · exact sp_k3_v _ _ hp
    · exact v5
  · split
    · split
      · exact sp_c3_v _ _ hp
      · exact v5
    · split
      · split
        · exact v5
        · exact (cod_ok _ _ hle).1
      · split
        · split
          · exact v5
          · exact (cod_ok _ _ hle).1
        · split
          · split
            · exact v5
            · exact (cod_ok _ _ hle).1
          · split
            · exact sp_nb_v _ _ _ hp
            · exact sv_l (by decide)
theorem mnm_0 {M N : Nat → Int} : mnm (lf_up (lf_up M 0 0) 1 0) N [] [] := ⟨rfl, rfl, fun j hj => absurd hj (Nat.not_lt_zero j), fun j hj => absurd hj (Nat.not_lt_zero j), fun j hj => absurd hj (Nat.not_lt_zero j), fun j hj => absurd hj (Nat.not_lt_zero j), Nat.zero_le 6, Nat.zero_le 12⟩
theorem mtf_s {A : Nat → Int} : mtf (lf_up (lf_up (lf_up A 0 (-1)) 1 (-1)) 2 (-1)) false false false := ⟨⟨fun r => Bool.noConfusion r, fun r => absurd rfl r⟩, ⟨fun r => Bool.noConfusion r, fun r => absurd rfl r⟩, ⟨fun r => Bool.noConfusion r, fun r => absurd rfl r⟩⟩
theorem tx_k0 {g : Nat → Int} {n p : Nat} (h : tx_k g n p = 0) : n ≤ tx_a g n p := by
  rcases tx_k_so (g := g) (n := n) (p := p) with r | r
  · omega
  · rw [r] at h
    unfold tx_so at h
    (repeat' split at h) <;> omega
theorem tx_k0' {g : Nat → Int} {n p : Nat} (h : n ≤ tx_a g n p) : tx_k g n p = 0 := by
  have e : tx_so g n (tx_a g n p) = 0 := by
    unfold tx_so
    (repeat' split) <;> omega
  rw [tx_k_no rfl (fun r => by have := r.2.2.2; omega), e]
theorem lk_end {g : Nat → Int} {n p : Nat} (hp : p ≤ n) (hg : ∀ k, k < n → 0 ≤ g k) : lk g n p = -1 ↔ tx_k g n p = 0 := by
  unfold lk
  by_cases q : tx_a g n p < n
  · rw [if_pos q]
    have h1 := hg _ q
    have h2 : ¬ tx_k g n p = 0 := fun r => by
      have h3 := tx_k0 r
      omega
    exact ⟨fun r => by omega, fun r => absurd r h2⟩
  · rw [if_neg q]
    exact ⟨fun _ => tx_k0' (by omega), fun _ => rfl⟩
/-- what crossing answers -/
def tellM (O : Int × Int × Int × Int × Int × Int × Int × Int × Int × Int × Int × Int × Int × Int × Int × Int × Int × Int × Int × Int × (Nat → Int) × (Nat → Int) × (Nat → Int) × (Nat → Int) × (Nat → Int) × (Nat → Int) × (Nat → Int) × (Nat → Int) × (Nat → Int) × (Nat → Int) × (Nat → Int) × (Nat → Int) × (Nat → Int)) (r : Sum (Int × Int) (Nat × PL)) : Prop := match r with
  | .inl q => O.1 = -1 ∧ O.2.2.2.2.2.1 = q.1 ∧ O.2.2.2.2.2.2.1 = q.2
  | .inr x => O.1 = (x.1 : Int) ∧ O.2.2.2.2.2.1 = 0 ∧ O.2.2.2.2.2.2.1 = -1
theorem mc_loop {g refu now : Nat → Int} {n : Nat} {aw0 isc rm0 und : Int} {w1 w2 w3 w4 w5 w6 w7 w8 w9 w10 w11 w12 w13 w14 w15 w16 w17 w18 w19 w20 w21 w22 w23 w24 w25 w26 w27 w28 w29 w30 vnot vand vor vall vmin vmax v1 v2 v3 v4 v5 v6 v7 v8 v9 v10 v11 v12 v13 : Nat → Int} (hn : n ≤ 1600) (hg : ∀ k, k < n → 0 ≤ g k) (hm : mw w1 w2 w3 w4 w5 w6 w7 w8 w9 w10 w11 w12 w13 w14 w15 w16 w17 w18 w19 w20 w21 w22 w23 w24 w25 w26 w27 w28 w29 w30) (hq : qw v1 v2 v3 v4 v5 v6 v7 v8 v9 v10 v11 v12 v13) (hnot : wa vnot W_not) (hand : wa vand W_and) (hor : wa vor W_or) (hall : wa vall W_all) (hmin : wa vmin W_min) (hmax : wa vmax W_max) : ∀ (f f2 k p : Nat) (Ks Ws : List (List Int)) (t0 t1 t2 : Bool) (c : CD) (xa xe np aw cod0 x1 x2 x3 x4 x5 : Int) (M cf bar N wk kd ce cs tr qwt qc : Nat → Int), mp g n p xa xe → mnm M N Ks Ws → mtf cf t0 t1 t2 → 0 ≤ cod0 → cod0 ≤ (p : Int) → k ≤ 80 → 81 ≤ k + f → 82 ≤ k + f2 → tellM (F_X10_crossing_86 (n : Int) aw0 isc rm0 und g refu w1 w2 w3 w4 w5 w6 w7 w8 w9 w10 w11 w12 w13 w14 w15 w16 w17 w18 w19 w20 w21 w22 w23 w24 w25 w26 w27 w28 w29 w30 now vnot vand vor vall vmin vmax v1 v2 v3 v4 v5 v6 v7 v8 v9 v10 v11 v12 v13 f2 xa xe (0 : Int) (-1 : Int) M cf bar np aw cod0 (k : Int) x1 x2 x3 x4 x5 N wk kd ce cs tr qwt qc) (rcL g n f k p (Ks, Ws, t0, t1, t2, c)) := by
  intro f
  induction f with
  | zero => intro f2 k p Ks Ws t0 t1 t2 c xa xe np aw cod0 x1 x2 x3 x4 x5 M cf bar N wk kd ce cs tr qwt qc h hN hf hc hcp h1 h2; omega
  | succ f ih =>
    intro f2 k p Ks Ws t0 t1 t2 c xa xe np aw cod0 x1 x2 x3 x4 x5 M cf bar N wk kd ce cs tr qwt qc h hN hf hc hcp h1 h2 h3
    obtain ⟨f2, rfl⟩ : ∃ j, f2 = j + 2 := ⟨f2 - 2, by omega⟩
    have hpn := h.1
    show tellM (F_X10_crossing_86b (n : Int) aw0 isc rm0 und g refu w1 w2 w3 w4 w5 w6 w7 w8 w9 w10 w11 w12 w13 w14 w15 w16 w17 w18 w19 w20 w21 w22 w23 w24 w25 w26 w27 w28 w29 w30 now vnot vand vor vall vmin vmax v1 v2 v3 v4 v5 v6 v7 v8 v9 v10 v11 v12 v13 (F_X10_crossing_86 (n : Int) aw0 isc rm0 und g refu w1 w2 w3 w4 w5 w6 w7 w8 w9 w10 w11 w12 w13 w14 w15 w16 w17 w18 w19 w20 w21 w22 w23 w24 w25 w26 w27 w28 w29 w30 now vnot vand vor vall vmin vmax v1 v2 v3 v4 v5 v6 v7 v8 v9 v10 v11 v12 v13 (f2 + 1)) xa xe (0 : Int) (-1 : Int) M cf bar np aw cod0 (k : Int) x1 x2 x3 x4 x5 N wk kd ce cs tr qwt qc) _
    have flt : ∀ (q : Int × Int) (ya ye yb yp np aw cod0 kk x1 x2 x3 x4 x5 : Int) (M cf bar N wk kd ce cs tr qwt qc : Nat → Int), ¬ q.1 = 0 → yb = q.1 → yp = q.2 → tellM (F_X10_crossing_86 (n : Int) aw0 isc rm0 und g refu w1 w2 w3 w4 w5 w6 w7 w8 w9 w10 w11 w12 w13 w14 w15 w16 w17 w18 w19 w20 w21 w22 w23 w24 w25 w26 w27 w28 w29 w30 now vnot vand vor vall vmin vmax v1 v2 v3 v4 v5 v6 v7 v8 v9 v10 v11 v12 v13 (f2 + 1) ya ye yb yp M cf bar np aw cod0 kk x1 x2 x3 x4 x5 N wk kd ce cs tr qwt qc) (.inl q) := by
      intro q ya ye yb yp np aw cod0 kk x1 x2 x3 x4 x5 M cf bar N wk kd ce cs tr qwt qc h1 h2 h3
      show tellM (F_X10_crossing_86b (n : Int) aw0 isc rm0 und g refu w1 w2 w3 w4 w5 w6 w7 w8 w9 w10 w11 w12 w13 w14 w15 w16 w17 w18 w19 w20 w21 w22 w23 w24 w25 w26 w27 w28 w29 w30 now vnot vand vor vall vmin vmax v1 v2 v3 v4 v5 v6 v7 v8 v9 v10 v11 v12 v13 _ ya ye yb yp M cf bar np aw cod0 kk x1 x2 x3 x4 x5 N wk kd ce cs tr qwt qc) _
      unfold F_X10_crossing_86b
      rw [if_neg (show ¬ yb = 0 from fun r => h1 (h2.symm.trans r))]
      exact ⟨rfl, h2, h3⟩
    unfold F_X10_crossing_86b rcL
    rw [if_pos rfl, ml_look hn h, lf_p_e]
    by_cases q : tx_k g n p = 0
    · rw [if_pos ((lk_end hpn hg).mpr q), if_pos q]
      generalize F_X10_stands cod0 M N bar kd tr wk cf ce cs now = R
      obtain ⟨r1, r2, r3, r4, r5, r6, r7, r8, r9⟩ := R
      rw [lf_p_e, lf_p_e, lf_p_e, lf_p_e, lf_p_e, lf_p_e, lf_p_e, lf_p_e]
      exact ⟨rfl, rfl, rfl⟩
    · rw [if_neg (fun r => q ((lk_end hpn hg).mp r)), if_neg q]
      by_cases q8 : 80 ≤ k
      · have hk8 : (k : Int) = 80 := by omega
        unfold F_X10_statementTold
        rw [if_pos q8, if_pos hk8, lf_p_e, lf_p_e, lf_p_e, lf_p_e, lf_p_e, lf_p_e, lf_p_e, lf_p_e, lf_p_e, lf_p_e, lf_p_e, lf_p_e, lf_p_e, lf_p_e, lf_p_e, lf_p_e, lf_p_e, lf_p_e, lf_p_e, lf_p_e, lf_p_e, lf_p_e]
        exact flt (5, (tx_a g n p : Int)) _ _ _ _ _ _ _ _ _ _ _ _ _ _ _ _ _ _ _ _ _ _ _ _ (show ¬ (5 : Int) = 0 from by decide) rfl rfl
      · rw [if_neg q8]
        have hst := st_1 (M := M) (N := N) (kd := kd) (tr := tr) (wk := wk) (cf := cf) (ce := ce) (cs := cs) (qc := qc) (qwt := qwt) (np := np) (aw := aw) (cod0 := cod0) (x1 := x1) (x2 := x2) (x3 := x3) (x4 := x4) (x5 := x5) (k := (k : Int)) (c := c) hn hm hq hnot hand hor hall hmin hmax h hN hf hc hcp (by omega)
        have hsv : sv n (sb (sp_st g n p (Ks, Ws, t0, t1, t2, c)).1 (sp_need g n 59)) := sp_st_sv hpn
        generalize F_X10_statementTold (tx_a g n p : Int) (n : Int) xe (0 : Int) (-1 : Int) np aw cod0 (k : Int) x1 x2 x3 x4 x5 g w1 w2 w3 w4 w5 w6 w7 w8 w9 w10 w11 w12 w13 w14 w15 w16 w17 w18 w19 w20 w21 w22 w23 w24 w25 w26 w27 w28 w29 w30 M N kd tr wk cf ce cs vnot vand vor vall vmin vmax v1 v2 v3 v4 v5 v6 v7 v8 v9 v10 v11 v12 v13 qc qwt = R at hst ⊢
        obtain ⟨r1, r2, r3, r4, r5, r6, r7, r8, r9, r10, r11, r12, r13, r14, r15, r16, r17, r18, r19, r20, r21, r22, r23⟩ := R
        rw [lf_p_e, lf_p_e, lf_p_e, lf_p_e, lf_p_e, lf_p_e, lf_p_e, lf_p_e, lf_p_e, lf_p_e, lf_p_e, lf_p_e, lf_p_e, lf_p_e, lf_p_e, lf_p_e, lf_p_e, lf_p_e, lf_p_e, lf_p_e, lf_p_e, lf_p_e]
        obtain ⟨hr, hok⟩ := hst
        cases e : sb (sp_st g n p (Ks, Ws, t0, t1, t2, c)).1 (sp_need g n 59) with
        | inl z =>
          rw [e] at hr hsv
          exact flt z _ _ _ _ _ _ _ _ _ _ _ _ _ _ _ _ _ _ _ _ _ _ _ _ hsv hr.1 hr.2
        | inr p2 =>
          rw [e] at hr
          obtain ⟨a1, a2, a3, a4, a5⟩ := hok p2 e
          have a1' : r8 = (k : Int) + 1 := a1
          obtain ⟨b1, b2, b3⟩ := hr
          have b1' : r3 = 0 := b1
          have b2' : r4 = -1 := b2
          subst b1'
          subst b2'
          subst a1'
          show tellM _ (rcL g n f (k + 1) p2 (sp_st g n p (Ks, Ws, t0, t1, t2, c)).2)
          generalize sp_st g n p (Ks, Ws, t0, t1, t2, c) = Y at a2 a3 ⊢
          obtain ⟨Y0, K2, W2, u0, u1, u2, c2⟩ := Y
          have ek : ((k : Int) + 1) = ((k + 1 : Nat) : Int) := rfl
          rw [ek]
          exact ih (f2 + 1) (k + 1) p2 K2 W2 u0 u1 u2 c2 _ _ _ _ _ _ _ _ _ _ _ _ _ _ _ _ _ _ _ _ _ b3 a2 a3 a4 a5 (by omega) (by omega) (by omega)
/-- crossing answers as the text tells -/
theorem mc_1 {g refu now M cf bar N wk kd ce cs tr qwt qc cd : Nat → Int} {n : Nat} {np aw0 isc rm0 und x1 x2 x3 x4 x5 : Int} {w1 w2 w3 w4 w5 w6 w7 w8 w9 w10 w11 w12 w13 w14 w15 w16 w17 w18 w19 w20 w21 w22 w23 w24 w25 w26 w27 w28 w29 w30 vnot vand vor vall vmin vmax v1 v2 v3 v4 v5 v6 v7 v8 v9 v10 v11 v12 v13 : Nat → Int} (hn : n ≤ 1600) (hg : ∀ k, k < n → 0 ≤ g k) (hm : mw w1 w2 w3 w4 w5 w6 w7 w8 w9 w10 w11 w12 w13 w14 w15 w16 w17 w18 w19 w20 w21 w22 w23 w24 w25 w26 w27 w28 w29 w30) (hq : qw v1 v2 v3 v4 v5 v6 v7 v8 v9 v10 v11 v12 v13) (hnot : wa vnot W_not) (hand : wa vand W_and) (hor : wa vor W_or) (hall : wa vall W_all) (hmin : wa vmin W_min) (hmax : wa vmax W_max) : tellM (F_X10_crossing (n : Int) np aw0 isc x1 rm0 und x2 x3 x4 x5 g refu w1 w2 w3 w4 w5 w6 w7 w8 w9 w10 w11 w12 w13 w14 w15 w16 w17 w18 w19 w20 w21 w22 w23 w24 w25 w26 w27 w28 w29 w30 M N bar kd tr wk cf ce cs now vnot vand vor vall vmin vmax v1 v2 v3 v4 v5 v6 v7 v8 v9 v10 v11 v12 v13 qc qwt) (rcT g n cd) := by
  unfold F_X10_crossing
  have h0 : mp g n 0 (0 : Int) (-1 : Int) := ⟨Nat.zero_le _, ⟨0, rfl, Nat.le_refl _, Nat.zero_le _, rfl⟩, (by decide), ⟨fun r => absurd r (by decide), fun r => absurd rfl r.1⟩⟩
  have hb := bt_s (bar := bar) (s := .inr 0) (xb := 0) (xp := -1) hn hm (Nat.zero_le n) ⟨rfl, rfl, h0⟩
  have hsv : sv n (sb (sp_1d g n (.inr 0)).2 (sp_need g n 59)) := sv_sb (sp_1d_v (Nat.zero_le n)) (fun _ hp => sp_need_v _ hp)
  unfold rcT
  generalize F_X10_barTold (0 : Int) (n : Int) (-1 : Int) (0 : Int) (-1 : Int) g w1 w2 w3 w4 bar = R at hb ⊢
  obtain ⟨r1, r2, r3, r4, r5⟩ := R
  rw [lf_p_e, lf_p_e, lf_p_e, lf_p_e]
  obtain ⟨hr, _⟩ := hb
  cases e : sb (sp_1d g n (.inr 0)).2 (sp_need g n 59) with
  | inl z =>
    rw [e] at hr hsv
    show tellM (F_X10_crossing_86b (n : Int) aw0 isc rm0 und g refu w1 w2 w3 w4 w5 w6 w7 w8 w9 w10 w11 w12 w13 w14 w15 w16 w17 w18 w19 w20 w21 w22 w23 w24 w25 w26 w27 w28 w29 w30 now vnot vand vor vall vmin vmax v1 v2 v3 v4 v5 v6 v7 v8 v9 v10 v11 v12 v13 _ r1 r2 r3 r4 _ _ _ _ _ _ _ _ _ _ _ _ _ _ _ _ _ _ _ _) (.inl z)
    unfold F_X10_crossing_86b
    rw [if_neg (show ¬ r3 = 0 from fun r => hsv (hr.1.symm.trans r))]
    exact ⟨rfl, hr.1, hr.2⟩
  | inr p =>
    rw [e] at hr
    obtain ⟨b1, b2, b3⟩ := hr
    have b1' : r3 = 0 := b1
    have b2' : r4 = -1 := b2
    subst b1'
    subst b2'
    exact mc_loop hn hg hm hq hnot hand hor hall hmin hmax 81 3203 1 p [] [] false false false (0, cd) _ _ _ _ _ _ _ _ _ _ _ _ _ _ _ _ _ _ _ _ _ b3 mnm_0 mtf_s (Int.le_refl _) (by omega) (by decide) (by decide) (by decide)
end
section
/-! 4l -/
/-- what a text's reading answers -/
def ansR (r : Sum (Int × Int) (Nat × PL)) : Int := match r with
  | .inl _ => -1
  | .inr x => (x.1 : Int)
theorem rcL_v {g : Nat → Int} {n : Nat} : ∀ (f k p : Nat) (st : PL) (q : Int × Int), p ≤ n → k ≤ 80 → 81 ≤ k + f → rcL g n f k p st = .inl q → ¬ q.1 = 0 := by
  intro f
  induction f with
  | zero => intro k p st q hp h1 h2; omega
  | succ f ih =>
    intro k p st q hp h1 h2 h
    unfold rcL at h
    by_cases c : tx_k g n p = 0
    · rw [if_pos c] at h
      cases h
    · rw [if_neg c] at h
      by_cases c8 : 80 ≤ k
      · rw [if_pos c8] at h
        cases h
        show ¬ (5 : Int) = 0
        decide
      · rw [if_neg c8] at h
        have hsv : sv n (sb (sp_st g n p st).1 (sp_need g n 59)) := sp_st_sv hp
        cases e : sb (sp_st g n p st).1 (sp_need g n 59) with
        | inl z =>
          rw [e] at h hsv
          have h' : (Sum.inl z : Sum (Int × Int) (Nat × PL)) = .inl q := h
          cases h'
          exact hsv
        | inr p2 =>
          rw [e] at h hsv
          exact ih (k + 1) p2 _ q hsv (by omega) (by omega) h
theorem rcT_v {g cd : Nat → Int} {n : Nat} (q : Int × Int) (h : rcT g n cd = .inl q) : ¬ q.1 = 0 := by
  unfold rcT at h
  have hsv : sv n (sb (sp_1d g n (.inr 0)).2 (sp_need g n 59)) := sv_sb (sp_1d_v (Nat.zero_le n)) (fun _ hp => sp_need_v _ hp)
  cases e : sb (sp_1d g n (.inr 0)).2 (sp_need g n 59) with
  | inl z =>
    rw [e] at h hsv
    have h' : (Sum.inl z : Sum (Int × Int) (Nat × PL)) = .inl q := h
    cases h'
    exact hsv
  | inr p =>
    rw [e] at h hsv
    exact rcL_v 81 1 p _ q hsv (by decide) (by decide) h
theorem cx_1 {g calm pace trusts kindOf comesAt comers names code spans t rf : Nat → Int} {s x1 x2 x3 x4 al x5 x6 x7 x8 x9 x10 : Int} {pl sp : Nat} (h0 : 0 ≤ s) (h1 : s ≤ 1600) : (F_X9_crossing g s pl sp calm pace trusts kindOf comesAt comers names code spans x1 x2 x3 t x4 al x5 x6 x7 x8 x9 x10 rf).1 = ansR (rcT g s.toNat code) := by
  obtain ⟨n, rfl⟩ := Int.eq_ofNat_of_zero_le h0
  have hn : n ≤ 1600 := by omega
  rw [Int.toNat_natCast]
  have h := cl_rc (g := g) (calm := calm) (pace := pace) (trusts := trusts) (kindOf := kindOf) (comesAt := comesAt) (comers := comers) (names := names) (code := code) (spans := spans) (al := al) hn
  have hv := fun q => rcT_v (g := g) (cd := code) (n := n) q
  unfold F_X9_crossing F_X9_takeTape
  rw [lf_b_e]
  generalize F_X5_readCrossing g al calm pace trusts kindOf comesAt comers names code spans (n : Int) = R at h ⊢
  obtain ⟨r1, r2, r3, r4, r5, r6, r7, r8, r9, r10, r11, r12, r13, r14, r15, r16, r17, r18, r19, r20, r21, r22, r23, r24, r25⟩ := R
  rw [lf_p_e, lf_p_e, lf_p_e, lf_p_e, lf_p_e, lf_p_e, lf_p_e, lf_p_e, lf_p_e, lf_p_e, lf_p_e, lf_p_e, lf_p_e, lf_p_e, lf_p_e, lf_p_e, lf_p_e, lf_p_e, lf_p_e, lf_p_e, lf_p_e, lf_p_e, lf_p_e, lf_p_e]
  cases e : rcT g n code with
  | inl q =>
    rw [e] at h
    have h6 : r6 = q.1 := h.1
    rw [if_neg (show ¬ r6 = 0 from fun z => hv q e (h6.symm.trans z))]
    unfold F_X9_refuse
    rw [lf_p_e]
    rfl
  | inr x =>
    rw [e] at h
    have h6 : r6 = 0 := h.1
    rw [if_pos h6, lf_b_e, lf_b_e]
    exact h.2.2.2.2.2.2.1
theorem mx_1 {g refu now M cf bar N wk kd ce cs tr qwt qc : Nat → Int} {s np aw0 isc rm0 und x1 x2 x3 x4 x5 : Int} {w1 w2 w3 w4 w5 w6 w7 w8 w9 w10 w11 w12 w13 w14 w15 w16 w17 w18 w19 w20 w21 w22 w23 w24 w25 w26 w27 w28 w29 w30 vnot vand vor vall vmin vmax v1 v2 v3 v4 v5 v6 v7 v8 v9 v10 v11 v12 v13 : Nat → Int} (cd : Nat → Int) (h0 : 0 ≤ s) (h1 : s ≤ 1600) (hg : ∀ k, k < 1600 → 0 ≤ g k) (hm : mw w1 w2 w3 w4 w5 w6 w7 w8 w9 w10 w11 w12 w13 w14 w15 w16 w17 w18 w19 w20 w21 w22 w23 w24 w25 w26 w27 w28 w29 w30) (hq : qw v1 v2 v3 v4 v5 v6 v7 v8 v9 v10 v11 v12 v13) (hnot : wa vnot W_not) (hand : wa vand W_and) (hor : wa vor W_or) (hall : wa vall W_all) (hmin : wa vmin W_min) (hmax : wa vmax W_max) : (F_X10_crossing s np aw0 isc x1 rm0 und x2 x3 x4 x5 g refu w1 w2 w3 w4 w5 w6 w7 w8 w9 w10 w11 w12 w13 w14 w15 w16 w17 w18 w19 w20 w21 w22 w23 w24 w25 w26 w27 w28 w29 w30 M N bar kd tr wk cf ce cs now vnot vand vor vall vmin vmax v1 v2 v3 v4 v5 v6 v7 v8 v9 v10 v11 v12 v13 qc qwt).1 = ansR (rcT g s.toNat cd) := by
  obtain ⟨n, rfl⟩ := Int.eq_ofNat_of_zero_le h0
  have hn : n ≤ 1600 := by omega
  rw [Int.toNat_natCast]
  have h := mc_1 (np := np) (aw0 := aw0) (isc := isc) (rm0 := rm0) (und := und) (x1 := x1) (x2 := x2) (x3 := x3) (x4 := x4) (x5 := x5) (refu := refu) (now := now) (M := M) (cf := cf) (bar := bar) (N := N) (wk := wk) (kd := kd) (ce := ce) (cs := cs) (tr := tr) (qwt := qwt) (qc := qc) (cd := cd) hn (fun k hk => hg k (by omega)) hm hq hnot hand hor hall hmin hmax
  cases e : rcT g n cd with
  | inl q =>
    rw [e] at h
    exact h.1
  | inr x =>
    rw [e] at h
    exact h.1
/-- the tape behind feed -/
def fdT (g : Nat → Int) (s p0 p1 p2 p3 p4 : Int) : Nat → Int := if (s + (20 : Int)) ≤ (1600 : Int) then (lf_up (lf_up (lf_up (lf_up (lf_up (lf_up (lf_up (lf_up (lf_up (lf_up (lf_up (lf_up (lf_up (lf_up (lf_up (lf_up (lf_up (lf_up (lf_up (lf_up g s (lf_o lf_iand (lf_o lf_ishr p0 (24 : Int)) (255 : Int))) (s + (1 : Int)) (lf_o lf_iand (lf_o lf_ishr p0 (16 : Int)) (255 : Int))) ((s + (1 : Int)) + (1 : Int)) (lf_o lf_iand (lf_o lf_ishr p0 (8 : Int)) (255 : Int))) (((s + (1 : Int)) + (1 : Int)) + (1 : Int)) (lf_o lf_iand (lf_o lf_ishr p0 (0 : Int)) (255 : Int))) ((((s + (1 : Int)) + (1 : Int)) + (1 : Int)) + (1 : Int)) (lf_o lf_iand (lf_o lf_ishr p1 (24 : Int)) (255 : Int))) (((((s + (1 : Int)) + (1 : Int)) + (1 : Int)) + (1 : Int)) + (1 : Int)) (lf_o lf_iand (lf_o lf_ishr p1 (16 : Int)) (255 : Int))) ((((((s + (1 : Int)) + (1 : Int)) + (1 : Int)) + (1 : Int)) + (1 : Int)) + (1 : Int)) (lf_o lf_iand (lf_o lf_ishr p1 (8 : Int)) (255 : Int))) (((((((s + (1 : Int)) + (1 : Int)) + (1 : Int)) + (1 : Int)) + (1 : Int)) + (1 : Int)) + (1 : Int)) (lf_o lf_iand (lf_o lf_ishr p1 (0 : Int)) (255 : Int))) ((((((((s + (1 : Int)) + (1 : Int)) + (1 : Int)) + (1 : Int)) + (1 : Int)) + (1 : Int)) + (1 : Int)) + (1 : Int)) (lf_o lf_iand (lf_o lf_ishr p2 (24 : Int)) (255 : Int))) (((((((((s + (1 : Int)) + (1 : Int)) + (1 : Int)) + (1 : Int)) + (1 : Int)) + (1 : Int)) + (1 : Int)) + (1 : Int)) + (1 : Int)) (lf_o lf_iand (lf_o lf_ishr p2 (16 : Int)) (255 : Int))) ((((((((((s + (1 : Int)) + (1 : Int)) + (1 : Int)) + (1 : Int)) + (1 : Int)) + (1 : Int)) + (1 : Int)) + (1 : Int)) + (1 : Int)) + (1 : Int)) (lf_o lf_iand (lf_o lf_ishr p2 (8 : Int)) (255 : Int))) (((((((((((s + (1 : Int)) + (1 : Int)) + (1 : Int)) + (1 : Int)) + (1 : Int)) + (1 : Int)) + (1 : Int)) + (1 : Int)) + (1 : Int)) + (1 : Int)) + (1 : Int)) (lf_o lf_iand (lf_o lf_ishr p2 (0 : Int)) (255 : Int))) ((((((((((((s + (1 : Int)) + (1 : Int)) + (1 : Int)) + (1 : Int)) + (1 : Int)) + (1 : Int)) + (1 : Int)) + (1 : Int)) + (1 : Int)) + (1 : Int)) + (1 : Int)) + (1 : Int)) (lf_o lf_iand (lf_o lf_ishr p3 (24 : Int)) (255 : Int))) (((((((((((((s + (1 : Int)) + (1 : Int)) + (1 : Int)) + (1 : Int)) + (1 : Int)) + (1 : Int)) + (1 : Int)) + (1 : Int)) + (1 : Int)) + (1 : Int)) + (1 : Int)) + (1 : Int)) + (1 : Int)) (lf_o lf_iand (lf_o lf_ishr p3 (16 : Int)) (255 : Int))) ((((((((((((((s + (1 : Int)) + (1 : Int)) + (1 : Int)) + (1 : Int)) + (1 : Int)) + (1 : Int)) + (1 : Int)) + (1 : Int)) + (1 : Int)) + (1 : Int)) + (1 : Int)) + (1 : Int)) + (1 : Int)) + (1 : Int)) (lf_o lf_iand (lf_o lf_ishr p3 (8 : Int)) (255 : Int))) (((((((((((((((s + (1 : Int)) + (1 : Int)) + (1 : Int)) + (1 : Int)) + (1 : Int)) + (1 : Int)) + (1 : Int)) + (1 : Int)) + (1 : Int)) + (1 : Int)) + (1 : Int)) + (1 : Int)) + (1 : Int)) + (1 : Int)) + (1 : Int)) (lf_o lf_iand (lf_o lf_ishr p3 (0 : Int)) (255 : Int))) ((((((((((((((((s + (1 : Int)) + (1 : Int)) + (1 : Int)) + (1 : Int)) + (1 : Int)) + (1 : Int)) + (1 : Int)) + (1 : Int)) + (1 : Int)) + (1 : Int)) + (1 : Int)) + (1 : Int)) + (1 : Int)) + (1 : Int)) + (1 : Int)) + (1 : Int)) (lf_o lf_iand (lf_o lf_ishr p4 (24 : Int)) (255 : Int))) (((((((((((((((((s + (1 : Int)) + (1 : Int)) + (1 : Int)) + (1 : Int)) + (1 : Int)) + (1 : Int)) + (1 : Int)) + (1 : Int)) + (1 : Int)) + (1 : Int)) + (1 : Int)) + (1 : Int)) + (1 : Int)) + (1 : Int)) + (1 : Int)) + (1 : Int)) + (1 : Int)) (lf_o lf_iand (lf_o lf_ishr p4 (16 : Int)) (255 : Int))) ((((((((((((((((((s + (1 : Int)) + (1 : Int)) + (1 : Int)) + (1 : Int)) + (1 : Int)) + (1 : Int)) + (1 : Int)) + (1 : Int)) + (1 : Int)) + (1 : Int)) + (1 : Int)) + (1 : Int)) + (1 : Int)) + (1 : Int)) + (1 : Int)) + (1 : Int)) + (1 : Int)) + (1 : Int)) (lf_o lf_iand (lf_o lf_ishr p4 (8 : Int)) (255 : Int))) (((((((((((((((((((s + (1 : Int)) + (1 : Int)) + (1 : Int)) + (1 : Int)) + (1 : Int)) + (1 : Int)) + (1 : Int)) + (1 : Int)) + (1 : Int)) + (1 : Int)) + (1 : Int)) + (1 : Int)) + (1 : Int)) + (1 : Int)) + (1 : Int)) + (1 : Int)) + (1 : Int)) + (1 : Int)) + (1 : Int)) (lf_o lf_iand (lf_o lf_ishr p4 (0 : Int)) (255 : Int))) else g
theorem fx_1 {g rf : Nat → Int} {s p0 p1 p2 p3 p4 : Int} : (F_X9_feed g s rf p0 p1 p2 p3 p4).2.2.1 = fdT g s p0 p1 p2 p3 p4 := by
  unfold F_X9_feed fdT
  by_cases q : (s + (20 : Int)) ≤ (1600 : Int)
  · rw [if_pos q, if_pos q]
    unfold F_X9_putBytes_f_0_1580 F_X9_putBytes_f_0_1584 F_X9_putBytes_f_0_1588 F_X9_putBytes_f_0_1592 F_X9_putBytes_f_0_1596
    rw [lf_p_e, lf_p_e, lf_p_e, lf_p_e, lf_p_e]
  · rw [if_neg q, if_neg q]
    unfold F_X9_refuse
    rw [lf_p_e]
theorem fd_0 {k : Nat} {rf A : Nat → Int} {c p0 p1 p2 p3 p4 : Int} : F_X10_feed_28 rf p0 p1 p2 p3 p4 (k + 21) (0 : Int) c A = F_X10_feed_28 rf p0 p1 p2 p3 p4 (k + 20) (1 : Int) (c + (1 : Int)) (lf_up A c (lf_o lf_iand (lf_o lf_ishr p0 (24 : Int)) (255 : Int))) := by
  show F_X10_feed_28b rf p0 p1 p2 p3 p4 (F_X10_feed_28 rf p0 p1 p2 p3 p4 (k + 20)) (0 : Int) c A = _
  unfold F_X10_feed_28b F_X10_feed_81
  rw [if_neg (show ¬ (20 : Int) ≤ 0 from by decide), if_neg (show ¬ (4 : Int) ≤ 0 from by decide), show ((8 : Int) * ((3 : Int) - (lf_o lf_irem (0 : Int) (4 : Int)))) = 24 from by decide, show ((0 : Int) + (1 : Int)) = 1 from by decide]
theorem fd_1 {k : Nat} {rf A : Nat → Int} {c p0 p1 p2 p3 p4 : Int} : F_X10_feed_28 rf p0 p1 p2 p3 p4 (k + 20) (1 : Int) c A = F_X10_feed_28 rf p0 p1 p2 p3 p4 (k + 19) (2 : Int) (c + (1 : Int)) (lf_up A c (lf_o lf_iand (lf_o lf_ishr p0 (16 : Int)) (255 : Int))) := by
  show F_X10_feed_28b rf p0 p1 p2 p3 p4 (F_X10_feed_28 rf p0 p1 p2 p3 p4 (k + 19)) (1 : Int) c A = _
  unfold F_X10_feed_28b F_X10_feed_81
  rw [if_neg (show ¬ (20 : Int) ≤ 1 from by decide), if_neg (show ¬ (4 : Int) ≤ 1 from by decide), show ((8 : Int) * ((3 : Int) - (lf_o lf_irem (1 : Int) (4 : Int)))) = 16 from by decide, show ((1 : Int) + (1 : Int)) = 2 from by decide]
theorem fd_2 {k : Nat} {rf A : Nat → Int} {c p0 p1 p2 p3 p4 : Int} : F_X10_feed_28 rf p0 p1 p2 p3 p4 (k + 19) (2 : Int) c A = F_X10_feed_28 rf p0 p1 p2 p3 p4 (k + 18) (3 : Int) (c + (1 : Int)) (lf_up A c (lf_o lf_iand (lf_o lf_ishr p0 (8 : Int)) (255 : Int))) := by
  show F_X10_feed_28b rf p0 p1 p2 p3 p4 (F_X10_feed_28 rf p0 p1 p2 p3 p4 (k + 18)) (2 : Int) c A = _
  unfold F_X10_feed_28b F_X10_feed_81
  rw [if_neg (show ¬ (20 : Int) ≤ 2 from by decide), if_neg (show ¬ (4 : Int) ≤ 2 from by decide), show ((8 : Int) * ((3 : Int) - (lf_o lf_irem (2 : Int) (4 : Int)))) = 8 from by decide, show ((2 : Int) + (1 : Int)) = 3 from by decide]
theorem fd_3 {k : Nat} {rf A : Nat → Int} {c p0 p1 p2 p3 p4 : Int} : F_X10_feed_28 rf p0 p1 p2 p3 p4 (k + 18) (3 : Int) c A = F_X10_feed_28 rf p0 p1 p2 p3 p4 (k + 17) (4 : Int) (c + (1 : Int)) (lf_up A c (lf_o lf_iand (lf_o lf_ishr p0 (0 : Int)) (255 : Int))) := by
  show F_X10_feed_28b rf p0 p1 p2 p3 p4 (F_X10_feed_28 rf p0 p1 p2 p3 p4 (k + 17)) (3 : Int) c A = _
  unfold F_X10_feed_28b F_X10_feed_81
  rw [if_neg (show ¬ (20 : Int) ≤ 3 from by decide), if_neg (show ¬ (4 : Int) ≤ 3 from by decide), show ((8 : Int) * ((3 : Int) - (lf_o lf_irem (3 : Int) (4 : Int)))) = 0 from by decide, show ((3 : Int) + (1 : Int)) = 4 from by decide]
theorem fd_4 {k : Nat} {rf A : Nat → Int} {c p0 p1 p2 p3 p4 : Int} : F_X10_feed_28 rf p0 p1 p2 p3 p4 (k + 17) (4 : Int) c A = F_X10_feed_28 rf p0 p1 p2 p3 p4 (k + 16) (5 : Int) (c + (1 : Int)) (lf_up A c (lf_o lf_iand (lf_o lf_ishr p1 (24 : Int)) (255 : Int))) := by
  show F_X10_feed_28b rf p0 p1 p2 p3 p4 (F_X10_feed_28 rf p0 p1 p2 p3 p4 (k + 16)) (4 : Int) c A = _
  unfold F_X10_feed_28b F_X10_feed_81
  rw [if_neg (show ¬ (20 : Int) ≤ 4 from by decide), if_pos (show (4 : Int) ≤ 4 from by decide), if_neg (show ¬ (8 : Int) ≤ 4 from by decide), show ((8 : Int) * ((3 : Int) - (lf_o lf_irem (4 : Int) (4 : Int)))) = 24 from by decide, show ((4 : Int) + (1 : Int)) = 5 from by decide]
theorem fd_5 {k : Nat} {rf A : Nat → Int} {c p0 p1 p2 p3 p4 : Int} : F_X10_feed_28 rf p0 p1 p2 p3 p4 (k + 16) (5 : Int) c A = F_X10_feed_28 rf p0 p1 p2 p3 p4 (k + 15) (6 : Int) (c + (1 : Int)) (lf_up A c (lf_o lf_iand (lf_o lf_ishr p1 (16 : Int)) (255 : Int))) := by
  show F_X10_feed_28b rf p0 p1 p2 p3 p4 (F_X10_feed_28 rf p0 p1 p2 p3 p4 (k + 15)) (5 : Int) c A = _
  unfold F_X10_feed_28b F_X10_feed_81
  rw [if_neg (show ¬ (20 : Int) ≤ 5 from by decide), if_pos (show (4 : Int) ≤ 5 from by decide), if_neg (show ¬ (8 : Int) ≤ 5 from by decide), show ((8 : Int) * ((3 : Int) - (lf_o lf_irem (5 : Int) (4 : Int)))) = 16 from by decide, show ((5 : Int) + (1 : Int)) = 6 from by decide]
theorem fd_6 {k : Nat} {rf A : Nat → Int} {c p0 p1 p2 p3 p4 : Int} : F_X10_feed_28 rf p0 p1 p2 p3 p4 (k + 15) (6 : Int) c A = F_X10_feed_28 rf p0 p1 p2 p3 p4 (k + 14) (7 : Int) (c + (1 : Int)) (lf_up A c (lf_o lf_iand (lf_o lf_ishr p1 (8 : Int)) (255 : Int))) := by
  show F_X10_feed_28b rf p0 p1 p2 p3 p4 (F_X10_feed_28 rf p0 p1 p2 p3 p4 (k + 14)) (6 : Int) c A = _
  unfold F_X10_feed_28b F_X10_feed_81
  rw [if_neg (show ¬ (20 : Int) ≤ 6 from by decide), if_pos (show (4 : Int) ≤ 6 from by decide), if_neg (show ¬ (8 : Int) ≤ 6 from by decide), show ((8 : Int) * ((3 : Int) - (lf_o lf_irem (6 : Int) (4 : Int)))) = 8 from by decide, show ((6 : Int) + (1 : Int)) = 7 from by decide]
theorem fd_7 {k : Nat} {rf A : Nat → Int} {c p0 p1 p2 p3 p4 : Int} : F_X10_feed_28 rf p0 p1 p2 p3 p4 (k + 14) (7 : Int) c A = F_X10_feed_28 rf p0 p1 p2 p3 p4 (k + 13) (8 : Int) (c + (1 : Int)) (lf_up A c (lf_o lf_iand (lf_o lf_ishr p1 (0 : Int)) (255 : Int))) := by
  show F_X10_feed_28b rf p0 p1 p2 p3 p4 (F_X10_feed_28 rf p0 p1 p2 p3 p4 (k + 13)) (7 : Int) c A = _
  unfold F_X10_feed_28b F_X10_feed_81
  rw [if_neg (show ¬ (20 : Int) ≤ 7 from by decide), if_pos (show (4 : Int) ≤ 7 from by decide), if_neg (show ¬ (8 : Int) ≤ 7 from by decide), show ((8 : Int) * ((3 : Int) - (lf_o lf_irem (7 : Int) (4 : Int)))) = 0 from by decide, show ((7 : Int) + (1 : Int)) = 8 from by decide]
theorem fd_8 {k : Nat} {rf A : Nat → Int} {c p0 p1 p2 p3 p4 : Int} : F_X10_feed_28 rf p0 p1 p2 p3 p4 (k + 13) (8 : Int) c A = F_X10_feed_28 rf p0 p1 p2 p3 p4 (k + 12) (9 : Int) (c + (1 : Int)) (lf_up A c (lf_o lf_iand (lf_o lf_ishr p2 (24 : Int)) (255 : Int))) := by
  show F_X10_feed_28b rf p0 p1 p2 p3 p4 (F_X10_feed_28 rf p0 p1 p2 p3 p4 (k + 12)) (8 : Int) c A = _
  unfold F_X10_feed_28b F_X10_feed_81
  rw [if_neg (show ¬ (20 : Int) ≤ 8 from by decide), if_pos (show (4 : Int) ≤ 8 from by decide), if_pos (show (8 : Int) ≤ 8 from by decide), if_neg (show ¬ (12 : Int) ≤ 8 from by decide), show ((8 : Int) * ((3 : Int) - (lf_o lf_irem (8 : Int) (4 : Int)))) = 24 from by decide, show ((8 : Int) + (1 : Int)) = 9 from by decide]
theorem fd_9 {k : Nat} {rf A : Nat → Int} {c p0 p1 p2 p3 p4 : Int} : F_X10_feed_28 rf p0 p1 p2 p3 p4 (k + 12) (9 : Int) c A = F_X10_feed_28 rf p0 p1 p2 p3 p4 (k + 11) (10 : Int) (c + (1 : Int)) (lf_up A c (lf_o lf_iand (lf_o lf_ishr p2 (16 : Int)) (255 : Int))) := by
  show F_X10_feed_28b rf p0 p1 p2 p3 p4 (F_X10_feed_28 rf p0 p1 p2 p3 p4 (k + 11)) (9 : Int) c A = _
  unfold F_X10_feed_28b F_X10_feed_81
  rw [if_neg (show ¬ (20 : Int) ≤ 9 from by decide), if_pos (show (4 : Int) ≤ 9 from by decide), if_pos (show (8 : Int) ≤ 9 from by decide), if_neg (show ¬ (12 : Int) ≤ 9 from by decide), show ((8 : Int) * ((3 : Int) - (lf_o lf_irem (9 : Int) (4 : Int)))) = 16 from by decide, show ((9 : Int) + (1 : Int)) = 10 from by decide]
theorem fd_10 {k : Nat} {rf A : Nat → Int} {c p0 p1 p2 p3 p4 : Int} : F_X10_feed_28 rf p0 p1 p2 p3 p4 (k + 11) (10 : Int) c A = F_X10_feed_28 rf p0 p1 p2 p3 p4 (k + 10) (11 : Int) (c + (1 : Int)) (lf_up A c (lf_o lf_iand (lf_o lf_ishr p2 (8 : Int)) (255 : Int))) := by
  show F_X10_feed_28b rf p0 p1 p2 p3 p4 (F_X10_feed_28 rf p0 p1 p2 p3 p4 (k + 10)) (10 : Int) c A = _
  unfold F_X10_feed_28b F_X10_feed_81
  rw [if_neg (show ¬ (20 : Int) ≤ 10 from by decide), if_pos (show (4 : Int) ≤ 10 from by decide), if_pos (show (8 : Int) ≤ 10 from by decide), if_neg (show ¬ (12 : Int) ≤ 10 from by decide), show ((8 : Int) * ((3 : Int) - (lf_o lf_irem (10 : Int) (4 : Int)))) = 8 from by decide, show ((10 : Int) + (1 : Int)) = 11 from by decide]
theorem fd_11 {k : Nat} {rf A : Nat → Int} {c p0 p1 p2 p3 p4 : Int} : F_X10_feed_28 rf p0 p1 p2 p3 p4 (k + 10) (11 : Int) c A = F_X10_feed_28 rf p0 p1 p2 p3 p4 (k + 9) (12 : Int) (c + (1 : Int)) (lf_up A c (lf_o lf_iand (lf_o lf_ishr p2 (0 : Int)) (255 : Int))) := by
  show F_X10_feed_28b rf p0 p1 p2 p3 p4 (F_X10_feed_28 rf p0 p1 p2 p3 p4 (k + 9)) (11 : Int) c A = _
  unfold F_X10_feed_28b F_X10_feed_81
  rw [if_neg (show ¬ (20 : Int) ≤ 11 from by decide), if_pos (show (4 : Int) ≤ 11 from by decide), if_pos (show (8 : Int) ≤ 11 from by decide), if_neg (show ¬ (12 : Int) ≤ 11 from by decide), show ((8 : Int) * ((3 : Int) - (lf_o lf_irem (11 : Int) (4 : Int)))) = 0 from by decide, show ((11 : Int) + (1 : Int)) = 12 from by decide]
theorem fd_12 {k : Nat} {rf A : Nat → Int} {c p0 p1 p2 p3 p4 : Int} : F_X10_feed_28 rf p0 p1 p2 p3 p4 (k + 9) (12 : Int) c A = F_X10_feed_28 rf p0 p1 p2 p3 p4 (k + 8) (13 : Int) (c + (1 : Int)) (lf_up A c (lf_o lf_iand (lf_o lf_ishr p3 (24 : Int)) (255 : Int))) := by
  show F_X10_feed_28b rf p0 p1 p2 p3 p4 (F_X10_feed_28 rf p0 p1 p2 p3 p4 (k + 8)) (12 : Int) c A = _
  unfold F_X10_feed_28b F_X10_feed_81
  rw [if_neg (show ¬ (20 : Int) ≤ 12 from by decide), if_pos (show (4 : Int) ≤ 12 from by decide), if_pos (show (8 : Int) ≤ 12 from by decide), if_pos (show (12 : Int) ≤ 12 from by decide), if_neg (show ¬ (16 : Int) ≤ 12 from by decide), show ((8 : Int) * ((3 : Int) - (lf_o lf_irem (12 : Int) (4 : Int)))) = 24 from by decide, show ((12 : Int) + (1 : Int)) = 13 from by decide]
theorem fd_13 {k : Nat} {rf A : Nat → Int} {c p0 p1 p2 p3 p4 : Int} : F_X10_feed_28 rf p0 p1 p2 p3 p4 (k + 8) (13 : Int) c A = F_X10_feed_28 rf p0 p1 p2 p3 p4 (k + 7) (14 : Int) (c + (1 : Int)) (lf_up A c (lf_o lf_iand (lf_o lf_ishr p3 (16 : Int)) (255 : Int))) := by
  show F_X10_feed_28b rf p0 p1 p2 p3 p4 (F_X10_feed_28 rf p0 p1 p2 p3 p4 (k + 7)) (13 : Int) c A = _
  unfold F_X10_feed_28b F_X10_feed_81
  rw [if_neg (show ¬ (20 : Int) ≤ 13 from by decide), if_pos (show (4 : Int) ≤ 13 from by decide), if_pos (show (8 : Int) ≤ 13 from by decide), if_pos (show (12 : Int) ≤ 13 from by decide), if_neg (show ¬ (16 : Int) ≤ 13 from by decide), show ((8 : Int) * ((3 : Int) - (lf_o lf_irem (13 : Int) (4 : Int)))) = 16 from by decide, show ((13 : Int) + (1 : Int)) = 14 from by decide]
theorem fd_14 {k : Nat} {rf A : Nat → Int} {c p0 p1 p2 p3 p4 : Int} : F_X10_feed_28 rf p0 p1 p2 p3 p4 (k + 7) (14 : Int) c A = F_X10_feed_28 rf p0 p1 p2 p3 p4 (k + 6) (15 : Int) (c + (1 : Int)) (lf_up A c (lf_o lf_iand (lf_o lf_ishr p3 (8 : Int)) (255 : Int))) := by
  show F_X10_feed_28b rf p0 p1 p2 p3 p4 (F_X10_feed_28 rf p0 p1 p2 p3 p4 (k + 6)) (14 : Int) c A = _
  unfold F_X10_feed_28b F_X10_feed_81
  rw [if_neg (show ¬ (20 : Int) ≤ 14 from by decide), if_pos (show (4 : Int) ≤ 14 from by decide), if_pos (show (8 : Int) ≤ 14 from by decide), if_pos (show (12 : Int) ≤ 14 from by decide), if_neg (show ¬ (16 : Int) ≤ 14 from by decide), show ((8 : Int) * ((3 : Int) - (lf_o lf_irem (14 : Int) (4 : Int)))) = 8 from by decide, show ((14 : Int) + (1 : Int)) = 15 from by decide]
theorem fd_15 {k : Nat} {rf A : Nat → Int} {c p0 p1 p2 p3 p4 : Int} : F_X10_feed_28 rf p0 p1 p2 p3 p4 (k + 6) (15 : Int) c A = F_X10_feed_28 rf p0 p1 p2 p3 p4 (k + 5) (16 : Int) (c + (1 : Int)) (lf_up A c (lf_o lf_iand (lf_o lf_ishr p3 (0 : Int)) (255 : Int))) := by
  show F_X10_feed_28b rf p0 p1 p2 p3 p4 (F_X10_feed_28 rf p0 p1 p2 p3 p4 (k + 5)) (15 : Int) c A = _
  unfold F_X10_feed_28b F_X10_feed_81
  rw [if_neg (show ¬ (20 : Int) ≤ 15 from by decide), if_pos (show (4 : Int) ≤ 15 from by decide), if_pos (show (8 : Int) ≤ 15 from by decide), if_pos (show (12 : Int) ≤ 15 from by decide), if_neg (show ¬ (16 : Int) ≤ 15 from by decide), show ((8 : Int) * ((3 : Int) - (lf_o lf_irem (15 : Int) (4 : Int)))) = 0 from by decide, show ((15 : Int) + (1 : Int)) = 16 from by decide]
theorem fd_16 {k : Nat} {rf A : Nat → Int} {c p0 p1 p2 p3 p4 : Int} : F_X10_feed_28 rf p0 p1 p2 p3 p4 (k + 5) (16 : Int) c A = F_X10_feed_28 rf p0 p1 p2 p3 p4 (k + 4) (17 : Int) (c + (1 : Int)) (lf_up A c (lf_o lf_iand (lf_o lf_ishr p4 (24 : Int)) (255 : Int))) := by
  show F_X10_feed_28b rf p0 p1 p2 p3 p4 (F_X10_feed_28 rf p0 p1 p2 p3 p4 (k + 4)) (16 : Int) c A = _
  unfold F_X10_feed_28b F_X10_feed_81
  rw [if_neg (show ¬ (20 : Int) ≤ 16 from by decide), if_pos (show (4 : Int) ≤ 16 from by decide), if_pos (show (8 : Int) ≤ 16 from by decide), if_pos (show (12 : Int) ≤ 16 from by decide), if_pos (show (16 : Int) ≤ 16 from by decide), show ((8 : Int) * ((3 : Int) - (lf_o lf_irem (16 : Int) (4 : Int)))) = 24 from by decide, show ((16 : Int) + (1 : Int)) = 17 from by decide]
theorem fd_17 {k : Nat} {rf A : Nat → Int} {c p0 p1 p2 p3 p4 : Int} : F_X10_feed_28 rf p0 p1 p2 p3 p4 (k + 4) (17 : Int) c A = F_X10_feed_28 rf p0 p1 p2 p3 p4 (k + 3) (18 : Int) (c + (1 : Int)) (lf_up A c (lf_o lf_iand (lf_o lf_ishr p4 (16 : Int)) (255 : Int))) := by
  show F_X10_feed_28b rf p0 p1 p2 p3 p4 (F_X10_feed_28 rf p0 p1 p2 p3 p4 (k + 3)) (17 : Int) c A = _
  unfold F_X10_feed_28b F_X10_feed_81
  rw [if_neg (show ¬ (20 : Int) ≤ 17 from by decide), if_pos (show (4 : Int) ≤ 17 from by decide), if_pos (show (8 : Int) ≤ 17 from by decide), if_pos (show (12 : Int) ≤ 17 from by decide), if_pos (show (16 : Int) ≤ 17 from by decide), show ((8 : Int) * ((3 : Int) - (lf_o lf_irem (17 : Int) (4 : Int)))) = 16 from by decide, show ((17 : Int) + (1 : Int)) = 18 from by decide]
theorem fd_18 {k : Nat} {rf A : Nat → Int} {c p0 p1 p2 p3 p4 : Int} : F_X10_feed_28 rf p0 p1 p2 p3 p4 (k + 3) (18 : Int) c A = F_X10_feed_28 rf p0 p1 p2 p3 p4 (k + 2) (19 : Int) (c + (1 : Int)) (lf_up A c (lf_o lf_iand (lf_o lf_ishr p4 (8 : Int)) (255 : Int))) := by
  show F_X10_feed_28b rf p0 p1 p2 p3 p4 (F_X10_feed_28 rf p0 p1 p2 p3 p4 (k + 2)) (18 : Int) c A = _
  unfold F_X10_feed_28b F_X10_feed_81
  rw [if_neg (show ¬ (20 : Int) ≤ 18 from by decide), if_pos (show (4 : Int) ≤ 18 from by decide), if_pos (show (8 : Int) ≤ 18 from by decide), if_pos (show (12 : Int) ≤ 18 from by decide), if_pos (show (16 : Int) ≤ 18 from by decide), show ((8 : Int) * ((3 : Int) - (lf_o lf_irem (18 : Int) (4 : Int)))) = 8 from by decide, show ((18 : Int) + (1 : Int)) = 19 from by decide]
theorem fd_19 {k : Nat} {rf A : Nat → Int} {c p0 p1 p2 p3 p4 : Int} : F_X10_feed_28 rf p0 p1 p2 p3 p4 (k + 2) (19 : Int) c A = F_X10_feed_28 rf p0 p1 p2 p3 p4 (k + 1) (20 : Int) (c + (1 : Int)) (lf_up A c (lf_o lf_iand (lf_o lf_ishr p4 (0 : Int)) (255 : Int))) := by
  show F_X10_feed_28b rf p0 p1 p2 p3 p4 (F_X10_feed_28 rf p0 p1 p2 p3 p4 (k + 1)) (19 : Int) c A = _
  unfold F_X10_feed_28b F_X10_feed_81
  rw [if_neg (show ¬ (20 : Int) ≤ 19 from by decide), if_pos (show (4 : Int) ≤ 19 from by decide), if_pos (show (8 : Int) ≤ 19 from by decide), if_pos (show (12 : Int) ≤ 19 from by decide), if_pos (show (16 : Int) ≤ 19 from by decide), show ((8 : Int) * ((3 : Int) - (lf_o lf_irem (19 : Int) (4 : Int)))) = 0 from by decide, show ((19 : Int) + (1 : Int)) = 20 from by decide]
theorem fd_20 {k : Nat} {rf A : Nat → Int} {c p0 p1 p2 p3 p4 : Int} : F_X10_feed_28 rf p0 p1 p2 p3 p4 (k + 1) (20 : Int) c A = (c, c, rf, A) := by
  show F_X10_feed_28b rf p0 p1 p2 p3 p4 (F_X10_feed_28 rf p0 p1 p2 p3 p4 k) (20 : Int) c A = _
  unfold F_X10_feed_28b
  rw [if_pos (show (20 : Int) ≤ 20 from by decide)]
theorem fm_1 {g rf : Nat → Int} {s p0 p1 p2 p3 p4 : Int} : (F_X10_feed s g rf p0 p1 p2 p3 p4).2.2.2 = fdT g s p0 p1 p2 p3 p4 := by
  unfold F_X10_feed fdT
  by_cases q : (s + (20 : Int)) ≤ (1600 : Int)
  · rw [if_pos q, if_pos q, show (1602 : Nat) = 1581 + 21 from rfl, fd_0, fd_1, fd_2, fd_3, fd_4, fd_5, fd_6, fd_7, fd_8, fd_9, fd_10, fd_11, fd_12, fd_13, fd_14, fd_15, fd_16, fd_17, fd_18, fd_19, fd_20]
  · rw [if_neg q, if_neg q]
end
section
/-! 4m -/
theorem lf_pI {α β γ : Type} {Q : γ → Prop} {a : α × β} {G : α → β → γ} (h : ∀ x y, Q (G x y)) : Q (lf_p a G) := h a.1 a.2
theorem lf_bI {α γ : Type} {Q : γ → Prop} {a : α} {G : α → γ} (h : ∀ x, Q (G x)) : Q (lf_b a G) := h a
theorem lf_pK {α β γ : Type} {P : α × β → Prop} {Q : γ → Prop} {a : α × β} {G : α → β → γ} (ha : P a) (h : ∀ x y, P (x, y) → Q (G x y)) : Q (lf_p a G) := h a.1 a.2 ha
theorem lf_iI {γ : Type} {Q : γ → Prop} {c : Prop} {dc : Decidable c} {x y : γ} (h1 : c → Q x) (h2 : ¬ c → Q y) : Q (@ite γ c dc x y) := by
  by_cases h : c
  · rw [if_pos h]
    exact h1 h
  · rw [if_neg h]
    exact h2 h
theorem lf_up_o {F : Nat → Int} {i v : Int} {j : Nat} (h : ¬ j = i.toNat) : lf_up F i v j = F j := if_neg h
theorem lf_up_y {F : Nat → Int} {i v : Int} {j : Nat} (h : j = i.toNat) : lf_up F i v j = v := if_pos h
def kfr (M N : Nat → Int) (O : Int × Int × Int × Int × Int × (Nat → Int) × (Nat → Int) × (Nat → Int) × (Nat → Int)) : Prop := (∀ j, 2 ≤ j → O.2.2.2.2.2.1 j = M j) ∧ ∀ j, 24 ≤ j → O.2.2.2.2.2.2.1 j = N j
def wfr (M N : Nat → Int) (O : Int × Int × Int × Int × Int × (Nat → Int) × (Nat → Int) × (Nat → Int)) : Prop := (∀ j, 2 ≤ j → O.2.2.2.2.2.1 j = M j) ∧ ∀ j, 24 ≤ j → O.2.2.2.2.2.2.1 j = N j
theorem kt_fr {g M N kd tr : Nat → Int} {xa n xe xb xp np bg : Int} {w1 w2 w3 w4 w5 w6 w7 w8 w9 w10 w11 w12 w13 w14 w15 w16 w17 w18 w19 w20 w21 w22 w23 w24 w25 w26 w27 w28 w29 w30 : Nat → Int} (h0 : 0 ≤ M 0) (h1 : M 0 ≤ 6) : kfr M N (F_X10_kindTold xa n xe xb xp np g w1 w2 w3 w4 w5 w6 w7 w8 w9 w10 w11 w12 w13 w14 w15 w16 w17 w18 w19 w20 w21 w22 w23 w24 w25 w26 w27 w28 w29 w30 M N kd tr bg) := by
  unfold F_X10_kindTold
  repeat' (first | (with_reducible refine lf_pI (Q := kfr M N) (fun _ _ => ?_)) | (with_reducible refine lf_iI (Q := kfr M N) (fun _ => ?_) (fun _ => ?_)))
  all_goals first | exact ⟨fun _ _ => rfl, fun _ _ => rfl⟩ | exact ⟨fun j hj => lf_up_o (by omega), fun j hj => lf_up_o (by omega)⟩
theorem wt_fr {g M N wk : Nat → Int} {xa n xe xb xp np bg : Int} {w1 w2 w3 w4 w5 w6 w7 w8 w9 w10 w11 w12 w13 w14 w15 w16 w17 w18 w19 w20 w21 w22 w23 w24 w25 w26 w27 w28 w29 w30 : Nat → Int} (h0 : 0 ≤ M 1) (h1 : M 1 < 12) : wfr M N (F_X10_walkerTold xa n xe xb xp np g w1 w2 w3 w4 w5 w6 w7 w8 w9 w10 w11 w12 w13 w14 w15 w16 w17 w18 w19 w20 w21 w22 w23 w24 w25 w26 w27 w28 w29 w30 M N wk bg) := by
  unfold F_X10_walkerTold
  repeat' (first | (with_reducible refine lf_pI (Q := wfr M N) (fun _ _ => ?_)) | (with_reducible refine lf_bI (Q := wfr M N) (fun _ => ?_)) | (with_reducible refine lf_iI (Q := wfr M N) (fun _ => ?_) (fun _ => ?_)))
  all_goals first | exact ⟨fun _ _ => rfl, fun _ _ => rfl⟩ | exact ⟨fun j hj => lf_up_o (by omega), fun j hj => lf_up_o (by omega)⟩
def bfr (bar : Nat → Int) (O : Int × Int × Int × Int × (Nat → Int)) : Prop := ∀ j, 4 ≤ j → O.2.2.2.2 j = bar j
theorem bt_fr {g bar w1 w2 w3 w4 : Nat → Int} {xa n xe xb xp : Int} : bfr bar (F_X10_barTold xa n xe xb xp g w1 w2 w3 w4 bar) := by
  unfold F_X10_barTold
  repeat' (first | (with_reducible refine lf_pI (Q := bfr bar) (fun _ _ => ?_)) | (with_reducible refine lf_bI (Q := bfr bar) (fun _ => ?_)) | (with_reducible refine lf_iI (Q := bfr bar) (fun _ => ?_) (fun _ => ?_)))
  all_goals exact fun j hj => (lf_up_o (by omega)).trans ((lf_up_o (by omega)).trans ((lf_up_o (by omega)).trans (lf_up_o (by omega))))
/-- what statementTold leaves alone -/
def sfr (M N : Nat → Int) (O : Int × Int × Int × Int × Int × Int × Int × Int × Int × Int × Int × Int × Int × (Nat → Int) × (Nat → Int) × (Nat → Int) × (Nat → Int) × (Nat → Int) × (Nat → Int) × (Nat → Int) × (Nat → Int) × (Nat → Int) × (Nat → Int)) : Prop := (∀ j, 2 ≤ j → O.2.2.2.2.2.2.2.2.2.2.2.2.2.2.2.2.2.2.1 j = M j) ∧ ∀ j, 24 ≤ j → O.2.2.2.2.2.2.2.2.2.2.2.2.2.2.2.2.2.2.2.1 j = N j
theorem st_fr {g M N kd tr wk cf ce cs qc qwt : Nat → Int} {xa n xe xb xp np aw cod0 x1 x2 x3 x4 x5 k : Int} {w1 w2 w3 w4 w5 w6 w7 w8 w9 w10 w11 w12 w13 w14 w15 w16 w17 w18 w19 w20 w21 w22 w23 w24 w25 w26 w27 w28 w29 w30 vnot vand vor vall vmin vmax v1 v2 v3 v4 v5 v6 v7 v8 v9 v10 v11 v12 v13 : Nat → Int} (h0 : 0 ≤ M 0) (h1 : M 0 ≤ 6) (h2 : 0 ≤ M 1) (h3 : M 1 ≤ 12) (hb : xb = 0) (hp : xp = -1) : sfr M N (F_X10_statementTold xa n xe xb xp np aw cod0 k x1 x2 x3 x4 x5 g w1 w2 w3 w4 w5 w6 w7 w8 w9 w10 w11 w12 w13 w14 w15 w16 w17 w18 w19 w20 w21 w22 w23 w24 w25 w26 w27 w28 w29 w30 M N kd tr wk cf ce cs vnot vand vor vall vmin vmax v1 v2 v3 v4 v5 v6 v7 v8 v9 v10 v11 v12 v13 qc qwt) := by
  subst hb
  subst hp
  unfold F_X10_statementTold
  refine lf_iI (Q := sfr M N) (fun _ => ⟨fun _ _ => rfl, fun _ _ => rfl⟩) (fun _ => ?_)
  refine lf_pI (Q := sfr M N) (fun _ _ => ?_)
  refine lf_pI (Q := sfr M N) (fun _ _ => ?_)
  refine lf_iI (Q := sfr M N) (fun _ => ?_) (fun _ => ?_)
  · refine lf_pI (Q := sfr M N) (fun _ _ => ?_)
    refine lf_pI (Q := sfr M N) (fun _ _ => ?_)
    refine lf_iI (Q := sfr M N) (fun _ => ?_) (fun _ => ?_)
    · repeat' (first | (with_reducible refine lf_pI (Q := sfr M N) (fun _ _ => ?_)) | (with_reducible refine lf_iI (Q := sfr M N) (fun _ => ?_) (fun _ => ?_)))
      all_goals exact ⟨fun _ _ => rfl, fun _ _ => rfl⟩
    · by_cases q : M 1 = 12
      · rw [wt_f q, lf_p_e, lf_p_e, lf_p_e, lf_p_e, lf_p_e, lf_p_e, lf_p_e]
        refine lf_pI (Q := sfr M N) (fun _ _ => ?_)
        refine lf_pI (Q := sfr M N) (fun _ _ => ?_)
        exact ⟨fun _ _ => rfl, fun _ _ => rfl⟩
      · generalize hR : F_X10_walkerTold _ _ _ _ _ _ _ _ _ _ _ _ _ _ _ _ _ _ _ _ _ _ _ _ _ _ _ _ _ _ _ _ _ _ _ _ _ _ _ _ _ = R
        have hw : wfr M N R := by
          rw [← hR]
          exact wt_fr h2 (by omega)
        obtain ⟨r1, r2, r3, r4, r5, r6, r7, r8⟩ := R
        rw [lf_p_e, lf_p_e, lf_p_e, lf_p_e, lf_p_e, lf_p_e, lf_p_e]
        refine lf_pI (Q := sfr M N) (fun _ _ => ?_)
        refine lf_pI (Q := sfr M N) (fun _ _ => ?_)
        exact hw
  · generalize hR : F_X10_kindTold _ _ _ _ _ _ _ _ _ _ _ _ _ _ _ _ _ _ _ _ _ _ _ _ _ _ _ _ _ _ _ _ _ _ _ _ _ _ _ _ _ _ = R
    have hw : kfr M N R := by
      rw [← hR]
      exact kt_fr h0 h1
    obtain ⟨r1, r2, r3, r4, r5, r6, r7, r8, r9⟩ := R
    rw [lf_p_e, lf_p_e, lf_p_e, lf_p_e, lf_p_e, lf_p_e, lf_p_e, lf_p_e]
    refine lf_pI (Q := sfr M N) (fun _ _ => ?_)
    refine lf_pI (Q := sfr M N) (fun _ _ => ?_)
    exact hw
/-! what stands: copies -/
def cpA (off n l : Nat) (A : Nat → Int) : Nat → Int := fun j => if off + l ≤ j ∧ j < off + n then A (j - off) else A j
theorem cpA_s {off n l : Nat} {A : Nat → Int} (h : l < n) (ho : n ≤ off) : cpA off n (l + 1) (lf_up A ((off : Int) + (l : Int)) (A (Int.toNat (l : Int)))) = cpA off n l A := by
  funext j
  unfold cpA lf_up
  rw [Int.toNat_natCast, show ((off : Int) + (l : Int)).toNat = off + l from by omega]
  by_cases q : off + l ≤ j ∧ j < off + n
  · rw [if_pos q]
    by_cases q2 : off + (l + 1) ≤ j ∧ j < off + n
    · rw [if_pos q2, if_neg (by omega)]
    · have e : j = off + l := by omega
      rw [if_neg q2, if_pos e, e, show off + l - off = l from by omega]
  · rw [if_neg q, if_neg (by omega), if_neg (by omega)]
theorem cpA_e {off n : Nat} {A : Nat → Int} : cpA off n n A = A := by
  funext j
  unfold cpA
  rw [if_neg (by omega)]
def cpB (off n l : Nat) (T A : Nat → Int) : Nat → Int := fun j => if off + l ≤ j ∧ j < off + n then T (j - off) else A j
theorem cpB_s {off n l : Nat} {T A : Nat → Int} (h : l < n) : cpB off n (l + 1) T (lf_up A ((off : Int) + (l : Int)) (T (Int.toNat (l : Int)))) = cpB off n l T A := by
  funext j
  unfold cpB lf_up
  rw [Int.toNat_natCast, show ((off : Int) + (l : Int)).toNat = off + l from by omega]
  by_cases q : off + l ≤ j ∧ j < off + n
  · rw [if_pos q]
    by_cases q2 : off + (l + 1) ≤ j ∧ j < off + n
    · rw [if_pos q2]
    · have e : j = off + l := by omega
      rw [if_neg q2, if_pos e, e, show off + l - off = l from by omega]
  · rw [if_neg q, if_neg (by omega), if_neg (by omega)]
theorem cpB_e {off n : Nat} {T A : Nat → Int} : cpB off n n T A = A := by
  funext j
  unfold cpB
  rw [if_neg (by omega)]
theorem sd_246 {tr a1 a2 a3 a4 a5 a6 a7 a9 : Nat → Int} : ∀ (f l : Nat) (a8 : Nat → Int), l ≤ 6 → 6 - l < f → F_X10_stands_246 tr f a1 a2 a3 a4 a5 a6 a7 a8 a9 (l : Int) = (a1, a2, a3, a4, a5, a6, a7, cpB 3 6 l tr a8, a9) := by
  intro f
  induction f with
  | zero => intro l a8 h1 h2; omega
  | succ f ih =>
    intro l a8 h1 h2
    show F_X10_stands_246b tr (F_X10_stands_246 tr f) a1 a2 a3 a4 a5 a6 a7 a8 a9 (l : Int) = _
    unfold F_X10_stands_246b
    by_cases q : (6 : Int) ≤ (l : Int)
    · have e : l = 6 := by omega
      rw [if_pos q, e, cpB_e]
    · rw [if_neg q, show ((l : Int) + (1 : Int)) = ((l + 1 : Nat) : Int) from rfl, ih (l + 1) _ (by omega) (by omega)]
      rw [show ((3 : Int) + (l : Int)) = (((3 : Nat) : Int) + (l : Int)) from rfl, cpB_s (by omega)]
theorem sd_183 {tr now a1 a2 a3 a4 a5 a6 a7 : Nat → Int} {c : Nat} : ∀ (f l : Nat) (a9 : Nat → Int), l ≤ c → c ≤ 1600 → c - l < f → F_X10_stands_183 (c : Int) tr now f a1 a2 a3 a4 a5 a6 a7 (l : Int) a9 = (a1, a2, a3, a4, a5, a6, a7, cpB 3 6 0 tr (lf_up (lf_up (lf_up now (0 : Int) (0 : Int)) (1 : Int) (a4 2)) (2 : Int) (a4 1)), cpA 1600 c l a9) := by
  intro f
  induction f with
  | zero => intro l a9 h1 h0 h2; omega
  | succ f ih =>
    intro l a9 h1 h0 h2
    show F_X10_stands_183b (c : Int) tr now (F_X10_stands_183 (c : Int) tr now f) a1 a2 a3 a4 a5 a6 a7 (l : Int) a9 = _
    unfold F_X10_stands_183b
    by_cases q : (c : Int) ≤ (l : Int)
    · have e : l = c := by omega
      rw [if_pos q, e, cpA_e]
      exact sd_246 8 0 _ (by decide) (by decide)
    · rw [if_neg q, show ((l : Int) + (1 : Int)) = ((l + 1 : Nat) : Int) from rfl, ih (l + 1) _ (by omega) h0 (by omega)]
      rw [show ((1600 : Int) + (l : Int)) = (((1600 : Nat) : Int) + (l : Int)) from rfl, cpA_s (by omega) h0]
def sdB (bar : Nat → Int) : Nat → Int := lf_up (lf_up (lf_up (lf_up bar (4 : Int) (bar 0)) (5 : Int) (bar 1)) (6 : Int) (bar 2)) (7 : Int) (bar 3)
def sdC (cf : Nat → Int) : Nat → Int := lf_up (lf_up (lf_up cf (3 : Int) (cf 0)) (4 : Int) (cf 1)) (5 : Int) (cf 2)
theorem sd_105 {tr cf ce cs now a1 a2 a3 a4 : Nat → Int} {c : Nat} (hc : c ≤ 1600) : ∀ (f l : Nat) (a5 : Nat → Int), l ≤ 12 → 12 - l < f → F_X10_stands_105 (c : Int) tr cf ce cs now f a1 a2 a3 a4 (l : Int) a5 = (a1, a2, a3, a4, cpA 12 12 l a5, sdC cf, sdC ce, cpB 3 6 0 tr (lf_up (lf_up (lf_up now (0 : Int) (0 : Int)) (1 : Int) (a4 2)) (2 : Int) (a4 1)), cpA 1600 c 0 cs) := by
  intro f
  induction f with
  | zero => intro l a5 h1 h2; omega
  | succ f ih =>
    intro l a5 h1 h2
    show F_X10_stands_105b (c : Int) tr cf ce cs now (F_X10_stands_105 (c : Int) tr cf ce cs now f) a1 a2 a3 a4 (l : Int) a5 = _
    unfold F_X10_stands_105b
    by_cases q : (12 : Int) ≤ (l : Int)
    · have e : l = 12 := by omega
      rw [if_pos q, e, cpA_e]
      exact sd_183 1602 0 _ (Nat.zero_le _) hc (by omega)
    · rw [if_neg q, show ((l : Int) + (1 : Int)) = ((l + 1 : Nat) : Int) from rfl, ih (l + 1) _ (by omega) (by omega)]
      rw [show ((12 : Int) + (l : Int)) = (((12 : Nat) : Int) + (l : Int)) from rfl, cpA_s (by omega) (by omega)]
theorem sd_34 {bar kd tr cf ce cs now a1 : Nat → Int} {c : Nat} (hc : c ≤ 1600) : ∀ (f l : Nat) (a2 a3 : Nat → Int), l ≤ 24 → 24 - l < f → F_X10_stands_34 (c : Int) bar kd tr cf ce cs now f a1 (l : Int) a2 a3 = (a1, cpA 24 24 l a2, cpA 24 24 l a3, sdB bar, cpA 12 12 0 kd, sdC cf, sdC ce, cpB 3 6 0 tr (lf_up (lf_up (lf_up now (0 : Int) (0 : Int)) (1 : Int) (sdB bar 2)) (2 : Int) (sdB bar 1)), cpA 1600 c 0 cs) := by
  intro f
  induction f with
  | zero => intro l a2 a3 h1 h2; omega
  | succ f ih =>
    intro l a2 a3 h1 h2
    show F_X10_stands_34b (c : Int) bar kd tr cf ce cs now (F_X10_stands_34 (c : Int) bar kd tr cf ce cs now f) a1 (l : Int) a2 a3 = _
    unfold F_X10_stands_34b
    by_cases q : (24 : Int) ≤ (l : Int)
    · have e : l = 24 := by omega
      rw [if_pos q, e, cpA_e, cpA_e]
      exact sd_105 hc 14 0 _ (by decide) (by decide)
    · rw [if_neg q, show ((l : Int) + (1 : Int)) = ((l + 1 : Nat) : Int) from rfl, ih (l + 1) _ _ (by omega) (by omega)]
      rw [show ((24 : Int) + (l : Int)) = (((24 : Nat) : Int) + (l : Int)) from rfl, cpA_s (by omega) (by omega), cpA_s (by omega) (by omega)]
/-- what stands behind a crossing -/
theorem sd_1 {M N bar kd tr wk cf ce cs now : Nat → Int} {x : Int} (h0 : 0 ≤ x) (h1 : x ≤ 1600) : F_X10_stands x M N bar kd tr wk cf ce cs now = (lf_up (lf_up M (2 : Int) (M 0)) (3 : Int) (M 1), cpA 24 24 0 N, cpA 24 24 0 wk, sdB bar, cpA 12 12 0 kd, sdC cf, sdC ce, cpB 3 6 0 tr (lf_up (lf_up (lf_up now (0 : Int) (0 : Int)) (1 : Int) (sdB bar 2)) (2 : Int) (sdB bar 1)), cpA 1600 x.toNat 0 cs) := by
  obtain ⟨c, rfl⟩ := Int.eq_ofNat_of_zero_le h0
  rw [Int.toNat_natCast]
  exact sd_34 (by omega) 26 0 _ _ (by decide) (by decide)
end
section
/-! 4n -/
/-- what crossing answers, and what stands behind it -/
def tellN (Mz Nz bar : Nat → Int) (isc : Int) (O : Int × Int × Int × Int × Int × Int × Int × Int × Int × Int × Int × Int × Int × Int × Int × Int × Int × Int × Int × Int × (Nat → Int) × (Nat → Int) × (Nat → Int) × (Nat → Int) × (Nat → Int) × (Nat → Int) × (Nat → Int) × (Nat → Int) × (Nat → Int) × (Nat → Int) × (Nat → Int) × (Nat → Int) × (Nat → Int)) (r : Sum (Int × Int) (Nat × PL)) : Prop := match r with
  | .inl q => O.1 = -1 ∧ O.2.2.2.2.2.1 = q.1 ∧ O.2.2.2.2.2.2.1 = q.2 ∧ (∀ j, 2 ≤ j → O.2.2.2.2.2.2.2.2.2.2.2.2.2.2.2.2.2.2.2.2.1 j = Mz j) ∧ (∀ j, 24 ≤ j → O.2.2.2.2.2.2.2.2.2.2.2.2.2.2.2.2.2.2.2.2.2.2.2.2.1 j = Nz j) ∧ O.2.2.2.2.2.2.2.2.2.2.2.2.2.2.2.2.2.2.2.2.2.2.1 = bar ∧ O.2.2.2.2.2.2.2.2.2.2.2.2.1 = isc
  | .inr x => O.1 = (x.1 : Int) ∧ O.2.2.2.2.2.1 = 0 ∧ O.2.2.2.2.2.2.1 = -1 ∧ O.2.2.2.2.2.2.2.2.2.2.2.2.2.2.2.2.2.2.2.2.1 2 = (x.2.1.length : Int) ∧ O.2.2.2.2.2.2.2.2.2.2.2.2.2.2.2.2.2.2.2.2.1 3 = (x.2.2.1.length : Int) ∧ keptM O.2.2.2.2.2.2.2.2.2.2.2.2.2.2.2.2.2.2.2.2.2.2.2.2.1 24 x.2.1 ∧ keptM O.2.2.2.2.2.2.2.2.2.2.2.2.2.2.2.2.2.2.2.2.2.2.2.2.1 36 x.2.2.1 ∧ O.2.2.2.2.2.2.2.2.2.2.2.2.2.2.2.2.2.2.2.2.2.2.1 = sdB bar ∧ O.2.2.2.2.2.2.2.2.2.2.2.2.1 = 1 ∧ x.2.1.length ≤ 6 ∧ x.2.2.1.length ≤ 12
theorem kept_cp {N : Nat → Int} {fr : Nat} {L : List (List Int)} (h : keptM N fr L) (hl : fr + L.length ≤ 24) : keptM (cpA 24 24 0 N) (24 + fr) L := by
  intro i hi
  show (if 24 + 0 ≤ 24 + fr + i ∧ 24 + fr + i < 24 + 24 then N (24 + fr + i - 24) else N (24 + fr + i)) = _
  rw [if_pos (by omega), show 24 + fr + i - 24 = fr + i from by omega]
  exact h i hi
theorem mc2_loop {g refu now Mz Nz bar : Nat → Int} {n : Nat} {aw0 isc rm0 und : Int} {w1 w2 w3 w4 w5 w6 w7 w8 w9 w10 w11 w12 w13 w14 w15 w16 w17 w18 w19 w20 w21 w22 w23 w24 w25 w26 w27 w28 w29 w30 vnot vand vor vall vmin vmax v1 v2 v3 v4 v5 v6 v7 v8 v9 v10 v11 v12 v13 : Nat → Int} (hn : n ≤ 1600) (hg : ∀ k, k < n → 0 ≤ g k) (hm : mw w1 w2 w3 w4 w5 w6 w7 w8 w9 w10 w11 w12 w13 w14 w15 w16 w17 w18 w19 w20 w21 w22 w23 w24 w25 w26 w27 w28 w29 w30) (hq : qw v1 v2 v3 v4 v5 v6 v7 v8 v9 v10 v11 v12 v13) (hnot : wa vnot W_not) (hand : wa vand W_and) (hor : wa vor W_or) (hall : wa vall W_all) (hmin : wa vmin W_min) (hmax : wa vmax W_max) : ∀ (f f2 k p : Nat) (Ks Ws : List (List Int)) (t0 t1 t2 : Bool) (c : CD) (xa xe np aw cod0 x1 x2 x3 x4 x5 : Int) (M cf N wk kd ce cs tr qwt qc : Nat → Int), mp g n p xa xe → mnm M N Ks Ws → mtf cf t0 t1 t2 → 0 ≤ cod0 → cod0 ≤ (p : Int) → (∀ j, 2 ≤ j → M j = Mz j) → (∀ j, 24 ≤ j → N j = Nz j) → k ≤ 80 → 81 ≤ k + f → 82 ≤ k + f2 → tellN Mz Nz bar isc (F_X10_crossing_86 (n : Int) aw0 isc rm0 und g refu w1 w2 w3 w4 w5 w6 w7 w8 w9 w10 w11 w12 w13 w14 w15 w16 w17 w18 w19 w20 w21 w22 w23 w24 w25 w26 w27 w28 w29 w30 now vnot vand vor vall vmin vmax v1 v2 v3 v4 v5 v6 v7 v8 v9 v10 v11 v12 v13 f2 xa xe (0 : Int) (-1 : Int) M cf bar np aw cod0 (k : Int) x1 x2 x3 x4 x5 N wk kd ce cs tr qwt qc) (rcL g n f k p (Ks, Ws, t0, t1, t2, c)) := by
  intro f
  induction f with
  | zero => intro f2 k p Ks Ws t0 t1 t2 c xa xe np aw cod0 x1 x2 x3 x4 x5 M cf N wk kd ce cs tr qwt qc h hN hf hc hcp hM hNn h1 h2; omega
  | succ f ih =>
    intro f2 k p Ks Ws t0 t1 t2 c xa xe np aw cod0 x1 x2 x3 x4 x5 M cf N wk kd ce cs tr qwt qc h hN hf hc hcp hM hNn h1 h2 h3
    obtain ⟨f2, rfl⟩ : ∃ j, f2 = j + 2 := ⟨f2 - 2, by omega⟩
    have hpn := h.1
    have hM0 := hN.1
    have hM1 := hN.2.1
    have hKl := hN.2.2.2.2.2.2.1
    have hWl := hN.2.2.2.2.2.2.2
    show tellN Mz Nz bar isc (F_X10_crossing_86b (n : Int) aw0 isc rm0 und g refu w1 w2 w3 w4 w5 w6 w7 w8 w9 w10 w11 w12 w13 w14 w15 w16 w17 w18 w19 w20 w21 w22 w23 w24 w25 w26 w27 w28 w29 w30 now vnot vand vor vall vmin vmax v1 v2 v3 v4 v5 v6 v7 v8 v9 v10 v11 v12 v13 (F_X10_crossing_86 (n : Int) aw0 isc rm0 und g refu w1 w2 w3 w4 w5 w6 w7 w8 w9 w10 w11 w12 w13 w14 w15 w16 w17 w18 w19 w20 w21 w22 w23 w24 w25 w26 w27 w28 w29 w30 now vnot vand vor vall vmin vmax v1 v2 v3 v4 v5 v6 v7 v8 v9 v10 v11 v12 v13 (f2 + 1)) xa xe (0 : Int) (-1 : Int) M cf bar np aw cod0 (k : Int) x1 x2 x3 x4 x5 N wk kd ce cs tr qwt qc) _
    have flt : ∀ (q : Int × Int) (ya ye yb yp np aw cod0 kk x1 x2 x3 x4 x5 : Int) (M cf N wk kd ce cs tr qwt qc : Nat → Int), ¬ q.1 = 0 → yb = q.1 → yp = q.2 → (∀ j, 2 ≤ j → M j = Mz j) → (∀ j, 24 ≤ j → N j = Nz j) → tellN Mz Nz bar isc (F_X10_crossing_86 (n : Int) aw0 isc rm0 und g refu w1 w2 w3 w4 w5 w6 w7 w8 w9 w10 w11 w12 w13 w14 w15 w16 w17 w18 w19 w20 w21 w22 w23 w24 w25 w26 w27 w28 w29 w30 now vnot vand vor vall vmin vmax v1 v2 v3 v4 v5 v6 v7 v8 v9 v10 v11 v12 v13 (f2 + 1) ya ye yb yp M cf bar np aw cod0 kk x1 x2 x3 x4 x5 N wk kd ce cs tr qwt qc) (.inl q) := by
      intro q ya ye yb yp np aw cod0 kk x1 x2 x3 x4 x5 M cf N wk kd ce cs tr qwt qc h1 h2 h3 h4 h5
      show tellN Mz Nz bar isc (F_X10_crossing_86b (n : Int) aw0 isc rm0 und g refu w1 w2 w3 w4 w5 w6 w7 w8 w9 w10 w11 w12 w13 w14 w15 w16 w17 w18 w19 w20 w21 w22 w23 w24 w25 w26 w27 w28 w29 w30 now vnot vand vor vall vmin vmax v1 v2 v3 v4 v5 v6 v7 v8 v9 v10 v11 v12 v13 _ ya ye yb yp M cf bar np aw cod0 kk x1 x2 x3 x4 x5 N wk kd ce cs tr qwt qc) _
      unfold F_X10_crossing_86b
      rw [if_neg (show ¬ yb = 0 from fun r => h1 (h2.symm.trans r))]
      exact ⟨rfl, h2, h3, h4, h5, rfl, rfl⟩
    unfold F_X10_crossing_86b rcL
    rw [if_pos rfl, ml_look hn h, lf_p_e]
    by_cases q : tx_k g n p = 0
    · rw [if_pos ((lk_end hpn hg).mpr q), if_pos q, sd_1 hc (by omega)]
      rw [lf_p_e, lf_p_e, lf_p_e, lf_p_e, lf_p_e, lf_p_e, lf_p_e, lf_p_e]
      exact ⟨rfl, rfl, rfl, hM0, hM1, kept_cp hN.2.2.2.2.1 (by omega), kept_cp hN.2.2.2.2.2.1 (by omega), rfl, rfl, hKl, hWl⟩
    · rw [if_neg (fun r => q ((lk_end hpn hg).mp r)), if_neg q]
      by_cases q8 : 80 ≤ k
      · have hk8 : (k : Int) = 80 := by omega
        unfold F_X10_statementTold
        rw [if_pos q8, if_pos hk8, lf_p_e, lf_p_e, lf_p_e, lf_p_e, lf_p_e, lf_p_e, lf_p_e, lf_p_e, lf_p_e, lf_p_e, lf_p_e, lf_p_e, lf_p_e, lf_p_e, lf_p_e, lf_p_e, lf_p_e, lf_p_e, lf_p_e, lf_p_e, lf_p_e, lf_p_e]
        exact flt (5, (tx_a g n p : Int)) _ _ _ _ _ _ _ _ _ _ _ _ _ _ _ _ _ _ _ _ _ _ _ (show ¬ (5 : Int) = 0 from by decide) rfl rfl hM hNn
      · rw [if_neg q8]
        have hst := st_1 (M := M) (N := N) (kd := kd) (tr := tr) (wk := wk) (cf := cf) (ce := ce) (cs := cs) (qc := qc) (qwt := qwt) (np := np) (aw := aw) (cod0 := cod0) (x1 := x1) (x2 := x2) (x3 := x3) (x4 := x4) (x5 := x5) (k := (k : Int)) (c := c) hn hm hq hnot hand hor hall hmin hmax h hN hf hc hcp (by omega)
        have hfr := st_fr (g := g) (M := M) (N := N) (kd := kd) (tr := tr) (wk := wk) (cf := cf) (ce := ce) (cs := cs) (qc := qc) (qwt := qwt) (xa := (tx_a g n p : Int)) (n := (n : Int)) (xe := xe) (xb := (0 : Int)) (xp := (-1 : Int)) (np := np) (aw := aw) (cod0 := cod0) (x1 := x1) (x2 := x2) (x3 := x3) (x4 := x4) (x5 := x5) (k := (k : Int)) (w1 := w1) (w2 := w2) (w3 := w3) (w4 := w4) (w5 := w5) (w6 := w6) (w7 := w7) (w8 := w8) (w9 := w9) (w10 := w10) (w11 := w11) (w12 := w12) (w13 := w13) (w14 := w14) (w15 := w15) (w16 := w16) (w17 := w17) (w18 := w18) (w19 := w19) (w20 := w20) (w21 := w21) (w22 := w22) (w23 := w23) (w24 := w24) (w25 := w25) (w26 := w26) (w27 := w27) (w28 := w28) (w29 := w29) (w30 := w30) (vnot := vnot) (vand := vand) (vor := vor) (vall := vall) (vmin := vmin) (vmax := vmax) (v1 := v1) (v2 := v2) (v3 := v3) (v4 := v4) (v5 := v5) (v6 := v6) (v7 := v7) (v8 := v8) (v9 := v9) (v10 := v10) (v11 := v11) (v12 := v12) (v13 := v13) (by omega) (by omega) (by omega) (by omega) rfl rfl
        have hsv : sv n (sb (sp_st g n p (Ks, Ws, t0, t1, t2, c)).1 (sp_need g n 59)) := sp_st_sv hpn
        generalize F_X10_statementTold (tx_a g n p : Int) (n : Int) xe (0 : Int) (-1 : Int) np aw cod0 (k : Int) x1 x2 x3 x4 x5 g w1 w2 w3 w4 w5 w6 w7 w8 w9 w10 w11 w12 w13 w14 w15 w16 w17 w18 w19 w20 w21 w22 w23 w24 w25 w26 w27 w28 w29 w30 M N kd tr wk cf ce cs vnot vand vor vall vmin vmax v1 v2 v3 v4 v5 v6 v7 v8 v9 v10 v11 v12 v13 qc qwt = R at hst hfr ⊢
        obtain ⟨r1, r2, r3, r4, r5, r6, r7, r8, r9, r10, r11, r12, r13, r14, r15, r16, r17, r18, r19, r20, r21, r22, r23⟩ := R
        rw [lf_p_e, lf_p_e, lf_p_e, lf_p_e, lf_p_e, lf_p_e, lf_p_e, lf_p_e, lf_p_e, lf_p_e, lf_p_e, lf_p_e, lf_p_e, lf_p_e, lf_p_e, lf_p_e, lf_p_e, lf_p_e, lf_p_e, lf_p_e, lf_p_e, lf_p_e]
        obtain ⟨hr, hok⟩ := hst
        have hM' : ∀ j, 2 ≤ j → r19 j = Mz j := fun j hj => (hfr.1 j hj).trans (hM j hj)
        have hN' : ∀ j, 24 ≤ j → r20 j = Nz j := fun j hj => (hfr.2 j hj).trans (hNn j hj)
        cases e : sb (sp_st g n p (Ks, Ws, t0, t1, t2, c)).1 (sp_need g n 59) with
        | inl z =>
          rw [e] at hr hsv
          exact flt z _ _ _ _ _ _ _ _ _ _ _ _ _ _ _ _ _ _ _ _ _ _ _ hsv hr.1 hr.2 hM' hN'
        | inr p2 =>
          rw [e] at hr
          obtain ⟨a1, a2, a3, a4, a5⟩ := hok p2 e
          have a1' : r8 = (k : Int) + 1 := a1
          obtain ⟨b1, b2, b3⟩ := hr
          have b1' : r3 = 0 := b1
          have b2' : r4 = -1 := b2
          subst b1'
          subst b2'
          subst a1'
          show tellN Mz Nz bar isc _ (rcL g n f (k + 1) p2 (sp_st g n p (Ks, Ws, t0, t1, t2, c)).2)
          generalize sp_st g n p (Ks, Ws, t0, t1, t2, c) = Y at a2 a3 ⊢
          obtain ⟨Y0, K2, W2, u0, u1, u2, c2⟩ := Y
          have ek : ((k : Int) + 1) = ((k + 1 : Nat) : Int) := rfl
          rw [ek]
          exact ih (f2 + 1) (k + 1) p2 K2 W2 u0 u1 u2 c2 _ _ _ _ _ _ _ _ _ _ _ _ _ _ _ _ _ _ _ _ b3 a2 a3 a4 a5 hM' hN' (by omega) (by omega) (by omega)
/-- crossing: its answer and what stands -/
theorem mc2_1 {g refu now M cf bar N wk kd ce cs tr qwt qc cd : Nat → Int} {n : Nat} {np aw0 isc rm0 und x1 x2 x3 x4 x5 : Int} {w1 w2 w3 w4 w5 w6 w7 w8 w9 w10 w11 w12 w13 w14 w15 w16 w17 w18 w19 w20 w21 w22 w23 w24 w25 w26 w27 w28 w29 w30 vnot vand vor vall vmin vmax v1 v2 v3 v4 v5 v6 v7 v8 v9 v10 v11 v12 v13 : Nat → Int} (hn : n ≤ 1600) (hg : ∀ k, k < n → 0 ≤ g k) (hm : mw w1 w2 w3 w4 w5 w6 w7 w8 w9 w10 w11 w12 w13 w14 w15 w16 w17 w18 w19 w20 w21 w22 w23 w24 w25 w26 w27 w28 w29 w30) (hq : qw v1 v2 v3 v4 v5 v6 v7 v8 v9 v10 v11 v12 v13) (hnot : wa vnot W_not) (hand : wa vand W_and) (hor : wa vor W_or) (hall : wa vall W_all) (hmin : wa vmin W_min) (hmax : wa vmax W_max) : ∃ bar1, (∀ j, 4 ≤ j → bar1 j = bar j) ∧ (∀ x, rcT g n cd = .inr x → bar1 0 = (sp_1a g n (.inr 0)).1 ∧ bar1 1 = (sp_1b g n (.inr 0)).1 ∧ bar1 2 = (sp_1c g n (.inr 0)).1 ∧ bar1 3 = (sp_1d g n (.inr 0)).1) ∧ tellN M N bar1 isc (F_X10_crossing (n : Int) np aw0 isc x1 rm0 und x2 x3 x4 x5 g refu w1 w2 w3 w4 w5 w6 w7 w8 w9 w10 w11 w12 w13 w14 w15 w16 w17 w18 w19 w20 w21 w22 w23 w24 w25 w26 w27 w28 w29 w30 M N bar kd tr wk cf ce cs now vnot vand vor vall vmin vmax v1 v2 v3 v4 v5 v6 v7 v8 v9 v10 v11 v12 v13 qc qwt) (rcT g n cd) := by
  unfold F_X10_crossing
  have h0 : mp g n 0 (0 : Int) (-1 : Int) := ⟨Nat.zero_le _, ⟨0, rfl, Nat.le_refl _, Nat.zero_le _, rfl⟩, (by decide), ⟨fun r => absurd r (by decide), fun r => absurd rfl r.1⟩⟩
  have hb := bt_s (bar := bar) (s := .inr 0) (xb := 0) (xp := -1) hn hm (Nat.zero_le n) ⟨rfl, rfl, h0⟩
  have hbf := bt_fr (g := g) (bar := bar) (w1 := w1) (w2 := w2) (w3 := w3) (w4 := w4) (xa := (0 : Int)) (n := (n : Int)) (xe := (-1 : Int)) (xb := (0 : Int)) (xp := (-1 : Int))
  have hsv : sv n (sb (sp_1d g n (.inr 0)).2 (sp_need g n 59)) := sv_sb (sp_1d_v (Nat.zero_le n)) (fun _ hp => sp_need_v _ hp)
  have hM2 : ∀ j, 2 ≤ j → lf_up (lf_up M (0 : Int) (0 : Int)) (1 : Int) (0 : Int) j = M j := fun j hj => (lf_up_o (by omega)).trans (lf_up_o (by omega))
  unfold rcT
  generalize F_X10_barTold (0 : Int) (n : Int) (-1 : Int) (0 : Int) (-1 : Int) g w1 w2 w3 w4 bar = R at hb hbf ⊢
  obtain ⟨r1, r2, r3, r4, r5⟩ := R
  rw [lf_p_e, lf_p_e, lf_p_e, lf_p_e]
  obtain ⟨hr, hbar⟩ := hb
  refine ⟨r5, hbf, ?_⟩
  cases e : sb (sp_1d g n (.inr 0)).2 (sp_need g n 59) with
  | inl z =>
    rw [e] at hr hsv
    refine ⟨fun x r => (by cases r), ?_⟩
    show tellN M N r5 isc (F_X10_crossing_86b (n : Int) aw0 isc rm0 und g refu w1 w2 w3 w4 w5 w6 w7 w8 w9 w10 w11 w12 w13 w14 w15 w16 w17 w18 w19 w20 w21 w22 w23 w24 w25 w26 w27 w28 w29 w30 now vnot vand vor vall vmin vmax v1 v2 v3 v4 v5 v6 v7 v8 v9 v10 v11 v12 v13 _ r1 r2 r3 r4 _ _ _ _ _ _ _ _ _ _ _ _ _ _ _ _ _ _ _ _) (.inl z)
    unfold F_X10_crossing_86b
    rw [if_neg (show ¬ r3 = 0 from fun r => hsv (hr.1.symm.trans r))]
    exact ⟨rfl, hr.1, hr.2, hM2, fun _ _ => rfl, rfl, rfl⟩
  | inr p =>
    rw [e] at hr
    refine ⟨fun x r => hbar p e, ?_⟩
    obtain ⟨b1, b2, b3⟩ := hr
    have b1' : r3 = 0 := b1
    have b2' : r4 = -1 := b2
    subst b1'
    subst b2'
    exact mc2_loop hn hg hm hq hnot hand hor hall hmin hmax 81 3203 1 p [] [] false false false (0, cd) _ _ _ _ _ _ _ _ _ _ _ _ _ _ _ _ _ _ _ _ b3 mnm_0 mtf_s (Int.le_refl _) (by omega) hM2 (fun _ _ => rfl) (by decide) (by decide) (by decide)
end
section
/-! 4o -/
theorem sp_num_lo {g : Nat → Int} {n p : Nat} {lo hi : Int} : lo ≤ (sp_num g n lo hi p).1 := by
  unfold sp_num
  by_cases k : tx_k g n p = 2
  · rw [if_pos k]
    by_cases k2 : tx_e g n p - tx_a g n p ≤ 4
    · rw [if_pos k2]
      by_cases k3 : dval g (tx_e g n p - tx_a g n p) (tx_a g n p) 0 < lo ∨ hi < dval g (tx_e g n p - tx_a g n p) (tx_a g n p) 0
      · rw [if_pos k3]
        exact Int.le_refl _
      · rw [if_neg k3]
        show lo ≤ dval g (tx_e g n p - tx_a g n p) (tx_a g n p) 0
        omega
    · rw [if_neg k2]
      exact Int.le_refl _
  · rw [if_neg k]
    exact Int.le_refl _
theorem sp_1a_lo {g : Nat → Int} {n : Nat} : 10 ≤ (sp_1a g n (.inr 0)).1 := by
  show 10 ≤ (sp_nb g n ws_3 10 120 0).1
  unfold sp_nb
  cases sp_w g n ws_3 0 with
  | inl q => exact Int.le_refl _
  | inr p => exact sp_num_lo
/-- what the class's crossing tells -/
def tellX (g : Nat → Int) (n : Nat) (O : Int × Nat × Nat × Int × Int × Int × Int × Int × Int × Int × Int × Int × Int × Int × Int × Int × Int × Int × Int × (Nat → Int) × (Nat → Int) × (Nat → Int) × (Nat → Int) × (Nat → Int) × (Nat → Int) × (Nat → Int) × (Nat → Int) × (Nat → Int) × Int × Int × Int × (Nat → Int) × Int × Int × Int × Nat × Int × Int × Int × Int × (Nat → Int)) (r : Sum (Int × Int) (Nat × PL)) : Prop := match r with
  | .inl q => O.1 = -1 ∧ O.2.2.2.2.2.2.2.2.1 = q.1 ∧ O.2.2.2.2.2.2.2.2.2.1 = q.2
  | .inr x => O.1 = (x.1 : Int) ∧ O.2.2.2.2.2.2.2.2.1 = 0 ∧ O.2.2.2.2.2.2.2.2.2.1 = -1 ∧ O.2.2.2.2.2.2.2.2.2.2.1 = (sp_1a g n (.inr 0)).1 ∧ O.2.2.2.2.2.2.2.2.2.2.2.1 = (sp_1b g n (.inr 0)).1 ∧ O.2.2.2.2.2.2.2.2.2.2.2.2.1 = (sp_1c g n (.inr 0)).1 ∧ O.2.2.2.2.2.2.2.2.2.2.2.2.2.1 = (sp_1d g n (.inr 0)).1 ∧ O.2.2.2.2.2.2.2.2.2.2.2.2.2.2.2.2.1 = (x.2.1.length : Int) ∧ O.2.2.2.2.2.2.2.2.2.2.2.2.2.2.2.2.2.1 = (x.2.2.1.length : Int) ∧ nms O.2.2.2.2.2.2.2.2.2.2.2.2.2.2.2.2.2.2.2.2.2.1 x.2.1 x.2.2.1
theorem cx5 {g calm pace trusts kindOf comesAt comers names code spans t rf : Nat → Int} {s x1 x2 x3 x4 al x5 x6 x7 x8 x9 x10 : Int} {pl sp : Nat} (h0 : 0 ≤ s) (h1 : s ≤ 1600) : tellX g s.toNat (F_X9_crossing g s pl sp calm pace trusts kindOf comesAt comers names code spans x1 x2 x3 t x4 al x5 x6 x7 x8 x9 x10 rf) (rcT g s.toNat code) := by
  obtain ⟨n, rfl⟩ := Int.eq_ofNat_of_zero_le h0
  have hn : n ≤ 1600 := by omega
  rw [Int.toNat_natCast]
  have h := cl_rc (g := g) (calm := calm) (pace := pace) (trusts := trusts) (kindOf := kindOf) (comesAt := comesAt) (comers := comers) (names := names) (code := code) (spans := spans) (al := al) hn
  have hv := fun q => rcT_v (g := g) (cd := code) (n := n) q
  unfold F_X9_crossing F_X9_takeTape
  rw [lf_b_e]
  generalize F_X5_readCrossing g al calm pace trusts kindOf comesAt comers names code spans (n : Int) = R at h ⊢
  obtain ⟨r1, r2, r3, r4, r5, r6, r7, r8, r9, r10, r11, r12, r13, r14, r15, r16, r17, r18, r19, r20, r21, r22, r23, r24, r25⟩ := R
  rw [lf_p_e, lf_p_e, lf_p_e, lf_p_e, lf_p_e, lf_p_e, lf_p_e, lf_p_e, lf_p_e, lf_p_e, lf_p_e, lf_p_e, lf_p_e, lf_p_e, lf_p_e, lf_p_e, lf_p_e, lf_p_e, lf_p_e, lf_p_e, lf_p_e, lf_p_e, lf_p_e, lf_p_e]
  cases e : rcT g n code with
  | inl q =>
    rw [e] at h
    have h6 : r6 = q.1 := h.1
    have h7 : r7 = q.2 := h.2
    rw [if_neg (show ¬ r6 = 0 from fun z => hv q e (h6.symm.trans z))]
    unfold F_X9_refuse
    rw [lf_p_e]
    exact ⟨rfl, h6, h7⟩
  | inr x =>
    rw [e] at h
    obtain ⟨a1, a2, a3, a4, a5, a6, a7, a8, a9, a10⟩ := h
    have h6 : r6 = 0 := a1
    rw [if_pos h6, lf_b_e, lf_b_e]
    exact ⟨a7, a1, a2, a3, a4, a5, a6, a8, a9, a10⟩
/-! image -/
theorem ix_l {k : Int} {t : Nat → Int} : ∀ (f : Nat) (l : Int) (A : Nat → Int), 0 ≤ l → l ≤ k → k - l < (f : Int) → (F_X9_image_61 k t f A l).1 = 4 + k + 1 := by
  intro f
  induction f with
  | zero => intro l A h0 h1 h2; omega
  | succ f ih =>
    intro l A h0 h1 h2
    show (F_X9_image_61b k t (F_X9_image_61 k t f) A l).1 = _
    unfold F_X9_image_61b
    by_cases q : k ≤ l
    · rw [if_pos q, lf_b_e]
    · rw [if_neg q]
      exact ih (l + 1) _ (by omega) (by omega) (by omega)
theorem ix_1 {k d r gr : Int} {t oc : Nat → Int} (h0 : 0 ≤ k) (h1 : k ≤ 6) : (F_X9_image k d r gr t oc).1 = k + 5 := by
  have := ix_l (k := k) (t := t) 8 0 (lf_up (lf_up (lf_up (lf_up oc (0 : Int) (lf_o lf_ishr d (8 : Int))) (1 : Int) (lf_o lf_iand d (255 : Int))) (2 : Int) r) (3 : Int) gr) (Int.le_refl _) h0 (by omega)
  have e : (F_X9_image k d r gr t oc).1 = 4 + k + 1 := this
  omega
theorem im_l {k : Int} {M now : Nat → Int} (hM : M 2 = k) : ∀ (f : Nat) (v l : Int) (A : Nat → Int), 0 ≤ l → l ≤ k → k - l < (f : Int) → (F_X10_image_55 M now f v A l).1 = v + (k - l) + 1 := by
  intro f
  induction f with
  | zero => intro v l A h0 h1 h2; omega
  | succ f ih =>
    intro v l A h0 h1 h2
    show (F_X10_image_55b M now (F_X10_image_55 M now f) v A l).1 = _
    unfold F_X10_image_55b F_X10_writes_f_octets_0_10
    rw [lf_b_e]
    by_cases q : M 2 ≤ l
    · rw [if_pos q, lf_b_e, lf_p_e]
      show v + 1 = v + (k - l) + 1
      omega
    · rw [if_neg q, lf_b_e, lf_p_e, ih (v + 1) (l + 1) _ (by omega) (by omega) (by omega)]
      omega
theorem im_1 {k : Int} {M now oc : Nat → Int} (hM : M 2 = k) (h0 : 0 ≤ k) (h1 : k ≤ 6) : (F_X10_image M now oc).1 = k + 5 := by
  unfold F_X10_image
  rw [show F_X10_writes_f_octets_0_10 (0 : Int) oc (lf_o lf_idiv (now (Int.toNat (0 : Int))) (256 : Int)) = ((0 : Int) + (1 : Int), lf_up oc (0 : Int) (lf_o lf_idiv (now (Int.toNat (0 : Int))) (256 : Int))) from rfl, lf_p_e]
  unfold F_X10_writes_f_octets_0_10
  rw [lf_p_e, lf_p_e, lf_p_e, im_l hM 8 _ 0 _ (Int.le_refl _) h0 (by omega)]
  omega
end
section
/-! 4p -/
/-! see and on: what they answer -/
def rwO (g : Nat → Int) (w : Int) (l : Nat) : Bool := decide (g l < w) && (decide (g (l + 1) * 256 + g (l + 2) < 300) || decide (g (l + 1) * 256 + g (l + 2) = 65535))
def rwsO (g : Nat → Int) (w : Int) : Nat → Nat → Bool
  | 0, _ => true
  | m + 1, l => rwO g w l && rwsO g w m (l + 3)
def dvB : Bool := (List.range 1601).all (fun s => decide (lf_o lf_irem (s : Int) 3 = ((s % 3 : Nat) : Int)) && decide (lf_o lf_idiv (s : Int) 3 = ((s / 3 : Nat) : Int)))
theorem dv3 {s : Nat} (h : s ≤ 1600) : lf_o lf_irem (s : Int) 3 = ((s % 3 : Nat) : Int) ∧ lf_o lf_idiv (s : Int) 3 = ((s / 3 : Nat) : Int) := by
  have hd : dvB = true := by decide +kernel
  have := List.all_eq_true.mp hd s (List.mem_range.mpr (by omega))
  rw [Bool.and_eq_true] at this
  exact ⟨of_decide_eq_true this.1, of_decide_eq_true this.2⟩
theorem ac_l {g : Nat → Int} {w : Int} : ∀ (m l f : Nat), m < f → F_X8_accepts_22 g ((l + 3 * m : Nat) : Int) w f (l : Int) = b2 (rwsO g w m l) := by
  intro m
  induction m with
  | zero =>
    intro l f hf
    obtain ⟨k, rfl⟩ : ∃ k, f = k + 1 := ⟨f - 1, by omega⟩
    show F_X8_accepts_22b g ((l + 3 * 0 : Nat) : Int) w _ (l : Int) = 1
    unfold F_X8_accepts_22b
    rw [if_pos (by omega)]
  | succ m ih =>
    intro l f hf
    obtain ⟨k, rfl⟩ : ∃ k, f = k + 1 := ⟨f - 1, by omega⟩
    have e : l + 3 * (m + 1) = (l + 3) + 3 * m := by omega
    have t0 : Int.toNat (l : Int) = l := Int.toNat_natCast l
    have t1 : Int.toNat ((l : Int) + (1 : Int)) = l + 1 := by omega
    have t2 : Int.toNat ((l : Int) + (2 : Int)) = l + 2 := by omega
    show F_X8_accepts_22b g ((l + 3 * (m + 1) : Nat) : Int) w (F_X8_accepts_22 g ((l + 3 * (m + 1) : Nat) : Int) w k) (l : Int) = b2 (rwO g w l && rwsO g w m (l + 3))
    unfold F_X8_accepts_22b F_X8_accepts_70 F_X8_accepts_72
    rw [if_neg (by omega), t0, t1, t2]
    have hn : F_X8_accepts_22 g ((l + 3 * (m + 1) : Nat) : Int) w k ((l : Int) + (3 : Int)) = b2 (rwsO g w m (l + 3)) := by
      rw [e]
      exact ih (l + 3) k (by omega)
    rw [hn]
    unfold rwO
    by_cases q : w ≤ g l
    · rw [if_pos q, decide_eq_false (by omega), Bool.false_and, Bool.false_and]
      rfl
    · rw [if_neg q, decide_eq_true (by omega), Bool.true_and]
      by_cases q2 : g (l + 1) * 256 + g (l + 2) < 300
      · rw [if_pos q2, decide_eq_true q2, Bool.true_or, Bool.true_and]
      · rw [if_neg q2, decide_eq_false q2, Bool.false_or]
        by_cases q3 : g (l + 1) * 256 + g (l + 2) = 65535
        · rw [if_pos q3, decide_eq_true q3, Bool.true_and]
        · rw [if_neg q3, decide_eq_false q3, Bool.false_and]
          rfl
theorem ke_l {g : Nat → Int} {c : Int} : ∀ (f : Nat) (l : Int) (A B : Nat → Int), 0 ≤ l → l ≤ c → c - l < (f : Int) → (F_X8_keep_9 g f c l A B).1 = c := by
  intro f
  induction f with
  | zero => intro l A B h0 h1 h2; omega
  | succ f ih =>
    intro l A B h0 h1 h2
    show (F_X8_keep_9b g (F_X8_keep_9 g f) c l A B).1 = c
    unfold F_X8_keep_9b F_X8_keep_67
    by_cases q : c ≤ l
    · rw [if_pos q]
    · rw [if_neg q]
      split
      · exact ih (l + 1) _ _ (by omega) (by omega) (by omega)
      · exact ih (l + 1) _ _ (by omega) (by omega) (by omega)
/-- what see answers -/
def seA (g : Nat → Int) (n : Nat) (w : Int) : Int := if (3 ≤ n ∧ n ≤ 48 ∧ n % 3 = 0) ∧ rwsO g w (n / 3) 0 = true then ((n / 3 : Nat) : Int) else -1
theorem sx_1 {g a b rf : Nat → Int} {w x y : Int} {n : Nat} (hn : n ≤ 1600) : (F_X9_see g (n : Int) w a b x y rf).1 = seA g n w := by
  obtain ⟨d1, d2⟩ := dv3 hn
  unfold F_X9_see F_X9_takeTape seA
  rw [lf_b_e, lf_b_e]
  have acc : F_X8_accepts g (n : Int) w = if 3 ≤ n ∧ n ≤ 48 ∧ n % 3 = 0 then b2 (rwsO g w (n / 3) 0) else 0 := by
    unfold F_X8_accepts F_X8_accepts_17
    by_cases q1 : (n : Int) < 3
    · rw [if_pos q1, if_neg (by omega)]
    · rw [if_neg q1]
      by_cases q2 : (48 : Int) < (n : Int)
      · rw [if_pos q2, if_neg (by omega)]
      · rw [if_neg q2, d1]
        by_cases q3 : n % 3 = 0
        · rw [if_pos (by omega), if_pos ⟨by omega, by omega, q3⟩]
          have := ac_l (g := g) (w := w) (n / 3) 0 52 (by omega)
          rw [show 0 + 3 * (n / 3) = n from by omega] at this
          exact this
        · rw [if_neg (by omega), if_neg (by omega)]
  rw [acc]
  by_cases q : 3 ≤ n ∧ n ≤ 48 ∧ n % 3 = 0
  · rw [if_pos q]
    cases c : rwsO g w (n / 3) 0 with
    | false =>
      rw [if_pos (show b2 false = 0 from rfl), if_neg (fun r => Bool.noConfusion r.2)]
      unfold F_X9_refuse
      rw [lf_p_e]
    | true =>
      rw [if_neg (show ¬ b2 true = 0 from by decide), if_pos ⟨q, rfl⟩]
      have hk : (F_X8_keep a b g (n : Int)).1 = ((n / 3 : Nat) : Int) := by
        unfold F_X8_keep
        rw [d2]
        exact ke_l 18 0 a b (Int.le_refl _) (by omega) (by omega)
      generalize F_X8_keep a b g (n : Int) = R at hk ⊢
      obtain ⟨r1, r2, r3, r4⟩ := R
      rw [lf_p_e, lf_p_e, lf_p_e]
      exact hk
  · rw [if_neg q, if_pos rfl, if_neg (fun r => q r.1)]
    unfold F_X9_refuse
    rw [lf_p_e]
theorem sm_121 {g rf : Nat → Int} {s c fl : Int} (hc : lf_o lf_idiv s 3 = c) : ∀ (f : Nat) (l : Int) (A : Nat → Int), 0 ≤ l → l ≤ c → c - l < (f : Int) → (F_X10_see_121 s g rf f fl l A).1 = c := by
  intro f
  induction f with
  | zero => intro l A h0 h1 h2; omega
  | succ f ih =>
    intro l A h0 h1 h2
    show (F_X10_see_121b s g rf (F_X10_see_121 s g rf f) fl l A).1 = c
    unfold F_X10_see_121b
    rw [hc]
    by_cases q : c ≤ l
    · rw [if_pos q]
    · rw [if_neg q]
      split
      · exact ih (l + 1) _ (by omega) (by omega) (by omega)
      · exact ih (l + 1) _ (by omega) (by omega) (by omega)
theorem sm_109n {g rf rwv : Nat → Int} {s rm l : Int} : (F_X10_see_109 s rm g rf rwv (0 : Int) l).1 = -1 := by
  unfold F_X10_see_109 F_X10_refuses_a0_1
  rw [if_pos rfl, lf_p_e]
theorem sm_109y {g rf rwv : Nat → Int} {rm l : Int} {n : Nat} (hn : n ≤ 48) : (F_X10_see_109 (n : Int) rm g rf rwv (1 : Int) l).1 = ((n / 3 : Nat) : Int) := by
  unfold F_X10_see_109
  rw [if_neg (show ¬ (1 : Int) = 0 from by decide)]
  exact sm_121 (dv3 (by omega)).2 18 0 rwv (Int.le_refl _) (by omega) (by omega)
theorem sm_36n {g rf M rwv : Nat → Int} {s rm l : Int} (k : Nat) : (F_X10_see_36 s rm g rf M rwv (k + 1) (0 : Int) l).1 = -1 := by
  show (F_X10_see_36b s rm g rf M rwv _ (0 : Int) l).1 = -1
  unfold F_X10_see_36b
  split
  · exact sm_109n
  · rw [if_pos rfl]
    exact sm_109n
theorem sm_36 {g rf M rwv : Nat → Int} {rm w : Int} {n : Nat} (hn : n ≤ 48) (hM : M 3 = w) (hg : ∀ k, k < 1600 → 0 ≤ g k) : ∀ (m l f : Nat), l + 3 * m = n → m + 1 < f → (F_X10_see_36 (n : Int) rm g rf M rwv f (1 : Int) (l : Int)).1 = if rwsO g w m l = true then ((n / 3 : Nat) : Int) else -1 := by
  intro m
  induction m with
  | zero =>
    intro l f hl hf
    obtain ⟨k, rfl⟩ : ∃ k, f = k + 1 := ⟨f - 1, by omega⟩
    show (F_X10_see_36b (n : Int) rm g rf M rwv _ (1 : Int) (l : Int)).1 = _
    unfold F_X10_see_36b
    rw [if_pos (by omega), if_pos (show rwsO g w 0 l = true from rfl)]
    exact sm_109y hn
  | succ m ih =>
    intro l f hl hf
    obtain ⟨k, rfl⟩ : ∃ k, f = k + 1 := ⟨f - 1, by omega⟩
    obtain ⟨k', rfl⟩ : ∃ j, k = j + 1 := ⟨k - 1, by omega⟩
    have t0 : Int.toNat (l : Int) = l := Int.toNat_natCast l
    have t1 : Int.toNat ((l : Int) + (1 : Int)) = l + 1 := by omega
    have t2 : Int.toNat ((l : Int) + (2 : Int)) = l + 2 := by omega
    have hn' : (F_X10_see_36 (n : Int) rm g rf M rwv (k' + 1) (1 : Int) ((l : Int) + (3 : Int))).1 = if rwsO g w m (l + 3) = true then ((n / 3 : Nat) : Int) else -1 := ih (l + 3) (k' + 1) (by omega) (by omega)
    have hz : (F_X10_see_36 (n : Int) rm g rf M rwv (k' + 1) (0 : Int) ((l : Int) + (3 : Int))).1 = -1 := sm_36n k'
    have hgl := hg l (by omega)
    show (F_X10_see_36b (n : Int) rm g rf M rwv (F_X10_see_36 (n : Int) rm g rf M rwv (k' + 1)) (1 : Int) (l : Int)).1 = if (rwO g w l && rwsO g w m (l + 3)) = true then _ else _
    unfold F_X10_see_36b F_X10_see_101 F_X10_see_97 F_X10_see_102 F_X10_isWalker lf_isin
    rw [if_neg (by omega), if_neg (show ¬ (1 : Int) = 0 from by decide), lf_b_e, lf_b_e, t0, t1, t2, hM]
    unfold rwO
    have ec : (256 : Int) * g (l + 1) + g (l + 2) = g (l + 1) * 256 + g (l + 2) := by omega
    rw [ec]
    by_cases q : w ≤ g l
    · rw [if_neg (show ¬ (0 ≤ g l ∧ g l ≤ w - 1) from by omega), if_pos rfl, decide_eq_false (by omega), Bool.false_and, Bool.false_and, if_neg (fun r => Bool.noConfusion r)]
      exact hz
    · rw [if_pos (show 0 ≤ g l ∧ g l ≤ w - 1 from by omega), if_neg (show ¬ (1 : Int) = 0 from by decide), decide_eq_true (by omega), Bool.true_and]
      by_cases q2 : g (l + 1) * 256 + g (l + 2) < 300
      · rw [if_pos q2, decide_eq_true q2, Bool.true_or, Bool.true_and]
        exact hn'
      · rw [if_neg q2, decide_eq_false q2, Bool.false_or]
        by_cases q3 : g (l + 1) * 256 + g (l + 2) = 65535
        · rw [if_pos q3, decide_eq_true q3, Bool.true_and]
          exact hn'
        · rw [if_neg q3, decide_eq_false q3, Bool.false_and, if_neg (fun r => Bool.noConfusion r)]
          exact hz
theorem sm_1 {g rf M rwv : Nat → Int} {rm : Int} {n : Nat} (hn : n ≤ 1600) (hg : ∀ k, k < 1600 → 0 ≤ g k) : (F_X10_see (n : Int) rm g rf M rwv).1 = seA g n (M 3) := by
  obtain ⟨d1, d2⟩ := dv3 hn
  unfold F_X10_see seA
  rw [d1, d2]
  by_cases q1 : (n : Int) ≤ 0
  · rw [if_pos q1, if_neg (by omega)]
    exact sm_36n 53
  · rw [if_neg q1]
    by_cases q2 : n % 3 = 0
    · rw [if_pos (by omega)]
      by_cases q3 : (16 : Int) < ((n / 3 : Nat) : Int)
      · rw [if_pos q3, if_neg (by omega)]
        exact sm_36n 53
      · rw [if_neg q3]
        have h := sm_36 (rf := rf) (M := M) (rwv := rwv) (rm := rm) (n := n) (by omega) rfl hg (n / 3) 0 54 (by omega) (by omega)
        have h' : (F_X10_see_36 (n : Int) rm g rf M rwv 54 (1 : Int) (0 : Int)).1 = if rwsO g (M 3) (n / 3) 0 = true then ((n / 3 : Nat) : Int) else -1 := h
        rw [h']
        by_cases q4 : rwsO g (M 3) (n / 3) 0 = true
        · rw [if_pos q4, if_pos ⟨⟨by omega, by omega, q2⟩, q4⟩]
        · rw [if_neg q4, if_neg (fun r => q4 r.2)]
    · rw [if_neg (by omega), if_neg (by omega)]
      exact sm_36n 53
/-! on -/
def rmB : Bool := (List.range 1006).all (fun s => decide (0 ≤ lf_o lf_irem (s : Int) 251) && decide (lf_o lf_irem (s : Int) 251 ≤ 250))
theorem rm251 {x : Int} (h0 : 0 ≤ x) (h1 : x ≤ 1005) : 0 ≤ lf_o lf_irem x 251 ∧ lf_o lf_irem x 251 ≤ 250 := by
  have hd : rmB = true := by decide +kernel
  obtain ⟨s, rfl⟩ := Int.eq_ofNat_of_zero_le h0
  have := List.all_eq_true.mp hd s (List.mem_range.mpr (by omega))
  rw [Bool.and_eq_true] at this
  exact ⟨of_decide_eq_true this.1, of_decide_eq_true this.2⟩
theorem chk_l {g : Nat → Int} {p : Int} (hg : ∀ k, k < 1600 → 0 ≤ g k ∧ g k ≤ 255) (hp : p ≤ 10) : ∀ (f : Nat) (x l : Int), 0 ≤ x → x ≤ 250 → 0 ≤ l → F_X9_check_i1_0_10_5 g p f x l = F_X10_checked_i1_0_10_5 g p f x l := by
  intro f
  induction f with
  | zero => intro x l h0 h1 h2; rfl
  | succ f ih =>
    intro x l h0 h1 h2
    show F_X9_check_i1_0_10_5b g p (F_X9_check_i1_0_10_5 g p f) x l = F_X10_checked_i1_0_10_5b g p (F_X10_checked_i1_0_10_5 g p f) x l
    unfold F_X9_check_i1_0_10_5b F_X10_checked_i1_0_10_5b
    by_cases q : p ≤ l
    · rw [if_pos q, if_pos q]
    · have hb := hg l.toNat (by omega)
      rw [if_neg q, if_neg q, lo_mul (by omega) (by omega) (by omega) (by omega) (by omega) (by omega), lo_add (by omega) (by omega) (by omega) (by omega) (by omega) (by omega)]
      have hr := rm251 (x := 3 * x + g l.toNat) (by omega) (by omega)
      exact ih _ _ hr.1 hr.2 (by omega)
theorem chk_1 {g : Nat → Int} {p : Int} (hg : ∀ k, k < 1600 → 0 ≤ g k ∧ g k ≤ 255) (hp : p ≤ 10) : F_X9_check_i1_0_10 g p = F_X10_checked_i1_0_10 g p := chk_l hg hp 12 101 0 (by decide) (by decide) (Int.le_refl _)
/-- trusts in an image -/
def trO (g : Nat → Int) : Nat → Nat → Bool
  | 0, _ => true
  | m + 1, l => decide (g (4 + l) ≤ 9) && trO g m (l + 1)
/-- what an image must hold beside them -/
def imO (g : Nat → Int) (cy k s : Int) : Bool := !decide (999 < g 0 * 256 + g 1) && (!decide (3 ≤ g 2) && (decide (1 ≤ g 3 ∧ g 3 ≤ 60 ∧ g 3 < cy) && decide (g (Int.toNat (s - 1)) = F_X10_checked_i1_0_10 g (s - 1))))
theorem ag_1 {cy x : Int} : F_X4_allowsGreen cy x = b2 (decide (1 ≤ x ∧ x ≤ 60 ∧ x < cy)) := by
  unfold F_X4_allowsGreen F_X4_allowsGreen_23
  by_cases q : 1 ≤ x ∧ x ≤ 60 ∧ x < cy
  · rw [if_neg (by omega), if_neg (by omega), if_neg (by omega), decide_eq_true q]
    rfl
  · rw [decide_eq_false q]
    by_cases q1 : x < 1
    · rw [if_pos q1]
      rfl
    · rw [if_neg q1]
      by_cases q2 : 60 < x
      · rw [if_pos q2]
        rfl
      · rw [if_neg q2, if_pos (by omega)]
        rfl
theorem gl_1 {bar : Nat → Int} {x : Int} : F_X10_isGreenLong_a1_60 bar x = b2 (decide (1 ≤ x ∧ x ≤ 60 ∧ x < bar 4)) := by
  unfold F_X10_isGreenLong_a1_60 F_X10_isGreenLong_a1_60_25 lf_isin
  by_cases q1 : 1 ≤ x ∧ x ≤ 60
  · rw [if_pos q1, if_neg (show ¬ (1 : Int) = 0 from by decide)]
    by_cases q2 : bar 4 ≤ x
    · rw [if_pos q2, decide_eq_false (by omega)]
      rfl
    · rw [if_neg q2, decide_eq_true ⟨q1.1, q1.2, by omega⟩]
      rfl
  · rw [if_neg q1, if_pos rfl, decide_eq_false (fun r => q1 ⟨r.1, r.2.1⟩)]
    rfl
theorem ii_l {g : Nat → Int} {cy s : Int} (hg : ∀ k, k < 1600 → 0 ≤ g k ∧ g k ≤ 255) (hs : s ≤ 11) : ∀ (m l f : Nat), m < f → F_X9_isImage_24 g cy ((l + m : Nat) : Int) s f (l : Int) = b2 (trO g m l && imO g cy ((l + m : Nat) : Int) s) := by
  intro m
  induction m with
  | zero =>
    intro l f hf
    obtain ⟨k, rfl⟩ : ∃ k, f = k + 1 := ⟨f - 1, by omega⟩
    show F_X9_isImage_24b g cy ((l + 0 : Nat) : Int) s _ (l : Int) = b2 (true && imO g cy ((l + 0 : Nat) : Int) s)
    unfold F_X9_isImage_24b F_X9_isImage_130 imO
    rw [Bool.true_and, if_pos (by omega), show Int.toNat (0 : Int) = 0 from rfl, show Int.toNat (1 : Int) = 1 from rfl, show Int.toNat (2 : Int) = 2 from rfl, show Int.toNat (3 : Int) = 3 from rfl]
    by_cases q1 : 999 < g 0 * 256 + g 1
    · rw [if_pos q1, decide_eq_true q1]
      rfl
    · rw [if_neg q1, decide_eq_false q1]
      by_cases q2 : 3 ≤ g 2
      · rw [if_pos q2, decide_eq_true q2]
        rfl
      · rw [if_neg q2, decide_eq_false q2, lf_b_e, ag_1]
        cases decide (1 ≤ g 3 ∧ g 3 ≤ 60 ∧ g 3 < cy) with
        | false =>
          rw [if_pos (show b2 false = 0 from rfl)]
          rfl
        | true =>
          rw [if_neg (show ¬ b2 true = 0 from by decide), lf_b_e, chk_1 hg (by omega)]
          by_cases q4 : g (Int.toNat (s - 1)) = F_X10_checked_i1_0_10 g (s - 1)
          · rw [if_pos q4, decide_eq_true q4]
            rfl
          · rw [if_neg q4, decide_eq_false q4]
            rfl
  | succ m ih =>
    intro l f hf
    obtain ⟨k, rfl⟩ : ∃ k, f = k + 1 := ⟨f - 1, by omega⟩
    have e : l + (m + 1) = (l + 1) + m := by omega
    show F_X9_isImage_24b g cy ((l + (m + 1) : Nat) : Int) s (F_X9_isImage_24 g cy ((l + (m + 1) : Nat) : Int) s k) (l : Int) = b2 ((decide (g (4 + l) ≤ 9) && trO g m (l + 1)) && imO g cy ((l + (m + 1) : Nat) : Int) s)
    unfold F_X9_isImage_24b
    rw [if_neg (by omega), show Int.toNat ((4 : Int) + (l : Int)) = 4 + l from by omega]
    by_cases q : g (4 + l) ≤ 9
    · rw [if_pos q, decide_eq_true q, Bool.true_and, e]
      exact ih (l + 1) k (by omega)
    · rw [if_neg q, decide_eq_false q, Bool.false_and, Bool.false_and]
      rfl
theorem i90_l {g M : Nat → Int} {k : Nat} (hM : M 2 = (k : Int)) : ∀ (m l f : Nat), l + m = k → m < f → F_X10_isImage_90 g M f (l : Int) = b2 (trO g m l) := by
  intro m
  induction m with
  | zero =>
    intro l f hl hf
    obtain ⟨j, rfl⟩ : ∃ k, f = k + 1 := ⟨f - 1, by omega⟩
    show F_X10_isImage_90b g M _ (l : Int) = b2 true
    unfold F_X10_isImage_90b
    rw [lf_b_e, if_pos (by omega)]
    rfl
  | succ m ih =>
    intro l f hl hf
    obtain ⟨j, rfl⟩ : ∃ k, f = k + 1 := ⟨f - 1, by omega⟩
    show F_X10_isImage_90b g M (F_X10_isImage_90 g M j) (l : Int) = b2 (decide (g (4 + l) ≤ 9) && trO g m (l + 1))
    unfold F_X10_isImage_90b
    rw [lf_b_e, if_neg (by omega), show Int.toNat ((4 : Int) + (l : Int)) = 4 + l from by omega]
    by_cases q : g (4 + l) ≤ 9
    · rw [if_pos q, decide_eq_true q, Bool.true_and]
      exact ih (l + 1) j (by omega) (by omega)
    · rw [if_neg q, decide_eq_false q, Bool.false_and]
      rfl
/-- what on answers -/
def onA (g : Nat → Int) (cy s : Int) (k : Nat) : Int := if 0 < cy ∧ s = (k : Int) + 5 then b2 (trO g k 0 && imO g cy (k : Int) s) else 0
theorem ox_1 {g t rf : Nat → Int} {cy s d r gr x1 x2 x3 x4 : Int} {k : Nat} (hk : k ≤ 6) (hg : ∀ k, k < 1600 → 0 ≤ g k ∧ g k ≤ 255) : (F_X9_on g s cy (k : Int) d r gr t x1 x2 x3 x4 rf).1 = onA g cy s k := by
  unfold F_X9_on F_X9_takeTape onA
  rw [lf_b_e, lf_b_e]
  have hi : F_X9_isImage g cy (k : Int) s = if 0 < cy ∧ s = (k : Int) + 5 then b2 (trO g k 0 && imO g cy (k : Int) s) else 0 := by
    unfold F_X9_isImage F_X9_stands F_X9_isImage_20
    rw [lf_b_e]
    by_cases q1 : cy ≤ 0
    · rw [if_pos q1, if_pos rfl, if_neg (by omega)]
    · rw [if_neg q1, if_neg (show ¬ (1 : Int) = 0 from by decide)]
      by_cases q2 : s = (k : Int) + 5
      · rw [if_pos q2, if_pos (show 0 < cy ∧ s = (k : Int) + 5 from ⟨by omega, q2⟩)]
        have := ii_l (cy := cy) (s := s) hg (by omega) k 0 8 (by omega)
        rw [show 0 + k = k from by omega] at this
        exact this
      · rw [if_neg q2, if_neg (fun r => q2 r.2)]
  rw [hi]
  by_cases q : 0 < cy ∧ s = (k : Int) + 5
  · rw [if_pos q]
    cases trO g k 0 && imO g cy (k : Int) s with
    | false =>
      rw [if_pos (show b2 false = 0 from rfl)]
      unfold F_X9_deny
      rw [lf_p_e]
      rfl
    | true =>
      rw [if_neg (show ¬ b2 true = 0 from by decide)]
      rfl
  · rw [if_neg q, if_pos rfl]
    unfold F_X9_deny
    rw [lf_p_e]
theorem on_79 {g rf M : Nat → Int} {k : Nat} (hM : M 2 = (k : Int)) : ∀ (f : Nat) (l : Int) (A : Nat → Int), 0 ≤ l → l ≤ (k : Int) → (k : Int) - l < (f : Int) → (F_X10_on_79 g rf M f A l).1 = 1 := by
  intro f
  induction f with
  | zero => intro l A h0 h1 h2; omega
  | succ f ih =>
    intro l A h0 h1 h2
    show (F_X10_on_79b g rf M (F_X10_on_79 g rf M f) A l).1 = 1
    unfold F_X10_on_79b
    rw [lf_b_e]
    by_cases q : M 2 ≤ l
    · rw [if_pos q]
    · rw [if_neg q]
      exact ih (l + 1) _ (by omega) (by omega) (by omega)
theorem om_1 {g rf M bar now : Nat → Int} {s isc und : Int} {k : Nat} (hk : k ≤ 6) (hM : M 2 = (k : Int)) (hi : (isc = 0 ∧ bar 4 = 0) ∨ (isc = 1 ∧ 10 ≤ bar 4)) : (F_X10_on s isc und g rf M bar now).1 = onA g (bar 4) s k := by
  unfold F_X10_on onA
  rw [lf_b_e]
  have hI : F_X10_isImage isc g M bar s = if 0 < bar 4 ∧ s = (k : Int) + 5 then b2 (trO g k 0 && imO g (bar 4) (k : Int) s) else 0 := by
    unfold F_X10_isImage F_X10_isImage_86 imO
    by_cases q0 : isc = 0
    · rw [if_pos q0, if_neg (by omega)]
    · rw [if_neg q0, lf_b_e, hM, show Int.toNat (0 : Int) = 0 from rfl, show Int.toNat (1 : Int) = 1 from rfl, show Int.toNat (2 : Int) = 2 from rfl, show Int.toNat (3 : Int) = 3 from rfl]
      by_cases q1 : s = (k : Int) + 5
      · rw [if_pos (show s = 5 + (k : Int) from by omega), if_pos (show 0 < bar 4 ∧ s = (k : Int) + 5 from ⟨by omega, q1⟩), lf_b_e]
        by_cases q2 : g (Int.toNat (s - 1)) = F_X10_checked_i1_0_10 g (s - 1)
        · rw [if_pos q2, decide_eq_true q2, show (256 : Int) * g 0 + g 1 = g 0 * 256 + g 1 from by omega]
          by_cases q3 : 999 < g 0 * 256 + g 1
          · rw [if_pos q3, decide_eq_true q3, Bool.not_true, Bool.false_and, Bool.and_false]
            rfl
          · rw [if_neg q3, decide_eq_false q3, Bool.not_false, Bool.true_and]
            by_cases q4 : 2 < g 2
            · rw [if_pos q4, decide_eq_true (show 3 ≤ g 2 from by omega), Bool.not_true, Bool.false_and, Bool.and_false]
              rfl
            · rw [if_neg q4, decide_eq_false (show ¬ 3 ≤ g 2 from by omega), Bool.not_false, Bool.true_and, lf_b_e, gl_1]
              cases decide (1 ≤ g 3 ∧ g 3 ≤ 60 ∧ g 3 < bar 4) with
              | false =>
                rw [if_pos (show b2 false = 0 from rfl), Bool.false_and, Bool.and_false]
                rfl
              | true =>
                rw [if_neg (show ¬ b2 true = 0 from by decide), Bool.true_and, Bool.and_true]
                exact i90_l hM k 0 8 (by omega) (by omega)
        · rw [if_neg q2, decide_eq_false q2, Bool.and_false, Bool.and_false, Bool.and_false, Bool.and_false]
          rfl
      · rw [if_neg (show ¬ s = 5 + (k : Int) from by omega), if_neg (fun r => q1 r.2)]
  rw [hI]
  by_cases q : 0 < bar 4 ∧ s = (k : Int) + 5
  · rw [if_pos q]
    cases trO g k 0 && imO g (bar 4) (k : Int) s with
    | false => rw [if_pos (show b2 false = 0 from rfl)]; rfl
    | true =>
      rw [if_neg (show ¬ b2 true = 0 from by decide), on_79 hM 8 0 _ (Int.le_refl _) (by omega) (by omega)]
      rfl
  · rw [if_neg q, if_pos rfl]
end
section
/-! 4q -/
/-! letter -/
theorem lol_div {X : Int} (h1 : 0 ≤ X) (h2 : X ≤ 1000000000000) : lf_ol lf_ldiv X 27 = X / 27 := by
  have e : (2 : Int) ^ 63 = 9223372036854775808 := by decide
  have ex : (Int64.ofInt X).toInt = X := Int64.toInt_ofInt_of_le (by omega) (by omega)
  have ey : (Int64.ofInt 27).toInt = 27 := by decide
  show (Int64.ofInt X / Int64.ofInt 27).toInt = X / 27
  rw [Int64.toInt_div, ex, ey, Int.tdiv_eq_ediv_of_nonneg h1]
  have q1 : 0 ≤ X / 27 := by omega
  have q2 : X / 27 ≤ X := by omega
  exact Int.bmod_eq_of_le (by omega) (by omega)
theorem lol_rem {X : Int} (h1 : 0 ≤ X) (h2 : X ≤ 1000000000000) : lf_ol lf_lrem X 27 = X % 27 := by
  have e : (2 : Int) ^ 63 = 9223372036854775808 := by decide
  have ex : (Int64.ofInt X).toInt = X := Int64.toInt_ofInt_of_le (by omega) (by omega)
  have ey : (Int64.ofInt 27).toInt = 27 := by decide
  show (Int64.ofInt X % Int64.ofInt 27).toInt = X % 27
  rw [Int64.toInt_mod, ex, ey, Int.tmod_eq_emod_of_nonneg h1]
def l2B : Bool := (List.range 27).all (fun s => decide (lf_l2i (s : Int) = (s : Int)))
theorem l2i_s {x : Int} (h0 : 0 ≤ x) (h1 : x < 27) : lf_l2i x = x := by
  have hd : l2B = true := by decide +kernel
  obtain ⟨s, rfl⟩ := Int.eq_ofNat_of_zero_le h0
  exact of_decide_eq_true (List.all_eq_true.mp hd s (List.mem_range.mpr (by omega)))
/-- letters, the last first -/
def lw : List Int → Prop
  | [] => True
  | c :: r => (97 ≤ c ∧ c ≤ 122) ∧ lw r
theorem nr_c {c : Int} {r : List Int} : nr (c :: r) = 27 * nr r + c - 97 + 1 := rfl
theorem nr_0 : ∀ r : List Int, lw r → (r.length : Int) ≤ nr r
  | [], _ => Int.le_refl 0
  | c :: r, h => by
    have h1 := nr_0 r h.2
    have h2 := h.1
    rw [nr_c]
    show ((r.length + 1 : Nat) : Int) ≤ _
    omega
theorem nr_bd : ∀ r : List Int, lw r → r.length ≤ 6 → nr r < b27 r.length
  | [], _, _ => show (0 : Int) < 1 by decide
  | c :: r, h, hl => by
    have h1 := nr_bd r h.2 (Nat.le_of_succ_le hl)
    have h2 := h.1
    rw [nr_c]
    show _ < 27 * b27 r.length
    omega
theorem nr_le {r : List Int} (h : lw r) (hl : r.length ≤ 6) : nr r ≤ 1000000000000 := by
  have h1 := nr_bd r h hl
  have h2 : b27 r.length ≤ 387420489 := by
    rcases (by omega : r.length = 0 ∨ r.length = 1 ∨ r.length = 2 ∨ r.length = 3 ∨ r.length = 4 ∨ r.length = 5 ∨ r.length = 6) with e | e | e | e | e | e | e <;> (rw [e]; decide)
  omega
theorem le_102 {p n : Int} : ∀ (j : Nat) (r : List Int) (f : Nat), lw r → r.length ≤ 6 → j < r.length → j < f → F_X10_letter_102 p f (nr r) n (p + (j : Int)) = r.getD j 0 - 97 + 1 := by
  intro j
  induction j with
  | zero =>
    intro r f h hl hj hf
    obtain ⟨k, rfl⟩ : ∃ k, f = k + 1 := ⟨f - 1, by omega⟩
    cases r with
    | nil => exact absurd hj (Nat.not_lt_zero _)
    | cons c r =>
      have hb := nr_le h hl
      have h0 := nr_0 (c :: r) h
      have h1 := h.1
      show F_X10_letter_102b p _ (nr (c :: r)) n (p + ((0 : Nat) : Int)) = c - 97 + 1
      unfold F_X10_letter_102b
      rw [if_pos (by omega), lol_rem (by omega) hb]
      have hm : nr (c :: r) % 27 = c - 97 + 1 := by
        rw [nr_c]
        omega
      rw [hm]
      exact l2i_s (by omega) (by omega)
  | succ j ih =>
    intro r f h hl hj hf
    obtain ⟨k, rfl⟩ : ∃ k, f = k + 1 := ⟨f - 1, by omega⟩
    cases r with
    | nil => exact absurd hj (Nat.not_lt_zero _)
    | cons c r =>
      have hb := nr_le h hl
      have h0 := nr_0 (c :: r) h
      have h1 := h.1
      have hj' : j + 1 < r.length + 1 := hj
      show F_X10_letter_102b p (F_X10_letter_102 p k) (nr (c :: r)) n (p + ((j + 1 : Nat) : Int)) = r.getD j 0 - 97 + 1
      unfold F_X10_letter_102b
      have hd : nr (c :: r) / 27 = nr r := by
        rw [nr_c]
        omega
      rw [if_neg (by omega), lol_div (by omega) hb, hd, show p + ((j + 1 : Nat) : Int) + (-1 : Int) = p + (j : Int) from by omega]
      exact ih r k h.2 (Nat.le_of_succ_le hl) (by omega) (by omega)
theorem le_67 {p V : Int} : ∀ (r : List Int) (f : Nat) (n : Nat), lw r → r.length ≤ 6 → n + r.length ≤ 12 → r.length < f → F_X10_letter_67 p f V (nr r) (n : Int) = if p < ((n + r.length : Nat) : Int) then F_X10_letter_102 p 2147483648 V ((n + r.length : Nat) : Int) (((n + r.length : Nat) : Int) - (1 : Int)) else 0 := by
  intro r
  induction r with
  | nil =>
    intro f n h hl hn hf
    obtain ⟨k, rfl⟩ : ∃ k, f = k + 1 := ⟨f - 1, by have : 0 < f := hf; omega⟩
    show F_X10_letter_67b p _ V (0 : Int) (n : Int) = _
    unfold F_X10_letter_67b
    rw [if_pos (show lf_cmp (0 : Int) (0 : Int) ≤ 0 from by decide)]
    rfl
  | cons c r ih =>
    intro f n h hl hn hf
    obtain ⟨k, rfl⟩ : ∃ k, f = k + 1 := ⟨f - 1, by have : 0 < f := Nat.lt_of_le_of_lt (Nat.zero_le _) hf; omega⟩
    have hb := nr_le h hl
    have h0' : ((r.length + 1 : Nat) : Int) ≤ nr (c :: r) := nr_0 (c :: r) h
    have h1 := h.1
    have hl' : r.length + 1 ≤ 6 := hl
    have hn' : n + (r.length + 1) ≤ 12 := hn
    show F_X10_letter_67b p (F_X10_letter_67 p k) V (nr (c :: r)) (n : Int) = _
    unfold F_X10_letter_67b
    have hd : nr (c :: r) / 27 = nr r := by
      rw [nr_c]
      omega
    have hc : lf_cmp (nr (c :: r)) (0 : Int) = 1 := if_pos (by omega)
    rw [hc, if_neg (show ¬ (1 : Int) ≤ 0 from by decide), lol_div (by omega) hb, hd, lo_add (by omega) (by omega) (by omega) (by omega) (by omega) (by omega)]
    have hh := ih k (n + 1) h.2 (by omega) (by omega) (by have : r.length + 1 < k + 1 := hf; omega)
    rw [show n + 1 + r.length = n + (c :: r).length from by show n + 1 + r.length = n + (r.length + 1); omega] at hh
    exact hh
theorem lw_of : ∀ {r : List Int}, (∀ c, c ∈ r → 97 ≤ c ∧ c ≤ 122) → lw r
  | [], _ => True.intro
  | c :: r, h => ⟨h c (List.mem_cons_self ..), lw_of (fun d hd => h d (List.mem_cons_of_mem _ hd))⟩
theorem lw_w {w : List Int} (h : isW w) : lw w.reverse := by
  refine lw_of (fun c hc => ?_)
  obtain ⟨k, hk, e⟩ := List.getElem_of_mem (List.mem_reverse.mp hc)
  have := h.2 k hk
  rw [List.getD_eq_getElem?_getD, List.getElem?_eq_getElem hk] at this
  rw [← e]
  exact this
/-- a letter of a name that is kept as a number -/
theorem le_w {w : List Int} {p : Nat} (h : isW w) (hp : p < 6) : F_X10_letter_67 (p : Int) ((Int.toNat (v27 w)) + 1) (v27 w) (v27 w) (0 : Int) = nl w p := by
  have hl := lw_w h
  have hlen : w.reverse.length = w.length := List.length_reverse
  have h6 := h.1
  have h0 := nr_0 w.reverse hl
  have e := le_67 (p := (p : Int)) (V := nr w.reverse) w.reverse ((Int.toNat (nr w.reverse)) + 1) 0 hl (by omega) (by omega) (by omega)
  have e' : F_X10_letter_67 (p : Int) ((Int.toNat (v27 w)) + 1) (v27 w) (v27 w) (0 : Int) = if (p : Int) < ((0 + w.reverse.length : Nat) : Int) then F_X10_letter_102 (p : Int) 2147483648 (nr w.reverse) ((0 + w.reverse.length : Nat) : Int) (((0 + w.reverse.length : Nat) : Int) - (1 : Int)) else 0 := e
  rw [e', hlen]
  unfold nl
  by_cases q : p < w.length
  · rw [if_pos (by omega), if_pos q]
    have e2 := le_102 (p := (p : Int)) (n := ((0 + w.length : Nat) : Int)) (w.length - 1 - p) w.reverse 2147483648 hl (by omega) (by omega) (by omega)
    rw [show (p : Int) + ((w.length - 1 - p : Nat) : Int) = ((0 + w.length : Nat) : Int) - (1 : Int) from by omega] at e2
    rw [e2, List.getD_eq_getElem?_getD, List.getD_eq_getElem?_getD, List.getElem?_reverse (by omega), show w.length - 1 - (w.length - 1 - p) = p from by omega]
  · rw [if_neg (by omega), if_neg q]
/-- what letter answers -/
def leA (Ks Ws : List (List Int)) (p0 p1 p2 : Int) : Int := if (p0 = 0 ∧ 0 ≤ p1 ∧ p1 < (Ks.length : Int)) ∧ 0 ≤ p2 ∧ p2 ≤ 5 then nl (Ks.getD p1.toNat []) p2.toNat else if (p0 = 1 ∧ 0 ≤ p1 ∧ p1 < (Ws.length : Int)) ∧ 0 ≤ p2 ∧ p2 ≤ 5 then nl (Ws.getD p1.toNat []) p2.toNat else -1
theorem lx_le {N : Nat → Int} {Ks Ws : List (List Int)} {p0 p1 p2 : Int} (h : nms N Ks Ws) : F_X9_letter (Ks.length : Int) (Ws.length : Int) N p0 p1 p2 = leA Ks Ws p0 p1 p2 := by
  unfold F_X9_letter leA F_X9_isKind F_X9_isKind_19 F_X9_isWalker F_X9_isWalker_19
  have hK := h.2.2.1
  have hW := h.2.2.2.1
  by_cases a0 : p0 = 0
  · rw [if_pos a0, lf_b_e]
    by_cases b1 : p1 < 0
    · rw [if_pos b1, if_pos rfl, if_neg (by omega), if_neg (by omega)]
    · rw [if_neg b1]
      by_cases b2 : p1 < (Ks.length : Int)
      · rw [if_neg (show ¬ (Ks.length : Int) ≤ p1 from by omega), if_neg (show ¬ (1 : Int) = 0 from by decide)]
        by_cases c1 : p2 < 0
        · rw [if_pos c1, if_neg (by omega), if_neg (by omega)]
        · rw [if_neg c1]
          by_cases c2 : p2 < 6
          · rw [if_pos c2, if_pos ⟨⟨a0, by omega, b2⟩, by omega, by omega⟩, ← hK p1.toNat (by omega) p2.toNat (by omega), show Int.toNat (p1 * 6 + p2) = 6 * (0 + p1.toNat) + p2.toNat from by omega]
          · rw [if_neg c2, if_neg (by omega), if_neg (by omega)]
      · rw [if_pos (show (Ks.length : Int) ≤ p1 from by omega), if_pos rfl, if_neg (by omega), if_neg (by omega)]
  · rw [if_neg a0]
    by_cases a1 : p0 = 1
    · rw [if_pos a1, lf_b_e]
      by_cases b1 : p1 < 0
      · rw [if_pos b1, if_pos rfl, if_neg (by omega), if_neg (by omega)]
      · rw [if_neg b1]
        by_cases b2 : p1 < (Ws.length : Int)
        · rw [if_neg (show ¬ (Ws.length : Int) ≤ p1 from by omega), if_neg (show ¬ (1 : Int) = 0 from by decide)]
          by_cases c1 : p2 < 0
          · rw [if_pos c1, if_neg (by omega), if_neg (by omega)]
          · rw [if_neg c1]
            by_cases c2 : p2 < 6
            · rw [if_pos c2, if_neg (by omega), if_pos ⟨⟨a1, by omega, b2⟩, by omega, by omega⟩, ← hW p1.toNat (by omega) p2.toNat (by omega), show Int.toNat ((6 + p1) * 6 + p2) = 6 * (6 + p1.toNat) + p2.toNat from by omega]
            · rw [if_neg c2, if_neg (by omega), if_neg (by omega)]
        · rw [if_pos (show (Ws.length : Int) ≤ p1 from by omega), if_pos rfl, if_neg (by omega), if_neg (by omega)]
    · rw [if_neg a1, if_neg (by omega), if_neg (by omega)]
theorem lm_le {M N N0 : Nat → Int} {Ks Ws : List (List Int)} {p0 p1 p2 : Int} (hn : nms N0 Ks Ws) (h2 : M 2 = (Ks.length : Int)) (h3 : M 3 = (Ws.length : Int)) (hK : keptM N 24 Ks) (hW : keptM N 36 Ws) : F_X10_letter M N p0 p1 p2 = leA Ks Ws p0 p1 p2 := by
  unfold F_X10_letter leA F_X10_letter_42 lf_isin
  by_cases a0 : 0 ≤ p0 ∧ p0 ≤ 1
  · rw [if_pos a0, if_neg (show ¬ (1 : Int) = 0 from by decide)]
    rcases (by omega : p0 = 0 ∨ p0 = 1) with e | e
    · subst e
      rw [show Int.toNat ((2 : Int) + (0 : Int)) = 2 from rfl, h2]
      by_cases b : 0 ≤ p1 ∧ p1 ≤ (Ks.length : Int) - 1
      · rw [if_pos b, if_neg (show ¬ (1 : Int) = 0 from by decide)]
        by_cases c : 0 ≤ p2 ∧ p2 ≤ 5
        · obtain ⟨k, rfl⟩ := Int.eq_ofNat_of_zero_le c.1
          have hk := hK p1.toNat (by omega)
          rw [if_pos c, if_neg (show ¬ (1 : Int) = 0 from by decide), if_pos ⟨⟨rfl, b.1, by omega⟩, c⟩, show Int.toNat (((24 : Int) + ((12 : Int) * (0 : Int))) + p1) = 24 + p1.toNat from by omega, hk, Int.toNat_natCast]
          exact le_w (hn.1 p1.toNat (by omega)) (by omega)
        · rw [if_neg c, if_pos rfl, if_neg (fun r => c r.2), if_neg (fun r => c r.2)]
      · rw [if_neg b, if_pos rfl, if_neg (fun r => b ⟨r.1.2.1, by have := r.1.2.2; omega⟩), if_neg (fun r => absurd r.1.1 (by decide))]
    · subst e
      rw [show Int.toNat ((2 : Int) + (1 : Int)) = 3 from rfl, h3]
      by_cases b : 0 ≤ p1 ∧ p1 ≤ (Ws.length : Int) - 1
      · rw [if_pos b, if_neg (show ¬ (1 : Int) = 0 from by decide)]
        by_cases c : 0 ≤ p2 ∧ p2 ≤ 5
        · obtain ⟨k, rfl⟩ := Int.eq_ofNat_of_zero_le c.1
          have hk := hW p1.toNat (by omega)
          rw [if_pos c, if_neg (show ¬ (1 : Int) = 0 from by decide), if_neg (fun r => absurd r.1.1 (by decide)), if_pos ⟨⟨rfl, b.1, by omega⟩, c⟩, show Int.toNat (((24 : Int) + ((12 : Int) * (1 : Int))) + p1) = 36 + p1.toNat from by omega, hk, Int.toNat_natCast]
          exact le_w (hn.2.1 p1.toNat (by omega)) (by omega)
        · rw [if_neg c, if_pos rfl, if_neg (fun r => c r.2), if_neg (fun r => c r.2)]
      · rw [if_neg b, if_pos rfl, if_neg (fun r => absurd r.1.1 (by decide)), if_neg (fun r => b ⟨r.1.2.1, by have := r.1.2.2; omega⟩)]
  · rw [if_neg a0, if_pos rfl, if_neg (fun r => a0 (by have := r.1.1; omega)), if_neg (fun r => a0 (by have := r.1.1; omega))]
end
section
/-! 4r -/
/-- the reading of a question -/
def rqS (g : Nat → Int) (n : Nat) (c : CD) : ST := if wl g n ws_2 0 = -1 then .inl (1, (tx_a g n 0 : Int)) else sb (if 2 < wl g n ws_2 0 then (sSum g n 3707 6 (tx_e g n 0) c).1 else (sTest g n 3707 6 (tx_e g n 0) c).1) (fun p2 => if tx_k g n p2 = 0 then .inr p2 else .inl (1, (tx_a g n p2 : Int)))
theorem rq_63 {g : Nat → Int} {n : Nat} {r sz : Int} {A B C : Nat → Int} (s : ST) (hv : sv n s) : (F_X5_readQuestion_63 r (n : Int) (cst g n s).1 (cst g n s).2.1 (cst g n s).2.2.1 (cst g n s).2.2.2.1 (cst g n s).2.2.2.2 sz A B C).2.2.2.2.2.1 = (cst g n (sb s (fun p2 => if tx_k g n p2 = 0 then .inr p2 else .inl (1, (tx_a g n p2 : Int))))).2.2.2.1 ∧ (F_X5_readQuestion_63 r (n : Int) (cst g n s).1 (cst g n s).2.1 (cst g n s).2.2.1 (cst g n s).2.2.2.1 (cst g n s).2.2.2.2 sz A B C).2.2.2.2.2.2.1 = (cst g n (sb s (fun p2 => if tx_k g n p2 = 0 then .inr p2 else .inl (1, (tx_a g n p2 : Int))))).2.2.2.2 := by
  unfold F_X5_readQuestion_63 F_X5_readQuestion_79
  cases s with
  | inl q =>
    rw [if_pos (show (cst g n (.inl q)).2.2.1 = 0 from rfl)]
    exact ⟨rfl, rfl⟩
  | inr p =>
    show (if (tx_k g n p : Int) = 0 then _ else _ : Int × Int × Int × Int × Int × Int × Int × Int × (Nat → Int) × (Nat → Int) × (Nat → Int)).2.2.2.2.2.1 = (cst g n (if tx_k g n p = 0 then .inr p else .inl (1, (tx_a g n p : Int)))).2.2.2.1 ∧ (if (tx_k g n p : Int) = 0 then _ else _ : Int × Int × Int × Int × Int × Int × Int × Int × (Nat → Int) × (Nat → Int) × (Nat → Int)).2.2.2.2.2.2.1 = (cst g n (if tx_k g n p = 0 then .inr p else .inl (1, (tx_a g n p : Int)))).2.2.2.2
    by_cases q : tx_k g n p = 0
    · rw [if_pos (show (tx_k g n p : Int) = 0 from by omega), if_pos q]
      exact ⟨rfl, rfl⟩
    · rw [if_neg (show ¬ (tx_k g n p : Int) = 0 from by omega), if_neg q]
      exact ⟨rfl, rfl⟩
theorem cl_rq {g comers code spans : Nat → Int} {n : Nat} (hn : n ≤ 1600) : (F_X5_readQuestion g comers code spans (n : Int)).2.2.2.2.2.1 = (cst g n (rqS g n (0, code))).2.2.2.1 ∧ (F_X5_readQuestion g comers code spans (n : Int)).2.2.2.2.2.2.1 = (cst g n (rqS g n (0, code))).2.2.2.2 := by
  have hle := tx_e_le (f := g) (Nat.zero_le n)
  unfold F_X5_readQuestion rqS
  rw [cl_begin hn, lf_p_e, lf_p_e, lf_p_e, lf_p_e, lf_p_e, lf_b_e, cl_w_2, wl_c]
  by_cases q : wl g n ws_2 0 = -1
  · rw [if_pos q, if_pos q, cl_fail0, lf_p_e]
    unfold F_X5_readQuestion_63 F_X5_readQuestion_79
    rw [if_pos rfl]
    exact ⟨rfl, rfl⟩
  · rw [if_neg q, if_neg q, cl_mve hn (Nat.zero_le n), lf_p_e, lf_p_e]
    by_cases q2 : 2 < wl g n ws_2 0
    · rw [if_pos q2, if_pos q2]
      obtain ⟨d, e1, e2⟩ := su_0 (al := 3707) hn (.inr (tx_e g n 0)) (0, code) hle
      have e3 : F_X5_sum_a0_0 g (n : Int) (tx_a g n (tx_e g n 0) : Int) (tx_e g n (tx_e g n 0) : Int) (tx_k g n (tx_e g n 0) : Int) 3707 code (0 : Int) (0 : Int) (-1 : Int) = ap5 (cst g n (sSum g n 3707 6 (tx_e g n 0) (0, code)).1) d := e1
      rw [e3]
      exact rq_63 _ (sSum_ok 6 (tx_e g n 0) (0, code) hle).1
    · rw [if_neg q2, if_neg q2]
      obtain ⟨d, e1, e2⟩ := te_0 (al := 3707) hn (.inr (tx_e g n 0)) (0, code) hle
      have e3 : F_X5_test_a0_0 g (n : Int) (tx_a g n (tx_e g n 0) : Int) (tx_e g n (tx_e g n 0) : Int) (tx_k g n (tx_e g n 0) : Int) 3707 code (0 : Int) (0 : Int) (-1 : Int) = ap5 (cst g n (sTest g n 3707 6 (tx_e g n 0) (0, code)).1) d := e1
      rw [e3]
      exact rq_63 _ (sTest_ok 6 (tx_e g n 0) (0, code) hle).1
def W_first : List Int := [102, 105, 114, 115, 116]
def W_last : List Int := [108, 97, 115, 116]
def W_often : List Int := [111, 102, 116, 101, 110]
def W_total : List Int := [116, 111, 116, 97, 108]
def W_most : List Int := [109, 111, 115, 116]
/-- the model's word of a question -/
theorem qk_1 {g u1 u2 u3 u4 u5 u6 : Nat → Int} {n : Nat} {xa xe : Int} (hn : n ≤ 1600) (h1 : wa u1 W_first) (h2 : wa u2 W_last) (h3 : wa u3 W_often) (h4 : wa u4 W_total) (h5 : wa u5 W_most) (h6 : wa u6 W_least) (h : mp g n 0 xa xe) : rm5 g n (if wl g n ws_2 0 = -1 then 5 else wl g n ws_2 0, if wl g n ws_2 0 = -1 then .inl (1, (tx_a g n 0 : Int)) else .inr (tx_e g n 0)) (F_X10_qKind xa (n : Int) xe (0 : Int) (-1 : Int) g u1 u2 u3 u4 u5 u6) := by
  have ew : wl g n ws_2 0 = wlf g n 0 [W_first, W_last, W_often, W_total, W_most, W_least] 0 := (wlf_1 ws_2 0).symm
  have hpn := h.1
  unfold F_X10_qKind
  rw [F_X10_takes_r5_1 hn (W := W_first) rfl h1 h]
  rw [wlf_c] at ew
  cases c0 : wh g n W_first 0 with
  | true =>
    rw [c0, if_pos rfl] at ew
    have ew' : wl g n ws_2 0 = 0 := ew
    rw [if_pos rfl, lf_p_e, lf_p_e, if_neg (show ¬ (1 : Int) = 0 from by decide), ew', if_neg (show ¬ (0 : Int) = -1 from by decide), if_neg (show ¬ (0 : Int) = -1 from by decide)]
    exact ⟨⟨rfl, rfl, mp_tok hpn (wh_k c0).1 (Or.inl rfl)⟩, fun _ _ => rfl⟩
  | false =>
    rw [c0, if_neg (show ¬ false = true from fun r => Bool.noConfusion r)] at ew
    rw [if_neg (show ¬ false = true from fun r => Bool.noConfusion r), lf_p_e, lf_p_e, if_pos rfl]
    rw [F_X10_takes_r4_1 hn (W := W_last) rfl h2 (mp_a h)]
    rw [wlf_c] at ew
    cases c1 : wh g n W_last 0 with
    | true =>
      rw [c1, if_pos rfl] at ew
      have ew' : wl g n ws_2 0 = 1 := ew
      rw [if_pos rfl, lf_p_e, lf_p_e, if_neg (show ¬ (1 : Int) = 0 from by decide), ew', if_neg (show ¬ (1 : Int) = -1 from by decide), if_neg (show ¬ (1 : Int) = -1 from by decide)]
      exact ⟨⟨rfl, rfl, mp_tok hpn (wh_k c1).1 (Or.inl rfl)⟩, fun _ _ => rfl⟩
    | false =>
      rw [c1, if_neg (show ¬ false = true from fun r => Bool.noConfusion r)] at ew
      rw [if_neg (show ¬ false = true from fun r => Bool.noConfusion r), lf_p_e, lf_p_e, if_pos rfl]
      rw [F_X10_takes_r5_1 hn (W := W_often) rfl h3 (mp_a h)]
      rw [wlf_c] at ew
      cases c2 : wh g n W_often 0 with
      | true =>
        rw [c2, if_pos rfl] at ew
        have ew' : wl g n ws_2 0 = 2 := ew
        rw [if_pos rfl, lf_p_e, lf_p_e, if_neg (show ¬ (1 : Int) = 0 from by decide), ew', if_neg (show ¬ (2 : Int) = -1 from by decide), if_neg (show ¬ (2 : Int) = -1 from by decide)]
        exact ⟨⟨rfl, rfl, mp_tok hpn (wh_k c2).1 (Or.inl rfl)⟩, fun _ _ => rfl⟩
      | false =>
        rw [c2, if_neg (show ¬ false = true from fun r => Bool.noConfusion r)] at ew
        rw [if_neg (show ¬ false = true from fun r => Bool.noConfusion r), lf_p_e, lf_p_e, if_pos rfl]
        rw [F_X10_takes_r5_1 hn (W := W_total) rfl h4 (mp_a h)]
        rw [wlf_c] at ew
        cases c3 : wh g n W_total 0 with
        | true =>
          rw [c3, if_pos rfl] at ew
          have ew' : wl g n ws_2 0 = 3 := ew
          rw [if_pos rfl, lf_p_e, lf_p_e, if_neg (show ¬ (1 : Int) = 0 from by decide), ew', if_neg (show ¬ (3 : Int) = -1 from by decide), if_neg (show ¬ (3 : Int) = -1 from by decide)]
          exact ⟨⟨rfl, rfl, mp_tok hpn (wh_k c3).1 (Or.inl rfl)⟩, fun _ _ => rfl⟩
        | false =>
          rw [c3, if_neg (show ¬ false = true from fun r => Bool.noConfusion r)] at ew
          rw [if_neg (show ¬ false = true from fun r => Bool.noConfusion r), lf_p_e, lf_p_e, if_pos rfl]
          rw [F_X10_takes_r4_1 hn (W := W_most) rfl h5 (mp_a h)]
          rw [wlf_c] at ew
          cases c4 : wh g n W_most 0 with
          | true =>
            rw [c4, if_pos rfl] at ew
            have ew' : wl g n ws_2 0 = 4 := ew
            rw [if_pos rfl, lf_p_e, lf_p_e, if_neg (show ¬ (1 : Int) = 0 from by decide), ew', if_neg (show ¬ (4 : Int) = -1 from by decide), if_neg (show ¬ (4 : Int) = -1 from by decide)]
            exact ⟨⟨rfl, rfl, mp_tok hpn (wh_k c4).1 (Or.inl rfl)⟩, fun _ _ => rfl⟩
          | false =>
            rw [c4, if_neg (show ¬ false = true from fun r => Bool.noConfusion r)] at ew
            rw [if_neg (show ¬ false = true from fun r => Bool.noConfusion r), lf_p_e, lf_p_e, if_pos rfl]
            rw [wlf_c] at ew
            have ha := F_X10_asks_r5_s (W := W_least) (s := .inr 0) (xb := 0) (xp := -1) hn rfl h6 hpn ⟨rfl, rfl, mp_a h⟩
            have ha' : rm4 g n (sp_w g n [W_least] 0) _ := ha
            rw [sp_w1] at ha'
            generalize F_X10_asks_r5 (tx_a g n 0 : Int) (n : Int) xe (0 : Int) (-1 : Int) g u6 = R at ha' ⊢
            obtain ⟨r1, r2, r3, r4⟩ := R
            rw [lf_p_e, lf_p_e, lf_p_e]
            cases c5 : wh g n W_least 0 with
            | true =>
              rw [c5, if_pos rfl] at ew ha'
              have ew' : wl g n ws_2 0 = 5 := ew
              rw [ew', if_neg (show ¬ (5 : Int) = -1 from by decide), if_neg (show ¬ (5 : Int) = -1 from by decide)]
              exact ⟨ha', fun _ _ => rfl⟩
            | false =>
              rw [c5, if_neg (show ¬ false = true from fun r => Bool.noConfusion r)] at ew ha'
              have ew' : wl g n ws_2 0 = -1 := ew
              rw [if_pos ew', if_pos ew']
              exact ⟨ha', fun _ r => by cases r⟩
def afr (a b : Int) (O : Int × Int × Int × Int × Int × Int × Int × Int × Int × Int × Int × Int × Int × Int × Int × Int × Int × Int × Int × Int × Int × Int × Int × (Nat → Int) × (Nat → Int) × (Nat → Int) × (Nat → Int) × (Nat → Int) × (Nat → Int) × (Nat → Int) × (Nat → Int) × (Nat → Int) × (Nat → Int) × (Nat → Int) × (Nat → Int) × (Nat → Int)) : Prop := O.2.2.2.2.2.2.1 = a ∧ O.2.2.2.2.2.2.2.1 = b
theorem ask_192 {M bar kd wk now : Nat → Int} {n a b : Int} (hM : 0 ≤ M 3) (hM2 : M 3 ≤ 12) : ∀ (f : Nat) (l1 y2 y4 y5 y6 y58 y59 y70 y71 y72 y73 y74 y111 y113 y114 y117 : Int) (a22 a24 a27 a32 a34 a35 a36 a37 a38 a39 a40 a41 a43 : Nat → Int) (y118 l2 y119 : Int), 0 ≤ l2 → 12 - l2 < (f : Int) → 0 < f → afr a b (F_X10_ask_192 n M bar kd wk now f l1 y2 y4 y5 y6 a b y58 y59 y70 y71 y72 y73 y74 y111 y113 y114 y117 a22 a24 a27 a32 a34 a35 a36 a37 a38 a39 a40 a41 a43 y118 l2 y119) := by
  intro f
  induction f with
  | zero => intro l1 y2 y4 y5 y6 y58 y59 y70 y71 y72 y73 y74 y111 y113 y114 y117 a22 a24 a27 a32 a34 a35 a36 a37 a38 a39 a40 a41 a43 y118 l2 y119 h0 h1 h2; omega
  | succ f ih =>
    intro l1 y2 y4 y5 y6 y58 y59 y70 y71 y72 y73 y74 y111 y113 y114 y117 a22 a24 a27 a32 a34 a35 a36 a37 a38 a39 a40 a41 a43 y118 l2 y119 h0 h1 h2
    show afr a b (F_X10_ask_192b n M bar kd wk now (F_X10_ask_192 n M bar kd wk now f) l1 y2 y4 y5 y6 a b y58 y59 y70 y71 y72 y73 y74 y111 y113 y114 y117 a22 a24 a27 a32 a34 a35 a36 a37 a38 a39 a40 a41 a43 y118 l2 y119)
    unfold F_X10_ask_192b
    refine lf_bI (Q := afr a b) (fun _ => ?_)
    refine lf_iI (Q := afr a b) (fun _ => ⟨rfl, rfl⟩) (fun q => ?_)
    refine lf_pI (Q := afr a b) (fun _ _ => ?_)
    refine lf_pI (Q := afr a b) (fun _ _ => ?_)
    refine lf_bI (Q := afr a b) (fun _ => ?_)
    exact ih _ _ _ _ _ _ _ _ _ _ _ _ _ _ _ _ _ _ _ _ _ _ _ _ _ _ _ _ _ _ _ _ (by omega) (by omega) (by omega)
end
section
/-! 4s -/
theorem ma_1 {g M vnot vand vor vall vmin vmax v1 v2 v3 v4 v5 v6 v7 v8 v9 v10 v11 v12 v13 u1 u2 u3 u4 u5 u6 z_bar z_kinds z_walkers z_codeFrom z_codeEnd z_codes z_now z_isCar z_gaps z_isGreen z_isHere z_crosses z_waits z_goes z_harms z_presses z_crossedIn z_qCodes z_qWait z_qPile : Nat → Int} {isc z_at z_end z_ended z_bad z_badPlace z_fault z_faultPlace z_textKind z_askSecond z_redMany z_isOpen z_lastGreen z_greenTo z_isCycleGreen z_stillGreen z_qCoded z_qWaits z_qOpened z_qBase z_qPiled z_qAnswer z_qIsNew : Int} {n : Nat} (c : CD) (hn : n ≤ 1600) (hg : ∀ k, k < n → 0 ≤ g k) (hq : qw v1 v2 v3 v4 v5 v6 v7 v8 v9 v10 v11 v12 v13) (hnot : wa vnot W_not) (hand : wa vand W_and) (hor : wa vor W_or) (hall : wa vall W_all) (hmin : wa vmin W_min) (hmax : wa vmax W_max) (h1 : wa u1 W_first) (h2 : wa u2 W_last) (h3 : wa u3 W_often) (h4 : wa u4 W_total) (h5 : wa u5 W_most) (h6 : wa u6 W_least) (hM : 0 ≤ M 3) (hM2 : M 3 ≤ 12) (hi : ¬ isc = 0) : afr (cst g n (rqS g n c)).2.2.2.1 (cst g n (rqS g n c)).2.2.2.2 (F_X10_ask (n : Int) z_at z_end z_ended z_bad z_badPlace z_fault z_faultPlace isc z_textKind z_askSecond z_redMany z_isOpen z_lastGreen z_greenTo z_isCycleGreen z_stillGreen z_qCoded z_qWaits z_qOpened z_qBase z_qPiled z_qAnswer z_qIsNew g M z_bar z_kinds z_walkers z_codeFrom z_codeEnd z_codes z_now z_isCar z_gaps z_isGreen z_isHere z_crosses z_waits z_goes z_harms z_presses z_crossedIn u1 u2 u3 u4 u5 u6 vnot vand vor vall vmin vmax v1 v2 v3 v4 v5 v6 v7 v8 v9 v10 v11 v12 v13 z_qCodes z_qWait z_qPile) := by
  have h0 : mp g n 0 (0 : Int) (-1 : Int) := ⟨Nat.zero_le _, ⟨0, rfl, Nat.le_refl _, Nat.zero_le _, rfl⟩, (by decide), ⟨fun r => absurd r (by decide), fun r => absurd rfl r.1⟩⟩
  have hle := tx_e_le (f := g) (Nat.zero_le n)
  have hk := qk_1 hn h1 h2 h3 h4 h5 h6 h0
  unfold F_X10_ask
  rw [if_neg hi]
  generalize F_X10_qKind (0 : Int) (n : Int) (-1 : Int) (0 : Int) (-1 : Int) g u1 u2 u3 u4 u5 u6 = R at hk ⊢
  obtain ⟨r1, r2, r3, r4, r5⟩ := R
  rw [lf_p_e, lf_p_e, lf_p_e, lf_p_e]
  unfold rqS
  by_cases q : wl g n ws_2 0 = -1
  · rw [if_pos q, if_pos q] at hk
    obtain ⟨⟨k1, k2⟩, _⟩ := hk
    have k1' : r4 = 1 := k1
    have k2' : r5 = (tx_a g n 0 : Int) := k2
    rw [if_pos q, if_neg (show ¬ r4 = 0 from by omega)]
    exact ⟨k1', k2'⟩
  · rw [if_neg q, if_neg q] at hk
    obtain ⟨⟨k1, k2, k3⟩, k4⟩ := hk
    have k1' : r4 = 0 := k1
    have k2' : r5 = -1 := k2
    have k4' : r1 = wl g n ws_2 0 := k4 _ rfl
    have k3' : mp g n (tx_e g n 0) r2 r3 := k3
    subst k1'
    subst k2'
    rw [if_neg q, if_pos rfl]
    have tk : tkA 3 3707 := Or.inr (Or.inr (Or.inr ⟨rfl, rfl⟩))
    by_cases q2 : 3 ≤ r1
    · rw [if_pos q2, if_pos (show 2 < wl g n ws_2 0 from by omega)]
      have hs := q_sums (B := []) (o0 := 0) (d := 0) (al := 3707) (tk := 3) hn (show ¬ (1 ≤ (0 : Int) ∧ (0 : Int) ≤ 4) from by decide) hq hmin hmax tk (p := tx_e g n 0) (cd := z_qCodes) (w := z_qWait) ⟨True.intro, rfl, Int.le_refl _, (by decide), (by show (0 : Int) + ((0 : Nat) : Int) + ((0 : Nat) : Int) ≤ _; omega), Int.le_refl _, k3', rfl, rfl, rfl, rfl, True.intro⟩
      have hs' : qU g n [] 0 0 (RR g n 3707 true [] 0 (tx_e g n 0)) (tx_e g n 0) (F_X10_qSums r2 (n : Int) r3 (0 : Int) (-1 : Int) (3 : Int) (0 : Int) (0 : Int) (0 : Int) g vmin vmax v1 v2 v3 v4 v5 v6 v7 v8 v9 v10 v11 v12 v13 z_qCodes z_qWait) := hs
      rw [show RR g n 3707 true [] 0 (tx_e g n 0) = (sSum g n 3707 6 (tx_e g n 0) c).1 from sum_eq (g := g) (al := 3707) hn 6 (Nat.le_refl _) (tx_e g n 0) c hle] at hs'
      generalize F_X10_qSums r2 (n : Int) r3 (0 : Int) (-1 : Int) (3 : Int) (0 : Int) (0 : Int) (0 : Int) g vmin vmax v1 v2 v3 v4 v5 v6 v7 v8 v9 v10 v11 v12 v13 z_qCodes z_qWait = R at hs' ⊢
      obtain ⟨y1, y2, y3, y4, y5, y6, y7, y8, y9⟩ := R
      rw [lf_p_e, lf_p_e, lf_p_e, lf_p_e, lf_p_e, lf_p_e, lf_p_e, lf_p_e]
      rcases hs' with ⟨q, e, q1, q2, q3⟩ | ⟨p2, e, hlt, hs⟩
      · have q2' : y3 = q.1 := q2
        rw [if_neg (show ¬ y3 = 0 from fun r => q1 (q2'.symm.trans r)), e]
        exact ⟨q2, q3⟩
      · have hsq : qS g n [] 0 0 [] 0 p2 y1 y2 y3 y4 y5 y6 y7 y8 := hs
        obtain ⟨s1, s2, s3, s4, s5, s6, s7, s8, s9, s10, s11, s12⟩ := hsq
        subst s8
        subst s9
        rw [if_pos rfl, ml_look hn s7, lf_p_e, e]
        by_cases q3 : tx_k g n p2 = 0
        · rw [if_pos ((lk_end s7.1 hg).mpr q3), show sb (.inr p2 : ST) (fun p2 => if tx_k g n p2 = 0 then .inr p2 else .inl (1, (tx_a g n p2 : Int))) = .inr p2 from if_pos q3]
          show afr (0 : Int) (-1 : Int) _
          repeat' (first | (with_reducible refine lf_pI (Q := afr (0 : Int) (-1 : Int)) (fun _ _ => ?_)) | (with_reducible refine lf_iI (Q := afr (0 : Int) (-1 : Int)) (fun _ => ?_) (fun _ => ?_)))
          all_goals exact ask_192 hM hM2 14 _ _ _ _ _ _ _ _ _ _ _ _ _ _ _ _ _ _ _ _ _ _ _ _ _ _ _ _ _ _ _ _ (Int.le_refl _) (by decide) (by decide)
        · rw [if_neg (fun r => q3 ((lk_end s7.1 hg).mp r)), show sb (.inr p2 : ST) (fun p2 => if tx_k g n p2 = 0 then .inr p2 else .inl (1, (tx_a g n p2 : Int))) = .inl (1, (tx_a g n p2 : Int)) from if_neg q3]
          exact ⟨rfl, rfl⟩
    · rw [if_neg q2, if_neg (show ¬ 2 < wl g n ws_2 0 from by omega)]
      have hs' : qU g n [] 0 0 (TT g n 3707 true [] 0 (tx_e g n 0)) (tx_e g n 0) (F_X10_qTest r2 (n : Int) r3 (0 : Int) (-1 : Int) (3 : Int) (0 : Int) (0 : Int) (0 : Int) g vnot vand vor vall vmin vmax v1 v2 v3 v4 v5 v6 v7 v8 v9 v10 v11 v12 v13 z_qCodes z_qWait) := q_test (al := 3707) (tk := 3) (d := 0) hn hq hnot hand hor hall hmin hmax tk (cd := z_qCodes) (w := z_qWait) k3' (Nat.zero_le _)
      rw [show TT g n 3707 true [] 0 (tx_e g n 0) = (sTest g n 3707 6 (tx_e g n 0) c).1 from test_eq (g := g) (al := 3707) hn 6 (Nat.le_refl _) (tx_e g n 0) c hle] at hs'
      generalize F_X10_qTest r2 (n : Int) r3 (0 : Int) (-1 : Int) (3 : Int) (0 : Int) (0 : Int) (0 : Int) g vnot vand vor vall vmin vmax v1 v2 v3 v4 v5 v6 v7 v8 v9 v10 v11 v12 v13 z_qCodes z_qWait = R at hs' ⊢
      obtain ⟨y1, y2, y3, y4, y5, y6, y7, y8, y9⟩ := R
      rw [lf_p_e, lf_p_e, lf_p_e, lf_p_e, lf_p_e, lf_p_e, lf_p_e, lf_p_e]
      rcases hs' with ⟨q, e, q1, q2, q3⟩ | ⟨p2, e, hlt, hs⟩
      · have q2' : y3 = q.1 := q2
        rw [if_neg (show ¬ y3 = 0 from fun r => q1 (q2'.symm.trans r)), e]
        exact ⟨q2, q3⟩
      · have hsq : qS g n [] 0 0 [] 0 p2 y1 y2 y3 y4 y5 y6 y7 y8 := hs
        obtain ⟨s1, s2, s3, s4, s5, s6, s7, s8, s9, s10, s11, s12⟩ := hsq
        subst s8
        subst s9
        rw [if_pos rfl, ml_look hn s7, lf_p_e, e]
        by_cases q3 : tx_k g n p2 = 0
        · rw [if_pos ((lk_end s7.1 hg).mpr q3), show sb (.inr p2 : ST) (fun p2 => if tx_k g n p2 = 0 then .inr p2 else .inl (1, (tx_a g n p2 : Int))) = .inr p2 from if_pos q3]
          show afr (0 : Int) (-1 : Int) _
          repeat' (first | (with_reducible refine lf_pI (Q := afr (0 : Int) (-1 : Int)) (fun _ _ => ?_)) | (with_reducible refine lf_iI (Q := afr (0 : Int) (-1 : Int)) (fun _ => ?_) (fun _ => ?_)))
          all_goals exact ask_192 hM hM2 14 _ _ _ _ _ _ _ _ _ _ _ _ _ _ _ _ _ _ _ _ _ _ _ _ _ _ _ _ _ _ _ _ (Int.le_refl _) (by decide) (by decide)
        · rw [if_neg (fun r => q3 ((lk_end s7.1 hg).mp r)), show sb (.inr p2 : ST) (fun p2 => if tx_k g n p2 = 0 then .inr p2 else .inl (1, (tx_a g n p2 : Int))) = .inl (1, (tx_a g n p2 : Int)) from if_neg q3]
          exact ⟨rfl, rfl⟩
end
section
/-! 4t -/
/-- fault and place behind the class's ask -/
def afx (a b : Int) (O : Int × Int × Int × Int × Int × Int × Nat × Int × Int × Int × Int × Int × Int × Int × Int × (Nat → Int) × (Nat → Int) × (Nat → Int) × Int × Int × Int × Int × Int × Int × Int × Int × (Nat → Int) × (Nat → Int) × (Nat → Int) × (Nat → Int) × (Nat → Int) × (Nat → Int) × (Nat → Int) × (Nat → Int)) : Prop := O.2.2.2.2.2.2.2.1 = a ∧ O.2.2.2.2.2.2.2.2.1 = b
theorem ax_0 {g co code spans z_plan_calm z_plan_pace z_plan_kindOf z_plan_comesAt z_plan_comers z_plan_code z_plan_spans z_now_trusts z_machine_facts z_machine_stack z_street_trusts z_street_cars z_street_gaps z_street_known z_street_left z_street_leaves : Nat → Int} {cy fa pl z_plan_least z_plan_kinds z_plan_walkers z_spare_cycle z_spare_away z_spare_statements z_spare_kinds z_spare_walkers z_spare_size z_now_day z_now_rule z_now_green z_reader_length z_reader_at z_reader_behind z_reader_sort z_reader_allowed z_street_day z_street_rule z_street_green z_street_absent z_street_asksReds z_street_pressed z_street_crossed z_street_went z_street_harmed : Int} {z_spare z_reader_plan : Nat} {n : Nat} (hc : cy ≤ 0) : afx fa pl (F_X9_ask g (n : Int) cy z_plan_least z_plan_kinds z_plan_calm z_plan_pace z_plan_walkers z_plan_kindOf z_plan_comesAt z_plan_comers z_plan_code z_plan_spans z_spare z_spare_cycle z_spare_away z_spare_statements z_spare_kinds z_spare_walkers co code z_spare_size spans z_now_day z_now_rule z_now_green z_now_trusts z_machine_facts z_machine_stack z_reader_plan z_reader_length z_reader_at z_reader_behind z_reader_sort z_reader_allowed fa pl z_street_day z_street_trusts z_street_rule z_street_green z_street_absent z_street_asksReds z_street_cars z_street_gaps z_street_known z_street_left z_street_leaves z_street_pressed z_street_crossed z_street_went z_street_harmed) := by
  unfold F_X9_ask F_X9_takeTape F_X9_stands
  rw [lf_b_e, lf_b_e, if_pos hc, if_pos rfl]
  exact ⟨rfl, rfl⟩
theorem ax_1 {g co code spans z_plan_calm z_plan_pace z_plan_kindOf z_plan_comesAt z_plan_comers z_plan_code z_plan_spans z_now_trusts z_machine_facts z_machine_stack z_street_trusts z_street_cars z_street_gaps z_street_known z_street_left z_street_leaves : Nat → Int} {cy fa pl z_plan_least z_plan_kinds z_plan_walkers z_spare_cycle z_spare_away z_spare_statements z_spare_kinds z_spare_walkers z_spare_size z_now_day z_now_rule z_now_green z_reader_length z_reader_at z_reader_behind z_reader_sort z_reader_allowed z_street_day z_street_rule z_street_green z_street_absent z_street_asksReds z_street_pressed z_street_crossed z_street_went z_street_harmed : Int} {z_spare z_reader_plan : Nat} {n : Nat} (hn : n ≤ 1600) (hc : ¬ cy ≤ 0) : afx (cst g n (rqS g n (0, code))).2.2.2.1 (cst g n (rqS g n (0, code))).2.2.2.2 (F_X9_ask g (n : Int) cy z_plan_least z_plan_kinds z_plan_calm z_plan_pace z_plan_walkers z_plan_kindOf z_plan_comesAt z_plan_comers z_plan_code z_plan_spans z_spare z_spare_cycle z_spare_away z_spare_statements z_spare_kinds z_spare_walkers co code z_spare_size spans z_now_day z_now_rule z_now_green z_now_trusts z_machine_facts z_machine_stack z_reader_plan z_reader_length z_reader_at z_reader_behind z_reader_sort z_reader_allowed fa pl z_street_day z_street_trusts z_street_rule z_street_green z_street_absent z_street_asksReds z_street_cars z_street_gaps z_street_known z_street_left z_street_leaves z_street_pressed z_street_crossed z_street_went z_street_harmed) := by
  have h := cl_rq (g := g) (comers := co) (code := code) (spans := spans) hn
  unfold F_X9_ask F_X9_takeTape F_X9_stands
  rw [lf_b_e, lf_b_e, if_neg hc, if_neg (show ¬ (1 : Int) = 0 from by decide)]
  generalize F_X5_readQuestion g co code spans (n : Int) = R at h ⊢
  obtain ⟨r1, r2, r3, r4, r5, r6, r7, r8, r9, r10, r11⟩ := R
  rw [lf_p_e, lf_p_e, lf_p_e, lf_p_e, lf_p_e, lf_p_e, lf_p_e, lf_p_e, lf_p_e, lf_p_e]
  have h6 : r6 = (cst g n (rqS g n (0, code))).2.2.2.1 := h.1
  have h7 : r7 = (cst g n (rqS g n (0, code))).2.2.2.2 := h.2
  generalize (cst g n (rqS g n (0, code))).2.2.2.1 = A at h6 ⊢
  generalize (cst g n (rqS g n (0, code))).2.2.2.2 = B at h7 ⊢
  subst h6
  subst h7
  refine lf_iI (Q := afx r6 r7) (fun _ => ?_) (fun _ => ⟨rfl, rfl⟩)
  repeat' (with_reducible refine lf_pI (Q := afx r6 r7) (fun _ _ => ?_))
  exact ⟨rfl, rfl⟩
end
section
/-! 5a -/
/-! codes as lists (the model's numbers), read by levels -/
abbrev SL : Type := Sum (Int × Int) (Nat × List Int)
def bL (s : SL) (k : Nat → List Int → SL) : SL := match s with
  | .inl q => .inl q
  | .inr x => k x.1 x.2
def ndL (s : ST) (k : Nat → SL) : SL := match s with
  | .inl q => .inl q
  | .inr p => k p
def toC (m : Int) : Int := if 1000 ≤ m then m - 1000 else if m = 60 then -32 else if 40 ≤ m then -1 - (m - 40) else if m = 13 then 1 else -19 - m
def ems (c : CD) : List Int → CD
  | [] => c
  | a :: L => ems (em c a) L
theorem ems_app : ∀ (L K : List Int) (c : CD), ems c (L ++ K) = ems (ems c L) K
  | [], _, _ => rfl
  | a :: L, K, c => ems_app L K (em c a)
section ML
variable (g : Nat → Int) (n : Nat) (al : Int)
def numM (p : Nat) : SL := ndL (sp_num g n 0 9999 p).2 (fun q => .inr (q, [1000 + (sp_num g n 0 9999 p).1]))
def pwM (p : Nat) : SL := if wl g n ws_20 p = -1 ∨ lf_o lf_iand (lf_o lf_ishr al (wl g n ws_20 p)) 1 = 0 then .inl (1, (tx_a g n p : Int)) else .inr (tx_e g n p, [40 + wl g n ws_20 p])
def needM (c : Int) (p : Nat) (L : List Int) : SL := ndL (sp_need g n c p) (fun q => .inr (q, L))
def opnM (b : Bool) (p : Nat) (k : Nat → SL) : SL := if b = true then k (tx_e g n p) else .inl (4, (tx_a g n p : Int))
def pairM (b : Bool) (S : Nat → SL) (op : Int) (p : Nat) : SL := if tx_k g n p = 3 ∧ g (tx_a g n p) = 40 then opnM g n b p (fun p1 => bL (S p1) (fun q1 L1 => ndL (sp_need g n 44 q1) (fun q2 => bL (S q2) (fun q3 L2 => needM g n 41 q3 (L1 ++ L2 ++ [op]))))) else .inl (1, (tx_a g n p : Int))
def partM (b : Bool) (S P : Nat → SL) (p : Nat) : SL := if tx_k g n p = 2 then numM g n p else if tx_k g n p = 3 ∧ g (tx_a g n p) = 40 then opnM g n b p (fun p1 => bL (S p1) (fun q L => needM g n 41 q L)) else if ¬ wl g n ws_17 p = -1 then pairM g n b S 5 (tx_e g n p) else if ¬ wl g n ws_18 p = -1 then pairM g n b S 6 (tx_e g n p) else if al = 3707 ∧ ¬ wl g n ws_19 p = -1 then opnM g n b p (fun p1 => bL (P p1) (fun q L => .inr (q, L ++ [60]))) else pwM g n al p
def lpM (S : Nat → SL) (c1 c2 o1 o2 : Int) : Nat → Nat → List Int → SL
  | 0, p, L => .inr (p, L)
  | m + 1, p, L => if tx_k g n p = 3 ∧ g (tx_a g n p) = c1 then bL (S (tx_e g n p)) (fun q K => lpM S c1 c2 o1 o2 m q (L ++ K ++ [o1])) else if tx_k g n p = 3 ∧ g (tx_a g n p) = c2 then bL (S (tx_e g n p)) (fun q K => lpM S c1 c2 o1 o2 m q (L ++ K ++ [o2])) else .inr (p, L)
def sL (S : Nat → SL) (c1 c2 o1 o2 : Int) (p : Nat) : SL := bL (S p) (lpM g n S c1 c2 o1 o2 1602)
def lvM (S : Nat → SL) (ws : List (List Int)) (op : Int) : Nat → Nat → List Int → SL
  | 0, p, L => .inr (p, L)
  | m + 1, p, L => if wl g n ws p = -1 then .inr (p, L) else bL (S (tx_e g n p)) (fun q K => lvM S ws op m q (L ++ K ++ [op]))
def vL (S : Nat → SL) (ws : List (List Int)) (op : Int) (p : Nat) : SL := bL (S p) (lvM g n S ws op 1602)
def cmpM (S : Nat → SL) (p : Nat) : SL := bL (S p) (fun q L => ndL (sp_sg g n q).2 (fun q2 => bL (S q2) (fun q3 K => .inr (q3, L ++ K ++ [-19 - (sp_sg g n q).1]))))
def factM (b : Bool) (S T Fq : Nat → SL) (p : Nat) : SL := if ¬ wl g n ws_15 p = -1 then opnM g n b p (fun p1 => bL (Fq p1) (fun q L => .inr (q, L ++ [12]))) else if tx_k g n p = 3 ∧ g (tx_a g n p) = 91 then opnM g n b p (fun p1 => bL (T p1) (fun q L => needM g n 93 q L)) else if ¬ wl g n ws_16 p = -1 then .inr (tx_e g n p, [13]) else cmpM g n S p
def dmM : Nat → SL := fun _ => .inl (4, 0)
def mPart : Nat → Nat → SL
  | 0 => partM g n al false dmM dmM
  | d + 1 => partM g n al true (sL g n (sL g n (mPart d) 42 47 3 4) 43 45 1 2) (mPart d)
def mSum (d : Nat) : Nat → SL := sL g n (sL g n (mPart g n al d) 42 47 3 4) 43 45 1 2
def mFact : Nat → Nat → SL
  | 0 => factM g n false (mSum g n al 0) dmM dmM
  | d + 1 => factM g n true (mSum g n al (d + 1)) (vL g n (vL g n (mFact d) ws_14 10) ws_13 11) (mFact d)
def mTest (d : Nat) : Nat → SL := vL g n (vL g n (mFact g n al d) ws_14 10) ws_13 11
end ML
/-- the class's reading writes the same codes in its own numbers -/
def rlC (x : ST × CD) (y : SL) (c : CD) : Prop := match y with
  | .inl q => x.1 = .inl q
  | .inr z => x = (.inr z.1, ems c (z.2.map toC))
def rlA (n : Nat) (sp : Nat → CD → ST × CD) (S : Nat → SL) : Prop := ∀ p c, p ≤ n → rlC (sp p c) (S p) c
section MR
variable {g : Nat → Int} {n : Nat} {al : Int}
theorem rl_b {x : ST × CD} {y : SL} {c : CD} {k : Nat → CD → ST × CD} {k2 : Nat → List Int → SL} (h : rlC x y c) (hk : ∀ q L, x.1 = .inr q → y = .inr (q, L) → rlC (k q (ems c (L.map toC))) (k2 q L) c) : rlC (sbC x.1 x.2 k) (bL y k2) c := by
  cases y with
  | inl q =>
    have h' : x.1 = .inl q := h
    rw [h']
    rfl
  | inr z =>
    obtain ⟨q, L⟩ := z
    have h' : x = (.inr q, ems c (L.map toC)) := h
    rw [h']
    exact hk q L (by rw [h']) rfl
theorem rl_ndl {s : ST} {c d : CD} {k : Nat → CD → ST × CD} {k2 : Nat → SL} (h : ∀ q, s = .inr q → rlC (k q d) (k2 q) c) : rlC (sbC s d k) (ndL s k2) c := by
  cases s with
  | inl q => rfl
  | inr q => exact h q rfl
theorem rl_need {s : ST} {L : List Int} {c : CD} {ch : Int} {x : ST × CD} (h : x = (s, ems c (L.map toC))) : rlC (sb x.1 (sp_need g n ch), x.2) (bL (match (generalizing := false) s with | .inl q => .inl q | .inr p => .inr (p, L)) (fun q L => needM g n ch q L)) c := by
  rw [h]
  cases s with
  | inl q => rfl
  | inr p =>
    show rlC (sp_need g n ch p, ems c (L.map toC)) (needM g n ch p L) c
    unfold needM
    cases sp_need g n ch p with
    | inl q => rfl
    | inr q => rfl
theorem toC_n {v : Int} (h : 0 ≤ v) : toC (1000 + v) = v := by
  unfold toC
  rw [if_pos (by omega)]
  omega
theorem toC_w {w : Int} (h0 : 0 ≤ w) (h1 : w < 12) : toC (40 + w) = -1 - w := by
  unfold toC
  rw [if_neg (by omega), if_neg (by omega), if_pos (by omega)]
  omega
theorem toC_o {m : Int} (h0 : 1 ≤ m) (h1 : m ≤ 12) : toC m = -19 - m := by
  unfold toC
  rw [if_neg (by omega), if_neg (by omega), if_neg (by omega), if_neg (by omega)]
theorem ems_1 {c : CD} {L : List Int} {m a : Int} (h : toC m = a) : ems c ((L ++ [m]).map toC) = em (ems c (L.map toC)) a := by
  rw [List.map_append, ems_app]
  show em (ems c (L.map toC)) (toC m) = _
  rw [h]
theorem ems_2 {c : CD} {L K : List Int} {m a : Int} (h : toC m = a) : ems c ((L ++ K ++ [m]).map toC) = em (ems (ems c (L.map toC)) (K.map toC)) a := by
  rw [ems_1 h, List.map_append, ems_app]
theorem lp_rl {sp : Nat → CD → ST × CD} {S : Nat → SL} {c1 c2 o1 o2 a1 a2 : Int} (h : rlA n sp S) (hok : okR n sp) (h1 : toC o1 = a1) (h2 : toC o2 = a2) : ∀ (m p : Nat) (L : List Int) (c : CD), p ≤ n → rlC (lpS g n sp c1 c2 a1 a2 m p (ems c (L.map toC))) (lpM g n S c1 c2 o1 o2 m p L) c := by
  intro m
  induction m with
  | zero => intro p L c hp; rfl
  | succ m ih =>
    intro p L c hp
    have hle := tx_e_le (f := g) hp
    have step : ∀ o a, toC o = a → rlC (sbC (sp (tx_e g n p) (ems c (L.map toC))).1 (sp (tx_e g n p) (ems c (L.map toC))).2 (fun p2 d => lpS g n sp c1 c2 a1 a2 m p2 (em d a))) (bL (S (tx_e g n p)) (fun q K => lpM g n S c1 c2 o1 o2 m q (L ++ K ++ [o]))) c := by
      intro o a ho
      have hs := h (tx_e g n p) (ems c (L.map toC)) hle
      have hv := (hok (tx_e g n p) (ems c (L.map toC)) hle).1
      cases e : S (tx_e g n p) with
      | inl q =>
        rw [e] at hs
        have hs' : (sp (tx_e g n p) (ems c (L.map toC))).1 = .inl q := hs
        rw [hs']
        rfl
      | inr z =>
        obtain ⟨q, K⟩ := z
        rw [e] at hs
        have hs' : sp (tx_e g n p) (ems c (L.map toC)) = (.inr q, ems (ems c (L.map toC)) (K.map toC)) := hs
        rw [hs'] at hv ⊢
        show rlC (lpS g n sp c1 c2 a1 a2 m q (em (ems (ems c (L.map toC)) (K.map toC)) a)) (lpM g n S c1 c2 o1 o2 m q (L ++ K ++ [o])) c
        rw [← ems_2 ho]
        exact ih q (L ++ K ++ [o]) c hv
    unfold lpS lpM
    by_cases q1 : tx_k g n p = 3 ∧ g (tx_a g n p) = c1
    · rw [if_pos q1, if_pos q1]
      exact step o1 a1 h1
    · rw [if_neg q1, if_neg q1]
      by_cases q2 : tx_k g n p = 3 ∧ g (tx_a g n p) = c2
      · rw [if_pos q2, if_pos q2]
        exact step o2 a2 h2
      · rw [if_neg q2, if_neg q2]
        rfl
theorem spL_rl {sp : Nat → CD → ST × CD} {S : Nat → SL} {c1 c2 o1 o2 a1 a2 : Int} (h : rlA n sp S) (hok : okR n sp) (h1 : toC o1 = a1) (h2 : toC o2 = a2) : rlA n (spL g n sp c1 c2 a1 a2) (sL g n S c1 c2 o1 o2) := by
  intro p c hp
  unfold spL sL
  refine rl_b (h p c hp) (fun q L e1 e2 => ?_)
  exact lp_rl h hok h1 h2 1602 q L c (sv_le (hok p c hp).1 e1)
theorem lv_rl {sp : Nat → CD → ST × CD} {S : Nat → SL} {ws : List (List Int)} {o a : Int} (h : rlA n sp S) (hok : okR n sp) (ho : toC o = a) : ∀ (m p : Nat) (L : List Int) (c : CD), p ≤ n → rlC (lpV g n sp ws a m p (ems c (L.map toC))) (lvM g n S ws o m p L) c := by
  intro m
  induction m with
  | zero => intro p L c hp; rfl
  | succ m ih =>
    intro p L c hp
    have hle := tx_e_le (f := g) hp
    unfold lpV lvM
    by_cases q1 : wl g n ws p = -1
    · rw [if_pos q1, if_pos q1]
      rfl
    · rw [if_neg q1, if_neg q1]
      have hs := h (tx_e g n p) (ems c (L.map toC)) hle
      have hv := (hok (tx_e g n p) (ems c (L.map toC)) hle).1
      cases e : S (tx_e g n p) with
      | inl q =>
        rw [e] at hs
        have hs' : (sp (tx_e g n p) (ems c (L.map toC))).1 = .inl q := hs
        rw [hs']
        rfl
      | inr z =>
        obtain ⟨q, K⟩ := z
        rw [e] at hs
        have hs' : sp (tx_e g n p) (ems c (L.map toC)) = (.inr q, ems (ems c (L.map toC)) (K.map toC)) := hs
        rw [hs'] at hv ⊢
        show rlC (lpV g n sp ws a m q (em (ems (ems c (L.map toC)) (K.map toC)) a)) (lvM g n S ws o m q (L ++ K ++ [o])) c
        rw [← ems_2 ho]
        exact ih q (L ++ K ++ [o]) c hv
theorem spV_rl {sp : Nat → CD → ST × CD} {S : Nat → SL} {ws : List (List Int)} {o a : Int} (h : rlA n sp S) (hok : okR n sp) (ho : toC o = a) : rlA n (spV g n sp ws a) (vL g n S ws o) := by
  intro p c hp
  unfold spV vL
  refine rl_b (h p c hp) (fun q L e1 e2 => ?_)
  exact lv_rl h hok ho 1602 q L c (sv_le (hok p c hp).1 e1)
theorem opn_rl {b : Bool} {p : Nat} {c : CD} {k : Nat → CD → ST × CD} {k2 : Nat → SL} (h : b = true → rlC (k (tx_e g n p) c) (k2 (tx_e g n p)) c) : rlC (opn g n b p c k) (opnM g n b p k2) c := by
  unfold opn opnM
  cases b with
  | true =>
    rw [if_pos rfl, if_pos rfl]
    exact h rfl
  | false =>
    rw [if_neg (fun r => Bool.noConfusion r), if_neg (fun r => Bool.noConfusion r)]
    rfl
theorem pair_rl {b : Bool} {sp : Nat → CD → ST × CD} {S : Nat → SL} {o a : Int} (h : b = true → rlA n sp S ∧ okR n sp) (ho : toC o = a) : rlA n (sp_pair g n b sp a) (pairM g n b S o) := by
  intro p c hp
  have hle := tx_e_le (f := g) hp
  unfold sp_pair pairM
  by_cases q : tx_k g n p = 3 ∧ g (tx_a g n p) = 40
  · rw [if_pos q, if_pos q]
    refine opn_rl (fun hb => ?_)
    obtain ⟨hr, hok⟩ := h hb
    have h1 := hr (tx_e g n p) c hle
    have v1 := (hok (tx_e g n p) c hle).1
    cases e1 : S (tx_e g n p) with
    | inl z =>
      rw [e1] at h1
      have h1' : (sp (tx_e g n p) c).1 = .inl z := h1
      show sb (sbC (sb (sp (tx_e g n p) c).1 (sp_need g n 44)) (sp (tx_e g n p) c).2 sp).1 (sp_need g n 41) = .inl z
      rw [h1']
      rfl
    | inr z =>
      obtain ⟨q1, L1⟩ := z
      rw [e1] at h1
      have h1' : sp (tx_e g n p) c = (.inr q1, ems c (L1.map toC)) := h1
      rw [h1'] at v1
      show rlC (sb (sbC (sb (sp (tx_e g n p) c).1 (sp_need g n 44)) (sp (tx_e g n p) c).2 sp).1 (sp_need g n 41), em (sbC (sb (sp (tx_e g n p) c).1 (sp_need g n 44)) (sp (tx_e g n p) c).2 sp).2 a) (ndL (sp_need g n 44 q1) (fun q2 => bL (S q2) (fun q3 L2 => needM g n 41 q3 (L1 ++ L2 ++ [o])))) c
      rw [h1']
      show rlC (sb (sbC (sp_need g n 44 q1) (ems c (L1.map toC)) sp).1 (sp_need g n 41), em (sbC (sp_need g n 44 q1) (ems c (L1.map toC)) sp).2 a) _ c
      cases e2 : sp_need g n 44 q1 with
      | inl z => rfl
      | inr q2 =>
        have hq2 : q2 ≤ n := sv_le (sp_need_v 44 v1) e2
        have h2 := hr q2 (ems c (L1.map toC)) hq2
        show rlC (sb (sp q2 (ems c (L1.map toC))).1 (sp_need g n 41), em (sp q2 (ems c (L1.map toC))).2 a) (bL (S q2) (fun q3 L2 => needM g n 41 q3 (L1 ++ L2 ++ [o]))) c
        cases e3 : S q2 with
        | inl z =>
          rw [e3] at h2
          have h2' : (sp q2 (ems c (L1.map toC))).1 = .inl z := h2
          show sb (sp q2 (ems c (L1.map toC))).1 (sp_need g n 41) = .inl z
          rw [h2']
          rfl
        | inr z =>
          obtain ⟨q3, L2⟩ := z
          rw [e3] at h2
          have h2' : sp q2 (ems c (L1.map toC)) = (.inr q3, ems (ems c (L1.map toC)) (L2.map toC)) := h2
          rw [h2']
          show rlC (sp_need g n 41 q3, em (ems (ems c (L1.map toC)) (L2.map toC)) a) (needM g n 41 q3 (L1 ++ L2 ++ [o])) c
          unfold needM
          rw [← ems_2 ho]
          cases sp_need g n 41 q3 with
          | inl z => rfl
          | inr q4 => rfl
  · rw [if_neg q, if_neg q]
    rfl
theorem sp_num_nn {p : Nat} {q : Nat} (h : (sp_num g n 0 9999 p).2 = .inr q) : 0 ≤ (sp_num g n 0 9999 p).1 := sp_num_lo
theorem part_rl {b : Bool} {sp pp : Nat → CD → ST × CD} {S P : Nat → SL} (h : b = true → rlA n sp S ∧ okR n sp) (h2 : b = true → rlA n pp P) : rlA n (sp_partD g n al b sp pp) (partM g n al b S P) := by
  intro p c hp
  have hle := tx_e_le (f := g) hp
  unfold sp_partD partM
  by_cases q0 : tx_k g n p = 2
  · rw [if_pos q0, if_pos q0]
    unfold numM
    have hn0 : 0 ≤ (sp_num g n 0 9999 p).1 := sp_num_lo
    cases (sp_num g n 0 9999 p).2 with
    | inl z => rfl
    | inr q =>
      show (Sum.inr q, em c (sp_num g n 0 9999 p).1) = (Sum.inr q, em c (toC (1000 + (sp_num g n 0 9999 p).1)))
      rw [toC_n hn0]
  · rw [if_neg q0, if_neg q0]
    by_cases q1 : tx_k g n p = 3 ∧ g (tx_a g n p) = 40
    · rw [if_pos q1, if_pos q1]
      refine opn_rl (fun hb => ?_)
      have h1 := (h hb).1 (tx_e g n p) c hle
      cases e1 : S (tx_e g n p) with
      | inl z =>
        rw [e1] at h1
        have h1' : (sp (tx_e g n p) c).1 = .inl z := h1
        show sb (sp (tx_e g n p) c).1 (sp_need g n 41) = .inl z
        rw [h1']
        rfl
      | inr z =>
        obtain ⟨q, L⟩ := z
        rw [e1] at h1
        have h1' : sp (tx_e g n p) c = (.inr q, ems c (L.map toC)) := h1
        rw [h1']
        show rlC (sp_need g n 41 q, ems c (L.map toC)) (needM g n 41 q L) c
        unfold needM
        cases sp_need g n 41 q with
        | inl z => rfl
        | inr z => rfl
    · rw [if_neg q1, if_neg q1]
      by_cases q2 : wl g n ws_17 p = -1
      · rw [if_neg (show ¬ ¬ wl g n ws_17 p = -1 from fun r => r q2), if_neg (show ¬ ¬ wl g n ws_17 p = -1 from fun r => r q2)]
        by_cases q3 : wl g n ws_18 p = -1
        · rw [if_neg (show ¬ ¬ wl g n ws_18 p = -1 from fun r => r q3), if_neg (show ¬ ¬ wl g n ws_18 p = -1 from fun r => r q3)]
          by_cases q4 : al = 3707 ∧ ¬ wl g n ws_19 p = -1
          · rw [if_pos q4, if_pos q4]
            refine opn_rl (fun hb => ?_)
            have h1 := h2 hb (tx_e g n p) c hle
            cases e1 : P (tx_e g n p) with
            | inl z =>
              rw [e1] at h1
              exact h1
            | inr z =>
              obtain ⟨q, L⟩ := z
              rw [e1] at h1
              have h1' : pp (tx_e g n p) c = (.inr q, ems c (L.map toC)) := h1
              rw [h1']
              show (Sum.inr q, em (ems c (L.map toC)) (-32)) = (Sum.inr q, ems c ((L ++ [60]).map toC))
              rw [ems_1 (show toC 60 = -32 from by decide)]
          · rw [if_neg q4, if_neg q4]
            unfold sp_pw pwM
            by_cases q5 : wl g n ws_20 p = -1 ∨ lf_o lf_iand (lf_o lf_ishr al (wl g n ws_20 p)) 1 = 0
            · rw [if_pos q5, if_pos q5]
              rfl
            · rw [if_neg q5, if_neg q5]
              have hb := wl_20 (fun r => q5 (Or.inl r))
              show (Sum.inr (tx_e g n p), em c (-1 - wl g n ws_20 p)) = (Sum.inr (tx_e g n p), em c (toC (40 + wl g n ws_20 p)))
              rw [toC_w hb.1 hb.2]
        · rw [if_pos q3, if_pos q3]
          exact pair_rl h (by decide) (tx_e g n p) c hle
      · rw [if_pos q2, if_pos q2]
        exact pair_rl h (by decide) (tx_e g n p) c hle
theorem part_r : ∀ d : Nat, rlA n (sPart g n al d) (mPart g n al d)
  | 0 => part_rl (fun r => Bool.noConfusion r) (fun r => Bool.noConfusion r)
  | d + 1 => part_rl (fun _ => ⟨spL_rl (spL_rl (part_r d) (sPart_ok d) (by decide) (by decide)) (sPrO_ok (sPart_ok d)) (by decide) (by decide), sSuO_ok (sPart_ok d)⟩) (fun _ => part_r d)
theorem sum_r (d : Nat) : rlA n (sSum g n al d) (mSum g n al d) := spL_rl (spL_rl (part_r d) (sPart_ok d) (by decide) (by decide)) (sPrO_ok (sPart_ok d)) (by decide) (by decide)
theorem sg_c {q : Nat} : toC (-19 - (sp_sg g n q).1) = (sp_sg g n q).1 := by
  unfold sp_sg
  by_cases c1 : tx_k g n q = 3 ∧ g (tx_a g n q) = 60
  · rw [if_pos c1]
    show toC (-19 - (-26)) = -26
    decide
  · rw [if_neg c1]
    by_cases c2 : tx_k g n q = 3 ∧ g (tx_a g n q) = 62
    · rw [if_pos c2]
      show toC (-19 - (-27)) = -27
      decide
    · rw [if_neg c2]
      by_cases c3 : tx_k g n q = 3 ∧ g (tx_a g n q) = 61
      · rw [if_pos c3]
        show toC (-19 - (-28)) = -28
        decide
      · rw [if_neg c3]
        show toC (-19 - (-28)) = -28
        decide
theorem cmp_rl {sp : Nat → CD → ST × CD} {S : Nat → SL} (h : rlA n sp S) (hok : okR n sp) : rlA n (spCmp g n sp) (cmpM g n S) := by
  intro p c hp
  unfold spCmp cmpM
  have h1 := h p c hp
  have v1 := (hok p c hp).1
  cases e1 : S p with
  | inl z =>
    rw [e1] at h1
    have h1' : (sp p c).1 = .inl z := h1
    show (sbC (sbv (sp p c).1 (sp_sg g n) (-28)).2 (sp p c).2 sp).1 = .inl z
    rw [h1']
    rfl
  | inr z =>
    obtain ⟨q, L⟩ := z
    rw [e1] at h1
    have h1' : sp p c = (.inr q, ems c (L.map toC)) := h1
    rw [h1'] at v1 ⊢
    show rlC ((sbC (sp_sg g n q).2 (ems c (L.map toC)) sp).1, em (sbC (sp_sg g n q).2 (ems c (L.map toC)) sp).2 (sp_sg g n q).1) (ndL (sp_sg g n q).2 (fun q2 => bL (S q2) (fun q3 K => .inr (q3, L ++ K ++ [-19 - (sp_sg g n q).1])))) c
    have hsg := sp_sg_v (g := g) (show q ≤ n from v1)
    have hc := sg_c (g := g) (n := n) (q := q)
    cases e2 : (sp_sg g n q).2 with
    | inl z => rfl
    | inr q2 =>
      rw [e2] at hsg
      have h2 := h q2 (ems c (L.map toC)) hsg
      show rlC ((sp q2 (ems c (L.map toC))).1, em (sp q2 (ems c (L.map toC))).2 (sp_sg g n q).1) (bL (S q2) (fun q3 K => .inr (q3, L ++ K ++ [-19 - (sp_sg g n q).1]))) c
      cases e3 : S q2 with
      | inl z =>
        rw [e3] at h2
        exact h2
      | inr z =>
        obtain ⟨q3, K⟩ := z
        rw [e3] at h2
        have h2' : sp q2 (ems c (L.map toC)) = (.inr q3, ems (ems c (L.map toC)) (K.map toC)) := h2
        rw [h2']
        show (Sum.inr q3, em (ems (ems c (L.map toC)) (K.map toC)) (sp_sg g n q).1) = (Sum.inr q3, ems c ((L ++ K ++ [-19 - (sp_sg g n q).1]).map toC))
        rw [ems_2 hc]
theorem fact_rl {b : Bool} {sp tt ff : Nat → CD → ST × CD} {S T Fq : Nat → SL} (h : rlA n sp S) (hok : okR n sp) (ht : b = true → rlA n tt T) (hf : b = true → rlA n ff Fq) : rlA n (sp_factD g n b sp tt ff) (factM g n b S T Fq) := by
  intro p c hp
  have hle := tx_e_le (f := g) hp
  unfold sp_factD factM
  by_cases q0 : wl g n ws_15 p = -1
  · rw [if_neg (show ¬ ¬ wl g n ws_15 p = -1 from fun r => r q0), if_neg (show ¬ ¬ wl g n ws_15 p = -1 from fun r => r q0)]
    by_cases q1 : tx_k g n p = 3 ∧ g (tx_a g n p) = 91
    · rw [if_pos q1, if_pos q1]
      refine opn_rl (fun hb => ?_)
      have h1 := ht hb (tx_e g n p) c hle
      cases e1 : T (tx_e g n p) with
      | inl z =>
        rw [e1] at h1
        have h1' : (tt (tx_e g n p) c).1 = .inl z := h1
        show sb (tt (tx_e g n p) c).1 (sp_need g n 93) = .inl z
        rw [h1']
        rfl
      | inr z =>
        obtain ⟨q, L⟩ := z
        rw [e1] at h1
        have h1' : tt (tx_e g n p) c = (.inr q, ems c (L.map toC)) := h1
        rw [h1']
        show rlC (sp_need g n 93 q, ems c (L.map toC)) (needM g n 93 q L) c
        unfold needM
        cases sp_need g n 93 q with
        | inl z => rfl
        | inr z => rfl
    · rw [if_neg q1, if_neg q1]
      by_cases q2 : wl g n ws_16 p = -1
      · rw [if_neg (show ¬ ¬ wl g n ws_16 p = -1 from fun r => r q2), if_neg (show ¬ ¬ wl g n ws_16 p = -1 from fun r => r q2)]
        exact cmp_rl h hok p c hp
      · rw [if_pos q2, if_pos q2]
        rfl
  · rw [if_pos q0, if_pos q0]
    refine opn_rl (fun hb => ?_)
    have h1 := hf hb (tx_e g n p) c hle
    cases e1 : Fq (tx_e g n p) with
    | inl z =>
      rw [e1] at h1
      exact h1
    | inr z =>
      obtain ⟨q, L⟩ := z
      rw [e1] at h1
      have h1' : ff (tx_e g n p) c = (.inr q, ems c (L.map toC)) := h1
      rw [h1']
      show (Sum.inr q, em (ems c (L.map toC)) (-31)) = (Sum.inr q, ems c ((L ++ [12]).map toC))
      rw [ems_1 (show toC 12 = -31 from by decide)]
theorem fact_r : ∀ d : Nat, rlA n (sFact g n al d) (mFact g n al d)
  | 0 => fact_rl (sum_r 0) (sSum_ok 0) (fun r => Bool.noConfusion r) (fun r => Bool.noConfusion r)
  | d + 1 => fact_rl (sum_r (d + 1)) (sSum_ok (d + 1)) (fun _ => spV_rl (spV_rl (fact_r d) (sFact_ok d) (by decide)) (spV_ok (sFact_ok d)) (by decide)) (fun _ => fact_r d)
theorem test_r (d : Nat) : rlA n (sTest g n al d) (mTest g n al d) := spV_rl (spV_rl (fact_r d) (sFact_ok d) (by decide)) (spV_ok (sFact_ok d)) (by decide)
end MR
end
