theorem q_110 {w : Nat → Int} {l xa xe xp o : Int} : ∀ (P : List Int) (f : Nat) (c : Int) (cd : Nat → Int), P.length < f → ∃ cd2, F_X10_qTest_110 f l xa xe (0 : Int) xp c (P.length : Int) o w cd = (xa, xe, (0 : Int), xp, c + (P.length : Int), (0 : Int), o, w, cd2) := by
  intro P
  induction P with
  | nil =>
    intro f c cd hf
    obtain ⟨k, rfl⟩ : ∃ k, f = k + 1 := ⟨f - 1, by have : 0 < f := hf; omega⟩
    refine ⟨cd, ?_⟩
    show F_X10_qTest_110b _ l xa xe (0 : Int) xp c (0 : Int) o w cd = _
    unfold F_X10_qTest_110b
    rw [if_pos rfl, if_pos (Int.le_refl _), show c + (([] : List Int).length : Int) = c from by show c + ((0 : Nat) : Int) = c; omega]
  | cons x P ih =>
    intro f c cd hf
    obtain ⟨k, rfl⟩ : ∃ k, f = k + 1 := ⟨f - 1, by have : 0 < f := Nat.lt_of_le_of_lt (Nat.zero_le _) hf; omega⟩
    obtain ⟨cd2, e⟩ := ih k (c + 1) (lf_up cd c (w P.length)) (by have : P.length + 1 < k + 1 := hf; omega)
    have e2 : ((x :: P).length : Int) = (P.length : Int) + 1 := rfl
    refine ⟨cd2, ?_⟩
    show F_X10_qTest_110b (F_X10_qTest_110 k) l xa xe (0 : Int) xp c ((x :: P).length : Int) o w cd = _
    unfold F_X10_qTest_110b
    rw [if_pos rfl, if_neg (by omega), show F_X10_qDrops c ((x :: P).length : Int) cd w = ((c + 1), (P.length : Int), lf_up cd c (w P.length)) from q_drop, lf_p_e, lf_p_e, e, e2, show c + 1 + (P.length : Int) = c + ((P.length : Int) + 1) from by omega]
section QW
variable {g : Nat → Int} {n : Nat} {al tk : Int} {d : Nat} {vnot vand vor vall vmin vmax v1 v2 v3 v4 v5 v6 v7 v8 v9 v10 v11 v12 v13 : Nat → Int}
theorem q_t0 {l xa xe xb xp c m o : Int} {w cd : Nat → Int} (hb : ¬ xb = 0) (k : Nat) : F_X10_qTest_2 (n : Int) tk g vnot vand vor vall vmin vmax v1 v2 v3 v4 v5 v6 v7 v8 v9 v10 v11 v12 v13 (k + 1) l xa xe xb xp c m o w cd = (xa, xe, xb, xp, c, m, o, w, cd) := by
  have e : F_X10_qTest_110 1627 l xa xe xb xp c m o w cd = (xa, xe, xb, xp, c, m, o, w, cd) := by
    show F_X10_qTest_110b _ l xa xe xb xp c m o w cd = _
    unfold F_X10_qTest_110b
    rw [if_neg hb]
  show F_X10_qTest_2b (n : Int) tk g vnot vand vor vall vmin vmax v1 v2 v3 v4 v5 v6 v7 v8 v9 v10 v11 v12 v13 _ l xa xe xb xp c m o w cd = _
  unfold F_X10_qTest_2b
  rw [if_neg hb, e]
  by_cases q : l = 0
  · rw [if_pos q]
  · rw [if_neg q]
theorem q_te (hn : n ≤ 1600) (hq : qw v1 v2 v3 v4 v5 v6 v7 v8 v9 v10 v11 v12 v13) (hnot : wa vnot W_not) (hand : wa vand W_and) (hor : wa vor W_or) (hall : wa vall W_all) (hmin : wa vmin W_min) (hmax : wa vmax W_max) (ht : tkA tk al) : ∀ (f : Nat) (P : List Int) (o : Int) (p : Nat) (xa xe c : Int) (w cd : Nat → Int), qV g n d P o p xa xe (0 : Int) (-1 : Int) c (P.length : Int) o w → n - p + 1 < f → qU g n [] 0 d (TT g n al true (stQ P) o p) p (F_X10_qTest_2 (n : Int) tk g vnot vand vor vall vmin vmax v1 v2 v3 v4 v5 v6 v7 v8 v9 v10 v11 v12 v13 f (1 : Int) xa xe (0 : Int) (-1 : Int) c (P.length : Int) o w cd) := by
  intro f
  induction f with
  | zero => intro P o p xa xe c w cd h hf; omega
  | succ f ih =>
    intro P o p xa xe c w cd h hf
    obtain ⟨f, rfl⟩ : ∃ k, f = k + 1 := ⟨f - 1, by omega⟩
    obtain ⟨h1, h2, h4, h5, h6', h7, h8, h9, h10, h11, h12⟩ := h
    have hpn := h7.1
    have hle := tx_e_le (f := g) h7.1
    have qUm : ∀ {S : ST} {p1 : Nat} {R : Int × Int × Int × Int × Int × Int × Int × (Nat → Int) × (Nat → Int)}, p ≤ p1 → qU g n [] 0 d S p1 R → qU g n [] 0 d S p R := by
      intro S p1 R hh hr
      rcases hr with r | ⟨p4, a1, a2, a3⟩
      · exact Or.inl r
      · exact Or.inr ⟨p4, a1, by omega, a3⟩
    show qU g n [] 0 d (TT g n al true (stQ P) o p) p (F_X10_qTest_2b (n : Int) tk g vnot vand vor vall vmin vmax v1 v2 v3 v4 v5 v6 v7 v8 v9 v10 v11 v12 v13 (F_X10_qTest_2 (n : Int) tk g vnot vand vor vall vmin vmax v1 v2 v3 v4 v5 v6 v7 v8 v9 v10 v11 v12 v13 (f + 1)) (1 : Int) xa xe (0 : Int) (-1 : Int) c (P.length : Int) o w cd)
    unfold F_X10_qTest_2b
    rw [if_neg (show ¬ (1 : Int) = 0 from by decide), if_pos rfl, ml_look hn h7, lf_p_e]
    by_cases c1 : lk g n p = 91
    · have q' : tx_k g n p = 3 ∧ g (tx_a g n p) = 91 := (lk_sgn (by omega)).mp c1
      have hlt : p < tx_e g n p := tx_e_gt' (by have := q'.1; omega)
      unfold F_X10_qOpens_a0_25
      rw [if_pos c1, if_pos rfl]
      by_cases h6o : o = 6
      · rw [if_pos h6o, lf_p_e, lf_p_e, lf_p_e, lf_p_e, q_t0 (show ¬ (4 : Int) = 0 from by decide), h6o, TT_s6 q']
        exact Or.inl ⟨(4, (tx_a g n p : Int)), rfl, (show ¬ (4 : Int) = 0 from by decide), rfl, rfl⟩
      · rw [if_neg h6o, lf_p_e, lf_p_e, lf_p_e, lf_p_e, lo_add (by omega) (by omega) (by omega) (by omega) (by omega) (by omega), TT_s1 h7.1 q' h6o]
        have hs : stQ (25 :: P) = 25 :: stQ P := rfl
        rw [← hs]
        refine qUm (Nat.le_of_lt hlt) (ih (25 :: P) (o + 1) (tx_e g n p) _ xe c _ _ ⟨⟨h1, Or.inr (Or.inl rfl)⟩, ?_, by omega, ?_, h6', mp_sgn h7 q'.1, rfl, rfl, rfl, rfl, pwl_push h12 25⟩ (by omega))
        · rw [hs, h2]
          rfl
        · show c + (d : Int) + ((P.length + 1 : Nat) : Int) ≤ _
          omega
    · have q' : ¬ (tx_k g n p = 3 ∧ g (tx_a g n p) = 91) := fun r => c1 ((lk_sgn (by omega)).mpr r)
      rw [if_neg c1, F_X10_isHere_1 hn (W := W_not) rfl hnot (mp_a h7), lf_p_e]
      cases cn : wh g n W_not p with
      | true =>
        have k15 : ¬ wl g n ws_15 p = -1 := by
          rw [show wl g n ws_15 p = 0 from (wl_1 W_not).trans (if_pos cn)]
          decide
        have hk := (wh_k cn).1
        have hlt : p < tx_e g n p := tx_e_gt' (by omega)
        unfold F_X10_qOpens_a0_12
        rw [if_neg (show ¬ b2 true = 0 from by decide), if_pos rfl]
        by_cases h6o : o = 6
        · rw [if_pos h6o, lf_p_e, lf_p_e, lf_p_e, lf_p_e]
          unfold F_X10_asks
          rw [if_neg (show ¬ (4 : Int) = 0 from by decide), lf_p_e, lf_p_e, lf_p_e, q_t0 (show ¬ (4 : Int) = 0 from by decide), h6o, TT_n6 k15]
          exact Or.inl ⟨(4, (tx_a g n p : Int)), rfl, (show ¬ (4 : Int) = 0 from by decide), rfl, rfl⟩
        · rw [if_neg h6o, lf_p_e, lf_p_e, lf_p_e, lf_p_e, F_X10_asks_t hn (W := W_not) rfl hnot (mp_a h7) cn, lf_p_e, lf_p_e, lf_p_e, lo_add (by omega) (by omega) (by omega) (by omega) (by omega) (by omega), TT_n1 h7.1 k15 h6o]
          have hs : stQ (12 :: P) = 12 :: stQ P := rfl
          rw [← hs]
          refine qUm (Nat.le_of_lt hlt) (ih (12 :: P) (o + 1) (tx_e g n p) _ _ c _ _ ⟨⟨h1, Or.inr (Or.inr rfl)⟩, ?_, by omega, ?_, h6', mp_tok h7.1 hk (Or.inl rfl), rfl, rfl, rfl, rfl, pwl_push h12 12⟩ (by omega))
          · rw [hs, h2]
            rfl
          · show c + (d : Int) + ((P.length + 1 : Nat) : Int) ≤ _
            omega
      | false =>
        have k15 : wl g n ws_15 p = -1 := (wl_1 W_not).trans (if_neg (fun r => Bool.noConfusion (cn.symm.trans r)))
        rw [if_pos (show b2 false = 0 from rfl), TT_at h7.1 q' k15]
        have hfa := q_fact hn (okQ_h h1) hq hall hmin hmax ht (o0 := o) (d := d) (cd := cd) (show qS g n P o d [] o p (tx_a g n p : Int) xe (0 : Int) (-1 : Int) c (P.length : Int) o w from ⟨True.intro, (by show o = o + ((0 : Nat) : Int); omega), by omega, h4, (by show c + (d : Int) + (P.length : Int) ≤ _; omega), h6', mp_a h7, rfl, rfl, rfl, rfl, h12⟩)
        generalize F_X10_qFact (tx_a g n p : Int) (n : Int) xe (0 : Int) (-1 : Int) tk c (P.length : Int) o g vall vmin vmax v1 v2 v3 v4 v5 v6 v7 v8 v9 v10 v11 v12 v13 cd w = R at hfa ⊢
        obtain ⟨y1, y2, y3, y4, y5, y6, y7, y8, y9⟩ := R
        rw [lf_p_e, lf_p_e, lf_p_e, lf_p_e, lf_p_e, lf_p_e, lf_p_e, lf_p_e]
        rcases hfa with ⟨q, e, q1, q2, q3⟩ | ⟨p2, e, hlt, hs⟩
        · have q2' : y3 = q.1 := q2
          have y3n : ¬ y3 = 0 := fun r => q1 (q2'.symm.trans r)
          rw [q_nots0 y3n, lf_p_e, lf_p_e, lf_p_e, if_neg y3n, q_t0 y3n, e]
          exact Or.inl ⟨q, rfl, q1, q2, q3⟩
        · have hs' : qS g n P o d [] o p2 y1 y2 y3 y4 y5 y6 y7 y8 := hs
          obtain ⟨s1, s2, s3, s4, s5, s6, s7, s8, s9, s10, s11, s12⟩ := hs'
          subst s8
          subst s9
          have s10' : y6 = (P.length : Int) := s10
          subst s10'
          subst s11
          have s5' : y5 + (d : Int) + (P.length : Int) ≤ (p2 : Int) := s5
          have hp2 := s7.1
          have s12' : pwl y8 P := s12
          obtain ⟨c3, cd3, e4, e5⟩ := q_nots (c := y5) (cd := y9) (o := y7) s12' (by omega) s3 s4
          obtain ⟨u1, u2, u3, u4, u5, u6⟩ := ok_nt y7 h1
          have hln := ntD_len P y7
          have hv : qV g n d (ntD P y7).1 (ntD P y7).2 p2 y1 y2 (0 : Int) (-1 : Int) c3 ((ntD P y7).1.length : Int) (ntD P y7).2 y8 := ⟨u3, by omega, by omega, by omega, by omega, s7, rfl, rfl, rfl, rfl, ntD_p P y7 s12'⟩
          have hgo : qH g n al d (TT g n al false (stQ (ntD P y7).1) (ntD P y7).2 p2) p2 (F_X10_qGoesOnTest y1 (n : Int) y2 (0 : Int) (-1 : Int) c3 ((ntD P y7).1.length : Int) (ntD P y7).2 g vand vor cd3 y8) := q_goest hn hand hor 1602 (ntD P y7).1 (ntD P y7).2 p2 y1 c3 cd3 hv u4 (by omega)
          rw [e4, lf_p_e, lf_p_e, lf_p_e, if_pos rfl, e, show sb (.inr p2 : ST) (fun p2 => TT g n al false (ntD (stQ P) y7).1 (ntD (stQ P) y7).2 p2) = TT g n al false (stQ (ntD P y7).1) (ntD P y7).2 p2 from by rw [u1, u2]; rfl]
          generalize F_X10_qGoesOnTest y1 (n : Int) y2 (0 : Int) (-1 : Int) c3 ((ntD P y7).1.length : Int) (ntD P y7).2 g vand vor cd3 y8 = R at hgo ⊢
          obtain ⟨z0, z1, z2, z3, z4, z5, z6, z7, z8, z9⟩ := R
          rw [lf_p_e, lf_p_e, lf_p_e, lf_p_e, lf_p_e, lf_p_e, lf_p_e, lf_p_e, lf_p_e]
          rcases hgo with ⟨r1, P3, o3, p3, e3, hlt3, hs3⟩ | ⟨r1, q, e3, q1, q2, q3⟩ | ⟨r1, P3, o3, p3, e3, hle3, hnil, hs3⟩
          · have r1' : z0 = 1 := r1
            have hs' : qV g n d P3 o3 p3 z1 z2 z3 z4 z5 z6 z7 z8 := hs3
            obtain ⟨t1, t2, t4, t5, t6, t7, t8, t9, t10, t11, t12⟩ := hs'
            subst t8
            subst t9
            subst t10
            subst t11
            rw [if_neg (show ¬ z0 = 0 from by omega), e3]
            exact qUm (by omega) (ih P3 z7 p3 z1 z2 z5 z8 z9 ⟨t1, t2, t4, t5, t6, t7, rfl, rfl, rfl, rfl, t12⟩ (by omega))
          · have r1' : z0 = 0 := r1
            have q2' : z3 = q.1 := q2
            rw [if_pos r1', q_t0 (show ¬ z3 = 0 from fun r => q1 (q2'.symm.trans r))]
            exact Or.inl ⟨q, e3, q1, q2, q3⟩
          · have r1' : z0 = 0 := r1
            have hs' : qV g n d P3 o3 p3 z1 z2 z3 z4 z5 z6 z7 z8 := hs3
            obtain ⟨t1, t2, t4, t5, t6, t7, t8, t9, t10, t11, t12⟩ := hs'
            subst t8
            subst t9
            subst t10
            subst t11
            have hp3 := t7.1
            have ho : z7 = 0 := by
              rw [t2, hnil]
              rfl
            obtain ⟨cd2, e6⟩ := q_110 (w := z8) (l := (0 : Int)) (xa := z1) (xe := z2) (xp := (-1 : Int)) (o := z7) P3 1627 z5 z9 (by omega)
            rw [if_pos r1']
            show qU g n [] 0 d _ p (F_X10_qTest_2b (n : Int) tk g vnot vand vor vall vmin vmax v1 v2 v3 v4 v5 v6 v7 v8 v9 v10 v11 v12 v13 (F_X10_qTest_2 (n : Int) tk g vnot vand vor vall vmin vmax v1 v2 v3 v4 v5 v6 v7 v8 v9 v10 v11 v12 v13 f) (0 : Int) z1 z2 (0 : Int) (-1 : Int) z5 (P3.length : Int) z7 z8 z9)
            unfold F_X10_qTest_2b
            rw [if_pos rfl, e6, e3]
            refine Or.inr ⟨p3, rfl, by omega, True.intro, rfl, Int.le_refl _, (by decide), ?_, ?_, t7, rfl, rfl, rfl, ho, True.intro⟩
            · show z5 + (P3.length : Int) + (d : Int) + ((0 : Nat) : Int) ≤ (p3 : Int)
              omega
            · show 0 ≤ z5 + (P3.length : Int)
              omega
theorem q_test (hn : n ≤ 1600) (hq : qw v1 v2 v3 v4 v5 v6 v7 v8 v9 v10 v11 v12 v13) (hnot : wa vnot W_not) (hand : wa vand W_and) (hor : wa vor W_or) (hall : wa vall W_all) (hmin : wa vmin W_min) (hmax : wa vmax W_max) (ht : tkA tk al) {p : Nat} {xa xe : Int} {w cd : Nat → Int} (h : mp g n p xa xe) (hd : d ≤ p) : qU g n [] 0 d (TT g n al true [] 0 p) p (F_X10_qTest xa (n : Int) xe (0 : Int) (-1 : Int) tk (0 : Int) (0 : Int) (0 : Int) g vnot vand vor vall vmin vmax v1 v2 v3 v4 v5 v6 v7 v8 v9 v10 v11 v12 v13 cd w) := by
  have hpn := h.1
  exact q_te hn hq hnot hand hor hall hmin hmax ht 3203 [] 0 p xa xe 0 w cd ⟨True.intro, rfl, (by decide), (by show (0 : Int) + (d : Int) + ((0 : Nat) : Int) ≤ _; omega), Int.le_refl _, h, rfl, rfl, rfl, rfl, True.intro⟩ (by omega)
end QW
