theorem qc_110 {w : Nat → Int} {l xa xe xp o : Int} : ∀ (P : List Int) (f : Nat) (K : List Int) (cd : Nat → Int), pwl w P → P.length < f → pcl cd K → ∃ cd2, F_X10_qTest_110 f l xa xe (0 : Int) xp (K.length : Int) (P.length : Int) o w cd = (xa, xe, (0 : Int), xp, ((K ++ P).length : Int), (0 : Int), o, w, cd2) ∧ pcl cd2 (K ++ P) := by
  intro P
  induction P with
  | nil =>
    intro f K cd h hf hK
    obtain ⟨k, rfl⟩ : ∃ k, f = k + 1 := ⟨f - 1, by have : 0 < f := hf; omega⟩
    rw [List.append_nil]
    refine ⟨cd, ?_, hK⟩
    show F_X10_qTest_110b _ l xa xe (0 : Int) xp (K.length : Int) (0 : Int) o w cd = _
    unfold F_X10_qTest_110b
    rw [if_pos rfl, if_pos (Int.le_refl _)]
  | cons x P ih =>
    intro f K cd h hf hK
    obtain ⟨k, rfl⟩ : ∃ k, f = k + 1 := ⟨f - 1, by have : 0 < f := Nat.lt_of_le_of_lt (Nat.zero_le _) hf; omega⟩
    obtain ⟨cd2, e, ek⟩ := ih k (K ++ [x]) (lf_up cd (K.length : Int) x) h.2 (by have : P.length + 1 < k + 1 := hf; omega) (pcl_app hK x)
    rw [len_1, List.append_assoc] at e
    rw [List.append_assoc] at ek
    have e2 : ((x :: P).length : Int) = (P.length : Int) + 1 := rfl
    refine ⟨cd2, ?_, ek⟩
    show F_X10_qTest_110b (F_X10_qTest_110 k) l xa xe (0 : Int) xp (K.length : Int) ((x :: P).length : Int) o w cd = _
    unfold F_X10_qTest_110b
    rw [if_pos rfl, if_neg (by omega), qc_drop h, lf_p_e, lf_p_e]
    exact e
section QWC
variable {g : Nat → Int} {n : Nat} {al tk : Int} {d : Nat} {vnot vand vor vall vmin vmax v1 v2 v3 v4 v5 v6 v7 v8 v9 v10 v11 v12 v13 : Nat → Int}
theorem qc_te (hn : n ≤ 1600) (hq : qw v1 v2 v3 v4 v5 v6 v7 v8 v9 v10 v11 v12 v13) (hnot : wa vnot W_not) (hand : wa vand W_and) (hor : wa vor W_or) (hall : wa vall W_all) (hmin : wa vmin W_min) (hmax : wa vmax W_max) (ht : tkA tk al) : ∀ (f : Nat) (P K : List Int) (o : Int) (p : Nat) (xa xe : Int) (w cd : Nat → Int), qV g n d P o p xa xe (0 : Int) (-1 : Int) (K.length : Int) (P.length : Int) o w → n - p + 1 < f → pcl cd K → qUC g n [] 0 d (TC g n al true P K o p) p (F_X10_qTest_2 (n : Int) tk g vnot vand vor vall vmin vmax v1 v2 v3 v4 v5 v6 v7 v8 v9 v10 v11 v12 v13 f (1 : Int) xa xe (0 : Int) (-1 : Int) (K.length : Int) (P.length : Int) o w cd) := by
  intro f
  induction f with
  | zero => intro P K o p xa xe w cd h hf; omega
  | succ f ih =>
    intro P K o p xa xe w cd h hf hK
    obtain ⟨f, rfl⟩ : ∃ k, f = k + 1 := ⟨f - 1, by omega⟩
    obtain ⟨h1, h2, h4, h5, h6', h7, h8, h9, h10, h11, h12⟩ := h
    have hpn := h7.1
    have hle := tx_e_le (f := g) h7.1
    have qUm : ∀ {S : SL} {p1 : Nat} {R : Int × Int × Int × Int × Int × Int × Int × (Nat → Int) × (Nat → Int)}, p ≤ p1 → qUC g n [] 0 d S p1 R → qUC g n [] 0 d S p R := by
      intro S p1 R hh hr
      rcases hr with r | ⟨p4, K4, a1, a2, a3⟩
      · exact Or.inl r
      · exact Or.inr ⟨p4, K4, a1, by omega, a3⟩
    show qUC g n [] 0 d (TC g n al true P K o p) p (F_X10_qTest_2b (n : Int) tk g vnot vand vor vall vmin vmax v1 v2 v3 v4 v5 v6 v7 v8 v9 v10 v11 v12 v13 (F_X10_qTest_2 (n : Int) tk g vnot vand vor vall vmin vmax v1 v2 v3 v4 v5 v6 v7 v8 v9 v10 v11 v12 v13 (f + 1)) (1 : Int) xa xe (0 : Int) (-1 : Int) (K.length : Int) (P.length : Int) o w cd)
    unfold F_X10_qTest_2b
    rw [if_neg (show ¬ (1 : Int) = 0 from by decide), if_pos rfl, ml_look hn h7, lf_p_e]
    by_cases c1 : lk g n p = 91
    · have q' : tx_k g n p = 3 ∧ g (tx_a g n p) = 91 := (lk_sgn (by omega)).mp c1
      have hlt : p < tx_e g n p := tx_e_gt' (by have := q'.1; omega)
      unfold F_X10_qOpens_a0_25
      rw [if_pos c1, if_pos rfl]
      by_cases h6o : o = 6
      · rw [if_pos h6o, lf_p_e, lf_p_e, lf_p_e, lf_p_e, q_t0 (show ¬ (4 : Int) = 0 from by decide), h6o, TC_s6 q']
        exact Or.inl ⟨(4, (tx_a g n p : Int)), rfl, (show ¬ (4 : Int) = 0 from by decide), rfl, rfl⟩
      · rw [if_neg h6o, lf_p_e, lf_p_e, lf_p_e, lf_p_e, lo_add (by omega) (by omega) (by omega) (by omega) (by omega) (by omega), TC_s1 h7.1 q' h6o]
        have hs : stQ (25 :: P) = 25 :: stQ P := rfl
        refine qUm (Nat.le_of_lt hlt) (ih (25 :: P) K (o + 1) (tx_e g n p) _ xe _ _ ⟨⟨h1, Or.inr (Or.inl rfl)⟩, ?_, by omega, ?_, h6', mp_sgn h7 q'.1, rfl, rfl, rfl, rfl, pwl_push h12 25⟩ (by omega) hK)
        · rw [hs, h2]
          rfl
        · show (K.length : Int) + (d : Int) + ((P.length + 1 : Nat) : Int) ≤ _
          omega
    · have q' : ¬ (tx_k g n p = 3 ∧ g (tx_a g n p) = 91) := fun r => c1 ((lk_sgn (by omega)).mpr r)
      rw [if_neg c1, F_X10_isHere_1 hn (W := W_not) rfl hnot (mp_a h7), lf_p_e]
      cases cn : wh g n W_not p with
      | true =>
        have k15 : ¬ wl g n ws_15 p = -1 := by
          rw [show wl g n ws_15 p = 0 from (wl_1 W_not).trans (if_pos cn)]
          decide
        have hk := (wh_k cn).1
        have hlt : p < tx_e g n p := tx_e_gt' (by omega)
        unfold F_X10_qOpens_a0_12
        rw [if_neg (show ¬ b2 true = 0 from by decide), if_pos rfl]
        by_cases h6o : o = 6
        · rw [if_pos h6o, lf_p_e, lf_p_e, lf_p_e, lf_p_e]
          unfold F_X10_asks
          rw [if_neg (show ¬ (4 : Int) = 0 from by decide), lf_p_e, lf_p_e, lf_p_e, q_t0 (show ¬ (4 : Int) = 0 from by decide), h6o, TC_n6 k15]
          exact Or.inl ⟨(4, (tx_a g n p : Int)), rfl, (show ¬ (4 : Int) = 0 from by decide), rfl, rfl⟩
        · rw [if_neg h6o, lf_p_e, lf_p_e, lf_p_e, lf_p_e, F_X10_asks_t hn (W := W_not) rfl hnot (mp_a h7) cn, lf_p_e, lf_p_e, lf_p_e, lo_add (by omega) (by omega) (by omega) (by omega) (by omega) (by omega), TC_n1 h7.1 k15 h6o]
          have hs : stQ (12 :: P) = 12 :: stQ P := rfl
          refine qUm (Nat.le_of_lt hlt) (ih (12 :: P) K (o + 1) (tx_e g n p) _ _ _ _ ⟨⟨h1, Or.inr (Or.inr rfl)⟩, ?_, by omega, ?_, h6', mp_tok h7.1 hk (Or.inl rfl), rfl, rfl, rfl, rfl, pwl_push h12 12⟩ (by omega) hK)
          · rw [hs, h2]
            rfl
          · show (K.length : Int) + (d : Int) + ((P.length + 1 : Nat) : Int) ≤ _
            omega
      | false =>
        have k15 : wl g n ws_15 p = -1 := (wl_1 W_not).trans (if_neg (fun r => Bool.noConfusion (cn.symm.trans r)))
        rw [if_pos (show b2 false = 0 from rfl), TC_at h7.1 q' k15]
        have hfa := qc_fact hn (okQ_h h1) hq hall hmin hmax ht (o0 := o) (d := d) (cd := cd) (show qS g n P o d [] o p (tx_a g n p : Int) xe (0 : Int) (-1 : Int) (K.length : Int) (P.length : Int) o w from ⟨True.intro, (by show o = o + ((0 : Nat) : Int); omega), by omega, h4, (by show (K.length : Int) + (d : Int) + (P.length : Int) ≤ _; omega), h6', mp_a h7, rfl, rfl, rfl, rfl, h12⟩) hK
        generalize F_X10_qFact (tx_a g n p : Int) (n : Int) xe (0 : Int) (-1 : Int) tk (K.length : Int) (P.length : Int) o g vall vmin vmax v1 v2 v3 v4 v5 v6 v7 v8 v9 v10 v11 v12 v13 cd w = R at hfa ⊢
        obtain ⟨y1, y2, y3, y4, y5, y6, y7, y8, y9⟩ := R
        rw [lf_p_e, lf_p_e, lf_p_e, lf_p_e, lf_p_e, lf_p_e, lf_p_e, lf_p_e]
        rcases hfa with ⟨q, e, q1, q2, q3⟩ | ⟨p2, K2, e, hlt, hs, hc2, hk2⟩
        · have q2' : y3 = q.1 := q2
          have y3n : ¬ y3 = 0 := fun r => q1 (q2'.symm.trans r)
          rw [q_nots0 y3n, lf_p_e, lf_p_e, lf_p_e, if_neg y3n, q_t0 y3n, e]
          exact Or.inl ⟨q, rfl, q1, q2, q3⟩
        · have hs' : qS g n P o d [] o p2 y1 y2 y3 y4 y5 y6 y7 y8 := hs
          obtain ⟨s1, s2, s3, s4, s5, s6, s7, s8, s9, s10, s11, s12⟩ := hs'
          subst s8
          subst s9
          have s10' : y6 = (P.length : Int) := s10
          subst s10'
          subst s11
          have hc2' : y5 = (K2.length : Int) := hc2
          subst hc2'
          have hk2' : pcl y9 K2 := hk2
          have s5' : (K2.length : Int) + (d : Int) + (P.length : Int) ≤ (p2 : Int) := s5
          have hp2 := s7.1
          have s12' : pwl y8 P := s12
          obtain ⟨cd3, e4, e5⟩ := qc_nots (K := K2) (cd := y9) (o := y7) s12' (by omega) s3 s4 hk2'
          have u8 := dN_len P K2 y7
          have dn7 := dN_1 P K2 y7
          rw [dn7.1] at u8
          obtain ⟨u1, u2, u3, u4, u5, u6⟩ := ok_nt y7 h1
          have hln := ntD_len P y7
          have hv : qV g n d (ntD P y7).1 (ntD P y7).2 p2 y1 y2 (0 : Int) (-1 : Int) ((dN P K2 y7).2.1.length : Int) ((ntD P y7).1.length : Int) (ntD P y7).2 y8 := ⟨u3, by omega, by omega, by omega, by omega, s7, rfl, rfl, rfl, rfl, ntD_p P y7 s12'⟩
          have hgo : qHC g n al d (TC g n al false (ntD P y7).1 (dN P K2 y7).2.1 (ntD P y7).2 p2) p2 (F_X10_qGoesOnTest y1 (n : Int) y2 (0 : Int) (-1 : Int) ((dN P K2 y7).2.1.length : Int) ((ntD P y7).1.length : Int) (ntD P y7).2 g vand vor cd3 y8) := qc_goest hn hand hor 1602 (ntD P y7).1 (dN P K2 y7).2.1 (ntD P y7).2 p2 y1 cd3 hv u4 (by omega) e5
          rw [e4, lf_p_e, lf_p_e, lf_p_e, if_pos rfl, e, show bL (.inr (p2, K2) : SL) (fun q K2 => TC g n al false (dN P K2 y7).1 (dN P K2 y7).2.1 (dN P K2 y7).2.2 q) = TC g n al false (ntD P y7).1 (dN P K2 y7).2.1 (ntD P y7).2 p2 from by rw [← dn7.1, ← dn7.2]; rfl]
          generalize F_X10_qGoesOnTest y1 (n : Int) y2 (0 : Int) (-1 : Int) ((dN P K2 y7).2.1.length : Int) ((ntD P y7).1.length : Int) (ntD P y7).2 g vand vor cd3 y8 = R at hgo ⊢
          obtain ⟨z0, z1, z2, z3, z4, z5, z6, z7, z8, z9⟩ := R
          rw [lf_p_e, lf_p_e, lf_p_e, lf_p_e, lf_p_e, lf_p_e, lf_p_e, lf_p_e, lf_p_e]
          rcases hgo with ⟨r1, P3, K3, o3, p3, e3, hlt3, hs3, hc3, hk3⟩ | ⟨r1, q, e3, q1, q2, q3⟩ | ⟨r1, P3, K3, o3, p3, e3, hle3, hnil, hs3, hc3, hk3⟩
          · have r1' : z0 = 1 := r1
            have hs' : qV g n d P3 o3 p3 z1 z2 z3 z4 z5 z6 z7 z8 := hs3
            obtain ⟨t1, t2, t4, t5, t6, t7, t8, t9, t10, t11, t12⟩ := hs'
            subst t8
            subst t9
            subst t10
            subst t11
            have hc3' : z5 = (K3.length : Int) := hc3
            subst hc3'
            rw [if_neg (show ¬ z0 = 0 from by omega), e3]
            exact qUm (by omega) (ih P3 K3 z7 p3 z1 z2 z8 z9 ⟨t1, t2, t4, t5, t6, t7, rfl, rfl, rfl, rfl, t12⟩ (by omega) hk3)
          · have r1' : z0 = 0 := r1
            have q2' : z3 = q.1 := q2
            rw [if_pos r1', q_t0 (show ¬ z3 = 0 from fun r => q1 (q2'.symm.trans r))]
            exact Or.inl ⟨q, e3, q1, q2, q3⟩
          · have r1' : z0 = 0 := r1
            have hs' : qV g n d P3 o3 p3 z1 z2 z3 z4 z5 z6 z7 z8 := hs3
            obtain ⟨t1, t2, t4, t5, t6, t7, t8, t9, t10, t11, t12⟩ := hs'
            subst t8
            subst t9
            subst t10
            subst t11
            have hp3 := t7.1
            have ho : z7 = 0 := by
              rw [t2, hnil]
              rfl
            have hc3' : z5 = (K3.length : Int) := hc3
            subst hc3'
            obtain ⟨cd2, e6, e6k⟩ := qc_110 (w := z8) (l := (0 : Int)) (xa := z1) (xe := z2) (xp := (-1 : Int)) (o := z7) P3 1627 K3 z9 t12 (by omega) hk3
            have hlk : (K3 ++ P3).length = K3.length + P3.length := List.length_append
            rw [if_pos r1']
            show qUC g n [] 0 d _ p (F_X10_qTest_2b (n : Int) tk g vnot vand vor vall vmin vmax v1 v2 v3 v4 v5 v6 v7 v8 v9 v10 v11 v12 v13 (F_X10_qTest_2 (n : Int) tk g vnot vand vor vall vmin vmax v1 v2 v3 v4 v5 v6 v7 v8 v9 v10 v11 v12 v13 f) (0 : Int) z1 z2 (0 : Int) (-1 : Int) (K3.length : Int) (P3.length : Int) z7 z8 z9)
            unfold F_X10_qTest_2b
            rw [if_pos rfl, e6, e3]
            refine Or.inr ⟨p3, K3 ++ P3, rfl, by omega, ⟨True.intro, rfl, Int.le_refl _, (by decide), ?_, ?_, t7, rfl, rfl, rfl, ho, True.intro⟩, rfl, e6k⟩
            · show ((K3 ++ P3).length : Int) + (d : Int) + ((0 : Nat) : Int) ≤ (p3 : Int)
              omega
            · show 0 ≤ ((K3 ++ P3).length : Int)
              omega
theorem qc_test (hn : n ≤ 1600) (hq : qw v1 v2 v3 v4 v5 v6 v7 v8 v9 v10 v11 v12 v13) (hnot : wa vnot W_not) (hand : wa vand W_and) (hor : wa vor W_or) (hall : wa vall W_all) (hmin : wa vmin W_min) (hmax : wa vmax W_max) (ht : tkA tk al) {p : Nat} {xa xe : Int} {w cd : Nat → Int} (h : mp g n p xa xe) (hd : d ≤ p) : qUC g n [] 0 d (TC g n al true [] [] 0 p) p (F_X10_qTest xa (n : Int) xe (0 : Int) (-1 : Int) tk (0 : Int) (0 : Int) (0 : Int) g vnot vand vor vall vmin vmax v1 v2 v3 v4 v5 v6 v7 v8 v9 v10 v11 v12 v13 cd w) := by
  have hpn := h.1
  exact qc_te hn hq hnot hand hor hall hmin hmax ht 3203 [] [] 0 p xa xe w cd ⟨True.intro, rfl, (by decide), (by show (0 : Int) + (d : Int) + ((0 : Nat) : Int) ≤ _; omega), Int.le_refl _, h, rfl, rfl, rfl, rfl, True.intro⟩ (by omega) (pcl_0 cd)
end QWC
