section QFC
variable {g : Nat → Int} {n : Nat} {al tk : Int} {B : List Int} {o0 : Int} {d : Nat} {vall vmin vmax v1 v2 v3 v4 v5 v6 v7 v8 v9 v10 v11 v12 v13 : Nat → Int}
/-- a fact without square or not, with what is coded -/
theorem qc_fact (hn : n ≤ 1600) (hB : ¬ (1 ≤ B.headD 0 ∧ B.headD 0 ≤ 4)) (hq : qw v1 v2 v3 v4 v5 v6 v7 v8 v9 v10 v11 v12 v13) (hall : wa vall W_all) (hmin : wa vmin W_min) (hmax : wa vmax W_max) (ht : tkA tk al) {p : Nat} {xa xe : Int} {K : List Int} {w cd : Nat → Int} (h : qS g n B o0 d [] o0 p xa xe (0 : Int) (-1 : Int) (K.length : Int) (B.length : Int) o0 w) (hK : pcl cd K) : qUC g n B o0 d (fcC g n al K o0 p) p (F_X10_qFact xa (n : Int) xe (0 : Int) (-1 : Int) tk (K.length : Int) (B.length : Int) o0 g vall vmin vmax v1 v2 v3 v4 v5 v6 v7 v8 v9 v10 v11 v12 v13 cd w) := by
  obtain ⟨h1, h2, h3, h4, h5, h6', h7, h8, h9, h10, h11, h12⟩ := h
  have h5' : (K.length : Int) + (d : Int) + (B.length : Int) ≤ (p : Int) := h5
  unfold F_X10_qFact fcC
  rw [F_X10_takes_1 hn (W := W_all) rfl hall h7]
  cases ca : wh g n W_all p with
  | true =>
    have k16 : ¬ wl g n ws_16 p = -1 := by
      rw [show wl g n ws_16 p = 0 from (wl_1 W_all).trans (if_pos ca)]
      decide
    have hk := (wh_k ca).1
    have hlt : p < tx_e g n p := tx_e_gt' (by omega)
    rw [if_pos rfl, lf_p_e, lf_p_e, if_neg (show ¬ (1 : Int) = 0 from by decide), if_pos k16]
    unfold F_X10_qCode
    rw [lf_p_e]
    refine Or.inr ⟨tx_e g n p, K ++ [13], rfl, hlt, ⟨h1, h2, h3, h4, ?_, ?_, mp_tok h7.1 hk (Or.inl rfl), rfl, rfl, rfl, rfl, h12⟩, (len_1 K 13).symm, pcl_app hK 13⟩
    · show (K.length : Int) + 1 + (d : Int) + (B.length : Int) ≤ _
      omega
    · show 0 ≤ (K.length : Int) + 1
      omega
  | false =>
    have k16 : wl g n ws_16 p = -1 := (wl_1 W_all).trans (if_neg (fun r => Bool.noConfusion (ca.symm.trans r)))
    rw [if_neg (show ¬ false = true from fun r => Bool.noConfusion r), lf_p_e, lf_p_e, if_pos rfl, if_neg (show ¬ ¬ wl g n ws_16 p = -1 from fun r => r k16)]
    have hs1 := qc_sums hn hB hq hmin hmax ht (cd := cd) (show qS g n B o0 d [] o0 p (tx_a g n p : Int) xe (0 : Int) (-1 : Int) (K.length : Int) (B.length : Int) o0 w from ⟨h1, h2, h3, h4, h5, h6', mp_a h7, rfl, rfl, rfl, rfl, h12⟩) hK
    generalize F_X10_qSums (tx_a g n p : Int) (n : Int) xe (0 : Int) (-1 : Int) tk (K.length : Int) (B.length : Int) o0 g vmin vmax v1 v2 v3 v4 v5 v6 v7 v8 v9 v10 v11 v12 v13 cd w = R at hs1 ⊢
    obtain ⟨y1, y2, y3, y4, y5, y6, y7, y8, y9⟩ := R
    rw [lf_p_e, lf_p_e, lf_p_e, lf_p_e, lf_p_e, lf_p_e, lf_p_e, lf_p_e]
    rcases hs1 with ⟨q, e, q1, q2, q3⟩ | ⟨p1, K1, e, hlt, hs, hc1, hk1⟩
    · have q2' : y3 = q.1 := q2
      rw [if_neg (show ¬ y3 = 0 from fun r => q1 (q2'.symm.trans r)), e]
      exact Or.inl ⟨q, rfl, q1, q2, q3⟩
    · have hs' : qS g n B o0 d [] o0 p1 y1 y2 y3 y4 y5 y6 y7 y8 := hs
      obtain ⟨s1, s2, s3, s4, s5, s6, s7, s8, s9, s10, s11, s12⟩ := hs'
      subst s8
      subst s9
      subst s10
      subst s11
      have hc1' : y5 = (K1.length : Int) := hc1
      subst hc1'
      have hk1' : pcl y9 K1 := hk1
      have s5' : (K1.length : Int) + (d : Int) + (B.length : Int) ≤ (p1 : Int) := s5
      rw [if_pos rfl, ml_look hn s7, lf_p_e, e]
      have two : ∀ k : Int, tx_k g n p1 = 3 → qUC g n B y7 d (bL (RC g n al true [] K1 y7 (tx_e g n p1)) (fun q K2 => .inr (q, K2 ++ [k]))) p (lf_p (F_X10_qSums ((tx_a g n p1 : Int) + (1 : Int)) (n : Int) y2 (0 : Int) (-1 : Int) tk (K1.length : Int) (B.length : Int) y7 g vmin vmax v1 v2 v3 v4 v5 v6 v7 v8 v9 v10 v11 v12 v13 y9 y8) (fun v83 t_v84 => (lf_p t_v84 (fun v84 t_v85 => (lf_p t_v85 (fun v85 t_v86 => (lf_p t_v86 (fun v86 t_v87 => (lf_p t_v87 (fun v87 t_v88 => (lf_p t_v88 (fun v88 t_v89 => (lf_p t_v89 (fun v89 t_f90 => (lf_p t_f90 (fun f90 f91 => (lf_p (F_X10_qCode v87 f91 k) (fun v113 f114 => (v83, v84, v85, v86, v113, v88, v89, f90, f114))))))))))))))))))) := by
        intro k hk
        have hlt2 : p1 < tx_e g n p1 := tx_e_gt' (by omega)
        have hs2 := qc_sums (d := d + 1) hn hB hq hmin hmax ht (cd := y9) (show qS g n B y7 (d + 1) [] y7 (tx_e g n p1) ((tx_a g n p1 : Int) + 1) y2 (0 : Int) (-1 : Int) (K1.length : Int) (B.length : Int) y7 y8 from ⟨h1, s2, s3, s4, (by show (K1.length : Int) + ((d + 1 : Nat) : Int) + (B.length : Int) ≤ _; omega), s6, mp_sgn s7 hk, rfl, rfl, rfl, rfl, s12⟩) hk1'
        generalize F_X10_qSums ((tx_a g n p1 : Int) + (1 : Int)) (n : Int) y2 (0 : Int) (-1 : Int) tk (K1.length : Int) (B.length : Int) y7 g vmin vmax v1 v2 v3 v4 v5 v6 v7 v8 v9 v10 v11 v12 v13 y9 y8 = R at hs2 ⊢
        obtain ⟨z1, z2, z3, z4, z5, z6, z7, z8, z9⟩ := R
        rw [lf_p_e, lf_p_e, lf_p_e, lf_p_e, lf_p_e, lf_p_e, lf_p_e, lf_p_e]
        unfold F_X10_qCode
        rw [lf_p_e]
        rcases hs2 with ⟨q, e2, r⟩ | ⟨p2, K2, e2, hlt3, hs3, hc2, hk2⟩
        · rw [e2]
          exact Or.inl ⟨q, rfl, r⟩
        · have hs' : qS g n B y7 (d + 1) [] y7 p2 z1 z2 z3 z4 z5 z6 z7 z8 := hs3
          obtain ⟨t1, t2, t3, t4, t5, t6, t7, t8, t9, t10, t11, t12⟩ := hs'
          have hc2' : z5 = (K2.length : Int) := hc2
          subst hc2'
          have hk2' : pcl z9 K2 := hk2
          have t5' : (K2.length : Int) + ((d + 1 : Nat) : Int) + (B.length : Int) ≤ (p2 : Int) := t5
          rw [e2]
          refine Or.inr ⟨p2, K2 ++ [k], rfl, by omega, ⟨t1, t2, t3, t4, ?_, ?_, t7, t8, t9, t10, t11, t12⟩, (len_1 K2 k).symm, pcl_app hk2' k⟩
          · show (K2.length : Int) + 1 + (d : Int) + (B.length : Int) ≤ _
            omega
          · show 0 ≤ (K2.length : Int) + 1
            omega
      have go : ∀ (v k : Int) (s : ST), sp_sg g n p1 = (v, s) → -19 - v = k → bL (.inr (p1, K1) : SL) (fun p1 K1 => ndL (sp_sg g n p1).2 (fun p2 => bL (RC g n al true [] K1 y7 p2) (fun q K2 => .inr (q, K2 ++ [-19 - (sp_sg g n p1).1])))) = ndL s (fun p2 => bL (RC g n al true [] K1 y7 p2) (fun q K2 => .inr (q, K2 ++ [k]))) := by
        intro v k s e1 e2
        have h9 : ∀ z : Int × ST, z = (v, s) → ndL z.2 (fun p2 => bL (RC g n al true [] K1 y7 p2) (fun q K2 => .inr (q, K2 ++ [-19 - z.1]))) = ndL s (fun p2 => bL (RC g n al true [] K1 y7 p2) (fun q K2 => .inr (q, K2 ++ [k]))) := by
          intro z hz
          subst hz
          subst e2
          rfl
        exact h9 _ e1
      by_cases c1 : lk g n p1 = 60
      · have c1' := (lk_sgn (by omega)).mp c1
        rw [if_pos c1, go (-26) 7 (.inr (tx_e g n p1)) (if_pos c1') (by decide)]
        exact two 7 c1'.1
      · have c1' : ¬ (tx_k g n p1 = 3 ∧ g (tx_a g n p1) = 60) := fun r => c1 ((lk_sgn (by omega)).mpr r)
        rw [if_neg c1]
        by_cases c2 : lk g n p1 = 62
        · have c2' := (lk_sgn (by omega)).mp c2
          rw [if_pos c2, go (-27) 8 (.inr (tx_e g n p1)) ((if_neg c1').trans (if_pos c2')) (by decide)]
          exact two 8 c2'.1
        · have c2' : ¬ (tx_k g n p1 = 3 ∧ g (tx_a g n p1) = 62) := fun r => c2 ((lk_sgn (by omega)).mpr r)
          rw [if_neg c2]
          by_cases c3 : lk g n p1 = 61
          · have c3' := (lk_sgn (by omega)).mp c3
            rw [if_pos c3, go (-28) 9 (.inr (tx_e g n p1)) ((if_neg c1').trans ((if_neg c2').trans (if_pos c3'))) (by decide)]
            exact two 9 c3'.1
          · have c3' : ¬ (tx_k g n p1 = 3 ∧ g (tx_a g n p1) = 61) := fun r => c3 ((lk_sgn (by omega)).mpr r)
            rw [if_neg c3, go (-28) 9 (.inl (1, (tx_a g n p1 : Int))) ((if_neg c1').trans ((if_neg c2').trans (if_neg c3'))) (by decide)]
            exact Or.inl ⟨(1, (tx_a g n p1 : Int)), rfl, (show ¬ (1 : Int) = 0 from by decide), rfl, rfl⟩
end QFC
theorem dN_len : ∀ (P K : List Int) (o : Int), (dN P K o).2.1.length + (dN P K o).1.length = K.length + P.length
  | [], _, _ => rfl
  | x :: P, K, o => by
    show (if x = 12 then dN P (K ++ [x]) (o - 1) else (x :: P, K, o)).2.1.length + (if x = 12 then dN P (K ++ [x]) (o - 1) else (x :: P, K, o)).1.length = K.length + (P.length + 1)
    by_cases q : x = 12
    · rw [if_pos q, dN_len P (K ++ [x]) (o - 1), List.length_append]
      show K.length + 1 + P.length = _
      omega
    · rw [if_neg q]
      rfl
theorem dA_len {hi : Int} : ∀ (P K : List Int), (dA hi P K).2.length + (dA hi P K).1.length = K.length + P.length
  | [], _ => rfl
  | x :: P, K => by
    show (if 10 ≤ x ∧ x ≤ hi then dA hi P (K ++ [x]) else (x :: P, K)).2.length + (if 10 ≤ x ∧ x ≤ hi then dA hi P (K ++ [x]) else (x :: P, K)).1.length = K.length + (P.length + 1)
    by_cases q : 10 ≤ x ∧ x ≤ hi
    · rw [if_pos q, dA_len P (K ++ [x]), List.length_append]
      show K.length + 1 + P.length = _
      omega
    · rw [if_neg q]
      rfl
theorem qc_nt {w : Nat → Int} : ∀ (P : List Int) (f : Nat) (K : List Int) (o : Int) (cd : Nat → Int), pwl w P → P.length < f → -2000 ≤ o - (P.length : Int) → o ≤ 2000 → pcl cd K → ∃ cd2, F_X10_qDropsNots_0 (0 : Int) w f (K.length : Int) (P.length : Int) o cd = (((dN P K o).2.1.length : Int), ((ntD P o).1.length : Int), (ntD P o).2, cd2) ∧ pcl cd2 (dN P K o).2.1 := by
  intro P
  induction P with
  | nil =>
    intro f K o cd h hf h1 h2 hK
    obtain ⟨k, rfl⟩ : ∃ k, f = k + 1 := ⟨f - 1, by have : 0 < f := hf; omega⟩
    refine ⟨cd, ?_, hK⟩
    have e : F_X10_qIsOn_a0_12 (([] : List Int).length : Int) w = if ([] : List Int).headD 0 = 12 then 1 else 0 := g_on h 12 (by decide)
    rw [if_neg (show ¬ (([] : List Int).headD 0 : Int) = 12 from by decide)] at e
    show F_X10_qDropsNots_0b (0 : Int) w _ (K.length : Int) (([] : List Int).length : Int) o cd = _
    unfold F_X10_qDropsNots_0b
    rw [if_pos rfl, lf_b_e, e, if_pos rfl]
    rfl
  | cons x P ih =>
    intro f K o cd h hf h1 h2 hK
    obtain ⟨k, rfl⟩ : ∃ k, f = k + 1 := ⟨f - 1, by have : 0 < f := Nat.lt_of_le_of_lt (Nat.zero_le _) hf; omega⟩
    have h1' : -2000 ≤ o - ((P.length + 1 : Nat) : Int) := h1
    have e : F_X10_qIsOn_a0_12 ((x :: P).length : Int) w = if x = 12 then 1 else 0 := g_on h 12 (by decide)
    obtain ⟨cd2, e3, e4⟩ := ih k (K ++ [x]) (o - 1) (lf_up cd (K.length : Int) x) h.2 (by have : P.length + 1 < k + 1 := hf; omega) (by omega) (by omega) (pcl_app hK x)
    rw [len_1] at e3
    have ex : dN (x :: P) K o = if x = 12 then dN P (K ++ [x]) (o - 1) else (x :: P, K, o) := rfl
    have en : ntD (x :: P) o = if x = 12 then ntD P (o - 1) else (x :: P, o) := rfl
    rw [ex, en]
    show ∃ cd2, F_X10_qDropsNots_0b (0 : Int) w (F_X10_qDropsNots_0 (0 : Int) w k) (K.length : Int) ((x :: P).length : Int) o cd = _ ∧ _
    unfold F_X10_qDropsNots_0b
    rw [if_pos rfl, lf_b_e, e]
    by_cases q : x = 12
    · rw [if_pos q, if_pos q, if_pos q, if_neg (show ¬ (1 : Int) = 0 from by decide), qc_drop h, lf_p_e, lf_p_e, lo_sub (by omega) (by omega) (by omega) (by omega) (by omega) (by omega)]
      exact ⟨cd2, e3, e4⟩
    · rw [if_neg q, if_neg q, if_neg q, if_pos rfl]
      exact ⟨cd, rfl, hK⟩
theorem qc_nots {w cd : Nat → Int} {P K : List Int} {o : Int} (h : pwl w P) (hl : P.length ≤ 1700) (h1 : 0 ≤ o) (h2 : o ≤ 6) (hK : pcl cd K) : ∃ cd2, F_X10_qDropsNots (0 : Int) (K.length : Int) (P.length : Int) o cd w = (((dN P K o).2.1.length : Int), ((ntD P o).1.length : Int), (ntD P o).2, cd2) ∧ pcl cd2 (dN P K o).2.1 := qc_nt P 1702 K o cd h (by omega) (by omega) (by omega) hK
