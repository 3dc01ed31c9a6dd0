def gGt (x_end : Int) (x_ended : Int) (x_bad : Int) (x_badPlace : Int) (g_tape : Nat → Int) (g_andAsked : Nat → Int) (g_orAsked : Nat → Int) (g_qWait : Nat → Int) (J0_c0_111 : Int) (J0_c0_113 : Int) (J0_c0_114 : Int) (J0_a5 : Nat → Int) (v173 : Int) : Int × Int × Int × Int × Int × Int × Int × Int × (Nat → Int) × (Nat → Int) := (lf_p (F_X10_takes v173 x_end x_ended x_bad g_tape g_andAsked) (fun r185 t_v187 => (lf_p t_v187 (fun v187 v188 => (if r185 = (0 : Int) then (lf_p (F_X10_takes_r2 v187 x_end v188 x_bad g_tape g_orAsked) (fun r202 t_v204 => (lf_p t_v204 (fun v204 v205 => (if r202 = (0 : Int) then (lf_b (F_X10_qHasSquare J0_c0_113 g_qWait) (fun r222 => (if r222 = (0 : Int) then ((0 : Int), v204, v205, x_bad, x_badPlace, J0_c0_111, J0_c0_113, J0_c0_114, g_qWait, J0_a5) else ((0 : Int), v204, v205, (1 : Int), v204, J0_c0_111, J0_c0_113, J0_c0_114, g_qWait, J0_a5)))) else (F_X10_qGoesOnTest_137 x_bad x_badPlace g_qWait 1623 v204 v205 J0_c0_111 J0_c0_113 J0_c0_114 J0_a5)))))) else (F_X10_qGoesOnTest_87 x_bad x_badPlace g_qWait 1623 v187 v188 J0_c0_111 J0_c0_113 J0_c0_114 J0_a5))))))
theorem gGt_b (x_end : Int) (x_ended : Int) (x_bad : Int) (x_badPlace : Int) (g_tape : Nat → Int) (g_andAsked : Nat → Int) (g_orAsked : Nat → Int) (g_qWait : Nat → Int) (K0 : (Int) → (Int) → (Int) → (Int) → (Nat → Int) → (Int × Int × Int × Int × Int × Int × Int × Int × (Nat → Int) × (Nat → Int))) (J0_c0_2 : Int) (J0_c0_111 : Int) (J0_c0_113 : Int) (J0_c0_114 : Int) (J0_a5 : Nat → Int) : F_X10_qGoesOnTest_0b x_end x_ended x_bad x_badPlace g_tape g_andAsked g_orAsked g_qWait K0 J0_c0_2 J0_c0_111 J0_c0_113 J0_c0_114 J0_a5 = (lf_p (F_X10_look J0_c0_2 x_end g_tape) (fun r171 v173 => (if r171 = (93 : Int) then (lf_b (F_X10_qHasSquare J0_c0_113 g_qWait) (fun r258 => (if r258 = (0 : Int) then (gGt x_end x_ended x_bad x_badPlace g_tape g_andAsked g_orAsked g_qWait J0_c0_111 J0_c0_113 J0_c0_114 J0_a5 v173) else (F_X10_qGoesOnTest_33 x_bad g_qWait J0_c0_114 K0 1623 (v173 + (1 : Int)) J0_c0_111 J0_c0_113 J0_a5)))) else (gGt x_end x_ended x_bad x_badPlace g_tape g_andAsked g_orAsked g_qWait J0_c0_111 J0_c0_113 J0_c0_114 J0_a5 v173)))) := rfl
theorem q_87 {w : Nat → Int} {xb xp v e o : Int} : ∀ (P : List Int) (f : Nat) (c : Int) (cd : Nat → Int), pwl w P → P.length < f → ∃ c2 cd2, F_X10_qGoesOnTest_87 xb xp w f v e c (P.length : Int) o cd = ((1 : Int), v, e, xb, xp, c2, ((opQ 10 P).length : Int) + 1, o, lf_up w ((opQ 10 P).length : Int) (10 : Int), cd2) ∧ c2 + ((opQ 10 P).length : Int) = c + (P.length : Int) := by
  intro P
  induction P with
  | nil =>
    intro f c cd h hf
    obtain ⟨k, rfl⟩ : ∃ k, f = k + 1 := ⟨f - 1, by have : 0 < f := hf; omega⟩
    have e1 : F_X10_qIsOn_a0_10 (([] : List Int).length : Int) w = if ([] : List Int).headD 0 = 10 then 1 else 0 := g_on h 10 (by decide)
    rw [if_neg (show ¬ (([] : List Int).headD 0 : Int) = 10 from by decide)] at e1
    refine ⟨c, cd, ?_, rfl⟩
    show F_X10_qGoesOnTest_87b xb xp w _ v e c (([] : List Int).length : Int) o cd = _
    unfold F_X10_qGoesOnTest_87b
    rw [lf_b_e, e1, if_pos rfl]
    rfl
  | cons x P ih =>
    intro f c cd h hf
    obtain ⟨k, rfl⟩ : ∃ k, f = k + 1 := ⟨f - 1, by have : 0 < f := Nat.lt_of_le_of_lt (Nat.zero_le _) hf; omega⟩
    have e1 : F_X10_qIsOn_a0_10 ((x :: P).length : Int) w = if x = 10 then 1 else 0 := g_on h 10 (by decide)
    have ed : F_X10_qDrops c ((x :: P).length : Int) cd w = ((c + 1), (P.length : Int), lf_up cd c (w P.length)) := q_drop
    obtain ⟨c2, cd2, i1, i2⟩ := ih k (c + 1) (lf_up cd c (w P.length)) h.2 (by have : P.length + 1 < k + 1 := hf; omega)
    show ∃ c2 cd2, F_X10_qGoesOnTest_87b xb xp w (F_X10_qGoesOnTest_87 xb xp w k) v e c ((x :: P).length : Int) o cd = _ ∧ c2 + _ = c + ((P.length + 1 : Nat) : Int)
    unfold F_X10_qGoesOnTest_87b
    rw [lf_b_e, e1]
    by_cases c3 : x = 10
    · rw [if_pos c3, if_neg (show ¬ (1 : Int) = 0 from by decide), ed, lf_p_e, lf_p_e, show opQ 10 (x :: P) = opQ 10 P from if_pos (by omega)]
      exact ⟨c2, cd2, i1, by omega⟩
    · rw [if_neg c3, if_pos rfl, show opQ 10 (x :: P) = x :: P from if_neg (by omega)]
      exact ⟨c, cd, rfl, rfl⟩
theorem q_137 {w : Nat → Int} {xb xp v e o : Int} : ∀ (P : List Int) (f : Nat) (c : Int) (cd : Nat → Int), pwl w P → P.length < f → ∃ c2 cd2, F_X10_qGoesOnTest_137 xb xp w f v e c (P.length : Int) o cd = ((1 : Int), v, e, xb, xp, c2, ((opQ 11 P).length : Int) + 1, o, lf_up w ((opQ 11 P).length : Int) (11 : Int), cd2) ∧ c2 + ((opQ 11 P).length : Int) = c + (P.length : Int) := by
  intro P
  induction P with
  | nil =>
    intro f c cd h hf
    obtain ⟨k, rfl⟩ : ∃ k, f = k + 1 := ⟨f - 1, by have : 0 < f := hf; omega⟩
    have e1 : F_X10_qIsOn_a0_10 (([] : List Int).length : Int) w = if ([] : List Int).headD 0 = 10 then 1 else 0 := g_on h 10 (by decide)
    rw [if_neg (show ¬ (([] : List Int).headD 0 : Int) = 10 from by decide)] at e1
    have e2 : F_X10_qIsOn_a0_11 (([] : List Int).length : Int) w = if ([] : List Int).headD 0 = 11 then 1 else 0 := g_on h 11 (by decide)
    rw [if_neg (show ¬ (([] : List Int).headD 0 : Int) = 11 from by decide)] at e2
    refine ⟨c, cd, ?_, rfl⟩
    show F_X10_qGoesOnTest_137b xb xp w _ v e c (([] : List Int).length : Int) o cd = _
    unfold F_X10_qGoesOnTest_137b
    rw [lf_b_e, e1, if_pos rfl, lf_b_e, e2, if_pos rfl]
    rfl
  | cons x P ih =>
    intro f c cd h hf
    obtain ⟨k, rfl⟩ : ∃ k, f = k + 1 := ⟨f - 1, by have : 0 < f := Nat.lt_of_le_of_lt (Nat.zero_le _) hf; omega⟩
    have e1 : F_X10_qIsOn_a0_10 ((x :: P).length : Int) w = if x = 10 then 1 else 0 := g_on h 10 (by decide)
    have e2 : F_X10_qIsOn_a0_11 ((x :: P).length : Int) w = if x = 11 then 1 else 0 := g_on h 11 (by decide)
    have ed : F_X10_qDrops c ((x :: P).length : Int) cd w = ((c + 1), (P.length : Int), lf_up cd c (w P.length)) := q_drop
    obtain ⟨c2, cd2, i1, i2⟩ := ih k (c + 1) (lf_up cd c (w P.length)) h.2 (by have : P.length + 1 < k + 1 := hf; omega)
    show ∃ c2 cd2, F_X10_qGoesOnTest_137b xb xp w (F_X10_qGoesOnTest_137 xb xp w k) v e c ((x :: P).length : Int) o cd = _ ∧ c2 + _ = c + ((P.length + 1 : Nat) : Int)
    unfold F_X10_qGoesOnTest_137b
    rw [lf_b_e, e1]
    by_cases c3 : x = 10
    · rw [if_pos c3, if_neg (show ¬ (1 : Int) = 0 from by decide), ed, lf_p_e, lf_p_e, show opQ 11 (x :: P) = opQ 11 P from if_pos (by omega)]
      exact ⟨c2, cd2, i1, by omega⟩
    · rw [if_neg c3, if_pos rfl, lf_b_e, e2]
      by_cases c4 : x = 11
      · rw [if_pos c4, if_neg (show ¬ (1 : Int) = 0 from by decide), ed, lf_p_e, lf_p_e, show opQ 11 (x :: P) = opQ 11 P from if_pos (by omega)]
        exact ⟨c2, cd2, i1, by omega⟩
      · rw [if_neg c4, if_pos rfl, show opQ 11 (x :: P) = x :: P from if_neg (by omega)]
        exact ⟨c, cd, rfl, rfl⟩
theorem q_33 {w : Nat → Int} {v o : Int} {K0 : Int → Int → Int → Int → (Nat → Int) → Int × Int × Int × Int × Int × Int × Int × Int × (Nat → Int) × (Nat → Int)} : ∀ (P : List Int) (f : Nat) (c : Int) (cd : Nat → Int), pwl w P → tMem P = true → P.length < f → ∃ c2 cd2, F_X10_qGoesOnTest_33 (0 : Int) w o K0 f v c (P.length : Int) cd = (lf_p (F_X10_qDropsNots (0 : Int) c2 ((tPop P).length : Int) (lf_o lf_isub o (1 : Int)) cd2 w) (fun v131 t_v132 => (lf_p t_v132 (fun v132 t_v133 => (lf_p t_v133 (fun v133 f134 => (K0 v v131 v132 v133 f134))))))) ∧ c2 + ((tPop P).length : Int) + 1 = c + (P.length : Int) ∧ c ≤ c2 := by
  intro P
  induction P with
  | nil => intro f c cd h ht; exact absurd ht (fun r => Bool.noConfusion r)
  | cons x P ih =>
    intro f c cd h ht hf
    obtain ⟨k, rfl⟩ : ∃ k, f = k + 1 := ⟨f - 1, by have : 0 < f := Nat.lt_of_le_of_lt (Nat.zero_le _) hf; omega⟩
    have e1 : F_X10_qIsOn_a0_25 ((x :: P).length : Int) w = if x = 25 then 1 else 0 := g_on h 25 (by decide)
    have ed : F_X10_qDrops c ((x :: P).length : Int) cd w = ((c + 1), (P.length : Int), lf_up cd c (w P.length)) := q_drop
    have em : (((x :: P).length : Nat) : Int) - 1 = (P.length : Int) := by
      show ((P.length + 1 : Nat) : Int) - 1 = _
      omega
    have ep : tPop (x :: P) = if x = 25 then P else tPop P := rfl
    show ∃ c2 cd2, F_X10_qGoesOnTest_33b (0 : Int) w o K0 (F_X10_qGoesOnTest_33 (0 : Int) w o K0 k) v c ((x :: P).length : Int) cd = _ ∧ c2 + _ + 1 = c + ((P.length + 1 : Nat) : Int) ∧ c ≤ c2
    unfold F_X10_qGoesOnTest_33b
    rw [lf_b_e, e1, ep]
    by_cases q : x = 25
    · rw [if_pos q, if_pos q, if_neg (show ¬ (1 : Int) = 0 from by decide), em]
      exact ⟨c, cd, rfl, by omega, Int.le_refl _⟩
    · have ht' : tMem P = true := by
        rw [tMem_c, decide_eq_false q, Bool.false_or] at ht
        exact ht
      obtain ⟨c2, cd2, i1, i2, i3⟩ := ih k (c + 1) (lf_up cd c (w P.length)) h.2 ht' (by have : P.length + 1 < k + 1 := hf; omega)
      rw [if_neg q, if_neg q, if_pos rfl, ed, lf_p_e, lf_p_e]
      exact ⟨c2, cd2, i1, by omega, by omega⟩
/-- what the model holds amid a test -/
def qV (g : Nat → Int) (n : Nat) (d : Nat) (P : List Int) (o : Int) (p : Nat) (xa xe xb xp c m oo : Int) (w : Nat → Int) : Prop := okQ P ∧ o = ((stQ P).length : Int) ∧ o ≤ 6 ∧ c + (d : Int) + (P.length : Int) ≤ (p : Int) ∧ 0 ≤ c ∧ mp g n p xa xe ∧ xb = 0 ∧ xp = -1 ∧ m = (P.length : Int) ∧ oo = o ∧ pwl w P
def qH (g : Nat → Int) (n : Nat) (al : Int) (d : Nat) (S : ST) (p : Nat) (R : Int × Int × Int × Int × Int × Int × Int × Int × (Nat → Int) × (Nat → Int)) : Prop := (R.1 = 1 ∧ ∃ P2 o2 p2, S = TT g n al true (stQ P2) o2 p2 ∧ p < p2 ∧ qV g n d P2 o2 p2 R.2.1 R.2.2.1 R.2.2.2.1 R.2.2.2.2.1 R.2.2.2.2.2.1 R.2.2.2.2.2.2.1 R.2.2.2.2.2.2.2.1 R.2.2.2.2.2.2.2.2.1) ∨ (R.1 = 0 ∧ ∃ q : Int × Int, S = .inl q ∧ ¬ q.1 = 0 ∧ R.2.2.2.1 = q.1 ∧ R.2.2.2.2.1 = q.2) ∨ (R.1 = 0 ∧ ∃ P2 o2 p2, S = .inr p2 ∧ p ≤ p2 ∧ stQ P2 = [] ∧ qV g n d P2 o2 p2 R.2.1 R.2.2.1 R.2.2.2.1 R.2.2.2.2.1 R.2.2.2.2.2.1 R.2.2.2.2.2.2.1 R.2.2.2.2.2.2.2.1 R.2.2.2.2.2.2.2.2.1)
theorem qH_m {g : Nat → Int} {n : Nat} {al : Int} {d : Nat} {S : ST} {p p1 : Nat} {R : Int × Int × Int × Int × Int × Int × Int × Int × (Nat → Int) × (Nat → Int)} (h : p ≤ p1) (hq : qH g n al d S p1 R) : qH g n al d S p R := by
  rcases hq with ⟨a, P2, o2, p2, b, c, z⟩ | r | ⟨a, P2, o2, p2, b, c, z⟩
  · exact Or.inl ⟨a, P2, o2, p2, b, by omega, z⟩
  · exact Or.inr (Or.inl r)
  · exact Or.inr (Or.inr ⟨a, P2, o2, p2, b, by omega, z⟩)
section QH
variable {g : Nat → Int} {n : Nat} {al : Int} {d : Nat} {P : List Int} {o : Int} {p : Nat} {xa xe c : Int} {w : Nat → Int} {vand vor : Nat → Int}
theorem q_jn {hi l : Int} (hlo : hi ≤ 11) (hl : l = 10 ∨ l = 11) (h : qV g n d P o p xa xe (0 : Int) (-1 : Int) c (P.length : Int) o w) (h2P : n2 P) (hj : jnW g n p) {R : Int × Int × Int × Int × Int × Int × Int × Int × (Nat → Int) × (Nat → Int)} (hR : ∃ c2 cd2, R = ((1 : Int), (tx_e g n p : Int), (tx_e g n p : Int), (0 : Int), (-1 : Int), c2, ((opQ hi P).length : Int) + 1, o, lf_up w ((opQ hi P).length : Int) l, cd2) ∧ c2 + ((opQ hi P).length : Int) = c + (P.length : Int)) (hle : (opQ hi P).length ≤ P.length) : qH g n al d (TT g n al false (stQ P) o p) p R := by
  obtain ⟨c2, cd2, e, e2⟩ := hR
  obtain ⟨h1, h2, h4, h5, h6', h7, h8, h9, h10, h11, h12⟩ := h
  have hk := jn_k hj
  have hlt : p < tx_e g n p := tx_e_gt' (by omega)
  obtain ⟨a1, a2, a3⟩ := opQ_ok hlo h1 h2P
  have hlO : isO l = true := isO_i.mpr (by omega)
  have hs : stQ (l :: opQ hi P) = stQ P := (stQ_o hlO).trans a3
  refine Or.inl ?_
  rw [e]
  refine ⟨rfl, l :: opQ hi P, o, tx_e g n p, ?_, hlt, ⟨a1, Or.inl ⟨hlO, a2⟩⟩, ?_, h4, ?_, ?_, mp_tok h7.1 hk (Or.inl rfl), rfl, rfl, rfl, rfl, pwl_push (opQ_p P h12) l⟩
  · rw [hs]
    exact TT_jn h7.1 hj
  · rw [hs]
    exact h2
  · show c2 + (d : Int) + (((opQ hi P).length + 1 : Nat) : Int) ≤ _
    omega
  · show 0 ≤ c2
    omega
theorem opQ_len {hi : Int} : ∀ (P : List Int), (opQ hi P).length ≤ P.length
  | [] => Nat.le_refl _
  | x :: P => by
    show (if 10 ≤ x ∧ x ≤ hi then opQ hi P else x :: P).length ≤ P.length + 1
    by_cases q : 10 ≤ x ∧ x ≤ hi
    · rw [if_pos q]
      have := opQ_len (hi := hi) P
      omega
    · rw [if_neg q]
      exact Nat.le_refl _
theorem q_gt (hn : n ≤ 1600) (hand : wa vand W_and) (hor : wa vor W_or) (h : qV g n d P o p xa xe (0 : Int) (-1 : Int) c (P.length : Int) o w) (h2P : n2 P) (hc : ¬ ((tx_k g n p = 3 ∧ g (tx_a g n p) = 93) ∧ tMem P = true)) {cd : Nat → Int} : qH g n al d (TT g n al false (stQ P) o p) p (gGt (n : Int) xe (0 : Int) (-1 : Int) g vand vor w c (P.length : Int) o cd (tx_a g n p : Int)) := by
  have h0 := h
  obtain ⟨h1, h2, h4, h5, h6', h7, h8, h9, h10, h11, h12⟩ := h
  have hpn := h7.1
  have hlen : P.length ≤ 1600 := by omega
  have hhs : F_X10_qHasSquare (P.length : Int) w = b2 (tMem P) := q_has h12 (by omega)
  unfold gGt
  rw [F_X10_takes_1 hn (W := W_and) rfl hand (mp_a h7)]
  cases ca : wh g n W_and p with
  | true =>
    have k14 : ¬ wl g n ws_14 p = -1 := by
      rw [show wl g n ws_14 p = 0 from (wl_1 W_and).trans (if_pos ca)]
      decide
    rw [if_pos rfl, lf_p_e, lf_p_e, if_neg (show ¬ (1 : Int) = 0 from by decide)]
    exact q_jn (hi := 10) (l := 10) (by decide) (Or.inl rfl) h0 h2P (Or.inl k14) (q_87 P 1623 c cd h12 (by omega)) (opQ_len P)
  | false =>
    have k14 : wl g n ws_14 p = -1 := (wl_1 W_and).trans (if_neg (fun r => Bool.noConfusion (ca.symm.trans r)))
    rw [if_neg (show ¬ false = true from fun r => Bool.noConfusion r), lf_p_e, lf_p_e, if_pos rfl, F_X10_takes_r2_1 hn (W := W_or) rfl hor (mp_a h7)]
    cases co : wh g n W_or p with
    | true =>
      have k13 : ¬ wl g n ws_13 p = -1 := by
        rw [show wl g n ws_13 p = 0 from (wl_1 W_or).trans (if_pos co)]
        decide
      rw [if_pos rfl, lf_p_e, lf_p_e, if_neg (show ¬ (1 : Int) = 0 from by decide)]
      exact q_jn (hi := 11) (l := 11) (by decide) (Or.inr rfl) h0 h2P (Or.inr k13) (q_137 P 1623 c cd h12 (by omega)) (opQ_len P)
    | false =>
      have k13 : wl g n ws_13 p = -1 := (wl_1 W_or).trans (if_neg (fun r => Bool.noConfusion (co.symm.trans r)))
      have hj : ¬ jnW g n p := fun r => r.elim (fun r => r k14) (fun r => r k13)
      rw [if_neg (show ¬ false = true from fun r => Bool.noConfusion r), lf_p_e, lf_p_e, if_pos rfl, lf_b_e, hhs]
      rcases ok_sq h1 h2P with r | ⟨r1, r2, r3⟩
      · rw [r.1, if_pos (show b2 false = 0 from rfl), r.2, TT_nd hj]
        exact Or.inr (Or.inr ⟨rfl, P, o, p, rfl, Nat.le_refl _, r.2, h1, h2, h4, h5, h6', mp_a h7, rfl, rfl, rfl, rfl, h12⟩)
      · have hcl : ¬ (tx_k g n p = 3 ∧ g (tx_a g n p) = 93) := fun s => hc ⟨s, r1⟩
        rw [r1, if_neg (show ¬ b2 true = 0 from by decide), r2, TT_bd hcl hj]
        exact Or.inr (Or.inl ⟨rfl, (1, (tx_a g n p : Int)), rfl, (show ¬ (1 : Int) = 0 from by decide), rfl, rfl⟩)
end QH
theorem ntD_len : ∀ (P : List Int) (o : Int), (ntD P o).1.length ≤ P.length
  | [], _ => Nat.le_refl _
  | x :: P, o => by
    show (if x = 12 then ntD P (o - 1) else (x :: P, o)).1.length ≤ P.length + 1
    by_cases q : x = 12
    · rw [if_pos q]
      have := ntD_len P (o - 1)
      omega
    · rw [if_neg q]
      exact Nat.le_refl _
theorem tPop_len : ∀ (P : List Int), (tPop P).length ≤ P.length
  | [] => Nat.le_refl _
  | x :: P => by
    show (if x = 25 then P else tPop P).length ≤ P.length + 1
    by_cases q : x = 25
    · rw [if_pos q]
      omega
    · rw [if_neg q]
      have := tPop_len P
      omega
theorem q_goest {g : Nat → Int} {n : Nat} {al : Int} {d : Nat} {xe : Int} {w vand vor : Nat → Int} (hn : n ≤ 1600) (hand : wa vand W_and) (hor : wa vor W_or) : ∀ (f : Nat) (P : List Int) (o : Int) (p : Nat) (xa c : Int) (cd : Nat → Int), qV g n d P o p xa xe (0 : Int) (-1 : Int) c (P.length : Int) o w → n2 P → n - p < f → qH g n al d (TT g n al false (stQ P) o p) p (F_X10_qGoesOnTest_0 (n : Int) xe (0 : Int) (-1 : Int) g vand vor w f xa c (P.length : Int) o cd) := by
  intro f
  induction f with
  | zero => intro P o p xa c cd h h2P hf; omega
  | succ f ih =>
    intro P o p xa c cd h h2P hf
    have h0 := h
    obtain ⟨h1, h2, h4, h5, h6', h7, h8, h9, h10, h11, h12⟩ := h
    have hpn := h7.1
    have hlen : P.length ≤ 1600 := by omega
    have hle := tx_e_le (f := g) h7.1
    have hhs : F_X10_qHasSquare (P.length : Int) w = b2 (tMem P) := q_has h12 (by omega)
    show qH g n al d (TT g n al false (stQ P) o p) p (F_X10_qGoesOnTest_0b (n : Int) xe (0 : Int) (-1 : Int) g vand vor w (F_X10_qGoesOnTest_0 (n : Int) xe (0 : Int) (-1 : Int) g vand vor w f) xa c (P.length : Int) o cd)
    rw [gGt_b, ml_look hn h7, lf_p_e]
    by_cases q : lk g n p = 93
    · have q' : tx_k g n p = 3 ∧ g (tx_a g n p) = 93 := (lk_sgn (by omega)).mp q
      have hlt : p < tx_e g n p := tx_e_gt' (by have := q'.1; omega)
      rw [if_pos q, lf_b_e, hhs]
      rcases ok_sq h1 h2P with r | ⟨r1, r2, r3⟩
      · rw [r.1, if_pos (show b2 false = 0 from rfl)]
        exact q_gt hn hand hor h0 h2P (fun s => Bool.noConfusion (r.1.symm.trans s.2))
      · have hls : o = (((stQ (tPop P)).length + 1 : Nat) : Int) := by
          rw [h2, r2]
          rfl
        have hpl := tPop_len P
        obtain ⟨c2, cd2, e1, e2, e3⟩ := q_33 (v := (tx_a g n p : Int) + 1) (o := o) (K0 := F_X10_qGoesOnTest_0 (n : Int) xe (0 : Int) (-1 : Int) g vand vor w f) P 1623 c cd h12 r1 (by omega)
        obtain ⟨c3, cd3, e4, e5⟩ := q_nots (c := c2) (cd := cd2) (o := o - 1) (tPop_p P h12) (by omega) (by omega) (by omega)
        obtain ⟨u1, u2, u3, u4, u5, u6⟩ := ok_nt (o - 1) r3
        rw [r1, if_neg (show ¬ b2 true = 0 from by decide), e1, lo_sub (by omega) (by omega) (by omega) (by omega) (by omega) (by omega), e4, lf_p_e, lf_p_e, lf_p_e]
        have eS : TT g n al false (stQ P) o p = TT g n al false (stQ (ntD (tPop P) (o - 1)).1) (ntD (tPop P) (o - 1)).2 (tx_e g n p) := by
          rw [r2, show TT g n al false (25 :: stQ (tPop P)) o p = TT g n al false (25 :: stQ (tPop P)) (o - 1 + 1) p from by rw [show o - 1 + 1 = o from by omega], TT_cl h7.1 q', u1, u2]
        have hln := (show (ntD (tPop P) (o - 1)).1.length ≤ (tPop P).length from ntD_len (tPop P) (o - 1))
        rw [eS]
        exact qH_m (Nat.le_of_lt hlt) (ih (ntD (tPop P) (o - 1)).1 (ntD (tPop P) (o - 1)).2 (tx_e g n p) _ c3 cd3 ⟨u3, by omega, by omega, by omega, by omega, mp_sgn h7 q'.1, rfl, rfl, rfl, rfl, ntD_p (tPop P) (o - 1) (tPop_p P h12)⟩ u4 (by omega))
    · rw [if_neg q]
      exact q_gt hn hand hor h0 h2P (fun r => q ((lk_sgn (by omega)).mpr r.1))
