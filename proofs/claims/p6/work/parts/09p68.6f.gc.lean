/-! tests, with what is coded -/
theorem qc_87 {w : Nat → Int} {xb xp v e o : Int} : ∀ (P : List Int) (f : Nat) (K : List Int) (cd : Nat → Int), pwl w P → P.length < f → pcl cd K → ∃ cd2, F_X10_qGoesOnTest_87 xb xp w f v e (K.length : Int) (P.length : Int) o cd = ((1 : Int), v, e, xb, xp, ((dA 10 P K).2.length : Int), ((opQ 10 P).length : Int) + 1, o, lf_up w ((opQ 10 P).length : Int) (10 : Int), cd2) ∧ pcl cd2 (dA 10 P K).2 := by
  intro P
  induction P with
  | nil =>
    intro f K cd h hf hK
    obtain ⟨k, rfl⟩ : ∃ k, f = k + 1 := ⟨f - 1, by have : 0 < f := hf; omega⟩
    have e1 : F_X10_qIsOn_a0_10 (([] : List Int).length : Int) w = if ([] : List Int).headD 0 = 10 then 1 else 0 := g_on h 10 (by decide)
    rw [if_neg (show ¬ (([] : List Int).headD 0 : Int) = 10 from by decide)] at e1
    refine ⟨cd, ?_, hK⟩
    show F_X10_qGoesOnTest_87b xb xp w _ v e (K.length : Int) (([] : List Int).length : Int) o cd = _
    unfold F_X10_qGoesOnTest_87b
    rw [lf_b_e, e1, if_pos rfl]
    rfl
  | cons x P ih =>
    intro f K cd h hf hK
    obtain ⟨k, rfl⟩ : ∃ k, f = k + 1 := ⟨f - 1, by have : 0 < f := Nat.lt_of_le_of_lt (Nat.zero_le _) hf; omega⟩
    have e1 : F_X10_qIsOn_a0_10 ((x :: P).length : Int) w = if x = 10 then 1 else 0 := g_on h 10 (by decide)
    have ed : F_X10_qDrops (K.length : Int) ((x :: P).length : Int) cd w = (((K.length : Int) + 1), (P.length : Int), lf_up cd (K.length : Int) x) := qc_drop h
    obtain ⟨cd2, i1, i2⟩ := ih k (K ++ [x]) (lf_up cd (K.length : Int) x) h.2 (by have : P.length + 1 < k + 1 := hf; omega) (pcl_app hK x)
    rw [len_1] at i1
    show ∃ cd2, F_X10_qGoesOnTest_87b xb xp w (F_X10_qGoesOnTest_87 xb xp w k) v e (K.length : Int) ((x :: P).length : Int) o cd = _ ∧ _
    unfold F_X10_qGoesOnTest_87b
    rw [lf_b_e, e1]
    by_cases c3 : x = 10
    · rw [if_pos c3, if_neg (show ¬ (1 : Int) = 0 from by decide), ed, lf_p_e, lf_p_e, show opQ 10 (x :: P) = opQ 10 P from if_pos (by omega), show dA 10 (x :: P) K = dA 10 P (K ++ [x]) from if_pos (by omega)]
      exact ⟨cd2, i1, i2⟩
    · rw [if_neg c3, if_pos rfl, show opQ 10 (x :: P) = x :: P from if_neg (by omega), show dA 10 (x :: P) K = (x :: P, K) from if_neg (by omega)]
      exact ⟨cd, rfl, hK⟩
theorem qc_137 {w : Nat → Int} {xb xp v e o : Int} : ∀ (P : List Int) (f : Nat) (K : List Int) (cd : Nat → Int), pwl w P → P.length < f → pcl cd K → ∃ cd2, F_X10_qGoesOnTest_137 xb xp w f v e (K.length : Int) (P.length : Int) o cd = ((1 : Int), v, e, xb, xp, ((dA 11 P K).2.length : Int), ((opQ 11 P).length : Int) + 1, o, lf_up w ((opQ 11 P).length : Int) (11 : Int), cd2) ∧ pcl cd2 (dA 11 P K).2 := by
  intro P
  induction P with
  | nil =>
    intro f K cd h hf hK
    obtain ⟨k, rfl⟩ : ∃ k, f = k + 1 := ⟨f - 1, by have : 0 < f := hf; omega⟩
    have e1 : F_X10_qIsOn_a0_10 (([] : List Int).length : Int) w = if ([] : List Int).headD 0 = 10 then 1 else 0 := g_on h 10 (by decide)
    rw [if_neg (show ¬ (([] : List Int).headD 0 : Int) = 10 from by decide)] at e1
    have e2 : F_X10_qIsOn_a0_11 (([] : List Int).length : Int) w = if ([] : List Int).headD 0 = 11 then 1 else 0 := g_on h 11 (by decide)
    rw [if_neg (show ¬ (([] : List Int).headD 0 : Int) = 11 from by decide)] at e2
    refine ⟨cd, ?_, hK⟩
    show F_X10_qGoesOnTest_137b xb xp w _ v e (K.length : Int) (([] : List Int).length : Int) o cd = _
    unfold F_X10_qGoesOnTest_137b
    rw [lf_b_e, e1, if_pos rfl, lf_b_e, e2, if_pos rfl]
    rfl
  | cons x P ih =>
    intro f K cd h hf hK
    obtain ⟨k, rfl⟩ : ∃ k, f = k + 1 := ⟨f - 1, by have : 0 < f := Nat.lt_of_le_of_lt (Nat.zero_le _) hf; omega⟩
    have e1 : F_X10_qIsOn_a0_10 ((x :: P).length : Int) w = if x = 10 then 1 else 0 := g_on h 10 (by decide)
    have e2 : F_X10_qIsOn_a0_11 ((x :: P).length : Int) w = if x = 11 then 1 else 0 := g_on h 11 (by decide)
    have ed : F_X10_qDrops (K.length : Int) ((x :: P).length : Int) cd w = (((K.length : Int) + 1), (P.length : Int), lf_up cd (K.length : Int) x) := qc_drop h
    obtain ⟨cd2, i1, i2⟩ := ih k (K ++ [x]) (lf_up cd (K.length : Int) x) h.2 (by have : P.length + 1 < k + 1 := hf; omega) (pcl_app hK x)
    rw [len_1] at i1
    show ∃ cd2, F_X10_qGoesOnTest_137b xb xp w (F_X10_qGoesOnTest_137 xb xp w k) v e (K.length : Int) ((x :: P).length : Int) o cd = _ ∧ _
    unfold F_X10_qGoesOnTest_137b
    rw [lf_b_e, e1]
    by_cases c3 : x = 10
    · rw [if_pos c3, if_neg (show ¬ (1 : Int) = 0 from by decide), ed, lf_p_e, lf_p_e, show opQ 11 (x :: P) = opQ 11 P from if_pos (by omega), show dA 11 (x :: P) K = dA 11 P (K ++ [x]) from if_pos (by omega)]
      exact ⟨cd2, i1, i2⟩
    · rw [if_neg c3, if_pos rfl, lf_b_e, e2]
      by_cases c4 : x = 11
      · rw [if_pos c4, if_neg (show ¬ (1 : Int) = 0 from by decide), ed, lf_p_e, lf_p_e, show opQ 11 (x :: P) = opQ 11 P from if_pos (by omega), show dA 11 (x :: P) K = dA 11 P (K ++ [x]) from if_pos (by omega)]
        exact ⟨cd2, i1, i2⟩
      · rw [if_neg c4, if_pos rfl, show opQ 11 (x :: P) = x :: P from if_neg (by omega), show dA 11 (x :: P) K = (x :: P, K) from if_neg (by omega)]
        exact ⟨cd, rfl, hK⟩
theorem qc_33 {w : Nat → Int} {v o : Int} {K0 : Int → Int → Int → Int → (Nat → Int) → Int × Int × Int × Int × Int × Int × Int × Int × (Nat → Int) × (Nat → Int)} : ∀ (P : List Int) (f : Nat) (K : List Int) (cd : Nat → Int), pwl w P → tMem P = true → P.length < f → pcl cd K → ∃ cd2, F_X10_qGoesOnTest_33 (0 : Int) w o K0 f v (K.length : Int) (P.length : Int) cd = (lf_p (F_X10_qDropsNots (0 : Int) ((dS P K).2.length : Int) ((tPop P).length : Int) (lf_o lf_isub o (1 : Int)) cd2 w) (fun v131 t_v132 => (lf_p t_v132 (fun v132 t_v133 => (lf_p t_v133 (fun v133 f134 => (K0 v v131 v132 v133 f134))))))) ∧ pcl cd2 (dS P K).2 ∧ (dS P K).2.length + (tPop P).length + 1 = K.length + P.length := by
  intro P
  induction P with
  | nil => intro f K cd h ht; exact absurd ht (fun r => Bool.noConfusion r)
  | cons x P ih =>
    intro f K cd h ht hf hK
    obtain ⟨k, rfl⟩ : ∃ k, f = k + 1 := ⟨f - 1, by have : 0 < f := Nat.lt_of_le_of_lt (Nat.zero_le _) hf; omega⟩
    have e1 : F_X10_qIsOn_a0_25 ((x :: P).length : Int) w = if x = 25 then 1 else 0 := g_on h 25 (by decide)
    have ed : F_X10_qDrops (K.length : Int) ((x :: P).length : Int) cd w = (((K.length : Int) + 1), (P.length : Int), lf_up cd (K.length : Int) x) := qc_drop h
    have em : (((x :: P).length : Nat) : Int) - 1 = (P.length : Int) := by
      show ((P.length + 1 : Nat) : Int) - 1 = _
      omega
    have ep : tPop (x :: P) = if x = 25 then P else tPop P := rfl
    have es : dS (x :: P) K = if x = 25 then (P, K) else dS P (K ++ [x]) := rfl
    show ∃ cd2, F_X10_qGoesOnTest_33b (0 : Int) w o K0 (F_X10_qGoesOnTest_33 (0 : Int) w o K0 k) v (K.length : Int) ((x :: P).length : Int) cd = _ ∧ _
    unfold F_X10_qGoesOnTest_33b
    rw [lf_b_e, e1, ep, es]
    by_cases q : x = 25
    · rw [if_pos q, if_pos q, if_pos q, if_neg (show ¬ (1 : Int) = 0 from by decide), em]
      exact ⟨cd, rfl, hK, rfl⟩
    · have ht' : tMem P = true := by
        rw [tMem_c, decide_eq_false q, Bool.false_or] at ht
        exact ht
      obtain ⟨cd2, i1, i2, i3⟩ := ih k (K ++ [x]) (lf_up cd (K.length : Int) x) h.2 ht' (by have : P.length + 1 < k + 1 := hf; omega) (pcl_app hK x)
      rw [len_1] at i1
      rw [List.length_append] at i3
      have i3' : (dS P (K ++ [x])).2.length + (tPop P).length + 1 = K.length + 1 + P.length := i3
      rw [if_neg q, if_neg q, if_neg q, if_pos rfl, ed, lf_p_e, lf_p_e]
      refine ⟨cd2, i1, i2, ?_⟩
      show _ = K.length + (P.length + 1)
      omega
def qVC (g : Nat → Int) (n : Nat) (d : Nat) (P K : List Int) (o : Int) (p : Nat) (xa xe xb xp c m oo : Int) (w cd : Nat → Int) : Prop := qV g n d P o p xa xe xb xp c m oo w ∧ c = (K.length : Int) ∧ pcl cd K
def qHC (g : Nat → Int) (n : Nat) (al : Int) (d : Nat) (S : SL) (p : Nat) (R : Int × Int × Int × Int × Int × Int × Int × Int × (Nat → Int) × (Nat → Int)) : Prop := (R.1 = 1 ∧ ∃ P2 K2 o2 p2, S = TC g n al true P2 K2 o2 p2 ∧ p < p2 ∧ qVC g n d P2 K2 o2 p2 R.2.1 R.2.2.1 R.2.2.2.1 R.2.2.2.2.1 R.2.2.2.2.2.1 R.2.2.2.2.2.2.1 R.2.2.2.2.2.2.2.1 R.2.2.2.2.2.2.2.2.1 R.2.2.2.2.2.2.2.2.2) ∨ (R.1 = 0 ∧ ∃ q : Int × Int, S = .inl q ∧ ¬ q.1 = 0 ∧ R.2.2.2.1 = q.1 ∧ R.2.2.2.2.1 = q.2) ∨ (R.1 = 0 ∧ ∃ P2 K2 o2 p2, S = .inr (p2, K2 ++ P2) ∧ p ≤ p2 ∧ stQ P2 = [] ∧ qVC g n d P2 K2 o2 p2 R.2.1 R.2.2.1 R.2.2.2.1 R.2.2.2.2.1 R.2.2.2.2.2.1 R.2.2.2.2.2.2.1 R.2.2.2.2.2.2.2.1 R.2.2.2.2.2.2.2.2.1 R.2.2.2.2.2.2.2.2.2)
theorem qHC_m {g : Nat → Int} {n : Nat} {al : Int} {d : Nat} {S : SL} {p p1 : Nat} {R : Int × Int × Int × Int × Int × Int × Int × Int × (Nat → Int) × (Nat → Int)} (h : p ≤ p1) (hq : qHC g n al d S p1 R) : qHC g n al d S p R := by
  rcases hq with ⟨a, P2, K2, o2, p2, b, c, z⟩ | r | ⟨a, P2, K2, o2, p2, b, c, z⟩
  · exact Or.inl ⟨a, P2, K2, o2, p2, b, by omega, z⟩
  · exact Or.inr (Or.inl r)
  · exact Or.inr (Or.inr ⟨a, P2, K2, o2, p2, b, by omega, z⟩)
section QHC
variable {g : Nat → Int} {n : Nat} {al : Int} {d : Nat} {P K : List Int} {o : Int} {p : Nat} {xa xe : Int} {w : Nat → Int} {vand vor : Nat → Int}
theorem qc_jn {hi l : Int} (hlo : hi ≤ 11) (hl : l = 10 ∨ l = 11) (h : qV g n d P o p xa xe (0 : Int) (-1 : Int) (K.length : Int) (P.length : Int) o w) (h2P : n2 P) (hj : jnW g n p) (hS : TC g n al false P K o p = TC g n al true (l :: (dA hi P K).1) (dA hi P K).2 o (tx_e g n p)) {R : Int × Int × Int × Int × Int × Int × Int × Int × (Nat → Int) × (Nat → Int)} (hR : ∃ cd2, R = ((1 : Int), (tx_e g n p : Int), (tx_e g n p : Int), (0 : Int), (-1 : Int), ((dA hi P K).2.length : Int), ((opQ hi P).length : Int) + 1, o, lf_up w ((opQ hi P).length : Int) l, cd2) ∧ pcl cd2 (dA hi P K).2) (hle : (opQ hi P).length ≤ P.length) : qHC g n al d (TC g n al false P K o p) p R := by
  obtain ⟨cd2, e, ek⟩ := hR
  have e2 := dA_len (hi := hi) P K
  rw [dA_1] at e2
  obtain ⟨h1, h2, h4, h5, h6', h7, h8, h9, h10, h11, h12⟩ := h
  have hk := jn_k hj
  have hlt : p < tx_e g n p := tx_e_gt' (by omega)
  obtain ⟨a1, a2, a3⟩ := opQ_ok hlo h1 h2P
  have hlO : isO l = true := isO_i.mpr (by omega)
  have hs : stQ (l :: opQ hi P) = stQ P := (stQ_o hlO).trans a3
  refine Or.inl ?_
  rw [e]
  refine ⟨rfl, l :: opQ hi P, (dA hi P K).2, o, tx_e g n p, ?_, hlt, ⟨⟨a1, Or.inl ⟨hlO, a2⟩⟩, ?_, h4, ?_, ?_, mp_tok h7.1 hk (Or.inl rfl), rfl, rfl, rfl, rfl, pwl_push (opQ_p P h12) l⟩, rfl, ek⟩
  · rw [hS, dA_1]
  · rw [hs]
    exact h2
  · show ((dA hi P K).2.length : Int) + (d : Int) + (((opQ hi P).length + 1 : Nat) : Int) ≤ _
    omega
  · show 0 ≤ ((dA hi P K).2.length : Int)
    omega
theorem qc_gt (hn : n ≤ 1600) (hand : wa vand W_and) (hor : wa vor W_or) (h : qV g n d P o p xa xe (0 : Int) (-1 : Int) (K.length : Int) (P.length : Int) o w) (h2P : n2 P) (hc : ¬ ((tx_k g n p = 3 ∧ g (tx_a g n p) = 93) ∧ tMem P = true)) {cd : Nat → Int} (hK : pcl cd K) : qHC g n al d (TC g n al false P K o p) p (gGt (n : Int) xe (0 : Int) (-1 : Int) g vand vor w (K.length : Int) (P.length : Int) o cd (tx_a g n p : Int)) := by
  have h0 := h
  obtain ⟨h1, h2, h4, h5, h6', h7, h8, h9, h10, h11, h12⟩ := h
  have hpn := h7.1
  have hlen : P.length ≤ 1600 := by omega
  have hhs : F_X10_qHasSquare (P.length : Int) w = b2 (tMem P) := q_has h12 (by omega)
  unfold gGt
  rw [F_X10_takes_1 hn (W := W_and) rfl hand (mp_a h7)]
  cases ca : wh g n W_and p with
  | true =>
    have k14 : ¬ wl g n ws_14 p = -1 := by
      rw [show wl g n ws_14 p = 0 from (wl_1 W_and).trans (if_pos ca)]
      decide
    rw [if_pos rfl, lf_p_e, lf_p_e, if_neg (show ¬ (1 : Int) = 0 from by decide)]
    exact qc_jn (hi := 10) (l := 10) (by decide) (Or.inl rfl) h0 h2P (Or.inl k14) (TC_an hpn k14) (qc_87 P 1623 K cd h12 (by omega) hK) (opQ_len P)
  | false =>
    have k14 : wl g n ws_14 p = -1 := (wl_1 W_and).trans (if_neg (fun r => Bool.noConfusion (ca.symm.trans r)))
    rw [if_neg (show ¬ false = true from fun r => Bool.noConfusion r), lf_p_e, lf_p_e, if_pos rfl, F_X10_takes_r2_1 hn (W := W_or) rfl hor (mp_a h7)]
    cases co : wh g n W_or p with
    | true =>
      have k13 : ¬ wl g n ws_13 p = -1 := by
        rw [show wl g n ws_13 p = 0 from (wl_1 W_or).trans (if_pos co)]
        decide
      rw [if_pos rfl, lf_p_e, lf_p_e, if_neg (show ¬ (1 : Int) = 0 from by decide)]
      exact qc_jn (hi := 11) (l := 11) (by decide) (Or.inr rfl) h0 h2P (Or.inr k13) (TC_or hpn k14 k13) (qc_137 P 1623 K cd h12 (by omega) hK) (opQ_len P)
    | false =>
      have k13 : wl g n ws_13 p = -1 := (wl_1 W_or).trans (if_neg (fun r => Bool.noConfusion (co.symm.trans r)))
      have hj : ¬ jnW g n p := fun r => r.elim (fun r => r k14) (fun r => r k13)
      rw [if_neg (show ¬ false = true from fun r => Bool.noConfusion r), lf_p_e, lf_p_e, if_pos rfl, lf_b_e, hhs]
      rcases ok_sq h1 h2P with r | ⟨r1, r2, r3⟩
      · rw [r.1, if_pos (show b2 false = 0 from rfl), TC_nd hj r.1]
        exact Or.inr (Or.inr ⟨rfl, P, K, o, p, rfl, Nat.le_refl _, r.2, ⟨h1, h2, h4, h5, h6', mp_a h7, rfl, rfl, rfl, rfl, h12⟩, rfl, hK⟩)
      · have hcl : ¬ (tx_k g n p = 3 ∧ g (tx_a g n p) = 93) := fun s => hc ⟨s, r1⟩
        rw [r1, if_neg (show ¬ b2 true = 0 from by decide), TC_bd hcl hj r1]
        exact Or.inr (Or.inl ⟨rfl, (1, (tx_a g n p : Int)), rfl, (show ¬ (1 : Int) = 0 from by decide), rfl, rfl⟩)
end QHC
theorem qc_goest {g : Nat → Int} {n : Nat} {al : Int} {d : Nat} {xe : Int} {w vand vor : Nat → Int} (hn : n ≤ 1600) (hand : wa vand W_and) (hor : wa vor W_or) : ∀ (f : Nat) (P K : List Int) (o : Int) (p : Nat) (xa : Int) (cd : Nat → Int), qV g n d P o p xa xe (0 : Int) (-1 : Int) (K.length : Int) (P.length : Int) o w → n2 P → n - p < f → pcl cd K → qHC g n al d (TC g n al false P K o p) p (F_X10_qGoesOnTest_0 (n : Int) xe (0 : Int) (-1 : Int) g vand vor w f xa (K.length : Int) (P.length : Int) o cd) := by
  intro f
  induction f with
  | zero => intro P K o p xa cd h h2P hf; omega
  | succ f ih =>
    intro P K o p xa cd h h2P hf hK
    have h0 := h
    obtain ⟨h1, h2, h4, h5, h6', h7, h8, h9, h10, h11, h12⟩ := h
    have hpn := h7.1
    have hlen : P.length ≤ 1600 := by omega
    have hle := tx_e_le (f := g) h7.1
    have hhs : F_X10_qHasSquare (P.length : Int) w = b2 (tMem P) := q_has h12 (by omega)
    show qHC g n al d (TC g n al false P K o p) p (F_X10_qGoesOnTest_0b (n : Int) xe (0 : Int) (-1 : Int) g vand vor w (F_X10_qGoesOnTest_0 (n : Int) xe (0 : Int) (-1 : Int) g vand vor w f) xa (K.length : Int) (P.length : Int) o cd)
    rw [gGt_b, ml_look hn h7, lf_p_e]
    by_cases q : lk g n p = 93
    · have q' : tx_k g n p = 3 ∧ g (tx_a g n p) = 93 := (lk_sgn (by omega)).mp q
      have hlt : p < tx_e g n p := tx_e_gt' (by have := q'.1; omega)
      rw [if_pos q, lf_b_e, hhs]
      rcases ok_sq h1 h2P with r | ⟨r1, r2, r3⟩
      · rw [r.1, if_pos (show b2 false = 0 from rfl)]
        exact qc_gt hn hand hor h0 h2P (fun s => Bool.noConfusion (r.1.symm.trans s.2)) hK
      · have hls : o = (((stQ (tPop P)).length + 1 : Nat) : Int) := by
          rw [h2, r2]
          rfl
        have hpl := tPop_len P
        obtain ⟨cd2, e1, e2, e3⟩ := qc_33 (v := (tx_a g n p : Int) + 1) (o := o) (K0 := F_X10_qGoesOnTest_0 (n : Int) xe (0 : Int) (-1 : Int) g vand vor w f) P 1623 K cd h12 r1 (by omega) hK
        obtain ⟨cd3, e4, e5⟩ := qc_nots (K := (dS P K).2) (cd := cd2) (o := o - 1) (tPop_p P h12) (by omega) (by omega) (by omega) e2
        obtain ⟨u1, u2, u3, u4, u5, u6⟩ := ok_nt (o - 1) r3
        have u7 := dN_1 (tPop P) (dS P K).2 (o - 1)
        have u8 := dN_len (tPop P) (dS P K).2 (o - 1)
        rw [u7.1] at u8
        rw [r1, if_neg (show ¬ b2 true = 0 from by decide), e1, lo_sub (by omega) (by omega) (by omega) (by omega) (by omega) (by omega), e4, lf_p_e, lf_p_e, lf_p_e]
        have eS : TC g n al false P K o p = TC g n al false (ntD (tPop P) (o - 1)).1 (dN (tPop P) (dS P K).2 (o - 1)).2.1 (ntD (tPop P) (o - 1)).2 (tx_e g n p) := by
          rw [TC_cl hpn q' r1, dS_1, u7.1, u7.2]
        have hln := (show (ntD (tPop P) (o - 1)).1.length ≤ (tPop P).length from ntD_len (tPop P) (o - 1))
        rw [eS]
        exact qHC_m (Nat.le_of_lt hlt) (ih (ntD (tPop P) (o - 1)).1 (dN (tPop P) (dS P K).2 (o - 1)).2.1 (ntD (tPop P) (o - 1)).2 (tx_e g n p) _ cd3 ⟨u3, by omega, by omega, by omega, by omega, mp_sgn h7 q'.1, rfl, rfl, rfl, rfl, ntD_p (tPop P) (o - 1) (tPop_p P h12)⟩ u4 (by omega) e5)
    · rw [if_neg q]
      exact qc_gt hn hand hor h0 h2P (fun r => q ((lk_sgn (by omega)).mpr r.1)) hK
