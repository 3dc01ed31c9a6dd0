/-! with the codes that are written: operators -/
theorem dO_len {lo : Int} : ∀ (P K : List Int), (dO lo P K).2.length + (dO lo P K).1.length = K.length + P.length
  | [], _ => rfl
  | x :: P, K => by
    show (if lo ≤ x ∧ x ≤ 4 then dO lo P (K ++ [x]) else (x :: P, K)).2.length + (if lo ≤ x ∧ x ≤ 4 then dO lo P (K ++ [x]) else (x :: P, K)).1.length = K.length + (P.length + 1)
    by_cases q : lo ≤ x ∧ x ≤ 4
    · rw [if_pos q, dO_len P (K ++ [x]), List.length_append]
      show K.length + 1 + P.length = _
      omega
    · rw [if_neg q]
      rfl
theorem dB_len : ∀ (P K : List Int), (dB P K).2.length + (dB P K).1.length = K.length + P.length
  | [], _ => rfl
  | x :: P, K => by
    show (if isBr x = true then (x :: P, K) else dB P (K ++ [x])).2.length + (if isBr x = true then (x :: P, K) else dB P (K ++ [x])).1.length = K.length + (P.length + 1)
    by_cases q : isBr x = true
    · rw [if_pos q]
      rfl
    · rw [if_neg q, dB_len P (K ++ [x]), List.length_append]
      show K.length + 1 + P.length = _
      omega
theorem dE_len : ∀ (P K : List Int) (o : Int), (dE P K o).2.1.length + (dE P K o).1.length = K.length + P.length
  | [], _, _ => rfl
  | x :: P, K, o => by
    show (if x < 60 then (x :: P, K, o) else dE P (K ++ [x]) (o - 1)).2.1.length + (if x < 60 then (x :: P, K, o) else dE P (K ++ [x]) (o - 1)).1.length = K.length + (P.length + 1)
    by_cases q : x < 60
    · rw [if_pos q]
      rfl
    · rw [if_neg q, dE_len P (K ++ [x]) (o - 1), List.length_append]
      show K.length + 1 + P.length = _
      omega
theorem qc_drop {w cd : Nat → Int} {x : Int} {K Q : List Int} (h : pwl w (x :: Q)) : F_X10_qDrops (K.length : Int) ((x :: Q).length : Int) cd w = (((K.length : Int) + 1), (Q.length : Int), lf_up cd (K.length : Int) x) := by
  have e : F_X10_qDrops (K.length : Int) ((x :: Q).length : Int) cd w = (((K.length : Int) + 1), (Q.length : Int), lf_up cd (K.length : Int) (w Q.length)) := q_drop
  rw [e, h.1]
theorem qc_drops {w cd : Nat → Int} {T B K : List Int} (h : pwl w (T ++ B)) (hl : T.length ≤ 1700) (hK : pcl cd K) : ∃ cd2, F_X10_qDropsToBracket (K.length : Int) ((T ++ B).length : Int) (B.length : Int) cd w = (((dB T K).2.length : Int), ((drT T ++ B).length : Int), cd2) ∧ pcl cd2 (dB T K).2 := by
  have := qc_dtb T 1702 K cd h (by omega) hK
  rw [dB_1] at this
  exact this
theorem qc_ends {w cd : Nat → Int} {T B K : List Int} {o : Int} (h : pwl w (T ++ B)) (hl : T.length ≤ 1700) (h1 : -2000 ≤ o - (T.length : Int)) (h2 : o ≤ 2000) (hK : pcl cd K) : ∃ cd2, F_X10_qEndsPart (0 : Int) (K.length : Int) ((T ++ B).length : Int) o (B.length : Int) cd w = (((dE T K o).2.1.length : Int), (((eoD T o).1 ++ B).length : Int), (eoD T o).2, cd2) ∧ pcl cd2 (dE T K o).2.1 := by
  have := qc_eop T 1702 K o cd h (by omega) h1 h2 hK
  rw [(dE_1 T K o).1, (dE_1 T K o).2] at this
  exact this
theorem qc_247 {w : Nat → Int} {B : List Int} {xb xp v l o : Int} (hB : ¬ (1 ≤ B.headD 0 ∧ B.headD 0 ≤ 4)) : ∀ (P : List Int) (f : Nat) (K : List Int) (cd : Nat → Int), pwl w (P ++ B) → P.length < f → pcl cd K → ∃ cd2, F_X10_qGoesOn_247 xb xp w f v l (K.length : Int) ((P ++ B).length : Int) o cd = ((1 : Int), v, xb, xp, ((dO 1 P K).2.length : Int), ((opD 1 P ++ B).length : Int) + 1, o, lf_up w ((opD 1 P ++ B).length : Int) l, cd2) ∧ pcl cd2 (dO 1 P K).2 := by
  intro P
  induction P with
  | nil =>
    intro f K cd h hf hK
    obtain ⟨k, rfl⟩ : ∃ k, f = k + 1 := ⟨f - 1, by have : 0 < f := hf; omega⟩
    have e3 : F_X10_qIsOn_a0_3 (B.length : Int) w = if B.headD 0 = 3 then 1 else 0 := g_on h 3 (by decide)
    have e4 : F_X10_qIsOn_a0_4 (B.length : Int) w = if B.headD 0 = 4 then 1 else 0 := g_on h 4 (by decide)
    have e1 : F_X10_qIsOn_a0_1 (B.length : Int) w = if B.headD 0 = 1 then 1 else 0 := g_on h 1 (by decide)
    have e2 : F_X10_qIsOn_a0_2 (B.length : Int) w = if B.headD 0 = 2 then 1 else 0 := g_on h 2 (by decide)
    rw [if_neg (by omega)] at e3 e4 e1 e2
    refine ⟨cd, ?_, hK⟩
    show F_X10_qGoesOn_247b xb xp w _ v l (K.length : Int) (B.length : Int) o cd = _
    unfold F_X10_qGoesOn_247b
    rw [lf_b_e, e3, if_pos rfl, lf_b_e, e4, if_pos rfl, lf_b_e, e1, if_pos rfl, lf_b_e, e2, if_pos rfl]
    rfl
  | cons x P ih =>
    intro f K cd h hf hK
    obtain ⟨k, rfl⟩ : ∃ k, f = k + 1 := ⟨f - 1, by have : 0 < f := Nat.lt_of_le_of_lt (Nat.zero_le _) hf; omega⟩
    have e3 : F_X10_qIsOn_a0_3 (((x :: P) ++ B).length : Int) w = if x = 3 then 1 else 0 := g_on h 3 (by decide)
    have e4 : F_X10_qIsOn_a0_4 (((x :: P) ++ B).length : Int) w = if x = 4 then 1 else 0 := g_on h 4 (by decide)
    have e1 : F_X10_qIsOn_a0_1 (((x :: P) ++ B).length : Int) w = if x = 1 then 1 else 0 := g_on h 1 (by decide)
    have e2 : F_X10_qIsOn_a0_2 (((x :: P) ++ B).length : Int) w = if x = 2 then 1 else 0 := g_on h 2 (by decide)
    have ed : F_X10_qDrops (K.length : Int) (((x :: P) ++ B).length : Int) cd w = (((K.length : Int) + 1), ((P ++ B).length : Int), lf_up cd (K.length : Int) x) := qc_drop h
    obtain ⟨cd2, i1, i2⟩ := ih k (K ++ [x]) (lf_up cd (K.length : Int) x) h.2 (by have : P.length + 1 < k + 1 := hf; omega) (pcl_app hK x)
    rw [len_1] at i1
    have fin : 1 ≤ x ∧ x ≤ 4 → ∃ cd2, F_X10_qGoesOn_247 xb xp w k v l ((K.length : Int) + 1) ((P ++ B).length : Int) o (lf_up cd (K.length : Int) x) = ((1 : Int), v, xb, xp, ((dO 1 (x :: P) K).2.length : Int), ((opD 1 (x :: P) ++ B).length : Int) + 1, o, lf_up w ((opD 1 (x :: P) ++ B).length : Int) l, cd2) ∧ pcl cd2 (dO 1 (x :: P) K).2 := by
      intro q
      rw [show opD 1 (x :: P) = opD 1 P from if_pos q, show dO 1 (x :: P) K = dO 1 P (K ++ [x]) from if_pos q]
      exact ⟨cd2, i1, i2⟩
    show ∃ cd2, F_X10_qGoesOn_247b xb xp w (F_X10_qGoesOn_247 xb xp w k) v l (K.length : Int) (((x :: P) ++ B).length : Int) o cd = _ ∧ _
    unfold F_X10_qGoesOn_247b
    rw [lf_b_e, e3]
    by_cases c3 : x = 3
    · rw [if_pos c3, if_neg (show ¬ (1 : Int) = 0 from by decide), ed, lf_p_e, lf_p_e]
      exact fin (by omega)
    · rw [if_neg c3, if_pos rfl, lf_b_e, e4]
      by_cases c4 : x = 4
      · rw [if_pos c4, if_neg (show ¬ (1 : Int) = 0 from by decide), ed, lf_p_e, lf_p_e]
        exact fin (by omega)
      · rw [if_neg c4, if_pos rfl, lf_b_e, e1]
        by_cases c1 : x = 1
        · rw [if_pos c1, if_neg (show ¬ (1 : Int) = 0 from by decide), ed, lf_p_e, lf_p_e]
          exact fin (by omega)
        · rw [if_neg c1, if_pos rfl, lf_b_e, e2]
          by_cases c2' : x = 2
          · rw [if_pos c2', if_neg (show ¬ (1 : Int) = 0 from by decide), ed, lf_p_e, lf_p_e]
            exact fin (by omega)
          · rw [if_neg c2', if_pos rfl, show opD 1 (x :: P) = x :: P from if_neg (by omega), show dO 1 (x :: P) K = (x :: P, K) from if_neg (by omega)]
            exact ⟨cd, rfl, hK⟩
theorem qc_162 {w : Nat → Int} {B : List Int} {xb xp v l o : Int} (hB : ¬ (1 ≤ B.headD 0 ∧ B.headD 0 ≤ 4)) : ∀ (P : List Int) (f : Nat) (K : List Int) (cd : Nat → Int), pwl w (P ++ B) → P.length < f → pcl cd K → ∃ cd2, F_X10_qGoesOn_162 xb xp w f v l (K.length : Int) ((P ++ B).length : Int) o cd = ((1 : Int), v, xb, xp, ((dO 3 P K).2.length : Int), ((opD 3 P ++ B).length : Int) + 1, o, lf_up w ((opD 3 P ++ B).length : Int) l, cd2) ∧ pcl cd2 (dO 3 P K).2 := by
  intro P
  induction P with
  | nil =>
    intro f K cd h hf hK
    obtain ⟨k, rfl⟩ : ∃ k, f = k + 1 := ⟨f - 1, by have : 0 < f := hf; omega⟩
    have e3 : F_X10_qIsOn_a0_3 (B.length : Int) w = if B.headD 0 = 3 then 1 else 0 := g_on h 3 (by decide)
    have e4 : F_X10_qIsOn_a0_4 (B.length : Int) w = if B.headD 0 = 4 then 1 else 0 := g_on h 4 (by decide)
    rw [if_neg (by omega)] at e3 e4
    refine ⟨cd, ?_, hK⟩
    show F_X10_qGoesOn_162b xb xp w _ v l (K.length : Int) (B.length : Int) o cd = _
    unfold F_X10_qGoesOn_162b
    rw [lf_b_e, e3, if_pos rfl, lf_b_e, e4, if_pos rfl]
    rfl
  | cons x P ih =>
    intro f K cd h hf hK
    obtain ⟨k, rfl⟩ : ∃ k, f = k + 1 := ⟨f - 1, by have : 0 < f := Nat.lt_of_le_of_lt (Nat.zero_le _) hf; omega⟩
    have e3 : F_X10_qIsOn_a0_3 (((x :: P) ++ B).length : Int) w = if x = 3 then 1 else 0 := g_on h 3 (by decide)
    have e4 : F_X10_qIsOn_a0_4 (((x :: P) ++ B).length : Int) w = if x = 4 then 1 else 0 := g_on h 4 (by decide)
    have ed : F_X10_qDrops (K.length : Int) (((x :: P) ++ B).length : Int) cd w = (((K.length : Int) + 1), ((P ++ B).length : Int), lf_up cd (K.length : Int) x) := qc_drop h
    obtain ⟨cd2, i1, i2⟩ := ih k (K ++ [x]) (lf_up cd (K.length : Int) x) h.2 (by have : P.length + 1 < k + 1 := hf; omega) (pcl_app hK x)
    rw [len_1] at i1
    have fin : 3 ≤ x ∧ x ≤ 4 → ∃ cd2, F_X10_qGoesOn_162 xb xp w k v l ((K.length : Int) + 1) ((P ++ B).length : Int) o (lf_up cd (K.length : Int) x) = ((1 : Int), v, xb, xp, ((dO 3 (x :: P) K).2.length : Int), ((opD 3 (x :: P) ++ B).length : Int) + 1, o, lf_up w ((opD 3 (x :: P) ++ B).length : Int) l, cd2) ∧ pcl cd2 (dO 3 (x :: P) K).2 := by
      intro q
      rw [show opD 3 (x :: P) = opD 3 P from if_pos q, show dO 3 (x :: P) K = dO 3 P (K ++ [x]) from if_pos q]
      exact ⟨cd2, i1, i2⟩
    show ∃ cd2, F_X10_qGoesOn_162b xb xp w (F_X10_qGoesOn_162 xb xp w k) v l (K.length : Int) (((x :: P) ++ B).length : Int) o cd = _ ∧ _
    unfold F_X10_qGoesOn_162b
    rw [lf_b_e, e3]
    by_cases c3 : x = 3
    · rw [if_pos c3, if_neg (show ¬ (1 : Int) = 0 from by decide), ed, lf_p_e, lf_p_e]
      exact fin (by omega)
    · rw [if_neg c3, if_pos rfl, lf_b_e, e4]
      by_cases c4 : x = 4
      · rw [if_pos c4, if_neg (show ¬ (1 : Int) = 0 from by decide), ed, lf_p_e, lf_p_e]
        exact fin (by omega)
      · rw [if_neg c4, if_pos rfl, show opD 3 (x :: P) = x :: P from if_neg (by omega), show dO 3 (x :: P) K = (x :: P, K) from if_neg (by omega)]
        exact ⟨cd, rfl, hK⟩
/-- amid a sum, with what is coded -/
def qSC (g : Nat → Int) (n : Nat) (B : List Int) (o0 : Int) (d : Nat) (P K : List Int) (o : Int) (p : Nat) (xa xe xb xp c m oo : Int) (w cd : Nat → Int) : Prop := qS g n B o0 d P o p xa xe xb xp c m oo w ∧ c = (K.length : Int) ∧ pcl cd K
def qGC (g : Nat → Int) (n : Nat) (al : Int) (B : List Int) (o0 : Int) (d : Nat) (xe : Int) (S : SL) (p : Nat) (R : Int × Int × Int × Int × Int × Int × Int × (Nat → Int) × (Nat → Int)) : Prop := (R.1 = 1 ∧ ∃ P2 K2 o2 p2, S = RC g n al true P2 K2 o2 p2 ∧ p < p2 ∧ qSC g n B o0 d P2 K2 o2 p2 R.2.1 xe R.2.2.1 R.2.2.2.1 R.2.2.2.2.1 R.2.2.2.2.2.1 R.2.2.2.2.2.2.1 R.2.2.2.2.2.2.2.1 R.2.2.2.2.2.2.2.2) ∨ (R.1 = 0 ∧ ∃ q : Int × Int, S = .inl q ∧ ¬ q.1 = 0 ∧ R.2.2.1 = q.1 ∧ R.2.2.2.1 = q.2) ∨ (R.1 = 0 ∧ ∃ P2 K2 o2 p2, S = .inr (p2, K2 ++ P2) ∧ p ≤ p2 ∧ stT P2 = [] ∧ qSC g n B o0 d P2 K2 o2 p2 R.2.1 xe R.2.2.1 R.2.2.2.1 R.2.2.2.2.1 R.2.2.2.2.2.1 R.2.2.2.2.2.2.1 R.2.2.2.2.2.2.2.1 R.2.2.2.2.2.2.2.2)
theorem opC_b {g : Nat → Int} {n p : Nat} : 1 ≤ opC g n p ∧ opC g n p ≤ 4 := by
  unfold opC
  split
  · decide
  · split
    · decide
    · split <;> decide
section QGC
variable {g : Nat → Int} {n : Nat} {al : Int} {B : List Int} {o0 : Int} {d : Nat} {P K : List Int} {o : Int} {p : Nat} {xa xe : Int} {w cd : Nat → Int}
theorem qc_opr (hn : n ≤ 1600) (h : qS g n B o0 d P o p xa xe (0 : Int) (-1 : Int) (K.length : Int) ((P ++ B).length : Int) o w) (h6P : h6 P) (hop : opS g n p) {lo l : Int} (hlo : 1 ≤ lo) (hlo2 : opL g n p = lo) (hl2 : opC g n p = l) {R : Int × Int × Int × Int × Int × Int × Int × (Nat → Int) × (Nat → Int)} (hR : ∃ cd2, R = ((1 : Int), (tx_a g n p : Int) + 1, (0 : Int), (-1 : Int), ((dO lo P K).2.length : Int), ((opD lo P ++ B).length : Int) + 1, o, lf_up w ((opD lo P ++ B).length : Int) l, cd2) ∧ pcl cd2 (dO lo P K).2) : qGC g n al B o0 d xe (RC g n al false P K o p) p R := by
  obtain ⟨cd2, e, ep⟩ := hR
  have hl : 1 ≤ l ∧ l ≤ 4 := by
    rw [← hl2]
    exact opC_b
  have e2 := dO_len (lo := lo) P K
  rw [dO_1] at e2
  obtain ⟨h1, h2, h3, h4, h5, h6', h7, h8, h9, h10, h11, h12⟩ := h
  have hlt : p < tx_e g n p := tx_e_gt' (by have := hop.1; omega)
  obtain ⟨a1, a2, a3, a4⟩ := opD_ok hlo h1 h6P
  have hl1 : (P ++ B).length = P.length + B.length := List.length_append
  have hl2' : (opD lo P ++ B).length = (opD lo P).length + B.length := List.length_append
  have hs : stT (l :: opD lo P) = stT P := (stT_o (isOp_i.mpr hl)).trans a3
  refine Or.inl ?_
  rw [e]
  refine ⟨rfl, l :: opD lo P, (dO lo P K).2, o, tx_e g n p, ?_, hlt, ⟨⟨a1, Or.inl ⟨isOp_i.mpr hl, a2⟩⟩, ?_, h3, h4, ?_, ?_, mp_sgn h7 hop.1, rfl, rfl, rfl, rfl, pwl_push (opD_p P h12) l⟩, rfl, ep⟩
  · rw [RC_op h7.1 hop, hlo2, hl2, dO_1]
  · rw [hs]
    exact h2
  · show ((dO lo P K).2.length : Int) + (d : Int) + (((opD lo P ++ B).length + 1 : Nat) : Int) ≤ _
    omega
  · show 0 ≤ ((dO lo P K).2.length : Int)
    omega
theorem qc_cm (hn : n ≤ 1600) (h : qS g n B o0 d P o p xa xe (0 : Int) (-1 : Int) (K.length : Int) ((P ++ B).length : Int) o w) (h6P : h6 P) (hop : ¬ opS g n p) (hb2 : brT P = 21 ∨ brT P = 22) (hK : pcl cd K) : qGC g n al B o0 d xe (RC g n al false P K o p) p (lf_p (F_X10_asksSign_a0_44 (tx_a g n p : Int) (n : Int) (0 : Int) (-1 : Int) g) (fun v326 t_v327 => (lf_p t_v327 (fun v327 v328 => (if v327 = (0 : Int) then (lf_p (F_X10_qDropsToBracket (K.length : Int) ((P ++ B).length : Int) (B.length : Int) cd w) (fun v343 t_v344 => (lf_p t_v344 (fun v344 f345 => ((1 : Int), v326, v327, v328, v343, v344, o, (lf_up w (v344 - (1 : Int)) ((w (Int.toNat (v344 - (1 : Int)))) + (2 : Int))), f345))))) else ((0 : Int), v326, v327, v328, (K.length : Int), ((P ++ B).length : Int), o, w, cd)))))) := by
  have hlen := q_len hn h
  obtain ⟨h1, h2, h3, h4, h5, h6', h7, h8, h9, h10, h11, h12⟩ := h
  have hl1 : (P ++ B).length = P.length + B.length := List.length_append
  rw [RC_cm h7.1 hop hb2]
  rw [F_X10_asksSign_a0_44_1 hn (mp_a h7)]
  by_cases q : tx_k g n p = 3 ∧ g (tx_a g n p) = 44
  · have hlt : p < tx_e g n p := tx_e_gt' (by have := q.1; omega)
    obtain ⟨cd2, e1, ep⟩ := qc_drops (cd := cd) (K := K) h12 (by omega) hK
    have e2 := dB_len P K
    have eb := dB_1 P K
    rw [eb] at e2
    rcases ok_dr h1 h6P with r | ⟨x, Q, a1, a2, a3, a4, a5, a6⟩
    · omega
    rw [if_pos q, if_pos q, lf_p_e, lf_p_e, if_pos rfl, e1, lf_p_e, lf_p_e, a1]
    rw [a1] at e2 eb
    have e2' : (dB P K).2.length + (Q.length + 1) = K.length + P.length := e2
    have hx : x = 21 ∨ x = 22 := by omega
    have hp2 : pwl w (x :: (Q ++ B)) := by
      have := drT_p P h12
      rw [a1] at this
      exact this
    have hm : ((((x :: Q) ++ B).length : Nat) : Int) - 1 = ((Q ++ B).length : Int) := by
      show (((Q ++ B).length + 1 : Nat) : Int) - 1 = _
      omega
    have hl2 : (Q ++ B).length = Q.length + B.length := List.length_append
    rw [hm, Int.toNat_natCast, hp2.1]
    have hbr : isBr (x + 2) = true := isBr_i.mpr (by omega)
    have hs : stT ((x + 2) :: Q) = (x + 2) :: stT Q := stT_n (br_op hbr)
    refine Or.inl ⟨rfl, (x + 2) :: Q, (dB P K).2, o, tx_e g n p, ?_, hlt, ⟨⟨a5, Or.inr (Or.inl hbr)⟩, ?_, h3, h4, ?_, ?_, mp_sgn h7 q.1, rfl, rfl, rfl, rfl, pwl_push hp2.2 (x + 2)⟩, rfl, ep⟩
    · rw [eb]
      rfl
    · rw [hs, h2, a4]
      rfl
    · show ((dB P K).2.length : Int) + (d : Int) + (((Q ++ B).length + 1 : Nat) : Int) ≤ _
      omega
    · show 0 ≤ ((dB P K).2.length : Int)
      omega
  · rw [if_neg q, if_neg q, lf_p_e, lf_p_e, if_neg (show ¬ (1 : Int) = 0 from by decide)]
    exact Or.inr (Or.inl ⟨rfl, (1, (tx_a g n p : Int)), rfl, (show ¬ (1 : Int) = 0 from by decide), rfl, rfl⟩)
theorem qc_go (hn : n ≤ 1600) (hB : ¬ (1 ≤ B.headD 0 ∧ B.headD 0 ≤ 4)) (h : qS g n B o0 d P o p xa xe (0 : Int) (-1 : Int) (K.length : Int) ((P ++ B).length : Int) o w) (h6P : h6 P) (hc : ¬ ((tx_k g n p = 3 ∧ g (tx_a g n p) = 41) ∧ (brT P = 20 ∨ brT P = 23 ∨ brT P = 24))) (hK : pcl cd K) : qGC g n al B o0 d xe (RC g n al false P K o p) p (gGo (n : Int) (0 : Int) (-1 : Int) (B.length : Int) g w (K.length : Int) ((P ++ B).length : Int) o cd (tx_a g n p : Int)) := by
  have hlen := q_len hn h
  have h0 := h
  obtain ⟨h1, h2, h3, h4, h5, h6', h7, h8, h9, h10, h11, h12⟩ := h
  have ht : ((tx_a g n p : Int) + 1 - 1).toNat = tx_a g n p := by omega
  have sw : ∀ v : Int, F_X10_qBracket ((P ++ B).length : Int) (B.length : Int) w = brT P := fun _ => q_bracket h12 (by omega)
  unfold gGo
  rw [F_X10_takesSign_a0_42_1 hn (mp_a h7)]
  by_cases c1 : tx_k g n p = 3 ∧ g (tx_a g n p) = 42
  · have v1 := c1.2
    rw [if_pos c1, lf_p_e, if_neg (show ¬ (1 : Int) = 0 from by decide), ht, if_pos c1.2]
    exact qc_opr hn h0 h6P ⟨c1.1, Or.inl c1.2⟩ (lo := 3) (l := 3) (by decide) (if_pos (Or.inl c1.2)) (if_pos c1.2) (qc_162 hB P 1623 K cd h12 (by omega) hK)
  · rw [if_neg c1, lf_p_e, if_pos rfl, F_X10_takesSign_a0_47_1 hn (mp_a h7)]
    by_cases c2 : tx_k g n p = 3 ∧ g (tx_a g n p) = 47
    · have v1 := c2.2
      rw [if_pos c2, lf_p_e, if_neg (show ¬ (1 : Int) = 0 from by decide), ht, if_neg (show ¬ g (tx_a g n p) = 42 from by omega)]
      exact qc_opr hn h0 h6P ⟨c2.1, Or.inr (Or.inl c2.2)⟩ (lo := 3) (l := 4) (by decide) (if_pos (Or.inr c2.2)) ((if_neg (by omega)).trans (if_pos c2.2)) (qc_162 hB P 1623 K cd h12 (by omega) hK)
    · rw [if_neg c2, lf_p_e, if_pos rfl, F_X10_takesSign_a0_43_1 hn (mp_a h7)]
      by_cases c3 : tx_k g n p = 3 ∧ g (tx_a g n p) = 43
      · have v1 := c3.2
        rw [if_pos c3, lf_p_e, if_neg (show ¬ (1 : Int) = 0 from by decide), ht, if_pos c3.2]
        exact qc_opr hn h0 h6P ⟨c3.1, Or.inr (Or.inr (Or.inl c3.2))⟩ (lo := 1) (l := 1) (by decide) (if_neg (by omega)) ((if_neg (by omega)).trans ((if_neg (by omega)).trans (if_pos c3.2))) (qc_247 hB P 1623 K cd h12 (by omega) hK)
      · rw [if_neg c3, lf_p_e, if_pos rfl, F_X10_takesSign_a0_45_1 hn (mp_a h7)]
        by_cases c4 : tx_k g n p = 3 ∧ g (tx_a g n p) = 45
        · have v1 := c4.2
          rw [if_pos c4, lf_p_e, if_neg (show ¬ (1 : Int) = 0 from by decide), ht, if_neg (show ¬ g (tx_a g n p) = 43 from by omega)]
          exact qc_opr hn h0 h6P ⟨c4.1, Or.inr (Or.inr (Or.inr c4.2))⟩ (lo := 1) (l := 2) (by decide) (if_neg (by omega)) ((if_neg (by omega)).trans ((if_neg (by omega)).trans (if_neg (by omega)))) (qc_247 hB P 1623 K cd h12 (by omega) hK)
        · have hop : ¬ opS g n p := fun r => by
            rcases r.2 with s | s | s | s
            · exact c1 ⟨r.1, s⟩
            · exact c2 ⟨r.1, s⟩
            · exact c3 ⟨r.1, s⟩
            · exact c4 ⟨r.1, s⟩
          rw [if_neg c4, lf_p_e, if_pos rfl, lf_b_e, sw 0]
          by_cases b1 : brT P = 21
          · rw [if_pos b1]
            exact qc_cm hn h0 h6P hop (Or.inl b1) hK
          · rw [if_neg b1, lf_b_e]
            by_cases b2 : brT P = 22
            · rw [if_pos b2]
              exact qc_cm hn h0 h6P hop (Or.inr b2) hK
            · rw [if_neg b2, lf_b_e]
              rcases ok_dr h1 h6P with r | ⟨x, Q, a1, a2, a3, a4, a5, a6⟩
              · rw [if_pos r.1, RC_nd hop r.1]
                exact Or.inr (Or.inr ⟨rfl, P, K, o, p, rfl, Nat.le_refl _, r.2, ⟨h1, h2, h3, h4, h5, h6', mp_a h7, rfl, rfl, rfl, rfl, h12⟩, rfl, hK⟩)
              · have hx := isBr_i.mp a2
                have hcl : ¬ (tx_k g n p = 3 ∧ g (tx_a g n p) = 41) := fun s => hc ⟨s, by omega⟩
                rw [if_neg (by omega), RC_bd hcl hop (by omega) (by omega)]
                exact Or.inr (Or.inl ⟨rfl, (1, (tx_a g n p : Int)), rfl, (show ¬ (1 : Int) = 0 from by decide), rfl, rfl⟩)
end QGC
theorem qGC_m {g : Nat → Int} {n : Nat} {al : Int} {B : List Int} {o0 : Int} {d : Nat} {xe : Int} {S : SL} {p p1 : Nat} {R : Int × Int × Int × Int × Int × Int × Int × (Nat → Int) × (Nat → Int)} (h : p ≤ p1) (hq : qGC g n al B o0 d xe S p1 R) : qGC g n al B o0 d xe S p R := by
  rcases hq with ⟨a, P2, K2, o2, p2, b, c, d⟩ | r | ⟨a, P2, K2, o2, p2, b, c, d⟩
  · exact Or.inl ⟨a, P2, K2, o2, p2, b, by omega, d⟩
  · exact Or.inr (Or.inl r)
  · exact Or.inr (Or.inr ⟨a, P2, K2, o2, p2, b, by omega, d⟩)
section QCC
variable {g : Nat → Int} {n : Nat} {al : Int} {B : List Int} {o0 : Int} {d : Nat}
theorem qc_goes (hn : n ≤ 1600) (hB : ¬ (1 ≤ B.headD 0 ∧ B.headD 0 ≤ 4)) {w : Nat → Int} {xe : Int} : ∀ (f : Nat) (P K : List Int) (o : Int) (p : Nat) (xa : Int) (cd : Nat → Int), qS g n B o0 d P o p xa xe (0 : Int) (-1 : Int) (K.length : Int) ((P ++ B).length : Int) o w → h6 P → n - p < f → pcl cd K → qGC g n al B o0 d xe (RC g n al false P K o p) p (F_X10_qGoesOn_0 (n : Int) (0 : Int) (-1 : Int) (B.length : Int) g w f xa (K.length : Int) ((P ++ B).length : Int) o cd) := by
  intro f
  induction f with
  | zero => intro P K o p xa cd h hP hf; omega
  | succ f ih =>
    intro P K o p xa cd h hP hf hK
    have hlen := q_len hn h
    have h0 := h
    obtain ⟨h1, h2, h3, h4, h5, h6', h7, h8, h9, h10, h11, h12⟩ := h
    have hl1 : (P ++ B).length = P.length + B.length := List.length_append
    have sw : F_X10_qBracket ((P ++ B).length : Int) (B.length : Int) w = brT P := q_bracket h12 (by omega)
    show qGC g n al B o0 d xe (RC g n al false P K o p) p (F_X10_qGoesOn_0b (n : Int) (0 : Int) (-1 : Int) (B.length : Int) g w (F_X10_qGoesOn_0 (n : Int) (0 : Int) (-1 : Int) (B.length : Int) g w f) xa (K.length : Int) ((P ++ B).length : Int) o cd)
    rw [gGo_b, ml_look hn h7, lf_p_e]
    by_cases q : lk g n p = 41
    · have q' : tx_k g n p = 3 ∧ g (tx_a g n p) = 41 := (lk_sgn (by omega)).mp q
      have hlt : p < tx_e g n p := tx_e_gt' (by have := q'.1; omega)
      have hle := tx_e_le (f := g) h7.1
      rw [if_pos q, lf_b_e, sw]
      have main : (brT P = 20 ∨ brT P = 23 ∨ brT P = 24) → ∃ (x : Int) (Q : List Int) (cd2 : Nat → Int), F_X10_qDropsToBracket (K.length : Int) ((P ++ B).length : Int) (B.length : Int) cd w = (((dB P K).2.length : Int), (((x :: Q) ++ B).length : Int), cd2) ∧ pcl cd2 (dB P K).2 ∧ (((x :: Q) ++ B).length : Int) - 1 = ((Q ++ B).length : Int) ∧ ∀ (cd' : Nat → Int), pcl cd' (clK (brT P) (dB P K).2) → qGC g n al B o0 d xe (RC g n al false P K o p) p (lf_p (F_X10_qEndsPart (0 : Int) ((clK (brT P) (dB P K).2).length : Int) ((Q ++ B).length : Int) (o - 1) (B.length : Int) cd' w) (fun v527 t_v528 => (lf_p t_v528 (fun v528 t_v529 => (lf_p t_v529 (fun v529 f530 => (F_X10_qGoesOn_0 (n : Int) (0 : Int) (-1 : Int) (B.length : Int) g w f ((tx_a g n p : Int) + (1 : Int)) v527 v528 v529 f530))))))) := by
        intro hb3
        obtain ⟨cd2, e1, ep⟩ := qc_drops (cd := cd) (K := K) h12 (by omega) hK
        have e2 := dB_len P K
        have eb := dB_1 P K
        rw [eb] at e2
        rcases ok_dr h1 hP with r | ⟨x, Q, a1, a2, a3, a4, a5, a6⟩
        · omega
        rw [a1] at e1 e2 eb
        have e2' : (dB P K).2.length + (Q.length + 1) = K.length + P.length := e2
        have hl2 : (Q ++ B).length = Q.length + B.length := List.length_append
        have hpQ : pwl w (Q ++ B) := by
          have := drT_p P h12
          rw [a1] at this
          exact this.2
        refine ⟨x, Q, cd2, e1, ep, ?_, ?_⟩
        · show (((Q ++ B).length + 1 : Nat) : Int) - 1 = _
          omega
        · intro cd' hcd
          have hcl : (clK (brT P) (dB P K).2).length ≤ (dB P K).2.length + 1 := by
            unfold clK
            split
            · rw [List.length_append]
              exact Nat.le_refl _
            · split
              · rw [List.length_append]
                exact Nat.le_refl _
              · omega
          have hlq : o = o0 + (((stT Q).length + 1 : Nat) : Int) := by
            rw [h2, a4]
            rfl
          obtain ⟨cd3, e3, e4⟩ := qc_ends (K := clK (brT P) (dB P K).2) (cd := cd') (o := o - 1) (T := Q) hpQ (by omega) (by omega) (by omega) hcd
          obtain ⟨u1, u2, u3, u4, u5, u6⟩ := ok_eo (o - 1) a5
          have u7 := eoD_le Q (o - 1)
          have u8 := dE_len Q (clK (brT P) (dB P K).2) (o - 1)
          have u9 := dE_1 Q (clK (brT P) (dB P K).2) (o - 1)
          rw [u9.1] at u8
          have hl3 : ((eoD Q (o - 1)).1 ++ B).length = (eoD Q (o - 1)).1.length + B.length := List.length_append
          have eS : RC g n al false P K o p = RC g n al false (eoD Q (o - 1)).1 (dE Q (clK (brT P) (dB P K).2) (o - 1)).2.1 (eoD Q (o - 1)).2 (tx_e g n p) := by
            rw [RC_cl h7.1 q' hb3, eb, show (x :: Q).tail = Q from rfl, u9.1, u9.2]
          rw [e3, lf_p_e, lf_p_e, lf_p_e, eS]
          exact qGC_m (Nat.le_of_lt hlt) (ih (eoD Q (o - 1)).1 (dE Q (clK (brT P) (dB P K).2) (o - 1)).2.1 (eoD Q (o - 1)).2 (tx_e g n p) _ cd3 ⟨u3, by omega, h3, by omega, by omega, by omega, mp_sgn h7 q'.1, rfl, rfl, rfl, rfl, eoD_p Q (o - 1) hpQ⟩ u4 (by omega) e4)
      by_cases b1 : brT P = 20
      · obtain ⟨x, Q, cd2, e1, ep, e4, e5⟩ := main (Or.inl b1)
        have ec : clK (brT P) (dB P K).2 = (dB P K).2 := (if_neg (by omega)).trans (if_neg (by omega))
        rw [ec] at e5
        rw [if_pos b1, e1, lf_p_e, lf_p_e, e4, lo_sub (by omega) (by omega) (by omega) (by omega) (by omega) (by omega)]
        exact e5 cd2 ep
      · rw [if_neg b1, lf_b_e]
        by_cases b2 : brT P = 23
        · obtain ⟨x, Q, cd2, e1, ep, e4, e5⟩ := main (Or.inr (Or.inl b2))
          have ec : clK (brT P) (dB P K).2 = (dB P K).2 ++ [5] := if_pos b2
          rw [ec, len_1] at e5
          rw [if_pos b2, e1, lf_p_e, lf_p_e, e4, lo_sub (by omega) (by omega) (by omega) (by omega) (by omega) (by omega)]
          unfold F_X10_qCode
          rw [lf_p_e]
          exact e5 _ (pcl_app ep 5)
        · rw [if_neg b2, lf_b_e]
          by_cases b3 : brT P = 24
          · obtain ⟨x, Q, cd2, e1, ep, e4, e5⟩ := main (Or.inr (Or.inr b3))
            have ec : clK (brT P) (dB P K).2 = (dB P K).2 ++ [6] := (if_neg b2).trans (if_pos b3)
            rw [ec, len_1] at e5
            rw [if_pos b3, e1, lf_p_e, lf_p_e, e4, lo_sub (by omega) (by omega) (by omega) (by omega) (by omega) (by omega)]
            unfold F_X10_qCode
            rw [lf_p_e]
            exact e5 _ (pcl_app ep 6)
          · rw [if_neg b3]
            exact qc_go hn hB h0 hP (fun r => by have := r.2; omega) hK
    · rw [if_neg q]
      exact qc_go hn hB h0 hP (fun r => q ((lk_sgn (by omega)).mpr r.1)) hK
end QCC
