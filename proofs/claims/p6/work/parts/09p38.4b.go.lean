def gGo (x_end : Int) (x_bad : Int) (x_badPlace : Int) (x_qBase : Int) (g_tape : Nat → Int) (g_qWait : Nat → Int) (J0_c0_111 : Int) (J0_c0_113 : Int) (J0_c0_114 : Int) (J0_a3 : Nat → Int) (v205 : Int) : Int × Int × Int × Int × Int × Int × Int × (Nat → Int) × (Nat → Int) := (lf_p (F_X10_takesSign_a0_42 v205 x_end x_bad g_tape) (fun r217 v219 => (if r217 = (0 : Int) then (lf_p (F_X10_takesSign_a0_47 v219 x_end x_bad g_tape) (fun r255 v257 => (if r255 = (0 : Int) then (lf_p (F_X10_takesSign_a0_43 v257 x_end x_bad g_tape) (fun r270 v272 => (if r270 = (0 : Int) then (lf_p (F_X10_takesSign_a0_45 v272 x_end x_bad g_tape) (fun r302 v304 => (if r302 = (0 : Int) then (lf_b (F_X10_qBracket J0_c0_113 x_qBase g_qWait) (fun r317 => (if r317 = (21 : Int) then (lf_p (F_X10_asksSign_a0_44 v304 x_end x_bad x_badPlace g_tape) (fun v326 t_v327 => (lf_p t_v327 (fun v327 v328 => (if v327 = (0 : Int) then (lf_p (F_X10_qDropsToBracket J0_c0_111 J0_c0_113 x_qBase J0_a3 g_qWait) (fun v343 t_v344 => (lf_p t_v344 (fun v344 f345 => ((1 : Int), v326, v327, v328, v343, v344, J0_c0_114, (lf_up g_qWait (v344 - (1 : Int)) ((g_qWait (Int.toNat (v344 - (1 : Int)))) + (2 : Int))), f345))))) else ((0 : Int), v326, v327, v328, J0_c0_111, J0_c0_113, J0_c0_114, g_qWait, J0_a3)))))) else (lf_b (F_X10_qBracket J0_c0_113 x_qBase g_qWait) (fun r372 => (if r372 = (22 : Int) then (lf_p (F_X10_asksSign_a0_44 v304 x_end x_bad x_badPlace g_tape) (fun v393 t_v394 => (lf_p t_v394 (fun v394 v395 => (if v394 = (0 : Int) then (lf_p (F_X10_qDropsToBracket J0_c0_111 J0_c0_113 x_qBase J0_a3 g_qWait) (fun v410 t_v411 => (lf_p t_v411 (fun v411 f412 => ((1 : Int), v393, v394, v395, v410, v411, J0_c0_114, (lf_up g_qWait (v411 - (1 : Int)) ((g_qWait (Int.toNat (v411 - (1 : Int)))) + (2 : Int))), f412))))) else ((0 : Int), v393, v394, v395, J0_c0_111, J0_c0_113, J0_c0_114, g_qWait, J0_a3)))))) else (lf_b (F_X10_qBracket J0_c0_113 x_qBase g_qWait) (fun r377 => (if r377 = (-1 : Int) then ((0 : Int), v304, x_bad, x_badPlace, J0_c0_111, J0_c0_113, J0_c0_114, g_qWait, J0_a3) else ((0 : Int), v304, (1 : Int), v304, J0_c0_111, J0_c0_113, J0_c0_114, g_qWait, J0_a3)))))))))) else (if (g_tape (Int.toNat (v304 - (1 : Int)))) = (43 : Int) then (F_X10_qGoesOn_247 x_bad x_badPlace g_qWait 1623 v304 (1 : Int) J0_c0_111 J0_c0_113 J0_c0_114 J0_a3) else (F_X10_qGoesOn_247 x_bad x_badPlace g_qWait 1623 v304 (2 : Int) J0_c0_111 J0_c0_113 J0_c0_114 J0_a3))))) else (if (g_tape (Int.toNat (v272 - (1 : Int)))) = (43 : Int) then (F_X10_qGoesOn_247 x_bad x_badPlace g_qWait 1623 v272 (1 : Int) J0_c0_111 J0_c0_113 J0_c0_114 J0_a3) else (F_X10_qGoesOn_247 x_bad x_badPlace g_qWait 1623 v272 (2 : Int) J0_c0_111 J0_c0_113 J0_c0_114 J0_a3))))) else (if (g_tape (Int.toNat (v257 - (1 : Int)))) = (42 : Int) then (F_X10_qGoesOn_162 x_bad x_badPlace g_qWait 1623 v257 (3 : Int) J0_c0_111 J0_c0_113 J0_c0_114 J0_a3) else (F_X10_qGoesOn_162 x_bad x_badPlace g_qWait 1623 v257 (4 : Int) J0_c0_111 J0_c0_113 J0_c0_114 J0_a3))))) else (if (g_tape (Int.toNat (v219 - (1 : Int)))) = (42 : Int) then (F_X10_qGoesOn_162 x_bad x_badPlace g_qWait 1623 v219 (3 : Int) J0_c0_111 J0_c0_113 J0_c0_114 J0_a3) else (F_X10_qGoesOn_162 x_bad x_badPlace g_qWait 1623 v219 (4 : Int) J0_c0_111 J0_c0_113 J0_c0_114 J0_a3)))))
theorem gGo_b (x_end : Int) (x_bad : Int) (x_badPlace : Int) (x_qBase : Int) (g_tape : Nat → Int) (g_qWait : Nat → Int) (K0 : (Int) → (Int) → (Int) → (Int) → (Nat → Int) → (Int × Int × Int × Int × Int × Int × Int × (Nat → Int) × (Nat → Int))) (J0_c0_2 : Int) (J0_c0_111 : Int) (J0_c0_113 : Int) (J0_c0_114 : Int) (J0_a3 : Nat → Int) : F_X10_qGoesOn_0b x_end x_bad x_badPlace x_qBase g_tape g_qWait K0 J0_c0_2 J0_c0_111 J0_c0_113 J0_c0_114 J0_a3 = (lf_p (F_X10_look J0_c0_2 x_end g_tape) (fun r203 v205 => (if r203 = (41 : Int) then (lf_b (F_X10_qBracket J0_c0_113 x_qBase g_qWait) (fun r483 => (if r483 = (20 : Int) then (lf_p (F_X10_qDropsToBracket J0_c0_111 J0_c0_113 x_qBase J0_a3 g_qWait) (fun v498 t_v499 => (lf_p t_v499 (fun v499 f500 => (lf_p (F_X10_qEndsPart x_bad v498 (v499 - (1 : Int)) (lf_o lf_isub J0_c0_114 (1 : Int)) x_qBase f500 g_qWait) (fun v527 t_v528 => (lf_p t_v528 (fun v528 t_v529 => (lf_p t_v529 (fun v529 f530 => (K0 (v205 + (1 : Int)) v527 v528 v529 f530))))))))))) else (lf_b (F_X10_qBracket J0_c0_113 x_qBase g_qWait) (fun r542 => (if r542 = (23 : Int) then (lf_p (F_X10_qDropsToBracket J0_c0_111 J0_c0_113 x_qBase J0_a3 g_qWait) (fun v554 t_v555 => (lf_p t_v555 (fun v555 f556 => (lf_p (F_X10_qCode v554 f556 (5 : Int)) (fun v585 f586 => (lf_p (F_X10_qEndsPart x_bad v585 (v555 - (1 : Int)) (lf_o lf_isub J0_c0_114 (1 : Int)) x_qBase f586 g_qWait) (fun v595 t_v596 => (lf_p t_v596 (fun v596 t_v597 => (lf_p t_v597 (fun v597 f598 => (K0 (v205 + (1 : Int)) v595 v596 v597 f598))))))))))))) else (lf_b (F_X10_qBracket J0_c0_113 x_qBase g_qWait) (fun r607 => (if r607 = (24 : Int) then (lf_p (F_X10_qDropsToBracket J0_c0_111 J0_c0_113 x_qBase J0_a3 g_qWait) (fun v852 t_v853 => (lf_p t_v853 (fun v853 f854 => (lf_p (F_X10_qCode v852 f854 (6 : Int)) (fun v882 f883 => (lf_p (F_X10_qEndsPart x_bad v882 (v853 - (1 : Int)) (lf_o lf_isub J0_c0_114 (1 : Int)) x_qBase f883 g_qWait) (fun v892 t_v893 => (lf_p t_v893 (fun v893 t_v894 => (lf_p t_v894 (fun v894 f895 => (K0 (v205 + (1 : Int)) v892 v893 v894 f895))))))))))))) else (gGo x_end x_bad x_badPlace x_qBase g_tape g_qWait J0_c0_111 J0_c0_113 J0_c0_114 J0_a3 v205)))))))))) else (gGo x_end x_bad x_badPlace x_qBase g_tape g_qWait J0_c0_111 J0_c0_113 J0_c0_114 J0_a3 v205)))) := rfl
theorem q_247 {w : Nat → Int} {B : List Int} {xb xp v l o : Int} (hB : ¬ (1 ≤ B.headD 0 ∧ B.headD 0 ≤ 4)) : ∀ (P : List Int) (f : Nat) (c : Int) (cd : Nat → Int), pwl w (P ++ B) → P.length < f → ∃ c2 cd2, F_X10_qGoesOn_247 xb xp w f v l c ((P ++ B).length : Int) o cd = ((1 : Int), v, xb, xp, c2, ((opD 1 P ++ B).length : Int) + 1, o, lf_up w ((opD 1 P ++ B).length : Int) l, cd2) ∧ c2 + ((opD 1 P).length : Int) = c + (P.length : Int) := by
  intro P
  induction P with
  | nil =>
    intro f c cd h hf
    obtain ⟨k, rfl⟩ : ∃ k, f = k + 1 := ⟨f - 1, by have : 0 < f := hf; omega⟩
    have e3 : F_X10_qIsOn_a0_3 (B.length : Int) w = if B.headD 0 = 3 then 1 else 0 := g_on h 3 (by decide)
    have e4 : F_X10_qIsOn_a0_4 (B.length : Int) w = if B.headD 0 = 4 then 1 else 0 := g_on h 4 (by decide)
    have e1 : F_X10_qIsOn_a0_1 (B.length : Int) w = if B.headD 0 = 1 then 1 else 0 := g_on h 1 (by decide)
    have e2 : F_X10_qIsOn_a0_2 (B.length : Int) w = if B.headD 0 = 2 then 1 else 0 := g_on h 2 (by decide)
    rw [if_neg (by omega)] at e3 e4 e1 e2
    refine ⟨c, cd, ?_, rfl⟩
    show F_X10_qGoesOn_247b xb xp w _ v l c (B.length : Int) o cd = _
    unfold F_X10_qGoesOn_247b
    rw [lf_b_e, e3, if_pos rfl, lf_b_e, e4, if_pos rfl, lf_b_e, e1, if_pos rfl, lf_b_e, e2, if_pos rfl]
    rfl
  | cons x P ih =>
    intro f c cd h hf
    obtain ⟨k, rfl⟩ : ∃ k, f = k + 1 := ⟨f - 1, by have : 0 < f := Nat.lt_of_le_of_lt (Nat.zero_le _) hf; omega⟩
    have e3 : F_X10_qIsOn_a0_3 (((x :: P) ++ B).length : Int) w = if x = 3 then 1 else 0 := g_on h 3 (by decide)
    have e4 : F_X10_qIsOn_a0_4 (((x :: P) ++ B).length : Int) w = if x = 4 then 1 else 0 := g_on h 4 (by decide)
    have e1 : F_X10_qIsOn_a0_1 (((x :: P) ++ B).length : Int) w = if x = 1 then 1 else 0 := g_on h 1 (by decide)
    have e2 : F_X10_qIsOn_a0_2 (((x :: P) ++ B).length : Int) w = if x = 2 then 1 else 0 := g_on h 2 (by decide)
    have ed : F_X10_qDrops c (((x :: P) ++ B).length : Int) cd w = ((c + 1), ((P ++ B).length : Int), lf_up cd c (w (P ++ B).length)) := q_drop
    obtain ⟨c2, cd2, i1, i2⟩ := ih k (c + 1) (lf_up cd c (w (P ++ B).length)) h.2 (by have : P.length + 1 < k + 1 := hf; omega)
    have fin : 1 ≤ x ∧ x ≤ 4 → ∃ c2 cd2, F_X10_qGoesOn_247 xb xp w k v l (c + 1) ((P ++ B).length : Int) o (lf_up cd c (w (P ++ B).length)) = ((1 : Int), v, xb, xp, c2, ((opD 1 (x :: P) ++ B).length : Int) + 1, o, lf_up w ((opD 1 (x :: P) ++ B).length : Int) l, cd2) ∧ c2 + ((opD 1 (x :: P)).length : Int) = c + ((P.length + 1 : Nat) : Int) := by
      intro q
      rw [show opD 1 (x :: P) = opD 1 P from if_pos q]
      exact ⟨c2, cd2, i1, by omega⟩
    show ∃ c2 cd2, F_X10_qGoesOn_247b xb xp w (F_X10_qGoesOn_247 xb xp w k) v l c (((x :: P) ++ B).length : Int) o cd = _ ∧ _
    unfold F_X10_qGoesOn_247b
    rw [lf_b_e, e3]
    by_cases c3 : x = 3
    · rw [if_pos c3, if_neg (show ¬ (1 : Int) = 0 from by decide), ed, lf_p_e, lf_p_e]
      exact fin (by omega)
    · rw [if_neg c3, if_pos rfl, lf_b_e, e4]
      by_cases c4 : x = 4
      · rw [if_pos c4, if_neg (show ¬ (1 : Int) = 0 from by decide), ed, lf_p_e, lf_p_e]
        exact fin (by omega)
      · rw [if_neg c4, if_pos rfl, lf_b_e, e1]
        by_cases c1 : x = 1
        · rw [if_pos c1, if_neg (show ¬ (1 : Int) = 0 from by decide), ed, lf_p_e, lf_p_e]
          exact fin (by omega)
        · rw [if_neg c1, if_pos rfl, lf_b_e, e2]
          by_cases c2' : x = 2
          · rw [if_pos c2', if_neg (show ¬ (1 : Int) = 0 from by decide), ed, lf_p_e, lf_p_e]
            exact fin (by omega)
          · rw [if_neg c2', if_pos rfl, show opD 1 (x :: P) = x :: P from if_neg (by omega)]
            exact ⟨c, cd, rfl, rfl⟩
theorem q_162 {w : Nat → Int} {B : List Int} {xb xp v l o : Int} (hB : ¬ (1 ≤ B.headD 0 ∧ B.headD 0 ≤ 4)) : ∀ (P : List Int) (f : Nat) (c : Int) (cd : Nat → Int), pwl w (P ++ B) → P.length < f → ∃ c2 cd2, F_X10_qGoesOn_162 xb xp w f v l c ((P ++ B).length : Int) o cd = ((1 : Int), v, xb, xp, c2, ((opD 3 P ++ B).length : Int) + 1, o, lf_up w ((opD 3 P ++ B).length : Int) l, cd2) ∧ c2 + ((opD 3 P).length : Int) = c + (P.length : Int) := by
  intro P
  induction P with
  | nil =>
    intro f c cd h hf
    obtain ⟨k, rfl⟩ : ∃ k, f = k + 1 := ⟨f - 1, by have : 0 < f := hf; omega⟩
    have e3 : F_X10_qIsOn_a0_3 (B.length : Int) w = if B.headD 0 = 3 then 1 else 0 := g_on h 3 (by decide)
    have e4 : F_X10_qIsOn_a0_4 (B.length : Int) w = if B.headD 0 = 4 then 1 else 0 := g_on h 4 (by decide)
    rw [if_neg (by omega)] at e3 e4
    refine ⟨c, cd, ?_, rfl⟩
    show F_X10_qGoesOn_162b xb xp w _ v l c (B.length : Int) o cd = _
    unfold F_X10_qGoesOn_162b
    rw [lf_b_e, e3, if_pos rfl, lf_b_e, e4, if_pos rfl]
    rfl
  | cons x P ih =>
    intro f c cd h hf
    obtain ⟨k, rfl⟩ : ∃ k, f = k + 1 := ⟨f - 1, by have : 0 < f := Nat.lt_of_le_of_lt (Nat.zero_le _) hf; omega⟩
    have e3 : F_X10_qIsOn_a0_3 (((x :: P) ++ B).length : Int) w = if x = 3 then 1 else 0 := g_on h 3 (by decide)
    have e4 : F_X10_qIsOn_a0_4 (((x :: P) ++ B).length : Int) w = if x = 4 then 1 else 0 := g_on h 4 (by decide)
    have ed : F_X10_qDrops c (((x :: P) ++ B).length : Int) cd w = ((c + 1), ((P ++ B).length : Int), lf_up cd c (w (P ++ B).length)) := q_drop
    obtain ⟨c2, cd2, i1, i2⟩ := ih k (c + 1) (lf_up cd c (w (P ++ B).length)) h.2 (by have : P.length + 1 < k + 1 := hf; omega)
    have fin : 3 ≤ x ∧ x ≤ 4 → ∃ c2 cd2, F_X10_qGoesOn_162 xb xp w k v l (c + 1) ((P ++ B).length : Int) o (lf_up cd c (w (P ++ B).length)) = ((1 : Int), v, xb, xp, c2, ((opD 3 (x :: P) ++ B).length : Int) + 1, o, lf_up w ((opD 3 (x :: P) ++ B).length : Int) l, cd2) ∧ c2 + ((opD 3 (x :: P)).length : Int) = c + ((P.length + 1 : Nat) : Int) := by
      intro q
      rw [show opD 3 (x :: P) = opD 3 P from if_pos q]
      exact ⟨c2, cd2, i1, by omega⟩
    show ∃ c2 cd2, F_X10_qGoesOn_162b xb xp w (F_X10_qGoesOn_162 xb xp w k) v l c (((x :: P) ++ B).length : Int) o cd = _ ∧ _
    unfold F_X10_qGoesOn_162b
    rw [lf_b_e, e3]
    by_cases c3 : x = 3
    · rw [if_pos c3, if_neg (show ¬ (1 : Int) = 0 from by decide), ed, lf_p_e, lf_p_e]
      exact fin (by omega)
    · rw [if_neg c3, if_pos rfl, lf_b_e, e4]
      by_cases c4 : x = 4
      · rw [if_pos c4, if_neg (show ¬ (1 : Int) = 0 from by decide), ed, lf_p_e, lf_p_e]
        exact fin (by omega)
      · rw [if_neg c4, if_pos rfl, show opD 3 (x :: P) = x :: P from if_neg (by omega)]
        exact ⟨c, cd, rfl, rfl⟩
theorem F_X10_asksSign_a0_40_1 {g : Nat → Int} {n p : Nat} {xa xe : Int} (hn : n ≤ 1600) (h : mp g n p xa xe) : F_X10_asksSign_a0_40 xa (n : Int) (0 : Int) (-1 : Int) g = if tx_k g n p = 3 ∧ g (tx_a g n p) = 40 then ((tx_a g n p : Int) + 1, (0 : Int), (-1 : Int)) else ((tx_a g n p : Int), (1 : Int), (tx_a g n p : Int)) := by
  unfold F_X10_asksSign_a0_40
  rw [if_pos rfl, F_X10_takesSign_a0_40_1 hn h]
  by_cases q : tx_k g n p = 3 ∧ g (tx_a g n p) = 40
  · rw [if_pos q, if_pos q, lf_p_e, if_neg (show ¬ (1 : Int) = 0 from by decide)]
  · rw [if_neg q, if_neg q, lf_p_e, if_pos rfl]
theorem F_X10_asksSign_a0_44_1 {g : Nat → Int} {n p : Nat} {xa xe : Int} (hn : n ≤ 1600) (h : mp g n p xa xe) : F_X10_asksSign_a0_44 xa (n : Int) (0 : Int) (-1 : Int) g = if tx_k g n p = 3 ∧ g (tx_a g n p) = 44 then ((tx_a g n p : Int) + 1, (0 : Int), (-1 : Int)) else ((tx_a g n p : Int), (1 : Int), (tx_a g n p : Int)) := by
  unfold F_X10_asksSign_a0_44
  rw [if_pos rfl, F_X10_takesSign_a0_44_1 hn h]
  by_cases q : tx_k g n p = 3 ∧ g (tx_a g n p) = 44
  · rw [if_pos q, if_pos q, lf_p_e, if_neg (show ¬ (1 : Int) = 0 from by decide)]
  · rw [if_neg q, if_neg q, lf_p_e, if_pos rfl]
/-- what the model holds amid a sum: the place, and what waits -/
def qS (g : Nat → Int) (n : Nat) (B : List Int) (o0 : Int) (d : Nat) (P : List Int) (o : Int) (p : Nat) (xa xe xb xp c m oo : Int) (w : Nat → Int) : Prop := okP P ∧ o = o0 + ((stT P).length : Int) ∧ 0 ≤ o0 ∧ o ≤ 6 ∧ c + (d : Int) + ((P ++ B).length : Int) ≤ (p : Int) ∧ 0 ≤ c ∧ mp g n p xa xe ∧ xb = 0 ∧ xp = -1 ∧ m = ((P ++ B).length : Int) ∧ oo = o ∧ pwl w (P ++ B)
def qG (g : Nat → Int) (n : Nat) (al : Int) (B : List Int) (o0 : Int) (d : Nat) (xe : Int) (S : ST) (p : Nat) (R : Int × Int × Int × Int × Int × Int × Int × (Nat → Int) × (Nat → Int)) : Prop := (R.1 = 1 ∧ ∃ P2 o2 p2, S = RR g n al true (stT P2) o2 p2 ∧ p < p2 ∧ qS g n B o0 d P2 o2 p2 R.2.1 xe R.2.2.1 R.2.2.2.1 R.2.2.2.2.1 R.2.2.2.2.2.1 R.2.2.2.2.2.2.1 R.2.2.2.2.2.2.2.1) ∨ (R.1 = 0 ∧ ∃ q : Int × Int, S = .inl q ∧ ¬ q.1 = 0 ∧ R.2.2.1 = q.1 ∧ R.2.2.2.1 = q.2) ∨ (R.1 = 0 ∧ ∃ P2 o2 p2, S = .inr p2 ∧ p ≤ p2 ∧ stT P2 = [] ∧ qS g n B o0 d P2 o2 p2 R.2.1 xe R.2.2.1 R.2.2.2.1 R.2.2.2.2.1 R.2.2.2.2.2.1 R.2.2.2.2.2.2.1 R.2.2.2.2.2.2.2.1)
section QG
variable {g : Nat → Int} {n : Nat} {al : Int} {B : List Int} {o0 : Int} {d : Nat} {P : List Int} {o : Int} {p : Nat} {xa xe c : Int} {w : Nat → Int}
theorem q_len {xb xp m oo : Int} (hn : n ≤ 1600) (h : qS g n B o0 d P o p xa xe xb xp c m oo w) : P.length ≤ 1600 ∧ P.length + B.length ≤ 1600 := by
  obtain ⟨h1, h2, h3, h4, h5, h6', h7, h8⟩ := h
  have hl : (P ++ B).length = P.length + B.length := List.length_append
  have := h7.1
  omega
theorem q_opr (hn : n ≤ 1600) (hB : ¬ (1 ≤ B.headD 0 ∧ B.headD 0 ≤ 4)) (h : qS g n B o0 d P o p xa xe (0 : Int) (-1 : Int) c ((P ++ B).length : Int) o w) (h6P : h6 P) (hop : opS g n p) {lo l : Int} (hlo : 1 ≤ lo) (hl : 1 ≤ l ∧ l ≤ 4) {R : Int × Int × Int × Int × Int × Int × Int × (Nat → Int) × (Nat → Int)} (hR : ∃ c2 cd2, R = ((1 : Int), (tx_a g n p : Int) + 1, (0 : Int), (-1 : Int), c2, ((opD lo P ++ B).length : Int) + 1, o, lf_up w ((opD lo P ++ B).length : Int) l, cd2) ∧ c2 + ((opD lo P).length : Int) = c + (P.length : Int)) : qG g n al B o0 d xe (RR g n al false (stT P) o p) p R := by
  obtain ⟨c2, cd2, e, e2⟩ := hR
  obtain ⟨h1, h2, h3, h4, h5, h6', h7, h8, h9, h10, h11, h12⟩ := h
  have hlt : p < tx_e g n p := tx_e_gt' (by have := hop.1; omega)
  obtain ⟨a1, a2, a3, a4⟩ := opD_ok hlo h1 h6P
  have hl1 : (P ++ B).length = P.length + B.length := List.length_append
  have hl2 : (opD lo P ++ B).length = (opD lo P).length + B.length := List.length_append
  have hs : stT (l :: opD lo P) = stT P := (stT_o (isOp_i.mpr hl)).trans a3
  refine Or.inl ?_
  rw [e]
  refine ⟨rfl, l :: opD lo P, o, tx_e g n p, ?_, hlt, ⟨a1, Or.inl ⟨isOp_i.mpr hl, a2⟩⟩, ?_, h3, h4, ?_, ?_, mp_sgn h7 hop.1, rfl, rfl, rfl, rfl, pwl_push (opD_p P h12) l⟩
  · rw [hs]
    exact RR_op h7.1 hop
  · rw [hs]
    exact h2
  · show c2 + (d : Int) + (((opD lo P ++ B).length + 1 : Nat) : Int) ≤ _
    omega
  · show 0 ≤ c2
    omega
theorem q_cm (hn : n ≤ 1600) (h : qS g n B o0 d P o p xa xe (0 : Int) (-1 : Int) c ((P ++ B).length : Int) o w) (h6P : h6 P) (hop : ¬ opS g n p) (hb2 : brT P = 21 ∨ brT P = 22) {cd : Nat → Int} : qG g n al B o0 d xe (RR g n al false (stT P) o p) p (lf_p (F_X10_asksSign_a0_44 (tx_a g n p : Int) (n : Int) (0 : Int) (-1 : Int) g) (fun v326 t_v327 => (lf_p t_v327 (fun v327 v328 => (if v327 = (0 : Int) then (lf_p (F_X10_qDropsToBracket c ((P ++ B).length : Int) (B.length : Int) cd w) (fun v343 t_v344 => (lf_p t_v344 (fun v344 f345 => ((1 : Int), v326, v327, v328, v343, v344, o, (lf_up w (v344 - (1 : Int)) ((w (Int.toNat (v344 - (1 : Int)))) + (2 : Int))), f345))))) else ((0 : Int), v326, v327, v328, c, ((P ++ B).length : Int), o, w, cd)))))) := by
  have hlen := q_len hn h
  obtain ⟨h1, h2, h3, h4, h5, h6', h7, h8, h9, h10, h11, h12⟩ := h
  have hl1 : (P ++ B).length = P.length + B.length := List.length_append
  rw [RR_cm h7.1 hop (by rw [stT_br]; exact hb2)]
  rw [F_X10_asksSign_a0_44_1 hn (mp_a h7)]
  by_cases q : tx_k g n p = 3 ∧ g (tx_a g n p) = 44
  · have hlt : p < tx_e g n p := tx_e_gt' (by have := q.1; omega)
    obtain ⟨c2, cd2, e1, e2⟩ := q_drops (c := c) (cd := cd) h12 (by omega)
    rcases ok_dr h1 h6P with r | ⟨x, Q, a1, a2, a3, a4, a5, a6⟩
    · omega
    rw [if_pos q, if_pos q, lf_p_e, lf_p_e, if_pos rfl, e1, lf_p_e, lf_p_e, a1]
    rw [a1] at e2
    have e2' : c2 + ((Q.length + 1 : Nat) : Int) = c + (P.length : Int) := e2
    have hx : x = 21 ∨ x = 22 := by omega
    have hp2 : pwl w (x :: (Q ++ B)) := by
      have := drT_p P h12
      rw [a1] at this
      exact this
    have hm : ((((x :: Q) ++ B).length : Nat) : Int) - 1 = ((Q ++ B).length : Int) := by
      show (((Q ++ B).length + 1 : Nat) : Int) - 1 = _
      omega
    have hl2 : (Q ++ B).length = Q.length + B.length := List.length_append
    rw [hm, Int.toNat_natCast, hp2.1]
    have hbr : isBr (x + 2) = true := isBr_i.mpr (by omega)
    have hs : stT ((x + 2) :: Q) = (x + 2) :: stT Q := stT_n (br_op hbr)
    have hc : cmT (stT P) = (x + 2) :: stT Q := by
      unfold cmT
      rw [a4, show drT (x :: stT Q) = x :: stT Q from if_pos a2]
    refine Or.inl ⟨rfl, (x + 2) :: Q, o, tx_e g n p, ?_, hlt, ⟨a5, Or.inr (Or.inl hbr)⟩, ?_, h3, h4, ?_, ?_, mp_sgn h7 q.1, rfl, rfl, rfl, rfl, pwl_push hp2.2 (x + 2)⟩
    · rw [hs, hc]
    · rw [hs, h2, a4]
      rfl
    · show c2 + (d : Int) + (((Q ++ B).length + 1 : Nat) : Int) ≤ _
      omega
    · show 0 ≤ c2
      omega
  · rw [if_neg q, if_neg q, lf_p_e, lf_p_e, if_neg (show ¬ (1 : Int) = 0 from by decide)]
    exact Or.inr (Or.inl ⟨rfl, (1, (tx_a g n p : Int)), rfl, (show ¬ (1 : Int) = 0 from by decide), rfl, rfl⟩)
theorem q_go (hn : n ≤ 1600) (hB : ¬ (1 ≤ B.headD 0 ∧ B.headD 0 ≤ 4)) (h : qS g n B o0 d P o p xa xe (0 : Int) (-1 : Int) c ((P ++ B).length : Int) o w) (h6P : h6 P) (hc : ¬ ((tx_k g n p = 3 ∧ g (tx_a g n p) = 41) ∧ (brT P = 20 ∨ brT P = 23 ∨ brT P = 24))) {cd : Nat → Int} : qG g n al B o0 d xe (RR g n al false (stT P) o p) p (gGo (n : Int) (0 : Int) (-1 : Int) (B.length : Int) g w c ((P ++ B).length : Int) o cd (tx_a g n p : Int)) := by
  have hlen := q_len hn h
  have h0 := h
  obtain ⟨h1, h2, h3, h4, h5, h6', h7, h8, h9, h10, h11, h12⟩ := h
  have ht : ((tx_a g n p : Int) + 1 - 1).toNat = tx_a g n p := by omega
  have ida : tx_a g n (tx_a g n p) = tx_a g n p := tx_a_idem g n p
  have sw : ∀ v : Int, F_X10_qBracket ((P ++ B).length : Int) (B.length : Int) w = brT P := fun _ => q_bracket h12 (by omega)
  unfold gGo
  rw [F_X10_takesSign_a0_42_1 hn (mp_a h7)]
  by_cases c1 : tx_k g n p = 3 ∧ g (tx_a g n p) = 42
  · rw [if_pos c1, lf_p_e, if_neg (show ¬ (1 : Int) = 0 from by decide), ht, if_pos c1.2]
    exact q_opr hn hB h0 h6P ⟨c1.1, Or.inl c1.2⟩ (lo := 3) (l := 3) (by decide) (by decide) (q_162 hB P 1623 c cd h12 (by omega))
  · rw [if_neg c1, lf_p_e, if_pos rfl, F_X10_takesSign_a0_47_1 hn (mp_a h7)]
    by_cases c2 : tx_k g n p = 3 ∧ g (tx_a g n p) = 47
    · rw [if_pos c2, lf_p_e, if_neg (show ¬ (1 : Int) = 0 from by decide), ht, if_neg (show ¬ g (tx_a g n p) = 42 from by have := c2.2; omega)]
      exact q_opr hn hB h0 h6P ⟨c2.1, Or.inr (Or.inl c2.2)⟩ (lo := 3) (l := 4) (by decide) (by decide) (q_162 hB P 1623 c cd h12 (by omega))
    · rw [if_neg c2, lf_p_e, if_pos rfl, F_X10_takesSign_a0_43_1 hn (mp_a h7)]
      by_cases c3 : tx_k g n p = 3 ∧ g (tx_a g n p) = 43
      · rw [if_pos c3, lf_p_e, if_neg (show ¬ (1 : Int) = 0 from by decide), ht, if_pos c3.2]
        exact q_opr hn hB h0 h6P ⟨c3.1, Or.inr (Or.inr (Or.inl c3.2))⟩ (lo := 1) (l := 1) (by decide) (by decide) (q_247 hB P 1623 c cd h12 (by omega))
      · rw [if_neg c3, lf_p_e, if_pos rfl, F_X10_takesSign_a0_45_1 hn (mp_a h7)]
        by_cases c4 : tx_k g n p = 3 ∧ g (tx_a g n p) = 45
        · rw [if_pos c4, lf_p_e, if_neg (show ¬ (1 : Int) = 0 from by decide), ht, if_neg (show ¬ g (tx_a g n p) = 43 from by have := c4.2; omega)]
          exact q_opr hn hB h0 h6P ⟨c4.1, Or.inr (Or.inr (Or.inr c4.2))⟩ (lo := 1) (l := 2) (by decide) (by decide) (q_247 hB P 1623 c cd h12 (by omega))
        · have hop : ¬ opS g n p := fun r => by
            rcases r.2 with s | s | s | s
            · exact c1 ⟨r.1, s⟩
            · exact c2 ⟨r.1, s⟩
            · exact c3 ⟨r.1, s⟩
            · exact c4 ⟨r.1, s⟩
          rw [if_neg c4, lf_p_e, if_pos rfl, lf_b_e, sw 0]
          by_cases b1 : brT P = 21
          · rw [if_pos b1]
            exact q_cm hn h0 h6P hop (Or.inl b1)
          · rw [if_neg b1, lf_b_e]
            by_cases b2 : brT P = 22
            · rw [if_pos b2]
              exact q_cm hn h0 h6P hop (Or.inr b2)
            · rw [if_neg b2, lf_b_e]
              rcases ok_dr h1 h6P with r | ⟨x, Q, a1, a2, a3, a4, a5, a6⟩
              · rw [if_pos r.1, RR_nd hop (by rw [stT_br]; exact r.1)]
                exact Or.inr (Or.inr ⟨rfl, P, o, p, rfl, Nat.le_refl _, r.2, h1, h2, h3, h4, h5, h6', mp_a h7, rfl, rfl, rfl, rfl, h12⟩)
              · have hx := isBr_i.mp a2
                have hcl : ¬ (tx_k g n p = 3 ∧ g (tx_a g n p) = 41) := fun s => hc ⟨s, by omega⟩
                rw [if_neg (by omega), RR_bd hcl hop (by rw [stT_br]; omega) (by rw [stT_br]; omega)]
                exact Or.inr (Or.inl ⟨rfl, (1, (tx_a g n p : Int)), rfl, (show ¬ (1 : Int) = 0 from by decide), rfl, rfl⟩)
end QG
