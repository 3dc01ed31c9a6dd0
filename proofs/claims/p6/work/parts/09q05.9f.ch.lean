/-! chance, on both sides -/
section CH
variable {nW nK : Nat} {oC oR oL : Option (List Int)} {s cy ls aw stm d ru gr hnx hct sd sru sgr sA ar pr cr we ha tkn ad aru agr akn rws cmp fnd frl fgr chs chl occ dwn fa pl sM awM isc und nwst rmM moc sdd tk ask red io lg gt icg sg qp ftm ftr ftg mf mp0 p0 p1 p2 p3 p4 : Int} {g clmK pcK kO cA comers code spans nmX tr rD rR rG facts stack str cars gaps known left leaves tab atr atd ats sw ss sec oct refu gM many bar kinds walkers cf ce codes now kept mrw mo refM asd isCar gapM isG isH crM wtM goM hmM prM ciM pile whn : Nat → Int} {rF : Nat → Nat → Int}
def chS (aw : Int) (nW s0 : Nat) : Nat → Nat
  | 0 => s0
  | k + 1 => (dwA aw (chS aw nW s0 k) nW).1
def chA (aw : Int) (nW s0 : Nat) (k : Nat) : Int := (F_X9_drawAbsent aw (nW : Int) (chS aw nW s0 k : Int)).1
def chM (aw : Int) (nW s0 : Nat) : Nat → Int
  | 0 => 0
  | k + 1 => chM aw nW s0 k + cnf (dwA aw (chS aw nW s0 k) nW).2 nW
theorem chS_l {s0 : Nat} (h : s0 < 2147483648) : ∀ k, chS aw nW s0 k < 2147483648
  | 0 => h
  | k + 1 => dwA_l (chS_l h k) nW
theorem dwA_hi {s0 : Nat} : ∀ k w, k ≤ w → (dwA aw s0 k).2 w = false
  | 0, w, _ => rfl
  | k + 1, w, h => by
    have e : (dwA aw s0 (k + 1)).2 w = ((dwA aw s0 k).2 w || (decide (w = k) && decide (((dwS (dwA aw s0 k).1 / 64 % 100 : Nat) : Int) < aw))) := rfl
    rw [e, dwA_hi k w (by omega), decide_eq_false (show ¬ w = k from by omega)]
    rfl
theorem chA_x {s0 : Nat} (h : s0 < 2147483648) (hn : nW ≤ 12) (k : Nat) : F_X9_drawAbsent aw (nW : Int) (chS aw nW s0 k : Int) = (chA aw nW s0 k, ((chS aw nW s0 (k + 1) : Nat) : Int)) ∧ rg (chA aw nW s0 k) ∧ ∀ w, w < 12 → bt (chA aw nW s0 k) w = (dwA aw (chS aw nW s0 k) nW).2 w := by
  obtain ⟨A, e, e1, e2⟩ := da_x (away := aw) (chS_l (aw := aw) (nW := nW) h k) hn 14 0 0 (Nat.zero_le _) (by omega) rg_0 (fun w _ => bt_0 w)
  have e' : F_X9_drawAbsent aw (nW : Int) (chS aw nW s0 k : Int) = (A, ((chS aw nW s0 (k + 1) : Nat) : Int)) := e
  have eA : chA aw nW s0 k = A := by
    unfold chA
    rw [e']
  rw [eA]
  exact ⟨e', e1, e2⟩
theorem chM_b {s0 : Nat} (hn : nW ≤ 12) : ∀ k : Nat, 0 ≤ chM aw nW s0 k ∧ chM aw nW s0 k ≤ 12 * (k : Int)
  | 0 => ⟨Int.le_refl _, Int.le_refl _⟩
  | k + 1 => by
    have ih := chM_b (s0 := s0) hn k
    have hb := cnf_le (dwA aw (chS aw nW s0 k) nW).2 nW
    have e : chM aw nW s0 (k + 1) = chM aw nW s0 k + cnf (dwA aw (chS aw nW s0 k) nW).2 nW := rfl
    rw [e]
    omega
theorem cc_run {s0 n : Nat} (hP : plH nW nK cy ls oC oR kO cA clmK pcK comers code spans ar) (hL : cdX code spans 4 oL ∧ cdG false 123 oL) (hB : stB nK d ru gr tr) (hs : s0 < 2147483648) (hn : n ≤ 30) (hdn : d + (n : Int) ≤ 999) : ∀ (f k : Nat) (c1 c2 sd ru1 gr1 A1 pr cr we ha : Int) (rD rR rG : Nat → Int) (rF : Nat → Nat → Int) (a6 facts stack cars gaps str known left leaves : Nat → Int), k ≤ n → n - k < f → (∀ j, j < nK → a6 j = lvT oC oR oL nW cy ls kO cA clmK pcK d ru gr (chA aw nW s0) tr k j) → sfH oC oR nW nK cy ls kO cA clmK pcK sd str ru1 gr1 A1 cars gaps known left leaves pr cr we ha → (∃ O, O = F_X9_chance_22 cy ls aw (nK : Int) clmK pcK (nW : Int) kO cA comers code spans ru gr ar refu (n : Int) f c1 c2 rD rR rG rF (chM aw nW s0 k) (k : Int) ((chS aw nW s0 k : Nat) : Int) (d + (k : Int)) sd ru1 gr1 A1 pr cr we ha a6 facts stack cars gaps str known left leaves ∧ O.1 = chM aw nW s0 n ∧ O.2.1 = ((chS aw nW s0 n : Nat) : Int) ∧ O.2.2.1 = d + (n : Int) ∧ O.2.2.2.1 = c1 ∧ O.2.2.2.2.1 = c2 ∧ (∀ j, j < nK → O.2.2.2.2.2.1 j = lvT oC oR oL nW cy ls kO cA clmK pcK d ru gr (chA aw nW s0) tr n j) ∧ O.2.2.2.2.2.2.1 = 0 ∧ O.2.2.2.2.2.2.2.1 = 0 ∧ O.2.2.2.2.2.2.2.2.1 = 0 ∧ O.2.2.2.2.2.2.2.2.2.1 = refu ∧ sfH oC oR nW nK cy ls kO cA clmK pcK O.2.2.2.2.2.2.2.2.2.2.1 O.2.2.2.2.2.2.2.2.2.2.2.2.2.2.2.2.2.2.2.2.2.2.1 O.2.2.2.2.2.2.2.2.2.2.2.1 O.2.2.2.2.2.2.2.2.2.2.2.2.1 O.2.2.2.2.2.2.2.2.2.2.2.2.2.1 O.2.2.2.2.2.2.2.2.2.2.2.2.2.2.2.2.2.2.2.2.1 O.2.2.2.2.2.2.2.2.2.2.2.2.2.2.2.2.2.2.2.2.2.1 O.2.2.2.2.2.2.2.2.2.2.2.2.2.2.2.2.2.2.2.2.2.2.2.1 O.2.2.2.2.2.2.2.2.2.2.2.2.2.2.2.2.2.2.2.2.2.2.2.2.1 O.2.2.2.2.2.2.2.2.2.2.2.2.2.2.2.2.2.2.2.2.2.2.2.2.2.1 O.2.2.2.2.2.2.2.2.2.2.2.2.2.2.1 O.2.2.2.2.2.2.2.2.2.2.2.2.2.2.2.1 O.2.2.2.2.2.2.2.2.2.2.2.2.2.2.2.2.1 O.2.2.2.2.2.2.2.2.2.2.2.2.2.2.2.2.2.1 ∧ O.2.2.2.2.2.2.2.2.2.2.2.2.2.2.2.2.2.2.2.2.2.2.2.2.2.2.1 = rD ∧ O.2.2.2.2.2.2.2.2.2.2.2.2.2.2.2.2.2.2.2.2.2.2.2.2.2.2.2.1 = rR ∧ O.2.2.2.2.2.2.2.2.2.2.2.2.2.2.2.2.2.2.2.2.2.2.2.2.2.2.2.2.1 = rG ∧ O.2.2.2.2.2.2.2.2.2.2.2.2.2.2.2.2.2.2.2.2.2.2.2.2.2.2.2.2.2 = rF) := by
  intro f
  induction f with
  | zero => intro k c1 c2 sd ru1 gr1 A1 pr cr we ha rD rR rG rF a6 facts stack cars gaps str known left leaves h1 h2; omega
  | succ f ih =>
    intro k c1 c2 sd ru1 gr1 A1 pr cr we ha rD rR rG rF a6 facts stack cars gaps str known left leaves h1 h2 h3 h4
    have e0 : F_X9_chance_22 cy ls aw (nK : Int) clmK pcK (nW : Int) kO cA comers code spans ru gr ar refu (n : Int) (f + 1) c1 c2 rD rR rG rF (chM aw nW s0 k) (k : Int) ((chS aw nW s0 k : Nat) : Int) (d + (k : Int)) sd ru1 gr1 A1 pr cr we ha a6 facts stack cars gaps str known left leaves = F_X9_chance_22b cy ls aw (nK : Int) clmK pcK (nW : Int) kO cA comers code spans ru gr ar refu (n : Int) (F_X9_chance_22 cy ls aw (nK : Int) clmK pcK (nW : Int) kO cA comers code spans ru gr ar refu (n : Int) f) c1 c2 rD rR rG rF (chM aw nW s0 k) (k : Int) ((chS aw nW s0 k : Nat) : Int) (d + (k : Int)) sd ru1 gr1 A1 pr cr we ha a6 facts stack cars gaps str known left leaves := rfl
    rw [e0]
    unfold F_X9_chance_22b
    have hW : nW ≤ 12 := hP.1
    by_cases q : k = n
    · rw [if_pos (by omega)]
      subst q
      exact ⟨_, rfl, rfl, rfl, rfl, rfl, rfl, h3, rfl, rfl, rfl, rfl, h4, rfl, rfl, rfl, rfl⟩
    · have hd := hB.1
      have hTb := lvT_b (oL := oL) (cy := cy) (ls := ls) (ru := ru) (gr := gr) (a := chA aw nW s0) (tr := tr) hP hB.1.1 hB.2.2.2 k (by omega)
      have hBk : stB nK (d + (k : Int)) ru gr (lvT oC oR oL nW cy ls kO cA clmK pcK d ru gr (chA aw nW s0) tr k) := ⟨⟨by omega, by omega⟩, hB.2.1, hB.2.2.1, hTb⟩
      obtain ⟨eA, rA, bA⟩ := chA_x (aw := aw) hs hW k
      obtain ⟨f2, s2, c2', g2, t2, k2, l2, v2, pr2, cr2, we2, ha2, t3, f3, s3, e, x1, x2, x3, x4, x5⟩ := lv_c (facts := facts) (stack := stack) (A := chA aw nW s0 k) hP hL h4 hBk h3 rA
      have hbc : F_J6_bitCount_0f7a4 (chA aw nW s0 k) = cnf (dwA aw (chS aw nW s0 k) nW).2 nW := bc_c rA hW bA (fun w hw _ => dwA_hi nW w hw)
      have hM := chM_b (aw := aw) (s0 := s0) hW k
      have hc := cnf_le (dwA aw (chS aw nW s0 k) nW).2 nW
      rw [if_neg (by omega), eA, lf_p_e, lf_b_e, hbc, e, lf_p_e, lf_p_e, lf_p_e, lf_p_e, lf_p_e, lf_p_e, lf_p_e, lf_p_e, lf_p_e, lf_p_e, lf_p_e, lf_p_e, lf_p_e, lf_p_e, lf_p_e, x4, lf_p_e, lf_p_e, lf_p_e, lo_add (by omega) (by omega) (by omega) (by omega) (by omega) (by omega)]
      have e5 : d + (k : Int) + 1 = d + ((k + 1 : Nat) : Int) := by omega
      rw [e5]
      exact ih (k + 1) c1 c2 (d + (k : Int)) ru gr (chA aw nW s0 k) pr2 cr2 we2 ha2 rD rR rG rF t3 f3 s3 c2' g2 t2 k2 l2 v2 (by omega) (by omega) x5 x1
abbrev M27 : Type := Int × Int × Int × Int × Int × Int × Int × Int × Int × Int × Int × Int × Int × (Nat → Int) × (Nat → Int) × (Nat → Int) × (Nat → Int) × (Nat → Int) × (Nat → Int) × (Nat → Int) × (Nat → Int) × (Nat → Int) × (Nat → Int) × (Nat → Int) × (Nat → Int) × (Nat → Int) × (Nat → Int)
theorem cm_36 {K25 : Int → Int → (Nat → Int) → Int → Int → Int → Int → Int → Int → Int → Int → Int → Int → (Nat → Int) → (Nat → Int) → (Nat → Int) → (Nat → Int) → (Nat → Int) → (Nat → Int) → (Nat → Int) → (Nat → Int) → (Nat → Int) → (Nat → Int) → (Nat → Int) → (Nat → Int) → Int → Int → M27} {s : Nat} {c82 c83 l3 c55 c58 c59 c74 c117 l0 : Int} {a1 a2 a7 a11 a13 a14 a15 a16 a17 a18 a19 a20 a21 : Nat → Int} {A : Int} (hP : plH nW nK cy ls oC oR kO cA clmK pcK comers code spans ar) (hM : pmH nW nK cy ls oC oR oL kO cA clmK pcK many bar kinds walkers cf ce codes) (hG : cdG false 123 oL) (hB : stB nK d ru gr tr) (hN : ndH nK d ru gr tr a1) (hs : s < 2147483648) (h0 : 0 ≤ l0 ∧ l0 ≤ 1000) (hA : rg A) (hA2 : ∀ w, w < 12 → bt A w = (dwA aw s nW).2 w) : ∀ (f k : Nat) (l4 : Int), k ≤ nW → nW - k < f → rg l4 → (∀ w, w < 12 → bt l4 w = (dwA aw s k).2 w) → ∃ v43 v17 v18 v19 v20 v21 v22 v23 v44 f46 now2 f27 f7 f28 f29 f8 f25 f26 f30 f31 f32, F_X10_chance_36 aw many bar kinds walkers cf ce codes c82 c83 a2 l3 c55 c58 c59 c74 c117 a1 a7 a11 a13 a14 a15 a16 a17 a18 a19 a20 a21 K25 f (l0 + cnf (dwA aw s nW).2 k) l4 (k : Int) ((dwA aw s k).1 : Int) = K25 c82 c83 a2 (l3 + (1 : Int)) v43 v17 v18 v19 v20 v21 v22 v23 v44 now2 f46 f27 f7 f28 f29 f8 f25 f26 f30 f31 f32 (l0 + cnf (dwA aw s nW).2 nW) ((dwA aw s nW).1 : Int) ∧ ndH nK (d + 1) ru gr (lnS oL d cA clmK pcK kO (wt0 cA (abf A) (weS oC oR nW cy ls kO cA clmK pcK d tr ru gr A)) (abf A) tr nW) now2 := by
  intro f
  induction f with
  | zero => intro k l4 h1 h2; omega
  | succ f ih =>
    intro k l4 h1 h2 h3 h4
    have e0 : F_X10_chance_36 aw many bar kinds walkers cf ce codes c82 c83 a2 l3 c55 c58 c59 c74 c117 a1 a7 a11 a13 a14 a15 a16 a17 a18 a19 a20 a21 K25 (f + 1) (l0 + cnf (dwA aw s nW).2 k) l4 (k : Int) ((dwA aw s k).1 : Int) = F_X10_chance_36b aw many bar kinds walkers cf ce codes c82 c83 a2 l3 c55 c58 c59 c74 c117 a1 a7 a11 a13 a14 a15 a16 a17 a18 a19 a20 a21 K25 (F_X10_chance_36 aw many bar kinds walkers cf ce codes c82 c83 a2 l3 c55 c58 c59 c74 c117 a1 a7 a11 a13 a14 a15 a16 a17 a18 a19 a20 a21 K25 f) (l0 + cnf (dwA aw s nW).2 k) l4 (k : Int) ((dwA aw s k).1 : Int) := rfl
    rw [e0]
    unfold F_X10_chance_36b F_X10_chance_70
    have hW : nW ≤ 12 := hP.1
    have hm3 : many 3 = (nW : Int) := hM.1
    rw [lf_b_e, hm3]
    by_cases q : k = nW
    · have e4 : l4 = A := bt_ext h3 hA (fun w hw => by rw [h4 w hw, hA2 w hw, q])
      obtain ⟨v43, v17, v18, v19, v20, v21, v22, v23, v44, f46, now2, f27, f7, f28, f29, f8, f25, f26, f30, f31, f32, e, hN2⟩ := lv_m (tk := c55) (ask := c58) (red := c59) (sg := c74) (qp := c117) (isCar := a16) (gaps := a13) (isG := a21) (isH := a17) (cr := a18) (wt := a11) (go := a14) (hm := a15) (pr2 := a19) (ci := a20) (pile := a7) (A := A) hP hM hG hB hN hA
      rw [if_pos (by omega), e4, e, lf_p_e, lf_p_e, lf_p_e, lf_p_e, lf_p_e, lf_p_e, lf_p_e, lf_p_e, lf_p_e, lf_p_e, lf_p_e, lf_p_e, lf_p_e, lf_p_e, lf_p_e, lf_p_e, lf_p_e, lf_p_e, lf_p_e, lf_p_e, lf_p_e, q]
      exact ⟨_, _, _, _, _, _, _, _, _, _, _, _, _, _, _, _, _, _, _, _, _, rfl, hN2⟩
    · have hl := dwA_l (away := aw) hs k
      rw [if_neg (by omega), dw_2 hl, lf_p_e]
      have e1 : (dwA aw s (k + 1)).1 = dwS (dwA aw s k).1 := rfl
      have e2 : ∀ w, (dwA aw s (k + 1)).2 w = ((dwA aw s k).2 w || (decide (w = k) && decide (((dwS (dwA aw s k).1 / 64 % 100 : Nat) : Int) < aw))) := fun _ => rfl
      have hst : ∀ j, k < j → (dwA aw s j).2 k = decide (((dwS (dwA aw s k).1 / 64 % 100 : Nat) : Int) < aw) := by
        intro j
        induction j with
        | zero => intro hj; omega
        | succ j ihj =>
          intro hj
          have e3 : (dwA aw s (j + 1)).2 k = ((dwA aw s j).2 k || (decide (k = j) && decide (((dwS (dwA aw s j).1 / 64 % 100 : Nat) : Int) < aw))) := rfl
          by_cases z : k = j
          · rw [e3, ← z, dwA_hi k k (Nat.le_refl k), decide_eq_true (show k = k from rfl), Bool.false_or, Bool.true_and]
          · rw [e3, decide_eq_false z, Bool.false_and, Bool.or_false]
            exact ihj (by omega)
      have ec : cnf (dwA aw s nW).2 (k + 1) = cnf (dwA aw s nW).2 k + b2 (decide (((dwS (dwA aw s k).1 / 64 % 100 : Nat) : Int) < aw)) := by
        show cnf (dwA aw s nW).2 k + b2 ((dwA aw s nW).2 k) = _
        rw [hst nW (by omega)]
      have hcb := cnf_le (dwA aw s nW).2 k
      by_cases y : aw ≤ ((dwS (dwA aw s k).1 / 64 % 100 : Nat) : Int)
      · rw [if_pos y]
        have hx := ih (k + 1) l4 (by omega) (by omega) h3 (fun w hw => by
          rw [h4 w hw, e2, decide_eq_false (show ¬ ((dwS (dwA aw s k).1 / 64 % 100 : Nat) : Int) < aw from by omega), Bool.and_false, Bool.or_false])
        rw [ec, decide_eq_false (show ¬ ((dwS (dwA aw s k).1 / 64 % 100 : Nat) : Int) < aw from by omega), show l0 + (cnf (dwA aw s nW).2 k + b2 false) = l0 + cnf (dwA aw s nW).2 k from by
          have : b2 false = 0 := rfl
          omega] at hx
        exact hx
      · rw [if_neg y]
        have ha := bt_add (w := k) h3 (by omega)
        have hx := ih (k + 1) (lf_o lf_ior l4 (lf_o lf_ishl (1 : Int) (k : Int))) (by omega) (by omega) ha.1 (fun w hw => by
          rw [ha.2, h4 w hw, e2, decide_eq_true (show ((dwS (dwA aw s k).1 / 64 % 100 : Nat) : Int) < aw from by omega), Bool.and_true]
          by_cases z : w = k
          · rw [z, decide_eq_true rfl]
          · rw [decide_eq_false z, decide_eq_false (fun r => z r.symm)])
        rw [ec, decide_eq_true (show ((dwS (dwA aw s k).1 / 64 % 100 : Nat) : Int) < aw from by omega), show l0 + (cnf (dwA aw s nW).2 k + b2 true) = l0 + cnf (dwA aw s nW).2 k + 1 from by
          have : b2 true = 1 := rfl
          omega] at hx
        rw [lo_add (by omega) (by omega) (by omega) (by omega) (by omega) (by omega)]
        exact hx
theorem cm_run {s0 n : Nat} (hP : plH nW nK cy ls oC oR kO cA clmK pcK comers code spans ar) (hM : pmH nW nK cy ls oC oR oL kO cA clmK pcK many bar kinds walkers cf ce codes) (hG : cdG false 123 oL) (hB : stB nK d ru gr tr) (hs : s0 < 2147483648) (hn : n ≤ 30) (hdn : d + (n : Int) ≤ 999) : ∀ (f k : Nat) (c82 c83 c55 c58 c59 c70 c71 c72 c73 c74 c117 : Int) (a1 a2 a7 a11 a13 a14 a15 a16 a17 a18 a19 a20 a21 : Nat → Int), k ≤ n → n - k < f → ndH nK (d + (k : Int)) ru gr (lvT oC oR oL nW cy ls kO cA clmK pcK d ru gr (chA aw nW s0) tr k) a1 → (∃ O, O = F_X10_chance_25 aw refM many bar kinds walkers cf ce codes (n : Int) f c82 c83 a2 (k : Int) c55 c58 c59 c70 c71 c72 c73 c74 c117 a1 a7 a11 a13 a14 a15 a16 a17 a18 a19 a20 a21 (chM aw nW s0 k) ((chS aw nW s0 k : Nat) : Int) ∧ O.1 = chM aw nW s0 n ∧ O.2.2.2.2.2.2.2.2.2.1 = c82 ∧ O.2.2.2.2.2.2.2.2.2.2.1 = c83 ∧ O.2.2.2.2.2.2.2.2.2.2.2.1 = ((chS aw nW s0 n : Nat) : Int) ∧ ndH nK (d + (n : Int)) ru gr (lvT oC oR oL nW cy ls kO cA clmK pcK d ru gr (chA aw nW s0) tr n) O.2.2.2.2.2.2.2.2.2.2.2.2.2.1 ∧ O.2.2.2.2.2.2.2.2.2.2.2.2.2.2.1 = a2 ∧ O.2.2.2.2.2.2.2.2.2.2.2.2.2.2.2.1 = refM) := by
  intro f
  induction f with
  | zero => intro k c82 c83 c55 c58 c59 c70 c71 c72 c73 c74 c117 a1 a2 a7 a11 a13 a14 a15 a16 a17 a18 a19 a20 a21 h1 h2; omega
  | succ f ih =>
    intro k c82 c83 c55 c58 c59 c70 c71 c72 c73 c74 c117 a1 a2 a7 a11 a13 a14 a15 a16 a17 a18 a19 a20 a21 h1 h2 h3
    have e0 : F_X10_chance_25 aw refM many bar kinds walkers cf ce codes (n : Int) (f + 1) c82 c83 a2 (k : Int) c55 c58 c59 c70 c71 c72 c73 c74 c117 a1 a7 a11 a13 a14 a15 a16 a17 a18 a19 a20 a21 (chM aw nW s0 k) ((chS aw nW s0 k : Nat) : Int) = F_X10_chance_25b aw refM many bar kinds walkers cf ce codes (n : Int) (F_X10_chance_25 aw refM many bar kinds walkers cf ce codes (n : Int) f) c82 c83 a2 (k : Int) c55 c58 c59 c70 c71 c72 c73 c74 c117 a1 a7 a11 a13 a14 a15 a16 a17 a18 a19 a20 a21 (chM aw nW s0 k) ((chS aw nW s0 k : Nat) : Int) := rfl
    rw [e0]
    unfold F_X10_chance_25b
    have hW : nW ≤ 12 := hP.1
    by_cases q : k = n
    · rw [if_pos (by omega)]
      subst q
      exact ⟨_, rfl, rfl, rfl, rfl, rfl, h3, rfl, rfl⟩
    · have hd := hB.1
      have hTb := lvT_b (oL := oL) (cy := cy) (ls := ls) (ru := ru) (gr := gr) (a := chA aw nW s0) (tr := tr) hP hB.1.1 hB.2.2.2 k (by omega)
      have hBk : stB nK (d + (k : Int)) ru gr (lvT oC oR oL nW cy ls kO cA clmK pcK d ru gr (chA aw nW s0) tr k) := ⟨⟨by omega, by omega⟩, hB.2.1, hB.2.2.1, hTb⟩
      obtain ⟨eA, rA, bA⟩ := chA_x (aw := aw) hs hW k
      have hMb := chM_b (aw := aw) (s0 := s0) hW k
      obtain ⟨v43, v17, v18, v19, v20, v21, v22, v23, v44, f46, now2, f27, f7, f28, f29, f8, f25, f26, f30, f31, f32, e, hN2⟩ := cm_36 (K25 := F_X10_chance_25 aw refM many bar kinds walkers cf ce codes (n : Int) f) (c82 := c82) (c83 := c83) (a2 := a2) (l3 := (k : Int)) (c55 := c55) (c58 := c58) (c59 := c59) (c74 := c74) (c117 := c117) (a7 := a7) (a11 := a11) (a13 := a13) (a14 := a14) (a15 := a15) (a16 := a16) (a17 := a17) (a18 := a18) (a19 := a19) (a20 := a20) (a21 := a21) (l0 := chM aw nW s0 k) (aw := aw) hP hM hG hBk h3 (chS_l (aw := aw) (nW := nW) hs k) (by omega) rA bA 14 0 0 (Nat.zero_le _) (by omega) rg_0 (fun w _ => bt_0 w)
      rw [show chM aw nW s0 k + cnf (dwA aw (chS aw nW s0 k) nW).2 0 = chM aw nW s0 k from Int.add_zero _] at e
      have hN' : ndH nK (d + ((k + 1 : Nat) : Int)) ru gr (lvT oC oR oL nW cy ls kO cA clmK pcK d ru gr (chA aw nW s0) tr (k + 1)) now2 := by
        rw [show d + ((k + 1 : Nat) : Int) = d + (k : Int) + 1 from by omega]
        exact hN2
      have e' : F_X10_chance_36 aw many bar kinds walkers cf ce codes c82 c83 a2 (k : Int) c55 c58 c59 c74 c117 a1 a7 a11 a13 a14 a15 a16 a17 a18 a19 a20 a21 (F_X10_chance_25 aw refM many bar kinds walkers cf ce codes (n : Int) f) 14 (chM aw nW s0 k) (0 : Int) (0 : Int) ((chS aw nW s0 k : Nat) : Int) = _ := e
      rw [if_neg (by omega), e']
      exact ih (k + 1) c82 c83 v43 v17 v18 v19 v20 v21 v22 v23 v44 now2 a2 f46 f27 f7 f28 f29 f8 f25 f26 f30 f31 f32 (by omega) (by omega) hN'
theorem ch_x0 (h : ¬ ((10 ≤ cy ∨ 0 < cy) ∧ (1 ≤ p0 ∧ p0 ≤ 30) ∧ lf_o lf_iadd d p0 ≤ 999)) : F_X9_chance cy ls aw (nK : Int) clmK pcK (nW : Int) kO cA comers code spans d ru gr tr rD rR rG rF hnx hct facts stack sd str sru sgr sA ar cars gaps known left leaves pr cr we ha tkn akn cmp refu dwn p0 = ((-1 : Int), dwn, d, hnx, hct, tr, tkn, akn, cmp, rfN refu 3, sd, sru, sgr, sA, pr, cr, we, ha, facts, stack, cars, gaps, str, known, left, leaves, rD, rR, rG, rF) := by
  unfold F_X9_chance
  rw [cl_x, if_neg h, lf_b_e, if_pos rfl]
  rfl
theorem ch_m0 (h0 : now 0 = d) (h : ¬ (¬ isc = 0 ∧ (1 ≤ p0 ∧ p0 ≤ 30) ∧ lf_o lf_iadd d p0 ≤ 999)) : ∃ O, O = F_X10_chance awM isc tk ask red io lg gt icg sg und nwst sdd qp refM many bar kinds walkers cf ce codes now isCar gapM isG isH crM wtM goM hmM prM ciM kept pile p0 ∧ O.1 = -1 ∧ O.2.2.2.2.2.2.2.2.2.1 = und ∧ O.2.2.2.2.2.2.2.2.2.2.1 = nwst ∧ O.2.2.2.2.2.2.2.2.2.2.2.1 = sdd ∧ O.2.2.2.2.2.2.2.2.2.2.2.2.2.1 = now ∧ O.2.2.2.2.2.2.2.2.2.2.2.2.2.2.1 = kept ∧ O.2.2.2.2.2.2.2.2.2.2.2.2.2.2.2.1 = rfN refM 3 := by
  unfold F_X10_chance
  rw [ia_m h0, if_neg h, lf_b_e, if_pos rfl]
  exact ⟨_, rfl, rfl, rfl, rfl, rfl, rfl, rfl, rfl⟩
theorem ch_t {s0 : Nat} (hP : plH nW nK cy ls oC oR kO cA clmK pcK comers code spans ar) (hM : pmH nW nK cy ls oC oR oL kO cA clmK pcK many bar kinds walkers cf ce codes) (hL : cdX code spans 4 oL ∧ cdG false 123 oL) (hS : sfH oC oR nW nK cy ls kO cA clmK pcK sd str sru sgr sA cars gaps known left leaves pr cr we ha) (hB : stB nK d ru gr tr) (hN : ndH nK d ru gr tr now) (hH : hsH nK hnx hct rD rR rG rF nwst und kept) (hi : isc = 1) (hr : refu = refM) (hs : s0 < 2147483648) (hs1 : dwn = (s0 : Int)) (hs2 : sdd = (s0 : Int)) (haw : awM = aw) : ∃ O Q, O = F_X9_chance cy ls aw (nK : Int) clmK pcK (nW : Int) kO cA comers code spans d ru gr tr rD rR rG rF hnx hct facts stack sd str sru sgr sA ar cars gaps known left leaves pr cr we ha tkn akn cmp refu dwn p0 ∧ Q = F_X10_chance awM isc tk ask red io lg gt icg sg und nwst sdd qp refM many bar kinds walkers cf ce codes now isCar gapM isG isH crM wtM goM hmM prM ciM kept pile p0 ∧ O.1 = Q.1 ∧ O.2.2.2.2.2.2.2.2.2.1 = Q.2.2.2.2.2.2.2.2.2.2.2.2.2.2.2.1 ∧ (∃ s1 : Nat, s1 < 2147483648 ∧ O.2.1 = (s1 : Int) ∧ Q.2.2.2.2.2.2.2.2.2.2.2.1 = (s1 : Int)) ∧ sfH oC oR nW nK cy ls kO cA clmK pcK O.2.2.2.2.2.2.2.2.2.2.1 O.2.2.2.2.2.2.2.2.2.2.2.2.2.2.2.2.2.2.2.2.2.2.1 O.2.2.2.2.2.2.2.2.2.2.2.1 O.2.2.2.2.2.2.2.2.2.2.2.2.1 O.2.2.2.2.2.2.2.2.2.2.2.2.2.1 O.2.2.2.2.2.2.2.2.2.2.2.2.2.2.2.2.2.2.2.2.1 O.2.2.2.2.2.2.2.2.2.2.2.2.2.2.2.2.2.2.2.2.2.1 O.2.2.2.2.2.2.2.2.2.2.2.2.2.2.2.2.2.2.2.2.2.2.2.1 O.2.2.2.2.2.2.2.2.2.2.2.2.2.2.2.2.2.2.2.2.2.2.2.2.1 O.2.2.2.2.2.2.2.2.2.2.2.2.2.2.2.2.2.2.2.2.2.2.2.2.2.1 O.2.2.2.2.2.2.2.2.2.2.2.2.2.2.1 O.2.2.2.2.2.2.2.2.2.2.2.2.2.2.2.1 O.2.2.2.2.2.2.2.2.2.2.2.2.2.2.2.2.1 O.2.2.2.2.2.2.2.2.2.2.2.2.2.2.2.2.2.1 ∧ acO nK d ru gr O.2.2.1 ru gr tr O.2.2.2.2.2.1 Q.2.2.2.2.2.2.2.2.2.2.2.2.2.1 O.2.2.2.1 O.2.2.2.2.1 O.2.2.2.2.2.2.2.2.2.2.2.2.2.2.2.2.2.2.2.2.2.2.2.2.2.2.1 O.2.2.2.2.2.2.2.2.2.2.2.2.2.2.2.2.2.2.2.2.2.2.2.2.2.2.2.1 O.2.2.2.2.2.2.2.2.2.2.2.2.2.2.2.2.2.2.2.2.2.2.2.2.2.2.2.2.1 O.2.2.2.2.2.2.2.2.2.2.2.2.2.2.2.2.2.2.2.2.2.2.2.2.2.2.2.2.2 Q.2.2.2.2.2.2.2.2.2.2.1 Q.2.2.2.2.2.2.2.2.2.1 Q.2.2.2.2.2.2.2.2.2.2.2.2.2.2.1 tkn akn cmp O.2.2.2.2.2.2.1 O.2.2.2.2.2.2.2.1 O.2.2.2.2.2.2.2.2.1 := by
  subst hr hs1 hs2 haw
  have hd := hB.1
  have hcy := hP.2.2.1
  by_cases q : (1 ≤ p0 ∧ p0 ≤ 30) ∧ lf_o lf_iadd d p0 ≤ 999
  · obtain ⟨q1, q2⟩ := q
    rw [lo_add (by omega) (by omega) (by omega) (by omega) (by omega) (by omega)] at q2
    obtain ⟨n2, c2, D2, R2, G2, F2, u2, w2, K2, e1, e2, e3⟩ := hs_keep hP.2.1 hH hB hN (fun k _ => rfl)
    obtain ⟨O, eO, o1, o1b, o2, o3, o4, o5, o6, o7, o8, o9, o10, o11, o12, o13, o14⟩ := cc_run (aw := awM) (s0 := s0) (refu := refu) (n := p0.toNat) hP hL hB hs (by omega) (by omega) 32 0 n2 c2 sd sru sgr sA pr cr we ha D2 R2 G2 F2 tr facts stack cars gaps str known left leaves (Nat.zero_le _) (by omega) (fun _ _ => rfl) hS
    obtain ⟨Q, eQ, m1, m2, m3, m3b, m4, m5, m6⟩ := cm_run (aw := awM) (s0 := s0) (refM := refu) (n := p0.toNat) hP hM hL.2 hB hs (by omega) (by omega) 32 0 u2 w2 tk ask red io lg gt icg sg qp now K2 pile wtM gapM goM hmM isCar isH crM prM ciM isG (Nat.zero_le _) (by omega) (by
      rw [show d + ((0 : Nat) : Int) = d from by omega]
      exact hN)
    rw [show d + ((0 : Nat) : Int) = d from by omega, show ((p0.toNat : Nat) : Int) = p0 from by omega] at eO
    rw [show ((p0.toNat : Nat) : Int) = p0 from by omega] at eQ o2 m4
    have hTb := lvT_b (oL := oL) (cy := cy) (ls := ls) (ru := ru) (gr := gr) (a := chA awM nW s0) (tr := tr) hP hB.1.1 hB.2.2.2 p0.toNat (by omega)
    refine ⟨O, Q, ?_, ?_, o1.trans m1.symm, o9.trans m6.symm, ⟨_, chS_l (aw := awM) (nW := nW) hs p0.toNat, o1b, m3b⟩, o10, ⟨⟨?_, hB.2.1, hB.2.2.1, fun j hj => ?_⟩, ?_, ?_, Or.inr ⟨o6, o7, o8⟩⟩⟩
    · unfold F_X9_chance
      rw [cl_x, if_pos ⟨Or.inl hcy.1, q1, by rw [lo_add (by omega) (by omega) (by omega) (by omega) (by omega) (by omega)]; exact q2⟩, lf_b_e, if_neg (show ¬ (1 : Int) = 0 from by decide), e1, lf_p_e, lf_p_e, lf_p_e, lf_p_e, lf_p_e]
      exact eO
    · unfold F_X10_chance
      rw [ia_m hN.1, if_pos ⟨by omega, q1, by rw [lo_add (by omega) (by omega) (by omega) (by omega) (by omega) (by omega)]; exact q2⟩, lf_b_e, if_neg (show ¬ (1 : Int) = 0 from by decide), e2, lf_p_e, lf_p_e]
      exact eQ
    · rw [o2]
      omega
    · rw [o5 j hj]
      exact hTb j hj
    · rw [o2]
      exact ndH_cg m4 o5
    · rw [o3, o4, o11, o12, o13, o14, m2, m3, m5]
      exact e3
  · obtain ⟨Q, eQ, m1, m2, m3, m3b, m4, m5, m6⟩ := ch_m0 (awM := awM) (many := many) (bar := bar) (kinds := kinds) (walkers := walkers) (cf := cf) (ce := ce) (codes := codes) (tk := tk) (ask := ask) (red := red) (io := io) (lg := lg) (gt := gt) (icg := icg) (sg := sg) (qp := qp) (isCar := isCar) (gapM := gapM) (isG := isG) (isH := isH) (crM := crM) (wtM := wtM) (goM := goM) (hmM := hmM) (prM := prM) (ciM := ciM) (pile := pile) (kept := kept) (und := und) (nwst := nwst) (refM := refu) (sdd := (s0 : Int)) (isc := isc) (p0 := p0) hN.1 (fun r => q r.2)
    refine ⟨_, Q, (ch_x0 (fun r => q r.2)).symm, eQ, m1.symm, m6.symm, ⟨s0, hs, rfl, m3b⟩, hS, ⟨hB, ?_, ?_, Or.inl ⟨rfl, rfl, rfl, rfl, rfl, rfl, rfl⟩⟩⟩
    · rw [m4]
      exact hN
    · rw [m2, m3, m5]
      exact hH
end CH
