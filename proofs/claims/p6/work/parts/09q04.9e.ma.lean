/-! the DAYS ahead: the model's; days -/
section MA
variable {nW nK : Nat} {oC oR oL : Option (List Int)} {s cy ls aw stm d ru gr hnx hct sd sru sgr sA ar pr cr we ha tkn ad aru agr akn rws cmp fnd frl fgr chs chl occ dwn fa pl sM awM isc und nwst rmM moc sdd tk ask red io lg gt icg sg qp ftm ftr ftg mf mp0 p0 p1 p2 p3 p4 : Int} {g clmK pcK kO cA comers code spans nmX tr rD rR rG facts stack str cars gaps known left leaves tab atr atd ats sw ss sec oct refu gM many bar kinds walkers cf ce codes now kept mrw mo refM asd isCar gapM isG isH crM wtM goM hmM prM ciM pile whn : Nat → Int} {rF : Nat → Nat → Int}
theorem la_run {n : Nat} (hP : plH nW nK cy ls oC oR kO cA clmK pcK comers code spans ar) (hM : pmH nW nK cy ls oC oR oL kO cA clmK pcK many bar kinds walkers cf ce codes) (hG : cdG false 123 oL) (hB : stB nK d ru gr tr) (hn : n ≤ 29) (hdn : d + (n : Int) ≤ 999) (hp : 0 ≤ p1 ∧ p1 ≤ 5) : ∀ (f k : Nat) (c55 c58 c59 c70 c71 c72 c73 c74 c117 : Int) (a1 a5 a9 a11 a12 a13 a14 a15 a16 a17 a18 a20 : Nat → Int), k ≤ n → n - k < f → ndH nK (d + (k : Int)) ru gr (lvT oC oR oL nW cy ls kO cA clmK pcK d ru gr (fun _ => 0) tr k) a1 → ∃ O, O = F_X10_later_31 many bar kinds walkers cf ce codes (n : Int) p1 f asd (k : Int) c55 c58 c59 c70 c71 c72 c73 c74 c117 a1 a5 a9 a11 a12 a13 a14 a15 a16 a17 a18 a20 ∧ O.1 = lvD oC oR oL nW cy ls kO cA clmK pcK d ru gr (fun _ => 0) tr n p1 ∧ ∀ j, j < 9 → O.2.2.2.2.2.2.2.2.2.2.1 j = asd j := by
  intro f
  induction f with
  | zero => intro k c55 c58 c59 c70 c71 c72 c73 c74 c117 a1 a5 a9 a11 a12 a13 a14 a15 a16 a17 a18 a20 h1 h2; omega
  | succ f ih =>
    intro k c55 c58 c59 c70 c71 c72 c73 c74 c117 a1 a5 a9 a11 a12 a13 a14 a15 a16 a17 a18 a20 h1 h2 h3
    have e0 : F_X10_later_31 many bar kinds walkers cf ce codes (n : Int) p1 (f + 1) asd (k : Int) c55 c58 c59 c70 c71 c72 c73 c74 c117 a1 a5 a9 a11 a12 a13 a14 a15 a16 a17 a18 a20 = F_X10_later_31b many bar kinds walkers cf ce codes (n : Int) p1 (F_X10_later_31 many bar kinds walkers cf ce codes (n : Int) p1 f) asd (k : Int) c55 c58 c59 c70 c71 c72 c73 c74 c117 a1 a5 a9 a11 a12 a13 a14 a15 a16 a17 a18 a20 := rfl
    rw [e0]
    unfold F_X10_later_31b
    have hd := hB.1
    have hTb := lvT_b (oL := oL) (cy := cy) (ls := ls) (ru := ru) (gr := gr) (a := fun _ => 0) (tr := tr) hP hB.1.1 hB.2.2.2 k (by omega)
    have hBk : stB nK (d + (k : Int)) ru gr (lvT oC oR oL nW cy ls kO cA clmK pcK d ru gr (fun _ => 0) tr k) := ⟨⟨by omega, by omega⟩, hB.2.1, hB.2.2.1, hTb⟩
    by_cases q : k = n
    · rw [if_pos (by omega)]
      subst q
      obtain ⟨v16, v17, v18, v19, v20, v21, v22, v23, v24, f33, f27, f7, f28, f29, f8, f25, f26, f30, f31, f32, e, h4, h5, h6⟩ := dn_x (tk := c55) (ask := c58) (red := c59) (sg := c74) (qp := c117) (isCar := a14) (gaps := a11) (isG := a20) (isH := a15) (cr := a16) (wt := a9) (go := a12) (hm := a13) (pr2 := a17) (ci := a18) (pile := a5) hP hM hBk.1 h3 hB.2.2.1.1 hB.2.2.1.2 hB.2.1
      rw [wkM_0] at h4
      rw [e, lf_p_e, lf_p_e, lf_p_e, lf_p_e, lf_p_e, lf_p_e, lf_p_e, lf_p_e, lf_p_e, lf_p_e, lf_p_e, lf_p_e, lf_p_e, lf_p_e, lf_p_e, lf_p_e, lf_p_e, lf_p_e, lf_p_e, lf_b_e, lf_b_e]
      exact ⟨_, rfl, td_m h4 (we_z hP) hM.1 hP.1 hp, fun j hj => tb_run 11 0 a1 (by decide) (by decide) (fun i hi => absurd hi (Nat.not_lt_zero i)) j hj⟩
    · obtain ⟨v43, v17, v18, v19, v20, v21, v22, v23, v44, f46, now2, f27, f7, f28, f29, f8, f25, f26, f30, f31, f32, e, hN⟩ := lv_m (tk := c55) (ask := c58) (red := c59) (sg := c74) (qp := c117) (isCar := a14) (gaps := a11) (isG := a20) (isH := a15) (cr := a16) (wt := a9) (go := a12) (hm := a13) (pr2 := a17) (ci := a18) (pile := a5) (A := 0) hP hM hG hBk h3 rg_0
      have hN' : ndH nK (d + ((k + 1 : Nat) : Int)) ru gr (lvT oC oR oL nW cy ls kO cA clmK pcK d ru gr (fun _ => 0) tr (k + 1)) now2 := by
        rw [show d + ((k + 1 : Nat) : Int) = d + (k : Int) + 1 from by omega]
        exact hN
      rw [if_neg (by omega), e, lf_p_e, lf_p_e, lf_p_e, lf_p_e, lf_p_e, lf_p_e, lf_p_e, lf_p_e, lf_p_e, lf_p_e, lf_p_e, lf_p_e, lf_p_e, lf_p_e, lf_p_e, lf_p_e, lf_p_e, lf_p_e, lf_p_e, lf_p_e, lf_p_e]
      exact ih (k + 1) _ _ _ _ _ _ _ _ _ now2 _ _ _ _ _ _ _ _ _ _ _ (by omega) (by omega) hN'
theorem lat_m (hP : plH nW nK cy ls oC oR kO cA clmK pcK comers code spans ar) (hM : pmH nW nK cy ls oC oR oL kO cA clmK pcK many bar kinds walkers cf ce codes) (hG : cdG false 123 oL) (hB : stB nK d ru gr tr) (hn : ndH nK d ru gr tr now) (hi : isc = 1) : ∃ O, O = F_X10_later isc tk ask red io lg gt icg sg qp many bar kinds walkers cf ce codes now asd isCar gapM isG isH crM wtM goM hmM prM ciM pile p0 p1 ∧ O.1 = latA oC oR oL nW cy ls kO cA clmK pcK d ru gr tr p0 p1 ∧ ndH nK d ru gr tr O.2.2.2.2.2.2.2.2.2.2.1 := by
  have hd := hB.1
  have hn0 := hn.1
  unfold F_X10_later F_X10_isAhead_a1_0_a2_29 F_X10_isAhead_a1_0_a2_29_37 F_X10_later_23 latA lf_isin
  rw [if_neg (show ¬ isc = 0 from by omega)]
  by_cases c0 : 0 ≤ p0 ∧ p0 ≤ 29
  · rw [if_pos c0, if_neg (show ¬ (1 : Int) = 0 from by decide), show now (Int.toNat (0 : Int)) = d from hn0, lo_add (by omega) (by omega) (by omega) (by omega) (by omega) (by omega)]
    by_cases c1 : 999 < d + p0
    · rw [if_pos c1, lf_b_e, if_pos rfl, if_neg (by omega)]
      exact ⟨_, rfl, rfl, hn⟩
    · rw [if_neg c1, lf_b_e, if_neg (show ¬ (1 : Int) = 0 from by decide)]
      by_cases c2 : 0 ≤ p1 ∧ p1 ≤ 5
      · rw [if_pos c2, if_neg (show ¬ (1 : Int) = 0 from by decide), lf_b_e, if_pos (by omega)]
        obtain ⟨O, e, e1, e2⟩ := la_run (p1 := p1) (asd := F_X10_putsAside now asd) (n := p0.toNat) hP hM hG hB (by omega) (by omega) c2 31 0 tk ask red io lg gt icg sg qp now pile wtM gapM goM hmM isCar isH crM prM ciM isG (Nat.zero_le _) (by omega) (by
          rw [show d + ((0 : Nat) : Int) = d from by omega]
          exact hn)
        rw [show ((p0.toNat : Nat) : Int) = p0 from by omega] at e
        refine ⟨O, e, e1, nd_9 hP.2.1 hn (fun j hj => ?_)⟩
        rw [e2 j hj]
        exact pa_run 11 0 asd (by decide) (by decide) (fun i hi => absurd hi (Nat.not_lt_zero i)) j hj
      · rw [if_neg c2, if_pos rfl, if_neg (by omega)]
        exact ⟨_, rfl, rfl, hn⟩
  · rw [if_neg c0, if_pos rfl, lf_b_e, if_pos rfl, if_neg (by omega)]
    exact ⟨_, rfl, rfl, hn⟩
theorem dom_run : ∀ (f l : Nat) (c55 c58 c59 c70 c71 c72 c73 c74 c117 : Int) (a2 a6 a10 a12 a13 a14 a15 a16 a17 a18 a19 a20 : Nat → Int), l ≤ 30 → 30 - l < f → ∃ O, O = F_X10_doubts_16 many bar kinds walkers cf ce codes p0 f asd (l : Int) c55 c58 c59 c70 c71 c72 c73 c74 c117 a2 a6 a10 a12 a13 a14 a15 a16 a17 a18 a19 a20 ∧ ∀ j, j < 9 → O.2.2.2.2.2.2.2.2.2.2.1 j = asd j := by
  intro f
  induction f with
  | zero => intro l c55 c58 c59 c70 c71 c72 c73 c74 c117 a2 a6 a10 a12 a13 a14 a15 a16 a17 a18 a19 a20 h1 h2; omega
  | succ f ih =>
    intro l c55 c58 c59 c70 c71 c72 c73 c74 c117 a2 a6 a10 a12 a13 a14 a15 a16 a17 a18 a19 a20 h1 h2
    have e0 : F_X10_doubts_16 many bar kinds walkers cf ce codes p0 (f + 1) asd (l : Int) c55 c58 c59 c70 c71 c72 c73 c74 c117 a2 a6 a10 a12 a13 a14 a15 a16 a17 a18 a19 a20 = F_X10_doubts_16b many bar kinds walkers cf ce codes p0 (F_X10_doubts_16 many bar kinds walkers cf ce codes p0 f) asd (l : Int) c55 c58 c59 c70 c71 c72 c73 c74 c117 a2 a6 a10 a12 a13 a14 a15 a16 a17 a18 a19 a20 := rfl
    rw [e0]
    unfold F_X10_doubts_16b F_X10_doubts_54 F_X10_doubts_67
    have back : ∀ j, j < 9 → F_X10_takesBack a2 asd j = asd j := fun j hj => tb_run 11 0 a2 (by decide) (by decide) (fun i hi => absurd hi (Nat.not_lt_zero i)) j hj
    have ex : ∃ O, O = (lf_b (F_X10_trustsOf a2 p0) (fun r9 => if r9 = (0 : Int) then (lf_b (F_X10_takesBack a2 asd) (fun f3 => if (1 : Int) = (0 : Int) then ((-1 : Int), c55, c58, c59, c70, c71, c72, c73, c74, c117, f3, asd, a6, a10, a12, a13, a14, a15, a16, a17, a18, a19, a20) else ((l : Int), c55, c58, c59, c70, c71, c72, c73, c74, c117, f3, asd, a6, a10, a12, a13, a14, a15, a16, a17, a18, a19, a20))) else (lf_b (F_X10_takesBack a2 asd) (fun f3 => if (0 : Int) = (0 : Int) then ((-1 : Int), c55, c58, c59, c70, c71, c72, c73, c74, c117, f3, asd, a6, a10, a12, a13, a14, a15, a16, a17, a18, a19, a20) else ((l : Int), c55, c58, c59, c70, c71, c72, c73, c74, c117, f3, asd, a6, a10, a12, a13, a14, a15, a16, a17, a18, a19, a20))))) ∧ ∀ j, j < 9 → O.2.2.2.2.2.2.2.2.2.2.1 j = asd j := by
      rw [lf_b_e]
      by_cases z : F_X10_trustsOf a2 p0 = 0
      · rw [if_pos z, lf_b_e, if_neg (show ¬ (1 : Int) = 0 from by decide)]
        exact ⟨_, rfl, back⟩
      · rw [if_neg z, lf_b_e, if_pos rfl]
        exact ⟨_, rfl, back⟩
    by_cases q1 : F_X10_trustsOf a2 p0 ≤ 0
    · rw [lf_b_e, if_pos q1]
      exact ex
    · rw [lf_b_e, if_neg q1]
      by_cases q2 : l = 30
      · rw [if_pos (show (30 : Int) ≤ (l : Int) from by omega)]
        exact ex
      · rw [if_neg (show ¬ (30 : Int) ≤ (l : Int) from by omega)]
        by_cases q3 : (999 : Int) ≤ a2 (Int.toNat (0 : Int))
        · rw [if_pos q3]
          exact ex
        · rw [if_neg q3]
          generalize F_X10_dayGoes c55 c58 c59 c74 c117 many bar kinds walkers cf ce codes a2 a15 a12 _ _ _ _ _ _ _ _ _ _ = R
          obtain ⟨r1, r2, r3, r4, r5, r6, r7, r8, r9, r10, r11, r12, r13, r14, r15, r16, r17, r18, r19, r20, r21, r22⟩ := R
          rw [lf_p_e, lf_p_e, lf_p_e, lf_p_e, lf_p_e, lf_p_e, lf_p_e, lf_p_e, lf_p_e, lf_p_e, lf_p_e, lf_p_e, lf_p_e, lf_p_e, lf_p_e, lf_p_e, lf_p_e, lf_p_e, lf_p_e, lf_p_e, lf_p_e]
          exact ih (l + 1) _ _ _ _ _ _ _ _ _ _ _ _ _ _ _ _ _ _ _ _ _ (by omega) (by omega)
theorem dou_m (hK : nK ≤ 6) (hn : ndH nK d ru gr tr now) : ∃ O, O = F_X10_doubts tk ask red io lg gt icg sg qp many bar kinds walkers cf ce codes now asd isCar gapM isG isH crM wtM goM hmM prM ciM pile p0 ∧ ndH nK d ru gr tr O.2.2.2.2.2.2.2.2.2.2.1 := by
  unfold F_X10_doubts
  by_cases q : F_X10_isKind many p0 = 0
  · rw [lf_b_e, if_pos q]
    exact ⟨_, rfl, hn⟩
  · rw [lf_b_e, if_neg q, lf_b_e]
    obtain ⟨O, e, e1⟩ := dom_run (many := many) (bar := bar) (kinds := kinds) (walkers := walkers) (cf := cf) (ce := ce) (codes := codes) (p0 := p0) (asd := F_X10_putsAside now asd) 32 0 tk ask red io lg gt icg sg qp now pile wtM gapM goM hmM isCar isH crM prM ciM isG (Nat.zero_le _) (by decide)
    refine ⟨O, e, nd_9 hK hn (fun j hj => ?_)⟩
    rw [e1 j hj]
    exact pa_run 11 0 asd (by decide) (by decide) (fun i hi => absurd hi (Nat.not_lt_zero i)) j hj
/-- days, on both sides -/
theorem cl_x : F_X9_canLive cy d p0 = if (10 ≤ cy ∨ 0 < cy) ∧ (1 ≤ p0 ∧ p0 ≤ 30) ∧ lf_o lf_iadd d p0 ≤ 999 then 1 else 0 := by
  unfold F_X9_canLive F_X9_canLive_37 F_X9_stands
  by_cases c0 : cy ≤ 0
  · rw [if_pos c0, lf_b_e, if_pos rfl, if_neg (by omega)]
  rw [if_neg c0, lf_b_e, if_neg (show ¬ (1 : Int) = 0 from by decide)]
  by_cases c1 : p0 < 1
  · rw [if_pos c1, if_neg (by omega)]
  rw [if_neg c1]
  by_cases c2 : 30 < p0
  · rw [if_pos c2, if_neg (by omega)]
  rw [if_neg c2]
  by_cases c3 : 999 < lf_o lf_iadd d p0
  · rw [if_pos c3, if_neg (by omega)]
  · rw [if_neg c3, if_pos (by omega)]
theorem ia_m (h : now 0 = d) : F_X10_isAhead_a1_1_a2_30 isc now p0 = if ¬ isc = 0 ∧ (1 ≤ p0 ∧ p0 ≤ 30) ∧ lf_o lf_iadd d p0 ≤ 999 then 1 else 0 := by
  unfold F_X10_isAhead_a1_1_a2_30 F_X10_isAhead_a1_1_a2_30_37 lf_isin
  by_cases c0 : isc = 0
  · rw [if_pos c0, if_neg (fun r => r.1 c0)]
  rw [if_neg c0, show now (Int.toNat (0 : Int)) = d from h]
  by_cases c1 : 1 ≤ p0 ∧ p0 ≤ 30
  · rw [if_pos c1, if_neg (show ¬ (1 : Int) = 0 from by decide)]
    by_cases c3 : 999 < lf_o lf_iadd d p0
    · rw [if_pos c3, if_neg (by omega)]
    · rw [if_neg c3, if_pos (by omega)]
  · rw [if_neg c1, if_pos rfl, if_neg (fun r => c1 r.2.1)]
def rfN (f : Nat → Int) (k : Int) : Nat → Int := lf_up f k (lf_o lf_iadd (f (Int.toNat k)) (1 : Int))
theorem dy_x0 (h : ¬ ((10 ≤ cy ∨ 0 < cy) ∧ (1 ≤ p0 ∧ p0 ≤ 30) ∧ lf_o lf_iadd d p0 ≤ 999)) : F_X9_days cy ls (nK : Int) clmK pcK (nW : Int) kO cA comers code spans d ru gr tr rD rR rG rF hnx hct facts stack sd str sru sgr sA ar cars gaps known left leaves pr cr we ha tkn akn cmp refu p0 = ((-1 : Int), d, hnx, hct, tr, tkn, akn, cmp, rfN refu 3, sd, sru, sgr, sA, pr, cr, we, ha, facts, stack, cars, gaps, str, known, left, leaves, rD, rR, rG, rF) := by
  unfold F_X9_days
  rw [cl_x, if_neg h, lf_b_e, if_pos rfl]
  rfl
theorem dy_m0 (h0 : now 0 = d) (h : ¬ (¬ isc = 0 ∧ (1 ≤ p0 ∧ p0 ≤ 30) ∧ lf_o lf_iadd d p0 ≤ 999)) : ∃ O, O = F_X10_days isc tk ask red io lg gt icg sg und nwst qp refM many bar kinds walkers cf ce codes now isCar gapM isG isH crM wtM goM hmM prM ciM kept pile p0 ∧ O.1 = -1 ∧ O.2.2.2.2.2.2.2.2.2.1 = und ∧ O.2.2.2.2.2.2.2.2.2.2.1 = nwst ∧ O.2.2.2.2.2.2.2.2.2.2.2.2.1 = now ∧ O.2.2.2.2.2.2.2.2.2.2.2.2.2.1 = kept ∧ O.2.2.2.2.2.2.2.2.2.2.2.2.2.2.1 = rfN refM 3 := by
  unfold F_X10_days
  rw [ia_m h0, if_neg h, lf_b_e, if_pos rfl]
  exact ⟨_, rfl, rfl, rfl, rfl, rfl, rfl, rfl⟩
theorem dy_t (hP : plH nW nK cy ls oC oR kO cA clmK pcK comers code spans ar) (hM : pmH nW nK cy ls oC oR oL kO cA clmK pcK many bar kinds walkers cf ce codes) (hL : cdX code spans 4 oL ∧ cdG false 123 oL) (hS : sfH oC oR nW nK cy ls kO cA clmK pcK sd str sru sgr sA cars gaps known left leaves pr cr we ha) (hB : stB nK d ru gr tr) (hN : ndH nK d ru gr tr now) (hH : hsH nK hnx hct rD rR rG rF nwst und kept) (hi : isc = 1) (hr : refu = refM) : ∃ O Q, O = F_X9_days cy ls (nK : Int) clmK pcK (nW : Int) kO cA comers code spans d ru gr tr rD rR rG rF hnx hct facts stack sd str sru sgr sA ar cars gaps known left leaves pr cr we ha tkn akn cmp refu p0 ∧ Q = F_X10_days isc tk ask red io lg gt icg sg und nwst qp refM many bar kinds walkers cf ce codes now isCar gapM isG isH crM wtM goM hmM prM ciM kept pile p0 ∧ O.1 = Q.1 ∧ O.2.2.2.2.2.2.2.2.1 = Q.2.2.2.2.2.2.2.2.2.2.2.2.2.2.1 ∧ sfH oC oR nW nK cy ls kO cA clmK pcK O.2.2.2.2.2.2.2.2.2.1 O.2.2.2.2.2.2.2.2.2.2.2.2.2.2.2.2.2.2.2.2.2.1 O.2.2.2.2.2.2.2.2.2.2.1 O.2.2.2.2.2.2.2.2.2.2.2.1 O.2.2.2.2.2.2.2.2.2.2.2.2.1 O.2.2.2.2.2.2.2.2.2.2.2.2.2.2.2.2.2.2.2.1 O.2.2.2.2.2.2.2.2.2.2.2.2.2.2.2.2.2.2.2.2.1 O.2.2.2.2.2.2.2.2.2.2.2.2.2.2.2.2.2.2.2.2.2.2.1 O.2.2.2.2.2.2.2.2.2.2.2.2.2.2.2.2.2.2.2.2.2.2.2.1 O.2.2.2.2.2.2.2.2.2.2.2.2.2.2.2.2.2.2.2.2.2.2.2.2.1 O.2.2.2.2.2.2.2.2.2.2.2.2.2.1 O.2.2.2.2.2.2.2.2.2.2.2.2.2.2.1 O.2.2.2.2.2.2.2.2.2.2.2.2.2.2.2.1 O.2.2.2.2.2.2.2.2.2.2.2.2.2.2.2.2.1 ∧ acO nK d ru gr O.2.1 ru gr tr O.2.2.2.2.1 Q.2.2.2.2.2.2.2.2.2.2.2.2.1 O.2.2.1 O.2.2.2.1 O.2.2.2.2.2.2.2.2.2.2.2.2.2.2.2.2.2.2.2.2.2.2.2.2.2.1 O.2.2.2.2.2.2.2.2.2.2.2.2.2.2.2.2.2.2.2.2.2.2.2.2.2.2.1 O.2.2.2.2.2.2.2.2.2.2.2.2.2.2.2.2.2.2.2.2.2.2.2.2.2.2.2.1 O.2.2.2.2.2.2.2.2.2.2.2.2.2.2.2.2.2.2.2.2.2.2.2.2.2.2.2.2 Q.2.2.2.2.2.2.2.2.2.2.1 Q.2.2.2.2.2.2.2.2.2.1 Q.2.2.2.2.2.2.2.2.2.2.2.2.2.1 tkn akn cmp O.2.2.2.2.2.1 O.2.2.2.2.2.2.1 O.2.2.2.2.2.2.2.1 := by
  subst hr
  have hd := hB.1
  have hcy := hP.2.2.1
  by_cases q : (1 ≤ p0 ∧ p0 ≤ 30) ∧ lf_o lf_iadd d p0 ≤ 999
  · obtain ⟨q1, q2⟩ := q
    rw [lo_add (by omega) (by omega) (by omega) (by omega) (by omega) (by omega)] at q2
    obtain ⟨n2, c2, D2, R2, G2, F2, u2, w2, K2, e1, e2, e3⟩ := hs_keep hP.2.1 hH hB hN (fun k _ => rfl)
    obtain ⟨O, eO, o1, o2, o3, o4, o5, o6, o7, o8, o9, o10, o11, o12, o13, o14⟩ := dc_run (refu := refu) (n := p0.toNat) hP hL hB (by omega) (by omega) 32 0 n2 c2 sd sru sgr sA pr cr we ha D2 R2 G2 F2 tr facts stack cars gaps str known left leaves (Nat.zero_le _) (by omega) (fun _ _ => rfl) hS
    obtain ⟨Q, eQ, m1, m2, m3, m4, m5, m6⟩ := dm_run (refu := refu) (n := p0.toNat) hP hM hL.2 hB (by omega) (by omega) 32 0 u2 w2 tk ask red io lg gt icg sg qp now K2 pile wtM gapM goM hmM isCar isH crM prM ciM isG (Nat.zero_le _) (by omega) (by
      rw [show d + ((0 : Nat) : Int) = d from by omega]
      exact hN)
    rw [show d + ((0 : Nat) : Int) = d from by omega, show ((p0.toNat : Nat) : Int) = p0 from by omega] at eO
    rw [show ((p0.toNat : Nat) : Int) = p0 from by omega] at eQ o2 m4
    have hTb := lvT_b (oL := oL) (cy := cy) (ls := ls) (ru := ru) (gr := gr) (a := fun _ => 0) (tr := tr) hP hB.1.1 hB.2.2.2 p0.toNat (by omega)
    refine ⟨O, Q, ?_, ?_, o1.trans m1.symm, o9.trans m6.symm, o10, ⟨⟨?_, hB.2.1, hB.2.2.1, fun j hj => ?_⟩, ?_, ?_, Or.inr ⟨o6, o7, o8⟩⟩⟩
    · unfold F_X9_days
      rw [cl_x, if_pos ⟨Or.inl hcy.1, q1, by rw [lo_add (by omega) (by omega) (by omega) (by omega) (by omega) (by omega)]; exact q2⟩, lf_b_e, if_neg (show ¬ (1 : Int) = 0 from by decide), e1, lf_p_e, lf_p_e, lf_p_e, lf_p_e, lf_p_e]
      exact eO
    · unfold F_X10_days
      rw [ia_m hN.1, if_pos ⟨by omega, q1, by rw [lo_add (by omega) (by omega) (by omega) (by omega) (by omega) (by omega)]; exact q2⟩, lf_b_e, if_neg (show ¬ (1 : Int) = 0 from by decide), e2, lf_p_e, lf_p_e]
      exact eQ
    · rw [o2]
      omega
    · rw [o5 j hj]
      exact hTb j hj
    · rw [o2]
      exact ndH_cg m4 o5
    · rw [o3, o4, o11, o12, o13, o14, m2, m3, m5]
      exact e3
  · obtain ⟨Q, eQ, m1, m2, m3, m4, m5, m6⟩ := dy_m0 (many := many) (bar := bar) (kinds := kinds) (walkers := walkers) (cf := cf) (ce := ce) (codes := codes) (tk := tk) (ask := ask) (red := red) (io := io) (lg := lg) (gt := gt) (icg := icg) (sg := sg) (qp := qp) (isCar := isCar) (gapM := gapM) (isG := isG) (isH := isH) (crM := crM) (wtM := wtM) (goM := goM) (hmM := hmM) (prM := prM) (ciM := ciM) (pile := pile) (kept := kept) (und := und) (nwst := nwst) (refM := refu) (isc := isc) (p0 := p0) hN.1 (fun r => q r.2)
    refine ⟨_, Q, (dy_x0 (fun r => q r.2)).symm, eQ, m1.symm, m6.symm, hS, ⟨hB, ?_, ?_, Or.inl ⟨rfl, rfl, rfl, rfl, rfl, rfl, rfl⟩⟩⟩
    · rw [m4]
      exact hN
    · rw [m2, m3, m5]
      exact hH
end MA
