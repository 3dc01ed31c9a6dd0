/-! acts, on both sides -/
def dnR (f : Nat → Int) (k : Int) : Nat → Int := lf_up f k (lf_o lf_iadd (f (Int.toNat k)) (1 : Int))
theorem ndH_cg {nK : Nat} {d ru gr : Int} {tr tr2 now : Nat → Int} (h : ndH nK d ru gr tr now) (e : ∀ k, k < nK → tr2 k = tr k) : ndH nK d ru gr tr2 now := ⟨h.1, h.2.1, h.2.2.1, fun k hk => by
  rw [e k hk]
  exact h.2.2.2 k hk⟩
section AC
variable {nW nK : Nat} {oC oR oL : Option (List Int)} {s cy ls aw stm d ru gr hnx hct sd sru sgr sA ar pr cr we ha tkn ad aru agr akn rws cmp fnd frl fgr chs chl occ dwn fa pl sM awM isc und nwst rmM moc sdd tk ask red io lg gt icg sg qp ftm ftr ftg mf mp0 p0 p1 p2 p3 p4 : Int} {g clmK pcK kO cA comers code spans nmX tr rD rR rG facts stack str cars gaps known left leaves tab atr atd ats sw ss sec oct refu gM many bar kinds walkers cf ce codes now kept mrw mo refM asd isCar gapM isG isH crM wtM goM hmM prM ciM pile whn : Nat → Int} {rF : Nat → Nat → Int}
variable {n2 c2 u2 w2 : Int} {D2 R2 G2 K2 : Nat → Int} {F2 : Nat → Nat → Int}
theorem ru_x1 (hcy : 0 < cy) (h : 0 ≤ p0 ∧ p0 ≤ 2) (h2 : ¬ p0 = ru) (e : F_X9_act d ru gr tr rD rR rG rF hnx hct = (n2, c2, D2, R2, G2, F2)) : F_X9_rule cy d ru gr tr rD rR rG rF hnx hct tkn akn cmp refu p0 = ((1 : Int), p0, n2, c2, (0 : Int), (0 : Int), (0 : Int), refu, D2, R2, G2, F2) := by
  unfold F_X9_rule F_X9_stands
  rw [if_neg (show ¬ cy ≤ 0 from by omega), lf_b_e, if_neg (show ¬ (1 : Int) = 0 from by decide), if_neg (show ¬ p0 < 0 from by omega), if_neg (show ¬ 3 ≤ p0 from by omega), if_neg h2, e, lf_p_e, lf_p_e, lf_p_e, lf_p_e, lf_p_e]
theorem ru_x0 (h : cy ≤ 0 ∨ p0 < 0 ∨ 2 < p0 ∨ p0 = ru) : F_X9_rule cy d ru gr tr rD rR rG rF hnx hct tkn akn cmp refu p0 = ((0 : Int), ru, hnx, hct, tkn, akn, cmp, dnR refu 2, rD, rR, rG, rF) := by
  unfold F_X9_rule F_X9_rule_27 F_X9_stands
  by_cases q0 : cy ≤ 0
  · rw [if_pos q0, lf_b_e, if_pos rfl]
    rfl
  rw [if_neg q0, lf_b_e, if_neg (show ¬ (1 : Int) = 0 from by decide)]
  by_cases q1 : p0 < 0
  · rw [if_pos q1]
    rfl
  rw [if_neg q1]
  by_cases q2 : 3 ≤ p0
  · rw [if_pos q2]
    rfl
  rw [if_neg q2, if_pos (show p0 = ru from by omega)]
  rfl
theorem ru_m1 (hi : ¬ isc = 0) (h : 0 ≤ p0 ∧ p0 ≤ 2) (h2 : ¬ now 1 = p0) (e : F_X10_keeps und nwst now kept = (u2, w2, K2)) : F_X10_rule isc und nwst refM now kept p0 = ((1 : Int), u2, w2, lf_up now (1 : Int) p0, K2, refM) := by
  unfold F_X10_rule lf_isin
  rw [if_neg hi, if_pos h, if_neg (show ¬ (1 : Int) = 0 from by decide), if_neg (show ¬ now (Int.toNat (1 : Int)) = p0 from h2), e, lf_p_e, lf_p_e]
theorem ru_m0 (h : isc = 0 ∨ p0 < 0 ∨ 2 < p0 ∨ now 1 = p0) : F_X10_rule isc und nwst refM now kept p0 = ((0 : Int), und, nwst, now, kept, dnR refM 2) := by
  unfold F_X10_rule F_X10_rule_29 lf_isin
  by_cases q0 : isc = 0
  · rw [if_pos q0]
    rfl
  rw [if_neg q0]
  by_cases q1 : 0 ≤ p0 ∧ p0 ≤ 2
  · rw [if_pos q1, if_neg (show ¬ (1 : Int) = 0 from by decide), if_pos (show now (Int.toNat (1 : Int)) = p0 from by
      have : now (Int.toNat (1 : Int)) = now 1 := rfl
      omega)]
    rfl
  · rw [if_neg q1, if_pos rfl]
    rfl
/-- what an act leaves, or what stands where it is refused -/
def acO (nK : Nat) (d ru gr d2 ru2 gr2 : Int) (tr tr2 now2 : Nat → Int) (n2 c2 : Int) (D2 R2 G2 : Nat → Int) (F2 : Nat → Nat → Int) (w2 u2 : Int) (K2 : Nat → Int) (tkn akn cmp t2 a2 m2 : Int) : Prop := stB nK d2 ru2 gr2 tr2 ∧ ndH nK d2 ru2 gr2 tr2 now2 ∧ hsH nK n2 c2 D2 R2 G2 F2 w2 u2 K2 ∧ ((d2 = d ∧ ru2 = ru ∧ gr2 = gr ∧ tr2 = tr ∧ t2 = tkn ∧ a2 = akn ∧ m2 = cmp) ∨ (t2 = 0 ∧ a2 = 0 ∧ m2 = 0))
theorem ru_t (hK : nK ≤ 6) (hcy : 10 ≤ cy) (hi : isc = 1) (hB : stB nK d ru gr tr) (hN : ndH nK d ru gr tr now) (hH : hsH nK hnx hct rD rR rG rF nwst und kept) (hr : refu = refM) : ∃ r ru2 n2 c2 t2 a2 m2 f2 D2 R2 G2 F2 u2 w2 N2 K2, F_X9_rule cy d ru gr tr rD rR rG rF hnx hct tkn akn cmp refu p0 = (r, ru2, n2, c2, t2, a2, m2, f2, D2, R2, G2, F2) ∧ F_X10_rule isc und nwst refM now kept p0 = (r, u2, w2, N2, K2, f2) ∧ acO nK d ru gr d ru2 gr tr tr N2 n2 c2 D2 R2 G2 F2 w2 u2 K2 tkn akn cmp t2 a2 m2 := by
  subst hr
  by_cases q : (0 ≤ p0 ∧ p0 ≤ 2) ∧ ¬ p0 = ru
  · obtain ⟨n2, c2, D2, R2, G2, F2, u2, w2, K2, e1, e2, e3⟩ := hs_keep hK hH hB hN (fun k _ => rfl)
    refine ⟨_, _, _, _, _, _, _, _, _, _, _, _, _, _, _, _, ru_x1 (by omega) q.1 q.2 e1, ru_m1 (by omega) q.1 (fun r => q.2 (r.symm.trans hN.2.1)) e2, ⟨hB.1, q.1, hB.2.2.1, hB.2.2.2⟩, ⟨?_, ?_, ?_, fun k hk => ?_⟩, e3, Or.inr ⟨rfl, rfl, rfl⟩⟩
    · rw [lf_up_o (by decide)]
      exact hN.1
    · rw [lf_up_y (by decide)]
    · rw [lf_up_o (by decide)]
      exact hN.2.2.1
    · rw [lf_up_o (by omega)]
      exact hN.2.2.2 k hk
  · refine ⟨_, _, _, _, _, _, _, _, _, _, _, _, _, _, _, _, ru_x0 (by omega), ru_m0 (by have := hN.2.1; omega), hB, hN, hH, Or.inl ⟨rfl, rfl, rfl, rfl, rfl, rfl, rfl⟩⟩
theorem gn_x1 (h : 1 ≤ p0 ∧ p0 ≤ 60 ∧ p0 < cy) (h2 : ¬ p0 = gr) (e : F_X9_act d ru gr tr rD rR rG rF hnx hct = (n2, c2, D2, R2, G2, F2)) : F_X9_green cy d ru gr tr rD rR rG rF hnx hct tkn akn cmp refu p0 = ((1 : Int), p0, n2, c2, (0 : Int), (0 : Int), (0 : Int), refu, D2, R2, G2, F2) := by
  unfold F_X9_green
  rw [ag_1, decide_eq_true h, lf_b_e, if_neg (show ¬ b2 true = 0 from by decide), if_neg h2, e, lf_p_e, lf_p_e, lf_p_e, lf_p_e, lf_p_e]
theorem gn_x0 (h : ¬ (1 ≤ p0 ∧ p0 ≤ 60 ∧ p0 < cy) ∨ p0 = gr) : F_X9_green cy d ru gr tr rD rR rG rF hnx hct tkn akn cmp refu p0 = ((0 : Int), gr, hnx, hct, tkn, akn, cmp, dnR refu 2, rD, rR, rG, rF) := by
  unfold F_X9_green F_X9_green_22
  rw [ag_1, lf_b_e]
  by_cases q : 1 ≤ p0 ∧ p0 ≤ 60 ∧ p0 < cy
  · rw [decide_eq_true q, if_neg (show ¬ b2 true = 0 from by decide), if_pos (show p0 = gr from h.elim (fun r => absurd q r) (fun r => r))]
    rfl
  · rw [decide_eq_false q, if_pos (show b2 false = 0 from rfl)]
    rfl
theorem gn_m1 (hi : ¬ isc = 0) (h : 1 ≤ p0 ∧ p0 ≤ 60 ∧ p0 < bar 4) (h2 : ¬ now 2 = p0) (e : F_X10_keeps und nwst now kept = (u2, w2, K2)) : F_X10_green isc und nwst refM bar now kept p0 = ((1 : Int), u2, w2, lf_up now (2 : Int) p0, K2, refM) := by
  unfold F_X10_green
  rw [if_neg hi, gl_1, decide_eq_true h, lf_b_e, if_neg (show ¬ b2 true = 0 from by decide), if_neg (show ¬ now (Int.toNat (2 : Int)) = p0 from h2), e, lf_p_e, lf_p_e]
theorem gn_m0 (h : isc = 0 ∨ ¬ (1 ≤ p0 ∧ p0 ≤ 60 ∧ p0 < bar 4) ∨ now 2 = p0) : F_X10_green isc und nwst refM bar now kept p0 = ((0 : Int), und, nwst, now, kept, dnR refM 2) := by
  unfold F_X10_green F_X10_green_27
  by_cases q0 : isc = 0
  · rw [if_pos q0]
    rfl
  rw [if_neg q0, gl_1, lf_b_e]
  by_cases q : 1 ≤ p0 ∧ p0 ≤ 60 ∧ p0 < bar 4
  · rw [decide_eq_true q, if_neg (show ¬ b2 true = 0 from by decide), if_pos (show now (Int.toNat (2 : Int)) = p0 from h.elim (fun r => absurd r q0) (fun r => r.elim (fun r => absurd q r) (fun r => r)))]
    rfl
  · rw [decide_eq_false q, if_pos (show b2 false = 0 from rfl)]
    rfl
theorem gn_t (hK : nK ≤ 6) (hcy : bar 4 = cy) (hi : isc = 1) (hB : stB nK d ru gr tr) (hN : ndH nK d ru gr tr now) (hH : hsH nK hnx hct rD rR rG rF nwst und kept) (hr : refu = refM) : ∃ r gr2 n2 c2 t2 a2 m2 f2 D2 R2 G2 F2 u2 w2 N2 K2, F_X9_green cy d ru gr tr rD rR rG rF hnx hct tkn akn cmp refu p0 = (r, gr2, n2, c2, t2, a2, m2, f2, D2, R2, G2, F2) ∧ F_X10_green isc und nwst refM bar now kept p0 = (r, u2, w2, N2, K2, f2) ∧ acO nK d ru gr d ru gr2 tr tr N2 n2 c2 D2 R2 G2 F2 w2 u2 K2 tkn akn cmp t2 a2 m2 := by
  subst hr
  by_cases q : (1 ≤ p0 ∧ p0 ≤ 60 ∧ p0 < cy) ∧ ¬ p0 = gr
  · obtain ⟨n2, c2, D2, R2, G2, F2, u2, w2, K2, e1, e2, e3⟩ := hs_keep hK hH hB hN (fun k _ => rfl)
    refine ⟨_, _, _, _, _, _, _, _, _, _, _, _, _, _, _, _, gn_x1 q.1 q.2 e1, gn_m1 (by omega) (by rw [hcy]; exact q.1) (fun r => q.2 (r.symm.trans hN.2.2.1)) e2, ⟨hB.1, hB.2.1, ⟨q.1.1, q.1.2.1⟩, hB.2.2.2⟩, ⟨?_, ?_, ?_, fun k hk => ?_⟩, e3, Or.inr ⟨rfl, rfl, rfl⟩⟩
    · rw [lf_up_o (by decide)]
      exact hN.1
    · rw [lf_up_o (by decide)]
      exact hN.2.1
    · rw [lf_up_y (by decide)]
    · rw [lf_up_o (by omega)]
      exact hN.2.2.2 k hk
  · have q' : ¬ (1 ≤ p0 ∧ p0 ≤ 60 ∧ p0 < cy) ∨ p0 = gr := by
      by_cases z : 1 ≤ p0 ∧ p0 ≤ 60 ∧ p0 < cy
      · exact Or.inr (Decidable.byContradiction (fun r => q ⟨z, r⟩))
      · exact Or.inl z
    refine ⟨_, _, _, _, _, _, _, _, _, _, _, _, _, _, _, _, gn_x0 q', gn_m0 (Or.inr (by rw [hcy]; exact q'.elim Or.inl (fun r => Or.inr (hN.2.2.1.trans r.symm)))), hB, hN, hH, Or.inl ⟨rfl, rfl, rfl, rfl, rfl, rfl, rfl⟩⟩
theorem tr_x1 (h : 0 ≤ p0 ∧ p0 < (nK : Int)) (h1 : 0 ≤ p1 ∧ p1 ≤ 9) (h2 : ¬ p1 = tr p0.toNat) (e : F_X9_act d ru gr tr rD rR rG rF hnx hct = (n2, c2, D2, R2, G2, F2)) : F_X9_trust (nK : Int) d ru gr tr rD rR rG rF hnx hct tkn akn cmp refu p0 p1 = ((1 : Int), lf_up tr p0 p1, n2, c2, (0 : Int), (0 : Int), (0 : Int), refu, D2, R2, G2, F2) := by
  unfold F_X9_trust
  rw [ik_x, if_pos h, lf_b_e, if_neg (show ¬ (1 : Int) = 0 from by decide), if_neg (show ¬ p1 < 0 from by omega), if_neg (show ¬ 9 < p1 from by omega), if_neg h2, e, lf_p_e, lf_p_e, lf_p_e, lf_p_e, lf_p_e]
theorem tr_x0 (h : ¬ (0 ≤ p0 ∧ p0 < (nK : Int)) ∨ ¬ (0 ≤ p1 ∧ p1 ≤ 9) ∨ p1 = tr p0.toNat) : F_X9_trust (nK : Int) d ru gr tr rD rR rG rF hnx hct tkn akn cmp refu p0 p1 = ((0 : Int), tr, hnx, hct, tkn, akn, cmp, dnR refu 2, rD, rR, rG, rF) := by
  unfold F_X9_trust F_X9_trust_31
  rw [ik_x, lf_b_e]
  by_cases q : 0 ≤ p0 ∧ p0 < (nK : Int)
  · rw [if_pos q, if_neg (show ¬ (1 : Int) = 0 from by decide)]
    by_cases q1 : p1 < 0
    · rw [if_pos q1]
      rfl
    rw [if_neg q1]
    by_cases q2 : 9 < p1
    · rw [if_pos q2]
      rfl
    rw [if_neg q2, if_pos (show p1 = tr (Int.toNat p0) from h.elim (fun r => absurd q r) (fun r => r.elim (fun r => absurd ⟨by omega, by omega⟩ r) (fun r => r)))]
    rfl
  · rw [if_neg q, if_pos rfl]
    rfl
theorem tr_m1 (hm : many 2 = (nK : Int)) (h : 0 ≤ p0 ∧ p0 < (nK : Int)) (h1 : 0 ≤ p1 ∧ p1 ≤ 9) (h2 : ¬ now (3 + p0.toNat) = p1) (e : F_X10_keeps und nwst now kept = (u2, w2, K2)) : F_X10_trust und nwst refM many now kept p0 p1 = ((1 : Int), u2, w2, lf_up now ((3 : Int) + p0) p1, K2, refM) := by
  unfold F_X10_trust F_X10_trustsOf lf_isin
  rw [ik_m hm, if_pos h, lf_b_e, if_neg (show ¬ (1 : Int) = 0 from by decide), if_pos h1, if_neg (show ¬ (1 : Int) = 0 from by decide), lf_b_e, show Int.toNat ((3 : Int) + p0) = 3 + p0.toNat from by omega, if_neg h2, e, lf_p_e, lf_p_e]
theorem tr_m0 (hm : many 2 = (nK : Int)) (h : ¬ (0 ≤ p0 ∧ p0 < (nK : Int)) ∨ ¬ (0 ≤ p1 ∧ p1 ≤ 9) ∨ now (3 + p0.toNat) = p1) : F_X10_trust und nwst refM many now kept p0 p1 = ((0 : Int), und, nwst, now, kept, dnR refM 2) := by
  unfold F_X10_trust F_X10_trust_29 F_X10_trustsOf lf_isin
  rw [ik_m hm, lf_b_e]
  by_cases q : 0 ≤ p0 ∧ p0 < (nK : Int)
  · rw [if_pos q, if_neg (show ¬ (1 : Int) = 0 from by decide)]
    by_cases q1 : 0 ≤ p1 ∧ p1 ≤ 9
    · rw [if_pos q1, if_neg (show ¬ (1 : Int) = 0 from by decide), lf_b_e, show Int.toNat ((3 : Int) + p0) = 3 + p0.toNat from by omega, if_pos (show now (3 + p0.toNat) = p1 from h.elim (fun r => absurd q r) (fun r => r.elim (fun r => absurd q1 r) (fun r => r)))]
      rfl
    · rw [if_neg q1, if_pos rfl]
      rfl
  · rw [if_neg q, if_pos rfl]
    rfl
theorem tr_t (hK : nK ≤ 6) (hm : many 2 = (nK : Int)) (hB : stB nK d ru gr tr) (hN : ndH nK d ru gr tr now) (hH : hsH nK hnx hct rD rR rG rF nwst und kept) (hr : refu = refM) : ∃ r tr2 n2 c2 t2 a2 m2 f2 D2 R2 G2 F2 u2 w2 N2 K2, F_X9_trust (nK : Int) d ru gr tr rD rR rG rF hnx hct tkn akn cmp refu p0 p1 = (r, tr2, n2, c2, t2, a2, m2, f2, D2, R2, G2, F2) ∧ F_X10_trust und nwst refM many now kept p0 p1 = (r, u2, w2, N2, K2, f2) ∧ acO nK d ru gr d ru gr tr tr2 N2 n2 c2 D2 R2 G2 F2 w2 u2 K2 tkn akn cmp t2 a2 m2 := by
  subst hr
  by_cases q : (0 ≤ p0 ∧ p0 < (nK : Int)) ∧ (0 ≤ p1 ∧ p1 ≤ 9) ∧ ¬ p1 = tr p0.toNat
  · obtain ⟨n2, c2, D2, R2, G2, F2, u2, w2, K2, e1, e2, e3⟩ := hs_keep hK hH hB hN (fun k _ => rfl)
    obtain ⟨q1, q2, q3⟩ := q
    refine ⟨_, _, _, _, _, _, _, _, _, _, _, _, _, _, _, _, tr_x1 q1 q2 q3 e1, tr_m1 hm q1 q2 (fun r => q3 (r.symm.trans (hN.2.2.2 p0.toNat (by omega)).1)) e2, ⟨hB.1, hB.2.1, hB.2.2.1, fun k hk => ?_⟩, ⟨?_, ?_, ?_, fun k hk => ?_⟩, e3, Or.inr ⟨rfl, rfl, rfl⟩⟩
    · by_cases z : k = p0.toNat
      · rw [lf_up_y z]
        exact q2
      · rw [lf_up_o z]
        exact hB.2.2.2 k hk
    · rw [lf_up_o (by omega)]
      exact hN.1
    · rw [lf_up_o (by omega)]
      exact hN.2.1
    · rw [lf_up_o (by omega)]
      exact hN.2.2.1
    · by_cases z : k = p0.toNat
      · rw [lf_up_y (show 3 + k = Int.toNat ((3 : Int) + p0) from by omega), lf_up_y z]
        exact ⟨rfl, q2⟩
      · rw [lf_up_o (show ¬ 3 + k = Int.toNat ((3 : Int) + p0) from by omega), lf_up_o z]
        exact hN.2.2.2 k hk
  · have q' : ¬ (0 ≤ p0 ∧ p0 < (nK : Int)) ∨ ¬ (0 ≤ p1 ∧ p1 ≤ 9) ∨ p1 = tr p0.toNat := by
      by_cases z : 0 ≤ p0 ∧ p0 < (nK : Int)
      · by_cases z2 : 0 ≤ p1 ∧ p1 ≤ 9
        · exact Or.inr (Or.inr (Decidable.byContradiction (fun r => q ⟨z, z2, r⟩)))
        · exact Or.inr (Or.inl z2)
      · exact Or.inl z
    refine ⟨_, _, _, _, _, _, _, _, _, _, _, _, _, _, _, _, tr_x0 q', tr_m0 hm ?_, hB, hN, hH, Or.inl ⟨rfl, rfl, rfl, rfl, rfl, rfl, rfl⟩⟩
    by_cases z : 0 ≤ p0 ∧ p0 < (nK : Int)
    · refine Or.inr (q'.elim (fun r => absurd z r) (fun r => r.elim Or.inl (fun r => Or.inr ?_)))
      exact ((hN.2.2.2 p0.toNat (by omega)).1).trans r.symm
    · exact Or.inl z
theorem un_x0 (h : hct = 0) : F_X9_undo d ru gr tr rD rR rG rF hnx hct tkn akn cmp refu = ((0 : Int), hnx, hct, d, ru, gr, tr, tkn, akn, cmp, dnR refu 4) := by
  unfold F_X9_undo F_X2_giveBack
  rw [if_pos h, lf_p_e, lf_p_e, lf_p_e, lf_p_e, lf_p_e, lf_p_e, if_pos rfl]
  rfl
theorem un_m0 (h : und = 0) : F_X10_undo und nwst refM now kept = ((0 : Int), und, nwst, dnR refM 4, now) := by
  unfold F_X10_undo
  rw [if_pos h]
  rfl
theorem un_t (hK : nK ≤ 6) (hB : stB nK d ru gr tr) (hN : ndH nK d ru gr tr now) (hH : hsH nK hnx hct rD rR rG rF nwst und kept) (hr : refu = refM) : ∃ r n2 c2 d2 ru2 gr2 tr2 t2 a2 m2 f2 u2 w2 N2, F_X9_undo d ru gr tr rD rR rG rF hnx hct tkn akn cmp refu = (r, n2, c2, d2, ru2, gr2, tr2, t2, a2, m2, f2) ∧ F_X10_undo und nwst refM now kept = (r, u2, w2, f2, N2) ∧ acO nK d ru gr d2 ru2 gr2 tr tr2 N2 n2 c2 rD rR rG rF w2 u2 kept tkn akn cmp t2 a2 m2 := by
  subst hr
  by_cases q : hct = 0
  · exact ⟨_, _, _, _, _, _, _, _, _, _, _, _, _, _, un_x0 q, un_m0 (hH.1.2.2.1.symm.trans q), hB, hN, hH, Or.inl ⟨rfl, rfl, rfl, rfl, rfl, rfl, rfl⟩⟩
  · obtain ⟨n2, d2, ru2, gr2, t2, w2, N2, e1, e2, e3, e4, e5⟩ := hs_back (now := now) (tX := tr) (d := d) (ru := ru) (gr := gr) (refu := refu) hK hH q
    refine ⟨1, n2, hct - 1, d2, ru2, gr2, t2, 0, 0, 0, refu, und - 1, w2, N2, ?_, e2, e4, e5, e3, Or.inr ⟨rfl, rfl, rfl⟩⟩
    unfold F_X9_undo
    rw [e1, lf_p_e, lf_p_e, lf_p_e, lf_p_e, lf_p_e, lf_p_e, if_neg (show ¬ (1 : Int) = 0 from by decide)]
end AC
