section
/-! 9a -/
/-! what is asked of this DAY, on both sides -/
abbrev S16 : Type := Int × Int × Int × Int × Int × Int × Int × Int × (Nat → Int) × (Nat → Int) × (Nat → Int) × (Nat → Int) × (Nat → Int) × (Nat → Int) × (Nat → Int) × (Nat → Int)
def sfS (oC oR : Option (List Int)) (nW nK : Nat) (cy ls : Int) (kO cA clmK pcK : Nat → Int) (S : S16) : Prop := sfH oC oR nW nK cy ls kO cA clmK pcK S.1 S.2.2.2.2.2.2.2.2.2.2.2.2.1 S.2.1 S.2.2.1 S.2.2.2.1 S.2.2.2.2.2.2.2.2.2.2.1 S.2.2.2.2.2.2.2.2.2.2.2.1 S.2.2.2.2.2.2.2.2.2.2.2.2.2.1 S.2.2.2.2.2.2.2.2.2.2.2.2.2.2.1 S.2.2.2.2.2.2.2.2.2.2.2.2.2.2.2 S.2.2.2.2.1 S.2.2.2.2.2.1 S.2.2.2.2.2.2.1 S.2.2.2.2.2.2.2.1
section AN
variable {nW nK : Nat} {oC oR oL : Option (List Int)} {s cy ls aw stm d ru gr hnx hct sd sru sgr sA ar pr cr we ha tkn ad aru agr akn rws cmp fnd frl fgr chs chl occ dwn fa pl sM awM isc und nwst rmM moc sdd tk ask red io lg gt icg sg qp ftm ftr ftg mf mp0 p0 p1 p2 p3 p4 : Int} {g clmK pcK kO cA comers code spans nmX tr rD rR rG facts stack str cars gaps known left leaves tab atr atd ats sw ss sec oct refu gM many bar kinds walkers cf ce codes now kept mrw mo refM asd isCar gapM isG isH crM wtM goM hmM prM ciM pile whn : Nat → Int} {rF : Nat → Nat → Int}
theorem lt_y (hP : plH nW nK cy ls oC oR kO cA clmK pcK comers code spans ar) (hS : sfH oC oR nW nK cy ls kO cA clmK pcK sd str sru sgr sA cars gaps known left leaves pr cr we ha) (hB : stB nK d ru gr tr) : ∃ pr2 cr2 we2 ha2 f2 s2 c2 g2 t2 k2 l2 v2, F_X9_layToday cy ls (nK : Int) clmK pcK (nW : Int) kO cA comers code spans d ru gr tr facts stack sd str sru sgr sA ar cars gaps known left leaves pr cr we ha = (d, ru, gr, (0 : Int), pr2, cr2, we2, ha2, f2, s2, c2, g2, t2, k2, l2, v2) ∧ sfH oC oR nW nK cy ls kO cA clmK pcK d t2 ru gr 0 c2 g2 k2 l2 v2 pr2 cr2 we2 ha2 ∧ SFd oC d cy c2 g2 ∧ SFl oC oR nW cy ls kO cA clmK pcK d tr ru gr 0 l2 v2 pr2 cr2 we2 ha2 ∧ ∀ k, k < nK → t2 k = tr k := by
  obtain ⟨b1, b2', b3, b4⟩ := hB
  obtain ⟨f2, s2, c2, g2, t2, k2, l2, v2, pr2, cr2, we2, ha2, e, e1, hsf, q2, q1⟩ := ly_x (facts := facts) (stack := stack) hP hS b1 b4 b2'.1 (show 0 ≤ gr ∧ gr ≤ 60 from ⟨by omega, b3.2⟩) rg_0
  refine ⟨pr2, cr2, we2, ha2, f2, s2, c2, g2, t2, k2, l2, v2, ?_, hsf, q1, q2, e1⟩
  unfold F_X9_layToday
  rw [e, lf_p_e, lf_p_e, lf_p_e, lf_p_e, lf_p_e, lf_p_e, lf_p_e, lf_p_e, lf_p_e, lf_p_e, lf_p_e, lf_p_e, lf_p_e, lf_p_e, lf_p_e]
theorem lt_x (hP : plH nW nK cy ls oC oR kO cA clmK pcK comers code spans ar) (hS : sfH oC oR nW nK cy ls kO cA clmK pcK sd str sru sgr sA cars gaps known left leaves pr cr we ha) (hB : stB nK d ru gr tr) : ∃ pr2 cr2 we2 ha2 f2 s2 c2 g2 t2 k2 l2 v2, F_X9_layToday cy ls (nK : Int) clmK pcK (nW : Int) kO cA comers code spans d ru gr tr facts stack sd str sru sgr sA ar cars gaps known left leaves pr cr we ha = (d, ru, gr, (0 : Int), pr2, cr2, we2, ha2, f2, s2, c2, g2, t2, k2, l2, v2) ∧ sfH oC oR nW nK cy ls kO cA clmK pcK d t2 ru gr 0 c2 g2 k2 l2 v2 pr2 cr2 we2 ha2 ∧ SFd oC d cy c2 g2 ∧ SFl oC oR nW cy ls kO cA clmK pcK d tr ru gr 0 l2 v2 pr2 cr2 we2 ha2 := by
  obtain ⟨pr2, cr2, we2, ha2, f2, s2, c2, g2, t2, k2, l2, v2, e, h1, h2, h3, h4⟩ := lt_y (facts := facts) (stack := stack) hP hS hB
  exact ⟨pr2, cr2, we2, ha2, f2, s2, c2, g2, t2, k2, l2, v2, e, h1, h2, h3⟩
theorem st_1x (h : 10 ≤ cy) : F_X9_stands cy = 1 := if_neg (by omega)
theorem st_0x (h : cy = 0) : F_X9_stands cy = 0 := if_pos (by omega)
theorem iw_x : F_X9_isWalker (nW : Int) p0 = if 0 ≤ p0 ∧ p0 < (nW : Int) then 1 else 0 := by
  unfold F_X9_isWalker F_X9_isWalker_19
  by_cases q : p0 < 0
  · rw [if_pos q, if_neg (by omega)]
  · rw [if_neg q]
    by_cases q2 : (nW : Int) ≤ p0
    · rw [if_pos q2, if_neg (by omega)]
    · rw [if_neg q2, if_pos (by omega)]
theorem ik_x : F_X9_isKind (nK : Int) p0 = if 0 ≤ p0 ∧ p0 < (nK : Int) then 1 else 0 := by
  unfold F_X9_isKind F_X9_isKind_19
  by_cases q : p0 < 0
  · rw [if_pos q, if_neg (by omega)]
  · rw [if_neg q]
    by_cases q2 : (nK : Int) ≤ p0
    · rw [if_pos q2, if_neg (by omega)]
    · rw [if_neg q2, if_pos (by omega)]
theorem iw_m (h : many 3 = (nW : Int)) : F_X10_isWalker many p0 = if 0 ≤ p0 ∧ p0 < (nW : Int) then 1 else 0 := by
  unfold F_X10_isWalker F_X10_walkerMany lf_isin
  rw [lf_b_e, h]
  by_cases q : 0 ≤ p0 ∧ p0 < (nW : Int)
  · rw [if_pos (by omega), if_pos q]
  · rw [if_neg (by omega), if_neg q]
theorem ik_m (h : many 2 = (nK : Int)) : F_X10_isKind many p0 = if 0 ≤ p0 ∧ p0 < (nK : Int) then 1 else 0 := by
  unfold F_X10_isKind F_X10_kindMany lf_isin
  rw [lf_b_e, h]
  by_cases q : 0 ≤ p0 ∧ p0 < (nK : Int)
  · rw [if_pos (by omega), if_pos q]
  · rw [if_neg (by omega), if_neg q]
/-- light -/
noncomputable def liA (nW : Nat) (cy ls : Int) (kO cA tr : Nat → Int) (ru gr p : Int) : Int := if 0 ≤ p ∧ p < 300 then b2 (decide (0 < leS nW cy ls kO cA tr ru gr 0 p.toNat)) else -1
theorem li_c (hP : plH nW nK cy ls oC oR kO cA clmK pcK comers code spans ar) (hS : sfH oC oR nW nK cy ls kO cA clmK pcK sd str sru sgr sA cars gaps known left leaves pr cr we ha) (hB : stB nK d ru gr tr) : (F_X9_light cy ls (nK : Int) clmK pcK (nW : Int) kO cA comers code spans d ru gr tr facts stack sd str sru sgr sA ar cars gaps known left leaves pr cr we ha p0).1 = liA nW cy ls kO cA tr ru gr p0 ∧ sfS oC oR nW nK cy ls kO cA clmK pcK (F_X9_light cy ls (nK : Int) clmK pcK (nW : Int) kO cA comers code spans d ru gr tr facts stack sd str sru sgr sA ar cars gaps known left leaves pr cr we ha p0).2 := by
  obtain ⟨pr2, cr2, we2, ha2, f2, s2, c2, g2, t2, k2, l2, v2, e, h1, h2, h3⟩ := lt_x (facts := facts) (stack := stack) hP hS hB
  unfold F_X9_light F_X9_light_18 liA
  rw [st_1x hP.2.2.1.1, lf_b_e, if_neg (by decide)]
  by_cases q : p0 < 0
  · rw [if_pos q, if_neg (by omega)]
    exact ⟨rfl, hS⟩
  · rw [if_neg q]
    by_cases q2 : p0 < 300
    · rw [if_pos q2, e, lf_p_e, lf_p_e, lf_p_e, lf_p_e, lf_p_e, lf_p_e, lf_p_e, lf_p_e, lf_p_e, lf_p_e, lf_p_e, lf_p_e, lf_p_e, lf_p_e, lf_p_e, if_pos (show 0 ≤ p0 ∧ p0 < 300 from by omega), h3.1 p0.toNat (by omega)]
      by_cases q3 : leS nW cy ls kO cA tr ru gr 0 p0.toNat ≤ 0
      · rw [if_pos q3, decide_eq_false (by omega)]
        exact ⟨rfl, h1⟩
      · rw [if_neg q3, decide_eq_true (by omega)]
        exact ⟨rfl, h1⟩
    · rw [if_neg q2, if_neg (by omega)]
      exact ⟨rfl, hS⟩
theorem li_mm (hP : plH nW nK cy ls oC oR kO cA clmK pcK comers code spans ar) (hM : pmH nW nK cy ls oC oR oL kO cA clmK pcK many bar kinds walkers cf ce codes) (hB : stB nK d ru gr tr) (hn : ndH nK d ru gr tr now) (hi : isc = 1) : (F_X10_light isc tk ask red io lg gt icg sg qp many bar kinds walkers cf ce codes now isCar gapM isG isH crM wtM goM hmM prM ciM pile p0).1 = liA nW cy ls kO cA tr ru gr p0 := by
  obtain ⟨v16, v17, v18, v19, v20, v21, v22, v23, v24, f33, f27, f7, f28, f29, f8, f25, f26, f30, f31, f32, e, h1, h2, h3⟩ := dn_x (tk := tk) (ask := ask) (red := red) (sg := sg) (qp := qp) (isCar := isCar) (gaps := gapM) (isG := isG) (isH := isH) (cr := crM) (wt := wtM) (go := goM) (hm := hmM) (pr2 := prM) (ci := ciM) (pile := pile) hP hM hB.1 hn hB.2.2.1.1 hB.2.2.1.2 hB.2.1
  unfold F_X10_light F_X10_light_19 liA lf_isin
  rw [if_neg (show ¬ isc = 0 from by omega)]
  by_cases q : 0 ≤ p0 ∧ p0 < 300
  · rw [if_pos (show 0 ≤ p0 ∧ p0 ≤ 299 from by omega), if_neg (show ¬ (1 : Int) = 0 from by decide), e, lf_p_e, lf_p_e, lf_p_e, lf_p_e, lf_p_e, lf_p_e, lf_p_e, lf_p_e, lf_p_e, lf_p_e, lf_p_e, lf_p_e, lf_p_e, lf_p_e, lf_p_e, lf_p_e, lf_p_e, lf_p_e, lf_p_e, if_pos q]
    have hg := (h1.2 p0.toNat (by omega)).2
    rw [hg]
    unfold leS
    cases decide (0 < lef nW cA (twf nW kO tr) (abf 0) cy ls ru gr p0.toNat)
    · rw [if_pos (show b2 false = 0 from rfl)]
      rfl
    · rw [if_neg (show ¬ b2 true = 0 from by decide)]
      rfl
  · rw [if_neg (show ¬ (0 ≤ p0 ∧ p0 ≤ 299) from by omega), if_pos rfl, if_neg q]
/-- car -/
theorem carV_b (hP : plH nW nK cy ls oC oR kO cA clmK pcK comers code spans ar) (hd : 0 ≤ d ∧ d ≤ 999) {s : Nat} (hs : s < 320) : carV oC d cy s = b2 (decide (carV oC d cy s = 1)) := by
  have h := (vlO_b (κ := 0) (hP.2.2.2.2.2.2.1.2) (rhoC_b (al := 7) (s := s) hd (by omega) (show 1 ≤ cy from by have := hP.2.2.1.1; omega) hP.2.2.1.2)).2 rfl
  have h' : carV oC d cy s = 0 ∨ carV oC d cy s = 1 := h
  rcases h' with r | r
  · rw [r]
    rfl
  · rw [r]
    rfl
noncomputable def caA (oC : Option (List Int)) (cy d p : Int) : Int := if 0 ≤ p ∧ p < 320 then carV oC d cy p.toNat else -1
theorem ca_c (hP : plH nW nK cy ls oC oR kO cA clmK pcK comers code spans ar) (hS : sfH oC oR nW nK cy ls kO cA clmK pcK sd str sru sgr sA cars gaps known left leaves pr cr we ha) (hB : stB nK d ru gr tr) : (F_X9_car cy ls (nK : Int) clmK pcK (nW : Int) kO cA comers code spans d ru gr tr facts stack sd str sru sgr sA ar cars gaps known left leaves pr cr we ha p0).1 = caA oC cy d p0 ∧ sfS oC oR nW nK cy ls kO cA clmK pcK (F_X9_car cy ls (nK : Int) clmK pcK (nW : Int) kO cA comers code spans d ru gr tr facts stack sd str sru sgr sA ar cars gaps known left leaves pr cr we ha p0).2 := by
  obtain ⟨pr2, cr2, we2, ha2, f2, s2, c2, g2, t2, k2, l2, v2, e, h1, h2, h3⟩ := lt_x (facts := facts) (stack := stack) hP hS hB
  unfold F_X9_car F_X9_car_18 caA
  rw [st_1x hP.2.2.1.1, lf_b_e, if_neg (by decide)]
  by_cases q : p0 < 0
  · rw [if_pos q, if_neg (by omega)]
    exact ⟨rfl, hS⟩
  · rw [if_neg q]
    by_cases q2 : p0 < 320
    · rw [if_pos q2, e, lf_p_e, lf_p_e, lf_p_e, lf_p_e, lf_p_e, lf_p_e, lf_p_e, lf_p_e, lf_p_e, lf_p_e, lf_p_e, lf_p_e, lf_p_e, lf_p_e, lf_p_e, if_pos (by omega), h2.1 p0.toNat (by omega)]
      exact ⟨rfl, h1⟩
    · rw [if_neg q2, if_neg (by omega)]
      exact ⟨rfl, hS⟩
theorem ca_mm (hP : plH nW nK cy ls oC oR kO cA clmK pcK comers code spans ar) (hM : pmH nW nK cy ls oC oR oL kO cA clmK pcK many bar kinds walkers cf ce codes) (hB : stB nK d ru gr tr) (hn : ndH nK d ru gr tr now) (hi : isc = 1) : (F_X10_car isc tk ask red qp bar kinds walkers cf ce codes now isCar gapM wtM goM hmM pile p0).1 = caA oC cy d p0 := by
  obtain ⟨t, q, r, p, g2, i2, e, h1, h2⟩ := mc_x (tk := tk) (ask := ask) (red := red) (qp := qp) (kinds := kinds) (walkers := walkers) (isCar := isCar) (gaps := gapM) (waits := wtM) (goes := goM) (harms := hmM) (pile := pile) hB.1 (show 1 ≤ cy from by have := hP.2.2.1.1; omega) hP.2.2.1.2 hM.2.2.1 hn.1 hM.2.2.2.2.2.2.1 hP.2.2.2.2.2.2.1.2
  unfold F_X10_car F_X10_car_19 caA lf_isin
  rw [if_neg (show ¬ isc = 0 from by omega)]
  by_cases q : 0 ≤ p0 ∧ p0 < 320
  · rw [if_pos (show 0 ≤ p0 ∧ p0 ≤ 319 from by omega), if_neg (show ¬ (1 : Int) = 0 from by decide), e, lf_p_e, lf_p_e, lf_p_e, lf_p_e, lf_p_e, if_pos q, h1 p0.toNat (by omega)]
    have hc := carV_b hP hB.1 (show p0.toNat < 320 from by omega)
    cases hq : decide (carV oC d cy p0.toNat = 1) with
    | false =>
      rw [hq] at hc
      rw [if_pos (show b2 false = 0 from rfl)]
      exact hc.symm
    | true =>
      rw [hq] at hc
      rw [if_neg (show ¬ b2 true = 0 from by decide)]
      exact hc.symm
  · rw [if_neg (show ¬ (0 ≤ p0 ∧ p0 ≤ 319) from by omega), if_pos rfl, if_neg q]
/-- day -/
noncomputable def daA (oC oR : Option (List Int)) (nW : Nat) (cy ls : Int) (kO cA clmK pcK tr : Nat → Int) (d ru gr p : Int) : Int := if 0 ≤ p ∧ p ≤ 5 then tdS nW cA (twf nW kO tr) (abf 0) cy ls ru gr (weS oC oR nW cy ls kO cA clmK pcK d tr ru gr 0) p else -1
theorem to_o {kd A pr cr we ha p : Int} {cA left leaves : Nat → Int} (h : ¬ (0 ≤ p ∧ p ≤ 5)) : F_X7_told kd cA A left leaves pr cr we ha p = -1 := by
  unfold F_X7_told
  rw [if_neg (by omega), if_neg (by omega), if_neg (by omega), if_neg (by omega), if_neg (by omega), if_neg (by omega)]
theorem da_c (hP : plH nW nK cy ls oC oR kO cA clmK pcK comers code spans ar) (hS : sfH oC oR nW nK cy ls kO cA clmK pcK sd str sru sgr sA cars gaps known left leaves pr cr we ha) (hB : stB nK d ru gr tr) : (F_X9_day cy ls (nK : Int) clmK pcK (nW : Int) kO cA comers code spans d ru gr tr facts stack sd str sru sgr sA ar cars gaps known left leaves pr cr we ha p0).1 = daA oC oR nW cy ls kO cA clmK pcK tr d ru gr p0 ∧ sfS oC oR nW nK cy ls kO cA clmK pcK (F_X9_day cy ls (nK : Int) clmK pcK (nW : Int) kO cA comers code spans d ru gr tr facts stack sd str sru sgr sA ar cars gaps known left leaves pr cr we ha p0).2 := by
  obtain ⟨pr2, cr2, we2, ha2, f2, s2, c2, g2, t2, k2, l2, v2, e, h1, h2, h3⟩ := lt_x (facts := facts) (stack := stack) hP hS hB
  unfold F_X9_day daA
  rw [st_1x hP.2.2.1.1, lf_b_e, if_neg (by decide), e, lf_p_e, lf_p_e, lf_p_e, lf_p_e, lf_p_e, lf_p_e, lf_p_e, lf_p_e, lf_p_e, lf_p_e, lf_p_e, lf_p_e, lf_p_e, lf_p_e, lf_p_e, lf_b_e]
  by_cases q : 0 ≤ p0 ∧ p0 ≤ 5
  · rw [if_pos q, tc_x hP h3 rg_0 (show 0 ≤ gr from by have := hB.2.2.1.1; omega) hB.2.2.1.2 q]
    exact ⟨rfl, h1⟩
  · rw [if_neg q, to_o q]
    exact ⟨rfl, h1⟩
theorem da_mm (hP : plH nW nK cy ls oC oR kO cA clmK pcK comers code spans ar) (hM : pmH nW nK cy ls oC oR oL kO cA clmK pcK many bar kinds walkers cf ce codes) (hB : stB nK d ru gr tr) (hn : ndH nK d ru gr tr now) (hi : isc = 1) : (F_X10_day isc tk ask red io lg gt icg sg qp many bar kinds walkers cf ce codes now isCar gapM isG isH crM wtM goM hmM prM ciM pile p0).1 = daA oC oR nW cy ls kO cA clmK pcK tr d ru gr p0 := by
  obtain ⟨v16, v17, v18, v19, v20, v21, v22, v23, v24, f33, f27, f7, f28, f29, f8, f25, f26, f30, f31, f32, e, h1, h2, h3⟩ := dn_x (tk := tk) (ask := ask) (red := red) (sg := sg) (qp := qp) (isCar := isCar) (gaps := gapM) (isG := isG) (isH := isH) (cr := crM) (wt := wtM) (go := goM) (hm := hmM) (pr2 := prM) (ci := ciM) (pile := pile) hP hM hB.1 hn hB.2.2.1.1 hB.2.2.1.2 hB.2.1
  rw [wkM_0] at h1
  unfold F_X10_day F_X10_day_19 daA lf_isin
  rw [if_neg (show ¬ isc = 0 from by omega)]
  by_cases q : 0 ≤ p0 ∧ p0 ≤ 5
  · rw [if_pos q, if_neg (show ¬ (1 : Int) = 0 from by decide), e, lf_p_e, lf_p_e, lf_p_e, lf_p_e, lf_p_e, lf_p_e, lf_p_e, lf_p_e, lf_p_e, lf_p_e, lf_p_e, lf_p_e, lf_p_e, lf_p_e, lf_p_e, lf_p_e, lf_p_e, lf_p_e, lf_p_e, lf_b_e, if_pos q]
    exact td_m h1 (we_z hP) hM.1 hP.1 q
  · rw [if_neg q, if_pos rfl, if_neg q]
/-- walker -/
noncomputable def waA (oC oR : Option (List Int)) (nW : Nat) (cy ls : Int) (kO cA clmK pcK tr : Nat → Int) (d ru gr p q : Int) : Int := if 0 ≤ p ∧ p < (nW : Int) then (if q = 0 then kO p.toNat else if q = 1 then cA p.toNat else if q = 2 then (weS oC oR nW cy ls kO cA clmK pcK d tr ru gr 0).1 p.toNat else if q = 3 then wt0 cA (abf 0) (weS oC oR nW cy ls kO cA clmK pcK d tr ru gr 0) p.toNat else if q = 4 then b2 (decide (2 ≤ (weS oC oR nW cy ls kO cA clmK pcK d tr ru gr 0).2.1 p.toNat)) else if q = 5 then b2 (decide ((weS oC oR nW cy ls kO cA clmK pcK d tr ru gr 0).2.1 p.toNat = 3)) else if q = 6 then b2 (prS nW cA (twf nW kO tr) (abf 0) cy ls ru gr p.toNat) else -1) else -1
theorem bit_w {Z : Int} {w : Nat} (h : rg Z) (hw : w < 12) : F_X9_bit Z (w : Int) = b2 (bt Z w) := bt_bit h.1 (by have := h.2; omega) (by omega)
theorem wa_cx (hP : plH nW nK cy ls oC oR kO cA clmK pcK comers code spans ar) (hS : sfH oC oR nW nK cy ls kO cA clmK pcK sd str sru sgr sA cars gaps known left leaves pr cr we ha) (hB : stB nK d ru gr tr) : (F_X9_walker cy ls (nK : Int) clmK pcK (nW : Int) kO cA comers code spans d ru gr tr facts stack sd str sru sgr sA ar cars gaps known left leaves pr cr we ha p0 p1).1 = waA oC oR nW cy ls kO cA clmK pcK tr d ru gr p0 p1 ∧ sfS oC oR nW nK cy ls kO cA clmK pcK (F_X9_walker cy ls (nK : Int) clmK pcK (nW : Int) kO cA comers code spans d ru gr tr facts stack sd str sru sgr sA ar cars gaps known left leaves pr cr we ha p0 p1).2 := by
  obtain ⟨pr2, cr2, we2, ha2, f2, s2, c2, g2, t2, k2, l2, v2, e, h1, h2, h3⟩ := lt_x (facts := facts) (stack := stack) hP hS hB
  unfold F_X9_walker waA
  rw [iw_x, lf_b_e]
  by_cases q : 0 ≤ p0 ∧ p0 < (nW : Int)
  · obtain ⟨w, rfl⟩ := Int.eq_ofNat_of_zero_le q.1
    have hn : nW ≤ 12 := hP.1
    have hw : w < nW := by omega
    rw [if_pos q, if_pos q, if_neg (show ¬ (1 : Int) = 0 from by decide), e, lf_p_e, lf_p_e, lf_p_e, lf_p_e, lf_p_e, lf_p_e, lf_p_e, lf_p_e, lf_p_e, lf_p_e, lf_p_e, lf_p_e, lf_p_e, lf_p_e, lf_p_e, Int.toNat_natCast]
    obtain ⟨s1, s2', s3, s4, s5, s6⟩ := h3
    by_cases c0 : p1 = 0
    · rw [if_pos c0, if_pos c0]
      exact ⟨rfl, h1⟩
    rw [if_neg c0, if_neg c0]
    by_cases c1 : p1 = 1
    · rw [if_pos c1, if_pos c1]
      exact ⟨rfl, h1⟩
    rw [if_neg c1, if_neg c1]
    by_cases c2' : p1 = 2
    · rw [if_pos c2', if_pos c2']
      exact ⟨s6 w (by omega), h1⟩
    rw [if_neg c2', if_neg c2']
    by_cases c3 : p1 = 3
    · rw [if_pos c3, if_pos c3, lf_b_e]
      exact ⟨wb_c (we_z hP) s6 hn hw (bt_0 w), h1⟩
    rw [if_neg c3, if_neg c3]
    by_cases c4 : p1 = 4
    · rw [if_pos c4, if_pos c4, lf_b_e, bit_w s4.1 (by omega), s4.2 w (by omega)]
      exact ⟨rfl, h1⟩
    rw [if_neg c4, if_neg c4]
    by_cases c5 : p1 = 5
    · rw [if_pos c5, if_pos c5, lf_b_e, bit_w s5.1 (by omega), s5.2 w (by omega)]
      exact ⟨rfl, h1⟩
    rw [if_neg c5, if_neg c5]
    by_cases c6 : p1 = 6
    · rw [if_pos c6, if_pos c6, lf_b_e, bit_w s2'.1 (by omega), s2'.2 w (by omega)]
      exact ⟨rfl, h1⟩
    rw [if_neg c6, if_neg c6]
    exact ⟨rfl, h1⟩
  · rw [if_neg q, if_neg q, if_pos rfl]
    exact ⟨rfl, hS⟩
theorem b2_i {b : Bool} {α : Type} {A B : α} : (if b2 b = 0 then A else B) = if b = true then B else A := by
  cases b
  · rfl
  · rfl
theorem wa_mx (hP : plH nW nK cy ls oC oR kO cA clmK pcK comers code spans ar) (hM : pmH nW nK cy ls oC oR oL kO cA clmK pcK many bar kinds walkers cf ce codes) (hB : stB nK d ru gr tr) (hn : ndH nK d ru gr tr now) : (F_X10_walker tk ask red io lg gt icg sg qp many bar kinds walkers cf ce codes now isCar gapM isG isH crM wtM goM hmM prM ciM pile p0 p1).1 = waA oC oR nW cy ls kO cA clmK pcK tr d ru gr p0 p1 := by
  obtain ⟨v16, v17, v18, v19, v20, v21, v22, v23, v24, f33, f27, f7, f28, f29, f8, f25, f26, f30, f31, f32, e, h1, h2, h3⟩ := dn_x (tk := tk) (ask := ask) (red := red) (sg := sg) (qp := qp) (isCar := isCar) (gaps := gapM) (isG := isG) (isH := isH) (cr := crM) (wt := wtM) (go := goM) (hm := hmM) (pr2 := prM) (ci := ciM) (pile := pile) hP hM hB.1 hn hB.2.2.1.1 hB.2.2.1.2 hB.2.1
  rw [wkM_0] at h1
  unfold F_X10_walker waA
  rw [iw_m hM.1, lf_b_e]
  by_cases q : 0 ≤ p0 ∧ p0 < (nW : Int)
  · obtain ⟨w, rfl⟩ := Int.eq_ofNat_of_zero_le q.1
    have hn : nW ≤ 12 := hP.1
    have hw : w < nW := by omega
    rw [if_pos q, if_pos q, if_neg (show ¬ (1 : Int) = 0 from by decide), e, lf_p_e, lf_p_e, lf_p_e, lf_p_e, lf_p_e, lf_p_e, lf_p_e, lf_p_e, lf_p_e, lf_p_e, lf_p_e, lf_p_e, lf_p_e, lf_p_e, lf_p_e, lf_p_e, lf_p_e, lf_p_e, lf_p_e, Int.toNat_natCast]
    obtain ⟨d1, d2, d3, d4, d5, d6⟩ := h1.1 w hw
    obtain ⟨w1, w2⟩ := hM.2.2.2.2.1 w hw
    by_cases c0 : p1 = 0
    · rw [if_pos c0, if_pos c0, lf_b_e]
      show walkers (Int.toNat ((24 : Int) + ((2 : Int) * (w : Int)))) = kO w
      rw [show Int.toNat ((24 : Int) + ((2 : Int) * (w : Int))) = 24 + 2 * w from by omega, w1]
    rw [if_neg c0, if_neg c0]
    by_cases c1 : p1 = 1
    · rw [if_pos c1, if_pos c1, lf_b_e]
      show walkers (Int.toNat ((25 : Int) + ((2 : Int) * (w : Int)))) = cA w
      rw [show Int.toNat ((25 : Int) + ((2 : Int) * (w : Int))) = 25 + 2 * w from by omega, w2]
    rw [if_neg c1, if_neg c1]
    by_cases c2' : p1 = 2
    · rw [if_pos c2', if_pos c2']
      exact d2
    rw [if_neg c2', if_neg c2']
    by_cases c3 : p1 = 3
    · rw [if_pos c3, if_pos c3]
      exact d3
    rw [if_neg c3, if_neg c3]
    by_cases c4 : p1 = 4
    · rw [if_pos c4, if_pos c4, d4]
      cases decide (2 ≤ (weS oC oR nW cy ls kO cA clmK pcK d tr ru gr 0).2.1 w)
      · rw [if_pos (show b2 false = 0 from rfl)]
        rfl
      · rw [if_neg (show ¬ b2 true = 0 from by decide)]
        rfl
    rw [if_neg c4, if_neg c4]
    by_cases c5 : p1 = 5
    · rw [if_pos c5, if_pos c5, d5]
      cases decide ((weS oC oR nW cy ls kO cA clmK pcK d tr ru gr 0).2.1 w = 3)
      · rw [if_pos (show b2 false = 0 from rfl)]
        rfl
      · rw [if_neg (show ¬ b2 true = 0 from by decide)]
        rfl
    rw [if_neg c5, if_neg c5]
    by_cases c6 : p1 = 6
    · rw [if_pos c6, if_pos c6, d6]
      cases prS nW cA (twf nW kO tr) (abf 0) cy ls ru gr w
      · rw [if_pos (show b2 false = 0 from rfl)]
        rfl
      · rw [if_neg (show ¬ b2 true = 0 from by decide)]
        rfl
    rw [if_neg c6, if_neg c6]
  · rw [if_neg q, if_neg q, if_pos rfl]
/-- kind -/
def kdB (nW : Nat) (kO : Nat → Int) (p : Int) : Nat → Int
  | 0 => 0
  | k + 1 => if kO k = p then lf_o lf_ior (kdB nW kO p k) (lf_o lf_ishl (1 : Int) (k : Int)) else kdB nW kO p k
def kdA (nW nK : Nat) (kO clmK pcK tr : Nat → Int) (p q : Int) : Int := if 0 ≤ p ∧ p < (nK : Int) then (if q = 0 then clmK p.toNat else if q = 1 then pcK p.toNat else if q = 2 then tr p.toNat else if q = 3 then kdB nW kO p nW else -1) else -1
theorem kd_cr : ∀ (f k : Nat), k ≤ nW → nW - k < f → F_X4_walkersOf_4 (nW : Int) kO p0 f (kdB nW kO p0 k) (k : Int) = kdB nW kO p0 nW := by
  intro f
  induction f with
  | zero => intro k h1 h2; omega
  | succ f ih =>
    intro k h1 h2
    show F_X4_walkersOf_4b (nW : Int) kO p0 (F_X4_walkersOf_4 (nW : Int) kO p0 f) (kdB nW kO p0 k) (k : Int) = _
    unfold F_X4_walkersOf_4b F_X4_walkersOf_28
    by_cases q : k = nW
    · rw [if_pos (by omega), q]
    · rw [if_neg (by omega), Int.toNat_natCast]
      have hx := ih (k + 1) (by omega) (by omega)
      have eS : kdB nW kO p0 (k + 1) = if kO k = p0 then lf_o lf_ior (kdB nW kO p0 k) (lf_o lf_ishl (1 : Int) (k : Int)) else kdB nW kO p0 k := rfl
      rw [eS] at hx
      by_cases c : kO k = p0
      · rw [if_pos c] at hx ⊢
        exact hx
      · rw [if_neg c] at hx ⊢
        exact hx
theorem kd_c (hn : nW ≤ 12) : F_X9_kind (nK : Int) clmK pcK (nW : Int) kO tr p0 p1 = kdA nW nK kO clmK pcK tr p0 p1 := by
  unfold F_X9_kind kdA
  rw [ik_x, lf_b_e]
  by_cases q : 0 ≤ p0 ∧ p0 < (nK : Int)
  · rw [if_pos q, if_pos q, if_neg (show ¬ (1 : Int) = 0 from by decide)]
    have e : F_X4_walkersOf (nW : Int) kO p0 = kdB nW kO p0 nW := kd_cr 14 0 (Nat.zero_le _) (by omega)
    rw [e, lf_b_e]
  · rw [if_neg q, if_neg q, if_pos rfl]
theorem kd_mr (hm : many 3 = (nW : Int)) (hw : ∀ w, w < nW → walkers (24 + 2 * w) = kO w) : ∀ (f k : Nat), k ≤ nW → nW - k < f → F_X10_kind_15 many kinds walkers now p0 p1 f (kdB nW kO p0 k) (k : Int) = (if (lf_isin p1 (0 : Int) (1 : Int)) = 0 then (if p1 = 2 then F_X10_trustsOf now p0 else if p1 = 3 then kdB nW kO p0 nW else -1) else kinds (Int.toNat (((12 : Int) + ((2 : Int) * p0)) + p1))) := by
  intro f
  induction f with
  | zero => intro k h1 h2; omega
  | succ f ih =>
    intro k h1 h2
    show F_X10_kind_15b many kinds walkers now p0 p1 (F_X10_kind_15 many kinds walkers now p0 p1 f) (kdB nW kO p0 k) (k : Int) = _
    unfold F_X10_kind_15b F_X10_kind_41 F_X10_kindOf
    rw [lf_b_e, hm]
    by_cases q : k = nW
    · rw [if_pos (by omega), q]
      rfl
    · rw [if_neg (by omega), lf_b_e, show Int.toNat ((24 : Int) + ((2 : Int) * (k : Int))) = 24 + 2 * k from by omega, hw k (by omega)]
      have hx := ih (k + 1) (by omega) (by omega)
      have eS : kdB nW kO p0 (k + 1) = if kO k = p0 then lf_o lf_ior (kdB nW kO p0 k) (lf_o lf_ishl (1 : Int) (k : Int)) else kdB nW kO p0 k := rfl
      rw [eS] at hx
      by_cases c : kO k = p0
      · rw [if_pos c] at hx ⊢
        exact hx
      · rw [if_neg c] at hx ⊢
        exact hx
theorem kd_m (hn : nW ≤ 12) (hM : pmH nW nK cy ls oC oR oL kO cA clmK pcK many bar kinds walkers cf ce codes) (hN : ndH nK d ru gr tr now) : F_X10_kind many kinds walkers now p0 p1 = kdA nW nK kO clmK pcK tr p0 p1 := by
  unfold F_X10_kind kdA
  rw [ik_m hM.2.1, lf_b_e]
  by_cases q : 0 ≤ p0 ∧ p0 < (nK : Int)
  · rw [if_pos q, if_pos q, if_neg (show ¬ (1 : Int) = 0 from by decide)]
    have e := kd_mr (kinds := kinds) (now := now) (p0 := p0) (p1 := p1) hM.1 (fun w hw => (hM.2.2.2.2.1 w hw).1) 14 0 (Nat.zero_le _) (by omega)
    have e' : F_X10_kind_15 many kinds walkers now p0 p1 14 (0 : Int) (0 : Int) = _ := e
    rw [e']
    obtain ⟨k1, k2⟩ := hM.2.2.2.2.2.1 p0.toNat (by omega)
    have k3 := (hN.2.2.2 p0.toNat (by omega)).1
    unfold lf_isin F_X10_trustsOf
    rw [show Int.toNat ((3 : Int) + p0) = 3 + p0.toNat from by omega, k3]
    by_cases c0 : p1 = 0
    · rw [if_pos (show 0 ≤ p1 ∧ p1 ≤ 1 from by omega), if_neg (show ¬ (1 : Int) = 0 from by decide), if_pos c0, show Int.toNat (((12 : Int) + ((2 : Int) * p0)) + p1) = 12 + 2 * p0.toNat from by omega, k1]
    rw [if_neg c0]
    by_cases c1 : p1 = 1
    · rw [if_pos (show 0 ≤ p1 ∧ p1 ≤ 1 from by omega), if_neg (show ¬ (1 : Int) = 0 from by decide), if_pos c1, show Int.toNat (((12 : Int) + ((2 : Int) * p0)) + p1) = 13 + 2 * p0.toNat from by omega, k2]
    rw [if_neg c1, if_neg (show ¬ (0 ≤ p1 ∧ p1 ≤ 1) from by omega), if_pos rfl]
  · rw [if_neg q, if_neg q, if_pos rfl]
end AN
end
section
/-! 9b -/
/-! acts, on both sides -/
def dnR (f : Nat → Int) (k : Int) : Nat → Int := lf_up f k (lf_o lf_iadd (f (Int.toNat k)) (1 : Int))
theorem ndH_cg {nK : Nat} {d ru gr : Int} {tr tr2 now : Nat → Int} (h : ndH nK d ru gr tr now) (e : ∀ k, k < nK → tr2 k = tr k) : ndH nK d ru gr tr2 now := ⟨h.1, h.2.1, h.2.2.1, fun k hk => by
  rw [e k hk]
  exact h.2.2.2 k hk⟩
section AC
variable {nW nK : Nat} {oC oR oL : Option (List Int)} {s cy ls aw stm d ru gr hnx hct sd sru sgr sA ar pr cr we ha tkn ad aru agr akn rws cmp fnd frl fgr chs chl occ dwn fa pl sM awM isc und nwst rmM moc sdd tk ask red io lg gt icg sg qp ftm ftr ftg mf mp0 p0 p1 p2 p3 p4 : Int} {g clmK pcK kO cA comers code spans nmX tr rD rR rG facts stack str cars gaps known left leaves tab atr atd ats sw ss sec oct refu gM many bar kinds walkers cf ce codes now kept mrw mo refM asd isCar gapM isG isH crM wtM goM hmM prM ciM pile whn : Nat → Int} {rF : Nat → Nat → Int}
variable {n2 c2 u2 w2 : Int} {D2 R2 G2 K2 : Nat → Int} {F2 : Nat → Nat → Int}
theorem ru_x1 (hcy : 0 < cy) (h : 0 ≤ p0 ∧ p0 ≤ 2) (h2 : ¬ p0 = ru) (e : F_X9_act d ru gr tr rD rR rG rF hnx hct = (n2, c2, D2, R2, G2, F2)) : F_X9_rule cy d ru gr tr rD rR rG rF hnx hct tkn akn cmp refu p0 = ((1 : Int), p0, n2, c2, (0 : Int), (0 : Int), (0 : Int), refu, D2, R2, G2, F2) := by
  unfold F_X9_rule F_X9_stands
  rw [if_neg (show ¬ cy ≤ 0 from by omega), lf_b_e, if_neg (show ¬ (1 : Int) = 0 from by decide), if_neg (show ¬ p0 < 0 from by omega), if_neg (show ¬ 3 ≤ p0 from by omega), if_neg h2, e, lf_p_e, lf_p_e, lf_p_e, lf_p_e, lf_p_e]
theorem ru_x0 (h : cy ≤ 0 ∨ p0 < 0 ∨ 2 < p0 ∨ p0 = ru) : F_X9_rule cy d ru gr tr rD rR rG rF hnx hct tkn akn cmp refu p0 = ((0 : Int), ru, hnx, hct, tkn, akn, cmp, dnR refu 2, rD, rR, rG, rF) := by
  unfold F_X9_rule F_X9_rule_27 F_X9_stands
  by_cases q0 : cy ≤ 0
  · rw [if_pos q0, lf_b_e, if_pos rfl]
    rfl
  rw [if_neg q0, lf_b_e, if_neg (show ¬ (1 : Int) = 0 from by decide)]
  by_cases q1 : p0 < 0
  · rw [if_pos q1]
    rfl
  rw [if_neg q1]
  by_cases q2 : 3 ≤ p0
  · rw [if_pos q2]
    rfl
  rw [if_neg q2, if_pos (show p0 = ru from by omega)]
  rfl
theorem ru_m1 (hi : ¬ isc = 0) (h : 0 ≤ p0 ∧ p0 ≤ 2) (h2 : ¬ now 1 = p0) (e : F_X10_keeps und nwst now kept = (u2, w2, K2)) : F_X10_rule isc und nwst refM now kept p0 = ((1 : Int), u2, w2, lf_up now (1 : Int) p0, K2, refM) := by
  unfold F_X10_rule lf_isin
  rw [if_neg hi, if_pos h, if_neg (show ¬ (1 : Int) = 0 from by decide), if_neg (show ¬ now (Int.toNat (1 : Int)) = p0 from h2), e, lf_p_e, lf_p_e]
theorem ru_m0 (h : isc = 0 ∨ p0 < 0 ∨ 2 < p0 ∨ now 1 = p0) : F_X10_rule isc und nwst refM now kept p0 = ((0 : Int), und, nwst, now, kept, dnR refM 2) := by
  unfold F_X10_rule F_X10_rule_29 lf_isin
  by_cases q0 : isc = 0
  · rw [if_pos q0]
    rfl
  rw [if_neg q0]
  by_cases q1 : 0 ≤ p0 ∧ p0 ≤ 2
  · rw [if_pos q1, if_neg (show ¬ (1 : Int) = 0 from by decide), if_pos (show now (Int.toNat (1 : Int)) = p0 from by
      have : now (Int.toNat (1 : Int)) = now 1 := rfl
      omega)]
    rfl
  · rw [if_neg q1, if_pos rfl]
    rfl
/-- what an act leaves, or what stands where it is refused -/
def acO (nK : Nat) (d ru gr d2 ru2 gr2 : Int) (tr tr2 now2 : Nat → Int) (n2 c2 : Int) (D2 R2 G2 : Nat → Int) (F2 : Nat → Nat → Int) (w2 u2 : Int) (K2 : Nat → Int) (tkn akn cmp t2 a2 m2 : Int) : Prop := stB nK d2 ru2 gr2 tr2 ∧ ndH nK d2 ru2 gr2 tr2 now2 ∧ hsH nK n2 c2 D2 R2 G2 F2 w2 u2 K2 ∧ ((d2 = d ∧ ru2 = ru ∧ gr2 = gr ∧ tr2 = tr ∧ t2 = tkn ∧ a2 = akn ∧ m2 = cmp) ∨ (t2 = 0 ∧ a2 = 0 ∧ m2 = 0))
theorem ru_t (hK : nK ≤ 6) (hcy : 10 ≤ cy) (hi : isc = 1) (hB : stB nK d ru gr tr) (hN : ndH nK d ru gr tr now) (hH : hsH nK hnx hct rD rR rG rF nwst und kept) (hr : refu = refM) : ∃ r ru2 n2 c2 t2 a2 m2 f2 D2 R2 G2 F2 u2 w2 N2 K2, F_X9_rule cy d ru gr tr rD rR rG rF hnx hct tkn akn cmp refu p0 = (r, ru2, n2, c2, t2, a2, m2, f2, D2, R2, G2, F2) ∧ F_X10_rule isc und nwst refM now kept p0 = (r, u2, w2, N2, K2, f2) ∧ acO nK d ru gr d ru2 gr tr tr N2 n2 c2 D2 R2 G2 F2 w2 u2 K2 tkn akn cmp t2 a2 m2 := by
  subst hr
  by_cases q : (0 ≤ p0 ∧ p0 ≤ 2) ∧ ¬ p0 = ru
  · obtain ⟨n2, c2, D2, R2, G2, F2, u2, w2, K2, e1, e2, e3⟩ := hs_keep hK hH hB hN (fun k _ => rfl)
    refine ⟨_, _, _, _, _, _, _, _, _, _, _, _, _, _, _, _, ru_x1 (by omega) q.1 q.2 e1, ru_m1 (by omega) q.1 (fun r => q.2 (r.symm.trans hN.2.1)) e2, ⟨hB.1, q.1, hB.2.2.1, hB.2.2.2⟩, ⟨?_, ?_, ?_, fun k hk => ?_⟩, e3, Or.inr ⟨rfl, rfl, rfl⟩⟩
    · rw [lf_up_o (by decide)]
      exact hN.1
    · rw [lf_up_y (by decide)]
    · rw [lf_up_o (by decide)]
      exact hN.2.2.1
    · rw [lf_up_o (by omega)]
      exact hN.2.2.2 k hk
  · refine ⟨_, _, _, _, _, _, _, _, _, _, _, _, _, _, _, _, ru_x0 (by omega), ru_m0 (by have := hN.2.1; omega), hB, hN, hH, Or.inl ⟨rfl, rfl, rfl, rfl, rfl, rfl, rfl⟩⟩
theorem gn_x1 (h : 1 ≤ p0 ∧ p0 ≤ 60 ∧ p0 < cy) (h2 : ¬ p0 = gr) (e : F_X9_act d ru gr tr rD rR rG rF hnx hct = (n2, c2, D2, R2, G2, F2)) : F_X9_green cy d ru gr tr rD rR rG rF hnx hct tkn akn cmp refu p0 = ((1 : Int), p0, n2, c2, (0 : Int), (0 : Int), (0 : Int), refu, D2, R2, G2, F2) := by
  unfold F_X9_green
  rw [ag_1, decide_eq_true h, lf_b_e, if_neg (show ¬ b2 true = 0 from by decide), if_neg h2, e, lf_p_e, lf_p_e, lf_p_e, lf_p_e, lf_p_e]
theorem gn_x0 (h : ¬ (1 ≤ p0 ∧ p0 ≤ 60 ∧ p0 < cy) ∨ p0 = gr) : F_X9_green cy d ru gr tr rD rR rG rF hnx hct tkn akn cmp refu p0 = ((0 : Int), gr, hnx, hct, tkn, akn, cmp, dnR refu 2, rD, rR, rG, rF) := by
  unfold F_X9_green F_X9_green_22
  rw [ag_1, lf_b_e]
  by_cases q : 1 ≤ p0 ∧ p0 ≤ 60 ∧ p0 < cy
  · rw [decide_eq_true q, if_neg (show ¬ b2 true = 0 from by decide), if_pos (show p0 = gr from h.elim (fun r => absurd q r) (fun r => r))]
    rfl
  · rw [decide_eq_false q, if_pos (show b2 false = 0 from rfl)]
    rfl
theorem gn_m1 (hi : ¬ isc = 0) (h : 1 ≤ p0 ∧ p0 ≤ 60 ∧ p0 < bar 4) (h2 : ¬ now 2 = p0) (e : F_X10_keeps und nwst now kept = (u2, w2, K2)) : F_X10_green isc und nwst refM bar now kept p0 = ((1 : Int), u2, w2, lf_up now (2 : Int) p0, K2, refM) := by
  unfold F_X10_green
  rw [if_neg hi, gl_1, decide_eq_true h, lf_b_e, if_neg (show ¬ b2 true = 0 from by decide), if_neg (show ¬ now (Int.toNat (2 : Int)) = p0 from h2), e, lf_p_e, lf_p_e]
theorem gn_m0 (h : isc = 0 ∨ ¬ (1 ≤ p0 ∧ p0 ≤ 60 ∧ p0 < bar 4) ∨ now 2 = p0) : F_X10_green isc und nwst refM bar now kept p0 = ((0 : Int), und, nwst, now, kept, dnR refM 2) := by
  unfold F_X10_green F_X10_green_27
  by_cases q0 : isc = 0
  · rw [if_pos q0]
    rfl
  rw [if_neg q0, gl_1, lf_b_e]
  by_cases q : 1 ≤ p0 ∧ p0 ≤ 60 ∧ p0 < bar 4
  · rw [decide_eq_true q, if_neg (show ¬ b2 true = 0 from by decide), if_pos (show now (Int.toNat (2 : Int)) = p0 from h.elim (fun r => absurd r q0) (fun r => r.elim (fun r => absurd q r) (fun r => r)))]
    rfl
  · rw [decide_eq_false q, if_pos (show b2 false = 0 from rfl)]
    rfl
theorem gn_t (hK : nK ≤ 6) (hcy : bar 4 = cy) (hi : isc = 1) (hB : stB nK d ru gr tr) (hN : ndH nK d ru gr tr now) (hH : hsH nK hnx hct rD rR rG rF nwst und kept) (hr : refu = refM) : ∃ r gr2 n2 c2 t2 a2 m2 f2 D2 R2 G2 F2 u2 w2 N2 K2, F_X9_green cy d ru gr tr rD rR rG rF hnx hct tkn akn cmp refu p0 = (r, gr2, n2, c2, t2, a2, m2, f2, D2, R2, G2, F2) ∧ F_X10_green isc und nwst refM bar now kept p0 = (r, u2, w2, N2, K2, f2) ∧ acO nK d ru gr d ru gr2 tr tr N2 n2 c2 D2 R2 G2 F2 w2 u2 K2 tkn akn cmp t2 a2 m2 := by
  subst hr
  by_cases q : (1 ≤ p0 ∧ p0 ≤ 60 ∧ p0 < cy) ∧ ¬ p0 = gr
  · obtain ⟨n2, c2, D2, R2, G2, F2, u2, w2, K2, e1, e2, e3⟩ := hs_keep hK hH hB hN (fun k _ => rfl)
    refine ⟨_, _, _, _, _, _, _, _, _, _, _, _, _, _, _, _, gn_x1 q.1 q.2 e1, gn_m1 (by omega) (by rw [hcy]; exact q.1) (fun r => q.2 (r.symm.trans hN.2.2.1)) e2, ⟨hB.1, hB.2.1, ⟨q.1.1, q.1.2.1⟩, hB.2.2.2⟩, ⟨?_, ?_, ?_, fun k hk => ?_⟩, e3, Or.inr ⟨rfl, rfl, rfl⟩⟩
    · rw [lf_up_o (by decide)]
      exact hN.1
    · rw [lf_up_o (by decide)]
      exact hN.2.1
    · rw [lf_up_y (by decide)]
    · rw [lf_up_o (by omega)]
      exact hN.2.2.2 k hk
  · have q' : ¬ (1 ≤ p0 ∧ p0 ≤ 60 ∧ p0 < cy) ∨ p0 = gr := by
      by_cases z : 1 ≤ p0 ∧ p0 ≤ 60 ∧ p0 < cy
      · exact Or.inr (Decidable.byContradiction (fun r => q ⟨z, r⟩))
      · exact Or.inl z
    refine ⟨_, _, _, _, _, _, _, _, _, _, _, _, _, _, _, _, gn_x0 q', gn_m0 (Or.inr (by rw [hcy]; exact q'.elim Or.inl (fun r => Or.inr (hN.2.2.1.trans r.symm)))), hB, hN, hH, Or.inl ⟨rfl, rfl, rfl, rfl, rfl, rfl, rfl⟩⟩
theorem tr_x1 (h : 0 ≤ p0 ∧ p0 < (nK : Int)) (h1 : 0 ≤ p1 ∧ p1 ≤ 9) (h2 : ¬ p1 = tr p0.toNat) (e : F_X9_act d ru gr tr rD rR rG rF hnx hct = (n2, c2, D2, R2, G2, F2)) : F_X9_trust (nK : Int) d ru gr tr rD rR rG rF hnx hct tkn akn cmp refu p0 p1 = ((1 : Int), lf_up tr p0 p1, n2, c2, (0 : Int), (0 : Int), (0 : Int), refu, D2, R2, G2, F2) := by
  unfold F_X9_trust
  rw [ik_x, if_pos h, lf_b_e, if_neg (show ¬ (1 : Int) = 0 from by decide), if_neg (show ¬ p1 < 0 from by omega), if_neg (show ¬ 9 < p1 from by omega), if_neg h2, e, lf_p_e, lf_p_e, lf_p_e, lf_p_e, lf_p_e]
theorem tr_x0 (h : ¬ (0 ≤ p0 ∧ p0 < (nK : Int)) ∨ ¬ (0 ≤ p1 ∧ p1 ≤ 9) ∨ p1 = tr p0.toNat) : F_X9_trust (nK : Int) d ru gr tr rD rR rG rF hnx hct tkn akn cmp refu p0 p1 = ((0 : Int), tr, hnx, hct, tkn, akn, cmp, dnR refu 2, rD, rR, rG, rF) := by
  unfold F_X9_trust F_X9_trust_31
  rw [ik_x, lf_b_e]
  by_cases q : 0 ≤ p0 ∧ p0 < (nK : Int)
  · rw [if_pos q, if_neg (show ¬ (1 : Int) = 0 from by decide)]
    by_cases q1 : p1 < 0
    · rw [if_pos q1]
      rfl
    rw [if_neg q1]
    by_cases q2 : 9 < p1
    · rw [if_pos q2]
      rfl
    rw [if_neg q2, if_pos (show p1 = tr (Int.toNat p0) from h.elim (fun r => absurd q r) (fun r => r.elim (fun r => absurd ⟨by omega, by omega⟩ r) (fun r => r)))]
    rfl
  · rw [if_neg q, if_pos rfl]
    rfl
theorem tr_m1 (hm : many 2 = (nK : Int)) (h : 0 ≤ p0 ∧ p0 < (nK : Int)) (h1 : 0 ≤ p1 ∧ p1 ≤ 9) (h2 : ¬ now (3 + p0.toNat) = p1) (e : F_X10_keeps und nwst now kept = (u2, w2, K2)) : F_X10_trust und nwst refM many now kept p0 p1 = ((1 : Int), u2, w2, lf_up now ((3 : Int) + p0) p1, K2, refM) := by
  unfold F_X10_trust F_X10_trustsOf lf_isin
  rw [ik_m hm, if_pos h, lf_b_e, if_neg (show ¬ (1 : Int) = 0 from by decide), if_pos h1, if_neg (show ¬ (1 : Int) = 0 from by decide), lf_b_e, show Int.toNat ((3 : Int) + p0) = 3 + p0.toNat from by omega, if_neg h2, e, lf_p_e, lf_p_e]
theorem tr_m0 (hm : many 2 = (nK : Int)) (h : ¬ (0 ≤ p0 ∧ p0 < (nK : Int)) ∨ ¬ (0 ≤ p1 ∧ p1 ≤ 9) ∨ now (3 + p0.toNat) = p1) : F_X10_trust und nwst refM many now kept p0 p1 = ((0 : Int), und, nwst, now, kept, dnR refM 2) := by
  unfold F_X10_trust F_X10_trust_29 F_X10_trustsOf lf_isin
  rw [ik_m hm, lf_b_e]
  by_cases q : 0 ≤ p0 ∧ p0 < (nK : Int)
  · rw [if_pos q, if_neg (show ¬ (1 : Int) = 0 from by decide)]
    by_cases q1 : 0 ≤ p1 ∧ p1 ≤ 9
    · rw [if_pos q1, if_neg (show ¬ (1 : Int) = 0 from by decide), lf_b_e, show Int.toNat ((3 : Int) + p0) = 3 + p0.toNat from by omega, if_pos (show now (3 + p0.toNat) = p1 from h.elim (fun r => absurd q r) (fun r => r.elim (fun r => absurd q1 r) (fun r => r)))]
      rfl
    · rw [if_neg q1, if_pos rfl]
      rfl
  · rw [if_neg q, if_pos rfl]
    rfl
theorem tr_t (hK : nK ≤ 6) (hm : many 2 = (nK : Int)) (hB : stB nK d ru gr tr) (hN : ndH nK d ru gr tr now) (hH : hsH nK hnx hct rD rR rG rF nwst und kept) (hr : refu = refM) : ∃ r tr2 n2 c2 t2 a2 m2 f2 D2 R2 G2 F2 u2 w2 N2 K2, F_X9_trust (nK : Int) d ru gr tr rD rR rG rF hnx hct tkn akn cmp refu p0 p1 = (r, tr2, n2, c2, t2, a2, m2, f2, D2, R2, G2, F2) ∧ F_X10_trust und nwst refM many now kept p0 p1 = (r, u2, w2, N2, K2, f2) ∧ acO nK d ru gr d ru gr tr tr2 N2 n2 c2 D2 R2 G2 F2 w2 u2 K2 tkn akn cmp t2 a2 m2 := by
  subst hr
  by_cases q : (0 ≤ p0 ∧ p0 < (nK : Int)) ∧ (0 ≤ p1 ∧ p1 ≤ 9) ∧ ¬ p1 = tr p0.toNat
  · obtain ⟨n2, c2, D2, R2, G2, F2, u2, w2, K2, e1, e2, e3⟩ := hs_keep hK hH hB hN (fun k _ => rfl)
    obtain ⟨q1, q2, q3⟩ := q
    refine ⟨_, _, _, _, _, _, _, _, _, _, _, _, _, _, _, _, tr_x1 q1 q2 q3 e1, tr_m1 hm q1 q2 (fun r => q3 (r.symm.trans (hN.2.2.2 p0.toNat (by omega)).1)) e2, ⟨hB.1, hB.2.1, hB.2.2.1, fun k hk => ?_⟩, ⟨?_, ?_, ?_, fun k hk => ?_⟩, e3, Or.inr ⟨rfl, rfl, rfl⟩⟩
    · by_cases z : k = p0.toNat
      · rw [lf_up_y z]
        exact q2
      · rw [lf_up_o z]
        exact hB.2.2.2 k hk
    · rw [lf_up_o (by omega)]
      exact hN.1
    · rw [lf_up_o (by omega)]
      exact hN.2.1
    · rw [lf_up_o (by omega)]
      exact hN.2.2.1
    · by_cases z : k = p0.toNat
      · rw [lf_up_y (show 3 + k = Int.toNat ((3 : Int) + p0) from by omega), lf_up_y z]
        exact ⟨rfl, q2⟩
      · rw [lf_up_o (show ¬ 3 + k = Int.toNat ((3 : Int) + p0) from by omega), lf_up_o z]
        exact hN.2.2.2 k hk
  · have q' : ¬ (0 ≤ p0 ∧ p0 < (nK : Int)) ∨ ¬ (0 ≤ p1 ∧ p1 ≤ 9) ∨ p1 = tr p0.toNat := by
      by_cases z : 0 ≤ p0 ∧ p0 < (nK : Int)
      · by_cases z2 : 0 ≤ p1 ∧ p1 ≤ 9
        · exact Or.inr (Or.inr (Decidable.byContradiction (fun r => q ⟨z, z2, r⟩)))
        · exact Or.inr (Or.inl z2)
      · exact Or.inl z
    refine ⟨_, _, _, _, _, _, _, _, _, _, _, _, _, _, _, _, tr_x0 q', tr_m0 hm ?_, hB, hN, hH, Or.inl ⟨rfl, rfl, rfl, rfl, rfl, rfl, rfl⟩⟩
    by_cases z : 0 ≤ p0 ∧ p0 < (nK : Int)
    · refine Or.inr (q'.elim (fun r => absurd z r) (fun r => r.elim Or.inl (fun r => Or.inr ?_)))
      exact ((hN.2.2.2 p0.toNat (by omega)).1).trans r.symm
    · exact Or.inl z
theorem un_x0 (h : hct = 0) : F_X9_undo d ru gr tr rD rR rG rF hnx hct tkn akn cmp refu = ((0 : Int), hnx, hct, d, ru, gr, tr, tkn, akn, cmp, dnR refu 4) := by
  unfold F_X9_undo F_X2_giveBack
  rw [if_pos h, lf_p_e, lf_p_e, lf_p_e, lf_p_e, lf_p_e, lf_p_e, if_pos rfl]
  rfl
theorem un_m0 (h : und = 0) : F_X10_undo und nwst refM now kept = ((0 : Int), und, nwst, dnR refM 4, now) := by
  unfold F_X10_undo
  rw [if_pos h]
  rfl
theorem un_t (hK : nK ≤ 6) (hB : stB nK d ru gr tr) (hN : ndH nK d ru gr tr now) (hH : hsH nK hnx hct rD rR rG rF nwst und kept) (hr : refu = refM) : ∃ r n2 c2 d2 ru2 gr2 tr2 t2 a2 m2 f2 u2 w2 N2, F_X9_undo d ru gr tr rD rR rG rF hnx hct tkn akn cmp refu = (r, n2, c2, d2, ru2, gr2, tr2, t2, a2, m2, f2) ∧ F_X10_undo und nwst refM now kept = (r, u2, w2, f2, N2) ∧ acO nK d ru gr d2 ru2 gr2 tr tr2 N2 n2 c2 rD rR rG rF w2 u2 kept tkn akn cmp t2 a2 m2 := by
  subst hr
  by_cases q : hct = 0
  · exact ⟨_, _, _, _, _, _, _, _, _, _, _, _, _, _, un_x0 q, un_m0 (hH.1.2.2.1.symm.trans q), hB, hN, hH, Or.inl ⟨rfl, rfl, rfl, rfl, rfl, rfl, rfl⟩⟩
  · obtain ⟨n2, d2, ru2, gr2, t2, w2, N2, e1, e2, e3, e4, e5⟩ := hs_back (now := now) (tX := tr) (d := d) (ru := ru) (gr := gr) (refu := refu) hK hH q
    refine ⟨1, n2, hct - 1, d2, ru2, gr2, t2, 0, 0, 0, refu, und - 1, w2, N2, ?_, e2, e4, e5, e3, Or.inr ⟨rfl, rfl, rfl⟩⟩
    unfold F_X9_undo
    rw [e1, lf_p_e, lf_p_e, lf_p_e, lf_p_e, lf_p_e, lf_p_e, if_neg (show ¬ (1 : Int) = 0 from by decide)]
end AC
end
section
/-! 9c -/
/-! least, on both sides; who goes by himself -/
def fst1 (G : Nat → Bool) : Nat → Nat → Int
  | 0, _ => -1
  | f + 1, g => if G g = true then (g : Int) else fst1 G f (g + 1)
theorem cnf_0 {f : Nat → Bool} : ∀ n, cnf f n = 0 ↔ ∀ w, w < n → f w = false
  | 0 => ⟨fun _ w hw => absurd hw (Nat.not_lt_zero w), fun _ => rfl⟩
  | n + 1 => by
    have ih := cnf_0 (f := f) n
    have hb := (cnf_le f n).1
    have e : cnf f (n + 1) = cnf f n + b2 (f n) := rfl
    rw [e]
    constructor
    · intro h w hw
      cases hf : f n with
      | true =>
        rw [hf] at h
        have : b2 true = 1 := rfl
        omega
      | false =>
        rw [hf] at h
        have h2 : b2 false = 0 := rfl
        by_cases q : w = n
        · rw [q, hf]
        · exact ih.mp (by omega) w (by omega)
    · intro h
      rw [h n (Nat.lt_succ_self n), ih.mpr (fun w hw => h w (by omega))]
      rfl
section LS
variable {nW nK : Nat} {oC oR oL : Option (List Int)} {s cy ls aw stm d ru gr hnx hct sd sru sgr sA ar pr cr we ha tkn ad aru agr akn rws cmp fnd frl fgr chs chl occ dwn fa pl sM awM isc und nwst rmM moc sdd tk ask red io lg gt icg sg qp ftm ftr ftg mf mp0 p0 p1 p2 p3 p4 : Int} {g clmK pcK kO cA comers code spans nmX tr rD rR rG facts stack str cars gaps known left leaves tab atr atd ats sw ss sec oct refu gM many bar kinds walkers cf ce codes now kept mrw mo refM asd isCar gapM isG isH crM wtM goM hmM prM ciM pile whn : Nat → Int} {rF : Nat → Nat → Int}
noncomputable def acS (oC oR : Option (List Int)) (nW : Nat) (cy ls : Int) (kO cA clmK pcK : Nat → Int) (d : Int) (tr : Nat → Int) (ru : Int) (g : Nat) : Bool := (List.range nW).all (fun w => decide ((weS oC oR nW cy ls kO cA clmK pcK d tr ru (g : Int) 0).2.1 w = 1))
theorem acS_i {g : Nat} : acS oC oR nW cy ls kO cA clmK pcK d tr ru g = true ↔ ∀ w, w < nW → (weS oC oR nW cy ls kO cA clmK pcK d tr ru (g : Int) 0).2.1 w = 1 := by
  unfold acS
  rw [List.all_eq_true]
  exact ⟨fun h w hw => of_decide_eq_true (h w (List.mem_range.mpr hw)), fun h w hw => decide_eq_true (h w (List.mem_range.mp hw))⟩
theorem ac_x {g : Nat} (hP : plH nW nK cy ls oC oR kO cA clmK pcK comers code spans ar) (h : SFl oC oR nW cy ls kO cA clmK pcK d tr ru (g : Int) 0 left leaves pr cr we ha) : F_X7_allCross (nW : Int) cr = b2 (acS oC oR nW cy ls kO cA clmK pcK d tr ru g) := by
  have hn : nW ≤ 12 := hP.1
  have hz := we_z (d := d) (tr := tr) (ru := ru) (gr := (g : Int)) (A := 0) hP
  obtain ⟨e1, e2⟩ := rg_all hn
  have key : cr = F_X4_everyone (nW : Int) ↔ acS oC oR nW cy ls kO cA clmK pcK d tr ru g = true := by
    rw [acS_i]
    constructor
    · intro h1 w hw
      have b := h.2.2.1.2 w (by omega)
      rw [h1, e2, decide_eq_true hw] at b
      exact of_decide_eq_true b.symm
    · intro h1
      refine bt_ext h.2.2.1.1 e1 (fun w hw => ?_)
      rw [h.2.2.1.2 w hw, e2]
      by_cases q : w < nW
      · rw [h1 w q, decide_eq_true q]
        rfl
      · rw [(hz.2 w).2.2 (by omega), decide_eq_false q]
        rfl
  unfold F_X7_allCross
  rw [lf_b_e]
  cases hh : acS oC oR nW cy ls kO cA clmK pcK d tr ru g with
  | true =>
    rw [if_pos (key.mpr hh)]
    rfl
  | false =>
    rw [if_neg (fun r => Bool.noConfusion (hh.symm.trans (key.mp r)))]
    rfl
theorem ls_run {m : Nat} (hP : plH nW nK cy ls oC oR kO cA clmK pcK comers code spans ar) (hd : 0 ≤ d ∧ d ≤ 999) (ht : ∀ k, k < nK → 0 ≤ tr k ∧ tr k ≤ 9) (hru : 0 ≤ ru) (hm : m ≤ 60) : ∀ (f g : Nat) (sd sru sgr sA pr cr we ha : Int) (facts stack cars gaps str known left leaves : Nat → Int), g ≤ m + 1 → m + 1 - g < f → sfH oC oR nW nK cy ls kO cA clmK pcK sd str sru sgr sA cars gaps known left leaves pr cr we ha → (F_X1_leastGreen_12 cy ls (nK : Int) clmK pcK (nW : Int) kO cA comers code spans ar d ru tr f (m : Int) (g : Int) sd sru sgr sA pr cr we ha facts stack cars gaps str known left leaves).1 = fst1 (acS oC oR nW cy ls kO cA clmK pcK d tr ru) (m + 1 - g) g ∧ sfS oC oR nW nK cy ls kO cA clmK pcK (F_X1_leastGreen_12 cy ls (nK : Int) clmK pcK (nW : Int) kO cA comers code spans ar d ru tr f (m : Int) (g : Int) sd sru sgr sA pr cr we ha facts stack cars gaps str known left leaves).2 := by
  intro f
  induction f with
  | zero => intro g sd sru sgr sA pr cr we ha facts stack cars gaps str known left leaves h1 h2; omega
  | succ f ih =>
    intro g sd sru sgr sA pr cr we ha facts stack cars gaps str known left leaves h1 h2 hS
    have e0 : F_X1_leastGreen_12 cy ls (nK : Int) clmK pcK (nW : Int) kO cA comers code spans ar d ru tr (f + 1) (m : Int) (g : Int) sd sru sgr sA pr cr we ha facts stack cars gaps str known left leaves = F_X1_leastGreen_12b cy ls (nK : Int) clmK pcK (nW : Int) kO cA comers code spans ar d ru tr (F_X1_leastGreen_12 cy ls (nK : Int) clmK pcK (nW : Int) kO cA comers code spans ar d ru tr f) (m : Int) (g : Int) sd sru sgr sA pr cr we ha facts stack cars gaps str known left leaves := rfl
    rw [e0]
    unfold F_X1_leastGreen_12b
    by_cases q : g = m + 1
    · rw [if_pos (by omega), show m + 1 - g = 0 from by omega]
      exact ⟨rfl, hS⟩
    · obtain ⟨f2, s2, c2, g2, t2, k2, l2, v2, pr2, cr2, we2, ha2, e, e1, hsf, q2, q1⟩ := ly_x (facts := facts) (stack := stack) (p1 := ru) (p2 := (g : Int)) (p3 := 0) hP hS hd ht hru (show 0 ≤ (g : Int) ∧ (g : Int) ≤ 60 from ⟨by omega, by omega⟩) rg_0
      rw [if_neg (by omega), e, lf_p_e, lf_p_e, lf_p_e, lf_p_e, lf_p_e, lf_p_e, lf_p_e, lf_p_e, lf_p_e, lf_p_e, lf_p_e, lf_p_e, lf_p_e, lf_p_e, lf_p_e, lf_b_e, ac_x hP q2, show m + 1 - g = (m + 1 - (g + 1)) + 1 from by omega]
      have eF : fst1 (acS oC oR nW cy ls kO cA clmK pcK d tr ru) ((m + 1 - (g + 1)) + 1) g = if acS oC oR nW cy ls kO cA clmK pcK d tr ru g = true then (g : Int) else fst1 (acS oC oR nW cy ls kO cA clmK pcK d tr ru) (m + 1 - (g + 1)) (g + 1) := rfl
      rw [eF]
      cases hh : acS oC oR nW cy ls kO cA clmK pcK d tr ru g with
      | true =>
        rw [if_neg (show ¬ b2 true = 0 from by decide), if_pos rfl]
        exact ⟨rfl, hsf⟩
      | false =>
        rw [if_pos (show b2 false = 0 from rfl), if_neg (fun r => Bool.noConfusion r)]
        exact ih (g + 1) d ru (g : Int) 0 pr2 cr2 we2 ha2 f2 s2 c2 g2 t2 k2 l2 v2 (by omega) (by omega) hsf
theorem gu_60 (h : 10 ≤ cy ∧ cy ≤ 120) : ∃ m : Nat, F_X7_greensUpTo_a0_60 cy = (m : Int) ∧ m ≤ 60 ∧ 1 ≤ m ∧ ∀ g : Nat, 1 ≤ g → ((1 ≤ (g : Int) ∧ (g : Int) ≤ 60 ∧ (g : Int) < cy) ↔ g ≤ m) := by
  refine ⟨(min 60 (cy - 1)).toNat, ?_, by omega, by omega, fun g hg => by omega⟩
  show min 60 (cy - 1) = _
  omega
noncomputable def leG (oC oR : Option (List Int)) (nW : Nat) (cy ls : Int) (kO cA clmK pcK : Nat → Int) (d : Int) (tr : Nat → Int) (ru : Int) : Int := fst1 (acS oC oR nW cy ls kO cA clmK pcK d tr ru) (min 60 (cy - 1)).toNat 1
theorem ls_c (hP : plH nW nK cy ls oC oR kO cA clmK pcK comers code spans ar) (hS : sfH oC oR nW nK cy ls kO cA clmK pcK sd str sru sgr sA cars gaps known left leaves pr cr we ha) (hB : stB nK d ru gr tr) : (F_X9_least cy ls (nK : Int) clmK pcK (nW : Int) kO cA comers code spans d ru tr facts stack sd str sru sgr sA ar cars gaps known left leaves pr cr we ha).1 = leG oC oR nW cy ls kO cA clmK pcK d tr ru ∧ sfS oC oR nW nK cy ls kO cA clmK pcK (F_X9_least cy ls (nK : Int) clmK pcK (nW : Int) kO cA comers code spans d ru tr facts stack sd str sru sgr sA ar cars gaps known left leaves pr cr we ha).2 := by
  obtain ⟨m, e, h1, h2, h3⟩ := gu_60 hP.2.2.1
  have em : (min 60 (cy - 1)).toNat = m := by
    have e' : min 60 (cy - 1) = (m : Int) := e
    omega
  unfold F_X9_least F_X1_leastGreen leG
  rw [st_1x hP.2.2.1.1, lf_b_e, if_neg (show ¬ (1 : Int) = 0 from by decide), lf_b_e, e, em]
  have hx := ls_run (m := m) hP hB.1 hB.2.2.2 hB.2.1.1 h1 62 1 sd sru sgr sA pr cr we ha facts stack cars gaps str known left leaves (by omega) (by omega) hS
  rw [show m + 1 - 1 = m from by omega] at hx
  have e1 : ((1 : Nat) : Int) = 1 := rfl
  rw [e1] at hx
  generalize F_X1_leastGreen_12 cy ls (nK : Int) clmK pcK (nW : Int) kO cA comers code spans ar d ru tr 62 (m : Int) (1 : Int) sd sru sgr sA pr cr we ha facts stack cars gaps str known left leaves = R at hx ⊢
  exact hx
/-- the model's -/
theorem ac_m (hP : plH nW nK cy ls oC oR kO cA clmK pcK comers code spans ar) {g : Nat} : acS oC oR nW cy ls kO cA clmK pcK d tr ru g = true ↔ (cnf (fun w => decide (2 ≤ (weS oC oR nW cy ls kO cA clmK pcK d tr ru (g : Int) 0).2.1 w)) nW = 0 ∧ cnf (fun w => !abf 0 w && decide ((weS oC oR nW cy ls kO cA clmK pcK d tr ru (g : Int) 0).1 w = -1)) nW = 0) := by
  have hz := we_z (d := d) (tr := tr) (ru := ru) (gr := (g : Int)) (A := 0) hP
  rw [acS_i, cnf_0, cnf_0]
  constructor
  · intro h
    refine ⟨fun w hw => ?_, fun w hw => ?_⟩
    · rw [h w hw]
      rfl
    · have h2 : ¬ (weS oC oR nW cy ls kO cA clmK pcK d tr ru (g : Int) 0).1 w = -1 := fun r => by
        have := ((hz.2 w).1).mp r
        have := h w hw
        omega
      rw [decide_eq_false h2, Bool.and_false]
  · intro h w hw
    have h1 := of_decide_eq_false (h.1 w hw)
    have h2 := h.2 w hw
    have ha0 : abf 0 w = false := bt_0 w
    rw [ha0, Bool.not_false, Bool.true_and] at h2
    have h3 := of_decide_eq_false h2
    have h4 := (hz.2 w).2.1
    have h5 : ¬ (weS oC oR nW cy ls kO cA clmK pcK d tr ru (g : Int) 0).2.1 w = 0 := fun r => h3 (((hz.2 w).1).mpr r)
    omega
theorem lm_run {m : Nat} (hP : plH nW nK cy ls oC oR kO cA clmK pcK comers code spans ar) (h : mdH nW nK cy ls d oC oR oL kO cA clmK pcK many bar kinds walkers cf ce codes now gapM tr) (hru : 0 ≤ ru ∧ ru ≤ 2) (hn1 : now 1 = ru) (hm3 : ∀ g : Nat, 1 ≤ g → ((1 ≤ (g : Int) ∧ (g : Int) ≤ 60 ∧ (g : Int) < cy) ↔ g ≤ m)) : ∀ (f g : Nat) (c55 c58 c117 c59 c70 c71 c72 c73 c74 : Int) (a3 a13 a8 a11 a12 a14 a15 a16 a17 a19 : Nat → Int), 1 ≤ g → g ≤ m + 1 → m + 1 - g < f → (F_X10_least_15 many bar kinds walkers cf ce codes now f c55 c58 c117 a3 gapM a13 (g : Int) c59 c70 c71 c72 c73 c74 a8 a11 a12 a14 a15 a16 a17 a19).1 = fst1 (acS oC oR nW cy ls kO cA clmK pcK d tr ru) (m + 1 - g) g := by
  intro f
  induction f with
  | zero => intro g c55 c58 c117 c59 c70 c71 c72 c73 c74 a3 a13 a8 a11 a12 a14 a15 a16 a17 a19 h0 h1 h2; omega
  | succ f ih =>
    intro g c55 c58 c117 c59 c70 c71 c72 c73 c74 a3 a13 a8 a11 a12 a14 a15 a16 a17 a19 h0 h1 h2
    have e0 : F_X10_least_15 many bar kinds walkers cf ce codes now (f + 1) c55 c58 c117 a3 gapM a13 (g : Int) c59 c70 c71 c72 c73 c74 a8 a11 a12 a14 a15 a16 a17 a19 = F_X10_least_15b many bar kinds walkers cf ce codes now (F_X10_least_15 many bar kinds walkers cf ce codes now f) c55 c58 c117 a3 gapM a13 (g : Int) c59 c70 c71 c72 c73 c74 a8 a11 a12 a14 a15 a16 a17 a19 := rfl
    rw [e0]
    unfold F_X10_least_15b
    have hb4 : bar 4 = cy := h.1.2.2.1
    have hg := hm3 g h0
    rw [gl_1, lf_b_e, hb4]
    by_cases q : g = m + 1
    · rw [decide_eq_false (fun r => by have := hg.mp r; omega), if_pos (show b2 false = 0 from rfl), show m + 1 - g = 0 from by omega]
      rfl
    · have hg2 := hg.mpr (by omega)
      obtain ⟨b1, b2', b3, b4, b5, b6, b7, b11, b16, e70, e71, e72, e73, e74, e55, e58, e59, e117, e, hF⟩ := day_x (tk := c55) (ask := c58) (sg := c74) (qp := c117) (isG := a19) (isH := a14) (cr := a15) (wt := a8) (go := a11) (hm := a12) (pr2 := a16) (ci := a17) (pile := a3) (A := 0) (H := 0) (ru := ru) (gr := (g : Int)) h rg_0 rg_0 hg2.1 hg2.2.1 hru
      rw [wkM_0] at hF
      rw [decide_eq_true hg2, if_neg (show ¬ b2 true = 0 from by decide), show now (Int.toNat (1 : Int)) = ru from hn1, e, lf_p_e, lf_p_e, lf_p_e, lf_p_e, lf_p_e, lf_p_e, lf_p_e, lf_p_e, lf_p_e, lf_p_e, lf_p_e, lf_p_e, lf_p_e, lf_p_e, lf_p_e, lf_p_e, lf_p_e, lf_b_e]
      have hW : nW ≤ 12 := h.2.1
      have hm3' : many 3 = (nW : Int) := h.1.1
      have x1 : F_X10_toldOfDay_a0_1 many b4 = cnf (fun w => decide (2 ≤ (weS oC oR nW cy ls kO cA clmK pcK d tr ru (g : Int) 0).2.1 w)) nW := by
        unfold F_X10_toldOfDay_a0_1
        rw [lf_b_e, lf_b_e, hm3']
        exact ct_m hW (fun w hw => (hF.1 w hw).2.2.2.1)
      have x3 : F_X10_toldOfDay_a0_3 many b1 = cnf (fun w => !abf 0 w && decide ((weS oC oR nW cy ls kO cA clmK pcK d tr ru (g : Int) 0).1 w = -1)) nW := by
        unfold F_X10_toldOfDay_a0_3
        rw [lf_b_e]
        exact nc_m hm3' hW (fun w hw => (hF.1 w hw).1)
      have hk := ac_m (d := d) (tr := tr) (ru := ru) hP (g := g)
      have go : fst1 (acS oC oR nW cy ls kO cA clmK pcK d tr ru) (m + 1 - g) g = if acS oC oR nW cy ls kO cA clmK pcK d tr ru g = true then (g : Int) else fst1 (acS oC oR nW cy ls kO cA clmK pcK d tr ru) (m + 1 - (g + 1)) (g + 1) := by
        rw [show m + 1 - g = (m + 1 - (g + 1)) + 1 from by omega]
        rfl
      rw [x1, go]
      by_cases y1 : cnf (fun w => decide (2 ≤ (weS oC oR nW cy ls kO cA clmK pcK d tr ru (g : Int) 0).2.1 w)) nW = 0
      · rw [if_pos y1, lf_b_e, x3]
        by_cases y3 : cnf (fun w => !abf 0 w && decide ((weS oC oR nW cy ls kO cA clmK pcK d tr ru (g : Int) 0).1 w = -1)) nW = 0
        · rw [if_pos y3, if_pos (hk.mpr ⟨y1, y3⟩)]
        · rw [if_neg y3, if_neg (fun r => y3 (hk.mp r).2)]
          exact ih (g + 1) _ _ _ _ _ _ _ _ _ _ _ _ _ _ _ _ _ _ _ (by omega) (by omega) (by omega)
      · rw [if_neg y1, if_neg (fun r => y1 (hk.mp r).1)]
        exact ih (g + 1) _ _ _ _ _ _ _ _ _ _ _ _ _ _ _ _ _ _ _ (by omega) (by omega) (by omega)
theorem ls_mm (hP : plH nW nK cy ls oC oR kO cA clmK pcK comers code spans ar) (hM : pmH nW nK cy ls oC oR oL kO cA clmK pcK many bar kinds walkers cf ce codes) (hB : stB nK d ru gr tr) (hn : ndH nK d ru gr tr now) (hi : isc = 1) : (F_X10_least isc tk ask red io lg gt icg sg qp many bar kinds walkers cf ce codes now isCar gapM isG isH crM wtM goM hmM prM ciM pile).1 = leG oC oR nW cy ls kO cA clmK pcK d tr ru := by
  obtain ⟨t, q, r, p, g2, i2, e, h1, h2⟩ := mc_x (tk := tk) (ask := ask) (red := red) (qp := qp) (kinds := kinds) (walkers := walkers) (isCar := isCar) (gaps := gapM) (waits := wtM) (goes := goM) (harms := hmM) (pile := pile) hB.1 (show 1 ≤ cy from by have := hP.2.2.1.1; omega) hP.2.2.1.2 hM.2.2.1 hn.1 hM.2.2.2.2.2.2.1 hP.2.2.2.2.2.2.1.2
  obtain ⟨m, em, g1, g3, g4⟩ := gu_60 hP.2.2.1
  have em' : (min 60 (cy - 1)).toNat = m := by
    have e' : min 60 (cy - 1) = (m : Int) := em
    omega
  unfold F_X10_least leG
  rw [if_neg (show ¬ isc = 0 from by omega), e, lf_p_e, lf_p_e, lf_p_e, lf_p_e, lf_p_e, em']
  have hx := lm_run (d := d) (tr := tr) (ru := ru) hP (md_of hP hM hB.1 hn h2) hB.2.1 hn.2.1 g4 62 1 t q r red io lg gt icg sg p i2 wtM goM hmM isH crM prM ciM isG (Nat.le_refl 1) (by omega) (by omega)
  rw [show m + 1 - 1 = m from by omega] at hx
  exact hx
/-- who goes by himself: the class's -/
def goF (pc : Int) (lf : Nat → Int) (G : Nat → Bool) : Nat → Nat → Bool
  | 0, _ => false
  | f + 1, s => if 300 ≤ s then false else if pc ≤ lf s then false else if G s = true then true else goF pc lf G f (s + 1)
noncomputable def goW (oC oR : Option (List Int)) (nW : Nat) (cy ls : Int) (kO cA clmK pcK : Nat → Int) (d : Int) (tr : Nat → Int) (ru gr : Int) (w : Nat) : Bool := goF (pcK (kO w).toNat) (leS nW cy ls kO cA tr ru gr 0) (fun s => gR oC oR cy nW kO cA clmK pcK d tr w s 0) 302 (cA w).toNat
theorem gb_in {K4 : Int → Int → (Nat → Int) → (Nat → Int) → (Nat → Int) → Int × (Nat → Int) × (Nat → Int) × (Nat → Int)} {l1 : Int} {w : Nat} {tX : Nat → Int} (hP : plH nW nK cy ls oC oR kO cA clmK pcK comers code spans ar) (hd : 0 ≤ d ∧ d ≤ 999) (ht : ∀ k, k < nK → 0 ≤ tX k ∧ tX k ≤ 9) (hcg : twf nW kO tX = twf nW kO tr) (hD : SFd oC d cy cars gaps) (hl : ∀ j, j < 300 → left j = leS nW cy ls kO cA tr ru gr 0 j) (hw : w < nW) : ∀ (f s : Nat) (known facts stack : Nat → Int), s ≤ 300 → 300 - s < f → kOK nW (gR oC oR cy nW kO cA clmK pcK d tr) known → ∃ k2 f2 s2, F_X7_goersByThemselves_44 clmK pcK kO cA code spans d tX ar gaps left l1 (w : Int) K4 f (pcK (kO w).toNat) (s : Int) known facts stack = K4 (if goF (pcK (kO w).toNat) (leS nW cy ls kO cA tr ru gr 0) (fun s => gR oC oR cy nW kO cA clmK pcK d tr w s 0) f s = true then lf_o lf_ior l1 (lf_o lf_ishl (1 : Int) (w : Int)) else l1) ((w : Int) + (1 : Int)) k2 f2 s2 ∧ kOK nW (gR oC oR cy nW kO cA clmK pcK d tr) k2 := by
  intro f
  induction f with
  | zero => intro s known facts stack h1 h2; omega
  | succ f ih =>
    intro s known facts stack h1 h2 hk
    have e0 : F_X7_goersByThemselves_44 clmK pcK kO cA code spans d tX ar gaps left l1 (w : Int) K4 (f + 1) (pcK (kO w).toNat) (s : Int) known facts stack = F_X7_goersByThemselves_44b clmK pcK kO cA code spans d tX ar gaps left l1 (w : Int) K4 (F_X7_goersByThemselves_44 clmK pcK kO cA code spans d tX ar gaps left l1 (w : Int) K4 f) (pcK (kO w).toNat) (s : Int) known facts stack := rfl
    have eG : goF (pcK (kO w).toNat) (leS nW cy ls kO cA tr ru gr 0) (fun s => gR oC oR cy nW kO cA clmK pcK d tr w s 0) (f + 1) s = if 300 ≤ s then false else if pcK (kO w).toNat ≤ leS nW cy ls kO cA tr ru gr 0 s then false else if gR oC oR cy nW kO cA clmK pcK d tr w s 0 = true then true else goF (pcK (kO w).toNat) (leS nW cy ls kO cA tr ru gr 0) (fun s => gR oC oR cy nW kO cA clmK pcK d tr w s 0) f (s + 1) := rfl
    rw [e0, eG]
    unfold F_X7_goersByThemselves_44b F_X7_goersByThemselves_89
    by_cases q : 300 ≤ s
    · rw [if_pos (by omega), if_pos q, if_neg (fun r => Bool.noConfusion r)]
      exact ⟨known, facts, stack, rfl, hk⟩
    rw [if_neg (by omega), if_neg q, Int.toNat_natCast, hl s (by omega)]
    by_cases q2 : pcK (kO w).toNat ≤ leS nW cy ls kO cA tr ru gr 0 s
    · rw [if_pos q2, if_pos q2, if_neg (fun r => Bool.noConfusion r)]
      exact ⟨known, facts, stack, rfl, hk⟩
    rw [if_neg q2, if_neg q2]
    have hB := PL_wkB (tr := tX) hP ht
    have hkX : kOK nW (gvS oR d cA (fun w => clmK (kO w).toNat) (fun w => pcK (kO w).toNat) (twf nW kO tX) (gpS oC d cy)) known := by
      rw [hcg]
      exact hk
    have hw2 := hw
    obtain ⟨kn2, f2, s2, e, hk2⟩ := go_x (facts := facts) (stack := stack) (clmK := clmK) (pcK := pcK) (kO := kO) (tr := tX) (gaps := gaps) (w := w) (s := s) (r := 0) hB hP.1 hw (show s < 300 from by omega) (by decide) hd gp_b (hD.2 s (by omega)) rfl rfl (by unfold twf; rw [if_pos hw2]) hP.2.2.2.2.2.2.2.1.1 hP.2.2.2.2.2.2.2.1.2 hP.2.2.2.2.2.2.2.2 hkX
    have e' : F_X7_goes facts stack clmK pcK kO cA code spans d tX ar gaps known (w : Int) (s : Int) (0 : Int) = (b2 (gR oC oR cy nW kO cA clmK pcK d tr w s 0), kn2, f2, s2) := by
      rw [← gR_cg hcg]
      exact e
    have hk2' : kOK nW (gR oC oR cy nW kO cA clmK pcK d tr) kn2 := by
      rw [← gR_cg hcg]
      exact hk2
    rw [e', lf_p_e, lf_p_e, lf_p_e]
    cases hg : gR oC oR cy nW kO cA clmK pcK d tr w s 0 with
    | true =>
      rw [if_neg (show ¬ b2 true = 0 from by decide), if_pos rfl, if_pos rfl]
      exact ⟨kn2, f2, s2, rfl, hk2'⟩
    | false =>
      rw [if_pos (show b2 false = 0 from rfl), if_neg (show ¬ false = true from fun r => Bool.noConfusion r)]
      exact ih (s + 1) kn2 f2 s2 (by omega) (by omega) hk2'
theorem gb_run {tX : Nat → Int} (hP : plH nW nK cy ls oC oR kO cA clmK pcK comers code spans ar) (hd : 0 ≤ d ∧ d ≤ 999) (ht : ∀ k, k < nK → 0 ≤ tX k ∧ tX k ≤ 9) (hcg : twf nW kO tX = twf nW kO tr) (hD : SFd oC d cy cars gaps) (hl : ∀ j, j < 300 → left j = leS nW cy ls kO cA tr ru gr 0 j) : ∀ (f k : Nat) (l1 : Int) (known facts stack : Nat → Int), k ≤ nW → nW - k < f → rg l1 → (∀ w, w < 12 → bt l1 w = (decide (w < k) && goW oC oR nW cy ls kO cA clmK pcK d tr ru gr w)) → kOK nW (gR oC oR cy nW kO cA clmK pcK d tr) known → ∃ l2 k2 f2 s2, F_X7_goersByThemselves_4 clmK pcK (nW : Int) kO cA code spans d tX ar gaps left f l1 (k : Int) known facts stack = (l2, k2, f2, s2) ∧ rg l2 ∧ (∀ w, w < 12 → bt l2 w = (decide (w < nW) && goW oC oR nW cy ls kO cA clmK pcK d tr ru gr w)) ∧ kOK nW (gR oC oR cy nW kO cA clmK pcK d tr) k2 := by
  intro f
  induction f with
  | zero => intro k l1 known facts stack h1 h2; omega
  | succ f ih =>
    intro k l1 known facts stack h1 h2 h3 h4 hk
    have hn : nW ≤ 12 := hP.1
    have e0 : F_X7_goersByThemselves_4 clmK pcK (nW : Int) kO cA code spans d tX ar gaps left (f + 1) l1 (k : Int) known facts stack = F_X7_goersByThemselves_4b clmK pcK (nW : Int) kO cA code spans d tX ar gaps left (F_X7_goersByThemselves_4 clmK pcK (nW : Int) kO cA code spans d tX ar gaps left f) l1 (k : Int) known facts stack := rfl
    rw [e0]
    unfold F_X7_goersByThemselves_4b
    by_cases q : k = nW
    · rw [if_pos (by omega)]
      subst q
      exact ⟨l1, known, facts, stack, rfl, h3, h4, hk⟩
    · have hc := (hP.2.2.2.1 k (by omega)).2
      rw [if_neg (by omega), Int.toNat_natCast]
      obtain ⟨k2, f2, s2, e, hk2⟩ := gb_in (K4 := F_X7_goersByThemselves_4 clmK pcK (nW : Int) kO cA code spans d tX ar gaps left f) (l1 := l1) (w := k) hP hd ht hcg hD hl (by omega) 302 (cA k).toNat known facts stack (by omega) (by omega) hk
      rw [show (((cA k).toNat : Nat) : Int) = cA k from by omega] at e
      rw [e]
      have ha := bt_add (w := k) h3 (by omega)
      have eW : goF (pcK (kO k).toNat) (leS nW cy ls kO cA tr ru gr 0) (fun s => gR oC oR cy nW kO cA clmK pcK d tr k s 0) 302 (cA k).toNat = goW oC oR nW cy ls kO cA clmK pcK d tr ru gr k := rfl
      rw [eW]
      cases hg : goW oC oR nW cy ls kO cA clmK pcK d tr ru gr k with
      | true =>
        rw [if_pos rfl]
        refine ih (k + 1) _ k2 f2 s2 (by omega) (by omega) ha.1 (fun w hw => ?_) hk2
        rw [ha.2, h4 w hw]
        by_cases z : k = w
        · rw [← z, hg, decide_eq_true (show k = k from rfl), decide_eq_true (show k < k + 1 from by omega), Bool.or_true]
          rfl
        · rw [decide_eq_false z, Bool.or_false]
          by_cases z2 : w < k
          · rw [decide_eq_true z2, decide_eq_true (show w < k + 1 from by omega)]
          · rw [decide_eq_false z2, decide_eq_false (show ¬ w < k + 1 from by omega)]
      | false =>
        rw [if_neg (fun r => Bool.noConfusion r)]
        refine ih (k + 1) _ k2 f2 s2 (by omega) (by omega) h3 (fun w hw => ?_) hk2
        rw [h4 w hw]
        by_cases z : w = k
        · rw [z, hg, Bool.and_false, Bool.and_false]
        · by_cases z2 : w < k
          · rw [decide_eq_true z2, decide_eq_true (show w < k + 1 from by omega)]
          · rw [decide_eq_false z2, decide_eq_false (show ¬ w < k + 1 from by omega)]
theorem hd_c (hP : plH nW nK cy ls oC oR kO cA clmK pcK comers code spans ar) (hS : sfH oC oR nW nK cy ls kO cA clmK pcK sd str sru sgr sA cars gaps known left leaves pr cr we ha) (hB : stB nK d ru gr tr) : (∃ b : Int, rg b ∧ (∀ w, w < 12 → bt b w = (decide (w < nW) && goW oC oR nW cy ls kO cA clmK pcK d tr ru gr w)) ∧ (F_X9_hold cy ls (nK : Int) clmK pcK (nW : Int) kO cA comers code spans d ru gr tr facts stack sd str sru sgr sA ar cars gaps known left leaves pr cr we ha).1 = if 3 < F_J6_bitCount_0f7a4 b then -1 else b) ∧ sfS oC oR nW nK cy ls kO cA clmK pcK (F_X9_hold cy ls (nK : Int) clmK pcK (nW : Int) kO cA comers code spans d ru gr tr facts stack sd str sru sgr sA ar cars gaps known left leaves pr cr we ha).2 := by
  obtain ⟨pr2, cr2, we2, ha2, f2, s2, c2, g2, t2, k2, l2, v2, e, h1, h2, h3, h4⟩ := lt_y (facts := facts) (stack := stack) hP hS hB
  have hcg : twf nW kO t2 = twf nW kO tr := twf_cg (fun w hw => (hP.2.2.2.1 w hw).1) h4
  rcases h1 with r | ⟨x1, x2, x3, x4, r | x5⟩
  · exfalso
    have := hB.1.1
    omega
  · exfalso
    have := hB.2.1.1
    omega
  have x4' : kOK nW (gR oC oR cy nW kO cA clmK pcK d tr) k2 := by
    rw [← gR_cg hcg]
    exact x4
  obtain ⟨b, k3, f3, s3, e2, r1, r2, r3⟩ := gb_run (tX := t2) (tr := tr) (ru := ru) (gr := gr) hP x1 x2 hcg x3 h3.1 14 0 0 k2 f2 s2 (Nat.zero_le _) (by have := hP.1; omega) rg_0 (fun w _ => by
    rw [bt_0, decide_eq_false (Nat.not_lt_zero w), Bool.false_and]) x4'
  have r3' : kOK nW (gR oC oR cy nW kO cA clmK pcK d t2) k3 := by
    rw [gR_cg hcg]
    exact r3
  have e2' : F_X7_goersByThemselves_4 clmK pcK (nW : Int) kO cA code spans d t2 ar g2 l2 14 (0 : Int) (0 : Int) k2 f2 s2 = (b, k3, f3, s3) := e2
  have hfin : sfH oC oR nW nK cy ls kO cA clmK pcK d t2 ru gr 0 c2 g2 k3 l2 v2 pr2 cr2 we2 ha2 := Or.inr ⟨x1, x2, x3, r3', Or.inr x5⟩
  have e3 : F_X1_holders f2 s2 clmK pcK (nW : Int) kO cA code spans d t2 ar g2 k2 l2 = (if 3 < F_J6_bitCount_0f7a4 b then -1 else b, k3, f3, s3) := by
    unfold F_X1_holders F_X7_goersByThemselves
    rw [e2', lf_p_e, lf_p_e, lf_p_e, lf_b_e]
    by_cases q : 3 < F_J6_bitCount_0f7a4 b
    · rw [if_pos q, if_pos q]
    · rw [if_neg q, if_neg q]
  unfold F_X9_hold
  rw [st_1x hP.2.2.1.1, lf_b_e, if_neg (show ¬ (1 : Int) = 0 from by decide), e, lf_p_e, lf_p_e, lf_p_e, lf_p_e, lf_p_e, lf_p_e, lf_p_e, lf_p_e, lf_p_e, lf_p_e, lf_p_e, lf_p_e, lf_p_e, lf_p_e, lf_p_e, e3, lf_p_e, lf_p_e, lf_p_e]
  exact ⟨⟨b, r1, r2, rfl⟩, hfin⟩
end LS
end
section
/-! 9d -/
/-! the DAYS ahead: what the class keeps of them -/
section AH
variable {nW nK : Nat} {oC oR oL : Option (List Int)} {s cy ls aw stm d ru gr hnx hct sd sru sgr sA ar pr cr we ha tkn ad aru agr akn rws cmp fnd frl fgr chs chl occ dwn fa pl sM awM isc und nwst rmM moc sdd tk ask red io lg gt icg sg qp ftm ftr ftg mf mp0 p0 p1 p2 p3 p4 : Int} {g clmK pcK kO cA comers code spans nmX tr rD rR rG facts stack str cars gaps known left leaves tab atr atd ats sw ss sec oct refu gM many bar kinds walkers cf ce codes now kept mrw mo refM asd isCar gapM isG isH crM wtM goM hmM prM ciM pile whn : Nat → Int} {rF : Nat → Nat → Int}
/-- what is kept of the DAYS ahead -/
def ahH (oC oR oL : Option (List Int)) (nW nK : Nat) (cy ls : Int) (kO cA clmK pcK : Nat → Int) (d ru gr : Int) (tr : Nat → Int) (akn ad aru agr : Int) (atr atd ats : Nat → Int) : Prop := ∃ n : Nat, akn = (n : Int) ∧ n ≤ 30 ∧ (0 < n → d + (n : Int) ≤ 1000 ∧ ad = d + (n : Int) ∧ aru = ru ∧ agr = gr ∧ ∀ j, j < nK → atr j = lvT oC oR oL nW cy ls kO cA clmK pcK d ru gr (fun _ => 0) tr n j) ∧ ∀ i : Nat, i < n → (∀ w : Nat, w < 6 → atd (6 * i + w) = lvD oC oR oL nW cy ls kO cA clmK pcK d ru gr (fun _ => 0) tr i (w : Int)) ∧ ∀ j, j < nK → ats (6 * i + j) = lvT oC oR oL nW cy ls kO cA clmK pcK d ru gr (fun _ => 0) tr (i + 1) j
theorem ah_0 : ahH oC oR oL nW nK cy ls kO cA clmK pcK d ru gr tr 0 ad aru agr atr atd ats := ⟨0, rfl, by decide, fun h => absurd h (Nat.lt_irrefl 0), fun i hi => absurd hi (Nat.not_lt_zero i)⟩
abbrev G23 : Type := Int × Int × Int × Int × (Nat → Int) × Int × Int × Int × Int × Int × Int × Int × Int × (Nat → Int) × (Nat → Int) × (Nat → Int) × (Nat → Int) × (Nat → Int) × (Nat → Int) × (Nat → Int) × (Nat → Int) × (Nat → Int) × (Nat → Int)
abbrev K23 : Type := Int → Int → Int → (Nat → Int) → Int → Int → Int → Int → Int → Int → Int → Int → Int → (Nat → Int) → (Nat → Int) → (Nat → Int) → (Nat → Int) → (Nat → Int) → (Nat → Int) → (Nat → Int) → (Nat → Int) → (Nat → Int) → (Nat → Int) → G23
theorem ah_60 {K15 : K23} {k : Nat} {c0 c1 c2 v6 : Int} {a4 a24 f7 f8 f9 : Nat → Int} {D : Int → Int} (hk : k < 30) (hD : ∀ w : Int, 0 ≤ w → w ≤ 5 → F_X7_told (nW : Int) cA sA left leaves pr cr we ha w = D w) (hp : F_X7_pass facts stack clmK pcK (nW : Int) kO cA code spans sd sA leaves c0 a4 = (v6, f7, f8, f9)) : ∀ (f l : Nat) (a23 : Nat → Int), l ≤ 6 → 6 - l < f → ∃ b, F_X0_goTo_60 clmK pcK (nW : Int) kO cA code spans c0 c1 c2 a4 (k : Int) a24 K15 f sd sru sgr sA pr cr we ha facts stack cars gaps str known left leaves (l : Int) a23 = K15 v6 c1 c2 f7 ((k : Int) + (1 : Int)) sd sru sgr sA pr cr we ha f8 f9 cars gaps str known left leaves b (lf_cpy f7 a24 (0 : Int) ((k : Int) * (6 : Int)) (6 : Int)) ∧ (∀ w : Nat, l ≤ w → w < 6 → b (6 * k + w) = D (w : Int)) ∧ ∀ j, j < 6 * k + l ∨ 6 * k + 6 ≤ j → b j = a23 j := by
  intro f
  induction f with
  | zero => intro l a23 h1 h2; omega
  | succ f ih =>
    intro l a23 h1 h2
    have e0 : F_X0_goTo_60 clmK pcK (nW : Int) kO cA code spans c0 c1 c2 a4 (k : Int) a24 K15 (f + 1) sd sru sgr sA pr cr we ha facts stack cars gaps str known left leaves (l : Int) a23 = F_X0_goTo_60b clmK pcK (nW : Int) kO cA code spans c0 c1 c2 a4 (k : Int) a24 K15 (F_X0_goTo_60 clmK pcK (nW : Int) kO cA code spans c0 c1 c2 a4 (k : Int) a24 K15 f) sd sru sgr sA pr cr we ha facts stack cars gaps str known left leaves (l : Int) a23 := rfl
    rw [e0]
    unfold F_X0_goTo_60b
    by_cases q : l = 6
    · rw [if_pos (by omega), hp, lf_p_e, lf_p_e, lf_p_e]
      exact ⟨a23, rfl, fun w h3 h4 => absurd h4 (by omega), fun _ _ => rfl⟩
    · rw [if_neg (by omega), hD (l : Int) (by omega) (by omega), lf_b_e]
      obtain ⟨b, e, e1, e2⟩ := ih (l + 1) (lf_up a23 (((k : Int) * (6 : Int)) + (l : Int)) (D (l : Int))) (by omega) (by omega)
      refine ⟨b, e, fun w h3 h4 => ?_, fun j hj => ?_⟩
      · by_cases y : w = l
        · rw [y, e2 _ (by omega), lf_up_y (by omega)]
        · exact e1 w (by omega) h4
      · rw [e2 j (by omega), lf_up_o (by omega)]
theorem ah_run {n : Nat} (hP : plH nW nK cy ls oC oR kO cA clmK pcK comers code spans ar) (hL : cdX code spans 4 oL ∧ cdG false 123 oL) (hB : stB nK d ru gr tr) (hn : n ≤ 30) (hdn : d + (n : Int) ≤ 1000) : ∀ (f k : Nat) (atr : Nat → Int) (sd sru sgr sA pr cr we ha : Int) (facts stack cars gaps str known left leaves atd ats : Nat → Int), k ≤ n → n - k < f → (∀ j, j < nK → atr j = lvT oC oR oL nW cy ls kO cA clmK pcK d ru gr (fun _ => 0) tr k j) → (∀ i : Nat, i < k → (∀ w : Nat, w < 6 → atd (6 * i + w) = lvD oC oR oL nW cy ls kO cA clmK pcK d ru gr (fun _ => 0) tr i (w : Int)) ∧ ∀ j, j < nK → ats (6 * i + j) = lvT oC oR oL nW cy ls kO cA clmK pcK d ru gr (fun _ => 0) tr (i + 1) j) → sfH oC oR nW nK cy ls kO cA clmK pcK sd str sru sgr sA cars gaps known left leaves pr cr we ha → ∃ (atr' : Nat → Int) (sd' sru' sgr' sA' pr' cr' we' ha' : Int) (facts' stack' cars' gaps' str' known' left' leaves' atd' ats' : Nat → Int), F_X0_goTo_15 cy ls (nK : Int) clmK pcK (nW : Int) kO cA comers code spans ar (n : Int) f (d + (k : Int)) ru gr atr (k : Int) sd sru sgr sA pr cr we ha facts stack cars gaps str known left leaves atd ats = ((n : Int), d + (n : Int), ru, gr, atr', sd', sru', sgr', sA', pr', cr', we', ha', facts', stack', cars', gaps', str', known', left', leaves', atd', ats') ∧ (∀ j, j < nK → atr' j = lvT oC oR oL nW cy ls kO cA clmK pcK d ru gr (fun _ => 0) tr n j) ∧ (∀ i : Nat, i < n → (∀ w : Nat, w < 6 → atd' (6 * i + w) = lvD oC oR oL nW cy ls kO cA clmK pcK d ru gr (fun _ => 0) tr i (w : Int)) ∧ ∀ j, j < nK → ats' (6 * i + j) = lvT oC oR oL nW cy ls kO cA clmK pcK d ru gr (fun _ => 0) tr (i + 1) j) ∧ sfH oC oR nW nK cy ls kO cA clmK pcK sd' str' sru' sgr' sA' cars' gaps' known' left' leaves' pr' cr' we' ha' := by
  intro f
  induction f with
  | zero => intro k atr sd sru sgr sA pr cr we ha facts stack cars gaps str known left leaves atd ats h1 h2; omega
  | succ f ih =>
    intro k atr sd sru sgr sA pr cr we ha facts stack cars gaps str known left leaves atd ats h1 h2 h3 h4 h5
    have e0 : F_X0_goTo_15 cy ls (nK : Int) clmK pcK (nW : Int) kO cA comers code spans ar (n : Int) (f + 1) (d + (k : Int)) ru gr atr (k : Int) sd sru sgr sA pr cr we ha facts stack cars gaps str known left leaves atd ats = F_X0_goTo_15b cy ls (nK : Int) clmK pcK (nW : Int) kO cA comers code spans ar (n : Int) (F_X0_goTo_15 cy ls (nK : Int) clmK pcK (nW : Int) kO cA comers code spans ar (n : Int) f) (d + (k : Int)) ru gr atr (k : Int) sd sru sgr sA pr cr we ha facts stack cars gaps str known left leaves atd ats := rfl
    rw [e0]
    unfold F_X0_goTo_15b
    by_cases q : k = n
    · rw [if_pos (by omega)]
      subst q
      exact ⟨_, _, _, _, _, _, _, _, _, _, _, _, _, _, _, _, _, _, _, rfl, h3, h4, h5⟩
    · have hd := hB.1
      have hTb := lvT_b (oL := oL) (cy := cy) (ls := ls) (ru := ru) (gr := gr) (a := fun _ => 0) (tr := tr) hP hB.1.1 hB.2.2.2 k (by omega)
      have hBk : stB nK (d + (k : Int)) ru gr (lvT oC oR oL nW cy ls kO cA clmK pcK d ru gr (fun _ => 0) tr k) := ⟨⟨by omega, by omega⟩, hB.2.1, hB.2.2.1, hTb⟩
      obtain ⟨f2, s2, c2, g2, t2, k2, l2, v2, pr2, cr2, we2, ha2, t3, f3, s3, e, x1, x2, x3, x4, x5⟩ := lv_c (facts := facts) (stack := stack) (A := 0) hP hL h5 hBk h3 rg_0
      have hgr := hB.2.2.1
      obtain ⟨b, eb, eb1, eb2⟩ := ah_60 (K15 := F_X0_goTo_15 cy ls (nK : Int) clmK pcK (nW : Int) kO cA comers code spans ar (n : Int) f) (k := k) (c0 := d + (k : Int)) (c1 := ru) (c2 := gr) (a24 := ats) (D := fun w => lvD oC oR oL nW cy ls kO cA clmK pcK d ru gr (fun _ => 0) tr k w) (sru := ru) (sgr := gr) (cars := c2) (gaps := g2) (str := t2) (known := k2) (by omega) (fun w w0 w1 => tc_x hP x3 rg_0 (by omega) hgr.2 ⟨w0, w1⟩) x4 8 0 atd (by decide) (by decide)
      have eb' : F_X0_goTo_60 clmK pcK (nW : Int) kO cA code spans (d + (k : Int)) ru gr atr (k : Int) ats (F_X0_goTo_15 cy ls (nK : Int) clmK pcK (nW : Int) kO cA comers code spans ar (n : Int) f) 8 (d + (k : Int)) ru gr (0 : Int) pr2 cr2 we2 ha2 f2 s2 c2 g2 t2 k2 l2 v2 (0 : Int) atd = _ := eb
      rw [if_neg (by omega), if_neg (by omega), e, lf_p_e, lf_p_e, lf_p_e, lf_p_e, lf_p_e, lf_p_e, lf_p_e, lf_p_e, lf_p_e, lf_p_e, lf_p_e, lf_p_e, lf_p_e, lf_p_e, lf_p_e, eb', show d + (k : Int) + 1 = d + ((k + 1 : Nat) : Int) from by omega, show (k : Int) + 1 = ((k + 1 : Nat) : Int) from rfl]
      refine ih (k + 1) t3 _ _ _ _ _ _ _ _ f3 s3 c2 g2 t2 k2 l2 v2 b _ (by omega) (by omega) x5 (fun i hi => ?_) x1
      by_cases y : i = k
      · subst y
        refine ⟨fun w hw => eb1 w (Nat.zero_le _) hw, fun j hj => ?_⟩
        have hnK : nK ≤ 6 := hP.2.1
        unfold lf_cpy
        rw [if_pos (show ((i : Int) * (6 : Int)).toNat ≤ 6 * i + j ∧ 6 * i + j < ((i : Int) * (6 : Int)).toNat + (6 : Int).toNat from by
          have e6 : (6 : Int).toNat = 6 := rfl
          omega), show (0 : Int).toNat + (6 * i + j - ((i : Int) * (6 : Int)).toNat) = j from by
          have e6 : (0 : Int).toNat = 0 := rfl
          omega]
        exact x5 j hj
      · obtain ⟨z1, z2⟩ := h4 i (by omega)
        refine ⟨fun w hw => ?_, fun j hj => ?_⟩
        · rw [eb2 _ (by omega)]
          exact z1 w hw
        · have hnK : nK ≤ 6 := hP.2.1
          unfold lf_cpy
          rw [if_neg (show ¬ (((k : Int) * (6 : Int)).toNat ≤ 6 * i + j ∧ 6 * i + j < ((k : Int) * (6 : Int)).toNat + (6 : Int).toNat) from by
            have e6 : (6 : Int).toNat = 6 := rfl
            omega)]
          exact z2 j hj
/-- goTo -/
theorem gt_x {n : Nat} (hP : plH nW nK cy ls oC oR kO cA clmK pcK comers code spans ar) (hL : cdX code spans 4 oL ∧ cdG false 123 oL) (hB : stB nK d ru gr tr) (hS : sfH oC oR nW nK cy ls kO cA clmK pcK sd str sru sgr sA cars gaps known left leaves pr cr we ha) (hA : ahH oC oR oL nW nK cy ls kO cA clmK pcK d ru gr tr akn ad aru agr atr atd ats) (hn : n ≤ 30) (hdn : d + (n : Int) ≤ 1000) : ∃ (akn' ad' aru' agr' : Int) (atr' : Nat → Int) (sd' sru' sgr' sA' pr' cr' we' ha' : Int) (facts' stack' cars' gaps' str' known' left' leaves' atd' ats' : Nat → Int), F_X0_goTo facts stack cy ls (nK : Int) clmK pcK (nW : Int) kO cA comers code spans sd str sru sgr sA ar cars gaps known left leaves pr cr we ha ad aru agr atr atd ats akn d ru gr tr (n : Int) = (akn', ad', aru', agr', atr', sd', sru', sgr', sA', pr', cr', we', ha', facts', stack', cars', gaps', str', known', left', leaves', atd', ats') ∧ (n : Int) ≤ akn' ∧ ahH oC oR oL nW nK cy ls kO cA clmK pcK d ru gr tr akn' ad' aru' agr' atr' atd' ats' ∧ sfH oC oR nW nK cy ls kO cA clmK pcK sd' str' sru' sgr' sA' cars' gaps' known' left' leaves' pr' cr' we' ha' := by
  obtain ⟨m, e1, h1, h2, h3⟩ := hA
  have hK : nK ≤ 6 := hP.2.1
  unfold F_X0_goTo F_X6_copy
  by_cases q : m = 0
  · subst q
    rw [e1, if_pos (show ((0 : Nat) : Int) = 0 from rfl), lf_b_e]
    obtain ⟨atr', sd', sru', sgr', sA', pr', cr', we', ha', facts', stack', cars', gaps', str', known', left', leaves', atd', ats', e, x1, x2, x3⟩ := ah_run (n := n) hP hL hB hn hdn 32 0 (lf_cpy tr atr (0 : Int) (0 : Int) (6 : Int)) sd sru sgr sA pr cr we ha facts stack cars gaps str known left leaves atd ats (Nat.zero_le _) (by omega) (fun j hj => cpy_6 (by omega)) (fun i hi => absurd hi (Nat.not_lt_zero i)) hS
    rw [show d + ((0 : Nat) : Int) = d from by omega] at e
    exact ⟨_, _, _, _, _, _, _, _, _, _, _, _, _, _, _, _, _, _, _, _, _, _, _, e, Int.le_refl _, ⟨n, rfl, hn, fun _ => ⟨hdn, rfl, rfl, rfl, x1⟩, x2⟩, x3⟩
  · obtain ⟨y1, y2, y3, y4, y5⟩ := h2 (by omega)
    rw [if_neg (show ¬ akn = 0 from by omega), e1, y2, y3, y4]
    by_cases z : n ≤ m
    · have e0 : F_X0_goTo_15 cy ls (nK : Int) clmK pcK (nW : Int) kO cA comers code spans ar (n : Int) 32 (d + (m : Int)) ru gr atr (m : Int) sd sru sgr sA pr cr we ha facts stack cars gaps str known left leaves atd ats = F_X0_goTo_15b cy ls (nK : Int) clmK pcK (nW : Int) kO cA comers code spans ar (n : Int) (F_X0_goTo_15 cy ls (nK : Int) clmK pcK (nW : Int) kO cA comers code spans ar (n : Int) 31) (d + (m : Int)) ru gr atr (m : Int) sd sru sgr sA pr cr we ha facts stack cars gaps str known left leaves atd ats := rfl
      rw [e0]
      unfold F_X0_goTo_15b
      rw [if_pos (by omega)]
      exact ⟨_, _, _, _, _, _, _, _, _, _, _, _, _, _, _, _, _, _, _, _, _, _, _, rfl, by omega, ⟨m, rfl, h1, fun _ => ⟨y1, rfl, rfl, rfl, y5⟩, h3⟩, hS⟩
    · obtain ⟨atr', sd', sru', sgr', sA', pr', cr', we', ha', facts', stack', cars', gaps', str', known', left', leaves', atd', ats', e, x1, x2, x3⟩ := ah_run (n := n) hP hL hB hn hdn 32 m atr sd sru sgr sA pr cr we ha facts stack cars gaps str known left leaves atd ats (by omega) (by omega) y5 h3 hS
      exact ⟨_, _, _, _, _, _, _, _, _, _, _, _, _, _, _, _, _, _, _, _, _, _, _, e, Int.le_refl _, ⟨n, rfl, hn, fun _ => ⟨hdn, rfl, rfl, rfl, x1⟩, x2⟩, x3⟩
/-- what stands of later, of doubts: the class's -/
def q24 (oC oR oL : Option (List Int)) (nW nK : Nat) (cy ls : Int) (kO cA clmK pcK : Nat → Int) (d ru gr : Int) (tr : Nat → Int) (O : Int × G23) : Prop := ahH oC oR oL nW nK cy ls kO cA clmK pcK d ru gr tr O.2.1 O.2.2.1 O.2.2.2.1 O.2.2.2.2.1 O.2.2.2.2.2.1 O.2.2.2.2.2.2.2.2.2.2.2.2.2.2.2.2.2.2.2.2.2.2.1 O.2.2.2.2.2.2.2.2.2.2.2.2.2.2.2.2.2.2.2.2.2.2.2 ∧ sfH oC oR nW nK cy ls kO cA clmK pcK O.2.2.2.2.2.2.1 O.2.2.2.2.2.2.2.2.2.2.2.2.2.2.2.2.2.2.1 O.2.2.2.2.2.2.2.1 O.2.2.2.2.2.2.2.2.1 O.2.2.2.2.2.2.2.2.2.1 O.2.2.2.2.2.2.2.2.2.2.2.2.2.2.2.2.1 O.2.2.2.2.2.2.2.2.2.2.2.2.2.2.2.2.2.1 O.2.2.2.2.2.2.2.2.2.2.2.2.2.2.2.2.2.2.2.1 O.2.2.2.2.2.2.2.2.2.2.2.2.2.2.2.2.2.2.2.2.1 O.2.2.2.2.2.2.2.2.2.2.2.2.2.2.2.2.2.2.2.2.2.1 O.2.2.2.2.2.2.2.2.2.2.1 O.2.2.2.2.2.2.2.2.2.2.2.1 O.2.2.2.2.2.2.2.2.2.2.2.2.1 O.2.2.2.2.2.2.2.2.2.2.2.2.2.1
noncomputable def latA (oC oR oL : Option (List Int)) (nW : Nat) (cy ls : Int) (kO cA clmK pcK : Nat → Int) (d ru gr : Int) (tr : Nat → Int) (p q : Int) : Int := if (0 ≤ p ∧ p < 30 ∧ d + p ≤ 999) ∧ 0 ≤ q ∧ q ≤ 5 then lvD oC oR oL nW cy ls kO cA clmK pcK d ru gr (fun _ => 0) tr p.toNat q else -1
theorem lat_c (hP : plH nW nK cy ls oC oR kO cA clmK pcK comers code spans ar) (hL : cdX code spans 4 oL ∧ cdG false 123 oL) (hB : stB nK d ru gr tr) (hS : sfH oC oR nW nK cy ls kO cA clmK pcK sd str sru sgr sA cars gaps known left leaves pr cr we ha) (hA : ahH oC oR oL nW nK cy ls kO cA clmK pcK d ru gr tr akn ad aru agr atr atd ats) : (F_X9_later cy ls (nK : Int) clmK pcK (nW : Int) kO cA comers code spans d ru gr tr facts stack sd str sru sgr sA ar cars gaps known left leaves pr cr we ha ad aru agr atr atd ats akn p0 p1).1 = latA oC oR oL nW cy ls kO cA clmK pcK d ru gr tr p0 p1 ∧ q24 oC oR oL nW nK cy ls kO cA clmK pcK d ru gr tr (F_X9_later cy ls (nK : Int) clmK pcK (nW : Int) kO cA comers code spans d ru gr tr facts stack sd str sru sgr sA ar cars gaps known left leaves pr cr we ha ad aru agr atr atd ats akn p0 p1) := by
  have hd := hB.1
  unfold F_X9_later F_X9_later_32 F_X9_later_44 latA
  rw [st_1x hP.2.2.1.1, lf_b_e, if_neg (show ¬ (1 : Int) = 0 from by decide)]
  by_cases c0 : p0 < 0
  · rw [if_pos c0, if_neg (by omega)]
    exact ⟨rfl, hA, hS⟩
  rw [if_neg c0]
  by_cases c1 : 30 ≤ p0
  · rw [if_pos c1, if_neg (by omega)]
    exact ⟨rfl, hA, hS⟩
  rw [if_neg c1, lo_add (by omega) (by omega) (by omega) (by omega) (by omega) (by omega)]
  by_cases c2 : d + p0 ≤ 999
  · rw [if_pos c2]
    by_cases c3 : p1 < 0
    · rw [if_pos c3, if_neg (by omega)]
      exact ⟨rfl, hA, hS⟩
    rw [if_neg c3]
    by_cases c4 : p1 < 6
    · rw [if_pos c4, if_pos (by omega)]
      obtain ⟨akn', ad', aru', agr', atr', sd', sru', sgr', sA', pr', cr', we', ha', facts', stack', cars', gaps', str', known', left', leaves', atd', ats', e, x1, x2, x3⟩ := gt_x (facts := facts) (stack := stack) (n := p0.toNat + 1) hP hL hB hS hA (by omega) (by omega)
      rw [show ((p0.toNat + 1 : Nat) : Int) = p0 + 1 from by omega] at e x1
      rw [e, lf_p_e, lf_p_e, lf_p_e, lf_p_e, lf_p_e, lf_p_e, lf_p_e, lf_p_e, lf_p_e, lf_p_e, lf_p_e, lf_p_e, lf_p_e, lf_p_e, lf_p_e, lf_p_e, lf_p_e, lf_p_e, lf_p_e, lf_p_e, lf_p_e, lf_p_e]
      refine ⟨?_, x2, x3⟩
      obtain ⟨m, m1, m2, m3, m4⟩ := x2
      have := (m4 p0.toNat (by omega)).1 p1.toNat (by omega)
      show atd' (Int.toNat ((p0 * (6 : Int)) + p1)) = _
      rw [show Int.toNat ((p0 * (6 : Int)) + p1) = 6 * p0.toNat + p1.toNat from by omega, this, show ((p1.toNat : Nat) : Int) = p1 from by omega]
    · rw [if_neg c4, if_neg (by omega)]
      exact ⟨rfl, hA, hS⟩
  · rw [if_neg c2, if_neg (by omega)]
    exact ⟨rfl, hA, hS⟩
theorem dou_run {m : Nat} (hP : plH nW nK cy ls oC oR kO cA clmK pcK comers code spans ar) (hL : cdX code spans 4 oL ∧ cdG false 123 oL) (hB : stB nK d ru gr tr) (hm : m ≤ 30) (hdm : d + (m : Int) ≤ 1000) : ∀ (f k : Nat) (akn ad aru agr : Int) (sd sru sgr sA pr cr we ha : Int) (atr facts stack cars gaps str known left leaves atd ats : Nat → Int), k ≤ m + 1 → m + 1 - k < f → sfH oC oR nW nK cy ls kO cA clmK pcK sd str sru sgr sA cars gaps known left leaves pr cr we ha → ahH oC oR oL nW nK cy ls kO cA clmK pcK d ru gr tr akn ad aru agr atr atd ats → q24 oC oR oL nW nK cy ls kO cA clmK pcK d ru gr tr (F_X9_doubts_45 cy ls (nK : Int) clmK pcK (nW : Int) kO cA comers code spans d ru gr tr ar p0 f (m : Int) (k : Int) akn ad aru agr sd sru sgr sA pr cr we ha atr facts stack cars gaps str known left leaves atd ats) := by
  intro f
  induction f with
  | zero => intro k akn ad aru agr sd sru sgr sA pr cr we ha atr facts stack cars gaps str known left leaves atd ats h1 h2; omega
  | succ f ih =>
    intro k akn ad aru agr sd sru sgr sA pr cr we ha atr facts stack cars gaps str known left leaves atd ats h1 h2 hS hA
    show q24 oC oR oL nW nK cy ls kO cA clmK pcK d ru gr tr (F_X9_doubts_45b cy ls (nK : Int) clmK pcK (nW : Int) kO cA comers code spans d ru gr tr ar p0 (F_X9_doubts_45 cy ls (nK : Int) clmK pcK (nW : Int) kO cA comers code spans d ru gr tr ar p0 f) (m : Int) (k : Int) akn ad aru agr sd sru sgr sA pr cr we ha atr facts stack cars gaps str known left leaves atd ats)
    unfold F_X9_doubts_45b
    by_cases q : k = m + 1
    · rw [if_pos (by omega)]
      exact ⟨hA, hS⟩
    · obtain ⟨akn', ad', aru', agr', atr', sd', sru', sgr', sA', pr', cr', we', ha', facts', stack', cars', gaps', str', known', left', leaves', atd', ats', e, x1, x2, x3⟩ := gt_x (facts := facts) (stack := stack) (n := k) hP hL hB hS hA (by omega) (by omega)
      rw [if_neg (by omega), e, lf_p_e, lf_p_e, lf_p_e, lf_p_e, lf_p_e, lf_p_e, lf_p_e, lf_p_e, lf_p_e, lf_p_e, lf_p_e, lf_p_e, lf_p_e, lf_p_e, lf_p_e, lf_p_e, lf_p_e, lf_p_e, lf_p_e, lf_p_e, lf_p_e, lf_p_e]
      by_cases y : ats' (Int.toNat ((((k : Int) - (1 : Int)) * (6 : Int)) + p0)) = 0
      · rw [if_pos y]
        exact ⟨x2, x3⟩
      · rw [if_neg y]
        exact ih (k + 1) _ _ _ _ _ _ _ _ _ _ _ _ _ _ _ _ _ _ _ _ _ _ _ (by omega) (by omega) x3 x2
theorem dou_c (hP : plH nW nK cy ls oC oR kO cA clmK pcK comers code spans ar) (hL : cdX code spans 4 oL ∧ cdG false 123 oL) (hB : stB nK d ru gr tr) (hS : sfH oC oR nW nK cy ls kO cA clmK pcK sd str sru sgr sA cars gaps known left leaves pr cr we ha) (hA : ahH oC oR oL nW nK cy ls kO cA clmK pcK d ru gr tr akn ad aru agr atr atd ats) : q24 oC oR oL nW nK cy ls kO cA clmK pcK d ru gr tr (F_X9_doubts cy ls (nK : Int) clmK pcK (nW : Int) kO cA comers code spans d ru gr tr facts stack sd str sru sgr sA ar cars gaps known left leaves pr cr we ha ad aru agr atr atd ats akn p0) := by
  have hd := hB.1
  unfold F_X9_doubts
  rw [ik_x, lf_b_e]
  by_cases c0 : 0 ≤ p0 ∧ p0 < (nK : Int)
  · rw [if_pos c0, if_neg (show ¬ (1 : Int) = 0 from by decide)]
    by_cases c1 : tr (Int.toNat p0) = 0
    · rw [if_pos c1]
      exact ⟨hA, hS⟩
    · rw [if_neg c1, lo_sub (by omega) (by omega) (by omega) (by omega) (by omega) (by omega), lo_add (by omega) (by omega) (by omega) (by omega) (by omega) (by omega)]
      have hx := dou_run (p0 := p0) (m := (min 30 (999 - d + 1)).toNat) hP hL hB (by omega) (by omega) 32 1 akn ad aru agr sd sru sgr sA pr cr we ha atr facts stack cars gaps str known left leaves atd ats (by omega) (by omega) hS hA
      rw [show (((min 30 (999 - d + 1)).toNat : Nat) : Int) = min 30 (999 - d + 1) from by omega] at hx
      exact hx
  · rw [if_neg c0, if_pos rfl]
    exact ⟨hA, hS⟩
/-- the model's: now comes back -/
theorem pa_run : ∀ (f l : Nat) (a : Nat → Int), l ≤ 9 → 9 - l < f → (∀ j, j < l → a j = now j) → ∀ j, j < 9 → F_X10_putsAside_2 now f (l : Int) a j = now j := by
  intro f
  induction f with
  | zero => intro l a h1 h2; omega
  | succ f ih =>
    intro l a h1 h2 h3 j hj
    show F_X10_putsAside_2b now (F_X10_putsAside_2 now f) (l : Int) a j = now j
    unfold F_X10_putsAside_2b
    by_cases q : l = 9
    · rw [if_pos (by omega)]
      exact h3 j (by omega)
    · rw [if_neg (by omega), Int.toNat_natCast]
      refine ih (l + 1) _ (by omega) (by omega) (fun i hi => ?_) j hj
      by_cases y : i = l
      · rw [lf_up_y (by omega), y]
      · rw [lf_up_o (by omega)]
        exact h3 i (by omega)
theorem tb_run : ∀ (f l : Nat) (a : Nat → Int), l ≤ 9 → 9 - l < f → (∀ j, j < l → a j = asd j) → ∀ j, j < 9 → F_X10_takesBack_2 asd f (l : Int) a j = asd j := by
  intro f
  induction f with
  | zero => intro l a h1 h2; omega
  | succ f ih =>
    intro l a h1 h2 h3 j hj
    show F_X10_takesBack_2b asd (F_X10_takesBack_2 asd f) (l : Int) a j = asd j
    unfold F_X10_takesBack_2b
    by_cases q : l = 9
    · rw [if_pos (by omega)]
      exact h3 j (by omega)
    · rw [if_neg (by omega), Int.toNat_natCast]
      refine ih (l + 1) _ (by omega) (by omega) (fun i hi => ?_) j hj
      by_cases y : i = l
      · rw [lf_up_y (by omega), y]
      · rw [lf_up_o (by omega)]
        exact h3 i (by omega)
theorem nd_9 {now2 : Nat → Int} (hK : nK ≤ 6) (h : ndH nK d ru gr tr now) (e : ∀ j, j < 9 → now2 j = now j) : ndH nK d ru gr tr now2 := ⟨(e 0 (by decide)).trans h.1, (e 1 (by decide)).trans h.2.1, (e 2 (by decide)).trans h.2.2.1, fun k hk => by
  rw [e (3 + k) (by omega)]
  exact h.2.2.2 k hk⟩
end AH
end
section
/-! 9e -/
/-! the DAYS ahead: the model's; days -/
section MA
variable {nW nK : Nat} {oC oR oL : Option (List Int)} {s cy ls aw stm d ru gr hnx hct sd sru sgr sA ar pr cr we ha tkn ad aru agr akn rws cmp fnd frl fgr chs chl occ dwn fa pl sM awM isc und nwst rmM moc sdd tk ask red io lg gt icg sg qp ftm ftr ftg mf mp0 p0 p1 p2 p3 p4 : Int} {g clmK pcK kO cA comers code spans nmX tr rD rR rG facts stack str cars gaps known left leaves tab atr atd ats sw ss sec oct refu gM many bar kinds walkers cf ce codes now kept mrw mo refM asd isCar gapM isG isH crM wtM goM hmM prM ciM pile whn : Nat → Int} {rF : Nat → Nat → Int}
theorem la_run {n : Nat} (hP : plH nW nK cy ls oC oR kO cA clmK pcK comers code spans ar) (hM : pmH nW nK cy ls oC oR oL kO cA clmK pcK many bar kinds walkers cf ce codes) (hG : cdG false 123 oL) (hB : stB nK d ru gr tr) (hn : n ≤ 29) (hdn : d + (n : Int) ≤ 999) (hp : 0 ≤ p1 ∧ p1 ≤ 5) : ∀ (f k : Nat) (c55 c58 c59 c70 c71 c72 c73 c74 c117 : Int) (a1 a5 a9 a11 a12 a13 a14 a15 a16 a17 a18 a20 : Nat → Int), k ≤ n → n - k < f → ndH nK (d + (k : Int)) ru gr (lvT oC oR oL nW cy ls kO cA clmK pcK d ru gr (fun _ => 0) tr k) a1 → ∃ O, O = F_X10_later_31 many bar kinds walkers cf ce codes (n : Int) p1 f asd (k : Int) c55 c58 c59 c70 c71 c72 c73 c74 c117 a1 a5 a9 a11 a12 a13 a14 a15 a16 a17 a18 a20 ∧ O.1 = lvD oC oR oL nW cy ls kO cA clmK pcK d ru gr (fun _ => 0) tr n p1 ∧ ∀ j, j < 9 → O.2.2.2.2.2.2.2.2.2.2.1 j = asd j := by
  intro f
  induction f with
  | zero => intro k c55 c58 c59 c70 c71 c72 c73 c74 c117 a1 a5 a9 a11 a12 a13 a14 a15 a16 a17 a18 a20 h1 h2; omega
  | succ f ih =>
    intro k c55 c58 c59 c70 c71 c72 c73 c74 c117 a1 a5 a9 a11 a12 a13 a14 a15 a16 a17 a18 a20 h1 h2 h3
    have e0 : F_X10_later_31 many bar kinds walkers cf ce codes (n : Int) p1 (f + 1) asd (k : Int) c55 c58 c59 c70 c71 c72 c73 c74 c117 a1 a5 a9 a11 a12 a13 a14 a15 a16 a17 a18 a20 = F_X10_later_31b many bar kinds walkers cf ce codes (n : Int) p1 (F_X10_later_31 many bar kinds walkers cf ce codes (n : Int) p1 f) asd (k : Int) c55 c58 c59 c70 c71 c72 c73 c74 c117 a1 a5 a9 a11 a12 a13 a14 a15 a16 a17 a18 a20 := rfl
    rw [e0]
    unfold F_X10_later_31b
    have hd := hB.1
    have hTb := lvT_b (oL := oL) (cy := cy) (ls := ls) (ru := ru) (gr := gr) (a := fun _ => 0) (tr := tr) hP hB.1.1 hB.2.2.2 k (by omega)
    have hBk : stB nK (d + (k : Int)) ru gr (lvT oC oR oL nW cy ls kO cA clmK pcK d ru gr (fun _ => 0) tr k) := ⟨⟨by omega, by omega⟩, hB.2.1, hB.2.2.1, hTb⟩
    by_cases q : k = n
    · rw [if_pos (by omega)]
      subst q
      obtain ⟨v16, v17, v18, v19, v20, v21, v22, v23, v24, f33, f27, f7, f28, f29, f8, f25, f26, f30, f31, f32, e, h4, h5, h6⟩ := dn_x (tk := c55) (ask := c58) (red := c59) (sg := c74) (qp := c117) (isCar := a14) (gaps := a11) (isG := a20) (isH := a15) (cr := a16) (wt := a9) (go := a12) (hm := a13) (pr2 := a17) (ci := a18) (pile := a5) hP hM hBk.1 h3 hB.2.2.1.1 hB.2.2.1.2 hB.2.1
      rw [wkM_0] at h4
      rw [e, lf_p_e, lf_p_e, lf_p_e, lf_p_e, lf_p_e, lf_p_e, lf_p_e, lf_p_e, lf_p_e, lf_p_e, lf_p_e, lf_p_e, lf_p_e, lf_p_e, lf_p_e, lf_p_e, lf_p_e, lf_p_e, lf_p_e, lf_b_e, lf_b_e]
      exact ⟨_, rfl, td_m h4 (we_z hP) hM.1 hP.1 hp, fun j hj => tb_run 11 0 a1 (by decide) (by decide) (fun i hi => absurd hi (Nat.not_lt_zero i)) j hj⟩
    · obtain ⟨v43, v17, v18, v19, v20, v21, v22, v23, v44, f46, now2, f27, f7, f28, f29, f8, f25, f26, f30, f31, f32, e, hN⟩ := lv_m (tk := c55) (ask := c58) (red := c59) (sg := c74) (qp := c117) (isCar := a14) (gaps := a11) (isG := a20) (isH := a15) (cr := a16) (wt := a9) (go := a12) (hm := a13) (pr2 := a17) (ci := a18) (pile := a5) (A := 0) hP hM hG hBk h3 rg_0
      have hN' : ndH nK (d + ((k + 1 : Nat) : Int)) ru gr (lvT oC oR oL nW cy ls kO cA clmK pcK d ru gr (fun _ => 0) tr (k + 1)) now2 := by
        rw [show d + ((k + 1 : Nat) : Int) = d + (k : Int) + 1 from by omega]
        exact hN
      rw [if_neg (by omega), e, lf_p_e, lf_p_e, lf_p_e, lf_p_e, lf_p_e, lf_p_e, lf_p_e, lf_p_e, lf_p_e, lf_p_e, lf_p_e, lf_p_e, lf_p_e, lf_p_e, lf_p_e, lf_p_e, lf_p_e, lf_p_e, lf_p_e, lf_p_e, lf_p_e]
      exact ih (k + 1) _ _ _ _ _ _ _ _ _ now2 _ _ _ _ _ _ _ _ _ _ _ (by omega) (by omega) hN'
theorem lat_m (hP : plH nW nK cy ls oC oR kO cA clmK pcK comers code spans ar) (hM : pmH nW nK cy ls oC oR oL kO cA clmK pcK many bar kinds walkers cf ce codes) (hG : cdG false 123 oL) (hB : stB nK d ru gr tr) (hn : ndH nK d ru gr tr now) (hi : isc = 1) : ∃ O, O = F_X10_later isc tk ask red io lg gt icg sg qp many bar kinds walkers cf ce codes now asd isCar gapM isG isH crM wtM goM hmM prM ciM pile p0 p1 ∧ O.1 = latA oC oR oL nW cy ls kO cA clmK pcK d ru gr tr p0 p1 ∧ ndH nK d ru gr tr O.2.2.2.2.2.2.2.2.2.2.1 := by
  have hd := hB.1
  have hn0 := hn.1
  unfold F_X10_later F_X10_isAhead_a1_0_a2_29 F_X10_isAhead_a1_0_a2_29_37 F_X10_later_23 latA lf_isin
  rw [if_neg (show ¬ isc = 0 from by omega)]
  by_cases c0 : 0 ≤ p0 ∧ p0 ≤ 29
  · rw [if_pos c0, if_neg (show ¬ (1 : Int) = 0 from by decide), show now (Int.toNat (0 : Int)) = d from hn0, lo_add (by omega) (by omega) (by omega) (by omega) (by omega) (by omega)]
    by_cases c1 : 999 < d + p0
    · rw [if_pos c1, lf_b_e, if_pos rfl, if_neg (by omega)]
      exact ⟨_, rfl, rfl, hn⟩
    · rw [if_neg c1, lf_b_e, if_neg (show ¬ (1 : Int) = 0 from by decide)]
      by_cases c2 : 0 ≤ p1 ∧ p1 ≤ 5
      · rw [if_pos c2, if_neg (show ¬ (1 : Int) = 0 from by decide), lf_b_e, if_pos (by omega)]
        obtain ⟨O, e, e1, e2⟩ := la_run (p1 := p1) (asd := F_X10_putsAside now asd) (n := p0.toNat) hP hM hG hB (by omega) (by omega) c2 31 0 tk ask red io lg gt icg sg qp now pile wtM gapM goM hmM isCar isH crM prM ciM isG (Nat.zero_le _) (by omega) (by
          rw [show d + ((0 : Nat) : Int) = d from by omega]
          exact hn)
        rw [show ((p0.toNat : Nat) : Int) = p0 from by omega] at e
        refine ⟨O, e, e1, nd_9 hP.2.1 hn (fun j hj => ?_)⟩
        rw [e2 j hj]
        exact pa_run 11 0 asd (by decide) (by decide) (fun i hi => absurd hi (Nat.not_lt_zero i)) j hj
      · rw [if_neg c2, if_pos rfl, if_neg (by omega)]
        exact ⟨_, rfl, rfl, hn⟩
  · rw [if_neg c0, if_pos rfl, lf_b_e, if_pos rfl, if_neg (by omega)]
    exact ⟨_, rfl, rfl, hn⟩
theorem dom_run : ∀ (f l : Nat) (c55 c58 c59 c70 c71 c72 c73 c74 c117 : Int) (a2 a6 a10 a12 a13 a14 a15 a16 a17 a18 a19 a20 : Nat → Int), l ≤ 30 → 30 - l < f → ∃ O, O = F_X10_doubts_16 many bar kinds walkers cf ce codes p0 f asd (l : Int) c55 c58 c59 c70 c71 c72 c73 c74 c117 a2 a6 a10 a12 a13 a14 a15 a16 a17 a18 a19 a20 ∧ ∀ j, j < 9 → O.2.2.2.2.2.2.2.2.2.2.1 j = asd j := by
  intro f
  induction f with
  | zero => intro l c55 c58 c59 c70 c71 c72 c73 c74 c117 a2 a6 a10 a12 a13 a14 a15 a16 a17 a18 a19 a20 h1 h2; omega
  | succ f ih =>
    intro l c55 c58 c59 c70 c71 c72 c73 c74 c117 a2 a6 a10 a12 a13 a14 a15 a16 a17 a18 a19 a20 h1 h2
    have e0 : F_X10_doubts_16 many bar kinds walkers cf ce codes p0 (f + 1) asd (l : Int) c55 c58 c59 c70 c71 c72 c73 c74 c117 a2 a6 a10 a12 a13 a14 a15 a16 a17 a18 a19 a20 = F_X10_doubts_16b many bar kinds walkers cf ce codes p0 (F_X10_doubts_16 many bar kinds walkers cf ce codes p0 f) asd (l : Int) c55 c58 c59 c70 c71 c72 c73 c74 c117 a2 a6 a10 a12 a13 a14 a15 a16 a17 a18 a19 a20 := rfl
    rw [e0]
    unfold F_X10_doubts_16b F_X10_doubts_54 F_X10_doubts_67
    have back : ∀ j, j < 9 → F_X10_takesBack a2 asd j = asd j := fun j hj => tb_run 11 0 a2 (by decide) (by decide) (fun i hi => absurd hi (Nat.not_lt_zero i)) j hj
    have ex : ∃ O, O = (lf_b (F_X10_trustsOf a2 p0) (fun r9 => if r9 = (0 : Int) then (lf_b (F_X10_takesBack a2 asd) (fun f3 => if (1 : Int) = (0 : Int) then ((-1 : Int), c55, c58, c59, c70, c71, c72, c73, c74, c117, f3, asd, a6, a10, a12, a13, a14, a15, a16, a17, a18, a19, a20) else ((l : Int), c55, c58, c59, c70, c71, c72, c73, c74, c117, f3, asd, a6, a10, a12, a13, a14, a15, a16, a17, a18, a19, a20))) else (lf_b (F_X10_takesBack a2 asd) (fun f3 => if (0 : Int) = (0 : Int) then ((-1 : Int), c55, c58, c59, c70, c71, c72, c73, c74, c117, f3, asd, a6, a10, a12, a13, a14, a15, a16, a17, a18, a19, a20) else ((l : Int), c55, c58, c59, c70, c71, c72, c73, c74, c117, f3, asd, a6, a10, a12, a13, a14, a15, a16, a17, a18, a19, a20))))) ∧ ∀ j, j < 9 → O.2.2.2.2.2.2.2.2.2.2.1 j = asd j := by
      rw [lf_b_e]
      by_cases z : F_X10_trustsOf a2 p0 = 0
      · rw [if_pos z, lf_b_e, if_neg (show ¬ (1 : Int) = 0 from by decide)]
        exact ⟨_, rfl, back⟩
      · rw [if_neg z, lf_b_e, if_pos rfl]
        exact ⟨_, rfl, back⟩
    by_cases q1 : F_X10_trustsOf a2 p0 ≤ 0
    · rw [lf_b_e, if_pos q1]
      exact ex
    · rw [lf_b_e, if_neg q1]
      by_cases q2 : l = 30
      · rw [if_pos (show (30 : Int) ≤ (l : Int) from by omega)]
        exact ex
      · rw [if_neg (show ¬ (30 : Int) ≤ (l : Int) from by omega)]
        by_cases q3 : (999 : Int) ≤ a2 (Int.toNat (0 : Int))
        · rw [if_pos q3]
          exact ex
        · rw [if_neg q3]
          generalize F_X10_dayGoes c55 c58 c59 c74 c117 many bar kinds walkers cf ce codes a2 a15 a12 _ _ _ _ _ _ _ _ _ _ = R
          obtain ⟨r1, r2, r3, r4, r5, r6, r7, r8, r9, r10, r11, r12, r13, r14, r15, r16, r17, r18, r19, r20, r21, r22⟩ := R
          rw [lf_p_e, lf_p_e, lf_p_e, lf_p_e, lf_p_e, lf_p_e, lf_p_e, lf_p_e, lf_p_e, lf_p_e, lf_p_e, lf_p_e, lf_p_e, lf_p_e, lf_p_e, lf_p_e, lf_p_e, lf_p_e, lf_p_e, lf_p_e, lf_p_e]
          exact ih (l + 1) _ _ _ _ _ _ _ _ _ _ _ _ _ _ _ _ _ _ _ _ _ (by omega) (by omega)
theorem dou_m (hK : nK ≤ 6) (hn : ndH nK d ru gr tr now) : ∃ O, O = F_X10_doubts tk ask red io lg gt icg sg qp many bar kinds walkers cf ce codes now asd isCar gapM isG isH crM wtM goM hmM prM ciM pile p0 ∧ ndH nK d ru gr tr O.2.2.2.2.2.2.2.2.2.2.1 := by
  unfold F_X10_doubts
  by_cases q : F_X10_isKind many p0 = 0
  · rw [lf_b_e, if_pos q]
    exact ⟨_, rfl, hn⟩
  · rw [lf_b_e, if_neg q, lf_b_e]
    obtain ⟨O, e, e1⟩ := dom_run (many := many) (bar := bar) (kinds := kinds) (walkers := walkers) (cf := cf) (ce := ce) (codes := codes) (p0 := p0) (asd := F_X10_putsAside now asd) 32 0 tk ask red io lg gt icg sg qp now pile wtM gapM goM hmM isCar isH crM prM ciM isG (Nat.zero_le _) (by decide)
    refine ⟨O, e, nd_9 hK hn (fun j hj => ?_)⟩
    rw [e1 j hj]
    exact pa_run 11 0 asd (by decide) (by decide) (fun i hi => absurd hi (Nat.not_lt_zero i)) j hj
/-- days, on both sides -/
theorem cl_x : F_X9_canLive cy d p0 = if (10 ≤ cy ∨ 0 < cy) ∧ (1 ≤ p0 ∧ p0 ≤ 30) ∧ lf_o lf_iadd d p0 ≤ 999 then 1 else 0 := by
  unfold F_X9_canLive F_X9_canLive_37 F_X9_stands
  by_cases c0 : cy ≤ 0
  · rw [if_pos c0, lf_b_e, if_pos rfl, if_neg (by omega)]
  rw [if_neg c0, lf_b_e, if_neg (show ¬ (1 : Int) = 0 from by decide)]
  by_cases c1 : p0 < 1
  · rw [if_pos c1, if_neg (by omega)]
  rw [if_neg c1]
  by_cases c2 : 30 < p0
  · rw [if_pos c2, if_neg (by omega)]
  rw [if_neg c2]
  by_cases c3 : 999 < lf_o lf_iadd d p0
  · rw [if_pos c3, if_neg (by omega)]
  · rw [if_neg c3, if_pos (by omega)]
theorem ia_m (h : now 0 = d) : F_X10_isAhead_a1_1_a2_30 isc now p0 = if ¬ isc = 0 ∧ (1 ≤ p0 ∧ p0 ≤ 30) ∧ lf_o lf_iadd d p0 ≤ 999 then 1 else 0 := by
  unfold F_X10_isAhead_a1_1_a2_30 F_X10_isAhead_a1_1_a2_30_37 lf_isin
  by_cases c0 : isc = 0
  · rw [if_pos c0, if_neg (fun r => r.1 c0)]
  rw [if_neg c0, show now (Int.toNat (0 : Int)) = d from h]
  by_cases c1 : 1 ≤ p0 ∧ p0 ≤ 30
  · rw [if_pos c1, if_neg (show ¬ (1 : Int) = 0 from by decide)]
    by_cases c3 : 999 < lf_o lf_iadd d p0
    · rw [if_pos c3, if_neg (by omega)]
    · rw [if_neg c3, if_pos (by omega)]
  · rw [if_neg c1, if_pos rfl, if_neg (fun r => c1 r.2.1)]
def rfN (f : Nat → Int) (k : Int) : Nat → Int := lf_up f k (lf_o lf_iadd (f (Int.toNat k)) (1 : Int))
theorem dy_x0 (h : ¬ ((10 ≤ cy ∨ 0 < cy) ∧ (1 ≤ p0 ∧ p0 ≤ 30) ∧ lf_o lf_iadd d p0 ≤ 999)) : F_X9_days cy ls (nK : Int) clmK pcK (nW : Int) kO cA comers code spans d ru gr tr rD rR rG rF hnx hct facts stack sd str sru sgr sA ar cars gaps known left leaves pr cr we ha tkn akn cmp refu p0 = ((-1 : Int), d, hnx, hct, tr, tkn, akn, cmp, rfN refu 3, sd, sru, sgr, sA, pr, cr, we, ha, facts, stack, cars, gaps, str, known, left, leaves, rD, rR, rG, rF) := by
  unfold F_X9_days
  rw [cl_x, if_neg h, lf_b_e, if_pos rfl]
  rfl
theorem dy_m0 (h0 : now 0 = d) (h : ¬ (¬ isc = 0 ∧ (1 ≤ p0 ∧ p0 ≤ 30) ∧ lf_o lf_iadd d p0 ≤ 999)) : ∃ O, O = F_X10_days isc tk ask red io lg gt icg sg und nwst qp refM many bar kinds walkers cf ce codes now isCar gapM isG isH crM wtM goM hmM prM ciM kept pile p0 ∧ O.1 = -1 ∧ O.2.2.2.2.2.2.2.2.2.1 = und ∧ O.2.2.2.2.2.2.2.2.2.2.1 = nwst ∧ O.2.2.2.2.2.2.2.2.2.2.2.2.1 = now ∧ O.2.2.2.2.2.2.2.2.2.2.2.2.2.1 = kept ∧ O.2.2.2.2.2.2.2.2.2.2.2.2.2.2.1 = rfN refM 3 := by
  unfold F_X10_days
  rw [ia_m h0, if_neg h, lf_b_e, if_pos rfl]
  exact ⟨_, rfl, rfl, rfl, rfl, rfl, rfl, rfl⟩
theorem dy_t (hP : plH nW nK cy ls oC oR kO cA clmK pcK comers code spans ar) (hM : pmH nW nK cy ls oC oR oL kO cA clmK pcK many bar kinds walkers cf ce codes) (hL : cdX code spans 4 oL ∧ cdG false 123 oL) (hS : sfH oC oR nW nK cy ls kO cA clmK pcK sd str sru sgr sA cars gaps known left leaves pr cr we ha) (hB : stB nK d ru gr tr) (hN : ndH nK d ru gr tr now) (hH : hsH nK hnx hct rD rR rG rF nwst und kept) (hi : isc = 1) (hr : refu = refM) : ∃ O Q, O = F_X9_days cy ls (nK : Int) clmK pcK (nW : Int) kO cA comers code spans d ru gr tr rD rR rG rF hnx hct facts stack sd str sru sgr sA ar cars gaps known left leaves pr cr we ha tkn akn cmp refu p0 ∧ Q = F_X10_days isc tk ask red io lg gt icg sg und nwst qp refM many bar kinds walkers cf ce codes now isCar gapM isG isH crM wtM goM hmM prM ciM kept pile p0 ∧ O.1 = Q.1 ∧ O.2.2.2.2.2.2.2.2.1 = Q.2.2.2.2.2.2.2.2.2.2.2.2.2.2.1 ∧ sfH oC oR nW nK cy ls kO cA clmK pcK O.2.2.2.2.2.2.2.2.2.1 O.2.2.2.2.2.2.2.2.2.2.2.2.2.2.2.2.2.2.2.2.2.1 O.2.2.2.2.2.2.2.2.2.2.1 O.2.2.2.2.2.2.2.2.2.2.2.1 O.2.2.2.2.2.2.2.2.2.2.2.2.1 O.2.2.2.2.2.2.2.2.2.2.2.2.2.2.2.2.2.2.2.1 O.2.2.2.2.2.2.2.2.2.2.2.2.2.2.2.2.2.2.2.2.1 O.2.2.2.2.2.2.2.2.2.2.2.2.2.2.2.2.2.2.2.2.2.2.1 O.2.2.2.2.2.2.2.2.2.2.2.2.2.2.2.2.2.2.2.2.2.2.2.1 O.2.2.2.2.2.2.2.2.2.2.2.2.2.2.2.2.2.2.2.2.2.2.2.2.1 O.2.2.2.2.2.2.2.2.2.2.2.2.2.1 O.2.2.2.2.2.2.2.2.2.2.2.2.2.2.1 O.2.2.2.2.2.2.2.2.2.2.2.2.2.2.2.1 O.2.2.2.2.2.2.2.2.2.2.2.2.2.2.2.2.1 ∧ acO nK d ru gr O.2.1 ru gr tr O.2.2.2.2.1 Q.2.2.2.2.2.2.2.2.2.2.2.2.1 O.2.2.1 O.2.2.2.1 O.2.2.2.2.2.2.2.2.2.2.2.2.2.2.2.2.2.2.2.2.2.2.2.2.2.1 O.2.2.2.2.2.2.2.2.2.2.2.2.2.2.2.2.2.2.2.2.2.2.2.2.2.2.1 O.2.2.2.2.2.2.2.2.2.2.2.2.2.2.2.2.2.2.2.2.2.2.2.2.2.2.2.1 O.2.2.2.2.2.2.2.2.2.2.2.2.2.2.2.2.2.2.2.2.2.2.2.2.2.2.2.2 Q.2.2.2.2.2.2.2.2.2.2.1 Q.2.2.2.2.2.2.2.2.2.1 Q.2.2.2.2.2.2.2.2.2.2.2.2.2.1 tkn akn cmp O.2.2.2.2.2.1 O.2.2.2.2.2.2.1 O.2.2.2.2.2.2.2.1 := by
  subst hr
  have hd := hB.1
  have hcy := hP.2.2.1
  by_cases q : (1 ≤ p0 ∧ p0 ≤ 30) ∧ lf_o lf_iadd d p0 ≤ 999
  · obtain ⟨q1, q2⟩ := q
    rw [lo_add (by omega) (by omega) (by omega) (by omega) (by omega) (by omega)] at q2
    obtain ⟨n2, c2, D2, R2, G2, F2, u2, w2, K2, e1, e2, e3⟩ := hs_keep hP.2.1 hH hB hN (fun k _ => rfl)
    obtain ⟨O, eO, o1, o2, o3, o4, o5, o6, o7, o8, o9, o10, o11, o12, o13, o14⟩ := dc_run (refu := refu) (n := p0.toNat) hP hL hB (by omega) (by omega) 32 0 n2 c2 sd sru sgr sA pr cr we ha D2 R2 G2 F2 tr facts stack cars gaps str known left leaves (Nat.zero_le _) (by omega) (fun _ _ => rfl) hS
    obtain ⟨Q, eQ, m1, m2, m3, m4, m5, m6⟩ := dm_run (refu := refu) (n := p0.toNat) hP hM hL.2 hB (by omega) (by omega) 32 0 u2 w2 tk ask red io lg gt icg sg qp now K2 pile wtM gapM goM hmM isCar isH crM prM ciM isG (Nat.zero_le _) (by omega) (by
      rw [show d + ((0 : Nat) : Int) = d from by omega]
      exact hN)
    rw [show d + ((0 : Nat) : Int) = d from by omega, show ((p0.toNat : Nat) : Int) = p0 from by omega] at eO
    rw [show ((p0.toNat : Nat) : Int) = p0 from by omega] at eQ o2 m4
    have hTb := lvT_b (oL := oL) (cy := cy) (ls := ls) (ru := ru) (gr := gr) (a := fun _ => 0) (tr := tr) hP hB.1.1 hB.2.2.2 p0.toNat (by omega)
    refine ⟨O, Q, ?_, ?_, o1.trans m1.symm, o9.trans m6.symm, o10, ⟨⟨?_, hB.2.1, hB.2.2.1, fun j hj => ?_⟩, ?_, ?_, Or.inr ⟨o6, o7, o8⟩⟩⟩
    · unfold F_X9_days
      rw [cl_x, if_pos ⟨Or.inl hcy.1, q1, by rw [lo_add (by omega) (by omega) (by omega) (by omega) (by omega) (by omega)]; exact q2⟩, lf_b_e, if_neg (show ¬ (1 : Int) = 0 from by decide), e1, lf_p_e, lf_p_e, lf_p_e, lf_p_e, lf_p_e]
      exact eO
    · unfold F_X10_days
      rw [ia_m hN.1, if_pos ⟨by omega, q1, by rw [lo_add (by omega) (by omega) (by omega) (by omega) (by omega) (by omega)]; exact q2⟩, lf_b_e, if_neg (show ¬ (1 : Int) = 0 from by decide), e2, lf_p_e, lf_p_e]
      exact eQ
    · rw [o2]
      omega
    · rw [o5 j hj]
      exact hTb j hj
    · rw [o2]
      exact ndH_cg m4 o5
    · rw [o3, o4, o11, o12, o13, o14, m2, m3, m5]
      exact e3
  · obtain ⟨Q, eQ, m1, m2, m3, m4, m5, m6⟩ := dy_m0 (many := many) (bar := bar) (kinds := kinds) (walkers := walkers) (cf := cf) (ce := ce) (codes := codes) (tk := tk) (ask := ask) (red := red) (io := io) (lg := lg) (gt := gt) (icg := icg) (sg := sg) (qp := qp) (isCar := isCar) (gapM := gapM) (isG := isG) (isH := isH) (crM := crM) (wtM := wtM) (goM := goM) (hmM := hmM) (prM := prM) (ciM := ciM) (pile := pile) (kept := kept) (und := und) (nwst := nwst) (refM := refu) (isc := isc) (p0 := p0) hN.1 (fun r => q r.2)
    refine ⟨_, Q, (dy_x0 (fun r => q r.2)).symm, eQ, m1.symm, m6.symm, hS, ⟨hB, ?_, ?_, Or.inl ⟨rfl, rfl, rfl, rfl, rfl, rfl, rfl⟩⟩⟩
    · rw [m4]
      exact hN
    · rw [m2, m3, m5]
      exact hH
end MA
end
section
/-! 9f -/
/-! chance, on both sides -/
section CH
variable {nW nK : Nat} {oC oR oL : Option (List Int)} {s cy ls aw stm d ru gr hnx hct sd sru sgr sA ar pr cr we ha tkn ad aru agr akn rws cmp fnd frl fgr chs chl occ dwn fa pl sM awM isc und nwst rmM moc sdd tk ask red io lg gt icg sg qp ftm ftr ftg mf mp0 p0 p1 p2 p3 p4 : Int} {g clmK pcK kO cA comers code spans nmX tr rD rR rG facts stack str cars gaps known left leaves tab atr atd ats sw ss sec oct refu gM many bar kinds walkers cf ce codes now kept mrw mo refM asd isCar gapM isG isH crM wtM goM hmM prM ciM pile whn : Nat → Int} {rF : Nat → Nat → Int}
def chS (aw : Int) (nW s0 : Nat) : Nat → Nat
  | 0 => s0
  | k + 1 => (dwA aw (chS aw nW s0 k) nW).1
def chA (aw : Int) (nW s0 : Nat) (k : Nat) : Int := (F_X9_drawAbsent aw (nW : Int) (chS aw nW s0 k : Int)).1
def chM (aw : Int) (nW s0 : Nat) : Nat → Int
  | 0 => 0
  | k + 1 => chM aw nW s0 k + cnf (dwA aw (chS aw nW s0 k) nW).2 nW
theorem chS_l {s0 : Nat} (h : s0 < 2147483648) : ∀ k, chS aw nW s0 k < 2147483648
  | 0 => h
  | k + 1 => dwA_l (chS_l h k) nW
theorem dwA_hi {s0 : Nat} : ∀ k w, k ≤ w → (dwA aw s0 k).2 w = false
  | 0, w, _ => rfl
  | k + 1, w, h => by
    have e : (dwA aw s0 (k + 1)).2 w = ((dwA aw s0 k).2 w || (decide (w = k) && decide (((dwS (dwA aw s0 k).1 / 64 % 100 : Nat) : Int) < aw))) := rfl
    rw [e, dwA_hi k w (by omega), decide_eq_false (show ¬ w = k from by omega)]
    rfl
theorem chA_x {s0 : Nat} (h : s0 < 2147483648) (hn : nW ≤ 12) (k : Nat) : F_X9_drawAbsent aw (nW : Int) (chS aw nW s0 k : Int) = (chA aw nW s0 k, ((chS aw nW s0 (k + 1) : Nat) : Int)) ∧ rg (chA aw nW s0 k) ∧ ∀ w, w < 12 → bt (chA aw nW s0 k) w = (dwA aw (chS aw nW s0 k) nW).2 w := by
  obtain ⟨A, e, e1, e2⟩ := da_x (away := aw) (chS_l (aw := aw) (nW := nW) h k) hn 14 0 0 (Nat.zero_le _) (by omega) rg_0 (fun w _ => bt_0 w)
  have e' : F_X9_drawAbsent aw (nW : Int) (chS aw nW s0 k : Int) = (A, ((chS aw nW s0 (k + 1) : Nat) : Int)) := e
  have eA : chA aw nW s0 k = A := by
    unfold chA
    rw [e']
  rw [eA]
  exact ⟨e', e1, e2⟩
theorem chM_b {s0 : Nat} (hn : nW ≤ 12) : ∀ k : Nat, 0 ≤ chM aw nW s0 k ∧ chM aw nW s0 k ≤ 12 * (k : Int)
  | 0 => ⟨Int.le_refl _, Int.le_refl _⟩
  | k + 1 => by
    have ih := chM_b (s0 := s0) hn k
    have hb := cnf_le (dwA aw (chS aw nW s0 k) nW).2 nW
    have e : chM aw nW s0 (k + 1) = chM aw nW s0 k + cnf (dwA aw (chS aw nW s0 k) nW).2 nW := rfl
    rw [e]
    omega
theorem cc_run {s0 n : Nat} (hP : plH nW nK cy ls oC oR kO cA clmK pcK comers code spans ar) (hL : cdX code spans 4 oL ∧ cdG false 123 oL) (hB : stB nK d ru gr tr) (hs : s0 < 2147483648) (hn : n ≤ 30) (hdn : d + (n : Int) ≤ 999) : ∀ (f k : Nat) (c1 c2 sd ru1 gr1 A1 pr cr we ha : Int) (rD rR rG : Nat → Int) (rF : Nat → Nat → Int) (a6 facts stack cars gaps str known left leaves : Nat → Int), k ≤ n → n - k < f → (∀ j, j < nK → a6 j = lvT oC oR oL nW cy ls kO cA clmK pcK d ru gr (chA aw nW s0) tr k j) → sfH oC oR nW nK cy ls kO cA clmK pcK sd str ru1 gr1 A1 cars gaps known left leaves pr cr we ha → (∃ O, O = F_X9_chance_22 cy ls aw (nK : Int) clmK pcK (nW : Int) kO cA comers code spans ru gr ar refu (n : Int) f c1 c2 rD rR rG rF (chM aw nW s0 k) (k : Int) ((chS aw nW s0 k : Nat) : Int) (d + (k : Int)) sd ru1 gr1 A1 pr cr we ha a6 facts stack cars gaps str known left leaves ∧ O.1 = chM aw nW s0 n ∧ O.2.1 = ((chS aw nW s0 n : Nat) : Int) ∧ O.2.2.1 = d + (n : Int) ∧ O.2.2.2.1 = c1 ∧ O.2.2.2.2.1 = c2 ∧ (∀ j, j < nK → O.2.2.2.2.2.1 j = lvT oC oR oL nW cy ls kO cA clmK pcK d ru gr (chA aw nW s0) tr n j) ∧ O.2.2.2.2.2.2.1 = 0 ∧ O.2.2.2.2.2.2.2.1 = 0 ∧ O.2.2.2.2.2.2.2.2.1 = 0 ∧ O.2.2.2.2.2.2.2.2.2.1 = refu ∧ sfH oC oR nW nK cy ls kO cA clmK pcK O.2.2.2.2.2.2.2.2.2.2.1 O.2.2.2.2.2.2.2.2.2.2.2.2.2.2.2.2.2.2.2.2.2.2.1 O.2.2.2.2.2.2.2.2.2.2.2.1 O.2.2.2.2.2.2.2.2.2.2.2.2.1 O.2.2.2.2.2.2.2.2.2.2.2.2.2.1 O.2.2.2.2.2.2.2.2.2.2.2.2.2.2.2.2.2.2.2.2.1 O.2.2.2.2.2.2.2.2.2.2.2.2.2.2.2.2.2.2.2.2.2.1 O.2.2.2.2.2.2.2.2.2.2.2.2.2.2.2.2.2.2.2.2.2.2.2.1 O.2.2.2.2.2.2.2.2.2.2.2.2.2.2.2.2.2.2.2.2.2.2.2.2.1 O.2.2.2.2.2.2.2.2.2.2.2.2.2.2.2.2.2.2.2.2.2.2.2.2.2.1 O.2.2.2.2.2.2.2.2.2.2.2.2.2.2.1 O.2.2.2.2.2.2.2.2.2.2.2.2.2.2.2.1 O.2.2.2.2.2.2.2.2.2.2.2.2.2.2.2.2.1 O.2.2.2.2.2.2.2.2.2.2.2.2.2.2.2.2.2.1 ∧ O.2.2.2.2.2.2.2.2.2.2.2.2.2.2.2.2.2.2.2.2.2.2.2.2.2.2.1 = rD ∧ O.2.2.2.2.2.2.2.2.2.2.2.2.2.2.2.2.2.2.2.2.2.2.2.2.2.2.2.1 = rR ∧ O.2.2.2.2.2.2.2.2.2.2.2.2.2.2.2.2.2.2.2.2.2.2.2.2.2.2.2.2.1 = rG ∧ O.2.2.2.2.2.2.2.2.2.2.2.2.2.2.2.2.2.2.2.2.2.2.2.2.2.2.2.2.2 = rF) := by
  intro f
  induction f with
  | zero => intro k c1 c2 sd ru1 gr1 A1 pr cr we ha rD rR rG rF a6 facts stack cars gaps str known left leaves h1 h2; omega
  | succ f ih =>
    intro k c1 c2 sd ru1 gr1 A1 pr cr we ha rD rR rG rF a6 facts stack cars gaps str known left leaves h1 h2 h3 h4
    have e0 : F_X9_chance_22 cy ls aw (nK : Int) clmK pcK (nW : Int) kO cA comers code spans ru gr ar refu (n : Int) (f + 1) c1 c2 rD rR rG rF (chM aw nW s0 k) (k : Int) ((chS aw nW s0 k : Nat) : Int) (d + (k : Int)) sd ru1 gr1 A1 pr cr we ha a6 facts stack cars gaps str known left leaves = F_X9_chance_22b cy ls aw (nK : Int) clmK pcK (nW : Int) kO cA comers code spans ru gr ar refu (n : Int) (F_X9_chance_22 cy ls aw (nK : Int) clmK pcK (nW : Int) kO cA comers code spans ru gr ar refu (n : Int) f) c1 c2 rD rR rG rF (chM aw nW s0 k) (k : Int) ((chS aw nW s0 k : Nat) : Int) (d + (k : Int)) sd ru1 gr1 A1 pr cr we ha a6 facts stack cars gaps str known left leaves := rfl
    rw [e0]
    unfold F_X9_chance_22b
    have hW : nW ≤ 12 := hP.1
    by_cases q : k = n
    · rw [if_pos (by omega)]
      subst q
      exact ⟨_, rfl, rfl, rfl, rfl, rfl, rfl, h3, rfl, rfl, rfl, rfl, h4, rfl, rfl, rfl, rfl⟩
    · have hd := hB.1
      have hTb := lvT_b (oL := oL) (cy := cy) (ls := ls) (ru := ru) (gr := gr) (a := chA aw nW s0) (tr := tr) hP hB.1.1 hB.2.2.2 k (by omega)
      have hBk : stB nK (d + (k : Int)) ru gr (lvT oC oR oL nW cy ls kO cA clmK pcK d ru gr (chA aw nW s0) tr k) := ⟨⟨by omega, by omega⟩, hB.2.1, hB.2.2.1, hTb⟩
      obtain ⟨eA, rA, bA⟩ := chA_x (aw := aw) hs hW k
      obtain ⟨f2, s2, c2', g2, t2, k2, l2, v2, pr2, cr2, we2, ha2, t3, f3, s3, e, x1, x2, x3, x4, x5⟩ := lv_c (facts := facts) (stack := stack) (A := chA aw nW s0 k) hP hL h4 hBk h3 rA
      have hbc : F_J6_bitCount_0f7a4 (chA aw nW s0 k) = cnf (dwA aw (chS aw nW s0 k) nW).2 nW := bc_c rA hW bA (fun w hw _ => dwA_hi nW w hw)
      have hM := chM_b (aw := aw) (s0 := s0) hW k
      have hc := cnf_le (dwA aw (chS aw nW s0 k) nW).2 nW
      rw [if_neg (by omega), eA, lf_p_e, lf_b_e, hbc, e, lf_p_e, lf_p_e, lf_p_e, lf_p_e, lf_p_e, lf_p_e, lf_p_e, lf_p_e, lf_p_e, lf_p_e, lf_p_e, lf_p_e, lf_p_e, lf_p_e, lf_p_e, x4, lf_p_e, lf_p_e, lf_p_e, lo_add (by omega) (by omega) (by omega) (by omega) (by omega) (by omega)]
      have e5 : d + (k : Int) + 1 = d + ((k + 1 : Nat) : Int) := by omega
      rw [e5]
      exact ih (k + 1) c1 c2 (d + (k : Int)) ru gr (chA aw nW s0 k) pr2 cr2 we2 ha2 rD rR rG rF t3 f3 s3 c2' g2 t2 k2 l2 v2 (by omega) (by omega) x5 x1
abbrev M27 : Type := Int × Int × Int × Int × Int × Int × Int × Int × Int × Int × Int × Int × Int × (Nat → Int) × (Nat → Int) × (Nat → Int) × (Nat → Int) × (Nat → Int) × (Nat → Int) × (Nat → Int) × (Nat → Int) × (Nat → Int) × (Nat → Int) × (Nat → Int) × (Nat → Int) × (Nat → Int) × (Nat → Int)
theorem cm_36 {K25 : Int → Int → (Nat → Int) → Int → Int → Int → Int → Int → Int → Int → Int → Int → Int → (Nat → Int) → (Nat → Int) → (Nat → Int) → (Nat → Int) → (Nat → Int) → (Nat → Int) → (Nat → Int) → (Nat → Int) → (Nat → Int) → (Nat → Int) → (Nat → Int) → (Nat → Int) → Int → Int → M27} {s : Nat} {c82 c83 l3 c55 c58 c59 c74 c117 l0 : Int} {a1 a2 a7 a11 a13 a14 a15 a16 a17 a18 a19 a20 a21 : Nat → Int} {A : Int} (hP : plH nW nK cy ls oC oR kO cA clmK pcK comers code spans ar) (hM : pmH nW nK cy ls oC oR oL kO cA clmK pcK many bar kinds walkers cf ce codes) (hG : cdG false 123 oL) (hB : stB nK d ru gr tr) (hN : ndH nK d ru gr tr a1) (hs : s < 2147483648) (h0 : 0 ≤ l0 ∧ l0 ≤ 1000) (hA : rg A) (hA2 : ∀ w, w < 12 → bt A w = (dwA aw s nW).2 w) : ∀ (f k : Nat) (l4 : Int), k ≤ nW → nW - k < f → rg l4 → (∀ w, w < 12 → bt l4 w = (dwA aw s k).2 w) → ∃ v43 v17 v18 v19 v20 v21 v22 v23 v44 f46 now2 f27 f7 f28 f29 f8 f25 f26 f30 f31 f32, F_X10_chance_36 aw many bar kinds walkers cf ce codes c82 c83 a2 l3 c55 c58 c59 c74 c117 a1 a7 a11 a13 a14 a15 a16 a17 a18 a19 a20 a21 K25 f (l0 + cnf (dwA aw s nW).2 k) l4 (k : Int) ((dwA aw s k).1 : Int) = K25 c82 c83 a2 (l3 + (1 : Int)) v43 v17 v18 v19 v20 v21 v22 v23 v44 now2 f46 f27 f7 f28 f29 f8 f25 f26 f30 f31 f32 (l0 + cnf (dwA aw s nW).2 nW) ((dwA aw s nW).1 : Int) ∧ ndH nK (d + 1) ru gr (lnS oL d cA clmK pcK kO (wt0 cA (abf A) (weS oC oR nW cy ls kO cA clmK pcK d tr ru gr A)) (abf A) tr nW) now2 := by
  intro f
  induction f with
  | zero => intro k l4 h1 h2; omega
  | succ f ih =>
    intro k l4 h1 h2 h3 h4
    have e0 : F_X10_chance_36 aw many bar kinds walkers cf ce codes c82 c83 a2 l3 c55 c58 c59 c74 c117 a1 a7 a11 a13 a14 a15 a16 a17 a18 a19 a20 a21 K25 (f + 1) (l0 + cnf (dwA aw s nW).2 k) l4 (k : Int) ((dwA aw s k).1 : Int) = F_X10_chance_36b aw many bar kinds walkers cf ce codes c82 c83 a2 l3 c55 c58 c59 c74 c117 a1 a7 a11 a13 a14 a15 a16 a17 a18 a19 a20 a21 K25 (F_X10_chance_36 aw many bar kinds walkers cf ce codes c82 c83 a2 l3 c55 c58 c59 c74 c117 a1 a7 a11 a13 a14 a15 a16 a17 a18 a19 a20 a21 K25 f) (l0 + cnf (dwA aw s nW).2 k) l4 (k : Int) ((dwA aw s k).1 : Int) := rfl
    rw [e0]
    unfold F_X10_chance_36b F_X10_chance_70
    have hW : nW ≤ 12 := hP.1
    have hm3 : many 3 = (nW : Int) := hM.1
    rw [lf_b_e, hm3]
    by_cases q : k = nW
    · have e4 : l4 = A := bt_ext h3 hA (fun w hw => by rw [h4 w hw, hA2 w hw, q])
      obtain ⟨v43, v17, v18, v19, v20, v21, v22, v23, v44, f46, now2, f27, f7, f28, f29, f8, f25, f26, f30, f31, f32, e, hN2⟩ := lv_m (tk := c55) (ask := c58) (red := c59) (sg := c74) (qp := c117) (isCar := a16) (gaps := a13) (isG := a21) (isH := a17) (cr := a18) (wt := a11) (go := a14) (hm := a15) (pr2 := a19) (ci := a20) (pile := a7) (A := A) hP hM hG hB hN hA
      rw [if_pos (by omega), e4, e, lf_p_e, lf_p_e, lf_p_e, lf_p_e, lf_p_e, lf_p_e, lf_p_e, lf_p_e, lf_p_e, lf_p_e, lf_p_e, lf_p_e, lf_p_e, lf_p_e, lf_p_e, lf_p_e, lf_p_e, lf_p_e, lf_p_e, lf_p_e, lf_p_e, q]
      exact ⟨_, _, _, _, _, _, _, _, _, _, _, _, _, _, _, _, _, _, _, _, _, rfl, hN2⟩
    · have hl := dwA_l (away := aw) hs k
      rw [if_neg (by omega), dw_2 hl, lf_p_e]
      have e1 : (dwA aw s (k + 1)).1 = dwS (dwA aw s k).1 := rfl
      have e2 : ∀ w, (dwA aw s (k + 1)).2 w = ((dwA aw s k).2 w || (decide (w = k) && decide (((dwS (dwA aw s k).1 / 64 % 100 : Nat) : Int) < aw))) := fun _ => rfl
      have hst : ∀ j, k < j → (dwA aw s j).2 k = decide (((dwS (dwA aw s k).1 / 64 % 100 : Nat) : Int) < aw) := by
        intro j
        induction j with
        | zero => intro hj; omega
        | succ j ihj =>
          intro hj
          have e3 : (dwA aw s (j + 1)).2 k = ((dwA aw s j).2 k || (decide (k = j) && decide (((dwS (dwA aw s j).1 / 64 % 100 : Nat) : Int) < aw))) := rfl
          by_cases z : k = j
          · rw [e3, ← z, dwA_hi k k (Nat.le_refl k), decide_eq_true (show k = k from rfl), Bool.false_or, Bool.true_and]
          · rw [e3, decide_eq_false z, Bool.false_and, Bool.or_false]
            exact ihj (by omega)
      have ec : cnf (dwA aw s nW).2 (k + 1) = cnf (dwA aw s nW).2 k + b2 (decide (((dwS (dwA aw s k).1 / 64 % 100 : Nat) : Int) < aw)) := by
        show cnf (dwA aw s nW).2 k + b2 ((dwA aw s nW).2 k) = _
        rw [hst nW (by omega)]
      have hcb := cnf_le (dwA aw s nW).2 k
      by_cases y : aw ≤ ((dwS (dwA aw s k).1 / 64 % 100 : Nat) : Int)
      · rw [if_pos y]
        have hx := ih (k + 1) l4 (by omega) (by omega) h3 (fun w hw => by
          rw [h4 w hw, e2, decide_eq_false (show ¬ ((dwS (dwA aw s k).1 / 64 % 100 : Nat) : Int) < aw from by omega), Bool.and_false, Bool.or_false])
        rw [ec, decide_eq_false (show ¬ ((dwS (dwA aw s k).1 / 64 % 100 : Nat) : Int) < aw from by omega), show l0 + (cnf (dwA aw s nW).2 k + b2 false) = l0 + cnf (dwA aw s nW).2 k from by
          have : b2 false = 0 := rfl
          omega] at hx
        exact hx
      · rw [if_neg y]
        have ha := bt_add (w := k) h3 (by omega)
        have hx := ih (k + 1) (lf_o lf_ior l4 (lf_o lf_ishl (1 : Int) (k : Int))) (by omega) (by omega) ha.1 (fun w hw => by
          rw [ha.2, h4 w hw, e2, decide_eq_true (show ((dwS (dwA aw s k).1 / 64 % 100 : Nat) : Int) < aw from by omega), Bool.and_true]
          by_cases z : w = k
          · rw [z, decide_eq_true rfl]
          · rw [decide_eq_false z, decide_eq_false (fun r => z r.symm)])
        rw [ec, decide_eq_true (show ((dwS (dwA aw s k).1 / 64 % 100 : Nat) : Int) < aw from by omega), show l0 + (cnf (dwA aw s nW).2 k + b2 true) = l0 + cnf (dwA aw s nW).2 k + 1 from by
          have : b2 true = 1 := rfl
          omega] at hx
        rw [lo_add (by omega) (by omega) (by omega) (by omega) (by omega) (by omega)]
        exact hx
theorem cm_run {s0 n : Nat} (hP : plH nW nK cy ls oC oR kO cA clmK pcK comers code spans ar) (hM : pmH nW nK cy ls oC oR oL kO cA clmK pcK many bar kinds walkers cf ce codes) (hG : cdG false 123 oL) (hB : stB nK d ru gr tr) (hs : s0 < 2147483648) (hn : n ≤ 30) (hdn : d + (n : Int) ≤ 999) : ∀ (f k : Nat) (c82 c83 c55 c58 c59 c70 c71 c72 c73 c74 c117 : Int) (a1 a2 a7 a11 a13 a14 a15 a16 a17 a18 a19 a20 a21 : Nat → Int), k ≤ n → n - k < f → ndH nK (d + (k : Int)) ru gr (lvT oC oR oL nW cy ls kO cA clmK pcK d ru gr (chA aw nW s0) tr k) a1 → (∃ O, O = F_X10_chance_25 aw refM many bar kinds walkers cf ce codes (n : Int) f c82 c83 a2 (k : Int) c55 c58 c59 c70 c71 c72 c73 c74 c117 a1 a7 a11 a13 a14 a15 a16 a17 a18 a19 a20 a21 (chM aw nW s0 k) ((chS aw nW s0 k : Nat) : Int) ∧ O.1 = chM aw nW s0 n ∧ O.2.2.2.2.2.2.2.2.2.1 = c82 ∧ O.2.2.2.2.2.2.2.2.2.2.1 = c83 ∧ O.2.2.2.2.2.2.2.2.2.2.2.1 = ((chS aw nW s0 n : Nat) : Int) ∧ ndH nK (d + (n : Int)) ru gr (lvT oC oR oL nW cy ls kO cA clmK pcK d ru gr (chA aw nW s0) tr n) O.2.2.2.2.2.2.2.2.2.2.2.2.2.1 ∧ O.2.2.2.2.2.2.2.2.2.2.2.2.2.2.1 = a2 ∧ O.2.2.2.2.2.2.2.2.2.2.2.2.2.2.2.1 = refM) := by
  intro f
  induction f with
  | zero => intro k c82 c83 c55 c58 c59 c70 c71 c72 c73 c74 c117 a1 a2 a7 a11 a13 a14 a15 a16 a17 a18 a19 a20 a21 h1 h2; omega
  | succ f ih =>
    intro k c82 c83 c55 c58 c59 c70 c71 c72 c73 c74 c117 a1 a2 a7 a11 a13 a14 a15 a16 a17 a18 a19 a20 a21 h1 h2 h3
    have e0 : F_X10_chance_25 aw refM many bar kinds walkers cf ce codes (n : Int) (f + 1) c82 c83 a2 (k : Int) c55 c58 c59 c70 c71 c72 c73 c74 c117 a1 a7 a11 a13 a14 a15 a16 a17 a18 a19 a20 a21 (chM aw nW s0 k) ((chS aw nW s0 k : Nat) : Int) = F_X10_chance_25b aw refM many bar kinds walkers cf ce codes (n : Int) (F_X10_chance_25 aw refM many bar kinds walkers cf ce codes (n : Int) f) c82 c83 a2 (k : Int) c55 c58 c59 c70 c71 c72 c73 c74 c117 a1 a7 a11 a13 a14 a15 a16 a17 a18 a19 a20 a21 (chM aw nW s0 k) ((chS aw nW s0 k : Nat) : Int) := rfl
    rw [e0]
    unfold F_X10_chance_25b
    have hW : nW ≤ 12 := hP.1
    by_cases q : k = n
    · rw [if_pos (by omega)]
      subst q
      exact ⟨_, rfl, rfl, rfl, rfl, rfl, h3, rfl, rfl⟩
    · have hd := hB.1
      have hTb := lvT_b (oL := oL) (cy := cy) (ls := ls) (ru := ru) (gr := gr) (a := chA aw nW s0) (tr := tr) hP hB.1.1 hB.2.2.2 k (by omega)
      have hBk : stB nK (d + (k : Int)) ru gr (lvT oC oR oL nW cy ls kO cA clmK pcK d ru gr (chA aw nW s0) tr k) := ⟨⟨by omega, by omega⟩, hB.2.1, hB.2.2.1, hTb⟩
      obtain ⟨eA, rA, bA⟩ := chA_x (aw := aw) hs hW k
      have hMb := chM_b (aw := aw) (s0 := s0) hW k
      obtain ⟨v43, v17, v18, v19, v20, v21, v22, v23, v44, f46, now2, f27, f7, f28, f29, f8, f25, f26, f30, f31, f32, e, hN2⟩ := cm_36 (K25 := F_X10_chance_25 aw refM many bar kinds walkers cf ce codes (n : Int) f) (c82 := c82) (c83 := c83) (a2 := a2) (l3 := (k : Int)) (c55 := c55) (c58 := c58) (c59 := c59) (c74 := c74) (c117 := c117) (a7 := a7) (a11 := a11) (a13 := a13) (a14 := a14) (a15 := a15) (a16 := a16) (a17 := a17) (a18 := a18) (a19 := a19) (a20 := a20) (a21 := a21) (l0 := chM aw nW s0 k) (aw := aw) hP hM hG hBk h3 (chS_l (aw := aw) (nW := nW) hs k) (by omega) rA bA 14 0 0 (Nat.zero_le _) (by omega) rg_0 (fun w _ => bt_0 w)
      rw [show chM aw nW s0 k + cnf (dwA aw (chS aw nW s0 k) nW).2 0 = chM aw nW s0 k from Int.add_zero _] at e
      have hN' : ndH nK (d + ((k + 1 : Nat) : Int)) ru gr (lvT oC oR oL nW cy ls kO cA clmK pcK d ru gr (chA aw nW s0) tr (k + 1)) now2 := by
        rw [show d + ((k + 1 : Nat) : Int) = d + (k : Int) + 1 from by omega]
        exact hN2
      have e' : F_X10_chance_36 aw many bar kinds walkers cf ce codes c82 c83 a2 (k : Int) c55 c58 c59 c74 c117 a1 a7 a11 a13 a14 a15 a16 a17 a18 a19 a20 a21 (F_X10_chance_25 aw refM many bar kinds walkers cf ce codes (n : Int) f) 14 (chM aw nW s0 k) (0 : Int) (0 : Int) ((chS aw nW s0 k : Nat) : Int) = _ := e
      rw [if_neg (by omega), e']
      exact ih (k + 1) c82 c83 v43 v17 v18 v19 v20 v21 v22 v23 v44 now2 a2 f46 f27 f7 f28 f29 f8 f25 f26 f30 f31 f32 (by omega) (by omega) hN'
theorem ch_x0 (h : ¬ ((10 ≤ cy ∨ 0 < cy) ∧ (1 ≤ p0 ∧ p0 ≤ 30) ∧ lf_o lf_iadd d p0 ≤ 999)) : F_X9_chance cy ls aw (nK : Int) clmK pcK (nW : Int) kO cA comers code spans d ru gr tr rD rR rG rF hnx hct facts stack sd str sru sgr sA ar cars gaps known left leaves pr cr we ha tkn akn cmp refu dwn p0 = ((-1 : Int), dwn, d, hnx, hct, tr, tkn, akn, cmp, rfN refu 3, sd, sru, sgr, sA, pr, cr, we, ha, facts, stack, cars, gaps, str, known, left, leaves, rD, rR, rG, rF) := by
  unfold F_X9_chance
  rw [cl_x, if_neg h, lf_b_e, if_pos rfl]
  rfl
theorem ch_m0 (h0 : now 0 = d) (h : ¬ (¬ isc = 0 ∧ (1 ≤ p0 ∧ p0 ≤ 30) ∧ lf_o lf_iadd d p0 ≤ 999)) : ∃ O, O = F_X10_chance awM isc tk ask red io lg gt icg sg und nwst sdd qp refM many bar kinds walkers cf ce codes now isCar gapM isG isH crM wtM goM hmM prM ciM kept pile p0 ∧ O.1 = -1 ∧ O.2.2.2.2.2.2.2.2.2.1 = und ∧ O.2.2.2.2.2.2.2.2.2.2.1 = nwst ∧ O.2.2.2.2.2.2.2.2.2.2.2.1 = sdd ∧ O.2.2.2.2.2.2.2.2.2.2.2.2.2.1 = now ∧ O.2.2.2.2.2.2.2.2.2.2.2.2.2.2.1 = kept ∧ O.2.2.2.2.2.2.2.2.2.2.2.2.2.2.2.1 = rfN refM 3 := by
  unfold F_X10_chance
  rw [ia_m h0, if_neg h, lf_b_e, if_pos rfl]
  exact ⟨_, rfl, rfl, rfl, rfl, rfl, rfl, rfl, rfl⟩
theorem ch_t {s0 : Nat} (hP : plH nW nK cy ls oC oR kO cA clmK pcK comers code spans ar) (hM : pmH nW nK cy ls oC oR oL kO cA clmK pcK many bar kinds walkers cf ce codes) (hL : cdX code spans 4 oL ∧ cdG false 123 oL) (hS : sfH oC oR nW nK cy ls kO cA clmK pcK sd str sru sgr sA cars gaps known left leaves pr cr we ha) (hB : stB nK d ru gr tr) (hN : ndH nK d ru gr tr now) (hH : hsH nK hnx hct rD rR rG rF nwst und kept) (hi : isc = 1) (hr : refu = refM) (hs : s0 < 2147483648) (hs1 : dwn = (s0 : Int)) (hs2 : sdd = (s0 : Int)) (haw : awM = aw) : ∃ O Q, O = F_X9_chance cy ls aw (nK : Int) clmK pcK (nW : Int) kO cA comers code spans d ru gr tr rD rR rG rF hnx hct facts stack sd str sru sgr sA ar cars gaps known left leaves pr cr we ha tkn akn cmp refu dwn p0 ∧ Q = F_X10_chance awM isc tk ask red io lg gt icg sg und nwst sdd qp refM many bar kinds walkers cf ce codes now isCar gapM isG isH crM wtM goM hmM prM ciM kept pile p0 ∧ O.1 = Q.1 ∧ O.2.2.2.2.2.2.2.2.2.1 = Q.2.2.2.2.2.2.2.2.2.2.2.2.2.2.2.1 ∧ (∃ s1 : Nat, s1 < 2147483648 ∧ O.2.1 = (s1 : Int) ∧ Q.2.2.2.2.2.2.2.2.2.2.2.1 = (s1 : Int)) ∧ sfH oC oR nW nK cy ls kO cA clmK pcK O.2.2.2.2.2.2.2.2.2.2.1 O.2.2.2.2.2.2.2.2.2.2.2.2.2.2.2.2.2.2.2.2.2.2.1 O.2.2.2.2.2.2.2.2.2.2.2.1 O.2.2.2.2.2.2.2.2.2.2.2.2.1 O.2.2.2.2.2.2.2.2.2.2.2.2.2.1 O.2.2.2.2.2.2.2.2.2.2.2.2.2.2.2.2.2.2.2.2.1 O.2.2.2.2.2.2.2.2.2.2.2.2.2.2.2.2.2.2.2.2.2.1 O.2.2.2.2.2.2.2.2.2.2.2.2.2.2.2.2.2.2.2.2.2.2.2.1 O.2.2.2.2.2.2.2.2.2.2.2.2.2.2.2.2.2.2.2.2.2.2.2.2.1 O.2.2.2.2.2.2.2.2.2.2.2.2.2.2.2.2.2.2.2.2.2.2.2.2.2.1 O.2.2.2.2.2.2.2.2.2.2.2.2.2.2.1 O.2.2.2.2.2.2.2.2.2.2.2.2.2.2.2.1 O.2.2.2.2.2.2.2.2.2.2.2.2.2.2.2.2.1 O.2.2.2.2.2.2.2.2.2.2.2.2.2.2.2.2.2.1 ∧ acO nK d ru gr O.2.2.1 ru gr tr O.2.2.2.2.2.1 Q.2.2.2.2.2.2.2.2.2.2.2.2.2.1 O.2.2.2.1 O.2.2.2.2.1 O.2.2.2.2.2.2.2.2.2.2.2.2.2.2.2.2.2.2.2.2.2.2.2.2.2.2.1 O.2.2.2.2.2.2.2.2.2.2.2.2.2.2.2.2.2.2.2.2.2.2.2.2.2.2.2.1 O.2.2.2.2.2.2.2.2.2.2.2.2.2.2.2.2.2.2.2.2.2.2.2.2.2.2.2.2.1 O.2.2.2.2.2.2.2.2.2.2.2.2.2.2.2.2.2.2.2.2.2.2.2.2.2.2.2.2.2 Q.2.2.2.2.2.2.2.2.2.2.1 Q.2.2.2.2.2.2.2.2.2.1 Q.2.2.2.2.2.2.2.2.2.2.2.2.2.2.1 tkn akn cmp O.2.2.2.2.2.2.1 O.2.2.2.2.2.2.2.1 O.2.2.2.2.2.2.2.2.1 := by
  subst hr hs1 hs2 haw
  have hd := hB.1
  have hcy := hP.2.2.1
  by_cases q : (1 ≤ p0 ∧ p0 ≤ 30) ∧ lf_o lf_iadd d p0 ≤ 999
  · obtain ⟨q1, q2⟩ := q
    rw [lo_add (by omega) (by omega) (by omega) (by omega) (by omega) (by omega)] at q2
    obtain ⟨n2, c2, D2, R2, G2, F2, u2, w2, K2, e1, e2, e3⟩ := hs_keep hP.2.1 hH hB hN (fun k _ => rfl)
    obtain ⟨O, eO, o1, o1b, o2, o3, o4, o5, o6, o7, o8, o9, o10, o11, o12, o13, o14⟩ := cc_run (aw := awM) (s0 := s0) (refu := refu) (n := p0.toNat) hP hL hB hs (by omega) (by omega) 32 0 n2 c2 sd sru sgr sA pr cr we ha D2 R2 G2 F2 tr facts stack cars gaps str known left leaves (Nat.zero_le _) (by omega) (fun _ _ => rfl) hS
    obtain ⟨Q, eQ, m1, m2, m3, m3b, m4, m5, m6⟩ := cm_run (aw := awM) (s0 := s0) (refM := refu) (n := p0.toNat) hP hM hL.2 hB hs (by omega) (by omega) 32 0 u2 w2 tk ask red io lg gt icg sg qp now K2 pile wtM gapM goM hmM isCar isH crM prM ciM isG (Nat.zero_le _) (by omega) (by
      rw [show d + ((0 : Nat) : Int) = d from by omega]
      exact hN)
    rw [show d + ((0 : Nat) : Int) = d from by omega, show ((p0.toNat : Nat) : Int) = p0 from by omega] at eO
    rw [show ((p0.toNat : Nat) : Int) = p0 from by omega] at eQ o2 m4
    have hTb := lvT_b (oL := oL) (cy := cy) (ls := ls) (ru := ru) (gr := gr) (a := chA awM nW s0) (tr := tr) hP hB.1.1 hB.2.2.2 p0.toNat (by omega)
    refine ⟨O, Q, ?_, ?_, o1.trans m1.symm, o9.trans m6.symm, ⟨_, chS_l (aw := awM) (nW := nW) hs p0.toNat, o1b, m3b⟩, o10, ⟨⟨?_, hB.2.1, hB.2.2.1, fun j hj => ?_⟩, ?_, ?_, Or.inr ⟨o6, o7, o8⟩⟩⟩
    · unfold F_X9_chance
      rw [cl_x, if_pos ⟨Or.inl hcy.1, q1, by rw [lo_add (by omega) (by omega) (by omega) (by omega) (by omega) (by omega)]; exact q2⟩, lf_b_e, if_neg (show ¬ (1 : Int) = 0 from by decide), e1, lf_p_e, lf_p_e, lf_p_e, lf_p_e, lf_p_e]
      exact eO
    · unfold F_X10_chance
      rw [ia_m hN.1, if_pos ⟨by omega, q1, by rw [lo_add (by omega) (by omega) (by omega) (by omega) (by omega) (by omega)]; exact q2⟩, lf_b_e, if_neg (show ¬ (1 : Int) = 0 from by decide), e2, lf_p_e, lf_p_e]
      exact eQ
    · rw [o2]
      omega
    · rw [o5 j hj]
      exact hTb j hj
    · rw [o2]
      exact ndH_cg m4 o5
    · rw [o3, o4, o11, o12, o13, o14, m2, m3, m5]
      exact e3
  · obtain ⟨Q, eQ, m1, m2, m3, m3b, m4, m5, m6⟩ := ch_m0 (awM := awM) (many := many) (bar := bar) (kinds := kinds) (walkers := walkers) (cf := cf) (ce := ce) (codes := codes) (tk := tk) (ask := ask) (red := red) (io := io) (lg := lg) (gt := gt) (icg := icg) (sg := sg) (qp := qp) (isCar := isCar) (gapM := gapM) (isG := isG) (isH := isH) (crM := crM) (wtM := wtM) (goM := goM) (hmM := hmM) (prM := prM) (ciM := ciM) (pile := pile) (kept := kept) (und := und) (nwst := nwst) (refM := refu) (sdd := (s0 : Int)) (isc := isc) (p0 := p0) hN.1 (fun r => q r.2)
    refine ⟨_, Q, (ch_x0 (fun r => q r.2)).symm, eQ, m1.symm, m6.symm, ⟨s0, hs, rfl, m3b⟩, hS, ⟨hB, ?_, ?_, Or.inl ⟨rfl, rfl, rfl, rfl, rfl, rfl, rfl⟩⟩⟩
    · rw [m4]
      exact hN
    · rw [m2, m3, m5]
      exact hH
end CH
end
section
/-! 9g -/
/-! images, what is seen: on both sides -/
theorem ii_x {g : Nat → Int} {cy s : Int} {k : Nat} (hk : k ≤ 6) (hg : ∀ k, k < 1600 → 0 ≤ g k ∧ g k ≤ 255) : F_X9_isImage g cy (k : Int) s = if 0 < cy ∧ s = (k : Int) + 5 then b2 (trO g k 0 && imO g cy (k : Int) s) else 0 := by
  unfold F_X9_isImage F_X9_stands F_X9_isImage_20
  rw [lf_b_e]
  by_cases q1 : cy ≤ 0
  · rw [if_pos q1, if_pos rfl, if_neg (by omega)]
  · rw [if_neg q1, if_neg (show ¬ (1 : Int) = 0 from by decide)]
    by_cases q2 : s = (k : Int) + 5
    · rw [if_pos q2, if_pos (show 0 < cy ∧ s = (k : Int) + 5 from ⟨by omega, q2⟩)]
      have := ii_l (cy := cy) (s := s) hg (by omega) k 0 8 (by omega)
      rw [show 0 + k = k from by omega] at this
      exact this
    · rw [if_neg q2, if_neg (fun r => q2 r.2)]
theorem ii_m {g M bar : Nat → Int} {s isc : Int} {k : Nat} (hk : k ≤ 6) (hM : M 2 = (k : Int)) (hi : (isc = 0 ∧ bar 4 = 0) ∨ (isc = 1 ∧ 10 ≤ bar 4)) : F_X10_isImage isc g M bar s = if 0 < bar 4 ∧ s = (k : Int) + 5 then b2 (trO g k 0 && imO g (bar 4) (k : Int) s) else 0 := by
  unfold F_X10_isImage F_X10_isImage_86 imO
  by_cases q0 : isc = 0
  · rw [if_pos q0, if_neg (by omega)]
  · rw [if_neg q0, lf_b_e, hM, show Int.toNat (0 : Int) = 0 from rfl, show Int.toNat (1 : Int) = 1 from rfl, show Int.toNat (2 : Int) = 2 from rfl, show Int.toNat (3 : Int) = 3 from rfl]
    by_cases q1 : s = (k : Int) + 5
    · rw [if_pos (show s = 5 + (k : Int) from by omega), if_pos (show 0 < bar 4 ∧ s = (k : Int) + 5 from ⟨by omega, q1⟩), lf_b_e]
      by_cases q2 : g (Int.toNat (s - 1)) = F_X10_checked_i1_0_10 g (s - 1)
      · rw [if_pos q2, decide_eq_true q2, show (256 : Int) * g 0 + g 1 = g 0 * 256 + g 1 from by omega]
        by_cases q3 : 999 < g 0 * 256 + g 1
        · rw [if_pos q3, decide_eq_true q3, Bool.not_true, Bool.false_and, Bool.and_false]
          rfl
        · rw [if_neg q3, decide_eq_false q3, Bool.not_false, Bool.true_and]
          by_cases q4 : 2 < g 2
          · rw [if_pos q4, decide_eq_true (show 3 ≤ g 2 from by omega), Bool.not_true, Bool.false_and, Bool.and_false]
            rfl
          · rw [if_neg q4, decide_eq_false (show ¬ 3 ≤ g 2 from by omega), Bool.not_false, Bool.true_and, lf_b_e, gl_1]
            cases decide (1 ≤ g 3 ∧ g 3 ≤ 60 ∧ g 3 < bar 4) with
            | false =>
              rw [if_pos (show b2 false = 0 from rfl), Bool.false_and, Bool.and_false]
              rfl
            | true =>
              rw [if_neg (show ¬ b2 true = 0 from by decide), Bool.true_and, Bool.and_true]
              exact i90_l hM k 0 8 (by omega) (by omega)
      · rw [if_neg q2, decide_eq_false q2, Bool.and_false, Bool.and_false, Bool.and_false, Bool.and_false]
        rfl
    · rw [if_neg (show ¬ s = 5 + (k : Int) from by omega), if_neg (fun r => q1 r.2)]
theorem acc_x {g : Nat → Int} {w : Int} {n : Nat} (hn : n ≤ 1600) : F_X8_accepts g (n : Int) w = if 3 ≤ n ∧ n ≤ 48 ∧ n % 3 = 0 then b2 (rwsO g w (n / 3) 0) else 0 := by
  obtain ⟨d1, d2⟩ := dv3 hn
  unfold F_X8_accepts F_X8_accepts_17
  by_cases q1 : (n : Int) < 3
  · rw [if_pos q1, if_neg (by omega)]
  · rw [if_neg q1]
    by_cases q2 : (48 : Int) < (n : Int)
    · rw [if_pos q2, if_neg (by omega)]
    · rw [if_neg q2, d1]
      by_cases q3 : n % 3 = 0
      · rw [if_pos (by omega), if_pos ⟨by omega, by omega, q3⟩]
        have := ac_l (g := g) (w := w) (n / 3) 0 52 (by omega)
        rw [show 0 + 3 * (n / 3) = n from by omega] at this
        exact this
      · rw [if_neg (by omega), if_neg (by omega)]
theorem sq_109n {g rf rwv : Nat → Int} {s rm l : Int} : (F_X10_see_109 s rm g rf rwv (0 : Int) l) = ((-1 : Int), rm, rfN rf 1, rwv) := by
  unfold F_X10_see_109 F_X10_refuses_a0_1 rfN
  rw [if_pos rfl, lf_p_e]
theorem sq_109y {g rf rwv : Nat → Int} {rm l : Int} {n : Nat} (hn : n ≤ 48) : (F_X10_see_109 (n : Int) rm g rf rwv (1 : Int) l) = F_X10_see_121 (n : Int) g rf 18 (1 : Int) (0 : Int) rwv := by
  unfold F_X10_see_109
  rw [if_neg (show ¬ (1 : Int) = 0 from by decide)]
theorem sq_36n {g rf M rwv : Nat → Int} {s rm l : Int} (k : Nat) : (F_X10_see_36 s rm g rf M rwv (k + 1) (0 : Int) l) = ((-1 : Int), rm, rfN rf 1, rwv) := by
  show (F_X10_see_36b s rm g rf M rwv _ (0 : Int) l) = ((-1 : Int), rm, rfN rf 1, rwv)
  unfold F_X10_see_36b
  split
  · exact sq_109n
  · rw [if_pos rfl]
    exact sq_109n
theorem sq_36 {g rf M rwv : Nat → Int} {rm w : Int} {n : Nat} (hn : n ≤ 48) (hM : M 3 = w) (hg : ∀ k, k < 1600 → 0 ≤ g k) : ∀ (m l f : Nat), l + 3 * m = n → m + 1 < f → (F_X10_see_36 (n : Int) rm g rf M rwv f (1 : Int) (l : Int)) = if rwsO g w m l = true then F_X10_see_121 (n : Int) g rf 18 (1 : Int) (0 : Int) rwv else ((-1 : Int), rm, rfN rf 1, rwv) := by
  intro m
  induction m with
  | zero =>
    intro l f hl hf
    obtain ⟨k, rfl⟩ : ∃ k, f = k + 1 := ⟨f - 1, by omega⟩
    show (F_X10_see_36b (n : Int) rm g rf M rwv _ (1 : Int) (l : Int)) = _
    unfold F_X10_see_36b
    rw [if_pos (by omega), if_pos (show rwsO g w 0 l = true from rfl)]
    exact sq_109y hn
  | succ m ih =>
    intro l f hl hf
    obtain ⟨k, rfl⟩ : ∃ k, f = k + 1 := ⟨f - 1, by omega⟩
    obtain ⟨k', rfl⟩ : ∃ j, k = j + 1 := ⟨k - 1, by omega⟩
    have t0 : Int.toNat (l : Int) = l := Int.toNat_natCast l
    have t1 : Int.toNat ((l : Int) + (1 : Int)) = l + 1 := by omega
    have t2 : Int.toNat ((l : Int) + (2 : Int)) = l + 2 := by omega
    have hn' : (F_X10_see_36 (n : Int) rm g rf M rwv (k' + 1) (1 : Int) ((l : Int) + (3 : Int))) = if rwsO g w m (l + 3) = true then F_X10_see_121 (n : Int) g rf 18 (1 : Int) (0 : Int) rwv else ((-1 : Int), rm, rfN rf 1, rwv) := ih (l + 3) (k' + 1) (by omega) (by omega)
    have hz : (F_X10_see_36 (n : Int) rm g rf M rwv (k' + 1) (0 : Int) ((l : Int) + (3 : Int))) = ((-1 : Int), rm, rfN rf 1, rwv) := sq_36n k'
    have hgl := hg l (by omega)
    show (F_X10_see_36b (n : Int) rm g rf M rwv (F_X10_see_36 (n : Int) rm g rf M rwv (k' + 1)) (1 : Int) (l : Int)) = if (rwO g w l && rwsO g w m (l + 3)) = true then _ else _
    unfold F_X10_see_36b F_X10_see_101 F_X10_see_97 F_X10_see_102 F_X10_isWalker lf_isin
    rw [if_neg (by omega), if_neg (show ¬ (1 : Int) = 0 from by decide), lf_b_e, lf_b_e, t0, t1, t2, hM]
    unfold rwO
    have ec : (256 : Int) * g (l + 1) + g (l + 2) = g (l + 1) * 256 + g (l + 2) := by omega
    rw [ec]
    by_cases q : w ≤ g l
    · rw [if_neg (show ¬ (0 ≤ g l ∧ g l ≤ w - 1) from by omega), if_pos rfl, decide_eq_false (by omega), Bool.false_and, Bool.false_and, if_neg (fun r => Bool.noConfusion r)]
      exact hz
    · rw [if_pos (show 0 ≤ g l ∧ g l ≤ w - 1 from by omega), if_neg (show ¬ (1 : Int) = 0 from by decide), decide_eq_true (by omega), Bool.true_and]
      by_cases q2 : g (l + 1) * 256 + g (l + 2) < 300
      · rw [if_pos q2, decide_eq_true q2, Bool.true_or, Bool.true_and]
        exact hn'
      · rw [if_neg q2, decide_eq_false q2, Bool.false_or]
        by_cases q3 : g (l + 1) * 256 + g (l + 2) = 65535
        · rw [if_pos q3, decide_eq_true q3, Bool.true_and]
          exact hn'
        · rw [if_neg q3, decide_eq_false q3, Bool.false_and, if_neg (fun r => Bool.noConfusion r)]
          exact hz
theorem sq_1 {g rf M rwv : Nat → Int} {rm : Int} {n : Nat} (hn : n ≤ 1600) (hg : ∀ k, k < 1600 → 0 ≤ g k) : (F_X10_see (n : Int) rm g rf M rwv) = if (3 ≤ n ∧ n ≤ 48 ∧ n % 3 = 0) ∧ rwsO g (M 3) (n / 3) 0 = true then F_X10_see_121 (n : Int) g rf 18 (1 : Int) (0 : Int) rwv else ((-1 : Int), rm, rfN rf 1, rwv) := by
  obtain ⟨d1, d2⟩ := dv3 hn
  unfold F_X10_see
  rw [d1, d2]
  by_cases q1 : (n : Int) ≤ 0
  · rw [if_pos q1, if_neg (by omega)]
    exact sq_36n 53
  · rw [if_neg q1]
    by_cases q2 : n % 3 = 0
    · rw [if_pos (by omega)]
      by_cases q3 : (16 : Int) < ((n / 3 : Nat) : Int)
      · rw [if_pos q3, if_neg (by omega)]
        exact sq_36n 53
      · rw [if_neg q3]
        have h := sq_36 (rf := rf) (M := M) (rwv := rwv) (rm := rm) (n := n) (by omega) rfl hg (n / 3) 0 54 (by omega) (by omega)
        have h' : (F_X10_see_36 (n : Int) rm g rf M rwv 54 (1 : Int) (0 : Int)) = if rwsO g (M 3) (n / 3) 0 = true then F_X10_see_121 (n : Int) g rf 18 (1 : Int) (0 : Int) rwv else ((-1 : Int), rm, rfN rf 1, rwv) := h
        rw [h']
        by_cases q4 : rwsO g (M 3) (n / 3) 0 = true
        · rw [if_pos q4, if_pos ⟨⟨by omega, by omega, q2⟩, q4⟩]
        · rw [if_neg q4, if_neg (fun r => q4 r.2)]
    · rw [if_neg (by omega), if_neg (by omega)]
      exact sq_36n 53
def d8B : Bool := (List.range 1000).all (fun d => decide (lf_o lf_ishr (d : Int) 8 = lf_o lf_idiv (d : Int) 256) && decide (lf_o lf_iand (d : Int) 255 = lf_o lf_irem (d : Int) 256))
theorem d8_x {d : Int} (h : 0 ≤ d ∧ d ≤ 999) : lf_o lf_ishr d 8 = lf_o lf_idiv d 256 ∧ lf_o lf_iand d 255 = lf_o lf_irem d 256 := by
  obtain ⟨n, rfl⟩ := Int.eq_ofNat_of_zero_le h.1
  have e := List.all_eq_true.mp (show d8B = true from by decide +kernel) n (List.mem_range.mpr (by omega))
  rw [Bool.and_eq_true] at e
  exact ⟨of_decide_eq_true e.1, of_decide_eq_true e.2⟩
section IM
variable {nW nK : Nat} {oC oR oL : Option (List Int)} {s cy ls aw stm d ru gr hnx hct sd sru sgr sA ar pr cr we ha tkn ad aru agr akn rws cmp fnd frl fgr chs chl occ dwn fa pl sM awM isc und nwst rmM moc sdd tk ask red io lg gt icg sg qp ftm ftr ftg mf mp0 p0 p1 p2 p3 p4 : Int} {g clmK pcK kO cA comers code spans nmX tr rD rR rG facts stack str cars gaps known left leaves tab atr atd ats sw ss sec oct refu gM many bar kinds walkers cf ce codes now kept mrw mo refM asd isCar gapM isG isH crM wtM goM hmM prM ciM pile whn : Nat → Int} {rF : Nat → Nat → Int}
theorem ck_cg {A B : Nat → Int} {p : Int} (h : ∀ j : Nat, (j : Int) < p → A j = B j) : ∀ (f : Nat) (x l : Int), 0 ≤ l → F_X9_check_i1_0_10_r11_5 A p f x l = F_X10_checked_i1_0_10_r11_5 B p f x l := by
  intro f
  induction f with
  | zero => intro x l hl; rfl
  | succ f ih =>
    intro x l hl
    show F_X9_check_i1_0_10_r11_5b A p (F_X9_check_i1_0_10_r11_5 A p f) x l = F_X10_checked_i1_0_10_r11_5b B p (F_X10_checked_i1_0_10_r11_5 B p f) x l
    unfold F_X9_check_i1_0_10_r11_5b F_X10_checked_i1_0_10_r11_5b
    by_cases q : p ≤ l
    · rw [if_pos q, if_pos q]
    · rw [if_neg q, if_neg q, h l.toNat (by omega)]
      exact ih _ _ (by omega)
theorem im_run (hM : many 2 = (nK : Int)) (hN : ∀ k, k < nK → now (3 + k) = tr k) : ∀ (f l : Nat) (A B : Nat → Int), l ≤ nK → nK - l < f → (∀ j, j < 4 + l → A j = B j) → (F_X9_image_61 (nK : Int) tr f A (l : Int)).1 = (F_X10_image_55 many now f ((4 + l : Nat) : Int) B (l : Int)).1 ∧ (F_X9_image_61 (nK : Int) tr f A (l : Int)).2.1 = (nK : Int) + 5 ∧ (F_X10_image_55 many now f ((4 + l : Nat) : Int) B (l : Int)).2.1 = (nK : Int) + 5 ∧ ∀ j, j < nK + 5 → (F_X9_image_61 (nK : Int) tr f A (l : Int)).2.2 j = (F_X10_image_55 many now f ((4 + l : Nat) : Int) B (l : Int)).2.2 j := by
  intro f
  induction f with
  | zero => intro l A B h1 h2; omega
  | succ f ih =>
    intro l A B h1 h2 h3
    have e1 : F_X9_image_61 (nK : Int) tr (f + 1) A (l : Int) = F_X9_image_61b (nK : Int) tr (F_X9_image_61 (nK : Int) tr f) A (l : Int) := rfl
    have e2 : F_X10_image_55 many now (f + 1) ((4 + l : Nat) : Int) B (l : Int) = F_X10_image_55b many now (F_X10_image_55 many now f) ((4 + l : Nat) : Int) B (l : Int) := rfl
    rw [e1, e2]
    unfold F_X9_image_61b F_X10_image_55b F_X10_writes_f_octets_0_10 F_X10_trustsOf
    rw [lf_b_e, hM]
    by_cases q : l = nK
    · subst q
      have ec : F_X9_check_i1_0_10_r11 A ((4 : Int) + (l : Int)) = F_X10_checked_i1_0_10_r11 B ((4 + l : Nat) : Int) := by
        rw [show ((4 + l : Nat) : Int) = (4 : Int) + (l : Int) from by omega]
        exact ck_cg (fun j hj => h3 j (by omega)) 12 101 0 (Int.le_refl _)
      rw [if_pos (Int.le_refl _), if_pos (Int.le_refl _), lf_b_e, lf_b_e, lf_p_e, ec]
      refine ⟨?_, ?_, ?_, fun j hj => ?_⟩
      · show (4 : Int) + (l : Int) + 1 = ((4 + l : Nat) : Int) + 1
        omega
      · show (4 : Int) + (l : Int) + 1 = _
        omega
      · show ((4 + l : Nat) : Int) + 1 = _
        omega
      · show lf_up A ((4 : Int) + (l : Int)) _ j = lf_up B ((4 + l : Nat) : Int) _ j
        by_cases y : j = 4 + l
        · rw [lf_up_y (by omega), lf_up_y (by omega)]
        · rw [lf_up_o (by omega), lf_up_o (by omega)]
          exact h3 j (by omega)
    · rw [if_neg (by omega), if_neg (by omega), lf_b_e, lf_b_e, lf_p_e, show Int.toNat ((3 : Int) + (l : Int)) = 3 + l from by omega, hN l (by omega), Int.toNat_natCast]
      have hx := ih (l + 1) (lf_up A ((4 : Int) + (l : Int)) (tr l)) (lf_up B ((4 + l : Nat) : Int) (tr l)) (by omega) (by omega) (fun j hj => by
        by_cases y : j = 4 + l
        · rw [lf_up_y (by omega), lf_up_y (by omega)]
        · rw [lf_up_o (by omega), lf_up_o (by omega)]
          exact h3 j (by omega))
      exact hx
/-- image -/
theorem im_t (hK : nK ≤ 6) (hd : 0 ≤ d ∧ d ≤ 999) (hM : many 2 = (nK : Int)) (hN : ndH nK d ru gr tr now) : ∃ O Q, O = F_X9_image (nK : Int) d ru gr tr oct ∧ Q = F_X10_image many now mo ∧ O.1 = Q.1 ∧ O.2.1 = (nK : Int) + 5 ∧ Q.2.1 = (nK : Int) + 5 ∧ ∀ j, j < nK + 5 → O.2.2 j = Q.2.2 j := by
  obtain ⟨a1, a2⟩ := d8_x hd
  have n0 : now (Int.toNat (0 : Int)) = d := hN.1
  have n1 : now (Int.toNat (1 : Int)) = ru := hN.2.1
  have n2 : now (Int.toNat (2 : Int)) = gr := hN.2.2.1
  have hx := im_run (tr := tr) (now := now) hM (fun k hk => (hN.2.2.2 k hk).1) 8 0 (lf_up (lf_up (lf_up (lf_up oct (0 : Int) (lf_o lf_ishr d (8 : Int))) (1 : Int) (lf_o lf_iand d (255 : Int))) (2 : Int) ru) (3 : Int) gr) (lf_up (lf_up (lf_up (lf_up mo (0 : Int) (lf_o lf_idiv d (256 : Int))) (1 : Int) (lf_o lf_irem d (256 : Int))) (2 : Int) ru) (3 : Int) gr) (Nat.zero_le _) (by omega) (fun j hj => by
    have hj4 : j = 0 ∨ j = 1 ∨ j = 2 ∨ j = 3 := by omega
    rcases hj4 with r | r | r | r <;> subst r
    · rw [lf_up_o (by omega), lf_up_o (by omega), lf_up_o (by omega), lf_up_y (by omega), lf_up_o (by omega), lf_up_o (by omega), lf_up_o (by omega), lf_up_y (by omega)]
      exact a1
    · rw [lf_up_o (by omega), lf_up_o (by omega), lf_up_y (by omega), lf_up_o (by omega), lf_up_o (by omega), lf_up_y (by omega)]
      exact a2
    · rw [lf_up_o (by omega), lf_up_y (by omega), lf_up_o (by omega), lf_up_y (by omega)]
    · rw [lf_up_y (by omega), lf_up_y (by omega)])
  rw [show ((4 + 0 : Nat) : Int) = 4 from rfl, show ((0 : Nat) : Int) = 0 from rfl] at hx
  refine ⟨_, _, rfl, rfl, ?_⟩
  unfold F_X9_image F_X10_image F_X10_writes_f_octets_0_10
  rw [lf_p_e, lf_p_e, lf_p_e, lf_p_e, n0, n1, n2, show (0 : Int) + 1 = 1 from rfl, show (1 : Int) + 1 = 2 from rfl, show (2 : Int) + 1 = 3 from rfl, show (3 : Int) + 1 = 4 from rfl]
  exact hx
/-- on -/
theorem on_run (hM : many 2 = (nK : Int)) : ∀ (f l : Nat) (A : Nat → Int), l ≤ nK → nK - l < f → ∃ B, F_X10_on_79 gM refM many f A (l : Int) = ((1 : Int), (0 : Int), B, refM) ∧ (∀ j, l ≤ j → j < nK → B (3 + j) = gM (4 + j)) ∧ ∀ i, i < 3 + l → B i = A i := by
  intro f
  induction f with
  | zero => intro l A h1 h2; omega
  | succ f ih =>
    intro l A h1 h2
    have e2 : F_X10_on_79 gM refM many (f + 1) A (l : Int) = F_X10_on_79b gM refM many (F_X10_on_79 gM refM many f) A (l : Int) := rfl
    rw [e2]
    unfold F_X10_on_79b
    rw [lf_b_e, hM]
    by_cases q : l = nK
    · rw [if_pos (by omega)]
      exact ⟨A, rfl, fun j h3 h4 => absurd h4 (by omega), fun _ _ => rfl⟩
    · rw [if_neg (by omega), show Int.toNat ((4 : Int) + (l : Int)) = 4 + l from by omega]
      obtain ⟨B, e, b1, b2'⟩ := ih (l + 1) (lf_up A ((3 : Int) + (l : Int)) (gM (4 + l))) (by omega) (by omega)
      refine ⟨B, e, fun j h3 h4 => ?_, fun i hi => ?_⟩
      · by_cases y : j = l
        · rw [y, b2' (3 + l) (by omega), lf_up_y (by omega)]
        · exact b1 j (by omega) h4
      · rw [b2' i (by omega), lf_up_o (by omega)]
theorem trO_i {g : Nat → Int} : ∀ m l, trO g m l = true → ∀ j, l ≤ j → j < l + m → g (4 + j) ≤ 9
  | 0, l, _, j, h1, h2 => absurd h2 (by omega)
  | m + 1, l, h, j, h1, h2 => by
    have h' : (decide (g (4 + l) ≤ 9) && trO g m (l + 1)) = true := h
    rw [Bool.and_eq_true] at h'
    by_cases q : j = l
    · rw [q]
      exact of_decide_eq_true h'.1
    · exact trO_i m (l + 1) h'.2 j (by omega) (by omega)
theorem on_x0 (h : F_X9_isImage g cy (nK : Int) s = 0) : F_X9_on g s cy (nK : Int) d ru gr tr hct tkn akn cmp refu = ((0 : Int), d, ru, gr, tr, hct, tkn, akn, cmp, dnR refu 5) := by
  unfold F_X9_on F_X9_takeTape
  rw [lf_b_e, lf_b_e, h, if_pos rfl]
  rfl
theorem on_m0 (h : F_X10_isImage isc gM many bar sM = 0) : F_X10_on sM isc und gM refM many bar now = ((0 : Int), und, now, dnR refM 5) := by
  unfold F_X10_on
  rw [lf_b_e, h, if_pos rfl]
  rfl
theorem on_t (hK : nK ≤ 6) (hcy : bar 4 = cy) (hc : 10 ≤ cy) (hi : isc = 1) (hm : many 2 = (nK : Int)) (hg : ∀ k, k < 1600 → 0 ≤ g k ∧ g k ≤ 255) (eg : gM = g) (es : sM = s) (hB : stB nK d ru gr tr) (hN : ndH nK d ru gr tr now) (hH : hsH nK hnx hct rD rR rG rF nwst und kept) (hr : refu = refM) : ∃ r d2 ru2 gr2 tr2 c2 t2 a2 m2 f2 u2 N2, F_X9_on g s cy (nK : Int) d ru gr tr hct tkn akn cmp refu = (r, d2, ru2, gr2, tr2, c2, t2, a2, m2, f2) ∧ F_X10_on sM isc und gM refM many bar now = (r, u2, N2, f2) ∧ acO nK d ru gr d2 ru2 gr2 tr tr2 N2 hnx c2 rD rR rG rF nwst u2 kept tkn akn cmp t2 a2 m2 := by
  subst hr eg es
  have ex := ii_x (cy := cy) (s := sM) hK hg
  have em := ii_m (g := gM) (s := sM) hK hm (Or.inr ⟨hi, by omega⟩ : (isc = 0 ∧ bar 4 = 0) ∨ (isc = 1 ∧ 10 ≤ bar 4))
  rw [hcy] at em
  by_cases q : (0 < cy ∧ sM = (nK : Int) + 5) ∧ (trO gM nK 0 && imO gM cy (nK : Int) sM) = true
  · rw [if_pos q.1, q.2] at ex em
    have q2 := q.2
    rw [Bool.and_eq_true] at q2
    obtain ⟨t1, t2⟩ := q2
    have t2' : (!decide (999 < gM 0 * 256 + gM 1) && (!decide (3 ≤ gM 2) && (decide (1 ≤ gM 3 ∧ gM 3 ≤ 60 ∧ gM 3 < cy) && decide (gM (Int.toNat (sM - 1)) = F_X10_checked_i1_0_10 gM (sM - 1))))) = true := t2
    rw [Bool.and_eq_true, Bool.and_eq_true, Bool.and_eq_true, Bool.not_eq_true', Bool.not_eq_true'] at t2'
    obtain ⟨u1, u2, u3, u4⟩ := t2'
    have v1 := of_decide_eq_false u1
    have v2 := of_decide_eq_false u2
    have v3 := of_decide_eq_true u3
    have g0 := hg 0 (by decide)
    have g1 := hg 1 (by decide)
    have g2 := hg 2 (by decide)
    obtain ⟨B, eB, b1, b2'⟩ := on_run (gM := gM) (refM := refu) hm 8 0 (lf_up (lf_up (lf_up now (0 : Int) (((256 : Int) * (gM 0)) + (gM 1))) (1 : Int) (gM 2)) (2 : Int) (gM 3)) (Nat.zero_le _) (by omega)
    have eT : ∀ j, j < nK → lf_cpy gM tr (4 : Int) (0 : Int) (nK : Int) j = gM (4 + j) := by
      intro j hj
      unfold lf_cpy
      rw [if_pos (show (0 : Int).toNat ≤ j ∧ j < (0 : Int).toNat + (nK : Int).toNat from ⟨Nat.zero_le _, by
        have e0 : (0 : Int).toNat = 0 := rfl
        omega⟩)]
      show gM (4 + (j - 0)) = _
      rw [Nat.sub_zero]
    refine ⟨1, gM 0 * 256 + gM 1, gM 2, gM 3, lf_cpy gM tr (4 : Int) (0 : Int) (nK : Int), 0, 0, 0, 0, refu, 0, B, ?_, ?_, ⟨⟨by omega, by omega⟩, by omega, ⟨v3.1, v3.2.1⟩, fun k hk => ?_⟩, ⟨?_, ?_, ?_, fun k hk => ?_⟩, hs_0 hH, Or.inr ⟨rfl, rfl, rfl⟩⟩
    · unfold F_X9_on F_X9_takeTape
      rw [lf_b_e, lf_b_e, ex, if_neg (show ¬ b2 true = 0 from by decide)]
      rfl
    · unfold F_X10_on
      rw [lf_b_e, em, if_neg (show ¬ b2 true = 0 from by decide)]
      exact eB
    · rw [eT k hk]
      exact ⟨(hg (4 + k) (by omega)).1, trO_i nK 0 t1 k (Nat.zero_le _) (by omega)⟩
    · rw [b2' 0 (by decide)]
      show (256 : Int) * gM 0 + gM 1 = _
      omega
    · rw [b2' 1 (by decide)]
      rfl
    · rw [b2' 2 (by decide)]
      rfl
    · rw [b1 k (Nat.zero_le _) hk, eT k hk]
      exact ⟨rfl, (hg (4 + k) (by omega)).1, trO_i nK 0 t1 k (Nat.zero_le _) (by omega)⟩
  · have ex' : F_X9_isImage gM cy (nK : Int) sM = 0 := by
      rw [ex]
      by_cases q1 : 0 < cy ∧ sM = (nK : Int) + 5
      · rw [if_pos q1]
        cases hb : trO gM nK 0 && imO gM cy (nK : Int) sM with
        | false => rfl
        | true => exact absurd ⟨q1, hb⟩ q
      · rw [if_neg q1]
    have em' : F_X10_isImage isc gM many bar sM = 0 := by
      rw [em, ← ex, ex']
    exact ⟨_, _, _, _, _, _, _, _, _, _, _, _, on_x0 ex', on_m0 em', hB, hN, hH, Or.inl ⟨rfl, rfl, rfl, rfl, rfl, rfl, rfl⟩⟩
/-- what is seen -/
def rwH (nW : Nat) (rws : Int) (sw ss : Nat → Int) (rmM : Int) (mrw : Nat → Int) : Prop := rws = rmM ∧ (0 ≤ rws ∧ rws ≤ 16) ∧ ∀ k : Nat, (k : Int) < rws → (sw k = mrw (2 * k) ∧ ss k = mrw (2 * k + 1)) ∧ 0 ≤ sw k ∧ sw k < (nW : Int)
def rwS (g : Nat → Int) (k : Nat) : Int := if g (3 * k + 1) * 256 + g (3 * k + 2) = 65535 then -1 else g (3 * k + 1) * 256 + g (3 * k + 2)
theorem ke_x {c : Nat} : ∀ (f l : Nat) (A B : Nat → Int), l ≤ c → c - l < f → ∃ A' B', F_X8_keep_9 g f (c : Int) (l : Int) A B = ((c : Int), (c : Int), A', B') ∧ (∀ j, l ≤ j → j < c → A' j = g (3 * j) ∧ B' j = rwS g j) ∧ ∀ j, j < l → A' j = A j ∧ B' j = B j := by
  intro f
  induction f with
  | zero => intro l A B h1 h2; omega
  | succ f ih =>
    intro l A B h1 h2
    have e0 : F_X8_keep_9 g (f + 1) (c : Int) (l : Int) A B = F_X8_keep_9b g (F_X8_keep_9 g f) (c : Int) (l : Int) A B := rfl
    rw [e0]
    unfold F_X8_keep_9b F_X8_keep_67
    by_cases q : l = c
    · rw [if_pos (by omega)]
      exact ⟨A, B, rfl, fun j h3 h4 => absurd h4 (by omega), fun _ _ => ⟨rfl, rfl⟩⟩
    · have t0 : Int.toNat ((l : Int) * (3 : Int)) = 3 * l := by omega
      have t1 : Int.toNat (((l : Int) * (3 : Int)) + (1 : Int)) = 3 * l + 1 := by omega
      have t2 : Int.toNat (((l : Int) * (3 : Int)) + (2 : Int)) = 3 * l + 2 := by omega
      rw [if_neg (by omega), t0, t1, t2]
      have go : ∀ v : Int, v = rwS g l → ∃ A' B', F_X8_keep_9 g f (c : Int) ((l : Int) + (1 : Int)) (lf_up A (l : Int) (g (3 * l))) (lf_up B (l : Int) v) = ((c : Int), (c : Int), A', B') ∧ (∀ j, l ≤ j → j < c → A' j = g (3 * j) ∧ B' j = rwS g j) ∧ ∀ j, j < l → A' j = A j ∧ B' j = B j := by
        intro v hv
        obtain ⟨A', B', e, x1, x2⟩ := ih (l + 1) (lf_up A (l : Int) (g (3 * l))) (lf_up B (l : Int) v) (by omega) (by omega)
        refine ⟨A', B', e, fun j h3 h4 => ?_, fun j hj => ?_⟩
        · by_cases y : j = l
          · obtain ⟨z1, z2⟩ := x2 j (by omega)
            rw [z1, z2, lf_up_y (by omega), lf_up_y (by omega), y, hv]
            exact ⟨rfl, rfl⟩
          · exact x1 j (by omega) h4
        · obtain ⟨z1, z2⟩ := x2 j (by omega)
          rw [z1, z2, lf_up_o (by omega), lf_up_o (by omega)]
          exact ⟨rfl, rfl⟩
      by_cases y : g (3 * l + 1) * 256 + g (3 * l + 2) = 65535
      · rw [if_pos y]
        exact go (-1) (by unfold rwS; rw [if_pos y])
      · rw [if_neg y]
        exact go _ (by unfold rwS; rw [if_neg y])
theorem ks_x {c : Nat} {x : Int} (hc : lf_o lf_idiv sM (3 : Int) = (c : Int)) : ∀ (f l : Nat) (A : Nat → Int), l ≤ c → c - l < f → ∃ A', F_X10_see_121 sM gM refM f x (l : Int) A = ((c : Int), (c : Int), refM, A') ∧ (∀ j, l ≤ j → j < c → A' (2 * j) = gM (3 * j) ∧ A' (2 * j + 1) = rwS gM j) ∧ ∀ i, i < 2 * l → A' i = A i := by
  intro f
  induction f with
  | zero => intro l A h1 h2; omega
  | succ f ih =>
    intro l A h1 h2
    have e0 : F_X10_see_121 sM gM refM (f + 1) x (l : Int) A = F_X10_see_121b sM gM refM (F_X10_see_121 sM gM refM f) x (l : Int) A := rfl
    rw [e0]
    unfold F_X10_see_121b
    rw [hc]
    by_cases q : l = c
    · rw [if_pos (by omega), q]
      exact ⟨A, rfl, fun j h3 h4 => absurd h4 (by omega), fun _ _ => rfl⟩
    · have t0 : Int.toNat ((3 : Int) * (l : Int)) = 3 * l := by omega
      have t1 : Int.toNat (((3 : Int) * (l : Int)) + (1 : Int)) = 3 * l + 1 := by omega
      have t2 : Int.toNat (((3 : Int) * (l : Int)) + (2 : Int)) = 3 * l + 2 := by omega
      rw [if_neg (by omega), t0, t1, t2, show (256 : Int) * gM (3 * l + 1) + gM (3 * l + 2) = gM (3 * l + 1) * 256 + gM (3 * l + 2) from by omega]
      have go : ∀ v : Int, v = rwS gM l → ∃ A', F_X10_see_121 sM gM refM f x ((l : Int) + (1 : Int)) (lf_up (lf_up A ((2 : Int) * (l : Int)) (gM (3 * l))) (((2 : Int) * (l : Int)) + (1 : Int)) v) = ((c : Int), (c : Int), refM, A') ∧ (∀ j, l ≤ j → j < c → A' (2 * j) = gM (3 * j) ∧ A' (2 * j + 1) = rwS gM j) ∧ ∀ i, i < 2 * l → A' i = A i := by
        intro v hv
        obtain ⟨A', e, x1, x2⟩ := ih (l + 1) (lf_up (lf_up A ((2 : Int) * (l : Int)) (gM (3 * l))) (((2 : Int) * (l : Int)) + (1 : Int)) v) (by omega) (by omega)
        refine ⟨A', e, fun j h3 h4 => ?_, fun i hi => ?_⟩
        · by_cases y : j = l
          · rw [y, x2 (2 * l) (by omega), x2 (2 * l + 1) (by omega), lf_up_o (by omega), lf_up_y (by omega), lf_up_y (by omega), hv]
            exact ⟨rfl, rfl⟩
          · exact x1 j (by omega) h4
        · rw [x2 i (by omega), lf_up_o (by omega), lf_up_o (by omega)]
      by_cases y : gM (3 * l + 1) * 256 + gM (3 * l + 2) = 65535
      · rw [if_pos y]
        exact go (-1) (by unfold rwS; rw [if_pos y])
      · rw [if_neg y]
        exact go _ (by unfold rwS; rw [if_neg y])
theorem rws_i {g : Nat → Int} {w : Int} : ∀ m l, rwsO g w m l = true → ∀ j, j < m → g (l + 3 * j) < w
  | 0, l, _, j, h1 => absurd h1 (Nat.not_lt_zero j)
  | m + 1, l, h, j, h1 => by
    have h' : (rwO g w l && rwsO g w m (l + 3)) = true := h
    rw [Bool.and_eq_true] at h'
    by_cases q : j = 0
    · rw [q]
      have h2 := h'.1
      unfold rwO at h2
      rw [Bool.and_eq_true] at h2
      exact of_decide_eq_true h2.1
    · have := rws_i m (l + 3) h'.2 (j - 1) (by omega)
      rw [show l + 3 + 3 * (j - 1) = l + 3 * j from by omega] at this
      exact this
theorem se_t {n : Nat} (hn : n ≤ 1600) (hg : ∀ k, k < 1600 → 0 ≤ g k) (eg : gM = g) (es : s = (n : Int)) (es2 : sM = (n : Int)) (hm : many 3 = (nW : Int)) (hr : refu = refM) (hR : rwH nW rws sw ss rmM mrw) : ∃ r w2 m2 a2 b2' f2 q2 M2, F_X9_see g s (nW : Int) sw ss rws cmp refu = (r, w2, m2, a2, b2', f2) ∧ F_X10_see sM rmM gM refM many mrw = (r, q2, f2, M2) ∧ rwH nW w2 a2 b2' q2 M2 ∧ ((w2 = rws ∧ m2 = cmp ∧ a2 = sw ∧ b2' = ss) ∨ m2 = 0) := by
  subst hr eg es es2
  obtain ⟨d1, d2⟩ := dv3 hn
  have hM := sq_1 (rf := refu) (M := many) (rwv := mrw) (rm := rmM) (n := n) hn hg
  rw [hm] at hM
  have hX := acc_x (g := gM) (w := (nW : Int)) hn
  by_cases q : (3 ≤ n ∧ n ≤ 48 ∧ n % 3 = 0) ∧ rwsO gM (nW : Int) (n / 3) 0 = true
  · rw [if_pos q] at hM
    rw [if_pos q.1, q.2] at hX
    obtain ⟨A', B', e1, x1, x2⟩ := ke_x (g := gM) (c := n / 3) 18 0 sw ss (Nat.zero_le _) (by omega)
    obtain ⟨C', e2, y1, y2⟩ := ks_x (sM := (n : Int)) (gM := gM) (refM := refu) (x := 1) (c := n / 3) d2 18 0 mrw (Nat.zero_le _) (by omega)
    refine ⟨((n / 3 : Nat) : Int), ((n / 3 : Nat) : Int), 0, A', B', refu, ((n / 3 : Nat) : Int), C', ?_, hM.trans e2, ⟨rfl, ⟨by omega, by omega⟩, fun k hk => ?_⟩, Or.inr rfl⟩
    · unfold F_X9_see F_X9_takeTape F_X8_keep
      have e1' : F_X8_keep_9 gM 18 ((n / 3 : Nat) : Int) (0 : Int) sw ss = _ := e1
      rw [lf_b_e, lf_b_e, hX, if_neg (show ¬ b2 true = 0 from by decide), d2, e1', lf_p_e, lf_p_e, lf_p_e]
    · obtain ⟨z1, z2⟩ := x1 k (Nat.zero_le _) (by omega)
      obtain ⟨z3, z4⟩ := y1 k (Nat.zero_le _) (by omega)
      have h3 := rws_i (n / 3) 0 q.2 k (by omega)
      rw [Nat.zero_add] at h3
      rw [z1, z2, z3, z4]
      exact ⟨⟨rfl, rfl⟩, hg _ (by omega), h3⟩
  · rw [if_neg q] at hM
    refine ⟨_, _, _, _, _, _, _, _, ?_, hM, hR, Or.inl ⟨rfl, rfl, rfl, rfl⟩⟩
    unfold F_X9_see F_X9_takeTape
    have hX0 : F_X8_accepts gM (n : Int) (nW : Int) = 0 := by
      rw [hX]
      by_cases q1 : 3 ≤ n ∧ n ≤ 48 ∧ n % 3 = 0
      · rw [if_pos q1]
        cases hb : rwsO gM (nW : Int) (n / 3) 0 with
        | false => rfl
        | true => exact absurd ⟨q1, hb⟩ q
      · rw [if_neg q1]
    rw [lf_b_e, lf_b_e, hX0, if_pos rfl]
    rfl
end IM
end
section
/-! 9h -/
/-! what stands of the street behind best, fits, watched -/
section WA
variable {nW nK : Nat} {oC oR oL : Option (List Int)} {s cy ls aw stm d ru gr hnx hct sd sru sgr sA ar pr cr we ha tkn ad aru agr akn rws cmp fnd frl fgr chs chl occ dwn fa pl sM awM isc und nwst rmM moc sdd tk ask red io lg gt icg sg qp ftm ftr ftg mf mp0 p0 p1 p2 p3 p4 : Int} {g clmK pcK kO cA comers code spans nmX tr rD rR rG facts stack str cars gaps known left leaves tab atr atd ats sw ss sec oct refu gM many bar kinds walkers cf ce codes now kept mrw mo refM asd isCar gapM isG isH crM wtM goM hmM prM ciM pile whn : Nat → Int} {rF : Nat → Nat → Int}
abbrev A23 : Type := Int × Int × Int × Int × Int × Int × Int × Int × Int × Int × Int × Int × Int × Int × (Nat → Int) × (Nat → Int) × (Nat → Int) × (Nat → Int) × (Nat → Int) × (Nat → Int) × (Nat → Int) × (Nat → Int) × (Nat → Int)
def q23 (oC oR : Option (List Int)) (nW nK : Nat) (cy ls : Int) (kO cA clmK pcK : Nat → Int) (O : A23) : Prop := sfH oC oR nW nK cy ls kO cA clmK pcK O.2.2.2.2.2.2.1 O.2.2.2.2.2.2.2.2.2.2.2.2.2.2.2.2.2.2.2.1 O.2.2.2.2.2.2.2.1 O.2.2.2.2.2.2.2.2.1 O.2.2.2.2.2.2.2.2.2.1 O.2.2.2.2.2.2.2.2.2.2.2.2.2.2.2.2.2.1 O.2.2.2.2.2.2.2.2.2.2.2.2.2.2.2.2.2.2.1 O.2.2.2.2.2.2.2.2.2.2.2.2.2.2.2.2.2.2.2.2.1 O.2.2.2.2.2.2.2.2.2.2.2.2.2.2.2.2.2.2.2.2.2.1 O.2.2.2.2.2.2.2.2.2.2.2.2.2.2.2.2.2.2.2.2.2.2 O.2.2.2.2.2.2.2.2.2.2.1 O.2.2.2.2.2.2.2.2.2.2.2.1 O.2.2.2.2.2.2.2.2.2.2.2.2.1 O.2.2.2.2.2.2.2.2.2.2.2.2.2.1
theorem co_48 {l2 : Int} {g : Nat} {K40 : Int → Int → Int → Int → Int → Int → Int → Int → Int → Int → Int → Int → Int → (Nat → Int) → (Nat → Int) → (Nat → Int) → (Nat → Int) → (Nat → Int) → (Nat → Int) → (Nat → Int) → (Nat → Int) → (Nat → Int) → A23} (hP : plH nW nK cy ls oC oR kO cA clmK pcK comers code spans ar) (hd : 0 ≤ d ∧ d ≤ 999) (ht : ∀ k, k < nK → 0 ≤ tr k ∧ tr k ≤ 9) (hg : g ≤ 60) (hK : ∀ (c6 c7 c8 sd sru sgr sA pr cr we ha : Int) (a3 facts stack cars gaps str known left leaves : Nat → Int), sfH oC oR nW nK cy ls kO cA clmK pcK sd str sru sgr sA cars gaps known left leaves pr cr we ha → q23 oC oR nW nK cy ls kO cA clmK pcK (K40 l2 ((g : Int) + (1 : Int)) c6 c7 c8 sd sru sgr sA pr cr we ha a3 facts stack cars gaps str known left leaves)) : ∀ (f r : Nat) (c6 c7 c8 sd sru sgr sA pr cr we ha : Int) (a3 facts stack cars gaps str known left leaves : Nat → Int), r ≤ 3 → 3 - r < f → sfH oC oR nW nK cy ls kO cA clmK pcK sd str sru sgr sA cars gaps known left leaves pr cr we ha → q23 oC oR nW nK cy ls kO cA clmK pcK (F_X8_compare_48 cy ls (nK : Int) clmK pcK (nW : Int) kO cA comers code spans ar sw ss rws d tr l2 (g : Int) K40 f (r : Int) c6 c7 c8 sd sru sgr sA pr cr we ha a3 facts stack cars gaps str known left leaves) := by
  intro f
  induction f with
  | zero => intro r c6 c7 c8 sd sru sgr sA pr cr we ha a3 facts stack cars gaps str known left leaves h1 h2; omega
  | succ f ih =>
    intro r c6 c7 c8 sd sru sgr sA pr cr we ha a3 facts stack cars gaps str known left leaves h1 h2 hS
    show q23 oC oR nW nK cy ls kO cA clmK pcK (F_X8_compare_48b cy ls (nK : Int) clmK pcK (nW : Int) kO cA comers code spans ar sw ss rws d tr l2 (g : Int) K40 (F_X8_compare_48 cy ls (nK : Int) clmK pcK (nW : Int) kO cA comers code spans ar sw ss rws d tr l2 (g : Int) K40 f) (r : Int) c6 c7 c8 sd sru sgr sA pr cr we ha a3 facts stack cars gaps str known left leaves)
    unfold F_X8_compare_48b F_X8_compare_137 F_X8_compare_140
    by_cases q : r = 3
    · rw [if_pos (by omega)]
      exact hK _ _ _ _ _ _ _ _ _ _ _ _ _ _ _ _ _ _ _ _ hS
    · obtain ⟨f2, s2, c2, g2, t2, k2, l2', v2, pr2, cr2, we2, ha2, e, e1, hsf, q2, q1⟩ := ly_x (facts := facts) (stack := stack) (p1 := (r : Int)) (p2 := (g : Int)) (p3 := 0) hP hS hd ht (by omega) (show 0 ≤ (g : Int) ∧ (g : Int) ≤ 60 from ⟨by omega, by omega⟩) rg_0
      rw [if_neg (by omega), e, lf_p_e, lf_p_e, lf_p_e, lf_p_e, lf_p_e, lf_p_e, lf_p_e, lf_p_e, lf_p_e, lf_p_e, lf_p_e, lf_p_e, lf_p_e, lf_p_e, lf_p_e, lf_b_e]
      by_cases y1 : F_X8_isSo v2 sw ss rws = 0
      · rw [if_pos y1]
        exact ih (r + 1) _ _ _ _ _ _ _ _ _ _ _ _ _ _ _ _ _ _ _ _ (by omega) (by omega) hsf
      · rw [if_neg y1]
        by_cases y2 : c8 = -1
        · rw [if_pos y2]
          exact ih (r + 1) _ _ _ _ _ _ _ _ _ _ _ _ _ _ _ _ _ _ _ _ (by omega) (by omega) hsf
        · rw [if_neg y2]
          exact ih (r + 1) _ _ _ _ _ _ _ _ _ _ _ _ _ _ _ _ _ _ _ _ (by omega) (by omega) hsf
theorem co_40 {m : Nat} (hP : plH nW nK cy ls oC oR kO cA clmK pcK comers code spans ar) (hd : 0 ≤ d ∧ d ≤ 999) (ht : ∀ k, k < nK → 0 ≤ tr k ∧ tr k ≤ 9) (hm : m ≤ 60) : ∀ (f g : Nat) (c6 c7 c8 sd sru sgr sA pr cr we ha : Int) (a3 facts stack cars gaps str known left leaves : Nat → Int), g ≤ m + 1 → m + 1 - g < f → sfH oC oR nW nK cy ls kO cA clmK pcK sd str sru sgr sA cars gaps known left leaves pr cr we ha → q23 oC oR nW nK cy ls kO cA clmK pcK (F_X8_compare_40 cy ls (nK : Int) clmK pcK (nW : Int) kO cA comers code spans ar sw ss rws d tr f (m : Int) (g : Int) c6 c7 c8 sd sru sgr sA pr cr we ha a3 facts stack cars gaps str known left leaves) := by
  intro f
  induction f with
  | zero => intro g c6 c7 c8 sd sru sgr sA pr cr we ha a3 facts stack cars gaps str known left leaves h1 h2; omega
  | succ f ih =>
    intro g c6 c7 c8 sd sru sgr sA pr cr we ha a3 facts stack cars gaps str known left leaves h1 h2 hS
    show q23 oC oR nW nK cy ls kO cA clmK pcK (F_X8_compare_40b cy ls (nK : Int) clmK pcK (nW : Int) kO cA comers code spans ar sw ss rws d tr (F_X8_compare_40 cy ls (nK : Int) clmK pcK (nW : Int) kO cA comers code spans ar sw ss rws d tr f) (m : Int) (g : Int) c6 c7 c8 sd sru sgr sA pr cr we ha a3 facts stack cars gaps str known left leaves)
    unfold F_X8_compare_40b
    by_cases q : g = m + 1
    · rw [if_pos (by omega)]
      generalize F_X8_choose (nW : Int) a3 c6 = R
      obtain ⟨r1, r2⟩ := R
      rw [lf_p_e]
      exact hS
    · rw [if_neg (by omega)]
      exact co_48 (K40 := F_X8_compare_40 cy ls (nK : Int) clmK pcK (nW : Int) kO cA comers code spans ar sw ss rws d tr f) hP hd ht (by omega) (fun c6 c7 c8 sd sru sgr sA pr cr we ha a3 facts stack cars gaps str known left leaves hS2 => ih (g + 1) c6 c7 c8 sd sru sgr sA pr cr we ha a3 facts stack cars gaps str known left leaves (by omega) (by omega) hS2) 5 0 _ _ _ _ _ _ _ _ _ _ _ _ _ _ _ _ _ _ _ _ (by decide) (by decide) hS
theorem co_x (hP : plH nW nK cy ls oC oR kO cA clmK pcK comers code spans ar) (hS : sfH oC oR nW nK cy ls kO cA clmK pcK sd str sru sgr sA cars gaps known left leaves pr cr we ha) (hB : stB nK d ru gr tr) : q23 oC oR nW nK cy ls kO cA clmK pcK (F_X8_compare facts stack cy ls (nK : Int) clmK pcK (nW : Int) kO cA comers code spans sd str sru sgr sA ar cars gaps known left leaves pr cr we ha sw ss rws cmp sec fnd frl fgr chs chl d tr) := by
  have hcy := hP.2.2.1
  unfold F_X8_compare
  by_cases q : cmp = 0
  · rw [if_pos q, lf_b_e]
    have hx := co_40 (sw := sw) (ss := ss) (rws := rws) (m := (min 20 (cy - 1)).toNat) hP hB.1 hB.2.2.2 (by omega) 22 1 0 0 (-1) sd sru sgr sA pr cr we ha sec facts stack cars gaps str known left leaves (by omega) (by omega) hS
    have em : F_X7_greensUpTo_a0_20 cy = (((min 20 (cy - 1)).toNat : Nat) : Int) := by
      show min 20 (cy - 1) = _
      omega
    rw [em]
    exact hx
  · rw [if_neg q]
    exact hS
theorem fi_c (hP : plH nW nK cy ls oC oR kO cA clmK pcK comers code spans ar) (hS : sfH oC oR nW nK cy ls kO cA clmK pcK sd str sru sgr sA cars gaps known left leaves pr cr we ha) (hB : stB nK d ru gr tr) : q23 oC oR nW nK cy ls kO cA clmK pcK (F_X9_fits cy ls (nK : Int) clmK pcK (nW : Int) kO cA comers code spans d tr facts stack sd str sru sgr sA ar cars gaps known left leaves pr cr we ha sw ss rws cmp sec fnd frl fgr chs chl p0).2 := by
  have hx := co_x (facts := facts) (stack := stack) (sw := sw) (ss := ss) (rws := rws) (cmp := cmp) (sec := sec) (fnd := fnd) (frl := frl) (fgr := fgr) (chs := chs) (chl := chl) hP hS hB
  unfold F_X9_fits
  rw [st_1x hP.2.2.1.1, lf_b_e, if_neg (show ¬ (1 : Int) = 0 from by decide)]
  generalize F_X8_compare facts stack cy ls (nK : Int) clmK pcK (nW : Int) kO cA comers code spans sd str sru sgr sA ar cars gaps known left leaves pr cr we ha sw ss rws cmp sec fnd frl fgr chs chl d tr = R at hx ⊢
  obtain ⟨r1, r2, r3, r4, r5, r6, r7, r8, r9, r10, r11, r12, r13, r14, r15, r16, r17, r18, r19, r20, r21, r22, r23⟩ := R
  rw [lf_p_e, lf_p_e, lf_p_e, lf_p_e, lf_p_e, lf_p_e, lf_p_e, lf_p_e, lf_p_e, lf_p_e, lf_p_e, lf_p_e, lf_p_e, lf_p_e, lf_p_e, lf_p_e, lf_p_e, lf_p_e, lf_p_e, lf_p_e, lf_p_e, lf_p_e]
  by_cases c0 : p0 = 0
  · rw [if_pos c0]
    exact hx
  rw [if_neg c0]
  by_cases c1 : p0 = 1
  · rw [if_pos c1]
    exact hx
  rw [if_neg c1]
  by_cases c2 : p0 = 2
  · rw [if_pos c2]
    exact hx
  rw [if_neg c2]
  exact hx
theorem wd_c (hP : plH nW nK cy ls oC oR kO cA clmK pcK comers code spans ar) (hS : sfH oC oR nW nK cy ls kO cA clmK pcK sd str sru sgr sA cars gaps known left leaves pr cr we ha) (hB : stB nK d ru gr tr) : q23 oC oR nW nK cy ls kO cA clmK pcK (F_X9_watched cy ls (nK : Int) clmK pcK (nW : Int) kO cA comers code spans d tr facts stack sd str sru sgr sA ar cars gaps known left leaves pr cr we ha sw ss rws cmp sec fnd frl fgr chs chl p0).2 := by
  have hx := co_x (facts := facts) (stack := stack) (sw := sw) (ss := ss) (rws := rws) (cmp := cmp) (sec := sec) (fnd := fnd) (frl := frl) (fgr := fgr) (chs := chs) (chl := chl) hP hS hB
  unfold F_X9_watched
  rw [st_1x hP.2.2.1.1, lf_b_e, if_neg (show ¬ (1 : Int) = 0 from by decide)]
  generalize F_X8_compare facts stack cy ls (nK : Int) clmK pcK (nW : Int) kO cA comers code spans sd str sru sgr sA ar cars gaps known left leaves pr cr we ha sw ss rws cmp sec fnd frl fgr chs chl d tr = R at hx ⊢
  obtain ⟨r1, r2, r3, r4, r5, r6, r7, r8, r9, r10, r11, r12, r13, r14, r15, r16, r17, r18, r19, r20, r21, r22, r23⟩ := R
  rw [lf_p_e, lf_p_e, lf_p_e, lf_p_e, lf_p_e, lf_p_e, lf_p_e, lf_p_e, lf_p_e, lf_p_e, lf_p_e, lf_p_e, lf_p_e, lf_p_e, lf_p_e, lf_p_e, lf_p_e, lf_p_e, lf_p_e, lf_p_e, lf_p_e, lf_p_e]
  by_cases c0 : p0 = 0
  · rw [if_pos c0]
    exact hx
  rw [if_neg c0]
  by_cases c1 : p0 = 1
  · rw [if_pos c1]
    exact hx
  rw [if_neg c1]
  exact hx
/-- best -/
abbrev B19 : Type := Int × Int × (Nat → Int) × S16
theorem be_39 {l4 : Int} {g : Nat} {K29 : Int → (Nat → Int) → Int → Int → Int → Int → Int → Int → Int → Int → Int → (Nat → Int) → (Nat → Int) → (Nat → Int) → (Nat → Int) → (Nat → Int) → (Nat → Int) → (Nat → Int) → (Nat → Int) → B19} (hP : plH nW nK cy ls oC oR kO cA clmK pcK comers code spans ar) (hd : 0 ≤ d ∧ d ≤ 999) (ht : ∀ k, k < nK → 0 ≤ tr k ∧ tr k ≤ 9) (hg : g ≤ 60) (hK : ∀ (sd sru sgr sA pr cr we ha : Int) (a1 facts stack cars gaps str known left leaves : Nat → Int), sfH oC oR nW nK cy ls kO cA clmK pcK sd str sru sgr sA cars gaps known left leaves pr cr we ha → sfS oC oR nW nK cy ls kO cA clmK pcK (K29 l4 a1 ((g : Int) + (1 : Int)) sd sru sgr sA pr cr we ha facts stack cars gaps str known left leaves).2.2.2) : ∀ (f r : Nat) (sd sru sgr sA pr cr we ha : Int) (a1 facts stack cars gaps str known left leaves : Nat → Int), r ≤ 3 → 3 - r < f → sfH oC oR nW nK cy ls kO cA clmK pcK sd str sru sgr sA cars gaps known left leaves pr cr we ha → sfS oC oR nW nK cy ls kO cA clmK pcK (F_X1_bestOf_39 cy ls (nK : Int) clmK pcK (nW : Int) kO cA comers code spans ar d tr l4 (g : Int) K29 f (r : Int) sd sru sgr sA pr cr we ha a1 facts stack cars gaps str known left leaves).2.2.2 := by
  intro f
  induction f with
  | zero => intro r sd sru sgr sA pr cr we ha a1 facts stack cars gaps str known left leaves h1 h2; omega
  | succ f ih =>
    intro r sd sru sgr sA pr cr we ha a1 facts stack cars gaps str known left leaves h1 h2 hS
    show sfS oC oR nW nK cy ls kO cA clmK pcK (F_X1_bestOf_39b cy ls (nK : Int) clmK pcK (nW : Int) kO cA comers code spans ar d tr l4 (g : Int) K29 (F_X1_bestOf_39 cy ls (nK : Int) clmK pcK (nW : Int) kO cA comers code spans ar d tr l4 (g : Int) K29 f) (r : Int) sd sru sgr sA pr cr we ha a1 facts stack cars gaps str known left leaves).2.2.2
    unfold F_X1_bestOf_39b
    by_cases q : r = 3
    · rw [if_pos (by omega)]
      exact hK _ _ _ _ _ _ _ _ _ _ _ _ _ _ _ _ _ hS
    · obtain ⟨f2, s2, c2, g2, t2, k2, l2', v2, pr2, cr2, we2, ha2, e, e1, hsf, q2, q1⟩ := ly_x (facts := facts) (stack := stack) (p1 := (r : Int)) (p2 := (g : Int)) (p3 := 0) hP hS hd ht (by omega) (show 0 ≤ (g : Int) ∧ (g : Int) ≤ 60 from ⟨by omega, by omega⟩) rg_0
      rw [if_neg (by omega), e, lf_p_e, lf_p_e, lf_p_e, lf_p_e, lf_p_e, lf_p_e, lf_p_e, lf_p_e, lf_p_e, lf_p_e, lf_p_e, lf_p_e, lf_p_e, lf_p_e, lf_p_e, lf_b_e]
      exact ih (r + 1) _ _ _ _ _ _ _ _ _ _ _ _ _ _ _ _ _ (by omega) (by omega) hsf
theorem be_29 {m : Nat} (hP : plH nW nK cy ls oC oR kO cA clmK pcK comers code spans ar) (hd : 0 ≤ d ∧ d ≤ 999) (ht : ∀ k, k < nK → 0 ≤ tr k ∧ tr k ≤ 9) (hm : m ≤ 60) : ∀ (f g : Nat) (sd sru sgr sA pr cr we ha : Int) (a1 facts stack cars gaps str known left leaves : Nat → Int), g ≤ m + 1 → m + 1 - g < f → sfH oC oR nW nK cy ls kO cA clmK pcK sd str sru sgr sA cars gaps known left leaves pr cr we ha → sfS oC oR nW nK cy ls kO cA clmK pcK (F_X1_bestOf_29 cy ls (nK : Int) clmK pcK (nW : Int) kO cA comers code spans ar d tr p0 p1 f (m : Int) a1 (g : Int) sd sru sgr sA pr cr we ha facts stack cars gaps str known left leaves).2.2.2 := by
  intro f
  induction f with
  | zero => intro g sd sru sgr sA pr cr we ha a1 facts stack cars gaps str known left leaves h1 h2; omega
  | succ f ih =>
    intro g sd sru sgr sA pr cr we ha a1 facts stack cars gaps str known left leaves h1 h2 hS
    show sfS oC oR nW nK cy ls kO cA clmK pcK (F_X1_bestOf_29b cy ls (nK : Int) clmK pcK (nW : Int) kO cA comers code spans ar d tr p0 p1 (F_X1_bestOf_29 cy ls (nK : Int) clmK pcK (nW : Int) kO cA comers code spans ar d tr p0 p1 f) (m : Int) a1 (g : Int) sd sru sgr sA pr cr we ha facts stack cars gaps str known left leaves).2.2.2
    unfold F_X1_bestOf_29b F_X1_bestOf_83
    by_cases q : g = m + 1
    · rw [if_pos (by omega)]
      exact hS
    · rw [if_neg (by omega)]
      exact be_39 (K29 := F_X1_bestOf_29 cy ls (nK : Int) clmK pcK (nW : Int) kO cA comers code spans ar d tr p0 p1 f) hP hd ht (by omega) (fun sd sru sgr sA pr cr we ha a1 facts stack cars gaps str known left leaves hS2 => ih (g + 1) sd sru sgr sA pr cr we ha a1 facts stack cars gaps str known left leaves (by omega) (by omega) hS2) 5 0 _ _ _ _ _ _ _ _ _ _ _ _ _ _ _ _ _ (by decide) (by decide) hS
theorem be_c (hP : plH nW nK cy ls oC oR kO cA clmK pcK comers code spans ar) (hS : sfH oC oR nW nK cy ls kO cA clmK pcK sd str sru sgr sA cars gaps known left leaves pr cr we ha) (hB : stB nK d ru gr tr) : sfS oC oR nW nK cy ls kO cA clmK pcK (F_X9_best cy ls (nK : Int) clmK pcK (nW : Int) kO cA comers code spans d tr facts stack sd str sru sgr sA ar cars gaps known left leaves pr cr we ha tab tkn p0 p1).2.2.2 := by
  have hcy := hP.2.2.1
  have hx : sfS oC oR nW nK cy ls kO cA clmK pcK (F_X1_bestOf facts stack cy ls (nK : Int) clmK pcK (nW : Int) kO cA comers code spans sd str sru sgr sA ar cars gaps known left leaves pr cr we ha tab tkn d tr p0 p1).2.2.2 := by
    unfold F_X1_bestOf F_X1_bestOf_83
    by_cases q : tkn = 0
    · rw [if_pos q, lf_b_e]
      have hx := be_29 (p0 := p0) (p1 := p1) (m := (min 40 (cy - 1)).toNat) hP hB.1 hB.2.2.2 (by omega) 42 1 sd sru sgr sA pr cr we ha (lf_fl tab 39 (-1)) facts stack cars gaps str known left leaves (by omega) (by omega) hS
      have em : F_X7_greensUpTo_a0_40 cy = (((min 40 (cy - 1)).toNat : Nat) : Int) := by
        show min 40 (cy - 1) = _
        omega
      rw [em]
      exact hx
    · rw [if_neg q]
      exact hS
  unfold F_X9_best F_X9_best_26
  rw [st_1x hP.2.2.1.1, lf_b_e, if_neg (show ¬ (1 : Int) = 0 from by decide)]
  by_cases c0 : p0 < 0
  · rw [if_pos c0]
    exact hS
  rw [if_neg c0]
  by_cases c1 : 12 < p0
  · rw [if_pos c1]
    exact hS
  rw [if_neg c1]
  by_cases c2 : p1 < 0
  · rw [if_pos c2]
    exact hS
  rw [if_neg c2]
  by_cases c3 : ¬ p1 ≤ 2
  · rw [if_neg c3]
    exact hS
  rw [if_pos (Decidable.not_not.mp c3)]
  generalize F_X1_bestOf facts stack cy ls (nK : Int) clmK pcK (nW : Int) kO cA comers code spans sd str sru sgr sA ar cars gaps known left leaves pr cr we ha tab tkn d tr p0 p1 = R at hx ⊢
  exact hx
end WA
end
section
/-! 9i -/
/-! crossing: refusals, on both sides -/
def tlRf (refu : Nat → Int) (O : CO) (r : Sum (Int × Int) (Nat × PL)) : Prop := match r with
  | .inl _ => O.2.2.2.2.2.2.2.2.2.2.2.2.2.2.2.2.2.2.2.2.2.2.2.1 = lf_up refu (1 : Int) (lf_o lf_iadd (refu (Int.toNat (1 : Int))) (1 : Int))
  | .inr _ => O.2.2.2.2.2.2.2.2.2.2.2.2.2.2.2.2.2.2.2.2.2.2.2.1 = refu
def tlRq (refu : Nat → Int) (O : CO) (r : Sum (Int × Int) (Nat × PL)) (_pr : PR) : Prop := tlRf refu O r
theorem mr_loop {g refu now kd0 wk0 cf0 ce0 cs0 bar : Nat → Int} {n : Nat} {aw0 isc rm0 und : Int} {w1 w2 w3 w4 w5 w6 w7 w8 w9 w10 w11 w12 w13 w14 w15 w16 w17 w18 w19 w20 w21 w22 w23 w24 w25 w26 w27 w28 w29 w30 vnot vand vor vall vmin vmax v1 v2 v3 v4 v5 v6 v7 v8 v9 v10 v11 v12 v13 : Nat → Int} (hn : n ≤ 1600) (hg : ∀ k, k < n → 0 ≤ g k) (hm : mw w1 w2 w3 w4 w5 w6 w7 w8 w9 w10 w11 w12 w13 w14 w15 w16 w17 w18 w19 w20 w21 w22 w23 w24 w25 w26 w27 w28 w29 w30) (hq : qw v1 v2 v3 v4 v5 v6 v7 v8 v9 v10 v11 v12 v13) (hnot : wa vnot W_not) (hand : wa vand W_and) (hor : wa vor W_or) (hall : wa vall W_all) (hmin : wa vmin W_min) (hmax : wa vmax W_max) : ∀ (f f2 k p : Nat) (Ks Ws : List (List Int)) (t0 t1 t2 : Bool) (c : CD) (pr : PR) (xa xe np aw cod0 x1 x2 x3 x4 x5 : Int) (M cf N wk kd ce cs tr qwt qc : Nat → Int), mp g n p xa xe → mnm M N Ks Ws → mtf cf t0 t1 t2 → 0 ≤ cod0 → cod0 ≤ (p : Int) → frM kd0 wk0 cf0 ce0 cs0 kd wk cf ce cs → prM pr Ks.length Ws.length kd tr wk cf ce cs cod0 aw → k ≤ 80 → 81 ≤ k + f → 82 ≤ k + f2 → tlRq refu (F_X10_crossing_86 (n : Int) aw0 isc rm0 und g refu w1 w2 w3 w4 w5 w6 w7 w8 w9 w10 w11 w12 w13 w14 w15 w16 w17 w18 w19 w20 w21 w22 w23 w24 w25 w26 w27 w28 w29 w30 now vnot vand vor vall vmin vmax v1 v2 v3 v4 v5 v6 v7 v8 v9 v10 v11 v12 v13 f2 xa xe (0 : Int) (-1 : Int) M cf bar np aw cod0 (k : Int) x1 x2 x3 x4 x5 N wk kd ce cs tr qwt qc) (rcL g n f k p (Ks, Ws, t0, t1, t2, c)) (rcP g n f k p (Ks, Ws, t0, t1, t2, c) pr) := by
  intro f
  induction f with
  | zero => intro f2 k p Ks Ws t0 t1 t2 c pr xa xe np aw cod0 x1 x2 x3 x4 x5 M cf N wk kd ce cs tr qwt qc h hN hf hc hcp hM hNn h1 h2; omega
  | succ f ih =>
    intro f2 k p Ks Ws t0 t1 t2 c pr xa xe np aw cod0 x1 x2 x3 x4 x5 M cf N wk kd ce cs tr qwt qc h hN hf hc hcp hM hNn h1 h2 h3
    obtain ⟨f2, rfl⟩ : ∃ j, f2 = j + 2 := ⟨f2 - 2, by omega⟩
    have hpn := h.1
    have hM0 := hN.1
    have hM1 := hN.2.1
    have hKl := hN.2.2.2.2.2.2.1
    have hWl := hN.2.2.2.2.2.2.2
    show tlRq refu (F_X10_crossing_86b (n : Int) aw0 isc rm0 und g refu w1 w2 w3 w4 w5 w6 w7 w8 w9 w10 w11 w12 w13 w14 w15 w16 w17 w18 w19 w20 w21 w22 w23 w24 w25 w26 w27 w28 w29 w30 now vnot vand vor vall vmin vmax v1 v2 v3 v4 v5 v6 v7 v8 v9 v10 v11 v12 v13 (F_X10_crossing_86 (n : Int) aw0 isc rm0 und g refu w1 w2 w3 w4 w5 w6 w7 w8 w9 w10 w11 w12 w13 w14 w15 w16 w17 w18 w19 w20 w21 w22 w23 w24 w25 w26 w27 w28 w29 w30 now vnot vand vor vall vmin vmax v1 v2 v3 v4 v5 v6 v7 v8 v9 v10 v11 v12 v13 (f2 + 1)) xa xe (0 : Int) (-1 : Int) M cf bar np aw cod0 (k : Int) x1 x2 x3 x4 x5 N wk kd ce cs tr qwt qc) _ _
    have flt : ∀ (pr9 : PR) (q : Int × Int) (ya ye yb yp np aw cod0 kk x1 x2 x3 x4 x5 : Int) (M cf N wk kd ce cs tr qwt qc : Nat → Int), ¬ q.1 = 0 → yb = q.1 → yp = q.2 → frM kd0 wk0 cf0 ce0 cs0 kd wk cf ce cs → tlRq refu (F_X10_crossing_86 (n : Int) aw0 isc rm0 und g refu w1 w2 w3 w4 w5 w6 w7 w8 w9 w10 w11 w12 w13 w14 w15 w16 w17 w18 w19 w20 w21 w22 w23 w24 w25 w26 w27 w28 w29 w30 now vnot vand vor vall vmin vmax v1 v2 v3 v4 v5 v6 v7 v8 v9 v10 v11 v12 v13 (f2 + 1) ya ye yb yp M cf bar np aw cod0 kk x1 x2 x3 x4 x5 N wk kd ce cs tr qwt qc) (.inl q) pr9 := by
      intro pr9 q ya ye yb yp np aw cod0 kk x1 x2 x3 x4 x5 M cf N wk kd ce cs tr qwt qc h1 h2 h3 h4
      show tlRq refu (F_X10_crossing_86b (n : Int) aw0 isc rm0 und g refu w1 w2 w3 w4 w5 w6 w7 w8 w9 w10 w11 w12 w13 w14 w15 w16 w17 w18 w19 w20 w21 w22 w23 w24 w25 w26 w27 w28 w29 w30 now vnot vand vor vall vmin vmax v1 v2 v3 v4 v5 v6 v7 v8 v9 v10 v11 v12 v13 _ ya ye yb yp M cf bar np aw cod0 kk x1 x2 x3 x4 x5 N wk kd ce cs tr qwt qc) _ _
      unfold F_X10_crossing_86b
      rw [if_neg (show ¬ yb = 0 from fun r => h1 (h2.symm.trans r))]
      exact rfl
    unfold F_X10_crossing_86b rcL rcP
    rw [if_pos rfl, ml_look hn h, lf_p_e]
    by_cases q : tx_k g n p = 0
    · rw [if_pos ((lk_end hpn hg).mpr q), if_pos q, if_pos q, sd_1 hc (by omega)]
      rw [lf_p_e, lf_p_e, lf_p_e, lf_p_e, lf_p_e, lf_p_e, lf_p_e, lf_p_e]
      exact rfl
    · rw [if_neg (fun r => q ((lk_end hpn hg).mp r)), if_neg q, if_neg q]
      by_cases q8 : 80 ≤ k
      · have hk8 : (k : Int) = 80 := by omega
        unfold F_X10_statementTold
        rw [if_pos q8, if_pos q8, if_pos hk8, lf_p_e, lf_p_e, lf_p_e, lf_p_e, lf_p_e, lf_p_e, lf_p_e, lf_p_e, lf_p_e, lf_p_e, lf_p_e, lf_p_e, lf_p_e, lf_p_e, lf_p_e, lf_p_e, lf_p_e, lf_p_e, lf_p_e, lf_p_e, lf_p_e, lf_p_e]
        exact flt _ (5, (tx_a g n p : Int)) _ _ _ _ _ _ _ _ _ _ _ _ _ _ _ _ _ _ _ _ _ _ _ (show ¬ (5 : Int) = 0 from by decide) rfl rfl hM
      · rw [if_neg q8, if_neg q8]
        have hst := st_1 (M := M) (N := N) (kd := kd) (tr := tr) (wk := wk) (cf := cf) (ce := ce) (cs := cs) (qc := qc) (qwt := qwt) (np := np) (aw := aw) (cod0 := cod0) (x1 := x1) (x2 := x2) (x3 := x3) (x4 := x4) (x5 := x5) (k := (k : Int)) (c := c) hn hm hq hnot hand hor hall hmin hmax h hN hf hc hcp (by omega)
        have hfr := st_2 (M := M) (N := N) (kd := kd) (tr := tr) (wk := wk) (cf := cf) (ce := ce) (cs := cs) (qc := qc) (qwt := qwt) (np := np) (aw := aw) (cod0 := cod0) (x1 := x1) (x2 := x2) (x3 := x3) (x4 := x4) (x5 := x5) (k := (k : Int)) (c := c) (pr := pr) hn hm hq hnot hand hor hall hmin hmax h hN hf hc hcp (by omega) hNn
        have hsv : sv n (sb (sp_st g n p (Ks, Ws, t0, t1, t2, c)).1 (sp_need g n 59)) := sp_st_sv hpn
        generalize F_X10_statementTold (tx_a g n p : Int) (n : Int) xe (0 : Int) (-1 : Int) np aw cod0 (k : Int) x1 x2 x3 x4 x5 g w1 w2 w3 w4 w5 w6 w7 w8 w9 w10 w11 w12 w13 w14 w15 w16 w17 w18 w19 w20 w21 w22 w23 w24 w25 w26 w27 w28 w29 w30 M N kd tr wk cf ce cs vnot vand vor vall vmin vmax v1 v2 v3 v4 v5 v6 v7 v8 v9 v10 v11 v12 v13 qc qwt = R at hst hfr ⊢
        obtain ⟨r1, r2, r3, r4, r5, r6, r7, r8, r9, r10, r11, r12, r13, r14, r15, r16, r17, r18, r19, r20, r21, r22, r23⟩ := R
        rw [lf_p_e, lf_p_e, lf_p_e, lf_p_e, lf_p_e, lf_p_e, lf_p_e, lf_p_e, lf_p_e, lf_p_e, lf_p_e, lf_p_e, lf_p_e, lf_p_e, lf_p_e, lf_p_e, lf_p_e, lf_p_e, lf_p_e, lf_p_e, lf_p_e, lf_p_e]
        obtain ⟨hr, hok⟩ := hst
        obtain ⟨⟨g1, g2, g3, g4, g5⟩, hpm⟩ := hfr
        obtain ⟨z1, z2, z3, z4, z5⟩ := hM
        have hM' : frM kd0 wk0 cf0 ce0 cs0 r22 r21 r14 r17 r18 := ⟨fun j hj => (g1 j hj).trans (z1 j hj), fun j hj => (g2 j hj).trans (z2 j hj), fun j hj => (g3 j hj).trans (z3 j hj), fun j hj => (g4 j hj).trans (z4 j hj), fun j hj => (g5 j hj).trans (z5 j hj)⟩
        cases e : sb (sp_st g n p (Ks, Ws, t0, t1, t2, c)).1 (sp_need g n 59) with
        | inl z =>
          rw [e] at hr hsv
          exact flt _ z _ _ _ _ _ _ _ _ _ _ _ _ _ _ _ _ _ _ _ _ _ _ _ hsv hr.1 hr.2 hM'
        | inr p2 =>
          rw [e] at hr
          obtain ⟨a1, a2, a3, a4, a5⟩ := hok p2 e
          have a1' : r8 = (k : Int) + 1 := a1
          obtain ⟨b1, b2, b3⟩ := hr
          have b1' : r3 = 0 := b1
          have b2' : r4 = -1 := b2
          subst b1'
          subst b2'
          subst a1'
          have hpm9 := hpm p2 e
          show tlRq refu _ (rcL g n f (k + 1) p2 (sp_st g n p (Ks, Ws, t0, t1, t2, c)).2) (rcP g n f (k + 1) p2 (sp_st g n p (Ks, Ws, t0, t1, t2, c)).2 (sp_px g n p (Ks, Ws, t0, t1, t2, c) pr))
          generalize sp_px g n p (Ks, Ws, t0, t1, t2, c) pr = pr2 at hpm9 ⊢
          generalize sp_st g n p (Ks, Ws, t0, t1, t2, c) = Y at a2 a3 hpm9 ⊢
          obtain ⟨Y0, K2, W2, u0, u1, u2, c2⟩ := Y
          have ek : ((k : Int) + 1) = ((k + 1 : Nat) : Int) := rfl
          rw [ek]
          exact ih (f2 + 1) (k + 1) p2 K2 W2 u0 u1 u2 c2 pr2 _ _ _ _ _ _ _ _ _ _ _ _ _ _ _ _ _ _ _ _ b3 a2 a3 a4 a5 hM' hpm9 (by omega) (by omega) (by omega)
theorem mr_1q {g refu now M cf bar N wk kd ce cs tr qwt qc cd : Nat → Int} {n : Nat} {np aw0 isc rm0 und x1 x2 x3 x4 x5 : Int} {w1 w2 w3 w4 w5 w6 w7 w8 w9 w10 w11 w12 w13 w14 w15 w16 w17 w18 w19 w20 w21 w22 w23 w24 w25 w26 w27 w28 w29 w30 vnot vand vor vall vmin vmax v1 v2 v3 v4 v5 v6 v7 v8 v9 v10 v11 v12 v13 : Nat → Int} (hn : n ≤ 1600) (hg : ∀ k, k < n → 0 ≤ g k) (hm : mw w1 w2 w3 w4 w5 w6 w7 w8 w9 w10 w11 w12 w13 w14 w15 w16 w17 w18 w19 w20 w21 w22 w23 w24 w25 w26 w27 w28 w29 w30) (hq : qw v1 v2 v3 v4 v5 v6 v7 v8 v9 v10 v11 v12 v13) (hnot : wa vnot W_not) (hand : wa vand W_and) (hor : wa vor W_or) (hall : wa vall W_all) (hmin : wa vmin W_min) (hmax : wa vmax W_max) : ∃ bar1 : Nat → Int, (∀ j, 4 ≤ j → bar1 j = bar j) ∧ (∀ x, rcT g n cd = .inr x → bar1 0 = (sp_1a g n (.inr 0)).1 ∧ bar1 1 = (sp_1b g n (.inr 0)).1 ∧ bar1 2 = (sp_1c g n (.inr 0)).1 ∧ bar1 3 = (sp_1d g n (.inr 0)).1) ∧ tlRq refu (F_X10_crossing (n : Int) np aw0 isc x1 rm0 und x2 x3 x4 x5 g refu w1 w2 w3 w4 w5 w6 w7 w8 w9 w10 w11 w12 w13 w14 w15 w16 w17 w18 w19 w20 w21 w22 w23 w24 w25 w26 w27 w28 w29 w30 M N bar kd tr wk cf ce cs now vnot vand vor vall vmin vmax v1 v2 v3 v4 v5 v6 v7 v8 v9 v10 v11 v12 v13 qc qwt) (rcT g n cd) (rpT g n cd) := by
  unfold F_X10_crossing
  have h0 : mp g n 0 (0 : Int) (-1 : Int) := ⟨Nat.zero_le _, ⟨0, rfl, Nat.le_refl _, Nat.zero_le _, rfl⟩, (by decide), ⟨fun r => absurd r (by decide), fun r => absurd rfl r.1⟩⟩
  have hb := bt_s (bar := bar) (s := .inr 0) (xb := 0) (xp := -1) hn hm (Nat.zero_le n) ⟨rfl, rfl, h0⟩
  have hbf := bt_fr (g := g) (bar := bar) (w1 := w1) (w2 := w2) (w3 := w3) (w4 := w4) (xa := (0 : Int)) (n := (n : Int)) (xe := (-1 : Int)) (xb := (0 : Int)) (xp := (-1 : Int))
  have hsv : sv n (sb (sp_1d g n (.inr 0)).2 (sp_need g n 59)) := sv_sb (sp_1d_v (Nat.zero_le n)) (fun _ hp => sp_need_v _ hp)
  have hM2 : ∀ j, 2 ≤ j → lf_up (lf_up M (0 : Int) (0 : Int)) (1 : Int) (0 : Int) j = M j := fun j hj => (lf_up_o (by omega)).trans (lf_up_o (by omega))
  unfold rcT rpT
  generalize F_X10_barTold (0 : Int) (n : Int) (-1 : Int) (0 : Int) (-1 : Int) g w1 w2 w3 w4 bar = R at hb hbf ⊢
  obtain ⟨r1, r2, r3, r4, r5⟩ := R
  rw [lf_p_e, lf_p_e, lf_p_e, lf_p_e]
  obtain ⟨hr, hbar⟩ := hb
  refine ⟨r5, hbf, ?_⟩
  cases e : sb (sp_1d g n (.inr 0)).2 (sp_need g n 59) with
  | inl z =>
    rw [e] at hr hsv
    refine ⟨fun x r => (by cases r), ?_⟩
    show tlRq refu (F_X10_crossing_86b (n : Int) aw0 isc rm0 und g refu w1 w2 w3 w4 w5 w6 w7 w8 w9 w10 w11 w12 w13 w14 w15 w16 w17 w18 w19 w20 w21 w22 w23 w24 w25 w26 w27 w28 w29 w30 now vnot vand vor vall vmin vmax v1 v2 v3 v4 v5 v6 v7 v8 v9 v10 v11 v12 v13 _ r1 r2 r3 r4 _ _ _ _ _ _ _ _ _ _ _ _ _ _ _ _ _ _ _ _) (.inl z) _
    unfold F_X10_crossing_86b
    rw [if_neg (show ¬ r3 = 0 from fun r => hsv (hr.1.symm.trans r))]
    exact rfl
  | inr p =>
    rw [e] at hr
    refine ⟨fun x r => hbar p e, ?_⟩
    obtain ⟨b1, b2, b3⟩ := hr
    have b1' : r3 = 0 := b1
    have b2' : r4 = -1 := b2
    subst b1'
    subst b2'
    exact mr_loop hn hg hm hq hnot hand hor hall hmin hmax 81 3203 1 p [] [] false false false (0, cd) pr0 _ _ _ _ _ _ _ _ _ _ _ _ _ _ _ _ _ _ _ _ b3 mnm_0 mtf_s (Int.le_refl _) (by omega) ⟨fun _ _ => rfl, fun _ _ => rfl, fun j hj => (lf_up_o (by omega)).trans ((lf_up_o (by omega)).trans (lf_up_o (by omega))), fun _ _ => rfl, fun _ _ => rfl⟩ ⟨⟨rfl, rfl⟩, fun j hj => absurd hj (Nat.not_lt_zero j), fun j hj => absurd hj (Nat.not_lt_zero j), ⟨rfl, rfl, rfl⟩, rfl, Int.le_refl 0⟩ (by decide) (by decide) (by decide)
theorem mr_1 {g refu now M cf bar N wk kd ce cs tr qwt qc cd : Nat → Int} {n : Nat} {np aw0 isc rm0 und x1 x2 x3 x4 x5 : Int} {w1 w2 w3 w4 w5 w6 w7 w8 w9 w10 w11 w12 w13 w14 w15 w16 w17 w18 w19 w20 w21 w22 w23 w24 w25 w26 w27 w28 w29 w30 vnot vand vor vall vmin vmax v1 v2 v3 v4 v5 v6 v7 v8 v9 v10 v11 v12 v13 : Nat → Int} (hn : n ≤ 1600) (hg : ∀ k, k < n → 0 ≤ g k) (hm : mw w1 w2 w3 w4 w5 w6 w7 w8 w9 w10 w11 w12 w13 w14 w15 w16 w17 w18 w19 w20 w21 w22 w23 w24 w25 w26 w27 w28 w29 w30) (hq : qw v1 v2 v3 v4 v5 v6 v7 v8 v9 v10 v11 v12 v13) (hnot : wa vnot W_not) (hand : wa vand W_and) (hor : wa vor W_or) (hall : wa vall W_all) (hmin : wa vmin W_min) (hmax : wa vmax W_max) : tlRf refu (F_X10_crossing (n : Int) np aw0 isc x1 rm0 und x2 x3 x4 x5 g refu w1 w2 w3 w4 w5 w6 w7 w8 w9 w10 w11 w12 w13 w14 w15 w16 w17 w18 w19 w20 w21 w22 w23 w24 w25 w26 w27 w28 w29 w30 M N bar kd tr wk cf ce cs now vnot vand vor vall vmin vmax v1 v2 v3 v4 v5 v6 v7 v8 v9 v10 v11 v12 v13 qc qwt) (rcT g n cd) := by
  obtain ⟨b1, x1, x2, h⟩ := mr_1q (cd := cd) hn hg hm hq hnot hand hor hall hmin hmax
  exact h
def tlZf (rf : Nat → Int) (O : Int × Nat × Nat × Int × Int × Int × Int × Int × Int × Int × Int × Int × Int × Int × Int × Int × Int × Int × Int × (Nat → Int) × (Nat → Int) × (Nat → Int) × (Nat → Int) × (Nat → Int) × (Nat → Int) × (Nat → Int) × (Nat → Int) × (Nat → Int) × Int × Int × Int × (Nat → Int) × Int × Int × Int × Nat × Int × Int × Int × Int × (Nat → Int)) (r : Sum (Int × Int) (Nat × PL)) : Prop := match r with
  | .inl _ => O.2.2.2.2.2.2.2.2.2.2.2.2.2.2.2.2.2.2.2.2.2.2.2.2.2.2.2.2.2.2.2.2.2.2.2.2.2.2.2.2 = lf_up rf (1 : Int) (lf_o lf_iadd (rf (Int.toNat (1 : Int))) (1 : Int))
  | .inr _ => O.2.2.2.2.2.2.2.2.2.2.2.2.2.2.2.2.2.2.2.2.2.2.2.2.2.2.2.2.2.2.2.2.2.2.2.2.2.2.2.2 = rf
theorem cx7 {g calm pace trusts kindOf comesAt comers names code spans t rf : Nat → Int} {s x1 x2 x3 x4 al x5 x6 x7 x8 x9 x10 : Int} {pl sp : Nat} (h0 : 0 ≤ s) (h1 : s ≤ 1600) : tlZf rf (F_X9_crossing g s pl sp calm pace trusts kindOf comesAt comers names code spans x1 x2 x3 t x4 al x5 x6 x7 x8 x9 x10 rf) (rcT g s.toNat code) := by
  obtain ⟨n, rfl⟩ := Int.eq_ofNat_of_zero_le h0
  have hn : n ≤ 1600 := by omega
  rw [Int.toNat_natCast]
  have h := cl_rc (g := g) (calm := calm) (pace := pace) (trusts := trusts) (kindOf := kindOf) (comesAt := comesAt) (comers := comers) (names := names) (code := code) (spans := spans) (al := al) hn
  have hv := fun q => rcT_v (g := g) (cd := code) (n := n) q
  unfold F_X9_crossing F_X9_takeTape
  rw [lf_b_e]
  generalize F_X5_readCrossing g al calm pace trusts kindOf comesAt comers names code spans (n : Int) = R at h ⊢
  obtain ⟨r1, r2, r3, r4, r5, r6, r7, r8, r9, r10, r11, r12, r13, r14, r15, r16, r17, r18, r19, r20, r21, r22, r23, r24, r25⟩ := R
  rw [lf_p_e, lf_p_e, lf_p_e, lf_p_e, lf_p_e, lf_p_e, lf_p_e, lf_p_e, lf_p_e, lf_p_e, lf_p_e, lf_p_e, lf_p_e, lf_p_e, lf_p_e, lf_p_e, lf_p_e, lf_p_e, lf_p_e, lf_p_e, lf_p_e, lf_p_e, lf_p_e, lf_p_e]
  cases e : rcT g n code with
  | inl q =>
    rw [e] at h
    have h6 : r6 = q.1 := h.1
    rw [if_neg (show ¬ r6 = 0 from fun z => hv q e (h6.symm.trans z))]
    unfold F_X9_refuse
    rw [lf_p_e]
    exact rfl
  | inr x =>
    rw [e] at h
    have h6 : r6 = 0 := h.1
    rw [if_pos h6, lf_b_e, lf_b_e]
    exact rfl
end
