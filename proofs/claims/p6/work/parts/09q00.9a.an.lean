/-! what is asked of this DAY, on both sides -/
abbrev S16 : Type := Int × Int × Int × Int × Int × Int × Int × Int × (Nat → Int) × (Nat → Int) × (Nat → Int) × (Nat → Int) × (Nat → Int) × (Nat → Int) × (Nat → Int) × (Nat → Int)
def sfS (oC oR : Option (List Int)) (nW nK : Nat) (cy ls : Int) (kO cA clmK pcK : Nat → Int) (S : S16) : Prop := sfH oC oR nW nK cy ls kO cA clmK pcK S.1 S.2.2.2.2.2.2.2.2.2.2.2.2.1 S.2.1 S.2.2.1 S.2.2.2.1 S.2.2.2.2.2.2.2.2.2.2.1 S.2.2.2.2.2.2.2.2.2.2.2.1 S.2.2.2.2.2.2.2.2.2.2.2.2.2.1 S.2.2.2.2.2.2.2.2.2.2.2.2.2.2.1 S.2.2.2.2.2.2.2.2.2.2.2.2.2.2.2 S.2.2.2.2.1 S.2.2.2.2.2.1 S.2.2.2.2.2.2.1 S.2.2.2.2.2.2.2.1
section AN
variable {nW nK : Nat} {oC oR oL : Option (List Int)} {s cy ls aw stm d ru gr hnx hct sd sru sgr sA ar pr cr we ha tkn ad aru agr akn rws cmp fnd frl fgr chs chl occ dwn fa pl sM awM isc und nwst rmM moc sdd tk ask red io lg gt icg sg qp ftm ftr ftg mf mp0 p0 p1 p2 p3 p4 : Int} {g clmK pcK kO cA comers code spans nmX tr rD rR rG facts stack str cars gaps known left leaves tab atr atd ats sw ss sec oct refu gM many bar kinds walkers cf ce codes now kept mrw mo refM asd isCar gapM isG isH crM wtM goM hmM prM ciM pile whn : Nat → Int} {rF : Nat → Nat → Int}
theorem lt_y (hP : plH nW nK cy ls oC oR kO cA clmK pcK comers code spans ar) (hS : sfH oC oR nW nK cy ls kO cA clmK pcK sd str sru sgr sA cars gaps known left leaves pr cr we ha) (hB : stB nK d ru gr tr) : ∃ pr2 cr2 we2 ha2 f2 s2 c2 g2 t2 k2 l2 v2, F_X9_layToday cy ls (nK : Int) clmK pcK (nW : Int) kO cA comers code spans d ru gr tr facts stack sd str sru sgr sA ar cars gaps known left leaves pr cr we ha = (d, ru, gr, (0 : Int), pr2, cr2, we2, ha2, f2, s2, c2, g2, t2, k2, l2, v2) ∧ sfH oC oR nW nK cy ls kO cA clmK pcK d t2 ru gr 0 c2 g2 k2 l2 v2 pr2 cr2 we2 ha2 ∧ SFd oC d cy c2 g2 ∧ SFl oC oR nW cy ls kO cA clmK pcK d tr ru gr 0 l2 v2 pr2 cr2 we2 ha2 ∧ ∀ k, k < nK → t2 k = tr k := by
  obtain ⟨b1, b2', b3, b4⟩ := hB
  obtain ⟨f2, s2, c2, g2, t2, k2, l2, v2, pr2, cr2, we2, ha2, e, e1, hsf, q2, q1⟩ := ly_x (facts := facts) (stack := stack) hP hS b1 b4 b2'.1 (show 0 ≤ gr ∧ gr ≤ 60 from ⟨by omega, b3.2⟩) rg_0
  refine ⟨pr2, cr2, we2, ha2, f2, s2, c2, g2, t2, k2, l2, v2, ?_, hsf, q1, q2, e1⟩
  unfold F_X9_layToday
  rw [e, lf_p_e, lf_p_e, lf_p_e, lf_p_e, lf_p_e, lf_p_e, lf_p_e, lf_p_e, lf_p_e, lf_p_e, lf_p_e, lf_p_e, lf_p_e, lf_p_e, lf_p_e]
theorem lt_x (hP : plH nW nK cy ls oC oR kO cA clmK pcK comers code spans ar) (hS : sfH oC oR nW nK cy ls kO cA clmK pcK sd str sru sgr sA cars gaps known left leaves pr cr we ha) (hB : stB nK d ru gr tr) : ∃ pr2 cr2 we2 ha2 f2 s2 c2 g2 t2 k2 l2 v2, F_X9_layToday cy ls (nK : Int) clmK pcK (nW : Int) kO cA comers code spans d ru gr tr facts stack sd str sru sgr sA ar cars gaps known left leaves pr cr we ha = (d, ru, gr, (0 : Int), pr2, cr2, we2, ha2, f2, s2, c2, g2, t2, k2, l2, v2) ∧ sfH oC oR nW nK cy ls kO cA clmK pcK d t2 ru gr 0 c2 g2 k2 l2 v2 pr2 cr2 we2 ha2 ∧ SFd oC d cy c2 g2 ∧ SFl oC oR nW cy ls kO cA clmK pcK d tr ru gr 0 l2 v2 pr2 cr2 we2 ha2 := by
  obtain ⟨pr2, cr2, we2, ha2, f2, s2, c2, g2, t2, k2, l2, v2, e, h1, h2, h3, h4⟩ := lt_y (facts := facts) (stack := stack) hP hS hB
  exact ⟨pr2, cr2, we2, ha2, f2, s2, c2, g2, t2, k2, l2, v2, e, h1, h2, h3⟩
theorem st_1x (h : 10 ≤ cy) : F_X9_stands cy = 1 := if_neg (by omega)
theorem st_0x (h : cy = 0) : F_X9_stands cy = 0 := if_pos (by omega)
theorem iw_x : F_X9_isWalker (nW : Int) p0 = if 0 ≤ p0 ∧ p0 < (nW : Int) then 1 else 0 := by
  unfold F_X9_isWalker F_X9_isWalker_19
  by_cases q : p0 < 0
  · rw [if_pos q, if_neg (by omega)]
  · rw [if_neg q]
    by_cases q2 : (nW : Int) ≤ p0
    · rw [if_pos q2, if_neg (by omega)]
    · rw [if_neg q2, if_pos (by omega)]
theorem ik_x : F_X9_isKind (nK : Int) p0 = if 0 ≤ p0 ∧ p0 < (nK : Int) then 1 else 0 := by
  unfold F_X9_isKind F_X9_isKind_19
  by_cases q : p0 < 0
  · rw [if_pos q, if_neg (by omega)]
  · rw [if_neg q]
    by_cases q2 : (nK : Int) ≤ p0
    · rw [if_pos q2, if_neg (by omega)]
    · rw [if_neg q2, if_pos (by omega)]
theorem iw_m (h : many 3 = (nW : Int)) : F_X10_isWalker many p0 = if 0 ≤ p0 ∧ p0 < (nW : Int) then 1 else 0 := by
  unfold F_X10_isWalker F_X10_walkerMany lf_isin
  rw [lf_b_e, h]
  by_cases q : 0 ≤ p0 ∧ p0 < (nW : Int)
  · rw [if_pos (by omega), if_pos q]
  · rw [if_neg (by omega), if_neg q]
theorem ik_m (h : many 2 = (nK : Int)) : F_X10_isKind many p0 = if 0 ≤ p0 ∧ p0 < (nK : Int) then 1 else 0 := by
  unfold F_X10_isKind F_X10_kindMany lf_isin
  rw [lf_b_e, h]
  by_cases q : 0 ≤ p0 ∧ p0 < (nK : Int)
  · rw [if_pos (by omega), if_pos q]
  · rw [if_neg (by omega), if_neg q]
/-- light -/
noncomputable def liA (nW : Nat) (cy ls : Int) (kO cA tr : Nat → Int) (ru gr p : Int) : Int := if 0 ≤ p ∧ p < 300 then b2 (decide (0 < leS nW cy ls kO cA tr ru gr 0 p.toNat)) else -1
theorem li_c (hP : plH nW nK cy ls oC oR kO cA clmK pcK comers code spans ar) (hS : sfH oC oR nW nK cy ls kO cA clmK pcK sd str sru sgr sA cars gaps known left leaves pr cr we ha) (hB : stB nK d ru gr tr) : (F_X9_light cy ls (nK : Int) clmK pcK (nW : Int) kO cA comers code spans d ru gr tr facts stack sd str sru sgr sA ar cars gaps known left leaves pr cr we ha p0).1 = liA nW cy ls kO cA tr ru gr p0 ∧ sfS oC oR nW nK cy ls kO cA clmK pcK (F_X9_light cy ls (nK : Int) clmK pcK (nW : Int) kO cA comers code spans d ru gr tr facts stack sd str sru sgr sA ar cars gaps known left leaves pr cr we ha p0).2 := by
  obtain ⟨pr2, cr2, we2, ha2, f2, s2, c2, g2, t2, k2, l2, v2, e, h1, h2, h3⟩ := lt_x (facts := facts) (stack := stack) hP hS hB
  unfold F_X9_light F_X9_light_18 liA
  rw [st_1x hP.2.2.1.1, lf_b_e, if_neg (by decide)]
  by_cases q : p0 < 0
  · rw [if_pos q, if_neg (by omega)]
    exact ⟨rfl, hS⟩
  · rw [if_neg q]
    by_cases q2 : p0 < 300
    · rw [if_pos q2, e, lf_p_e, lf_p_e, lf_p_e, lf_p_e, lf_p_e, lf_p_e, lf_p_e, lf_p_e, lf_p_e, lf_p_e, lf_p_e, lf_p_e, lf_p_e, lf_p_e, lf_p_e, if_pos (show 0 ≤ p0 ∧ p0 < 300 from by omega), h3.1 p0.toNat (by omega)]
      by_cases q3 : leS nW cy ls kO cA tr ru gr 0 p0.toNat ≤ 0
      · rw [if_pos q3, decide_eq_false (by omega)]
        exact ⟨rfl, h1⟩
      · rw [if_neg q3, decide_eq_true (by omega)]
        exact ⟨rfl, h1⟩
    · rw [if_neg q2, if_neg (by omega)]
      exact ⟨rfl, hS⟩
theorem li_mm (hP : plH nW nK cy ls oC oR kO cA clmK pcK comers code spans ar) (hM : pmH nW nK cy ls oC oR oL kO cA clmK pcK many bar kinds walkers cf ce codes) (hB : stB nK d ru gr tr) (hn : ndH nK d ru gr tr now) (hi : isc = 1) : (F_X10_light isc tk ask red io lg gt icg sg qp many bar kinds walkers cf ce codes now isCar gapM isG isH crM wtM goM hmM prM ciM pile p0).1 = liA nW cy ls kO cA tr ru gr p0 := by
  obtain ⟨v16, v17, v18, v19, v20, v21, v22, v23, v24, f33, f27, f7, f28, f29, f8, f25, f26, f30, f31, f32, e, h1, h2, h3⟩ := dn_x (tk := tk) (ask := ask) (red := red) (sg := sg) (qp := qp) (isCar := isCar) (gaps := gapM) (isG := isG) (isH := isH) (cr := crM) (wt := wtM) (go := goM) (hm := hmM) (pr2 := prM) (ci := ciM) (pile := pile) hP hM hB.1 hn hB.2.2.1.1 hB.2.2.1.2 hB.2.1
  unfold F_X10_light F_X10_light_19 liA lf_isin
  rw [if_neg (show ¬ isc = 0 from by omega)]
  by_cases q : 0 ≤ p0 ∧ p0 < 300
  · rw [if_pos (show 0 ≤ p0 ∧ p0 ≤ 299 from by omega), if_neg (show ¬ (1 : Int) = 0 from by decide), e, lf_p_e, lf_p_e, lf_p_e, lf_p_e, lf_p_e, lf_p_e, lf_p_e, lf_p_e, lf_p_e, lf_p_e, lf_p_e, lf_p_e, lf_p_e, lf_p_e, lf_p_e, lf_p_e, lf_p_e, lf_p_e, lf_p_e, if_pos q]
    have hg := (h1.2 p0.toNat (by omega)).2
    rw [hg]
    unfold leS
    cases decide (0 < lef nW cA (twf nW kO tr) (abf 0) cy ls ru gr p0.toNat)
    · rw [if_pos (show b2 false = 0 from rfl)]
      rfl
    · rw [if_neg (show ¬ b2 true = 0 from by decide)]
      rfl
  · rw [if_neg (show ¬ (0 ≤ p0 ∧ p0 ≤ 299) from by omega), if_pos rfl, if_neg q]
/-- car -/
theorem carV_b (hP : plH nW nK cy ls oC oR kO cA clmK pcK comers code spans ar) (hd : 0 ≤ d ∧ d ≤ 999) {s : Nat} (hs : s < 320) : carV oC d cy s = b2 (decide (carV oC d cy s = 1)) := by
  have h := (vlO_b (κ := 0) (hP.2.2.2.2.2.2.1.2) (rhoC_b (al := 7) (s := s) hd (by omega) (show 1 ≤ cy from by have := hP.2.2.1.1; omega) hP.2.2.1.2)).2 rfl
  have h' : carV oC d cy s = 0 ∨ carV oC d cy s = 1 := h
  rcases h' with r | r
  · rw [r]
    rfl
  · rw [r]
    rfl
noncomputable def caA (oC : Option (List Int)) (cy d p : Int) : Int := if 0 ≤ p ∧ p < 320 then carV oC d cy p.toNat else -1
theorem ca_c (hP : plH nW nK cy ls oC oR kO cA clmK pcK comers code spans ar) (hS : sfH oC oR nW nK cy ls kO cA clmK pcK sd str sru sgr sA cars gaps known left leaves pr cr we ha) (hB : stB nK d ru gr tr) : (F_X9_car cy ls (nK : Int) clmK pcK (nW : Int) kO cA comers code spans d ru gr tr facts stack sd str sru sgr sA ar cars gaps known left leaves pr cr we ha p0).1 = caA oC cy d p0 ∧ sfS oC oR nW nK cy ls kO cA clmK pcK (F_X9_car cy ls (nK : Int) clmK pcK (nW : Int) kO cA comers code spans d ru gr tr facts stack sd str sru sgr sA ar cars gaps known left leaves pr cr we ha p0).2 := by
  obtain ⟨pr2, cr2, we2, ha2, f2, s2, c2, g2, t2, k2, l2, v2, e, h1, h2, h3⟩ := lt_x (facts := facts) (stack := stack) hP hS hB
  unfold F_X9_car F_X9_car_18 caA
  rw [st_1x hP.2.2.1.1, lf_b_e, if_neg (by decide)]
  by_cases q : p0 < 0
  · rw [if_pos q, if_neg (by omega)]
    exact ⟨rfl, hS⟩
  · rw [if_neg q]
    by_cases q2 : p0 < 320
    · rw [if_pos q2, e, lf_p_e, lf_p_e, lf_p_e, lf_p_e, lf_p_e, lf_p_e, lf_p_e, lf_p_e, lf_p_e, lf_p_e, lf_p_e, lf_p_e, lf_p_e, lf_p_e, lf_p_e, if_pos (by omega), h2.1 p0.toNat (by omega)]
      exact ⟨rfl, h1⟩
    · rw [if_neg q2, if_neg (by omega)]
      exact ⟨rfl, hS⟩
theorem ca_mm (hP : plH nW nK cy ls oC oR kO cA clmK pcK comers code spans ar) (hM : pmH nW nK cy ls oC oR oL kO cA clmK pcK many bar kinds walkers cf ce codes) (hB : stB nK d ru gr tr) (hn : ndH nK d ru gr tr now) (hi : isc = 1) : (F_X10_car isc tk ask red qp bar kinds walkers cf ce codes now isCar gapM wtM goM hmM pile p0).1 = caA oC cy d p0 := by
  obtain ⟨t, q, r, p, g2, i2, e, h1, h2⟩ := mc_x (tk := tk) (ask := ask) (red := red) (qp := qp) (kinds := kinds) (walkers := walkers) (isCar := isCar) (gaps := gapM) (waits := wtM) (goes := goM) (harms := hmM) (pile := pile) hB.1 (show 1 ≤ cy from by have := hP.2.2.1.1; omega) hP.2.2.1.2 hM.2.2.1 hn.1 hM.2.2.2.2.2.2.1 hP.2.2.2.2.2.2.1.2
  unfold F_X10_car F_X10_car_19 caA lf_isin
  rw [if_neg (show ¬ isc = 0 from by omega)]
  by_cases q : 0 ≤ p0 ∧ p0 < 320
  · rw [if_pos (show 0 ≤ p0 ∧ p0 ≤ 319 from by omega), if_neg (show ¬ (1 : Int) = 0 from by decide), e, lf_p_e, lf_p_e, lf_p_e, lf_p_e, lf_p_e, if_pos q, h1 p0.toNat (by omega)]
    have hc := carV_b hP hB.1 (show p0.toNat < 320 from by omega)
    cases hq : decide (carV oC d cy p0.toNat = 1) with
    | false =>
      rw [hq] at hc
      rw [if_pos (show b2 false = 0 from rfl)]
      exact hc.symm
    | true =>
      rw [hq] at hc
      rw [if_neg (show ¬ b2 true = 0 from by decide)]
      exact hc.symm
  · rw [if_neg (show ¬ (0 ≤ p0 ∧ p0 ≤ 319) from by omega), if_pos rfl, if_neg q]
/-- day -/
noncomputable def daA (oC oR : Option (List Int)) (nW : Nat) (cy ls : Int) (kO cA clmK pcK tr : Nat → Int) (d ru gr p : Int) : Int := if 0 ≤ p ∧ p ≤ 5 then tdS nW cA (twf nW kO tr) (abf 0) cy ls ru gr (weS oC oR nW cy ls kO cA clmK pcK d tr ru gr 0) p else -1
theorem to_o {kd A pr cr we ha p : Int} {cA left leaves : Nat → Int} (h : ¬ (0 ≤ p ∧ p ≤ 5)) : F_X7_told kd cA A left leaves pr cr we ha p = -1 := by
  unfold F_X7_told
  rw [if_neg (by omega), if_neg (by omega), if_neg (by omega), if_neg (by omega), if_neg (by omega), if_neg (by omega)]
theorem da_c (hP : plH nW nK cy ls oC oR kO cA clmK pcK comers code spans ar) (hS : sfH oC oR nW nK cy ls kO cA clmK pcK sd str sru sgr sA cars gaps known left leaves pr cr we ha) (hB : stB nK d ru gr tr) : (F_X9_day cy ls (nK : Int) clmK pcK (nW : Int) kO cA comers code spans d ru gr tr facts stack sd str sru sgr sA ar cars gaps known left leaves pr cr we ha p0).1 = daA oC oR nW cy ls kO cA clmK pcK tr d ru gr p0 ∧ sfS oC oR nW nK cy ls kO cA clmK pcK (F_X9_day cy ls (nK : Int) clmK pcK (nW : Int) kO cA comers code spans d ru gr tr facts stack sd str sru sgr sA ar cars gaps known left leaves pr cr we ha p0).2 := by
  obtain ⟨pr2, cr2, we2, ha2, f2, s2, c2, g2, t2, k2, l2, v2, e, h1, h2, h3⟩ := lt_x (facts := facts) (stack := stack) hP hS hB
  unfold F_X9_day daA
  rw [st_1x hP.2.2.1.1, lf_b_e, if_neg (by decide), e, lf_p_e, lf_p_e, lf_p_e, lf_p_e, lf_p_e, lf_p_e, lf_p_e, lf_p_e, lf_p_e, lf_p_e, lf_p_e, lf_p_e, lf_p_e, lf_p_e, lf_p_e, lf_b_e]
  by_cases q : 0 ≤ p0 ∧ p0 ≤ 5
  · rw [if_pos q, tc_x hP h3 rg_0 (show 0 ≤ gr from by have := hB.2.2.1.1; omega) hB.2.2.1.2 q]
    exact ⟨rfl, h1⟩
  · rw [if_neg q, to_o q]
    exact ⟨rfl, h1⟩
theorem da_mm (hP : plH nW nK cy ls oC oR kO cA clmK pcK comers code spans ar) (hM : pmH nW nK cy ls oC oR oL kO cA clmK pcK many bar kinds walkers cf ce codes) (hB : stB nK d ru gr tr) (hn : ndH nK d ru gr tr now) (hi : isc = 1) : (F_X10_day isc tk ask red io lg gt icg sg qp many bar kinds walkers cf ce codes now isCar gapM isG isH crM wtM goM hmM prM ciM pile p0).1 = daA oC oR nW cy ls kO cA clmK pcK tr d ru gr p0 := by
  obtain ⟨v16, v17, v18, v19, v20, v21, v22, v23, v24, f33, f27, f7, f28, f29, f8, f25, f26, f30, f31, f32, e, h1, h2, h3⟩ := dn_x (tk := tk) (ask := ask) (red := red) (sg := sg) (qp := qp) (isCar := isCar) (gaps := gapM) (isG := isG) (isH := isH) (cr := crM) (wt := wtM) (go := goM) (hm := hmM) (pr2 := prM) (ci := ciM) (pile := pile) hP hM hB.1 hn hB.2.2.1.1 hB.2.2.1.2 hB.2.1
  rw [wkM_0] at h1
  unfold F_X10_day F_X10_day_19 daA lf_isin
  rw [if_neg (show ¬ isc = 0 from by omega)]
  by_cases q : 0 ≤ p0 ∧ p0 ≤ 5
  · rw [if_pos q, if_neg (show ¬ (1 : Int) = 0 from by decide), e, lf_p_e, lf_p_e, lf_p_e, lf_p_e, lf_p_e, lf_p_e, lf_p_e, lf_p_e, lf_p_e, lf_p_e, lf_p_e, lf_p_e, lf_p_e, lf_p_e, lf_p_e, lf_p_e, lf_p_e, lf_p_e, lf_p_e, lf_b_e, if_pos q]
    exact td_m h1 (we_z hP) hM.1 hP.1 q
  · rw [if_neg q, if_pos rfl, if_neg q]
/-- walker -/
noncomputable def waA (oC oR : Option (List Int)) (nW : Nat) (cy ls : Int) (kO cA clmK pcK tr : Nat → Int) (d ru gr p q : Int) : Int := if 0 ≤ p ∧ p < (nW : Int) then (if q = 0 then kO p.toNat else if q = 1 then cA p.toNat else if q = 2 then (weS oC oR nW cy ls kO cA clmK pcK d tr ru gr 0).1 p.toNat else if q = 3 then wt0 cA (abf 0) (weS oC oR nW cy ls kO cA clmK pcK d tr ru gr 0) p.toNat else if q = 4 then b2 (decide (2 ≤ (weS oC oR nW cy ls kO cA clmK pcK d tr ru gr 0).2.1 p.toNat)) else if q = 5 then b2 (decide ((weS oC oR nW cy ls kO cA clmK pcK d tr ru gr 0).2.1 p.toNat = 3)) else if q = 6 then b2 (prS nW cA (twf nW kO tr) (abf 0) cy ls ru gr p.toNat) else -1) else -1
theorem bit_w {Z : Int} {w : Nat} (h : rg Z) (hw : w < 12) : F_X9_bit Z (w : Int) = b2 (bt Z w) := bt_bit h.1 (by have := h.2; omega) (by omega)
theorem wa_cx (hP : plH nW nK cy ls oC oR kO cA clmK pcK comers code spans ar) (hS : sfH oC oR nW nK cy ls kO cA clmK pcK sd str sru sgr sA cars gaps known left leaves pr cr we ha) (hB : stB nK d ru gr tr) : (F_X9_walker cy ls (nK : Int) clmK pcK (nW : Int) kO cA comers code spans d ru gr tr facts stack sd str sru sgr sA ar cars gaps known left leaves pr cr we ha p0 p1).1 = waA oC oR nW cy ls kO cA clmK pcK tr d ru gr p0 p1 ∧ sfS oC oR nW nK cy ls kO cA clmK pcK (F_X9_walker cy ls (nK : Int) clmK pcK (nW : Int) kO cA comers code spans d ru gr tr facts stack sd str sru sgr sA ar cars gaps known left leaves pr cr we ha p0 p1).2 := by
  obtain ⟨pr2, cr2, we2, ha2, f2, s2, c2, g2, t2, k2, l2, v2, e, h1, h2, h3⟩ := lt_x (facts := facts) (stack := stack) hP hS hB
  unfold F_X9_walker waA
  rw [iw_x, lf_b_e]
  by_cases q : 0 ≤ p0 ∧ p0 < (nW : Int)
  · obtain ⟨w, rfl⟩ := Int.eq_ofNat_of_zero_le q.1
    have hn : nW ≤ 12 := hP.1
    have hw : w < nW := by omega
    rw [if_pos q, if_pos q, if_neg (show ¬ (1 : Int) = 0 from by decide), e, lf_p_e, lf_p_e, lf_p_e, lf_p_e, lf_p_e, lf_p_e, lf_p_e, lf_p_e, lf_p_e, lf_p_e, lf_p_e, lf_p_e, lf_p_e, lf_p_e, lf_p_e, Int.toNat_natCast]
    obtain ⟨s1, s2', s3, s4, s5, s6⟩ := h3
    by_cases c0 : p1 = 0
    · rw [if_pos c0, if_pos c0]
      exact ⟨rfl, h1⟩
    rw [if_neg c0, if_neg c0]
    by_cases c1 : p1 = 1
    · rw [if_pos c1, if_pos c1]
      exact ⟨rfl, h1⟩
    rw [if_neg c1, if_neg c1]
    by_cases c2' : p1 = 2
    · rw [if_pos c2', if_pos c2']
      exact ⟨s6 w (by omega), h1⟩
    rw [if_neg c2', if_neg c2']
    by_cases c3 : p1 = 3
    · rw [if_pos c3, if_pos c3, lf_b_e]
      exact ⟨wb_c (we_z hP) s6 hn hw (bt_0 w), h1⟩
    rw [if_neg c3, if_neg c3]
    by_cases c4 : p1 = 4
    · rw [if_pos c4, if_pos c4, lf_b_e, bit_w s4.1 (by omega), s4.2 w (by omega)]
      exact ⟨rfl, h1⟩
    rw [if_neg c4, if_neg c4]
    by_cases c5 : p1 = 5
    · rw [if_pos c5, if_pos c5, lf_b_e, bit_w s5.1 (by omega), s5.2 w (by omega)]
      exact ⟨rfl, h1⟩
    rw [if_neg c5, if_neg c5]
    by_cases c6 : p1 = 6
    · rw [if_pos c6, if_pos c6, lf_b_e, bit_w s2'.1 (by omega), s2'.2 w (by omega)]
      exact ⟨rfl, h1⟩
    rw [if_neg c6, if_neg c6]
    exact ⟨rfl, h1⟩
  · rw [if_neg q, if_neg q, if_pos rfl]
    exact ⟨rfl, hS⟩
theorem b2_i {b : Bool} {α : Type} {A B : α} : (if b2 b = 0 then A else B) = if b = true then B else A := by
  cases b
  · rfl
  · rfl
theorem wa_mx (hP : plH nW nK cy ls oC oR kO cA clmK pcK comers code spans ar) (hM : pmH nW nK cy ls oC oR oL kO cA clmK pcK many bar kinds walkers cf ce codes) (hB : stB nK d ru gr tr) (hn : ndH nK d ru gr tr now) : (F_X10_walker tk ask red io lg gt icg sg qp many bar kinds walkers cf ce codes now isCar gapM isG isH crM wtM goM hmM prM ciM pile p0 p1).1 = waA oC oR nW cy ls kO cA clmK pcK tr d ru gr p0 p1 := by
  obtain ⟨v16, v17, v18, v19, v20, v21, v22, v23, v24, f33, f27, f7, f28, f29, f8, f25, f26, f30, f31, f32, e, h1, h2, h3⟩ := dn_x (tk := tk) (ask := ask) (red := red) (sg := sg) (qp := qp) (isCar := isCar) (gaps := gapM) (isG := isG) (isH := isH) (cr := crM) (wt := wtM) (go := goM) (hm := hmM) (pr2 := prM) (ci := ciM) (pile := pile) hP hM hB.1 hn hB.2.2.1.1 hB.2.2.1.2 hB.2.1
  rw [wkM_0] at h1
  unfold F_X10_walker waA
  rw [iw_m hM.1, lf_b_e]
  by_cases q : 0 ≤ p0 ∧ p0 < (nW : Int)
  · obtain ⟨w, rfl⟩ := Int.eq_ofNat_of_zero_le q.1
    have hn : nW ≤ 12 := hP.1
    have hw : w < nW := by omega
    rw [if_pos q, if_pos q, if_neg (show ¬ (1 : Int) = 0 from by decide), e, lf_p_e, lf_p_e, lf_p_e, lf_p_e, lf_p_e, lf_p_e, lf_p_e, lf_p_e, lf_p_e, lf_p_e, lf_p_e, lf_p_e, lf_p_e, lf_p_e, lf_p_e, lf_p_e, lf_p_e, lf_p_e, lf_p_e, Int.toNat_natCast]
    obtain ⟨d1, d2, d3, d4, d5, d6⟩ := h1.1 w hw
    obtain ⟨w1, w2⟩ := hM.2.2.2.2.1 w hw
    by_cases c0 : p1 = 0
    · rw [if_pos c0, if_pos c0, lf_b_e]
      show walkers (Int.toNat ((24 : Int) + ((2 : Int) * (w : Int)))) = kO w
      rw [show Int.toNat ((24 : Int) + ((2 : Int) * (w : Int))) = 24 + 2 * w from by omega, w1]
    rw [if_neg c0, if_neg c0]
    by_cases c1 : p1 = 1
    · rw [if_pos c1, if_pos c1, lf_b_e]
      show walkers (Int.toNat ((25 : Int) + ((2 : Int) * (w : Int)))) = cA w
      rw [show Int.toNat ((25 : Int) + ((2 : Int) * (w : Int))) = 25 + 2 * w from by omega, w2]
    rw [if_neg c1, if_neg c1]
    by_cases c2' : p1 = 2
    · rw [if_pos c2', if_pos c2']
      exact d2
    rw [if_neg c2', if_neg c2']
    by_cases c3 : p1 = 3
    · rw [if_pos c3, if_pos c3]
      exact d3
    rw [if_neg c3, if_neg c3]
    by_cases c4 : p1 = 4
    · rw [if_pos c4, if_pos c4, d4]
      cases decide (2 ≤ (weS oC oR nW cy ls kO cA clmK pcK d tr ru gr 0).2.1 w)
      · rw [if_pos (show b2 false = 0 from rfl)]
        rfl
      · rw [if_neg (show ¬ b2 true = 0 from by decide)]
        rfl
    rw [if_neg c4, if_neg c4]
    by_cases c5 : p1 = 5
    · rw [if_pos c5, if_pos c5, d5]
      cases decide ((weS oC oR nW cy ls kO cA clmK pcK d tr ru gr 0).2.1 w = 3)
      · rw [if_pos (show b2 false = 0 from rfl)]
        rfl
      · rw [if_neg (show ¬ b2 true = 0 from by decide)]
        rfl
    rw [if_neg c5, if_neg c5]
    by_cases c6 : p1 = 6
    · rw [if_pos c6, if_pos c6, d6]
      cases prS nW cA (twf nW kO tr) (abf 0) cy ls ru gr w
      · rw [if_pos (show b2 false = 0 from rfl)]
        rfl
      · rw [if_neg (show ¬ b2 true = 0 from by decide)]
        rfl
    rw [if_neg c6, if_neg c6]
  · rw [if_neg q, if_neg q, if_pos rfl]
/-- kind -/
def kdB (nW : Nat) (kO : Nat → Int) (p : Int) : Nat → Int
  | 0 => 0
  | k + 1 => if kO k = p then lf_o lf_ior (kdB nW kO p k) (lf_o lf_ishl (1 : Int) (k : Int)) else kdB nW kO p k
def kdA (nW nK : Nat) (kO clmK pcK tr : Nat → Int) (p q : Int) : Int := if 0 ≤ p ∧ p < (nK : Int) then (if q = 0 then clmK p.toNat else if q = 1 then pcK p.toNat else if q = 2 then tr p.toNat else if q = 3 then kdB nW kO p nW else -1) else -1
theorem kd_cr : ∀ (f k : Nat), k ≤ nW → nW - k < f → F_X4_walkersOf_4 (nW : Int) kO p0 f (kdB nW kO p0 k) (k : Int) = kdB nW kO p0 nW := by
  intro f
  induction f with
  | zero => intro k h1 h2; omega
  | succ f ih =>
    intro k h1 h2
    show F_X4_walkersOf_4b (nW : Int) kO p0 (F_X4_walkersOf_4 (nW : Int) kO p0 f) (kdB nW kO p0 k) (k : Int) = _
    unfold F_X4_walkersOf_4b F_X4_walkersOf_28
    by_cases q : k = nW
    · rw [if_pos (by omega), q]
    · rw [if_neg (by omega), Int.toNat_natCast]
      have hx := ih (k + 1) (by omega) (by omega)
      have eS : kdB nW kO p0 (k + 1) = if kO k = p0 then lf_o lf_ior (kdB nW kO p0 k) (lf_o lf_ishl (1 : Int) (k : Int)) else kdB nW kO p0 k := rfl
      rw [eS] at hx
      by_cases c : kO k = p0
      · rw [if_pos c] at hx ⊢
        exact hx
      · rw [if_neg c] at hx ⊢
        exact hx
theorem kd_c (hn : nW ≤ 12) : F_X9_kind (nK : Int) clmK pcK (nW : Int) kO tr p0 p1 = kdA nW nK kO clmK pcK tr p0 p1 := by
  unfold F_X9_kind kdA
  rw [ik_x, lf_b_e]
  by_cases q : 0 ≤ p0 ∧ p0 < (nK : Int)
  · rw [if_pos q, if_pos q, if_neg (show ¬ (1 : Int) = 0 from by decide)]
    have e : F_X4_walkersOf (nW : Int) kO p0 = kdB nW kO p0 nW := kd_cr 14 0 (Nat.zero_le _) (by omega)
    rw [e, lf_b_e]
  · rw [if_neg q, if_neg q, if_pos rfl]
theorem kd_mr (hm : many 3 = (nW : Int)) (hw : ∀ w, w < nW → walkers (24 + 2 * w) = kO w) : ∀ (f k : Nat), k ≤ nW → nW - k < f → F_X10_kind_15 many kinds walkers now p0 p1 f (kdB nW kO p0 k) (k : Int) = (if (lf_isin p1 (0 : Int) (1 : Int)) = 0 then (if p1 = 2 then F_X10_trustsOf now p0 else if p1 = 3 then kdB nW kO p0 nW else -1) else kinds (Int.toNat (((12 : Int) + ((2 : Int) * p0)) + p1))) := by
  intro f
  induction f with
  | zero => intro k h1 h2; omega
  | succ f ih =>
    intro k h1 h2
    show F_X10_kind_15b many kinds walkers now p0 p1 (F_X10_kind_15 many kinds walkers now p0 p1 f) (kdB nW kO p0 k) (k : Int) = _
    unfold F_X10_kind_15b F_X10_kind_41 F_X10_kindOf
    rw [lf_b_e, hm]
    by_cases q : k = nW
    · rw [if_pos (by omega), q]
      rfl
    · rw [if_neg (by omega), lf_b_e, show Int.toNat ((24 : Int) + ((2 : Int) * (k : Int))) = 24 + 2 * k from by omega, hw k (by omega)]
      have hx := ih (k + 1) (by omega) (by omega)
      have eS : kdB nW kO p0 (k + 1) = if kO k = p0 then lf_o lf_ior (kdB nW kO p0 k) (lf_o lf_ishl (1 : Int) (k : Int)) else kdB nW kO p0 k := rfl
      rw [eS] at hx
      by_cases c : kO k = p0
      · rw [if_pos c] at hx ⊢
        exact hx
      · rw [if_neg c] at hx ⊢
        exact hx
theorem kd_m (hn : nW ≤ 12) (hM : pmH nW nK cy ls oC oR oL kO cA clmK pcK many bar kinds walkers cf ce codes) (hN : ndH nK d ru gr tr now) : F_X10_kind many kinds walkers now p0 p1 = kdA nW nK kO clmK pcK tr p0 p1 := by
  unfold F_X10_kind kdA
  rw [ik_m hM.2.1, lf_b_e]
  by_cases q : 0 ≤ p0 ∧ p0 < (nK : Int)
  · rw [if_pos q, if_pos q, if_neg (show ¬ (1 : Int) = 0 from by decide)]
    have e := kd_mr (kinds := kinds) (now := now) (p0 := p0) (p1 := p1) hM.1 (fun w hw => (hM.2.2.2.2.1 w hw).1) 14 0 (Nat.zero_le _) (by omega)
    have e' : F_X10_kind_15 many kinds walkers now p0 p1 14 (0 : Int) (0 : Int) = _ := e
    rw [e']
    obtain ⟨k1, k2⟩ := hM.2.2.2.2.2.1 p0.toNat (by omega)
    have k3 := (hN.2.2.2 p0.toNat (by omega)).1
    unfold lf_isin F_X10_trustsOf
    rw [show Int.toNat ((3 : Int) + p0) = 3 + p0.toNat from by omega, k3]
    by_cases c0 : p1 = 0
    · rw [if_pos (show 0 ≤ p1 ∧ p1 ≤ 1 from by omega), if_neg (show ¬ (1 : Int) = 0 from by decide), if_pos c0, show Int.toNat (((12 : Int) + ((2 : Int) * p0)) + p1) = 12 + 2 * p0.toNat from by omega, k1]
    rw [if_neg c0]
    by_cases c1 : p1 = 1
    · rw [if_pos (show 0 ≤ p1 ∧ p1 ≤ 1 from by omega), if_neg (show ¬ (1 : Int) = 0 from by decide), if_pos c1, show Int.toNat (((12 : Int) + ((2 : Int) * p0)) + p1) = 13 + 2 * p0.toNat from by omega, k2]
    rw [if_neg c1, if_neg (show ¬ (0 ≤ p1 ∧ p1 ≤ 1) from by omega), if_pos rfl]
  · rw [if_neg q, if_neg q, if_pos rfl]
end AN
