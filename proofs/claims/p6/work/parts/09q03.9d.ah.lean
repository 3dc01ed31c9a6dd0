/-! the DAYS ahead: what the class keeps of them -/
section AH
variable {nW nK : Nat} {oC oR oL : Option (List Int)} {s cy ls aw stm d ru gr hnx hct sd sru sgr sA ar pr cr we ha tkn ad aru agr akn rws cmp fnd frl fgr chs chl occ dwn fa pl sM awM isc und nwst rmM moc sdd tk ask red io lg gt icg sg qp ftm ftr ftg mf mp0 p0 p1 p2 p3 p4 : Int} {g clmK pcK kO cA comers code spans nmX tr rD rR rG facts stack str cars gaps known left leaves tab atr atd ats sw ss sec oct refu gM many bar kinds walkers cf ce codes now kept mrw mo refM asd isCar gapM isG isH crM wtM goM hmM prM ciM pile whn : Nat → Int} {rF : Nat → Nat → Int}
/-- what is kept of the DAYS ahead -/
def ahH (oC oR oL : Option (List Int)) (nW nK : Nat) (cy ls : Int) (kO cA clmK pcK : Nat → Int) (d ru gr : Int) (tr : Nat → Int) (akn ad aru agr : Int) (atr atd ats : Nat → Int) : Prop := ∃ n : Nat, akn = (n : Int) ∧ n ≤ 30 ∧ (0 < n → d + (n : Int) ≤ 1000 ∧ ad = d + (n : Int) ∧ aru = ru ∧ agr = gr ∧ ∀ j, j < nK → atr j = lvT oC oR oL nW cy ls kO cA clmK pcK d ru gr (fun _ => 0) tr n j) ∧ ∀ i : Nat, i < n → (∀ w : Nat, w < 6 → atd (6 * i + w) = lvD oC oR oL nW cy ls kO cA clmK pcK d ru gr (fun _ => 0) tr i (w : Int)) ∧ ∀ j, j < nK → ats (6 * i + j) = lvT oC oR oL nW cy ls kO cA clmK pcK d ru gr (fun _ => 0) tr (i + 1) j
theorem ah_0 : ahH oC oR oL nW nK cy ls kO cA clmK pcK d ru gr tr 0 ad aru agr atr atd ats := ⟨0, rfl, by decide, fun h => absurd h (Nat.lt_irrefl 0), fun i hi => absurd hi (Nat.not_lt_zero i)⟩
abbrev G23 : Type := Int × Int × Int × Int × (Nat → Int) × Int × Int × Int × Int × Int × Int × Int × Int × (Nat → Int) × (Nat → Int) × (Nat → Int) × (Nat → Int) × (Nat → Int) × (Nat → Int) × (Nat → Int) × (Nat → Int) × (Nat → Int) × (Nat → Int)
abbrev K23 : Type := Int → Int → Int → (Nat → Int) → Int → Int → Int → Int → Int → Int → Int → Int → Int → (Nat → Int) → (Nat → Int) → (Nat → Int) → (Nat → Int) → (Nat → Int) → (Nat → Int) → (Nat → Int) → (Nat → Int) → (Nat → Int) → (Nat → Int) → G23
theorem ah_60 {K15 : K23} {k : Nat} {c0 c1 c2 v6 : Int} {a4 a24 f7 f8 f9 : Nat → Int} {D : Int → Int} (hk : k < 30) (hD : ∀ w : Int, 0 ≤ w → w ≤ 5 → F_X7_told (nW : Int) cA sA left leaves pr cr we ha w = D w) (hp : F_X7_pass facts stack clmK pcK (nW : Int) kO cA code spans sd sA leaves c0 a4 = (v6, f7, f8, f9)) : ∀ (f l : Nat) (a23 : Nat → Int), l ≤ 6 → 6 - l < f → ∃ b, F_X0_goTo_60 clmK pcK (nW : Int) kO cA code spans c0 c1 c2 a4 (k : Int) a24 K15 f sd sru sgr sA pr cr we ha facts stack cars gaps str known left leaves (l : Int) a23 = K15 v6 c1 c2 f7 ((k : Int) + (1 : Int)) sd sru sgr sA pr cr we ha f8 f9 cars gaps str known left leaves b (lf_cpy f7 a24 (0 : Int) ((k : Int) * (6 : Int)) (6 : Int)) ∧ (∀ w : Nat, l ≤ w → w < 6 → b (6 * k + w) = D (w : Int)) ∧ ∀ j, j < 6 * k + l ∨ 6 * k + 6 ≤ j → b j = a23 j := by
  intro f
  induction f with
  | zero => intro l a23 h1 h2; omega
  | succ f ih =>
    intro l a23 h1 h2
    have e0 : F_X0_goTo_60 clmK pcK (nW : Int) kO cA code spans c0 c1 c2 a4 (k : Int) a24 K15 (f + 1) sd sru sgr sA pr cr we ha facts stack cars gaps str known left leaves (l : Int) a23 = F_X0_goTo_60b clmK pcK (nW : Int) kO cA code spans c0 c1 c2 a4 (k : Int) a24 K15 (F_X0_goTo_60 clmK pcK (nW : Int) kO cA code spans c0 c1 c2 a4 (k : Int) a24 K15 f) sd sru sgr sA pr cr we ha facts stack cars gaps str known left leaves (l : Int) a23 := rfl
    rw [e0]
    unfold F_X0_goTo_60b
    by_cases q : l = 6
    · rw [if_pos (by omega), hp, lf_p_e, lf_p_e, lf_p_e]
      exact ⟨a23, rfl, fun w h3 h4 => absurd h4 (by omega), fun _ _ => rfl⟩
    · rw [if_neg (by omega), hD (l : Int) (by omega) (by omega), lf_b_e]
      obtain ⟨b, e, e1, e2⟩ := ih (l + 1) (lf_up a23 (((k : Int) * (6 : Int)) + (l : Int)) (D (l : Int))) (by omega) (by omega)
      refine ⟨b, e, fun w h3 h4 => ?_, fun j hj => ?_⟩
      · by_cases y : w = l
        · rw [y, e2 _ (by omega), lf_up_y (by omega)]
        · exact e1 w (by omega) h4
      · rw [e2 j (by omega), lf_up_o (by omega)]
theorem ah_run {n : Nat} (hP : plH nW nK cy ls oC oR kO cA clmK pcK comers code spans ar) (hL : cdX code spans 4 oL ∧ cdG false 123 oL) (hB : stB nK d ru gr tr) (hn : n ≤ 30) (hdn : d + (n : Int) ≤ 1000) : ∀ (f k : Nat) (atr : Nat → Int) (sd sru sgr sA pr cr we ha : Int) (facts stack cars gaps str known left leaves atd ats : Nat → Int), k ≤ n → n - k < f → (∀ j, j < nK → atr j = lvT oC oR oL nW cy ls kO cA clmK pcK d ru gr (fun _ => 0) tr k j) → (∀ i : Nat, i < k → (∀ w : Nat, w < 6 → atd (6 * i + w) = lvD oC oR oL nW cy ls kO cA clmK pcK d ru gr (fun _ => 0) tr i (w : Int)) ∧ ∀ j, j < nK → ats (6 * i + j) = lvT oC oR oL nW cy ls kO cA clmK pcK d ru gr (fun _ => 0) tr (i + 1) j) → sfH oC oR nW nK cy ls kO cA clmK pcK sd str sru sgr sA cars gaps known left leaves pr cr we ha → ∃ (atr' : Nat → Int) (sd' sru' sgr' sA' pr' cr' we' ha' : Int) (facts' stack' cars' gaps' str' known' left' leaves' atd' ats' : Nat → Int), F_X0_goTo_15 cy ls (nK : Int) clmK pcK (nW : Int) kO cA comers code spans ar (n : Int) f (d + (k : Int)) ru gr atr (k : Int) sd sru sgr sA pr cr we ha facts stack cars gaps str known left leaves atd ats = ((n : Int), d + (n : Int), ru, gr, atr', sd', sru', sgr', sA', pr', cr', we', ha', facts', stack', cars', gaps', str', known', left', leaves', atd', ats') ∧ (∀ j, j < nK → atr' j = lvT oC oR oL nW cy ls kO cA clmK pcK d ru gr (fun _ => 0) tr n j) ∧ (∀ i : Nat, i < n → (∀ w : Nat, w < 6 → atd' (6 * i + w) = lvD oC oR oL nW cy ls kO cA clmK pcK d ru gr (fun _ => 0) tr i (w : Int)) ∧ ∀ j, j < nK → ats' (6 * i + j) = lvT oC oR oL nW cy ls kO cA clmK pcK d ru gr (fun _ => 0) tr (i + 1) j) ∧ sfH oC oR nW nK cy ls kO cA clmK pcK sd' str' sru' sgr' sA' cars' gaps' known' left' leaves' pr' cr' we' ha' := by
  intro f
  induction f with
  | zero => intro k atr sd sru sgr sA pr cr we ha facts stack cars gaps str known left leaves atd ats h1 h2; omega
  | succ f ih =>
    intro k atr sd sru sgr sA pr cr we ha facts stack cars gaps str known left leaves atd ats h1 h2 h3 h4 h5
    have e0 : F_X0_goTo_15 cy ls (nK : Int) clmK pcK (nW : Int) kO cA comers code spans ar (n : Int) (f + 1) (d + (k : Int)) ru gr atr (k : Int) sd sru sgr sA pr cr we ha facts stack cars gaps str known left leaves atd ats = F_X0_goTo_15b cy ls (nK : Int) clmK pcK (nW : Int) kO cA comers code spans ar (n : Int) (F_X0_goTo_15 cy ls (nK : Int) clmK pcK (nW : Int) kO cA comers code spans ar (n : Int) f) (d + (k : Int)) ru gr atr (k : Int) sd sru sgr sA pr cr we ha facts stack cars gaps str known left leaves atd ats := rfl
    rw [e0]
    unfold F_X0_goTo_15b
    by_cases q : k = n
    · rw [if_pos (by omega)]
      subst q
      exact ⟨_, _, _, _, _, _, _, _, _, _, _, _, _, _, _, _, _, _, _, rfl, h3, h4, h5⟩
    · have hd := hB.1
      have hTb := lvT_b (oL := oL) (cy := cy) (ls := ls) (ru := ru) (gr := gr) (a := fun _ => 0) (tr := tr) hP hB.1.1 hB.2.2.2 k (by omega)
      have hBk : stB nK (d + (k : Int)) ru gr (lvT oC oR oL nW cy ls kO cA clmK pcK d ru gr (fun _ => 0) tr k) := ⟨⟨by omega, by omega⟩, hB.2.1, hB.2.2.1, hTb⟩
      obtain ⟨f2, s2, c2, g2, t2, k2, l2, v2, pr2, cr2, we2, ha2, t3, f3, s3, e, x1, x2, x3, x4, x5⟩ := lv_c (facts := facts) (stack := stack) (A := 0) hP hL h5 hBk h3 rg_0
      have hgr := hB.2.2.1
      obtain ⟨b, eb, eb1, eb2⟩ := ah_60 (K15 := F_X0_goTo_15 cy ls (nK : Int) clmK pcK (nW : Int) kO cA comers code spans ar (n : Int) f) (k := k) (c0 := d + (k : Int)) (c1 := ru) (c2 := gr) (a24 := ats) (D := fun w => lvD oC oR oL nW cy ls kO cA clmK pcK d ru gr (fun _ => 0) tr k w) (sru := ru) (sgr := gr) (cars := c2) (gaps := g2) (str := t2) (known := k2) (by omega) (fun w w0 w1 => tc_x hP x3 rg_0 (by omega) hgr.2 ⟨w0, w1⟩) x4 8 0 atd (by decide) (by decide)
      have eb' : F_X0_goTo_60 clmK pcK (nW : Int) kO cA code spans (d + (k : Int)) ru gr atr (k : Int) ats (F_X0_goTo_15 cy ls (nK : Int) clmK pcK (nW : Int) kO cA comers code spans ar (n : Int) f) 8 (d + (k : Int)) ru gr (0 : Int) pr2 cr2 we2 ha2 f2 s2 c2 g2 t2 k2 l2 v2 (0 : Int) atd = _ := eb
      rw [if_neg (by omega), if_neg (by omega), e, lf_p_e, lf_p_e, lf_p_e, lf_p_e, lf_p_e, lf_p_e, lf_p_e, lf_p_e, lf_p_e, lf_p_e, lf_p_e, lf_p_e, lf_p_e, lf_p_e, lf_p_e, eb', show d + (k : Int) + 1 = d + ((k + 1 : Nat) : Int) from by omega, show (k : Int) + 1 = ((k + 1 : Nat) : Int) from rfl]
      refine ih (k + 1) t3 _ _ _ _ _ _ _ _ f3 s3 c2 g2 t2 k2 l2 v2 b _ (by omega) (by omega) x5 (fun i hi => ?_) x1
      by_cases y : i = k
      · subst y
        refine ⟨fun w hw => eb1 w (Nat.zero_le _) hw, fun j hj => ?_⟩
        have hnK : nK ≤ 6 := hP.2.1
        unfold lf_cpy
        rw [if_pos (show ((i : Int) * (6 : Int)).toNat ≤ 6 * i + j ∧ 6 * i + j < ((i : Int) * (6 : Int)).toNat + (6 : Int).toNat from by
          have e6 : (6 : Int).toNat = 6 := rfl
          omega), show (0 : Int).toNat + (6 * i + j - ((i : Int) * (6 : Int)).toNat) = j from by
          have e6 : (0 : Int).toNat = 0 := rfl
          omega]
        exact x5 j hj
      · obtain ⟨z1, z2⟩ := h4 i (by omega)
        refine ⟨fun w hw => ?_, fun j hj => ?_⟩
        · rw [eb2 _ (by omega)]
          exact z1 w hw
        · have hnK : nK ≤ 6 := hP.2.1
          unfold lf_cpy
          rw [if_neg (show ¬ (((k : Int) * (6 : Int)).toNat ≤ 6 * i + j ∧ 6 * i + j < ((k : Int) * (6 : Int)).toNat + (6 : Int).toNat) from by
            have e6 : (6 : Int).toNat = 6 := rfl
            omega)]
          exact z2 j hj
/-- goTo -/
theorem gt_x {n : Nat} (hP : plH nW nK cy ls oC oR kO cA clmK pcK comers code spans ar) (hL : cdX code spans 4 oL ∧ cdG false 123 oL) (hB : stB nK d ru gr tr) (hS : sfH oC oR nW nK cy ls kO cA clmK pcK sd str sru sgr sA cars gaps known left leaves pr cr we ha) (hA : ahH oC oR oL nW nK cy ls kO cA clmK pcK d ru gr tr akn ad aru agr atr atd ats) (hn : n ≤ 30) (hdn : d + (n : Int) ≤ 1000) : ∃ (akn' ad' aru' agr' : Int) (atr' : Nat → Int) (sd' sru' sgr' sA' pr' cr' we' ha' : Int) (facts' stack' cars' gaps' str' known' left' leaves' atd' ats' : Nat → Int), F_X0_goTo facts stack cy ls (nK : Int) clmK pcK (nW : Int) kO cA comers code spans sd str sru sgr sA ar cars gaps known left leaves pr cr we ha ad aru agr atr atd ats akn d ru gr tr (n : Int) = (akn', ad', aru', agr', atr', sd', sru', sgr', sA', pr', cr', we', ha', facts', stack', cars', gaps', str', known', left', leaves', atd', ats') ∧ (n : Int) ≤ akn' ∧ ahH oC oR oL nW nK cy ls kO cA clmK pcK d ru gr tr akn' ad' aru' agr' atr' atd' ats' ∧ sfH oC oR nW nK cy ls kO cA clmK pcK sd' str' sru' sgr' sA' cars' gaps' known' left' leaves' pr' cr' we' ha' := by
  obtain ⟨m, e1, h1, h2, h3⟩ := hA
  have hK : nK ≤ 6 := hP.2.1
  unfold F_X0_goTo F_X6_copy
  by_cases q : m = 0
  · subst q
    rw [e1, if_pos (show ((0 : Nat) : Int) = 0 from rfl), lf_b_e]
    obtain ⟨atr', sd', sru', sgr', sA', pr', cr', we', ha', facts', stack', cars', gaps', str', known', left', leaves', atd', ats', e, x1, x2, x3⟩ := ah_run (n := n) hP hL hB hn hdn 32 0 (lf_cpy tr atr (0 : Int) (0 : Int) (6 : Int)) sd sru sgr sA pr cr we ha facts stack cars gaps str known left leaves atd ats (Nat.zero_le _) (by omega) (fun j hj => cpy_6 (by omega)) (fun i hi => absurd hi (Nat.not_lt_zero i)) hS
    rw [show d + ((0 : Nat) : Int) = d from by omega] at e
    exact ⟨_, _, _, _, _, _, _, _, _, _, _, _, _, _, _, _, _, _, _, _, _, _, _, e, Int.le_refl _, ⟨n, rfl, hn, fun _ => ⟨hdn, rfl, rfl, rfl, x1⟩, x2⟩, x3⟩
  · obtain ⟨y1, y2, y3, y4, y5⟩ := h2 (by omega)
    rw [if_neg (show ¬ akn = 0 from by omega), e1, y2, y3, y4]
    by_cases z : n ≤ m
    · have e0 : F_X0_goTo_15 cy ls (nK : Int) clmK pcK (nW : Int) kO cA comers code spans ar (n : Int) 32 (d + (m : Int)) ru gr atr (m : Int) sd sru sgr sA pr cr we ha facts stack cars gaps str known left leaves atd ats = F_X0_goTo_15b cy ls (nK : Int) clmK pcK (nW : Int) kO cA comers code spans ar (n : Int) (F_X0_goTo_15 cy ls (nK : Int) clmK pcK (nW : Int) kO cA comers code spans ar (n : Int) 31) (d + (m : Int)) ru gr atr (m : Int) sd sru sgr sA pr cr we ha facts stack cars gaps str known left leaves atd ats := rfl
      rw [e0]
      unfold F_X0_goTo_15b
      rw [if_pos (by omega)]
      exact ⟨_, _, _, _, _, _, _, _, _, _, _, _, _, _, _, _, _, _, _, _, _, _, _, rfl, by omega, ⟨m, rfl, h1, fun _ => ⟨y1, rfl, rfl, rfl, y5⟩, h3⟩, hS⟩
    · obtain ⟨atr', sd', sru', sgr', sA', pr', cr', we', ha', facts', stack', cars', gaps', str', known', left', leaves', atd', ats', e, x1, x2, x3⟩ := ah_run (n := n) hP hL hB hn hdn 32 m atr sd sru sgr sA pr cr we ha facts stack cars gaps str known left leaves atd ats (by omega) (by omega) y5 h3 hS
      exact ⟨_, _, _, _, _, _, _, _, _, _, _, _, _, _, _, _, _, _, _, _, _, _, _, e, Int.le_refl _, ⟨n, rfl, hn, fun _ => ⟨hdn, rfl, rfl, rfl, x1⟩, x2⟩, x3⟩
/-- what stands of later, of doubts: the class's -/
def q24 (oC oR oL : Option (List Int)) (nW nK : Nat) (cy ls : Int) (kO cA clmK pcK : Nat → Int) (d ru gr : Int) (tr : Nat → Int) (O : Int × G23) : Prop := ahH oC oR oL nW nK cy ls kO cA clmK pcK d ru gr tr O.2.1 O.2.2.1 O.2.2.2.1 O.2.2.2.2.1 O.2.2.2.2.2.1 O.2.2.2.2.2.2.2.2.2.2.2.2.2.2.2.2.2.2.2.2.2.2.1 O.2.2.2.2.2.2.2.2.2.2.2.2.2.2.2.2.2.2.2.2.2.2.2 ∧ sfH oC oR nW nK cy ls kO cA clmK pcK O.2.2.2.2.2.2.1 O.2.2.2.2.2.2.2.2.2.2.2.2.2.2.2.2.2.2.1 O.2.2.2.2.2.2.2.1 O.2.2.2.2.2.2.2.2.1 O.2.2.2.2.2.2.2.2.2.1 O.2.2.2.2.2.2.2.2.2.2.2.2.2.2.2.2.1 O.2.2.2.2.2.2.2.2.2.2.2.2.2.2.2.2.2.1 O.2.2.2.2.2.2.2.2.2.2.2.2.2.2.2.2.2.2.2.1 O.2.2.2.2.2.2.2.2.2.2.2.2.2.2.2.2.2.2.2.2.1 O.2.2.2.2.2.2.2.2.2.2.2.2.2.2.2.2.2.2.2.2.2.1 O.2.2.2.2.2.2.2.2.2.2.1 O.2.2.2.2.2.2.2.2.2.2.2.1 O.2.2.2.2.2.2.2.2.2.2.2.2.1 O.2.2.2.2.2.2.2.2.2.2.2.2.2.1
noncomputable def latA (oC oR oL : Option (List Int)) (nW : Nat) (cy ls : Int) (kO cA clmK pcK : Nat → Int) (d ru gr : Int) (tr : Nat → Int) (p q : Int) : Int := if (0 ≤ p ∧ p < 30 ∧ d + p ≤ 999) ∧ 0 ≤ q ∧ q ≤ 5 then lvD oC oR oL nW cy ls kO cA clmK pcK d ru gr (fun _ => 0) tr p.toNat q else -1
theorem lat_c (hP : plH nW nK cy ls oC oR kO cA clmK pcK comers code spans ar) (hL : cdX code spans 4 oL ∧ cdG false 123 oL) (hB : stB nK d ru gr tr) (hS : sfH oC oR nW nK cy ls kO cA clmK pcK sd str sru sgr sA cars gaps known left leaves pr cr we ha) (hA : ahH oC oR oL nW nK cy ls kO cA clmK pcK d ru gr tr akn ad aru agr atr atd ats) : (F_X9_later cy ls (nK : Int) clmK pcK (nW : Int) kO cA comers code spans d ru gr tr facts stack sd str sru sgr sA ar cars gaps known left leaves pr cr we ha ad aru agr atr atd ats akn p0 p1).1 = latA oC oR oL nW cy ls kO cA clmK pcK d ru gr tr p0 p1 ∧ q24 oC oR oL nW nK cy ls kO cA clmK pcK d ru gr tr (F_X9_later cy ls (nK : Int) clmK pcK (nW : Int) kO cA comers code spans d ru gr tr facts stack sd str sru sgr sA ar cars gaps known left leaves pr cr we ha ad aru agr atr atd ats akn p0 p1) := by
  have hd := hB.1
  unfold F_X9_later F_X9_later_32 F_X9_later_44 latA
  rw [st_1x hP.2.2.1.1, lf_b_e, if_neg (show ¬ (1 : Int) = 0 from by decide)]
  by_cases c0 : p0 < 0
  · rw [if_pos c0, if_neg (by omega)]
    exact ⟨rfl, hA, hS⟩
  rw [if_neg c0]
  by_cases c1 : 30 ≤ p0
  · rw [if_pos c1, if_neg (by omega)]
    exact ⟨rfl, hA, hS⟩
  rw [if_neg c1, lo_add (by omega) (by omega) (by omega) (by omega) (by omega) (by omega)]
  by_cases c2 : d + p0 ≤ 999
  · rw [if_pos c2]
    by_cases c3 : p1 < 0
    · rw [if_pos c3, if_neg (by omega)]
      exact ⟨rfl, hA, hS⟩
    rw [if_neg c3]
    by_cases c4 : p1 < 6
    · rw [if_pos c4, if_pos (by omega)]
      obtain ⟨akn', ad', aru', agr', atr', sd', sru', sgr', sA', pr', cr', we', ha', facts', stack', cars', gaps', str', known', left', leaves', atd', ats', e, x1, x2, x3⟩ := gt_x (facts := facts) (stack := stack) (n := p0.toNat + 1) hP hL hB hS hA (by omega) (by omega)
      rw [show ((p0.toNat + 1 : Nat) : Int) = p0 + 1 from by omega] at e x1
      rw [e, lf_p_e, lf_p_e, lf_p_e, lf_p_e, lf_p_e, lf_p_e, lf_p_e, lf_p_e, lf_p_e, lf_p_e, lf_p_e, lf_p_e, lf_p_e, lf_p_e, lf_p_e, lf_p_e, lf_p_e, lf_p_e, lf_p_e, lf_p_e, lf_p_e, lf_p_e]
      refine ⟨?_, x2, x3⟩
      obtain ⟨m, m1, m2, m3, m4⟩ := x2
      have := (m4 p0.toNat (by omega)).1 p1.toNat (by omega)
      show atd' (Int.toNat ((p0 * (6 : Int)) + p1)) = _
      rw [show Int.toNat ((p0 * (6 : Int)) + p1) = 6 * p0.toNat + p1.toNat from by omega, this, show ((p1.toNat : Nat) : Int) = p1 from by omega]
    · rw [if_neg c4, if_neg (by omega)]
      exact ⟨rfl, hA, hS⟩
  · rw [if_neg c2, if_neg (by omega)]
    exact ⟨rfl, hA, hS⟩
theorem dou_run {m : Nat} (hP : plH nW nK cy ls oC oR kO cA clmK pcK comers code spans ar) (hL : cdX code spans 4 oL ∧ cdG false 123 oL) (hB : stB nK d ru gr tr) (hm : m ≤ 30) (hdm : d + (m : Int) ≤ 1000) : ∀ (f k : Nat) (akn ad aru agr : Int) (sd sru sgr sA pr cr we ha : Int) (atr facts stack cars gaps str known left leaves atd ats : Nat → Int), k ≤ m + 1 → m + 1 - k < f → sfH oC oR nW nK cy ls kO cA clmK pcK sd str sru sgr sA cars gaps known left leaves pr cr we ha → ahH oC oR oL nW nK cy ls kO cA clmK pcK d ru gr tr akn ad aru agr atr atd ats → q24 oC oR oL nW nK cy ls kO cA clmK pcK d ru gr tr (F_X9_doubts_45 cy ls (nK : Int) clmK pcK (nW : Int) kO cA comers code spans d ru gr tr ar p0 f (m : Int) (k : Int) akn ad aru agr sd sru sgr sA pr cr we ha atr facts stack cars gaps str known left leaves atd ats) := by
  intro f
  induction f with
  | zero => intro k akn ad aru agr sd sru sgr sA pr cr we ha atr facts stack cars gaps str known left leaves atd ats h1 h2; omega
  | succ f ih =>
    intro k akn ad aru agr sd sru sgr sA pr cr we ha atr facts stack cars gaps str known left leaves atd ats h1 h2 hS hA
    show q24 oC oR oL nW nK cy ls kO cA clmK pcK d ru gr tr (F_X9_doubts_45b cy ls (nK : Int) clmK pcK (nW : Int) kO cA comers code spans d ru gr tr ar p0 (F_X9_doubts_45 cy ls (nK : Int) clmK pcK (nW : Int) kO cA comers code spans d ru gr tr ar p0 f) (m : Int) (k : Int) akn ad aru agr sd sru sgr sA pr cr we ha atr facts stack cars gaps str known left leaves atd ats)
    unfold F_X9_doubts_45b
    by_cases q : k = m + 1
    · rw [if_pos (by omega)]
      exact ⟨hA, hS⟩
    · obtain ⟨akn', ad', aru', agr', atr', sd', sru', sgr', sA', pr', cr', we', ha', facts', stack', cars', gaps', str', known', left', leaves', atd', ats', e, x1, x2, x3⟩ := gt_x (facts := facts) (stack := stack) (n := k) hP hL hB hS hA (by omega) (by omega)
      rw [if_neg (by omega), e, lf_p_e, lf_p_e, lf_p_e, lf_p_e, lf_p_e, lf_p_e, lf_p_e, lf_p_e, lf_p_e, lf_p_e, lf_p_e, lf_p_e, lf_p_e, lf_p_e, lf_p_e, lf_p_e, lf_p_e, lf_p_e, lf_p_e, lf_p_e, lf_p_e, lf_p_e]
      by_cases y : ats' (Int.toNat ((((k : Int) - (1 : Int)) * (6 : Int)) + p0)) = 0
      · rw [if_pos y]
        exact ⟨x2, x3⟩
      · rw [if_neg y]
        exact ih (k + 1) _ _ _ _ _ _ _ _ _ _ _ _ _ _ _ _ _ _ _ _ _ _ _ (by omega) (by omega) x3 x2
theorem dou_c (hP : plH nW nK cy ls oC oR kO cA clmK pcK comers code spans ar) (hL : cdX code spans 4 oL ∧ cdG false 123 oL) (hB : stB nK d ru gr tr) (hS : sfH oC oR nW nK cy ls kO cA clmK pcK sd str sru sgr sA cars gaps known left leaves pr cr we ha) (hA : ahH oC oR oL nW nK cy ls kO cA clmK pcK d ru gr tr akn ad aru agr atr atd ats) : q24 oC oR oL nW nK cy ls kO cA clmK pcK d ru gr tr (F_X9_doubts cy ls (nK : Int) clmK pcK (nW : Int) kO cA comers code spans d ru gr tr facts stack sd str sru sgr sA ar cars gaps known left leaves pr cr we ha ad aru agr atr atd ats akn p0) := by
  have hd := hB.1
  unfold F_X9_doubts
  rw [ik_x, lf_b_e]
  by_cases c0 : 0 ≤ p0 ∧ p0 < (nK : Int)
  · rw [if_pos c0, if_neg (show ¬ (1 : Int) = 0 from by decide)]
    by_cases c1 : tr (Int.toNat p0) = 0
    · rw [if_pos c1]
      exact ⟨hA, hS⟩
    · rw [if_neg c1, lo_sub (by omega) (by omega) (by omega) (by omega) (by omega) (by omega), lo_add (by omega) (by omega) (by omega) (by omega) (by omega) (by omega)]
      have hx := dou_run (p0 := p0) (m := (min 30 (999 - d + 1)).toNat) hP hL hB (by omega) (by omega) 32 1 akn ad aru agr sd sru sgr sA pr cr we ha atr facts stack cars gaps str known left leaves atd ats (by omega) (by omega) hS hA
      rw [show (((min 30 (999 - d + 1)).toNat : Nat) : Int) = min 30 (999 - d + 1) from by omega] at hx
      exact hx
  · rw [if_neg c0, if_pos rfl]
    exact ⟨hA, hS⟩
/-- the model's: now comes back -/
theorem pa_run : ∀ (f l : Nat) (a : Nat → Int), l ≤ 9 → 9 - l < f → (∀ j, j < l → a j = now j) → ∀ j, j < 9 → F_X10_putsAside_2 now f (l : Int) a j = now j := by
  intro f
  induction f with
  | zero => intro l a h1 h2; omega
  | succ f ih =>
    intro l a h1 h2 h3 j hj
    show F_X10_putsAside_2b now (F_X10_putsAside_2 now f) (l : Int) a j = now j
    unfold F_X10_putsAside_2b
    by_cases q : l = 9
    · rw [if_pos (by omega)]
      exact h3 j (by omega)
    · rw [if_neg (by omega), Int.toNat_natCast]
      refine ih (l + 1) _ (by omega) (by omega) (fun i hi => ?_) j hj
      by_cases y : i = l
      · rw [lf_up_y (by omega), y]
      · rw [lf_up_o (by omega)]
        exact h3 i (by omega)
theorem tb_run : ∀ (f l : Nat) (a : Nat → Int), l ≤ 9 → 9 - l < f → (∀ j, j < l → a j = asd j) → ∀ j, j < 9 → F_X10_takesBack_2 asd f (l : Int) a j = asd j := by
  intro f
  induction f with
  | zero => intro l a h1 h2; omega
  | succ f ih =>
    intro l a h1 h2 h3 j hj
    show F_X10_takesBack_2b asd (F_X10_takesBack_2 asd f) (l : Int) a j = asd j
    unfold F_X10_takesBack_2b
    by_cases q : l = 9
    · rw [if_pos (by omega)]
      exact h3 j (by omega)
    · rw [if_neg (by omega), Int.toNat_natCast]
      refine ih (l + 1) _ (by omega) (by omega) (fun i hi => ?_) j hj
      by_cases y : i = l
      · rw [lf_up_y (by omega), y]
      · rw [lf_up_o (by omega)]
        exact h3 i (by omega)
theorem nd_9 {now2 : Nat → Int} (hK : nK ≤ 6) (h : ndH nK d ru gr tr now) (e : ∀ j, j < 9 → now2 j = now j) : ndH nK d ru gr tr now2 := ⟨(e 0 (by decide)).trans h.1, (e 1 (by decide)).trans h.2.1, (e 2 (by decide)).trans h.2.2.1, fun k hk => by
  rw [e (3 + k) (by omega)]
  exact h.2.2.2 k hk⟩
end AH
