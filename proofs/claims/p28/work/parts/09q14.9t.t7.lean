section
/-! 9t -/
/-! all that is tied between the two programs, over every call -/
def crS (oC oR oL : Option (List Int)) (nW nK : Nat) (cy ls aw kx wx d ru gr hnx hct sd sru sgr sA ar pr cr we ha ad aru agr akn rws tkn cmp fnd frl fgr chs chl isc awM und nwst rmM : Int) (clmK pcK kO cA comers code spans tr rD rR rG str cars gaps known left leaves atr atd ats sw ss tab sec many bar kinds walkers cf ce codes now kept mrw : Nat → Int) (rF : Nat → Nat → Int) : Prop := kx = (nK : Int) ∧ wx = (nW : Int) ∧ plH nW nK cy ls oC oR kO cA clmK pcK comers code spans ar ∧ pmH nW nK cy ls oC oR oL kO cA clmK pcK many bar kinds walkers cf ce codes ∧ (cdX code spans 4 oL ∧ cdG false 123 oL) ∧ awM = aw ∧ stB nK d ru gr tr ∧ ndH nK d ru gr tr now ∧ hsH nK hnx hct rD rR rG rF nwst und kept ∧ sfH oC oR nW nK cy ls kO cA clmK pcK sd str sru sgr sA cars gaps known left leaves pr cr we ha ∧ isc = 1 ∧ rwH nW rws sw ss rmM mrw ∧ ahH oC oR oL nW nK cy ls kO cA clmK pcK d ru gr tr akn ad aru agr atr atd ats ∧ chH oC oR nW cy ls kO cA clmK pcK d tr tkn tab ∧ waH oC oR nW cy ls kO cA clmK pcK d tr rws sw ss cmp fnd frl fgr chs chl sec
def noS (cy kx wx isc d ru gr hct und hnx nwst rws rmM : Int) (many bar now : Nat → Int) : Prop := (cy = 0 ∧ kx = 0 ∧ wx = 0 ∧ isc = 0) ∧ (many 2 = 0 ∧ many 3 = 0 ∧ bar 4 = 0) ∧ (d = 0 ∧ ru = 0 ∧ gr = 0) ∧ (now 0 = 0 ∧ now 1 = 0 ∧ now 2 = 0) ∧ (hct = 0 ∧ und = 0 ∧ (0 ≤ hnx ∧ hnx ≤ 19) ∧ (0 ≤ nwst ∧ nwst ≤ 19)) ∧ rws = 0 ∧ rmM = 0
def coS (cy ls aw kx wx d ru gr hnx hct sd sru sgr sA ar pr cr we ha ad aru agr akn rws tkn cmp fnd frl fgr chs chl isc awM und nwst rmM : Int) (clmK pcK kO cA comers code spans tr rD rR rG str cars gaps known left leaves atr atd ats sw ss tab sec many bar kinds walkers cf ce codes now kept mrw : Nat → Int) (rF : Nat → Nat → Int) : Prop := noS cy kx wx isc d ru gr hct und hnx nwst rws rmM many bar now ∨ ∃ oC oR oL nW nK, crS oC oR oL nW nK cy ls aw kx wx d ru gr hnx hct sd sru sgr sA ar pr cr we ha ad aru agr akn rws tkn cmp fnd frl fgr chs chl isc awM und nwst rmM clmK pcK kO cA comers code spans tr rD rR rG str cars gaps known left leaves atr atd ats sw ss tab sec many bar kinds walkers cf ce codes now kept mrw rF
def T7 (cy ls aw kx wx d ru gr hnx hct sd sru sgr sA ar pr cr we ha ad aru agr akn rws occ dwn tkn cmp fnd frl fgr chs chl isc awM und nwst rmM moc sdd : Int) (clmK pcK kO cA comers code spans tr rD rR rG str cars gaps known left leaves atr atd ats sw ss oct refu tab sec many bar kinds walkers cf ce codes now kept mrw mo refM : Nat → Int) (rF : Nat → Nat → Int) : Prop := refu = refM ∧ (∃ s0 : Nat, s0 < 2147483648 ∧ dwn = (s0 : Int) ∧ sdd = (s0 : Int)) ∧ (occ = moc ∧ (0 ≤ occ ∧ occ ≤ 11) ∧ ∀ j : Nat, (j : Int) < occ → oct j = mo j) ∧ coS cy ls aw kx wx d ru gr hnx hct sd sru sgr sA ar pr cr we ha ad aru agr akn rws tkn cmp fnd frl fgr chs chl isc awM und nwst rmM clmK pcK kO cA comers code spans tr rD rR rG str cars gaps known left leaves atr atd ats sw ss tab sec many bar kinds walkers cf ce codes now kept mrw rF
theorem t7_light {cy ls kx wx d ru gr sd sru sgr sA ar pr cr we ha p0 r n_sd n_sru n_sgr n_sA n_pr n_cr n_we n_ha isc tk ask red io lg gt icg sg qp r2 n_tk n_ask n_red n_io n_lg n_gt n_icg n_sg n_qp aw hnx hct ad aru agr akn rws occ dwn tkn cmp fnd frl fgr chs chl awM und nwst rmM moc sdd : Int} {clmK pcK kO cA comers code spans tr facts stack str cars gaps known left leaves n_facts n_stack n_cars n_gaps n_str n_known n_left n_leaves many bar kinds walkers cf ce codes now isCar gapM isG isH crM wtM goM hmM prM ciM pile n_pile n_wtM n_gapM n_goM n_hmM n_isCar n_isH n_crM n_prM n_ciM n_isG rD rR rG atr atd ats sw ss oct refu tab sec kept mrw mo refM : Nat → Int} {rF : Nat → Nat → Int} (h : T7 cy ls aw kx wx d ru gr hnx hct sd sru sgr sA ar pr cr we ha ad aru agr akn rws occ dwn tkn cmp fnd frl fgr chs chl isc awM und nwst rmM moc sdd clmK pcK kO cA comers code spans tr rD rR rG str cars gaps known left leaves atr atd ats sw ss oct refu tab sec many bar kinds walkers cf ce codes now kept mrw mo refM rF) (hx : F_X9_light cy ls kx clmK pcK wx kO cA comers code spans d ru gr tr facts stack sd str sru sgr sA ar cars gaps known left leaves pr cr we ha p0 = (r, n_sd, n_sru, n_sgr, n_sA, n_pr, n_cr, n_we, n_ha, n_facts, n_stack, n_cars, n_gaps, n_str, n_known, n_left, n_leaves)) (hm : F_X10_light isc tk ask red io lg gt icg sg qp many bar kinds walkers cf ce codes now isCar gapM isG isH crM wtM goM hmM prM ciM pile p0 = (r2, n_tk, n_ask, n_red, n_io, n_lg, n_gt, n_icg, n_sg, n_qp, n_pile, n_wtM, n_gapM, n_goM, n_hmM, n_isCar, n_isH, n_crM, n_prM, n_ciM, n_isG)) : T7 cy ls aw kx wx d ru gr hnx hct n_sd n_sru n_sgr n_sA ar n_pr n_cr n_we n_ha ad aru agr akn rws occ dwn tkn cmp fnd frl fgr chs chl isc awM und nwst rmM moc sdd clmK pcK kO cA comers code spans tr rD rR rG n_str n_cars n_gaps n_known n_left n_leaves atr atd ats sw ss oct refu tab sec many bar kinds walkers cf ce codes now kept mrw mo refM rF ∧ r = r2 := by
  obtain ⟨hR, hD, hO, hC⟩ := h
  rcases hC with h0 | ⟨oC, oR, oL, nW, nK, rfl, rfl, hP, hM, hL, haw, hB, hN, hH, hS, hi, hW, hA, hCh, hWa⟩
  · obtain ⟨⟨z1, z2, z3, z4⟩, ⟨z5, z6, z7⟩, z8⟩ := h0
    have c : (F_X9_light cy ls kx clmK pcK wx kO cA comers code spans d ru gr tr facts stack sd str sru sgr sA ar cars gaps known left leaves pr cr we ha p0).1 = -1 := by
      unfold F_X9_light F_X9_light_18
      rw [st_0x z1, lf_b_e, if_pos rfl]
    have m : (F_X10_light isc tk ask red io lg gt icg sg qp many bar kinds walkers cf ce codes now isCar gapM isG isH crM wtM goM hmM prM ciM pile p0).1 = -1 := by
      unfold F_X10_light F_X10_light_19
      rw [if_pos z4]
    rw [hx] at c
    rw [hm] at m
    exact ⟨⟨hR, hD, hO, Or.inl ⟨⟨z1, z2, z3, z4⟩, ⟨z5, z6, z7⟩, z8⟩⟩, c.trans m.symm⟩
  · obtain ⟨c, cS⟩ := li_c (facts := facts) (stack := stack) (p0 := p0) hP hS hB
    have m := li_mm (tk := tk) (ask := ask) (red := red) (io := io) (lg := lg) (gt := gt) (icg := icg) (sg := sg) (qp := qp) (isCar := isCar) (gapM := gapM) (isG := isG) (isH := isH) (crM := crM) (wtM := wtM) (goM := goM) (hmM := hmM) (prM := prM) (ciM := ciM) (pile := pile) (p0 := p0) hP hM hB hN hi
    rw [hx] at c cS
    rw [hm] at m
    exact ⟨⟨hR, hD, hO, Or.inr ⟨oC, oR, oL, nW, nK, rfl, rfl, hP, hM, hL, haw, hB, hN, hH, cS, hi, hW, hA, hCh, hWa⟩⟩, c.trans m.symm⟩
theorem t7_car {cy ls kx wx d ru gr sd sru sgr sA ar pr cr we ha p0 r n_sd n_sru n_sgr n_sA n_pr n_cr n_we n_ha isc tk ask red qp r2 n_tk n_ask n_qp aw hnx hct ad aru agr akn rws occ dwn tkn cmp fnd frl fgr chs chl awM und nwst rmM moc sdd : Int} {clmK pcK kO cA comers code spans tr facts stack str cars gaps known left leaves n_facts n_stack n_cars n_gaps n_str n_known n_left n_leaves bar kinds walkers cf ce codes now isCar gapM wtM goM hmM pile n_pile n_gapM n_isCar rD rR rG atr atd ats sw ss oct refu tab sec many kept mrw mo refM : Nat → Int} {rF : Nat → Nat → Int} (h : T7 cy ls aw kx wx d ru gr hnx hct sd sru sgr sA ar pr cr we ha ad aru agr akn rws occ dwn tkn cmp fnd frl fgr chs chl isc awM und nwst rmM moc sdd clmK pcK kO cA comers code spans tr rD rR rG str cars gaps known left leaves atr atd ats sw ss oct refu tab sec many bar kinds walkers cf ce codes now kept mrw mo refM rF) (hx : F_X9_car cy ls kx clmK pcK wx kO cA comers code spans d ru gr tr facts stack sd str sru sgr sA ar cars gaps known left leaves pr cr we ha p0 = (r, n_sd, n_sru, n_sgr, n_sA, n_pr, n_cr, n_we, n_ha, n_facts, n_stack, n_cars, n_gaps, n_str, n_known, n_left, n_leaves)) (hm : F_X10_car isc tk ask red qp bar kinds walkers cf ce codes now isCar gapM wtM goM hmM pile p0 = (r2, n_tk, n_ask, n_qp, n_pile, n_gapM, n_isCar)) : T7 cy ls aw kx wx d ru gr hnx hct n_sd n_sru n_sgr n_sA ar n_pr n_cr n_we n_ha ad aru agr akn rws occ dwn tkn cmp fnd frl fgr chs chl isc awM und nwst rmM moc sdd clmK pcK kO cA comers code spans tr rD rR rG n_str n_cars n_gaps n_known n_left n_leaves atr atd ats sw ss oct refu tab sec many bar kinds walkers cf ce codes now kept mrw mo refM rF ∧ r = r2 := by
  obtain ⟨hR, hD, hO, hC⟩ := h
  rcases hC with h0 | ⟨oC, oR, oL, nW, nK, rfl, rfl, hP, hM, hL, haw, hB, hN, hH, hS, hi, hW, hA, hCh, hWa⟩
  · obtain ⟨⟨z1, z2, z3, z4⟩, ⟨z5, z6, z7⟩, z8⟩ := h0
    have c : (F_X9_car cy ls kx clmK pcK wx kO cA comers code spans d ru gr tr facts stack sd str sru sgr sA ar cars gaps known left leaves pr cr we ha p0).1 = -1 := by
      unfold F_X9_car F_X9_car_18
      rw [st_0x z1, lf_b_e, if_pos rfl]
    have m : (F_X10_car isc tk ask red qp bar kinds walkers cf ce codes now isCar gapM wtM goM hmM pile p0).1 = -1 := by
      unfold F_X10_car F_X10_car_19
      rw [if_pos z4]
    rw [hx] at c
    rw [hm] at m
    exact ⟨⟨hR, hD, hO, Or.inl ⟨⟨z1, z2, z3, z4⟩, ⟨z5, z6, z7⟩, z8⟩⟩, c.trans m.symm⟩
  · obtain ⟨c, cS⟩ := ca_c (facts := facts) (stack := stack) (p0 := p0) hP hS hB
    have m := ca_mm (tk := tk) (ask := ask) (red := red) (qp := qp) (isCar := isCar) (gapM := gapM) (wtM := wtM) (goM := goM) (hmM := hmM) (pile := pile) (p0 := p0) hP hM hB hN hi
    rw [hx] at c cS
    rw [hm] at m
    exact ⟨⟨hR, hD, hO, Or.inr ⟨oC, oR, oL, nW, nK, rfl, rfl, hP, hM, hL, haw, hB, hN, hH, cS, hi, hW, hA, hCh, hWa⟩⟩, c.trans m.symm⟩
theorem t7_day {cy ls kx wx d ru gr sd sru sgr sA ar pr cr we ha p0 r n_sd n_sru n_sgr n_sA n_pr n_cr n_we n_ha isc tk ask red io lg gt icg sg qp r2 n_tk n_ask n_red n_io n_lg n_gt n_icg n_sg n_qp aw hnx hct ad aru agr akn rws occ dwn tkn cmp fnd frl fgr chs chl awM und nwst rmM moc sdd : Int} {clmK pcK kO cA comers code spans tr facts stack str cars gaps known left leaves n_facts n_stack n_cars n_gaps n_str n_known n_left n_leaves many bar kinds walkers cf ce codes now isCar gapM isG isH crM wtM goM hmM prM ciM pile n_pile n_wtM n_gapM n_goM n_hmM n_isCar n_isH n_crM n_prM n_ciM n_isG rD rR rG atr atd ats sw ss oct refu tab sec kept mrw mo refM : Nat → Int} {rF : Nat → Nat → Int} (h : T7 cy ls aw kx wx d ru gr hnx hct sd sru sgr sA ar pr cr we ha ad aru agr akn rws occ dwn tkn cmp fnd frl fgr chs chl isc awM und nwst rmM moc sdd clmK pcK kO cA comers code spans tr rD rR rG str cars gaps known left leaves atr atd ats sw ss oct refu tab sec many bar kinds walkers cf ce codes now kept mrw mo refM rF) (hx : F_X9_day cy ls kx clmK pcK wx kO cA comers code spans d ru gr tr facts stack sd str sru sgr sA ar cars gaps known left leaves pr cr we ha p0 = (r, n_sd, n_sru, n_sgr, n_sA, n_pr, n_cr, n_we, n_ha, n_facts, n_stack, n_cars, n_gaps, n_str, n_known, n_left, n_leaves)) (hm : F_X10_day isc tk ask red io lg gt icg sg qp many bar kinds walkers cf ce codes now isCar gapM isG isH crM wtM goM hmM prM ciM pile p0 = (r2, n_tk, n_ask, n_red, n_io, n_lg, n_gt, n_icg, n_sg, n_qp, n_pile, n_wtM, n_gapM, n_goM, n_hmM, n_isCar, n_isH, n_crM, n_prM, n_ciM, n_isG)) : T7 cy ls aw kx wx d ru gr hnx hct n_sd n_sru n_sgr n_sA ar n_pr n_cr n_we n_ha ad aru agr akn rws occ dwn tkn cmp fnd frl fgr chs chl isc awM und nwst rmM moc sdd clmK pcK kO cA comers code spans tr rD rR rG n_str n_cars n_gaps n_known n_left n_leaves atr atd ats sw ss oct refu tab sec many bar kinds walkers cf ce codes now kept mrw mo refM rF ∧ r = r2 := by
  obtain ⟨hR, hD, hO, hC⟩ := h
  rcases hC with h0 | ⟨oC, oR, oL, nW, nK, rfl, rfl, hP, hM, hL, haw, hB, hN, hH, hS, hi, hW, hA, hCh, hWa⟩
  · obtain ⟨⟨z1, z2, z3, z4⟩, ⟨z5, z6, z7⟩, z8⟩ := h0
    have c : (F_X9_day cy ls kx clmK pcK wx kO cA comers code spans d ru gr tr facts stack sd str sru sgr sA ar cars gaps known left leaves pr cr we ha p0).1 = -1 := by
      unfold F_X9_day 
      rw [st_0x z1, lf_b_e, if_pos rfl]
    have m : (F_X10_day isc tk ask red io lg gt icg sg qp many bar kinds walkers cf ce codes now isCar gapM isG isH crM wtM goM hmM prM ciM pile p0).1 = -1 := by
      unfold F_X10_day F_X10_day_19
      rw [if_pos z4]
    rw [hx] at c
    rw [hm] at m
    exact ⟨⟨hR, hD, hO, Or.inl ⟨⟨z1, z2, z3, z4⟩, ⟨z5, z6, z7⟩, z8⟩⟩, c.trans m.symm⟩
  · obtain ⟨c, cS⟩ := da_c (facts := facts) (stack := stack) (p0 := p0) hP hS hB
    have m := da_mm (tk := tk) (ask := ask) (red := red) (io := io) (lg := lg) (gt := gt) (icg := icg) (sg := sg) (qp := qp) (isCar := isCar) (gapM := gapM) (isG := isG) (isH := isH) (crM := crM) (wtM := wtM) (goM := goM) (hmM := hmM) (prM := prM) (ciM := ciM) (pile := pile) (p0 := p0) hP hM hB hN hi
    rw [hx] at c cS
    rw [hm] at m
    exact ⟨⟨hR, hD, hO, Or.inr ⟨oC, oR, oL, nW, nK, rfl, rfl, hP, hM, hL, haw, hB, hN, hH, cS, hi, hW, hA, hCh, hWa⟩⟩, c.trans m.symm⟩
theorem t7_least {cy ls kx wx d ru sd sru sgr sA ar pr cr we ha r n_sd n_sru n_sgr n_sA n_pr n_cr n_we n_ha isc tk ask red io lg gt icg sg qp r2 n_tk n_ask n_red n_io n_lg n_gt n_icg n_sg n_qp aw gr hnx hct ad aru agr akn rws occ dwn tkn cmp fnd frl fgr chs chl awM und nwst rmM moc sdd : Int} {clmK pcK kO cA comers code spans tr facts stack str cars gaps known left leaves n_facts n_stack n_cars n_gaps n_str n_known n_left n_leaves many bar kinds walkers cf ce codes now isCar gapM isG isH crM wtM goM hmM prM ciM pile n_pile n_wtM n_gapM n_goM n_hmM n_isCar n_isH n_crM n_prM n_ciM n_isG rD rR rG atr atd ats sw ss oct refu tab sec kept mrw mo refM : Nat → Int} {rF : Nat → Nat → Int} (h : T7 cy ls aw kx wx d ru gr hnx hct sd sru sgr sA ar pr cr we ha ad aru agr akn rws occ dwn tkn cmp fnd frl fgr chs chl isc awM und nwst rmM moc sdd clmK pcK kO cA comers code spans tr rD rR rG str cars gaps known left leaves atr atd ats sw ss oct refu tab sec many bar kinds walkers cf ce codes now kept mrw mo refM rF) (hx : F_X9_least cy ls kx clmK pcK wx kO cA comers code spans d ru tr facts stack sd str sru sgr sA ar cars gaps known left leaves pr cr we ha = (r, n_sd, n_sru, n_sgr, n_sA, n_pr, n_cr, n_we, n_ha, n_facts, n_stack, n_cars, n_gaps, n_str, n_known, n_left, n_leaves)) (hm : F_X10_least isc tk ask red io lg gt icg sg qp many bar kinds walkers cf ce codes now isCar gapM isG isH crM wtM goM hmM prM ciM pile = (r2, n_tk, n_ask, n_red, n_io, n_lg, n_gt, n_icg, n_sg, n_qp, n_pile, n_wtM, n_gapM, n_goM, n_hmM, n_isCar, n_isH, n_crM, n_prM, n_ciM, n_isG)) : T7 cy ls aw kx wx d ru gr hnx hct n_sd n_sru n_sgr n_sA ar n_pr n_cr n_we n_ha ad aru agr akn rws occ dwn tkn cmp fnd frl fgr chs chl isc awM und nwst rmM moc sdd clmK pcK kO cA comers code spans tr rD rR rG n_str n_cars n_gaps n_known n_left n_leaves atr atd ats sw ss oct refu tab sec many bar kinds walkers cf ce codes now kept mrw mo refM rF ∧ r = r2 := by
  obtain ⟨hR, hD, hO, hC⟩ := h
  rcases hC with h0 | ⟨oC, oR, oL, nW, nK, rfl, rfl, hP, hM, hL, haw, hB, hN, hH, hS, hi, hW, hA, hCh, hWa⟩
  · obtain ⟨⟨z1, z2, z3, z4⟩, ⟨z5, z6, z7⟩, z8⟩ := h0
    have c : (F_X9_least cy ls kx clmK pcK wx kO cA comers code spans d ru tr facts stack sd str sru sgr sA ar cars gaps known left leaves pr cr we ha).1 = -1 := by
      unfold F_X9_least 
      rw [st_0x z1, lf_b_e, if_pos rfl]
    have m : (F_X10_least isc tk ask red io lg gt icg sg qp many bar kinds walkers cf ce codes now isCar gapM isG isH crM wtM goM hmM prM ciM pile).1 = -1 := by
      unfold F_X10_least 
      rw [if_pos z4]
    rw [hx] at c
    rw [hm] at m
    exact ⟨⟨hR, hD, hO, Or.inl ⟨⟨z1, z2, z3, z4⟩, ⟨z5, z6, z7⟩, z8⟩⟩, c.trans m.symm⟩
  · obtain ⟨c, cS⟩ := ls_c (facts := facts) (stack := stack) hP hS hB
    have m := ls_mm (tk := tk) (ask := ask) (red := red) (io := io) (lg := lg) (gt := gt) (icg := icg) (sg := sg) (qp := qp) (isCar := isCar) (gapM := gapM) (isG := isG) (isH := isH) (crM := crM) (wtM := wtM) (goM := goM) (hmM := hmM) (prM := prM) (ciM := ciM) (pile := pile) hP hM hB hN hi
    rw [hx] at c cS
    rw [hm] at m
    exact ⟨⟨hR, hD, hO, Or.inr ⟨oC, oR, oL, nW, nK, rfl, rfl, hP, hM, hL, haw, hB, hN, hH, cS, hi, hW, hA, hCh, hWa⟩⟩, c.trans m.symm⟩
theorem t7_walker {cy ls kx wx d ru gr sd sru sgr sA ar pr cr we ha p0 p1 r n_sd n_sru n_sgr n_sA n_pr n_cr n_we n_ha tk ask red io lg gt icg sg qp r2 n_tk n_ask n_red n_io n_lg n_gt n_icg n_sg n_qp aw hnx hct ad aru agr akn rws occ dwn tkn cmp fnd frl fgr chs chl isc awM und nwst rmM moc sdd : Int} {clmK pcK kO cA comers code spans tr facts stack str cars gaps known left leaves n_facts n_stack n_cars n_gaps n_str n_known n_left n_leaves many bar kinds walkers cf ce codes now isCar gapM isG isH crM wtM goM hmM prM ciM pile n_pile n_wtM n_gapM n_goM n_hmM n_isCar n_isH n_crM n_prM n_ciM n_isG rD rR rG atr atd ats sw ss oct refu tab sec kept mrw mo refM : Nat → Int} {rF : Nat → Nat → Int} (h : T7 cy ls aw kx wx d ru gr hnx hct sd sru sgr sA ar pr cr we ha ad aru agr akn rws occ dwn tkn cmp fnd frl fgr chs chl isc awM und nwst rmM moc sdd clmK pcK kO cA comers code spans tr rD rR rG str cars gaps known left leaves atr atd ats sw ss oct refu tab sec many bar kinds walkers cf ce codes now kept mrw mo refM rF) (hx : F_X9_walker cy ls kx clmK pcK wx kO cA comers code spans d ru gr tr facts stack sd str sru sgr sA ar cars gaps known left leaves pr cr we ha p0 p1 = (r, n_sd, n_sru, n_sgr, n_sA, n_pr, n_cr, n_we, n_ha, n_facts, n_stack, n_cars, n_gaps, n_str, n_known, n_left, n_leaves)) (hm : F_X10_walker tk ask red io lg gt icg sg qp many bar kinds walkers cf ce codes now isCar gapM isG isH crM wtM goM hmM prM ciM pile p0 p1 = (r2, n_tk, n_ask, n_red, n_io, n_lg, n_gt, n_icg, n_sg, n_qp, n_pile, n_wtM, n_gapM, n_goM, n_hmM, n_isCar, n_isH, n_crM, n_prM, n_ciM, n_isG)) : T7 cy ls aw kx wx d ru gr hnx hct n_sd n_sru n_sgr n_sA ar n_pr n_cr n_we n_ha ad aru agr akn rws occ dwn tkn cmp fnd frl fgr chs chl isc awM und nwst rmM moc sdd clmK pcK kO cA comers code spans tr rD rR rG n_str n_cars n_gaps n_known n_left n_leaves atr atd ats sw ss oct refu tab sec many bar kinds walkers cf ce codes now kept mrw mo refM rF ∧ r = r2 := by
  obtain ⟨hR, hD, hO, hC⟩ := h
  rcases hC with h0 | ⟨oC, oR, oL, nW, nK, rfl, rfl, hP, hM, hL, haw, hB, hN, hH, hS, hi, hW, hA, hCh, hWa⟩
  · obtain ⟨⟨z1, z2, z3, z4⟩, ⟨z5, z6, z7⟩, z8⟩ := h0
    have c : (F_X9_walker cy ls kx clmK pcK wx kO cA comers code spans d ru gr tr facts stack sd str sru sgr sA ar cars gaps known left leaves pr cr we ha p0 p1).1 = -1 := by
      have e : F_X9_isWalker wx p0 = 0 := by
        have q := iw_x (nW := 0) (p0 := p0)
        rw [if_neg (by omega)] at q
        rw [z3]
        exact q
      unfold F_X9_walker
      rw [e, lf_b_e, if_pos rfl]
    have m : (F_X10_walker tk ask red io lg gt icg sg qp many bar kinds walkers cf ce codes now isCar gapM isG isH crM wtM goM hmM prM ciM pile p0 p1).1 = -1 := by
      have e := iw_m (nW := 0) (p0 := p0) z6
      rw [if_neg (by omega)] at e
      unfold F_X10_walker
      rw [e, lf_b_e, if_pos rfl]
    rw [hx] at c
    rw [hm] at m
    exact ⟨⟨hR, hD, hO, Or.inl ⟨⟨z1, z2, z3, z4⟩, ⟨z5, z6, z7⟩, z8⟩⟩, c.trans m.symm⟩
  · obtain ⟨c, cS⟩ := wa_cx (facts := facts) (stack := stack) (p0 := p0) (p1 := p1) hP hS hB
    have m := wa_mx (tk := tk) (ask := ask) (red := red) (io := io) (lg := lg) (gt := gt) (icg := icg) (sg := sg) (qp := qp) (isCar := isCar) (gapM := gapM) (isG := isG) (isH := isH) (crM := crM) (wtM := wtM) (goM := goM) (hmM := hmM) (prM := prM) (ciM := ciM) (pile := pile) (p0 := p0) (p1 := p1) hP hM hB hN
    rw [hx] at c cS
    rw [hm] at m
    exact ⟨⟨hR, hD, hO, Or.inr ⟨oC, oR, oL, nW, nK, rfl, rfl, hP, hM, hL, haw, hB, hN, hH, cS, hi, hW, hA, hCh, hWa⟩⟩, c.trans m.symm⟩
theorem t7_kind {kx wx p0 p1 r r2 cy ls aw d ru gr hnx hct sd sru sgr sA ar pr cr we ha ad aru agr akn rws occ dwn tkn cmp fnd frl fgr chs chl isc awM und nwst rmM moc sdd : Int} {clmK pcK kO tr many kinds walkers now cA comers code spans rD rR rG str cars gaps known left leaves atr atd ats sw ss oct refu tab sec bar cf ce codes kept mrw mo refM : Nat → Int} {rF : Nat → Nat → Int} (h : T7 cy ls aw kx wx d ru gr hnx hct sd sru sgr sA ar pr cr we ha ad aru agr akn rws occ dwn tkn cmp fnd frl fgr chs chl isc awM und nwst rmM moc sdd clmK pcK kO cA comers code spans tr rD rR rG str cars gaps known left leaves atr atd ats sw ss oct refu tab sec many bar kinds walkers cf ce codes now kept mrw mo refM rF) (hx : F_X9_kind kx clmK pcK wx kO tr p0 p1 = r) (hm : F_X10_kind many kinds walkers now p0 p1 = r2) : T7 cy ls aw kx wx d ru gr hnx hct sd sru sgr sA ar pr cr we ha ad aru agr akn rws occ dwn tkn cmp fnd frl fgr chs chl isc awM und nwst rmM moc sdd clmK pcK kO cA comers code spans tr rD rR rG str cars gaps known left leaves atr atd ats sw ss oct refu tab sec many bar kinds walkers cf ce codes now kept mrw mo refM rF ∧ r = r2 := by
  obtain ⟨hR, hD, hO, hC⟩ := h
  rcases hC with h0 | ⟨oC, oR, oL, nW, nK, rfl, rfl, hP, hM, hL, haw, hB, hN, hH, hS, hi, hW, hA, hCh, hWa⟩
  · obtain ⟨⟨z1, z2, z3, z4⟩, ⟨z5, z6, z7⟩, z8⟩ := h0
    refine ⟨⟨hR, hD, hO, Or.inl ⟨⟨z1, z2, z3, z4⟩, ⟨z5, z6, z7⟩, z8⟩⟩, ?_⟩
    have c : F_X9_isKind kx p0 = 0 := by
      have q := ik_x (nK := 0) (p0 := p0)
      rw [if_neg (by omega)] at q
      rw [z2]
      exact q
    have m := ik_m (nK := 0) (p0 := p0) z5
    rw [if_neg (by omega)] at m
    rw [← hx, ← hm]
    unfold F_X9_kind F_X10_kind
    rw [c, m, lf_b_e, if_pos rfl, lf_b_e, if_pos rfl]
  · refine ⟨⟨hR, hD, hO, Or.inr ⟨oC, oR, oL, nW, nK, rfl, rfl, hP, hM, hL, haw, hB, hN, hH, hS, hi, hW, hA, hCh, hWa⟩⟩, ?_⟩
    rw [← hx, ← hm, kd_c hP.1, kd_m hP.1 hM hN]
theorem has_eq {cy kx wx d ru gr hct rws p0 r rmM und r2 : Int} {many bar now : Nat → Int} (hx : F_X9_has cy kx wx d ru gr hct rws p0 = r) (hm : F_X10_has rmM und many bar now p0 = r2) (e0 : cy = bar 4) (e1 : kx = many 2) (e2 : wx = many 3) (e3 : d = now 0) (e4 : ru = now 1) (e5 : gr = now 2) (e6 : hct = und) (e7 : rws = rmM) : r = r2 := by
  rw [← hx, ← hm]
  unfold F_X9_has F_X10_has F_X10_has_65 F_X10_kindMany F_X10_walkerMany
  rw [e0, e1, e2, e3, e4, e5, e6, e7]
  by_cases c0 : p0 = 0
  · rw [if_pos c0, if_pos c0]
  rw [if_neg c0, if_neg c0]
  by_cases c1 : p0 = 1
  · rw [if_pos c1, if_pos c1, lf_b_e]
  rw [if_neg c1, if_neg c1]
  by_cases c2 : p0 = 2
  · rw [if_pos c2, if_pos c2, lf_b_e]
  rw [if_neg c2, if_neg c2]
  by_cases c3 : p0 = 3
  · rw [if_pos c3, if_pos c3, c3]
    rfl
  rw [if_neg c3, if_neg c3]
  by_cases c4 : p0 = 4
  · rw [if_pos c4, if_pos c4, c4]
    rfl
  rw [if_neg c4, if_neg c4]
  by_cases c5 : p0 = 5
  · rw [if_pos c5, if_pos c5, c5]
    rfl
  rw [if_neg c5, if_neg c5]
theorem t7_has {cy kx wx d ru gr hct rws p0 r rmM und r2 ls aw hnx sd sru sgr sA ar pr cr we ha ad aru agr akn occ dwn tkn cmp fnd frl fgr chs chl isc awM nwst moc sdd : Int} {many bar now clmK pcK kO cA comers code spans tr rD rR rG str cars gaps known left leaves atr atd ats sw ss oct refu tab sec kinds walkers cf ce codes kept mrw mo refM : Nat → Int} {rF : Nat → Nat → Int} (h : T7 cy ls aw kx wx d ru gr hnx hct sd sru sgr sA ar pr cr we ha ad aru agr akn rws occ dwn tkn cmp fnd frl fgr chs chl isc awM und nwst rmM moc sdd clmK pcK kO cA comers code spans tr rD rR rG str cars gaps known left leaves atr atd ats sw ss oct refu tab sec many bar kinds walkers cf ce codes now kept mrw mo refM rF) (hx : F_X9_has cy kx wx d ru gr hct rws p0 = r) (hm : F_X10_has rmM und many bar now p0 = r2) : T7 cy ls aw kx wx d ru gr hnx hct sd sru sgr sA ar pr cr we ha ad aru agr akn rws occ dwn tkn cmp fnd frl fgr chs chl isc awM und nwst rmM moc sdd clmK pcK kO cA comers code spans tr rD rR rG str cars gaps known left leaves atr atd ats sw ss oct refu tab sec many bar kinds walkers cf ce codes now kept mrw mo refM rF ∧ r = r2 := by
  obtain ⟨hR, hD, hO, hC⟩ := h
  rcases hC with h0 | ⟨oC, oR, oL, nW, nK, rfl, rfl, hP, hM, hL, haw, hB, hN, hH, hS, hi, hW, hA, hCh, hWa⟩
  · obtain ⟨⟨z1, z2, z3, z4⟩, ⟨z5, z6, z7⟩, ⟨y1, y2, y3⟩, ⟨y4, y5, y6⟩, ⟨x1, x2, x3, x4⟩, w1, w2⟩ := h0
    refine ⟨⟨hR, hD, hO, Or.inl ⟨⟨z1, z2, z3, z4⟩, ⟨z5, z6, z7⟩, ⟨y1, y2, y3⟩, ⟨y4, y5, y6⟩, ⟨x1, x2, x3, x4⟩, w1, w2⟩⟩, ?_⟩
    exact has_eq hx hm (z1.trans z7.symm) (z2.trans z5.symm) (z3.trans z6.symm) (y1.trans y4.symm) (y2.trans y5.symm) (y3.trans y6.symm) (x1.trans x2.symm) (w1.trans w2.symm)
  · refine ⟨⟨hR, hD, hO, Or.inr ⟨oC, oR, oL, nW, nK, rfl, rfl, hP, hM, hL, haw, hB, hN, hH, hS, hi, hW, hA, hCh, hWa⟩⟩, ?_⟩
    exact has_eq hx hm hM.2.2.1.symm hM.2.1.symm hM.1.symm hN.1.symm hN.2.1.symm hN.2.2.1.symm hH.1.2.2.1 hW.1
theorem t7_hold {cy ls kx wx d ru gr sd sru sgr sA ar pr cr we ha r n_sd n_sru n_sgr n_sA n_pr n_cr n_we n_ha isc tk ask red io lg gt icg sg qp r2 n_tk n_ask n_red n_io n_lg n_gt n_icg n_sg n_qp aw hnx hct ad aru agr akn rws occ dwn tkn cmp fnd frl fgr chs chl awM und nwst rmM moc sdd : Int} {clmK pcK kO cA comers code spans tr facts stack str cars gaps known left leaves n_facts n_stack n_cars n_gaps n_str n_known n_left n_leaves many bar kinds walkers cf ce codes now isCar gapM isG isH crM wtM goM hmM prM ciM pile n_pile n_wtM n_gapM n_goM n_hmM n_isCar n_isH n_crM n_prM n_ciM n_isG rD rR rG atr atd ats sw ss oct refu tab sec kept mrw mo refM : Nat → Int} {rF : Nat → Nat → Int} (h : T7 cy ls aw kx wx d ru gr hnx hct sd sru sgr sA ar pr cr we ha ad aru agr akn rws occ dwn tkn cmp fnd frl fgr chs chl isc awM und nwst rmM moc sdd clmK pcK kO cA comers code spans tr rD rR rG str cars gaps known left leaves atr atd ats sw ss oct refu tab sec many bar kinds walkers cf ce codes now kept mrw mo refM rF) (hx : F_X9_hold cy ls kx clmK pcK wx kO cA comers code spans d ru gr tr facts stack sd str sru sgr sA ar cars gaps known left leaves pr cr we ha = (r, n_sd, n_sru, n_sgr, n_sA, n_pr, n_cr, n_we, n_ha, n_facts, n_stack, n_cars, n_gaps, n_str, n_known, n_left, n_leaves)) (hm : F_X10_hold isc tk ask red io lg gt icg sg qp many bar kinds walkers cf ce codes now isCar gapM isG isH crM wtM goM hmM prM ciM pile = (r2, n_tk, n_ask, n_red, n_io, n_lg, n_gt, n_icg, n_sg, n_qp, n_pile, n_wtM, n_gapM, n_goM, n_hmM, n_isCar, n_isH, n_crM, n_prM, n_ciM, n_isG)) : T7 cy ls aw kx wx d ru gr hnx hct n_sd n_sru n_sgr n_sA ar n_pr n_cr n_we n_ha ad aru agr akn rws occ dwn tkn cmp fnd frl fgr chs chl isc awM und nwst rmM moc sdd clmK pcK kO cA comers code spans tr rD rR rG n_str n_cars n_gaps n_known n_left n_leaves atr atd ats sw ss oct refu tab sec many bar kinds walkers cf ce codes now kept mrw mo refM rF ∧ r = r2 := by
  obtain ⟨hR, hD, hO, hC⟩ := h
  rcases hC with h0 | ⟨oC, oR, oL, nW, nK, rfl, rfl, hP, hM, hL, haw, hB, hN, hH, hS, hi, hW, hA, hCh, hWa⟩
  · obtain ⟨⟨z1, z2, z3, z4⟩, zz⟩ := h0
    have c : (F_X9_hold cy ls kx clmK pcK wx kO cA comers code spans d ru gr tr facts stack sd str sru sgr sA ar cars gaps known left leaves pr cr we ha).1 = -1 := by
      unfold F_X9_hold
      rw [st_0x z1, lf_b_e, if_pos rfl]
    have m : (F_X10_hold isc tk ask red io lg gt icg sg qp many bar kinds walkers cf ce codes now isCar gapM isG isH crM wtM goM hmM prM ciM pile).1 = -1 := by
      unfold F_X10_hold
      rw [if_pos z4]
    rw [hx] at c
    rw [hm] at m
    exact ⟨⟨hR, hD, hO, Or.inl ⟨⟨z1, z2, z3, z4⟩, zz⟩⟩, c.trans m.symm⟩
  · obtain ⟨c, cS⟩ := ho_t (facts := facts) (stack := stack) (tk := tk) (ask := ask) (red := red) (io := io) (lg := lg) (gt := gt) (icg := icg) (sg := sg) (qp := qp) (isCar := isCar) (gapM := gapM) (isG := isG) (isH := isH) (crM := crM) (wtM := wtM) (goM := goM) (hmM := hmM) (prM := prM) (ciM := ciM) (pile := pile) hP hM hS hB hN hi
    rw [hx, hm] at c
    rw [hx] at cS
    exact ⟨⟨hR, hD, hO, Or.inr ⟨oC, oR, oL, nW, nK, rfl, rfl, hP, hM, hL, haw, hB, hN, hH, cS, hi, hW, hA, hCh, hWa⟩⟩, c⟩
theorem t7_best {cy ls kx wx d sd sru sgr sA ar pr cr we ha tkn p0 p1 r n_tkn n_sd n_sru n_sgr n_sA n_pr n_cr n_we n_ha isc tk ask red io lg gt icg sg qp r2 n_tk n_ask n_red n_io n_lg n_gt n_icg n_sg n_qp aw ru gr hnx hct ad aru agr akn rws occ dwn cmp fnd frl fgr chs chl awM und nwst rmM moc sdd : Int} {clmK pcK kO cA comers code spans tr facts stack str cars gaps known left leaves tab n_tab n_facts n_stack n_cars n_gaps n_str n_known n_left n_leaves many bar kinds walkers cf ce codes now isCar gapM isG isH crM wtM goM hmM prM ciM pile n_pile n_wtM n_gapM n_goM n_hmM n_isCar n_isH n_crM n_prM n_ciM n_isG rD rR rG atr atd ats sw ss oct refu sec kept mrw mo refM : Nat → Int} {rF : Nat → Nat → Int} (h : T7 cy ls aw kx wx d ru gr hnx hct sd sru sgr sA ar pr cr we ha ad aru agr akn rws occ dwn tkn cmp fnd frl fgr chs chl isc awM und nwst rmM moc sdd clmK pcK kO cA comers code spans tr rD rR rG str cars gaps known left leaves atr atd ats sw ss oct refu tab sec many bar kinds walkers cf ce codes now kept mrw mo refM rF) (hx : F_X9_best cy ls kx clmK pcK wx kO cA comers code spans d tr facts stack sd str sru sgr sA ar cars gaps known left leaves pr cr we ha tab tkn p0 p1 = (r, n_tkn, n_tab, n_sd, n_sru, n_sgr, n_sA, n_pr, n_cr, n_we, n_ha, n_facts, n_stack, n_cars, n_gaps, n_str, n_known, n_left, n_leaves)) (hm : F_X10_best isc tk ask red io lg gt icg sg qp many bar kinds walkers cf ce codes now isCar gapM isG isH crM wtM goM hmM prM ciM pile p0 p1 = (r2, n_tk, n_ask, n_red, n_io, n_lg, n_gt, n_icg, n_sg, n_qp, n_pile, n_wtM, n_gapM, n_goM, n_hmM, n_isCar, n_isH, n_crM, n_prM, n_ciM, n_isG)) : T7 cy ls aw kx wx d ru gr hnx hct n_sd n_sru n_sgr n_sA ar n_pr n_cr n_we n_ha ad aru agr akn rws occ dwn n_tkn cmp fnd frl fgr chs chl isc awM und nwst rmM moc sdd clmK pcK kO cA comers code spans tr rD rR rG n_str n_cars n_gaps n_known n_left n_leaves atr atd ats sw ss oct refu n_tab sec many bar kinds walkers cf ce codes now kept mrw mo refM rF ∧ r = r2 := by
  obtain ⟨hR, hD, hO, hC⟩ := h
  rcases hC with h0 | ⟨oC, oR, oL, nW, nK, rfl, rfl, hP, hM, hL, haw, hB, hN, hH, hS, hi, hW, hA, hCh, hWa⟩
  · obtain ⟨⟨z1, z2, z3, z4⟩, zz⟩ := h0
    have c : (F_X9_best cy ls kx clmK pcK wx kO cA comers code spans d tr facts stack sd str sru sgr sA ar cars gaps known left leaves pr cr we ha tab tkn p0 p1).1 = -1 := by
      unfold F_X9_best F_X9_best_26
      rw [st_0x z1, lf_b_e, if_pos rfl]
    have m : (F_X10_best isc tk ask red io lg gt icg sg qp many bar kinds walkers cf ce codes now isCar gapM isG isH crM wtM goM hmM prM ciM pile p0 p1).1 = -1 := by
      unfold F_X10_best F_X10_best_31
      rw [if_pos z4]
    rw [hx] at c
    rw [hm] at m
    exact ⟨⟨hR, hD, hO, Or.inl ⟨⟨z1, z2, z3, z4⟩, zz⟩⟩, c.trans m.symm⟩
  · obtain ⟨c, cC, cS⟩ := be_cx (facts := facts) (stack := stack) (p0 := p0) (p1 := p1) hP hS hB hCh
    have m := be_mx (tk := tk) (ask := ask) (red := red) (io := io) (lg := lg) (gt := gt) (icg := icg) (sg := sg) (qp := qp) (isCar := isCar) (gapM := gapM) (isG := isG) (isH := isH) (crM := crM) (wtM := wtM) (goM := goM) (hmM := hmM) (prM := prM) (ciM := ciM) (pile := pile) (p0 := p0) (p1 := p1) hP hM hB hN hi
    rw [hx] at c cC cS
    rw [hm] at m
    exact ⟨⟨hR, hD, hO, Or.inr ⟨oC, oR, oL, nW, nK, rfl, rfl, hP, hM, hL, haw, hB, hN, hH, cS, hi, hW, hA, cC, hWa⟩⟩, c.trans m.symm⟩
theorem t7_fits {cy ls kx wx d sd sru sgr sA ar pr cr we ha rws cmp fnd frl fgr chs chl p0 r n_cmp n_fnd n_frl n_fgr n_chs n_chl n_sd n_sru n_sgr n_sA n_pr n_cr n_we n_ha isc tk ask red io lg gt icg sg rmM ftm ftr ftg qp r2 n_tk n_ask n_red n_io n_lg n_gt n_icg n_sg n_ftm n_ftr n_ftg n_qp aw ru gr hnx hct ad aru agr akn occ dwn tkn awM und nwst moc sdd : Int} {clmK pcK kO cA comers code spans tr facts stack str cars gaps known left leaves sw ss sec n_sec n_facts n_stack n_cars n_gaps n_str n_known n_left n_leaves many bar kinds walkers cf ce codes now isCar gapM isG isH crM wtM goM hmM prM ciM mrw whn pile n_pile n_wtM n_gapM n_goM n_hmM n_isCar n_isH n_crM n_prM n_ciM n_isG n_whn rD rR rG atr atd ats oct refu tab kept mo refM : Nat → Int} {rF : Nat → Nat → Int} (h : T7 cy ls aw kx wx d ru gr hnx hct sd sru sgr sA ar pr cr we ha ad aru agr akn rws occ dwn tkn cmp fnd frl fgr chs chl isc awM und nwst rmM moc sdd clmK pcK kO cA comers code spans tr rD rR rG str cars gaps known left leaves atr atd ats sw ss oct refu tab sec many bar kinds walkers cf ce codes now kept mrw mo refM rF) (hx : F_X9_fits cy ls kx clmK pcK wx kO cA comers code spans d tr facts stack sd str sru sgr sA ar cars gaps known left leaves pr cr we ha sw ss rws cmp sec fnd frl fgr chs chl p0 = (r, n_cmp, n_fnd, n_frl, n_fgr, n_chs, n_chl, n_sd, n_sru, n_sgr, n_sA, n_pr, n_cr, n_we, n_ha, n_sec, n_facts, n_stack, n_cars, n_gaps, n_str, n_known, n_left, n_leaves)) (hm : F_X10_fits isc tk ask red io lg gt icg sg rmM ftm ftr ftg qp many bar kinds walkers cf ce codes now isCar gapM isG isH crM wtM goM hmM prM ciM mrw whn pile p0 = (r2, n_tk, n_ask, n_red, n_io, n_lg, n_gt, n_icg, n_sg, n_ftm, n_ftr, n_ftg, n_qp, n_pile, n_wtM, n_gapM, n_goM, n_hmM, n_isCar, n_isH, n_crM, n_prM, n_ciM, n_isG, n_whn)) : T7 cy ls aw kx wx d ru gr hnx hct n_sd n_sru n_sgr n_sA ar n_pr n_cr n_we n_ha ad aru agr akn rws occ dwn tkn n_cmp n_fnd n_frl n_fgr n_chs n_chl isc awM und nwst rmM moc sdd clmK pcK kO cA comers code spans tr rD rR rG n_str n_cars n_gaps n_known n_left n_leaves atr atd ats sw ss oct refu tab n_sec many bar kinds walkers cf ce codes now kept mrw mo refM rF ∧ r = r2 := by
  obtain ⟨hR, hD, hO, hC⟩ := h
  rcases hC with h0 | ⟨oC, oR, oL, nW, nK, rfl, rfl, hP, hM, hL, haw, hB, hN, hH, hS, hi, hW, hA, hCh, hWa⟩
  · obtain ⟨⟨z1, z2, z3, z4⟩, zz⟩ := h0
    have c : (F_X9_fits cy ls kx clmK pcK wx kO cA comers code spans d tr facts stack sd str sru sgr sA ar cars gaps known left leaves pr cr we ha sw ss rws cmp sec fnd frl fgr chs chl p0).1 = -1 := by
      unfold F_X9_fits
      rw [st_0x z1, lf_b_e, if_pos rfl]
    have m : (F_X10_fits isc tk ask red io lg gt icg sg rmM ftm ftr ftg qp many bar kinds walkers cf ce codes now isCar gapM isG isH crM wtM goM hmM prM ciM mrw whn pile p0).1 = -1 := by
      unfold F_X10_fits F_X10_fits_19
      rw [if_pos z4]
    rw [hx] at c
    rw [hm] at m
    exact ⟨⟨hR, hD, hO, Or.inl ⟨⟨z1, z2, z3, z4⟩, zz⟩⟩, c.trans m.symm⟩
  · obtain ⟨r9, O, e, c, cW, cS⟩ := fi_cx (facts := facts) (stack := stack) (p0 := p0) hP hS hB hW hWa
    have m := fi_mx (tk := tk) (ask := ask) (red := red) (io := io) (lg := lg) (gt := gt) (icg := icg) (sg := sg) (ftm := ftm) (ftr := ftr) (ftg := ftg) (qp := qp) (isCar := isCar) (gapM := gapM) (isG := isG) (isH := isH) (crM := crM) (wtM := wtM) (goM := goM) (hmM := hmM) (prM := prM) (ciM := ciM) (whn := whn) (pile := pile) (p0 := p0) hP hM hB hN hi hW
    rw [hx] at e
    rw [hm] at m
    simp only [Prod.mk.injEq] at e
    obtain ⟨e1, e2⟩ := e
    subst e1 e2
    exact ⟨⟨hR, hD, hO, Or.inr ⟨oC, oR, oL, nW, nK, rfl, rfl, hP, hM, hL, haw, hB, hN, hH, cS, hi, hW, hA, hCh, Or.inr cW⟩⟩, c.trans m.symm⟩
theorem t7_watched {cy ls kx wx d sd sru sgr sA ar pr cr we ha rws cmp fnd frl fgr chs chl p0 r n_cmp n_fnd n_frl n_fgr n_chs n_chl n_sd n_sru n_sgr n_sA n_pr n_cr n_we n_ha isc tk ask red io lg gt icg sg rmM ftm ftr ftg qp r2 n_tk n_ask n_red n_io n_lg n_gt n_icg n_sg n_ftm n_ftr n_ftg n_qp aw ru gr hnx hct ad aru agr akn occ dwn tkn awM und nwst moc sdd : Int} {clmK pcK kO cA comers code spans tr facts stack str cars gaps known left leaves sw ss sec n_sec n_facts n_stack n_cars n_gaps n_str n_known n_left n_leaves many bar kinds walkers cf ce codes now isCar gapM isG isH crM wtM goM hmM prM ciM mrw whn pile n_pile n_wtM n_gapM n_goM n_hmM n_isCar n_isH n_crM n_prM n_ciM n_isG n_whn rD rR rG atr atd ats oct refu tab kept mo refM : Nat → Int} {rF : Nat → Nat → Int} (h : T7 cy ls aw kx wx d ru gr hnx hct sd sru sgr sA ar pr cr we ha ad aru agr akn rws occ dwn tkn cmp fnd frl fgr chs chl isc awM und nwst rmM moc sdd clmK pcK kO cA comers code spans tr rD rR rG str cars gaps known left leaves atr atd ats sw ss oct refu tab sec many bar kinds walkers cf ce codes now kept mrw mo refM rF) (hx : F_X9_watched cy ls kx clmK pcK wx kO cA comers code spans d tr facts stack sd str sru sgr sA ar cars gaps known left leaves pr cr we ha sw ss rws cmp sec fnd frl fgr chs chl p0 = (r, n_cmp, n_fnd, n_frl, n_fgr, n_chs, n_chl, n_sd, n_sru, n_sgr, n_sA, n_pr, n_cr, n_we, n_ha, n_sec, n_facts, n_stack, n_cars, n_gaps, n_str, n_known, n_left, n_leaves)) (hm : F_X10_watched isc tk ask red io lg gt icg sg rmM ftm ftr ftg qp many bar kinds walkers cf ce codes now isCar gapM isG isH crM wtM goM hmM prM ciM mrw whn pile p0 = (r2, n_tk, n_ask, n_red, n_io, n_lg, n_gt, n_icg, n_sg, n_ftm, n_ftr, n_ftg, n_qp, n_pile, n_wtM, n_gapM, n_goM, n_hmM, n_isCar, n_isH, n_crM, n_prM, n_ciM, n_isG, n_whn)) : T7 cy ls aw kx wx d ru gr hnx hct n_sd n_sru n_sgr n_sA ar n_pr n_cr n_we n_ha ad aru agr akn rws occ dwn tkn n_cmp n_fnd n_frl n_fgr n_chs n_chl isc awM und nwst rmM moc sdd clmK pcK kO cA comers code spans tr rD rR rG n_str n_cars n_gaps n_known n_left n_leaves atr atd ats sw ss oct refu tab n_sec many bar kinds walkers cf ce codes now kept mrw mo refM rF ∧ r = r2 := by
  obtain ⟨hR, hD, hO, hC⟩ := h
  rcases hC with h0 | ⟨oC, oR, oL, nW, nK, rfl, rfl, hP, hM, hL, haw, hB, hN, hH, hS, hi, hW, hA, hCh, hWa⟩
  · obtain ⟨⟨z1, z2, z3, z4⟩, zz⟩ := h0
    have c : (F_X9_watched cy ls kx clmK pcK wx kO cA comers code spans d tr facts stack sd str sru sgr sA ar cars gaps known left leaves pr cr we ha sw ss rws cmp sec fnd frl fgr chs chl p0).1 = -1 := by
      unfold F_X9_watched
      rw [st_0x z1, lf_b_e, if_pos rfl]
    have m : (F_X10_watched isc tk ask red io lg gt icg sg rmM ftm ftr ftg qp many bar kinds walkers cf ce codes now isCar gapM isG isH crM wtM goM hmM prM ciM mrw whn pile p0).1 = -1 := by
      unfold F_X10_watched F_X10_watched_17
      rw [if_pos z4]
    rw [hx] at c
    rw [hm] at m
    exact ⟨⟨hR, hD, hO, Or.inl ⟨⟨z1, z2, z3, z4⟩, zz⟩⟩, c.trans m.symm⟩
  · obtain ⟨r9, O, e, c, cW, cS⟩ := wd_cx (facts := facts) (stack := stack) (p0 := p0) hP hS hB hW hWa
    have m := wd_mx (tk := tk) (ask := ask) (red := red) (io := io) (lg := lg) (gt := gt) (icg := icg) (sg := sg) (ftm := ftm) (ftr := ftr) (ftg := ftg) (qp := qp) (isCar := isCar) (gapM := gapM) (isG := isG) (isH := isH) (crM := crM) (wtM := wtM) (goM := goM) (hmM := hmM) (prM := prM) (ciM := ciM) (whn := whn) (pile := pile) (p0 := p0) hP hM hB hN hi hW
    rw [hx] at e
    rw [hm] at m
    simp only [Prod.mk.injEq] at e
    obtain ⟨e1, e2⟩ := e
    subst e1 e2
    exact ⟨⟨hR, hD, hO, Or.inr ⟨oC, oR, oL, nW, nK, rfl, rfl, hP, hM, hL, haw, hB, hN, hH, cS, hi, hW, hA, hCh, Or.inr cW⟩⟩, c.trans m.symm⟩
theorem t7_later {cy ls kx wx d ru gr sd sru sgr sA ar pr cr we ha ad aru agr akn p0 p1 r n_akn n_ad n_aru n_agr n_sd n_sru n_sgr n_sA n_pr n_cr n_we n_ha isc tk ask red io lg gt icg sg qp r2 n_tk n_ask n_red n_io n_lg n_gt n_icg n_sg n_qp aw hnx hct rws occ dwn tkn cmp fnd frl fgr chs chl awM und nwst rmM moc sdd : Int} {clmK pcK kO cA comers code spans tr facts stack str cars gaps known left leaves atr atd ats n_atr n_facts n_stack n_cars n_gaps n_str n_known n_left n_leaves n_atd n_ats many bar kinds walkers cf ce codes now asd isCar gapM isG isH crM wtM goM hmM prM ciM pile n_now n_asd n_pile n_wtM n_gapM n_goM n_hmM n_isCar n_isH n_crM n_prM n_ciM n_isG rD rR rG sw ss oct refu tab sec kept mrw mo refM : Nat → Int} {rF : Nat → Nat → Int} (h : T7 cy ls aw kx wx d ru gr hnx hct sd sru sgr sA ar pr cr we ha ad aru agr akn rws occ dwn tkn cmp fnd frl fgr chs chl isc awM und nwst rmM moc sdd clmK pcK kO cA comers code spans tr rD rR rG str cars gaps known left leaves atr atd ats sw ss oct refu tab sec many bar kinds walkers cf ce codes now kept mrw mo refM rF) (hx : F_X9_later cy ls kx clmK pcK wx kO cA comers code spans d ru gr tr facts stack sd str sru sgr sA ar cars gaps known left leaves pr cr we ha ad aru agr atr atd ats akn p0 p1 = (r, n_akn, n_ad, n_aru, n_agr, n_atr, n_sd, n_sru, n_sgr, n_sA, n_pr, n_cr, n_we, n_ha, n_facts, n_stack, n_cars, n_gaps, n_str, n_known, n_left, n_leaves, n_atd, n_ats)) (hm : F_X10_later isc tk ask red io lg gt icg sg qp many bar kinds walkers cf ce codes now asd isCar gapM isG isH crM wtM goM hmM prM ciM pile p0 p1 = (r2, n_tk, n_ask, n_red, n_io, n_lg, n_gt, n_icg, n_sg, n_qp, n_now, n_asd, n_pile, n_wtM, n_gapM, n_goM, n_hmM, n_isCar, n_isH, n_crM, n_prM, n_ciM, n_isG)) : T7 cy ls aw kx wx d ru gr hnx hct n_sd n_sru n_sgr n_sA ar n_pr n_cr n_we n_ha n_ad n_aru n_agr n_akn rws occ dwn tkn cmp fnd frl fgr chs chl isc awM und nwst rmM moc sdd clmK pcK kO cA comers code spans tr rD rR rG n_str n_cars n_gaps n_known n_left n_leaves n_atr n_atd n_ats sw ss oct refu tab sec many bar kinds walkers cf ce codes n_now kept mrw mo refM rF ∧ r = r2 := by
  obtain ⟨hR, hD, hO, hC⟩ := h
  rcases hC with h0 | ⟨oC, oR, oL, nW, nK, rfl, rfl, hP, hM, hL, haw, hB, hN, hH, hS, hi, hW, hA, hCh, hWa⟩
  · obtain ⟨⟨z1, z2, z3, z4⟩, ⟨z5, z6, z7⟩, ⟨y1, y2, y3⟩, ⟨y4, y5, y6⟩, zz⟩ := h0
    have c : (F_X9_later cy ls kx clmK pcK wx kO cA comers code spans d ru gr tr facts stack sd str sru sgr sA ar cars gaps known left leaves pr cr we ha ad aru agr atr atd ats akn p0 p1).1 = -1 := by
      unfold F_X9_later F_X9_later_32
      rw [st_0x z1, lf_b_e, if_pos rfl]
    have m : F_X10_later isc tk ask red io lg gt icg sg qp many bar kinds walkers cf ce codes now asd isCar gapM isG isH crM wtM goM hmM prM ciM pile p0 p1 = ((-1 : Int), tk, ask, red, io, lg, gt, icg, sg, qp, now, asd, pile, wtM, gapM, goM, hmM, isCar, isH, crM, prM, ciM, isG) := by
      unfold F_X10_later F_X10_isAhead_a1_0_a2_29 F_X10_isAhead_a1_0_a2_29_37 F_X10_later_23
      rw [if_pos z4, lf_b_e, if_pos rfl]
    rw [hx] at c
    rw [hm] at m
    simp only [Prod.mk.injEq] at m
    obtain ⟨m0, m1, m2, m3, m4, m5, m6, m7, m8, m9, m10, m11⟩ := m
    subst m10
    exact ⟨⟨hR, hD, hO, Or.inl ⟨⟨z1, z2, z3, z4⟩, ⟨z5, z6, z7⟩, ⟨y1, y2, y3⟩, ⟨y4, y5, y6⟩, zz⟩⟩, c.trans m0.symm⟩
  · obtain ⟨c, cA2, cS⟩ := lat_c (facts := facts) (stack := stack) (p0 := p0) (p1 := p1) hP hL hB hS hA
    obtain ⟨O, eO, m, mN⟩ := lat_m (tk := tk) (ask := ask) (red := red) (io := io) (lg := lg) (gt := gt) (icg := icg) (sg := sg) (qp := qp) (asd := asd) (isCar := isCar) (gapM := gapM) (isG := isG) (isH := isH) (crM := crM) (wtM := wtM) (goM := goM) (hmM := hmM) (prM := prM) (ciM := ciM) (pile := pile) (p0 := p0) (p1 := p1) hP hM hL.2 hB hN hi
    rw [hm] at eO
    subst eO
    rw [hx] at c cA2 cS
    exact ⟨⟨hR, hD, hO, Or.inr ⟨oC, oR, oL, nW, nK, rfl, rfl, hP, hM, hL, haw, hB, mN, hH, cS, hi, hW, cA2, hCh, hWa⟩⟩, c.trans m.symm⟩
theorem t7_doubts {cy ls kx wx d ru gr sd sru sgr sA ar pr cr we ha ad aru agr akn p0 r n_akn n_ad n_aru n_agr n_sd n_sru n_sgr n_sA n_pr n_cr n_we n_ha tk ask red io lg gt icg sg qp r2 n_tk n_ask n_red n_io n_lg n_gt n_icg n_sg n_qp aw hnx hct rws occ dwn tkn cmp fnd frl fgr chs chl isc awM und nwst rmM moc sdd : Int} {clmK pcK kO cA comers code spans tr facts stack str cars gaps known left leaves atr atd ats n_atr n_facts n_stack n_cars n_gaps n_str n_known n_left n_leaves n_atd n_ats many bar kinds walkers cf ce codes now asd isCar gapM isG isH crM wtM goM hmM prM ciM pile n_now n_asd n_pile n_wtM n_gapM n_goM n_hmM n_isCar n_isH n_crM n_prM n_ciM n_isG rD rR rG sw ss oct refu tab sec kept mrw mo refM : Nat → Int} {rF : Nat → Nat → Int} (h : T7 cy ls aw kx wx d ru gr hnx hct sd sru sgr sA ar pr cr we ha ad aru agr akn rws occ dwn tkn cmp fnd frl fgr chs chl isc awM und nwst rmM moc sdd clmK pcK kO cA comers code spans tr rD rR rG str cars gaps known left leaves atr atd ats sw ss oct refu tab sec many bar kinds walkers cf ce codes now kept mrw mo refM rF) (hx : F_X9_doubts cy ls kx clmK pcK wx kO cA comers code spans d ru gr tr facts stack sd str sru sgr sA ar cars gaps known left leaves pr cr we ha ad aru agr atr atd ats akn p0 = (r, n_akn, n_ad, n_aru, n_agr, n_atr, n_sd, n_sru, n_sgr, n_sA, n_pr, n_cr, n_we, n_ha, n_facts, n_stack, n_cars, n_gaps, n_str, n_known, n_left, n_leaves, n_atd, n_ats)) (hm : F_X10_doubts tk ask red io lg gt icg sg qp many bar kinds walkers cf ce codes now asd isCar gapM isG isH crM wtM goM hmM prM ciM pile p0 = (r2, n_tk, n_ask, n_red, n_io, n_lg, n_gt, n_icg, n_sg, n_qp, n_now, n_asd, n_pile, n_wtM, n_gapM, n_goM, n_hmM, n_isCar, n_isH, n_crM, n_prM, n_ciM, n_isG)) : T7 cy ls aw kx wx d ru gr hnx hct n_sd n_sru n_sgr n_sA ar n_pr n_cr n_we n_ha n_ad n_aru n_agr n_akn rws occ dwn tkn cmp fnd frl fgr chs chl isc awM und nwst rmM moc sdd clmK pcK kO cA comers code spans tr rD rR rG n_str n_cars n_gaps n_known n_left n_leaves n_atr n_atd n_ats sw ss oct refu tab sec many bar kinds walkers cf ce codes n_now kept mrw mo refM rF := by
  obtain ⟨hR, hD, hO, hC⟩ := h
  rcases hC with h0 | ⟨oC, oR, oL, nW, nK, rfl, rfl, hP, hM, hL, haw, hB, hN, hH, hS, hi, hW, hA, hCh, hWa⟩
  · obtain ⟨⟨z1, z2, z3, z4⟩, ⟨z5, z6, z7⟩, ⟨y1, y2, y3⟩, ⟨y4, y5, y6⟩, zz⟩ := h0
    have e := ik_m (nK := 0) (p0 := p0) z5
    rw [if_neg (by omega)] at e
    have m : F_X10_doubts tk ask red io lg gt icg sg qp many bar kinds walkers cf ce codes now asd isCar gapM isG isH crM wtM goM hmM prM ciM pile p0 = ((-1 : Int), tk, ask, red, io, lg, gt, icg, sg, qp, now, asd, pile, wtM, gapM, goM, hmM, isCar, isH, crM, prM, ciM, isG) := by
      unfold F_X10_doubts
      rw [e, lf_b_e, if_pos rfl]
    rw [hm] at m
    simp only [Prod.mk.injEq] at m
    obtain ⟨m0, m1, m2, m3, m4, m5, m6, m7, m8, m9, m10, m11⟩ := m
    subst m10
    exact ⟨hR, hD, hO, Or.inl ⟨⟨z1, z2, z3, z4⟩, ⟨z5, z6, z7⟩, ⟨y1, y2, y3⟩, ⟨y4, y5, y6⟩, zz⟩⟩
  · obtain ⟨cA2, cS⟩ := dou_c (facts := facts) (stack := stack) (p0 := p0) hP hL hB hS hA
    obtain ⟨O, eO, mN⟩ := dou_m (d := d) (ru := ru) (gr := gr) (tr := tr) (tk := tk) (ask := ask) (red := red) (io := io) (lg := lg) (gt := gt) (icg := icg) (sg := sg) (qp := qp) (asd := asd) (isCar := isCar) (gapM := gapM) (isG := isG) (isH := isH) (crM := crM) (wtM := wtM) (goM := goM) (hmM := hmM) (prM := prM) (ciM := ciM) (pile := pile) (p0 := p0) (many := many) (bar := bar) (kinds := kinds) (walkers := walkers) (cf := cf) (ce := ce) (codes := codes) hP.2.1 hN
    rw [hm] at eO
    subst eO
    rw [hx] at cA2 cS
    exact ⟨hR, hD, hO, Or.inr ⟨oC, oR, oL, nW, nK, rfl, rfl, hP, hM, hL, haw, hB, mN, hH, cS, hi, hW, cA2, hCh, hWa⟩⟩
theorem t7_rule {cy d ru gr hnx hct tkn akn cmp p0 r n_ru n_hnx n_hct n_tkn n_akn n_cmp isc und nwst r2 n_und n_nwst ls aw kx wx sd sru sgr sA ar pr cr we ha ad aru agr rws occ dwn fnd frl fgr chs chl awM rmM moc sdd : Int} {tr rD rR rG refu n_refu n_rD n_rR n_rG refM now kept n_now n_kept n_refM clmK pcK kO cA comers code spans str cars gaps known left leaves atr atd ats sw ss oct tab sec many bar kinds walkers cf ce codes mrw mo : Nat → Int} {rF n_rF : Nat → Nat → Int} (h : T7 cy ls aw kx wx d ru gr hnx hct sd sru sgr sA ar pr cr we ha ad aru agr akn rws occ dwn tkn cmp fnd frl fgr chs chl isc awM und nwst rmM moc sdd clmK pcK kO cA comers code spans tr rD rR rG str cars gaps known left leaves atr atd ats sw ss oct refu tab sec many bar kinds walkers cf ce codes now kept mrw mo refM rF) (hx : F_X9_rule cy d ru gr tr rD rR rG rF hnx hct tkn akn cmp refu p0 = (r, n_ru, n_hnx, n_hct, n_tkn, n_akn, n_cmp, n_refu, n_rD, n_rR, n_rG, n_rF)) (hm : F_X10_rule isc und nwst refM now kept p0 = (r2, n_und, n_nwst, n_now, n_kept, n_refM)) : T7 cy ls aw kx wx d n_ru gr n_hnx n_hct sd sru sgr sA ar pr cr we ha ad aru agr n_akn rws occ dwn n_tkn n_cmp fnd frl fgr chs chl isc awM n_und n_nwst rmM moc sdd clmK pcK kO cA comers code spans tr n_rD n_rR n_rG str cars gaps known left leaves atr atd ats sw ss oct n_refu tab sec many bar kinds walkers cf ce codes n_now n_kept mrw mo n_refM n_rF ∧ r = r2 := by
  obtain ⟨hR, hD, hO, hC⟩ := h
  rcases hC with h0 | ⟨oC, oR, oL, nW, nK, rfl, rfl, hP, hM, hL, haw, hB, hN, hH, hS, hi, hW, hA, hCh, hWa⟩
  · obtain ⟨⟨z1, z2, z3, z4⟩, ⟨z5, z6, z7⟩, ⟨y1, y2, y3⟩, ⟨y4, y5, y6⟩, ⟨x1, x2, x3, x4⟩, w1, w2⟩ := h0
    have c := ru_x0 (cy := cy) (d := d) (ru := ru) (gr := gr) (tr := tr) (rD := rD) (rR := rR) (rG := rG) (rF := rF) (hnx := hnx) (hct := hct) (tkn := tkn) (akn := akn) (cmp := cmp) (refu := refu) (p0 := p0) (Or.inl (by omega))
    have m := ru_m0 (isc := isc) (und := und) (nwst := nwst) (refM := refM) (now := now) (kept := kept) (p0 := p0) (Or.inl z4)
    rw [hx] at c
    rw [hm] at m
    simp only [Prod.mk.injEq] at c m
    obtain ⟨c0, c1, c2, c3, c4, c5, c6, c7, c8, c9, c10, c11⟩ := c
    obtain ⟨m0, m1, m2, m3, m4, m5⟩ := m
    subst c0 c1 c2 c3 c4 c5 c6 c7 c8 c9 c10 c11 m0 m1 m2 m3 m4 m5
    subst hR
    exact ⟨⟨rfl, hD, hO, Or.inl ⟨⟨z1, z2, z3, z4⟩, ⟨z5, z6, z7⟩, ⟨y1, y2, y3⟩, ⟨y4, y5, y6⟩, ⟨x1, x2, x3, x4⟩, w1, w2⟩⟩, rfl⟩
  · obtain ⟨r9, a9, n9, c9, t9, k9, p9, f9, D9, R9, G9, F9, u9, w9, N9, K9, e1, e2, aB, aN, aH, aC⟩ := ru_t (p0 := p0) (tkn := tkn) (akn := akn) (cmp := cmp) (refu := refu) (refM := refM) (cy := cy) hP.2.1 hP.2.2.1.1 hi hB hN hH hR
    rw [hx] at e1
    rw [hm] at e2
    simp only [Prod.mk.injEq] at e1 e2
    obtain ⟨c0, c1, c2, c3, c4, c5, c6, c7, c8, c9, c10, c11⟩ := e1
    obtain ⟨m0, m1, m2, m3, m4, m5⟩ := e2
    subst c0 c1 c2 c3 c4 c5 c6 c7 c8 c9 c10 c11 m0 m1 m2 m3 m4 m5
    have hA2 : ahH oC oR oL nW nK cy ls kO cA clmK pcK d n_ru gr tr n_akn ad aru agr atr atd ats ∧ chH oC oR nW cy ls kO cA clmK pcK d tr n_tkn tab ∧ waH oC oR nW cy ls kO cA clmK pcK d tr rws sw ss n_cmp fnd frl fgr chs chl sec := by
      rcases aC with ⟨q1, q2, q3, q4, q5, q6, q7⟩ | ⟨q1, q2, q3⟩
      · first | subst q1 | skip
        first | subst q2 | skip
        first | subst q3 | skip
        first | subst q4 | skip
        rw [q5, q6, q7]
        exact ⟨hA, hCh, hWa⟩
      · rw [q1, q2, q3]
        exact ⟨ah_0, ch_0, wa_0⟩
    exact ⟨⟨rfl, hD, hO, Or.inr ⟨oC, oR, oL, nW, nK, rfl, rfl, hP, hM, hL, haw, aB, aN, aH, hS, hi, hW, hA2⟩⟩, rfl⟩
theorem t7_green {cy d ru gr hnx hct tkn akn cmp p0 r n_gr n_hnx n_hct n_tkn n_akn n_cmp isc und nwst r2 n_und n_nwst ls aw kx wx sd sru sgr sA ar pr cr we ha ad aru agr rws occ dwn fnd frl fgr chs chl awM rmM moc sdd : Int} {tr rD rR rG refu n_refu n_rD n_rR n_rG refM bar now kept n_now n_kept n_refM clmK pcK kO cA comers code spans str cars gaps known left leaves atr atd ats sw ss oct tab sec many kinds walkers cf ce codes mrw mo : Nat → Int} {rF n_rF : Nat → Nat → Int} (h : T7 cy ls aw kx wx d ru gr hnx hct sd sru sgr sA ar pr cr we ha ad aru agr akn rws occ dwn tkn cmp fnd frl fgr chs chl isc awM und nwst rmM moc sdd clmK pcK kO cA comers code spans tr rD rR rG str cars gaps known left leaves atr atd ats sw ss oct refu tab sec many bar kinds walkers cf ce codes now kept mrw mo refM rF) (hx : F_X9_green cy d ru gr tr rD rR rG rF hnx hct tkn akn cmp refu p0 = (r, n_gr, n_hnx, n_hct, n_tkn, n_akn, n_cmp, n_refu, n_rD, n_rR, n_rG, n_rF)) (hm : F_X10_green isc und nwst refM bar now kept p0 = (r2, n_und, n_nwst, n_now, n_kept, n_refM)) : T7 cy ls aw kx wx d ru n_gr n_hnx n_hct sd sru sgr sA ar pr cr we ha ad aru agr n_akn rws occ dwn n_tkn n_cmp fnd frl fgr chs chl isc awM n_und n_nwst rmM moc sdd clmK pcK kO cA comers code spans tr n_rD n_rR n_rG str cars gaps known left leaves atr atd ats sw ss oct n_refu tab sec many bar kinds walkers cf ce codes n_now n_kept mrw mo n_refM n_rF ∧ r = r2 := by
  obtain ⟨hR, hD, hO, hC⟩ := h
  rcases hC with h0 | ⟨oC, oR, oL, nW, nK, rfl, rfl, hP, hM, hL, haw, hB, hN, hH, hS, hi, hW, hA, hCh, hWa⟩
  · obtain ⟨⟨z1, z2, z3, z4⟩, ⟨z5, z6, z7⟩, ⟨y1, y2, y3⟩, ⟨y4, y5, y6⟩, ⟨x1, x2, x3, x4⟩, w1, w2⟩ := h0
    have c := gn_x0 (cy := cy) (d := d) (ru := ru) (gr := gr) (tr := tr) (rD := rD) (rR := rR) (rG := rG) (rF := rF) (hnx := hnx) (hct := hct) (tkn := tkn) (akn := akn) (cmp := cmp) (refu := refu) (p0 := p0) (Or.inl (by omega))
    have m := gn_m0 (isc := isc) (und := und) (nwst := nwst) (refM := refM) (bar := bar) (now := now) (kept := kept) (p0 := p0) (Or.inl z4)
    rw [hx] at c
    rw [hm] at m
    simp only [Prod.mk.injEq] at c m
    obtain ⟨c0, c1, c2, c3, c4, c5, c6, c7, c8, c9, c10, c11⟩ := c
    obtain ⟨m0, m1, m2, m3, m4, m5⟩ := m
    subst c0 c1 c2 c3 c4 c5 c6 c7 c8 c9 c10 c11 m0 m1 m2 m3 m4 m5
    subst hR
    exact ⟨⟨rfl, hD, hO, Or.inl ⟨⟨z1, z2, z3, z4⟩, ⟨z5, z6, z7⟩, ⟨y1, y2, y3⟩, ⟨y4, y5, y6⟩, ⟨x1, x2, x3, x4⟩, w1, w2⟩⟩, rfl⟩
  · obtain ⟨r9, a9, n9, c9, t9, k9, p9, f9, D9, R9, G9, F9, u9, w9, N9, K9, e1, e2, aB, aN, aH, aC⟩ := gn_t (p0 := p0) (tkn := tkn) (akn := akn) (cmp := cmp) (refu := refu) (refM := refM) (cy := cy) hP.2.1 hM.2.2.1 hi hB hN hH hR
    rw [hx] at e1
    rw [hm] at e2
    simp only [Prod.mk.injEq] at e1 e2
    obtain ⟨c0, c1, c2, c3, c4, c5, c6, c7, c8, c9, c10, c11⟩ := e1
    obtain ⟨m0, m1, m2, m3, m4, m5⟩ := e2
    subst c0 c1 c2 c3 c4 c5 c6 c7 c8 c9 c10 c11 m0 m1 m2 m3 m4 m5
    have hA2 : ahH oC oR oL nW nK cy ls kO cA clmK pcK d ru n_gr tr n_akn ad aru agr atr atd ats ∧ chH oC oR nW cy ls kO cA clmK pcK d tr n_tkn tab ∧ waH oC oR nW cy ls kO cA clmK pcK d tr rws sw ss n_cmp fnd frl fgr chs chl sec := by
      rcases aC with ⟨q1, q2, q3, q4, q5, q6, q7⟩ | ⟨q1, q2, q3⟩
      · first | subst q1 | skip
        first | subst q2 | skip
        first | subst q3 | skip
        first | subst q4 | skip
        rw [q5, q6, q7]
        exact ⟨hA, hCh, hWa⟩
      · rw [q1, q2, q3]
        exact ⟨ah_0, ch_0, wa_0⟩
    exact ⟨⟨rfl, hD, hO, Or.inr ⟨oC, oR, oL, nW, nK, rfl, rfl, hP, hM, hL, haw, aB, aN, aH, hS, hi, hW, hA2⟩⟩, rfl⟩
theorem t7_trust {kx d ru gr hnx hct tkn akn cmp p0 p1 r n_hnx n_hct n_tkn n_akn n_cmp und nwst r2 n_und n_nwst cy ls aw wx sd sru sgr sA ar pr cr we ha ad aru agr rws occ dwn fnd frl fgr chs chl isc awM rmM moc sdd : Int} {tr rD rR rG refu n_tr n_refu n_rD n_rR n_rG refM many now kept n_now n_kept n_refM clmK pcK kO cA comers code spans str cars gaps known left leaves atr atd ats sw ss oct tab sec bar kinds walkers cf ce codes mrw mo : Nat → Int} {rF n_rF : Nat → Nat → Int} (h : T7 cy ls aw kx wx d ru gr hnx hct sd sru sgr sA ar pr cr we ha ad aru agr akn rws occ dwn tkn cmp fnd frl fgr chs chl isc awM und nwst rmM moc sdd clmK pcK kO cA comers code spans tr rD rR rG str cars gaps known left leaves atr atd ats sw ss oct refu tab sec many bar kinds walkers cf ce codes now kept mrw mo refM rF) (hx : F_X9_trust kx d ru gr tr rD rR rG rF hnx hct tkn akn cmp refu p0 p1 = (r, n_tr, n_hnx, n_hct, n_tkn, n_akn, n_cmp, n_refu, n_rD, n_rR, n_rG, n_rF)) (hm : F_X10_trust und nwst refM many now kept p0 p1 = (r2, n_und, n_nwst, n_now, n_kept, n_refM)) : T7 cy ls aw kx wx d ru gr n_hnx n_hct sd sru sgr sA ar pr cr we ha ad aru agr n_akn rws occ dwn n_tkn n_cmp fnd frl fgr chs chl isc awM n_und n_nwst rmM moc sdd clmK pcK kO cA comers code spans n_tr n_rD n_rR n_rG str cars gaps known left leaves atr atd ats sw ss oct n_refu tab sec many bar kinds walkers cf ce codes n_now n_kept mrw mo n_refM n_rF ∧ r = r2 := by
  obtain ⟨hR, hD, hO, hC⟩ := h
  rcases hC with h0 | ⟨oC, oR, oL, nW, nK, rfl, rfl, hP, hM, hL, haw, hB, hN, hH, hS, hi, hW, hA, hCh, hWa⟩
  · obtain ⟨⟨z1, z2, z3, z4⟩, ⟨z5, z6, z7⟩, ⟨y1, y2, y3⟩, ⟨y4, y5, y6⟩, ⟨x1, x2, x3, x4⟩, w1, w2⟩ := h0
    have c := tr_x0 (nK := 0) (d := d) (ru := ru) (gr := gr) (tr := tr) (rD := rD) (rR := rR) (rG := rG) (rF := rF) (hnx := hnx) (hct := hct) (tkn := tkn) (akn := akn) (cmp := cmp) (refu := refu) (p0 := p0) (p1 := p1) (Or.inl (by omega))
    have m := tr_m0 (nK := 0) (und := und) (nwst := nwst) (refM := refM) (many := many) (now := now) (kept := kept) (p0 := p0) (p1 := p1) z5 (Or.inl (by omega))
    rw [show kx = ((0 : Nat) : Int) from z2] at hx
    rw [hx] at c
    rw [hm] at m
    simp only [Prod.mk.injEq] at c m
    obtain ⟨c0, c1, c2, c3, c4, c5, c6, c7, c8, c9, c10, c11⟩ := c
    obtain ⟨m0, m1, m2, m3, m4, m5⟩ := m
    subst c0 c1 c2 c3 c4 c5 c6 c7 c8 c9 c10 c11 m0 m1 m2 m3 m4 m5
    subst hR
    exact ⟨⟨rfl, hD, hO, Or.inl ⟨⟨z1, z2, z3, z4⟩, ⟨z5, z6, z7⟩, ⟨y1, y2, y3⟩, ⟨y4, y5, y6⟩, ⟨x1, x2, x3, x4⟩, w1, w2⟩⟩, rfl⟩
  · obtain ⟨r9, a9, n9, c9, t9, k9, p9, f9, D9, R9, G9, F9, u9, w9, N9, K9, e1, e2, aB, aN, aH, aC⟩ := tr_t (p0 := p0) (p1 := p1) (tkn := tkn) (akn := akn) (cmp := cmp) (refu := refu) (refM := refM) hP.2.1 hM.2.1 hB hN hH hR
    rw [hx] at e1
    rw [hm] at e2
    simp only [Prod.mk.injEq] at e1 e2
    obtain ⟨c0, c1, c2, c3, c4, c5, c6, c7, c8, c9, c10, c11⟩ := e1
    obtain ⟨m0, m1, m2, m3, m4, m5⟩ := e2
    subst c0 c1 c2 c3 c4 c5 c6 c7 c8 c9 c10 c11 m0 m1 m2 m3 m4 m5
    have hA2 : ahH oC oR oL nW nK cy ls kO cA clmK pcK d ru gr n_tr n_akn ad aru agr atr atd ats ∧ chH oC oR nW cy ls kO cA clmK pcK d n_tr n_tkn tab ∧ waH oC oR nW cy ls kO cA clmK pcK d n_tr rws sw ss n_cmp fnd frl fgr chs chl sec := by
      rcases aC with ⟨q1, q2, q3, q4, q5, q6, q7⟩ | ⟨q1, q2, q3⟩
      · first | subst q1 | skip
        first | subst q2 | skip
        first | subst q3 | skip
        first | subst q4 | skip
        rw [q5, q6, q7]
        exact ⟨hA, hCh, hWa⟩
      · rw [q1, q2, q3]
        exact ⟨ah_0, ch_0, wa_0⟩
    exact ⟨⟨rfl, hD, hO, Or.inr ⟨oC, oR, oL, nW, nK, rfl, rfl, hP, hM, hL, haw, aB, aN, aH, hS, hi, hW, hA2⟩⟩, rfl⟩
theorem t7_undo {d ru gr hnx hct tkn akn cmp r n_hnx n_hct n_d n_ru n_gr n_tkn n_akn n_cmp und nwst r2 n_und n_nwst cy ls aw kx wx sd sru sgr sA ar pr cr we ha ad aru agr rws occ dwn fnd frl fgr chs chl isc awM rmM moc sdd : Int} {tr rD rR rG refu n_tr n_refu refM now kept n_refM n_now clmK pcK kO cA comers code spans str cars gaps known left leaves atr atd ats sw ss oct tab sec many bar kinds walkers cf ce codes mrw mo : Nat → Int} {rF : Nat → Nat → Int} (h : T7 cy ls aw kx wx d ru gr hnx hct sd sru sgr sA ar pr cr we ha ad aru agr akn rws occ dwn tkn cmp fnd frl fgr chs chl isc awM und nwst rmM moc sdd clmK pcK kO cA comers code spans tr rD rR rG str cars gaps known left leaves atr atd ats sw ss oct refu tab sec many bar kinds walkers cf ce codes now kept mrw mo refM rF) (hx : F_X9_undo d ru gr tr rD rR rG rF hnx hct tkn akn cmp refu = (r, n_hnx, n_hct, n_d, n_ru, n_gr, n_tr, n_tkn, n_akn, n_cmp, n_refu)) (hm : F_X10_undo und nwst refM now kept = (r2, n_und, n_nwst, n_refM, n_now)) : T7 cy ls aw kx wx n_d n_ru n_gr n_hnx n_hct sd sru sgr sA ar pr cr we ha ad aru agr n_akn rws occ dwn n_tkn n_cmp fnd frl fgr chs chl isc awM n_und n_nwst rmM moc sdd clmK pcK kO cA comers code spans n_tr rD rR rG str cars gaps known left leaves atr atd ats sw ss oct n_refu tab sec many bar kinds walkers cf ce codes n_now kept mrw mo n_refM rF ∧ r = r2 := by
  obtain ⟨hR, hD, hO, hC⟩ := h
  rcases hC with h0 | ⟨oC, oR, oL, nW, nK, rfl, rfl, hP, hM, hL, haw, hB, hN, hH, hS, hi, hW, hA, hCh, hWa⟩
  · obtain ⟨⟨z1, z2, z3, z4⟩, ⟨z5, z6, z7⟩, ⟨y1, y2, y3⟩, ⟨y4, y5, y6⟩, ⟨x1, x2, x3, x4⟩, w1, w2⟩ := h0
    have c := un_x0 (d := d) (ru := ru) (gr := gr) (tr := tr) (rD := rD) (rR := rR) (rG := rG) (rF := rF) (hnx := hnx) (hct := hct) (tkn := tkn) (akn := akn) (cmp := cmp) (refu := refu) x1
    have m := un_m0 (und := und) (nwst := nwst) (refM := refM) (now := now) (kept := kept) x2
    rw [hx] at c
    rw [hm] at m
    simp only [Prod.mk.injEq] at c m
    obtain ⟨c0, c1, c2, c3, c4, c5, c6, c7, c8, c9, c10⟩ := c
    obtain ⟨m0, m1, m2, m3, m4⟩ := m
    subst c0 c1 c2 c3 c4 c5 c6 c7 c8 c9 c10 m0 m1 m2 m3 m4
    subst hR
    exact ⟨⟨rfl, hD, hO, Or.inl ⟨⟨z1, z2, z3, z4⟩, ⟨z5, z6, z7⟩, ⟨y1, y2, y3⟩, ⟨y4, y5, y6⟩, ⟨x1, x2, x3, x4⟩, w1, w2⟩⟩, rfl⟩
  · obtain ⟨r9, n9, c9, d9, a9, g9, t9, k9, p9, q9, f9, u9, w9, N9, e1, e2, aB, aN, aH, aC⟩ := un_t (tkn := tkn) (akn := akn) (cmp := cmp) (refu := refu) (refM := refM) hP.2.1 hB hN hH hR
    rw [hx] at e1
    rw [hm] at e2
    simp only [Prod.mk.injEq] at e1 e2
    obtain ⟨c0, c1, c2, c3, c4, c5, c6, c7, c8, c9, c10⟩ := e1
    obtain ⟨m0, m1, m2, m3, m4⟩ := e2
    subst c0 c1 c2 c3 c4 c5 c6 c7 c8 c9 c10 m0 m1 m2 m3 m4
    have hA2 : ahH oC oR oL nW nK cy ls kO cA clmK pcK n_d n_ru n_gr n_tr n_akn ad aru agr atr atd ats ∧ chH oC oR nW cy ls kO cA clmK pcK n_d n_tr n_tkn tab ∧ waH oC oR nW cy ls kO cA clmK pcK n_d n_tr rws sw ss n_cmp fnd frl fgr chs chl sec := by
      rcases aC with ⟨q1, q2, q3, q4, q5, q6, q7⟩ | ⟨q1, q2, q3⟩
      · first | subst q1 | skip
        first | subst q2 | skip
        first | subst q3 | skip
        first | subst q4 | skip
        rw [q5, q6, q7]
        exact ⟨hA, hCh, hWa⟩
      · rw [q1, q2, q3]
        exact ⟨ah_0, ch_0, wa_0⟩
    exact ⟨⟨rfl, hD, hO, Or.inr ⟨oC, oR, oL, nW, nK, rfl, rfl, hP, hM, hL, haw, aB, aN, aH, hS, hi, hW, hA2⟩⟩, rfl⟩
theorem t7_status {p0 r r2 cy ls aw kx wx d ru gr hnx hct sd sru sgr sA ar pr cr we ha ad aru agr akn rws occ dwn tkn cmp fnd frl fgr chs chl isc awM und nwst rmM moc sdd : Int} {refu refM clmK pcK kO cA comers code spans tr rD rR rG str cars gaps known left leaves atr atd ats sw ss oct tab sec many bar kinds walkers cf ce codes now kept mrw mo : Nat → Int} {rF : Nat → Nat → Int} (h : T7 cy ls aw kx wx d ru gr hnx hct sd sru sgr sA ar pr cr we ha ad aru agr akn rws occ dwn tkn cmp fnd frl fgr chs chl isc awM und nwst rmM moc sdd clmK pcK kO cA comers code spans tr rD rR rG str cars gaps known left leaves atr atd ats sw ss oct refu tab sec many bar kinds walkers cf ce codes now kept mrw mo refM rF) (hx : F_X9_status refu p0 = r) (hm : F_X10_status refM p0 = r2) : T7 cy ls aw kx wx d ru gr hnx hct sd sru sgr sA ar pr cr we ha ad aru agr akn rws occ dwn tkn cmp fnd frl fgr chs chl isc awM und nwst rmM moc sdd clmK pcK kO cA comers code spans tr rD rR rG str cars gaps known left leaves atr atd ats sw ss oct refu tab sec many bar kinds walkers cf ce codes now kept mrw mo refM rF ∧ r = r2 := by
  obtain ⟨hR, hD, hO, hC⟩ := h
  refine ⟨⟨hR, hD, hO, hC⟩, ?_⟩
  rw [← hx, ← hm, hR]
  unfold F_X9_status F_X9_status_19 F_X10_status lf_isin
  by_cases c0 : p0 < 0
  · rw [if_pos c0, if_neg (show ¬ (0 ≤ p0 ∧ p0 ≤ 5) from by omega), if_pos rfl]
  rw [if_neg c0]
  by_cases c1 : 6 ≤ p0
  · rw [if_pos c1, if_neg (show ¬ (0 ≤ p0 ∧ p0 ≤ 5) from by omega), if_pos rfl]
  rw [if_neg c1, if_pos (show 0 ≤ p0 ∧ p0 ≤ 5 from by omega), if_neg (show ¬ (1 : Int) = 0 from by decide)]
theorem t7_octet {occ p0 r moc r2 cy ls aw kx wx d ru gr hnx hct sd sru sgr sA ar pr cr we ha ad aru agr akn rws dwn tkn cmp fnd frl fgr chs chl isc awM und nwst rmM sdd : Int} {oct mo clmK pcK kO cA comers code spans tr rD rR rG str cars gaps known left leaves atr atd ats sw ss refu tab sec many bar kinds walkers cf ce codes now kept mrw refM : Nat → Int} {rF : Nat → Nat → Int} (h : T7 cy ls aw kx wx d ru gr hnx hct sd sru sgr sA ar pr cr we ha ad aru agr akn rws occ dwn tkn cmp fnd frl fgr chs chl isc awM und nwst rmM moc sdd clmK pcK kO cA comers code spans tr rD rR rG str cars gaps known left leaves atr atd ats sw ss oct refu tab sec many bar kinds walkers cf ce codes now kept mrw mo refM rF) (hx : F_X9_octet oct occ p0 = r) (hm : F_X10_octet moc mo p0 = r2) : T7 cy ls aw kx wx d ru gr hnx hct sd sru sgr sA ar pr cr we ha ad aru agr akn rws occ dwn tkn cmp fnd frl fgr chs chl isc awM und nwst rmM moc sdd clmK pcK kO cA comers code spans tr rD rR rG str cars gaps known left leaves atr atd ats sw ss oct refu tab sec many bar kinds walkers cf ce codes now kept mrw mo refM rF ∧ r = r2 := by
  obtain ⟨hR, hD, hO, hC⟩ := h
  refine ⟨⟨hR, hD, hO, hC⟩, ?_⟩
  obtain ⟨o1, o2, o3⟩ := hO
  rw [← hx, ← hm]
  unfold F_X9_octet F_X9_octet_21 F_X10_octet F_X10_octet_21
  rw [← o1]
  by_cases c0 : p0 < 0
  · rw [if_pos c0, if_pos c0]
  rw [if_neg c0, if_neg c0]
  by_cases c1 : occ ≤ p0
  · rw [if_pos c1, if_pos c1]
  rw [if_neg c1, if_neg c1]
  exact o3 p0.toNat (by omega)
theorem t7_seed {dwn p0 r n_dwn sdd r2 n_sdd cy ls aw kx wx d ru gr hnx hct sd sru sgr sA ar pr cr we ha ad aru agr akn rws occ tkn cmp fnd frl fgr chs chl isc awM und nwst rmM moc : Int} {refu n_refu refM n_refM clmK pcK kO cA comers code spans tr rD rR rG str cars gaps known left leaves atr atd ats sw ss oct tab sec many bar kinds walkers cf ce codes now kept mrw mo : Nat → Int} {rF : Nat → Nat → Int} (h : T7 cy ls aw kx wx d ru gr hnx hct sd sru sgr sA ar pr cr we ha ad aru agr akn rws occ dwn tkn cmp fnd frl fgr chs chl isc awM und nwst rmM moc sdd clmK pcK kO cA comers code spans tr rD rR rG str cars gaps known left leaves atr atd ats sw ss oct refu tab sec many bar kinds walkers cf ce codes now kept mrw mo refM rF) (hp : p0 ≤ 2147483647) (hx : F_X9_seed refu dwn p0 = (r, n_dwn, n_refu)) (hm : F_X10_seed sdd refM p0 = (r2, n_sdd, n_refM)) : T7 cy ls aw kx wx d ru gr hnx hct sd sru sgr sA ar pr cr we ha ad aru agr akn rws occ n_dwn tkn cmp fnd frl fgr chs chl isc awM und nwst rmM moc n_sdd clmK pcK kO cA comers code spans tr rD rR rG str cars gaps known left leaves atr atd ats sw ss oct n_refu tab sec many bar kinds walkers cf ce codes now kept mrw mo n_refM rF ∧ r = r2 := by
  obtain ⟨hR, hD, hO, hC⟩ := h
  have key : n_refu = n_refM ∧ (∃ s0 : Nat, s0 < 2147483648 ∧ n_dwn = (s0 : Int) ∧ n_sdd = (s0 : Int)) ∧ r = r2 := by
    unfold F_X9_seed F_X9_deny at hx
    unfold F_X10_seed at hm
    by_cases c0 : 0 ≤ p0
    · rw [if_pos c0] at hx hm
      simp only [Prod.mk.injEq] at hx hm
      obtain ⟨a0, a1, a2⟩ := hx
      obtain ⟨b0, b1, b2'⟩ := hm
      exact ⟨a2.symm.trans (hR.trans b2'), ⟨p0.toNat, by omega, by omega, by omega⟩, a0.symm.trans b0⟩
    · rw [if_neg c0, lf_p_e] at hx
      rw [if_neg c0] at hm
      simp only [Prod.mk.injEq] at hx hm
      obtain ⟨a0, a1, a2⟩ := hx
      obtain ⟨b0, b1, b2'⟩ := hm
      obtain ⟨s0, d0, d1, d2⟩ := hD
      subst hR
      exact ⟨a2.symm.trans b2', ⟨s0, d0, by omega, by omega⟩, a0.symm.trans b0⟩
  exact ⟨⟨key.1, key.2.1, hO, hC⟩, key.2.2⟩
theorem fr_28 {refu : Nat → Int} {p0 p1 p2 p3 p4 : Int} : ∀ (f l : Nat) (c : Int) (a : Nat → Int), l ≤ 20 → 20 - l < f → (F_X10_feed_28 refu p0 p1 p2 p3 p4 f (l : Int) c a).2.2.1 = refu := by
  intro f
  induction f with
  | zero => intro l c a h1 h2; omega
  | succ f ih =>
    intro l c a h1 h2
    show (F_X10_feed_28b refu p0 p1 p2 p3 p4 (F_X10_feed_28 refu p0 p1 p2 p3 p4 f) (l : Int) c a).2.2.1 = refu
    unfold F_X10_feed_28b F_X10_feed_81
    by_cases q : l = 20
    · rw [if_pos (show (20 : Int) ≤ (l : Int) from by omega)]
    · rw [if_neg (show ¬ (20 : Int) ≤ (l : Int) from by omega)]
      by_cases c4 : (4 : Int) ≤ (l : Int)
      · rw [if_pos c4]
        by_cases c8 : (8 : Int) ≤ (l : Int)
        · rw [if_pos c8]
          by_cases c12 : (12 : Int) ≤ (l : Int)
          · rw [if_pos c12]
            by_cases c16 : (16 : Int) ≤ (l : Int)
            · rw [if_pos c16]
              exact ih (l + 1) _ _ (by omega) (by omega)
            · rw [if_neg c16]
              exact ih (l + 1) _ _ (by omega) (by omega)
          · rw [if_neg c12]
            exact ih (l + 1) _ _ (by omega) (by omega)
        · rw [if_neg c8]
          exact ih (l + 1) _ _ (by omega) (by omega)
      · rw [if_neg c4]
        exact ih (l + 1) _ _ (by omega) (by omega)
theorem t7_feed {s p0 p1 p2 p3 p4 r n_s sM r2 n_sM cy ls aw kx wx d ru gr hnx hct sd sru sgr sA ar pr cr we ha ad aru agr akn rws occ dwn tkn cmp fnd frl fgr chs chl isc awM und nwst rmM moc sdd : Int} {g refu n_g n_refu gM refM n_refM n_gM clmK pcK kO cA comers code spans tr rD rR rG str cars gaps known left leaves atr atd ats sw ss oct tab sec many bar kinds walkers cf ce codes now kept mrw mo : Nat → Int} {rF : Nat → Nat → Int} (h : T7 cy ls aw kx wx d ru gr hnx hct sd sru sgr sA ar pr cr we ha ad aru agr akn rws occ dwn tkn cmp fnd frl fgr chs chl isc awM und nwst rmM moc sdd clmK pcK kO cA comers code spans tr rD rR rG str cars gaps known left leaves atr atd ats sw ss oct refu tab sec many bar kinds walkers cf ce codes now kept mrw mo refM rF) (es : sM = s) (hx : F_X9_feed g s refu p0 p1 p2 p3 p4 = (r, n_s, n_g, n_refu)) (hm : F_X10_feed sM gM refM p0 p1 p2 p3 p4 = (r2, n_sM, n_refM, n_gM)) : T7 cy ls aw kx wx d ru gr hnx hct sd sru sgr sA ar pr cr we ha ad aru agr akn rws occ dwn tkn cmp fnd frl fgr chs chl isc awM und nwst rmM moc sdd clmK pcK kO cA comers code spans tr rD rR rG str cars gaps known left leaves atr atd ats sw ss oct n_refu tab sec many bar kinds walkers cf ce codes now kept mrw mo n_refM rF := by
  obtain ⟨hR, hD, hO, hC⟩ := h
  have key : n_refu = n_refM := by
    subst hR
    unfold F_X9_feed at hx
    unfold F_X10_feed at hm
    rw [es] at hm
    by_cases c0 : s + 20 ≤ 1600
    · rw [if_pos c0] at hx hm
      have e := fr_28 (refu := refu) (p0 := p0) (p1 := p1) (p2 := p2) (p3 := p3) (p4 := p4) 1602 0 s gM (by decide) (by decide)
      have e' : (F_X10_feed_28 refu p0 p1 p2 p3 p4 1602 (0 : Int) s gM).2.2.1 = refu := e
      rw [hm] at e'
      have x : (lf_p (F_X9_putBytes_f_0_1580 g s p0) (fun v10 f11 => (lf_p (F_X9_putBytes_f_0_1584 f11 v10 p1) (fun v18 f19 => (lf_p (F_X9_putBytes_f_0_1588 f19 v18 p2) (fun v26 f27 => (lf_p (F_X9_putBytes_f_0_1592 f27 v26 p3) (fun v34 f35 => (lf_p (F_X9_putBytes_f_0_1596 f35 v34 p4) (fun v42 f43 => (v42, v42, f43, refu))))))))))).2.2.2 = refu := rfl
      rw [hx] at x
      exact x.trans e'.symm
    · rw [if_neg c0] at hx hm
      unfold F_X9_refuse at hx
      rw [lf_p_e] at hx
      simp only [Prod.mk.injEq] at hx hm
      exact hx.2.2.2.symm.trans hm.2.2.1
  exact ⟨key, hD, hO, hC⟩
theorem t7_end {s p0 r n_s sM r2 n_sM cy ls aw kx wx d ru gr hnx hct sd sru sgr sA ar pr cr we ha ad aru agr akn rws occ dwn tkn cmp fnd frl fgr chs chl isc awM und nwst rmM moc sdd : Int} {refu n_refu refM n_refM clmK pcK kO cA comers code spans tr rD rR rG str cars gaps known left leaves atr atd ats sw ss oct tab sec many bar kinds walkers cf ce codes now kept mrw mo : Nat → Int} {rF : Nat → Nat → Int} (h : T7 cy ls aw kx wx d ru gr hnx hct sd sru sgr sA ar pr cr we ha ad aru agr akn rws occ dwn tkn cmp fnd frl fgr chs chl isc awM und nwst rmM moc sdd clmK pcK kO cA comers code spans tr rD rR rG str cars gaps known left leaves atr atd ats sw ss oct refu tab sec many bar kinds walkers cf ce codes now kept mrw mo refM rF) (es : sM = s) (hx : F_X9_end s refu p0 = (r, n_s, n_refu)) (hm : F_X10_end sM refM p0 = (r2, n_sM, n_refM)) : T7 cy ls aw kx wx d ru gr hnx hct sd sru sgr sA ar pr cr we ha ad aru agr akn rws occ dwn tkn cmp fnd frl fgr chs chl isc awM und nwst rmM moc sdd clmK pcK kO cA comers code spans tr rD rR rG str cars gaps known left leaves atr atd ats sw ss oct n_refu tab sec many bar kinds walkers cf ce codes now kept mrw mo n_refM rF := by
  obtain ⟨hR, hD, hO, hC⟩ := h
  have key : n_refu = n_refM := by
    subst hR
    unfold F_X9_end F_X9_deny at hx
    unfold F_X10_end at hm
    rw [es] at hm
    by_cases c0 : p0 < 0
    · rw [if_pos c0, lf_p_e] at hx
      rw [if_pos c0] at hm
      simp only [Prod.mk.injEq] at hx hm
      exact hx.2.2.symm.trans hm.2.2
    rw [if_neg c0] at hx hm
    by_cases c1 : p0 ≤ s
    · rw [if_pos c1] at hx hm
      simp only [Prod.mk.injEq] at hx hm
      exact hx.2.2.symm.trans hm.2.2
    · rw [if_neg c1, lf_p_e] at hx
      rw [if_neg c1] at hm
      simp only [Prod.mk.injEq] at hx hm
      exact hx.2.2.symm.trans hm.2.2
  exact ⟨key, hD, hO, hC⟩
theorem t7_image {kx d ru gr r n_occ r2 n_moc cy ls aw wx hnx hct sd sru sgr sA ar pr cr we ha ad aru agr akn rws occ dwn tkn cmp fnd frl fgr chs chl isc awM und nwst rmM moc sdd : Int} {tr oct n_oct many now mo n_mo clmK pcK kO cA comers code spans rD rR rG str cars gaps known left leaves atr atd ats sw ss refu tab sec bar kinds walkers cf ce codes kept mrw refM : Nat → Int} {rF : Nat → Nat → Int} (h : T7 cy ls aw kx wx d ru gr hnx hct sd sru sgr sA ar pr cr we ha ad aru agr akn rws occ dwn tkn cmp fnd frl fgr chs chl isc awM und nwst rmM moc sdd clmK pcK kO cA comers code spans tr rD rR rG str cars gaps known left leaves atr atd ats sw ss oct refu tab sec many bar kinds walkers cf ce codes now kept mrw mo refM rF) (hx : F_X9_image kx d ru gr tr oct = (r, n_occ, n_oct)) (hm : F_X10_image many now mo = (r2, n_moc, n_mo)) : T7 cy ls aw kx wx d ru gr hnx hct sd sru sgr sA ar pr cr we ha ad aru agr akn rws n_occ dwn tkn cmp fnd frl fgr chs chl isc awM und nwst rmM n_moc sdd clmK pcK kO cA comers code spans tr rD rR rG str cars gaps known left leaves atr atd ats sw ss n_oct refu tab sec many bar kinds walkers cf ce codes now kept mrw n_mo refM rF ∧ r = r2 := by
  obtain ⟨hR, hD, hO, hC⟩ := h
  rcases hC with h0 | ⟨oC, oR, oL, nW, nK, rfl, rfl, hP, hM, hL, haw, hB, hN, hH, hS, hi, hW, hA, hCh, hWa⟩
  · have h0' := h0
    obtain ⟨⟨z1, z2, z3, z4⟩, ⟨z5, z6, z7⟩, ⟨y1, y2, y3⟩, ⟨y4, y5, y6⟩, ⟨x1, x2, x3, x4⟩, w1, w2⟩ := h0
    have hx2 : F_X9_image ((0 : Nat) : Int) d ru gr tr oct = (r, n_occ, n_oct) := by
      rw [← hx, z2]
      rfl
    obtain ⟨O, Q, e1, e2, i1, i2, i3, i4⟩ := im_t (nK := 0) (d := d) (ru := ru) (gr := gr) (tr := tr) (oct := oct) (many := many) (now := now) (mo := mo) (by decide) (by omega) z5 ⟨y4.trans y1.symm, y5.trans y2.symm, y6.trans y3.symm, fun k hk => absurd hk (Nat.not_lt_zero k)⟩
    rw [hx2] at e1
    rw [hm] at e2
    subst e1 e2
    have j1 : n_occ = ((0 : Nat) : Int) + 5 := i2
    have j2 : n_moc = ((0 : Nat) : Int) + 5 := i3
    exact ⟨⟨hR, hD, ⟨j1.trans j2.symm, by omega, fun j hj => i4 j (by omega)⟩, Or.inl h0'⟩, i1⟩
  · have hK6 := hP.2.1
    obtain ⟨O, Q, e1, e2, i1, i2, i3, i4⟩ := im_t (nK := nK) (d := d) (ru := ru) (gr := gr) (tr := tr) (oct := oct) (many := many) (now := now) (mo := mo) hK6 hB.1 hM.2.1 hN
    rw [hx] at e1
    rw [hm] at e2
    subst e1 e2
    have j1 : n_occ = (nK : Int) + 5 := i2
    have j2 : n_moc = (nK : Int) + 5 := i3
    exact ⟨⟨hR, hD, ⟨j1.trans j2.symm, by omega, fun j hj => i4 j (by omega)⟩, Or.inr ⟨oC, oR, oL, nW, nK, rfl, rfl, hP, hM, hL, haw, hB, hN, hH, hS, hi, hW, hA, hCh, hWa⟩⟩, i1⟩
theorem t7_see {s wx rws cmp r n_rws n_cmp sM rmM r2 n_rmM cy ls aw kx d ru gr hnx hct sd sru sgr sA ar pr cr we ha ad aru agr akn occ dwn tkn fnd frl fgr chs chl isc awM und nwst moc sdd : Int} {g sw ss refu n_sw n_ss n_refu gM refM many mrw n_refM n_mrw clmK pcK kO cA comers code spans tr rD rR rG str cars gaps known left leaves atr atd ats oct tab sec bar kinds walkers cf ce codes now kept mo : Nat → Int} {rF : Nat → Nat → Int} (h : T7 cy ls aw kx wx d ru gr hnx hct sd sru sgr sA ar pr cr we ha ad aru agr akn rws occ dwn tkn cmp fnd frl fgr chs chl isc awM und nwst rmM moc sdd clmK pcK kO cA comers code spans tr rD rR rG str cars gaps known left leaves atr atd ats sw ss oct refu tab sec many bar kinds walkers cf ce codes now kept mrw mo refM rF) (hs : 0 ≤ s ∧ s ≤ 1600) (hg : ∀ k, k < 1600 → 0 ≤ g k) (eg : gM = g) (es : sM = s) (hx : F_X9_see g s wx sw ss rws cmp refu = (r, n_rws, n_cmp, n_sw, n_ss, n_refu)) (hm : F_X10_see sM rmM gM refM many mrw = (r2, n_rmM, n_refM, n_mrw)) : T7 cy ls aw kx wx d ru gr hnx hct sd sru sgr sA ar pr cr we ha ad aru agr akn n_rws occ dwn tkn n_cmp fnd frl fgr chs chl isc awM und nwst n_rmM moc sdd clmK pcK kO cA comers code spans tr rD rR rG str cars gaps known left leaves atr atd ats n_sw n_ss oct n_refu tab sec many bar kinds walkers cf ce codes now kept n_mrw mo n_refM rF ∧ r = r2 := by
  obtain ⟨hR, hD, hO, hC⟩ := h
  rcases hC with h0 | ⟨oC, oR, oL, nW, nK, rfl, rfl, hP, hM, hL, haw, hB, hN, hH, hS, hi, hW, hA, hCh, hWa⟩
  · have h0' := h0
    obtain ⟨⟨z1, z2, z3, z4⟩, ⟨z5, z6, z7⟩, ⟨y1, y2, y3⟩, ⟨y4, y5, y6⟩, ⟨x1, x2, x3, x4⟩, w1, w2⟩ := h0
    obtain ⟨n, hn⟩ := Int.eq_ofNat_of_zero_le hs.1
    have hx2 : F_X9_see g s ((0 : Nat) : Int) sw ss rws cmp refu = (r, n_rws, n_cmp, n_sw, n_ss, n_refu) := by
      rw [← hx, z3]
      rfl
    obtain ⟨r9, a9, b9, c9, d9, f9, q9, M9, e1, e2, hW2, hc9⟩ := se_t (nW := 0) (n := n) (g := g) (s := s) (sw := sw) (ss := ss) (rws := rws) (cmp := cmp) (refu := refu) (sM := sM) (rmM := rmM) (gM := gM) (refM := refM) (many := many) (mrw := mrw) (by omega) hg eg hn (es.trans hn) z6 hR ⟨w1.trans w2.symm, by omega, fun k hk => absurd hk (by omega)⟩
    rw [hx2] at e1
    rw [hm] at e2
    simp only [Prod.mk.injEq] at e1 e2
    obtain ⟨c0, c1, c2, c3, c4, c5⟩ := e1
    obtain ⟨m0, m1, m2, m3⟩ := e2
    subst c0 c1 c2 c3 c4 c5 m0 m1 m2 m3
    have hw0 : n_rws = 0 := by
      rcases hc9 with q | q
      · exact q.1.trans w1
      · have h1 := hW2.2.1
        by_cases z : n_rws = 0
        · exact z
        · exfalso
          have h2 := (hW2.2.2 0 (by omega)).2
          omega
    have hw1 : n_rmM = 0 := hW2.1.symm.trans hw0
    exact ⟨⟨rfl, hD, hO, Or.inl ⟨⟨z1, z2, z3, z4⟩, ⟨z5, z6, z7⟩, ⟨y1, y2, y3⟩, ⟨y4, y5, y6⟩, ⟨x1, x2, x3, x4⟩, hw0, hw1⟩⟩, rfl⟩
  · obtain ⟨n, hn⟩ := Int.eq_ofNat_of_zero_le hs.1
    obtain ⟨r9, a9, b9, c9, d9, f9, q9, M9, e1, e2, hW2, hc9⟩ := se_t (nW := nW) (n := n) (g := g) (s := s) (sw := sw) (ss := ss) (rws := rws) (cmp := cmp) (refu := refu) (sM := sM) (rmM := rmM) (gM := gM) (refM := refM) (many := many) (mrw := mrw) (by omega) hg eg hn (es.trans hn) hM.1 hR hW
    rw [hx] at e1
    rw [hm] at e2
    simp only [Prod.mk.injEq] at e1 e2
    obtain ⟨c0, c1, c2, c3, c4, c5⟩ := e1
    obtain ⟨m0, m1, m2, m3⟩ := e2
    subst c0 c1 c2 c3 c4 c5 m0 m1 m2 m3
    have hWa2 : waH oC oR nW cy ls kO cA clmK pcK d tr n_rws n_sw n_ss n_cmp fnd frl fgr chs chl sec := by
      rcases hc9 with ⟨q1, q2, q3, q4⟩ | q
      · rw [q1, q2, q3, q4]
        exact hWa
      · rw [q]
        exact wa_0
    exact ⟨⟨rfl, hD, hO, Or.inr ⟨oC, oR, oL, nW, nK, rfl, rfl, hP, hM, hL, haw, hB, hN, hH, hS, hi, hW2, hA, hCh, hWa2⟩⟩, rfl⟩
theorem t7_on {s cy kx d ru gr hct tkn akn cmp r n_d n_ru n_gr n_hct n_tkn n_akn n_cmp sM isc und r2 n_und ls aw wx hnx sd sru sgr sA ar pr cr we ha ad aru agr rws occ dwn fnd frl fgr chs chl awM nwst rmM moc sdd : Int} {g tr refu n_tr n_refu gM refM many bar now n_now n_refM clmK pcK kO cA comers code spans rD rR rG str cars gaps known left leaves atr atd ats sw ss oct tab sec kinds walkers cf ce codes kept mrw mo : Nat → Int} {rF : Nat → Nat → Int} (h : T7 cy ls aw kx wx d ru gr hnx hct sd sru sgr sA ar pr cr we ha ad aru agr akn rws occ dwn tkn cmp fnd frl fgr chs chl isc awM und nwst rmM moc sdd clmK pcK kO cA comers code spans tr rD rR rG str cars gaps known left leaves atr atd ats sw ss oct refu tab sec many bar kinds walkers cf ce codes now kept mrw mo refM rF) (hg : ∀ k, k < 1600 → 0 ≤ g k ∧ g k ≤ 255) (eg : gM = g) (es : sM = s) (hx : F_X9_on g s cy kx d ru gr tr hct tkn akn cmp refu = (r, n_d, n_ru, n_gr, n_tr, n_hct, n_tkn, n_akn, n_cmp, n_refu)) (hm : F_X10_on sM isc und gM refM many bar now = (r2, n_und, n_now, n_refM)) : T7 cy ls aw kx wx n_d n_ru n_gr hnx n_hct sd sru sgr sA ar pr cr we ha ad aru agr n_akn rws occ dwn n_tkn n_cmp fnd frl fgr chs chl isc awM n_und nwst rmM moc sdd clmK pcK kO cA comers code spans n_tr rD rR rG str cars gaps known left leaves atr atd ats sw ss oct n_refu tab sec many bar kinds walkers cf ce codes n_now kept mrw mo n_refM rF ∧ r = r2 := by
  obtain ⟨hR, hD, hO, hC⟩ := h
  rcases hC with h0 | ⟨oC, oR, oL, nW, nK, rfl, rfl, hP, hM, hL, haw, hB, hN, hH, hS, hi, hW, hA, hCh, hWa⟩
  · have h0' := h0
    obtain ⟨⟨z1, z2, z3, z4⟩, ⟨z5, z6, z7⟩, ⟨y1, y2, y3⟩, ⟨y4, y5, y6⟩, ⟨x1, x2, x3, x4⟩, w1, w2⟩ := h0
    have cX : F_X9_isImage g cy kx s = 0 := by
      unfold F_X9_isImage F_X9_isImage_20
      rw [st_0x z1, lf_b_e, if_pos rfl]
    have cM : F_X10_isImage isc gM many bar sM = 0 := by
      unfold F_X10_isImage F_X10_isImage_86
      rw [if_pos z4]
    unfold F_X9_on F_X9_takeTape F_X9_deny at hx
    rw [lf_b_e, lf_b_e, cX, if_pos rfl, lf_p_e] at hx
    unfold F_X10_on at hm
    rw [lf_b_e, cM, if_pos rfl] at hm
    simp only [Prod.mk.injEq] at hx hm
    obtain ⟨c0, c1, c2, c3, c4, c5, c6, c7, c8, c9⟩ := hx
    obtain ⟨m0, m1, m2, m3⟩ := hm
    subst c0 c1 c2 c3 c4 c5 c6 c7 c8 c9 m0 m1 m2 m3
    subst hR
    exact ⟨⟨rfl, hD, hO, Or.inl h0'⟩, rfl⟩
  · obtain ⟨r9, d9, a9, g9, t9, c9, k9, p9, q9, f9, u9, N9, e1, e2, aB, aN, aH, aC⟩ := on_t (nK := nK) (g := g) (gM := gM) (s := s) (sM := sM) (tkn := tkn) (akn := akn) (cmp := cmp) (refu := refu) (refM := refM) (cy := cy) hP.2.1 hM.2.2.1 hP.2.2.1.1 hi hM.2.1 hg eg es hB hN hH hR
    rw [hx] at e1
    rw [hm] at e2
    simp only [Prod.mk.injEq] at e1 e2
    obtain ⟨c0, c1, c2, c3, c4, c5, c6, c7, c8, c9⟩ := e1
    obtain ⟨m0, m1, m2, m3⟩ := e2
    subst c0 c1 c2 c3 c4 c5 c6 c7 c8 c9 m0 m1 m2 m3
    have hA2 : ahH oC oR oL nW nK cy ls kO cA clmK pcK n_d n_ru n_gr n_tr n_akn ad aru agr atr atd ats ∧ chH oC oR nW cy ls kO cA clmK pcK n_d n_tr n_tkn tab ∧ waH oC oR nW cy ls kO cA clmK pcK n_d n_tr rws sw ss n_cmp fnd frl fgr chs chl sec := by
      rcases aC with ⟨q1, q2, q3, q4, q5, q6, q7⟩ | ⟨q1, q2, q3⟩
      · rw [q1, q2, q3, q4, q5, q6, q7]
        exact ⟨hA, hCh, hWa⟩
      · rw [q1, q2, q3]
        exact ⟨ah_0, ch_0, wa_0⟩
    exact ⟨⟨rfl, hD, hO, Or.inr ⟨oC, oR, oL, nW, nK, rfl, rfl, hP, hM, hL, haw, aB, aN, aH, hS, hi, hW, hA2⟩⟩, rfl⟩
theorem dy_x00 {cy ls kx wx d ru gr hnx hct sd sru sgr sA ar pr cr we ha tkn akn cmp p0 : Int} {clmK pcK kO cA comers code spans tr rD rR rG facts stack str cars gaps known left leaves refu : Nat → Int} {rF : Nat → Nat → Int} (h : ¬ ((10 ≤ cy ∨ 0 < cy) ∧ (1 ≤ p0 ∧ p0 ≤ 30) ∧ lf_o lf_iadd d p0 ≤ 999)) : F_X9_days cy ls kx clmK pcK wx kO cA comers code spans d ru gr tr rD rR rG rF hnx hct facts stack sd str sru sgr sA ar cars gaps known left leaves pr cr we ha tkn akn cmp refu p0 = ((-1 : Int), d, hnx, hct, tr, tkn, akn, cmp, rfN refu 3, sd, sru, sgr, sA, pr, cr, we, ha, facts, stack, cars, gaps, str, known, left, leaves, rD, rR, rG, rF) := by
  unfold F_X9_days
  rw [cl_x, if_neg h, lf_b_e, if_pos rfl]
  rfl
theorem ch_x00 {cy ls aw kx wx d ru gr hnx hct sd sru sgr sA ar pr cr we ha tkn akn cmp dwn p0 : Int} {clmK pcK kO cA comers code spans tr rD rR rG facts stack str cars gaps known left leaves refu : Nat → Int} {rF : Nat → Nat → Int} (h : ¬ ((10 ≤ cy ∨ 0 < cy) ∧ (1 ≤ p0 ∧ p0 ≤ 30) ∧ lf_o lf_iadd d p0 ≤ 999)) : F_X9_chance cy ls aw kx clmK pcK wx kO cA comers code spans d ru gr tr rD rR rG rF hnx hct facts stack sd str sru sgr sA ar cars gaps known left leaves pr cr we ha tkn akn cmp refu dwn p0 = ((-1 : Int), dwn, d, hnx, hct, tr, tkn, akn, cmp, rfN refu 3, sd, sru, sgr, sA, pr, cr, we, ha, facts, stack, cars, gaps, str, known, left, leaves, rD, rR, rG, rF) := by
  unfold F_X9_chance
  rw [cl_x, if_neg h, lf_b_e, if_pos rfl]
  rfl
theorem t7_days {cy ls kx wx d ru gr hnx hct sd sru sgr sA ar pr cr we ha tkn akn cmp p0 r n_d n_hnx n_hct n_tkn n_akn n_cmp n_sd n_sru n_sgr n_sA n_pr n_cr n_we n_ha isc tk ask red io lg gt icg sg und nwst qp r2 n_tk n_ask n_red n_io n_lg n_gt n_icg n_sg n_und n_nwst n_qp aw ad aru agr rws occ dwn fnd frl fgr chs chl awM rmM moc sdd : Int} {clmK pcK kO cA comers code spans tr rD rR rG facts stack str cars gaps known left leaves refu n_tr n_refu n_facts n_stack n_cars n_gaps n_str n_known n_left n_leaves n_rD n_rR n_rG refM many bar kinds walkers cf ce codes now isCar gapM isG isH crM wtM goM hmM prM ciM kept pile n_now n_kept n_refM n_pile n_wtM n_gapM n_goM n_hmM n_isCar n_isH n_crM n_prM n_ciM n_isG atr atd ats sw ss oct tab sec mrw mo : Nat → Int} {rF n_rF : Nat → Nat → Int} (h : T7 cy ls aw kx wx d ru gr hnx hct sd sru sgr sA ar pr cr we ha ad aru agr akn rws occ dwn tkn cmp fnd frl fgr chs chl isc awM und nwst rmM moc sdd clmK pcK kO cA comers code spans tr rD rR rG str cars gaps known left leaves atr atd ats sw ss oct refu tab sec many bar kinds walkers cf ce codes now kept mrw mo refM rF) (hx : F_X9_days cy ls kx clmK pcK wx kO cA comers code spans d ru gr tr rD rR rG rF hnx hct facts stack sd str sru sgr sA ar cars gaps known left leaves pr cr we ha tkn akn cmp refu p0 = (r, n_d, n_hnx, n_hct, n_tr, n_tkn, n_akn, n_cmp, n_refu, n_sd, n_sru, n_sgr, n_sA, n_pr, n_cr, n_we, n_ha, n_facts, n_stack, n_cars, n_gaps, n_str, n_known, n_left, n_leaves, n_rD, n_rR, n_rG, n_rF)) (hm : F_X10_days isc tk ask red io lg gt icg sg und nwst qp refM many bar kinds walkers cf ce codes now isCar gapM isG isH crM wtM goM hmM prM ciM kept pile p0 = (r2, n_tk, n_ask, n_red, n_io, n_lg, n_gt, n_icg, n_sg, n_und, n_nwst, n_qp, n_now, n_kept, n_refM, n_pile, n_wtM, n_gapM, n_goM, n_hmM, n_isCar, n_isH, n_crM, n_prM, n_ciM, n_isG)) : T7 cy ls aw kx wx n_d ru gr n_hnx n_hct n_sd n_sru n_sgr n_sA ar n_pr n_cr n_we n_ha ad aru agr n_akn rws occ dwn n_tkn n_cmp fnd frl fgr chs chl isc awM n_und n_nwst rmM moc sdd clmK pcK kO cA comers code spans n_tr n_rD n_rR n_rG n_str n_cars n_gaps n_known n_left n_leaves atr atd ats sw ss oct n_refu tab sec many bar kinds walkers cf ce codes n_now n_kept mrw mo n_refM n_rF ∧ r = r2 := by
  obtain ⟨hR, hD, hO, hC⟩ := h
  rcases hC with h0 | ⟨oC, oR, oL, nW, nK, rfl, rfl, hP, hM, hL, haw, hB, hN, hH, hS, hi, hW, hA, hCh, hWa⟩
  · have h0' := h0
    obtain ⟨⟨z1, z2, z3, z4⟩, ⟨z5, z6, z7⟩, ⟨y1, y2, y3⟩, ⟨y4, y5, y6⟩, ⟨x1, x2, x3, x4⟩, w1, w2⟩ := h0
    have c := dy_x00 (cy := cy) (ls := ls) (kx := kx) (clmK := clmK) (pcK := pcK) (wx := wx) (kO := kO) (cA := cA) (comers := comers) (code := code) (spans := spans) (d := d) (ru := ru) (gr := gr) (tr := tr) (rD := rD) (rR := rR) (rG := rG) (rF := rF) (hnx := hnx) (hct := hct) (facts := facts) (stack := stack) (sd := sd) (str := str) (sru := sru) (sgr := sgr) (sA := sA) (ar := ar) (cars := cars) (gaps := gaps) (known := known) (left := left) (leaves := leaves) (pr := pr) (cr := cr) (we := we) (ha := ha) (tkn := tkn) (akn := akn) (cmp := cmp) (refu := refu) (p0 := p0) (fun q => by omega)
    obtain ⟨Q, eQ, m1, m2, m3, m4, m5, m6⟩ := dy_m0 (isc := isc) (tk := tk) (ask := ask) (red := red) (io := io) (lg := lg) (gt := gt) (icg := icg) (sg := sg) (und := und) (nwst := nwst) (qp := qp) (refM := refM) (many := many) (bar := bar) (kinds := kinds) (walkers := walkers) (cf := cf) (ce := ce) (codes := codes) (now := now) (isCar := isCar) (gapM := gapM) (isG := isG) (isH := isH) (crM := crM) (wtM := wtM) (goM := goM) (hmM := hmM) (prM := prM) (ciM := ciM) (kept := kept) (pile := pile) (p0 := p0) (d := d) (y4.trans y1.symm) (fun q => q.1 z4)
    rw [hx] at c
    rw [hm] at eQ
    subst eQ
    simp only [Prod.mk.injEq] at c
    obtain ⟨c0, c1, c2, c3, c4, c5, c6, c7, c8, c9, c10, c11, c12, c13, c14, c15, c16, c17, c18, c19, c20, c21, c22, c23, c24, c25, c26, c27, c28⟩ := c
    subst c0 c1 c2 c3 c4 c5 c6 c7 c8 c9 c10 c11 c12 c13 c14 c15 c16 c17 c18 c19 c20 c21 c22 c23 c24 c25 c26 c27 c28
    have v1 : r2 = -1 := m1
    have v2 : n_und = und := m2
    have v3 : n_nwst = nwst := m3
    have v4 : n_now = now := m4
    have v6 : n_refM = rfN refM 3 := m6
    subst v1 v2 v3 v4 v6
    subst hR
    exact ⟨⟨rfl, hD, hO, Or.inl h0'⟩, rfl⟩
  · obtain ⟨O, Q, e1, e2, i1, i2, cS, aB, aN, aH, aC⟩ := dy_t (facts := facts) (stack := stack) (tkn := tkn) (akn := akn) (cmp := cmp) (p0 := p0) (tk := tk) (ask := ask) (red := red) (io := io) (lg := lg) (gt := gt) (icg := icg) (sg := sg) (qp := qp) (isCar := isCar) (gapM := gapM) (isG := isG) (isH := isH) (crM := crM) (wtM := wtM) (goM := goM) (hmM := hmM) (prM := prM) (ciM := ciM) (pile := pile) hP hM hL hS hB hN hH hi hR
    rw [hx] at e1
    rw [hm] at e2
    subst e1 e2
    have hA2 : ahH oC oR oL nW nK cy ls kO cA clmK pcK n_d ru gr n_tr n_akn ad aru agr atr atd ats ∧ chH oC oR nW cy ls kO cA clmK pcK n_d n_tr n_tkn tab ∧ waH oC oR nW cy ls kO cA clmK pcK n_d n_tr rws sw ss n_cmp fnd frl fgr chs chl sec := by
      rcases aC with ⟨q1, q2, q3, q4, q5, q6, q7⟩ | ⟨q1, q2, q3⟩
      · have v1 : n_d = d := q1
        have v2 : n_tr = tr := q4
        have v3 : n_akn = akn := q6
        have v4 : n_tkn = tkn := q5
        have v5 : n_cmp = cmp := q7
        rw [v1, v2, v3, v4, v5]
        exact ⟨hA, hCh, hWa⟩
      · have v3 : n_akn = 0 := q2
        have v4 : n_tkn = 0 := q1
        have v5 : n_cmp = 0 := q3
        rw [v3, v4, v5]
        exact ⟨ah_0, ch_0, wa_0⟩
    exact ⟨⟨i2, hD, hO, Or.inr ⟨oC, oR, oL, nW, nK, rfl, rfl, hP, hM, hL, haw, aB, aN, aH, cS, hi, hW, hA2⟩⟩, i1⟩
theorem t7_chance {cy ls aw kx wx d ru gr hnx hct sd sru sgr sA ar pr cr we ha tkn akn cmp dwn p0 r n_dwn n_d n_hnx n_hct n_tkn n_akn n_cmp n_sd n_sru n_sgr n_sA n_pr n_cr n_we n_ha awM isc tk ask red io lg gt icg sg und nwst sdd qp r2 n_tk n_ask n_red n_io n_lg n_gt n_icg n_sg n_und n_nwst n_sdd n_qp ad aru agr rws occ fnd frl fgr chs chl rmM moc : Int} {clmK pcK kO cA comers code spans tr rD rR rG facts stack str cars gaps known left leaves refu n_tr n_refu n_facts n_stack n_cars n_gaps n_str n_known n_left n_leaves n_rD n_rR n_rG refM many bar kinds walkers cf ce codes now isCar gapM isG isH crM wtM goM hmM prM ciM kept pile n_now n_kept n_refM n_pile n_wtM n_gapM n_goM n_hmM n_isCar n_isH n_crM n_prM n_ciM n_isG atr atd ats sw ss oct tab sec mrw mo : Nat → Int} {rF n_rF : Nat → Nat → Int} (h : T7 cy ls aw kx wx d ru gr hnx hct sd sru sgr sA ar pr cr we ha ad aru agr akn rws occ dwn tkn cmp fnd frl fgr chs chl isc awM und nwst rmM moc sdd clmK pcK kO cA comers code spans tr rD rR rG str cars gaps known left leaves atr atd ats sw ss oct refu tab sec many bar kinds walkers cf ce codes now kept mrw mo refM rF) (hx : F_X9_chance cy ls aw kx clmK pcK wx kO cA comers code spans d ru gr tr rD rR rG rF hnx hct facts stack sd str sru sgr sA ar cars gaps known left leaves pr cr we ha tkn akn cmp refu dwn p0 = (r, n_dwn, n_d, n_hnx, n_hct, n_tr, n_tkn, n_akn, n_cmp, n_refu, n_sd, n_sru, n_sgr, n_sA, n_pr, n_cr, n_we, n_ha, n_facts, n_stack, n_cars, n_gaps, n_str, n_known, n_left, n_leaves, n_rD, n_rR, n_rG, n_rF)) (hm : F_X10_chance awM isc tk ask red io lg gt icg sg und nwst sdd qp refM many bar kinds walkers cf ce codes now isCar gapM isG isH crM wtM goM hmM prM ciM kept pile p0 = (r2, n_tk, n_ask, n_red, n_io, n_lg, n_gt, n_icg, n_sg, n_und, n_nwst, n_sdd, n_qp, n_now, n_kept, n_refM, n_pile, n_wtM, n_gapM, n_goM, n_hmM, n_isCar, n_isH, n_crM, n_prM, n_ciM, n_isG)) : T7 cy ls aw kx wx n_d ru gr n_hnx n_hct n_sd n_sru n_sgr n_sA ar n_pr n_cr n_we n_ha ad aru agr n_akn rws occ n_dwn n_tkn n_cmp fnd frl fgr chs chl isc awM n_und n_nwst rmM moc n_sdd clmK pcK kO cA comers code spans n_tr n_rD n_rR n_rG n_str n_cars n_gaps n_known n_left n_leaves atr atd ats sw ss oct n_refu tab sec many bar kinds walkers cf ce codes n_now n_kept mrw mo n_refM n_rF ∧ r = r2 := by
  obtain ⟨hR, hD, hO, hC⟩ := h
  rcases hC with h0 | ⟨oC, oR, oL, nW, nK, rfl, rfl, hP, hM, hL, haw, hB, hN, hH, hS, hi, hW, hA, hCh, hWa⟩
  · have h0' := h0
    obtain ⟨⟨z1, z2, z3, z4⟩, ⟨z5, z6, z7⟩, ⟨y1, y2, y3⟩, ⟨y4, y5, y6⟩, ⟨x1, x2, x3, x4⟩, w1, w2⟩ := h0
    have c := ch_x00 (cy := cy) (ls := ls) (aw := aw) (kx := kx) (clmK := clmK) (pcK := pcK) (wx := wx) (kO := kO) (cA := cA) (comers := comers) (code := code) (spans := spans) (d := d) (ru := ru) (gr := gr) (tr := tr) (rD := rD) (rR := rR) (rG := rG) (rF := rF) (hnx := hnx) (hct := hct) (facts := facts) (stack := stack) (sd := sd) (str := str) (sru := sru) (sgr := sgr) (sA := sA) (ar := ar) (cars := cars) (gaps := gaps) (known := known) (left := left) (leaves := leaves) (pr := pr) (cr := cr) (we := we) (ha := ha) (tkn := tkn) (akn := akn) (cmp := cmp) (refu := refu) (dwn := dwn) (p0 := p0) (fun q => by omega)
    obtain ⟨Q, eQ, m1, m2, m3, m3b, m4, m5, m6⟩ := ch_m0 (awM := awM) (isc := isc) (tk := tk) (ask := ask) (red := red) (io := io) (lg := lg) (gt := gt) (icg := icg) (sg := sg) (und := und) (nwst := nwst) (sdd := sdd) (qp := qp) (refM := refM) (many := many) (bar := bar) (kinds := kinds) (walkers := walkers) (cf := cf) (ce := ce) (codes := codes) (now := now) (isCar := isCar) (gapM := gapM) (isG := isG) (isH := isH) (crM := crM) (wtM := wtM) (goM := goM) (hmM := hmM) (prM := prM) (ciM := ciM) (kept := kept) (pile := pile) (p0 := p0) (d := d) (y4.trans y1.symm) (fun q => q.1 z4)
    rw [hx] at c
    rw [hm] at eQ
    subst eQ
    simp only [Prod.mk.injEq] at c
    obtain ⟨c0, c1, c2, c3, c4, c5, c6, c7, c8, c9, c10, c11, c12, c13, c14, c15, c16, c17, c18, c19, c20, c21, c22, c23, c24, c25, c26, c27, c28, c29⟩ := c
    subst c0 c1 c2 c3 c4 c5 c6 c7 c8 c9 c10 c11 c12 c13 c14 c15 c16 c17 c18 c19 c20 c21 c22 c23 c24 c25 c26 c27 c28 c29
    have v1 : r2 = -1 := m1
    have v2 : n_und = und := m2
    have v3 : n_nwst = nwst := m3
    have v4 : n_now = now := m4
    have v6 : n_refM = rfN refM 3 := m6
    have v7 : n_sdd = sdd := m3b
    subst v7
    subst v1 v2 v3 v4 v6
    subst hR
    exact ⟨⟨rfl, hD, hO, Or.inl h0'⟩, rfl⟩
  · obtain ⟨s0, d0, d1, d2⟩ := hD
    obtain ⟨O, Q, e1, e2, i1, i2, ⟨s1, s2, s3, s4⟩, cS, aB, aN, aH, aC⟩ := ch_t (facts := facts) (stack := stack) (tkn := tkn) (akn := akn) (cmp := cmp) (p0 := p0) (tk := tk) (ask := ask) (red := red) (io := io) (lg := lg) (gt := gt) (icg := icg) (sg := sg) (qp := qp) (isCar := isCar) (gapM := gapM) (isG := isG) (isH := isH) (crM := crM) (wtM := wtM) (goM := goM) (hmM := hmM) (prM := prM) (ciM := ciM) (pile := pile) hP hM hL hS hB hN hH hi hR d0 d1 d2 haw
    rw [hx] at e1
    rw [hm] at e2
    subst e1 e2
    have hA2 : ahH oC oR oL nW nK cy ls kO cA clmK pcK n_d ru gr n_tr n_akn ad aru agr atr atd ats ∧ chH oC oR nW cy ls kO cA clmK pcK n_d n_tr n_tkn tab ∧ waH oC oR nW cy ls kO cA clmK pcK n_d n_tr rws sw ss n_cmp fnd frl fgr chs chl sec := by
      rcases aC with ⟨q1, q2, q3, q4, q5, q6, q7⟩ | ⟨q1, q2, q3⟩
      · have v1 : n_d = d := q1
        have v2 : n_tr = tr := q4
        have v3 : n_akn = akn := q6
        have v4 : n_tkn = tkn := q5
        have v5 : n_cmp = cmp := q7
        rw [v1, v2, v3, v4, v5]
        exact ⟨hA, hCh, hWa⟩
      · have v3 : n_akn = 0 := q2
        have v4 : n_tkn = 0 := q1
        have v5 : n_cmp = 0 := q3
        rw [v3, v4, v5]
        exact ⟨ah_0, ch_0, wa_0⟩
    exact ⟨⟨i2, ⟨s1, s2, s3, s4⟩, hO, Or.inr ⟨oC, oR, oL, nW, nK, rfl, rfl, hP, hM, hL, haw, aB, aN, aH, cS, hi, hW, hA2⟩⟩, i1⟩
theorem as_c {nW nK : Nat} {oC oR : Option (List Int)} {s cy ls x_this_spare_cycle x_this_spare_away x_this_spare_statements x_this_spare_kinds x_this_spare_walkers x_this_spare_size d ru gr x_this_reader_length x_this_reader_at x_this_reader_behind x_this_reader_sort x_this_reader_allowed fa pl sd sru sgr sA ar pr cr we ha : Int} {g clmK pcK kO cA comers code spans g_this_spare_comers g_this_spare_code g_this_spare_spans tr facts stack str cars gaps known left leaves : Nat → Int} {a_this_spare a_this_reader_plan : Nat} (hP : plH nW nK cy ls oC oR kO cA clmK pcK comers code spans ar) (hS : sfH oC oR nW nK cy ls kO cA clmK pcK sd str sru sgr sA cars gaps known left leaves pr cr we ha) (hB : stB nK d ru gr tr) : ∃ O, O = F_X9_ask g s cy ls (nK : Int) clmK pcK (nW : Int) kO cA comers code spans a_this_spare x_this_spare_cycle x_this_spare_away x_this_spare_statements x_this_spare_kinds x_this_spare_walkers g_this_spare_comers g_this_spare_code x_this_spare_size g_this_spare_spans d ru gr tr facts stack a_this_reader_plan x_this_reader_length x_this_reader_at x_this_reader_behind x_this_reader_sort x_this_reader_allowed fa pl sd str sru sgr sA ar cars gaps known left leaves pr cr we ha ∧ sfH oC oR nW nK cy ls kO cA clmK pcK O.2.2.2.2.2.2.2.2.2.2.2.2.2.2.2.2.2.2.1 O.2.2.2.2.2.2.2.2.2.2.2.2.2.2.2.2.2.2.2.2.2.2.2.2.2.2.2.2.2.2.1 O.2.2.2.2.2.2.2.2.2.2.2.2.2.2.2.2.2.2.2.1 O.2.2.2.2.2.2.2.2.2.2.2.2.2.2.2.2.2.2.2.2.1 O.2.2.2.2.2.2.2.2.2.2.2.2.2.2.2.2.2.2.2.2.2.1 O.2.2.2.2.2.2.2.2.2.2.2.2.2.2.2.2.2.2.2.2.2.2.2.2.2.2.2.2.1 O.2.2.2.2.2.2.2.2.2.2.2.2.2.2.2.2.2.2.2.2.2.2.2.2.2.2.2.2.2.1 O.2.2.2.2.2.2.2.2.2.2.2.2.2.2.2.2.2.2.2.2.2.2.2.2.2.2.2.2.2.2.2.1 O.2.2.2.2.2.2.2.2.2.2.2.2.2.2.2.2.2.2.2.2.2.2.2.2.2.2.2.2.2.2.2.2.1 O.2.2.2.2.2.2.2.2.2.2.2.2.2.2.2.2.2.2.2.2.2.2.2.2.2.2.2.2.2.2.2.2.2 O.2.2.2.2.2.2.2.2.2.2.2.2.2.2.2.2.2.2.2.2.2.2.1 O.2.2.2.2.2.2.2.2.2.2.2.2.2.2.2.2.2.2.2.2.2.2.2.1 O.2.2.2.2.2.2.2.2.2.2.2.2.2.2.2.2.2.2.2.2.2.2.2.2.1 O.2.2.2.2.2.2.2.2.2.2.2.2.2.2.2.2.2.2.2.2.2.2.2.2.2.1 := by
  obtain ⟨pr2, cr2, we2, ha2, f2, s2, c2, g2, t2, k2, l2, v2, e, h1, h2, h3⟩ := lt_x (facts := facts) (stack := stack) hP hS hB
  unfold F_X9_ask F_X9_takeTape
  rw [lf_b_e, st_1x hP.2.2.1.1, lf_b_e, if_neg (show ¬ (1 : Int) = 0 from by decide)]
  generalize F_X5_readQuestion g g_this_spare_comers g_this_spare_code g_this_spare_spans s = R
  obtain ⟨r0, r1, r2, r3, r4, r5, r6, r7, r8, r9, r10⟩ := R
  rw [lf_p_e, lf_p_e, lf_p_e, lf_p_e, lf_p_e, lf_p_e, lf_p_e, lf_p_e, lf_p_e, lf_p_e]
  by_cases q : r5 = 0
  · rw [if_pos q, e, lf_p_e, lf_p_e, lf_p_e, lf_p_e, lf_p_e, lf_p_e, lf_p_e, lf_p_e, lf_p_e, lf_p_e, lf_p_e, lf_p_e, lf_p_e, lf_p_e, lf_p_e]
    exact ⟨_, rfl, h1⟩
  · rw [if_neg q]
    exact ⟨_, rfl, hS⟩
theorem t7_ask {s cy ls kx wx x_this_spare_cycle x_this_spare_away x_this_spare_statements x_this_spare_kinds x_this_spare_walkers x_this_spare_size d ru gr x_this_reader_length x_this_reader_at x_this_reader_behind x_this_reader_sort x_this_reader_allowed fa pl sd sru sgr sA ar pr cr we ha r n_x_this_reader_length n_x_this_reader_at n_x_this_reader_behind n_x_this_reader_sort n_x_this_reader_allowed n_fa n_pl n_x_this_spare_cycle n_x_this_spare_away n_x_this_spare_statements n_x_this_spare_kinds n_x_this_spare_walkers n_x_this_spare_size n_sd n_sru n_sgr n_sA n_pr n_cr n_we n_ha sM x_at x_end x_ended x_bad x_badPlace mf mp0 isc tk ask red io lg gt icg sg x_qCoded x_qWaits x_qOpened x_qBase qp x_qAnswer x_qIsNew r2 n_x_at n_x_end n_x_ended n_x_bad n_x_badPlace n_mf n_mp0 n_tk n_ask n_red n_io n_lg n_gt n_icg n_sg n_x_qCoded n_x_qWaits n_x_qOpened n_x_qBase n_qp n_x_qAnswer n_x_qIsNew aw hnx hct ad aru agr akn rws occ dwn tkn cmp fnd frl fgr chs chl awM und nwst rmM moc sdd : Int} {g clmK pcK kO cA comers code spans g_this_spare_comers g_this_spare_code g_this_spare_spans tr facts stack str cars gaps known left leaves n_g_this_spare_comers n_g_this_spare_spans n_g_this_spare_code n_facts n_stack n_cars n_gaps n_str n_known n_left n_leaves gM many bar kinds walkers cf ce codes now isCar gapM isG isH crM wtM goM hmM prM ciM g_firstAsked g_lastAsked g_oftenAsked g_totalAsked g_mostAsked g_leastAsked g_notAsked g_andAsked g_orAsked g_allAsked g_minAsked g_maxAsked g_secondAsked g_dayAsked g_phaseAsked g_waitedAsked g_calmAsked g_paceAsked g_trustsAsked g_gapAsked g_redsAsked g_numberAsked g_wentAsked g_harmAsked g_kindofAsked g_qCodes g_qWait pile n_g_qWait n_g_qCodes n_pile n_wtM n_gapM n_goM n_hmM n_isCar n_isH n_crM n_prM n_ciM n_isG rD rR rG atr atd ats sw ss oct refu tab sec kept mrw mo refM : Nat → Int} {rF : Nat → Nat → Int} {a_this_spare a_this_reader_plan z_n5 : Nat} (h : T7 cy ls aw kx wx d ru gr hnx hct sd sru sgr sA ar pr cr we ha ad aru agr akn rws occ dwn tkn cmp fnd frl fgr chs chl isc awM und nwst rmM moc sdd clmK pcK kO cA comers code spans tr rD rR rG str cars gaps known left leaves atr atd ats sw ss oct refu tab sec many bar kinds walkers cf ce codes now kept mrw mo refM rF) (hx : F_X9_ask g s cy ls kx clmK pcK wx kO cA comers code spans a_this_spare x_this_spare_cycle x_this_spare_away x_this_spare_statements x_this_spare_kinds x_this_spare_walkers g_this_spare_comers g_this_spare_code x_this_spare_size g_this_spare_spans d ru gr tr facts stack a_this_reader_plan x_this_reader_length x_this_reader_at x_this_reader_behind x_this_reader_sort x_this_reader_allowed fa pl sd str sru sgr sA ar cars gaps known left leaves pr cr we ha = (r, n_x_this_reader_length, n_x_this_reader_at, n_x_this_reader_behind, n_x_this_reader_sort, n_x_this_reader_allowed, z_n5, n_fa, n_pl, n_x_this_spare_cycle, n_x_this_spare_away, n_x_this_spare_statements, n_x_this_spare_kinds, n_x_this_spare_walkers, n_x_this_spare_size, n_g_this_spare_comers, n_g_this_spare_spans, n_g_this_spare_code, n_sd, n_sru, n_sgr, n_sA, n_pr, n_cr, n_we, n_ha, n_facts, n_stack, n_cars, n_gaps, n_str, n_known, n_left, n_leaves)) (hm : F_X10_ask sM x_at x_end x_ended x_bad x_badPlace mf mp0 isc tk ask red io lg gt icg sg x_qCoded x_qWaits x_qOpened x_qBase qp x_qAnswer x_qIsNew gM many bar kinds walkers cf ce codes now isCar gapM isG isH crM wtM goM hmM prM ciM g_firstAsked g_lastAsked g_oftenAsked g_totalAsked g_mostAsked g_leastAsked g_notAsked g_andAsked g_orAsked g_allAsked g_minAsked g_maxAsked g_secondAsked g_dayAsked g_phaseAsked g_waitedAsked g_calmAsked g_paceAsked g_trustsAsked g_gapAsked g_redsAsked g_numberAsked g_wentAsked g_harmAsked g_kindofAsked g_qCodes g_qWait pile = (r2, n_x_at, n_x_end, n_x_ended, n_x_bad, n_x_badPlace, n_mf, n_mp0, n_tk, n_ask, n_red, n_io, n_lg, n_gt, n_icg, n_sg, n_x_qCoded, n_x_qWaits, n_x_qOpened, n_x_qBase, n_qp, n_x_qAnswer, n_x_qIsNew, n_g_qWait, n_g_qCodes, n_pile, n_wtM, n_gapM, n_goM, n_hmM, n_isCar, n_isH, n_crM, n_prM, n_ciM, n_isG)) : T7 cy ls aw kx wx d ru gr hnx hct n_sd n_sru n_sgr n_sA ar n_pr n_cr n_we n_ha ad aru agr akn rws occ dwn tkn cmp fnd frl fgr chs chl isc awM und nwst rmM moc sdd clmK pcK kO cA comers code spans tr rD rR rG n_str n_cars n_gaps n_known n_left n_leaves atr atd ats sw ss oct refu tab sec many bar kinds walkers cf ce codes now kept mrw mo refM rF := by
  obtain ⟨hR, hD, hO, hC⟩ := h
  rcases hC with h0 | ⟨oC, oR, oL, nW, nK, rfl, rfl, hP, hM, hL, haw, hB, hN, hH, hS, hi, hW, hA, hCh, hWa⟩
  · exact ⟨hR, hD, hO, Or.inl h0⟩
  · obtain ⟨O, eO, cS⟩ := as_c (g := g) (s := s) (a_this_spare := a_this_spare) (x_this_spare_cycle := x_this_spare_cycle) (x_this_spare_away := x_this_spare_away) (x_this_spare_statements := x_this_spare_statements) (x_this_spare_kinds := x_this_spare_kinds) (x_this_spare_walkers := x_this_spare_walkers) (g_this_spare_comers := g_this_spare_comers) (g_this_spare_code := g_this_spare_code) (x_this_spare_size := x_this_spare_size) (g_this_spare_spans := g_this_spare_spans) (facts := facts) (stack := stack) (a_this_reader_plan := a_this_reader_plan) (x_this_reader_length := x_this_reader_length) (x_this_reader_at := x_this_reader_at) (x_this_reader_behind := x_this_reader_behind) (x_this_reader_sort := x_this_reader_sort) (x_this_reader_allowed := x_this_reader_allowed) (fa := fa) (pl := pl) hP hS hB
    rw [hx] at eO
    subst eO
    exact ⟨hR, hD, hO, Or.inr ⟨oC, oR, oL, nW, nK, rfl, rfl, hP, hM, hL, haw, hB, hN, hH, cS, hi, hW, hA, hCh, hWa⟩⟩
theorem sp_num_b {g : Nat → Int} {n p : Nat} {lo hi : Int} (h : lo ≤ hi) : lo ≤ (sp_num g n lo hi p).1 ∧ (sp_num g n lo hi p).1 ≤ hi := by
  refine ⟨sp_num_lo, ?_⟩
  unfold sp_num
  by_cases k : tx_k g n p = 2
  · rw [if_pos k]
    by_cases k2 : tx_e g n p - tx_a g n p ≤ 4
    · rw [if_pos k2]
      by_cases k3 : dval g (tx_e g n p - tx_a g n p) (tx_a g n p) 0 < lo ∨ hi < dval g (tx_e g n p - tx_a g n p) (tx_a g n p) 0
      · rw [if_pos k3]
        exact h
      · rw [if_neg k3]
        show dval g (tx_e g n p - tx_a g n p) (tx_a g n p) 0 ≤ hi
        omega
    · rw [if_neg k2]
      exact h
  · rw [if_neg k]
    exact h
theorem spn7_b {g : Nat → Int} {n p : Nat} {ws : List (List Int)} {lo hi : Int} (h : lo ≤ hi) : lo ≤ (sp_nb g n ws lo hi p).1 ∧ (sp_nb g n ws lo hi p).1 ≤ hi := by
  unfold sp_nb
  cases sp_w g n ws p with
  | inl q => exact ⟨Int.le_refl _, h⟩
  | inr p2 => exact sp_num_b h
theorem sbv_b {lo hi : Int} {s : ST} {k : Nat → Int × ST} {z : Int} (h : lo ≤ z ∧ z ≤ hi) (hk : ∀ p, lo ≤ (k p).1 ∧ (k p).1 ≤ hi) : lo ≤ (sbv s k z).1 ∧ (sbv s k z).1 ≤ hi := by
  cases s with
  | inl q => exact h
  | inr p => exact hk p
theorem sp_first {g : Nat → Int} {n : Nat} {s : ST} : (10 ≤ (sp_1a g n s).1 ∧ (sp_1a g n s).1 ≤ 120) ∧ (1 ≤ (sp_1b g n s).1 ∧ (sp_1b g n s).1 ≤ 60) ∧ (0 ≤ (sp_1c g n s).1 ∧ (sp_1c g n s).1 ≤ 2) ∧ (0 ≤ (sp_1d g n s).1 ∧ (sp_1d g n s).1 ≤ 99) := by
  have ha : 10 ≤ (sp_1a g n s).1 ∧ (sp_1a g n s).1 ≤ 120 := sbv_b (by decide) (fun p => spn7_b (by decide))
  have hb : 1 ≤ (sp_1b g n s).1 ∧ (sp_1b g n s).1 ≤ min 60 ((sp_1a g n s).1 - 1) := sbv_b (by omega) (fun p => spn7_b (by omega))
  exact ⟨ha, by omega, sbv_b (by decide) (fun p => spn7_b (by decide)), sbv_b (by decide) (fun p => spn7_b (by decide))⟩
/-- what a crossing leaves in the class -/
def crX7 (g : Nat → Int) (n : Nat) (R : Sum (Int × Int) (Nat × PL)) (pr : PR) (cy ls aw kx wx d ru gr hct sd ar akn rws tkn cmp : Int) (clmK pcK kO cA comers code spans tr refu : Nat → Int) (n_cy n_ls n_aw n_kx n_wx n_d n_ru n_gr n_hct n_sd n_ar n_akn n_rws n_tkn n_cmp : Int) (n_clmK n_pcK n_kO n_cA n_comers n_code n_spans n_tr n_refu : Nat → Int) : Prop := match R with
  | .inl _ => n_refu = rfN refu 1 ∧ n_cy = cy ∧ n_ls = ls ∧ n_aw = aw ∧ n_kx = kx ∧ n_wx = wx ∧ n_d = d ∧ n_ru = ru ∧ n_gr = gr ∧ n_hct = hct ∧ n_sd = sd ∧ n_ar = ar ∧ n_rws = rws ∧ n_tkn = tkn ∧ n_cmp = cmp ∧ n_clmK = clmK ∧ n_pcK = pcK ∧ n_kO = kO ∧ n_cA = cA ∧ n_comers = comers ∧ n_code = code ∧ n_spans = spans ∧ n_tr = tr ∧ n_akn = akn
  | .inr x => n_refu = refu ∧ n_kx = (x.2.1.length : Int) ∧ n_wx = (x.2.2.1.length : Int) ∧ n_cy = (sp_1a g n (.inr 0)).1 ∧ n_ls = (sp_1d g n (.inr 0)).1 ∧ prI pr x.2.1.length x.2.2.1.length ∧ (∃ (pt : Nat → Int) (sz : Int), prX pr n_comers n_spans n_clmK n_pcK pt n_kO n_cA n_code sz n_aw ∧ sz ≤ 1600 ∧ ∀ k, k < 6 → n_tr k = pt k) ∧ n_d = 0 ∧ n_ru = (sp_1c g n (.inr 0)).1 ∧ n_gr = (sp_1b g n (.inr 0)).1 ∧ (n_ar = 0 → no48 pr.2.2.2.1) ∧ n_sd = -1 ∧ n_hct = 0 ∧ n_rws = 0 ∧ n_akn = 0 ∧ n_tkn = 0 ∧ n_cmp = 0
/-- and in the model -/
def crM7 (g : Nat → Int) (n : Nat) (R : Sum (Int × Int) (Nat × PL)) (pr : PR) (isc awM und rmM : Int) (many bar kinds walkers cf ce codes now refM : Nat → Int) (n_isc n_awM n_und n_rmM : Int) (n_many n_bar n_kinds n_walkers n_cf n_ce n_codes n_now n_refM : Nat → Int) : Prop := match R with
  | .inl _ => (∀ j, 2 ≤ j → n_many j = many j) ∧ (n_bar 4 = bar 4 ∧ n_bar 7 = bar 7) ∧ n_isc = isc ∧ frM kinds walkers cf ce codes n_kinds n_walkers n_cf n_ce n_codes ∧ n_now = now ∧ n_awM = awM ∧ n_rmM = rmM ∧ n_und = und ∧ n_refM = rfN refM 1
  | .inr x => n_many 2 = (x.2.1.length : Int) ∧ n_many 3 = (x.2.2.1.length : Int) ∧ n_bar 4 = (sp_1a g n (.inr 0)).1 ∧ n_bar 7 = (sp_1d g n (.inr 0)).1 ∧ n_isc = 1 ∧ stQr pr x.2.1.length x.2.2.1.length n_kinds n_walkers n_cf n_ce n_codes n_now ∧ n_awM = pr.2.2.2.2.2 ∧ n_rmM = 0 ∧ n_und = 0 ∧ n_now 0 = 0 ∧ n_now 1 = (sp_1c g n (.inr 0)).1 ∧ n_now 2 = (sp_1b g n (.inr 0)).1 ∧ n_refM = refM
theorem cdM_fr {cf ce codes n_cf n_ce n_codes : Nat → Int} {k : Nat} {o : Option (List Int)} (hk : 3 ≤ k) (h : cdM cf ce codes k o) (e1 : ∀ j, 3 ≤ j → n_cf j = cf j) (e2 : ∀ j, 3 ≤ j → n_ce j = ce j) (e3 : ∀ j, 1600 ≤ j → n_codes j = codes j) : cdM n_cf n_ce n_codes k o := by
  cases o with
  | none =>
    have h' : cf k = -1 := h
    exact (e1 k hk).trans h'
  | some L =>
    obtain ⟨i, a1, a2, a3, a4⟩ := h
    refine ⟨i, (e1 k hk).trans a1, (e2 k hk).trans a2, a3, fun j hj => ?_⟩
    rw [e3 _ (by omega)]
    exact a4 j hj
theorem pmH_fr {nW nK : Nat} {cy ls : Int} {oC oR oL : Option (List Int)} {kO cA clmK pcK many bar kinds walkers cf ce codes n_many n_bar n_kinds n_walkers n_cf n_ce n_codes : Nat → Int} (h : pmH nW nK cy ls oC oR oL kO cA clmK pcK many bar kinds walkers cf ce codes) (e1 : ∀ j, 2 ≤ j → n_many j = many j) (e2 : n_bar 4 = bar 4 ∧ n_bar 7 = bar 7) (e3 : frM kinds walkers cf ce codes n_kinds n_walkers n_cf n_ce n_codes) : pmH nW nK cy ls oC oR oL kO cA clmK pcK n_many n_bar n_kinds n_walkers n_cf n_ce n_codes := by
  obtain ⟨p1, p2, p3, p4, p5, p6, p7, p8, p9⟩ := h
  obtain ⟨f1, f2, f3, f4, f5⟩ := e3
  refine ⟨(e1 3 (by decide)).trans p1, (e1 2 (by decide)).trans p2, e2.1.trans p3, e2.2.trans p4, fun w hw => ?_, fun k hk => ?_, cdM_fr (by decide) p7 f3 f4 f5, cdM_fr (by decide) p8 f3 f4 f5, cdM_fr (by decide) p9 f3 f4 f5⟩
  · rw [f2 _ (by omega), f2 _ (by omega)]
    exact p5 w hw
  · rw [f1 _ (by omega), f1 _ (by omega)]
    exact p6 k hk
theorem t7_crossing {g : Nat → Int} {n : Nat} {R : Sum (Int × Int) (Nat × PL)} {prc : PR} {cy ls aw kx wx d ru gr hnx hct sd sru sgr sA ar pr cr we ha ad aru agr akn rws occ dwn tkn cmp fnd frl fgr chs chl isc awM und nwst rmM moc sdd n_cy n_ls n_aw n_kx n_wx n_d n_ru n_gr n_hct n_sd n_ar n_akn n_rws n_tkn n_cmp n_isc n_awM n_und n_rmM : Int} {clmK pcK kO cA comers code spans tr rD rR rG str cars gaps known left leaves atr atd ats sw ss oct refu tab sec many bar kinds walkers cf ce codes now kept mrw mo refM n_clmK n_pcK n_kO n_cA n_comers n_code n_spans n_tr n_refu n_many n_bar n_kinds n_walkers n_cf n_ce n_codes n_now n_refM : Nat → Int} {rF : Nat → Nat → Int} (h : T7 cy ls aw kx wx d ru gr hnx hct sd sru sgr sA ar pr cr we ha ad aru agr akn rws occ dwn tkn cmp fnd frl fgr chs chl isc awM und nwst rmM moc sdd clmK pcK kO cA comers code spans tr rD rR rG str cars gaps known left leaves atr atd ats sw ss oct refu tab sec many bar kinds walkers cf ce codes now kept mrw mo refM rF) (hx : crX7 g n R prc cy ls aw kx wx d ru gr hct sd ar akn rws tkn cmp clmK pcK kO cA comers code spans tr refu n_cy n_ls n_aw n_kx n_wx n_d n_ru n_gr n_hct n_sd n_ar n_akn n_rws n_tkn n_cmp n_clmK n_pcK n_kO n_cA n_comers n_code n_spans n_tr n_refu) (hm : crM7 g n R prc isc awM und rmM many bar kinds walkers cf ce codes now refM n_isc n_awM n_und n_rmM n_many n_bar n_kinds n_walkers n_cf n_ce n_codes n_now n_refM) : T7 n_cy n_ls n_aw n_kx n_wx n_d n_ru n_gr hnx n_hct n_sd sru sgr sA n_ar pr cr we ha ad aru agr n_akn n_rws occ dwn n_tkn n_cmp fnd frl fgr chs chl n_isc n_awM n_und nwst n_rmM moc sdd n_clmK n_pcK n_kO n_cA n_comers n_code n_spans n_tr rD rR rG str cars gaps known left leaves atr atd ats sw ss oct n_refu tab sec n_many n_bar n_kinds n_walkers n_cf n_ce n_codes n_now kept mrw mo n_refM rF := by
  obtain ⟨hR, hD, hO, hC⟩ := h
  cases R with
  | inl q =>
    obtain ⟨x0, x_cy, x_ls, x_aw, x_kx, x_wx, x_d, x_ru, x_gr, x_hct, x_sd, x_ar, x_rws, x_tkn, x_cmp, x_clmK, x_pcK, x_kO, x_cA, x_comers, x_code, x_spans, x_tr, x_akn⟩ := hx
    obtain ⟨m1, m2, m3, m4, m5, m6, m7, m8, m9⟩ := hm
    subst x_cy x_ls x_aw x_kx x_wx x_d x_ru x_gr x_hct x_sd x_ar x_rws x_tkn x_cmp x_clmK x_pcK x_kO x_cA x_comers x_code x_spans x_tr x_akn x0 m3 m5 m6 m7 m8 m9 hR
    refine ⟨rfl, hD, hO, ?_⟩
    rcases hC with h0 | ⟨oC, oR, oL, nW, nK, k1, k2, hP, hM, hL, haw, hB, hN, hH, hS, hi, hW, hA, hCh, hWa⟩
    · obtain ⟨z1, ⟨z5, z6, z7⟩, z8⟩ := h0
      exact Or.inl ⟨z1, ⟨(m1 2 (Nat.le_refl 2)).trans z5, (m1 3 (by decide)).trans z6, m2.1.trans z7⟩, z8⟩
    · exact Or.inr ⟨oC, oR, oL, nW, nK, k1, k2, hP, pmH_fr hM m1 m2 m4, hL, haw, hB, hN, hH, hS, hi, hW, hA, hCh, hWa⟩
  | inr x =>
    obtain ⟨x1, x2, x3, x4, x5, x6, ⟨pt, sz, x7, x8, x9⟩, x10, x11, x12, x13, x14, x15, x16, x17, x18, x19⟩ := hx
    obtain ⟨m1, m2, m3, m4, m5, m6, m7, m8, m9, m10, m11, m12, m13⟩ := hm
    obtain ⟨b1, b2', b3, b4⟩ := sp_first (g := g) (n := n) (s := .inr 0)
    obtain ⟨t1, t2, t3, t4⟩ := pl_tie (cy := n_cy) (ls := n_ls) (ar := n_ar) x6 x7 x8 m6 x13 (by rw [x4]; exact b1) m2 m1 (m3.trans x4.symm) (m4.trans x5.symm)
    have hh : (0 ≤ hnx ∧ hnx ≤ 19) ∧ (0 ≤ nwst ∧ nwst ≤ 19) := by
      rcases hC with h0 | ⟨oC, oR, oL, nW, nK, k1, k2, hP, hM, hL, haw, hB, hN, hH, hS, hi, hW, hA, hCh, hWa⟩
      · exact h0.2.2.2.2.1.2.2
      · exact ⟨hH.1.1, hH.1.2.1⟩
    have hK6 := t1.2.1
    refine ⟨by rw [x1, m13]; exact hR, hD, hO, Or.inr ⟨prc.2.2.1, prc.2.2.2.1, prc.2.2.2.2.1, x.2.2.1.length, x.2.1.length, x2, x3, t1, t2, t3, ?_, ⟨by rw [x10]; decide, by rw [x11]; exact b3, by rw [x12]; exact b2', fun k hk => ?_⟩, ⟨m10.trans x10.symm, m11.trans x11.symm, m12.trans x12.symm, fun k hk => ?_⟩, ⟨⟨hh.1, hh.2, by rw [x15, m9], by rw [x15]; decide⟩, fun i hi => absurd hi (by omega)⟩, Or.inl x14, m5, ⟨by rw [x16, m8], by rw [x16]; decide, fun k hk => absurd hk (by omega)⟩, ?_, ?_, ?_⟩⟩
    · rw [m7]
      exact (x7.2.2.2.2.1).symm
    · rw [x9 k (by omega)]
      exact (t4 k hk).2
    · rw [x9 k (by omega)]
      exact t4 k hk
    · rw [x17]
      exact ah_0
    · rw [x18]
      exact ch_0
    · rw [x19]
      exact wa_0
theorem x7_no {g : Nat → Int} {n : Nat} {R : Sum (Int × Int) (Nat × PL)} {pr : PR} {O : Int × Nat × Nat × Int × Int × Int × Int × Int × Int × Int × Int × Int × Int × Int × Int × Int × Int × Int × Int × (Nat → Int) × (Nat → Int) × (Nat → Int) × (Nat → Int) × (Nat → Int) × (Nat → Int) × (Nat → Int) × (Nat → Int) × (Nat → Int) × Int × Int × Int × (Nat → Int) × Int × Int × Int × Nat × Int × Int × Int × Int × (Nat → Int)} {cy ls aw kx wx d ru gr hct sd ar akn rws tkn cmp : Int} {clmK pcK kO cA comers code spans tr refu : Nat → Int} (hX : tellX g n O R) (hY : tellY O d ru gr tr hct sd ar tkn akn rws cmp R pr) (hZ : tlZf refu O R) (e : O.1 = -1) : crX7 g n R pr cy ls aw kx wx d ru gr hct sd ar akn rws tkn cmp clmK pcK kO cA comers code spans tr refu cy ls aw kx wx O.2.2.2.2.2.2.2.2.2.2.2.2.2.2.2.2.2.2.2.2.2.2.2.2.2.2.2.2.1 O.2.2.2.2.2.2.2.2.2.2.2.2.2.2.2.2.2.2.2.2.2.2.2.2.2.2.2.2.2.1 O.2.2.2.2.2.2.2.2.2.2.2.2.2.2.2.2.2.2.2.2.2.2.2.2.2.2.2.2.2.2.1 O.2.2.2.2.2.2.2.2.2.2.2.2.2.2.2.2.2.2.2.2.2.2.2.2.2.2.2.2.2.2.2.2.1 O.2.2.2.2.2.2.2.2.2.2.2.2.2.2.2.2.2.2.2.2.2.2.2.2.2.2.2.2.2.2.2.2.2.2.2.2.1 O.2.2.2.2.2.2.2.2.2.2.2.2.2.2.2.2.2.2.2.2.2.2.2.2.2.2.2.2.2.2.2.2.2.2.2.2.2.1 O.2.2.2.2.2.2.2.2.2.2.2.2.2.2.2.2.2.2.2.2.2.2.2.2.2.2.2.2.2.2.2.2.2.2.2.2.2.2.2.1 O.2.2.2.2.2.2.2.2.2.2.2.2.2.2.2.2.2.2.2.2.2.2.2.2.2.2.2.2.2.2.2.2.2.1 O.2.2.2.2.2.2.2.2.2.2.2.2.2.2.2.2.2.2.2.2.2.2.2.2.2.2.2.2.2.2.2.2.2.2.2.2.2.2.1 O.2.2.2.2.2.2.2.2.2.2.2.2.2.2.2.2.2.2.2.2.2.2.2.2.2.2.2.2.2.2.2.2.2.2.1 clmK pcK kO cA comers code spans O.2.2.2.2.2.2.2.2.2.2.2.2.2.2.2.2.2.2.2.2.2.2.2.2.2.2.2.2.2.2.2.1 O.2.2.2.2.2.2.2.2.2.2.2.2.2.2.2.2.2.2.2.2.2.2.2.2.2.2.2.2.2.2.2.2.2.2.2.2.2.2.2.2 := by
  cases R with
  | inr x =>
    exfalso
    have h1 : O.1 = (x.1 : Int) := hX.1
    omega
  | inl q =>
    obtain ⟨y1, y2, y3, y4, y5, y6, y7, y8, y9, y10, y11⟩ := hY
    exact ⟨hZ, rfl, rfl, rfl, rfl, rfl, y1, y2, y3, y5, y8, y9, y6, y10, y7, rfl, rfl, rfl, rfl, rfl, rfl, rfl, y4, y11⟩
theorem x7_yes {g : Nat → Int} {n : Nat} {R : Sum (Int × Int) (Nat × PL)} {pr : PR} {O : Int × Nat × Nat × Int × Int × Int × Int × Int × Int × Int × Int × Int × Int × Int × Int × Int × Int × Int × Int × (Nat → Int) × (Nat → Int) × (Nat → Int) × (Nat → Int) × (Nat → Int) × (Nat → Int) × (Nat → Int) × (Nat → Int) × (Nat → Int) × Int × Int × Int × (Nat → Int) × Int × Int × Int × Nat × Int × Int × Int × Int × (Nat → Int)} {cy ls aw kx wx d ru gr hct sd ar akn rws tkn cmp : Int} {clmK pcK kO cA comers code spans tr refu : Nat → Int} (hX : tellX g n O R) (hY : tellY O d ru gr tr hct sd ar tkn akn rws cmp R pr) (hZ : tlZf refu O R) (e : ¬ O.1 = -1) : crX7 g n R pr cy ls aw kx wx d ru gr hct sd ar akn rws tkn cmp clmK pcK kO cA comers code spans tr refu O.2.2.2.2.2.2.2.2.2.2.1 O.2.2.2.2.2.2.2.2.2.2.2.2.2.1 O.2.2.2.2.2.2.2.2.2.2.2.2.2.2.1 O.2.2.2.2.2.2.2.2.2.2.2.2.2.2.2.2.1 O.2.2.2.2.2.2.2.2.2.2.2.2.2.2.2.2.2.1 O.2.2.2.2.2.2.2.2.2.2.2.2.2.2.2.2.2.2.2.2.2.2.2.2.2.2.2.2.1 O.2.2.2.2.2.2.2.2.2.2.2.2.2.2.2.2.2.2.2.2.2.2.2.2.2.2.2.2.2.1 O.2.2.2.2.2.2.2.2.2.2.2.2.2.2.2.2.2.2.2.2.2.2.2.2.2.2.2.2.2.2.1 O.2.2.2.2.2.2.2.2.2.2.2.2.2.2.2.2.2.2.2.2.2.2.2.2.2.2.2.2.2.2.2.2.1 O.2.2.2.2.2.2.2.2.2.2.2.2.2.2.2.2.2.2.2.2.2.2.2.2.2.2.2.2.2.2.2.2.2.2.2.2.1 O.2.2.2.2.2.2.2.2.2.2.2.2.2.2.2.2.2.2.2.2.2.2.2.2.2.2.2.2.2.2.2.2.2.2.2.2.2.1 O.2.2.2.2.2.2.2.2.2.2.2.2.2.2.2.2.2.2.2.2.2.2.2.2.2.2.2.2.2.2.2.2.2.2.2.2.2.2.2.1 O.2.2.2.2.2.2.2.2.2.2.2.2.2.2.2.2.2.2.2.2.2.2.2.2.2.2.2.2.2.2.2.2.2.1 O.2.2.2.2.2.2.2.2.2.2.2.2.2.2.2.2.2.2.2.2.2.2.2.2.2.2.2.2.2.2.2.2.2.2.2.2.2.2.1 O.2.2.2.2.2.2.2.2.2.2.2.2.2.2.2.2.2.2.2.2.2.2.2.2.2.2.2.2.2.2.2.2.2.2.1 O.2.2.2.2.2.2.2.2.2.2.2.2.2.2.2.2.2.2.2.2.2.2.1 O.2.2.2.2.2.2.2.2.2.2.2.2.2.2.2.2.2.2.2.2.2.2.2.1 O.2.2.2.2.2.2.2.2.2.2.2.2.2.2.2.2.2.2.2.2.2.2.2.2.2.1 O.2.2.2.2.2.2.2.2.2.2.2.2.2.2.2.2.2.2.2.2.2.2.2.2.2.2.1 O.2.2.2.2.2.2.2.2.2.2.2.2.2.2.2.2.2.2.2.1 O.2.2.2.2.2.2.2.2.2.2.2.2.2.2.2.2.2.2.2.2.2.2.2.2.2.2.2.1 O.2.2.2.2.2.2.2.2.2.2.2.2.2.2.2.2.2.2.2.2.1 O.2.2.2.2.2.2.2.2.2.2.2.2.2.2.2.2.2.2.2.2.2.2.2.2.2.2.2.2.2.2.2.1 O.2.2.2.2.2.2.2.2.2.2.2.2.2.2.2.2.2.2.2.2.2.2.2.2.2.2.2.2.2.2.2.2.2.2.2.2.2.2.2.2 := by
  cases R with
  | inl q => exact absurd hX.1 e
  | inr x =>
    obtain ⟨a1, a2, a3, a4, a5, a6, a7, a8, a9, a10⟩ := hX
    obtain ⟨y1, y2, y3, y4, y5, y6, y7, y8, y9, y10, y11, y12, y13, y14⟩ := hY
    exact ⟨hZ, a8, a9, a4, a7, y1, ⟨_, _, y2, y3, y7⟩, y4, y5.trans a6, y6.trans a5, y8, y9, y10, y11, y14, y13, y12⟩
theorem m7_of {g : Nat → Int} {n : Nat} {R : Sum (Int × Int) (Nat × PL)} {pr : PR} {O : Int × Int × Int × Int × Int × Int × Int × Int × Int × Int × Int × Int × Int × Int × Int × Int × Int × Int × Int × Int × (Nat → Int) × (Nat → Int) × (Nat → Int) × (Nat → Int) × (Nat → Int) × (Nat → Int) × (Nat → Int) × (Nat → Int) × (Nat → Int) × (Nat → Int) × (Nat → Int) × (Nat → Int) × (Nat → Int)} {isc awM und rmM : Int} {many bar kinds walkers cf ce codes now refM N bar1 bar2 : Nat → Int} (h1 : ∀ j, 4 ≤ j → bar1 j = bar j) (h2 : ∀ x, R = .inr x → bar1 0 = (sp_1a g n (.inr 0)).1 ∧ bar1 1 = (sp_1b g n (.inr 0)).1 ∧ bar1 2 = (sp_1c g n (.inr 0)).1 ∧ bar1 3 = (sp_1d g n (.inr 0)).1) (hN : tellN many N bar1 isc O R) (h4 : ∀ x, R = .inr x → bar2 0 = (sp_1a g n (.inr 0)).1 ∧ bar2 1 = (sp_1b g n (.inr 0)).1 ∧ bar2 2 = (sp_1c g n (.inr 0)).1 ∧ bar2 3 = (sp_1d g n (.inr 0)).1) (hQ : tellQ kinds walkers cf ce codes now bar2 awM rmM und O R pr) (hZ : tlRf refM O R) : crM7 g n R pr isc awM und rmM many bar kinds walkers cf ce codes now refM O.2.2.2.2.2.2.2.2.2.2.2.2.1 O.2.2.2.2.2.2.2.2.2.1 O.2.2.2.2.2.2.2.2.2.2.2.2.2.2.2.1 O.2.2.2.2.2.2.2.2.2.2.2.2.2.2.1 O.2.2.2.2.2.2.2.2.2.2.2.2.2.2.2.2.2.2.2.2.1 O.2.2.2.2.2.2.2.2.2.2.2.2.2.2.2.2.2.2.2.2.2.2.1 O.2.2.2.2.2.2.2.2.2.2.2.2.2.2.2.2.2.2.2.2.2.2.2.2.2.2.1 O.2.2.2.2.2.2.2.2.2.2.2.2.2.2.2.2.2.2.2.2.2.2.2.2.2.1 O.2.2.2.2.2.2.2.2.2.2.2.2.2.2.2.2.2.2.2.2.2.1 O.2.2.2.2.2.2.2.2.2.2.2.2.2.2.2.2.2.2.2.2.2.2.2.2.2.2.2.1 O.2.2.2.2.2.2.2.2.2.2.2.2.2.2.2.2.2.2.2.2.2.2.2.2.2.2.2.2.2.1 O.2.2.2.2.2.2.2.2.2.2.2.2.2.2.2.2.2.2.2.2.2.2.2.2.2.2.2.2.1 O.2.2.2.2.2.2.2.2.2.2.2.2.2.2.2.2.2.2.2.2.2.2.2.1 := by
  cases R with
  | inl q =>
    obtain ⟨a1, a2, a3, a4, a5, a6, a7⟩ := hN
    obtain ⟨q1, q2, q3, q4, q5⟩ := hQ
    refine ⟨a4, ?_, a7, q1, q2, q3, q4, q5, hZ⟩
    rw [a6]
    exact ⟨h1 4 (Nat.le_refl 4), h1 7 (by decide)⟩
  | inr x =>
    obtain ⟨a1, a2, a3, a4, a5, a6, a7, a8, a9, a10, a11⟩ := hN
    obtain ⟨q1, q2, q3, q4, q5, q6, q7⟩ := hQ
    obtain ⟨b1, b2', b3, b4⟩ := h2 x rfl
    obtain ⟨c1, c2, c3, c4⟩ := h4 x rfl
    refine ⟨a4, a5, ?_, ?_, a9, q1, q2, q3, q4, q5, q6.trans c3, q7.trans c2, hZ⟩
    · rw [a8]
      exact b1
    · rw [a8]
      exact b4
end
section
/-! 9r -/
/-! ask, on both sides -/
def fiQ (V : Nat → Int) : Nat → Int
  | 0 => -1
  | k + 1 => if fiQ V k = -1 ∧ ¬ V k = 0 then (k : Int) else fiQ V k
def laQ (V : Nat → Int) : Nat → Int
  | 0 => -1
  | k + 1 => if V k = 0 then laQ V k else (k : Int)
def mxQ (V : Nat → Int) : Nat → Int
  | 0 => 0
  | k + 1 => if k = 0 then V k else if V k ≤ mxQ V k then mxQ V k else V k
def mnQ (V : Nat → Int) : Nat → Int
  | 0 => 0
  | k + 1 => if k = 0 then V k else if mnQ V k ≤ V k then mnQ V k else V k
def quQ (kd : Int) (V : Nat → Int) (k : Nat) : Int := if kd = 0 then fiQ V k else if kd = 1 then laQ V k else if kd ≤ 3 then snm V k else if kd = 4 then mxQ V k else mnQ V k
theorem snm_6 {V : Nat → Int} : ∀ k, k ≤ 12 → (∀ w, w < k → in6 (V w)) → -1000000 * (k : Int) ≤ snm V k ∧ snm V k ≤ 1000000 * (k : Int)
  | 0, _, _ => ⟨by
    show -1000000 * ((0 : Nat) : Int) ≤ 0
    decide, by
    show (0 : Int) ≤ 1000000 * ((0 : Nat) : Int)
    decide⟩
  | k + 1, hk, h => by
    have ih := snm_6 k (by omega) (fun w hw => h w (by omega))
    have hv := h k (Nat.lt_succ_self k)
    unfold in6 at hv
    show -1000000 * ((k + 1 : Nat) : Int) ≤ snm V k + V k ∧ snm V k + V k ≤ 1000000 * ((k + 1 : Nat) : Int)
    omega
section QC
variable {K : Int → Int → Int → Int → Int → Int → (Nat → Int) → (Nat → Int) → Int × (Nat → Int) × (Nat → Int)} {l2 l4 l6 l8 l10 l12 l13 s0 : Int} {A B : Nat → Int}
theorem an_142 : F_X9_answer_142 l4 l12 K l6 l8 l10 l13 A B s0 = K s0 (if l13 = 0 then l4 else l12) l6 l8 l10 (l12 + (1 : Int)) A B := by
  unfold F_X9_answer_142 F_X9_answer_156
  by_cases c : l13 = 0
  · rw [if_pos c, if_pos c]
  · rw [if_neg c, if_neg c]
theorem an_120 : F_X9_answer_120 l2 l4 l12 K l6 l8 l13 A B s0 = K (if l2 = -1 ∧ ¬ l13 = 0 then l12 else l2) (if l13 = 0 then l4 else l12) l6 l8 s0 (l12 + (1 : Int)) A B := by
  unfold F_X9_answer_120 F_X9_answer_141
  by_cases c : l2 = -1
  · rw [if_pos (cmp_eq.mpr c)]
    by_cases z : l13 = 0
    · rw [if_pos z, an_142, if_neg (show ¬ (l2 = -1 ∧ ¬ l13 = 0) from fun r => r.2 z)]
    · rw [if_neg z, an_142, if_pos (show l2 = -1 ∧ ¬ l13 = 0 from ⟨c, z⟩)]
  · rw [if_neg (fun r => c (cmp_eq.mp r)), an_142, if_neg (show ¬ (l2 = -1 ∧ ¬ l13 = 0) from fun r => c r.1)]
theorem an_96 : F_X9_answer_96 l2 l4 l10 l12 K l6 l13 A B s0 = K (if l2 = -1 ∧ ¬ l13 = 0 then l12 else l2) (if l13 = 0 then l4 else l12) l6 s0 (if l12 = 0 then l13 else if l10 ≤ l13 then l10 else l13) (l12 + (1 : Int)) A B := by
  unfold F_X9_answer_96 F_X9_answer_112
  by_cases c : l12 = 0
  · rw [if_pos c, an_120, if_pos c]
  · rw [if_neg c, if_neg c]
    by_cases z : l10 ≤ l13
    · rw [if_pos (cmp_ge.mpr z), an_120, if_pos z]
    · rw [if_neg (fun r => z (cmp_ge.mp r)), an_120, if_neg z]
theorem an_st {V : Nat → Int} {k : Nat} : (if (k : Int) = (0 : Int) then F_X9_answer_88 (fiQ V k) (laQ V k) (mnQ V k) (k : Int) K l6 (V k) A B else if lf_cmp (V k) (mxQ V k) ≤ (0 : Int) then F_X9_answer_96 (fiQ V k) (laQ V k) (mnQ V k) (k : Int) K l6 (V k) A B (mxQ V k) else F_X9_answer_88 (fiQ V k) (laQ V k) (mnQ V k) (k : Int) K l6 (V k) A B) = K (fiQ V (k + 1)) (laQ V (k + 1)) l6 (mxQ V (k + 1)) (mnQ V (k + 1)) ((k + 1 : Nat) : Int) A B := by
  unfold F_X9_answer_88
  rw [an_96, an_96]
  have e1 : fiQ V (k + 1) = if fiQ V k = -1 ∧ ¬ V k = 0 then (k : Int) else fiQ V k := rfl
  have e2 : laQ V (k + 1) = if V k = 0 then laQ V k else (k : Int) := rfl
  have e3 : mxQ V (k + 1) = if k = 0 then V k else if V k ≤ mxQ V k then mxQ V k else V k := rfl
  have e4 : mnQ V (k + 1) = if k = 0 then V k else if mnQ V k ≤ V k then mnQ V k else V k := rfl
  rw [e1, e2, e3, e4, show ((k + 1 : Nat) : Int) = (k : Int) + (1 : Int) from rfl]
  by_cases q : k = 0
  · rw [if_pos (show (k : Int) = (0 : Int) from by omega), if_pos (show (k : Int) = (0 : Int) from by omega), if_pos q, if_pos q]
  · rw [if_neg (show ¬ (k : Int) = (0 : Int) from by omega), if_neg (show ¬ (k : Int) = (0 : Int) from by omega), if_neg q, if_neg q]
    by_cases z : V k ≤ mxQ V k
    · rw [if_pos (cmp_le.mpr z), if_pos z]
    · rw [if_neg (fun r => z (cmp_le.mp r)), if_neg z]
end QC
theorem quQ_0 {V : Nat → Int} {k : Nat} : quQ 0 V k = fiQ V k := if_pos rfl
theorem quQ_1 {V : Nat → Int} {k : Nat} : quQ 1 V k = laQ V k := by
  unfold quQ
  rw [if_neg (by decide), if_pos rfl]
theorem quQ_2 {V : Nat → Int} {k : Nat} : quQ 2 V k = snm V k := by
  unfold quQ
  rw [if_neg (by decide), if_neg (by decide), if_pos (by decide)]
theorem quQ_3 {V : Nat → Int} {k : Nat} : quQ 3 V k = snm V k := by
  unfold quQ
  rw [if_neg (by decide), if_neg (by decide), if_pos (by decide)]
theorem quQ_4 {V : Nat → Int} {k : Nat} : quQ 4 V k = mxQ V k := by
  unfold quQ
  rw [if_neg (by decide), if_neg (by decide), if_neg (by decide), if_pos rfl]
theorem quQ_5 {V : Nat → Int} {k : Nat} : quQ 5 V k = mnQ V k := by
  unfold quQ
  rw [if_neg (by decide), if_neg (by decide), if_neg (by decide), if_neg (by decide)]
/-- the model takes one value -/
theorem qt_12 {ans kd v : Int} {nw : Int} {s : Int} : F_X10_qTakes_90 nw kd v s ans = if kd ≤ 3 then ans else if nw = 0 then (if kd = 4 then (if v ≤ ans then ans else v) else if ans ≤ v then ans else v) else v := by
  unfold F_X10_qTakes_90 F_X10_qTakes_128 F_X10_qTakes_133
  by_cases c : kd ≤ 3
  · rw [if_pos c, if_pos c]
  rw [if_neg c, if_neg c]
  by_cases c1 : nw = 0
  · rw [if_pos c1, if_pos c1]
    by_cases c2 : kd = 4
    · rw [if_pos c2, if_pos c2]
      by_cases c3 : v ≤ ans
      · rw [if_pos (cmp_le.mpr c3), if_pos c3]
      · rw [if_neg (fun r => c3 (cmp_le.mp r)), if_neg c3]
    · rw [if_neg c2, if_neg c2]
      by_cases c3 : ans ≤ v
      · rw [if_pos (cmp_ge.mpr c3), if_pos c3]
      · rw [if_neg (fun r => c3 (cmp_ge.mp r)), if_neg c3]
  · rw [if_neg c1, if_neg c1]
theorem qt_x {V : Nat → Int} {kd : Int} {k : Nat} (hk : k < 12) (hkd : 0 ≤ kd ∧ kd ≤ 5) (hV : ∀ w, w ≤ k → in6 (V w)) (hb : kd < 3 → V k = 0 ∨ V k = 1) : F_X10_qTakes (quQ kd V k) (if k = 0 then 1 else 0) kd (V k) (k : Int) = quQ kd V (k + 1) := by
  have hs := snm_6 (V := V) k (by omega) (fun w hw => hV w (by omega))
  have hv := hV k (Nat.le_refl k)
  unfold in6 at hv
  have eS : snm V (k + 1) = snm V k + V k := rfl
  have e1 : fiQ V (k + 1) = if fiQ V k = -1 ∧ ¬ V k = 0 then (k : Int) else fiQ V k := rfl
  have e2 : laQ V (k + 1) = if V k = 0 then laQ V k else (k : Int) := rfl
  have e3 : mxQ V (k + 1) = if k = 0 then V k else if V k ≤ mxQ V k then mxQ V k else V k := rfl
  have e4 : mnQ V (k + 1) = if k = 0 then V k else if mnQ V k ≤ V k then mnQ V k else V k := rfl
  have h6 : kd = 0 ∨ kd = 1 ∨ kd = 2 ∨ kd = 3 ∨ kd = 4 ∨ kd = 5 := by omega
  unfold F_X10_qTakes F_X10_qTakes_15 F_X10_qTakes_16 F_X10_qTakes_38 F_X10_qTakes_48 F_X10_qTakes_55 F_X10_qTakes_75
  rcases h6 with r | r | r | r | r | r <;> subst r
  · rw [quQ_0, quQ_0, e1, if_neg (show ¬ (3 : Int) ≤ 0 from by decide)]
    simp only [if_true, show ¬ (0 : Int) = 1 from by decide, show ¬ (0 : Int) = 2 from by decide, show ¬ (0 : Int) = 3 from by decide, show (0 : Int) ≤ 3 from by decide, if_false]
    rcases hb (by decide) with y | y
    · rw [if_neg (show ¬ lf_cmp (V k) 1 = 0 from fun r => by have := cmp_eq.mp r; omega), if_neg (show ¬ (fiQ V k = -1 ∧ ¬ V k = 0) from fun r => r.2 y), qt_12, if_pos (show (0 : Int) ≤ 3 from by decide)]
    · rw [if_pos (show lf_cmp (V k) 1 = 0 from cmp_eq.mpr y), if_neg (show ¬ (1 : Int) = 0 from by decide)]
      by_cases z : fiQ V k = -1
      · rw [if_pos (cmp_eq.mpr z), if_pos (show fiQ V k = -1 ∧ ¬ V k = 0 from ⟨z, by omega⟩), qt_12, if_pos (show (0 : Int) ≤ 3 from by decide)]
      · rw [if_neg (fun r => z (cmp_eq.mp r)), if_neg (show ¬ (fiQ V k = -1 ∧ ¬ V k = 0) from fun r => z r.1), qt_12, if_pos (show (0 : Int) ≤ 3 from by decide)]
  · rw [quQ_1, quQ_1, e2, if_neg (show ¬ (3 : Int) ≤ 1 from by decide)]
    simp only [if_true, show ¬ (1 : Int) = 0 from by decide, show ¬ (1 : Int) = 2 from by decide, show ¬ (1 : Int) = 3 from by decide, show (1 : Int) ≤ 3 from by decide, if_false]
    rcases hb (by decide) with y | y
    · rw [if_neg (show ¬ lf_cmp (V k) 1 = 0 from fun r => by have := cmp_eq.mp r; omega), if_pos y, qt_12, if_pos (show (1 : Int) ≤ 3 from by decide)]
    · rw [if_pos (show lf_cmp (V k) 1 = 0 from cmp_eq.mpr y), if_neg (show ¬ V k = 0 from by omega), qt_12, if_pos (show (1 : Int) ≤ 3 from by decide)]
  · rw [quQ_2, quQ_2, eS, if_neg (show ¬ (3 : Int) ≤ 2 from by decide)]
    simp only [if_true, show ¬ (2 : Int) = 0 from by decide, show ¬ (2 : Int) = 1 from by decide, show ¬ (2 : Int) = 3 from by decide, show (2 : Int) ≤ 3 from by decide, show ¬ (1 : Int) = 0 from by decide, if_false]
    rcases hb (by decide) with y | y
    · rw [if_neg (show ¬ lf_cmp (V k) 1 = 0 from fun r => by have := cmp_eq.mp r; omega), qt_12, if_pos (show (2 : Int) ≤ 3 from by decide)]
      omega
    · rw [if_pos (show lf_cmp (V k) 1 = 0 from cmp_eq.mpr y), lol_add (by omega) (by omega) (by omega) (by omega), qt_12, if_pos (show (2 : Int) ≤ 3 from by decide)]
      omega
  · rw [quQ_3, quQ_3, eS, if_pos (show (3 : Int) ≤ 3 from by decide)]
    simp only [if_true, show ¬ (3 : Int) = 0 from by decide, show ¬ (3 : Int) = 1 from by decide, show ¬ (3 : Int) = 2 from by decide, show (3 : Int) ≤ 3 from by decide, if_false]
    exact lol_add (by omega) (by omega) (by omega) (by omega)
  · rw [quQ_4, quQ_4, e3, if_pos (show (3 : Int) ≤ 4 from by decide)]
    simp only [if_true, show ¬ (4 : Int) = 0 from by decide, show ¬ (4 : Int) = 1 from by decide, show ¬ (4 : Int) = 2 from by decide, show ¬ (4 : Int) = 3 from by decide, show ¬ (4 : Int) ≤ 3 from by decide, if_false]
    by_cases q : k = 0
    · rw [if_pos q, if_pos q, qt_12, if_neg (show ¬ (4 : Int) ≤ 3 from by decide), if_neg (show ¬ (1 : Int) = 0 from by decide)]
    · rw [if_neg q, if_neg q, qt_12, if_neg (show ¬ (4 : Int) ≤ 3 from by decide), if_pos (show (0 : Int) = 0 from rfl), if_pos (show (4 : Int) = 4 from rfl)]
  · rw [quQ_5, quQ_5, e4, if_pos (show (3 : Int) ≤ 5 from by decide)]
    simp only [if_true, show ¬ (5 : Int) = 0 from by decide, show ¬ (5 : Int) = 1 from by decide, show ¬ (5 : Int) = 2 from by decide, show ¬ (5 : Int) = 3 from by decide, show ¬ (5 : Int) ≤ 3 from by decide, show ¬ (5 : Int) = 4 from by decide, if_false]
    by_cases q : k = 0
    · rw [if_pos q, if_pos q, qt_12, if_neg (show ¬ (5 : Int) ≤ 3 from by decide), if_neg (show ¬ (1 : Int) = 0 from by decide)]
    · rw [if_neg q, if_neg q, qt_12, if_neg (show ¬ (5 : Int) ≤ 3 from by decide), if_pos (show (0 : Int) = 0 from rfl), if_neg (show ¬ (5 : Int) = 4 from by decide)]
/-- what a question tells of one walker, over the whole DAY -/
def rhoQ (d : Int) (cA clmK pcK kO wt tw : Nat → Int) (go hm : Nat → Bool) (w : Nat) : Int → Int := fun j => if j = 0 then cA w else if j = 1 then d else if j = 3 then wt w else if j = 4 then clmK (kO w).toNat else if j = 5 then pcK (kO w).toNat else if j = 6 then tw w else if j = 9 then (w : Int) else if j = 10 then b2 (go w) else if j = 11 then b2 (hm w) else 0
theorem al3707 {j : Int} (h0 : 0 ≤ j) (h1 : j < 12) (h : alB 3707 j = true) : j = 0 ∨ j = 1 ∨ j = 3 ∨ j = 4 ∨ j = 5 ∨ j = 6 ∨ j = 9 ∨ j = 10 ∨ j = 11 := by
  have a2 : ¬ alB 3707 2 = true := by decide +kernel
  have a7 : ¬ alB 3707 7 = true := by decide +kernel
  have a8 : ¬ alB 3707 8 = true := by decide +kernel
  have n2 : ¬ j = 2 := fun r => a2 (by rw [← r]; exact h)
  have n7 : ¬ j = 7 := fun r => a7 (by rw [← r]; exact h)
  have n8 : ¬ j = 8 := fun r => a8 (by rw [← r]; exact h)
  omega
theorem b2_b (x : Bool) : 0 ≤ b2 x ∧ b2 x ≤ 1 := by
  cases x with
  | false => exact ⟨by decide, by decide⟩
  | true => exact ⟨by decide, by decide⟩
section QD
variable {nW nK : Nat} {oC oR oL : Option (List Int)} {s cy ls aw stm d ru gr hnx hct sd sru sgr sA ar pr cr we ha tkn ad aru agr akn rws cmp fnd frl fgr chs chl occ dwn fa pl sM awM isc und nwst rmM moc sdd tk ask red io lg gt icg sg qp ftm ftr ftg mf mp0 p0 p1 p2 p3 p4 : Int} {g clmK pcK kO cA comers code spans nmX tr rD rR rG facts stack str cars gaps known left leaves tab atr atd ats sw ss sec oct refu gM many bar kinds walkers cf ce codes now kept mrw mo refM asd isCar gapM isG isH crM wtM goM hmM prM ciM pile whn : Nat → Int} {rF : Nat → Nat → Int}
theorem rhoQ_b {wt tw : Nat → Int} {go hm : Nat → Bool} {w : Nat} (hP : plH nW nK cy ls oC oR kO cA clmK pcK comers code spans ar) (hd : 0 ≤ d ∧ d ≤ 999) (hw : w < nW) (hwt : 0 ≤ wt w ∧ wt w ≤ 300) (htw : 0 ≤ tw w ∧ tw w ≤ 9) : okE 3707 (rhoQ d cA clmK pcK kO wt tw go hm w) := by
  intro j h0 h1 _
  have hW := hP.1
  have c1 := hP.2.2.2.1 w hw
  have c2 := hP.2.2.2.2.1 (kO w).toNat (by omega)
  have g1 := b2_b (go w)
  have g2 := b2_b (hm w)
  unfold rhoQ in6
  by_cases x0 : j = 0
  · rw [if_pos x0]
    omega
  rw [if_neg x0]
  by_cases x1 : j = 1
  · rw [if_pos x1]
    omega
  rw [if_neg x1]
  by_cases x3 : j = 3
  · rw [if_pos x3]
    omega
  rw [if_neg x3]
  by_cases x4 : j = 4
  · rw [if_pos x4]
    omega
  rw [if_neg x4]
  by_cases x5 : j = 5
  · rw [if_pos x5]
    omega
  rw [if_neg x5]
  by_cases x6 : j = 6
  · rw [if_pos x6]
    omega
  rw [if_neg x6]
  by_cases x9 : j = 9
  · rw [if_pos x9]
    omega
  rw [if_neg x9]
  by_cases x10 : j = 10
  · rw [if_pos x10]
    omega
  rw [if_neg x10]
  by_cases x11 : j = 11
  · rw [if_pos x11]
    omega
  rw [if_neg x11]
  omega
/-- what the class writes down of a walker -/
theorem qf_c {a8 tX leaves2 : Nat → Int} {we2 ha2 : Int} {z : wzT} {w : Nat} {tw : Nat → Int} (hP : plH nW nK cy ls oC oR kO cA clmK pcK comers code spans ar) (hz : zOK nW cA z) (hl : ∀ w, w < 12 → leaves2 w = z.1 w) (hwe : rg we2 ∧ ∀ w, w < 12 → bt we2 w = decide (2 ≤ z.2.1 w)) (hha : rg ha2 ∧ ∀ w, w < 12 → bt ha2 w = decide (z.2.1 w = 3)) (hw : w < nW) (ht : tX (kO w).toNat = tw w) : (∀ j : Int, 0 ≤ j → j < 12 → alB 3707 j = true → F_X7_describeWhole a8 clmK pcK kO cA d tX leaves2 we2 ha2 (w : Int) j.toNat = rhoQ d cA clmK pcK kO (wt0 cA (abf 0) z) tw (fun w => decide (2 ≤ z.2.1 w)) (fun w => decide (z.2.1 w = 3)) w j) ∧ F_X7_describeWhole a8 clmK pcK kO cA d tX leaves2 we2 ha2 (w : Int) 12 = kO w := by
  have hW := hP.1
  have h1 := hwe.1
  have h2 := hha.1
  unfold rg at h1 h2
  have e : F_X7_describeWhole a8 clmK pcK kO cA d tX leaves2 we2 ha2 (w : Int) = lf_up (lf_up (lf_up (lf_up (lf_up (lf_up (lf_up (lf_up (lf_up (lf_up a8 (0 : Int) (cA w)) (1 : Int) d) (3 : Int) (wt0 cA (abf 0) z w)) (4 : Int) (clmK (kO w).toNat)) (5 : Int) (pcK (kO w).toNat)) (6 : Int) (tw w)) (9 : Int) (w : Int)) (10 : Int) (b2 (decide (2 ≤ z.2.1 w)))) (11 : Int) (b2 (decide (z.2.1 w = 3)))) (12 : Int) (kO w) := by
    unfold F_X7_describeWhole F_X7_describe
    rw [lf_b_e, lf_b_e, wb_c (ab := abf 0) hz hl hW hw (bt_0 w), Int.toNat_natCast, ht, bt_bit h1.1 (by omega) (by omega), hwe.2 w (by omega), bt_bit h2.1 (by omega) (by omega), hha.2 w (by omega)]
  refine ⟨fun j j0 j1 ja => ?_, ?_⟩
  · rw [e]
    rcases al3707 j0 j1 ja with x | x | x | x | x | x | x | x | x <;> subst x
    · rw [lf_up_o (by decide), lf_up_o (by decide), lf_up_o (by decide), lf_up_o (by decide), lf_up_o (by decide), lf_up_o (by decide), lf_up_o (by decide), lf_up_o (by decide), lf_up_o (by decide), lf_up_y (by decide)]
      rfl
    · rw [lf_up_o (by decide), lf_up_o (by decide), lf_up_o (by decide), lf_up_o (by decide), lf_up_o (by decide), lf_up_o (by decide), lf_up_o (by decide), lf_up_o (by decide), lf_up_y (by decide)]
      rfl
    · rw [lf_up_o (by decide), lf_up_o (by decide), lf_up_o (by decide), lf_up_o (by decide), lf_up_o (by decide), lf_up_o (by decide), lf_up_o (by decide), lf_up_y (by decide)]
      rfl
    · rw [lf_up_o (by decide), lf_up_o (by decide), lf_up_o (by decide), lf_up_o (by decide), lf_up_o (by decide), lf_up_o (by decide), lf_up_y (by decide)]
      rfl
    · rw [lf_up_o (by decide), lf_up_o (by decide), lf_up_o (by decide), lf_up_o (by decide), lf_up_o (by decide), lf_up_y (by decide)]
      rfl
    · rw [lf_up_o (by decide), lf_up_o (by decide), lf_up_o (by decide), lf_up_o (by decide), lf_up_y (by decide)]
      rfl
    · rw [lf_up_o (by decide), lf_up_o (by decide), lf_up_o (by decide), lf_up_y (by decide)]
      rfl
    · rw [lf_up_o (by decide), lf_up_o (by decide), lf_up_y (by decide)]
      rfl
    · rw [lf_up_o (by decide), lf_up_y (by decide)]
      rfl
  · rw [e, lf_up_y (by decide)]
/-- the class's run over all walkers -/
theorem an_run {V code2 tX leaves2 : Nat → Int} {we2 ha2 sz : Int} (hW : nW ≤ 12) (hp : 0 ≤ p0 ∧ p0 ≤ 5) (hval : ∀ k, k < nW → ∀ a8 a13 : Nat → Int, (F_X3_value (F_X7_describeWhole a8 clmK pcK kO cA d tX leaves2 we2 ha2 (k : Int)) a13 code2 (0 : Int) sz).1 = V k) (hV : ∀ k, k < nW → in6 (V k)) : ∀ (f k : Nat) (a8 a13 : Nat → Int), k ≤ nW → nW - k < f → (F_X9_answer_21 clmK pcK (nW : Int) kO cA code2 sz d tX leaves2 we2 ha2 p0 f (fiQ V k) (laQ V k) (snm V k) (mxQ V k) (mnQ V k) (k : Int) a8 a13).1 = quQ p0 V nW := by
  intro f
  induction f with
  | zero => intro k a8 a13 h1 h2; omega
  | succ f ih =>
    intro k a8 a13 h1 h2
    show (F_X9_answer_21b clmK pcK (nW : Int) kO cA code2 sz d tX leaves2 we2 ha2 p0 (F_X9_answer_21 clmK pcK (nW : Int) kO cA code2 sz d tX leaves2 we2 ha2 p0 f) (fiQ V k) (laQ V k) (snm V k) (mxQ V k) (mnQ V k) (k : Int) a8 a13).1 = quQ p0 V nW
    unfold F_X9_answer_21b
    by_cases q : k = nW
    · subst q
      rw [if_pos (Int.le_refl _)]
      have h6 : p0 = 0 ∨ p0 = 1 ∨ p0 = 2 ∨ p0 = 3 ∨ p0 = 4 ∨ p0 = 5 := by omega
      rcases h6 with r | r | r | r | r | r <;> subst r
      · exact quQ_0.symm
      · exact quQ_1.symm
      · exact quQ_2.symm
      · exact quQ_3.symm
      · exact quQ_4.symm
      · exact quQ_5.symm
    · have hv := hval k (by omega) a8 a13
      have hb := hV k (by omega)
      have hs := snm_6 (V := V) k (by omega) (fun w hw => hV w (by omega))
      unfold in6 at hb
      rw [if_neg (by omega), lf_b_e]
      generalize F_X3_value (F_X7_describeWhole a8 clmK pcK kO cA d tX leaves2 we2 ha2 (k : Int)) a13 code2 (0 : Int) sz = R at hv ⊢
      obtain ⟨v, s9⟩ := R
      have hv' : v = V k := hv
      rw [lf_p_e, hv', lol_add (by omega) (by omega) (by omega) (by omega), an_st]
      exact ih (k + 1) _ _ (by omega) (by omega)
/-- the model's parts of a question -/
theorem qp_m {ask2 red2 : Int} {gp2 isH2 cr2 wt2 go2 hm2 pr2 ci2 isG2 : Nat → Int} {z : wzT} {w : Nat} (h : mdH nW nK cy ls d oC oR oL kO cA clmK pcK many bar kinds walkers cf ce codes now gp2 tr) (hF : dF nW cA (twf nW kO tr) (abf 0) cy ls ru gr z isH2 cr2 wt2 go2 hm2 pr2 ci2 isG2) (hw : w < nW) (j : Int) (j0 : 0 ≤ j) (j1 : j < 12) (ja : alB 3707 j = true) : F_X10_qPartOf (3 : Int) ask2 red2 bar kinds walkers now gp2 wt2 go2 hm2 j (w : Int) = rhoQ d cA clmK pcK kO (wt0 cA (abf 0) z) (twf nW kO tr) (fun w => decide (2 ≤ z.2.1 w)) (fun w => decide (z.2.1 w = 3)) w j := by
  obtain ⟨e1, e2, e3, e4, e5⟩ := md_kind h hw
  obtain ⟨f1, f2, f3, f4, f5, f6⟩ := hF.1 w hw
  rcases al3707 j0 j1 ja with x | x | x | x | x | x | x | x | x <;> subst x
  · show walkers (Int.toNat ((25 : Int) + ((2 : Int) * (w : Int)))) = cA w
    rw [show Int.toNat ((25 : Int) + ((2 : Int) * (w : Int))) = 25 + 2 * w from by omega]
    exact (h.1.2.2.2.2.1 w hw).2
  · exact h.2.2.2.2.2.2.2.2.2.1
  · show wt2 (Int.toNat (w : Int)) = wt0 cA (abf 0) z w
    rw [Int.toNat_natCast]
    exact f3
  · show lf_b (F_X10_kindOf walkers (w : Int)) (fun r25 => kinds (Int.toNat ((12 : Int) + ((2 : Int) * r25)))) = clmK (kO w).toNat
    have hk := (h.2.2.2.2.1 w hw).1
    rw [lf_b_e, e1, show Int.toNat ((12 : Int) + ((2 : Int) * kO w)) = 12 + 2 * (kO w).toNat from by omega, e4]
  · show lf_b (F_X10_paceOf kinds walkers (w : Int)) (fun r38 => r38) = pcK (kO w).toNat
    rw [lf_b_e, e3]
  · show lf_b (F_X10_kindOf walkers (w : Int)) (fun r42 => lf_b (F_X10_trustsOf now r42) (fun r46 => r46)) = twf nW kO tr w
    rw [lf_b_e, e1, lf_b_e, e5]
  · rfl
  · show (if go2 (Int.toNat (w : Int)) = (0 : Int) then (0 : Int) else (1 : Int)) = b2 (decide (2 ≤ z.2.1 w))
    rw [Int.toNat_natCast, f4]
    cases decide (2 ≤ z.2.1 w) <;> rfl
  · show (if hm2 (Int.toNat (w : Int)) = (0 : Int) then (0 : Int) else (1 : Int)) = b2 (decide (z.2.1 w = 3))
    rw [Int.toNat_natCast, f5]
    cases decide (z.2.1 w = 3) <;> rfl
/-- the model's run over all walkers -/
theorem mq_run {V : Nat → Int} {n kd y2 y4 y5 y6 y7 y8 y58 y59 y70 y71 y72 y73 y74 y111 y113 y114 : Int} {a22 a24 a32 a34 a35 a36 a37 a38 a39 a40 a41 a43 : Nat → Int} (hM3 : many 3 = (nW : Int)) (hW : nW ≤ 12) (hkd : 0 ≤ kd ∧ kd ≤ 5) (hval : ∀ k, k < nW → ∀ pl2 : Nat → Int, (F_X10_qTold (3 : Int) y58 y59 y111 bar kinds walkers now a34 a32 a35 a36 a24 pl2 (k : Int)).1 = V k) (hV : ∀ k, k < nW → in6 (V k)) (hb : kd < 3 → ∀ k, k < nW → V k = 0 ∨ V k = 1) : ∀ (f k : Nat) (y117 : Int) (a27 : Nat → Int), k ≤ nW → nW - k < f → (F_X10_ask_192 n many bar kinds walkers now f kd y2 y4 y5 y6 y7 y8 y58 y59 y70 y71 y72 y73 y74 y111 y113 y114 y117 a22 a24 a27 a32 a34 a35 a36 a37 a38 a39 a40 a41 a43 (quQ kd V k) (k : Int) (if k = 0 then 1 else 0)).1 = quQ kd V nW := by
  intro f
  induction f with
  | zero => intro k y117 a27 h1 h2; omega
  | succ f ih =>
    intro k y117 a27 h1 h2
    show (F_X10_ask_192b n many bar kinds walkers now (F_X10_ask_192 n many bar kinds walkers now f) kd y2 y4 y5 y6 y7 y8 y58 y59 y70 y71 y72 y73 y74 y111 y113 y114 y117 a22 a24 a27 a32 a34 a35 a36 a37 a38 a39 a40 a41 a43 (quQ kd V k) (k : Int) (if k = 0 then 1 else 0)).1 = quQ kd V nW
    unfold F_X10_ask_192b
    rw [lf_b_e, hM3]
    by_cases q : k = nW
    · rw [if_pos (show (nW : Int) ≤ (k : Int) from by omega), q]
    · have hv := hval k (by omega) a27
      rw [if_neg (show ¬ (nW : Int) ≤ (k : Int) from by omega)]
      generalize F_X10_qTold (3 : Int) y58 y59 y111 bar kinds walkers now a34 a32 a35 a36 a24 a27 (k : Int) = R at hv ⊢
      obtain ⟨v, v12, f13⟩ := R
      have hv' : v = V k := hv
      rw [lf_p_e, lf_p_e, hv', lf_b_e, qt_x (by omega) hkd (fun w hw => hV w (by omega)) (fun r => hb r k (by omega))]
      have hx := ih (k + 1) v12 f13 (by omega) (by omega)
      rw [if_neg (Nat.succ_ne_zero k)] at hx
      exact hx
end QD
end
section
/-! 9s -/
/-! ask: what a question reads; the class's answer -/
theorem wl_2 {g : Nat → Int} {n p : Nat} (h : ¬ wl g n ws_2 p = -1) : 0 ≤ wl g n ws_2 p ∧ wl g n ws_2 p ≤ 5 := by
  have hk := wl_k h
  unfold wl at *
  rw [if_pos hk] at *
  rcases wfind_le (g := g) (a := tx_a g n p) (e := tx_e g n p) ws_2 0 with r | r
  · exact absurd r h
  · have : ((ws_2.length : Nat) : Int) = 6 := rfl
    exact ⟨by omega, by omega⟩
/-- what codes a question has -/
def cQ (g : Nat → Int) (n : Nat) : SL := codM g n (if 2 < wl g n ws_2 0 then 4 else 5) 3707 (tx_e g n 0)
theorem cQ_r {g : Nat → Int} {n : Nat} (c : CD) : rlC (cod g n (if 2 < wl g n ws_2 0 then 4 else 5) 3707 (tx_e g n 0) c) (cQ g n) c := by
  have hle := tx_e_le (f := g) (Nat.zero_le n)
  unfold cQ cod codM
  by_cases x : (if 2 < wl g n ws_2 0 then (4 : Int) else 5) = 4
  · rw [if_pos x, if_pos x]
    exact sum_r 6 (tx_e g n 0) c hle
  · rw [if_neg x, if_neg x]
    exact test_r 6 (tx_e g n 0) c hle
theorem cQ_s {g : Nat → Int} {n : Nat} (c : CD) : (if 2 < wl g n ws_2 0 then (sSum g n 3707 6 (tx_e g n 0) c).1 else (sTest g n 3707 6 (tx_e g n 0) c).1) = (cod g n (if 2 < wl g n ws_2 0 then 4 else 5) 3707 (tx_e g n 0) c).1 := by
  unfold cod
  by_cases x : 2 < wl g n ws_2 0
  · rw [if_pos x, if_pos x, if_pos rfl]
  · rw [if_neg x, if_neg x, if_neg (by decide)]
theorem cl_rq3 {g comers code spans : Nat → Int} {n : Nat} (hn : n ≤ 1600) (h : wl g n ws_2 0 = -1 ∨ (∃ q, cQ g n = .inl q) ∨ ∃ z, cQ g n = .inr z ∧ ¬ tx_k g n z.1 = 0) : ¬ (F_X5_readQuestion g comers code spans (n : Int)).2.2.2.2.2.1 = 0 := by
  have hle := tx_e_le (f := g) (Nat.zero_le n)
  rw [(cl_rq hn).1]
  unfold rqS
  by_cases w : wl g n ws_2 0 = -1
  · rw [if_pos w]
    show ¬ (1 : Int) = 0
    decide
  rw [if_neg w, cQ_s]
  rcases h with r | ⟨q, r⟩ | ⟨z, r, hk⟩
  · exact absurd r w
  · have hr := cQ_r (g := g) (n := n) (0, code)
    rw [r] at hr
    have hr' : (cod g n (if 2 < wl g n ws_2 0 then 4 else 5) 3707 (tx_e g n 0) (0, code)).1 = .inl q := hr
    have hv := (cod_ok (g := g) (n := n) (i := if 2 < wl g n ws_2 0 then 4 else 5) (al := 3707) (tx_e g n 0) (0, code) hle).1
    rw [hr'] at hv
    rw [hr']
    exact hv
  · have hr := cQ_r (g := g) (n := n) (0, code)
    rw [r] at hr
    have hr' : cod g n (if 2 < wl g n ws_2 0 then 4 else 5) 3707 (tx_e g n 0) (0, code) = (.inr z.1, ems (0, code) (z.2.map toC)) := hr
    rw [hr']
    show ¬ (cst g n (if tx_k g n z.1 = 0 then .inr z.1 else .inl (1, (tx_a g n z.1 : Int)))).2.2.2.1 = 0
    rw [if_neg hk]
    show ¬ (1 : Int) = 0
    decide
theorem cl_rq2 {g comers code spans : Nat → Int} {n : Nat} {z : Nat × List Int} (hn : n ≤ 1600) (hw : ¬ wl g n ws_2 0 = -1) (hz : cQ g n = .inr z) (hk : tx_k g n z.1 = 0) : ∃ x1 x2 x3 x4 x5 A B D, F_X5_readQuestion g comers code spans (n : Int) = (wl g n ws_2 0, x1, x2, x3, x4, (0 : Int), x5, (z.2.length : Int), A, B, D) ∧ z.2.length ≤ 1600 ∧ ∀ j, j < z.2.length → D j = toC (z.2.getD j 0) := by
  have hle := tx_e_le (f := g) (Nat.zero_le n)
  have hr := cQ_r (g := g) (n := n) (0, code)
  rw [hz] at hr
  have hr' : cod g n (if 2 < wl g n ws_2 0 then 4 else 5) 3707 (tx_e g n 0) (0, code) = (.inr z.1, ems (0, code) (z.2.map toC)) := hr
  have hk1 := wl_k hw
  have hgt : 0 < tx_e g n 0 := tx_e_gt' (g := g) (n := n) (p := 0) (by omega)
  obtain ⟨L, m1, m2, m3, m4, m5, m6, m7⟩ := cod_M (g := g) (i := if 2 < wl g n ws_2 0 then 4 else 5) (al := 3707) (c := (0, code)) (q := z.1) hn hgt hle (Int.le_refl 0) (by show (0 : Int) ≤ _; omega) (by rw [hr'])
  have eL : L = z.2 := by
    have m1' : cQ g n = .inr (z.1, L) := m1
    rw [hz] at m1'
    have := Sum.inr.inj m1'
    rw [this]
  subst eL
  rw [hr'] at m5 m6
  have m4' : (0 : Int) + (z.2.length : Int) ≤ (z.1 : Int) := m4
  have m5' : (ems (0, code) (z.2.map toC)).1 = (0 : Int) + (z.2.length : Int) := m5
  have m6' : ∀ j, j < z.2.length → (ems (0, code) (z.2.map toC)).2 (0 + j) = toC (z.2.getD j 0) := m6
  unfold F_X5_readQuestion
  rw [cl_begin hn, lf_p_e, lf_p_e, lf_p_e, lf_p_e, lf_p_e, lf_b_e, cl_w_2, wl_c, if_neg hw, cl_mve hn (Nat.zero_le n), lf_p_e, lf_p_e]
  have fin : ∀ (d : CD), d = ems (0, code) (z.2.map toC) → ∃ x1 x2 x3 x4 x5 A B D, F_X5_readQuestion_63 (wl g n ws_2 0) (n : Int) (tx_a g n z.1 : Int) (tx_e g n z.1 : Int) (tx_k g n z.1 : Int) (0 : Int) (-1 : Int) d.1 (lf_fl comers 200 0) (lf_fl spans 6 0) d.2 = (wl g n ws_2 0, x1, x2, x3, x4, (0 : Int), x5, (z.2.length : Int), A, B, D) ∧ z.2.length ≤ 1600 ∧ ∀ j, j < z.2.length → D j = toC (z.2.getD j 0) := by
    intro d hd
    unfold F_X5_readQuestion_63 F_X5_readQuestion_79
    rw [if_pos (show (tx_k g n z.1 : Int) = 0 from by omega), hd, m5', Int.zero_add]
    refine ⟨_, _, _, _, _, _, _, _, rfl, by omega, fun j hj => ?_⟩
    have := m6' j hj
    rw [Nat.zero_add] at this
    exact this
  by_cases q2 : 2 < wl g n ws_2 0
  · have hs : sSum g n 3707 6 (tx_e g n 0) (0, code) = (.inr z.1, ems (0, code) (z.2.map toC)) := by
      have h := hr'
      unfold cod at h
      rw [if_pos q2, if_pos rfl] at h
      exact h
    rw [if_pos q2]
    obtain ⟨d, e1, e2⟩ := su_0 (al := 3707) hn (.inr (tx_e g n 0)) (0, code) hle
    have e1' : F_X5_sum_a0_0 g (n : Int) (tx_a g n (tx_e g n 0) : Int) (tx_e g n (tx_e g n 0) : Int) (tx_k g n (tx_e g n 0) : Int) 3707 code (0 : Int) (0 : Int) (-1 : Int) = ap5 (cst g n (sSum g n 3707 6 (tx_e g n 0) (0, code)).1) d := e1
    have e2' : ∀ q, (sSum g n 3707 6 (tx_e g n 0) (0, code)).1 = .inr q → d = (sSum g n 3707 6 (tx_e g n 0) (0, code)).2 := e2
    rw [hs] at e1' e2'
    have hd := e2' z.1 rfl
    obtain ⟨d1, d2⟩ := d
    have e4 : F_X5_sum_a0_0 g (n : Int) (tx_a g n (tx_e g n 0) : Int) (tx_e g n (tx_e g n 0) : Int) (tx_k g n (tx_e g n 0) : Int) 3707 code (0 : Int) (0 : Int) (-1 : Int) = ((tx_a g n z.1 : Int), (tx_e g n z.1 : Int), (tx_k g n z.1 : Int), (0 : Int), (-1 : Int), d1, d2) := e1'
    rw [e4, lf_p_e, lf_p_e, lf_p_e, lf_p_e, lf_p_e, lf_p_e]
    exact fin (d1, d2) hd
  · have hs : sTest g n 3707 6 (tx_e g n 0) (0, code) = (.inr z.1, ems (0, code) (z.2.map toC)) := by
      have h := hr'
      unfold cod at h
      rw [if_neg q2, if_neg (by decide)] at h
      exact h
    rw [if_neg q2]
    obtain ⟨d, e1, e2⟩ := te_0 (al := 3707) hn (.inr (tx_e g n 0)) (0, code) hle
    have e1' : F_X5_test_a0_0 g (n : Int) (tx_a g n (tx_e g n 0) : Int) (tx_e g n (tx_e g n 0) : Int) (tx_k g n (tx_e g n 0) : Int) 3707 code (0 : Int) (0 : Int) (-1 : Int) = ap5 (cst g n (sTest g n 3707 6 (tx_e g n 0) (0, code)).1) d := e1
    have e2' : ∀ q, (sTest g n 3707 6 (tx_e g n 0) (0, code)).1 = .inr q → d = (sTest g n 3707 6 (tx_e g n 0) (0, code)).2 := e2
    rw [hs] at e1' e2'
    have hd := e2' z.1 rfl
    obtain ⟨d1, d2⟩ := d
    have e4 : F_X5_test_a0_0 g (n : Int) (tx_a g n (tx_e g n 0) : Int) (tx_e g n (tx_e g n 0) : Int) (tx_k g n (tx_e g n 0) : Int) 3707 code (0 : Int) (0 : Int) (-1 : Int) = ((tx_a g n z.1 : Int), (tx_e g n z.1 : Int), (tx_k g n z.1 : Int), (0 : Int), (-1 : Int), d1, d2) := e1'
    rw [e4, lf_p_e, lf_p_e, lf_p_e, lf_p_e, lf_p_e, lf_p_e]
    exact fin (d1, d2) hd
section QE
variable {nW nK : Nat} {oC oR oL : Option (List Int)} {s cy ls aw stm d ru gr hnx hct sd sru sgr sA ar pr cr we ha tkn ad aru agr akn rws cmp fnd frl fgr chs chl occ dwn fa pl sM awM isc und nwst rmM moc sdd tk ask red io lg gt icg sg qp ftm ftr ftg mf mp0 p0 p1 p2 p3 p4 : Int} {g clmK pcK kO cA comers code spans nmX tr rD rR rG facts stack str cars gaps known left leaves tab atr atd ats sw ss sec oct refu gM many bar kinds walkers cf ce codes now kept mrw mo refM asd isCar gapM isG isH crM wtM goM hmM prM ciM pile whn : Nat → Int} {rF : Nat → Nat → Int}
/-- the value of a question's codes for a walker; the whole answer -/
noncomputable def vQ (oC oR : Option (List Int)) (nW : Nat) (cy ls : Int) (kO cA clmK pcK : Nat → Int) (d : Int) (tr : Nat → Int) (ru gr kd : Int) (L : List Int) (w : Nat) : Int := vlu (decide (kd < 3)) 3707 L (rhoQ d cA clmK pcK kO (wt0 cA (abf 0) (weS oC oR nW cy ls kO cA clmK pcK d tr ru gr 0)) (twf nW kO tr) (fun w => decide (2 ≤ (weS oC oR nW cy ls kO cA clmK pcK d tr ru gr 0).2.1 w)) (fun w => decide ((weS oC oR nW cy ls kO cA clmK pcK d tr ru gr 0).2.1 w = 3)) w) (kO w)
def askE (g : Nat → Int) (n : Nat) : Option (List Int) := if wl g n ws_2 0 = -1 then none else match cQ g n with
  | .inl _ => none
  | .inr z => if tx_k g n z.1 = 0 then some z.2 else none
noncomputable def askS (g : Nat → Int) (n : Nat) (oC oR : Option (List Int)) (nW : Nat) (cy ls : Int) (kO cA clmK pcK : Nat → Int) (d : Int) (tr : Nat → Int) (ru gr : Int) : Int := match askE g n with
  | none => -1000000000000000
  | some L => quQ (wl g n ws_2 0) (vQ oC oR nW cy ls kO cA clmK pcK d tr ru gr (wl g n ws_2 0) L) nW
theorem askE_n {g : Nat → Int} {n : Nat} (h : askE g n = none) : wl g n ws_2 0 = -1 ∨ (∃ q, cQ g n = .inl q) ∨ ∃ z, cQ g n = .inr z ∧ ¬ tx_k g n z.1 = 0 := by
  unfold askE at h
  by_cases w : wl g n ws_2 0 = -1
  · exact Or.inl w
  · rw [if_neg w] at h
    cases e : cQ g n with
    | inl q => exact Or.inr (Or.inl ⟨q, rfl⟩)
    | inr z =>
      rw [e] at h
      refine Or.inr (Or.inr ⟨z, rfl, fun hk => ?_⟩)
      have h' : (if tx_k g n z.1 = 0 then some z.2 else none) = none := h
      rw [if_pos hk] at h'
      cases h'
theorem askE_s {g : Nat → Int} {n : Nat} {L : List Int} (h : askE g n = some L) : ¬ wl g n ws_2 0 = -1 ∧ ∃ p, cQ g n = .inr (p, L) ∧ tx_k g n p = 0 := by
  unfold askE at h
  by_cases w : wl g n ws_2 0 = -1
  · rw [if_pos w] at h
    cases h
  · rw [if_neg w] at h
    refine ⟨w, ?_⟩
    cases e : cQ g n with
    | inl q =>
      rw [e] at h
      cases h
    | inr z =>
      rw [e] at h
      have h' : (if tx_k g n z.1 = 0 then some z.2 else none) = some L := h
      by_cases hk : tx_k g n z.1 = 0
      · rw [if_pos hk] at h'
        cases h'
        exact ⟨z.1, rfl, hk⟩
      · rw [if_neg hk] at h'
        cases h'
theorem cQ_g {g : Nat → Int} {n p : Nat} {L : List Int} (h : cQ g n = .inr (p, L)) : ∃ m, m ≤ 64 ∧ gdR 3707 m (decide (wl g n ws_2 0 < 3)) L := by
  unfold cQ at h
  by_cases x : 2 < wl g n ws_2 0
  · rw [if_pos x] at h
    rw [decide_eq_false (by omega)]
    exact codM_gS (z := (p, L)) rfl h
  · rw [if_neg x] at h
    rw [decide_eq_true (by omega)]
    exact codM_gT (z := (p, L)) (by decide) h
theorem rq_ok {w : Nat} (hP : plH nW nK cy ls oC oR kO cA clmK pcK comers code spans ar) (hB : stB nK d ru gr tr) (hw : w < nW) : okE 3707 (rhoQ d cA clmK pcK kO (wt0 cA (abf 0) (weS oC oR nW cy ls kO cA clmK pcK d tr ru gr 0)) (twf nW kO tr) (fun w => decide (2 ≤ (weS oC oR nW cy ls kO cA clmK pcK d tr ru gr 0).2.1 w)) (fun w => decide ((weS oC oR nW cy ls kO cA clmK pcK d tr ru gr 0).2.1 w = 3)) w) := by
  have hk := (hP.2.2.2.1 w hw).1
  have htw : 0 ≤ twf nW kO tr w ∧ twf nW kO tr w ≤ 9 := by
    unfold twf
    rw [if_pos hw]
    exact hB.2.2.2 _ (by omega)
  exact rhoQ_b (go := fun w => decide (2 ≤ (weS oC oR nW cy ls kO cA clmK pcK d tr ru gr 0).2.1 w)) (hm := fun w => decide ((weS oC oR nW cy ls kO cA clmK pcK d tr ru gr 0).2.1 w = 3)) (tw := twf nW kO tr) hP hB.1 hw (wt0_b (we_z hP) w hw) htw
theorem vQ_s {kd : Int} {L : List Int} {w : Nat} (hP : plH nW nK cy ls oC oR kO cA clmK pcK comers code spans ar) (hB : stB nK d ru gr tr) (hg : ∃ m, m ≤ 64 ∧ gdR 3707 m (decide (kd < 3)) L) (hw : w < nW) : (in6 (vQ oC oR nW cy ls kO cA clmK pcK d tr ru gr kd L w) ∧ (kd < 3 → vQ oC oR nW cy ls kO cA clmK pcK d tr ru gr kd L w = 0 ∨ vQ oC oR nW cy ls kO cA clmK pcK d tr ru gr kd L w = 1)) ∧ rnR (rhoQ d cA clmK pcK kO (wt0 cA (abf 0) (weS oC oR nW cy ls kO cA clmK pcK d tr ru gr 0)) (twf nW kO tr) (fun w => decide (2 ≤ (weS oC oR nW cy ls kO cA clmK pcK d tr ru gr 0).2.1 w)) (fun w => decide ((weS oC oR nW cy ls kO cA clmK pcK d tr ru gr 0).2.1 w = 3)) w) (kO w) 3707 L [] [vQ oC oR nW cy ls kO cA clmK pcK d tr ru gr kd L w] := by
  have h := vlu_s (κ := kO w) hg (rq_ok hP hB hw)
  exact ⟨⟨h.1.1, fun r => h.1.2 (decide_eq_true r)⟩, h.2⟩
/-- the class's answer -/
theorem as_a {n a_this_spare a_this_reader_plan : Nat} {x_this_spare_cycle x_this_spare_away x_this_spare_statements x_this_spare_kinds x_this_spare_walkers x_this_spare_size x_this_reader_length x_this_reader_at x_this_reader_behind x_this_reader_sort x_this_reader_allowed : Int} {g_this_spare_comers g_this_spare_code g_this_spare_spans : Nat → Int} (hn : n ≤ 1600) (hs : s = (n : Int)) (hP : plH nW nK cy ls oC oR kO cA clmK pcK comers code spans ar) (hS : sfH oC oR nW nK cy ls kO cA clmK pcK sd str sru sgr sA cars gaps known left leaves pr cr we ha) (hB : stB nK d ru gr tr) : (F_X9_ask g s cy ls (nK : Int) clmK pcK (nW : Int) kO cA comers code spans a_this_spare x_this_spare_cycle x_this_spare_away x_this_spare_statements x_this_spare_kinds x_this_spare_walkers g_this_spare_comers g_this_spare_code x_this_spare_size g_this_spare_spans d ru gr tr facts stack a_this_reader_plan x_this_reader_length x_this_reader_at x_this_reader_behind x_this_reader_sort x_this_reader_allowed fa pl sd str sru sgr sA ar cars gaps known left leaves pr cr we ha).1 = askS g n oC oR nW cy ls kO cA clmK pcK d tr ru gr := by
  subst hs
  obtain ⟨pr2, cr2, we2, ha2, f2, s2, c2, g2, t2, k2, l2, v2, e, h1, h2, h3, h4⟩ := lt_y (facts := facts) (stack := stack) hP hS hB
  unfold F_X9_ask F_X9_takeTape
  rw [lf_b_e, st_1x hP.2.2.1.1, lf_b_e, if_neg (show ¬ (1 : Int) = 0 from by decide)]
  unfold askS
  cases hE : askE g n with
  | none =>
    have h0 := cl_rq3 (comers := g_this_spare_comers) (code := g_this_spare_code) (spans := g_this_spare_spans) hn (askE_n hE)
    generalize F_X5_readQuestion g g_this_spare_comers g_this_spare_code g_this_spare_spans (n : Int) = R at h0 ⊢
    obtain ⟨r1, r2, r3, r4, r5, r6, r7, r8, r9, r10, r11⟩ := R
    have h0' : ¬ r6 = 0 := h0
    rw [lf_p_e, lf_p_e, lf_p_e, lf_p_e, lf_p_e, lf_p_e, lf_p_e, lf_p_e, lf_p_e, lf_p_e]
    exact (congrArg Prod.fst (if_neg h0')).trans rfl
  | some L =>
    obtain ⟨hw, p, hz, hk⟩ := askE_s hE
    obtain ⟨x1, x2, x3, x4, x5, A, B, D, eR, hl, hc⟩ := cl_rq2 (comers := g_this_spare_comers) (code := g_this_spare_code) (spans := g_this_spare_spans) hn hw hz hk
    have hl' : L.length ≤ 1600 := hl
    have hc' : ∀ j, j < L.length → D j = toC (L.getD j 0) := hc
    have hV : ∀ k, k < nW → in6 ((vQ oC oR nW cy ls kO cA clmK pcK d tr ru gr (wl g n ws_2 0) L) k) := fun k hk2 => (vQ_s hP hB (cQ_g hz) hk2).1.1
    have hval : ∀ k, k < nW → ∀ a8 a13 : Nat → Int, (F_X3_value (F_X7_describeWhole a8 clmK pcK kO cA d t2 v2 we2 ha2 (k : Int)) a13 D (0 : Int) (L.length : Int)).1 = (vQ oC oR nW cy ls kO cA clmK pcK d tr ru gr (wl g n ws_2 0) L) k := by
      intro k hk2 a8 a13
      have hkO := (hP.2.2.2.1 k hk2).1
      have q := qf_c (d := d) (a8 := a8) (tX := t2) (tw := twf nW kO tr) (z := weS oC oR nW cy ls kO cA clmK pcK d tr ru gr 0) hP (we_z hP) h3.2.2.2.2.2 h3.2.2.2.1 h3.2.2.2.2.1 hk2 (by
        unfold twf
        rw [if_pos hk2]
        exact h4 _ (by omega))
      exact vx_val (i := 0) (al := 3707) (κ := kO k) q.1 (fun _ => q.2) (fun j hj => by
        rw [Nat.zero_add]
        exact hc' j hj) (by omega) (by omega) (vQ_s (kd := wl g n ws_2 0) hP hB (cQ_g hz) hk2).2
    have hx : (F_X9_answer clmK pcK (nW : Int) kO cA D (L.length : Int) f2 s2 d t2 v2 we2 ha2 (wl g n ws_2 0)).1 = quQ (wl g n ws_2 0) (vQ oC oR nW cy ls kO cA clmK pcK d tr ru gr (wl g n ws_2 0) L) nW := by
      have hx0 := an_run (p0 := wl g n ws_2 0) (V := (vQ oC oR nW cy ls kO cA clmK pcK d tr ru gr (wl g n ws_2 0) L)) (nW := nW) hP.1 (wl_2 hw) hval hV 14 0 f2 s2 (Nat.zero_le _) (by have := hP.1; omega)
      rw [show fiQ (vQ oC oR nW cy ls kO cA clmK pcK d tr ru gr (wl g n ws_2 0) L) 0 = -1 from rfl, show laQ (vQ oC oR nW cy ls kO cA clmK pcK d tr ru gr (wl g n ws_2 0) L) 0 = -1 from rfl, show snm (vQ oC oR nW cy ls kO cA clmK pcK d tr ru gr (wl g n ws_2 0) L) 0 = 0 from rfl, show mxQ (vQ oC oR nW cy ls kO cA clmK pcK d tr ru gr (wl g n ws_2 0) L) 0 = 0 from rfl, show mnQ (vQ oC oR nW cy ls kO cA clmK pcK d tr ru gr (wl g n ws_2 0) L) 0 = 0 from rfl, show ((0 : Nat) : Int) = 0 from rfl] at hx0
      unfold F_X9_answer
      exact hx0
    rw [eR, lf_p_e, lf_p_e, lf_p_e, lf_p_e, lf_p_e, lf_p_e, lf_p_e, lf_p_e, lf_p_e, lf_p_e, if_pos rfl, e, lf_p_e, lf_p_e, lf_p_e, lf_p_e, lf_p_e, lf_p_e, lf_p_e, lf_p_e, lf_p_e, lf_p_e, lf_p_e, lf_p_e, lf_p_e, lf_p_e, lf_p_e]
    generalize F_X9_answer clmK pcK (nW : Int) kO cA D ((p, L).2.length : Int) f2 s2 d t2 v2 we2 ha2 (wl g n ws_2 0) = Q at hx ⊢
    obtain ⟨a, b, c⟩ := Q
    rw [lf_p_e, lf_p_e]
    exact hx
theorem q0_p {V : Nat → Int} {kd : Int} (h : 2 ≤ kd) : quQ kd V 0 = 0 := by
  unfold quQ
  rw [if_neg (show ¬ kd = 0 from by omega), if_neg (show ¬ kd = 1 from by omega)]
  by_cases c : kd ≤ 3
  · rw [if_pos c]
    rfl
  rw [if_neg c]
  by_cases c4 : kd = 4
  · rw [if_pos c4]
    rfl
  · rw [if_neg c4]
    rfl
theorem q0_n {V : Nat → Int} {kd : Int} (h : kd = 0 ∨ kd = 1) : quQ kd V 0 = -1 := by
  rcases h with r | r <;> subst r
  · exact quQ_0
  · exact quQ_1
end QE
end
section
/-! 9u -/
/-! ask: the model's answer -/
section QF
variable {nW nK : Nat} {oC oR oL : Option (List Int)} {s cy ls aw stm d ru gr hnx hct sd sru sgr sA ar pr cr we ha tkn ad aru agr akn rws cmp fnd frl fgr chs chl occ dwn fa pl sM awM isc und nwst rmM moc sdd tk ask red io lg gt icg sg qp ftm ftr ftg mf mp0 p0 p1 p2 p3 p4 : Int} {g clmK pcK kO cA comers code spans nmX tr rD rR rG facts stack str cars gaps known left leaves tab atr atd ats sw ss sec oct refu gM many bar kinds walkers cf ce codes now kept mrw mo refM asd isCar gapM isG isH crM wtM goM hmM prM ciM pile whn : Nat → Int} {rF : Nat → Nat → Int}
theorem as_l {n p : Nat} {L : List Int} {y2 y4 y5 y6 y7 y8 y58 y59 y70 y71 y72 y73 y74 y111 y113 y114 y117 sM2 y118 : Int} {a22 a24 a27 a32 a34 a35 a36 a37 a38 a39 a40 a41 a43 : Nat → Int} (hP : plH nW nK cy ls oC oR kO cA clmK pcK comers code spans ar) (hM : pmH nW nK cy ls oC oR oL kO cA clmK pcK many bar kinds walkers cf ce codes) (hB : stB nK d ru gr tr) (hN : ndH nK d ru gr tr now) (hw : ¬ wl g n ws_2 0 = -1) (hz : cQ g n = .inr (p, L)) (hl : L.length ≤ 1600) (hc : pcl a24 L) (hy : y111 = (L.length : Int)) (hg : ∀ s, s < 300 → a34 s = gpS oC d cy s) (hF : dF nW cA (twf nW kO tr) (abf 0) cy ls ru gr (weS oC oR nW cy ls kO cA clmK pcK d tr ru gr 0) a38 a39 a32 a35 a36 a40 a41 a43) (h18 : y118 = quQ (wl g n ws_2 0) (vQ oC oR nW cy ls kO cA clmK pcK d tr ru gr (wl g n ws_2 0) L) 0) : (F_X10_ask_192 sM2 many bar kinds walkers now 14 (wl g n ws_2 0) y2 y4 y5 y6 y7 y8 y58 y59 y70 y71 y72 y73 y74 y111 y113 y114 y117 a22 a24 a27 a32 a34 a35 a36 a37 a38 a39 a40 a41 a43 y118 (0 : Int) (1 : Int)).1 = quQ (wl g n ws_2 0) (vQ oC oR nW cy ls kO cA clmK pcK d tr ru gr (wl g n ws_2 0) L) nW := by
  subst h18
  have hD := md_of hP hM hB.1 hN hg
  have hval : ∀ k, k < nW → ∀ pl2 : Nat → Int, (F_X10_qTold (3 : Int) y58 y59 y111 bar kinds walkers now a34 a32 a35 a36 a24 pl2 (k : Int)).1 = (vQ oC oR nW cy ls kO cA clmK pcK d tr ru gr (wl g n ws_2 0) L) k := by
    intro k hk pl2
    exact vm_val3 (κ := kO k) (al := 3707) (fun j j0 j1 ja => qp_m (ask2 := y58) (red2 := y59) hD hF hk j j0 j1 ja) (fun _ => (md_kind hD hk).1) (rq_ok hP hB hk) hc hy.symm hl (vQ_s (kd := wl g n ws_2 0) hP hB (cQ_g hz) hk).2
  have hx := mq_run (n := sM2) (y2 := y2) (y4 := y4) (y5 := y5) (y6 := y6) (y7 := y7) (y8 := y8) (y70 := y70) (y71 := y71) (y72 := y72) (y73 := y73) (y74 := y74) (y113 := y113) (y114 := y114) (a22 := a22) (a37 := a37) (a38 := a38) (a39 := a39) (a40 := a40) (a41 := a41) (a43 := a43) hM.1 hP.1 (wl_2 hw) hval (fun k hk => (vQ_s hP hB (cQ_g hz) hk).1.1) (fun r k hk => (vQ_s hP hB (cQ_g hz) hk).1.2 r) 14 0 y117 a27 (Nat.zero_le _) (by have := hP.1; omega)
  rw [if_pos (show (0 : Nat) = 0 from rfl), show ((0 : Nat) : Int) = 0 from rfl] at hx
  exact hx
/-- the model's answer -/
theorem as_m {n : Nat} {x_at x_end x_ended x_bad x_badPlace x_qCoded x_qWaits x_qOpened x_qBase x_qAnswer x_qIsNew : Int} {g_firstAsked g_lastAsked g_oftenAsked g_totalAsked g_mostAsked g_leastAsked g_notAsked g_andAsked g_orAsked g_allAsked g_minAsked g_maxAsked g_secondAsked g_dayAsked g_phaseAsked g_waitedAsked g_calmAsked g_paceAsked g_trustsAsked g_gapAsked g_redsAsked g_numberAsked g_wentAsked g_harmAsked g_kindofAsked g_qCodes g_qWait : Nat → Int} (hn : n ≤ 1600) (hs : sM = (n : Int)) (eg : gM = g) (hg : ∀ k, k < n → 0 ≤ g k) (hq : qw g_secondAsked g_dayAsked g_phaseAsked g_waitedAsked g_calmAsked g_paceAsked g_trustsAsked g_gapAsked g_redsAsked g_numberAsked g_wentAsked g_harmAsked g_kindofAsked) (hnot : wa g_notAsked W_not) (hand : wa g_andAsked W_and) (hor : wa g_orAsked W_or) (hall : wa g_allAsked W_all) (hmin : wa g_minAsked W_min) (hmax : wa g_maxAsked W_max) (h1 : wa g_firstAsked W_first) (h2 : wa g_lastAsked W_last) (h3 : wa g_oftenAsked W_often) (h4 : wa g_totalAsked W_total) (h5 : wa g_mostAsked W_most) (h6 : wa g_leastAsked W_least) (hP : plH nW nK cy ls oC oR kO cA clmK pcK comers code spans ar) (hM : pmH nW nK cy ls oC oR oL kO cA clmK pcK many bar kinds walkers cf ce codes) (hB : stB nK d ru gr tr) (hN : ndH nK d ru gr tr now) (hi : isc = 1) : (F_X10_ask sM x_at x_end x_ended x_bad x_badPlace mf mp0 isc tk ask red io lg gt icg sg x_qCoded x_qWaits x_qOpened x_qBase qp x_qAnswer x_qIsNew gM many bar kinds walkers cf ce codes now isCar gapM isG isH crM wtM goM hmM prM ciM g_firstAsked g_lastAsked g_oftenAsked g_totalAsked g_mostAsked g_leastAsked g_notAsked g_andAsked g_orAsked g_allAsked g_minAsked g_maxAsked g_secondAsked g_dayAsked g_phaseAsked g_waitedAsked g_calmAsked g_paceAsked g_trustsAsked g_gapAsked g_redsAsked g_numberAsked g_wentAsked g_harmAsked g_kindofAsked g_qCodes g_qWait pile).1 = askS g n oC oR nW cy ls kO cA clmK pcK d tr ru gr := by
  subst hs
  subst eg
  have h0 : mp gM n 0 (0 : Int) (-1 : Int) := ⟨Nat.zero_le _, ⟨0, rfl, Nat.le_refl _, Nat.zero_le _, rfl⟩, (by decide), ⟨fun r => absurd r (by decide), fun r => absurd rfl r.1⟩⟩
  have hle := tx_e_le (f := gM) (Nat.zero_le n)
  have hk := qk_1 hn h1 h2 h3 h4 h5 h6 h0
  unfold F_X10_ask
  rw [if_neg (show ¬ isc = 0 from by omega)]
  generalize F_X10_qKind (0 : Int) (n : Int) (-1 : Int) (0 : Int) (-1 : Int) gM g_firstAsked g_lastAsked g_oftenAsked g_totalAsked g_mostAsked g_leastAsked = R at hk ⊢
  obtain ⟨r1, r2, r3, r4, r5⟩ := R
  rw [lf_p_e, lf_p_e, lf_p_e, lf_p_e]
  unfold askS
  by_cases q : wl gM n ws_2 0 = -1
  · rw [if_pos q, if_pos q] at hk
    obtain ⟨⟨k1, k2⟩, _⟩ := hk
    have k1' : r4 = 1 := k1
    have eE : askE gM n = none := by
      unfold askE
      rw [if_pos q]
    rw [eE]
    exact (congrArg Prod.fst (if_neg (show ¬ r4 = 0 from by omega))).trans rfl
  · rw [if_neg q, if_neg q] at hk
    obtain ⟨⟨k1, k2, k3⟩, k4⟩ := hk
    have k1' : r4 = 0 := k1
    have k2' : r5 = -1 := k2
    have k4' : r1 = wl gM n ws_2 0 := k4 _ rfl
    have k3' : mp gM n (tx_e gM n 0) r2 r3 := k3
    subst k1'
    subst k2'
    subst k4'
    rw [if_pos rfl]
    have tk3 : tkA 3 3707 := Or.inr (Or.inr (Or.inr ⟨rfl, rfl⟩))
    have hwl := wl_2 q
    by_cases q2 : 3 ≤ wl gM n ws_2 0
    · rw [if_pos q2]
      have hs' : qUC gM n [] 0 0 (RC gM n 3707 true [] [] 0 (tx_e gM n 0)) (tx_e gM n 0) (F_X10_qSums r2 (n : Int) r3 (0 : Int) (-1 : Int) (3 : Int) (0 : Int) (0 : Int) (0 : Int) gM g_minAsked g_maxAsked g_secondAsked g_dayAsked g_phaseAsked g_waitedAsked g_calmAsked g_paceAsked g_trustsAsked g_gapAsked g_redsAsked g_numberAsked g_wentAsked g_harmAsked g_kindofAsked g_qCodes g_qWait) := qc_sums (B := []) (o0 := 0) (d := 0) (al := 3707) (tk := 3) (K := []) hn (show ¬ (1 ≤ (0 : Int) ∧ (0 : Int) ≤ 4) from by decide) hq hmin hmax tk3 (p := tx_e gM n 0) (cd := g_qCodes) (w := g_qWait) ⟨True.intro, rfl, Int.le_refl _, (by decide), (by show (0 : Int) + ((0 : Nat) : Int) + ((0 : Nat) : Int) ≤ _; omega), Int.le_refl _, k3', rfl, rfl, rfl, rfl, True.intro⟩ (fun j hj => absurd hj (Nat.not_lt_zero j))
      have eM : cQ gM n = mSum gM n 3707 6 (tx_e gM n 0) := by
        unfold cQ codM
        rw [if_pos (show 2 < wl gM n ws_2 0 from by omega), if_pos rfl]
      rw [show RC gM n 3707 true [] [] 0 (tx_e gM n 0) = bL (mSum gM n 3707 6 (tx_e gM n 0)) (fun q L => .inr (q, [] ++ L)) from sumC_eq (g := gM) (al := 3707) hn 6 (Nat.le_refl _) (tx_e gM n 0) [] hle, ← eM] at hs'
      generalize F_X10_qSums r2 (n : Int) r3 (0 : Int) (-1 : Int) (3 : Int) (0 : Int) (0 : Int) (0 : Int) gM g_minAsked g_maxAsked g_secondAsked g_dayAsked g_phaseAsked g_waitedAsked g_calmAsked g_paceAsked g_trustsAsked g_gapAsked g_redsAsked g_numberAsked g_wentAsked g_harmAsked g_kindofAsked g_qCodes g_qWait = R at hs' ⊢
      obtain ⟨y1, y2, y3, y4, y5, y6, y7, y8, y9⟩ := R
      rw [lf_p_e, lf_p_e, lf_p_e, lf_p_e, lf_p_e, lf_p_e, lf_p_e, lf_p_e]
      rcases hs' with ⟨q3, e, q4, q5, q6⟩ | ⟨p2, K2, e, hlt, hs⟩
      · have q5' : y3 = q3.1 := q5
        have eE : askE gM n = none := by
          unfold askE
          rw [if_neg q]
          cases eC : cQ gM n with
          | inl _ => rfl
          | inr z =>
            rw [eC] at e
            have e9 : (Sum.inr (z.1, [] ++ z.2) : SL) = .inl q3 := e
            cases e9
        rw [eE]
        exact (congrArg Prod.fst (if_neg (fun r => q4 (q5'.symm.trans r)))).trans rfl
      · have hs2 : qSC gM n [] 0 0 [] K2 0 p2 y1 y2 y3 y4 y5 y6 y7 y8 y9 := hs
        obtain ⟨⟨s1, s2, s3, s4, s5, s6, s7, s8, s9, s10, s11, s12⟩, s13, s14⟩ := hs2
        subst s8
        have s5' : y5 + ((0 : Nat) : Int) + ((0 : Nat) : Int) ≤ (p2 : Int) := s5
        have hp2 := s7.1
        have hl2 : K2.length ≤ 1600 := by omega
        have eC : cQ gM n = .inr (p2, K2) := by
          cases eC : cQ gM n with
          | inl q' =>
            rw [eC] at e
            have e9 : (Sum.inl q' : SL) = .inr (p2, K2) := e
            cases e9
          | inr z =>
            rw [eC] at e
            have e9 : (Sum.inr (z.1, [] ++ z.2) : SL) = .inr (p2, K2) := e
            cases e9
            rfl
        rw [if_pos rfl, ml_look hn s7, lf_p_e]
        by_cases q3 : tx_k gM n p2 = 0
        · have eE : askE gM n = some K2 := by
            unfold askE
            rw [if_neg q, eC]
            exact if_pos q3
          rw [eE, if_pos ((lk_end s7.1 hg).mpr q3)]
          obtain ⟨v16, v17, v18, v19, v20, v21, v22, v23, v24, f33, f27, f7, f28, f29, f8, f25, f26, f30, f31, f32, e5, hD1, hD2, hD3⟩ := dn_x (tk := 3) (ask := ask) (red := red) (sg := sg) (qp := qp) (isCar := isCar) (gaps := gapM) (isG := isG) (isH := isH) (cr := crM) (wt := wtM) (go := goM) (hm := hmM) (pr2 := prM) (ci := ciM) (pile := pile) hP hM hB.1 hN hB.2.2.1.1 hB.2.2.1.2 hB.2.1
          rw [wkM_0] at hD1
          rw [e5, lf_p_e, lf_p_e, lf_p_e, lf_p_e, lf_p_e, lf_p_e, lf_p_e, lf_p_e, lf_p_e, lf_p_e, lf_p_e, lf_p_e, lf_p_e, lf_p_e, lf_p_e, lf_p_e, lf_p_e, lf_p_e, lf_p_e]
          exact as_l (L := K2) hP hM hB hN q eC hl2 s14 s13 hD3 hD1 (q0_p (by omega)).symm
        · have eE : askE gM n = none := by
            unfold askE
            rw [if_neg q, eC]
            exact if_neg q3
          rw [eE, if_neg (fun r => q3 ((lk_end s7.1 hg).mp r))]
    · rw [if_neg q2]
      have hs' : qUC gM n [] 0 0 (TC gM n 3707 true [] [] 0 (tx_e gM n 0)) (tx_e gM n 0) (F_X10_qTest r2 (n : Int) r3 (0 : Int) (-1 : Int) (3 : Int) (0 : Int) (0 : Int) (0 : Int) gM g_notAsked g_andAsked g_orAsked g_allAsked g_minAsked g_maxAsked g_secondAsked g_dayAsked g_phaseAsked g_waitedAsked g_calmAsked g_paceAsked g_trustsAsked g_gapAsked g_redsAsked g_numberAsked g_wentAsked g_harmAsked g_kindofAsked g_qCodes g_qWait) := qc_test (al := 3707) (tk := 3) (d := 0) hn hq hnot hand hor hall hmin hmax tk3 (cd := g_qCodes) (w := g_qWait) k3' (Nat.zero_le _)
      have eM : cQ gM n = mTest gM n 3707 6 (tx_e gM n 0) := by
        unfold cQ codM
        rw [if_neg (show ¬ 2 < wl gM n ws_2 0 from by omega), if_neg (by decide)]
      rw [show TC gM n 3707 true [] [] 0 (tx_e gM n 0) = bL (mTest gM n 3707 6 (tx_e gM n 0)) (fun q L => .inr (q, [] ++ L)) from testC_eq (g := gM) (al := 3707) hn 6 (Nat.le_refl _) (tx_e gM n 0) [] hle, ← eM] at hs'
      generalize F_X10_qTest r2 (n : Int) r3 (0 : Int) (-1 : Int) (3 : Int) (0 : Int) (0 : Int) (0 : Int) gM g_notAsked g_andAsked g_orAsked g_allAsked g_minAsked g_maxAsked g_secondAsked g_dayAsked g_phaseAsked g_waitedAsked g_calmAsked g_paceAsked g_trustsAsked g_gapAsked g_redsAsked g_numberAsked g_wentAsked g_harmAsked g_kindofAsked g_qCodes g_qWait = R at hs' ⊢
      obtain ⟨y1, y2, y3, y4, y5, y6, y7, y8, y9⟩ := R
      rw [lf_p_e, lf_p_e, lf_p_e, lf_p_e, lf_p_e, lf_p_e, lf_p_e, lf_p_e]
      rcases hs' with ⟨q3, e, q4, q5, q6⟩ | ⟨p2, K2, e, hlt, hs⟩
      · have q5' : y3 = q3.1 := q5
        have eE : askE gM n = none := by
          unfold askE
          rw [if_neg q]
          cases eC : cQ gM n with
          | inl _ => rfl
          | inr z =>
            rw [eC] at e
            have e9 : (Sum.inr (z.1, [] ++ z.2) : SL) = .inl q3 := e
            cases e9
        rw [eE]
        exact (congrArg Prod.fst (if_neg (fun r => q4 (q5'.symm.trans r)))).trans rfl
      · have hs2 : qSC gM n [] 0 0 [] K2 0 p2 y1 y2 y3 y4 y5 y6 y7 y8 y9 := hs
        obtain ⟨⟨s1, s2, s3, s4, s5, s6, s7, s8, s9, s10, s11, s12⟩, s13, s14⟩ := hs2
        subst s8
        have s5' : y5 + ((0 : Nat) : Int) + ((0 : Nat) : Int) ≤ (p2 : Int) := s5
        have hp2 := s7.1
        have hl2 : K2.length ≤ 1600 := by omega
        have eC : cQ gM n = .inr (p2, K2) := by
          cases eC : cQ gM n with
          | inl q' =>
            rw [eC] at e
            have e9 : (Sum.inl q' : SL) = .inr (p2, K2) := e
            cases e9
          | inr z =>
            rw [eC] at e
            have e9 : (Sum.inr (z.1, [] ++ z.2) : SL) = .inr (p2, K2) := e
            cases e9
            rfl
        rw [if_pos rfl, ml_look hn s7, lf_p_e]
        by_cases q3 : tx_k gM n p2 = 0
        · have eE : askE gM n = some K2 := by
            unfold askE
            rw [if_neg q, eC]
            exact if_pos q3
          rw [eE, if_pos ((lk_end s7.1 hg).mpr q3)]
          by_cases q7 : 2 ≤ wl gM n ws_2 0
          · obtain ⟨v16, v17, v18, v19, v20, v21, v22, v23, v24, f33, f27, f7, f28, f29, f8, f25, f26, f30, f31, f32, e5, hD1, hD2, hD3⟩ := dn_x (tk := 3) (ask := ask) (red := red) (sg := sg) (qp := qp) (isCar := isCar) (gaps := gapM) (isG := isG) (isH := isH) (cr := crM) (wt := wtM) (go := goM) (hm := hmM) (pr2 := prM) (ci := ciM) (pile := pile) hP hM hB.1 hN hB.2.2.1.1 hB.2.2.1.2 hB.2.1
            rw [wkM_0] at hD1
            rw [if_pos q7, e5, lf_p_e, lf_p_e, lf_p_e, lf_p_e, lf_p_e, lf_p_e, lf_p_e, lf_p_e, lf_p_e, lf_p_e, lf_p_e, lf_p_e, lf_p_e, lf_p_e, lf_p_e, lf_p_e, lf_p_e, lf_p_e, lf_p_e]
            exact as_l (L := K2) hP hM hB hN q eC hl2 s14 s13 hD3 hD1 (q0_p q7).symm
          · obtain ⟨v16, v17, v18, v19, v20, v21, v22, v23, v24, f33, f27, f7, f28, f29, f8, f25, f26, f30, f31, f32, e5, hD1, hD2, hD3⟩ := dn_x (tk := 3) (ask := ask) (red := red) (sg := sg) (qp := qp) (isCar := isCar) (gaps := gapM) (isG := isG) (isH := isH) (cr := crM) (wt := wtM) (go := goM) (hm := hmM) (pr2 := prM) (ci := ciM) (pile := pile) hP hM hB.1 hN hB.2.2.1.1 hB.2.2.1.2 hB.2.1
            rw [wkM_0] at hD1
            rw [if_neg q7, e5, lf_p_e, lf_p_e, lf_p_e, lf_p_e, lf_p_e, lf_p_e, lf_p_e, lf_p_e, lf_p_e, lf_p_e, lf_p_e, lf_p_e, lf_p_e, lf_p_e, lf_p_e, lf_p_e, lf_p_e, lf_p_e, lf_p_e]
            exact as_l (L := K2) hP hM hB hN q eC hl2 s14 s13 hD3 hD1 (q0_n (by omega)).symm
        · have eE : askE gM n = none := by
            unfold askE
            rw [if_neg q, eC]
            exact if_neg q3
          rw [eE, if_neg (fun r => q3 ((lk_end s7.1 hg).mp r))]
end QF
end
section
/-! 9v -/
/-! ask: what is told of both answers, without a word of how -/
def qX7 (g : Nat → Int) (n : Nat) (r cy ls kx wx d ru gr sd sru sgr sA ar pr cr we ha : Int) (clmK pcK kO cA comers code spans tr str cars gaps known left leaves : Nat → Int) : Prop := (cy ≤ 0 → r = -1000000000000000) ∧ ∀ (oC oR : Option (List Int)) (nW nK : Nat), kx = (nK : Int) → wx = (nW : Int) → plH nW nK cy ls oC oR kO cA clmK pcK comers code spans ar → sfH oC oR nW nK cy ls kO cA clmK pcK sd str sru sgr sA cars gaps known left leaves pr cr we ha → stB nK d ru gr tr → r = askS g n oC oR nW cy ls kO cA clmK pcK d tr ru gr
def qM7 (g : Nat → Int) (n : Nat) (r isc : Int) (many bar kinds walkers cf ce codes now : Nat → Int) : Prop := (isc = 0 → r = -1000000000000000) ∧ ∀ (oC oR oL : Option (List Int)) (nW nK : Nat) (cy ls ar d ru gr : Int) (kO cA clmK pcK comers code spans tr : Nat → Int), plH nW nK cy ls oC oR kO cA clmK pcK comers code spans ar → pmH nW nK cy ls oC oR oL kO cA clmK pcK many bar kinds walkers cf ce codes → stB nK d ru gr tr → ndH nK d ru gr tr now → isc = 1 → r = askS g n oC oR nW cy ls kO cA clmK pcK d tr ru gr
theorem qx_of {g clmK pcK kO cA comers code spans g_this_spare_comers g_this_spare_code g_this_spare_spans tr facts stack str cars gaps known left leaves : Nat → Int} {s cy ls kx wx x_this_spare_cycle x_this_spare_away x_this_spare_statements x_this_spare_kinds x_this_spare_walkers x_this_spare_size d ru gr x_this_reader_length x_this_reader_at x_this_reader_behind x_this_reader_sort x_this_reader_allowed fa pl sd sru sgr sA ar pr cr we ha : Int} {a_this_spare a_this_reader_plan : Nat} {O : Int × Int × Int × Int × Int × Int × Nat × Int × Int × Int × Int × Int × Int × Int × Int × (Nat → Int) × (Nat → Int) × (Nat → Int) × Int × Int × Int × Int × Int × Int × Int × Int × (Nat → Int) × (Nat → Int) × (Nat → Int) × (Nat → Int) × (Nat → Int) × (Nat → Int) × (Nat → Int) × (Nat → Int)} (g0 : 0 ≤ s) (g1 : s ≤ 1600) (h : F_X9_ask g s cy ls kx clmK pcK wx kO cA comers code spans a_this_spare x_this_spare_cycle x_this_spare_away x_this_spare_statements x_this_spare_kinds x_this_spare_walkers g_this_spare_comers g_this_spare_code x_this_spare_size g_this_spare_spans d ru gr tr facts stack a_this_reader_plan x_this_reader_length x_this_reader_at x_this_reader_behind x_this_reader_sort x_this_reader_allowed fa pl sd str sru sgr sA ar cars gaps known left leaves pr cr we ha = O) {r : Int} (er : O.1 = r) : qX7 g s.toNat r cy ls kx wx d ru gr sd sru sgr sA ar pr cr we ha clmK pcK kO cA comers code spans tr str cars gaps known left leaves := by
  obtain ⟨n, rfl⟩ := Int.eq_ofNat_of_zero_le g0
  have hn : n ≤ 1600 := by omega
  rw [Int.toNat_natCast]
  subst h
  subst er
  refine ⟨fun hc => ?_, fun oC oR nW nK e1 e2 hP hS hB => ?_⟩
  · unfold F_X9_ask F_X9_stands
    rw [lf_b_e, if_pos hc, lf_b_e]
    exact (congrArg Prod.fst (if_pos rfl)).trans rfl
  · subst e1
    subst e2
    exact as_a hn rfl hP hS hB
theorem qm_of {sM x_at x_end x_ended x_bad x_badPlace mf mp0 isc tk ask red io lg gt icg sg x_qCoded x_qWaits x_qOpened x_qBase qp x_qAnswer x_qIsNew : Int} {gM many bar kinds walkers cf ce codes now isCar gapM isG isH crM wtM goM hmM prM ciM g_firstAsked g_lastAsked g_oftenAsked g_totalAsked g_mostAsked g_leastAsked g_notAsked g_andAsked g_orAsked g_allAsked g_minAsked g_maxAsked g_secondAsked g_dayAsked g_phaseAsked g_waitedAsked g_calmAsked g_paceAsked g_trustsAsked g_gapAsked g_redsAsked g_numberAsked g_wentAsked g_harmAsked g_kindofAsked g_qCodes g_qWait pile : Nat → Int} {O : Int × Int × Int × Int × Int × Int × Int × Int × Int × Int × Int × Int × Int × Int × Int × Int × Int × Int × Int × Int × Int × Int × Int × (Nat → Int) × (Nat → Int) × (Nat → Int) × (Nat → Int) × (Nat → Int) × (Nat → Int) × (Nat → Int) × (Nat → Int) × (Nat → Int) × (Nat → Int) × (Nat → Int) × (Nat → Int) × (Nat → Int)} (g0 : 0 ≤ sM) (g1 : sM ≤ 1600) (hg : ∀ k, k < 1600 → 0 ≤ gM k) (hq : qw g_secondAsked g_dayAsked g_phaseAsked g_waitedAsked g_calmAsked g_paceAsked g_trustsAsked g_gapAsked g_redsAsked g_numberAsked g_wentAsked g_harmAsked g_kindofAsked) (hnot : wa g_notAsked W_not) (hand : wa g_andAsked W_and) (hor : wa g_orAsked W_or) (hall : wa g_allAsked W_all) (hmin : wa g_minAsked W_min) (hmax : wa g_maxAsked W_max) (h1 : wa g_firstAsked W_first) (h2 : wa g_lastAsked W_last) (h3 : wa g_oftenAsked W_often) (h4 : wa g_totalAsked W_total) (h5 : wa g_mostAsked W_most) (h6 : wa g_leastAsked W_least) (h : F_X10_ask sM x_at x_end x_ended x_bad x_badPlace mf mp0 isc tk ask red io lg gt icg sg x_qCoded x_qWaits x_qOpened x_qBase qp x_qAnswer x_qIsNew gM many bar kinds walkers cf ce codes now isCar gapM isG isH crM wtM goM hmM prM ciM g_firstAsked g_lastAsked g_oftenAsked g_totalAsked g_mostAsked g_leastAsked g_notAsked g_andAsked g_orAsked g_allAsked g_minAsked g_maxAsked g_secondAsked g_dayAsked g_phaseAsked g_waitedAsked g_calmAsked g_paceAsked g_trustsAsked g_gapAsked g_redsAsked g_numberAsked g_wentAsked g_harmAsked g_kindofAsked g_qCodes g_qWait pile = O) {r : Int} (er : O.1 = r) : qM7 gM sM.toNat r isc many bar kinds walkers cf ce codes now := by
  obtain ⟨n, rfl⟩ := Int.eq_ofNat_of_zero_le g0
  have hn : n ≤ 1600 := by omega
  rw [Int.toNat_natCast]
  subst h
  subst er
  refine ⟨fun hi => ?_, fun oC oR oL nW nK cy ls ar d ru gr kO cA clmK pcK comers code spans tr hP hM hB hN hi => ?_⟩
  · unfold F_X10_ask
    exact (congrArg Prod.fst (if_pos hi)).trans rfl
  · exact as_m (g := gM) hn rfl rfl (fun k hk => hg k (by omega)) hq hnot hand hor hall hmin hmax h1 h2 h3 h4 h5 h6 hP hM hB hN hi
theorem t7_askr {cy ls aw kx wx d ru gr hnx hct sd sru sgr sA ar pr cr we ha ad aru agr akn rws occ dwn tkn cmp fnd frl fgr chs chl isc awM und nwst rmM moc sdd r r2 : Int} {clmK pcK kO cA comers code spans tr rD rR rG str cars gaps known left leaves atr atd ats sw ss oct refu tab sec many bar kinds walkers cf ce codes now kept mrw mo refM g gM : Nat → Int} {rF : Nat → Nat → Int} {n n2 : Nat} (h : T7 cy ls aw kx wx d ru gr hnx hct sd sru sgr sA ar pr cr we ha ad aru agr akn rws occ dwn tkn cmp fnd frl fgr chs chl isc awM und nwst rmM moc sdd clmK pcK kO cA comers code spans tr rD rR rG str cars gaps known left leaves atr atd ats sw ss oct refu tab sec many bar kinds walkers cf ce codes now kept mrw mo refM rF) (eg : g = gM) (en : n = n2) (qx : qX7 g n r cy ls kx wx d ru gr sd sru sgr sA ar pr cr we ha clmK pcK kO cA comers code spans tr str cars gaps known left leaves) (qm : qM7 gM n2 r2 isc many bar kinds walkers cf ce codes now) : r = r2 := by
  subst eg
  subst en
  obtain ⟨hR, hD, hO, hC⟩ := h
  rcases hC with h0 | ⟨oC, oR, oL, nW, nK, k1, k2, hP, hM, hL, haw, hB, hN, hH, hS, hi, hW, hA, hCh, hWa⟩
  · obtain ⟨⟨z1, z2, z3, z4⟩, _⟩ := h0
    exact (qx.1 (by omega)).trans (qm.1 z4).symm
  · exact (qx.2 oC oR nW nK k1 k2 hP hS hB).trans (qm.2 oC oR oL nW nK _ _ _ _ _ _ _ _ _ _ _ _ _ _ hP hM hB hN hi).symm
end
