/-! all that is tied between the two programs, over every call -/
def crS (oC oR oL : Option (List Int)) (nW nK : Nat) (cy ls aw kx wx d ru gr hnx hct sd sru sgr sA ar pr cr we ha ad aru agr akn rws tkn cmp fnd frl fgr chs chl isc awM und nwst rmM : Int) (clmK pcK kO cA comers code spans tr rD rR rG str cars gaps known left leaves atr atd ats sw ss tab sec many bar kinds walkers cf ce codes now kept mrw : Nat → Int) (rF : Nat → Nat → Int) : Prop := kx = (nK : Int) ∧ wx = (nW : Int) ∧ plH nW nK cy ls oC oR kO cA clmK pcK comers code spans ar ∧ pmH nW nK cy ls oC oR oL kO cA clmK pcK many bar kinds walkers cf ce codes ∧ (cdX code spans 4 oL ∧ cdG false 123 oL) ∧ awM = aw ∧ stB nK d ru gr tr ∧ ndH nK d ru gr tr now ∧ hsH nK hnx hct rD rR rG rF nwst und kept ∧ sfH oC oR nW nK cy ls kO cA clmK pcK sd str sru sgr sA cars gaps known left leaves pr cr we ha ∧ isc = 1 ∧ rwH nW rws sw ss rmM mrw ∧ ahH oC oR oL nW nK cy ls kO cA clmK pcK d ru gr tr akn ad aru agr atr atd ats ∧ chH oC oR nW cy ls kO cA clmK pcK d tr tkn tab ∧ waH oC oR nW cy ls kO cA clmK pcK d tr rws sw ss cmp fnd frl fgr chs chl sec
def noS (cy kx wx isc d ru gr hct und hnx nwst rws rmM : Int) (many bar now : Nat → Int) : Prop := (cy = 0 ∧ kx = 0 ∧ wx = 0 ∧ isc = 0) ∧ (many 2 = 0 ∧ many 3 = 0 ∧ bar 4 = 0) ∧ (d = 0 ∧ ru = 0 ∧ gr = 0) ∧ (now 0 = 0 ∧ now 1 = 0 ∧ now 2 = 0) ∧ (hct = 0 ∧ und = 0 ∧ (0 ≤ hnx ∧ hnx ≤ 19) ∧ (0 ≤ nwst ∧ nwst ≤ 19)) ∧ rws = 0 ∧ rmM = 0
def coS (cy ls aw kx wx d ru gr hnx hct sd sru sgr sA ar pr cr we ha ad aru agr akn rws tkn cmp fnd frl fgr chs chl isc awM und nwst rmM : Int) (clmK pcK kO cA comers code spans tr rD rR rG str cars gaps known left leaves atr atd ats sw ss tab sec many bar kinds walkers cf ce codes now kept mrw : Nat → Int) (rF : Nat → Nat → Int) : Prop := noS cy kx wx isc d ru gr hct und hnx nwst rws rmM many bar now ∨ ∃ oC oR oL nW nK, crS oC oR oL nW nK cy ls aw kx wx d ru gr hnx hct sd sru sgr sA ar pr cr we ha ad aru agr akn rws tkn cmp fnd frl fgr chs chl isc awM und nwst rmM clmK pcK kO cA comers code spans tr rD rR rG str cars gaps known left leaves atr atd ats sw ss tab sec many bar kinds walkers cf ce codes now kept mrw rF
def T7 (cy ls aw kx wx d ru gr hnx hct sd sru sgr sA ar pr cr we ha ad aru agr akn rws occ dwn tkn cmp fnd frl fgr chs chl isc awM und nwst rmM moc sdd : Int) (clmK pcK kO cA comers code spans tr rD rR rG str cars gaps known left leaves atr atd ats sw ss oct refu tab sec many bar kinds walkers cf ce codes now kept mrw mo refM : Nat → Int) (rF : Nat → Nat → Int) : Prop := refu = refM ∧ (∃ s0 : Nat, s0 < 2147483648 ∧ dwn = (s0 : Int) ∧ sdd = (s0 : Int)) ∧ (occ = moc ∧ (0 ≤ occ ∧ occ ≤ 11) ∧ ∀ j : Nat, (j : Int) < occ → oct j = mo j) ∧ coS cy ls aw kx wx d ru gr hnx hct sd sru sgr sA ar pr cr we ha ad aru agr akn rws tkn cmp fnd frl fgr chs chl isc awM und nwst rmM clmK pcK kO cA comers code spans tr rD rR rG str cars gaps known left leaves atr atd ats sw ss tab sec many bar kinds walkers cf ce codes now kept mrw rF
theorem t7_light {cy ls kx wx d ru gr sd sru sgr sA ar pr cr we ha p0 r n_sd n_sru n_sgr n_sA n_pr n_cr n_we n_ha isc tk ask red io lg gt icg sg qp r2 n_tk n_ask n_red n_io n_lg n_gt n_icg n_sg n_qp aw hnx hct ad aru agr akn rws occ dwn tkn cmp fnd frl fgr chs chl awM und nwst rmM moc sdd : Int} {clmK pcK kO cA comers code spans tr facts stack str cars gaps known left leaves n_facts n_stack n_cars n_gaps n_str n_known n_left n_leaves many bar kinds walkers cf ce codes now isCar gapM isG isH crM wtM goM hmM prM ciM pile n_pile n_wtM n_gapM n_goM n_hmM n_isCar n_isH n_crM n_prM n_ciM n_isG rD rR rG atr atd ats sw ss oct refu tab sec kept mrw mo refM : Nat → Int} {rF : Nat → Nat → Int} (h : T7 cy ls aw kx wx d ru gr hnx hct sd sru sgr sA ar pr cr we ha ad aru agr akn rws occ dwn tkn cmp fnd frl fgr chs chl isc awM und nwst rmM moc sdd clmK pcK kO cA comers code spans tr rD rR rG str cars gaps known left leaves atr atd ats sw ss oct refu tab sec many bar kinds walkers cf ce codes now kept mrw mo refM rF) (hx : F_X9_light cy ls kx clmK pcK wx kO cA comers code spans d ru gr tr facts stack sd str sru sgr sA ar cars gaps known left leaves pr cr we ha p0 = (r, n_sd, n_sru, n_sgr, n_sA, n_pr, n_cr, n_we, n_ha, n_facts, n_stack, n_cars, n_gaps, n_str, n_known, n_left, n_leaves)) (hm : F_X10_light isc tk ask red io lg gt icg sg qp many bar kinds walkers cf ce codes now isCar gapM isG isH crM wtM goM hmM prM ciM pile p0 = (r2, n_tk, n_ask, n_red, n_io, n_lg, n_gt, n_icg, n_sg, n_qp, n_pile, n_wtM, n_gapM, n_goM, n_hmM, n_isCar, n_isH, n_crM, n_prM, n_ciM, n_isG)) : T7 cy ls aw kx wx d ru gr hnx hct n_sd n_sru n_sgr n_sA ar n_pr n_cr n_we n_ha ad aru agr akn rws occ dwn tkn cmp fnd frl fgr chs chl isc awM und nwst rmM moc sdd clmK pcK kO cA comers code spans tr rD rR rG n_str n_cars n_gaps n_known n_left n_leaves atr atd ats sw ss oct refu tab sec many bar kinds walkers cf ce codes now kept mrw mo refM rF ∧ r = r2 := by
  obtain ⟨hR, hD, hO, hC⟩ := h
  rcases hC with h0 | ⟨oC, oR, oL, nW, nK, rfl, rfl, hP, hM, hL, haw, hB, hN, hH, hS, hi, hW, hA, hCh, hWa⟩
  · obtain ⟨⟨z1, z2, z3, z4⟩, ⟨z5, z6, z7⟩, z8⟩ := h0
    have c : (F_X9_light cy ls kx clmK pcK wx kO cA comers code spans d ru gr tr facts stack sd str sru sgr sA ar cars gaps known left leaves pr cr we ha p0).1 = -1 := by
      unfold F_X9_light F_X9_light_18
      rw [st_0x z1, lf_b_e, if_pos rfl]
    have m : (F_X10_light isc tk ask red io lg gt icg sg qp many bar kinds walkers cf ce codes now isCar gapM isG isH crM wtM goM hmM prM ciM pile p0).1 = -1 := by
      unfold F_X10_light F_X10_light_19
      rw [if_pos z4]
    rw [hx] at c
    rw [hm] at m
    exact ⟨⟨hR, hD, hO, Or.inl ⟨⟨z1, z2, z3, z4⟩, ⟨z5, z6, z7⟩, z8⟩⟩, c.trans m.symm⟩
  · obtain ⟨c, cS⟩ := li_c (facts := facts) (stack := stack) (p0 := p0) hP hS hB
    have m := li_mm (tk := tk) (ask := ask) (red := red) (io := io) (lg := lg) (gt := gt) (icg := icg) (sg := sg) (qp := qp) (isCar := isCar) (gapM := gapM) (isG := isG) (isH := isH) (crM := crM) (wtM := wtM) (goM := goM) (hmM := hmM) (prM := prM) (ciM := ciM) (pile := pile) (p0 := p0) hP hM hB hN hi
    rw [hx] at c cS
    rw [hm] at m
    exact ⟨⟨hR, hD, hO, Or.inr ⟨oC, oR, oL, nW, nK, rfl, rfl, hP, hM, hL, haw, hB, hN, hH, cS, hi, hW, hA, hCh, hWa⟩⟩, c.trans m.symm⟩
theorem t7_car {cy ls kx wx d ru gr sd sru sgr sA ar pr cr we ha p0 r n_sd n_sru n_sgr n_sA n_pr n_cr n_we n_ha isc tk ask red qp r2 n_tk n_ask n_qp aw hnx hct ad aru agr akn rws occ dwn tkn cmp fnd frl fgr chs chl awM und nwst rmM moc sdd : Int} {clmK pcK kO cA comers code spans tr facts stack str cars gaps known left leaves n_facts n_stack n_cars n_gaps n_str n_known n_left n_leaves bar kinds walkers cf ce codes now isCar gapM wtM goM hmM pile n_pile n_gapM n_isCar rD rR rG atr atd ats sw ss oct refu tab sec many kept mrw mo refM : Nat → Int} {rF : Nat → Nat → Int} (h : T7 cy ls aw kx wx d ru gr hnx hct sd sru sgr sA ar pr cr we ha ad aru agr akn rws occ dwn tkn cmp fnd frl fgr chs chl isc awM und nwst rmM moc sdd clmK pcK kO cA comers code spans tr rD rR rG str cars gaps known left leaves atr atd ats sw ss oct refu tab sec many bar kinds walkers cf ce codes now kept mrw mo refM rF) (hx : F_X9_car cy ls kx clmK pcK wx kO cA comers code spans d ru gr tr facts stack sd str sru sgr sA ar cars gaps known left leaves pr cr we ha p0 = (r, n_sd, n_sru, n_sgr, n_sA, n_pr, n_cr, n_we, n_ha, n_facts, n_stack, n_cars, n_gaps, n_str, n_known, n_left, n_leaves)) (hm : F_X10_car isc tk ask red qp bar kinds walkers cf ce codes now isCar gapM wtM goM hmM pile p0 = (r2, n_tk, n_ask, n_qp, n_pile, n_gapM, n_isCar)) : T7 cy ls aw kx wx d ru gr hnx hct n_sd n_sru n_sgr n_sA ar n_pr n_cr n_we n_ha ad aru agr akn rws occ dwn tkn cmp fnd frl fgr chs chl isc awM und nwst rmM moc sdd clmK pcK kO cA comers code spans tr rD rR rG n_str n_cars n_gaps n_known n_left n_leaves atr atd ats sw ss oct refu tab sec many bar kinds walkers cf ce codes now kept mrw mo refM rF ∧ r = r2 := by
  obtain ⟨hR, hD, hO, hC⟩ := h
  rcases hC with h0 | ⟨oC, oR, oL, nW, nK, rfl, rfl, hP, hM, hL, haw, hB, hN, hH, hS, hi, hW, hA, hCh, hWa⟩
  · obtain ⟨⟨z1, z2, z3, z4⟩, ⟨z5, z6, z7⟩, z8⟩ := h0
    have c : (F_X9_car cy ls kx clmK pcK wx kO cA comers code spans d ru gr tr facts stack sd str sru sgr sA ar cars gaps known left leaves pr cr we ha p0).1 = -1 := by
      unfold F_X9_car F_X9_car_18
      rw [st_0x z1, lf_b_e, if_pos rfl]
    have m : (F_X10_car isc tk ask red qp bar kinds walkers cf ce codes now isCar gapM wtM goM hmM pile p0).1 = -1 := by
      unfold F_X10_car F_X10_car_19
      rw [if_pos z4]
    rw [hx] at c
    rw [hm] at m
    exact ⟨⟨hR, hD, hO, Or.inl ⟨⟨z1, z2, z3, z4⟩, ⟨z5, z6, z7⟩, z8⟩⟩, c.trans m.symm⟩
  · obtain ⟨c, cS⟩ := ca_c (facts := facts) (stack := stack) (p0 := p0) hP hS hB
    have m := ca_mm (tk := tk) (ask := ask) (red := red) (qp := qp) (isCar := isCar) (gapM := gapM) (wtM := wtM) (goM := goM) (hmM := hmM) (pile := pile) (p0 := p0) hP hM hB hN hi
    rw [hx] at c cS
    rw [hm] at m
    exact ⟨⟨hR, hD, hO, Or.inr ⟨oC, oR, oL, nW, nK, rfl, rfl, hP, hM, hL, haw, hB, hN, hH, cS, hi, hW, hA, hCh, hWa⟩⟩, c.trans m.symm⟩
theorem t7_day {cy ls kx wx d ru gr sd sru sgr sA ar pr cr we ha p0 r n_sd n_sru n_sgr n_sA n_pr n_cr n_we n_ha isc tk ask red io lg gt icg sg qp r2 n_tk n_ask n_red n_io n_lg n_gt n_icg n_sg n_qp aw hnx hct ad aru agr akn rws occ dwn tkn cmp fnd frl fgr chs chl awM und nwst rmM moc sdd : Int} {clmK pcK kO cA comers code spans tr facts stack str cars gaps known left leaves n_facts n_stack n_cars n_gaps n_str n_known n_left n_leaves many bar kinds walkers cf ce codes now isCar gapM isG isH crM wtM goM hmM prM ciM pile n_pile n_wtM n_gapM n_goM n_hmM n_isCar n_isH n_crM n_prM n_ciM n_isG rD rR rG atr atd ats sw ss oct refu tab sec kept mrw mo refM : Nat → Int} {rF : Nat → Nat → Int} (h : T7 cy ls aw kx wx d ru gr hnx hct sd sru sgr sA ar pr cr we ha ad aru agr akn rws occ dwn tkn cmp fnd frl fgr chs chl isc awM und nwst rmM moc sdd clmK pcK kO cA comers code spans tr rD rR rG str cars gaps known left leaves atr atd ats sw ss oct refu tab sec many bar kinds walkers cf ce codes now kept mrw mo refM rF) (hx : F_X9_day cy ls kx clmK pcK wx kO cA comers code spans d ru gr tr facts stack sd str sru sgr sA ar cars gaps known left leaves pr cr we ha p0 = (r, n_sd, n_sru, n_sgr, n_sA, n_pr, n_cr, n_we, n_ha, n_facts, n_stack, n_cars, n_gaps, n_str, n_known, n_left, n_leaves)) (hm : F_X10_day isc tk ask red io lg gt icg sg qp many bar kinds walkers cf ce codes now isCar gapM isG isH crM wtM goM hmM prM ciM pile p0 = (r2, n_tk, n_ask, n_red, n_io, n_lg, n_gt, n_icg, n_sg, n_qp, n_pile, n_wtM, n_gapM, n_goM, n_hmM, n_isCar, n_isH, n_crM, n_prM, n_ciM, n_isG)) : T7 cy ls aw kx wx d ru gr hnx hct n_sd n_sru n_sgr n_sA ar n_pr n_cr n_we n_ha ad aru agr akn rws occ dwn tkn cmp fnd frl fgr chs chl isc awM und nwst rmM moc sdd clmK pcK kO cA comers code spans tr rD rR rG n_str n_cars n_gaps n_known n_left n_leaves atr atd ats sw ss oct refu tab sec many bar kinds walkers cf ce codes now kept mrw mo refM rF ∧ r = r2 := by
  obtain ⟨hR, hD, hO, hC⟩ := h
  rcases hC with h0 | ⟨oC, oR, oL, nW, nK, rfl, rfl, hP, hM, hL, haw, hB, hN, hH, hS, hi, hW, hA, hCh, hWa⟩
  · obtain ⟨⟨z1, z2, z3, z4⟩, ⟨z5, z6, z7⟩, z8⟩ := h0
    have c : (F_X9_day cy ls kx clmK pcK wx kO cA comers code spans d ru gr tr facts stack sd str sru sgr sA ar cars gaps known left leaves pr cr we ha p0).1 = -1 := by
      unfold F_X9_day 
      rw [st_0x z1, lf_b_e, if_pos rfl]
    have m : (F_X10_day isc tk ask red io lg gt icg sg qp many bar kinds walkers cf ce codes now isCar gapM isG isH crM wtM goM hmM prM ciM pile p0).1 = -1 := by
      unfold F_X10_day F_X10_day_19
      rw [if_pos z4]
    rw [hx] at c
    rw [hm] at m
    exact ⟨⟨hR, hD, hO, Or.inl ⟨⟨z1, z2, z3, z4⟩, ⟨z5, z6, z7⟩, z8⟩⟩, c.trans m.symm⟩
  · obtain ⟨c, cS⟩ := da_c (facts := facts) (stack := stack) (p0 := p0) hP hS hB
    have m := da_mm (tk := tk) (ask := ask) (red := red) (io := io) (lg := lg) (gt := gt) (icg := icg) (sg := sg) (qp := qp) (isCar := isCar) (gapM := gapM) (isG := isG) (isH := isH) (crM := crM) (wtM := wtM) (goM := goM) (hmM := hmM) (prM := prM) (ciM := ciM) (pile := pile) (p0 := p0) hP hM hB hN hi
    rw [hx] at c cS
    rw [hm] at m
    exact ⟨⟨hR, hD, hO, Or.inr ⟨oC, oR, oL, nW, nK, rfl, rfl, hP, hM, hL, haw, hB, hN, hH, cS, hi, hW, hA, hCh, hWa⟩⟩, c.trans m.symm⟩
theorem t7_least {cy ls kx wx d ru sd sru sgr sA ar pr cr we ha r n_sd n_sru n_sgr n_sA n_pr n_cr n_we n_ha isc tk ask red io lg gt icg sg qp r2 n_tk n_ask n_red n_io n_lg n_gt n_icg n_sg n_qp aw gr hnx hct ad aru agr akn rws occ dwn tkn cmp fnd frl fgr chs chl awM und nwst rmM moc sdd : Int} {clmK pcK kO cA comers code spans tr facts stack str cars gaps known left leaves n_facts n_stack n_cars n_gaps n_str n_known n_left n_leaves many bar kinds walkers cf ce codes now isCar gapM isG isH crM wtM goM hmM prM ciM pile n_pile n_wtM n_gapM n_goM n_hmM n_isCar n_isH n_crM n_prM n_ciM n_isG rD rR rG atr atd ats sw ss oct refu tab sec kept mrw mo refM : Nat → Int} {rF : Nat → Nat → Int} (h : T7 cy ls aw kx wx d ru gr hnx hct sd sru sgr sA ar pr cr we ha ad aru agr akn rws occ dwn tkn cmp fnd frl fgr chs chl isc awM und nwst rmM moc sdd clmK pcK kO cA comers code spans tr rD rR rG str cars gaps known left leaves atr atd ats sw ss oct refu tab sec many bar kinds walkers cf ce codes now kept mrw mo refM rF) (hx : F_X9_least cy ls kx clmK pcK wx kO cA comers code spans d ru tr facts stack sd str sru sgr sA ar cars gaps known left leaves pr cr we ha = (r, n_sd, n_sru, n_sgr, n_sA, n_pr, n_cr, n_we, n_ha, n_facts, n_stack, n_cars, n_gaps, n_str, n_known, n_left, n_leaves)) (hm : F_X10_least isc tk ask red io lg gt icg sg qp many bar kinds walkers cf ce codes now isCar gapM isG isH crM wtM goM hmM prM ciM pile = (r2, n_tk, n_ask, n_red, n_io, n_lg, n_gt, n_icg, n_sg, n_qp, n_pile, n_wtM, n_gapM, n_goM, n_hmM, n_isCar, n_isH, n_crM, n_prM, n_ciM, n_isG)) : T7 cy ls aw kx wx d ru gr hnx hct n_sd n_sru n_sgr n_sA ar n_pr n_cr n_we n_ha ad aru agr akn rws occ dwn tkn cmp fnd frl fgr chs chl isc awM und nwst rmM moc sdd clmK pcK kO cA comers code spans tr rD rR rG n_str n_cars n_gaps n_known n_left n_leaves atr atd ats sw ss oct refu tab sec many bar kinds walkers cf ce codes now kept mrw mo refM rF ∧ r = r2 := by
  obtain ⟨hR, hD, hO, hC⟩ := h
  rcases hC with h0 | ⟨oC, oR, oL, nW, nK, rfl, rfl, hP, hM, hL, haw, hB, hN, hH, hS, hi, hW, hA, hCh, hWa⟩
  · obtain ⟨⟨z1, z2, z3, z4⟩, ⟨z5, z6, z7⟩, z8⟩ := h0
    have c : (F_X9_least cy ls kx clmK pcK wx kO cA comers code spans d ru tr facts stack sd str sru sgr sA ar cars gaps known left leaves pr cr we ha).1 = -1 := by
      unfold F_X9_least 
      rw [st_0x z1, lf_b_e, if_pos rfl]
    have m : (F_X10_least isc tk ask red io lg gt icg sg qp many bar kinds walkers cf ce codes now isCar gapM isG isH crM wtM goM hmM prM ciM pile).1 = -1 := by
      unfold F_X10_least 
      rw [if_pos z4]
    rw [hx] at c
    rw [hm] at m
    exact ⟨⟨hR, hD, hO, Or.inl ⟨⟨z1, z2, z3, z4⟩, ⟨z5, z6, z7⟩, z8⟩⟩, c.trans m.symm⟩
  · obtain ⟨c, cS⟩ := ls_c (facts := facts) (stack := stack) hP hS hB
    have m := ls_mm (tk := tk) (ask := ask) (red := red) (io := io) (lg := lg) (gt := gt) (icg := icg) (sg := sg) (qp := qp) (isCar := isCar) (gapM := gapM) (isG := isG) (isH := isH) (crM := crM) (wtM := wtM) (goM := goM) (hmM := hmM) (prM := prM) (ciM := ciM) (pile := pile) hP hM hB hN hi
    rw [hx] at c cS
    rw [hm] at m
    exact ⟨⟨hR, hD, hO, Or.inr ⟨oC, oR, oL, nW, nK, rfl, rfl, hP, hM, hL, haw, hB, hN, hH, cS, hi, hW, hA, hCh, hWa⟩⟩, c.trans m.symm⟩
theorem t7_walker {cy ls kx wx d ru gr sd sru sgr sA ar pr cr we ha p0 p1 r n_sd n_sru n_sgr n_sA n_pr n_cr n_we n_ha tk ask red io lg gt icg sg qp r2 n_tk n_ask n_red n_io n_lg n_gt n_icg n_sg n_qp aw hnx hct ad aru agr akn rws occ dwn tkn cmp fnd frl fgr chs chl isc awM und nwst rmM moc sdd : Int} {clmK pcK kO cA comers code spans tr facts stack str cars gaps known left leaves n_facts n_stack n_cars n_gaps n_str n_known n_left n_leaves many bar kinds walkers cf ce codes now isCar gapM isG isH crM wtM goM hmM prM ciM pile n_pile n_wtM n_gapM n_goM n_hmM n_isCar n_isH n_crM n_prM n_ciM n_isG rD rR rG atr atd ats sw ss oct refu tab sec kept mrw mo refM : Nat → Int} {rF : Nat → Nat → Int} (h : T7 cy ls aw kx wx d ru gr hnx hct sd sru sgr sA ar pr cr we ha ad aru agr akn rws occ dwn tkn cmp fnd frl fgr chs chl isc awM und nwst rmM moc sdd clmK pcK kO cA comers code spans tr rD rR rG str cars gaps known left leaves atr atd ats sw ss oct refu tab sec many bar kinds walkers cf ce codes now kept mrw mo refM rF) (hx : F_X9_walker cy ls kx clmK pcK wx kO cA comers code spans d ru gr tr facts stack sd str sru sgr sA ar cars gaps known left leaves pr cr we ha p0 p1 = (r, n_sd, n_sru, n_sgr, n_sA, n_pr, n_cr, n_we, n_ha, n_facts, n_stack, n_cars, n_gaps, n_str, n_known, n_left, n_leaves)) (hm : F_X10_walker tk ask red io lg gt icg sg qp many bar kinds walkers cf ce codes now isCar gapM isG isH crM wtM goM hmM prM ciM pile p0 p1 = (r2, n_tk, n_ask, n_red, n_io, n_lg, n_gt, n_icg, n_sg, n_qp, n_pile, n_wtM, n_gapM, n_goM, n_hmM, n_isCar, n_isH, n_crM, n_prM, n_ciM, n_isG)) : T7 cy ls aw kx wx d ru gr hnx hct n_sd n_sru n_sgr n_sA ar n_pr n_cr n_we n_ha ad aru agr akn rws occ dwn tkn cmp fnd frl fgr chs chl isc awM und nwst rmM moc sdd clmK pcK kO cA comers code spans tr rD rR rG n_str n_cars n_gaps n_known n_left n_leaves atr atd ats sw ss oct refu tab sec many bar kinds walkers cf ce codes now kept mrw mo refM rF ∧ r = r2 := by
  obtain ⟨hR, hD, hO, hC⟩ := h
  rcases hC with h0 | ⟨oC, oR, oL, nW, nK, rfl, rfl, hP, hM, hL, haw, hB, hN, hH, hS, hi, hW, hA, hCh, hWa⟩
  · obtain ⟨⟨z1, z2, z3, z4⟩, ⟨z5, z6, z7⟩, z8⟩ := h0
    have c : (F_X9_walker cy ls kx clmK pcK wx kO cA comers code spans d ru gr tr facts stack sd str sru sgr sA ar cars gaps known left leaves pr cr we ha p0 p1).1 = -1 := by
      have e : F_X9_isWalker wx p0 = 0 := by
        have q := iw_x (nW := 0) (p0 := p0)
        rw [if_neg (by omega)] at q
        rw [z3]
        exact q
      unfold F_X9_walker
      rw [e, lf_b_e, if_pos rfl]
    have m : (F_X10_walker tk ask red io lg gt icg sg qp many bar kinds walkers cf ce codes now isCar gapM isG isH crM wtM goM hmM prM ciM pile p0 p1).1 = -1 := by
      have e := iw_m (nW := 0) (p0 := p0) z6
      rw [if_neg (by omega)] at e
      unfold F_X10_walker
      rw [e, lf_b_e, if_pos rfl]
    rw [hx] at c
    rw [hm] at m
    exact ⟨⟨hR, hD, hO, Or.inl ⟨⟨z1, z2, z3, z4⟩, ⟨z5, z6, z7⟩, z8⟩⟩, c.trans m.symm⟩
  · obtain ⟨c, cS⟩ := wa_cx (facts := facts) (stack := stack) (p0 := p0) (p1 := p1) hP hS hB
    have m := wa_mx (tk := tk) (ask := ask) (red := red) (io := io) (lg := lg) (gt := gt) (icg := icg) (sg := sg) (qp := qp) (isCar := isCar) (gapM := gapM) (isG := isG) (isH := isH) (crM := crM) (wtM := wtM) (goM := goM) (hmM := hmM) (prM := prM) (ciM := ciM) (pile := pile) (p0 := p0) (p1 := p1) hP hM hB hN
    rw [hx] at c cS
    rw [hm] at m
    exact ⟨⟨hR, hD, hO, Or.inr ⟨oC, oR, oL, nW, nK, rfl, rfl, hP, hM, hL, haw, hB, hN, hH, cS, hi, hW, hA, hCh, hWa⟩⟩, c.trans m.symm⟩
theorem t7_kind {kx wx p0 p1 r r2 cy ls aw d ru gr hnx hct sd sru sgr sA ar pr cr we ha ad aru agr akn rws occ dwn tkn cmp fnd frl fgr chs chl isc awM und nwst rmM moc sdd : Int} {clmK pcK kO tr many kinds walkers now cA comers code spans rD rR rG str cars gaps known left leaves atr atd ats sw ss oct refu tab sec bar cf ce codes kept mrw mo refM : Nat → Int} {rF : Nat → Nat → Int} (h : T7 cy ls aw kx wx d ru gr hnx hct sd sru sgr sA ar pr cr we ha ad aru agr akn rws occ dwn tkn cmp fnd frl fgr chs chl isc awM und nwst rmM moc sdd clmK pcK kO cA comers code spans tr rD rR rG str cars gaps known left leaves atr atd ats sw ss oct refu tab sec many bar kinds walkers cf ce codes now kept mrw mo refM rF) (hx : F_X9_kind kx clmK pcK wx kO tr p0 p1 = r) (hm : F_X10_kind many kinds walkers now p0 p1 = r2) : T7 cy ls aw kx wx d ru gr hnx hct sd sru sgr sA ar pr cr we ha ad aru agr akn rws occ dwn tkn cmp fnd frl fgr chs chl isc awM und nwst rmM moc sdd clmK pcK kO cA comers code spans tr rD rR rG str cars gaps known left leaves atr atd ats sw ss oct refu tab sec many bar kinds walkers cf ce codes now kept mrw mo refM rF ∧ r = r2 := by
  obtain ⟨hR, hD, hO, hC⟩ := h
  rcases hC with h0 | ⟨oC, oR, oL, nW, nK, rfl, rfl, hP, hM, hL, haw, hB, hN, hH, hS, hi, hW, hA, hCh, hWa⟩
  · obtain ⟨⟨z1, z2, z3, z4⟩, ⟨z5, z6, z7⟩, z8⟩ := h0
    refine ⟨⟨hR, hD, hO, Or.inl ⟨⟨z1, z2, z3, z4⟩, ⟨z5, z6, z7⟩, z8⟩⟩, ?_⟩
    have c : F_X9_isKind kx p0 = 0 := by
      have q := ik_x (nK := 0) (p0 := p0)
      rw [if_neg (by omega)] at q
      rw [z2]
      exact q
    have m := ik_m (nK := 0) (p0 := p0) z5
    rw [if_neg (by omega)] at m
    rw [← hx, ← hm]
    unfold F_X9_kind F_X10_kind
    rw [c, m, lf_b_e, if_pos rfl, lf_b_e, if_pos rfl]
  · refine ⟨⟨hR, hD, hO, Or.inr ⟨oC, oR, oL, nW, nK, rfl, rfl, hP, hM, hL, haw, hB, hN, hH, hS, hi, hW, hA, hCh, hWa⟩⟩, ?_⟩
    rw [← hx, ← hm, kd_c hP.1, kd_m hP.1 hM hN]
theorem has_eq {cy kx wx d ru gr hct rws p0 r rmM und r2 : Int} {many bar now : Nat → Int} (hx : F_X9_has cy kx wx d ru gr hct rws p0 = r) (hm : F_X10_has rmM und many bar now p0 = r2) (e0 : cy = bar 4) (e1 : kx = many 2) (e2 : wx = many 3) (e3 : d = now 0) (e4 : ru = now 1) (e5 : gr = now 2) (e6 : hct = und) (e7 : rws = rmM) : r = r2 := by
  rw [← hx, ← hm]
  unfold F_X9_has F_X10_has F_X10_has_65 F_X10_kindMany F_X10_walkerMany
  rw [e0, e1, e2, e3, e4, e5, e6, e7]
  by_cases c0 : p0 = 0
  · rw [if_pos c0, if_pos c0]
  rw [if_neg c0, if_neg c0]
  by_cases c1 : p0 = 1
  · rw [if_pos c1, if_pos c1, lf_b_e]
  rw [if_neg c1, if_neg c1]
  by_cases c2 : p0 = 2
  · rw [if_pos c2, if_pos c2, lf_b_e]
  rw [if_neg c2, if_neg c2]
  by_cases c3 : p0 = 3
  · rw [if_pos c3, if_pos c3, c3]
    rfl
  rw [if_neg c3, if_neg c3]
  by_cases c4 : p0 = 4
  · rw [if_pos c4, if_pos c4, c4]
    rfl
  rw [if_neg c4, if_neg c4]
  by_cases c5 : p0 = 5
  · rw [if_pos c5, if_pos c5, c5]
    rfl
  rw [if_neg c5, if_neg c5]
theorem t7_has {cy kx wx d ru gr hct rws p0 r rmM und r2 ls aw hnx sd sru sgr sA ar pr cr we ha ad aru agr akn occ dwn tkn cmp fnd frl fgr chs chl isc awM nwst moc sdd : Int} {many bar now clmK pcK kO cA comers code spans tr rD rR rG str cars gaps known left leaves atr atd ats sw ss oct refu tab sec kinds walkers cf ce codes kept mrw mo refM : Nat → Int} {rF : Nat → Nat → Int} (h : T7 cy ls aw kx wx d ru gr hnx hct sd sru sgr sA ar pr cr we ha ad aru agr akn rws occ dwn tkn cmp fnd frl fgr chs chl isc awM und nwst rmM moc sdd clmK pcK kO cA comers code spans tr rD rR rG str cars gaps known left leaves atr atd ats sw ss oct refu tab sec many bar kinds walkers cf ce codes now kept mrw mo refM rF) (hx : F_X9_has cy kx wx d ru gr hct rws p0 = r) (hm : F_X10_has rmM und many bar now p0 = r2) : T7 cy ls aw kx wx d ru gr hnx hct sd sru sgr sA ar pr cr we ha ad aru agr akn rws occ dwn tkn cmp fnd frl fgr chs chl isc awM und nwst rmM moc sdd clmK pcK kO cA comers code spans tr rD rR rG str cars gaps known left leaves atr atd ats sw ss oct refu tab sec many bar kinds walkers cf ce codes now kept mrw mo refM rF ∧ r = r2 := by
  obtain ⟨hR, hD, hO, hC⟩ := h
  rcases hC with h0 | ⟨oC, oR, oL, nW, nK, rfl, rfl, hP, hM, hL, haw, hB, hN, hH, hS, hi, hW, hA, hCh, hWa⟩
  · obtain ⟨⟨z1, z2, z3, z4⟩, ⟨z5, z6, z7⟩, ⟨y1, y2, y3⟩, ⟨y4, y5, y6⟩, ⟨x1, x2, x3, x4⟩, w1, w2⟩ := h0
    refine ⟨⟨hR, hD, hO, Or.inl ⟨⟨z1, z2, z3, z4⟩, ⟨z5, z6, z7⟩, ⟨y1, y2, y3⟩, ⟨y4, y5, y6⟩, ⟨x1, x2, x3, x4⟩, w1, w2⟩⟩, ?_⟩
    exact has_eq hx hm (z1.trans z7.symm) (z2.trans z5.symm) (z3.trans z6.symm) (y1.trans y4.symm) (y2.trans y5.symm) (y3.trans y6.symm) (x1.trans x2.symm) (w1.trans w2.symm)
  · refine ⟨⟨hR, hD, hO, Or.inr ⟨oC, oR, oL, nW, nK, rfl, rfl, hP, hM, hL, haw, hB, hN, hH, hS, hi, hW, hA, hCh, hWa⟩⟩, ?_⟩
    exact has_eq hx hm hM.2.2.1.symm hM.2.1.symm hM.1.symm hN.1.symm hN.2.1.symm hN.2.2.1.symm hH.1.2.2.1 hW.1
theorem t7_hold {cy ls kx wx d ru gr sd sru sgr sA ar pr cr we ha r n_sd n_sru n_sgr n_sA n_pr n_cr n_we n_ha isc tk ask red io lg gt icg sg qp r2 n_tk n_ask n_red n_io n_lg n_gt n_icg n_sg n_qp aw hnx hct ad aru agr akn rws occ dwn tkn cmp fnd frl fgr chs chl awM und nwst rmM moc sdd : Int} {clmK pcK kO cA comers code spans tr facts stack str cars gaps known left leaves n_facts n_stack n_cars n_gaps n_str n_known n_left n_leaves many bar kinds walkers cf ce codes now isCar gapM isG isH crM wtM goM hmM prM ciM pile n_pile n_wtM n_gapM n_goM n_hmM n_isCar n_isH n_crM n_prM n_ciM n_isG rD rR rG atr atd ats sw ss oct refu tab sec kept mrw mo refM : Nat → Int} {rF : Nat → Nat → Int} (h : T7 cy ls aw kx wx d ru gr hnx hct sd sru sgr sA ar pr cr we ha ad aru agr akn rws occ dwn tkn cmp fnd frl fgr chs chl isc awM und nwst rmM moc sdd clmK pcK kO cA comers code spans tr rD rR rG str cars gaps known left leaves atr atd ats sw ss oct refu tab sec many bar kinds walkers cf ce codes now kept mrw mo refM rF) (hx : F_X9_hold cy ls kx clmK pcK wx kO cA comers code spans d ru gr tr facts stack sd str sru sgr sA ar cars gaps known left leaves pr cr we ha = (r, n_sd, n_sru, n_sgr, n_sA, n_pr, n_cr, n_we, n_ha, n_facts, n_stack, n_cars, n_gaps, n_str, n_known, n_left, n_leaves)) (hm : F_X10_hold isc tk ask red io lg gt icg sg qp many bar kinds walkers cf ce codes now isCar gapM isG isH crM wtM goM hmM prM ciM pile = (r2, n_tk, n_ask, n_red, n_io, n_lg, n_gt, n_icg, n_sg, n_qp, n_pile, n_wtM, n_gapM, n_goM, n_hmM, n_isCar, n_isH, n_crM, n_prM, n_ciM, n_isG)) : T7 cy ls aw kx wx d ru gr hnx hct n_sd n_sru n_sgr n_sA ar n_pr n_cr n_we n_ha ad aru agr akn rws occ dwn tkn cmp fnd frl fgr chs chl isc awM und nwst rmM moc sdd clmK pcK kO cA comers code spans tr rD rR rG n_str n_cars n_gaps n_known n_left n_leaves atr atd ats sw ss oct refu tab sec many bar kinds walkers cf ce codes now kept mrw mo refM rF ∧ r = r2 := by
  obtain ⟨hR, hD, hO, hC⟩ := h
  rcases hC with h0 | ⟨oC, oR, oL, nW, nK, rfl, rfl, hP, hM, hL, haw, hB, hN, hH, hS, hi, hW, hA, hCh, hWa⟩
  · obtain ⟨⟨z1, z2, z3, z4⟩, zz⟩ := h0
    have c : (F_X9_hold cy ls kx clmK pcK wx kO cA comers code spans d ru gr tr facts stack sd str sru sgr sA ar cars gaps known left leaves pr cr we ha).1 = -1 := by
      unfold F_X9_hold
      rw [st_0x z1, lf_b_e, if_pos rfl]
    have m : (F_X10_hold isc tk ask red io lg gt icg sg qp many bar kinds walkers cf ce codes now isCar gapM isG isH crM wtM goM hmM prM ciM pile).1 = -1 := by
      unfold F_X10_hold
      rw [if_pos z4]
    rw [hx] at c
    rw [hm] at m
    exact ⟨⟨hR, hD, hO, Or.inl ⟨⟨z1, z2, z3, z4⟩, zz⟩⟩, c.trans m.symm⟩
  · obtain ⟨c, cS⟩ := ho_t (facts := facts) (stack := stack) (tk := tk) (ask := ask) (red := red) (io := io) (lg := lg) (gt := gt) (icg := icg) (sg := sg) (qp := qp) (isCar := isCar) (gapM := gapM) (isG := isG) (isH := isH) (crM := crM) (wtM := wtM) (goM := goM) (hmM := hmM) (prM := prM) (ciM := ciM) (pile := pile) hP hM hS hB hN hi
    rw [hx, hm] at c
    rw [hx] at cS
    exact ⟨⟨hR, hD, hO, Or.inr ⟨oC, oR, oL, nW, nK, rfl, rfl, hP, hM, hL, haw, hB, hN, hH, cS, hi, hW, hA, hCh, hWa⟩⟩, c⟩
theorem t7_best {cy ls kx wx d sd sru sgr sA ar pr cr we ha tkn p0 p1 r n_tkn n_sd n_sru n_sgr n_sA n_pr n_cr n_we n_ha isc tk ask red io lg gt icg sg qp r2 n_tk n_ask n_red n_io n_lg n_gt n_icg n_sg n_qp aw ru gr hnx hct ad aru agr akn rws occ dwn cmp fnd frl fgr chs chl awM und nwst rmM moc sdd : Int} {clmK pcK kO cA comers code spans tr facts stack str cars gaps known left leaves tab n_tab n_facts n_stack n_cars n_gaps n_str n_known n_left n_leaves many bar kinds walkers cf ce codes now isCar gapM isG isH crM wtM goM hmM prM ciM pile n_pile n_wtM n_gapM n_goM n_hmM n_isCar n_isH n_crM n_prM n_ciM n_isG rD rR rG atr atd ats sw ss oct refu sec kept mrw mo refM : Nat → Int} {rF : Nat → Nat → Int} (h : T7 cy ls aw kx wx d ru gr hnx hct sd sru sgr sA ar pr cr we ha ad aru agr akn rws occ dwn tkn cmp fnd frl fgr chs chl isc awM und nwst rmM moc sdd clmK pcK kO cA comers code spans tr rD rR rG str cars gaps known left leaves atr atd ats sw ss oct refu tab sec many bar kinds walkers cf ce codes now kept mrw mo refM rF) (hx : F_X9_best cy ls kx clmK pcK wx kO cA comers code spans d tr facts stack sd str sru sgr sA ar cars gaps known left leaves pr cr we ha tab tkn p0 p1 = (r, n_tkn, n_tab, n_sd, n_sru, n_sgr, n_sA, n_pr, n_cr, n_we, n_ha, n_facts, n_stack, n_cars, n_gaps, n_str, n_known, n_left, n_leaves)) (hm : F_X10_best isc tk ask red io lg gt icg sg qp many bar kinds walkers cf ce codes now isCar gapM isG isH crM wtM goM hmM prM ciM pile p0 p1 = (r2, n_tk, n_ask, n_red, n_io, n_lg, n_gt, n_icg, n_sg, n_qp, n_pile, n_wtM, n_gapM, n_goM, n_hmM, n_isCar, n_isH, n_crM, n_prM, n_ciM, n_isG)) : T7 cy ls aw kx wx d ru gr hnx hct n_sd n_sru n_sgr n_sA ar n_pr n_cr n_we n_ha ad aru agr akn rws occ dwn n_tkn cmp fnd frl fgr chs chl isc awM und nwst rmM moc sdd clmK pcK kO cA comers code spans tr rD rR rG n_str n_cars n_gaps n_known n_left n_leaves atr atd ats sw ss oct refu n_tab sec many bar kinds walkers cf ce codes now kept mrw mo refM rF ∧ r = r2 := by
  obtain ⟨hR, hD, hO, hC⟩ := h
  rcases hC with h0 | ⟨oC, oR, oL, nW, nK, rfl, rfl, hP, hM, hL, haw, hB, hN, hH, hS, hi, hW, hA, hCh, hWa⟩
  · obtain ⟨⟨z1, z2, z3, z4⟩, zz⟩ := h0
    have c : (F_X9_best cy ls kx clmK pcK wx kO cA comers code spans d tr facts stack sd str sru sgr sA ar cars gaps known left leaves pr cr we ha tab tkn p0 p1).1 = -1 := by
      unfold F_X9_best F_X9_best_26
      rw [st_0x z1, lf_b_e, if_pos rfl]
    have m : (F_X10_best isc tk ask red io lg gt icg sg qp many bar kinds walkers cf ce codes now isCar gapM isG isH crM wtM goM hmM prM ciM pile p0 p1).1 = -1 := by
      unfold F_X10_best F_X10_best_31
      rw [if_pos z4]
    rw [hx] at c
    rw [hm] at m
    exact ⟨⟨hR, hD, hO, Or.inl ⟨⟨z1, z2, z3, z4⟩, zz⟩⟩, c.trans m.symm⟩
  · obtain ⟨c, cC, cS⟩ := be_cx (facts := facts) (stack := stack) (p0 := p0) (p1 := p1) hP hS hB hCh
    have m := be_mx (tk := tk) (ask := ask) (red := red) (io := io) (lg := lg) (gt := gt) (icg := icg) (sg := sg) (qp := qp) (isCar := isCar) (gapM := gapM) (isG := isG) (isH := isH) (crM := crM) (wtM := wtM) (goM := goM) (hmM := hmM) (prM := prM) (ciM := ciM) (pile := pile) (p0 := p0) (p1 := p1) hP hM hB hN hi
    rw [hx] at c cC cS
    rw [hm] at m
    exact ⟨⟨hR, hD, hO, Or.inr ⟨oC, oR, oL, nW, nK, rfl, rfl, hP, hM, hL, haw, hB, hN, hH, cS, hi, hW, hA, cC, hWa⟩⟩, c.trans m.symm⟩
theorem t7_fits {cy ls kx wx d sd sru sgr sA ar pr cr we ha rws cmp fnd frl fgr chs chl p0 r n_cmp n_fnd n_frl n_fgr n_chs n_chl n_sd n_sru n_sgr n_sA n_pr n_cr n_we n_ha isc tk ask red io lg gt icg sg rmM ftm ftr ftg qp r2 n_tk n_ask n_red n_io n_lg n_gt n_icg n_sg n_ftm n_ftr n_ftg n_qp aw ru gr hnx hct ad aru agr akn occ dwn tkn awM und nwst moc sdd : Int} {clmK pcK kO cA comers code spans tr facts stack str cars gaps known left leaves sw ss sec n_sec n_facts n_stack n_cars n_gaps n_str n_known n_left n_leaves many bar kinds walkers cf ce codes now isCar gapM isG isH crM wtM goM hmM prM ciM mrw whn pile n_pile n_wtM n_gapM n_goM n_hmM n_isCar n_isH n_crM n_prM n_ciM n_isG n_whn rD rR rG atr atd ats oct refu tab kept mo refM : Nat → Int} {rF : Nat → Nat → Int} (h : T7 cy ls aw kx wx d ru gr hnx hct sd sru sgr sA ar pr cr we ha ad aru agr akn rws occ dwn tkn cmp fnd frl fgr chs chl isc awM und nwst rmM moc sdd clmK pcK kO cA comers code spans tr rD rR rG str cars gaps known left leaves atr atd ats sw ss oct refu tab sec many bar kinds walkers cf ce codes now kept mrw mo refM rF) (hx : F_X9_fits cy ls kx clmK pcK wx kO cA comers code spans d tr facts stack sd str sru sgr sA ar cars gaps known left leaves pr cr we ha sw ss rws cmp sec fnd frl fgr chs chl p0 = (r, n_cmp, n_fnd, n_frl, n_fgr, n_chs, n_chl, n_sd, n_sru, n_sgr, n_sA, n_pr, n_cr, n_we, n_ha, n_sec, n_facts, n_stack, n_cars, n_gaps, n_str, n_known, n_left, n_leaves)) (hm : F_X10_fits isc tk ask red io lg gt icg sg rmM ftm ftr ftg qp many bar kinds walkers cf ce codes now isCar gapM isG isH crM wtM goM hmM prM ciM mrw whn pile p0 = (r2, n_tk, n_ask, n_red, n_io, n_lg, n_gt, n_icg, n_sg, n_ftm, n_ftr, n_ftg, n_qp, n_pile, n_wtM, n_gapM, n_goM, n_hmM, n_isCar, n_isH, n_crM, n_prM, n_ciM, n_isG, n_whn)) : T7 cy ls aw kx wx d ru gr hnx hct n_sd n_sru n_sgr n_sA ar n_pr n_cr n_we n_ha ad aru agr akn rws occ dwn tkn n_cmp n_fnd n_frl n_fgr n_chs n_chl isc awM und nwst rmM moc sdd clmK pcK kO cA comers code spans tr rD rR rG n_str n_cars n_gaps n_known n_left n_leaves atr atd ats sw ss oct refu tab n_sec many bar kinds walkers cf ce codes now kept mrw mo refM rF ∧ r = r2 := by
  obtain ⟨hR, hD, hO, hC⟩ := h
  rcases hC with h0 | ⟨oC, oR, oL, nW, nK, rfl, rfl, hP, hM, hL, haw, hB, hN, hH, hS, hi, hW, hA, hCh, hWa⟩
  · obtain ⟨⟨z1, z2, z3, z4⟩, zz⟩ := h0
    have c : (F_X9_fits cy ls kx clmK pcK wx kO cA comers code spans d tr facts stack sd str sru sgr sA ar cars gaps known left leaves pr cr we ha sw ss rws cmp sec fnd frl fgr chs chl p0).1 = -1 := by
      unfold F_X9_fits
      rw [st_0x z1, lf_b_e, if_pos rfl]
    have m : (F_X10_fits isc tk ask red io lg gt icg sg rmM ftm ftr ftg qp many bar kinds walkers cf ce codes now isCar gapM isG isH crM wtM goM hmM prM ciM mrw whn pile p0).1 = -1 := by
      unfold F_X10_fits F_X10_fits_19
      rw [if_pos z4]
    rw [hx] at c
    rw [hm] at m
    exact ⟨⟨hR, hD, hO, Or.inl ⟨⟨z1, z2, z3, z4⟩, zz⟩⟩, c.trans m.symm⟩
  · obtain ⟨r9, O, e, c, cW, cS⟩ := fi_cx (facts := facts) (stack := stack) (p0 := p0) hP hS hB hW hWa
    have m := fi_mx (tk := tk) (ask := ask) (red := red) (io := io) (lg := lg) (gt := gt) (icg := icg) (sg := sg) (ftm := ftm) (ftr := ftr) (ftg := ftg) (qp := qp) (isCar := isCar) (gapM := gapM) (isG := isG) (isH := isH) (crM := crM) (wtM := wtM) (goM := goM) (hmM := hmM) (prM := prM) (ciM := ciM) (whn := whn) (pile := pile) (p0 := p0) hP hM hB hN hi hW
    rw [hx] at e
    rw [hm] at m
    simp only [Prod.mk.injEq] at e
    obtain ⟨e1, e2⟩ := e
    subst e1 e2
    exact ⟨⟨hR, hD, hO, Or.inr ⟨oC, oR, oL, nW, nK, rfl, rfl, hP, hM, hL, haw, hB, hN, hH, cS, hi, hW, hA, hCh, Or.inr cW⟩⟩, c.trans m.symm⟩
theorem t7_watched {cy ls kx wx d sd sru sgr sA ar pr cr we ha rws cmp fnd frl fgr chs chl p0 r n_cmp n_fnd n_frl n_fgr n_chs n_chl n_sd n_sru n_sgr n_sA n_pr n_cr n_we n_ha isc tk ask red io lg gt icg sg rmM ftm ftr ftg qp r2 n_tk n_ask n_red n_io n_lg n_gt n_icg n_sg n_ftm n_ftr n_ftg n_qp aw ru gr hnx hct ad aru agr akn occ dwn tkn awM und nwst moc sdd : Int} {clmK pcK kO cA comers code spans tr facts stack str cars gaps known left leaves sw ss sec n_sec n_facts n_stack n_cars n_gaps n_str n_known n_left n_leaves many bar kinds walkers cf ce codes now isCar gapM isG isH crM wtM goM hmM prM ciM mrw whn pile n_pile n_wtM n_gapM n_goM n_hmM n_isCar n_isH n_crM n_prM n_ciM n_isG n_whn rD rR rG atr atd ats oct refu tab kept mo refM : Nat → Int} {rF : Nat → Nat → Int} (h : T7 cy ls aw kx wx d ru gr hnx hct sd sru sgr sA ar pr cr we ha ad aru agr akn rws occ dwn tkn cmp fnd frl fgr chs chl isc awM und nwst rmM moc sdd clmK pcK kO cA comers code spans tr rD rR rG str cars gaps known left leaves atr atd ats sw ss oct refu tab sec many bar kinds walkers cf ce codes now kept mrw mo refM rF) (hx : F_X9_watched cy ls kx clmK pcK wx kO cA comers code spans d tr facts stack sd str sru sgr sA ar cars gaps known left leaves pr cr we ha sw ss rws cmp sec fnd frl fgr chs chl p0 = (r, n_cmp, n_fnd, n_frl, n_fgr, n_chs, n_chl, n_sd, n_sru, n_sgr, n_sA, n_pr, n_cr, n_we, n_ha, n_sec, n_facts, n_stack, n_cars, n_gaps, n_str, n_known, n_left, n_leaves)) (hm : F_X10_watched isc tk ask red io lg gt icg sg rmM ftm ftr ftg qp many bar kinds walkers cf ce codes now isCar gapM isG isH crM wtM goM hmM prM ciM mrw whn pile p0 = (r2, n_tk, n_ask, n_red, n_io, n_lg, n_gt, n_icg, n_sg, n_ftm, n_ftr, n_ftg, n_qp, n_pile, n_wtM, n_gapM, n_goM, n_hmM, n_isCar, n_isH, n_crM, n_prM, n_ciM, n_isG, n_whn)) : T7 cy ls aw kx wx d ru gr hnx hct n_sd n_sru n_sgr n_sA ar n_pr n_cr n_we n_ha ad aru agr akn rws occ dwn tkn n_cmp n_fnd n_frl n_fgr n_chs n_chl isc awM und nwst rmM moc sdd clmK pcK kO cA comers code spans tr rD rR rG n_str n_cars n_gaps n_known n_left n_leaves atr atd ats sw ss oct refu tab n_sec many bar kinds walkers cf ce codes now kept mrw mo refM rF ∧ r = r2 := by
  obtain ⟨hR, hD, hO, hC⟩ := h
  rcases hC with h0 | ⟨oC, oR, oL, nW, nK, rfl, rfl, hP, hM, hL, haw, hB, hN, hH, hS, hi, hW, hA, hCh, hWa⟩
  · obtain ⟨⟨z1, z2, z3, z4⟩, zz⟩ := h0
    have c : (F_X9_watched cy ls kx clmK pcK wx kO cA comers code spans d tr facts stack sd str sru sgr sA ar cars gaps known left leaves pr cr we ha sw ss rws cmp sec fnd frl fgr chs chl p0).1 = -1 := by
      unfold F_X9_watched
      rw [st_0x z1, lf_b_e, if_pos rfl]
    have m : (F_X10_watched isc tk ask red io lg gt icg sg rmM ftm ftr ftg qp many bar kinds walkers cf ce codes now isCar gapM isG isH crM wtM goM hmM prM ciM mrw whn pile p0).1 = -1 := by
      unfold F_X10_watched F_X10_watched_17
      rw [if_pos z4]
    rw [hx] at c
    rw [hm] at m
    exact ⟨⟨hR, hD, hO, Or.inl ⟨⟨z1, z2, z3, z4⟩, zz⟩⟩, c.trans m.symm⟩
  · obtain ⟨r9, O, e, c, cW, cS⟩ := wd_cx (facts := facts) (stack := stack) (p0 := p0) hP hS hB hW hWa
    have m := wd_mx (tk := tk) (ask := ask) (red := red) (io := io) (lg := lg) (gt := gt) (icg := icg) (sg := sg) (ftm := ftm) (ftr := ftr) (ftg := ftg) (qp := qp) (isCar := isCar) (gapM := gapM) (isG := isG) (isH := isH) (crM := crM) (wtM := wtM) (goM := goM) (hmM := hmM) (prM := prM) (ciM := ciM) (whn := whn) (pile := pile) (p0 := p0) hP hM hB hN hi hW
    rw [hx] at e
    rw [hm] at m
    simp only [Prod.mk.injEq] at e
    obtain ⟨e1, e2⟩ := e
    subst e1 e2
    exact ⟨⟨hR, hD, hO, Or.inr ⟨oC, oR, oL, nW, nK, rfl, rfl, hP, hM, hL, haw, hB, hN, hH, cS, hi, hW, hA, hCh, Or.inr cW⟩⟩, c.trans m.symm⟩
theorem t7_later {cy ls kx wx d ru gr sd sru sgr sA ar pr cr we ha ad aru agr akn p0 p1 r n_akn n_ad n_aru n_agr n_sd n_sru n_sgr n_sA n_pr n_cr n_we n_ha isc tk ask red io lg gt icg sg qp r2 n_tk n_ask n_red n_io n_lg n_gt n_icg n_sg n_qp aw hnx hct rws occ dwn tkn cmp fnd frl fgr chs chl awM und nwst rmM moc sdd : Int} {clmK pcK kO cA comers code spans tr facts stack str cars gaps known left leaves atr atd ats n_atr n_facts n_stack n_cars n_gaps n_str n_known n_left n_leaves n_atd n_ats many bar kinds walkers cf ce codes now asd isCar gapM isG isH crM wtM goM hmM prM ciM pile n_now n_asd n_pile n_wtM n_gapM n_goM n_hmM n_isCar n_isH n_crM n_prM n_ciM n_isG rD rR rG sw ss oct refu tab sec kept mrw mo refM : Nat → Int} {rF : Nat → Nat → Int} (h : T7 cy ls aw kx wx d ru gr hnx hct sd sru sgr sA ar pr cr we ha ad aru agr akn rws occ dwn tkn cmp fnd frl fgr chs chl isc awM und nwst rmM moc sdd clmK pcK kO cA comers code spans tr rD rR rG str cars gaps known left leaves atr atd ats sw ss oct refu tab sec many bar kinds walkers cf ce codes now kept mrw mo refM rF) (hx : F_X9_later cy ls kx clmK pcK wx kO cA comers code spans d ru gr tr facts stack sd str sru sgr sA ar cars gaps known left leaves pr cr we ha ad aru agr atr atd ats akn p0 p1 = (r, n_akn, n_ad, n_aru, n_agr, n_atr, n_sd, n_sru, n_sgr, n_sA, n_pr, n_cr, n_we, n_ha, n_facts, n_stack, n_cars, n_gaps, n_str, n_known, n_left, n_leaves, n_atd, n_ats)) (hm : F_X10_later isc tk ask red io lg gt icg sg qp many bar kinds walkers cf ce codes now asd isCar gapM isG isH crM wtM goM hmM prM ciM pile p0 p1 = (r2, n_tk, n_ask, n_red, n_io, n_lg, n_gt, n_icg, n_sg, n_qp, n_now, n_asd, n_pile, n_wtM, n_gapM, n_goM, n_hmM, n_isCar, n_isH, n_crM, n_prM, n_ciM, n_isG)) : T7 cy ls aw kx wx d ru gr hnx hct n_sd n_sru n_sgr n_sA ar n_pr n_cr n_we n_ha n_ad n_aru n_agr n_akn rws occ dwn tkn cmp fnd frl fgr chs chl isc awM und nwst rmM moc sdd clmK pcK kO cA comers code spans tr rD rR rG n_str n_cars n_gaps n_known n_left n_leaves n_atr n_atd n_ats sw ss oct refu tab sec many bar kinds walkers cf ce codes n_now kept mrw mo refM rF ∧ r = r2 := by
  obtain ⟨hR, hD, hO, hC⟩ := h
  rcases hC with h0 | ⟨oC, oR, oL, nW, nK, rfl, rfl, hP, hM, hL, haw, hB, hN, hH, hS, hi, hW, hA, hCh, hWa⟩
  · obtain ⟨⟨z1, z2, z3, z4⟩, ⟨z5, z6, z7⟩, ⟨y1, y2, y3⟩, ⟨y4, y5, y6⟩, zz⟩ := h0
    have c : (F_X9_later cy ls kx clmK pcK wx kO cA comers code spans d ru gr tr facts stack sd str sru sgr sA ar cars gaps known left leaves pr cr we ha ad aru agr atr atd ats akn p0 p1).1 = -1 := by
      unfold F_X9_later F_X9_later_32
      rw [st_0x z1, lf_b_e, if_pos rfl]
    have m : F_X10_later isc tk ask red io lg gt icg sg qp many bar kinds walkers cf ce codes now asd isCar gapM isG isH crM wtM goM hmM prM ciM pile p0 p1 = ((-1 : Int), tk, ask, red, io, lg, gt, icg, sg, qp, now, asd, pile, wtM, gapM, goM, hmM, isCar, isH, crM, prM, ciM, isG) := by
      unfold F_X10_later F_X10_isAhead_a1_0_a2_29 F_X10_isAhead_a1_0_a2_29_37 F_X10_later_23
      rw [if_pos z4, lf_b_e, if_pos rfl]
    rw [hx] at c
    rw [hm] at m
    simp only [Prod.mk.injEq] at m
    obtain ⟨m0, m1, m2, m3, m4, m5, m6, m7, m8, m9, m10, m11⟩ := m
    subst m10
    exact ⟨⟨hR, hD, hO, Or.inl ⟨⟨z1, z2, z3, z4⟩, ⟨z5, z6, z7⟩, ⟨y1, y2, y3⟩, ⟨y4, y5, y6⟩, zz⟩⟩, c.trans m0.symm⟩
  · obtain ⟨c, cA2, cS⟩ := lat_c (facts := facts) (stack := stack) (p0 := p0) (p1 := p1) hP hL hB hS hA
    obtain ⟨O, eO, m, mN⟩ := lat_m (tk := tk) (ask := ask) (red := red) (io := io) (lg := lg) (gt := gt) (icg := icg) (sg := sg) (qp := qp) (asd := asd) (isCar := isCar) (gapM := gapM) (isG := isG) (isH := isH) (crM := crM) (wtM := wtM) (goM := goM) (hmM := hmM) (prM := prM) (ciM := ciM) (pile := pile) (p0 := p0) (p1 := p1) hP hM hL.2 hB hN hi
    rw [hm] at eO
    subst eO
    rw [hx] at c cA2 cS
    exact ⟨⟨hR, hD, hO, Or.inr ⟨oC, oR, oL, nW, nK, rfl, rfl, hP, hM, hL, haw, hB, mN, hH, cS, hi, hW, cA2, hCh, hWa⟩⟩, c.trans m.symm⟩
theorem t7_doubts {cy ls kx wx d ru gr sd sru sgr sA ar pr cr we ha ad aru agr akn p0 r n_akn n_ad n_aru n_agr n_sd n_sru n_sgr n_sA n_pr n_cr n_we n_ha tk ask red io lg gt icg sg qp r2 n_tk n_ask n_red n_io n_lg n_gt n_icg n_sg n_qp aw hnx hct rws occ dwn tkn cmp fnd frl fgr chs chl isc awM und nwst rmM moc sdd : Int} {clmK pcK kO cA comers code spans tr facts stack str cars gaps known left leaves atr atd ats n_atr n_facts n_stack n_cars n_gaps n_str n_known n_left n_leaves n_atd n_ats many bar kinds walkers cf ce codes now asd isCar gapM isG isH crM wtM goM hmM prM ciM pile n_now n_asd n_pile n_wtM n_gapM n_goM n_hmM n_isCar n_isH n_crM n_prM n_ciM n_isG rD rR rG sw ss oct refu tab sec kept mrw mo refM : Nat → Int} {rF : Nat → Nat → Int} (h : T7 cy ls aw kx wx d ru gr hnx hct sd sru sgr sA ar pr cr we ha ad aru agr akn rws occ dwn tkn cmp fnd frl fgr chs chl isc awM und nwst rmM moc sdd clmK pcK kO cA comers code spans tr rD rR rG str cars gaps known left leaves atr atd ats sw ss oct refu tab sec many bar kinds walkers cf ce codes now kept mrw mo refM rF) (hx : F_X9_doubts cy ls kx clmK pcK wx kO cA comers code spans d ru gr tr facts stack sd str sru sgr sA ar cars gaps known left leaves pr cr we ha ad aru agr atr atd ats akn p0 = (r, n_akn, n_ad, n_aru, n_agr, n_atr, n_sd, n_sru, n_sgr, n_sA, n_pr, n_cr, n_we, n_ha, n_facts, n_stack, n_cars, n_gaps, n_str, n_known, n_left, n_leaves, n_atd, n_ats)) (hm : F_X10_doubts tk ask red io lg gt icg sg qp many bar kinds walkers cf ce codes now asd isCar gapM isG isH crM wtM goM hmM prM ciM pile p0 = (r2, n_tk, n_ask, n_red, n_io, n_lg, n_gt, n_icg, n_sg, n_qp, n_now, n_asd, n_pile, n_wtM, n_gapM, n_goM, n_hmM, n_isCar, n_isH, n_crM, n_prM, n_ciM, n_isG)) : T7 cy ls aw kx wx d ru gr hnx hct n_sd n_sru n_sgr n_sA ar n_pr n_cr n_we n_ha n_ad n_aru n_agr n_akn rws occ dwn tkn cmp fnd frl fgr chs chl isc awM und nwst rmM moc sdd clmK pcK kO cA comers code spans tr rD rR rG n_str n_cars n_gaps n_known n_left n_leaves n_atr n_atd n_ats sw ss oct refu tab sec many bar kinds walkers cf ce codes n_now kept mrw mo refM rF := by
  obtain ⟨hR, hD, hO, hC⟩ := h
  rcases hC with h0 | ⟨oC, oR, oL, nW, nK, rfl, rfl, hP, hM, hL, haw, hB, hN, hH, hS, hi, hW, hA, hCh, hWa⟩
  · obtain ⟨⟨z1, z2, z3, z4⟩, ⟨z5, z6, z7⟩, ⟨y1, y2, y3⟩, ⟨y4, y5, y6⟩, zz⟩ := h0
    have e := ik_m (nK := 0) (p0 := p0) z5
    rw [if_neg (by omega)] at e
    have m : F_X10_doubts tk ask red io lg gt icg sg qp many bar kinds walkers cf ce codes now asd isCar gapM isG isH crM wtM goM hmM prM ciM pile p0 = ((-1 : Int), tk, ask, red, io, lg, gt, icg, sg, qp, now, asd, pile, wtM, gapM, goM, hmM, isCar, isH, crM, prM, ciM, isG) := by
      unfold F_X10_doubts
      rw [e, lf_b_e, if_pos rfl]
    rw [hm] at m
    simp only [Prod.mk.injEq] at m
    obtain ⟨m0, m1, m2, m3, m4, m5, m6, m7, m8, m9, m10, m11⟩ := m
    subst m10
    exact ⟨hR, hD, hO, Or.inl ⟨⟨z1, z2, z3, z4⟩, ⟨z5, z6, z7⟩, ⟨y1, y2, y3⟩, ⟨y4, y5, y6⟩, zz⟩⟩
  · obtain ⟨cA2, cS⟩ := dou_c (facts := facts) (stack := stack) (p0 := p0) hP hL hB hS hA
    obtain ⟨O, eO, mN⟩ := dou_m (d := d) (ru := ru) (gr := gr) (tr := tr) (tk := tk) (ask := ask) (red := red) (io := io) (lg := lg) (gt := gt) (icg := icg) (sg := sg) (qp := qp) (asd := asd) (isCar := isCar) (gapM := gapM) (isG := isG) (isH := isH) (crM := crM) (wtM := wtM) (goM := goM) (hmM := hmM) (prM := prM) (ciM := ciM) (pile := pile) (p0 := p0) (many := many) (bar := bar) (kinds := kinds) (walkers := walkers) (cf := cf) (ce := ce) (codes := codes) hP.2.1 hN
    rw [hm] at eO
    subst eO
    rw [hx] at cA2 cS
    exact ⟨hR, hD, hO, Or.inr ⟨oC, oR, oL, nW, nK, rfl, rfl, hP, hM, hL, haw, hB, mN, hH, cS, hi, hW, cA2, hCh, hWa⟩⟩
theorem t7_rule {cy d ru gr hnx hct tkn akn cmp p0 r n_ru n_hnx n_hct n_tkn n_akn n_cmp isc und nwst r2 n_und n_nwst ls aw kx wx sd sru sgr sA ar pr cr we ha ad aru agr rws occ dwn fnd frl fgr chs chl awM rmM moc sdd : Int} {tr rD rR rG refu n_refu n_rD n_rR n_rG refM now kept n_now n_kept n_refM clmK pcK kO cA comers code spans str cars gaps known left leaves atr atd ats sw ss oct tab sec many bar kinds walkers cf ce codes mrw mo : Nat → Int} {rF n_rF : Nat → Nat → Int} (h : T7 cy ls aw kx wx d ru gr hnx hct sd sru sgr sA ar pr cr we ha ad aru agr akn rws occ dwn tkn cmp fnd frl fgr chs chl isc awM und nwst rmM moc sdd clmK pcK kO cA comers code spans tr rD rR rG str cars gaps known left leaves atr atd ats sw ss oct refu tab sec many bar kinds walkers cf ce codes now kept mrw mo refM rF) (hx : F_X9_rule cy d ru gr tr rD rR rG rF hnx hct tkn akn cmp refu p0 = (r, n_ru, n_hnx, n_hct, n_tkn, n_akn, n_cmp, n_refu, n_rD, n_rR, n_rG, n_rF)) (hm : F_X10_rule isc und nwst refM now kept p0 = (r2, n_und, n_nwst, n_now, n_kept, n_refM)) : T7 cy ls aw kx wx d n_ru gr n_hnx n_hct sd sru sgr sA ar pr cr we ha ad aru agr n_akn rws occ dwn n_tkn n_cmp fnd frl fgr chs chl isc awM n_und n_nwst rmM moc sdd clmK pcK kO cA comers code spans tr n_rD n_rR n_rG str cars gaps known left leaves atr atd ats sw ss oct n_refu tab sec many bar kinds walkers cf ce codes n_now n_kept mrw mo n_refM n_rF ∧ r = r2 := by
  obtain ⟨hR, hD, hO, hC⟩ := h
  rcases hC with h0 | ⟨oC, oR, oL, nW, nK, rfl, rfl, hP, hM, hL, haw, hB, hN, hH, hS, hi, hW, hA, hCh, hWa⟩
  · obtain ⟨⟨z1, z2, z3, z4⟩, ⟨z5, z6, z7⟩, ⟨y1, y2, y3⟩, ⟨y4, y5, y6⟩, ⟨x1, x2, x3, x4⟩, w1, w2⟩ := h0
    have c := ru_x0 (cy := cy) (d := d) (ru := ru) (gr := gr) (tr := tr) (rD := rD) (rR := rR) (rG := rG) (rF := rF) (hnx := hnx) (hct := hct) (tkn := tkn) (akn := akn) (cmp := cmp) (refu := refu) (p0 := p0) (Or.inl (by omega))
    have m := ru_m0 (isc := isc) (und := und) (nwst := nwst) (refM := refM) (now := now) (kept := kept) (p0 := p0) (Or.inl z4)
    rw [hx] at c
    rw [hm] at m
    simp only [Prod.mk.injEq] at c m
    obtain ⟨c0, c1, c2, c3, c4, c5, c6, c7, c8, c9, c10, c11⟩ := c
    obtain ⟨m0, m1, m2, m3, m4, m5⟩ := m
    subst c0 c1 c2 c3 c4 c5 c6 c7 c8 c9 c10 c11 m0 m1 m2 m3 m4 m5
    subst hR
    exact ⟨⟨rfl, hD, hO, Or.inl ⟨⟨z1, z2, z3, z4⟩, ⟨z5, z6, z7⟩, ⟨y1, y2, y3⟩, ⟨y4, y5, y6⟩, ⟨x1, x2, x3, x4⟩, w1, w2⟩⟩, rfl⟩
  · obtain ⟨r9, a9, n9, c9, t9, k9, p9, f9, D9, R9, G9, F9, u9, w9, N9, K9, e1, e2, aB, aN, aH, aC⟩ := ru_t (p0 := p0) (tkn := tkn) (akn := akn) (cmp := cmp) (refu := refu) (refM := refM) (cy := cy) hP.2.1 hP.2.2.1.1 hi hB hN hH hR
    rw [hx] at e1
    rw [hm] at e2
    simp only [Prod.mk.injEq] at e1 e2
    obtain ⟨c0, c1, c2, c3, c4, c5, c6, c7, c8, c9, c10, c11⟩ := e1
    obtain ⟨m0, m1, m2, m3, m4, m5⟩ := e2
    subst c0 c1 c2 c3 c4 c5 c6 c7 c8 c9 c10 c11 m0 m1 m2 m3 m4 m5
    have hA2 : ahH oC oR oL nW nK cy ls kO cA clmK pcK d n_ru gr tr n_akn ad aru agr atr atd ats ∧ chH oC oR nW cy ls kO cA clmK pcK d tr n_tkn tab ∧ waH oC oR nW cy ls kO cA clmK pcK d tr rws sw ss n_cmp fnd frl fgr chs chl sec := by
      rcases aC with ⟨q1, q2, q3, q4, q5, q6, q7⟩ | ⟨q1, q2, q3⟩
      · first | subst q1 | skip
        first | subst q2 | skip
        first | subst q3 | skip
        first | subst q4 | skip
        rw [q5, q6, q7]
        exact ⟨hA, hCh, hWa⟩
      · rw [q1, q2, q3]
        exact ⟨ah_0, ch_0, wa_0⟩
    exact ⟨⟨rfl, hD, hO, Or.inr ⟨oC, oR, oL, nW, nK, rfl, rfl, hP, hM, hL, haw, aB, aN, aH, hS, hi, hW, hA2⟩⟩, rfl⟩
theorem t7_green {cy d ru gr hnx hct tkn akn cmp p0 r n_gr n_hnx n_hct n_tkn n_akn n_cmp isc und nwst r2 n_und n_nwst ls aw kx wx sd sru sgr sA ar pr cr we ha ad aru agr rws occ dwn fnd frl fgr chs chl awM rmM moc sdd : Int} {tr rD rR rG refu n_refu n_rD n_rR n_rG refM bar now kept n_now n_kept n_refM clmK pcK kO cA comers code spans str cars gaps known left leaves atr atd ats sw ss oct tab sec many kinds walkers cf ce codes mrw mo : Nat → Int} {rF n_rF : Nat → Nat → Int} (h : T7 cy ls aw kx wx d ru gr hnx hct sd sru sgr sA ar pr cr we ha ad aru agr akn rws occ dwn tkn cmp fnd frl fgr chs chl isc awM und nwst rmM moc sdd clmK pcK kO cA comers code spans tr rD rR rG str cars gaps known left leaves atr atd ats sw ss oct refu tab sec many bar kinds walkers cf ce codes now kept mrw mo refM rF) (hx : F_X9_green cy d ru gr tr rD rR rG rF hnx hct tkn akn cmp refu p0 = (r, n_gr, n_hnx, n_hct, n_tkn, n_akn, n_cmp, n_refu, n_rD, n_rR, n_rG, n_rF)) (hm : F_X10_green isc und nwst refM bar now kept p0 = (r2, n_und, n_nwst, n_now, n_kept, n_refM)) : T7 cy ls aw kx wx d ru n_gr n_hnx n_hct sd sru sgr sA ar pr cr we ha ad aru agr n_akn rws occ dwn n_tkn n_cmp fnd frl fgr chs chl isc awM n_und n_nwst rmM moc sdd clmK pcK kO cA comers code spans tr n_rD n_rR n_rG str cars gaps known left leaves atr atd ats sw ss oct n_refu tab sec many bar kinds walkers cf ce codes n_now n_kept mrw mo n_refM n_rF ∧ r = r2 := by
  obtain ⟨hR, hD, hO, hC⟩ := h
  rcases hC with h0 | ⟨oC, oR, oL, nW, nK, rfl, rfl, hP, hM, hL, haw, hB, hN, hH, hS, hi, hW, hA, hCh, hWa⟩
  · obtain ⟨⟨z1, z2, z3, z4⟩, ⟨z5, z6, z7⟩, ⟨y1, y2, y3⟩, ⟨y4, y5, y6⟩, ⟨x1, x2, x3, x4⟩, w1, w2⟩ := h0
    have c := gn_x0 (cy := cy) (d := d) (ru := ru) (gr := gr) (tr := tr) (rD := rD) (rR := rR) (rG := rG) (rF := rF) (hnx := hnx) (hct := hct) (tkn := tkn) (akn := akn) (cmp := cmp) (refu := refu) (p0 := p0) (Or.inl (by omega))
    have m := gn_m0 (isc := isc) (und := und) (nwst := nwst) (refM := refM) (bar := bar) (now := now) (kept := kept) (p0 := p0) (Or.inl z4)
    rw [hx] at c
    rw [hm] at m
    simp only [Prod.mk.injEq] at c m
    obtain ⟨c0, c1, c2, c3, c4, c5, c6, c7, c8, c9, c10, c11⟩ := c
    obtain ⟨m0, m1, m2, m3, m4, m5⟩ := m
    subst c0 c1 c2 c3 c4 c5 c6 c7 c8 c9 c10 c11 m0 m1 m2 m3 m4 m5
    subst hR
    exact ⟨⟨rfl, hD, hO, Or.inl ⟨⟨z1, z2, z3, z4⟩, ⟨z5, z6, z7⟩, ⟨y1, y2, y3⟩, ⟨y4, y5, y6⟩, ⟨x1, x2, x3, x4⟩, w1, w2⟩⟩, rfl⟩
  · obtain ⟨r9, a9, n9, c9, t9, k9, p9, f9, D9, R9, G9, F9, u9, w9, N9, K9, e1, e2, aB, aN, aH, aC⟩ := gn_t (p0 := p0) (tkn := tkn) (akn := akn) (cmp := cmp) (refu := refu) (refM := refM) (cy := cy) hP.2.1 hM.2.2.1 hi hB hN hH hR
    rw [hx] at e1
    rw [hm] at e2
    simp only [Prod.mk.injEq] at e1 e2
    obtain ⟨c0, c1, c2, c3, c4, c5, c6, c7, c8, c9, c10, c11⟩ := e1
    obtain ⟨m0, m1, m2, m3, m4, m5⟩ := e2
    subst c0 c1 c2 c3 c4 c5 c6 c7 c8 c9 c10 c11 m0 m1 m2 m3 m4 m5
    have hA2 : ahH oC oR oL nW nK cy ls kO cA clmK pcK d ru n_gr tr n_akn ad aru agr atr atd ats ∧ chH oC oR nW cy ls kO cA clmK pcK d tr n_tkn tab ∧ waH oC oR nW cy ls kO cA clmK pcK d tr rws sw ss n_cmp fnd frl fgr chs chl sec := by
      rcases aC with ⟨q1, q2, q3, q4, q5, q6, q7⟩ | ⟨q1, q2, q3⟩
      · first | subst q1 | skip
        first | subst q2 | skip
        first | subst q3 | skip
        first | subst q4 | skip
        rw [q5, q6, q7]
        exact ⟨hA, hCh, hWa⟩
      · rw [q1, q2, q3]
        exact ⟨ah_0, ch_0, wa_0⟩
    exact ⟨⟨rfl, hD, hO, Or.inr ⟨oC, oR, oL, nW, nK, rfl, rfl, hP, hM, hL, haw, aB, aN, aH, hS, hi, hW, hA2⟩⟩, rfl⟩
theorem t7_trust {kx d ru gr hnx hct tkn akn cmp p0 p1 r n_hnx n_hct n_tkn n_akn n_cmp und nwst r2 n_und n_nwst cy ls aw wx sd sru sgr sA ar pr cr we ha ad aru agr rws occ dwn fnd frl fgr chs chl isc awM rmM moc sdd : Int} {tr rD rR rG refu n_tr n_refu n_rD n_rR n_rG refM many now kept n_now n_kept n_refM clmK pcK kO cA comers code spans str cars gaps known left leaves atr atd ats sw ss oct tab sec bar kinds walkers cf ce codes mrw mo : Nat → Int} {rF n_rF : Nat → Nat → Int} (h : T7 cy ls aw kx wx d ru gr hnx hct sd sru sgr sA ar pr cr we ha ad aru agr akn rws occ dwn tkn cmp fnd frl fgr chs chl isc awM und nwst rmM moc sdd clmK pcK kO cA comers code spans tr rD rR rG str cars gaps known left leaves atr atd ats sw ss oct refu tab sec many bar kinds walkers cf ce codes now kept mrw mo refM rF) (hx : F_X9_trust kx d ru gr tr rD rR rG rF hnx hct tkn akn cmp refu p0 p1 = (r, n_tr, n_hnx, n_hct, n_tkn, n_akn, n_cmp, n_refu, n_rD, n_rR, n_rG, n_rF)) (hm : F_X10_trust und nwst refM many now kept p0 p1 = (r2, n_und, n_nwst, n_now, n_kept, n_refM)) : T7 cy ls aw kx wx d ru gr n_hnx n_hct sd sru sgr sA ar pr cr we ha ad aru agr n_akn rws occ dwn n_tkn n_cmp fnd frl fgr chs chl isc awM n_und n_nwst rmM moc sdd clmK pcK kO cA comers code spans n_tr n_rD n_rR n_rG str cars gaps known left leaves atr atd ats sw ss oct n_refu tab sec many bar kinds walkers cf ce codes n_now n_kept mrw mo n_refM n_rF ∧ r = r2 := by
  obtain ⟨hR, hD, hO, hC⟩ := h
  rcases hC with h0 | ⟨oC, oR, oL, nW, nK, rfl, rfl, hP, hM, hL, haw, hB, hN, hH, hS, hi, hW, hA, hCh, hWa⟩
  · obtain ⟨⟨z1, z2, z3, z4⟩, ⟨z5, z6, z7⟩, ⟨y1, y2, y3⟩, ⟨y4, y5, y6⟩, ⟨x1, x2, x3, x4⟩, w1, w2⟩ := h0
    have c := tr_x0 (nK := 0) (d := d) (ru := ru) (gr := gr) (tr := tr) (rD := rD) (rR := rR) (rG := rG) (rF := rF) (hnx := hnx) (hct := hct) (tkn := tkn) (akn := akn) (cmp := cmp) (refu := refu) (p0 := p0) (p1 := p1) (Or.inl (by omega))
    have m := tr_m0 (nK := 0) (und := und) (nwst := nwst) (refM := refM) (many := many) (now := now) (kept := kept) (p0 := p0) (p1 := p1) z5 (Or.inl (by omega))
    rw [show kx = ((0 : Nat) : Int) from z2] at hx
    rw [hx] at c
    rw [hm] at m
    simp only [Prod.mk.injEq] at c m
    obtain ⟨c0, c1, c2, c3, c4, c5, c6, c7, c8, c9, c10, c11⟩ := c
    obtain ⟨m0, m1, m2, m3, m4, m5⟩ := m
    subst c0 c1 c2 c3 c4 c5 c6 c7 c8 c9 c10 c11 m0 m1 m2 m3 m4 m5
    subst hR
    exact ⟨⟨rfl, hD, hO, Or.inl ⟨⟨z1, z2, z3, z4⟩, ⟨z5, z6, z7⟩, ⟨y1, y2, y3⟩, ⟨y4, y5, y6⟩, ⟨x1, x2, x3, x4⟩, w1, w2⟩⟩, rfl⟩
  · obtain ⟨r9, a9, n9, c9, t9, k9, p9, f9, D9, R9, G9, F9, u9, w9, N9, K9, e1, e2, aB, aN, aH, aC⟩ := tr_t (p0 := p0) (p1 := p1) (tkn := tkn) (akn := akn) (cmp := cmp) (refu := refu) (refM := refM) hP.2.1 hM.2.1 hB hN hH hR
    rw [hx] at e1
    rw [hm] at e2
    simp only [Prod.mk.injEq] at e1 e2
    obtain ⟨c0, c1, c2, c3, c4, c5, c6, c7, c8, c9, c10, c11⟩ := e1
    obtain ⟨m0, m1, m2, m3, m4, m5⟩ := e2
    subst c0 c1 c2 c3 c4 c5 c6 c7 c8 c9 c10 c11 m0 m1 m2 m3 m4 m5
    have hA2 : ahH oC oR oL nW nK cy ls kO cA clmK pcK d ru gr n_tr n_akn ad aru agr atr atd ats ∧ chH oC oR nW cy ls kO cA clmK pcK d n_tr n_tkn tab ∧ waH oC oR nW cy ls kO cA clmK pcK d n_tr rws sw ss n_cmp fnd frl fgr chs chl sec := by
      rcases aC with ⟨q1, q2, q3, q4, q5, q6, q7⟩ | ⟨q1, q2, q3⟩
      · first | subst q1 | skip
        first | subst q2 | skip
        first | subst q3 | skip
        first | subst q4 | skip
        rw [q5, q6, q7]
        exact ⟨hA, hCh, hWa⟩
      · rw [q1, q2, q3]
        exact ⟨ah_0, ch_0, wa_0⟩
    exact ⟨⟨rfl, hD, hO, Or.inr ⟨oC, oR, oL, nW, nK, rfl, rfl, hP, hM, hL, haw, aB, aN, aH, hS, hi, hW, hA2⟩⟩, rfl⟩
theorem t7_undo {d ru gr hnx hct tkn akn cmp r n_hnx n_hct n_d n_ru n_gr n_tkn n_akn n_cmp und nwst r2 n_und n_nwst cy ls aw kx wx sd sru sgr sA ar pr cr we ha ad aru agr rws occ dwn fnd frl fgr chs chl isc awM rmM moc sdd : Int} {tr rD rR rG refu n_tr n_refu refM now kept n_refM n_now clmK pcK kO cA comers code spans str cars gaps known left leaves atr atd ats sw ss oct tab sec many bar kinds walkers cf ce codes mrw mo : Nat → Int} {rF : Nat → Nat → Int} (h : T7 cy ls aw kx wx d ru gr hnx hct sd sru sgr sA ar pr cr we ha ad aru agr akn rws occ dwn tkn cmp fnd frl fgr chs chl isc awM und nwst rmM moc sdd clmK pcK kO cA comers code spans tr rD rR rG str cars gaps known left leaves atr atd ats sw ss oct refu tab sec many bar kinds walkers cf ce codes now kept mrw mo refM rF) (hx : F_X9_undo d ru gr tr rD rR rG rF hnx hct tkn akn cmp refu = (r, n_hnx, n_hct, n_d, n_ru, n_gr, n_tr, n_tkn, n_akn, n_cmp, n_refu)) (hm : F_X10_undo und nwst refM now kept = (r2, n_und, n_nwst, n_refM, n_now)) : T7 cy ls aw kx wx n_d n_ru n_gr n_hnx n_hct sd sru sgr sA ar pr cr we ha ad aru agr n_akn rws occ dwn n_tkn n_cmp fnd frl fgr chs chl isc awM n_und n_nwst rmM moc sdd clmK pcK kO cA comers code spans n_tr rD rR rG str cars gaps known left leaves atr atd ats sw ss oct n_refu tab sec many bar kinds walkers cf ce codes n_now kept mrw mo n_refM rF ∧ r = r2 := by
  obtain ⟨hR, hD, hO, hC⟩ := h
  rcases hC with h0 | ⟨oC, oR, oL, nW, nK, rfl, rfl, hP, hM, hL, haw, hB, hN, hH, hS, hi, hW, hA, hCh, hWa⟩
  · obtain ⟨⟨z1, z2, z3, z4⟩, ⟨z5, z6, z7⟩, ⟨y1, y2, y3⟩, ⟨y4, y5, y6⟩, ⟨x1, x2, x3, x4⟩, w1, w2⟩ := h0
    have c := un_x0 (d := d) (ru := ru) (gr := gr) (tr := tr) (rD := rD) (rR := rR) (rG := rG) (rF := rF) (hnx := hnx) (hct := hct) (tkn := tkn) (akn := akn) (cmp := cmp) (refu := refu) x1
    have m := un_m0 (und := und) (nwst := nwst) (refM := refM) (now := now) (kept := kept) x2
    rw [hx] at c
    rw [hm] at m
    simp only [Prod.mk.injEq] at c m
    obtain ⟨c0, c1, c2, c3, c4, c5, c6, c7, c8, c9, c10⟩ := c
    obtain ⟨m0, m1, m2, m3, m4⟩ := m
    subst c0 c1 c2 c3 c4 c5 c6 c7 c8 c9 c10 m0 m1 m2 m3 m4
    subst hR
    exact ⟨⟨rfl, hD, hO, Or.inl ⟨⟨z1, z2, z3, z4⟩, ⟨z5, z6, z7⟩, ⟨y1, y2, y3⟩, ⟨y4, y5, y6⟩, ⟨x1, x2, x3, x4⟩, w1, w2⟩⟩, rfl⟩
  · obtain ⟨r9, n9, c9, d9, a9, g9, t9, k9, p9, q9, f9, u9, w9, N9, e1, e2, aB, aN, aH, aC⟩ := un_t (tkn := tkn) (akn := akn) (cmp := cmp) (refu := refu) (refM := refM) hP.2.1 hB hN hH hR
    rw [hx] at e1
    rw [hm] at e2
    simp only [Prod.mk.injEq] at e1 e2
    obtain ⟨c0, c1, c2, c3, c4, c5, c6, c7, c8, c9, c10⟩ := e1
    obtain ⟨m0, m1, m2, m3, m4⟩ := e2
    subst c0 c1 c2 c3 c4 c5 c6 c7 c8 c9 c10 m0 m1 m2 m3 m4
    have hA2 : ahH oC oR oL nW nK cy ls kO cA clmK pcK n_d n_ru n_gr n_tr n_akn ad aru agr atr atd ats ∧ chH oC oR nW cy ls kO cA clmK pcK n_d n_tr n_tkn tab ∧ waH oC oR nW cy ls kO cA clmK pcK n_d n_tr rws sw ss n_cmp fnd frl fgr chs chl sec := by
      rcases aC with ⟨q1, q2, q3, q4, q5, q6, q7⟩ | ⟨q1, q2, q3⟩
      · first | subst q1 | skip
        first | subst q2 | skip
        first | subst q3 | skip
        first | subst q4 | skip
        rw [q5, q6, q7]
        exact ⟨hA, hCh, hWa⟩
      · rw [q1, q2, q3]
        exact ⟨ah_0, ch_0, wa_0⟩
    exact ⟨⟨rfl, hD, hO, Or.inr ⟨oC, oR, oL, nW, nK, rfl, rfl, hP, hM, hL, haw, aB, aN, aH, hS, hi, hW, hA2⟩⟩, rfl⟩
theorem t7_status {p0 r r2 cy ls aw kx wx d ru gr hnx hct sd sru sgr sA ar pr cr we ha ad aru agr akn rws occ dwn tkn cmp fnd frl fgr chs chl isc awM und nwst rmM moc sdd : Int} {refu refM clmK pcK kO cA comers code spans tr rD rR rG str cars gaps known left leaves atr atd ats sw ss oct tab sec many bar kinds walkers cf ce codes now kept mrw mo : Nat → Int} {rF : Nat → Nat → Int} (h : T7 cy ls aw kx wx d ru gr hnx hct sd sru sgr sA ar pr cr we ha ad aru agr akn rws occ dwn tkn cmp fnd frl fgr chs chl isc awM und nwst rmM moc sdd clmK pcK kO cA comers code spans tr rD rR rG str cars gaps known left leaves atr atd ats sw ss oct refu tab sec many bar kinds walkers cf ce codes now kept mrw mo refM rF) (hx : F_X9_status refu p0 = r) (hm : F_X10_status refM p0 = r2) : T7 cy ls aw kx wx d ru gr hnx hct sd sru sgr sA ar pr cr we ha ad aru agr akn rws occ dwn tkn cmp fnd frl fgr chs chl isc awM und nwst rmM moc sdd clmK pcK kO cA comers code spans tr rD rR rG str cars gaps known left leaves atr atd ats sw ss oct refu tab sec many bar kinds walkers cf ce codes now kept mrw mo refM rF ∧ r = r2 := by
  obtain ⟨hR, hD, hO, hC⟩ := h
  refine ⟨⟨hR, hD, hO, hC⟩, ?_⟩
  rw [← hx, ← hm, hR]
  unfold F_X9_status F_X9_status_19 F_X10_status lf_isin
  by_cases c0 : p0 < 0
  · rw [if_pos c0, if_neg (show ¬ (0 ≤ p0 ∧ p0 ≤ 5) from by omega), if_pos rfl]
  rw [if_neg c0]
  by_cases c1 : 6 ≤ p0
  · rw [if_pos c1, if_neg (show ¬ (0 ≤ p0 ∧ p0 ≤ 5) from by omega), if_pos rfl]
  rw [if_neg c1, if_pos (show 0 ≤ p0 ∧ p0 ≤ 5 from by omega), if_neg (show ¬ (1 : Int) = 0 from by decide)]
theorem t7_octet {occ p0 r moc r2 cy ls aw kx wx d ru gr hnx hct sd sru sgr sA ar pr cr we ha ad aru agr akn rws dwn tkn cmp fnd frl fgr chs chl isc awM und nwst rmM sdd : Int} {oct mo clmK pcK kO cA comers code spans tr rD rR rG str cars gaps known left leaves atr atd ats sw ss refu tab sec many bar kinds walkers cf ce codes now kept mrw refM : Nat → Int} {rF : Nat → Nat → Int} (h : T7 cy ls aw kx wx d ru gr hnx hct sd sru sgr sA ar pr cr we ha ad aru agr akn rws occ dwn tkn cmp fnd frl fgr chs chl isc awM und nwst rmM moc sdd clmK pcK kO cA comers code spans tr rD rR rG str cars gaps known left leaves atr atd ats sw ss oct refu tab sec many bar kinds walkers cf ce codes now kept mrw mo refM rF) (hx : F_X9_octet oct occ p0 = r) (hm : F_X10_octet moc mo p0 = r2) : T7 cy ls aw kx wx d ru gr hnx hct sd sru sgr sA ar pr cr we ha ad aru agr akn rws occ dwn tkn cmp fnd frl fgr chs chl isc awM und nwst rmM moc sdd clmK pcK kO cA comers code spans tr rD rR rG str cars gaps known left leaves atr atd ats sw ss oct refu tab sec many bar kinds walkers cf ce codes now kept mrw mo refM rF ∧ r = r2 := by
  obtain ⟨hR, hD, hO, hC⟩ := h
  refine ⟨⟨hR, hD, hO, hC⟩, ?_⟩
  obtain ⟨o1, o2, o3⟩ := hO
  rw [← hx, ← hm]
  unfold F_X9_octet F_X9_octet_21 F_X10_octet F_X10_octet_21
  rw [← o1]
  by_cases c0 : p0 < 0
  · rw [if_pos c0, if_pos c0]
  rw [if_neg c0, if_neg c0]
  by_cases c1 : occ ≤ p0
  · rw [if_pos c1, if_pos c1]
  rw [if_neg c1, if_neg c1]
  exact o3 p0.toNat (by omega)
theorem t7_seed {dwn p0 r n_dwn sdd r2 n_sdd cy ls aw kx wx d ru gr hnx hct sd sru sgr sA ar pr cr we ha ad aru agr akn rws occ tkn cmp fnd frl fgr chs chl isc awM und nwst rmM moc : Int} {refu n_refu refM n_refM clmK pcK kO cA comers code spans tr rD rR rG str cars gaps known left leaves atr atd ats sw ss oct tab sec many bar kinds walkers cf ce codes now kept mrw mo : Nat → Int} {rF : Nat → Nat → Int} (h : T7 cy ls aw kx wx d ru gr hnx hct sd sru sgr sA ar pr cr we ha ad aru agr akn rws occ dwn tkn cmp fnd frl fgr chs chl isc awM und nwst rmM moc sdd clmK pcK kO cA comers code spans tr rD rR rG str cars gaps known left leaves atr atd ats sw ss oct refu tab sec many bar kinds walkers cf ce codes now kept mrw mo refM rF) (hp : p0 ≤ 2147483647) (hx : F_X9_seed refu dwn p0 = (r, n_dwn, n_refu)) (hm : F_X10_seed sdd refM p0 = (r2, n_sdd, n_refM)) : T7 cy ls aw kx wx d ru gr hnx hct sd sru sgr sA ar pr cr we ha ad aru agr akn rws occ n_dwn tkn cmp fnd frl fgr chs chl isc awM und nwst rmM moc n_sdd clmK pcK kO cA comers code spans tr rD rR rG str cars gaps known left leaves atr atd ats sw ss oct n_refu tab sec many bar kinds walkers cf ce codes now kept mrw mo n_refM rF ∧ r = r2 := by
  obtain ⟨hR, hD, hO, hC⟩ := h
  have key : n_refu = n_refM ∧ (∃ s0 : Nat, s0 < 2147483648 ∧ n_dwn = (s0 : Int) ∧ n_sdd = (s0 : Int)) ∧ r = r2 := by
    unfold F_X9_seed F_X9_deny at hx
    unfold F_X10_seed at hm
    by_cases c0 : 0 ≤ p0
    · rw [if_pos c0] at hx hm
      simp only [Prod.mk.injEq] at hx hm
      obtain ⟨a0, a1, a2⟩ := hx
      obtain ⟨b0, b1, b2'⟩ := hm
      exact ⟨a2.symm.trans (hR.trans b2'), ⟨p0.toNat, by omega, by omega, by omega⟩, a0.symm.trans b0⟩
    · rw [if_neg c0, lf_p_e] at hx
      rw [if_neg c0] at hm
      simp only [Prod.mk.injEq] at hx hm
      obtain ⟨a0, a1, a2⟩ := hx
      obtain ⟨b0, b1, b2'⟩ := hm
      obtain ⟨s0, d0, d1, d2⟩ := hD
      subst hR
      exact ⟨a2.symm.trans b2', ⟨s0, d0, by omega, by omega⟩, a0.symm.trans b0⟩
  exact ⟨⟨key.1, key.2.1, hO, hC⟩, key.2.2⟩
theorem fr_28 {refu : Nat → Int} {p0 p1 p2 p3 p4 : Int} : ∀ (f l : Nat) (c : Int) (a : Nat → Int), l ≤ 20 → 20 - l < f → (F_X10_feed_28 refu p0 p1 p2 p3 p4 f (l : Int) c a).2.2.1 = refu := by
  intro f
  induction f with
  | zero => intro l c a h1 h2; omega
  | succ f ih =>
    intro l c a h1 h2
    show (F_X10_feed_28b refu p0 p1 p2 p3 p4 (F_X10_feed_28 refu p0 p1 p2 p3 p4 f) (l : Int) c a).2.2.1 = refu
    unfold F_X10_feed_28b F_X10_feed_81
    by_cases q : l = 20
    · rw [if_pos (show (20 : Int) ≤ (l : Int) from by omega)]
    · rw [if_neg (show ¬ (20 : Int) ≤ (l : Int) from by omega)]
      by_cases c4 : (4 : Int) ≤ (l : Int)
      · rw [if_pos c4]
        by_cases c8 : (8 : Int) ≤ (l : Int)
        · rw [if_pos c8]
          by_cases c12 : (12 : Int) ≤ (l : Int)
          · rw [if_pos c12]
            by_cases c16 : (16 : Int) ≤ (l : Int)
            · rw [if_pos c16]
              exact ih (l + 1) _ _ (by omega) (by omega)
            · rw [if_neg c16]
              exact ih (l + 1) _ _ (by omega) (by omega)
          · rw [if_neg c12]
            exact ih (l + 1) _ _ (by omega) (by omega)
        · rw [if_neg c8]
          exact ih (l + 1) _ _ (by omega) (by omega)
      · rw [if_neg c4]
        exact ih (l + 1) _ _ (by omega) (by omega)
theorem t7_feed {s p0 p1 p2 p3 p4 r n_s sM r2 n_sM cy ls aw kx wx d ru gr hnx hct sd sru sgr sA ar pr cr we ha ad aru agr akn rws occ dwn tkn cmp fnd frl fgr chs chl isc awM und nwst rmM moc sdd : Int} {g refu n_g n_refu gM refM n_refM n_gM clmK pcK kO cA comers code spans tr rD rR rG str cars gaps known left leaves atr atd ats sw ss oct tab sec many bar kinds walkers cf ce codes now kept mrw mo : Nat → Int} {rF : Nat → Nat → Int} (h : T7 cy ls aw kx wx d ru gr hnx hct sd sru sgr sA ar pr cr we ha ad aru agr akn rws occ dwn tkn cmp fnd frl fgr chs chl isc awM und nwst rmM moc sdd clmK pcK kO cA comers code spans tr rD rR rG str cars gaps known left leaves atr atd ats sw ss oct refu tab sec many bar kinds walkers cf ce codes now kept mrw mo refM rF) (es : sM = s) (hx : F_X9_feed g s refu p0 p1 p2 p3 p4 = (r, n_s, n_g, n_refu)) (hm : F_X10_feed sM gM refM p0 p1 p2 p3 p4 = (r2, n_sM, n_refM, n_gM)) : T7 cy ls aw kx wx d ru gr hnx hct sd sru sgr sA ar pr cr we ha ad aru agr akn rws occ dwn tkn cmp fnd frl fgr chs chl isc awM und nwst rmM moc sdd clmK pcK kO cA comers code spans tr rD rR rG str cars gaps known left leaves atr atd ats sw ss oct n_refu tab sec many bar kinds walkers cf ce codes now kept mrw mo n_refM rF := by
  obtain ⟨hR, hD, hO, hC⟩ := h
  have key : n_refu = n_refM := by
    subst hR
    unfold F_X9_feed at hx
    unfold F_X10_feed at hm
    rw [es] at hm
    by_cases c0 : s + 20 ≤ 1600
    · rw [if_pos c0] at hx hm
      have e := fr_28 (refu := refu) (p0 := p0) (p1 := p1) (p2 := p2) (p3 := p3) (p4 := p4) 1602 0 s gM (by decide) (by decide)
      have e' : (F_X10_feed_28 refu p0 p1 p2 p3 p4 1602 (0 : Int) s gM).2.2.1 = refu := e
      rw [hm] at e'
      have x : (lf_p (F_X9_putBytes_f_0_1580 g s p0) (fun v10 f11 => (lf_p (F_X9_putBytes_f_0_1584 f11 v10 p1) (fun v18 f19 => (lf_p (F_X9_putBytes_f_0_1588 f19 v18 p2) (fun v26 f27 => (lf_p (F_X9_putBytes_f_0_1592 f27 v26 p3) (fun v34 f35 => (lf_p (F_X9_putBytes_f_0_1596 f35 v34 p4) (fun v42 f43 => (v42, v42, f43, refu))))))))))).2.2.2 = refu := rfl
      rw [hx] at x
      exact x.trans e'.symm
    · rw [if_neg c0] at hx hm
      unfold F_X9_refuse at hx
      rw [lf_p_e] at hx
      simp only [Prod.mk.injEq] at hx hm
      exact hx.2.2.2.symm.trans hm.2.2.1
  exact ⟨key, hD, hO, hC⟩
theorem t7_end {s p0 r n_s sM r2 n_sM cy ls aw kx wx d ru gr hnx hct sd sru sgr sA ar pr cr we ha ad aru agr akn rws occ dwn tkn cmp fnd frl fgr chs chl isc awM und nwst rmM moc sdd : Int} {refu n_refu refM n_refM clmK pcK kO cA comers code spans tr rD rR rG str cars gaps known left leaves atr atd ats sw ss oct tab sec many bar kinds walkers cf ce codes now kept mrw mo : Nat → Int} {rF : Nat → Nat → Int} (h : T7 cy ls aw kx wx d ru gr hnx hct sd sru sgr sA ar pr cr we ha ad aru agr akn rws occ dwn tkn cmp fnd frl fgr chs chl isc awM und nwst rmM moc sdd clmK pcK kO cA comers code spans tr rD rR rG str cars gaps known left leaves atr atd ats sw ss oct refu tab sec many bar kinds walkers cf ce codes now kept mrw mo refM rF) (es : sM = s) (hx : F_X9_end s refu p0 = (r, n_s, n_refu)) (hm : F_X10_end sM refM p0 = (r2, n_sM, n_refM)) : T7 cy ls aw kx wx d ru gr hnx hct sd sru sgr sA ar pr cr we ha ad aru agr akn rws occ dwn tkn cmp fnd frl fgr chs chl isc awM und nwst rmM moc sdd clmK pcK kO cA comers code spans tr rD rR rG str cars gaps known left leaves atr atd ats sw ss oct n_refu tab sec many bar kinds walkers cf ce codes now kept mrw mo n_refM rF := by
  obtain ⟨hR, hD, hO, hC⟩ := h
  have key : n_refu = n_refM := by
    subst hR
    unfold F_X9_end F_X9_deny at hx
    unfold F_X10_end at hm
    rw [es] at hm
    by_cases c0 : p0 < 0
    · rw [if_pos c0, lf_p_e] at hx
      rw [if_pos c0] at hm
      simp only [Prod.mk.injEq] at hx hm
      exact hx.2.2.symm.trans hm.2.2
    rw [if_neg c0] at hx hm
    by_cases c1 : p0 ≤ s
    · rw [if_pos c1] at hx hm
      simp only [Prod.mk.injEq] at hx hm
      exact hx.2.2.symm.trans hm.2.2
    · rw [if_neg c1, lf_p_e] at hx
      rw [if_neg c1] at hm
      simp only [Prod.mk.injEq] at hx hm
      exact hx.2.2.symm.trans hm.2.2
  exact ⟨key, hD, hO, hC⟩
theorem t7_image {kx d ru gr r n_occ r2 n_moc cy ls aw wx hnx hct sd sru sgr sA ar pr cr we ha ad aru agr akn rws occ dwn tkn cmp fnd frl fgr chs chl isc awM und nwst rmM moc sdd : Int} {tr oct n_oct many now mo n_mo clmK pcK kO cA comers code spans rD rR rG str cars gaps known left leaves atr atd ats sw ss refu tab sec bar kinds walkers cf ce codes kept mrw refM : Nat → Int} {rF : Nat → Nat → Int} (h : T7 cy ls aw kx wx d ru gr hnx hct sd sru sgr sA ar pr cr we ha ad aru agr akn rws occ dwn tkn cmp fnd frl fgr chs chl isc awM und nwst rmM moc sdd clmK pcK kO cA comers code spans tr rD rR rG str cars gaps known left leaves atr atd ats sw ss oct refu tab sec many bar kinds walkers cf ce codes now kept mrw mo refM rF) (hx : F_X9_image kx d ru gr tr oct = (r, n_occ, n_oct)) (hm : F_X10_image many now mo = (r2, n_moc, n_mo)) : T7 cy ls aw kx wx d ru gr hnx hct sd sru sgr sA ar pr cr we ha ad aru agr akn rws n_occ dwn tkn cmp fnd frl fgr chs chl isc awM und nwst rmM n_moc sdd clmK pcK kO cA comers code spans tr rD rR rG str cars gaps known left leaves atr atd ats sw ss n_oct refu tab sec many bar kinds walkers cf ce codes now kept mrw n_mo refM rF ∧ r = r2 := by
  obtain ⟨hR, hD, hO, hC⟩ := h
  rcases hC with h0 | ⟨oC, oR, oL, nW, nK, rfl, rfl, hP, hM, hL, haw, hB, hN, hH, hS, hi, hW, hA, hCh, hWa⟩
  · have h0' := h0
    obtain ⟨⟨z1, z2, z3, z4⟩, ⟨z5, z6, z7⟩, ⟨y1, y2, y3⟩, ⟨y4, y5, y6⟩, ⟨x1, x2, x3, x4⟩, w1, w2⟩ := h0
    have hx2 : F_X9_image ((0 : Nat) : Int) d ru gr tr oct = (r, n_occ, n_oct) := by
      rw [← hx, z2]
      rfl
    obtain ⟨O, Q, e1, e2, i1, i2, i3, i4⟩ := im_t (nK := 0) (d := d) (ru := ru) (gr := gr) (tr := tr) (oct := oct) (many := many) (now := now) (mo := mo) (by decide) (by omega) z5 ⟨y4.trans y1.symm, y5.trans y2.symm, y6.trans y3.symm, fun k hk => absurd hk (Nat.not_lt_zero k)⟩
    rw [hx2] at e1
    rw [hm] at e2
    subst e1 e2
    have j1 : n_occ = ((0 : Nat) : Int) + 5 := i2
    have j2 : n_moc = ((0 : Nat) : Int) + 5 := i3
    exact ⟨⟨hR, hD, ⟨j1.trans j2.symm, by omega, fun j hj => i4 j (by omega)⟩, Or.inl h0'⟩, i1⟩
  · have hK6 := hP.2.1
    obtain ⟨O, Q, e1, e2, i1, i2, i3, i4⟩ := im_t (nK := nK) (d := d) (ru := ru) (gr := gr) (tr := tr) (oct := oct) (many := many) (now := now) (mo := mo) hK6 hB.1 hM.2.1 hN
    rw [hx] at e1
    rw [hm] at e2
    subst e1 e2
    have j1 : n_occ = (nK : Int) + 5 := i2
    have j2 : n_moc = (nK : Int) + 5 := i3
    exact ⟨⟨hR, hD, ⟨j1.trans j2.symm, by omega, fun j hj => i4 j (by omega)⟩, Or.inr ⟨oC, oR, oL, nW, nK, rfl, rfl, hP, hM, hL, haw, hB, hN, hH, hS, hi, hW, hA, hCh, hWa⟩⟩, i1⟩
theorem t7_see {s wx rws cmp r n_rws n_cmp sM rmM r2 n_rmM cy ls aw kx d ru gr hnx hct sd sru sgr sA ar pr cr we ha ad aru agr akn occ dwn tkn fnd frl fgr chs chl isc awM und nwst moc sdd : Int} {g sw ss refu n_sw n_ss n_refu gM refM many mrw n_refM n_mrw clmK pcK kO cA comers code spans tr rD rR rG str cars gaps known left leaves atr atd ats oct tab sec bar kinds walkers cf ce codes now kept mo : Nat → Int} {rF : Nat → Nat → Int} (h : T7 cy ls aw kx wx d ru gr hnx hct sd sru sgr sA ar pr cr we ha ad aru agr akn rws occ dwn tkn cmp fnd frl fgr chs chl isc awM und nwst rmM moc sdd clmK pcK kO cA comers code spans tr rD rR rG str cars gaps known left leaves atr atd ats sw ss oct refu tab sec many bar kinds walkers cf ce codes now kept mrw mo refM rF) (hs : 0 ≤ s ∧ s ≤ 1600) (hg : ∀ k, k < 1600 → 0 ≤ g k) (eg : gM = g) (es : sM = s) (hx : F_X9_see g s wx sw ss rws cmp refu = (r, n_rws, n_cmp, n_sw, n_ss, n_refu)) (hm : F_X10_see sM rmM gM refM many mrw = (r2, n_rmM, n_refM, n_mrw)) : T7 cy ls aw kx wx d ru gr hnx hct sd sru sgr sA ar pr cr we ha ad aru agr akn n_rws occ dwn tkn n_cmp fnd frl fgr chs chl isc awM und nwst n_rmM moc sdd clmK pcK kO cA comers code spans tr rD rR rG str cars gaps known left leaves atr atd ats n_sw n_ss oct n_refu tab sec many bar kinds walkers cf ce codes now kept n_mrw mo n_refM rF ∧ r = r2 := by
  obtain ⟨hR, hD, hO, hC⟩ := h
  rcases hC with h0 | ⟨oC, oR, oL, nW, nK, rfl, rfl, hP, hM, hL, haw, hB, hN, hH, hS, hi, hW, hA, hCh, hWa⟩
  · have h0' := h0
    obtain ⟨⟨z1, z2, z3, z4⟩, ⟨z5, z6, z7⟩, ⟨y1, y2, y3⟩, ⟨y4, y5, y6⟩, ⟨x1, x2, x3, x4⟩, w1, w2⟩ := h0
    obtain ⟨n, hn⟩ := Int.eq_ofNat_of_zero_le hs.1
    have hx2 : F_X9_see g s ((0 : Nat) : Int) sw ss rws cmp refu = (r, n_rws, n_cmp, n_sw, n_ss, n_refu) := by
      rw [← hx, z3]
      rfl
    obtain ⟨r9, a9, b9, c9, d9, f9, q9, M9, e1, e2, hW2, hc9⟩ := se_t (nW := 0) (n := n) (g := g) (s := s) (sw := sw) (ss := ss) (rws := rws) (cmp := cmp) (refu := refu) (sM := sM) (rmM := rmM) (gM := gM) (refM := refM) (many := many) (mrw := mrw) (by omega) hg eg hn (es.trans hn) z6 hR ⟨w1.trans w2.symm, by omega, fun k hk => absurd hk (by omega)⟩
    rw [hx2] at e1
    rw [hm] at e2
    simp only [Prod.mk.injEq] at e1 e2
    obtain ⟨c0, c1, c2, c3, c4, c5⟩ := e1
    obtain ⟨m0, m1, m2, m3⟩ := e2
    subst c0 c1 c2 c3 c4 c5 m0 m1 m2 m3
    have hw0 : n_rws = 0 := by
      rcases hc9 with q | q
      · exact q.1.trans w1
      · have h1 := hW2.2.1
        by_cases z : n_rws = 0
        · exact z
        · exfalso
          have h2 := (hW2.2.2 0 (by omega)).2
          omega
    have hw1 : n_rmM = 0 := hW2.1.symm.trans hw0
    exact ⟨⟨rfl, hD, hO, Or.inl ⟨⟨z1, z2, z3, z4⟩, ⟨z5, z6, z7⟩, ⟨y1, y2, y3⟩, ⟨y4, y5, y6⟩, ⟨x1, x2, x3, x4⟩, hw0, hw1⟩⟩, rfl⟩
  · obtain ⟨n, hn⟩ := Int.eq_ofNat_of_zero_le hs.1
    obtain ⟨r9, a9, b9, c9, d9, f9, q9, M9, e1, e2, hW2, hc9⟩ := se_t (nW := nW) (n := n) (g := g) (s := s) (sw := sw) (ss := ss) (rws := rws) (cmp := cmp) (refu := refu) (sM := sM) (rmM := rmM) (gM := gM) (refM := refM) (many := many) (mrw := mrw) (by omega) hg eg hn (es.trans hn) hM.1 hR hW
    rw [hx] at e1
    rw [hm] at e2
    simp only [Prod.mk.injEq] at e1 e2
    obtain ⟨c0, c1, c2, c3, c4, c5⟩ := e1
    obtain ⟨m0, m1, m2, m3⟩ := e2
    subst c0 c1 c2 c3 c4 c5 m0 m1 m2 m3
    have hWa2 : waH oC oR nW cy ls kO cA clmK pcK d tr n_rws n_sw n_ss n_cmp fnd frl fgr chs chl sec := by
      rcases hc9 with ⟨q1, q2, q3, q4⟩ | q
      · rw [q1, q2, q3, q4]
        exact hWa
      · rw [q]
        exact wa_0
    exact ⟨⟨rfl, hD, hO, Or.inr ⟨oC, oR, oL, nW, nK, rfl, rfl, hP, hM, hL, haw, hB, hN, hH, hS, hi, hW2, hA, hCh, hWa2⟩⟩, rfl⟩
theorem t7_on {s cy kx d ru gr hct tkn akn cmp r n_d n_ru n_gr n_hct n_tkn n_akn n_cmp sM isc und r2 n_und ls aw wx hnx sd sru sgr sA ar pr cr we ha ad aru agr rws occ dwn fnd frl fgr chs chl awM nwst rmM moc sdd : Int} {g tr refu n_tr n_refu gM refM many bar now n_now n_refM clmK pcK kO cA comers code spans rD rR rG str cars gaps known left leaves atr atd ats sw ss oct tab sec kinds walkers cf ce codes kept mrw mo : Nat → Int} {rF : Nat → Nat → Int} (h : T7 cy ls aw kx wx d ru gr hnx hct sd sru sgr sA ar pr cr we ha ad aru agr akn rws occ dwn tkn cmp fnd frl fgr chs chl isc awM und nwst rmM moc sdd clmK pcK kO cA comers code spans tr rD rR rG str cars gaps known left leaves atr atd ats sw ss oct refu tab sec many bar kinds walkers cf ce codes now kept mrw mo refM rF) (hg : ∀ k, k < 1600 → 0 ≤ g k ∧ g k ≤ 255) (eg : gM = g) (es : sM = s) (hx : F_X9_on g s cy kx d ru gr tr hct tkn akn cmp refu = (r, n_d, n_ru, n_gr, n_tr, n_hct, n_tkn, n_akn, n_cmp, n_refu)) (hm : F_X10_on sM isc und gM refM many bar now = (r2, n_und, n_now, n_refM)) : T7 cy ls aw kx wx n_d n_ru n_gr hnx n_hct sd sru sgr sA ar pr cr we ha ad aru agr n_akn rws occ dwn n_tkn n_cmp fnd frl fgr chs chl isc awM n_und nwst rmM moc sdd clmK pcK kO cA comers code spans n_tr rD rR rG str cars gaps known left leaves atr atd ats sw ss oct n_refu tab sec many bar kinds walkers cf ce codes n_now kept mrw mo n_refM rF ∧ r = r2 := by
  obtain ⟨hR, hD, hO, hC⟩ := h
  rcases hC with h0 | ⟨oC, oR, oL, nW, nK, rfl, rfl, hP, hM, hL, haw, hB, hN, hH, hS, hi, hW, hA, hCh, hWa⟩
  · have h0' := h0
    obtain ⟨⟨z1, z2, z3, z4⟩, ⟨z5, z6, z7⟩, ⟨y1, y2, y3⟩, ⟨y4, y5, y6⟩, ⟨x1, x2, x3, x4⟩, w1, w2⟩ := h0
    have cX : F_X9_isImage g cy kx s = 0 := by
      unfold F_X9_isImage F_X9_isImage_20
      rw [st_0x z1, lf_b_e, if_pos rfl]
    have cM : F_X10_isImage isc gM many bar sM = 0 := by
      unfold F_X10_isImage F_X10_isImage_86
      rw [if_pos z4]
    unfold F_X9_on F_X9_takeTape F_X9_deny at hx
    rw [lf_b_e, lf_b_e, cX, if_pos rfl, lf_p_e] at hx
    unfold F_X10_on at hm
    rw [lf_b_e, cM, if_pos rfl] at hm
    simp only [Prod.mk.injEq] at hx hm
    obtain ⟨c0, c1, c2, c3, c4, c5, c6, c7, c8, c9⟩ := hx
    obtain ⟨m0, m1, m2, m3⟩ := hm
    subst c0 c1 c2 c3 c4 c5 c6 c7 c8 c9 m0 m1 m2 m3
    subst hR
    exact ⟨⟨rfl, hD, hO, Or.inl h0'⟩, rfl⟩
  · obtain ⟨r9, d9, a9, g9, t9, c9, k9, p9, q9, f9, u9, N9, e1, e2, aB, aN, aH, aC⟩ := on_t (nK := nK) (g := g) (gM := gM) (s := s) (sM := sM) (tkn := tkn) (akn := akn) (cmp := cmp) (refu := refu) (refM := refM) (cy := cy) hP.2.1 hM.2.2.1 hP.2.2.1.1 hi hM.2.1 hg eg es hB hN hH hR
    rw [hx] at e1
    rw [hm] at e2
    simp only [Prod.mk.injEq] at e1 e2
    obtain ⟨c0, c1, c2, c3, c4, c5, c6, c7, c8, c9⟩ := e1
    obtain ⟨m0, m1, m2, m3⟩ := e2
    subst c0 c1 c2 c3 c4 c5 c6 c7 c8 c9 m0 m1 m2 m3
    have hA2 : ahH oC oR oL nW nK cy ls kO cA clmK pcK n_d n_ru n_gr n_tr n_akn ad aru agr atr atd ats ∧ chH oC oR nW cy ls kO cA clmK pcK n_d n_tr n_tkn tab ∧ waH oC oR nW cy ls kO cA clmK pcK n_d n_tr rws sw ss n_cmp fnd frl fgr chs chl sec := by
      rcases aC with ⟨q1, q2, q3, q4, q5, q6, q7⟩ | ⟨q1, q2, q3⟩
      · rw [q1, q2, q3, q4, q5, q6, q7]
        exact ⟨hA, hCh, hWa⟩
      · rw [q1, q2, q3]
        exact ⟨ah_0, ch_0, wa_0⟩
    exact ⟨⟨rfl, hD, hO, Or.inr ⟨oC, oR, oL, nW, nK, rfl, rfl, hP, hM, hL, haw, aB, aN, aH, hS, hi, hW, hA2⟩⟩, rfl⟩
theorem dy_x00 {cy ls kx wx d ru gr hnx hct sd sru sgr sA ar pr cr we ha tkn akn cmp p0 : Int} {clmK pcK kO cA comers code spans tr rD rR rG facts stack str cars gaps known left leaves refu : Nat → Int} {rF : Nat → Nat → Int} (h : ¬ ((10 ≤ cy ∨ 0 < cy) ∧ (1 ≤ p0 ∧ p0 ≤ 30) ∧ lf_o lf_iadd d p0 ≤ 999)) : F_X9_days cy ls kx clmK pcK wx kO cA comers code spans d ru gr tr rD rR rG rF hnx hct facts stack sd str sru sgr sA ar cars gaps known left leaves pr cr we ha tkn akn cmp refu p0 = ((-1 : Int), d, hnx, hct, tr, tkn, akn, cmp, rfN refu 3, sd, sru, sgr, sA, pr, cr, we, ha, facts, stack, cars, gaps, str, known, left, leaves, rD, rR, rG, rF) := by
  unfold F_X9_days
  rw [cl_x, if_neg h, lf_b_e, if_pos rfl]
  rfl
theorem ch_x00 {cy ls aw kx wx d ru gr hnx hct sd sru sgr sA ar pr cr we ha tkn akn cmp dwn p0 : Int} {clmK pcK kO cA comers code spans tr rD rR rG facts stack str cars gaps known left leaves refu : Nat → Int} {rF : Nat → Nat → Int} (h : ¬ ((10 ≤ cy ∨ 0 < cy) ∧ (1 ≤ p0 ∧ p0 ≤ 30) ∧ lf_o lf_iadd d p0 ≤ 999)) : F_X9_chance cy ls aw kx clmK pcK wx kO cA comers code spans d ru gr tr rD rR rG rF hnx hct facts stack sd str sru sgr sA ar cars gaps known left leaves pr cr we ha tkn akn cmp refu dwn p0 = ((-1 : Int), dwn, d, hnx, hct, tr, tkn, akn, cmp, rfN refu 3, sd, sru, sgr, sA, pr, cr, we, ha, facts, stack, cars, gaps, str, known, left, leaves, rD, rR, rG, rF) := by
  unfold F_X9_chance
  rw [cl_x, if_neg h, lf_b_e, if_pos rfl]
  rfl
theorem t7_days {cy ls kx wx d ru gr hnx hct sd sru sgr sA ar pr cr we ha tkn akn cmp p0 r n_d n_hnx n_hct n_tkn n_akn n_cmp n_sd n_sru n_sgr n_sA n_pr n_cr n_we n_ha isc tk ask red io lg gt icg sg und nwst qp r2 n_tk n_ask n_red n_io n_lg n_gt n_icg n_sg n_und n_nwst n_qp aw ad aru agr rws occ dwn fnd frl fgr chs chl awM rmM moc sdd : Int} {clmK pcK kO cA comers code spans tr rD rR rG facts stack str cars gaps known left leaves refu n_tr n_refu n_facts n_stack n_cars n_gaps n_str n_known n_left n_leaves n_rD n_rR n_rG refM many bar kinds walkers cf ce codes now isCar gapM isG isH crM wtM goM hmM prM ciM kept pile n_now n_kept n_refM n_pile n_wtM n_gapM n_goM n_hmM n_isCar n_isH n_crM n_prM n_ciM n_isG atr atd ats sw ss oct tab sec mrw mo : Nat → Int} {rF n_rF : Nat → Nat → Int} (h : T7 cy ls aw kx wx d ru gr hnx hct sd sru sgr sA ar pr cr we ha ad aru agr akn rws occ dwn tkn cmp fnd frl fgr chs chl isc awM und nwst rmM moc sdd clmK pcK kO cA comers code spans tr rD rR rG str cars gaps known left leaves atr atd ats sw ss oct refu tab sec many bar kinds walkers cf ce codes now kept mrw mo refM rF) (hx : F_X9_days cy ls kx clmK pcK wx kO cA comers code spans d ru gr tr rD rR rG rF hnx hct facts stack sd str sru sgr sA ar cars gaps known left leaves pr cr we ha tkn akn cmp refu p0 = (r, n_d, n_hnx, n_hct, n_tr, n_tkn, n_akn, n_cmp, n_refu, n_sd, n_sru, n_sgr, n_sA, n_pr, n_cr, n_we, n_ha, n_facts, n_stack, n_cars, n_gaps, n_str, n_known, n_left, n_leaves, n_rD, n_rR, n_rG, n_rF)) (hm : F_X10_days isc tk ask red io lg gt icg sg und nwst qp refM many bar kinds walkers cf ce codes now isCar gapM isG isH crM wtM goM hmM prM ciM kept pile p0 = (r2, n_tk, n_ask, n_red, n_io, n_lg, n_gt, n_icg, n_sg, n_und, n_nwst, n_qp, n_now, n_kept, n_refM, n_pile, n_wtM, n_gapM, n_goM, n_hmM, n_isCar, n_isH, n_crM, n_prM, n_ciM, n_isG)) : T7 cy ls aw kx wx n_d ru gr n_hnx n_hct n_sd n_sru n_sgr n_sA ar n_pr n_cr n_we n_ha ad aru agr n_akn rws occ dwn n_tkn n_cmp fnd frl fgr chs chl isc awM n_und n_nwst rmM moc sdd clmK pcK kO cA comers code spans n_tr n_rD n_rR n_rG n_str n_cars n_gaps n_known n_left n_leaves atr atd ats sw ss oct n_refu tab sec many bar kinds walkers cf ce codes n_now n_kept mrw mo n_refM n_rF ∧ r = r2 := by
  obtain ⟨hR, hD, hO, hC⟩ := h
  rcases hC with h0 | ⟨oC, oR, oL, nW, nK, rfl, rfl, hP, hM, hL, haw, hB, hN, hH, hS, hi, hW, hA, hCh, hWa⟩
  · have h0' := h0
    obtain ⟨⟨z1, z2, z3, z4⟩, ⟨z5, z6, z7⟩, ⟨y1, y2, y3⟩, ⟨y4, y5, y6⟩, ⟨x1, x2, x3, x4⟩, w1, w2⟩ := h0
    have c := dy_x00 (cy := cy) (ls := ls) (kx := kx) (clmK := clmK) (pcK := pcK) (wx := wx) (kO := kO) (cA := cA) (comers := comers) (code := code) (spans := spans) (d := d) (ru := ru) (gr := gr) (tr := tr) (rD := rD) (rR := rR) (rG := rG) (rF := rF) (hnx := hnx) (hct := hct) (facts := facts) (stack := stack) (sd := sd) (str := str) (sru := sru) (sgr := sgr) (sA := sA) (ar := ar) (cars := cars) (gaps := gaps) (known := known) (left := left) (leaves := leaves) (pr := pr) (cr := cr) (we := we) (ha := ha) (tkn := tkn) (akn := akn) (cmp := cmp) (refu := refu) (p0 := p0) (fun q => by omega)
    obtain ⟨Q, eQ, m1, m2, m3, m4, m5, m6⟩ := dy_m0 (isc := isc) (tk := tk) (ask := ask) (red := red) (io := io) (lg := lg) (gt := gt) (icg := icg) (sg := sg) (und := und) (nwst := nwst) (qp := qp) (refM := refM) (many := many) (bar := bar) (kinds := kinds) (walkers := walkers) (cf := cf) (ce := ce) (codes := codes) (now := now) (isCar := isCar) (gapM := gapM) (isG := isG) (isH := isH) (crM := crM) (wtM := wtM) (goM := goM) (hmM := hmM) (prM := prM) (ciM := ciM) (kept := kept) (pile := pile) (p0 := p0) (d := d) (y4.trans y1.symm) (fun q => q.1 z4)
    rw [hx] at c
    rw [hm] at eQ
    subst eQ
    simp only [Prod.mk.injEq] at c
    obtain ⟨c0, c1, c2, c3, c4, c5, c6, c7, c8, c9, c10, c11, c12, c13, c14, c15, c16, c17, c18, c19, c20, c21, c22, c23, c24, c25, c26, c27, c28⟩ := c
    subst c0 c1 c2 c3 c4 c5 c6 c7 c8 c9 c10 c11 c12 c13 c14 c15 c16 c17 c18 c19 c20 c21 c22 c23 c24 c25 c26 c27 c28
    have v1 : r2 = -1 := m1
    have v2 : n_und = und := m2
    have v3 : n_nwst = nwst := m3
    have v4 : n_now = now := m4
    have v6 : n_refM = rfN refM 3 := m6
    subst v1 v2 v3 v4 v6
    subst hR
    exact ⟨⟨rfl, hD, hO, Or.inl h0'⟩, rfl⟩
  · obtain ⟨O, Q, e1, e2, i1, i2, cS, aB, aN, aH, aC⟩ := dy_t (facts := facts) (stack := stack) (tkn := tkn) (akn := akn) (cmp := cmp) (p0 := p0) (tk := tk) (ask := ask) (red := red) (io := io) (lg := lg) (gt := gt) (icg := icg) (sg := sg) (qp := qp) (isCar := isCar) (gapM := gapM) (isG := isG) (isH := isH) (crM := crM) (wtM := wtM) (goM := goM) (hmM := hmM) (prM := prM) (ciM := ciM) (pile := pile) hP hM hL hS hB hN hH hi hR
    rw [hx] at e1
    rw [hm] at e2
    subst e1 e2
    have hA2 : ahH oC oR oL nW nK cy ls kO cA clmK pcK n_d ru gr n_tr n_akn ad aru agr atr atd ats ∧ chH oC oR nW cy ls kO cA clmK pcK n_d n_tr n_tkn tab ∧ waH oC oR nW cy ls kO cA clmK pcK n_d n_tr rws sw ss n_cmp fnd frl fgr chs chl sec := by
      rcases aC with ⟨q1, q2, q3, q4, q5, q6, q7⟩ | ⟨q1, q2, q3⟩
      · have v1 : n_d = d := q1
        have v2 : n_tr = tr := q4
        have v3 : n_akn = akn := q6
        have v4 : n_tkn = tkn := q5
        have v5 : n_cmp = cmp := q7
        rw [v1, v2, v3, v4, v5]
        exact ⟨hA, hCh, hWa⟩
      · have v3 : n_akn = 0 := q2
        have v4 : n_tkn = 0 := q1
        have v5 : n_cmp = 0 := q3
        rw [v3, v4, v5]
        exact ⟨ah_0, ch_0, wa_0⟩
    exact ⟨⟨i2, hD, hO, Or.inr ⟨oC, oR, oL, nW, nK, rfl, rfl, hP, hM, hL, haw, aB, aN, aH, cS, hi, hW, hA2⟩⟩, i1⟩
theorem t7_chance {cy ls aw kx wx d ru gr hnx hct sd sru sgr sA ar pr cr we ha tkn akn cmp dwn p0 r n_dwn n_d n_hnx n_hct n_tkn n_akn n_cmp n_sd n_sru n_sgr n_sA n_pr n_cr n_we n_ha awM isc tk ask red io lg gt icg sg und nwst sdd qp r2 n_tk n_ask n_red n_io n_lg n_gt n_icg n_sg n_und n_nwst n_sdd n_qp ad aru agr rws occ fnd frl fgr chs chl rmM moc : Int} {clmK pcK kO cA comers code spans tr rD rR rG facts stack str cars gaps known left leaves refu n_tr n_refu n_facts n_stack n_cars n_gaps n_str n_known n_left n_leaves n_rD n_rR n_rG refM many bar kinds walkers cf ce codes now isCar gapM isG isH crM wtM goM hmM prM ciM kept pile n_now n_kept n_refM n_pile n_wtM n_gapM n_goM n_hmM n_isCar n_isH n_crM n_prM n_ciM n_isG atr atd ats sw ss oct tab sec mrw mo : Nat → Int} {rF n_rF : Nat → Nat → Int} (h : T7 cy ls aw kx wx d ru gr hnx hct sd sru sgr sA ar pr cr we ha ad aru agr akn rws occ dwn tkn cmp fnd frl fgr chs chl isc awM und nwst rmM moc sdd clmK pcK kO cA comers code spans tr rD rR rG str cars gaps known left leaves atr atd ats sw ss oct refu tab sec many bar kinds walkers cf ce codes now kept mrw mo refM rF) (hx : F_X9_chance cy ls aw kx clmK pcK wx kO cA comers code spans d ru gr tr rD rR rG rF hnx hct facts stack sd str sru sgr sA ar cars gaps known left leaves pr cr we ha tkn akn cmp refu dwn p0 = (r, n_dwn, n_d, n_hnx, n_hct, n_tr, n_tkn, n_akn, n_cmp, n_refu, n_sd, n_sru, n_sgr, n_sA, n_pr, n_cr, n_we, n_ha, n_facts, n_stack, n_cars, n_gaps, n_str, n_known, n_left, n_leaves, n_rD, n_rR, n_rG, n_rF)) (hm : F_X10_chance awM isc tk ask red io lg gt icg sg und nwst sdd qp refM many bar kinds walkers cf ce codes now isCar gapM isG isH crM wtM goM hmM prM ciM kept pile p0 = (r2, n_tk, n_ask, n_red, n_io, n_lg, n_gt, n_icg, n_sg, n_und, n_nwst, n_sdd, n_qp, n_now, n_kept, n_refM, n_pile, n_wtM, n_gapM, n_goM, n_hmM, n_isCar, n_isH, n_crM, n_prM, n_ciM, n_isG)) : T7 cy ls aw kx wx n_d ru gr n_hnx n_hct n_sd n_sru n_sgr n_sA ar n_pr n_cr n_we n_ha ad aru agr n_akn rws occ n_dwn n_tkn n_cmp fnd frl fgr chs chl isc awM n_und n_nwst rmM moc n_sdd clmK pcK kO cA comers code spans n_tr n_rD n_rR n_rG n_str n_cars n_gaps n_known n_left n_leaves atr atd ats sw ss oct n_refu tab sec many bar kinds walkers cf ce codes n_now n_kept mrw mo n_refM n_rF ∧ r = r2 := by
  obtain ⟨hR, hD, hO, hC⟩ := h
  rcases hC with h0 | ⟨oC, oR, oL, nW, nK, rfl, rfl, hP, hM, hL, haw, hB, hN, hH, hS, hi, hW, hA, hCh, hWa⟩
  · have h0' := h0
    obtain ⟨⟨z1, z2, z3, z4⟩, ⟨z5, z6, z7⟩, ⟨y1, y2, y3⟩, ⟨y4, y5, y6⟩, ⟨x1, x2, x3, x4⟩, w1, w2⟩ := h0
    have c := ch_x00 (cy := cy) (ls := ls) (aw := aw) (kx := kx) (clmK := clmK) (pcK := pcK) (wx := wx) (kO := kO) (cA := cA) (comers := comers) (code := code) (spans := spans) (d := d) (ru := ru) (gr := gr) (tr := tr) (rD := rD) (rR := rR) (rG := rG) (rF := rF) (hnx := hnx) (hct := hct) (facts := facts) (stack := stack) (sd := sd) (str := str) (sru := sru) (sgr := sgr) (sA := sA) (ar := ar) (cars := cars) (gaps := gaps) (known := known) (left := left) (leaves := leaves) (pr := pr) (cr := cr) (we := we) (ha := ha) (tkn := tkn) (akn := akn) (cmp := cmp) (refu := refu) (dwn := dwn) (p0 := p0) (fun q => by omega)
    obtain ⟨Q, eQ, m1, m2, m3, m3b, m4, m5, m6⟩ := ch_m0 (awM := awM) (isc := isc) (tk := tk) (ask := ask) (red := red) (io := io) (lg := lg) (gt := gt) (icg := icg) (sg := sg) (und := und) (nwst := nwst) (sdd := sdd) (qp := qp) (refM := refM) (many := many) (bar := bar) (kinds := kinds) (walkers := walkers) (cf := cf) (ce := ce) (codes := codes) (now := now) (isCar := isCar) (gapM := gapM) (isG := isG) (isH := isH) (crM := crM) (wtM := wtM) (goM := goM) (hmM := hmM) (prM := prM) (ciM := ciM) (kept := kept) (pile := pile) (p0 := p0) (d := d) (y4.trans y1.symm) (fun q => q.1 z4)
    rw [hx] at c
    rw [hm] at eQ
    subst eQ
    simp only [Prod.mk.injEq] at c
    obtain ⟨c0, c1, c2, c3, c4, c5, c6, c7, c8, c9, c10, c11, c12, c13, c14, c15, c16, c17, c18, c19, c20, c21, c22, c23, c24, c25, c26, c27, c28, c29⟩ := c
    subst c0 c1 c2 c3 c4 c5 c6 c7 c8 c9 c10 c11 c12 c13 c14 c15 c16 c17 c18 c19 c20 c21 c22 c23 c24 c25 c26 c27 c28 c29
    have v1 : r2 = -1 := m1
    have v2 : n_und = und := m2
    have v3 : n_nwst = nwst := m3
    have v4 : n_now = now := m4
    have v6 : n_refM = rfN refM 3 := m6
    have v7 : n_sdd = sdd := m3b
    subst v7
    subst v1 v2 v3 v4 v6
    subst hR
    exact ⟨⟨rfl, hD, hO, Or.inl h0'⟩, rfl⟩
  · obtain ⟨s0, d0, d1, d2⟩ := hD
    obtain ⟨O, Q, e1, e2, i1, i2, ⟨s1, s2, s3, s4⟩, cS, aB, aN, aH, aC⟩ := ch_t (facts := facts) (stack := stack) (tkn := tkn) (akn := akn) (cmp := cmp) (p0 := p0) (tk := tk) (ask := ask) (red := red) (io := io) (lg := lg) (gt := gt) (icg := icg) (sg := sg) (qp := qp) (isCar := isCar) (gapM := gapM) (isG := isG) (isH := isH) (crM := crM) (wtM := wtM) (goM := goM) (hmM := hmM) (prM := prM) (ciM := ciM) (pile := pile) hP hM hL hS hB hN hH hi hR d0 d1 d2 haw
    rw [hx] at e1
    rw [hm] at e2
    subst e1 e2
    have hA2 : ahH oC oR oL nW nK cy ls kO cA clmK pcK n_d ru gr n_tr n_akn ad aru agr atr atd ats ∧ chH oC oR nW cy ls kO cA clmK pcK n_d n_tr n_tkn tab ∧ waH oC oR nW cy ls kO cA clmK pcK n_d n_tr rws sw ss n_cmp fnd frl fgr chs chl sec := by
      rcases aC with ⟨q1, q2, q3, q4, q5, q6, q7⟩ | ⟨q1, q2, q3⟩
      · have v1 : n_d = d := q1
        have v2 : n_tr = tr := q4
        have v3 : n_akn = akn := q6
        have v4 : n_tkn = tkn := q5
        have v5 : n_cmp = cmp := q7
        rw [v1, v2, v3, v4, v5]
        exact ⟨hA, hCh, hWa⟩
      · have v3 : n_akn = 0 := q2
        have v4 : n_tkn = 0 := q1
        have v5 : n_cmp = 0 := q3
        rw [v3, v4, v5]
        exact ⟨ah_0, ch_0, wa_0⟩
    exact ⟨⟨i2, ⟨s1, s2, s3, s4⟩, hO, Or.inr ⟨oC, oR, oL, nW, nK, rfl, rfl, hP, hM, hL, haw, aB, aN, aH, cS, hi, hW, hA2⟩⟩, i1⟩
theorem as_c {nW nK : Nat} {oC oR : Option (List Int)} {s cy ls x_this_spare_cycle x_this_spare_away x_this_spare_statements x_this_spare_kinds x_this_spare_walkers x_this_spare_size d ru gr x_this_reader_length x_this_reader_at x_this_reader_behind x_this_reader_sort x_this_reader_allowed fa pl sd sru sgr sA ar pr cr we ha : Int} {g clmK pcK kO cA comers code spans g_this_spare_comers g_this_spare_code g_this_spare_spans tr facts stack str cars gaps known left leaves : Nat → Int} {a_this_spare a_this_reader_plan : Nat} (hP : plH nW nK cy ls oC oR kO cA clmK pcK comers code spans ar) (hS : sfH oC oR nW nK cy ls kO cA clmK pcK sd str sru sgr sA cars gaps known left leaves pr cr we ha) (hB : stB nK d ru gr tr) : ∃ O, O = F_X9_ask g s cy ls (nK : Int) clmK pcK (nW : Int) kO cA comers code spans a_this_spare x_this_spare_cycle x_this_spare_away x_this_spare_statements x_this_spare_kinds x_this_spare_walkers g_this_spare_comers g_this_spare_code x_this_spare_size g_this_spare_spans d ru gr tr facts stack a_this_reader_plan x_this_reader_length x_this_reader_at x_this_reader_behind x_this_reader_sort x_this_reader_allowed fa pl sd str sru sgr sA ar cars gaps known left leaves pr cr we ha ∧ sfH oC oR nW nK cy ls kO cA clmK pcK O.2.2.2.2.2.2.2.2.2.2.2.2.2.2.2.2.2.2.1 O.2.2.2.2.2.2.2.2.2.2.2.2.2.2.2.2.2.2.2.2.2.2.2.2.2.2.2.2.2.2.1 O.2.2.2.2.2.2.2.2.2.2.2.2.2.2.2.2.2.2.2.1 O.2.2.2.2.2.2.2.2.2.2.2.2.2.2.2.2.2.2.2.2.1 O.2.2.2.2.2.2.2.2.2.2.2.2.2.2.2.2.2.2.2.2.2.1 O.2.2.2.2.2.2.2.2.2.2.2.2.2.2.2.2.2.2.2.2.2.2.2.2.2.2.2.2.1 O.2.2.2.2.2.2.2.2.2.2.2.2.2.2.2.2.2.2.2.2.2.2.2.2.2.2.2.2.2.1 O.2.2.2.2.2.2.2.2.2.2.2.2.2.2.2.2.2.2.2.2.2.2.2.2.2.2.2.2.2.2.2.1 O.2.2.2.2.2.2.2.2.2.2.2.2.2.2.2.2.2.2.2.2.2.2.2.2.2.2.2.2.2.2.2.2.1 O.2.2.2.2.2.2.2.2.2.2.2.2.2.2.2.2.2.2.2.2.2.2.2.2.2.2.2.2.2.2.2.2.2 O.2.2.2.2.2.2.2.2.2.2.2.2.2.2.2.2.2.2.2.2.2.2.1 O.2.2.2.2.2.2.2.2.2.2.2.2.2.2.2.2.2.2.2.2.2.2.2.1 O.2.2.2.2.2.2.2.2.2.2.2.2.2.2.2.2.2.2.2.2.2.2.2.2.1 O.2.2.2.2.2.2.2.2.2.2.2.2.2.2.2.2.2.2.2.2.2.2.2.2.2.1 := by
  obtain ⟨pr2, cr2, we2, ha2, f2, s2, c2, g2, t2, k2, l2, v2, e, h1, h2, h3⟩ := lt_x (facts := facts) (stack := stack) hP hS hB
  unfold F_X9_ask F_X9_takeTape
  rw [lf_b_e, st_1x hP.2.2.1.1, lf_b_e, if_neg (show ¬ (1 : Int) = 0 from by decide)]
  generalize F_X5_readQuestion g g_this_spare_comers g_this_spare_code g_this_spare_spans s = R
  obtain ⟨r0, r1, r2, r3, r4, r5, r6, r7, r8, r9, r10⟩ := R
  rw [lf_p_e, lf_p_e, lf_p_e, lf_p_e, lf_p_e, lf_p_e, lf_p_e, lf_p_e, lf_p_e, lf_p_e]
  by_cases q : r5 = 0
  · rw [if_pos q, e, lf_p_e, lf_p_e, lf_p_e, lf_p_e, lf_p_e, lf_p_e, lf_p_e, lf_p_e, lf_p_e, lf_p_e, lf_p_e, lf_p_e, lf_p_e, lf_p_e, lf_p_e]
    exact ⟨_, rfl, h1⟩
  · rw [if_neg q]
    exact ⟨_, rfl, hS⟩
theorem t7_ask {s cy ls kx wx x_this_spare_cycle x_this_spare_away x_this_spare_statements x_this_spare_kinds x_this_spare_walkers x_this_spare_size d ru gr x_this_reader_length x_this_reader_at x_this_reader_behind x_this_reader_sort x_this_reader_allowed fa pl sd sru sgr sA ar pr cr we ha r n_x_this_reader_length n_x_this_reader_at n_x_this_reader_behind n_x_this_reader_sort n_x_this_reader_allowed n_fa n_pl n_x_this_spare_cycle n_x_this_spare_away n_x_this_spare_statements n_x_this_spare_kinds n_x_this_spare_walkers n_x_this_spare_size n_sd n_sru n_sgr n_sA n_pr n_cr n_we n_ha sM x_at x_end x_ended x_bad x_badPlace mf mp0 isc tk ask red io lg gt icg sg x_qCoded x_qWaits x_qOpened x_qBase qp x_qAnswer x_qIsNew r2 n_x_at n_x_end n_x_ended n_x_bad n_x_badPlace n_mf n_mp0 n_tk n_ask n_red n_io n_lg n_gt n_icg n_sg n_x_qCoded n_x_qWaits n_x_qOpened n_x_qBase n_qp n_x_qAnswer n_x_qIsNew aw hnx hct ad aru agr akn rws occ dwn tkn cmp fnd frl fgr chs chl awM und nwst rmM moc sdd : Int} {g clmK pcK kO cA comers code spans g_this_spare_comers g_this_spare_code g_this_spare_spans tr facts stack str cars gaps known left leaves n_g_this_spare_comers n_g_this_spare_spans n_g_this_spare_code n_facts n_stack n_cars n_gaps n_str n_known n_left n_leaves gM many bar kinds walkers cf ce codes now isCar gapM isG isH crM wtM goM hmM prM ciM g_firstAsked g_lastAsked g_oftenAsked g_totalAsked g_mostAsked g_leastAsked g_notAsked g_andAsked g_orAsked g_allAsked g_minAsked g_maxAsked g_secondAsked g_dayAsked g_phaseAsked g_waitedAsked g_calmAsked g_paceAsked g_trustsAsked g_gapAsked g_redsAsked g_numberAsked g_wentAsked g_harmAsked g_kindofAsked g_qCodes g_qWait pile n_g_qWait n_g_qCodes n_pile n_wtM n_gapM n_goM n_hmM n_isCar n_isH n_crM n_prM n_ciM n_isG rD rR rG atr atd ats sw ss oct refu tab sec kept mrw mo refM : Nat → Int} {rF : Nat → Nat → Int} {a_this_spare a_this_reader_plan z_n5 : Nat} (h : T7 cy ls aw kx wx d ru gr hnx hct sd sru sgr sA ar pr cr we ha ad aru agr akn rws occ dwn tkn cmp fnd frl fgr chs chl isc awM und nwst rmM moc sdd clmK pcK kO cA comers code spans tr rD rR rG str cars gaps known left leaves atr atd ats sw ss oct refu tab sec many bar kinds walkers cf ce codes now kept mrw mo refM rF) (hx : F_X9_ask g s cy ls kx clmK pcK wx kO cA comers code spans a_this_spare x_this_spare_cycle x_this_spare_away x_this_spare_statements x_this_spare_kinds x_this_spare_walkers g_this_spare_comers g_this_spare_code x_this_spare_size g_this_spare_spans d ru gr tr facts stack a_this_reader_plan x_this_reader_length x_this_reader_at x_this_reader_behind x_this_reader_sort x_this_reader_allowed fa pl sd str sru sgr sA ar cars gaps known left leaves pr cr we ha = (r, n_x_this_reader_length, n_x_this_reader_at, n_x_this_reader_behind, n_x_this_reader_sort, n_x_this_reader_allowed, z_n5, n_fa, n_pl, n_x_this_spare_cycle, n_x_this_spare_away, n_x_this_spare_statements, n_x_this_spare_kinds, n_x_this_spare_walkers, n_x_this_spare_size, n_g_this_spare_comers, n_g_this_spare_spans, n_g_this_spare_code, n_sd, n_sru, n_sgr, n_sA, n_pr, n_cr, n_we, n_ha, n_facts, n_stack, n_cars, n_gaps, n_str, n_known, n_left, n_leaves)) (hm : F_X10_ask sM x_at x_end x_ended x_bad x_badPlace mf mp0 isc tk ask red io lg gt icg sg x_qCoded x_qWaits x_qOpened x_qBase qp x_qAnswer x_qIsNew gM many bar kinds walkers cf ce codes now isCar gapM isG isH crM wtM goM hmM prM ciM g_firstAsked g_lastAsked g_oftenAsked g_totalAsked g_mostAsked g_leastAsked g_notAsked g_andAsked g_orAsked g_allAsked g_minAsked g_maxAsked g_secondAsked g_dayAsked g_phaseAsked g_waitedAsked g_calmAsked g_paceAsked g_trustsAsked g_gapAsked g_redsAsked g_numberAsked g_wentAsked g_harmAsked g_kindofAsked g_qCodes g_qWait pile = (r2, n_x_at, n_x_end, n_x_ended, n_x_bad, n_x_badPlace, n_mf, n_mp0, n_tk, n_ask, n_red, n_io, n_lg, n_gt, n_icg, n_sg, n_x_qCoded, n_x_qWaits, n_x_qOpened, n_x_qBase, n_qp, n_x_qAnswer, n_x_qIsNew, n_g_qWait, n_g_qCodes, n_pile, n_wtM, n_gapM, n_goM, n_hmM, n_isCar, n_isH, n_crM, n_prM, n_ciM, n_isG)) : T7 cy ls aw kx wx d ru gr hnx hct n_sd n_sru n_sgr n_sA ar n_pr n_cr n_we n_ha ad aru agr akn rws occ dwn tkn cmp fnd frl fgr chs chl isc awM und nwst rmM moc sdd clmK pcK kO cA comers code spans tr rD rR rG n_str n_cars n_gaps n_known n_left n_leaves atr atd ats sw ss oct refu tab sec many bar kinds walkers cf ce codes now kept mrw mo refM rF := by
  obtain ⟨hR, hD, hO, hC⟩ := h
  rcases hC with h0 | ⟨oC, oR, oL, nW, nK, rfl, rfl, hP, hM, hL, haw, hB, hN, hH, hS, hi, hW, hA, hCh, hWa⟩
  · exact ⟨hR, hD, hO, Or.inl h0⟩
  · obtain ⟨O, eO, cS⟩ := as_c (g := g) (s := s) (a_this_spare := a_this_spare) (x_this_spare_cycle := x_this_spare_cycle) (x_this_spare_away := x_this_spare_away) (x_this_spare_statements := x_this_spare_statements) (x_this_spare_kinds := x_this_spare_kinds) (x_this_spare_walkers := x_this_spare_walkers) (g_this_spare_comers := g_this_spare_comers) (g_this_spare_code := g_this_spare_code) (x_this_spare_size := x_this_spare_size) (g_this_spare_spans := g_this_spare_spans) (facts := facts) (stack := stack) (a_this_reader_plan := a_this_reader_plan) (x_this_reader_length := x_this_reader_length) (x_this_reader_at := x_this_reader_at) (x_this_reader_behind := x_this_reader_behind) (x_this_reader_sort := x_this_reader_sort) (x_this_reader_allowed := x_this_reader_allowed) (fa := fa) (pl := pl) hP hS hB
    rw [hx] at eO
    subst eO
    exact ⟨hR, hD, hO, Or.inr ⟨oC, oR, oL, nW, nK, rfl, rfl, hP, hM, hL, haw, hB, hN, hH, cS, hi, hW, hA, hCh, hWa⟩⟩
theorem sp_num_b {g : Nat → Int} {n p : Nat} {lo hi : Int} (h : lo ≤ hi) : lo ≤ (sp_num g n lo hi p).1 ∧ (sp_num g n lo hi p).1 ≤ hi := by
  refine ⟨sp_num_lo, ?_⟩
  unfold sp_num
  by_cases k : tx_k g n p = 2
  · rw [if_pos k]
    by_cases k2 : tx_e g n p - tx_a g n p ≤ 4
    · rw [if_pos k2]
      by_cases k3 : dval g (tx_e g n p - tx_a g n p) (tx_a g n p) 0 < lo ∨ hi < dval g (tx_e g n p - tx_a g n p) (tx_a g n p) 0
      · rw [if_pos k3]
        exact h
      · rw [if_neg k3]
        show dval g (tx_e g n p - tx_a g n p) (tx_a g n p) 0 ≤ hi
        omega
    · rw [if_neg k2]
      exact h
  · rw [if_neg k]
    exact h
theorem spn7_b {g : Nat → Int} {n p : Nat} {ws : List (List Int)} {lo hi : Int} (h : lo ≤ hi) : lo ≤ (sp_nb g n ws lo hi p).1 ∧ (sp_nb g n ws lo hi p).1 ≤ hi := by
  unfold sp_nb
  cases sp_w g n ws p with
  | inl q => exact ⟨Int.le_refl _, h⟩
  | inr p2 => exact sp_num_b h
theorem sbv_b {lo hi : Int} {s : ST} {k : Nat → Int × ST} {z : Int} (h : lo ≤ z ∧ z ≤ hi) (hk : ∀ p, lo ≤ (k p).1 ∧ (k p).1 ≤ hi) : lo ≤ (sbv s k z).1 ∧ (sbv s k z).1 ≤ hi := by
  cases s with
  | inl q => exact h
  | inr p => exact hk p
theorem sp_first {g : Nat → Int} {n : Nat} {s : ST} : (10 ≤ (sp_1a g n s).1 ∧ (sp_1a g n s).1 ≤ 120) ∧ (1 ≤ (sp_1b g n s).1 ∧ (sp_1b g n s).1 ≤ 60) ∧ (0 ≤ (sp_1c g n s).1 ∧ (sp_1c g n s).1 ≤ 2) ∧ (0 ≤ (sp_1d g n s).1 ∧ (sp_1d g n s).1 ≤ 99) := by
  have ha : 10 ≤ (sp_1a g n s).1 ∧ (sp_1a g n s).1 ≤ 120 := sbv_b (by decide) (fun p => spn7_b (by decide))
  have hb : 1 ≤ (sp_1b g n s).1 ∧ (sp_1b g n s).1 ≤ min 60 ((sp_1a g n s).1 - 1) := sbv_b (by omega) (fun p => spn7_b (by omega))
  exact ⟨ha, by omega, sbv_b (by decide) (fun p => spn7_b (by decide)), sbv_b (by decide) (fun p => spn7_b (by decide))⟩
/-- what a crossing leaves in the class -/
def crX7 (g : Nat → Int) (n : Nat) (R : Sum (Int × Int) (Nat × PL)) (pr : PR) (cy ls aw kx wx d ru gr hct sd ar akn rws tkn cmp : Int) (clmK pcK kO cA comers code spans tr refu : Nat → Int) (n_cy n_ls n_aw n_kx n_wx n_d n_ru n_gr n_hct n_sd n_ar n_akn n_rws n_tkn n_cmp : Int) (n_clmK n_pcK n_kO n_cA n_comers n_code n_spans n_tr n_refu : Nat → Int) : Prop := match R with
  | .inl _ => n_refu = rfN refu 1 ∧ n_cy = cy ∧ n_ls = ls ∧ n_aw = aw ∧ n_kx = kx ∧ n_wx = wx ∧ n_d = d ∧ n_ru = ru ∧ n_gr = gr ∧ n_hct = hct ∧ n_sd = sd ∧ n_ar = ar ∧ n_rws = rws ∧ n_tkn = tkn ∧ n_cmp = cmp ∧ n_clmK = clmK ∧ n_pcK = pcK ∧ n_kO = kO ∧ n_cA = cA ∧ n_comers = comers ∧ n_code = code ∧ n_spans = spans ∧ n_tr = tr ∧ n_akn = akn
  | .inr x => n_refu = refu ∧ n_kx = (x.2.1.length : Int) ∧ n_wx = (x.2.2.1.length : Int) ∧ n_cy = (sp_1a g n (.inr 0)).1 ∧ n_ls = (sp_1d g n (.inr 0)).1 ∧ prI pr x.2.1.length x.2.2.1.length ∧ (∃ (pt : Nat → Int) (sz : Int), prX pr n_comers n_spans n_clmK n_pcK pt n_kO n_cA n_code sz n_aw ∧ sz ≤ 1600 ∧ ∀ k, k < 6 → n_tr k = pt k) ∧ n_d = 0 ∧ n_ru = (sp_1c g n (.inr 0)).1 ∧ n_gr = (sp_1b g n (.inr 0)).1 ∧ (n_ar = 0 → no48 pr.2.2.2.1) ∧ n_sd = -1 ∧ n_hct = 0 ∧ n_rws = 0 ∧ n_akn = 0 ∧ n_tkn = 0 ∧ n_cmp = 0
/-- and in the model -/
def crM7 (g : Nat → Int) (n : Nat) (R : Sum (Int × Int) (Nat × PL)) (pr : PR) (isc awM und rmM : Int) (many bar kinds walkers cf ce codes now refM : Nat → Int) (n_isc n_awM n_und n_rmM : Int) (n_many n_bar n_kinds n_walkers n_cf n_ce n_codes n_now n_refM : Nat → Int) : Prop := match R with
  | .inl _ => (∀ j, 2 ≤ j → n_many j = many j) ∧ (n_bar 4 = bar 4 ∧ n_bar 7 = bar 7) ∧ n_isc = isc ∧ frM kinds walkers cf ce codes n_kinds n_walkers n_cf n_ce n_codes ∧ n_now = now ∧ n_awM = awM ∧ n_rmM = rmM ∧ n_und = und ∧ n_refM = rfN refM 1
  | .inr x => n_many 2 = (x.2.1.length : Int) ∧ n_many 3 = (x.2.2.1.length : Int) ∧ n_bar 4 = (sp_1a g n (.inr 0)).1 ∧ n_bar 7 = (sp_1d g n (.inr 0)).1 ∧ n_isc = 1 ∧ stQr pr x.2.1.length x.2.2.1.length n_kinds n_walkers n_cf n_ce n_codes n_now ∧ n_awM = pr.2.2.2.2.2 ∧ n_rmM = 0 ∧ n_und = 0 ∧ n_now 0 = 0 ∧ n_now 1 = (sp_1c g n (.inr 0)).1 ∧ n_now 2 = (sp_1b g n (.inr 0)).1 ∧ n_refM = refM
theorem cdM_fr {cf ce codes n_cf n_ce n_codes : Nat → Int} {k : Nat} {o : Option (List Int)} (hk : 3 ≤ k) (h : cdM cf ce codes k o) (e1 : ∀ j, 3 ≤ j → n_cf j = cf j) (e2 : ∀ j, 3 ≤ j → n_ce j = ce j) (e3 : ∀ j, 1600 ≤ j → n_codes j = codes j) : cdM n_cf n_ce n_codes k o := by
  cases o with
  | none =>
    have h' : cf k = -1 := h
    exact (e1 k hk).trans h'
  | some L =>
    obtain ⟨i, a1, a2, a3, a4⟩ := h
    refine ⟨i, (e1 k hk).trans a1, (e2 k hk).trans a2, a3, fun j hj => ?_⟩
    rw [e3 _ (by omega)]
    exact a4 j hj
theorem pmH_fr {nW nK : Nat} {cy ls : Int} {oC oR oL : Option (List Int)} {kO cA clmK pcK many bar kinds walkers cf ce codes n_many n_bar n_kinds n_walkers n_cf n_ce n_codes : Nat → Int} (h : pmH nW nK cy ls oC oR oL kO cA clmK pcK many bar kinds walkers cf ce codes) (e1 : ∀ j, 2 ≤ j → n_many j = many j) (e2 : n_bar 4 = bar 4 ∧ n_bar 7 = bar 7) (e3 : frM kinds walkers cf ce codes n_kinds n_walkers n_cf n_ce n_codes) : pmH nW nK cy ls oC oR oL kO cA clmK pcK n_many n_bar n_kinds n_walkers n_cf n_ce n_codes := by
  obtain ⟨p1, p2, p3, p4, p5, p6, p7, p8, p9⟩ := h
  obtain ⟨f1, f2, f3, f4, f5⟩ := e3
  refine ⟨(e1 3 (by decide)).trans p1, (e1 2 (by decide)).trans p2, e2.1.trans p3, e2.2.trans p4, fun w hw => ?_, fun k hk => ?_, cdM_fr (by decide) p7 f3 f4 f5, cdM_fr (by decide) p8 f3 f4 f5, cdM_fr (by decide) p9 f3 f4 f5⟩
  · rw [f2 _ (by omega), f2 _ (by omega)]
    exact p5 w hw
  · rw [f1 _ (by omega), f1 _ (by omega)]
    exact p6 k hk
theorem t7_crossing {g : Nat → Int} {n : Nat} {R : Sum (Int × Int) (Nat × PL)} {prc : PR} {cy ls aw kx wx d ru gr hnx hct sd sru sgr sA ar pr cr we ha ad aru agr akn rws occ dwn tkn cmp fnd frl fgr chs chl isc awM und nwst rmM moc sdd n_cy n_ls n_aw n_kx n_wx n_d n_ru n_gr n_hct n_sd n_ar n_akn n_rws n_tkn n_cmp n_isc n_awM n_und n_rmM : Int} {clmK pcK kO cA comers code spans tr rD rR rG str cars gaps known left leaves atr atd ats sw ss oct refu tab sec many bar kinds walkers cf ce codes now kept mrw mo refM n_clmK n_pcK n_kO n_cA n_comers n_code n_spans n_tr n_refu n_many n_bar n_kinds n_walkers n_cf n_ce n_codes n_now n_refM : Nat → Int} {rF : Nat → Nat → Int} (h : T7 cy ls aw kx wx d ru gr hnx hct sd sru sgr sA ar pr cr we ha ad aru agr akn rws occ dwn tkn cmp fnd frl fgr chs chl isc awM und nwst rmM moc sdd clmK pcK kO cA comers code spans tr rD rR rG str cars gaps known left leaves atr atd ats sw ss oct refu tab sec many bar kinds walkers cf ce codes now kept mrw mo refM rF) (hx : crX7 g n R prc cy ls aw kx wx d ru gr hct sd ar akn rws tkn cmp clmK pcK kO cA comers code spans tr refu n_cy n_ls n_aw n_kx n_wx n_d n_ru n_gr n_hct n_sd n_ar n_akn n_rws n_tkn n_cmp n_clmK n_pcK n_kO n_cA n_comers n_code n_spans n_tr n_refu) (hm : crM7 g n R prc isc awM und rmM many bar kinds walkers cf ce codes now refM n_isc n_awM n_und n_rmM n_many n_bar n_kinds n_walkers n_cf n_ce n_codes n_now n_refM) : T7 n_cy n_ls n_aw n_kx n_wx n_d n_ru n_gr hnx n_hct n_sd sru sgr sA n_ar pr cr we ha ad aru agr n_akn n_rws occ dwn n_tkn n_cmp fnd frl fgr chs chl n_isc n_awM n_und nwst n_rmM moc sdd n_clmK n_pcK n_kO n_cA n_comers n_code n_spans n_tr rD rR rG str cars gaps known left leaves atr atd ats sw ss oct n_refu tab sec n_many n_bar n_kinds n_walkers n_cf n_ce n_codes n_now kept mrw mo n_refM rF := by
  obtain ⟨hR, hD, hO, hC⟩ := h
  cases R with
  | inl q =>
    obtain ⟨x0, x_cy, x_ls, x_aw, x_kx, x_wx, x_d, x_ru, x_gr, x_hct, x_sd, x_ar, x_rws, x_tkn, x_cmp, x_clmK, x_pcK, x_kO, x_cA, x_comers, x_code, x_spans, x_tr, x_akn⟩ := hx
    obtain ⟨m1, m2, m3, m4, m5, m6, m7, m8, m9⟩ := hm
    subst x_cy x_ls x_aw x_kx x_wx x_d x_ru x_gr x_hct x_sd x_ar x_rws x_tkn x_cmp x_clmK x_pcK x_kO x_cA x_comers x_code x_spans x_tr x_akn x0 m3 m5 m6 m7 m8 m9 hR
    refine ⟨rfl, hD, hO, ?_⟩
    rcases hC with h0 | ⟨oC, oR, oL, nW, nK, k1, k2, hP, hM, hL, haw, hB, hN, hH, hS, hi, hW, hA, hCh, hWa⟩
    · obtain ⟨z1, ⟨z5, z6, z7⟩, z8⟩ := h0
      exact Or.inl ⟨z1, ⟨(m1 2 (Nat.le_refl 2)).trans z5, (m1 3 (by decide)).trans z6, m2.1.trans z7⟩, z8⟩
    · exact Or.inr ⟨oC, oR, oL, nW, nK, k1, k2, hP, pmH_fr hM m1 m2 m4, hL, haw, hB, hN, hH, hS, hi, hW, hA, hCh, hWa⟩
  | inr x =>
    obtain ⟨x1, x2, x3, x4, x5, x6, ⟨pt, sz, x7, x8, x9⟩, x10, x11, x12, x13, x14, x15, x16, x17, x18, x19⟩ := hx
    obtain ⟨m1, m2, m3, m4, m5, m6, m7, m8, m9, m10, m11, m12, m13⟩ := hm
    obtain ⟨b1, b2', b3, b4⟩ := sp_first (g := g) (n := n) (s := .inr 0)
    obtain ⟨t1, t2, t3, t4⟩ := pl_tie (cy := n_cy) (ls := n_ls) (ar := n_ar) x6 x7 x8 m6 x13 (by rw [x4]; exact b1) m2 m1 (m3.trans x4.symm) (m4.trans x5.symm)
    have hh : (0 ≤ hnx ∧ hnx ≤ 19) ∧ (0 ≤ nwst ∧ nwst ≤ 19) := by
      rcases hC with h0 | ⟨oC, oR, oL, nW, nK, k1, k2, hP, hM, hL, haw, hB, hN, hH, hS, hi, hW, hA, hCh, hWa⟩
      · exact h0.2.2.2.2.1.2.2
      · exact ⟨hH.1.1, hH.1.2.1⟩
    have hK6 := t1.2.1
    refine ⟨by rw [x1, m13]; exact hR, hD, hO, Or.inr ⟨prc.2.2.1, prc.2.2.2.1, prc.2.2.2.2.1, x.2.2.1.length, x.2.1.length, x2, x3, t1, t2, t3, ?_, ⟨by rw [x10]; decide, by rw [x11]; exact b3, by rw [x12]; exact b2', fun k hk => ?_⟩, ⟨m10.trans x10.symm, m11.trans x11.symm, m12.trans x12.symm, fun k hk => ?_⟩, ⟨⟨hh.1, hh.2, by rw [x15, m9], by rw [x15]; decide⟩, fun i hi => absurd hi (by omega)⟩, Or.inl x14, m5, ⟨by rw [x16, m8], by rw [x16]; decide, fun k hk => absurd hk (by omega)⟩, ?_, ?_, ?_⟩⟩
    · rw [m7]
      exact (x7.2.2.2.2.1).symm
    · rw [x9 k (by omega)]
      exact (t4 k hk).2
    · rw [x9 k (by omega)]
      exact t4 k hk
    · rw [x17]
      exact ah_0
    · rw [x18]
      exact ch_0
    · rw [x19]
      exact wa_0
theorem x7_no {g : Nat → Int} {n : Nat} {R : Sum (Int × Int) (Nat × PL)} {pr : PR} {O : Int × Nat × Nat × Int × Int × Int × Int × Int × Int × Int × Int × Int × Int × Int × Int × Int × Int × Int × Int × (Nat → Int) × (Nat → Int) × (Nat → Int) × (Nat → Int) × (Nat → Int) × (Nat → Int) × (Nat → Int) × (Nat → Int) × (Nat → Int) × Int × Int × Int × (Nat → Int) × Int × Int × Int × Nat × Int × Int × Int × Int × (Nat → Int)} {cy ls aw kx wx d ru gr hct sd ar akn rws tkn cmp : Int} {clmK pcK kO cA comers code spans tr refu : Nat → Int} (hX : tellX g n O R) (hY : tellY O d ru gr tr hct sd ar tkn akn rws cmp R pr) (hZ : tlZf refu O R) (e : O.1 = -1) : crX7 g n R pr cy ls aw kx wx d ru gr hct sd ar akn rws tkn cmp clmK pcK kO cA comers code spans tr refu cy ls aw kx wx O.2.2.2.2.2.2.2.2.2.2.2.2.2.2.2.2.2.2.2.2.2.2.2.2.2.2.2.2.1 O.2.2.2.2.2.2.2.2.2.2.2.2.2.2.2.2.2.2.2.2.2.2.2.2.2.2.2.2.2.1 O.2.2.2.2.2.2.2.2.2.2.2.2.2.2.2.2.2.2.2.2.2.2.2.2.2.2.2.2.2.2.1 O.2.2.2.2.2.2.2.2.2.2.2.2.2.2.2.2.2.2.2.2.2.2.2.2.2.2.2.2.2.2.2.2.1 O.2.2.2.2.2.2.2.2.2.2.2.2.2.2.2.2.2.2.2.2.2.2.2.2.2.2.2.2.2.2.2.2.2.2.2.2.1 O.2.2.2.2.2.2.2.2.2.2.2.2.2.2.2.2.2.2.2.2.2.2.2.2.2.2.2.2.2.2.2.2.2.2.2.2.2.1 O.2.2.2.2.2.2.2.2.2.2.2.2.2.2.2.2.2.2.2.2.2.2.2.2.2.2.2.2.2.2.2.2.2.2.2.2.2.2.2.1 O.2.2.2.2.2.2.2.2.2.2.2.2.2.2.2.2.2.2.2.2.2.2.2.2.2.2.2.2.2.2.2.2.2.1 O.2.2.2.2.2.2.2.2.2.2.2.2.2.2.2.2.2.2.2.2.2.2.2.2.2.2.2.2.2.2.2.2.2.2.2.2.2.2.1 O.2.2.2.2.2.2.2.2.2.2.2.2.2.2.2.2.2.2.2.2.2.2.2.2.2.2.2.2.2.2.2.2.2.2.1 clmK pcK kO cA comers code spans O.2.2.2.2.2.2.2.2.2.2.2.2.2.2.2.2.2.2.2.2.2.2.2.2.2.2.2.2.2.2.2.1 O.2.2.2.2.2.2.2.2.2.2.2.2.2.2.2.2.2.2.2.2.2.2.2.2.2.2.2.2.2.2.2.2.2.2.2.2.2.2.2.2 := by
  cases R with
  | inr x =>
    exfalso
    have h1 : O.1 = (x.1 : Int) := hX.1
    omega
  | inl q =>
    obtain ⟨y1, y2, y3, y4, y5, y6, y7, y8, y9, y10, y11⟩ := hY
    exact ⟨hZ, rfl, rfl, rfl, rfl, rfl, y1, y2, y3, y5, y8, y9, y6, y10, y7, rfl, rfl, rfl, rfl, rfl, rfl, rfl, y4, y11⟩
theorem x7_yes {g : Nat → Int} {n : Nat} {R : Sum (Int × Int) (Nat × PL)} {pr : PR} {O : Int × Nat × Nat × Int × Int × Int × Int × Int × Int × Int × Int × Int × Int × Int × Int × Int × Int × Int × Int × (Nat → Int) × (Nat → Int) × (Nat → Int) × (Nat → Int) × (Nat → Int) × (Nat → Int) × (Nat → Int) × (Nat → Int) × (Nat → Int) × Int × Int × Int × (Nat → Int) × Int × Int × Int × Nat × Int × Int × Int × Int × (Nat → Int)} {cy ls aw kx wx d ru gr hct sd ar akn rws tkn cmp : Int} {clmK pcK kO cA comers code spans tr refu : Nat → Int} (hX : tellX g n O R) (hY : tellY O d ru gr tr hct sd ar tkn akn rws cmp R pr) (hZ : tlZf refu O R) (e : ¬ O.1 = -1) : crX7 g n R pr cy ls aw kx wx d ru gr hct sd ar akn rws tkn cmp clmK pcK kO cA comers code spans tr refu O.2.2.2.2.2.2.2.2.2.2.1 O.2.2.2.2.2.2.2.2.2.2.2.2.2.1 O.2.2.2.2.2.2.2.2.2.2.2.2.2.2.1 O.2.2.2.2.2.2.2.2.2.2.2.2.2.2.2.2.1 O.2.2.2.2.2.2.2.2.2.2.2.2.2.2.2.2.2.1 O.2.2.2.2.2.2.2.2.2.2.2.2.2.2.2.2.2.2.2.2.2.2.2.2.2.2.2.2.1 O.2.2.2.2.2.2.2.2.2.2.2.2.2.2.2.2.2.2.2.2.2.2.2.2.2.2.2.2.2.1 O.2.2.2.2.2.2.2.2.2.2.2.2.2.2.2.2.2.2.2.2.2.2.2.2.2.2.2.2.2.2.1 O.2.2.2.2.2.2.2.2.2.2.2.2.2.2.2.2.2.2.2.2.2.2.2.2.2.2.2.2.2.2.2.2.1 O.2.2.2.2.2.2.2.2.2.2.2.2.2.2.2.2.2.2.2.2.2.2.2.2.2.2.2.2.2.2.2.2.2.2.2.2.1 O.2.2.2.2.2.2.2.2.2.2.2.2.2.2.2.2.2.2.2.2.2.2.2.2.2.2.2.2.2.2.2.2.2.2.2.2.2.1 O.2.2.2.2.2.2.2.2.2.2.2.2.2.2.2.2.2.2.2.2.2.2.2.2.2.2.2.2.2.2.2.2.2.2.2.2.2.2.2.1 O.2.2.2.2.2.2.2.2.2.2.2.2.2.2.2.2.2.2.2.2.2.2.2.2.2.2.2.2.2.2.2.2.2.1 O.2.2.2.2.2.2.2.2.2.2.2.2.2.2.2.2.2.2.2.2.2.2.2.2.2.2.2.2.2.2.2.2.2.2.2.2.2.2.1 O.2.2.2.2.2.2.2.2.2.2.2.2.2.2.2.2.2.2.2.2.2.2.2.2.2.2.2.2.2.2.2.2.2.2.1 O.2.2.2.2.2.2.2.2.2.2.2.2.2.2.2.2.2.2.2.2.2.2.1 O.2.2.2.2.2.2.2.2.2.2.2.2.2.2.2.2.2.2.2.2.2.2.2.1 O.2.2.2.2.2.2.2.2.2.2.2.2.2.2.2.2.2.2.2.2.2.2.2.2.2.1 O.2.2.2.2.2.2.2.2.2.2.2.2.2.2.2.2.2.2.2.2.2.2.2.2.2.2.1 O.2.2.2.2.2.2.2.2.2.2.2.2.2.2.2.2.2.2.2.1 O.2.2.2.2.2.2.2.2.2.2.2.2.2.2.2.2.2.2.2.2.2.2.2.2.2.2.2.1 O.2.2.2.2.2.2.2.2.2.2.2.2.2.2.2.2.2.2.2.2.1 O.2.2.2.2.2.2.2.2.2.2.2.2.2.2.2.2.2.2.2.2.2.2.2.2.2.2.2.2.2.2.2.1 O.2.2.2.2.2.2.2.2.2.2.2.2.2.2.2.2.2.2.2.2.2.2.2.2.2.2.2.2.2.2.2.2.2.2.2.2.2.2.2.2 := by
  cases R with
  | inl q => exact absurd hX.1 e
  | inr x =>
    obtain ⟨a1, a2, a3, a4, a5, a6, a7, a8, a9, a10⟩ := hX
    obtain ⟨y1, y2, y3, y4, y5, y6, y7, y8, y9, y10, y11, y12, y13, y14⟩ := hY
    exact ⟨hZ, a8, a9, a4, a7, y1, ⟨_, _, y2, y3, y7⟩, y4, y5.trans a6, y6.trans a5, y8, y9, y10, y11, y14, y13, y12⟩
theorem m7_of {g : Nat → Int} {n : Nat} {R : Sum (Int × Int) (Nat × PL)} {pr : PR} {O : Int × Int × Int × Int × Int × Int × Int × Int × Int × Int × Int × Int × Int × Int × Int × Int × Int × Int × Int × Int × (Nat → Int) × (Nat → Int) × (Nat → Int) × (Nat → Int) × (Nat → Int) × (Nat → Int) × (Nat → Int) × (Nat → Int) × (Nat → Int) × (Nat → Int) × (Nat → Int) × (Nat → Int) × (Nat → Int)} {isc awM und rmM : Int} {many bar kinds walkers cf ce codes now refM N bar1 bar2 : Nat → Int} (h1 : ∀ j, 4 ≤ j → bar1 j = bar j) (h2 : ∀ x, R = .inr x → bar1 0 = (sp_1a g n (.inr 0)).1 ∧ bar1 1 = (sp_1b g n (.inr 0)).1 ∧ bar1 2 = (sp_1c g n (.inr 0)).1 ∧ bar1 3 = (sp_1d g n (.inr 0)).1) (hN : tellN many N bar1 isc O R) (h4 : ∀ x, R = .inr x → bar2 0 = (sp_1a g n (.inr 0)).1 ∧ bar2 1 = (sp_1b g n (.inr 0)).1 ∧ bar2 2 = (sp_1c g n (.inr 0)).1 ∧ bar2 3 = (sp_1d g n (.inr 0)).1) (hQ : tellQ kinds walkers cf ce codes now bar2 awM rmM und O R pr) (hZ : tlRf refM O R) : crM7 g n R pr isc awM und rmM many bar kinds walkers cf ce codes now refM O.2.2.2.2.2.2.2.2.2.2.2.2.1 O.2.2.2.2.2.2.2.2.2.1 O.2.2.2.2.2.2.2.2.2.2.2.2.2.2.2.1 O.2.2.2.2.2.2.2.2.2.2.2.2.2.2.1 O.2.2.2.2.2.2.2.2.2.2.2.2.2.2.2.2.2.2.2.2.1 O.2.2.2.2.2.2.2.2.2.2.2.2.2.2.2.2.2.2.2.2.2.2.1 O.2.2.2.2.2.2.2.2.2.2.2.2.2.2.2.2.2.2.2.2.2.2.2.2.2.2.1 O.2.2.2.2.2.2.2.2.2.2.2.2.2.2.2.2.2.2.2.2.2.2.2.2.2.1 O.2.2.2.2.2.2.2.2.2.2.2.2.2.2.2.2.2.2.2.2.2.1 O.2.2.2.2.2.2.2.2.2.2.2.2.2.2.2.2.2.2.2.2.2.2.2.2.2.2.2.1 O.2.2.2.2.2.2.2.2.2.2.2.2.2.2.2.2.2.2.2.2.2.2.2.2.2.2.2.2.2.1 O.2.2.2.2.2.2.2.2.2.2.2.2.2.2.2.2.2.2.2.2.2.2.2.2.2.2.2.2.1 O.2.2.2.2.2.2.2.2.2.2.2.2.2.2.2.2.2.2.2.2.2.2.2.1 := by
  cases R with
  | inl q =>
    obtain ⟨a1, a2, a3, a4, a5, a6, a7⟩ := hN
    obtain ⟨q1, q2, q3, q4, q5⟩ := hQ
    refine ⟨a4, ?_, a7, q1, q2, q3, q4, q5, hZ⟩
    rw [a6]
    exact ⟨h1 4 (Nat.le_refl 4), h1 7 (by decide)⟩
  | inr x =>
    obtain ⟨a1, a2, a3, a4, a5, a6, a7, a8, a9, a10, a11⟩ := hN
    obtain ⟨q1, q2, q3, q4, q5, q6, q7⟩ := hQ
    obtain ⟨b1, b2', b3, b4⟩ := h2 x rfl
    obtain ⟨c1, c2, c3, c4⟩ := h4 x rfl
    refine ⟨a4, a5, ?_, ?_, a9, q1, q2, q3, q4, q5, q6.trans c3, q7.trans c2, hZ⟩
    · rw [a8]
      exact b1
    · rw [a8]
      exact b4
