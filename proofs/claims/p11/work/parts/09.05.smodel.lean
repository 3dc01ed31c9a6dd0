set_option maxHeartbeats 4000000 in
set_option maxRecDepth 100000 in
theorem s_X10_takesSign_a0_59 (l : Launch) (dC : Nat → ClassId) (dI : Nat → Nat → Nat) (cy : Nat → ClassId) (sq : Nat → Nat) (a_this : Nat) (rm : Nat → Nat) (x_taped : Int32) (x_at : Int32) (x_end : Int32) (x_ended : Int32) (x_bad : Int32) (x_badPlace : Int32) (x_fault : Int32) (x_faultPlace : Int32) (x_namePlace : Int32) (x_awayTold : Int32) (x_away : Int32) (x_coded : Int32) (x_statements : Int32) (x_isCrossing : Int32) (x_textKind : Int32) (x_askSecond : Int32) (x_redMany : Int32) (x_isOpen : Int32) (x_lastGreen : Int32) (x_greenTo : Int32) (x_isCycleGreen : Int32) (x_stillGreen : Int32) (x_rowMany : Int32) (x_fitMany : Int32) (x_fitRules : Int32) (x_fitGreen : Int32) (x_undoable : Int32) (x_newest : Int32) (x_seeded : Int64) (x_qCoded : Int32) (x_qWaits : Int32) (x_qOpened : Int32) (x_qBase : Int32) (x_qPiled : Int32) (x_qAnswer : Int64) (x_qIsNew : Int32) (x_octets : Int32) (g_tape : Nat → Int32) (hx_at : ib x_at 0 1600) (hx_end : ib x_end 0 1600) (hg_tape : ia g_tape 1600 0 255) : k_Met l yX10_takesSign cX10_takesSign 2 (some .boolean) { frames := 1, cells := 0, slots := 0, locals := 20 } dC dI cy sq [.ref a_this, .int 59] [(a_this, .inr (10, mfs rm x_taped x_at x_end x_ended x_bad x_badPlace x_fault x_faultPlace x_namePlace x_awayTold x_away x_coded x_statements x_isCrossing x_textKind x_askSecond x_redMany x_isOpen x_lastGreen x_greenTo x_isCycleGreen x_stillGreen x_rowMany x_fitMany x_fitRules x_fitGreen x_undoable x_newest x_seeded x_qCoded x_qWaits x_qOpened x_qBase x_qPiled x_qAnswer x_qIsNew x_octets)), (wi_rm0_0_1600_0 rm cy g_tape)] (k_Qi dC dI (fun (r : Int32) (n0 : Int32) => ib n0 0 1600 ∧ ib r 0 1 ∧ (¬ r = 0 → ib n0 1 1600) ∧ (¬ r = 0 → ib x_at 0 1599) ∧ (¬ r = 0 → ib x_end 1 1600) ∧ (¬ r = 0 → ib x_bad 0 0) ∧ (1 * x_at.toInt + (-1) * n0.toInt ≤ 0) ∧ (¬ r = 0 → 1 * x_at.toInt + (-1) * n0.toInt ≤ (-1)) ∧ (F_X10_takesSign_a0_59 (Int32.toInt x_at) (Int32.toInt x_end) (Int32.toInt x_bad) (lf_A g_tape) = ((Int32.toInt r), (Int32.toInt n0)))) (fun n0 : Int32 => [(a_this, .inr (10, mfs rm x_taped n0 x_end x_ended x_bad x_badPlace x_fault x_faultPlace x_namePlace x_awayTold x_away x_coded x_statements x_isCrossing x_textKind x_askSecond x_redMany x_isOpen x_lastGreen x_greenTo x_isCycleGreen x_stillGreen x_rowMany x_fitMany x_fitRules x_fitGreen x_undoable x_newest x_seeded x_qCoded x_qWaits x_qOpened x_qBase x_qPiled x_qAnswer x_qIsNew x_octets)), (wi_rm0_0_1600_0 rm cy g_tape)])) := by
  refine k_ofW2 (by decide +kernel) (Nat.le_of_ble_eq_true rfl) ?_
  intro p e s m below meth c A ls H locs args Q hQ C0 hZ hr hlk hin hP hD hA hS hl
  have C0 : k_cx p s m args c cX10_takesSign 2 RX10 dC dI cy sq := C0
  have hx := C0.1
  have hb := C0.2.1
  have hl : lv_has ls 2 [(0, .ref a_this), (1, .int 59)] := hl
  obtain ⟨O, hO⟩ : ∃ o, o = F_X10_takesSign_a0_59 (Int32.toInt x_at) (Int32.toInt x_end) (Int32.toInt x_bad) (lf_A g_tape) := ⟨_, rfl⟩
  have hq := hO
  unfold F_X10_takesSign_a0_59 at hq
  refine lv_aload_n hx hb dX10_takesSign_0 rfl (lv_at hl 0 rfl) ?_
  refine k_get C0 fg_X10_279 hP 0 rfl rfl dX10_takesSign_1 ?_
  refine lv_if_ne (tgt := 15) hx hb dX10_takesSign_4 rfl (fun c1 => ?_) (fun c1 => ?_)
  · replace hq := lf_neg hq (lf_ne (lf_rf x_bad) (lf_lc 0 (0 : Int) rfl) c1)
    refine lv_iconst (v := 0) hx hb dX10_takesSign_15 rfl ?_
    subst hQ; exact k_iret hx hb hr hlk (k_nb 0 rfl) x_at hS ⟨ib_w 0 1600 hx_at rfl, ib_w 0 1 (ib_c 0 0 0 rfl) rfl, fun hq9 => absurd rfl hq9, fun hq9 => absurd rfl hq9, fun hq9 => absurd rfl hq9, fun hq9 => absurd rfl hq9, (by omega), fun hq9 => absurd rfl hq9, (hO.symm.trans (by try simp only [show (0 : Int32).toInt = (0 : Int) from rfl]; exact hq))⟩ hP hD (Nat.le_of_ble_eq_true rfl) (Nat.le_of_ble_eq_true rfl) dX10_takesSign_16
  · replace hq := lf_pos hq (lf_eq (lf_rf x_bad) (lf_lc 0 (0 : Int) rfl) c1)
    have h2 := ib_eq (ib_any x_bad) (ib_c 0 0 0 rfl) c1
    have h3 : ib x_bad 0 0 := ib_w 0 0 h2.1 rfl
    refine lv_aload_n hx hb dX10_takesSign_7 rfl (lv_at hl 0 rfl) ?_
    refine k_jim hP hD hS hA [0, 1] [] rfl rfl rfl 0 0 (Nat.le_of_ble_eq_true rfl) (Nat.le_of_ble_eq_true rfl) (fun hPc hDc => k_runV (As := []) (rest := []) C0 hZ hS hA (s_X10_look l dC dI cy sq a_this rm x_taped x_at x_end x_ended x_bad x_badPlace x_fault x_faultPlace x_namePlace x_awayTold x_away x_coded x_statements x_isCrossing x_textKind x_askSecond x_redMany x_isOpen x_lastGreen x_greenTo x_isCycleGreen x_stillGreen x_rowMany x_fitMany x_fitRules x_fitGreen x_undoable x_newest x_seeded x_qCoded x_qWaits x_qOpened x_qBase x_qPiled x_qAnswer x_qIsNew x_octets g_tape (ib_w 0 1600 hx_at rfl) (ib_w 0 1600 hx_end rfl) hg_tape) mV_X10_291 hPc hDc rfl rfl rfl hl rfl rfl (Nat.le_of_ble_eq_true rfl) ⟨(Nat.le_of_ble_eq_true rfl), (Nat.le_of_ble_eq_true rfl)⟩ ⟨(Nat.le_of_ble_eq_true rfl), (Nat.le_of_ble_eq_true rfl)⟩ dX10_takesSign_8) (fun r4 u5 H locs hw hP hD hS => ?_)
    obtain ⟨v6, ev6⟩ : ∃ z, z = u5 := ⟨_, rfl⟩; subst ev6
    try dsimp only at hP hD hw
    replace hP : va_P (dC, dI) vwCl [(a_this, .inr (10, mfs rm x_taped v6 x_end x_ended x_bad x_badPlace x_fault x_faultPlace x_namePlace x_awayTold x_away x_coded x_statements x_isCrossing x_textKind x_askSecond x_redMany x_isOpen x_lastGreen x_greenTo x_isCycleGreen x_stillGreen x_rowMany x_fitMany x_fitRules x_fitGreen x_undoable x_newest x_seeded x_qCoded x_qWaits x_qOpened x_qBase x_qPiled x_qAnswer x_qIsNew x_octets)), (wi_rm0_0_1600_0 rm cy g_tape)] H := hP
    replace hD := k_D hP hD
    obtain ⟨h7, h8, h9, h10, h11, h12, h13, h14, h15, h16⟩ := hw
    replace hq := lf_p1 hq h16
    refine lv_iload_n hx hb dX10_takesSign_11 rfl (lv_at hl 1 rfl) ?_
    refine lv_icmp_eq (tgt := 17) hx hb dX10_takesSign_12 rfl (fun c17 => ?_) (fun c17 => ?_)
    · replace hq := lf_pos hq (lf_eq (lf_rf r4) (lf_lc 59 (59 : Int) rfl) c17)
      have h18 := ib_eq h8 (ib_c 59 59 59 rfl) c17
      have h19 : ib r4 59 59 := ib_w 59 59 h18.1 rfl
      have h20 : ib v6 0 1599 := ib_w 0 1599 (ib_two h7 (h9 (ib_nc (-1) h19 rfl))) rfl
      have h21 : ib x_at 0 1599 := ib_w 0 1599 (ib_two hx_at (h10 (ib_nc (-1) h19 rfl))) rfl
      have h22 : ib x_end 1 1600 := ib_w 1 1600 (ib_two hx_end (h11 (ib_nc (-1) h19 rfl))) rfl
      refine lv_aload_n hx hb dX10_takesSign_17 rfl (lv_at hl 0 rfl) ?_
      refine lv_dup hx hb dX10_takesSign_18 rfl ?_
      refine k_get C0 fg_X10_285 hP 0 rfl rfl dX10_takesSign_19 ?_
      refine lv_iconst (v := 1) hx hb dX10_takesSign_22 rfl ?_
      refine lv_iadd hx hb dX10_takesSign_23 ?_
      refine lv_topi (fun z23 ez23 => ?_)
      have h24 := ib_add h20 (ib_c 1 1 1 rfl) rfl
      rw [← ez23] at h24
      have h25 : ib z23 1 1600 := ib_w 1 1600 h24.1 rfl
      have Ez23 := lf_add h24.2 (lf_rf v6) (lf_lc 1 (1 : Int) rfl)
      refine k_put C0 fp_X10_285 hP hD hS 0 rfl rfl rfl (Nat.le_of_ble_eq_true rfl) dX10_takesSign_24 (fun H locs hP hD hS => ?_)
      replace hP : va_P (dC, dI) vwCl [(a_this, .inr (10, mfs rm x_taped z23 x_end x_ended x_bad x_badPlace x_fault x_faultPlace x_namePlace x_awayTold x_away x_coded x_statements x_isCrossing x_textKind x_askSecond x_redMany x_isOpen x_lastGreen x_greenTo x_isCycleGreen x_stillGreen x_rowMany x_fitMany x_fitRules x_fitGreen x_undoable x_newest x_seeded x_qCoded x_qWaits x_qOpened x_qBase x_qPiled x_qAnswer x_qIsNew x_octets)), (wi_rm0_0_1600_0 rm cy g_tape)] H := hP
      replace hD := k_D hP hD
      refine lv_iconst (v := 1) hx hb dX10_takesSign_27 rfl ?_
      subst hQ; exact k_iret hx hb hr hlk (k_nb 1 rfl) z23 hS ⟨ib_w 0 1600 h25 rfl, ib_w 0 1 (ib_c 1 1 1 rfl) rfl, fun _ => ib_w 1 1600 h25 rfl, fun _ => ib_w 0 1599 h21 rfl, fun _ => ib_w 1 1600 h22 rfl, fun _ => ib_w 0 0 h3 rfl, (by have := h24.2; have : (1 : Int32).toInt = 1 := rfl; have := h12; omega), fun _ => (by have := h24.2; have : (1 : Int32).toInt = 1 := rfl; have := h12; omega), (hO.symm.trans (by try simp only [show (1 : Int32).toInt = (1 : Int) from rfl]; rw [lf_u Ez23]; exact hq))⟩ hP hD (Nat.le_of_ble_eq_true rfl) (Nat.le_of_ble_eq_true rfl) dX10_takesSign_28
    · replace hq := lf_neg hq (lf_ne (lf_rf r4) (lf_lc 59 (59 : Int) rfl) c17)
      refine lv_iconst (v := 0) hx hb dX10_takesSign_15 rfl ?_
      subst hQ; exact k_iret hx hb hr hlk (k_nb 0 rfl) v6 hS ⟨ib_w 0 1600 h7 rfl, ib_w 0 1 (ib_c 0 0 0 rfl) rfl, fun hq9 => absurd rfl hq9, fun hq9 => absurd rfl hq9, fun hq9 => absurd rfl hq9, fun hq9 => absurd rfl hq9, (by have := h12; omega), fun hq9 => absurd rfl hq9, (hO.symm.trans (by try simp only [show (0 : Int32).toInt = (0 : Int) from rfl]; exact hq))⟩ hP hD (Nat.le_of_ble_eq_true rfl) (Nat.le_of_ble_eq_true rfl) dX10_takesSign_16
set_option maxHeartbeats 4000000 in
set_option maxRecDepth 100000 in
theorem s_X10_asksSign_a0_59 (l : Launch) (dC : Nat → ClassId) (dI : Nat → Nat → Nat) (cy : Nat → ClassId) (sq : Nat → Nat) (a_this : Nat) (rm : Nat → Nat) (x_taped : Int32) (x_at : Int32) (x_end : Int32) (x_ended : Int32) (x_bad : Int32) (x_badPlace : Int32) (x_fault : Int32) (x_faultPlace : Int32) (x_namePlace : Int32) (x_awayTold : Int32) (x_away : Int32) (x_coded : Int32) (x_statements : Int32) (x_isCrossing : Int32) (x_textKind : Int32) (x_askSecond : Int32) (x_redMany : Int32) (x_isOpen : Int32) (x_lastGreen : Int32) (x_greenTo : Int32) (x_isCycleGreen : Int32) (x_stillGreen : Int32) (x_rowMany : Int32) (x_fitMany : Int32) (x_fitRules : Int32) (x_fitGreen : Int32) (x_undoable : Int32) (x_newest : Int32) (x_seeded : Int64) (x_qCoded : Int32) (x_qWaits : Int32) (x_qOpened : Int32) (x_qBase : Int32) (x_qPiled : Int32) (x_qAnswer : Int64) (x_qIsNew : Int32) (x_octets : Int32) (g_tape : Nat → Int32) (hx_at : ib x_at 0 1600) (hx_end : ib x_end 0 1600) (hg_tape : ia g_tape 1600 0 255) : k_Met l yX10_asksSign cX10_asksSign 2 none { frames := 2, cells := 0, slots := 0, locals := 41 } dC dI cy sq [.ref a_this, .int 59] [(a_this, .inr (10, mfs rm x_taped x_at x_end x_ended x_bad x_badPlace x_fault x_faultPlace x_namePlace x_awayTold x_away x_coded x_statements x_isCrossing x_textKind x_askSecond x_redMany x_isOpen x_lastGreen x_greenTo x_isCycleGreen x_stillGreen x_rowMany x_fitMany x_fitRules x_fitGreen x_undoable x_newest x_seeded x_qCoded x_qWaits x_qOpened x_qBase x_qPiled x_qAnswer x_qIsNew x_octets)), (wi_rm0_0_1600_0 rm cy g_tape)] (k_Qv dC dI (fun (u : Int32 × Int32 × Int32) => match u with | (n0, n1, n2) => ib n0 0 1600 ∧ (n1 = 0 → x_bad = 0) ∧ (1 * x_at.toInt + (-1) * n0.toInt ≤ 0) ∧ (n1 = 0 → 1 * x_at.toInt + (-1) * n0.toInt ≤ (-1)) ∧ (F_X10_asksSign_a0_59 (Int32.toInt x_at) (Int32.toInt x_end) (Int32.toInt x_bad) (Int32.toInt x_badPlace) (lf_A g_tape) = ((Int32.toInt n0), (Int32.toInt n1), (Int32.toInt n2)))) (fun u : Int32 × Int32 × Int32 => match u with | (n0, n1, n2) => [(a_this, .inr (10, mfs rm x_taped n0 x_end x_ended n1 n2 x_fault x_faultPlace x_namePlace x_awayTold x_away x_coded x_statements x_isCrossing x_textKind x_askSecond x_redMany x_isOpen x_lastGreen x_greenTo x_isCycleGreen x_stillGreen x_rowMany x_fitMany x_fitRules x_fitGreen x_undoable x_newest x_seeded x_qCoded x_qWaits x_qOpened x_qBase x_qPiled x_qAnswer x_qIsNew x_octets)), (wi_rm0_0_1600_0 rm cy g_tape)])) := by
  refine k_ofW2 (by decide +kernel) (Nat.le_of_ble_eq_true rfl) ?_
  intro p e s m below meth c A ls H locs args Q hQ C0 hZ hr hlk hin hP hD hA hS hl
  have C0 : k_cx p s m args c cX10_asksSign 2 RX10 dC dI cy sq := C0
  have hx := C0.1
  have hb := C0.2.1
  have hl : lv_has ls 2 [(0, .ref a_this), (1, .int 59)] := hl
  obtain ⟨O, hO⟩ : ∃ o, o = F_X10_asksSign_a0_59 (Int32.toInt x_at) (Int32.toInt x_end) (Int32.toInt x_bad) (Int32.toInt x_badPlace) (lf_A g_tape) := ⟨_, rfl⟩
  have hq := hO
  unfold F_X10_asksSign_a0_59 at hq
  refine lv_aload_n hx hb dX10_asksSign_0 rfl (lv_at hl 0 rfl) ?_
  refine k_get C0 fg_X10_279 hP 0 rfl rfl dX10_asksSign_1 ?_
  refine lv_if_ne (tgt := 24) hx hb dX10_asksSign_4 rfl (fun c1 => ?_) (fun c1 => ?_)
  · replace hq := lf_neg hq (lf_ne (lf_rf x_bad) (lf_lc 0 (0 : Int) rfl) c1)
    subst hQ; exact k_vret hx hb hr hlk ((x_at, x_bad, x_badPlace)) hS ⟨ib_w 0 1600 hx_at rfl, fun q => q, (by omega), fun q => absurd q c1, (hO.symm.trans (by exact hq))⟩ hP hD (Nat.le_of_ble_eq_true rfl) (Nat.le_of_ble_eq_true rfl) dX10_asksSign_24
  · replace hq := lf_pos hq (lf_eq (lf_rf x_bad) (lf_lc 0 (0 : Int) rfl) c1)
    have h2 := ib_eq (ib_any x_bad) (ib_c 0 0 0 rfl) c1
    have h3 : ib x_bad 0 0 := ib_w 0 0 h2.1 rfl
    refine lv_aload_n hx hb dX10_asksSign_7 rfl (lv_at hl 0 rfl) ?_
    refine lv_iload_n hx hb dX10_asksSign_8 rfl (lv_at hl 1 rfl) ?_
    refine k_jim hP hD hS hA [0, 1] [] rfl rfl rfl 0 0 (Nat.le_of_ble_eq_true rfl) (Nat.le_of_ble_eq_true rfl) (fun hPc hDc => k_runV (As := [.int 59]) (rest := []) C0 hZ hS hA (s_X10_takesSign_a0_59 l dC dI cy sq a_this rm x_taped x_at x_end x_ended x_bad x_badPlace x_fault x_faultPlace x_namePlace x_awayTold x_away x_coded x_statements x_isCrossing x_textKind x_askSecond x_redMany x_isOpen x_lastGreen x_greenTo x_isCycleGreen x_stillGreen x_rowMany x_fitMany x_fitRules x_fitGreen x_undoable x_newest x_seeded x_qCoded x_qWaits x_qOpened x_qBase x_qPiled x_qAnswer x_qIsNew x_octets g_tape (ib_w 0 1600 hx_at rfl) (ib_w 0 1600 hx_end rfl) hg_tape) mV_X10_312 hPc hDc rfl rfl rfl hl rfl rfl (Nat.le_of_ble_eq_true rfl) ⟨(Nat.le_of_ble_eq_true rfl), (Nat.le_of_ble_eq_true rfl)⟩ ⟨(Nat.le_of_ble_eq_true rfl), (Nat.le_of_ble_eq_true rfl)⟩ dX10_asksSign_9) (fun r4 u5 H locs hw hP hD hS => ?_)
    obtain ⟨v6, ev6⟩ : ∃ z, z = u5 := ⟨_, rfl⟩; subst ev6
    try dsimp only at hP hD hw
    replace hP : va_P (dC, dI) vwCl [(a_this, .inr (10, mfs rm x_taped v6 x_end x_ended x_bad x_badPlace x_fault x_faultPlace x_namePlace x_awayTold x_away x_coded x_statements x_isCrossing x_textKind x_askSecond x_redMany x_isOpen x_lastGreen x_greenTo x_isCycleGreen x_stillGreen x_rowMany x_fitMany x_fitRules x_fitGreen x_undoable x_newest x_seeded x_qCoded x_qWaits x_qOpened x_qBase x_qPiled x_qAnswer x_qIsNew x_octets)), (wi_rm0_0_1600_0 rm cy g_tape)] H := hP
    replace hD := k_D hP hD
    obtain ⟨h7, h8, h9, h10, h11, h12, h13, h14, h15⟩ := hw
    replace hq := lf_p1 hq h15
    refine lv_if_ne (tgt := 24) hx hb dX10_asksSign_12 rfl (fun c16 => ?_) (fun c16 => ?_)
    · replace hq := lf_neg hq (lf_ne (lf_rf r4) (lf_lc 0 (0 : Int) rfl) c16)
      have h17 : ib r4 1 1 := ib_w 1 1 (ib_ne_lo 0 h8 rfl c16) rfl
      have h18 := h14 (ib_nz h17 rfl)
      have h19 : ib x_at 0 1599 := ⟨(hx_at).1, by have := (hx_at).2; have := h18; have := (h7).2; omega⟩
      have h20 : ib v6 1 1600 := ⟨by have := (h7).1; have := h18; have := (h19).1; omega, (h7).2⟩
      have h21 : ib x_end 1 1600 := ib_w 1 1600 (ib_two hx_end (h11 (ib_nz h17 rfl))) rfl
      subst hQ; exact k_vret hx hb hr hlk ((v6, x_bad, x_badPlace)) hS ⟨ib_w 0 1600 h20 rfl, fun q => q, (by have := h18; omega), fun hq9 => (by have := h18; omega), (hO.symm.trans (by exact hq))⟩ hP hD (Nat.le_of_ble_eq_true rfl) (Nat.le_of_ble_eq_true rfl) dX10_asksSign_24
    · replace hq := lf_pos hq (lf_eq (lf_rf r4) (lf_lc 0 (0 : Int) rfl) c16)
      have h22 := ib_eq h8 (ib_c 0 0 0 rfl) c16
      have h23 : ib r4 0 0 := ib_w 0 0 h22.1 rfl
      refine lv_aload_n hx hb dX10_asksSign_15 rfl (lv_at hl 0 rfl) ?_
      refine lv_iconst (v := 1) hx hb dX10_asksSign_16 rfl ?_
      refine lv_aload_n hx hb dX10_asksSign_17 rfl (lv_at hl 0 rfl) ?_
      refine k_get C0 fg_X10_285 hP 0 rfl rfl dX10_asksSign_18 ?_
      refine k_jvm hP hD hS hA [0] [false, true] rfl rfl rfl 0 0 (Nat.le_of_ble_eq_true rfl) (Nat.le_of_ble_eq_true rfl) (fun hPc hDc => k_runV (As := [.int 1, .int v6]) (rest := []) C0 hZ hS hA (s_X10_fail_a0_1_f_bad_0_0 l dC dI cy sq a_this rm x_taped v6 x_end x_ended x_bad x_badPlace x_fault x_faultPlace x_namePlace x_awayTold x_away x_coded x_statements x_isCrossing x_textKind x_askSecond x_redMany x_isOpen x_lastGreen x_greenTo x_isCycleGreen x_stillGreen x_rowMany x_fitMany x_fitRules x_fitGreen x_undoable x_newest x_seeded x_qCoded x_qWaits x_qOpened x_qBase x_qPiled x_qAnswer x_qIsNew x_octets v6 (ib_w 0 0 h3 rfl)) mV_X10_308 hPc hDc rfl rfl rfl hl rfl rfl (Nat.le_of_ble_eq_true rfl) ⟨(Nat.le_of_ble_eq_true rfl), (Nat.le_of_ble_eq_true rfl)⟩ ⟨(Nat.le_of_ble_eq_true rfl), (Nat.le_of_ble_eq_true rfl)⟩ dX10_asksSign_21) (fun u25 H locs hw hP hD hS => ?_)
      try dsimp only at hP hD hw
      replace hP : va_P (dC, dI) vwCl [(wi_rm0_0_1600_0 rm cy g_tape), (a_this, .inr (10, mfs rm x_taped v6 x_end x_ended 1 v6 x_fault x_faultPlace x_namePlace x_awayTold x_away x_coded x_statements x_isCrossing x_textKind x_askSecond x_redMany x_isOpen x_lastGreen x_greenTo x_isCycleGreen x_stillGreen x_rowMany x_fitMany x_fitRules x_fitGreen x_undoable x_newest x_seeded x_qCoded x_qWaits x_qOpened x_qBase x_qPiled x_qAnswer x_qIsNew x_octets))] H := hP
      replace hD := k_D hP hD
      subst hQ; exact k_vret hx hb hr hlk ((v6, 1, v6)) hS ⟨ib_w 0 1600 h7 rfl, fun q => absurd q (by decide), (by have := h13; omega), fun q => absurd q (by decide), (hO.symm.trans (by try simp only [show (1 : Int32).toInt = (1 : Int) from rfl]; exact hq))⟩ (hP.sub [1, 0] rfl) (hD.sub [1, 0] rfl rfl) (Nat.le_of_ble_eq_true rfl) (Nat.le_of_ble_eq_true rfl) dX10_asksSign_24
set_option maxHeartbeats 4000000 in
set_option maxRecDepth 100000 in
theorem s_X10_number_a0_1_a1_60 (l : Launch) (dC : Nat → ClassId) (dI : Nat → Nat → Nat) (cy : Nat → ClassId) (sq : Nat → Nat) (a_this : Nat) (rm : Nat → Nat) (x_taped : Int32) (x_at : Int32) (x_end : Int32) (x_ended : Int32) (x_bad : Int32) (x_badPlace : Int32) (x_fault : Int32) (x_faultPlace : Int32) (x_namePlace : Int32) (x_awayTold : Int32) (x_away : Int32) (x_coded : Int32) (x_statements : Int32) (x_isCrossing : Int32) (x_textKind : Int32) (x_askSecond : Int32) (x_redMany : Int32) (x_isOpen : Int32) (x_lastGreen : Int32) (x_greenTo : Int32) (x_isCycleGreen : Int32) (x_stillGreen : Int32) (x_rowMany : Int32) (x_fitMany : Int32) (x_fitRules : Int32) (x_fitGreen : Int32) (x_undoable : Int32) (x_newest : Int32) (x_seeded : Int64) (x_qCoded : Int32) (x_qWaits : Int32) (x_qOpened : Int32) (x_qBase : Int32) (x_qPiled : Int32) (x_qAnswer : Int64) (x_qIsNew : Int32) (x_octets : Int32) (g_tape : Nat → Int32) (hx_at : ib x_at 0 1600) (hx_end : ib x_end 0 1600) (hg_tape : ia g_tape 1600 0 255) : k_Met l yX10_number cX10_number 5 (some .int) { frames := 1, cells := 0, slots := 0, locals := 25 } dC dI cy sq [.ref a_this, .int 1, .int 60] [(a_this, .inr (10, mfs rm x_taped x_at x_end x_ended x_bad x_badPlace x_fault x_faultPlace x_namePlace x_awayTold x_away x_coded x_statements x_isCrossing x_textKind x_askSecond x_redMany x_isOpen x_lastGreen x_greenTo x_isCycleGreen x_stillGreen x_rowMany x_fitMany x_fitRules x_fitGreen x_undoable x_newest x_seeded x_qCoded x_qWaits x_qOpened x_qBase x_qPiled x_qAnswer x_qIsNew x_octets)), (wi_rm0_0_1600_0 rm cy g_tape)] (k_Qi dC dI (fun (r : Int32) (u : Int32 × Int32 × Int32 × Int32) => match u with | (n0, n1, n2, n3) => ib n0 0 1600 ∧ (n2 = 0 → x_bad = 0) ∧ (n2 = 0 → ib r 1 60) ∧ (1 * x_at.toInt + (-1) * n0.toInt ≤ 0) ∧ (n2 = 0 → 1 * x_at.toInt + (-1) * n0.toInt ≤ (-1)) ∧ (F_X10_number_a0_1_a1_60 (Int32.toInt x_at) (Int32.toInt x_end) (Int32.toInt x_ended) (Int32.toInt x_bad) (Int32.toInt x_badPlace) (lf_A g_tape) = ((Int32.toInt r), (Int32.toInt n0), (Int32.toInt n1), (Int32.toInt n2), (Int32.toInt n3)))) (fun u : Int32 × Int32 × Int32 × Int32 => match u with | (n0, n1, n2, n3) => [(a_this, .inr (10, mfs rm x_taped n0 x_end n1 n2 n3 x_fault x_faultPlace x_namePlace x_awayTold x_away x_coded x_statements x_isCrossing x_textKind x_askSecond x_redMany x_isOpen x_lastGreen x_greenTo x_isCycleGreen x_stillGreen x_rowMany x_fitMany x_fitRules x_fitGreen x_undoable x_newest x_seeded x_qCoded x_qWaits x_qOpened x_qBase x_qPiled x_qAnswer x_qIsNew x_octets)), (wi_rm0_0_1600_0 rm cy g_tape)])) := by
  refine k_ofW2 (by decide +kernel) (Nat.le_of_ble_eq_true rfl) ?_
  intro p e s m below meth c A ls H locs args Q hQ C0 hZ hr hlk hin hP hD hA hS hl
  have C0 : k_cx p s m args c cX10_number 5 RX10 dC dI cy sq := C0
  have hx := C0.1
  have hb := C0.2.1
  have hl : lv_has ls 5 [(0, .ref a_this), (1, .int 1), (2, .int 60)] := hl
  obtain ⟨O, hO⟩ : ∃ o, o = F_X10_number_a0_1_a1_60 (Int32.toInt x_at) (Int32.toInt x_end) (Int32.toInt x_ended) (Int32.toInt x_bad) (Int32.toInt x_badPlace) (lf_A g_tape) := ⟨_, rfl⟩
  have hq := hO
  unfold F_X10_number_a0_1_a1_60 at hq
  have jn49 : ∀ (n : Nat) (J49_l3 : Int32) (J49_c0_2 : Int32) (J49_l4 : Int32) (H : Heap) (locs : List Loc) (ls : Array Slot), ib J49_l3 0 1599 → ib J49_c0_2 0 1600 → ib x_end 1 1600 → ib x_bad 0 0 → (1 * x_at.toInt + (-1) * J49_l3.toInt ≤ 0) → (1 * x_at.toInt + (-1) * J49_c0_2.toInt ≤ 0) → (O = F_X10_number_a0_1_a1_60_49 (Int32.toInt x_end) (Int32.toInt x_ended) (Int32.toInt x_bad) (Int32.toInt x_badPlace) (lf_A g_tape) n (Int32.toInt J49_l3) (Int32.toInt J49_c0_2) (Int32.toInt J49_l4)) → (J49_l3.toInt + 1 ≤ J49_c0_2.toInt ∨ (J49_l3 = J49_c0_2 ∧ ib (g_tape (Int32.toNatClampNeg J49_c0_2)) 48 57 ∧ J49_c0_2.toInt < x_end.toInt)) → 1601 ≤ J49_c0_2.toInt + (n : Int) → va_P (dC, dI) vwCl [(a_this, .inr (10, mfs rm x_taped J49_c0_2 x_end x_ended x_bad x_badPlace x_fault x_faultPlace x_namePlace x_awayTold x_away x_coded x_statements x_isCrossing x_textKind x_askSecond x_redMany x_isOpen x_lastGreen x_greenTo x_isCycleGreen x_stillGreen x_rowMany x_fitMany x_fitRules x_fitGreen x_undoable x_newest x_seeded x_qCoded x_qWaits x_qOpened x_qBase x_qPiled x_qAnswer x_qIsNew x_octets)), (wi_rm0_0_1600_0 rm cy g_tape)] H → va_D A [(a_this, .inr (10, mfs rm x_taped J49_c0_2 x_end x_ended x_bad x_badPlace x_fault x_faultPlace x_namePlace x_awayTold x_away x_coded x_statements x_isCrossing x_textKind x_askSecond x_redMany x_isOpen x_lastGreen x_greenTo x_isCycleGreen x_stillGreen x_rowMany x_fitMany x_fitRules x_fitGreen x_undoable x_newest x_seeded x_qCoded x_qWaits x_qOpened x_qBase x_qPiled x_qAnswer x_qIsNew x_octets)), (wi_rm0_0_1600_0 rm cy g_tape)] → va_S A s.heap H locs → lv_has ls 5 [(0, .ref a_this), (1, .int 1), (2, .int 60), (3, .int J49_l3), (4, .int J49_l4)] → W p l e { frames := 1, cells := 0, slots := 0, locals := 25 } s m args below meth c H locs 0 0 Q (F0 m 49 ls []) := by
    as_aux_lemma =>
      intro n
      induction n with
      | zero =>
        intro J49_l3 J49_c0_2 J49_l4 H locs ls hJ49_l3 hJ49_c0_2 hK49_x_end hK49_x_bad hJ49_lin0 hJ49_lin1 hq hJ49_gh hm
        exact absurd hm (by have := hJ49_c0_2; unfold ib at this; omega)
      | succ n ih =>
        intro J49_l3 J49_c0_2 J49_l4 H locs ls hJ49_l3 hJ49_c0_2 hK49_x_end hK49_x_bad hJ49_lin0 hJ49_lin1 hq hJ49_gh hm49 hP hD hS hl
        have ih49 := ih
        obtain ⟨K49, hK49⟩ : ∃ K, K = F_X10_number_a0_1_a1_60_49 (Int32.toInt x_end) (Int32.toInt x_ended) (Int32.toInt x_bad) (Int32.toInt x_badPlace) (lf_A g_tape) n := ⟨_, rfl⟩
        have hq : O = F_X10_number_a0_1_a1_60_49b (Int32.toInt x_end) (Int32.toInt x_ended) (Int32.toInt x_bad) (Int32.toInt x_badPlace) (lf_A g_tape) K49 (Int32.toInt J49_l3) (Int32.toInt J49_c0_2) (Int32.toInt J49_l4) := by rw [hK49]; exact hq
        unfold F_X10_number_a0_1_a1_60_49b at hq
        refine lv_aload_n hx hb dX10_number_49 rfl (lv_at hl 0 rfl) ?_
        refine k_get C0 fg_X10_285 hP 0 rfl rfl dX10_number_50 ?_
        refine lv_aload_n hx hb dX10_number_53 rfl (lv_at hl 0 rfl) ?_
        refine k_get C0 fg_X10_288 hP 0 rfl rfl dX10_number_54 ?_
        refine lv_icmp_ge (tgt := 129) hx hb dX10_number_57 rfl (fun c1 => ?_) (fun c1 => ?_)
        · as_aux_lemma =>
            replace hq := lf_pos hq (lf_le (lf_rf x_end) (lf_rf J49_c0_2) c1)
            have h2 := ib_le hK49_x_end hJ49_c0_2 c1
            have h3 : ib J49_c0_2 1 1600 := ib_w 1 1600 h2.2 rfl
            have h4 : ib x_at 0 1599 := ⟨(hx_at).1, by have := (hx_at).2; have := hJ49_lin0; have := (hJ49_l3).2; omega⟩
            have h5 : J49_l3.toInt + 1 ≤ J49_c0_2.toInt := by rcases hJ49_gh with q | q; exact q; exact absurd q.2.2 (by have := (hK49_x_end).1; have := (hK49_x_end).2; have := (h3).1; have := (h3).2; have := hJ49_lin1; have := (h4).1; have := (h4).2; have := hJ49_lin0; have := (hJ49_l3).1; have := (hJ49_l3).2; have := Int32.le_iff_toInt_le.mp c1; omega)
            have h6 : 1 * J49_l3.toInt + (-1) * J49_c0_2.toInt ≤ (-1) := by omega
            refine lv_aload_n hx hb dX10_number_129 rfl (lv_at hl 0 rfl) ?_
            refine lv_aload_n hx hb dX10_number_130 rfl (lv_at hl 0 rfl) ?_
            refine k_get C0 fg_X10_285 hP 0 rfl rfl dX10_number_131 ?_
            refine k_put C0 fp_X10_299 hP hD hS 0 rfl rfl rfl (Nat.le_of_ble_eq_true rfl) dX10_number_134 (fun H locs hP hD hS => ?_)
            replace hP : va_P (dC, dI) vwCl [(a_this, .inr (10, mfs rm x_taped J49_c0_2 x_end J49_c0_2 x_bad x_badPlace x_fault x_faultPlace x_namePlace x_awayTold x_away x_coded x_statements x_isCrossing x_textKind x_askSecond x_redMany x_isOpen x_lastGreen x_greenTo x_isCycleGreen x_stillGreen x_rowMany x_fitMany x_fitRules x_fitGreen x_undoable x_newest x_seeded x_qCoded x_qWaits x_qOpened x_qBase x_qPiled x_qAnswer x_qIsNew x_octets)), (wi_rm0_0_1600_0 rm cy g_tape)] H := hP
            replace hD := k_D hP hD
            refine lv_iload hx hb dX10_number_137 (lv_at hl 4 rfl) ?_
            refine lv_i2l (v := J49_l4.toInt64) hx hb dX10_number_139 rfl ?_
            refine lv_iload_n hx hb dX10_number_140 rfl (lv_at hl 1 rfl) ?_
            refine lv_i2l (v := 1) hx hb dX10_number_141 (by decide) ?_
            refine lv_iload_n hx hb dX10_number_142 rfl (lv_at hl 2 rfl) ?_
            refine lv_i2l (v := 60) hx hb dX10_number_143 (by decide) ?_
            refine k_jim hP hD hS hA [] [true, true] rfl rfl rfl 0 0 (Nat.le_of_ble_eq_true rfl) (Nat.le_of_ble_eq_true rfl) (fun hPc hDc => k_runS (As := [.long J49_l4.toInt64, .long 1, .long 60]) (rest := []) C0 hZ hS hA (c_isIn l dC dI cy sq J49_l4.toInt64 1 60) mS_X10_318 hPc hDc hl rfl rfl (Nat.le_of_ble_eq_true rfl) ⟨(Nat.le_of_ble_eq_true rfl), (Nat.le_of_ble_eq_true rfl)⟩ ⟨(Nat.le_of_ble_eq_true rfl), (Nat.le_of_ble_eq_true rfl)⟩ dX10_number_144) (fun r7 u8 H locs hw hP hD hS => ?_)
            replace hP : va_P (dC, dI) vwCl [(a_this, .inr (10, mfs rm x_taped J49_c0_2 x_end J49_c0_2 x_bad x_badPlace x_fault x_faultPlace x_namePlace x_awayTold x_away x_coded x_statements x_isCrossing x_textKind x_askSecond x_redMany x_isOpen x_lastGreen x_greenTo x_isCycleGreen x_stillGreen x_rowMany x_fitMany x_fitRules x_fitGreen x_undoable x_newest x_seeded x_qCoded x_qWaits x_qOpened x_qBase x_qPiled x_qAnswer x_qIsNew x_octets)), (wi_rm0_0_1600_0 rm cy g_tape)] H := hP
            replace hD := k_D hP hD
            have h9 := hw
            have h10 : ib r7 0 1 := by rw [h9]; exact k_isf_01 _ _ _
            have Er7 := lf_isine h9 (lf_i2l (lf_rf J49_l4)) (lf_ll 1 (1 : Int) rfl) (lf_ll 60 (60 : Int) rfl)
            refine lv_if_ne (tgt := 156) hx hb dX10_number_147 rfl (fun c11 => ?_) (fun c11 => ?_)
            · replace hq := lf_neg hq (lf_ne Er7 (lf_lc 0 (0 : Int) rfl) c11)
              have h12 : ib r7 1 1 := ib_w 1 1 (ib_ne_lo 0 h10 rfl c11) rfl
              have h13 : ib J49_l4 1 60 := ib_w 1 60 (ib_two (ib_any J49_l4) (k_isf_v h9 (show 1 ≤ (1 : Int64).toInt by decide) (show (60 : Int64).toInt ≤ 60 by decide) (ib_nz h12 rfl))) rfl
              refine lv_iload hx hb dX10_number_156 (lv_at hl 4 rfl) ?_
              subst hQ; exact k_iret hx hb hr hlk rfl ((J49_c0_2, J49_c0_2, x_bad, x_badPlace)) hS ⟨ib_w 0 1600 h3 rfl, fun q => q, fun _ => ib_w 1 60 h13 rfl, (by have := hJ49_lin1; omega), fun hq9 => (by have := hJ49_lin1; have := h6; have := hJ49_lin0; omega), (hO.symm.trans (by exact hq))⟩ hP hD (Nat.le_of_ble_eq_true rfl) (Nat.le_of_ble_eq_true rfl) dX10_number_158
            · replace hq := lf_pos hq (lf_eq Er7 (lf_lc 0 (0 : Int) rfl) c11)
              have h14 := ib_eq h10 (ib_c 0 0 0 rfl) c11
              have h15 : ib r7 0 0 := ib_w 0 0 h14.1 rfl
              refine lv_aload_n hx hb dX10_number_150 rfl (lv_at hl 0 rfl) ?_
              refine lv_iconst (v := 2) hx hb dX10_number_151 rfl ?_
              refine lv_iload_n hx hb dX10_number_152 rfl (lv_at hl 3 rfl) ?_
              refine k_jvm hP hD hS hA [0] [false, true] rfl rfl rfl 0 0 (Nat.le_of_ble_eq_true rfl) (Nat.le_of_ble_eq_true rfl) (fun hPc hDc => k_runV (As := [.int 2, .int J49_l3]) (rest := []) C0 hZ hS hA (s_X10_fail_a0_2_f_bad_0_0 l dC dI cy sq a_this rm x_taped J49_c0_2 x_end J49_c0_2 x_bad x_badPlace x_fault x_faultPlace x_namePlace x_awayTold x_away x_coded x_statements x_isCrossing x_textKind x_askSecond x_redMany x_isOpen x_lastGreen x_greenTo x_isCycleGreen x_stillGreen x_rowMany x_fitMany x_fitRules x_fitGreen x_undoable x_newest x_seeded x_qCoded x_qWaits x_qOpened x_qBase x_qPiled x_qAnswer x_qIsNew x_octets J49_l3 (ib_w 0 0 hK49_x_bad rfl)) mV_X10_308 hPc hDc rfl rfl rfl hl rfl rfl (Nat.le_of_ble_eq_true rfl) ⟨(Nat.le_of_ble_eq_true rfl), (Nat.le_of_ble_eq_true rfl)⟩ ⟨(Nat.le_of_ble_eq_true rfl), (Nat.le_of_ble_eq_true rfl)⟩ dX10_number_153) (fun u17 H locs hw hP hD hS => ?_)
              try dsimp only at hP hD hw
              replace hP : va_P (dC, dI) vwCl [(wi_rm0_0_1600_0 rm cy g_tape), (a_this, .inr (10, mfs rm x_taped J49_c0_2 x_end J49_c0_2 2 J49_l3 x_fault x_faultPlace x_namePlace x_awayTold x_away x_coded x_statements x_isCrossing x_textKind x_askSecond x_redMany x_isOpen x_lastGreen x_greenTo x_isCycleGreen x_stillGreen x_rowMany x_fitMany x_fitRules x_fitGreen x_undoable x_newest x_seeded x_qCoded x_qWaits x_qOpened x_qBase x_qPiled x_qAnswer x_qIsNew x_octets))] H := hP
              replace hD := k_D hP hD
              refine lv_iload hx hb dX10_number_156 (lv_at hl 4 rfl) ?_
              subst hQ; exact k_iret hx hb hr hlk rfl ((J49_c0_2, J49_c0_2, 2, J49_l3)) hS ⟨ib_w 0 1600 h3 rfl, fun q => absurd q (by decide), fun q => absurd q (by decide), (by have := hJ49_lin1; omega), fun q => absurd q (by decide), (hO.symm.trans (by try simp only [show (2 : Int32).toInt = (2 : Int) from rfl]; exact hq))⟩ (hP.sub [1, 0] rfl) (hD.sub [1, 0] rfl rfl) (Nat.le_of_ble_eq_true rfl) (Nat.le_of_ble_eq_true rfl) dX10_number_158
        · as_aux_lemma =>
            replace hq := lf_neg hq (lf_nle (lf_rf x_end) (lf_rf J49_c0_2) c1)
            have h18 := ib_nle hK49_x_end hJ49_c0_2 c1
            have h19 : ib J49_c0_2 0 1599 := ib_w 0 1599 h18.2 rfl
            have h20 : ib x_at 0 1599 := ⟨(hx_at).1, by have := (hx_at).2; have := hJ49_lin0; have := (hJ49_l3).2; omega⟩
            refine lv_aload_n hx hb dX10_number_60 rfl (lv_at hl 0 rfl) ?_
            refine k_get C0 fg_X10_7 hP 0 rfl rfl dX10_number_61 ?_
            refine lv_aload_n hx hb dX10_number_64 rfl (lv_at hl 0 rfl) ?_
            refine k_get C0 fg_X10_285 hP 0 rfl rfl dX10_number_65 ?_
            refine va_iald hx hb C0.2.2.2.2.2.1 hP 1 0 rfl rfl (ib_in 1600 h19 rfl) dX10_number_68 ?_
            refine lv_topi (fun z21 ez21 => ?_)
            have h22 : ib z21 0 255 := by rw [ez21]; exact ia_at hg_tape (ib_in 1600 h19 rfl)
            have Ez21 := lf_ld ez21 (lf_ra g_tape) (lf_rf J49_c0_2)
            refine k_jim hP hD hS hA [] [true, true] rfl rfl rfl 0 0 (Nat.le_of_ble_eq_true rfl) (Nat.le_of_ble_eq_true rfl) (fun hPc hDc => k_runS (As := [.int z21]) (rest := []) C0 hZ hS hA (s_X10_isDigit l dC dI cy sq z21 ) mS_X10_315 hPc hDc hl rfl rfl (Nat.le_of_ble_eq_true rfl) ⟨(Nat.le_of_ble_eq_true rfl), (Nat.le_of_ble_eq_true rfl)⟩ ⟨(Nat.le_of_ble_eq_true rfl), (Nat.le_of_ble_eq_true rfl)⟩ dX10_number_69) (fun r23 u24 H locs hw hP hD hS => ?_)
            try dsimp only at hP hD hw
            replace hP : va_P (dC, dI) vwCl [(a_this, .inr (10, mfs rm x_taped J49_c0_2 x_end x_ended x_bad x_badPlace x_fault x_faultPlace x_namePlace x_awayTold x_away x_coded x_statements x_isCrossing x_textKind x_askSecond x_redMany x_isOpen x_lastGreen x_greenTo x_isCycleGreen x_stillGreen x_rowMany x_fitMany x_fitRules x_fitGreen x_undoable x_newest x_seeded x_qCoded x_qWaits x_qOpened x_qBase x_qPiled x_qAnswer x_qIsNew x_octets)), (wi_rm0_0_1600_0 rm cy g_tape)] H := hP
            replace hD := k_D hP hD
            obtain ⟨h25, h26, h27, h28⟩ := hw
            have h28 := by have h9 := h28; rw [lf_u Ez21] at h9; exact h9
            replace hq := lf_b1 hq h28
            refine lv_if_eq (tgt := 129) hx hb dX10_number_72 rfl (fun c29 => ?_) (fun c29 => ?_)
            · as_aux_lemma =>
                replace hq := lf_pos hq (lf_eq (lf_rf r23) (lf_lc 0 (0 : Int) rfl) c29)
                have h30 := ib_eq h25 (ib_c 0 0 0 rfl) c29
                have h31 : ib r23 0 0 := ib_w 0 0 h30.1 rfl
                have h32 : J49_l3.toInt + 1 ≤ J49_c0_2.toInt := by rcases hJ49_gh with q | q; exact q; exact absurd (show ib z21 48 57 by rw [ez21]; exact q.2.1) (h27 (ib_one h31 rfl))
                have h33 : 1 * J49_l3.toInt + (-1) * J49_c0_2.toInt ≤ (-1) := by omega
                refine lv_aload_n hx hb dX10_number_129 rfl (lv_at hl 0 rfl) ?_
                refine lv_aload_n hx hb dX10_number_130 rfl (lv_at hl 0 rfl) ?_
                refine k_get C0 fg_X10_285 hP 0 rfl rfl dX10_number_131 ?_
                refine k_put C0 fp_X10_299 hP hD hS 0 rfl rfl rfl (Nat.le_of_ble_eq_true rfl) dX10_number_134 (fun H locs hP hD hS => ?_)
                replace hP : va_P (dC, dI) vwCl [(a_this, .inr (10, mfs rm x_taped J49_c0_2 x_end J49_c0_2 x_bad x_badPlace x_fault x_faultPlace x_namePlace x_awayTold x_away x_coded x_statements x_isCrossing x_textKind x_askSecond x_redMany x_isOpen x_lastGreen x_greenTo x_isCycleGreen x_stillGreen x_rowMany x_fitMany x_fitRules x_fitGreen x_undoable x_newest x_seeded x_qCoded x_qWaits x_qOpened x_qBase x_qPiled x_qAnswer x_qIsNew x_octets)), (wi_rm0_0_1600_0 rm cy g_tape)] H := hP
                replace hD := k_D hP hD
                refine lv_iload hx hb dX10_number_137 (lv_at hl 4 rfl) ?_
                refine lv_i2l (v := J49_l4.toInt64) hx hb dX10_number_139 rfl ?_
                refine lv_iload_n hx hb dX10_number_140 rfl (lv_at hl 1 rfl) ?_
                refine lv_i2l (v := 1) hx hb dX10_number_141 (by decide) ?_
                refine lv_iload_n hx hb dX10_number_142 rfl (lv_at hl 2 rfl) ?_
                refine lv_i2l (v := 60) hx hb dX10_number_143 (by decide) ?_
                refine k_jim hP hD hS hA [] [true, true] rfl rfl rfl 0 0 (Nat.le_of_ble_eq_true rfl) (Nat.le_of_ble_eq_true rfl) (fun hPc hDc => k_runS (As := [.long J49_l4.toInt64, .long 1, .long 60]) (rest := []) C0 hZ hS hA (c_isIn l dC dI cy sq J49_l4.toInt64 1 60) mS_X10_318 hPc hDc hl rfl rfl (Nat.le_of_ble_eq_true rfl) ⟨(Nat.le_of_ble_eq_true rfl), (Nat.le_of_ble_eq_true rfl)⟩ ⟨(Nat.le_of_ble_eq_true rfl), (Nat.le_of_ble_eq_true rfl)⟩ dX10_number_144) (fun r34 u35 H locs hw hP hD hS => ?_)
                replace hP : va_P (dC, dI) vwCl [(a_this, .inr (10, mfs rm x_taped J49_c0_2 x_end J49_c0_2 x_bad x_badPlace x_fault x_faultPlace x_namePlace x_awayTold x_away x_coded x_statements x_isCrossing x_textKind x_askSecond x_redMany x_isOpen x_lastGreen x_greenTo x_isCycleGreen x_stillGreen x_rowMany x_fitMany x_fitRules x_fitGreen x_undoable x_newest x_seeded x_qCoded x_qWaits x_qOpened x_qBase x_qPiled x_qAnswer x_qIsNew x_octets)), (wi_rm0_0_1600_0 rm cy g_tape)] H := hP
                replace hD := k_D hP hD
                have h36 := hw
                have h37 : ib r34 0 1 := by rw [h36]; exact k_isf_01 _ _ _
                have Er34 := lf_isine h36 (lf_i2l (lf_rf J49_l4)) (lf_ll 1 (1 : Int) rfl) (lf_ll 60 (60 : Int) rfl)
                refine lv_if_ne (tgt := 156) hx hb dX10_number_147 rfl (fun c38 => ?_) (fun c38 => ?_)
                · replace hq := lf_neg hq (lf_ne Er34 (lf_lc 0 (0 : Int) rfl) c38)
                  have h39 : ib r34 1 1 := ib_w 1 1 (ib_ne_lo 0 h37 rfl c38) rfl
                  have h40 : ib J49_l4 1 60 := ib_w 1 60 (ib_two (ib_any J49_l4) (k_isf_v h36 (show 1 ≤ (1 : Int64).toInt by decide) (show (60 : Int64).toInt ≤ 60 by decide) (ib_nz h39 rfl))) rfl
                  have h41 : ib J49_l3 0 1598 := ⟨(hJ49_l3).1, by have := (hJ49_l3).2; have := h33; have := (h19).2; omega⟩
                  have h42 : ib J49_c0_2 1 1599 := ⟨by have := (h19).1; have := h33; have := (h41).1; omega, (h19).2⟩
                  refine lv_iload hx hb dX10_number_156 (lv_at hl 4 rfl) ?_
                  subst hQ; exact k_iret hx hb hr hlk rfl ((J49_c0_2, J49_c0_2, x_bad, x_badPlace)) hS ⟨ib_w 0 1600 h42 rfl, fun q => q, fun _ => ib_w 1 60 h40 rfl, (by have := hJ49_lin1; omega), fun hq9 => (by have := hJ49_lin1; have := h33; have := hJ49_lin0; omega), (hO.symm.trans (by exact hq))⟩ hP hD (Nat.le_of_ble_eq_true rfl) (Nat.le_of_ble_eq_true rfl) dX10_number_158
                · replace hq := lf_pos hq (lf_eq Er34 (lf_lc 0 (0 : Int) rfl) c38)
                  have h43 := ib_eq h37 (ib_c 0 0 0 rfl) c38
                  have h44 : ib r34 0 0 := ib_w 0 0 h43.1 rfl
                  have h45 : ib J49_l3 0 1598 := ⟨(hJ49_l3).1, by have := (hJ49_l3).2; have := h33; have := (h19).2; omega⟩
                  have h46 : ib J49_c0_2 1 1599 := ⟨by have := (h19).1; have := h33; have := (h45).1; omega, (h19).2⟩
                  have h47 : ib x_at 0 1598 := ⟨(h20).1, by have := (h20).2; have := hJ49_lin0; have := (h45).2; omega⟩
                  refine lv_aload_n hx hb dX10_number_150 rfl (lv_at hl 0 rfl) ?_
                  refine lv_iconst (v := 2) hx hb dX10_number_151 rfl ?_
                  refine lv_iload_n hx hb dX10_number_152 rfl (lv_at hl 3 rfl) ?_
                  refine k_jvm hP hD hS hA [0] [false, true] rfl rfl rfl 0 0 (Nat.le_of_ble_eq_true rfl) (Nat.le_of_ble_eq_true rfl) (fun hPc hDc => k_runV (As := [.int 2, .int J49_l3]) (rest := []) C0 hZ hS hA (s_X10_fail_a0_2_f_bad_0_0 l dC dI cy sq a_this rm x_taped J49_c0_2 x_end J49_c0_2 x_bad x_badPlace x_fault x_faultPlace x_namePlace x_awayTold x_away x_coded x_statements x_isCrossing x_textKind x_askSecond x_redMany x_isOpen x_lastGreen x_greenTo x_isCycleGreen x_stillGreen x_rowMany x_fitMany x_fitRules x_fitGreen x_undoable x_newest x_seeded x_qCoded x_qWaits x_qOpened x_qBase x_qPiled x_qAnswer x_qIsNew x_octets J49_l3 (ib_w 0 0 hK49_x_bad rfl)) mV_X10_308 hPc hDc rfl rfl rfl hl rfl rfl (Nat.le_of_ble_eq_true rfl) ⟨(Nat.le_of_ble_eq_true rfl), (Nat.le_of_ble_eq_true rfl)⟩ ⟨(Nat.le_of_ble_eq_true rfl), (Nat.le_of_ble_eq_true rfl)⟩ dX10_number_153) (fun u49 H locs hw hP hD hS => ?_)
                  try dsimp only at hP hD hw
                  replace hP : va_P (dC, dI) vwCl [(wi_rm0_0_1600_0 rm cy g_tape), (a_this, .inr (10, mfs rm x_taped J49_c0_2 x_end J49_c0_2 2 J49_l3 x_fault x_faultPlace x_namePlace x_awayTold x_away x_coded x_statements x_isCrossing x_textKind x_askSecond x_redMany x_isOpen x_lastGreen x_greenTo x_isCycleGreen x_stillGreen x_rowMany x_fitMany x_fitRules x_fitGreen x_undoable x_newest x_seeded x_qCoded x_qWaits x_qOpened x_qBase x_qPiled x_qAnswer x_qIsNew x_octets))] H := hP
                  replace hD := k_D hP hD
                  refine lv_iload hx hb dX10_number_156 (lv_at hl 4 rfl) ?_
                  subst hQ; exact k_iret hx hb hr hlk rfl ((J49_c0_2, J49_c0_2, 2, J49_l3)) hS ⟨ib_w 0 1600 h46 rfl, fun q => absurd q (by decide), fun q => absurd q (by decide), (by have := hJ49_lin1; omega), fun q => absurd q (by decide), (hO.symm.trans (by try simp only [show (2 : Int32).toInt = (2 : Int) from rfl]; exact hq))⟩ (hP.sub [1, 0] rfl) (hD.sub [1, 0] rfl rfl) (Nat.le_of_ble_eq_true rfl) (Nat.le_of_ble_eq_true rfl) dX10_number_158
            · as_aux_lemma =>
                replace hq := lf_neg hq (lf_ne (lf_rf r23) (lf_lc 0 (0 : Int) rfl) c29)
                have h50 : ib r23 1 1 := ib_w 1 1 (ib_ne_lo 0 h25 rfl c29) rfl
                have h51 : ib z21 48 57 := ib_w 48 57 (ib_two h22 (h26 (ib_nz h50 rfl))) rfl
                refine lv_aload_n hx hb dX10_number_75 rfl (lv_at hl 0 rfl) ?_
                refine k_get C0 fg_X10_285 hP 0 rfl rfl dX10_number_76 ?_
                refine lv_iload_n hx hb dX10_number_79 rfl (lv_at hl 3 rfl) ?_
                refine lv_isub hx hb dX10_number_80 ?_
                refine lv_topi (fun z52 ez52 => ?_)
                have h53 := ib_sub h19 hJ49_l3 rfl
                rw [← ez52] at h53
                have h54 : ib z52 (-1599) 1599 := ib_w (-1599) 1599 h53.1 rfl
                have Ez52 := lf_sub h53.2 (lf_rf J49_c0_2) (lf_rf J49_l3)
                refine lv_iconst (v := 4) hx hb dX10_number_81 rfl ?_
                refine lv_icmp_ne (tgt := 96) hx hb dX10_number_82 rfl (fun c55 => ?_) (fun c55 => ?_)
                · as_aux_lemma =>
                    replace hq := lf_neg hq (lf_ne Ez52 (lf_lc 4 (4 : Int) rfl) c55)
                    refine lv_bipush (v := 10) hx hb dX10_number_96 rfl ?_
                    refine lv_iload hx hb dX10_number_98 (lv_at hl 4 rfl) ?_
                    refine lv_imul hx hb dX10_number_100 ?_
                    refine lv_topi (fun z56 ez56 => ?_)
                    have Ez56 := lf_op lf_imul ez56 (lf_lc 10 (10 : Int) rfl) (lf_rf J49_l4)
                    refine lv_aload_n hx hb dX10_number_101 rfl (lv_at hl 0 rfl) ?_
                    refine k_get C0 fg_X10_7 hP 0 rfl rfl dX10_number_102 ?_
                    refine lv_aload_n hx hb dX10_number_105 rfl (lv_at hl 0 rfl) ?_
                    refine k_get C0 fg_X10_285 hP 0 rfl rfl dX10_number_106 ?_
                    refine va_iald hx hb C0.2.2.2.2.2.1 hP 1 0 rfl rfl (ib_in 1600 h19 rfl) dX10_number_109 ?_
                    refine lv_topi (fun z57 ez57 => ?_)
                    obtain rfl : z21 = z57 := ez21.trans ez57.symm
                    refine lv_iadd hx hb dX10_number_110 ?_
                    refine lv_topi (fun z58 ez58 => ?_)
                    have Ez58 := lf_op lf_iadd ez58 Ez56 Ez21
                    refine lv_bipush (v := 48) hx hb dX10_number_111 rfl ?_
                    refine lv_isub hx hb dX10_number_113 ?_
                    refine lv_topi (fun z59 ez59 => ?_)
                    have Ez59 := lf_op lf_isub ez59 Ez58 (lf_lc 48 (48 : Int) rfl)
                    refine lv_istore (lv' := [(4, .int z59), (0, .ref a_this), (1, .int 1), (2, .int 60), (3, .int J49_l3)]) hx hb dX10_number_114 hl (Nat.le_of_ble_eq_true rfl) rfl (fun ls hl => ?_)
                    refine lv_aload_n hx hb dX10_number_116 rfl (lv_at hl 1 rfl) ?_
                    refine lv_dup hx hb dX10_number_117 rfl ?_
                    refine k_get C0 fg_X10_285 hP 0 rfl rfl dX10_number_118 ?_
                    refine lv_iconst (v := 1) hx hb dX10_number_121 rfl ?_
                    refine lv_iadd hx hb dX10_number_122 ?_
                    refine lv_topi (fun z60 ez60 => ?_)
                    have h61 := ib_add h19 (ib_c 1 1 1 rfl) rfl
                    rw [← ez60] at h61
                    have h62 : ib z60 1 1600 := ib_w 1 1600 h61.1 rfl
                    have Ez60 := lf_add h61.2 (lf_rf J49_c0_2) (lf_lc 1 (1 : Int) rfl)
                    refine k_put C0 fp_X10_285 hP hD hS 0 rfl rfl rfl (Nat.le_of_ble_eq_true rfl) dX10_number_123 (fun H locs hP hD hS => ?_)
                    replace hP : va_P (dC, dI) vwCl [(a_this, .inr (10, mfs rm x_taped z60 x_end x_ended x_bad x_badPlace x_fault x_faultPlace x_namePlace x_awayTold x_away x_coded x_statements x_isCrossing x_textKind x_askSecond x_redMany x_isOpen x_lastGreen x_greenTo x_isCycleGreen x_stillGreen x_rowMany x_fitMany x_fitRules x_fitGreen x_undoable x_newest x_seeded x_qCoded x_qWaits x_qOpened x_qBase x_qPiled x_qAnswer x_qIsNew x_octets)), (wi_rm0_0_1600_0 rm cy g_tape)] H := hP
                    replace hD := k_D hP hD
                    refine lv_goto (tgt := 49) hx hb dX10_number_126 rfl ?_
                    exact ih49 J49_l3 z60 z59 H locs ls (ib_w 0 1599 hJ49_l3 rfl) (ib_w 0 1600 h62 rfl) (ib_w 1 1600 hK49_x_end rfl) (ib_w 0 0 hK49_x_bad rfl) (by have := hJ49_lin0; omega) (by have := h61.2; have : (1 : Int32).toInt = 1 := rfl; have := hJ49_lin1; omega) (by rw [← hK49]; rw [lf_u Ez60]; rw [lf_u Ez59]; exact hq) (Or.inl (by have q0 := h61.2; have q1 : (1 : Int32).toInt = 1 := rfl; rcases hJ49_gh with q | q <;> first | omega | (have := congrArg Int32.toInt q.1; omega))) (by have := h61.2; have : (1 : Int32).toInt = 1 := rfl; omega) hP hD hS (lv_sub hl [1, 2, 3, 4, 0] rfl)
                · replace hq := lf_pos hq (lf_eq Ez52 (lf_lc 4 (4 : Int) rfl) c55)
                  have h63 := ib_eq h54 (ib_c 4 4 4 rfl) c55
                  have h64 : ib z52 4 4 := ib_w 4 4 h63.1 rfl
                  have h65 : ib J49_c0_2 4 1599 := ⟨by have := h53.2; have := (h64).1; have := (h64).2; have := (h19).1; have := (h19).2; have := (hJ49_l3).1; have := (hJ49_l3).2; omega, by have := h53.2; have := (h64).1; have := (h64).2; have := (h19).1; have := (h19).2; have := (hJ49_l3).1; have := (hJ49_l3).2; omega⟩
                  have h66 : ib J49_l3 0 1595 := ⟨by have := h53.2; have := (h64).1; have := (h64).2; have := (h19).1; have := (h19).2; have := (hJ49_l3).1; have := (hJ49_l3).2; omega, by have := h53.2; have := (h64).1; have := (h64).2; have := (h19).1; have := (h19).2; have := (hJ49_l3).1; have := (hJ49_l3).2; omega⟩
                  have h67 : ib x_at 0 1595 := ⟨(h20).1, by have := (h20).2; have := hJ49_lin0; have := (h66).2; omega⟩
                  refine lv_aload_n hx hb dX10_number_85 rfl (lv_at hl 0 rfl) ?_
                  refine lv_iconst (v := 1) hx hb dX10_number_86 rfl ?_
                  refine lv_aload_n hx hb dX10_number_87 rfl (lv_at hl 0 rfl) ?_
                  refine k_get C0 fg_X10_285 hP 0 rfl rfl dX10_number_88 ?_
                  refine k_jvm hP hD hS hA [0] [false, true] rfl rfl rfl 0 0 (Nat.le_of_ble_eq_true rfl) (Nat.le_of_ble_eq_true rfl) (fun hPc hDc => k_runV (As := [.int 1, .int J49_c0_2]) (rest := []) C0 hZ hS hA (s_X10_fail_a0_1_f_bad_0_0 l dC dI cy sq a_this rm x_taped J49_c0_2 x_end x_ended x_bad x_badPlace x_fault x_faultPlace x_namePlace x_awayTold x_away x_coded x_statements x_isCrossing x_textKind x_askSecond x_redMany x_isOpen x_lastGreen x_greenTo x_isCycleGreen x_stillGreen x_rowMany x_fitMany x_fitRules x_fitGreen x_undoable x_newest x_seeded x_qCoded x_qWaits x_qOpened x_qBase x_qPiled x_qAnswer x_qIsNew x_octets J49_c0_2 (ib_w 0 0 hK49_x_bad rfl)) mV_X10_308 hPc hDc rfl rfl rfl hl rfl rfl (Nat.le_of_ble_eq_true rfl) ⟨(Nat.le_of_ble_eq_true rfl), (Nat.le_of_ble_eq_true rfl)⟩ ⟨(Nat.le_of_ble_eq_true rfl), (Nat.le_of_ble_eq_true rfl)⟩ dX10_number_91) (fun u69 H locs hw hP hD hS => ?_)
                  try dsimp only at hP hD hw
                  replace hP : va_P (dC, dI) vwCl [(wi_rm0_0_1600_0 rm cy g_tape), (a_this, .inr (10, mfs rm x_taped J49_c0_2 x_end x_ended 1 J49_c0_2 x_fault x_faultPlace x_namePlace x_awayTold x_away x_coded x_statements x_isCrossing x_textKind x_askSecond x_redMany x_isOpen x_lastGreen x_greenTo x_isCycleGreen x_stillGreen x_rowMany x_fitMany x_fitRules x_fitGreen x_undoable x_newest x_seeded x_qCoded x_qWaits x_qOpened x_qBase x_qPiled x_qAnswer x_qIsNew x_octets))] H := hP
                  replace hD := k_D hP hD
                  refine lv_iconst (v := 0) hx hb dX10_number_94 rfl ?_
                  subst hQ; exact k_iret hx hb hr hlk rfl ((J49_c0_2, x_ended, 1, J49_c0_2)) hS ⟨ib_w 0 1600 h65 rfl, fun q => absurd q (by decide), fun q => absurd q (by decide), (by have := hJ49_lin1; omega), fun q => absurd q (by decide), (hO.symm.trans (by try simp only [show (0 : Int32).toInt = (0 : Int) from rfl]; try simp only [show (1 : Int32).toInt = (1 : Int) from rfl]; exact hq))⟩ (hP.sub [1, 0] rfl) (hD.sub [1, 0] rfl rfl) (Nat.le_of_ble_eq_true rfl) (Nat.le_of_ble_eq_true rfl) dX10_number_95
  refine lv_aload_n hx hb dX10_number_0 rfl (lv_at hl 0 rfl) ?_
  refine k_get C0 fg_X10_279 hP 0 rfl rfl dX10_number_1 ?_
  refine lv_if_eq (tgt := 9) hx hb dX10_number_4 rfl (fun c70 => ?_) (fun c70 => ?_)
  · as_aux_lemma =>
      replace hq := lf_pos hq (lf_eq (lf_rf x_bad) (lf_lc 0 (0 : Int) rfl) c70)
      have h71 := ib_eq (ib_any x_bad) (ib_c 0 0 0 rfl) c70
      have h72 : ib x_bad 0 0 := ib_w 0 0 h71.1 rfl
      refine lv_aload_n hx hb dX10_number_9 rfl (lv_at hl 0 rfl) ?_
      refine k_jim hP hD hS hA [0, 1] [] rfl rfl rfl 0 0 (Nat.le_of_ble_eq_true rfl) (Nat.le_of_ble_eq_true rfl) (fun hPc hDc => k_runV (As := []) (rest := []) C0 hZ hS hA (s_X10_look l dC dI cy sq a_this rm x_taped x_at x_end x_ended x_bad x_badPlace x_fault x_faultPlace x_namePlace x_awayTold x_away x_coded x_statements x_isCrossing x_textKind x_askSecond x_redMany x_isOpen x_lastGreen x_greenTo x_isCycleGreen x_stillGreen x_rowMany x_fitMany x_fitRules x_fitGreen x_undoable x_newest x_seeded x_qCoded x_qWaits x_qOpened x_qBase x_qPiled x_qAnswer x_qIsNew x_octets g_tape (ib_w 0 1600 hx_at rfl) (ib_w 0 1600 hx_end rfl) hg_tape) mV_X10_291 hPc hDc rfl rfl rfl hl rfl rfl (Nat.le_of_ble_eq_true rfl) ⟨(Nat.le_of_ble_eq_true rfl), (Nat.le_of_ble_eq_true rfl)⟩ ⟨(Nat.le_of_ble_eq_true rfl), (Nat.le_of_ble_eq_true rfl)⟩ dX10_number_10) (fun r73 u74 H locs hw hP hD hS => ?_)
      obtain ⟨v75, ev75⟩ : ∃ z, z = u74 := ⟨_, rfl⟩; subst ev75
      try dsimp only at hP hD hw
      replace hP : va_P (dC, dI) vwCl [(a_this, .inr (10, mfs rm x_taped v75 x_end x_ended x_bad x_badPlace x_fault x_faultPlace x_namePlace x_awayTold x_away x_coded x_statements x_isCrossing x_textKind x_askSecond x_redMany x_isOpen x_lastGreen x_greenTo x_isCycleGreen x_stillGreen x_rowMany x_fitMany x_fitRules x_fitGreen x_undoable x_newest x_seeded x_qCoded x_qWaits x_qOpened x_qBase x_qPiled x_qAnswer x_qIsNew x_octets)), (wi_rm0_0_1600_0 rm cy g_tape)] H := hP
      replace hD := k_D hP hD
      obtain ⟨h76, h77, h78, h79, h80, h81, h82, h83, h84, h85⟩ := hw
      replace hq := lf_p1 hq h85
      refine k_jim hP hD hS hA [] [true, true] rfl rfl rfl 0 0 (Nat.le_of_ble_eq_true rfl) (Nat.le_of_ble_eq_true rfl) (fun hPc hDc => k_runS (As := [.int r73]) (rest := []) C0 hZ hS hA (s_X10_isDigit l dC dI cy sq r73 ) mS_X10_315 hPc hDc hl rfl rfl (Nat.le_of_ble_eq_true rfl) ⟨(Nat.le_of_ble_eq_true rfl), (Nat.le_of_ble_eq_true rfl)⟩ ⟨(Nat.le_of_ble_eq_true rfl), (Nat.le_of_ble_eq_true rfl)⟩ dX10_number_13) (fun r86 u87 H locs hw hP hD hS => ?_)
      try dsimp only at hP hD hw
      replace hP : va_P (dC, dI) vwCl [(a_this, .inr (10, mfs rm x_taped v75 x_end x_ended x_bad x_badPlace x_fault x_faultPlace x_namePlace x_awayTold x_away x_coded x_statements x_isCrossing x_textKind x_askSecond x_redMany x_isOpen x_lastGreen x_greenTo x_isCycleGreen x_stillGreen x_rowMany x_fitMany x_fitRules x_fitGreen x_undoable x_newest x_seeded x_qCoded x_qWaits x_qOpened x_qBase x_qPiled x_qAnswer x_qIsNew x_octets)), (wi_rm0_0_1600_0 rm cy g_tape)] H := hP
      replace hD := k_D hP hD
      obtain ⟨h88, h89, h90, h91⟩ := hw
      replace hq := lf_b1 hq h91
      refine lv_if_eq (tgt := 30) hx hb dX10_number_16 rfl (fun c92 => ?_) (fun c92 => ?_)
      · replace hq := lf_pos hq (lf_eq (lf_rf r86) (lf_lc 0 (0 : Int) rfl) c92)
        have h93 := ib_eq h88 (ib_c 0 0 0 rfl) c92
        have h94 : ib r86 0 0 := ib_w 0 0 h93.1 rfl
        refine lv_aload_n hx hb dX10_number_30 rfl (lv_at hl 0 rfl) ?_
        refine lv_iconst (v := 1) hx hb dX10_number_31 rfl ?_
        refine lv_aload_n hx hb dX10_number_32 rfl (lv_at hl 0 rfl) ?_
        refine k_get C0 fg_X10_285 hP 0 rfl rfl dX10_number_33 ?_
        refine k_jvm hP hD hS hA [0] [false, true] rfl rfl rfl 0 0 (Nat.le_of_ble_eq_true rfl) (Nat.le_of_ble_eq_true rfl) (fun hPc hDc => k_runV (As := [.int 1, .int v75]) (rest := []) C0 hZ hS hA (s_X10_fail_a0_1_f_bad_0_0 l dC dI cy sq a_this rm x_taped v75 x_end x_ended x_bad x_badPlace x_fault x_faultPlace x_namePlace x_awayTold x_away x_coded x_statements x_isCrossing x_textKind x_askSecond x_redMany x_isOpen x_lastGreen x_greenTo x_isCycleGreen x_stillGreen x_rowMany x_fitMany x_fitRules x_fitGreen x_undoable x_newest x_seeded x_qCoded x_qWaits x_qOpened x_qBase x_qPiled x_qAnswer x_qIsNew x_octets v75 (ib_w 0 0 h72 rfl)) mV_X10_308 hPc hDc rfl rfl rfl hl rfl rfl (Nat.le_of_ble_eq_true rfl) ⟨(Nat.le_of_ble_eq_true rfl), (Nat.le_of_ble_eq_true rfl)⟩ ⟨(Nat.le_of_ble_eq_true rfl), (Nat.le_of_ble_eq_true rfl)⟩ dX10_number_36) (fun u96 H locs hw hP hD hS => ?_)
        try dsimp only at hP hD hw
        replace hP : va_P (dC, dI) vwCl [(wi_rm0_0_1600_0 rm cy g_tape), (a_this, .inr (10, mfs rm x_taped v75 x_end x_ended 1 v75 x_fault x_faultPlace x_namePlace x_awayTold x_away x_coded x_statements x_isCrossing x_textKind x_askSecond x_redMany x_isOpen x_lastGreen x_greenTo x_isCycleGreen x_stillGreen x_rowMany x_fitMany x_fitRules x_fitGreen x_undoable x_newest x_seeded x_qCoded x_qWaits x_qOpened x_qBase x_qPiled x_qAnswer x_qIsNew x_octets))] H := hP
        replace hD := k_D hP hD
        refine lv_iconst (v := 0) hx hb dX10_number_39 rfl ?_
        subst hQ; exact k_iret hx hb hr hlk rfl ((v75, x_ended, 1, v75)) hS ⟨ib_w 0 1600 h76 rfl, fun q => absurd q (by decide), fun q => absurd q (by decide), (by have := h81; omega), fun q => absurd q (by decide), (hO.symm.trans (by try simp only [show (0 : Int32).toInt = (0 : Int) from rfl]; try simp only [show (1 : Int32).toInt = (1 : Int) from rfl]; exact hq))⟩ (hP.sub [1, 0] rfl) (hD.sub [1, 0] rfl rfl) (Nat.le_of_ble_eq_true rfl) (Nat.le_of_ble_eq_true rfl) dX10_number_40
      · as_aux_lemma =>
          replace hq := lf_neg hq (lf_ne (lf_rf r86) (lf_lc 0 (0 : Int) rfl) c92)
          have h97 : ib r86 1 1 := ib_w 1 1 (ib_ne_lo 0 h88 rfl c92) rfl
          have h98 : ib r73 48 57 := ib_w 48 57 (ib_two h77 (h89 (ib_nz h97 rfl))) rfl
          have h99 : ib v75 0 1599 := ib_w 0 1599 (ib_two h76 (h78 (ib_nc (-1) h98 rfl))) rfl
          have h100 : ib x_at 0 1599 := ib_w 0 1599 (ib_two hx_at (h79 (ib_nc (-1) h98 rfl))) rfl
          have h101 : ib x_end 1 1600 := ib_w 1 1600 (ib_two hx_end (h80 (ib_nc (-1) h98 rfl))) rfl
          refine lv_aload_n hx hb dX10_number_19 rfl (lv_at hl 0 rfl) ?_
          refine k_get C0 fg_X10_285 hP 0 rfl rfl dX10_number_20 ?_
          refine lv_aload_n hx hb dX10_number_23 rfl (lv_at hl 0 rfl) ?_
          refine k_get C0 fg_X10_299 hP 0 rfl rfl dX10_number_24 ?_
          refine lv_icmp_ne (tgt := 41) hx hb dX10_number_27 rfl (fun c102 => ?_) (fun c102 => ?_)
          · replace hq := lf_neg hq (lf_ne (lf_rf v75) (lf_rf x_ended) c102)
            refine lv_aload_n hx hb dX10_number_41 rfl (lv_at hl 0 rfl) ?_
            refine k_get C0 fg_X10_285 hP 0 rfl rfl dX10_number_42 ?_
            refine lv_istore_n (lv' := [(3, .int v75), (0, .ref a_this), (1, .int 1), (2, .int 60)]) hx hb dX10_number_45 rfl hl (Nat.le_of_ble_eq_true rfl) rfl (fun ls hl => ?_)
            refine lv_iconst (v := 0) hx hb dX10_number_46 rfl ?_
            refine lv_istore (lv' := [(4, .int 0), (3, .int v75), (0, .ref a_this), (1, .int 1), (2, .int 60)]) hx hb dX10_number_47 hl (Nat.le_of_ble_eq_true rfl) rfl (fun ls hl => ?_)
            exact jn49 1602 v75 v75 0 H locs ls (ib_w 0 1599 h99 rfl) (ib_w 0 1600 h99 rfl) (ib_w 1 1600 h101 rfl) (ib_w 0 0 h72 rfl) (by have := h81; omega) (by have := h81; omega) (by try simp only [show (0 : Int32).toInt = (0 : Int) from rfl]; exact hq) (Or.inr ⟨rfl, by rw [(h82 (ib_nc (-1) h98 rfl)).1]; exact ib_w 48 57 h98 rfl, (h82 (ib_nc (-1) h98 rfl)).2⟩) (by have := h99; unfold ib at this; omega) hP hD hS (lv_sub hl [2, 3, 4, 1, 0] rfl)
          · replace hq := lf_pos hq (lf_eq (lf_rf v75) (lf_rf x_ended) c102)
            have h103 := ib_eq h99 (ib_any x_ended) c102
            have h104 : ib x_ended 0 1599 := ib_w 0 1599 h103.2 rfl
            refine lv_aload_n hx hb dX10_number_30 rfl (lv_at hl 0 rfl) ?_
            refine lv_iconst (v := 1) hx hb dX10_number_31 rfl ?_
            refine lv_aload_n hx hb dX10_number_32 rfl (lv_at hl 0 rfl) ?_
            refine k_get C0 fg_X10_285 hP 0 rfl rfl dX10_number_33 ?_
            refine k_jvm hP hD hS hA [0] [false, true] rfl rfl rfl 0 0 (Nat.le_of_ble_eq_true rfl) (Nat.le_of_ble_eq_true rfl) (fun hPc hDc => k_runV (As := [.int 1, .int v75]) (rest := []) C0 hZ hS hA (s_X10_fail_a0_1_f_bad_0_0 l dC dI cy sq a_this rm x_taped v75 x_end x_ended x_bad x_badPlace x_fault x_faultPlace x_namePlace x_awayTold x_away x_coded x_statements x_isCrossing x_textKind x_askSecond x_redMany x_isOpen x_lastGreen x_greenTo x_isCycleGreen x_stillGreen x_rowMany x_fitMany x_fitRules x_fitGreen x_undoable x_newest x_seeded x_qCoded x_qWaits x_qOpened x_qBase x_qPiled x_qAnswer x_qIsNew x_octets v75 (ib_w 0 0 h72 rfl)) mV_X10_308 hPc hDc rfl rfl rfl hl rfl rfl (Nat.le_of_ble_eq_true rfl) ⟨(Nat.le_of_ble_eq_true rfl), (Nat.le_of_ble_eq_true rfl)⟩ ⟨(Nat.le_of_ble_eq_true rfl), (Nat.le_of_ble_eq_true rfl)⟩ dX10_number_36) (fun u106 H locs hw hP hD hS => ?_)
            try dsimp only at hP hD hw
            replace hP : va_P (dC, dI) vwCl [(wi_rm0_0_1600_0 rm cy g_tape), (a_this, .inr (10, mfs rm x_taped v75 x_end x_ended 1 v75 x_fault x_faultPlace x_namePlace x_awayTold x_away x_coded x_statements x_isCrossing x_textKind x_askSecond x_redMany x_isOpen x_lastGreen x_greenTo x_isCycleGreen x_stillGreen x_rowMany x_fitMany x_fitRules x_fitGreen x_undoable x_newest x_seeded x_qCoded x_qWaits x_qOpened x_qBase x_qPiled x_qAnswer x_qIsNew x_octets))] H := hP
            replace hD := k_D hP hD
            refine lv_iconst (v := 0) hx hb dX10_number_39 rfl ?_
            subst hQ; exact k_iret hx hb hr hlk rfl ((v75, x_ended, 1, v75)) hS ⟨ib_w 0 1600 h99 rfl, fun q => absurd q (by decide), fun q => absurd q (by decide), (by have := h81; omega), fun q => absurd q (by decide), (hO.symm.trans (by try simp only [show (0 : Int32).toInt = (0 : Int) from rfl]; try simp only [show (1 : Int32).toInt = (1 : Int) from rfl]; exact hq))⟩ (hP.sub [1, 0] rfl) (hD.sub [1, 0] rfl rfl) (Nat.le_of_ble_eq_true rfl) (Nat.le_of_ble_eq_true rfl) dX10_number_40
  · replace hq := lf_neg hq (lf_ne (lf_rf x_bad) (lf_lc 0 (0 : Int) rfl) c70)
    refine lv_iconst (v := 0) hx hb dX10_number_7 rfl ?_
    subst hQ; exact k_iret hx hb hr hlk rfl ((x_at, x_ended, x_bad, x_badPlace)) hS ⟨ib_w 0 1600 hx_at rfl, fun q => q, fun q => absurd q c70, (by omega), fun q => absurd q c70, (hO.symm.trans (by try simp only [show (0 : Int32).toInt = (0 : Int) from rfl]; exact hq))⟩ hP hD (Nat.le_of_ble_eq_true rfl) (Nat.le_of_ble_eq_true rfl) dX10_number_8
set_option maxHeartbeats 4000000 in
set_option maxRecDepth 100000 in
theorem s_X10_barTold (l : Launch) (dC : Nat → ClassId) (dI : Nat → Nat → Nat) (cy : Nat → ClassId) (sq : Nat → Nat) (a_this : Nat) (rm : Nat → Nat) (x_taped : Int32) (x_at : Int32) (x_end : Int32) (x_ended : Int32) (x_bad : Int32) (x_badPlace : Int32) (x_fault : Int32) (x_faultPlace : Int32) (x_namePlace : Int32) (x_awayTold : Int32) (x_away : Int32) (x_coded : Int32) (x_statements : Int32) (x_isCrossing : Int32) (x_textKind : Int32) (x_askSecond : Int32) (x_redMany : Int32) (x_isOpen : Int32) (x_lastGreen : Int32) (x_greenTo : Int32) (x_isCycleGreen : Int32) (x_stillGreen : Int32) (x_rowMany : Int32) (x_fitMany : Int32) (x_fitRules : Int32) (x_fitGreen : Int32) (x_undoable : Int32) (x_newest : Int32) (x_seeded : Int64) (x_qCoded : Int32) (x_qWaits : Int32) (x_qOpened : Int32) (x_qBase : Int32) (x_qPiled : Int32) (x_qAnswer : Int64) (x_qIsNew : Int32) (x_octets : Int32) (g_tape : Nat → Int32) (g_cycleWord : Nat → Int32) (g_greenWord : Nat → Int32) (g_ruleWord : Nat → Int32) (g_leastWord : Nat → Int32) (g_bar : Nat → Int32) (hx_at : ib x_at 0 1600) (hx_end : ib x_end 0 1600) (hg_tape : ia g_tape 1600 0 255) (hg_bar_4 : ib (g_bar 4) 0 120) : k_Met l yX10_barTold cX10_barTold 1 none { frames := 4, cells := 0, slots := 0, locals := 85 } dC dI cy sq [.ref a_this] [(a_this, .inr (10, mfs rm x_taped x_at x_end x_ended x_bad x_badPlace x_fault x_faultPlace x_namePlace x_awayTold x_away x_coded x_statements x_isCrossing x_textKind x_askSecond x_redMany x_isOpen x_lastGreen x_greenTo x_isCycleGreen x_stillGreen x_rowMany x_fitMany x_fitRules x_fitGreen x_undoable x_newest x_seeded x_qCoded x_qWaits x_qOpened x_qBase x_qPiled x_qAnswer x_qIsNew x_octets)), (wi_rm0_0_1600_0 rm cy g_tape), (wi_rm10_2_5_0 rm cy g_cycleWord), (wi_rm43_0_8_0 rm cy g_bar), (wi_rm11_2_5_0 rm cy g_greenWord), (wi_rm12_2_4_0 rm cy g_ruleWord), (wi_rm13_2_5_0 rm cy g_leastWord)] (k_Qv dC dI (fun (u : Int32 × Int32 × Int32 × Int32 × (Nat → Int32)) => match u with | (n0, n1, n2, n3, n4) => ib n0 0 1600 ∧ ib (n4 4) 0 120 ∧ (n2 = 0 → x_bad = 0) ∧ (n2 = 0 → ib (n4 0) 10 120) ∧ (1 * x_at.toInt + (-1) * n0.toInt ≤ 0) ∧ n4 4 = g_bar 4 ∧ (F_X10_barTold (Int32.toInt x_at) (Int32.toInt x_end) (Int32.toInt x_ended) (Int32.toInt x_bad) (Int32.toInt x_badPlace) (lf_A g_tape) (lf_A g_cycleWord) (lf_A g_greenWord) (lf_A g_ruleWord) (lf_A g_leastWord) (lf_A g_bar) = ((Int32.toInt n0), (Int32.toInt n1), (Int32.toInt n2), (Int32.toInt n3), (lf_A n4)))) (fun u : Int32 × Int32 × Int32 × Int32 × (Nat → Int32) => match u with | (n0, n1, n2, n3, n4) => [(a_this, .inr (10, mfs rm x_taped n0 x_end n1 n2 n3 x_fault x_faultPlace x_namePlace x_awayTold x_away x_coded x_statements x_isCrossing x_textKind x_askSecond x_redMany x_isOpen x_lastGreen x_greenTo x_isCycleGreen x_stillGreen x_rowMany x_fitMany x_fitRules x_fitGreen x_undoable x_newest x_seeded x_qCoded x_qWaits x_qOpened x_qBase x_qPiled x_qAnswer x_qIsNew x_octets)), (wi_rm0_0_1600_0 rm cy g_tape), (wi_rm10_2_5_0 rm cy g_cycleWord), (wi_rm43_0_8_0 rm cy n4), (wi_rm11_2_5_0 rm cy g_greenWord), (wi_rm12_2_4_0 rm cy g_ruleWord), (wi_rm13_2_5_0 rm cy g_leastWord)])) := by
  refine k_ofW2 (by decide +kernel) (Nat.le_of_ble_eq_true rfl) ?_
  intro p e s m below meth c A ls H locs args Q hQ C0 hZ hr hlk hin hP hD hA hS hl
  have C0 : k_cx p s m args c cX10_barTold 1 RX10 dC dI cy sq := C0
  have hx := C0.1
  have hb := C0.2.1
  have hl : lv_has ls 1 [(0, .ref a_this)] := hl
  obtain ⟨O, hO⟩ : ∃ o, o = F_X10_barTold (Int32.toInt x_at) (Int32.toInt x_end) (Int32.toInt x_ended) (Int32.toInt x_bad) (Int32.toInt x_badPlace) (lf_A g_tape) (lf_A g_cycleWord) (lf_A g_greenWord) (lf_A g_ruleWord) (lf_A g_leastWord) (lf_A g_bar) := ⟨_, rfl⟩
  have hq := hO
  unfold F_X10_barTold at hq
  refine lv_aload_n hx hb dX10_barTold_0 rfl (lv_at hl 0 rfl) ?_
  refine lv_aload_n hx hb dX10_barTold_1 rfl (lv_at hl 0 rfl) ?_
  refine k_get C0 fg_X10_20 hP 0 rfl rfl dX10_barTold_2 ?_
  refine k_jvm hP hD hS hA [0, 1, 2] [false, false, false, true, true, true, true] rfl rfl rfl 0 0 (Nat.le_of_ble_eq_true rfl) (Nat.le_of_ble_eq_true rfl) (fun hPc hDc => k_runV (As := [.ref (rm 10)]) (rest := []) C0 hZ hS hA (s_X10_asks_r5 l dC dI cy sq a_this rm x_taped x_at x_end x_ended x_bad x_badPlace x_fault x_faultPlace x_namePlace x_awayTold x_away x_coded x_statements x_isCrossing x_textKind x_askSecond x_redMany x_isOpen x_lastGreen x_greenTo x_isCycleGreen x_stillGreen x_rowMany x_fitMany x_fitRules x_fitGreen x_undoable x_newest x_seeded x_qCoded x_qWaits x_qOpened x_qBase x_qPiled x_qAnswer x_qIsNew x_octets g_tape (rm 10) g_cycleWord (ib_w 0 1600 hx_at rfl) (ib_w 0 1600 hx_end rfl) hg_tape) mV_X10_350 hPc hDc rfl rfl rfl hl rfl rfl (Nat.le_of_ble_eq_true rfl) ⟨(Nat.le_of_ble_eq_true rfl), (Nat.le_of_ble_eq_true rfl)⟩ ⟨(Nat.le_of_ble_eq_true rfl), (Nat.le_of_ble_eq_true rfl)⟩ dX10_barTold_5) (fun u2 H locs hw hP hD hS => ?_)
  obtain ⟨v3, v4, v5, v6⟩ := u2
  try dsimp only at hP hD hw
  replace hP : va_P (dC, dI) vwCl [(wi_rm43_0_8_0 rm cy g_bar), (wi_rm11_2_5_0 rm cy g_greenWord), (wi_rm12_2_4_0 rm cy g_ruleWord), (wi_rm13_2_5_0 rm cy g_leastWord), (a_this, .inr (10, mfs rm x_taped v3 x_end v4 v5 v6 x_fault x_faultPlace x_namePlace x_awayTold x_away x_coded x_statements x_isCrossing x_textKind x_askSecond x_redMany x_isOpen x_lastGreen x_greenTo x_isCycleGreen x_stillGreen x_rowMany x_fitMany x_fitRules x_fitGreen x_undoable x_newest x_seeded x_qCoded x_qWaits x_qOpened x_qBase x_qPiled x_qAnswer x_qIsNew x_octets)), (wi_rm0_0_1600_0 rm cy g_tape), (wi_rm10_2_5_0 rm cy g_cycleWord)] H := hP
  replace hD := k_D hP hD
  obtain ⟨h7, h8, h9, h10, h11⟩ := hw
  replace hq := lf_p1 hq h11
  replace hq := lf_p1 hq rfl
  replace hq := lf_p1 hq rfl
  refine lv_aload_n hx hb dX10_barTold_8 rfl (lv_at hl 0 rfl) ?_
  refine k_get C0 fg_X10_118 hP 4 rfl rfl dX10_barTold_9 ?_
  refine lv_iconst (v := 0) hx hb dX10_barTold_12 rfl ?_
  refine lv_aload_n hx hb dX10_barTold_13 rfl (lv_at hl 0 rfl) ?_
  refine lv_bipush (v := 10) hx hb dX10_barTold_14 rfl ?_
  refine lv_bipush (v := 120) hx hb dX10_barTold_16 rfl ?_
  refine k_jim hP hD hS hA [4, 5] [true, true, true, true, false, false, true] rfl rfl rfl 0 0 (Nat.le_of_ble_eq_true rfl) (Nat.le_of_ble_eq_true rfl) (fun hPc hDc => k_runV (As := [.int 10, .int 120]) (rest := [.int 0, .ref (rm 43)]) C0 hZ hS hA (s_X10_number_a0_10_a1_120 l dC dI cy sq a_this rm x_taped v3 x_end v4 v5 v6 x_fault x_faultPlace x_namePlace x_awayTold x_away x_coded x_statements x_isCrossing x_textKind x_askSecond x_redMany x_isOpen x_lastGreen x_greenTo x_isCycleGreen x_stillGreen x_rowMany x_fitMany x_fitRules x_fitGreen x_undoable x_newest x_seeded x_qCoded x_qWaits x_qOpened x_qBase x_qPiled x_qAnswer x_qIsNew x_octets g_tape (ib_w 0 1600 h7 rfl) (ib_w 0 1600 hx_end rfl) hg_tape) mV_X10_354 hPc hDc rfl rfl rfl hl rfl rfl (Nat.le_of_ble_eq_true rfl) ⟨(Nat.le_of_ble_eq_true rfl), (Nat.le_of_ble_eq_true rfl)⟩ ⟨(Nat.le_of_ble_eq_true rfl), (Nat.le_of_ble_eq_true rfl)⟩ dX10_barTold_18) (fun r12 u13 H locs hw hP hD hS => ?_)
  obtain ⟨v14, v15, v16, v17⟩ := u13
  try dsimp only at hP hD hw
  as_aux_lemma =>
    replace hP : va_P (dC, dI) vwCl [(wi_rm43_0_8_0 rm cy g_bar), (wi_rm11_2_5_0 rm cy g_greenWord), (wi_rm12_2_4_0 rm cy g_ruleWord), (wi_rm13_2_5_0 rm cy g_leastWord), (wi_rm10_2_5_0 rm cy g_cycleWord), (a_this, .inr (10, mfs rm x_taped v14 x_end v15 v16 v17 x_fault x_faultPlace x_namePlace x_awayTold x_away x_coded x_statements x_isCrossing x_textKind x_askSecond x_redMany x_isOpen x_lastGreen x_greenTo x_isCycleGreen x_stillGreen x_rowMany x_fitMany x_fitRules x_fitGreen x_undoable x_newest x_seeded x_qCoded x_qWaits x_qOpened x_qBase x_qPiled x_qAnswer x_qIsNew x_octets)), (wi_rm0_0_1600_0 rm cy g_tape)] H := hP
    replace hD := k_D hP hD
    obtain ⟨h18, h19, h20, h21, h22, h23⟩ := hw
    replace hq := lf_p1 hq h23
    replace hq := lf_p1 hq rfl
    replace hq := lf_p1 hq rfl
    replace hq := lf_p1 hq rfl
    refine va_iast hx hb C0.2.2.2.2.2.1 hP hD hS 0 0 rfl rfl (k_in 0 8 rfl) dX10_barTold_21 (fun H locs hP hD hS => ?_)
    have h25 : ib ((upd g_bar 0 r12) 0) (-2147483648) 2147483647 := by rw [pk_us]; exact (ib_any r12)
    have h26 : (upd g_bar 0 r12) 0 = r12 := pk_us
    have h27 : ib ((upd g_bar 0 r12) 4) 0 120 := by rw [pk_un (by decide)]; exact hg_bar_4
    have h28 : (upd g_bar 0 r12) 4 = (g_bar 4) := by rw [pk_un (by decide)]
    replace hP : va_P (dC, dI) vwCl [(wi_rm43_0_8_0 rm cy (upd g_bar 0 r12)), (wi_rm11_2_5_0 rm cy g_greenWord), (wi_rm12_2_4_0 rm cy g_ruleWord), (wi_rm13_2_5_0 rm cy g_leastWord), (wi_rm10_2_5_0 rm cy g_cycleWord), (a_this, .inr (10, mfs rm x_taped v14 x_end v15 v16 v17 x_fault x_faultPlace x_namePlace x_awayTold x_away x_coded x_statements x_isCrossing x_textKind x_askSecond x_redMany x_isOpen x_lastGreen x_greenTo x_isCycleGreen x_stillGreen x_rowMany x_fitMany x_fitRules x_fitGreen x_undoable x_newest x_seeded x_qCoded x_qWaits x_qOpened x_qBase x_qPiled x_qAnswer x_qIsNew x_octets)), (wi_rm0_0_1600_0 rm cy g_tape)] H := hP
    replace hD := k_D hP hD
    generalize h29E : upd g_bar 0 r12 = f24 at hP hD h25 h26 h27 h28
    have ef24 := h29E
    have Ef24 := lf_stn (X := (0 : Int)) ef24 (lf_ra g_bar) rfl (lf_rf r12)
    refine lv_aload_n hx hb dX10_barTold_22 rfl (lv_at hl 0 rfl) ?_
    refine lv_aload_n hx hb dX10_barTold_23 rfl (lv_at hl 0 rfl) ?_
    refine k_get C0 fg_X10_24 hP 5 rfl rfl dX10_barTold_24 ?_
    refine k_jvm hP hD hS hA [5, 6, 1] [true, false, true, true, true] rfl rfl rfl 0 0 (Nat.le_of_ble_eq_true rfl) (Nat.le_of_ble_eq_true rfl) (fun hPc hDc => k_runV (As := [.ref (rm 11)]) (rest := []) C0 hZ hS hA (s_X10_asks_r5 l dC dI cy sq a_this rm x_taped v14 x_end v15 v16 v17 x_fault x_faultPlace x_namePlace x_awayTold x_away x_coded x_statements x_isCrossing x_textKind x_askSecond x_redMany x_isOpen x_lastGreen x_greenTo x_isCycleGreen x_stillGreen x_rowMany x_fitMany x_fitRules x_fitGreen x_undoable x_newest x_seeded x_qCoded x_qWaits x_qOpened x_qBase x_qPiled x_qAnswer x_qIsNew x_octets g_tape (rm 11) g_greenWord (ib_w 0 1600 h18 rfl) (ib_w 0 1600 hx_end rfl) hg_tape) mV_X10_350 hPc hDc rfl rfl rfl hl rfl rfl (Nat.le_of_ble_eq_true rfl) ⟨(Nat.le_of_ble_eq_true rfl), (Nat.le_of_ble_eq_true rfl)⟩ ⟨(Nat.le_of_ble_eq_true rfl), (Nat.le_of_ble_eq_true rfl)⟩ dX10_barTold_27) (fun u31 H locs hw hP hD hS => ?_)
    obtain ⟨v32, v33, v34, v35⟩ := u31
    try dsimp only at hP hD hw
    replace hP : va_P (dC, dI) vwCl [(wi_rm43_0_8_0 rm cy f24), (wi_rm12_2_4_0 rm cy g_ruleWord), (wi_rm13_2_5_0 rm cy g_leastWord), (wi_rm10_2_5_0 rm cy g_cycleWord), (a_this, .inr (10, mfs rm x_taped v32 x_end v33 v34 v35 x_fault x_faultPlace x_namePlace x_awayTold x_away x_coded x_statements x_isCrossing x_textKind x_askSecond x_redMany x_isOpen x_lastGreen x_greenTo x_isCycleGreen x_stillGreen x_rowMany x_fitMany x_fitRules x_fitGreen x_undoable x_newest x_seeded x_qCoded x_qWaits x_qOpened x_qBase x_qPiled x_qAnswer x_qIsNew x_octets)), (wi_rm0_0_1600_0 rm cy g_tape), (wi_rm11_2_5_0 rm cy g_greenWord)] H := hP
    replace hD := k_D hP hD
    obtain ⟨h36, h37, h38, h39, h40⟩ := hw
    replace hq := lf_p1 hq h40
    replace hq := lf_p1 hq rfl
    replace hq := lf_p1 hq rfl
    refine lv_aload_n hx hb dX10_barTold_30 rfl (lv_at hl 0 rfl) ?_
    as_aux_lemma =>
      refine k_get C0 fg_X10_118 hP 4 rfl rfl dX10_barTold_31 ?_
      refine lv_iconst (v := 1) hx hb dX10_barTold_34 rfl ?_
      refine lv_aload_n hx hb dX10_barTold_35 rfl (lv_at hl 0 rfl) ?_
      refine lv_iconst (v := 1) hx hb dX10_barTold_36 rfl ?_
      refine lv_aload_n hx hb dX10_barTold_37 rfl (lv_at hl 0 rfl) ?_
      refine k_get C0 fg_X10_118 hP 4 rfl rfl dX10_barTold_38 ?_
      refine lv_iconst (v := 0) hx hb dX10_barTold_41 rfl ?_
      refine va_iald hx hb C0.2.2.2.2.2.1 hP 0 0 rfl rfl (k_in 0 8 rfl) dX10_barTold_42 ?_
      refine k_topi (y := f24 0) rfl ?_
      refine lv_bipush (v := 60) hx hb dX10_barTold_43 rfl ?_
      refine lv_icmp_le (tgt := 53) hx hb dX10_barTold_45 rfl (fun c41 => ?_) (fun c41 => ?_)
      · as_aux_lemma =>
          replace hq := lf_pos hq (lf_le (lf_pt Ef24 0) (lf_lc 60 (60 : Int) rfl) c41)
          have h42 := ib_le h25 (ib_c 60 60 60 rfl) c41
          have h43 : ib (f24 0) (-2147483648) 60 := ib_w (-2147483648) 60 h42.1 rfl
          refine lv_aload_n hx hb dX10_barTold_53 rfl (lv_at hl 0 rfl) ?_
          refine k_get C0 fg_X10_118 hP 4 rfl rfl dX10_barTold_54 ?_
          refine lv_iconst (v := 0) hx hb dX10_barTold_57 rfl ?_
          refine va_iald hx hb C0.2.2.2.2.2.1 hP 0 0 rfl rfl (k_in 0 8 rfl) dX10_barTold_58 ?_
          refine k_topi (y := f24 0) rfl ?_
          refine lv_iconst (v := 1) hx hb dX10_barTold_59 rfl ?_
          refine lv_isub hx hb dX10_barTold_60 ?_
          refine lv_topi (fun z44 ez44 => ?_)
          have Ez44 := lf_op lf_isub ez44 (lf_pt Ef24 0) (lf_lc 1 (1 : Int) rfl)
          refine k_jim hP hD hS hA [4, 5] [true, true, true, true, false, false, true] rfl rfl rfl 0 0 (Nat.le_of_ble_eq_true rfl) (Nat.le_of_ble_eq_true rfl) (fun hPc hDc => k_runV (As := [.int 1, .int z44]) (rest := [.int 1, .ref (rm 43)]) C0 hZ hS hA (s_X10_number_a0_1 l dC dI cy sq a_this rm x_taped v32 x_end v33 v34 v35 x_fault x_faultPlace x_namePlace x_awayTold x_away x_coded x_statements x_isCrossing x_textKind x_askSecond x_redMany x_isOpen x_lastGreen x_greenTo x_isCycleGreen x_stillGreen x_rowMany x_fitMany x_fitRules x_fitGreen x_undoable x_newest x_seeded x_qCoded x_qWaits x_qOpened x_qBase x_qPiled x_qAnswer x_qIsNew x_octets g_tape z44 (ib_w 0 1600 h36 rfl) (ib_w 0 1600 hx_end rfl) hg_tape) mV_X10_354 hPc hDc rfl rfl rfl hl rfl rfl (Nat.le_of_ble_eq_true rfl) ⟨(Nat.le_of_ble_eq_true rfl), (Nat.le_of_ble_eq_true rfl)⟩ ⟨(Nat.le_of_ble_eq_true rfl), (Nat.le_of_ble_eq_true rfl)⟩ dX10_barTold_61) (fun r45 u46 H locs hw hP hD hS => ?_)
          obtain ⟨v47, v48, v49, v50⟩ := u46
          try dsimp only at hP hD hw
          replace hP : va_P (dC, dI) vwCl [(wi_rm43_0_8_0 rm cy f24), (wi_rm12_2_4_0 rm cy g_ruleWord), (wi_rm13_2_5_0 rm cy g_leastWord), (wi_rm10_2_5_0 rm cy g_cycleWord), (wi_rm11_2_5_0 rm cy g_greenWord), (a_this, .inr (10, mfs rm x_taped v47 x_end v48 v49 v50 x_fault x_faultPlace x_namePlace x_awayTold x_away x_coded x_statements x_isCrossing x_textKind x_askSecond x_redMany x_isOpen x_lastGreen x_greenTo x_isCycleGreen x_stillGreen x_rowMany x_fitMany x_fitRules x_fitGreen x_undoable x_newest x_seeded x_qCoded x_qWaits x_qOpened x_qBase x_qPiled x_qAnswer x_qIsNew x_octets)), (wi_rm0_0_1600_0 rm cy g_tape)] H := hP
          replace hD := k_D hP hD
          obtain ⟨h51, h52, h53, h54, h55⟩ := hw
          have h55 := by have h9 := h55; rw [lf_u Ez44] at h9; exact h9
          replace hq := lf_p1 hq h55
          replace hq := lf_p1 hq rfl
          replace hq := lf_p1 hq rfl
          replace hq := lf_p1 hq rfl
          refine va_iast hx hb C0.2.2.2.2.2.1 hP hD hS 0 0 rfl rfl (k_in 1 8 rfl) dX10_barTold_64 (fun H locs hP hD hS => ?_)
          have h57 : ib ((upd f24 1 r45) 0) (-2147483648) 60 := by rw [pk_un (by decide)]; exact h43
          have h58 : (upd f24 1 r45) 0 = (f24 0) := by rw [pk_un (by decide)]
          have h59 : ib ((upd f24 1 r45) 4) 0 120 := by rw [pk_un (by decide)]; exact h27
          have h60 : (upd f24 1 r45) 4 = (f24 4) := by rw [pk_un (by decide)]
          replace hP : va_P (dC, dI) vwCl [(wi_rm43_0_8_0 rm cy (upd f24 1 r45)), (wi_rm12_2_4_0 rm cy g_ruleWord), (wi_rm13_2_5_0 rm cy g_leastWord), (wi_rm10_2_5_0 rm cy g_cycleWord), (wi_rm11_2_5_0 rm cy g_greenWord), (a_this, .inr (10, mfs rm x_taped v47 x_end v48 v49 v50 x_fault x_faultPlace x_namePlace x_awayTold x_away x_coded x_statements x_isCrossing x_textKind x_askSecond x_redMany x_isOpen x_lastGreen x_greenTo x_isCycleGreen x_stillGreen x_rowMany x_fitMany x_fitRules x_fitGreen x_undoable x_newest x_seeded x_qCoded x_qWaits x_qOpened x_qBase x_qPiled x_qAnswer x_qIsNew x_octets)), (wi_rm0_0_1600_0 rm cy g_tape)] H := hP
          replace hD := k_D hP hD
          as_aux_lemma =>
            generalize h61E : upd f24 1 r45 = f56 at hP hD h57 h58 h59 h60
            have ef56 := h61E
            have Ef56 := lf_stn (X := (1 : Int)) ef56 Ef24 rfl (lf_rf r45)
            refine lv_aload_n hx hb dX10_barTold_65 rfl (lv_at hl 0 rfl) ?_
            refine lv_aload_n hx hb dX10_barTold_66 rfl (lv_at hl 0 rfl) ?_
            refine k_get C0 fg_X10_27 hP 5 rfl rfl dX10_barTold_67 ?_
            refine k_jvm hP hD hS hA [5, 6, 1] [true, false, true, true, true] rfl rfl rfl 0 0 (Nat.le_of_ble_eq_true rfl) (Nat.le_of_ble_eq_true rfl) (fun hPc hDc => k_runV (As := [.ref (rm 12)]) (rest := []) C0 hZ hS hA (s_X10_asks_r4 l dC dI cy sq a_this rm x_taped v47 x_end v48 v49 v50 x_fault x_faultPlace x_namePlace x_awayTold x_away x_coded x_statements x_isCrossing x_textKind x_askSecond x_redMany x_isOpen x_lastGreen x_greenTo x_isCycleGreen x_stillGreen x_rowMany x_fitMany x_fitRules x_fitGreen x_undoable x_newest x_seeded x_qCoded x_qWaits x_qOpened x_qBase x_qPiled x_qAnswer x_qIsNew x_octets g_tape (rm 12) g_ruleWord (ib_w 0 1600 h51 rfl) (ib_w 0 1600 hx_end rfl) hg_tape) mV_X10_350 hPc hDc rfl rfl rfl hl rfl rfl (Nat.le_of_ble_eq_true rfl) ⟨(Nat.le_of_ble_eq_true rfl), (Nat.le_of_ble_eq_true rfl)⟩ ⟨(Nat.le_of_ble_eq_true rfl), (Nat.le_of_ble_eq_true rfl)⟩ dX10_barTold_70) (fun u63 H locs hw hP hD hS => ?_)
            obtain ⟨v64, v65, v66, v67⟩ := u63
            try dsimp only at hP hD hw
            replace hP : va_P (dC, dI) vwCl [(wi_rm43_0_8_0 rm cy f56), (wi_rm13_2_5_0 rm cy g_leastWord), (wi_rm10_2_5_0 rm cy g_cycleWord), (wi_rm11_2_5_0 rm cy g_greenWord), (a_this, .inr (10, mfs rm x_taped v64 x_end v65 v66 v67 x_fault x_faultPlace x_namePlace x_awayTold x_away x_coded x_statements x_isCrossing x_textKind x_askSecond x_redMany x_isOpen x_lastGreen x_greenTo x_isCycleGreen x_stillGreen x_rowMany x_fitMany x_fitRules x_fitGreen x_undoable x_newest x_seeded x_qCoded x_qWaits x_qOpened x_qBase x_qPiled x_qAnswer x_qIsNew x_octets)), (wi_rm0_0_1600_0 rm cy g_tape), (wi_rm12_2_4_0 rm cy g_ruleWord)] H := hP
            replace hD := k_D hP hD
            obtain ⟨h68, h69, h70, h71, h72⟩ := hw
            replace hq := lf_p1 hq h72
            replace hq := lf_p1 hq rfl
            replace hq := lf_p1 hq rfl
            refine lv_aload_n hx hb dX10_barTold_73 rfl (lv_at hl 0 rfl) ?_
            refine k_get C0 fg_X10_118 hP 4 rfl rfl dX10_barTold_74 ?_
            refine lv_iconst (v := 2) hx hb dX10_barTold_77 rfl ?_
            refine lv_aload_n hx hb dX10_barTold_78 rfl (lv_at hl 0 rfl) ?_
            refine lv_iconst (v := 0) hx hb dX10_barTold_79 rfl ?_
            refine lv_iconst (v := 2) hx hb dX10_barTold_80 rfl ?_
            refine k_jim hP hD hS hA [4, 5] [true, true, true, true, false, false, true] rfl rfl rfl 0 0 (Nat.le_of_ble_eq_true rfl) (Nat.le_of_ble_eq_true rfl) (fun hPc hDc => k_runV (As := [.int 0, .int 2]) (rest := [.int 2, .ref (rm 43)]) C0 hZ hS hA (s_X10_number_a0_0_a1_2 l dC dI cy sq a_this rm x_taped v64 x_end v65 v66 v67 x_fault x_faultPlace x_namePlace x_awayTold x_away x_coded x_statements x_isCrossing x_textKind x_askSecond x_redMany x_isOpen x_lastGreen x_greenTo x_isCycleGreen x_stillGreen x_rowMany x_fitMany x_fitRules x_fitGreen x_undoable x_newest x_seeded x_qCoded x_qWaits x_qOpened x_qBase x_qPiled x_qAnswer x_qIsNew x_octets g_tape (ib_w 0 1600 h68 rfl) (ib_w 0 1600 hx_end rfl) hg_tape) mV_X10_354 hPc hDc rfl rfl rfl hl rfl rfl (Nat.le_of_ble_eq_true rfl) ⟨(Nat.le_of_ble_eq_true rfl), (Nat.le_of_ble_eq_true rfl)⟩ ⟨(Nat.le_of_ble_eq_true rfl), (Nat.le_of_ble_eq_true rfl)⟩ dX10_barTold_81) (fun r73 u74 H locs hw hP hD hS => ?_)
            obtain ⟨v75, v76, v77, v78⟩ := u74
            try dsimp only at hP hD hw
            replace hP : va_P (dC, dI) vwCl [(wi_rm43_0_8_0 rm cy f56), (wi_rm13_2_5_0 rm cy g_leastWord), (wi_rm10_2_5_0 rm cy g_cycleWord), (wi_rm11_2_5_0 rm cy g_greenWord), (wi_rm12_2_4_0 rm cy g_ruleWord), (a_this, .inr (10, mfs rm x_taped v75 x_end v76 v77 v78 x_fault x_faultPlace x_namePlace x_awayTold x_away x_coded x_statements x_isCrossing x_textKind x_askSecond x_redMany x_isOpen x_lastGreen x_greenTo x_isCycleGreen x_stillGreen x_rowMany x_fitMany x_fitRules x_fitGreen x_undoable x_newest x_seeded x_qCoded x_qWaits x_qOpened x_qBase x_qPiled x_qAnswer x_qIsNew x_octets)), (wi_rm0_0_1600_0 rm cy g_tape)] H := hP
            replace hD := k_D hP hD
            obtain ⟨h79, h80, h81, h82, h83, h84⟩ := hw
            replace hq := lf_p1 hq h84
            replace hq := lf_p1 hq rfl
            replace hq := lf_p1 hq rfl
            as_aux_lemma =>
              replace hq := lf_p1 hq rfl
              refine va_iast hx hb C0.2.2.2.2.2.1 hP hD hS 0 0 rfl rfl (k_in 2 8 rfl) dX10_barTold_84 (fun H locs hP hD hS => ?_)
              have h86 : ib ((upd f56 2 r73) 0) (-2147483648) 60 := by rw [pk_un (by decide)]; exact h57
              have h87 : (upd f56 2 r73) 0 = (f56 0) := by rw [pk_un (by decide)]
              have h88 : ib ((upd f56 2 r73) 4) 0 120 := by rw [pk_un (by decide)]; exact h59
              have h89 : (upd f56 2 r73) 4 = (f56 4) := by rw [pk_un (by decide)]
              replace hP : va_P (dC, dI) vwCl [(wi_rm43_0_8_0 rm cy (upd f56 2 r73)), (wi_rm13_2_5_0 rm cy g_leastWord), (wi_rm10_2_5_0 rm cy g_cycleWord), (wi_rm11_2_5_0 rm cy g_greenWord), (wi_rm12_2_4_0 rm cy g_ruleWord), (a_this, .inr (10, mfs rm x_taped v75 x_end v76 v77 v78 x_fault x_faultPlace x_namePlace x_awayTold x_away x_coded x_statements x_isCrossing x_textKind x_askSecond x_redMany x_isOpen x_lastGreen x_greenTo x_isCycleGreen x_stillGreen x_rowMany x_fitMany x_fitRules x_fitGreen x_undoable x_newest x_seeded x_qCoded x_qWaits x_qOpened x_qBase x_qPiled x_qAnswer x_qIsNew x_octets)), (wi_rm0_0_1600_0 rm cy g_tape)] H := hP
              replace hD := k_D hP hD
              generalize h90E : upd f56 2 r73 = f85 at hP hD h86 h87 h88 h89
              have ef85 := h90E
              have Ef85 := lf_stn (X := (2 : Int)) ef85 Ef56 rfl (lf_rf r73)
              refine lv_aload_n hx hb dX10_barTold_85 rfl (lv_at hl 0 rfl) ?_
              refine lv_aload_n hx hb dX10_barTold_86 rfl (lv_at hl 0 rfl) ?_
              refine k_get C0 fg_X10_30 hP 5 rfl rfl dX10_barTold_87 ?_
              refine k_jvm hP hD hS hA [5, 6, 1] [true, false, true, true, true] rfl rfl rfl 0 0 (Nat.le_of_ble_eq_true rfl) (Nat.le_of_ble_eq_true rfl) (fun hPc hDc => k_runV (As := [.ref (rm 13)]) (rest := []) C0 hZ hS hA (s_X10_asks_r5 l dC dI cy sq a_this rm x_taped v75 x_end v76 v77 v78 x_fault x_faultPlace x_namePlace x_awayTold x_away x_coded x_statements x_isCrossing x_textKind x_askSecond x_redMany x_isOpen x_lastGreen x_greenTo x_isCycleGreen x_stillGreen x_rowMany x_fitMany x_fitRules x_fitGreen x_undoable x_newest x_seeded x_qCoded x_qWaits x_qOpened x_qBase x_qPiled x_qAnswer x_qIsNew x_octets g_tape (rm 13) g_leastWord (ib_w 0 1600 h79 rfl) (ib_w 0 1600 hx_end rfl) hg_tape) mV_X10_350 hPc hDc rfl rfl rfl hl rfl rfl (Nat.le_of_ble_eq_true rfl) ⟨(Nat.le_of_ble_eq_true rfl), (Nat.le_of_ble_eq_true rfl)⟩ ⟨(Nat.le_of_ble_eq_true rfl), (Nat.le_of_ble_eq_true rfl)⟩ dX10_barTold_90) (fun u92 H locs hw hP hD hS => ?_)
              obtain ⟨v93, v94, v95, v96⟩ := u92
              try dsimp only at hP hD hw
              replace hP : va_P (dC, dI) vwCl [(wi_rm43_0_8_0 rm cy f85), (wi_rm10_2_5_0 rm cy g_cycleWord), (wi_rm11_2_5_0 rm cy g_greenWord), (wi_rm12_2_4_0 rm cy g_ruleWord), (a_this, .inr (10, mfs rm x_taped v93 x_end v94 v95 v96 x_fault x_faultPlace x_namePlace x_awayTold x_away x_coded x_statements x_isCrossing x_textKind x_askSecond x_redMany x_isOpen x_lastGreen x_greenTo x_isCycleGreen x_stillGreen x_rowMany x_fitMany x_fitRules x_fitGreen x_undoable x_newest x_seeded x_qCoded x_qWaits x_qOpened x_qBase x_qPiled x_qAnswer x_qIsNew x_octets)), (wi_rm0_0_1600_0 rm cy g_tape), (wi_rm13_2_5_0 rm cy g_leastWord)] H := hP
              replace hD := k_D hP hD
              obtain ⟨h97, h98, h99, h100, h101⟩ := hw
              replace hq := lf_p1 hq h101
              replace hq := lf_p1 hq rfl
              replace hq := lf_p1 hq rfl
              refine lv_aload_n hx hb dX10_barTold_93 rfl (lv_at hl 0 rfl) ?_
              refine k_get C0 fg_X10_118 hP 4 rfl rfl dX10_barTold_94 ?_
              refine lv_iconst (v := 3) hx hb dX10_barTold_97 rfl ?_
              refine lv_aload_n hx hb dX10_barTold_98 rfl (lv_at hl 0 rfl) ?_
              refine lv_iconst (v := 0) hx hb dX10_barTold_99 rfl ?_
              refine lv_bipush (v := 99) hx hb dX10_barTold_100 rfl ?_
              refine k_jim hP hD hS hA [4, 5] [true, true, true, true, false, false, true] rfl rfl rfl 0 0 (Nat.le_of_ble_eq_true rfl) (Nat.le_of_ble_eq_true rfl) (fun hPc hDc => k_runV (As := [.int 0, .int 99]) (rest := [.int 3, .ref (rm 43)]) C0 hZ hS hA (s_X10_number_a0_0_a1_99 l dC dI cy sq a_this rm x_taped v93 x_end v94 v95 v96 x_fault x_faultPlace x_namePlace x_awayTold x_away x_coded x_statements x_isCrossing x_textKind x_askSecond x_redMany x_isOpen x_lastGreen x_greenTo x_isCycleGreen x_stillGreen x_rowMany x_fitMany x_fitRules x_fitGreen x_undoable x_newest x_seeded x_qCoded x_qWaits x_qOpened x_qBase x_qPiled x_qAnswer x_qIsNew x_octets g_tape (ib_w 0 1600 h97 rfl) (ib_w 0 1600 hx_end rfl) hg_tape) mV_X10_354 hPc hDc rfl rfl rfl hl rfl rfl (Nat.le_of_ble_eq_true rfl) ⟨(Nat.le_of_ble_eq_true rfl), (Nat.le_of_ble_eq_true rfl)⟩ ⟨(Nat.le_of_ble_eq_true rfl), (Nat.le_of_ble_eq_true rfl)⟩ dX10_barTold_102) (fun r102 u103 H locs hw hP hD hS => ?_)
              as_aux_lemma =>
                obtain ⟨v104, v105, v106, v107⟩ := u103
                try dsimp only at hP hD hw
                replace hP : va_P (dC, dI) vwCl [(wi_rm43_0_8_0 rm cy f85), (wi_rm10_2_5_0 rm cy g_cycleWord), (wi_rm11_2_5_0 rm cy g_greenWord), (wi_rm12_2_4_0 rm cy g_ruleWord), (wi_rm13_2_5_0 rm cy g_leastWord), (a_this, .inr (10, mfs rm x_taped v104 x_end v105 v106 v107 x_fault x_faultPlace x_namePlace x_awayTold x_away x_coded x_statements x_isCrossing x_textKind x_askSecond x_redMany x_isOpen x_lastGreen x_greenTo x_isCycleGreen x_stillGreen x_rowMany x_fitMany x_fitRules x_fitGreen x_undoable x_newest x_seeded x_qCoded x_qWaits x_qOpened x_qBase x_qPiled x_qAnswer x_qIsNew x_octets)), (wi_rm0_0_1600_0 rm cy g_tape)] H := hP
                replace hD := k_D hP hD
                obtain ⟨h108, h109, h110, h111, h112, h113⟩ := hw
                replace hq := lf_p1 hq h113
                replace hq := lf_p1 hq rfl
                replace hq := lf_p1 hq rfl
                replace hq := lf_p1 hq rfl
                refine va_iast hx hb C0.2.2.2.2.2.1 hP hD hS 0 0 rfl rfl (k_in 3 8 rfl) dX10_barTold_105 (fun H locs hP hD hS => ?_)
                have h115 : ib ((upd f85 3 r102) 0) (-2147483648) 60 := by rw [pk_un (by decide)]; exact h86
                have h116 : (upd f85 3 r102) 0 = (f85 0) := by rw [pk_un (by decide)]
                have h117 : ib ((upd f85 3 r102) 4) 0 120 := by rw [pk_un (by decide)]; exact h88
                have h118 : (upd f85 3 r102) 4 = (f85 4) := by rw [pk_un (by decide)]
                replace hP : va_P (dC, dI) vwCl [(wi_rm43_0_8_0 rm cy (upd f85 3 r102)), (wi_rm10_2_5_0 rm cy g_cycleWord), (wi_rm11_2_5_0 rm cy g_greenWord), (wi_rm12_2_4_0 rm cy g_ruleWord), (wi_rm13_2_5_0 rm cy g_leastWord), (a_this, .inr (10, mfs rm x_taped v104 x_end v105 v106 v107 x_fault x_faultPlace x_namePlace x_awayTold x_away x_coded x_statements x_isCrossing x_textKind x_askSecond x_redMany x_isOpen x_lastGreen x_greenTo x_isCycleGreen x_stillGreen x_rowMany x_fitMany x_fitRules x_fitGreen x_undoable x_newest x_seeded x_qCoded x_qWaits x_qOpened x_qBase x_qPiled x_qAnswer x_qIsNew x_octets)), (wi_rm0_0_1600_0 rm cy g_tape)] H := hP
                replace hD := k_D hP hD
                generalize h119E : upd f85 3 r102 = f114 at hP hD h115 h116 h117 h118
                have ef114 := h119E
                have Ef114 := lf_stn (X := (3 : Int)) ef114 Ef85 rfl (lf_rf r102)
                refine lv_aload_n hx hb dX10_barTold_106 rfl (lv_at hl 0 rfl) ?_
                refine lv_bipush (v := 59) hx hb dX10_barTold_107 rfl ?_
                refine k_jvm hP hD hS hA [5, 6] [true, true, true, true, true] rfl rfl rfl 0 0 (Nat.le_of_ble_eq_true rfl) (Nat.le_of_ble_eq_true rfl) (fun hPc hDc => k_runV (As := [.int 59]) (rest := []) C0 hZ hS hA (s_X10_asksSign_a0_59 l dC dI cy sq a_this rm x_taped v104 x_end v105 v106 v107 x_fault x_faultPlace x_namePlace x_awayTold x_away x_coded x_statements x_isCrossing x_textKind x_askSecond x_redMany x_isOpen x_lastGreen x_greenTo x_isCycleGreen x_stillGreen x_rowMany x_fitMany x_fitRules x_fitGreen x_undoable x_newest x_seeded x_qCoded x_qWaits x_qOpened x_qBase x_qPiled x_qAnswer x_qIsNew x_octets g_tape (ib_w 0 1600 h108 rfl) (ib_w 0 1600 hx_end rfl) hg_tape) mV_X10_358 hPc hDc rfl rfl rfl hl rfl rfl (Nat.le_of_ble_eq_true rfl) ⟨(Nat.le_of_ble_eq_true rfl), (Nat.le_of_ble_eq_true rfl)⟩ ⟨(Nat.le_of_ble_eq_true rfl), (Nat.le_of_ble_eq_true rfl)⟩ dX10_barTold_109) (fun u121 H locs hw hP hD hS => ?_)
                obtain ⟨v122, v123, v124⟩ := u121
                try dsimp only at hP hD hw
                replace hP : va_P (dC, dI) vwCl [(wi_rm43_0_8_0 rm cy f114), (wi_rm10_2_5_0 rm cy g_cycleWord), (wi_rm11_2_5_0 rm cy g_greenWord), (wi_rm12_2_4_0 rm cy g_ruleWord), (wi_rm13_2_5_0 rm cy g_leastWord), (a_this, .inr (10, mfs rm x_taped v122 x_end v105 v123 v124 x_fault x_faultPlace x_namePlace x_awayTold x_away x_coded x_statements x_isCrossing x_textKind x_askSecond x_redMany x_isOpen x_lastGreen x_greenTo x_isCycleGreen x_stillGreen x_rowMany x_fitMany x_fitRules x_fitGreen x_undoable x_newest x_seeded x_qCoded x_qWaits x_qOpened x_qBase x_qPiled x_qAnswer x_qIsNew x_octets)), (wi_rm0_0_1600_0 rm cy g_tape)] H := hP
                replace hD := k_D hP hD
                obtain ⟨h125, h126, h127, h128, h129⟩ := hw
                replace hq := lf_p1 hq h129
                replace hq := lf_p1 hq rfl
                subst hQ; exact k_vret hx hb hr hlk ((v122, v105, v123, v124, f114)) hS ⟨ib_w 0 1600 h125 rfl, ib_w 0 120 h117 rfl, fun q => (fun q => (fun q => (fun q => (fun q => (fun q => (fun q => (fun q => (fun q => (fun q => q) (h8 q)) (h19 q)) (h37 q)) (h52 q)) (h69 q)) (h80 q)) (h98 q)) (h109 q)) (h126 q), fun q => (fun q => (fun q => (fun q => (fun q => (fun q => (fun q => (fun q => ib_w 10 120 ((fun q9 => (show ib (f114 0) 10 120 by rw [h116]; exact (fun q9 => (show ib (f85 0) 10 120 by rw [h87]; exact (fun q9 => (show ib (f56 0) 10 120 by rw [h58]; exact (fun q9 => (show ib (f24 0) 10 120 by rw [h26]; exact h20 q9)) q9)) q9)) q9)) q) rfl) (h37 q)) (h52 q)) (h69 q)) (h80 q)) (h98 q)) (h109 q)) (h126 q), (by have := (h125).1; have := h127; have := h111; have := h99; have := h82; have := h70; have := h53; have := h38; have := h21; have := h9; have := (hx_at).2; omega), (by rw [h119E.symm]; exact (pk_un (by decide)).trans (by rw [h90E.symm]; exact (pk_un (by decide)).trans (by rw [h61E.symm]; exact (pk_un (by decide)).trans (by rw [h29E.symm]; exact (pk_un (by decide)).trans rfl)))), (hO.symm.trans (by rw [lf_ua Ef114]; exact hq))⟩ (hP.sub [5, 6, 1, 0, 2, 3, 4] rfl) (hD.sub [5, 6, 1, 0, 2, 3, 4] rfl rfl) (Nat.le_of_ble_eq_true rfl) (Nat.le_of_ble_eq_true rfl) dX10_barTold_112
      · as_aux_lemma =>
          replace hq := lf_neg hq (lf_nle (lf_pt Ef24 0) (lf_lc 60 (60 : Int) rfl) c41)
          have h130 := ib_nle h25 (ib_c 60 60 60 rfl) c41
          have h131 : ib (f24 0) 61 2147483647 := ib_w 61 2147483647 h130.1 rfl
          refine lv_bipush (v := 60) hx hb dX10_barTold_48 rfl ?_
          refine lv_goto (tgt := 61) hx hb dX10_barTold_50 rfl ?_
          refine k_jim hP hD hS hA [4, 5] [true, true, true, true, false, false, true] rfl rfl rfl 0 0 (Nat.le_of_ble_eq_true rfl) (Nat.le_of_ble_eq_true rfl) (fun hPc hDc => k_runV (As := [.int 1, .int 60]) (rest := [.int 1, .ref (rm 43)]) C0 hZ hS hA (s_X10_number_a0_1_a1_60 l dC dI cy sq a_this rm x_taped v32 x_end v33 v34 v35 x_fault x_faultPlace x_namePlace x_awayTold x_away x_coded x_statements x_isCrossing x_textKind x_askSecond x_redMany x_isOpen x_lastGreen x_greenTo x_isCycleGreen x_stillGreen x_rowMany x_fitMany x_fitRules x_fitGreen x_undoable x_newest x_seeded x_qCoded x_qWaits x_qOpened x_qBase x_qPiled x_qAnswer x_qIsNew x_octets g_tape (ib_w 0 1600 h36 rfl) (ib_w 0 1600 hx_end rfl) hg_tape) mV_X10_354 hPc hDc rfl rfl rfl hl rfl rfl (Nat.le_of_ble_eq_true rfl) ⟨(Nat.le_of_ble_eq_true rfl), (Nat.le_of_ble_eq_true rfl)⟩ ⟨(Nat.le_of_ble_eq_true rfl), (Nat.le_of_ble_eq_true rfl)⟩ dX10_barTold_61) (fun r132 u133 H locs hw hP hD hS => ?_)
          obtain ⟨v134, v135, v136, v137⟩ := u133
          try dsimp only at hP hD hw
          replace hP : va_P (dC, dI) vwCl [(wi_rm43_0_8_0 rm cy f24), (wi_rm12_2_4_0 rm cy g_ruleWord), (wi_rm13_2_5_0 rm cy g_leastWord), (wi_rm10_2_5_0 rm cy g_cycleWord), (wi_rm11_2_5_0 rm cy g_greenWord), (a_this, .inr (10, mfs rm x_taped v134 x_end v135 v136 v137 x_fault x_faultPlace x_namePlace x_awayTold x_away x_coded x_statements x_isCrossing x_textKind x_askSecond x_redMany x_isOpen x_lastGreen x_greenTo x_isCycleGreen x_stillGreen x_rowMany x_fitMany x_fitRules x_fitGreen x_undoable x_newest x_seeded x_qCoded x_qWaits x_qOpened x_qBase x_qPiled x_qAnswer x_qIsNew x_octets)), (wi_rm0_0_1600_0 rm cy g_tape)] H := hP
          replace hD := k_D hP hD
          obtain ⟨h138, h139, h140, h141, h142, h143⟩ := hw
          replace hq := lf_p1 hq h143
          replace hq := lf_p1 hq rfl
          replace hq := lf_p1 hq rfl
          replace hq := lf_p1 hq rfl
          refine va_iast hx hb C0.2.2.2.2.2.1 hP hD hS 0 0 rfl rfl (k_in 1 8 rfl) dX10_barTold_64 (fun H locs hP hD hS => ?_)
          have h145 : ib ((upd f24 1 r132) 0) 61 2147483647 := by rw [pk_un (by decide)]; exact h131
          have h146 : (upd f24 1 r132) 0 = (f24 0) := by rw [pk_un (by decide)]
          have h147 : ib ((upd f24 1 r132) 4) 0 120 := by rw [pk_un (by decide)]; exact h27
          have h148 : (upd f24 1 r132) 4 = (f24 4) := by rw [pk_un (by decide)]
          replace hP : va_P (dC, dI) vwCl [(wi_rm43_0_8_0 rm cy (upd f24 1 r132)), (wi_rm12_2_4_0 rm cy g_ruleWord), (wi_rm13_2_5_0 rm cy g_leastWord), (wi_rm10_2_5_0 rm cy g_cycleWord), (wi_rm11_2_5_0 rm cy g_greenWord), (a_this, .inr (10, mfs rm x_taped v134 x_end v135 v136 v137 x_fault x_faultPlace x_namePlace x_awayTold x_away x_coded x_statements x_isCrossing x_textKind x_askSecond x_redMany x_isOpen x_lastGreen x_greenTo x_isCycleGreen x_stillGreen x_rowMany x_fitMany x_fitRules x_fitGreen x_undoable x_newest x_seeded x_qCoded x_qWaits x_qOpened x_qBase x_qPiled x_qAnswer x_qIsNew x_octets)), (wi_rm0_0_1600_0 rm cy g_tape)] H := hP
          replace hD := k_D hP hD
          generalize h149E : upd f24 1 r132 = f144 at hP hD h145 h146 h147 h148
          have ef144 := h149E
          have Ef144 := lf_stn (X := (1 : Int)) ef144 Ef24 rfl (lf_rf r132)
          refine lv_aload_n hx hb dX10_barTold_65 rfl (lv_at hl 0 rfl) ?_
          refine lv_aload_n hx hb dX10_barTold_66 rfl (lv_at hl 0 rfl) ?_
          refine k_get C0 fg_X10_27 hP 5 rfl rfl dX10_barTold_67 ?_
          refine k_jvm hP hD hS hA [5, 6, 1] [true, false, true, true, true] rfl rfl rfl 0 0 (Nat.le_of_ble_eq_true rfl) (Nat.le_of_ble_eq_true rfl) (fun hPc hDc => k_runV (As := [.ref (rm 12)]) (rest := []) C0 hZ hS hA (s_X10_asks_r4 l dC dI cy sq a_this rm x_taped v134 x_end v135 v136 v137 x_fault x_faultPlace x_namePlace x_awayTold x_away x_coded x_statements x_isCrossing x_textKind x_askSecond x_redMany x_isOpen x_lastGreen x_greenTo x_isCycleGreen x_stillGreen x_rowMany x_fitMany x_fitRules x_fitGreen x_undoable x_newest x_seeded x_qCoded x_qWaits x_qOpened x_qBase x_qPiled x_qAnswer x_qIsNew x_octets g_tape (rm 12) g_ruleWord (ib_w 0 1600 h138 rfl) (ib_w 0 1600 hx_end rfl) hg_tape) mV_X10_350 hPc hDc rfl rfl rfl hl rfl rfl (Nat.le_of_ble_eq_true rfl) ⟨(Nat.le_of_ble_eq_true rfl), (Nat.le_of_ble_eq_true rfl)⟩ ⟨(Nat.le_of_ble_eq_true rfl), (Nat.le_of_ble_eq_true rfl)⟩ dX10_barTold_70) (fun u151 H locs hw hP hD hS => ?_)
          obtain ⟨v152, v153, v154, v155⟩ := u151
          as_aux_lemma =>
            try dsimp only at hP hD hw
            replace hP : va_P (dC, dI) vwCl [(wi_rm43_0_8_0 rm cy f144), (wi_rm13_2_5_0 rm cy g_leastWord), (wi_rm10_2_5_0 rm cy g_cycleWord), (wi_rm11_2_5_0 rm cy g_greenWord), (a_this, .inr (10, mfs rm x_taped v152 x_end v153 v154 v155 x_fault x_faultPlace x_namePlace x_awayTold x_away x_coded x_statements x_isCrossing x_textKind x_askSecond x_redMany x_isOpen x_lastGreen x_greenTo x_isCycleGreen x_stillGreen x_rowMany x_fitMany x_fitRules x_fitGreen x_undoable x_newest x_seeded x_qCoded x_qWaits x_qOpened x_qBase x_qPiled x_qAnswer x_qIsNew x_octets)), (wi_rm0_0_1600_0 rm cy g_tape), (wi_rm12_2_4_0 rm cy g_ruleWord)] H := hP
            replace hD := k_D hP hD
            obtain ⟨h156, h157, h158, h159, h160⟩ := hw
            replace hq := lf_p1 hq h160
            replace hq := lf_p1 hq rfl
            replace hq := lf_p1 hq rfl
            refine lv_aload_n hx hb dX10_barTold_73 rfl (lv_at hl 0 rfl) ?_
            refine k_get C0 fg_X10_118 hP 4 rfl rfl dX10_barTold_74 ?_
            refine lv_iconst (v := 2) hx hb dX10_barTold_77 rfl ?_
            refine lv_aload_n hx hb dX10_barTold_78 rfl (lv_at hl 0 rfl) ?_
            refine lv_iconst (v := 0) hx hb dX10_barTold_79 rfl ?_
            refine lv_iconst (v := 2) hx hb dX10_barTold_80 rfl ?_
            refine k_jim hP hD hS hA [4, 5] [true, true, true, true, false, false, true] rfl rfl rfl 0 0 (Nat.le_of_ble_eq_true rfl) (Nat.le_of_ble_eq_true rfl) (fun hPc hDc => k_runV (As := [.int 0, .int 2]) (rest := [.int 2, .ref (rm 43)]) C0 hZ hS hA (s_X10_number_a0_0_a1_2 l dC dI cy sq a_this rm x_taped v152 x_end v153 v154 v155 x_fault x_faultPlace x_namePlace x_awayTold x_away x_coded x_statements x_isCrossing x_textKind x_askSecond x_redMany x_isOpen x_lastGreen x_greenTo x_isCycleGreen x_stillGreen x_rowMany x_fitMany x_fitRules x_fitGreen x_undoable x_newest x_seeded x_qCoded x_qWaits x_qOpened x_qBase x_qPiled x_qAnswer x_qIsNew x_octets g_tape (ib_w 0 1600 h156 rfl) (ib_w 0 1600 hx_end rfl) hg_tape) mV_X10_354 hPc hDc rfl rfl rfl hl rfl rfl (Nat.le_of_ble_eq_true rfl) ⟨(Nat.le_of_ble_eq_true rfl), (Nat.le_of_ble_eq_true rfl)⟩ ⟨(Nat.le_of_ble_eq_true rfl), (Nat.le_of_ble_eq_true rfl)⟩ dX10_barTold_81) (fun r161 u162 H locs hw hP hD hS => ?_)
            obtain ⟨v163, v164, v165, v166⟩ := u162
            try dsimp only at hP hD hw
            replace hP : va_P (dC, dI) vwCl [(wi_rm43_0_8_0 rm cy f144), (wi_rm13_2_5_0 rm cy g_leastWord), (wi_rm10_2_5_0 rm cy g_cycleWord), (wi_rm11_2_5_0 rm cy g_greenWord), (wi_rm12_2_4_0 rm cy g_ruleWord), (a_this, .inr (10, mfs rm x_taped v163 x_end v164 v165 v166 x_fault x_faultPlace x_namePlace x_awayTold x_away x_coded x_statements x_isCrossing x_textKind x_askSecond x_redMany x_isOpen x_lastGreen x_greenTo x_isCycleGreen x_stillGreen x_rowMany x_fitMany x_fitRules x_fitGreen x_undoable x_newest x_seeded x_qCoded x_qWaits x_qOpened x_qBase x_qPiled x_qAnswer x_qIsNew x_octets)), (wi_rm0_0_1600_0 rm cy g_tape)] H := hP
            replace hD := k_D hP hD
            obtain ⟨h167, h168, h169, h170, h171, h172⟩ := hw
            replace hq := lf_p1 hq h172
            replace hq := lf_p1 hq rfl
            replace hq := lf_p1 hq rfl
            replace hq := lf_p1 hq rfl
            refine va_iast hx hb C0.2.2.2.2.2.1 hP hD hS 0 0 rfl rfl (k_in 2 8 rfl) dX10_barTold_84 (fun H locs hP hD hS => ?_)
            have h174 : ib ((upd f144 2 r161) 0) 61 2147483647 := by rw [pk_un (by decide)]; exact h145
            have h175 : (upd f144 2 r161) 0 = (f144 0) := by rw [pk_un (by decide)]
            have h176 : ib ((upd f144 2 r161) 4) 0 120 := by rw [pk_un (by decide)]; exact h147
            have h177 : (upd f144 2 r161) 4 = (f144 4) := by rw [pk_un (by decide)]
            replace hP : va_P (dC, dI) vwCl [(wi_rm43_0_8_0 rm cy (upd f144 2 r161)), (wi_rm13_2_5_0 rm cy g_leastWord), (wi_rm10_2_5_0 rm cy g_cycleWord), (wi_rm11_2_5_0 rm cy g_greenWord), (wi_rm12_2_4_0 rm cy g_ruleWord), (a_this, .inr (10, mfs rm x_taped v163 x_end v164 v165 v166 x_fault x_faultPlace x_namePlace x_awayTold x_away x_coded x_statements x_isCrossing x_textKind x_askSecond x_redMany x_isOpen x_lastGreen x_greenTo x_isCycleGreen x_stillGreen x_rowMany x_fitMany x_fitRules x_fitGreen x_undoable x_newest x_seeded x_qCoded x_qWaits x_qOpened x_qBase x_qPiled x_qAnswer x_qIsNew x_octets)), (wi_rm0_0_1600_0 rm cy g_tape)] H := hP
            replace hD := k_D hP hD
            as_aux_lemma =>
              generalize h178E : upd f144 2 r161 = f173 at hP hD h174 h175 h176 h177
              have ef173 := h178E
              have Ef173 := lf_stn (X := (2 : Int)) ef173 Ef144 rfl (lf_rf r161)
              refine lv_aload_n hx hb dX10_barTold_85 rfl (lv_at hl 0 rfl) ?_
              refine lv_aload_n hx hb dX10_barTold_86 rfl (lv_at hl 0 rfl) ?_
              refine k_get C0 fg_X10_30 hP 5 rfl rfl dX10_barTold_87 ?_
              refine k_jvm hP hD hS hA [5, 6, 1] [true, false, true, true, true] rfl rfl rfl 0 0 (Nat.le_of_ble_eq_true rfl) (Nat.le_of_ble_eq_true rfl) (fun hPc hDc => k_runV (As := [.ref (rm 13)]) (rest := []) C0 hZ hS hA (s_X10_asks_r5 l dC dI cy sq a_this rm x_taped v163 x_end v164 v165 v166 x_fault x_faultPlace x_namePlace x_awayTold x_away x_coded x_statements x_isCrossing x_textKind x_askSecond x_redMany x_isOpen x_lastGreen x_greenTo x_isCycleGreen x_stillGreen x_rowMany x_fitMany x_fitRules x_fitGreen x_undoable x_newest x_seeded x_qCoded x_qWaits x_qOpened x_qBase x_qPiled x_qAnswer x_qIsNew x_octets g_tape (rm 13) g_leastWord (ib_w 0 1600 h167 rfl) (ib_w 0 1600 hx_end rfl) hg_tape) mV_X10_350 hPc hDc rfl rfl rfl hl rfl rfl (Nat.le_of_ble_eq_true rfl) ⟨(Nat.le_of_ble_eq_true rfl), (Nat.le_of_ble_eq_true rfl)⟩ ⟨(Nat.le_of_ble_eq_true rfl), (Nat.le_of_ble_eq_true rfl)⟩ dX10_barTold_90) (fun u180 H locs hw hP hD hS => ?_)
              obtain ⟨v181, v182, v183, v184⟩ := u180
              try dsimp only at hP hD hw
              replace hP : va_P (dC, dI) vwCl [(wi_rm43_0_8_0 rm cy f173), (wi_rm10_2_5_0 rm cy g_cycleWord), (wi_rm11_2_5_0 rm cy g_greenWord), (wi_rm12_2_4_0 rm cy g_ruleWord), (a_this, .inr (10, mfs rm x_taped v181 x_end v182 v183 v184 x_fault x_faultPlace x_namePlace x_awayTold x_away x_coded x_statements x_isCrossing x_textKind x_askSecond x_redMany x_isOpen x_lastGreen x_greenTo x_isCycleGreen x_stillGreen x_rowMany x_fitMany x_fitRules x_fitGreen x_undoable x_newest x_seeded x_qCoded x_qWaits x_qOpened x_qBase x_qPiled x_qAnswer x_qIsNew x_octets)), (wi_rm0_0_1600_0 rm cy g_tape), (wi_rm13_2_5_0 rm cy g_leastWord)] H := hP
              replace hD := k_D hP hD
              obtain ⟨h185, h186, h187, h188, h189⟩ := hw
              replace hq := lf_p1 hq h189
              replace hq := lf_p1 hq rfl
              replace hq := lf_p1 hq rfl
              refine lv_aload_n hx hb dX10_barTold_93 rfl (lv_at hl 0 rfl) ?_
              refine k_get C0 fg_X10_118 hP 4 rfl rfl dX10_barTold_94 ?_
              refine lv_iconst (v := 3) hx hb dX10_barTold_97 rfl ?_
              refine lv_aload_n hx hb dX10_barTold_98 rfl (lv_at hl 0 rfl) ?_
              refine lv_iconst (v := 0) hx hb dX10_barTold_99 rfl ?_
              refine lv_bipush (v := 99) hx hb dX10_barTold_100 rfl ?_
              refine k_jim hP hD hS hA [4, 5] [true, true, true, true, false, false, true] rfl rfl rfl 0 0 (Nat.le_of_ble_eq_true rfl) (Nat.le_of_ble_eq_true rfl) (fun hPc hDc => k_runV (As := [.int 0, .int 99]) (rest := [.int 3, .ref (rm 43)]) C0 hZ hS hA (s_X10_number_a0_0_a1_99 l dC dI cy sq a_this rm x_taped v181 x_end v182 v183 v184 x_fault x_faultPlace x_namePlace x_awayTold x_away x_coded x_statements x_isCrossing x_textKind x_askSecond x_redMany x_isOpen x_lastGreen x_greenTo x_isCycleGreen x_stillGreen x_rowMany x_fitMany x_fitRules x_fitGreen x_undoable x_newest x_seeded x_qCoded x_qWaits x_qOpened x_qBase x_qPiled x_qAnswer x_qIsNew x_octets g_tape (ib_w 0 1600 h185 rfl) (ib_w 0 1600 hx_end rfl) hg_tape) mV_X10_354 hPc hDc rfl rfl rfl hl rfl rfl (Nat.le_of_ble_eq_true rfl) ⟨(Nat.le_of_ble_eq_true rfl), (Nat.le_of_ble_eq_true rfl)⟩ ⟨(Nat.le_of_ble_eq_true rfl), (Nat.le_of_ble_eq_true rfl)⟩ dX10_barTold_102) (fun r190 u191 H locs hw hP hD hS => ?_)
              obtain ⟨v192, v193, v194, v195⟩ := u191
              try dsimp only at hP hD hw
              replace hP : va_P (dC, dI) vwCl [(wi_rm43_0_8_0 rm cy f173), (wi_rm10_2_5_0 rm cy g_cycleWord), (wi_rm11_2_5_0 rm cy g_greenWord), (wi_rm12_2_4_0 rm cy g_ruleWord), (wi_rm13_2_5_0 rm cy g_leastWord), (a_this, .inr (10, mfs rm x_taped v192 x_end v193 v194 v195 x_fault x_faultPlace x_namePlace x_awayTold x_away x_coded x_statements x_isCrossing x_textKind x_askSecond x_redMany x_isOpen x_lastGreen x_greenTo x_isCycleGreen x_stillGreen x_rowMany x_fitMany x_fitRules x_fitGreen x_undoable x_newest x_seeded x_qCoded x_qWaits x_qOpened x_qBase x_qPiled x_qAnswer x_qIsNew x_octets)), (wi_rm0_0_1600_0 rm cy g_tape)] H := hP
              replace hD := k_D hP hD
              obtain ⟨h196, h197, h198, h199, h200, h201⟩ := hw
              replace hq := lf_p1 hq h201
              replace hq := lf_p1 hq rfl
              replace hq := lf_p1 hq rfl
              as_aux_lemma =>
                replace hq := lf_p1 hq rfl
                refine va_iast hx hb C0.2.2.2.2.2.1 hP hD hS 0 0 rfl rfl (k_in 3 8 rfl) dX10_barTold_105 (fun H locs hP hD hS => ?_)
                have h203 : ib ((upd f173 3 r190) 0) 61 2147483647 := by rw [pk_un (by decide)]; exact h174
                have h204 : (upd f173 3 r190) 0 = (f173 0) := by rw [pk_un (by decide)]
                have h205 : ib ((upd f173 3 r190) 4) 0 120 := by rw [pk_un (by decide)]; exact h176
                have h206 : (upd f173 3 r190) 4 = (f173 4) := by rw [pk_un (by decide)]
                replace hP : va_P (dC, dI) vwCl [(wi_rm43_0_8_0 rm cy (upd f173 3 r190)), (wi_rm10_2_5_0 rm cy g_cycleWord), (wi_rm11_2_5_0 rm cy g_greenWord), (wi_rm12_2_4_0 rm cy g_ruleWord), (wi_rm13_2_5_0 rm cy g_leastWord), (a_this, .inr (10, mfs rm x_taped v192 x_end v193 v194 v195 x_fault x_faultPlace x_namePlace x_awayTold x_away x_coded x_statements x_isCrossing x_textKind x_askSecond x_redMany x_isOpen x_lastGreen x_greenTo x_isCycleGreen x_stillGreen x_rowMany x_fitMany x_fitRules x_fitGreen x_undoable x_newest x_seeded x_qCoded x_qWaits x_qOpened x_qBase x_qPiled x_qAnswer x_qIsNew x_octets)), (wi_rm0_0_1600_0 rm cy g_tape)] H := hP
                replace hD := k_D hP hD
                generalize h207E : upd f173 3 r190 = f202 at hP hD h203 h204 h205 h206
                have ef202 := h207E
                have Ef202 := lf_stn (X := (3 : Int)) ef202 Ef173 rfl (lf_rf r190)
                refine lv_aload_n hx hb dX10_barTold_106 rfl (lv_at hl 0 rfl) ?_
                refine lv_bipush (v := 59) hx hb dX10_barTold_107 rfl ?_
                refine k_jvm hP hD hS hA [5, 6] [true, true, true, true, true] rfl rfl rfl 0 0 (Nat.le_of_ble_eq_true rfl) (Nat.le_of_ble_eq_true rfl) (fun hPc hDc => k_runV (As := [.int 59]) (rest := []) C0 hZ hS hA (s_X10_asksSign_a0_59 l dC dI cy sq a_this rm x_taped v192 x_end v193 v194 v195 x_fault x_faultPlace x_namePlace x_awayTold x_away x_coded x_statements x_isCrossing x_textKind x_askSecond x_redMany x_isOpen x_lastGreen x_greenTo x_isCycleGreen x_stillGreen x_rowMany x_fitMany x_fitRules x_fitGreen x_undoable x_newest x_seeded x_qCoded x_qWaits x_qOpened x_qBase x_qPiled x_qAnswer x_qIsNew x_octets g_tape (ib_w 0 1600 h196 rfl) (ib_w 0 1600 hx_end rfl) hg_tape) mV_X10_358 hPc hDc rfl rfl rfl hl rfl rfl (Nat.le_of_ble_eq_true rfl) ⟨(Nat.le_of_ble_eq_true rfl), (Nat.le_of_ble_eq_true rfl)⟩ ⟨(Nat.le_of_ble_eq_true rfl), (Nat.le_of_ble_eq_true rfl)⟩ dX10_barTold_109) (fun u209 H locs hw hP hD hS => ?_)
                obtain ⟨v210, v211, v212⟩ := u209
                try dsimp only at hP hD hw
                replace hP : va_P (dC, dI) vwCl [(wi_rm43_0_8_0 rm cy f202), (wi_rm10_2_5_0 rm cy g_cycleWord), (wi_rm11_2_5_0 rm cy g_greenWord), (wi_rm12_2_4_0 rm cy g_ruleWord), (wi_rm13_2_5_0 rm cy g_leastWord), (a_this, .inr (10, mfs rm x_taped v210 x_end v193 v211 v212 x_fault x_faultPlace x_namePlace x_awayTold x_away x_coded x_statements x_isCrossing x_textKind x_askSecond x_redMany x_isOpen x_lastGreen x_greenTo x_isCycleGreen x_stillGreen x_rowMany x_fitMany x_fitRules x_fitGreen x_undoable x_newest x_seeded x_qCoded x_qWaits x_qOpened x_qBase x_qPiled x_qAnswer x_qIsNew x_octets)), (wi_rm0_0_1600_0 rm cy g_tape)] H := hP
                replace hD := k_D hP hD
                obtain ⟨h213, h214, h215, h216, h217⟩ := hw
                replace hq := lf_p1 hq h217
                replace hq := lf_p1 hq rfl
                subst hQ; exact k_vret hx hb hr hlk ((v210, v193, v211, v212, f202)) hS ⟨ib_w 0 1600 h213 rfl, ib_w 0 120 h205 rfl, fun q => (fun q => (fun q => (fun q => (fun q => (fun q => (fun q => (fun q => (fun q => (fun q => q) (h8 q)) (h19 q)) (h37 q)) (h139 q)) (h157 q)) (h168 q)) (h186 q)) (h197 q)) (h214 q), fun q => (fun q => (fun q => (fun q => (fun q => (fun q => (fun q => (fun q => ib_w 10 120 ((fun q9 => (show ib (f202 0) 10 120 by rw [h204]; exact (fun q9 => (show ib (f173 0) 10 120 by rw [h175]; exact (fun q9 => (show ib (f144 0) 10 120 by rw [h146]; exact (fun q9 => (show ib (f24 0) 10 120 by rw [h26]; exact h20 q9)) q9)) q9)) q9)) q) rfl) (h37 q)) (h139 q)) (h157 q)) (h168 q)) (h186 q)) (h197 q)) (h214 q), (by have := (h213).1; have := h215; have := h199; have := h187; have := h170; have := h158; have := h141; have := h38; have := h21; have := h9; have := (hx_at).2; omega), (by rw [h207E.symm]; exact (pk_un (by decide)).trans (by rw [h178E.symm]; exact (pk_un (by decide)).trans (by rw [h149E.symm]; exact (pk_un (by decide)).trans (by rw [h29E.symm]; exact (pk_un (by decide)).trans rfl)))), (hO.symm.trans (by rw [lf_ua Ef202]; exact hq))⟩ (hP.sub [5, 6, 1, 0, 2, 3, 4] rfl) (hD.sub [5, 6, 1, 0, 2, 3, 4] rfl rfl) (Nat.le_of_ble_eq_true rfl) (Nat.le_of_ble_eq_true rfl) dX10_barTold_112
set_option maxHeartbeats 4000000 in
set_option maxRecDepth 100000 in
theorem s_X10_isGreenLong_a1_40 (l : Launch) (dC : Nat → ClassId) (dI : Nat → Nat → Nat) (cy : Nat → ClassId) (sq : Nat → Nat) (a_this : Nat) (rm : Nat → Nat) (x_taped : Int32) (x_at : Int32) (x_end : Int32) (x_ended : Int32) (x_bad : Int32) (x_badPlace : Int32) (x_fault : Int32) (x_faultPlace : Int32) (x_namePlace : Int32) (x_awayTold : Int32) (x_away : Int32) (x_coded : Int32) (x_statements : Int32) (x_isCrossing : Int32) (x_textKind : Int32) (x_askSecond : Int32) (x_redMany : Int32) (x_isOpen : Int32) (x_lastGreen : Int32) (x_greenTo : Int32) (x_isCycleGreen : Int32) (x_stillGreen : Int32) (x_rowMany : Int32) (x_fitMany : Int32) (x_fitRules : Int32) (x_fitGreen : Int32) (x_undoable : Int32) (x_newest : Int32) (x_seeded : Int64) (x_qCoded : Int32) (x_qWaits : Int32) (x_qOpened : Int32) (x_qBase : Int32) (x_qPiled : Int32) (x_qAnswer : Int64) (x_qIsNew : Int32) (x_octets : Int32) (g_bar : Nat → Int32) (p0 : Int32) (hg_bar_4 : ib (g_bar 4) 0 120) : k_Met l yX10_isGreenLong cX10_isGreenLong 3 (some .boolean) { frames := 1, cells := 0, slots := 0, locals := 25 } dC dI cy sq [.ref a_this, .int p0, .int 40] [(a_this, .inr (10, mfs rm x_taped x_at x_end x_ended x_bad x_badPlace x_fault x_faultPlace x_namePlace x_awayTold x_away x_coded x_statements x_isCrossing x_textKind x_askSecond x_redMany x_isOpen x_lastGreen x_greenTo x_isCycleGreen x_stillGreen x_rowMany x_fitMany x_fitRules x_fitGreen x_undoable x_newest x_seeded x_qCoded x_qWaits x_qOpened x_qBase x_qPiled x_qAnswer x_qIsNew x_octets)), (wi_rm43_0_8_0 rm cy g_bar)] (k_Qi dC dI (fun (r : Int32) (_ : Unit) => ib r 0 1 ∧ (¬ r = 0 → ib (g_bar 4) 2 120) ∧ (¬ r = 0 → ib p0 1 40) ∧ (F_X10_isGreenLong_a1_40 (lf_A g_bar) (Int32.toInt p0) = ((Int32.toInt r)))) (fun _ : Unit => [(a_this, .inr (10, mfs rm x_taped x_at x_end x_ended x_bad x_badPlace x_fault x_faultPlace x_namePlace x_awayTold x_away x_coded x_statements x_isCrossing x_textKind x_askSecond x_redMany x_isOpen x_lastGreen x_greenTo x_isCycleGreen x_stillGreen x_rowMany x_fitMany x_fitRules x_fitGreen x_undoable x_newest x_seeded x_qCoded x_qWaits x_qOpened x_qBase x_qPiled x_qAnswer x_qIsNew x_octets)), (wi_rm43_0_8_0 rm cy g_bar)])) := by
  refine k_ofW2 (by decide +kernel) (Nat.le_of_ble_eq_true rfl) ?_
  intro p e s m below meth c A ls H locs args Q hQ C0 hZ hr hlk hin hP hD hA hS hl
  have C0 : k_cx p s m args c cX10_isGreenLong 3 RX10 dC dI cy sq := C0
  have hx := C0.1
  have hb := C0.2.1
  have hl : lv_has ls 3 [(0, .ref a_this), (1, .int p0), (2, .int 40)] := hl
  obtain ⟨O, hO⟩ : ∃ o, o = F_X10_isGreenLong_a1_40 (lf_A g_bar) (Int32.toInt p0) := ⟨_, rfl⟩
  have hq := hO
  unfold F_X10_isGreenLong_a1_40 at hq
  have jn25 : ∀  (H : Heap) (locs : List Loc) (ls : Array Slot), (O = F_X10_isGreenLong_a1_40_25 ) → va_P (dC, dI) vwCl [(a_this, .inr (10, mfs rm x_taped x_at x_end x_ended x_bad x_badPlace x_fault x_faultPlace x_namePlace x_awayTold x_away x_coded x_statements x_isCrossing x_textKind x_askSecond x_redMany x_isOpen x_lastGreen x_greenTo x_isCycleGreen x_stillGreen x_rowMany x_fitMany x_fitRules x_fitGreen x_undoable x_newest x_seeded x_qCoded x_qWaits x_qOpened x_qBase x_qPiled x_qAnswer x_qIsNew x_octets)), (wi_rm43_0_8_0 rm cy g_bar)] H → va_D A [(a_this, .inr (10, mfs rm x_taped x_at x_end x_ended x_bad x_badPlace x_fault x_faultPlace x_namePlace x_awayTold x_away x_coded x_statements x_isCrossing x_textKind x_askSecond x_redMany x_isOpen x_lastGreen x_greenTo x_isCycleGreen x_stillGreen x_rowMany x_fitMany x_fitRules x_fitGreen x_undoable x_newest x_seeded x_qCoded x_qWaits x_qOpened x_qBase x_qPiled x_qAnswer x_qIsNew x_octets)), (wi_rm43_0_8_0 rm cy g_bar)] → va_S A s.heap H locs → lv_has ls 3 [(0, .ref a_this), (1, .int p0), (2, .int 40)] → W p l e { frames := 1, cells := 0, slots := 0, locals := 25 } s m args below meth c H locs 0 0 Q (F0 m 25 ls []) := by
    intro H locs ls hq hP hD hS hl
    unfold F_X10_isGreenLong_a1_40_25 at hq
    refine lv_iconst (v := 0) hx hb dX10_isGreenLong_25 rfl ?_
    subst hQ; exact k_iret hx hb hr hlk (k_nb 0 rfl) () hS ⟨ib_w 0 1 (ib_c 0 0 0 rfl) rfl, fun hq9 => absurd rfl hq9, fun hq9 => absurd rfl hq9, (hO.symm.trans (by try simp only [show (0 : Int32).toInt = (0 : Int) from rfl]; exact hq))⟩ hP hD (Nat.le_of_ble_eq_true rfl) (Nat.le_of_ble_eq_true rfl) dX10_isGreenLong_26
  refine lv_iload_n hx hb dX10_isGreenLong_0 rfl (lv_at hl 1 rfl) ?_
  refine lv_i2l (v := p0.toInt64) hx hb dX10_isGreenLong_1 rfl ?_
  refine lv_lconst (v := 1) hx hb dX10_isGreenLong_2 (by decide) ?_
  refine lv_iload_n hx hb dX10_isGreenLong_3 rfl (lv_at hl 2 rfl) ?_
  refine lv_i2l (v := 40) hx hb dX10_isGreenLong_4 (by decide) ?_
  refine k_jim hP hD hS hA [] [true, true] rfl rfl rfl 0 0 (Nat.le_of_ble_eq_true rfl) (Nat.le_of_ble_eq_true rfl) (fun hPc hDc => k_runS (As := [.long p0.toInt64, .long 1, .long 40]) (rest := []) C0 hZ hS hA (c_isIn l dC dI cy sq p0.toInt64 1 40) mS_X10_318 hPc hDc hl rfl rfl (Nat.le_of_ble_eq_true rfl) ⟨(Nat.le_of_ble_eq_true rfl), (Nat.le_of_ble_eq_true rfl)⟩ ⟨(Nat.le_of_ble_eq_true rfl), (Nat.le_of_ble_eq_true rfl)⟩ dX10_isGreenLong_5) (fun r1 u2 H locs hw hP hD hS => ?_)
  replace hP : va_P (dC, dI) vwCl [(a_this, .inr (10, mfs rm x_taped x_at x_end x_ended x_bad x_badPlace x_fault x_faultPlace x_namePlace x_awayTold x_away x_coded x_statements x_isCrossing x_textKind x_askSecond x_redMany x_isOpen x_lastGreen x_greenTo x_isCycleGreen x_stillGreen x_rowMany x_fitMany x_fitRules x_fitGreen x_undoable x_newest x_seeded x_qCoded x_qWaits x_qOpened x_qBase x_qPiled x_qAnswer x_qIsNew x_octets)), (wi_rm43_0_8_0 rm cy g_bar)] H := hP
  replace hD := k_D hP hD
  have h3 := hw
  have h4 : ib r1 0 1 := by rw [h3]; exact k_isf_01 _ _ _
  have Er1 := lf_isine h3 (lf_i2l (lf_rf p0)) (lf_ll 1 (1 : Int) rfl) (lf_ll 40 (40 : Int) rfl)
  refine lv_if_eq (tgt := 25) hx hb dX10_isGreenLong_8 rfl (fun c5 => ?_) (fun c5 => ?_)
  · replace hq := lf_pos hq (lf_eq Er1 (lf_lc 0 (0 : Int) rfl) c5)
    have h6 := ib_eq h4 (ib_c 0 0 0 rfl) c5
    have h7 : ib r1 0 0 := ib_w 0 0 h6.1 rfl
    exact jn25  H locs ls (by exact hq) hP hD hS (lv_sub hl [0, 1, 2] rfl)
  · replace hq := lf_neg hq (lf_ne Er1 (lf_lc 0 (0 : Int) rfl) c5)
    have h8 : ib r1 1 1 := ib_w 1 1 (ib_ne_lo 0 h4 rfl c5) rfl
    have h9 : ib p0 1 40 := ib_w 1 40 (ib_two (ib_any p0) (k_isf_v h3 (show 1 ≤ (1 : Int64).toInt by decide) (show (40 : Int64).toInt ≤ 40 by decide) (ib_nz h8 rfl))) rfl
    refine lv_iload_n hx hb dX10_isGreenLong_11 rfl (lv_at hl 1 rfl) ?_
    refine lv_aload_n hx hb dX10_isGreenLong_12 rfl (lv_at hl 0 rfl) ?_
    refine k_get C0 fg_X10_118 hP 0 rfl rfl dX10_isGreenLong_13 ?_
    refine lv_iconst (v := 4) hx hb dX10_isGreenLong_16 rfl ?_
    refine va_iald hx hb C0.2.2.2.2.2.1 hP 1 0 rfl rfl (k_in 4 8 rfl) dX10_isGreenLong_17 ?_
    refine k_topi (y := g_bar 4) rfl ?_
    refine lv_icmp_ge (tgt := 25) hx hb dX10_isGreenLong_18 rfl (fun c10 => ?_) (fun c10 => ?_)
    · replace hq := lf_pos hq (lf_le (lf_pt (lf_ra g_bar) 4) (lf_rf p0) c10)
      have h11 := ib_le hg_bar_4 h9 c10
      have h12 : ib (g_bar 4) 0 40 := ib_w 0 40 h11.1 rfl
      exact jn25  H locs ls (by exact hq) hP hD hS (lv_sub hl [0, 1, 2] rfl)
    · replace hq := lf_neg hq (lf_nle (lf_pt (lf_ra g_bar) 4) (lf_rf p0) c10)
      have h13 := ib_nle hg_bar_4 h9 c10
      have h14 : ib (g_bar 4) 2 120 := ib_w 2 120 h13.1 rfl
      refine lv_iconst (v := 1) hx hb dX10_isGreenLong_21 rfl ?_
      refine lv_goto (tgt := 26) hx hb dX10_isGreenLong_22 rfl ?_
      subst hQ; exact k_iret hx hb hr hlk (k_nb 1 rfl) () hS ⟨ib_w 0 1 (ib_c 1 1 1 rfl) rfl, fun _ => ib_w 2 120 h14 rfl, fun _ => ib_w 1 40 h9 rfl, (hO.symm.trans (by try simp only [show (1 : Int32).toInt = (1 : Int) from rfl]; exact hq))⟩ hP hD (Nat.le_of_ble_eq_true rfl) (Nat.le_of_ble_eq_true rfl) dX10_isGreenLong_26
set_option maxHeartbeats 4000000 in
set_option maxRecDepth 100000 in
theorem s_X10_waitedAll (l : Launch) (dC : Nat → ClassId) (dI : Nat → Nat → Nat) (cy : Nat → ClassId) (sq : Nat → Nat) (a_this : Nat) (rm : Nat → Nat) (x_taped : Int32) (x_at : Int32) (x_end : Int32) (x_ended : Int32) (x_bad : Int32) (x_badPlace : Int32) (x_fault : Int32) (x_faultPlace : Int32) (x_namePlace : Int32) (x_awayTold : Int32) (x_away : Int32) (x_coded : Int32) (x_statements : Int32) (x_isCrossing : Int32) (x_textKind : Int32) (x_askSecond : Int32) (x_redMany : Int32) (x_isOpen : Int32) (x_lastGreen : Int32) (x_greenTo : Int32) (x_isCycleGreen : Int32) (x_stillGreen : Int32) (x_rowMany : Int32) (x_fitMany : Int32) (x_fitRules : Int32) (x_fitGreen : Int32) (x_undoable : Int32) (x_newest : Int32) (x_seeded : Int64) (x_qCoded : Int32) (x_qWaits : Int32) (x_qOpened : Int32) (x_qBase : Int32) (x_qPiled : Int32) (x_qAnswer : Int64) (x_qIsNew : Int32) (x_octets : Int32) (g_many : Nat → Int32) (g_waits : Nat → Int32) (hg_many_3 : ib (g_many 3) 0 12) : k_Met l yX10_waitedAll cX10_waitedAll 3 (some .int) { frames := 1, cells := 0, slots := 0, locals := 20 } dC dI cy sq [.ref a_this] [(a_this, .inr (10, mfs rm x_taped x_at x_end x_ended x_bad x_badPlace x_fault x_faultPlace x_namePlace x_awayTold x_away x_coded x_statements x_isCrossing x_textKind x_askSecond x_redMany x_isOpen x_lastGreen x_greenTo x_isCycleGreen x_stillGreen x_rowMany x_fitMany x_fitRules x_fitGreen x_undoable x_newest x_seeded x_qCoded x_qWaits x_qOpened x_qBase x_qPiled x_qAnswer x_qIsNew x_octets)), (wi_rm41_0_4_0 rm cy g_many), (wi_rm65_0_12_0 rm cy g_waits)] (k_Qi dC dI (fun (r : Int32) (_ : Unit) => (F_X10_waitedAll (lf_A g_many) (lf_A g_waits) = ((Int32.toInt r)))) (fun _ : Unit => [(a_this, .inr (10, mfs rm x_taped x_at x_end x_ended x_bad x_badPlace x_fault x_faultPlace x_namePlace x_awayTold x_away x_coded x_statements x_isCrossing x_textKind x_askSecond x_redMany x_isOpen x_lastGreen x_greenTo x_isCycleGreen x_stillGreen x_rowMany x_fitMany x_fitRules x_fitGreen x_undoable x_newest x_seeded x_qCoded x_qWaits x_qOpened x_qBase x_qPiled x_qAnswer x_qIsNew x_octets)), (wi_rm41_0_4_0 rm cy g_many), (wi_rm65_0_12_0 rm cy g_waits)])) := by
  refine k_ofW2 (by decide +kernel) (Nat.le_of_ble_eq_true rfl) ?_
  intro p e s m below meth c A ls H locs args Q hQ C0 hZ hr hlk hin hP hD hA hS hl
  have C0 : k_cx p s m args c cX10_waitedAll 3 RX10 dC dI cy sq := C0
  have hx := C0.1
  have hb := C0.2.1
  have hl : lv_has ls 3 [(0, .ref a_this)] := hl
  obtain ⟨O, hO⟩ : ∃ o, o = F_X10_waitedAll (lf_A g_many) (lf_A g_waits) := ⟨_, rfl⟩
  have hq := hO
  unfold F_X10_waitedAll at hq
  have jn4 : ∀ (n : Nat) (J4_l1 : Int32) (J4_l2 : Int32) (H : Heap) (locs : List Loc) (ls : Array Slot), ib J4_l2 0 12 → (O = F_X10_waitedAll_4 (lf_A g_many) (lf_A g_waits) n (Int32.toInt J4_l1) (Int32.toInt J4_l2)) → 13 ≤ J4_l2.toInt + (n : Int) → va_P (dC, dI) vwCl [(a_this, .inr (10, mfs rm x_taped x_at x_end x_ended x_bad x_badPlace x_fault x_faultPlace x_namePlace x_awayTold x_away x_coded x_statements x_isCrossing x_textKind x_askSecond x_redMany x_isOpen x_lastGreen x_greenTo x_isCycleGreen x_stillGreen x_rowMany x_fitMany x_fitRules x_fitGreen x_undoable x_newest x_seeded x_qCoded x_qWaits x_qOpened x_qBase x_qPiled x_qAnswer x_qIsNew x_octets)), (wi_rm41_0_4_0 rm cy g_many), (wi_rm65_0_12_0 rm cy g_waits)] H → va_D A [(a_this, .inr (10, mfs rm x_taped x_at x_end x_ended x_bad x_badPlace x_fault x_faultPlace x_namePlace x_awayTold x_away x_coded x_statements x_isCrossing x_textKind x_askSecond x_redMany x_isOpen x_lastGreen x_greenTo x_isCycleGreen x_stillGreen x_rowMany x_fitMany x_fitRules x_fitGreen x_undoable x_newest x_seeded x_qCoded x_qWaits x_qOpened x_qBase x_qPiled x_qAnswer x_qIsNew x_octets)), (wi_rm41_0_4_0 rm cy g_many), (wi_rm65_0_12_0 rm cy g_waits)] → va_S A s.heap H locs → lv_has ls 3 [(0, .ref a_this), (1, .int J4_l1), (2, .int J4_l2)] → W p l e { frames := 1, cells := 0, slots := 0, locals := 20 } s m args below meth c H locs 0 0 Q (F0 m 4 ls []) := by
    as_aux_lemma =>
      intro n
      induction n with
      | zero =>
        intro J4_l1 J4_l2 H locs ls hJ4_l2 hq hm
        exact absurd hm (by have := hJ4_l2; unfold ib at this; omega)
      | succ n ih =>
        intro J4_l1 J4_l2 H locs ls hJ4_l2 hq hm4 hP hD hS hl
        have ih4 := ih
        obtain ⟨K4, hK4⟩ : ∃ K, K = F_X10_waitedAll_4 (lf_A g_many) (lf_A g_waits) n := ⟨_, rfl⟩
        have hq : O = F_X10_waitedAll_4b (lf_A g_many) (lf_A g_waits) K4 (Int32.toInt J4_l1) (Int32.toInt J4_l2) := by rw [hK4]; exact hq
        unfold F_X10_waitedAll_4b at hq
        refine lv_iload_n hx hb dX10_waitedAll_4 rfl (lv_at hl 2 rfl) ?_
        refine lv_aload_n hx hb dX10_waitedAll_5 rfl (lv_at hl 0 rfl) ?_
        refine k_jim hP hD hS hA [0, 1] [false, false, true] rfl rfl rfl 0 0 (Nat.le_of_ble_eq_true rfl) (Nat.le_of_ble_eq_true rfl) (fun hPc hDc => k_runV (As := []) (rest := [.int J4_l2]) C0 hZ hS hA (s_X10_walkerMany l dC dI cy sq a_this rm x_taped x_at x_end x_ended x_bad x_badPlace x_fault x_faultPlace x_namePlace x_awayTold x_away x_coded x_statements x_isCrossing x_textKind x_askSecond x_redMany x_isOpen x_lastGreen x_greenTo x_isCycleGreen x_stillGreen x_rowMany x_fitMany x_fitRules x_fitGreen x_undoable x_newest x_seeded x_qCoded x_qWaits x_qOpened x_qBase x_qPiled x_qAnswer x_qIsNew x_octets g_many ) mV_X10_433 hPc hDc rfl rfl rfl hl rfl rfl (Nat.le_of_ble_eq_true rfl) ⟨(Nat.le_of_ble_eq_true rfl), (Nat.le_of_ble_eq_true rfl)⟩ ⟨(Nat.le_of_ble_eq_true rfl), (Nat.le_of_ble_eq_true rfl)⟩ dX10_waitedAll_6) (fun r1 u2 H locs hw hP hD hS => ?_)
        try dsimp only at hP hD hw
        replace hP : va_P (dC, dI) vwCl [(wi_rm65_0_12_0 rm cy g_waits), (a_this, .inr (10, mfs rm x_taped x_at x_end x_ended x_bad x_badPlace x_fault x_faultPlace x_namePlace x_awayTold x_away x_coded x_statements x_isCrossing x_textKind x_askSecond x_redMany x_isOpen x_lastGreen x_greenTo x_isCycleGreen x_stillGreen x_rowMany x_fitMany x_fitRules x_fitGreen x_undoable x_newest x_seeded x_qCoded x_qWaits x_qOpened x_qBase x_qPiled x_qAnswer x_qIsNew x_octets)), (wi_rm41_0_4_0 rm cy g_many)] H := hP
        replace hD := k_D hP hD
        obtain ⟨h3, h4⟩ := hw
        subst h3
        replace hq := lf_b1 hq h4
        refine lv_icmp_ge (tgt := 27) hx hb dX10_waitedAll_9 rfl (fun c5 => ?_) (fun c5 => ?_)
        · replace hq := lf_pos hq (lf_le (lf_pt (lf_ra g_many) 3) (lf_rf J4_l2) c5)
          have h6 := ib_le hg_many_3 hJ4_l2 c5
          refine lv_iload_n hx hb dX10_waitedAll_27 rfl (lv_at hl 1 rfl) ?_
          subst hQ; exact k_iret hx hb hr hlk rfl () hS ((hO.symm.trans (by exact hq))) (hP.sub [1, 2, 0] rfl) (hD.sub [1, 2, 0] rfl rfl) (Nat.le_of_ble_eq_true rfl) (Nat.le_of_ble_eq_true rfl) dX10_waitedAll_28
        · as_aux_lemma =>
            replace hq := lf_neg hq (lf_nle (lf_pt (lf_ra g_many) 3) (lf_rf J4_l2) c5)
            have h7 := ib_nle hg_many_3 hJ4_l2 c5
            have h8 : ib (g_many 3) 1 12 := ib_w 1 12 h7.1 rfl
            have h9 : ib J4_l2 0 11 := ib_w 0 11 h7.2 rfl
            refine lv_iload_n hx hb dX10_waitedAll_12 rfl (lv_at hl 1 rfl) ?_
            refine lv_aload_n hx hb dX10_waitedAll_13 rfl (lv_at hl 0 rfl) ?_
            refine k_get C0 fg_X10_161 hP 1 rfl rfl dX10_waitedAll_14 ?_
            refine lv_iload_n hx hb dX10_waitedAll_17 rfl (lv_at hl 2 rfl) ?_
            refine va_iald hx hb C0.2.2.2.2.2.1 hP 0 0 rfl rfl (ib_in 12 h9 rfl) dX10_waitedAll_18 ?_
            refine lv_topi (fun z10 ez10 => ?_)
            have Ez10 := lf_ld ez10 (lf_ra g_waits) (lf_rf J4_l2)
            refine lv_iadd hx hb dX10_waitedAll_19 ?_
            refine lv_topi (fun z11 ez11 => ?_)
            have Ez11 := lf_op lf_iadd ez11 (lf_rf J4_l1) Ez10
            refine lv_istore_n (lv' := [(1, .int z11), (0, .ref a_this), (2, .int J4_l2)]) hx hb dX10_waitedAll_20 rfl hl (Nat.le_of_ble_eq_true rfl) rfl (fun ls hl => ?_)
            obtain ⟨z12, ez12⟩ : ∃ y : Int32, y = J4_l2 + 1 := ⟨_, rfl⟩
            refine lv_iinc (v := z12) (lv' := [(2, .int z12), (1, .int z11), (0, .ref a_this)]) hx hb dX10_waitedAll_21 hl (k := 2) rfl (by rw [ez12]; rfl) (Nat.le_of_ble_eq_true rfl) rfl (fun ls hl => ?_)
            have h13 := ib_add h9 (ib_c 1 1 1 rfl) rfl
            rw [← ez12] at h13
            have h14 : ib z12 1 12 := ib_w 1 12 h13.1 rfl
            have Ez12 := lf_add h13.2 (lf_rf J4_l2) (lf_lc 1 (1 : Int) rfl)
            refine lv_goto (tgt := 4) hx hb dX10_waitedAll_24 rfl ?_
            exact ih4 z11 z12 H locs ls (ib_w 0 12 h14 rfl) (by rw [← hK4]; rw [lf_u Ez11]; rw [lf_u Ez12]; exact hq) (by have := h13.2; have : (1 : Int32).toInt = 1 := rfl; omega) (hP.sub [1, 2, 0] rfl) (hD.sub [1, 2, 0] rfl rfl) hS (lv_sub hl [2, 1, 0] rfl)
  refine lv_iconst (v := 0) hx hb dX10_waitedAll_0 rfl ?_
  refine lv_istore_n (lv' := [(1, .int 0), (0, .ref a_this)]) hx hb dX10_waitedAll_1 rfl hl (Nat.le_of_ble_eq_true rfl) rfl (fun ls hl => ?_)
  refine lv_iconst (v := 0) hx hb dX10_waitedAll_2 rfl ?_
  refine lv_istore_n (lv' := [(2, .int 0), (1, .int 0), (0, .ref a_this)]) hx hb dX10_waitedAll_3 rfl hl (Nat.le_of_ble_eq_true rfl) rfl (fun ls hl => ?_)
  exact jn4 14 0 0 H locs ls (ib_w 0 12 (ib_c 0 0 0 rfl) rfl) (by try simp only [show (0 : Int32).toInt = (0 : Int) from rfl]; exact hq) (by have := (ib_c 0 0 0 rfl); unfold ib at this; omega) hP hD hS (lv_sub hl [2, 1, 0] rfl)
set_option maxHeartbeats 4000000 in
set_option maxRecDepth 100000 in
theorem s_X10_counted (l : Launch) (dC : Nat → ClassId) (dI : Nat → Nat → Nat) (cy : Nat → ClassId) (sq : Nat → Nat) (a_arg0 : Nat) (g_arg0 : Nat → Int32) (p1 : Int32) (hp1 : ib p1 0 12) : k_Met l yX10_counted cX10_counted 4 (some .int) { frames := 0, cells := 0, slots := 0, locals := 0 } dC dI cy sq [.ref a_arg0, .int p1] [(wi_3_12_0 a_arg0 cy g_arg0)] (k_Qi dC dI (fun (r : Int32) (_ : Unit) => (F_X10_counted (lf_A g_arg0) (Int32.toInt p1) = ((Int32.toInt r)))) (fun _ : Unit => [(wi_3_12_0 a_arg0 cy g_arg0)])) := by
  refine k_ofW2 (by decide +kernel) (Nat.le_of_ble_eq_true rfl) ?_
  intro p e s m below meth c A ls H locs args Q hQ C0 hZ hr hlk hin hP hD hA hS hl
  have C0 : k_cx p s m args c cX10_counted 4 RX10 dC dI cy sq := C0
  have hx := C0.1
  have hb := C0.2.1
  have hl : lv_has ls 4 [(0, .ref a_arg0), (1, .int p1)] := hl
  obtain ⟨O, hO⟩ : ∃ o, o = F_X10_counted (lf_A g_arg0) (Int32.toInt p1) := ⟨_, rfl⟩
  have hq := hO
  unfold F_X10_counted at hq
  have jn4 : ∀ (n : Nat) (J4_l2 : Int32) (J4_l3 : Int32) (H : Heap) (locs : List Loc) (ls : Array Slot), ib J4_l3 0 12 → (O = F_X10_counted_4 (lf_A g_arg0) (Int32.toInt p1) n (Int32.toInt J4_l2) (Int32.toInt J4_l3)) → 13 ≤ J4_l3.toInt + (n : Int) → va_P (dC, dI) vwCl [(wi_3_12_0 a_arg0 cy g_arg0)] H → va_D A [(wi_3_12_0 a_arg0 cy g_arg0)] → va_S A s.heap H locs → lv_has ls 4 [(0, .ref a_arg0), (1, .int p1), (2, .int J4_l2), (3, .int J4_l3)] → W p l e { frames := 0, cells := 0, slots := 0, locals := 0 } s m args below meth c H locs 0 0 Q (F0 m 4 ls []) := by
    as_aux_lemma =>
      intro n
      induction n with
      | zero =>
        intro J4_l2 J4_l3 H locs ls hJ4_l3 hq hm
        exact absurd hm (by have := hJ4_l3; unfold ib at this; omega)
      | succ n ih =>
        intro J4_l2 J4_l3 H locs ls hJ4_l3 hq hm4 hP hD hS hl
        have ih4 := ih
        obtain ⟨K4, hK4⟩ : ∃ K, K = F_X10_counted_4 (lf_A g_arg0) (Int32.toInt p1) n := ⟨_, rfl⟩
        have hq : O = F_X10_counted_4b (lf_A g_arg0) (Int32.toInt p1) K4 (Int32.toInt J4_l2) (Int32.toInt J4_l3) := by rw [hK4]; exact hq
        unfold F_X10_counted_4b at hq
        have jn18 : ∀ (J18_l2 : Int32) (H : Heap) (locs : List Loc) (ls : Array Slot), ib p1 1 12 → ib J4_l3 0 11 → (O = F_X10_counted_18 (Int32.toInt J4_l3) K4 (Int32.toInt J18_l2)) → va_P (dC, dI) vwCl [(wi_3_12_0 a_arg0 cy g_arg0)] H → va_D A [(wi_3_12_0 a_arg0 cy g_arg0)] → va_S A s.heap H locs → lv_has ls 4 [(0, .ref a_arg0), (1, .int p1), (2, .int J18_l2), (3, .int J4_l3)] → W p l e { frames := 0, cells := 0, slots := 0, locals := 0 } s m args below meth c H locs 0 0 Q (F0 m 18 ls []) := by
          intro J18_l2 H locs ls hK18_p1 hK18_J4_l3 hq hP hD hS hl
          unfold F_X10_counted_18 at hq
          obtain ⟨z1, ez1⟩ : ∃ y : Int32, y = J4_l3 + 1 := ⟨_, rfl⟩
          refine lv_iinc (v := z1) (lv' := [(3, .int z1), (0, .ref a_arg0), (1, .int p1), (2, .int J18_l2)]) hx hb dX10_counted_18 hl (k := 3) rfl (by rw [ez1]; rfl) (Nat.le_of_ble_eq_true rfl) rfl (fun ls hl => ?_)
          have h2 := ib_add hK18_J4_l3 (ib_c 1 1 1 rfl) rfl
          rw [← ez1] at h2
          have h3 : ib z1 1 12 := ib_w 1 12 h2.1 rfl
          have Ez1 := lf_add h2.2 (lf_rf J4_l3) (lf_lc 1 (1 : Int) rfl)
          refine lv_goto (tgt := 4) hx hb dX10_counted_21 rfl ?_
          exact ih4 J18_l2 z1 H locs ls (ib_w 0 12 h3 rfl) (by rw [← hK4]; rw [lf_u Ez1]; exact hq) (by have := h2.2; have : (1 : Int32).toInt = 1 := rfl; omega) hP hD hS (lv_sub hl [1, 2, 3, 0] rfl)
        refine lv_iload_n hx hb dX10_counted_4 rfl (lv_at hl 3 rfl) ?_
        refine lv_iload_n hx hb dX10_counted_5 rfl (lv_at hl 1 rfl) ?_
        refine lv_icmp_ge (tgt := 24) hx hb dX10_counted_6 rfl (fun c4 => ?_) (fun c4 => ?_)
        · replace hq := lf_pos hq (lf_le (lf_rf p1) (lf_rf J4_l3) c4)
          have h5 := ib_le hp1 hJ4_l3 c4
          refine lv_iload_n hx hb dX10_counted_24 rfl (lv_at hl 2 rfl) ?_
          subst hQ; exact k_iret hx hb hr hlk rfl () hS ((hO.symm.trans (by exact hq))) hP hD (Nat.le_of_ble_eq_true rfl) (Nat.le_of_ble_eq_true rfl) dX10_counted_25
        · replace hq := lf_neg hq (lf_nle (lf_rf p1) (lf_rf J4_l3) c4)
          have h6 := ib_nle hp1 hJ4_l3 c4
          have h7 : ib p1 1 12 := ib_w 1 12 h6.1 rfl
          have h8 : ib J4_l3 0 11 := ib_w 0 11 h6.2 rfl
          refine lv_aload_n hx hb dX10_counted_9 rfl (lv_at hl 0 rfl) ?_
          refine lv_iload_n hx hb dX10_counted_10 rfl (lv_at hl 3 rfl) ?_
          refine va_zald hx hb C0.2.2.2.2.2.1 hP 0 3 rfl rfl (ib_in 12 h8 rfl) dX10_counted_11 ?_
          refine lv_topi (fun z9 ez9 => ?_)
          have Ez9 := lf_ld ez9 (lf_ra g_arg0) (lf_rf J4_l3)
          refine lv_if_eq (tgt := 18) hx hb dX10_counted_12 rfl (fun c10 => ?_) (fun c10 => ?_)
          · replace hq := lf_pos hq (lf_eq Ez9 (lf_lc 0 (0 : Int) rfl) c10)
            have h11 := ib_eq (ib_any z9) (ib_c 0 0 0 rfl) c10
            have h12 : ib z9 0 0 := ib_w 0 0 h11.1 rfl
            exact jn18 J4_l2 H locs ls (ib_w 1 12 h7 rfl) (ib_w 0 11 h8 rfl) (by exact hq) hP hD hS (lv_sub hl [0, 1, 2, 3] rfl)
          · replace hq := lf_neg hq (lf_ne Ez9 (lf_lc 0 (0 : Int) rfl) c10)
            obtain ⟨z13, ez13⟩ : ∃ y : Int32, y = J4_l2 + 1 := ⟨_, rfl⟩
            refine lv_iinc (v := z13) (lv' := [(2, .int z13), (0, .ref a_arg0), (1, .int p1), (3, .int J4_l3)]) hx hb dX10_counted_15 hl (k := 2) rfl (by rw [ez13]; rfl) (Nat.le_of_ble_eq_true rfl) rfl (fun ls hl => ?_)
            have Ez13 := lf_op lf_iadd ez13 (lf_rf J4_l2) (lf_lc 1 (1 : Int) rfl)
            exact jn18 z13 H locs ls (ib_w 1 12 h7 rfl) (ib_w 0 11 h8 rfl) (by rw [lf_u Ez13]; exact hq) hP hD hS (lv_sub hl [1, 2, 0, 3] rfl)
  refine lv_iconst (v := 0) hx hb dX10_counted_0 rfl ?_
  refine lv_istore_n (lv' := [(2, .int 0), (0, .ref a_arg0), (1, .int p1)]) hx hb dX10_counted_1 rfl hl (Nat.le_of_ble_eq_true rfl) rfl (fun ls hl => ?_)
  refine lv_iconst (v := 0) hx hb dX10_counted_2 rfl ?_
  refine lv_istore_n (lv' := [(3, .int 0), (2, .int 0), (0, .ref a_arg0), (1, .int p1)]) hx hb dX10_counted_3 rfl hl (Nat.le_of_ble_eq_true rfl) rfl (fun ls hl => ?_)
  exact jn4 14 0 0 H locs ls (ib_w 0 12 (ib_c 0 0 0 rfl) rfl) (by try simp only [show (0 : Int32).toInt = (0 : Int) from rfl]; exact hq) (by have := (ib_c 0 0 0 rfl); unfold ib at this; omega) hP hD hS (lv_sub hl [2, 3, 1, 0] rfl)
set_option maxHeartbeats 4000000 in
set_option maxRecDepth 100000 in
theorem s_X10_toldOfDay_a0_2 (l : Launch) (dC : Nat → ClassId) (dI : Nat → Nat → Nat) (cy : Nat → ClassId) (sq : Nat → Nat) (a_this : Nat) (rm : Nat → Nat) (x_taped : Int32) (x_at : Int32) (x_end : Int32) (x_ended : Int32) (x_bad : Int32) (x_badPlace : Int32) (x_fault : Int32) (x_faultPlace : Int32) (x_namePlace : Int32) (x_awayTold : Int32) (x_away : Int32) (x_coded : Int32) (x_statements : Int32) (x_isCrossing : Int32) (x_textKind : Int32) (x_askSecond : Int32) (x_redMany : Int32) (x_isOpen : Int32) (x_lastGreen : Int32) (x_greenTo : Int32) (x_isCycleGreen : Int32) (x_stillGreen : Int32) (x_rowMany : Int32) (x_fitMany : Int32) (x_fitRules : Int32) (x_fitGreen : Int32) (x_undoable : Int32) (x_newest : Int32) (x_seeded : Int64) (x_qCoded : Int32) (x_qWaits : Int32) (x_qOpened : Int32) (x_qBase : Int32) (x_qPiled : Int32) (x_qAnswer : Int64) (x_qIsNew : Int32) (x_octets : Int32) (g_many : Nat → Int32) (g_harms : Nat → Int32) (hg_many_3 : ib (g_many 3) 0 12) : k_Met l yX10_toldOfDay cX10_toldOfDay 2 (some .int) { frames := 1, cells := 0, slots := 0, locals := 23 } dC dI cy sq [.ref a_this, .int 2] [(a_this, .inr (10, mfs rm x_taped x_at x_end x_ended x_bad x_badPlace x_fault x_faultPlace x_namePlace x_awayTold x_away x_coded x_statements x_isCrossing x_textKind x_askSecond x_redMany x_isOpen x_lastGreen x_greenTo x_isCycleGreen x_stillGreen x_rowMany x_fitMany x_fitRules x_fitGreen x_undoable x_newest x_seeded x_qCoded x_qWaits x_qOpened x_qBase x_qPiled x_qAnswer x_qIsNew x_octets)), (wi_rm41_0_4_0 rm cy g_many), (wi_rm67_3_12_0 rm cy g_harms)] (k_Qi dC dI (fun (r : Int32) (_ : Unit) => (F_X10_toldOfDay_a0_2 (lf_A g_many) (lf_A g_harms) = ((Int32.toInt r)))) (fun _ : Unit => [(a_this, .inr (10, mfs rm x_taped x_at x_end x_ended x_bad x_badPlace x_fault x_faultPlace x_namePlace x_awayTold x_away x_coded x_statements x_isCrossing x_textKind x_askSecond x_redMany x_isOpen x_lastGreen x_greenTo x_isCycleGreen x_stillGreen x_rowMany x_fitMany x_fitRules x_fitGreen x_undoable x_newest x_seeded x_qCoded x_qWaits x_qOpened x_qBase x_qPiled x_qAnswer x_qIsNew x_octets)), (wi_rm41_0_4_0 rm cy g_many), (wi_rm67_3_12_0 rm cy g_harms)])) := by
  refine k_ofW2 (by decide +kernel) (Nat.le_of_ble_eq_true rfl) ?_
  intro p e s m below meth c A ls H locs args Q hQ C0 hZ hr hlk hin hP hD hA hS hl
  have C0 : k_cx p s m args c cX10_toldOfDay 2 RX10 dC dI cy sq := C0
  have hx := C0.1
  have hb := C0.2.1
  have hl : lv_has ls 2 [(0, .ref a_this), (1, .int 2)] := hl
  obtain ⟨O, hO⟩ : ∃ o, o = F_X10_toldOfDay_a0_2 (lf_A g_many) (lf_A g_harms) := ⟨_, rfl⟩
  have hq := hO
  unfold F_X10_toldOfDay_a0_2 at hq
  refine lv_iload_n hx hb dX10_toldOfDay_0 rfl (lv_at hl 1 rfl) ?_
  refine lv_tableIn (off := 52) (tgt := 53) hx hb dX10_toldOfDay_1 (by decide) (by decide) (by decide) (by decide) ?_
  refine lv_aload_n hx hb dX10_toldOfDay_53 rfl (lv_at hl 0 rfl) ?_
  refine k_get C0 fg_X10_167 hP 0 rfl rfl dX10_toldOfDay_54 ?_
  refine lv_aload_n hx hb dX10_toldOfDay_57 rfl (lv_at hl 0 rfl) ?_
  refine k_jim hP hD hS hA [0, 1] [false, false, true] rfl rfl rfl 0 0 (Nat.le_of_ble_eq_true rfl) (Nat.le_of_ble_eq_true rfl) (fun hPc hDc => k_runV (As := []) (rest := [.ref (rm 67)]) C0 hZ hS hA (s_X10_walkerMany l dC dI cy sq a_this rm x_taped x_at x_end x_ended x_bad x_badPlace x_fault x_faultPlace x_namePlace x_awayTold x_away x_coded x_statements x_isCrossing x_textKind x_askSecond x_redMany x_isOpen x_lastGreen x_greenTo x_isCycleGreen x_stillGreen x_rowMany x_fitMany x_fitRules x_fitGreen x_undoable x_newest x_seeded x_qCoded x_qWaits x_qOpened x_qBase x_qPiled x_qAnswer x_qIsNew x_octets g_many ) mV_X10_433 hPc hDc rfl rfl rfl hl rfl rfl (Nat.le_of_ble_eq_true rfl) ⟨(Nat.le_of_ble_eq_true rfl), (Nat.le_of_ble_eq_true rfl)⟩ ⟨(Nat.le_of_ble_eq_true rfl), (Nat.le_of_ble_eq_true rfl)⟩ dX10_toldOfDay_58) (fun r1 u2 H locs hw hP hD hS => ?_)
  try dsimp only at hP hD hw
  replace hP : va_P (dC, dI) vwCl [(wi_rm67_3_12_0 rm cy g_harms), (a_this, .inr (10, mfs rm x_taped x_at x_end x_ended x_bad x_badPlace x_fault x_faultPlace x_namePlace x_awayTold x_away x_coded x_statements x_isCrossing x_textKind x_askSecond x_redMany x_isOpen x_lastGreen x_greenTo x_isCycleGreen x_stillGreen x_rowMany x_fitMany x_fitRules x_fitGreen x_undoable x_newest x_seeded x_qCoded x_qWaits x_qOpened x_qBase x_qPiled x_qAnswer x_qIsNew x_octets)), (wi_rm41_0_4_0 rm cy g_many)] H := hP
  replace hD := k_D hP hD
  obtain ⟨h3, h4⟩ := hw
  subst h3
  replace hq := lf_b1 hq h4
  refine k_jim hP hD hS hA [0] [false, true, true] rfl rfl rfl 0 0 (Nat.le_of_ble_eq_true rfl) (Nat.le_of_ble_eq_true rfl) (fun hPc hDc => k_runS (As := [.ref (rm 67), .int (g_many 3)]) (rest := []) C0 hZ hS hA (s_X10_counted l dC dI cy sq (rm 67) g_harms (g_many 3) (ib_w 0 12 hg_many_3 rfl)) mS_X10_511 hPc hDc hl rfl rfl (Nat.le_of_ble_eq_true rfl) ⟨(Nat.le_of_ble_eq_true rfl), (Nat.le_of_ble_eq_true rfl)⟩ ⟨(Nat.le_of_ble_eq_true rfl), (Nat.le_of_ble_eq_true rfl)⟩ dX10_toldOfDay_61) (fun r5 u6 H locs hw hP hD hS => ?_)
  try dsimp only at hP hD hw
  replace hP : va_P (dC, dI) vwCl [(a_this, .inr (10, mfs rm x_taped x_at x_end x_ended x_bad x_badPlace x_fault x_faultPlace x_namePlace x_awayTold x_away x_coded x_statements x_isCrossing x_textKind x_askSecond x_redMany x_isOpen x_lastGreen x_greenTo x_isCycleGreen x_stillGreen x_rowMany x_fitMany x_fitRules x_fitGreen x_undoable x_newest x_seeded x_qCoded x_qWaits x_qOpened x_qBase x_qPiled x_qAnswer x_qIsNew x_octets)), (wi_rm41_0_4_0 rm cy g_many), (wi_rm67_3_12_0 rm cy g_harms)] H := hP
  replace hD := k_D hP hD
  have h7 := hw
  have h7 := by have h9 := h7; rw [lf_u (lf_pt (lf_ra g_many) 3)] at h9; exact h9
  replace hq := lf_b1 hq h7
  subst hQ; exact k_iret hx hb hr hlk rfl () hS ((hO.symm.trans (by exact hq))) hP hD (Nat.le_of_ble_eq_true rfl) (Nat.le_of_ble_eq_true rfl) dX10_toldOfDay_64
set_option maxHeartbeats 4000000 in
set_option maxRecDepth 100000 in
theorem s_X10_best (l : Launch) (dC : Nat → ClassId) (dI : Nat → Nat → Nat) (cy : Nat → ClassId) (sq : Nat → Nat) (a_this : Nat) (rm : Nat → Nat) (x_taped : Int32) (x_at : Int32) (x_end : Int32) (x_ended : Int32) (x_bad : Int32) (x_badPlace : Int32) (x_fault : Int32) (x_faultPlace : Int32) (x_namePlace : Int32) (x_awayTold : Int32) (x_away : Int32) (x_coded : Int32) (x_statements : Int32) (x_isCrossing : Int32) (x_textKind : Int32) (x_askSecond : Int32) (x_redMany : Int32) (x_isOpen : Int32) (x_lastGreen : Int32) (x_greenTo : Int32) (x_isCycleGreen : Int32) (x_stillGreen : Int32) (x_rowMany : Int32) (x_fitMany : Int32) (x_fitRules : Int32) (x_fitGreen : Int32) (x_undoable : Int32) (x_newest : Int32) (x_seeded : Int64) (x_qCoded : Int32) (x_qWaits : Int32) (x_qOpened : Int32) (x_qBase : Int32) (x_qPiled : Int32) (x_qAnswer : Int64) (x_qIsNew : Int32) (x_octets : Int32) (g_many : Nat → Int32) (g_bar : Nat → Int32) (g_kinds : Nat → Int32) (g_walkers : Nat → Int32) (g_codeFrom : Nat → Int32) (g_codeEnd : Nat → Int32) (g_codes : Nat → Int32) (g_now : Nat → Int32) (g_isCar : Nat → Int32) (g_gaps : Nat → Int32) (g_isGreen : Nat → Int32) (g_isHere : Nat → Int32) (g_crosses : Nat → Int32) (g_waits : Nat → Int32) (g_goes : Nat → Int32) (g_harms : Nat → Int32) (g_presses : Nat → Int32) (g_crossedIn : Nat → Int32) (g_qPile : Nat → Int64) (p0 : Int32) (p1 : Int32) (hx_isCrossing : ib x_isCrossing 0 1) (hx_isOpen : ib x_isOpen 0 1) (hx_isCycleGreen : ib x_isCycleGreen 0 1) (hx_qPiled : ib x_qPiled 0 1700) (hg_many_3 : ib (g_many 3) 0 12) (hg_bar_4 : ib (g_bar 4) 0 120) (hpg_walkers : ip g_walkers 48 2 0 0 5) (hg_codeFrom_3 : ib (g_codeFrom 3) (-1) 1600) (hg_codeFrom_4 : ib (g_codeFrom 4) (-1) 1600) (hg_codeEnd_3 : ib (g_codeEnd 3) 0 1600) (hg_codeEnd_4 : ib (g_codeEnd 4) 0 1600) (hg_gaps : ia g_gaps 300 0 20) (hG0 : ¬ g_codeFrom 3 = (-1) → okc g_codes 1600 false (g_codeFrom 3) (g_codeEnd 3)) (hG1 : ¬ g_codeFrom 4 = (-1) → okc g_codes 1600 true (g_codeFrom 4) (g_codeEnd 4)) (hc_cr : ¬ x_isCrossing = 0 → ib (g_bar 4) 10 120) : k_Met l yX10_best cX10_best 9 (some .int) { frames := 6, cells := 0, slots := 0, locals := 137 } dC dI cy sq [.ref a_this, .int p0, .int p1] [(a_this, .inr (10, mfs rm x_taped x_at x_end x_ended x_bad x_badPlace x_fault x_faultPlace x_namePlace x_awayTold x_away x_coded x_statements x_isCrossing x_textKind x_askSecond x_redMany x_isOpen x_lastGreen x_greenTo x_isCycleGreen x_stillGreen x_rowMany x_fitMany x_fitRules x_fitGreen x_undoable x_newest x_seeded x_qCoded x_qWaits x_qOpened x_qBase x_qPiled x_qAnswer x_qIsNew x_octets)), (wi_rm49_0_6_0 rm cy g_codeFrom), (wi_rm50_0_6_0 rm cy g_codeEnd), (wi_rm116_1_1700_1 rm cy g_qPile), (wi_rm51_0_3200_0 rm cy g_codes), (wi_rm46_0_48_0 rm cy g_walkers), (wi_rm56_0_9_0 rm cy g_now), (wi_rm43_0_8_0 rm cy g_bar), (wi_rm65_0_12_0 rm cy g_waits), (wi_rm44_0_24_0 rm cy g_kinds), (wi_rm61_0_300_0 rm cy g_gaps), (wi_rm66_3_12_0 rm cy g_goes), (wi_rm67_3_12_0 rm cy g_harms), (wi_rm60_3_320_0 rm cy g_isCar), (wi_rm63_3_12_0 rm cy g_isHere), (wi_rm64_0_12_0 rm cy g_crosses), (wi_rm68_3_12_0 rm cy g_presses), (wi_rm69_3_300_0 rm cy g_crossedIn), (wi_rm41_0_4_0 rm cy g_many), (wi_rm62_3_300_0 rm cy g_isGreen)] (k_Qi dC dI (fun (r : Int32) (u : Int32 × Int32 × Int32 × Int32 × Int32 × Int32 × Int32 × Int32 × Int32 × (Nat → Int64) × (Nat → Int32) × (Nat → Int32) × (Nat → Int32) × (Nat → Int32) × (Nat → Int32) × (Nat → Int32) × (Nat → Int32) × (Nat → Int32) × (Nat → Int32) × (Nat → Int32)) => match u with | (n0, n1, n2, n3, n4, n5, n6, n7, n8, n9, n10, n11, n12, n13, n14, n15, n16, n17, n18, n19) => ib n3 0 1 ∧ ib n6 0 1 ∧ ib n8 0 1700 ∧ ia n11 300 0 20 ∧ (F_X10_best (Int32.toInt x_isCrossing) (Int32.toInt x_textKind) (Int32.toInt x_askSecond) (Int32.toInt x_redMany) (Int32.toInt x_isOpen) (Int32.toInt x_lastGreen) (Int32.toInt x_greenTo) (Int32.toInt x_isCycleGreen) (Int32.toInt x_stillGreen) (Int32.toInt x_qPiled) (lf_A g_many) (lf_A g_bar) (lf_A g_kinds) (lf_A g_walkers) (lf_A g_codeFrom) (lf_A g_codeEnd) (lf_A g_codes) (lf_A g_now) (lf_A g_isCar) (lf_A g_gaps) (lf_A g_isGreen) (lf_A g_isHere) (lf_A g_crosses) (lf_A g_waits) (lf_A g_goes) (lf_A g_harms) (lf_A g_presses) (lf_A g_crossedIn) (lf_L g_qPile) (Int32.toInt p0) (Int32.toInt p1) = ((Int32.toInt r), (Int32.toInt n0), (Int32.toInt n1), (Int32.toInt n2), (Int32.toInt n3), (Int32.toInt n4), (Int32.toInt n5), (Int32.toInt n6), (Int32.toInt n7), (Int32.toInt n8), (lf_L n9), (lf_A n10), (lf_A n11), (lf_A n12), (lf_A n13), (lf_A n14), (lf_A n15), (lf_A n16), (lf_A n17), (lf_A n18), (lf_A n19)))) (fun u : Int32 × Int32 × Int32 × Int32 × Int32 × Int32 × Int32 × Int32 × Int32 × (Nat → Int64) × (Nat → Int32) × (Nat → Int32) × (Nat → Int32) × (Nat → Int32) × (Nat → Int32) × (Nat → Int32) × (Nat → Int32) × (Nat → Int32) × (Nat → Int32) × (Nat → Int32) => match u with | (n0, n1, n2, n3, n4, n5, n6, n7, n8, n9, n10, n11, n12, n13, n14, n15, n16, n17, n18, n19) => [(a_this, .inr (10, mfs rm x_taped x_at x_end x_ended x_bad x_badPlace x_fault x_faultPlace x_namePlace x_awayTold x_away x_coded x_statements x_isCrossing n0 n1 n2 n3 n4 n5 n6 n7 x_rowMany x_fitMany x_fitRules x_fitGreen x_undoable x_newest x_seeded x_qCoded x_qWaits x_qOpened x_qBase n8 x_qAnswer x_qIsNew x_octets)), (wi_rm49_0_6_0 rm cy g_codeFrom), (wi_rm50_0_6_0 rm cy g_codeEnd), (wi_rm116_1_1700_1 rm cy n9), (wi_rm51_0_3200_0 rm cy g_codes), (wi_rm46_0_48_0 rm cy g_walkers), (wi_rm56_0_9_0 rm cy g_now), (wi_rm43_0_8_0 rm cy g_bar), (wi_rm65_0_12_0 rm cy n10), (wi_rm44_0_24_0 rm cy g_kinds), (wi_rm61_0_300_0 rm cy n11), (wi_rm66_3_12_0 rm cy n12), (wi_rm67_3_12_0 rm cy n13), (wi_rm60_3_320_0 rm cy n14), (wi_rm63_3_12_0 rm cy n15), (wi_rm64_0_12_0 rm cy n16), (wi_rm68_3_12_0 rm cy n17), (wi_rm69_3_300_0 rm cy n18), (wi_rm41_0_4_0 rm cy g_many), (wi_rm62_3_300_0 rm cy n19)])) := by
  refine k_ofW2 (by decide +kernel) (Nat.le_of_ble_eq_true rfl) ?_
  intro p e s m below meth c A ls H locs args Q hQ C0 hZ hr hlk hin hP hD hA hS hl
  have C0 : k_cx p s m args c cX10_best 9 RX10 dC dI cy sq := C0
  have hx := C0.1
  have hb := C0.2.1
  have hl : lv_has ls 9 [(0, .ref a_this), (1, .int p0), (2, .int p1)] := hl
  obtain ⟨O, hO⟩ : ∃ o, o = F_X10_best (Int32.toInt x_isCrossing) (Int32.toInt x_textKind) (Int32.toInt x_askSecond) (Int32.toInt x_redMany) (Int32.toInt x_isOpen) (Int32.toInt x_lastGreen) (Int32.toInt x_greenTo) (Int32.toInt x_isCycleGreen) (Int32.toInt x_stillGreen) (Int32.toInt x_qPiled) (lf_A g_many) (lf_A g_bar) (lf_A g_kinds) (lf_A g_walkers) (lf_A g_codeFrom) (lf_A g_codeEnd) (lf_A g_codes) (lf_A g_now) (lf_A g_isCar) (lf_A g_gaps) (lf_A g_isGreen) (lf_A g_isHere) (lf_A g_crosses) (lf_A g_waits) (lf_A g_goes) (lf_A g_harms) (lf_A g_presses) (lf_A g_crossedIn) (lf_L g_qPile) (Int32.toInt p0) (Int32.toInt p1) := ⟨_, rfl⟩
  have hq := hO
  unfold F_X10_best at hq
  have jn48 : ∀ (n : Nat) (J48_c0_55 : Int32) (J48_c0_58 : Int32) (J48_c0_117 : Int32) (J48_a3 : Nat → Int64) (J48_a10 : Nat → Int32) (J48_a13 : Nat → Int32) (J48_l3 : Int32) (J48_l4 : Int32) (J48_l5 : Int32) (J48_l6 : Int32) (J48_c0_59 : Int32) (J48_c0_70 : Int32) (J48_c0_71 : Int32) (J48_c0_72 : Int32) (J48_c0_73 : Int32) (J48_c0_74 : Int32) (J48_a8 : Nat → Int32) (J48_a11 : Nat → Int32) (J48_a12 : Nat → Int32) (J48_a14 : Nat → Int32) (J48_a15 : Nat → Int32) (J48_a16 : Nat → Int32) (J48_a17 : Nat → Int32) (J48_a19 : Nat → Int32) (H : Heap) (locs : List Loc) (ls : Array Slot), ib p0 0 12 → ib p1 0 2 → ib x_isCrossing 1 1 → ib J48_c0_117 0 1700 → ib (g_bar 4) 10 120 → ib J48_l3 (-1) 2 → ib J48_l4 (-1) 40 → ib J48_l6 1 41 → ib J48_c0_70 0 1 → ib J48_c0_73 0 1 → ia J48_a10 300 0 20 → (O = F_X10_best_48 (lf_A g_many) (lf_A g_bar) (lf_A g_kinds) (lf_A g_walkers) (lf_A g_codeFrom) (lf_A g_codeEnd) (lf_A g_codes) (lf_A g_now) (Int32.toInt p0) (Int32.toInt p1) n (Int32.toInt J48_c0_55) (Int32.toInt J48_c0_58) (Int32.toInt J48_c0_117) (lf_L J48_a3) (lf_A J48_a10) (lf_A J48_a13) (Int32.toInt J48_l3) (Int32.toInt J48_l4) (Int32.toInt J48_l5) (Int32.toInt J48_l6) (Int32.toInt J48_c0_59) (Int32.toInt J48_c0_70) (Int32.toInt J48_c0_71) (Int32.toInt J48_c0_72) (Int32.toInt J48_c0_73) (Int32.toInt J48_c0_74) (lf_A J48_a8) (lf_A J48_a11) (lf_A J48_a12) (lf_A J48_a14) (lf_A J48_a15) (lf_A J48_a16) (lf_A J48_a17) (lf_A J48_a19)) → 42 ≤ J48_l6.toInt + (n : Int) → va_P (dC, dI) vwCl [(a_this, .inr (10, mfs rm x_taped x_at x_end x_ended x_bad x_badPlace x_fault x_faultPlace x_namePlace x_awayTold x_away x_coded x_statements x_isCrossing J48_c0_55 J48_c0_58 J48_c0_59 J48_c0_70 J48_c0_71 J48_c0_72 J48_c0_73 J48_c0_74 x_rowMany x_fitMany x_fitRules x_fitGreen x_undoable x_newest x_seeded x_qCoded x_qWaits x_qOpened x_qBase J48_c0_117 x_qAnswer x_qIsNew x_octets)), (wi_rm49_0_6_0 rm cy g_codeFrom), (wi_rm50_0_6_0 rm cy g_codeEnd), (wi_rm116_1_1700_1 rm cy J48_a3), (wi_rm51_0_3200_0 rm cy g_codes), (wi_rm46_0_48_0 rm cy g_walkers), (wi_rm56_0_9_0 rm cy g_now), (wi_rm43_0_8_0 rm cy g_bar), (wi_rm65_0_12_0 rm cy J48_a8), (wi_rm44_0_24_0 rm cy g_kinds), (wi_rm61_0_300_0 rm cy J48_a10), (wi_rm66_3_12_0 rm cy J48_a11), (wi_rm67_3_12_0 rm cy J48_a12), (wi_rm60_3_320_0 rm cy J48_a13), (wi_rm63_3_12_0 rm cy J48_a14), (wi_rm64_0_12_0 rm cy J48_a15), (wi_rm68_3_12_0 rm cy J48_a16), (wi_rm69_3_300_0 rm cy J48_a17), (wi_rm41_0_4_0 rm cy g_many), (wi_rm62_3_300_0 rm cy J48_a19)] H → va_D A [(a_this, .inr (10, mfs rm x_taped x_at x_end x_ended x_bad x_badPlace x_fault x_faultPlace x_namePlace x_awayTold x_away x_coded x_statements x_isCrossing J48_c0_55 J48_c0_58 J48_c0_59 J48_c0_70 J48_c0_71 J48_c0_72 J48_c0_73 J48_c0_74 x_rowMany x_fitMany x_fitRules x_fitGreen x_undoable x_newest x_seeded x_qCoded x_qWaits x_qOpened x_qBase J48_c0_117 x_qAnswer x_qIsNew x_octets)), (wi_rm49_0_6_0 rm cy g_codeFrom), (wi_rm50_0_6_0 rm cy g_codeEnd), (wi_rm116_1_1700_1 rm cy J48_a3), (wi_rm51_0_3200_0 rm cy g_codes), (wi_rm46_0_48_0 rm cy g_walkers), (wi_rm56_0_9_0 rm cy g_now), (wi_rm43_0_8_0 rm cy g_bar), (wi_rm65_0_12_0 rm cy J48_a8), (wi_rm44_0_24_0 rm cy g_kinds), (wi_rm61_0_300_0 rm cy J48_a10), (wi_rm66_3_12_0 rm cy J48_a11), (wi_rm67_3_12_0 rm cy J48_a12), (wi_rm60_3_320_0 rm cy J48_a13), (wi_rm63_3_12_0 rm cy J48_a14), (wi_rm64_0_12_0 rm cy J48_a15), (wi_rm68_3_12_0 rm cy J48_a16), (wi_rm69_3_300_0 rm cy J48_a17), (wi_rm41_0_4_0 rm cy g_many), (wi_rm62_3_300_0 rm cy J48_a19)] → va_S A s.heap H locs → lv_has ls 9 [(0, .ref a_this), (1, .int p0), (2, .int p1), (3, .int J48_l3), (4, .int J48_l4), (5, .int J48_l5), (6, .int J48_l6)] → W p l e { frames := 6, cells := 0, slots := 0, locals := 137 } s m args below meth c H locs 0 0 Q (F0 m 48 ls []) := by
    as_aux_lemma =>
      intro n
      induction n with
      | zero =>
        intro J48_c0_55 J48_c0_58 J48_c0_117 J48_a3 J48_a10 J48_a13 J48_l3 J48_l4 J48_l5 J48_l6 J48_c0_59 J48_c0_70 J48_c0_71 J48_c0_72 J48_c0_73 J48_c0_74 J48_a8 J48_a11 J48_a12 J48_a14 J48_a15 J48_a16 J48_a17 J48_a19 H locs ls hK48_p0 hK48_p1 hK48_x_isCrossing hJ48_c0_117 hJ48_a7_4 hJ48_l3 hJ48_l4 hJ48_l6 hJ48_c0_70 hJ48_c0_73 hJ48_a10 hq hm
        exact absurd hm (by have := hJ48_l6; unfold ib at this; omega)
      | succ n ih =>
        intro J48_c0_55 J48_c0_58 J48_c0_117 J48_a3 J48_a10 J48_a13 J48_l3 J48_l4 J48_l5 J48_l6 J48_c0_59 J48_c0_70 J48_c0_71 J48_c0_72 J48_c0_73 J48_c0_74 J48_a8 J48_a11 J48_a12 J48_a14 J48_a15 J48_a16 J48_a17 J48_a19 H locs ls hK48_p0 hK48_p1 hK48_x_isCrossing hJ48_c0_117 hJ48_a7_4 hJ48_l3 hJ48_l4 hJ48_l6 hJ48_c0_70 hJ48_c0_73 hJ48_a10 hq hm48 hP hD hS hl
        have ih48 := ih
        obtain ⟨K48, hK48⟩ : ∃ K, K = F_X10_best_48 (lf_A g_many) (lf_A g_bar) (lf_A g_kinds) (lf_A g_walkers) (lf_A g_codeFrom) (lf_A g_codeEnd) (lf_A g_codes) (lf_A g_now) (Int32.toInt p0) (Int32.toInt p1) n := ⟨_, rfl⟩
        have hq : O = F_X10_best_48b (lf_A g_many) (lf_A g_bar) (lf_A g_kinds) (lf_A g_walkers) (lf_A g_codeFrom) (lf_A g_codeEnd) (lf_A g_codes) (lf_A g_now) (Int32.toInt p0) (Int32.toInt p1) K48 (Int32.toInt J48_c0_55) (Int32.toInt J48_c0_58) (Int32.toInt J48_c0_117) (lf_L J48_a3) (lf_A J48_a10) (lf_A J48_a13) (Int32.toInt J48_l3) (Int32.toInt J48_l4) (Int32.toInt J48_l5) (Int32.toInt J48_l6) (Int32.toInt J48_c0_59) (Int32.toInt J48_c0_70) (Int32.toInt J48_c0_71) (Int32.toInt J48_c0_72) (Int32.toInt J48_c0_73) (Int32.toInt J48_c0_74) (lf_A J48_a8) (lf_A J48_a11) (lf_A J48_a12) (lf_A J48_a14) (lf_A J48_a15) (lf_A J48_a16) (lf_A J48_a17) (lf_A J48_a19) := by rw [hK48]; exact hq
        unfold F_X10_best_48b at hq
        have jn62 : ∀ (n : Nat) (J62_l3 : Int32) (J62_l4 : Int32) (J62_l5 : Int32) (J62_l7 : Int32) (J62_c0_55 : Int32) (J62_c0_58 : Int32) (J62_c0_59 : Int32) (J62_c0_70 : Int32) (J62_c0_71 : Int32) (J62_c0_72 : Int32) (J62_c0_73 : Int32) (J62_c0_74 : Int32) (J62_c0_117 : Int32) (J62_a3 : Nat → Int64) (J62_a8 : Nat → Int32) (J62_a11 : Nat → Int32) (J62_a12 : Nat → Int32) (J62_a14 : Nat → Int32) (J62_a15 : Nat → Int32) (J62_a16 : Nat → Int32) (J62_a17 : Nat → Int32) (J62_a19 : Nat → Int32) (H : Heap) (locs : List Loc) (ls : Array Slot), ib p0 0 12 → ib p1 0 2 → ib J48_l6 1 40 → ib x_isCrossing 1 1 → ib (g_bar 4) 10 120 → ib J62_l3 (-1) 2 → ib J62_l4 (-1) 40 → ib J62_l7 0 3 → ib J62_c0_70 0 1 → ib J62_c0_73 0 1 → ib J62_c0_117 0 1700 → (O = F_X10_best_62 (lf_A g_many) (lf_A g_bar) (lf_A g_kinds) (lf_A g_walkers) (lf_A g_codeFrom) (lf_A g_codeEnd) (lf_A g_codes) (lf_A g_now) (Int32.toInt p0) (lf_A J48_a10) (lf_A J48_a13) (Int32.toInt J48_l6) K48 n (Int32.toInt J62_l3) (Int32.toInt J62_l4) (Int32.toInt J62_l5) (Int32.toInt J62_l7) (Int32.toInt J62_c0_55) (Int32.toInt J62_c0_58) (Int32.toInt J62_c0_59) (Int32.toInt J62_c0_70) (Int32.toInt J62_c0_71) (Int32.toInt J62_c0_72) (Int32.toInt J62_c0_73) (Int32.toInt J62_c0_74) (Int32.toInt J62_c0_117) (lf_L J62_a3) (lf_A J62_a8) (lf_A J62_a11) (lf_A J62_a12) (lf_A J62_a14) (lf_A J62_a15) (lf_A J62_a16) (lf_A J62_a17) (lf_A J62_a19)) → 4 ≤ J62_l7.toInt + (n : Int) → va_P (dC, dI) vwCl [(a_this, .inr (10, mfs rm x_taped x_at x_end x_ended x_bad x_badPlace x_fault x_faultPlace x_namePlace x_awayTold x_away x_coded x_statements x_isCrossing J62_c0_55 J62_c0_58 J62_c0_59 J62_c0_70 J62_c0_71 J62_c0_72 J62_c0_73 J62_c0_74 x_rowMany x_fitMany x_fitRules x_fitGreen x_undoable x_newest x_seeded x_qCoded x_qWaits x_qOpened x_qBase J62_c0_117 x_qAnswer x_qIsNew x_octets)), (wi_rm49_0_6_0 rm cy g_codeFrom), (wi_rm50_0_6_0 rm cy g_codeEnd), (wi_rm116_1_1700_1 rm cy J62_a3), (wi_rm51_0_3200_0 rm cy g_codes), (wi_rm46_0_48_0 rm cy g_walkers), (wi_rm56_0_9_0 rm cy g_now), (wi_rm43_0_8_0 rm cy g_bar), (wi_rm65_0_12_0 rm cy J62_a8), (wi_rm44_0_24_0 rm cy g_kinds), (wi_rm61_0_300_0 rm cy J48_a10), (wi_rm66_3_12_0 rm cy J62_a11), (wi_rm67_3_12_0 rm cy J62_a12), (wi_rm60_3_320_0 rm cy J48_a13), (wi_rm63_3_12_0 rm cy J62_a14), (wi_rm64_0_12_0 rm cy J62_a15), (wi_rm68_3_12_0 rm cy J62_a16), (wi_rm69_3_300_0 rm cy J62_a17), (wi_rm41_0_4_0 rm cy g_many), (wi_rm62_3_300_0 rm cy J62_a19)] H → va_D A [(a_this, .inr (10, mfs rm x_taped x_at x_end x_ended x_bad x_badPlace x_fault x_faultPlace x_namePlace x_awayTold x_away x_coded x_statements x_isCrossing J62_c0_55 J62_c0_58 J62_c0_59 J62_c0_70 J62_c0_71 J62_c0_72 J62_c0_73 J62_c0_74 x_rowMany x_fitMany x_fitRules x_fitGreen x_undoable x_newest x_seeded x_qCoded x_qWaits x_qOpened x_qBase J62_c0_117 x_qAnswer x_qIsNew x_octets)), (wi_rm49_0_6_0 rm cy g_codeFrom), (wi_rm50_0_6_0 rm cy g_codeEnd), (wi_rm116_1_1700_1 rm cy J62_a3), (wi_rm51_0_3200_0 rm cy g_codes), (wi_rm46_0_48_0 rm cy g_walkers), (wi_rm56_0_9_0 rm cy g_now), (wi_rm43_0_8_0 rm cy g_bar), (wi_rm65_0_12_0 rm cy J62_a8), (wi_rm44_0_24_0 rm cy g_kinds), (wi_rm61_0_300_0 rm cy J48_a10), (wi_rm66_3_12_0 rm cy J62_a11), (wi_rm67_3_12_0 rm cy J62_a12), (wi_rm60_3_320_0 rm cy J48_a13), (wi_rm63_3_12_0 rm cy J62_a14), (wi_rm64_0_12_0 rm cy J62_a15), (wi_rm68_3_12_0 rm cy J62_a16), (wi_rm69_3_300_0 rm cy J62_a17), (wi_rm41_0_4_0 rm cy g_many), (wi_rm62_3_300_0 rm cy J62_a19)] → va_S A s.heap H locs → lv_has ls 9 [(0, .ref a_this), (1, .int p0), (2, .int p1), (3, .int J62_l3), (4, .int J62_l4), (5, .int J62_l5), (6, .int J48_l6), (7, .int J62_l7)] → W p l e { frames := 6, cells := 0, slots := 0, locals := 137 } s m args below meth c H locs 0 0 Q (F0 m 62 ls []) := by
          as_aux_lemma =>
            intro n
            induction n with
            | zero =>
              intro J62_l3 J62_l4 J62_l5 J62_l7 J62_c0_55 J62_c0_58 J62_c0_59 J62_c0_70 J62_c0_71 J62_c0_72 J62_c0_73 J62_c0_74 J62_c0_117 J62_a3 J62_a8 J62_a11 J62_a12 J62_a14 J62_a15 J62_a16 J62_a17 J62_a19 H locs ls hK62_p0 hK62_p1 hK62_J48_l6 hK62_x_isCrossing hJ62_a7_4 hJ62_l3 hJ62_l4 hJ62_l7 hJ62_c0_70 hJ62_c0_73 hJ62_c0_117 hq hm
              exact absurd hm (by have := hJ62_l7; unfold ib at this; omega)
            | succ n ih =>
              intro J62_l3 J62_l4 J62_l5 J62_l7 J62_c0_55 J62_c0_58 J62_c0_59 J62_c0_70 J62_c0_71 J62_c0_72 J62_c0_73 J62_c0_74 J62_c0_117 J62_a3 J62_a8 J62_a11 J62_a12 J62_a14 J62_a15 J62_a16 J62_a17 J62_a19 H locs ls hK62_p0 hK62_p1 hK62_J48_l6 hK62_x_isCrossing hJ62_a7_4 hJ62_l3 hJ62_l4 hJ62_l7 hJ62_c0_70 hJ62_c0_73 hJ62_c0_117 hq hm62 hP hD hS hl
              have ih62 := ih
              obtain ⟨K62, hK62⟩ : ∃ K, K = F_X10_best_62 (lf_A g_many) (lf_A g_bar) (lf_A g_kinds) (lf_A g_walkers) (lf_A g_codeFrom) (lf_A g_codeEnd) (lf_A g_codes) (lf_A g_now) (Int32.toInt p0) (lf_A J48_a10) (lf_A J48_a13) (Int32.toInt J48_l6) K48 n := ⟨_, rfl⟩
              have hq : O = F_X10_best_62b (lf_A g_many) (lf_A g_bar) (lf_A g_kinds) (lf_A g_walkers) (lf_A g_codeFrom) (lf_A g_codeEnd) (lf_A g_codes) (lf_A g_now) (Int32.toInt p0) (lf_A J48_a10) (lf_A J48_a13) (Int32.toInt J48_l6) K48 K62 (Int32.toInt J62_l3) (Int32.toInt J62_l4) (Int32.toInt J62_l5) (Int32.toInt J62_l7) (Int32.toInt J62_c0_55) (Int32.toInt J62_c0_58) (Int32.toInt J62_c0_59) (Int32.toInt J62_c0_70) (Int32.toInt J62_c0_71) (Int32.toInt J62_c0_72) (Int32.toInt J62_c0_73) (Int32.toInt J62_c0_74) (Int32.toInt J62_c0_117) (lf_L J62_a3) (lf_A J62_a8) (lf_A J62_a11) (lf_A J62_a12) (lf_A J62_a14) (lf_A J62_a15) (lf_A J62_a16) (lf_A J62_a17) (lf_A J62_a19) := by rw [hK62]; exact hq
              unfold F_X10_best_62b at hq
              have jn120 : ∀ (J120_l8 : Int32) (J120_c0_55 : Int32) (J120_c0_58 : Int32) (J120_c0_59 : Int32) (J120_c0_70 : Int32) (J120_c0_71 : Int32) (J120_c0_72 : Int32) (J120_c0_73 : Int32) (J120_c0_74 : Int32) (J120_c0_117 : Int32) (J120_a3 : Nat → Int64) (J120_a8 : Nat → Int32) (J120_a11 : Nat → Int32) (J120_a12 : Nat → Int32) (J120_a14 : Nat → Int32) (J120_a15 : Nat → Int32) (J120_a16 : Nat → Int32) (J120_a17 : Nat → Int32) (J120_a19 : Nat → Int32) (J120_l3 : Int32) (J120_l4 : Int32) (J120_l5 : Int32) (H : Heap) (locs : List Loc) (ls : Array Slot), ib p0 0 12 → ib p1 0 2 → ib J48_l6 1 40 → ib J62_l7 0 2 → ib x_isCrossing 1 1 → ib J120_c0_70 0 1 → ib J120_c0_73 0 1 → ib J120_c0_117 0 1700 → ib (g_bar 4) 10 120 → ib J120_l3 (-1) 2 → ib J120_l4 (-1) 40 → (O = F_X10_best_120 (Int32.toInt J62_l7) K62 (Int32.toInt J120_l8) (Int32.toInt J120_c0_55) (Int32.toInt J120_c0_58) (Int32.toInt J120_c0_59) (Int32.toInt J120_c0_70) (Int32.toInt J120_c0_71) (Int32.toInt J120_c0_72) (Int32.toInt J120_c0_73) (Int32.toInt J120_c0_74) (Int32.toInt J120_c0_117) (lf_L J120_a3) (lf_A J120_a8) (lf_A J120_a11) (lf_A J120_a12) (lf_A J120_a14) (lf_A J120_a15) (lf_A J120_a16) (lf_A J120_a17) (lf_A J120_a19) (Int32.toInt J120_l3) (Int32.toInt J120_l4) (Int32.toInt J120_l5)) → va_P (dC, dI) vwCl [(a_this, .inr (10, mfs rm x_taped x_at x_end x_ended x_bad x_badPlace x_fault x_faultPlace x_namePlace x_awayTold x_away x_coded x_statements x_isCrossing J120_c0_55 J120_c0_58 J120_c0_59 J120_c0_70 J120_c0_71 J120_c0_72 J120_c0_73 J120_c0_74 x_rowMany x_fitMany x_fitRules x_fitGreen x_undoable x_newest x_seeded x_qCoded x_qWaits x_qOpened x_qBase J120_c0_117 x_qAnswer x_qIsNew x_octets)), (wi_rm49_0_6_0 rm cy g_codeFrom), (wi_rm50_0_6_0 rm cy g_codeEnd), (wi_rm116_1_1700_1 rm cy J120_a3), (wi_rm51_0_3200_0 rm cy g_codes), (wi_rm46_0_48_0 rm cy g_walkers), (wi_rm56_0_9_0 rm cy g_now), (wi_rm43_0_8_0 rm cy g_bar), (wi_rm65_0_12_0 rm cy J120_a8), (wi_rm44_0_24_0 rm cy g_kinds), (wi_rm61_0_300_0 rm cy J48_a10), (wi_rm66_3_12_0 rm cy J120_a11), (wi_rm67_3_12_0 rm cy J120_a12), (wi_rm60_3_320_0 rm cy J48_a13), (wi_rm63_3_12_0 rm cy J120_a14), (wi_rm64_0_12_0 rm cy J120_a15), (wi_rm68_3_12_0 rm cy J120_a16), (wi_rm69_3_300_0 rm cy J120_a17), (wi_rm41_0_4_0 rm cy g_many), (wi_rm62_3_300_0 rm cy J120_a19)] H → va_D A [(a_this, .inr (10, mfs rm x_taped x_at x_end x_ended x_bad x_badPlace x_fault x_faultPlace x_namePlace x_awayTold x_away x_coded x_statements x_isCrossing J120_c0_55 J120_c0_58 J120_c0_59 J120_c0_70 J120_c0_71 J120_c0_72 J120_c0_73 J120_c0_74 x_rowMany x_fitMany x_fitRules x_fitGreen x_undoable x_newest x_seeded x_qCoded x_qWaits x_qOpened x_qBase J120_c0_117 x_qAnswer x_qIsNew x_octets)), (wi_rm49_0_6_0 rm cy g_codeFrom), (wi_rm50_0_6_0 rm cy g_codeEnd), (wi_rm116_1_1700_1 rm cy J120_a3), (wi_rm51_0_3200_0 rm cy g_codes), (wi_rm46_0_48_0 rm cy g_walkers), (wi_rm56_0_9_0 rm cy g_now), (wi_rm43_0_8_0 rm cy g_bar), (wi_rm65_0_12_0 rm cy J120_a8), (wi_rm44_0_24_0 rm cy g_kinds), (wi_rm61_0_300_0 rm cy J48_a10), (wi_rm66_3_12_0 rm cy J120_a11), (wi_rm67_3_12_0 rm cy J120_a12), (wi_rm60_3_320_0 rm cy J48_a13), (wi_rm63_3_12_0 rm cy J120_a14), (wi_rm64_0_12_0 rm cy J120_a15), (wi_rm68_3_12_0 rm cy J120_a16), (wi_rm69_3_300_0 rm cy J120_a17), (wi_rm41_0_4_0 rm cy g_many), (wi_rm62_3_300_0 rm cy J120_a19)] → va_S A s.heap H locs → lv_has ls 9 [(0, .ref a_this), (1, .int p0), (2, .int p1), (3, .int J120_l3), (4, .int J120_l4), (5, .int J120_l5), (6, .int J48_l6), (7, .int J62_l7), (8, .int J120_l8)] → W p l e { frames := 6, cells := 0, slots := 0, locals := 137 } s m args below meth c H locs 0 0 Q (F0 m 120 ls []) := by
                intro J120_l8 J120_c0_55 J120_c0_58 J120_c0_59 J120_c0_70 J120_c0_71 J120_c0_72 J120_c0_73 J120_c0_74 J120_c0_117 J120_a3 J120_a8 J120_a11 J120_a12 J120_a14 J120_a15 J120_a16 J120_a17 J120_a19 J120_l3 J120_l4 J120_l5 H locs ls hK120_p0 hK120_p1 hK120_J48_l6 hK120_J62_l7 hK120_x_isCrossing hJ120_c0_70 hJ120_c0_73 hJ120_c0_117 hJ120_a7_4 hJ120_l3 hJ120_l4 hq hP hD hS hl
                unfold F_X10_best_120 at hq
                obtain ⟨z1, ez1⟩ : ∃ y : Int32, y = J62_l7 + 1 := ⟨_, rfl⟩
                refine lv_iinc (v := z1) (lv' := [(7, .int z1), (0, .ref a_this), (1, .int p0), (2, .int p1), (3, .int J120_l3), (4, .int J120_l4), (5, .int J120_l5), (6, .int J48_l6), (8, .int J120_l8)]) hx hb dX10_best_120 hl (k := 7) rfl (by rw [ez1]; rfl) (Nat.le_of_ble_eq_true rfl) rfl (fun ls hl => ?_)
                have h2 := ib_add hK120_J62_l7 (ib_c 1 1 1 rfl) rfl
                rw [← ez1] at h2
                have h3 : ib z1 1 3 := ib_w 1 3 h2.1 rfl
                have Ez1 := lf_add h2.2 (lf_rf J62_l7) (lf_lc 1 (1 : Int) rfl)
                refine lv_goto (tgt := 62) hx hb dX10_best_123 rfl ?_
                exact ih62 J120_l3 J120_l4 J120_l5 z1 J120_c0_55 J120_c0_58 J120_c0_59 J120_c0_70 J120_c0_71 J120_c0_72 J120_c0_73 J120_c0_74 J120_c0_117 J120_a3 J120_a8 J120_a11 J120_a12 J120_a14 J120_a15 J120_a16 J120_a17 J120_a19 H locs ls (ib_w 0 12 hK120_p0 rfl) (ib_w 0 2 hK120_p1 rfl) (ib_w 1 40 hK120_J48_l6 rfl) (ib_w 1 1 hK120_x_isCrossing rfl) (ib_w 10 120 hJ120_a7_4 rfl) (ib_w (-1) 2 hJ120_l3 rfl) (ib_w (-1) 40 hJ120_l4 rfl) (ib_w 0 3 h3 rfl) (ib_w 0 1 hJ120_c0_70 rfl) (ib_w 0 1 hJ120_c0_73 rfl) (ib_w 0 1700 hJ120_c0_117 rfl) (by rw [← hK62]; rw [lf_u Ez1]; exact hq) (by have := h2.2; have : (1 : Int32).toInt = 1 := rfl; omega) hP hD hS (lv_sub hl [1, 2, 3, 4, 5, 6, 7, 0] rfl)
              have jn109 : ∀ (J109_l8 : Int32) (J109_c0_55 : Int32) (J109_c0_58 : Int32) (J109_c0_59 : Int32) (J109_c0_70 : Int32) (J109_c0_71 : Int32) (J109_c0_72 : Int32) (J109_c0_73 : Int32) (J109_c0_74 : Int32) (J109_c0_117 : Int32) (J109_a3 : Nat → Int64) (J109_a8 : Nat → Int32) (J109_a11 : Nat → Int32) (J109_a12 : Nat → Int32) (J109_a14 : Nat → Int32) (J109_a15 : Nat → Int32) (J109_a16 : Nat → Int32) (J109_a17 : Nat → Int32) (J109_a19 : Nat → Int32) (H : Heap) (locs : List Loc) (ls : Array Slot), ib p0 0 12 → ib p1 0 2 → ib J62_l3 (-1) 2 → ib J62_l4 (-1) 40 → ib J62_l5 (-2147483647) 2147483647 → ib J48_l6 1 40 → ib J62_l7 0 2 → ib x_isCrossing 1 1 → ib J109_c0_70 0 1 → ib J109_c0_73 0 1 → ib J109_c0_117 0 1700 → ib (g_bar 4) 10 120 → (O = F_X10_best_109 (Int32.toInt J48_l6) (Int32.toInt J62_l7) K62 (Int32.toInt J109_l8) (Int32.toInt J109_c0_55) (Int32.toInt J109_c0_58) (Int32.toInt J109_c0_59) (Int32.toInt J109_c0_70) (Int32.toInt J109_c0_71) (Int32.toInt J109_c0_72) (Int32.toInt J109_c0_73) (Int32.toInt J109_c0_74) (Int32.toInt J109_c0_117) (lf_L J109_a3) (lf_A J109_a8) (lf_A J109_a11) (lf_A J109_a12) (lf_A J109_a14) (lf_A J109_a15) (lf_A J109_a16) (lf_A J109_a17) (lf_A J109_a19)) → va_P (dC, dI) vwCl [(a_this, .inr (10, mfs rm x_taped x_at x_end x_ended x_bad x_badPlace x_fault x_faultPlace x_namePlace x_awayTold x_away x_coded x_statements x_isCrossing J109_c0_55 J109_c0_58 J109_c0_59 J109_c0_70 J109_c0_71 J109_c0_72 J109_c0_73 J109_c0_74 x_rowMany x_fitMany x_fitRules x_fitGreen x_undoable x_newest x_seeded x_qCoded x_qWaits x_qOpened x_qBase J109_c0_117 x_qAnswer x_qIsNew x_octets)), (wi_rm49_0_6_0 rm cy g_codeFrom), (wi_rm50_0_6_0 rm cy g_codeEnd), (wi_rm116_1_1700_1 rm cy J109_a3), (wi_rm51_0_3200_0 rm cy g_codes), (wi_rm46_0_48_0 rm cy g_walkers), (wi_rm56_0_9_0 rm cy g_now), (wi_rm43_0_8_0 rm cy g_bar), (wi_rm65_0_12_0 rm cy J109_a8), (wi_rm44_0_24_0 rm cy g_kinds), (wi_rm61_0_300_0 rm cy J48_a10), (wi_rm66_3_12_0 rm cy J109_a11), (wi_rm67_3_12_0 rm cy J109_a12), (wi_rm60_3_320_0 rm cy J48_a13), (wi_rm63_3_12_0 rm cy J109_a14), (wi_rm64_0_12_0 rm cy J109_a15), (wi_rm68_3_12_0 rm cy J109_a16), (wi_rm69_3_300_0 rm cy J109_a17), (wi_rm41_0_4_0 rm cy g_many), (wi_rm62_3_300_0 rm cy J109_a19)] H → va_D A [(a_this, .inr (10, mfs rm x_taped x_at x_end x_ended x_bad x_badPlace x_fault x_faultPlace x_namePlace x_awayTold x_away x_coded x_statements x_isCrossing J109_c0_55 J109_c0_58 J109_c0_59 J109_c0_70 J109_c0_71 J109_c0_72 J109_c0_73 J109_c0_74 x_rowMany x_fitMany x_fitRules x_fitGreen x_undoable x_newest x_seeded x_qCoded x_qWaits x_qOpened x_qBase J109_c0_117 x_qAnswer x_qIsNew x_octets)), (wi_rm49_0_6_0 rm cy g_codeFrom), (wi_rm50_0_6_0 rm cy g_codeEnd), (wi_rm116_1_1700_1 rm cy J109_a3), (wi_rm51_0_3200_0 rm cy g_codes), (wi_rm46_0_48_0 rm cy g_walkers), (wi_rm56_0_9_0 rm cy g_now), (wi_rm43_0_8_0 rm cy g_bar), (wi_rm65_0_12_0 rm cy J109_a8), (wi_rm44_0_24_0 rm cy g_kinds), (wi_rm61_0_300_0 rm cy J48_a10), (wi_rm66_3_12_0 rm cy J109_a11), (wi_rm67_3_12_0 rm cy J109_a12), (wi_rm60_3_320_0 rm cy J48_a13), (wi_rm63_3_12_0 rm cy J109_a14), (wi_rm64_0_12_0 rm cy J109_a15), (wi_rm68_3_12_0 rm cy J109_a16), (wi_rm69_3_300_0 rm cy J109_a17), (wi_rm41_0_4_0 rm cy g_many), (wi_rm62_3_300_0 rm cy J109_a19)] → va_S A s.heap H locs → lv_has ls 9 [(0, .ref a_this), (1, .int p0), (2, .int p1), (3, .int J62_l3), (4, .int J62_l4), (5, .int J62_l5), (6, .int J48_l6), (7, .int J62_l7), (8, .int J109_l8)] → W p l e { frames := 6, cells := 0, slots := 0, locals := 137 } s m args below meth c H locs 0 0 Q (F0 m 109 ls []) := by
                intro J109_l8 J109_c0_55 J109_c0_58 J109_c0_59 J109_c0_70 J109_c0_71 J109_c0_72 J109_c0_73 J109_c0_74 J109_c0_117 J109_a3 J109_a8 J109_a11 J109_a12 J109_a14 J109_a15 J109_a16 J109_a17 J109_a19 H locs ls hK109_p0 hK109_p1 hK109_J62_l3 hK109_J62_l4 hK109_J62_l5 hK109_J48_l6 hK109_J62_l7 hK109_x_isCrossing hJ109_c0_70 hJ109_c0_73 hJ109_c0_117 hJ109_a7_4 hq hP hD hS hl
                unfold F_X10_best_109 at hq
                refine lv_iload hx hb dX10_best_109 (lv_at hl 7 rfl) ?_
                refine lv_istore_n (lv' := [(3, .int J62_l7), (0, .ref a_this), (1, .int p0), (2, .int p1), (4, .int J62_l4), (5, .int J62_l5), (6, .int J48_l6), (7, .int J62_l7), (8, .int J109_l8)]) hx hb dX10_best_111 rfl hl (Nat.le_of_ble_eq_true rfl) rfl (fun ls hl => ?_)
                refine lv_iload hx hb dX10_best_112 (lv_at hl 6 rfl) ?_
                refine lv_istore (lv' := [(4, .int J48_l6), (3, .int J62_l7), (0, .ref a_this), (1, .int p0), (2, .int p1), (5, .int J62_l5), (6, .int J48_l6), (7, .int J62_l7), (8, .int J109_l8)]) hx hb dX10_best_114 hl (Nat.le_of_ble_eq_true rfl) rfl (fun ls hl => ?_)
                refine lv_iload hx hb dX10_best_116 (lv_at hl 8 rfl) ?_
                refine lv_istore (lv' := [(5, .int J109_l8), (4, .int J48_l6), (3, .int J62_l7), (0, .ref a_this), (1, .int p0), (2, .int p1), (6, .int J48_l6), (7, .int J62_l7), (8, .int J109_l8)]) hx hb dX10_best_118 hl (Nat.le_of_ble_eq_true rfl) rfl (fun ls hl => ?_)
                exact jn120 J109_l8 J109_c0_55 J109_c0_58 J109_c0_59 J109_c0_70 J109_c0_71 J109_c0_72 J109_c0_73 J109_c0_74 J109_c0_117 J109_a3 J109_a8 J109_a11 J109_a12 J109_a14 J109_a15 J109_a16 J109_a17 J109_a19 J62_l7 J48_l6 J109_l8 H locs ls (ib_w 0 12 hK109_p0 rfl) (ib_w 0 2 hK109_p1 rfl) (ib_w 1 40 hK109_J48_l6 rfl) (ib_w 0 2 hK109_J62_l7 rfl) (ib_w 1 1 hK109_x_isCrossing rfl) (ib_w 0 1 hJ109_c0_70 rfl) (ib_w 0 1 hJ109_c0_73 rfl) (ib_w 0 1700 hJ109_c0_117 rfl) (ib_w 10 120 hJ109_a7_4 rfl) (ib_w (-1) 2 hK109_J62_l7 rfl) (ib_w (-1) 40 hK109_J48_l6 rfl) (by exact hq) hP hD hS (lv_sub hl [3, 4, 5, 2, 1, 0, 6, 7, 8] rfl)
              refine lv_iload hx hb dX10_best_62 (lv_at hl 7 rfl) ?_
              refine lv_iconst (v := 3) hx hb dX10_best_64 rfl ?_
              refine lv_icmp_ge (tgt := 126) hx hb dX10_best_65 rfl (fun c4 => ?_) (fun c4 => ?_)
              · replace hq := lf_pos hq (lf_le (lf_lc 3 (3 : Int) rfl) (lf_rf J62_l7) c4)
                have h5 := ib_le (ib_c 3 3 3 rfl) hJ62_l7 c4
                have h6 : ib J62_l7 3 3 := ib_w 3 3 h5.2 rfl
                obtain ⟨z7, ez7⟩ : ∃ y : Int32, y = J48_l6 + 1 := ⟨_, rfl⟩
                refine lv_iinc (v := z7) (lv' := [(6, .int z7), (0, .ref a_this), (1, .int p0), (2, .int p1), (3, .int J62_l3), (4, .int J62_l4), (5, .int J62_l5), (7, .int J62_l7)]) hx hb dX10_best_126 hl (k := 6) rfl (by rw [ez7]; rfl) (Nat.le_of_ble_eq_true rfl) rfl (fun ls hl => ?_)
                have h8 := ib_add hK62_J48_l6 (ib_c 1 1 1 rfl) rfl
                rw [← ez7] at h8
                have h9 : ib z7 2 41 := ib_w 2 41 h8.1 rfl
                have Ez7 := lf_add h8.2 (lf_rf J48_l6) (lf_lc 1 (1 : Int) rfl)
                refine lv_goto (tgt := 48) hx hb dX10_best_129 rfl ?_
                exact ih48 J62_c0_55 J62_c0_58 J62_c0_117 J62_a3 J48_a10 J48_a13 J62_l3 J62_l4 J62_l5 z7 J62_c0_59 J62_c0_70 J62_c0_71 J62_c0_72 J62_c0_73 J62_c0_74 J62_a8 J62_a11 J62_a12 J62_a14 J62_a15 J62_a16 J62_a17 J62_a19 H locs ls (ib_w 0 12 hK62_p0 rfl) (ib_w 0 2 hK62_p1 rfl) (ib_w 1 1 hK62_x_isCrossing rfl) (ib_w 0 1700 hJ62_c0_117 rfl) (ib_w 10 120 hJ62_a7_4 rfl) (ib_w (-1) 2 hJ62_l3 rfl) (ib_w (-1) 40 hJ62_l4 rfl) (ib_w 1 41 h9 rfl) (ib_w 0 1 hJ62_c0_70 rfl) (ib_w 0 1 hJ62_c0_73 rfl) hJ48_a10 (by rw [← hK48]; rw [lf_u Ez7]; exact hq) (by have := h8.2; have : (1 : Int32).toInt = 1 := rfl; omega) hP hD hS (lv_sub hl [1, 2, 3, 4, 5, 6, 0] rfl)
              · as_aux_lemma =>
                  replace hq := lf_neg hq (lf_nle (lf_lc 3 (3 : Int) rfl) (lf_rf J62_l7) c4)
                  have h10 := ib_nle (ib_c 3 3 3 rfl) hJ62_l7 c4
                  have h11 : ib J62_l7 0 2 := ib_w 0 2 h10.2 rfl
                  refine lv_aload_n hx hb dX10_best_68 rfl (lv_at hl 0 rfl) ?_
                  refine lv_iload hx hb dX10_best_69 (lv_at hl 7 rfl) ?_
                  refine lv_iload hx hb dX10_best_71 (lv_at hl 6 rfl) ?_
                  refine lv_iconst (v := 0) hx hb dX10_best_73 rfl ?_
                  refine lv_iconst (v := 0) hx hb dX10_best_74 rfl ?_
                  refine k_jvm hP hD hS hA [0, 14, 15, 8, 11, 12, 16, 17, 18, 5, 6, 19, 7, 9, 1, 2, 3, 4, 10] [false, false, false, false, false, false, false, false, false, false, false, false, false, true] rfl rfl (by decide +kernel) 0 0 (Nat.le_of_ble_eq_true rfl) (Nat.le_of_ble_eq_true rfl) (fun hPc hDc => k_runV (As := [.int J62_l7, .int J48_l6, .int 0, .int 0]) (rest := []) C0 hZ hS hA (s_X10_dayBy l dC dI cy sq a_this rm x_taped x_at x_end x_ended x_bad x_badPlace x_fault x_faultPlace x_namePlace x_awayTold x_away x_coded x_statements x_isCrossing J62_c0_55 J62_c0_58 J62_c0_59 J62_c0_70 J62_c0_71 J62_c0_72 J62_c0_73 J62_c0_74 x_rowMany x_fitMany x_fitRules x_fitGreen x_undoable x_newest x_seeded x_qCoded x_qWaits x_qOpened x_qBase J62_c0_117 x_qAnswer x_qIsNew x_octets g_many g_bar g_kinds g_walkers g_codeFrom g_codeEnd g_codes g_now J48_a10 J62_a19 J62_a14 J62_a15 J62_a8 J62_a11 J62_a12 J62_a16 J62_a17 J62_a3 J62_l7 J48_l6 0 0 (ib_w 0 1700 hJ62_c0_117 rfl) (ib_w 0 12 hg_many_3 rfl) (ib_w 10 120 hJ62_a7_4 rfl) hpg_walkers (ib_w (-1) 1600 hg_codeFrom_4 rfl) (ib_w 0 1600 hg_codeEnd_4 rfl) hJ48_a10 hG1) mV_X10_504 hPc hDc rfl rfl rfl hl rfl rfl (Nat.le_of_ble_eq_true rfl) ⟨(Nat.le_of_ble_eq_true rfl), (Nat.le_of_ble_eq_true rfl)⟩ ⟨(Nat.le_of_ble_eq_true rfl), (Nat.le_of_ble_eq_true rfl)⟩ dX10_best_75) (fun u13 H locs hw hP hD hS => ?_)
                  obtain ⟨v14, v15, v16, v17, v18, v19, v20, v21, v22, f23, f24, f25, f26, f27, f28, f29, f30, f31⟩ := u13
                  try dsimp only at hP hD hw
                  replace hP : va_P (dC, dI) vwCl [(wi_rm60_3_320_0 rm cy J48_a13), (a_this, .inr (10, mfs rm x_taped x_at x_end x_ended x_bad x_badPlace x_fault x_faultPlace x_namePlace x_awayTold x_away x_coded x_statements x_isCrossing v14 v15 v16 v17 v18 v19 v20 v21 x_rowMany x_fitMany x_fitRules x_fitGreen x_undoable x_newest x_seeded x_qCoded x_qWaits x_qOpened x_qBase v22 x_qAnswer x_qIsNew x_octets)), (wi_rm63_3_12_0 rm cy f23), (wi_rm64_0_12_0 rm cy f24), (wi_rm65_0_12_0 rm cy f25), (wi_rm66_3_12_0 rm cy f26), (wi_rm67_3_12_0 rm cy f27), (wi_rm68_3_12_0 rm cy f28), (wi_rm69_3_300_0 rm cy f29), (wi_rm41_0_4_0 rm cy g_many), (wi_rm46_0_48_0 rm cy g_walkers), (wi_rm56_0_9_0 rm cy g_now), (wi_rm62_3_300_0 rm cy f30), (wi_rm43_0_8_0 rm cy g_bar), (wi_rm44_0_24_0 rm cy g_kinds), (wi_rm49_0_6_0 rm cy g_codeFrom), (wi_rm50_0_6_0 rm cy g_codeEnd), (wi_rm116_1_1700_1 rm cy f31), (wi_rm51_0_3200_0 rm cy g_codes), (wi_rm61_0_300_0 rm cy J48_a10)] H := hP
                  replace hD := k_D hP hD
                  obtain ⟨h32, h33, h34, h35⟩ := hw
                  have h35 := by have h9 := h35; try simp only [show (0 : Int32).toInt = (0 : Int) from rfl] at h9; exact h9
                  replace hq := lf_p1 hq h35
                  replace hq := lf_p1 hq rfl
                  replace hq := lf_p1 hq rfl
                  replace hq := lf_p1 hq rfl
                  replace hq := lf_p1 hq rfl
                  replace hq := lf_p1 hq rfl
                  replace hq := lf_p1 hq rfl
                  replace hq := lf_p1 hq rfl
                  replace hq := lf_p1 hq rfl
                  replace hq := lf_p1 hq rfl
                  replace hq := lf_p1 hq rfl
                  replace hq := lf_p1 hq rfl
                  replace hq := lf_p1 hq rfl
                  replace hq := lf_p1 hq rfl
                  replace hq := lf_p1 hq rfl
                  as_aux_lemma =>
                    replace hq := lf_p1 hq rfl
                    replace hq := lf_p1 hq rfl
                    refine lv_aload_n hx hb dX10_best_78 rfl (lv_at hl 0 rfl) ?_
                    refine k_jim hP hD hS hA [1, 9, 4] [true, false, true, true, false, true, true, true, true, false, true, true, true, true, true, true, true, true, true, true] rfl rfl (by decide +kernel) 0 0 (Nat.le_of_ble_eq_true rfl) (Nat.le_of_ble_eq_true rfl) (fun hPc hDc => k_runV (As := []) (rest := []) C0 hZ hS hA (s_X10_waitedAll l dC dI cy sq a_this rm x_taped x_at x_end x_ended x_bad x_badPlace x_fault x_faultPlace x_namePlace x_awayTold x_away x_coded x_statements x_isCrossing v14 v15 v16 v17 v18 v19 v20 v21 x_rowMany x_fitMany x_fitRules x_fitGreen x_undoable x_newest x_seeded x_qCoded x_qWaits x_qOpened x_qBase v22 x_qAnswer x_qIsNew x_octets g_many f25 (ib_w 0 12 hg_many_3 rfl)) mV_X10_508 hPc hDc rfl rfl rfl hl rfl rfl (Nat.le_of_ble_eq_true rfl) ⟨(Nat.le_of_ble_eq_true rfl), (Nat.le_of_ble_eq_true rfl)⟩ ⟨(Nat.le_of_ble_eq_true rfl), (Nat.le_of_ble_eq_true rfl)⟩ dX10_best_79) (fun r36 u37 H locs hw hP hD hS => ?_)
                    try dsimp only at hP hD hw
                    replace hP : va_P (dC, dI) vwCl [(wi_rm60_3_320_0 rm cy J48_a13), (wi_rm63_3_12_0 rm cy f23), (wi_rm64_0_12_0 rm cy f24), (wi_rm66_3_12_0 rm cy f26), (wi_rm67_3_12_0 rm cy f27), (wi_rm68_3_12_0 rm cy f28), (wi_rm69_3_300_0 rm cy f29), (wi_rm46_0_48_0 rm cy g_walkers), (wi_rm56_0_9_0 rm cy g_now), (wi_rm62_3_300_0 rm cy f30), (wi_rm43_0_8_0 rm cy g_bar), (wi_rm44_0_24_0 rm cy g_kinds), (wi_rm49_0_6_0 rm cy g_codeFrom), (wi_rm50_0_6_0 rm cy g_codeEnd), (wi_rm116_1_1700_1 rm cy f31), (wi_rm51_0_3200_0 rm cy g_codes), (wi_rm61_0_300_0 rm cy J48_a10), (a_this, .inr (10, mfs rm x_taped x_at x_end x_ended x_bad x_badPlace x_fault x_faultPlace x_namePlace x_awayTold x_away x_coded x_statements x_isCrossing v14 v15 v16 v17 v18 v19 v20 v21 x_rowMany x_fitMany x_fitRules x_fitGreen x_undoable x_newest x_seeded x_qCoded x_qWaits x_qOpened x_qBase v22 x_qAnswer x_qIsNew x_octets)), (wi_rm41_0_4_0 rm cy g_many), (wi_rm65_0_12_0 rm cy f25)] H := hP
                    replace hD := k_D hP hD
                    have h38 := hw
                    replace hq := lf_b1 hq h38
                    refine lv_istore (lv' := [(8, .int r36), (0, .ref a_this), (1, .int p0), (2, .int p1), (3, .int J62_l3), (4, .int J62_l4), (5, .int J62_l5), (6, .int J48_l6), (7, .int J62_l7)]) hx hb dX10_best_82 hl (Nat.le_of_ble_eq_true rfl) rfl (fun ls hl => ?_)
                    refine lv_aload_n hx hb dX10_best_84 rfl (lv_at hl 1 rfl) ?_
                    refine lv_iconst (v := 2) hx hb dX10_best_85 rfl ?_
                    refine k_jim hP hD hS hA [17, 18, 4] [true, true, true, true, false, true, true, true, true, true, true, true, true, true, true, true, true, false, false, true] rfl rfl (by decide +kernel) 0 0 (Nat.le_of_ble_eq_true rfl) (Nat.le_of_ble_eq_true rfl) (fun hPc hDc => k_runV (As := [.int 2]) (rest := []) C0 hZ hS hA (s_X10_toldOfDay_a0_2 l dC dI cy sq a_this rm x_taped x_at x_end x_ended x_bad x_badPlace x_fault x_faultPlace x_namePlace x_awayTold x_away x_coded x_statements x_isCrossing v14 v15 v16 v17 v18 v19 v20 v21 x_rowMany x_fitMany x_fitRules x_fitGreen x_undoable x_newest x_seeded x_qCoded x_qWaits x_qOpened x_qBase v22 x_qAnswer x_qIsNew x_octets g_many f27 (ib_w 0 12 hg_many_3 rfl)) mV_X10_541 hPc hDc rfl rfl rfl hl rfl rfl (Nat.le_of_ble_eq_true rfl) ⟨(Nat.le_of_ble_eq_true rfl), (Nat.le_of_ble_eq_true rfl)⟩ ⟨(Nat.le_of_ble_eq_true rfl), (Nat.le_of_ble_eq_true rfl)⟩ dX10_best_86) (fun r39 u40 H locs hw hP hD hS => ?_)
                    try dsimp only at hP hD hw
                    replace hP : va_P (dC, dI) vwCl [(wi_rm60_3_320_0 rm cy J48_a13), (wi_rm63_3_12_0 rm cy f23), (wi_rm64_0_12_0 rm cy f24), (wi_rm66_3_12_0 rm cy f26), (wi_rm68_3_12_0 rm cy f28), (wi_rm69_3_300_0 rm cy f29), (wi_rm46_0_48_0 rm cy g_walkers), (wi_rm56_0_9_0 rm cy g_now), (wi_rm62_3_300_0 rm cy f30), (wi_rm43_0_8_0 rm cy g_bar), (wi_rm44_0_24_0 rm cy g_kinds), (wi_rm49_0_6_0 rm cy g_codeFrom), (wi_rm50_0_6_0 rm cy g_codeEnd), (wi_rm116_1_1700_1 rm cy f31), (wi_rm51_0_3200_0 rm cy g_codes), (wi_rm61_0_300_0 rm cy J48_a10), (wi_rm65_0_12_0 rm cy f25), (a_this, .inr (10, mfs rm x_taped x_at x_end x_ended x_bad x_badPlace x_fault x_faultPlace x_namePlace x_awayTold x_away x_coded x_statements x_isCrossing v14 v15 v16 v17 v18 v19 v20 v21 x_rowMany x_fitMany x_fitRules x_fitGreen x_undoable x_newest x_seeded x_qCoded x_qWaits x_qOpened x_qBase v22 x_qAnswer x_qIsNew x_octets)), (wi_rm41_0_4_0 rm cy g_many), (wi_rm67_3_12_0 rm cy f27)] H := hP
                    replace hD := k_D hP hD
                    have h41 := hw
                    replace hq := lf_b1 hq h41
                    refine lv_iload_n hx hb dX10_best_89 rfl (lv_at hl 2 rfl) ?_
                    refine lv_icmp_gt (tgt := 120) hx hb dX10_best_90 rfl (fun c42 => ?_) (fun c42 => ?_)
                    · replace hq := lf_pos hq (lf_lt (lf_rf p0) (lf_rf r39) c42)
                      have h43 := ib_lt hK62_p0 (ib_any r39) c42
                      have h44 : ib r39 1 2147483647 := ib_w 1 2147483647 h43.2 rfl
                      exact jn120 r36 v14 v15 v16 v17 v18 v19 v20 v21 v22 f31 f25 f26 f27 f23 f24 f28 f29 f30 J62_l3 J62_l4 J62_l5 H locs ls (ib_w 0 12 hK62_p0 rfl) (ib_w 0 2 hK62_p1 rfl) (ib_w 1 40 hK62_J48_l6 rfl) (ib_w 0 2 h11 rfl) (ib_w 1 1 hK62_x_isCrossing rfl) (ib_w 0 1 h32 rfl) (ib_w 0 1 h33 rfl) (ib_w 0 1700 h34 rfl) (ib_w 10 120 hJ62_a7_4 rfl) (ib_w (-1) 2 hJ62_l3 rfl) (ib_w (-1) 40 hJ62_l4 rfl) (by exact hq) (hP.sub [17, 11, 12, 13, 14, 6, 7, 9, 16, 10, 15, 3, 19, 0, 1, 2, 4, 5, 18, 8] rfl) (hD.sub [17, 11, 12, 13, 14, 6, 7, 9, 16, 10, 15, 3, 19, 0, 1, 2, 4, 5, 18, 8] (by decide +kernel) rfl) hS (lv_sub hl [1, 2, 3, 4, 5, 6, 7, 8, 0] rfl)
                    · as_aux_lemma =>
                        replace hq := lf_neg hq (lf_nlt (lf_rf p0) (lf_rf r39) c42)
                        have h45 := ib_nlt hK62_p0 (ib_any r39) c42
                        have h46 : ib r39 (-2147483648) 12 := ib_w (-2147483648) 12 h45.2 rfl
                        refine lv_iload hx hb dX10_best_93 (lv_at hl 6 rfl) ?_
                        refine lv_iconst (v := (-1)) hx hb dX10_best_95 rfl ?_
                        refine lv_icmp_eq (tgt := 109) hx hb dX10_best_96 rfl (fun c47 => ?_) (fun c47 => ?_)
                        · replace hq := lf_pos hq (lf_eq (lf_rf J62_l5) (lf_lc (-1) (-1 : Int) rfl) c47)
                          have h48 := ib_eq (ib_any J62_l5) (ib_c (-1) (-1) (-1) rfl) c47
                          have h49 : ib J62_l5 (-1) (-1) := ib_w (-1) (-1) h48.1 rfl
                          exact jn109 r36 v14 v15 v16 v17 v18 v19 v20 v21 v22 f31 f25 f26 f27 f23 f24 f28 f29 f30 H locs ls (ib_w 0 12 hK62_p0 rfl) (ib_w 0 2 hK62_p1 rfl) (ib_w (-1) 2 hJ62_l3 rfl) (ib_w (-1) 40 hJ62_l4 rfl) (ib_w (-2147483647) 2147483647 h49 rfl) (ib_w 1 40 hK62_J48_l6 rfl) (ib_w 0 2 h11 rfl) (ib_w 1 1 hK62_x_isCrossing rfl) (ib_w 0 1 h32 rfl) (ib_w 0 1 h33 rfl) (ib_w 0 1700 h34 rfl) (ib_w 10 120 hJ62_a7_4 rfl) (by exact hq) (hP.sub [17, 11, 12, 13, 14, 6, 7, 9, 16, 10, 15, 3, 19, 0, 1, 2, 4, 5, 18, 8] rfl) (hD.sub [17, 11, 12, 13, 14, 6, 7, 9, 16, 10, 15, 3, 19, 0, 1, 2, 4, 5, 18, 8] (by decide +kernel) rfl) hS (lv_sub hl [1, 2, 3, 4, 5, 6, 7, 8, 0] rfl)
                        · replace hq := lf_neg hq (lf_ne (lf_rf J62_l5) (lf_lc (-1) (-1 : Int) rfl) c47)
                          refine lv_iload hx hb dX10_best_99 (lv_at hl 0 rfl) ?_
                          refine lv_iload hx hb dX10_best_101 (lv_at hl 6 rfl) ?_
                          refine lv_icmp_lt (tgt := 109) hx hb dX10_best_103 rfl (fun c50 => ?_) (fun c50 => ?_)
                          · replace hq := lf_pos hq (lf_lt (lf_rf r36) (lf_rf J62_l5) c50)
                            have h51 := ib_lt (ib_any r36) (ib_any J62_l5) c50
                            have h52 : ib r36 (-2147483648) 2147483646 := ib_w (-2147483648) 2147483646 h51.1 rfl
                            have h53 : ib J62_l5 (-2147483647) 2147483647 := ib_w (-2147483647) 2147483647 h51.2 rfl
                            exact jn109 r36 v14 v15 v16 v17 v18 v19 v20 v21 v22 f31 f25 f26 f27 f23 f24 f28 f29 f30 H locs ls (ib_w 0 12 hK62_p0 rfl) (ib_w 0 2 hK62_p1 rfl) (ib_w (-1) 2 hJ62_l3 rfl) (ib_w (-1) 40 hJ62_l4 rfl) (ib_w (-2147483647) 2147483647 h53 rfl) (ib_w 1 40 hK62_J48_l6 rfl) (ib_w 0 2 h11 rfl) (ib_w 1 1 hK62_x_isCrossing rfl) (ib_w 0 1 h32 rfl) (ib_w 0 1 h33 rfl) (ib_w 0 1700 h34 rfl) (ib_w 10 120 hJ62_a7_4 rfl) (by exact hq) (hP.sub [17, 11, 12, 13, 14, 6, 7, 9, 16, 10, 15, 3, 19, 0, 1, 2, 4, 5, 18, 8] rfl) (hD.sub [17, 11, 12, 13, 14, 6, 7, 9, 16, 10, 15, 3, 19, 0, 1, 2, 4, 5, 18, 8] (by decide +kernel) rfl) hS (lv_sub hl [1, 2, 3, 4, 5, 6, 7, 8, 0] rfl)
                          · replace hq := lf_neg hq (lf_nlt (lf_rf r36) (lf_rf J62_l5) c50)
                            have h54 := ib_nlt (ib_any r36) (ib_any J62_l5) c50
                            refine lv_goto (tgt := 120) hx hb dX10_best_106 rfl ?_
                            exact jn120 r36 v14 v15 v16 v17 v18 v19 v20 v21 v22 f31 f25 f26 f27 f23 f24 f28 f29 f30 J62_l3 J62_l4 J62_l5 H locs ls (ib_w 0 12 hK62_p0 rfl) (ib_w 0 2 hK62_p1 rfl) (ib_w 1 40 hK62_J48_l6 rfl) (ib_w 0 2 h11 rfl) (ib_w 1 1 hK62_x_isCrossing rfl) (ib_w 0 1 h32 rfl) (ib_w 0 1 h33 rfl) (ib_w 0 1700 h34 rfl) (ib_w 10 120 hJ62_a7_4 rfl) (ib_w (-1) 2 hJ62_l3 rfl) (ib_w (-1) 40 hJ62_l4 rfl) (by exact hq) (hP.sub [17, 11, 12, 13, 14, 6, 7, 9, 16, 10, 15, 3, 19, 0, 1, 2, 4, 5, 18, 8] rfl) (hD.sub [17, 11, 12, 13, 14, 6, 7, 9, 16, 10, 15, 3, 19, 0, 1, 2, 4, 5, 18, 8] (by decide +kernel) rfl) hS (lv_sub hl [1, 2, 3, 4, 5, 6, 7, 8, 0] rfl)
        refine lv_aload_n hx hb dX10_best_48 rfl (lv_at hl 0 rfl) ?_
        refine lv_iload hx hb dX10_best_49 (lv_at hl 6 rfl) ?_
        refine lv_bipush (v := 40) hx hb dX10_best_51 rfl ?_
        refine k_jim hP hD hS hA [0, 7] [false, true, true, true, true, true, true, false, true, true, true, true, true, true, true, true, true, true, true, true] rfl rfl (by decide +kernel) 0 0 (Nat.le_of_ble_eq_true rfl) (Nat.le_of_ble_eq_true rfl) (fun hPc hDc => k_runV (As := [.int J48_l6, .int 40]) (rest := []) C0 hZ hS hA (s_X10_isGreenLong_a1_40 l dC dI cy sq a_this rm x_taped x_at x_end x_ended x_bad x_badPlace x_fault x_faultPlace x_namePlace x_awayTold x_away x_coded x_statements x_isCrossing J48_c0_55 J48_c0_58 J48_c0_59 J48_c0_70 J48_c0_71 J48_c0_72 J48_c0_73 J48_c0_74 x_rowMany x_fitMany x_fitRules x_fitGreen x_undoable x_newest x_seeded x_qCoded x_qWaits x_qOpened x_qBase J48_c0_117 x_qAnswer x_qIsNew x_octets g_bar J48_l6 (ib_w 0 120 hJ48_a7_4 rfl)) mV_X10_548 hPc hDc rfl rfl rfl hl rfl rfl (Nat.le_of_ble_eq_true rfl) ⟨(Nat.le_of_ble_eq_true rfl), (Nat.le_of_ble_eq_true rfl)⟩ ⟨(Nat.le_of_ble_eq_true rfl), (Nat.le_of_ble_eq_true rfl)⟩ dX10_best_53) (fun r55 u56 H locs hw hP hD hS => ?_)
        try dsimp only at hP hD hw
        replace hP : va_P (dC, dI) vwCl [(wi_rm49_0_6_0 rm cy g_codeFrom), (wi_rm50_0_6_0 rm cy g_codeEnd), (wi_rm116_1_1700_1 rm cy J48_a3), (wi_rm51_0_3200_0 rm cy g_codes), (wi_rm46_0_48_0 rm cy g_walkers), (wi_rm56_0_9_0 rm cy g_now), (wi_rm65_0_12_0 rm cy J48_a8), (wi_rm44_0_24_0 rm cy g_kinds), (wi_rm61_0_300_0 rm cy J48_a10), (wi_rm66_3_12_0 rm cy J48_a11), (wi_rm67_3_12_0 rm cy J48_a12), (wi_rm60_3_320_0 rm cy J48_a13), (wi_rm63_3_12_0 rm cy J48_a14), (wi_rm64_0_12_0 rm cy J48_a15), (wi_rm68_3_12_0 rm cy J48_a16), (wi_rm69_3_300_0 rm cy J48_a17), (wi_rm41_0_4_0 rm cy g_many), (wi_rm62_3_300_0 rm cy J48_a19), (a_this, .inr (10, mfs rm x_taped x_at x_end x_ended x_bad x_badPlace x_fault x_faultPlace x_namePlace x_awayTold x_away x_coded x_statements x_isCrossing J48_c0_55 J48_c0_58 J48_c0_59 J48_c0_70 J48_c0_71 J48_c0_72 J48_c0_73 J48_c0_74 x_rowMany x_fitMany x_fitRules x_fitGreen x_undoable x_newest x_seeded x_qCoded x_qWaits x_qOpened x_qBase J48_c0_117 x_qAnswer x_qIsNew x_octets)), (wi_rm43_0_8_0 rm cy g_bar)] H := hP
        replace hD := k_D hP hD
        obtain ⟨h57, h58, h59, h60⟩ := hw
        replace hq := lf_b1 hq h60
        refine lv_if_eq (tgt := 132) hx hb dX10_best_56 rfl (fun c61 => ?_) (fun c61 => ?_)
        · as_aux_lemma =>
            replace hq := lf_pos hq (lf_eq (lf_rf r55) (lf_lc 0 (0 : Int) rfl) c61)
            have h62 := ib_eq h57 (ib_c 0 0 0 rfl) c61
            have h63 : ib r55 0 0 := ib_w 0 0 h62.1 rfl
            refine lv_iload_n hx hb dX10_best_132 rfl (lv_at hl 2 rfl) ?_
            refine lv_if_ne (tgt := 140) hx hb dX10_best_133 rfl (fun c64 => ?_) (fun c64 => ?_)
            · replace hq := lf_neg hq (lf_ne (lf_rf p1) (lf_lc 0 (0 : Int) rfl) c64)
              have h65 : ib p1 1 2 := ib_w 1 2 (ib_ne_lo 0 hK48_p1 rfl c64) rfl
              refine lv_iload_n hx hb dX10_best_140 rfl (lv_at hl 2 rfl) ?_
              refine lv_iconst (v := 1) hx hb dX10_best_141 rfl ?_
              refine lv_icmp_ne (tgt := 150) hx hb dX10_best_142 rfl (fun c66 => ?_) (fun c66 => ?_)
              · replace hq := lf_neg hq (lf_ne (lf_rf p1) (lf_lc 1 (1 : Int) rfl) c66)
                have h67 : ib p1 2 2 := ib_w 2 2 (ib_ne_lo 1 h65 rfl c66) rfl
                refine lv_iload hx hb dX10_best_150 (lv_at hl 5 rfl) ?_
                subst hQ; exact k_iret hx hb hr hlk rfl ((J48_c0_55, J48_c0_58, J48_c0_59, J48_c0_70, J48_c0_71, J48_c0_72, J48_c0_73, J48_c0_74, J48_c0_117, J48_a3, J48_a8, J48_a10, J48_a11, J48_a12, J48_a13, J48_a14, J48_a15, J48_a16, J48_a17, J48_a19)) hS ⟨ib_w 0 1 hJ48_c0_70 rfl, ib_w 0 1 hJ48_c0_73 rfl, ib_w 0 1700 hJ48_c0_117 rfl, hJ48_a10, (hO.symm.trans (by exact hq))⟩ (hP.sub [18, 0, 1, 2, 3, 4, 5, 19, 6, 7, 8, 9, 10, 11, 12, 13, 14, 15, 16, 17] rfl) (hD.sub [18, 0, 1, 2, 3, 4, 5, 19, 6, 7, 8, 9, 10, 11, 12, 13, 14, 15, 16, 17] (by decide +kernel) rfl) (Nat.le_of_ble_eq_true rfl) (Nat.le_of_ble_eq_true rfl) dX10_best_152
              · replace hq := lf_pos hq (lf_eq (lf_rf p1) (lf_lc 1 (1 : Int) rfl) c66)
                have h68 := ib_eq h65 (ib_c 1 1 1 rfl) c66
                have h69 : ib p1 1 1 := ib_w 1 1 h68.1 rfl
                refine lv_iload hx hb dX10_best_145 (lv_at hl 4 rfl) ?_
                refine lv_goto (tgt := 152) hx hb dX10_best_147 rfl ?_
                subst hQ; exact k_iret hx hb hr hlk rfl ((J48_c0_55, J48_c0_58, J48_c0_59, J48_c0_70, J48_c0_71, J48_c0_72, J48_c0_73, J48_c0_74, J48_c0_117, J48_a3, J48_a8, J48_a10, J48_a11, J48_a12, J48_a13, J48_a14, J48_a15, J48_a16, J48_a17, J48_a19)) hS ⟨ib_w 0 1 hJ48_c0_70 rfl, ib_w 0 1 hJ48_c0_73 rfl, ib_w 0 1700 hJ48_c0_117 rfl, hJ48_a10, (hO.symm.trans (by exact hq))⟩ (hP.sub [18, 0, 1, 2, 3, 4, 5, 19, 6, 7, 8, 9, 10, 11, 12, 13, 14, 15, 16, 17] rfl) (hD.sub [18, 0, 1, 2, 3, 4, 5, 19, 6, 7, 8, 9, 10, 11, 12, 13, 14, 15, 16, 17] (by decide +kernel) rfl) (Nat.le_of_ble_eq_true rfl) (Nat.le_of_ble_eq_true rfl) dX10_best_152
            · replace hq := lf_pos hq (lf_eq (lf_rf p1) (lf_lc 0 (0 : Int) rfl) c64)
              have h70 := ib_eq hK48_p1 (ib_c 0 0 0 rfl) c64
              have h71 : ib p1 0 0 := ib_w 0 0 h70.1 rfl
              refine lv_iload_n hx hb dX10_best_136 rfl (lv_at hl 3 rfl) ?_
              refine lv_goto (tgt := 152) hx hb dX10_best_137 rfl ?_
              subst hQ; exact k_iret hx hb hr hlk rfl ((J48_c0_55, J48_c0_58, J48_c0_59, J48_c0_70, J48_c0_71, J48_c0_72, J48_c0_73, J48_c0_74, J48_c0_117, J48_a3, J48_a8, J48_a10, J48_a11, J48_a12, J48_a13, J48_a14, J48_a15, J48_a16, J48_a17, J48_a19)) hS ⟨ib_w 0 1 hJ48_c0_70 rfl, ib_w 0 1 hJ48_c0_73 rfl, ib_w 0 1700 hJ48_c0_117 rfl, hJ48_a10, (hO.symm.trans (by exact hq))⟩ (hP.sub [18, 0, 1, 2, 3, 4, 5, 19, 6, 7, 8, 9, 10, 11, 12, 13, 14, 15, 16, 17] rfl) (hD.sub [18, 0, 1, 2, 3, 4, 5, 19, 6, 7, 8, 9, 10, 11, 12, 13, 14, 15, 16, 17] (by decide +kernel) rfl) (Nat.le_of_ble_eq_true rfl) (Nat.le_of_ble_eq_true rfl) dX10_best_152
        · replace hq := lf_neg hq (lf_ne (lf_rf r55) (lf_lc 0 (0 : Int) rfl) c61)
          have h72 : ib r55 1 1 := ib_w 1 1 (ib_ne_lo 0 h57 rfl c61) rfl
          have h73 : ib J48_l6 1 40 := ib_w 1 40 (ib_two hJ48_l6 (h59 (ib_nz h72 rfl))) rfl
          refine lv_iconst (v := 0) hx hb dX10_best_59 rfl ?_
          refine lv_istore (lv' := [(7, .int 0), (0, .ref a_this), (1, .int p0), (2, .int p1), (3, .int J48_l3), (4, .int J48_l4), (5, .int J48_l5), (6, .int J48_l6)]) hx hb dX10_best_60 hl (Nat.le_of_ble_eq_true rfl) rfl (fun ls hl => ?_)
          exact jn62 5 J48_l3 J48_l4 J48_l5 0 J48_c0_55 J48_c0_58 J48_c0_59 J48_c0_70 J48_c0_71 J48_c0_72 J48_c0_73 J48_c0_74 J48_c0_117 J48_a3 J48_a8 J48_a11 J48_a12 J48_a14 J48_a15 J48_a16 J48_a17 J48_a19 H locs ls (ib_w 0 12 hK48_p0 rfl) (ib_w 0 2 hK48_p1 rfl) (ib_w 1 40 h73 rfl) (ib_w 1 1 hK48_x_isCrossing rfl) (ib_w 10 120 hJ48_a7_4 rfl) (ib_w (-1) 2 hJ48_l3 rfl) (ib_w (-1) 40 hJ48_l4 rfl) (ib_w 0 3 (ib_c 0 0 0 rfl) rfl) (ib_w 0 1 hJ48_c0_70 rfl) (ib_w 0 1 hJ48_c0_73 rfl) (ib_w 0 1700 hJ48_c0_117 rfl) (by try simp only [show (0 : Int32).toInt = (0 : Int) from rfl]; exact hq) (by have := (ib_c 0 0 0 rfl); unfold ib at this; omega) (hP.sub [18, 0, 1, 2, 3, 4, 5, 19, 6, 7, 8, 9, 10, 11, 12, 13, 14, 15, 16, 17] rfl) (hD.sub [18, 0, 1, 2, 3, 4, 5, 19, 6, 7, 8, 9, 10, 11, 12, 13, 14, 15, 16, 17] (by decide +kernel) rfl) hS (lv_sub hl [1, 2, 3, 4, 5, 6, 7, 0] rfl)
  have jn31 : ∀  (H : Heap) (locs : List Loc) (ls : Array Slot), (O = F_X10_best_31 (Int32.toInt x_textKind) (Int32.toInt x_askSecond) (Int32.toInt x_redMany) (Int32.toInt x_isOpen) (Int32.toInt x_lastGreen) (Int32.toInt x_greenTo) (Int32.toInt x_isCycleGreen) (Int32.toInt x_stillGreen) (Int32.toInt x_qPiled) (lf_A g_isCar) (lf_A g_gaps) (lf_A g_isGreen) (lf_A g_isHere) (lf_A g_crosses) (lf_A g_waits) (lf_A g_goes) (lf_A g_harms) (lf_A g_presses) (lf_A g_crossedIn) (lf_L g_qPile) ) → va_P (dC, dI) vwCl [(a_this, .inr (10, mfs rm x_taped x_at x_end x_ended x_bad x_badPlace x_fault x_faultPlace x_namePlace x_awayTold x_away x_coded x_statements x_isCrossing x_textKind x_askSecond x_redMany x_isOpen x_lastGreen x_greenTo x_isCycleGreen x_stillGreen x_rowMany x_fitMany x_fitRules x_fitGreen x_undoable x_newest x_seeded x_qCoded x_qWaits x_qOpened x_qBase x_qPiled x_qAnswer x_qIsNew x_octets)), (wi_rm49_0_6_0 rm cy g_codeFrom), (wi_rm50_0_6_0 rm cy g_codeEnd), (wi_rm116_1_1700_1 rm cy g_qPile), (wi_rm51_0_3200_0 rm cy g_codes), (wi_rm46_0_48_0 rm cy g_walkers), (wi_rm56_0_9_0 rm cy g_now), (wi_rm43_0_8_0 rm cy g_bar), (wi_rm65_0_12_0 rm cy g_waits), (wi_rm44_0_24_0 rm cy g_kinds), (wi_rm61_0_300_0 rm cy g_gaps), (wi_rm66_3_12_0 rm cy g_goes), (wi_rm67_3_12_0 rm cy g_harms), (wi_rm60_3_320_0 rm cy g_isCar), (wi_rm63_3_12_0 rm cy g_isHere), (wi_rm64_0_12_0 rm cy g_crosses), (wi_rm68_3_12_0 rm cy g_presses), (wi_rm69_3_300_0 rm cy g_crossedIn), (wi_rm41_0_4_0 rm cy g_many), (wi_rm62_3_300_0 rm cy g_isGreen)] H → va_D A [(a_this, .inr (10, mfs rm x_taped x_at x_end x_ended x_bad x_badPlace x_fault x_faultPlace x_namePlace x_awayTold x_away x_coded x_statements x_isCrossing x_textKind x_askSecond x_redMany x_isOpen x_lastGreen x_greenTo x_isCycleGreen x_stillGreen x_rowMany x_fitMany x_fitRules x_fitGreen x_undoable x_newest x_seeded x_qCoded x_qWaits x_qOpened x_qBase x_qPiled x_qAnswer x_qIsNew x_octets)), (wi_rm49_0_6_0 rm cy g_codeFrom), (wi_rm50_0_6_0 rm cy g_codeEnd), (wi_rm116_1_1700_1 rm cy g_qPile), (wi_rm51_0_3200_0 rm cy g_codes), (wi_rm46_0_48_0 rm cy g_walkers), (wi_rm56_0_9_0 rm cy g_now), (wi_rm43_0_8_0 rm cy g_bar), (wi_rm65_0_12_0 rm cy g_waits), (wi_rm44_0_24_0 rm cy g_kinds), (wi_rm61_0_300_0 rm cy g_gaps), (wi_rm66_3_12_0 rm cy g_goes), (wi_rm67_3_12_0 rm cy g_harms), (wi_rm60_3_320_0 rm cy g_isCar), (wi_rm63_3_12_0 rm cy g_isHere), (wi_rm64_0_12_0 rm cy g_crosses), (wi_rm68_3_12_0 rm cy g_presses), (wi_rm69_3_300_0 rm cy g_crossedIn), (wi_rm41_0_4_0 rm cy g_many), (wi_rm62_3_300_0 rm cy g_isGreen)] → va_S A s.heap H locs → lv_has ls 9 [(0, .ref a_this), (1, .int p0), (2, .int p1)] → W p l e { frames := 6, cells := 0, slots := 0, locals := 137 } s m args below meth c H locs 0 0 Q (F0 m 31 ls []) := by
    intro H locs ls hq hP hD hS hl
    unfold F_X10_best_31 at hq
    refine lv_iconst (v := (-1)) hx hb dX10_best_31 rfl ?_
    subst hQ; exact k_iret hx hb hr hlk rfl ((x_textKind, x_askSecond, x_redMany, x_isOpen, x_lastGreen, x_greenTo, x_isCycleGreen, x_stillGreen, x_qPiled, g_qPile, g_waits, g_gaps, g_goes, g_harms, g_isCar, g_isHere, g_crosses, g_presses, g_crossedIn, g_isGreen)) hS ⟨ib_w 0 1 hx_isOpen rfl, ib_w 0 1 hx_isCycleGreen rfl, ib_w 0 1700 hx_qPiled rfl, hg_gaps, (hO.symm.trans (by try simp only [show ((-1) : Int32).toInt = (-1 : Int) from rfl]; exact hq))⟩ hP hD (Nat.le_of_ble_eq_true rfl) (Nat.le_of_ble_eq_true rfl) dX10_best_32
  refine lv_aload_n hx hb dX10_best_0 rfl (lv_at hl 0 rfl) ?_
  refine k_get C0 fg_X10_417 hP 0 rfl rfl dX10_best_1 ?_
  refine lv_if_eq (tgt := 31) hx hb dX10_best_4 rfl (fun c74 => ?_) (fun c74 => ?_)
  · replace hq := lf_pos hq (lf_eq (lf_rf x_isCrossing) (lf_lc 0 (0 : Int) rfl) c74)
    have h75 := ib_eq hx_isCrossing (ib_c 0 0 0 rfl) c74
    have h76 : ib x_isCrossing 0 0 := ib_w 0 0 h75.1 rfl
    exact jn31  H locs ls (by exact hq) hP hD hS (lv_sub hl [0, 1, 2] rfl)
  · as_aux_lemma =>
      replace hq := lf_neg hq (lf_ne (lf_rf x_isCrossing) (lf_lc 0 (0 : Int) rfl) c74)
      have h77 : ib x_isCrossing 1 1 := ib_w 1 1 (ib_ne_lo 0 hx_isCrossing rfl c74) rfl
      have h78 : ib (g_bar 4) 10 120 := ib_w 10 120 (ib_two hg_bar_4 (hc_cr (ib_nz h77 rfl))) rfl
      refine lv_iload_n hx hb dX10_best_7 rfl (lv_at hl 1 rfl) ?_
      refine lv_i2l (v := p0.toInt64) hx hb dX10_best_8 rfl ?_
      refine lv_lconst (v := 0) hx hb dX10_best_9 (by decide) ?_
      refine lv_ldc2 hx hb C0.2.2.2.1 (C0.2.2.2.2.1 _ wd1088) dX10_best_10 ?_
      refine k_jim hP hD hS hA [] [true, true, true, true, true, true, true, true, true, true, true, true, true, true, true, true, true, true, true, true] rfl rfl (by decide +kernel) 0 0 (Nat.le_of_ble_eq_true rfl) (Nat.le_of_ble_eq_true rfl) (fun hPc hDc => k_runS (As := [.long p0.toInt64, .long 0, .long 12]) (rest := []) C0 hZ hS hA (c_isIn l dC dI cy sq p0.toInt64 0 12) mS_X10_318 hPc hDc hl rfl rfl (Nat.le_of_ble_eq_true rfl) ⟨(Nat.le_of_ble_eq_true rfl), (Nat.le_of_ble_eq_true rfl)⟩ ⟨(Nat.le_of_ble_eq_true rfl), (Nat.le_of_ble_eq_true rfl)⟩ dX10_best_13) (fun r79 u80 H locs hw hP hD hS => ?_)
      replace hP : va_P (dC, dI) vwCl [(a_this, .inr (10, mfs rm x_taped x_at x_end x_ended x_bad x_badPlace x_fault x_faultPlace x_namePlace x_awayTold x_away x_coded x_statements x_isCrossing x_textKind x_askSecond x_redMany x_isOpen x_lastGreen x_greenTo x_isCycleGreen x_stillGreen x_rowMany x_fitMany x_fitRules x_fitGreen x_undoable x_newest x_seeded x_qCoded x_qWaits x_qOpened x_qBase x_qPiled x_qAnswer x_qIsNew x_octets)), (wi_rm49_0_6_0 rm cy g_codeFrom), (wi_rm50_0_6_0 rm cy g_codeEnd), (wi_rm116_1_1700_1 rm cy g_qPile), (wi_rm51_0_3200_0 rm cy g_codes), (wi_rm46_0_48_0 rm cy g_walkers), (wi_rm56_0_9_0 rm cy g_now), (wi_rm43_0_8_0 rm cy g_bar), (wi_rm65_0_12_0 rm cy g_waits), (wi_rm44_0_24_0 rm cy g_kinds), (wi_rm61_0_300_0 rm cy g_gaps), (wi_rm66_3_12_0 rm cy g_goes), (wi_rm67_3_12_0 rm cy g_harms), (wi_rm60_3_320_0 rm cy g_isCar), (wi_rm63_3_12_0 rm cy g_isHere), (wi_rm64_0_12_0 rm cy g_crosses), (wi_rm68_3_12_0 rm cy g_presses), (wi_rm69_3_300_0 rm cy g_crossedIn), (wi_rm41_0_4_0 rm cy g_many), (wi_rm62_3_300_0 rm cy g_isGreen)] H := hP
      replace hD := k_D hP hD
      have h81 := hw
      have h82 : ib r79 0 1 := by rw [h81]; exact k_isf_01 _ _ _
      have Er79 := lf_isine h81 (lf_i2l (lf_rf p0)) (lf_ll 0 (0 : Int) rfl) (lf_ll 12 (12 : Int) rfl)
      refine lv_if_eq (tgt := 31) hx hb dX10_best_16 rfl (fun c83 => ?_) (fun c83 => ?_)
      · replace hq := lf_pos hq (lf_eq Er79 (lf_lc 0 (0 : Int) rfl) c83)
        have h84 := ib_eq h82 (ib_c 0 0 0 rfl) c83
        have h85 : ib r79 0 0 := ib_w 0 0 h84.1 rfl
        exact jn31  H locs ls (by exact hq) hP hD hS (lv_sub hl [0, 1, 2] rfl)
      · as_aux_lemma =>
          replace hq := lf_neg hq (lf_ne Er79 (lf_lc 0 (0 : Int) rfl) c83)
          have h86 : ib r79 1 1 := ib_w 1 1 (ib_ne_lo 0 h82 rfl c83) rfl
          have h87 : ib p0 0 12 := ib_w 0 12 (ib_two (ib_any p0) (k_isf_v h81 (show 0 ≤ (0 : Int64).toInt by decide) (show (12 : Int64).toInt ≤ 12 by decide) (ib_nz h86 rfl))) rfl
          refine lv_iload_n hx hb dX10_best_19 rfl (lv_at hl 2 rfl) ?_
          refine lv_i2l (v := p1.toInt64) hx hb dX10_best_20 rfl ?_
          refine lv_lconst (v := 0) hx hb dX10_best_21 (by decide) ?_
          refine lv_ldc2 hx hb C0.2.2.2.1 (C0.2.2.2.2.1 _ wd1089) dX10_best_22 ?_
          refine k_jim hP hD hS hA [] [true, true, true, true, true, true, true, true, true, true, true, true, true, true, true, true, true, true, true, true] rfl rfl (by decide +kernel) 0 0 (Nat.le_of_ble_eq_true rfl) (Nat.le_of_ble_eq_true rfl) (fun hPc hDc => k_runS (As := [.long p1.toInt64, .long 0, .long 2]) (rest := []) C0 hZ hS hA (c_isIn l dC dI cy sq p1.toInt64 0 2) mS_X10_318 hPc hDc hl rfl rfl (Nat.le_of_ble_eq_true rfl) ⟨(Nat.le_of_ble_eq_true rfl), (Nat.le_of_ble_eq_true rfl)⟩ ⟨(Nat.le_of_ble_eq_true rfl), (Nat.le_of_ble_eq_true rfl)⟩ dX10_best_25) (fun r88 u89 H locs hw hP hD hS => ?_)
          replace hP : va_P (dC, dI) vwCl [(a_this, .inr (10, mfs rm x_taped x_at x_end x_ended x_bad x_badPlace x_fault x_faultPlace x_namePlace x_awayTold x_away x_coded x_statements x_isCrossing x_textKind x_askSecond x_redMany x_isOpen x_lastGreen x_greenTo x_isCycleGreen x_stillGreen x_rowMany x_fitMany x_fitRules x_fitGreen x_undoable x_newest x_seeded x_qCoded x_qWaits x_qOpened x_qBase x_qPiled x_qAnswer x_qIsNew x_octets)), (wi_rm49_0_6_0 rm cy g_codeFrom), (wi_rm50_0_6_0 rm cy g_codeEnd), (wi_rm116_1_1700_1 rm cy g_qPile), (wi_rm51_0_3200_0 rm cy g_codes), (wi_rm46_0_48_0 rm cy g_walkers), (wi_rm56_0_9_0 rm cy g_now), (wi_rm43_0_8_0 rm cy g_bar), (wi_rm65_0_12_0 rm cy g_waits), (wi_rm44_0_24_0 rm cy g_kinds), (wi_rm61_0_300_0 rm cy g_gaps), (wi_rm66_3_12_0 rm cy g_goes), (wi_rm67_3_12_0 rm cy g_harms), (wi_rm60_3_320_0 rm cy g_isCar), (wi_rm63_3_12_0 rm cy g_isHere), (wi_rm64_0_12_0 rm cy g_crosses), (wi_rm68_3_12_0 rm cy g_presses), (wi_rm69_3_300_0 rm cy g_crossedIn), (wi_rm41_0_4_0 rm cy g_many), (wi_rm62_3_300_0 rm cy g_isGreen)] H := hP
          replace hD := k_D hP hD
          have h90 := hw
          have h91 : ib r88 0 1 := by rw [h90]; exact k_isf_01 _ _ _
          have Er88 := lf_isine h90 (lf_i2l (lf_rf p1)) (lf_ll 0 (0 : Int) rfl) (lf_ll 2 (2 : Int) rfl)
          refine lv_if_ne (tgt := 33) hx hb dX10_best_28 rfl (fun c92 => ?_) (fun c92 => ?_)
          · as_aux_lemma =>
              replace hq := lf_neg hq (lf_ne Er88 (lf_lc 0 (0 : Int) rfl) c92)
              have h93 : ib r88 1 1 := ib_w 1 1 (ib_ne_lo 0 h91 rfl c92) rfl
              have h94 : ib p1 0 2 := ib_w 0 2 (ib_two (ib_any p1) (k_isf_v h90 (show 0 ≤ (0 : Int64).toInt by decide) (show (2 : Int64).toInt ≤ 2 by decide) (ib_nz h93 rfl))) rfl
              refine lv_aload_n hx hb dX10_best_33 rfl (lv_at hl 0 rfl) ?_
              refine k_jvm hP hD hS hA [0, 1, 2, 3, 4, 5, 6, 7, 8, 9, 10, 11, 12, 13] [false, false, false, false, false, false, false, false, false, false, false, false, false, false, true, true, true, true, true, true] rfl rfl (by decide +kernel) 0 0 (Nat.le_of_ble_eq_true rfl) (Nat.le_of_ble_eq_true rfl) (fun hPc hDc => k_runV (As := []) (rest := []) C0 hZ hS hA (s_X10_laysCars l dC dI cy sq a_this rm x_taped x_at x_end x_ended x_bad x_badPlace x_fault x_faultPlace x_namePlace x_awayTold x_away x_coded x_statements x_isCrossing x_textKind x_askSecond x_redMany x_isOpen x_lastGreen x_greenTo x_isCycleGreen x_stillGreen x_rowMany x_fitMany x_fitRules x_fitGreen x_undoable x_newest x_seeded x_qCoded x_qWaits x_qOpened x_qBase x_qPiled x_qAnswer x_qIsNew x_octets g_bar g_kinds g_walkers g_codeFrom g_codeEnd g_codes g_now g_isCar g_gaps g_waits g_goes g_harms g_qPile (ib_w 0 1700 hx_qPiled rfl) (ib_w 10 120 h78 rfl) hpg_walkers (ib_w (-1) 1600 hg_codeFrom_3 rfl) (ib_w 0 1600 hg_codeEnd_3 rfl) hg_gaps hG0) mV_X10_501 hPc hDc rfl rfl rfl hl rfl rfl (Nat.le_of_ble_eq_true rfl) ⟨(Nat.le_of_ble_eq_true rfl), (Nat.le_of_ble_eq_true rfl)⟩ ⟨(Nat.le_of_ble_eq_true rfl), (Nat.le_of_ble_eq_true rfl)⟩ dX10_best_34) (fun u96 H locs hw hP hD hS => ?_)
              obtain ⟨v97, v98, v99, f100, f101, f102⟩ := u96
              try dsimp only at hP hD hw
              replace hP : va_P (dC, dI) vwCl [(wi_rm63_3_12_0 rm cy g_isHere), (wi_rm64_0_12_0 rm cy g_crosses), (wi_rm68_3_12_0 rm cy g_presses), (wi_rm69_3_300_0 rm cy g_crossedIn), (wi_rm41_0_4_0 rm cy g_many), (wi_rm62_3_300_0 rm cy g_isGreen), (a_this, .inr (10, mfs rm x_taped x_at x_end x_ended x_bad x_badPlace x_fault x_faultPlace x_namePlace x_awayTold x_away x_coded x_statements x_isCrossing v97 v98 x_redMany x_isOpen x_lastGreen x_greenTo x_isCycleGreen x_stillGreen x_rowMany x_fitMany x_fitRules x_fitGreen x_undoable x_newest x_seeded x_qCoded x_qWaits x_qOpened x_qBase v99 x_qAnswer x_qIsNew x_octets)), (wi_rm49_0_6_0 rm cy g_codeFrom), (wi_rm50_0_6_0 rm cy g_codeEnd), (wi_rm116_1_1700_1 rm cy f100), (wi_rm51_0_3200_0 rm cy g_codes), (wi_rm46_0_48_0 rm cy g_walkers), (wi_rm56_0_9_0 rm cy g_now), (wi_rm43_0_8_0 rm cy g_bar), (wi_rm65_0_12_0 rm cy g_waits), (wi_rm44_0_24_0 rm cy g_kinds), (wi_rm61_0_300_0 rm cy f101), (wi_rm66_3_12_0 rm cy g_goes), (wi_rm67_3_12_0 rm cy g_harms), (wi_rm60_3_320_0 rm cy f102)] H := hP
              replace hD := k_D hP hD
              obtain ⟨h103, h104, h105⟩ := hw
              replace hq := lf_p1 hq h105
              replace hq := lf_p1 hq rfl
              replace hq := lf_p1 hq rfl
              replace hq := lf_p1 hq rfl
              replace hq := lf_p1 hq rfl
              refine lv_iconst (v := (-1)) hx hb dX10_best_37 rfl ?_
              refine lv_istore_n (lv' := [(3, .int (-1)), (0, .ref a_this), (1, .int p0), (2, .int p1)]) hx hb dX10_best_38 rfl hl (Nat.le_of_ble_eq_true rfl) rfl (fun ls hl => ?_)
              refine lv_iconst (v := (-1)) hx hb dX10_best_39 rfl ?_
              refine lv_istore (lv' := [(4, .int (-1)), (3, .int (-1)), (0, .ref a_this), (1, .int p0), (2, .int p1)]) hx hb dX10_best_40 hl (Nat.le_of_ble_eq_true rfl) rfl (fun ls hl => ?_)
              refine lv_iconst (v := (-1)) hx hb dX10_best_42 rfl ?_
              refine lv_istore (lv' := [(5, .int (-1)), (4, .int (-1)), (3, .int (-1)), (0, .ref a_this), (1, .int p0), (2, .int p1)]) hx hb dX10_best_43 hl (Nat.le_of_ble_eq_true rfl) rfl (fun ls hl => ?_)
              refine lv_iconst (v := 1) hx hb dX10_best_45 rfl ?_
              refine lv_istore (lv' := [(6, .int 1), (5, .int (-1)), (4, .int (-1)), (3, .int (-1)), (0, .ref a_this), (1, .int p0), (2, .int p1)]) hx hb dX10_best_46 hl (Nat.le_of_ble_eq_true rfl) rfl (fun ls hl => ?_)
              exact jn48 42 v97 v98 v99 f100 f101 f102 (-1) (-1) (-1) 1 x_redMany x_isOpen x_lastGreen x_greenTo x_isCycleGreen x_stillGreen g_waits g_goes g_harms g_isHere g_crosses g_presses g_crossedIn g_isGreen H locs ls (ib_w 0 12 h87 rfl) (ib_w 0 2 h94 rfl) (ib_w 1 1 h77 rfl) (ib_w 0 1700 h103 rfl) (ib_w 10 120 h78 rfl) (ib_w (-1) 2 (ib_c (-1) (-1) (-1) rfl) rfl) (ib_w (-1) 40 (ib_c (-1) (-1) (-1) rfl) rfl) (ib_w 1 41 (ib_c 1 1 1 rfl) rfl) (ib_w 0 1 hx_isOpen rfl) (ib_w 0 1 hx_isCycleGreen rfl) h104 (by try simp only [show ((-1) : Int32).toInt = (-1 : Int) from rfl]; try simp only [show (1 : Int32).toInt = (1 : Int) from rfl]; exact hq) (by have := (ib_c 1 1 1 rfl); unfold ib at this; omega) (hP.sub [6, 7, 8, 9, 10, 11, 12, 13, 14, 15, 16, 17, 18, 19, 0, 1, 2, 3, 4, 5] rfl) (hD.sub [6, 7, 8, 9, 10, 11, 12, 13, 14, 15, 16, 17, 18, 19, 0, 1, 2, 3, 4, 5] (by decide +kernel) rfl) hS (lv_sub hl [4, 5, 6, 3, 2, 1, 0] rfl)
          · replace hq := lf_pos hq (lf_eq Er88 (lf_lc 0 (0 : Int) rfl) c92)
            have h106 := ib_eq h91 (ib_c 0 0 0 rfl) c92
            have h107 : ib r88 0 0 := ib_w 0 0 h106.1 rfl
            exact jn31  H locs ls (by exact hq) hP hD hS (lv_sub hl [0, 1, 2] rfl)
set_option maxHeartbeats 4000000 in
set_option maxRecDepth 100000 in
theorem s_X10_bits (l : Launch) (dC : Nat → ClassId) (dI : Nat → Nat → Nat) (cy : Nat → ClassId) (sq : Nat → Nat) (p0 : Int32) (hp0 : ib p0 0 4095) : k_Met l yX10_bits cX10_bits 3 (some .int) { frames := 0, cells := 0, slots := 0, locals := 0 } dC dI cy sq [.int p0] [] (k_Qi dC dI (fun (r : Int32) (_ : Unit) => (F_X10_bits (Int32.toInt p0) = ((Int32.toInt r)))) (fun _ : Unit => [])) := by
  refine k_ofW2 (by decide +kernel) (Nat.le_of_ble_eq_true rfl) ?_
  intro p e s m below meth c A ls H locs args Q hQ C0 hZ hr hlk hin hP hD hA hS hl
  have C0 : k_cx p s m args c cX10_bits 3 RX10 dC dI cy sq := C0
  have hx := C0.1
  have hb := C0.2.1
  have hl : lv_has ls 3 [(0, .int p0)] := hl
  obtain ⟨O, hO⟩ : ∃ o, o = F_X10_bits (Int32.toInt p0) := ⟨_, rfl⟩
  have hq := hO
  unfold F_X10_bits at hq
  have jn4 : ∀ (n : Nat) (J4_l1 : Int32) (J4_l2 : Int32) (H : Heap) (locs : List Loc) (ls : Array Slot), ib J4_l2 0 4095 → (O = F_X10_bits_4 n (Int32.toInt J4_l1) (Int32.toInt J4_l2)) → J4_l2.toInt - (-1) ≤ (n : Int) → va_P (dC, dI) vwCl [] H → va_D A [] → va_S A s.heap H locs → lv_has ls 3 [(0, .int p0), (1, .int J4_l1), (2, .int J4_l2)] → W p l e { frames := 0, cells := 0, slots := 0, locals := 0 } s m args below meth c H locs 0 0 Q (F0 m 4 ls []) := by
    intro n
    induction n with
    | zero =>
      intro J4_l1 J4_l2 H locs ls hJ4_l2 hq hm
      exact absurd hm (by have := hJ4_l2; unfold ib at this; omega)
    | succ n ih =>
      intro J4_l1 J4_l2 H locs ls hJ4_l2 hq hm4 hP hD hS hl
      have ih4 := ih
      obtain ⟨K4, hK4⟩ : ∃ K, K = F_X10_bits_4 n := ⟨_, rfl⟩
      have hq : O = F_X10_bits_4b K4 (Int32.toInt J4_l1) (Int32.toInt J4_l2) := by rw [hK4]; exact hq
      unfold F_X10_bits_4b at hq
      refine lv_iload_n hx hb dX10_bits_4 rfl (lv_at hl 2 rfl) ?_
      refine lv_if_eq (tgt := 20) hx hb dX10_bits_5 rfl (fun c1 => ?_) (fun c1 => ?_)
      · replace hq := lf_pos hq (lf_eq (lf_rf J4_l2) (lf_lc 0 (0 : Int) rfl) c1)
        have h2 := ib_eq hJ4_l2 (ib_c 0 0 0 rfl) c1
        have h3 : ib J4_l2 0 0 := ib_w 0 0 h2.1 rfl
        refine lv_iload_n hx hb dX10_bits_20 rfl (lv_at hl 1 rfl) ?_
        subst hQ; exact k_iret hx hb hr hlk rfl () hS ((hO.symm.trans (by exact hq))) hP hD (Nat.le_of_ble_eq_true rfl) (Nat.le_of_ble_eq_true rfl) dX10_bits_21
      · replace hq := lf_neg hq (lf_ne (lf_rf J4_l2) (lf_lc 0 (0 : Int) rfl) c1)
        have h4 : ib J4_l2 1 4095 := ib_w 1 4095 (ib_ne_lo 0 hJ4_l2 rfl c1) rfl
        obtain ⟨z5, ez5⟩ : ∃ y : Int32, y = J4_l1 + 1 := ⟨_, rfl⟩
        refine lv_iinc (v := z5) (lv' := [(1, .int z5), (0, .int p0), (2, .int J4_l2)]) hx hb dX10_bits_8 hl (k := 1) rfl (by rw [ez5]; rfl) (Nat.le_of_ble_eq_true rfl) rfl (fun ls hl => ?_)
        have Ez5 := lf_op lf_iadd ez5 (lf_rf J4_l1) (lf_lc 1 (1 : Int) rfl)
        refine lv_iload_n hx hb dX10_bits_11 rfl (lv_at hl 2 rfl) ?_
        refine lv_iload_n hx hb dX10_bits_12 rfl (lv_at hl 2 rfl) ?_
        refine lv_iconst (v := 1) hx hb dX10_bits_13 rfl ?_
        refine lv_isub hx hb dX10_bits_14 ?_
        refine lv_topi (fun z6 ez6 => ?_)
        have h7 := ib_sub h4 (ib_c 1 1 1 rfl) rfl
        rw [← ez6] at h7
        have h8 : ib z6 0 4094 := ib_w 0 4094 h7.1 rfl
        have Ez6 := lf_sub h7.2 (lf_rf J4_l2) (lf_lc 1 (1 : Int) rfl)
        refine lv_iand hx hb dX10_bits_15 ?_
        refine lv_topi (fun z9 ez9 => ?_)
        have h10 := ib_dec h4 (by decide) h7.2
        rw [← ez9] at h10
        have h11 : ib z9 0 4094 := ⟨h10.1, by have := h10.2; have := (h4).2; omega⟩
        have Ez9 := lf_op lf_iand ez9 (lf_rf J4_l2) Ez6
        refine lv_istore_n (lv' := [(2, .int z9), (1, .int z5), (0, .int p0)]) hx hb dX10_bits_16 rfl hl (Nat.le_of_ble_eq_true rfl) rfl (fun ls hl => ?_)
        refine lv_goto (tgt := 4) hx hb dX10_bits_17 rfl ?_
        exact ih4 z5 z9 H locs ls (ib_w 0 4095 h11 rfl) (by rw [← hK4]; rw [lf_u Ez5]; rw [lf_u Ez9]; exact hq) (by have := h10.2; omega) hP hD hS (lv_sub hl [2, 1, 0] rfl)
  refine lv_iconst (v := 0) hx hb dX10_bits_0 rfl ?_
  refine lv_istore_n (lv' := [(1, .int 0), (0, .int p0)]) hx hb dX10_bits_1 rfl hl (Nat.le_of_ble_eq_true rfl) rfl (fun ls hl => ?_)
  refine lv_iload_n hx hb dX10_bits_2 rfl (lv_at hl 1 rfl) ?_
  refine lv_istore_n (lv' := [(2, .int p0), (1, .int 0), (0, .int p0)]) hx hb dX10_bits_3 rfl hl (Nat.le_of_ble_eq_true rfl) rfl (fun ls hl => ?_)
  exact jn4 4097 0 p0 H locs ls (ib_w 0 4095 hp0 rfl) (by try simp only [show (0 : Int32).toInt = (0 : Int) from rfl]; exact hq) (by have := hp0; unfold ib at this; omega) hP hD hS (lv_sub hl [2, 1, 0] rfl)
set_option maxHeartbeats 4000000 in
set_option maxRecDepth 100000 in
theorem s_X10_car (l : Launch) (dC : Nat → ClassId) (dI : Nat → Nat → Nat) (cy : Nat → ClassId) (sq : Nat → Nat) (a_this : Nat) (rm : Nat → Nat) (x_taped : Int32) (x_at : Int32) (x_end : Int32) (x_ended : Int32) (x_bad : Int32) (x_badPlace : Int32) (x_fault : Int32) (x_faultPlace : Int32) (x_namePlace : Int32) (x_awayTold : Int32) (x_away : Int32) (x_coded : Int32) (x_statements : Int32) (x_isCrossing : Int32) (x_textKind : Int32) (x_askSecond : Int32) (x_redMany : Int32) (x_isOpen : Int32) (x_lastGreen : Int32) (x_greenTo : Int32) (x_isCycleGreen : Int32) (x_stillGreen : Int32) (x_rowMany : Int32) (x_fitMany : Int32) (x_fitRules : Int32) (x_fitGreen : Int32) (x_undoable : Int32) (x_newest : Int32) (x_seeded : Int64) (x_qCoded : Int32) (x_qWaits : Int32) (x_qOpened : Int32) (x_qBase : Int32) (x_qPiled : Int32) (x_qAnswer : Int64) (x_qIsNew : Int32) (x_octets : Int32) (g_bar : Nat → Int32) (g_kinds : Nat → Int32) (g_walkers : Nat → Int32) (g_codeFrom : Nat → Int32) (g_codeEnd : Nat → Int32) (g_codes : Nat → Int32) (g_now : Nat → Int32) (g_isCar : Nat → Int32) (g_gaps : Nat → Int32) (g_waits : Nat → Int32) (g_goes : Nat → Int32) (g_harms : Nat → Int32) (g_qPile : Nat → Int64) (p0 : Int32) (hx_isCrossing : ib x_isCrossing 0 1) (hx_qPiled : ib x_qPiled 0 1700) (hg_bar_4 : ib (g_bar 4) 0 120) (hpg_walkers : ip g_walkers 48 2 0 0 5) (hg_codeFrom_3 : ib (g_codeFrom 3) (-1) 1600) (hg_codeEnd_3 : ib (g_codeEnd 3) 0 1600) (hg_gaps : ia g_gaps 300 0 20) (hG0 : ¬ g_codeFrom 3 = (-1) → okc g_codes 1600 false (g_codeFrom 3) (g_codeEnd 3)) (hc_cr : ¬ x_isCrossing = 0 → ib (g_bar 4) 10 120) : k_Met l yX10_car cX10_car 2 (some .int) { frames := 5, cells := 0, slots := 0, locals := 109 } dC dI cy sq [.ref a_this, .int p0] [(a_this, .inr (10, mfs rm x_taped x_at x_end x_ended x_bad x_badPlace x_fault x_faultPlace x_namePlace x_awayTold x_away x_coded x_statements x_isCrossing x_textKind x_askSecond x_redMany x_isOpen x_lastGreen x_greenTo x_isCycleGreen x_stillGreen x_rowMany x_fitMany x_fitRules x_fitGreen x_undoable x_newest x_seeded x_qCoded x_qWaits x_qOpened x_qBase x_qPiled x_qAnswer x_qIsNew x_octets)), (wi_rm49_0_6_0 rm cy g_codeFrom), (wi_rm50_0_6_0 rm cy g_codeEnd), (wi_rm116_1_1700_1 rm cy g_qPile), (wi_rm51_0_3200_0 rm cy g_codes), (wi_rm46_0_48_0 rm cy g_walkers), (wi_rm56_0_9_0 rm cy g_now), (wi_rm43_0_8_0 rm cy g_bar), (wi_rm65_0_12_0 rm cy g_waits), (wi_rm44_0_24_0 rm cy g_kinds), (wi_rm61_0_300_0 rm cy g_gaps), (wi_rm66_3_12_0 rm cy g_goes), (wi_rm67_3_12_0 rm cy g_harms), (wi_rm60_3_320_0 rm cy g_isCar)] (k_Qi dC dI (fun (r : Int32) (u : Int32 × Int32 × Int32 × (Nat → Int64) × (Nat → Int32) × (Nat → Int32)) => match u with | (n0, n1, n2, n3, n4, n5) => ib n2 0 1700 ∧ ia n4 300 0 20 ∧ ib r (-1) 1 ∧ (F_X10_car (Int32.toInt x_isCrossing) (Int32.toInt x_textKind) (Int32.toInt x_askSecond) (Int32.toInt x_redMany) (Int32.toInt x_qPiled) (lf_A g_bar) (lf_A g_kinds) (lf_A g_walkers) (lf_A g_codeFrom) (lf_A g_codeEnd) (lf_A g_codes) (lf_A g_now) (lf_A g_isCar) (lf_A g_gaps) (lf_A g_waits) (lf_A g_goes) (lf_A g_harms) (lf_L g_qPile) (Int32.toInt p0) = ((Int32.toInt r), (Int32.toInt n0), (Int32.toInt n1), (Int32.toInt n2), (lf_L n3), (lf_A n4), (lf_A n5)))) (fun u : Int32 × Int32 × Int32 × (Nat → Int64) × (Nat → Int32) × (Nat → Int32) => match u with | (n0, n1, n2, n3, n4, n5) => [(a_this, .inr (10, mfs rm x_taped x_at x_end x_ended x_bad x_badPlace x_fault x_faultPlace x_namePlace x_awayTold x_away x_coded x_statements x_isCrossing n0 n1 x_redMany x_isOpen x_lastGreen x_greenTo x_isCycleGreen x_stillGreen x_rowMany x_fitMany x_fitRules x_fitGreen x_undoable x_newest x_seeded x_qCoded x_qWaits x_qOpened x_qBase n2 x_qAnswer x_qIsNew x_octets)), (wi_rm49_0_6_0 rm cy g_codeFrom), (wi_rm50_0_6_0 rm cy g_codeEnd), (wi_rm116_1_1700_1 rm cy n3), (wi_rm51_0_3200_0 rm cy g_codes), (wi_rm46_0_48_0 rm cy g_walkers), (wi_rm56_0_9_0 rm cy g_now), (wi_rm43_0_8_0 rm cy g_bar), (wi_rm65_0_12_0 rm cy g_waits), (wi_rm44_0_24_0 rm cy g_kinds), (wi_rm61_0_300_0 rm cy n4), (wi_rm66_3_12_0 rm cy g_goes), (wi_rm67_3_12_0 rm cy g_harms), (wi_rm60_3_320_0 rm cy n5)])) := by
  refine k_ofW2 (by decide +kernel) (Nat.le_of_ble_eq_true rfl) ?_
  intro p e s m below meth c A ls H locs args Q hQ C0 hZ hr hlk hin hP hD hA hS hl
  have C0 : k_cx p s m args c cX10_car 2 RX10 dC dI cy sq := C0
  have hx := C0.1
  have hb := C0.2.1
  have hl : lv_has ls 2 [(0, .ref a_this), (1, .int p0)] := hl
  obtain ⟨O, hO⟩ : ∃ o, o = F_X10_car (Int32.toInt x_isCrossing) (Int32.toInt x_textKind) (Int32.toInt x_askSecond) (Int32.toInt x_redMany) (Int32.toInt x_qPiled) (lf_A g_bar) (lf_A g_kinds) (lf_A g_walkers) (lf_A g_codeFrom) (lf_A g_codeEnd) (lf_A g_codes) (lf_A g_now) (lf_A g_isCar) (lf_A g_gaps) (lf_A g_waits) (lf_A g_goes) (lf_A g_harms) (lf_L g_qPile) (Int32.toInt p0) := ⟨_, rfl⟩
  have hq := hO
  unfold F_X10_car at hq
  have jn19 : ∀  (H : Heap) (locs : List Loc) (ls : Array Slot), (O = F_X10_car_19 (Int32.toInt x_textKind) (Int32.toInt x_askSecond) (Int32.toInt x_qPiled) (lf_A g_isCar) (lf_A g_gaps) (lf_L g_qPile) ) → va_P (dC, dI) vwCl [(a_this, .inr (10, mfs rm x_taped x_at x_end x_ended x_bad x_badPlace x_fault x_faultPlace x_namePlace x_awayTold x_away x_coded x_statements x_isCrossing x_textKind x_askSecond x_redMany x_isOpen x_lastGreen x_greenTo x_isCycleGreen x_stillGreen x_rowMany x_fitMany x_fitRules x_fitGreen x_undoable x_newest x_seeded x_qCoded x_qWaits x_qOpened x_qBase x_qPiled x_qAnswer x_qIsNew x_octets)), (wi_rm49_0_6_0 rm cy g_codeFrom), (wi_rm50_0_6_0 rm cy g_codeEnd), (wi_rm116_1_1700_1 rm cy g_qPile), (wi_rm51_0_3200_0 rm cy g_codes), (wi_rm46_0_48_0 rm cy g_walkers), (wi_rm56_0_9_0 rm cy g_now), (wi_rm43_0_8_0 rm cy g_bar), (wi_rm65_0_12_0 rm cy g_waits), (wi_rm44_0_24_0 rm cy g_kinds), (wi_rm61_0_300_0 rm cy g_gaps), (wi_rm66_3_12_0 rm cy g_goes), (wi_rm67_3_12_0 rm cy g_harms), (wi_rm60_3_320_0 rm cy g_isCar)] H → va_D A [(a_this, .inr (10, mfs rm x_taped x_at x_end x_ended x_bad x_badPlace x_fault x_faultPlace x_namePlace x_awayTold x_away x_coded x_statements x_isCrossing x_textKind x_askSecond x_redMany x_isOpen x_lastGreen x_greenTo x_isCycleGreen x_stillGreen x_rowMany x_fitMany x_fitRules x_fitGreen x_undoable x_newest x_seeded x_qCoded x_qWaits x_qOpened x_qBase x_qPiled x_qAnswer x_qIsNew x_octets)), (wi_rm49_0_6_0 rm cy g_codeFrom), (wi_rm50_0_6_0 rm cy g_codeEnd), (wi_rm116_1_1700_1 rm cy g_qPile), (wi_rm51_0_3200_0 rm cy g_codes), (wi_rm46_0_48_0 rm cy g_walkers), (wi_rm56_0_9_0 rm cy g_now), (wi_rm43_0_8_0 rm cy g_bar), (wi_rm65_0_12_0 rm cy g_waits), (wi_rm44_0_24_0 rm cy g_kinds), (wi_rm61_0_300_0 rm cy g_gaps), (wi_rm66_3_12_0 rm cy g_goes), (wi_rm67_3_12_0 rm cy g_harms), (wi_rm60_3_320_0 rm cy g_isCar)] → va_S A s.heap H locs → lv_has ls 2 [(0, .ref a_this), (1, .int p0)] → W p l e { frames := 5, cells := 0, slots := 0, locals := 109 } s m args below meth c H locs 0 0 Q (F0 m 19 ls []) := by
    intro H locs ls hq hP hD hS hl
    unfold F_X10_car_19 at hq
    refine lv_iconst (v := (-1)) hx hb dX10_car_19 rfl ?_
    subst hQ; exact k_iret hx hb hr hlk rfl ((x_textKind, x_askSecond, x_qPiled, g_qPile, g_gaps, g_isCar)) hS ⟨ib_w 0 1700 hx_qPiled rfl, hg_gaps, ib_w (-1) 1 (ib_c (-1) (-1) (-1) rfl) rfl, (hO.symm.trans (by try simp only [show ((-1) : Int32).toInt = (-1 : Int) from rfl]; exact hq))⟩ hP hD (Nat.le_of_ble_eq_true rfl) (Nat.le_of_ble_eq_true rfl) dX10_car_20
  refine lv_aload_n hx hb dX10_car_0 rfl (lv_at hl 0 rfl) ?_
  refine k_get C0 fg_X10_417 hP 0 rfl rfl dX10_car_1 ?_
  refine lv_if_eq (tgt := 19) hx hb dX10_car_4 rfl (fun c1 => ?_) (fun c1 => ?_)
  · replace hq := lf_pos hq (lf_eq (lf_rf x_isCrossing) (lf_lc 0 (0 : Int) rfl) c1)
    have h2 := ib_eq hx_isCrossing (ib_c 0 0 0 rfl) c1
    have h3 : ib x_isCrossing 0 0 := ib_w 0 0 h2.1 rfl
    exact jn19  H locs ls (by exact hq) hP hD hS (lv_sub hl [0, 1] rfl)
  · as_aux_lemma =>
      replace hq := lf_neg hq (lf_ne (lf_rf x_isCrossing) (lf_lc 0 (0 : Int) rfl) c1)
      have h4 : ib x_isCrossing 1 1 := ib_w 1 1 (ib_ne_lo 0 hx_isCrossing rfl c1) rfl
      have h5 : ib (g_bar 4) 10 120 := ib_w 10 120 (ib_two hg_bar_4 (hc_cr (ib_nz h4 rfl))) rfl
      refine lv_iload_n hx hb dX10_car_7 rfl (lv_at hl 1 rfl) ?_
      refine lv_i2l (v := p0.toInt64) hx hb dX10_car_8 rfl ?_
      refine lv_lconst (v := 0) hx hb dX10_car_9 (by decide) ?_
      refine lv_ldc2 hx hb C0.2.2.2.1 (C0.2.2.2.2.1 _ wd1013) dX10_car_10 ?_
      refine k_jim hP hD hS hA [] [true, true, true, true, true, true, true, true, true, true, true, true, true, true] rfl rfl (by decide +kernel) 0 0 (Nat.le_of_ble_eq_true rfl) (Nat.le_of_ble_eq_true rfl) (fun hPc hDc => k_runS (As := [.long p0.toInt64, .long 0, .long 319]) (rest := []) C0 hZ hS hA (c_isIn l dC dI cy sq p0.toInt64 0 319) mS_X10_318 hPc hDc hl rfl rfl (Nat.le_of_ble_eq_true rfl) ⟨(Nat.le_of_ble_eq_true rfl), (Nat.le_of_ble_eq_true rfl)⟩ ⟨(Nat.le_of_ble_eq_true rfl), (Nat.le_of_ble_eq_true rfl)⟩ dX10_car_13) (fun r6 u7 H locs hw hP hD hS => ?_)
      replace hP : va_P (dC, dI) vwCl [(a_this, .inr (10, mfs rm x_taped x_at x_end x_ended x_bad x_badPlace x_fault x_faultPlace x_namePlace x_awayTold x_away x_coded x_statements x_isCrossing x_textKind x_askSecond x_redMany x_isOpen x_lastGreen x_greenTo x_isCycleGreen x_stillGreen x_rowMany x_fitMany x_fitRules x_fitGreen x_undoable x_newest x_seeded x_qCoded x_qWaits x_qOpened x_qBase x_qPiled x_qAnswer x_qIsNew x_octets)), (wi_rm49_0_6_0 rm cy g_codeFrom), (wi_rm50_0_6_0 rm cy g_codeEnd), (wi_rm116_1_1700_1 rm cy g_qPile), (wi_rm51_0_3200_0 rm cy g_codes), (wi_rm46_0_48_0 rm cy g_walkers), (wi_rm56_0_9_0 rm cy g_now), (wi_rm43_0_8_0 rm cy g_bar), (wi_rm65_0_12_0 rm cy g_waits), (wi_rm44_0_24_0 rm cy g_kinds), (wi_rm61_0_300_0 rm cy g_gaps), (wi_rm66_3_12_0 rm cy g_goes), (wi_rm67_3_12_0 rm cy g_harms), (wi_rm60_3_320_0 rm cy g_isCar)] H := hP
      replace hD := k_D hP hD
      have h8 := hw
      have h9 : ib r6 0 1 := by rw [h8]; exact k_isf_01 _ _ _
      have Er6 := lf_isine h8 (lf_i2l (lf_rf p0)) (lf_ll 0 (0 : Int) rfl) (lf_ll 319 (319 : Int) rfl)
      refine lv_if_ne (tgt := 21) hx hb dX10_car_16 rfl (fun c10 => ?_) (fun c10 => ?_)
      · as_aux_lemma =>
          replace hq := lf_neg hq (lf_ne Er6 (lf_lc 0 (0 : Int) rfl) c10)
          have h11 : ib r6 1 1 := ib_w 1 1 (ib_ne_lo 0 h9 rfl c10) rfl
          have h12 : ib p0 0 319 := ib_w 0 319 (ib_two (ib_any p0) (k_isf_v h8 (show 0 ≤ (0 : Int64).toInt by decide) (show (319 : Int64).toInt ≤ 319 by decide) (ib_nz h11 rfl))) rfl
          refine lv_aload_n hx hb dX10_car_21 rfl (lv_at hl 0 rfl) ?_
          refine k_jvm hP hD hS hA [0, 1, 2, 3, 4, 5, 6, 7, 8, 9, 10, 11, 12, 13] [] rfl rfl (by decide +kernel) 0 0 (Nat.le_of_ble_eq_true rfl) (Nat.le_of_ble_eq_true rfl) (fun hPc hDc => k_runV (As := []) (rest := []) C0 hZ hS hA (s_X10_laysCars l dC dI cy sq a_this rm x_taped x_at x_end x_ended x_bad x_badPlace x_fault x_faultPlace x_namePlace x_awayTold x_away x_coded x_statements x_isCrossing x_textKind x_askSecond x_redMany x_isOpen x_lastGreen x_greenTo x_isCycleGreen x_stillGreen x_rowMany x_fitMany x_fitRules x_fitGreen x_undoable x_newest x_seeded x_qCoded x_qWaits x_qOpened x_qBase x_qPiled x_qAnswer x_qIsNew x_octets g_bar g_kinds g_walkers g_codeFrom g_codeEnd g_codes g_now g_isCar g_gaps g_waits g_goes g_harms g_qPile (ib_w 0 1700 hx_qPiled rfl) (ib_w 10 120 h5 rfl) hpg_walkers (ib_w (-1) 1600 hg_codeFrom_3 rfl) (ib_w 0 1600 hg_codeEnd_3 rfl) hg_gaps hG0) mV_X10_501 hPc hDc rfl rfl rfl hl rfl rfl (Nat.le_of_ble_eq_true rfl) ⟨(Nat.le_of_ble_eq_true rfl), (Nat.le_of_ble_eq_true rfl)⟩ ⟨(Nat.le_of_ble_eq_true rfl), (Nat.le_of_ble_eq_true rfl)⟩ dX10_car_22) (fun u14 H locs hw hP hD hS => ?_)
          obtain ⟨v15, v16, v17, f18, f19, f20⟩ := u14
          try dsimp only at hP hD hw
          replace hP : va_P (dC, dI) vwCl [(a_this, .inr (10, mfs rm x_taped x_at x_end x_ended x_bad x_badPlace x_fault x_faultPlace x_namePlace x_awayTold x_away x_coded x_statements x_isCrossing v15 v16 x_redMany x_isOpen x_lastGreen x_greenTo x_isCycleGreen x_stillGreen x_rowMany x_fitMany x_fitRules x_fitGreen x_undoable x_newest x_seeded x_qCoded x_qWaits x_qOpened x_qBase v17 x_qAnswer x_qIsNew x_octets)), (wi_rm49_0_6_0 rm cy g_codeFrom), (wi_rm50_0_6_0 rm cy g_codeEnd), (wi_rm116_1_1700_1 rm cy f18), (wi_rm51_0_3200_0 rm cy g_codes), (wi_rm46_0_48_0 rm cy g_walkers), (wi_rm56_0_9_0 rm cy g_now), (wi_rm43_0_8_0 rm cy g_bar), (wi_rm65_0_12_0 rm cy g_waits), (wi_rm44_0_24_0 rm cy g_kinds), (wi_rm61_0_300_0 rm cy f19), (wi_rm66_3_12_0 rm cy g_goes), (wi_rm67_3_12_0 rm cy g_harms), (wi_rm60_3_320_0 rm cy f20)] H := hP
          replace hD := k_D hP hD
          obtain ⟨h21, h22, h23⟩ := hw
          replace hq := lf_p1 hq h23
          replace hq := lf_p1 hq rfl
          replace hq := lf_p1 hq rfl
          replace hq := lf_p1 hq rfl
          replace hq := lf_p1 hq rfl
          refine lv_aload_n hx hb dX10_car_25 rfl (lv_at hl 0 rfl) ?_
          refine k_get C0 fg_X10_145 hP 0 rfl rfl dX10_car_26 ?_
          refine lv_iload_n hx hb dX10_car_29 rfl (lv_at hl 1 rfl) ?_
          refine va_zald hx hb C0.2.2.2.2.2.1 hP 13 3 rfl rfl (ib_in 320 h12 rfl) dX10_car_30 ?_
          refine lv_topi (fun z24 ez24 => ?_)
          have Ez24 := lf_ld ez24 (lf_ra f20) (lf_rf p0)
          refine lv_if_eq (tgt := 38) hx hb dX10_car_31 rfl (fun c25 => ?_) (fun c25 => ?_)
          · replace hq := lf_pos hq (lf_eq Ez24 (lf_lc 0 (0 : Int) rfl) c25)
            have h26 := ib_eq (ib_any z24) (ib_c 0 0 0 rfl) c25
            have h27 : ib z24 0 0 := ib_w 0 0 h26.1 rfl
            refine lv_iconst (v := 0) hx hb dX10_car_38 rfl ?_
            subst hQ; exact k_iret hx hb hr hlk rfl ((v15, v16, v17, f18, f19, f20)) hS ⟨ib_w 0 1700 h21 rfl, h22, ib_w (-1) 1 (ib_c 0 0 0 rfl) rfl, (hO.symm.trans (by try simp only [show (0 : Int32).toInt = (0 : Int) from rfl]; exact hq))⟩ hP hD (Nat.le_of_ble_eq_true rfl) (Nat.le_of_ble_eq_true rfl) dX10_car_39
          · replace hq := lf_neg hq (lf_ne Ez24 (lf_lc 0 (0 : Int) rfl) c25)
            refine lv_iconst (v := 1) hx hb dX10_car_34 rfl ?_
            refine lv_goto (tgt := 39) hx hb dX10_car_35 rfl ?_
            subst hQ; exact k_iret hx hb hr hlk rfl ((v15, v16, v17, f18, f19, f20)) hS ⟨ib_w 0 1700 h21 rfl, h22, ib_w (-1) 1 (ib_c 1 1 1 rfl) rfl, (hO.symm.trans (by try simp only [show (1 : Int32).toInt = (1 : Int) from rfl]; exact hq))⟩ hP hD (Nat.le_of_ble_eq_true rfl) (Nat.le_of_ble_eq_true rfl) dX10_car_39
      · replace hq := lf_pos hq (lf_eq Er6 (lf_lc 0 (0 : Int) rfl) c10)
        have h28 := ib_eq h9 (ib_c 0 0 0 rfl) c10
        have h29 : ib r6 0 0 := ib_w 0 0 h28.1 rfl
        exact jn19  H locs ls (by exact hq) hP hD hS (lv_sub hl [0, 1] rfl)
set_option maxHeartbeats 4000000 in
set_option maxRecDepth 100000 in
theorem s_X10_isAhead_a1_1_a2_30 (l : Launch) (dC : Nat → ClassId) (dI : Nat → Nat → Nat) (cy : Nat → ClassId) (sq : Nat → Nat) (a_this : Nat) (rm : Nat → Nat) (x_taped : Int32) (x_at : Int32) (x_end : Int32) (x_ended : Int32) (x_bad : Int32) (x_badPlace : Int32) (x_fault : Int32) (x_faultPlace : Int32) (x_namePlace : Int32) (x_awayTold : Int32) (x_away : Int32) (x_coded : Int32) (x_statements : Int32) (x_isCrossing : Int32) (x_textKind : Int32) (x_askSecond : Int32) (x_redMany : Int32) (x_isOpen : Int32) (x_lastGreen : Int32) (x_greenTo : Int32) (x_isCycleGreen : Int32) (x_stillGreen : Int32) (x_rowMany : Int32) (x_fitMany : Int32) (x_fitRules : Int32) (x_fitGreen : Int32) (x_undoable : Int32) (x_newest : Int32) (x_seeded : Int64) (x_qCoded : Int32) (x_qWaits : Int32) (x_qOpened : Int32) (x_qBase : Int32) (x_qPiled : Int32) (x_qAnswer : Int64) (x_qIsNew : Int32) (x_octets : Int32) (g_now : Nat → Int32) (p0 : Int32) (hx_isCrossing : ib x_isCrossing 0 1) : k_Met l yX10_isAhead cX10_isAhead 4 (some .boolean) { frames := 1, cells := 0, slots := 0, locals := 25 } dC dI cy sq [.ref a_this, .int p0, .int 1, .int 30] [(a_this, .inr (10, mfs rm x_taped x_at x_end x_ended x_bad x_badPlace x_fault x_faultPlace x_namePlace x_awayTold x_away x_coded x_statements x_isCrossing x_textKind x_askSecond x_redMany x_isOpen x_lastGreen x_greenTo x_isCycleGreen x_stillGreen x_rowMany x_fitMany x_fitRules x_fitGreen x_undoable x_newest x_seeded x_qCoded x_qWaits x_qOpened x_qBase x_qPiled x_qAnswer x_qIsNew x_octets)), (wi_rm56_0_9_0 rm cy g_now)] (k_Qi dC dI (fun (r : Int32) (_ : Unit) => ib r 0 1 ∧ (¬ r = 0 → ib x_isCrossing 1 1) ∧ (¬ r = 0 → ib p0 1 30) ∧ (F_X10_isAhead_a1_1_a2_30 (Int32.toInt x_isCrossing) (lf_A g_now) (Int32.toInt p0) = ((Int32.toInt r)))) (fun _ : Unit => [(a_this, .inr (10, mfs rm x_taped x_at x_end x_ended x_bad x_badPlace x_fault x_faultPlace x_namePlace x_awayTold x_away x_coded x_statements x_isCrossing x_textKind x_askSecond x_redMany x_isOpen x_lastGreen x_greenTo x_isCycleGreen x_stillGreen x_rowMany x_fitMany x_fitRules x_fitGreen x_undoable x_newest x_seeded x_qCoded x_qWaits x_qOpened x_qBase x_qPiled x_qAnswer x_qIsNew x_octets)), (wi_rm56_0_9_0 rm cy g_now)])) := by
  refine k_ofW2 (by decide +kernel) (Nat.le_of_ble_eq_true rfl) ?_
  intro p e s m below meth c A ls H locs args Q hQ C0 hZ hr hlk hin hP hD hA hS hl
  have C0 : k_cx p s m args c cX10_isAhead 4 RX10 dC dI cy sq := C0
  have hx := C0.1
  have hb := C0.2.1
  have hl : lv_has ls 4 [(0, .ref a_this), (1, .int p0), (2, .int 1), (3, .int 30)] := hl
  obtain ⟨O, hO⟩ : ∃ o, o = F_X10_isAhead_a1_1_a2_30 (Int32.toInt x_isCrossing) (lf_A g_now) (Int32.toInt p0) := ⟨_, rfl⟩
  have hq := hO
  unfold F_X10_isAhead_a1_1_a2_30 at hq
  have jn37 : ∀  (H : Heap) (locs : List Loc) (ls : Array Slot), (O = F_X10_isAhead_a1_1_a2_30_37 ) → va_P (dC, dI) vwCl [(a_this, .inr (10, mfs rm x_taped x_at x_end x_ended x_bad x_badPlace x_fault x_faultPlace x_namePlace x_awayTold x_away x_coded x_statements x_isCrossing x_textKind x_askSecond x_redMany x_isOpen x_lastGreen x_greenTo x_isCycleGreen x_stillGreen x_rowMany x_fitMany x_fitRules x_fitGreen x_undoable x_newest x_seeded x_qCoded x_qWaits x_qOpened x_qBase x_qPiled x_qAnswer x_qIsNew x_octets)), (wi_rm56_0_9_0 rm cy g_now)] H → va_D A [(a_this, .inr (10, mfs rm x_taped x_at x_end x_ended x_bad x_badPlace x_fault x_faultPlace x_namePlace x_awayTold x_away x_coded x_statements x_isCrossing x_textKind x_askSecond x_redMany x_isOpen x_lastGreen x_greenTo x_isCycleGreen x_stillGreen x_rowMany x_fitMany x_fitRules x_fitGreen x_undoable x_newest x_seeded x_qCoded x_qWaits x_qOpened x_qBase x_qPiled x_qAnswer x_qIsNew x_octets)), (wi_rm56_0_9_0 rm cy g_now)] → va_S A s.heap H locs → lv_has ls 4 [(0, .ref a_this), (1, .int p0), (2, .int 1), (3, .int 30)] → W p l e { frames := 1, cells := 0, slots := 0, locals := 25 } s m args below meth c H locs 0 0 Q (F0 m 37 ls []) := by
    intro H locs ls hq hP hD hS hl
    unfold F_X10_isAhead_a1_1_a2_30_37 at hq
    refine lv_iconst (v := 0) hx hb dX10_isAhead_37 rfl ?_
    subst hQ; exact k_iret hx hb hr hlk (k_nb 0 rfl) () hS ⟨ib_w 0 1 (ib_c 0 0 0 rfl) rfl, fun hq9 => absurd rfl hq9, fun hq9 => absurd rfl hq9, (hO.symm.trans (by try simp only [show (0 : Int32).toInt = (0 : Int) from rfl]; exact hq))⟩ hP hD (Nat.le_of_ble_eq_true rfl) (Nat.le_of_ble_eq_true rfl) dX10_isAhead_38
  refine lv_aload_n hx hb dX10_isAhead_0 rfl (lv_at hl 0 rfl) ?_
  refine k_get C0 fg_X10_417 hP 0 rfl rfl dX10_isAhead_1 ?_
  refine lv_if_eq (tgt := 37) hx hb dX10_isAhead_4 rfl (fun c1 => ?_) (fun c1 => ?_)
  · replace hq := lf_pos hq (lf_eq (lf_rf x_isCrossing) (lf_lc 0 (0 : Int) rfl) c1)
    have h2 := ib_eq hx_isCrossing (ib_c 0 0 0 rfl) c1
    have h3 : ib x_isCrossing 0 0 := ib_w 0 0 h2.1 rfl
    exact jn37  H locs ls (by exact hq) hP hD hS (lv_sub hl [0, 1, 2, 3] rfl)
  · as_aux_lemma =>
      replace hq := lf_neg hq (lf_ne (lf_rf x_isCrossing) (lf_lc 0 (0 : Int) rfl) c1)
      have h4 : ib x_isCrossing 1 1 := ib_w 1 1 (ib_ne_lo 0 hx_isCrossing rfl c1) rfl
      refine lv_iload_n hx hb dX10_isAhead_7 rfl (lv_at hl 1 rfl) ?_
      refine lv_i2l (v := p0.toInt64) hx hb dX10_isAhead_8 rfl ?_
      refine lv_iload_n hx hb dX10_isAhead_9 rfl (lv_at hl 2 rfl) ?_
      refine lv_i2l (v := 1) hx hb dX10_isAhead_10 (by decide) ?_
      refine lv_iload_n hx hb dX10_isAhead_11 rfl (lv_at hl 3 rfl) ?_
      refine lv_i2l (v := 30) hx hb dX10_isAhead_12 (by decide) ?_
      refine k_jim hP hD hS hA [] [true, true] rfl rfl rfl 0 0 (Nat.le_of_ble_eq_true rfl) (Nat.le_of_ble_eq_true rfl) (fun hPc hDc => k_runS (As := [.long p0.toInt64, .long 1, .long 30]) (rest := []) C0 hZ hS hA (c_isIn l dC dI cy sq p0.toInt64 1 30) mS_X10_318 hPc hDc hl rfl rfl (Nat.le_of_ble_eq_true rfl) ⟨(Nat.le_of_ble_eq_true rfl), (Nat.le_of_ble_eq_true rfl)⟩ ⟨(Nat.le_of_ble_eq_true rfl), (Nat.le_of_ble_eq_true rfl)⟩ dX10_isAhead_13) (fun r5 u6 H locs hw hP hD hS => ?_)
      replace hP : va_P (dC, dI) vwCl [(a_this, .inr (10, mfs rm x_taped x_at x_end x_ended x_bad x_badPlace x_fault x_faultPlace x_namePlace x_awayTold x_away x_coded x_statements x_isCrossing x_textKind x_askSecond x_redMany x_isOpen x_lastGreen x_greenTo x_isCycleGreen x_stillGreen x_rowMany x_fitMany x_fitRules x_fitGreen x_undoable x_newest x_seeded x_qCoded x_qWaits x_qOpened x_qBase x_qPiled x_qAnswer x_qIsNew x_octets)), (wi_rm56_0_9_0 rm cy g_now)] H := hP
      replace hD := k_D hP hD
      have h7 := hw
      have h8 : ib r5 0 1 := by rw [h7]; exact k_isf_01 _ _ _
      have Er5 := lf_isine h7 (lf_i2l (lf_rf p0)) (lf_ll 1 (1 : Int) rfl) (lf_ll 30 (30 : Int) rfl)
      refine lv_if_eq (tgt := 37) hx hb dX10_isAhead_16 rfl (fun c9 => ?_) (fun c9 => ?_)
      · replace hq := lf_pos hq (lf_eq Er5 (lf_lc 0 (0 : Int) rfl) c9)
        have h10 := ib_eq h8 (ib_c 0 0 0 rfl) c9
        have h11 : ib r5 0 0 := ib_w 0 0 h10.1 rfl
        exact jn37  H locs ls (by exact hq) hP hD hS (lv_sub hl [0, 1, 2, 3] rfl)
      · as_aux_lemma =>
          replace hq := lf_neg hq (lf_ne Er5 (lf_lc 0 (0 : Int) rfl) c9)
          have h12 : ib r5 1 1 := ib_w 1 1 (ib_ne_lo 0 h8 rfl c9) rfl
          have h13 : ib p0 1 30 := ib_w 1 30 (ib_two (ib_any p0) (k_isf_v h7 (show 1 ≤ (1 : Int64).toInt by decide) (show (30 : Int64).toInt ≤ 30 by decide) (ib_nz h12 rfl))) rfl
          refine lv_aload_n hx hb dX10_isAhead_19 rfl (lv_at hl 0 rfl) ?_
          refine k_get C0 fg_X10_139 hP 0 rfl rfl dX10_isAhead_20 ?_
          refine lv_iconst (v := 0) hx hb dX10_isAhead_23 rfl ?_
          refine va_iald hx hb C0.2.2.2.2.2.1 hP 1 0 rfl rfl (k_in 0 9 rfl) dX10_isAhead_24 ?_
          refine lv_topi (fun z14 ez14 => ?_)
          have Ez14 := lf_ld ez14 (lf_ra g_now) (lf_lc 0 (0 : Int) rfl)
          refine lv_iload_n hx hb dX10_isAhead_25 rfl (lv_at hl 1 rfl) ?_
          refine lv_iadd hx hb dX10_isAhead_26 ?_
          refine lv_topi (fun z15 ez15 => ?_)
          have Ez15 := lf_op lf_iadd ez15 Ez14 (lf_rf p0)
          refine lv_sipush (v := 999) hx hb dX10_isAhead_27 rfl ?_
          refine lv_icmp_gt (tgt := 37) hx hb dX10_isAhead_30 rfl (fun c16 => ?_) (fun c16 => ?_)
          · replace hq := lf_pos hq (lf_lt (lf_lc 999 (999 : Int) rfl) Ez15 c16)
            have h17 := ib_lt (ib_c 999 999 999 rfl) (ib_any z15) c16
            have h18 : ib z15 1000 2147483647 := ib_w 1000 2147483647 h17.2 rfl
            exact jn37  H locs ls (by exact hq) hP hD hS (lv_sub hl [0, 1, 2, 3] rfl)
          · replace hq := lf_neg hq (lf_nlt (lf_lc 999 (999 : Int) rfl) Ez15 c16)
            have h19 := ib_nlt (ib_c 999 999 999 rfl) (ib_any z15) c16
            have h20 : ib z15 (-2147483648) 999 := ib_w (-2147483648) 999 h19.2 rfl
            refine lv_iconst (v := 1) hx hb dX10_isAhead_33 rfl ?_
            refine lv_goto (tgt := 38) hx hb dX10_isAhead_34 rfl ?_
            subst hQ; exact k_iret hx hb hr hlk (k_nb 1 rfl) () hS ⟨ib_w 0 1 (ib_c 1 1 1 rfl) rfl, fun _ => ib_w 1 1 h4 rfl, fun _ => ib_w 1 30 h13 rfl, (hO.symm.trans (by try simp only [show (1 : Int32).toInt = (1 : Int) from rfl]; exact hq))⟩ hP hD (Nat.le_of_ble_eq_true rfl) (Nat.le_of_ble_eq_true rfl) dX10_isAhead_38
set_option maxHeartbeats 4000000 in
set_option maxRecDepth 100000 in
theorem s_X10_keeps (l : Launch) (dC : Nat → ClassId) (dI : Nat → Nat → Nat) (cy : Nat → ClassId) (sq : Nat → Nat) (a_this : Nat) (rm : Nat → Nat) (x_taped : Int32) (x_at : Int32) (x_end : Int32) (x_ended : Int32) (x_bad : Int32) (x_badPlace : Int32) (x_fault : Int32) (x_faultPlace : Int32) (x_namePlace : Int32) (x_awayTold : Int32) (x_away : Int32) (x_coded : Int32) (x_statements : Int32) (x_isCrossing : Int32) (x_textKind : Int32) (x_askSecond : Int32) (x_redMany : Int32) (x_isOpen : Int32) (x_lastGreen : Int32) (x_greenTo : Int32) (x_isCycleGreen : Int32) (x_stillGreen : Int32) (x_rowMany : Int32) (x_fitMany : Int32) (x_fitRules : Int32) (x_fitGreen : Int32) (x_undoable : Int32) (x_newest : Int32) (x_seeded : Int64) (x_qCoded : Int32) (x_qWaits : Int32) (x_qOpened : Int32) (x_qBase : Int32) (x_qPiled : Int32) (x_qAnswer : Int64) (x_qIsNew : Int32) (x_octets : Int32) (g_now : Nat → Int32) (g_kept0 : Nat → Int32) (hx_undoable : ib x_undoable 0 20) (hx_newest : ib x_newest 0 19) : k_Met l yX10_keeps cX10_keeps 2 none { frames := 0, cells := 0, slots := 0, locals := 0 } dC dI cy sq [.ref a_this] [(a_this, .inr (10, mfs rm x_taped x_at x_end x_ended x_bad x_badPlace x_fault x_faultPlace x_namePlace x_awayTold x_away x_coded x_statements x_isCrossing x_textKind x_askSecond x_redMany x_isOpen x_lastGreen x_greenTo x_isCycleGreen x_stillGreen x_rowMany x_fitMany x_fitRules x_fitGreen x_undoable x_newest x_seeded x_qCoded x_qWaits x_qOpened x_qBase x_qPiled x_qAnswer x_qIsNew x_octets)), (wi_rm56_0_9_0 rm cy g_now), (wi_rm81_0_180_0 rm cy g_kept0)] (k_Qv dC dI (fun (u : Int32 × Int32 × (Nat → Int32)) => match u with | (n0, n1, n2) => ib n0 1 20 ∧ ib n1 0 19 ∧ (F_X10_keeps (Int32.toInt x_undoable) (Int32.toInt x_newest) (lf_A g_now) (lf_A g_kept0) = ((Int32.toInt n0), (Int32.toInt n1), (lf_A n2)))) (fun u : Int32 × Int32 × (Nat → Int32) => match u with | (n0, n1, n2) => [(a_this, .inr (10, mfs rm x_taped x_at x_end x_ended x_bad x_badPlace x_fault x_faultPlace x_namePlace x_awayTold x_away x_coded x_statements x_isCrossing x_textKind x_askSecond x_redMany x_isOpen x_lastGreen x_greenTo x_isCycleGreen x_stillGreen x_rowMany x_fitMany x_fitRules x_fitGreen n0 n1 x_seeded x_qCoded x_qWaits x_qOpened x_qBase x_qPiled x_qAnswer x_qIsNew x_octets)), (wi_rm56_0_9_0 rm cy g_now), (wi_rm81_0_180_0 rm cy n2)])) := by
  refine k_ofW2 (by decide +kernel) (Nat.le_of_ble_eq_true rfl) ?_
  intro p e s m below meth c A ls H locs args Q hQ C0 hZ hr hlk hin hP hD hA hS hl
  have C0 : k_cx p s m args c cX10_keeps 2 RX10 dC dI cy sq := C0
  have hx := C0.1
  have hb := C0.2.1
  have hl : lv_has ls 2 [(0, .ref a_this)] := hl
  obtain ⟨O, hO⟩ : ∃ o, o = F_X10_keeps (Int32.toInt x_undoable) (Int32.toInt x_newest) (lf_A g_now) (lf_A g_kept0) := ⟨_, rfl⟩
  have hq := hO
  unfold F_X10_keeps at hq
  have jn15 : ∀ (n : Nat) (J15_c0_83 : Int32) (J15_l1 : Int32) (J15_a2 : Nat → Int32) (H : Heap) (locs : List Loc) (ls : Array Slot), ib J15_c0_83 0 19 → ib J15_l1 0 9 → (O = F_X10_keeps_15 (Int32.toInt x_undoable) (lf_A g_now) n (Int32.toInt J15_c0_83) (Int32.toInt J15_l1) (lf_A J15_a2)) → 10 ≤ J15_l1.toInt + (n : Int) → va_P (dC, dI) vwCl [(a_this, .inr (10, mfs rm x_taped x_at x_end x_ended x_bad x_badPlace x_fault x_faultPlace x_namePlace x_awayTold x_away x_coded x_statements x_isCrossing x_textKind x_askSecond x_redMany x_isOpen x_lastGreen x_greenTo x_isCycleGreen x_stillGreen x_rowMany x_fitMany x_fitRules x_fitGreen x_undoable J15_c0_83 x_seeded x_qCoded x_qWaits x_qOpened x_qBase x_qPiled x_qAnswer x_qIsNew x_octets)), (wi_rm56_0_9_0 rm cy g_now), (wi_rm81_0_180_0 rm cy J15_a2)] H → va_D A [(a_this, .inr (10, mfs rm x_taped x_at x_end x_ended x_bad x_badPlace x_fault x_faultPlace x_namePlace x_awayTold x_away x_coded x_statements x_isCrossing x_textKind x_askSecond x_redMany x_isOpen x_lastGreen x_greenTo x_isCycleGreen x_stillGreen x_rowMany x_fitMany x_fitRules x_fitGreen x_undoable J15_c0_83 x_seeded x_qCoded x_qWaits x_qOpened x_qBase x_qPiled x_qAnswer x_qIsNew x_octets)), (wi_rm56_0_9_0 rm cy g_now), (wi_rm81_0_180_0 rm cy J15_a2)] → va_S A s.heap H locs → lv_has ls 2 [(0, .ref a_this), (1, .int J15_l1)] → W p l e { frames := 0, cells := 0, slots := 0, locals := 0 } s m args below meth c H locs 0 0 Q (F0 m 15 ls []) := by
    as_aux_lemma =>
      intro n
      induction n with
      | zero =>
        intro J15_c0_83 J15_l1 J15_a2 H locs ls hJ15_c0_83 hJ15_l1 hq hm
        exact absurd hm (by have := hJ15_l1; unfold ib at this; omega)
      | succ n ih =>
        intro J15_c0_83 J15_l1 J15_a2 H locs ls hJ15_c0_83 hJ15_l1 hq hm15 hP hD hS hl
        have ih15 := ih
        obtain ⟨K15, hK15⟩ : ∃ K, K = F_X10_keeps_15 (Int32.toInt x_undoable) (lf_A g_now) n := ⟨_, rfl⟩
        have hq : O = F_X10_keeps_15b (Int32.toInt x_undoable) (lf_A g_now) K15 (Int32.toInt J15_c0_83) (Int32.toInt J15_l1) (lf_A J15_a2) := by rw [hK15]; exact hq
        unfold F_X10_keeps_15b at hq
        refine lv_iload_n hx hb dX10_keeps_15 rfl (lv_at hl 1 rfl) ?_
        refine lv_bipush (v := 9) hx hb dX10_keeps_16 rfl ?_
        refine lv_icmp_ge (tgt := 47) hx hb dX10_keeps_18 rfl (fun c1 => ?_) (fun c1 => ?_)
        · as_aux_lemma =>
            replace hq := lf_pos hq (lf_le (lf_lc 9 (9 : Int) rfl) (lf_rf J15_l1) c1)
            have h2 := ib_le (ib_c 9 9 9 rfl) hJ15_l1 c1
            have h3 : ib J15_l1 9 9 := ib_w 9 9 h2.2 rfl
            refine lv_aload_n hx hb dX10_keeps_47 rfl (lv_at hl 0 rfl) ?_
            refine k_get C0 fg_X10_424 hP 0 rfl rfl dX10_keeps_48 ?_
            refine lv_bipush (v := 20) hx hb dX10_keeps_51 rfl ?_
            refine lv_icmp_ge (tgt := 66) hx hb dX10_keeps_53 rfl (fun c4 => ?_) (fun c4 => ?_)
            · replace hq := lf_pos hq (lf_le (lf_lc 20 (20 : Int) rfl) (lf_rf x_undoable) c4)
              have h5 := ib_le (ib_c 20 20 20 rfl) hx_undoable c4
              have h6 : ib x_undoable 20 20 := ib_w 20 20 h5.2 rfl
              subst hQ; exact k_vret hx hb hr hlk ((x_undoable, J15_c0_83, J15_a2)) hS ⟨ib_w 1 20 h6 rfl, ib_w 0 19 hJ15_c0_83 rfl, (hO.symm.trans (by exact hq))⟩ hP hD (Nat.le_of_ble_eq_true rfl) (Nat.le_of_ble_eq_true rfl) dX10_keeps_66
            · replace hq := lf_neg hq (lf_nle (lf_lc 20 (20 : Int) rfl) (lf_rf x_undoable) c4)
              have h7 := ib_nle (ib_c 20 20 20 rfl) hx_undoable c4
              have h8 : ib x_undoable 0 19 := ib_w 0 19 h7.2 rfl
              refine lv_aload_n hx hb dX10_keeps_56 rfl (lv_at hl 0 rfl) ?_
              refine lv_dup hx hb dX10_keeps_57 rfl ?_
              refine k_get C0 fg_X10_424 hP 0 rfl rfl dX10_keeps_58 ?_
              refine lv_iconst (v := 1) hx hb dX10_keeps_61 rfl ?_
              refine lv_iadd hx hb dX10_keeps_62 ?_
              refine lv_topi (fun z9 ez9 => ?_)
              have h10 := ib_add h8 (ib_c 1 1 1 rfl) rfl
              rw [← ez9] at h10
              have h11 : ib z9 1 20 := ib_w 1 20 h10.1 rfl
              have Ez9 := lf_add h10.2 (lf_rf x_undoable) (lf_lc 1 (1 : Int) rfl)
              refine k_put C0 fp_X10_424 hP hD hS 0 rfl rfl rfl (Nat.le_of_ble_eq_true rfl) dX10_keeps_63 (fun H locs hP hD hS => ?_)
              replace hP : va_P (dC, dI) vwCl [(a_this, .inr (10, mfs rm x_taped x_at x_end x_ended x_bad x_badPlace x_fault x_faultPlace x_namePlace x_awayTold x_away x_coded x_statements x_isCrossing x_textKind x_askSecond x_redMany x_isOpen x_lastGreen x_greenTo x_isCycleGreen x_stillGreen x_rowMany x_fitMany x_fitRules x_fitGreen z9 J15_c0_83 x_seeded x_qCoded x_qWaits x_qOpened x_qBase x_qPiled x_qAnswer x_qIsNew x_octets)), (wi_rm56_0_9_0 rm cy g_now), (wi_rm81_0_180_0 rm cy J15_a2)] H := hP
              replace hD := k_D hP hD
              subst hQ; exact k_vret hx hb hr hlk ((z9, J15_c0_83, J15_a2)) hS ⟨ib_w 1 20 h11 rfl, ib_w 0 19 hJ15_c0_83 rfl, (hO.symm.trans (by rw [lf_u Ez9]; exact hq))⟩ hP hD (Nat.le_of_ble_eq_true rfl) (Nat.le_of_ble_eq_true rfl) dX10_keeps_66
        · as_aux_lemma =>
            replace hq := lf_neg hq (lf_nle (lf_lc 9 (9 : Int) rfl) (lf_rf J15_l1) c1)
            have h12 := ib_nle (ib_c 9 9 9 rfl) hJ15_l1 c1
            have h13 : ib J15_l1 0 8 := ib_w 0 8 h12.2 rfl
            refine lv_aload_n hx hb dX10_keeps_21 rfl (lv_at hl 0 rfl) ?_
            refine k_get C0 fg_X10_182 hP 0 rfl rfl dX10_keeps_22 ?_
            refine lv_bipush (v := 9) hx hb dX10_keeps_25 rfl ?_
            refine lv_aload_n hx hb dX10_keeps_27 rfl (lv_at hl 0 rfl) ?_
            refine k_get C0 fg_X10_588 hP 0 rfl rfl dX10_keeps_28 ?_
            refine lv_imul hx hb dX10_keeps_31 ?_
            refine lv_topi (fun z14 ez14 => ?_)
            have h15 := ib_mul (ib_c 9 9 9 rfl) hJ15_c0_83 rfl
            rw [← ez14] at h15
            have h16 : ib z14 0 171 := ib_w 0 171 h15.1 rfl
            have h17 : z14.toInt = 9 * J15_c0_83.toInt := by have q0 := h15.2; rw [show (9 : Int32).toInt = 9 from by decide] at q0; omega
            have Ez14 := lf_mul h15.2 (lf_lc 9 (9 : Int) rfl) (lf_rf J15_c0_83)
            refine lv_iload_n hx hb dX10_keeps_32 rfl (lv_at hl 1 rfl) ?_
            refine lv_iadd hx hb dX10_keeps_33 ?_
            refine lv_topi (fun z18 ez18 => ?_)
            have h19 := ib_add h16 h13 rfl
            rw [← ez18] at h19
            have h20 : ib z18 0 179 := ib_w 0 179 h19.1 rfl
            have Ez18 := lf_add h19.2 Ez14 (lf_rf J15_l1)
            refine lv_aload_n hx hb dX10_keeps_34 rfl (lv_at hl 0 rfl) ?_
            refine k_get C0 fg_X10_139 hP 0 rfl rfl dX10_keeps_35 ?_
            refine lv_iload_n hx hb dX10_keeps_38 rfl (lv_at hl 1 rfl) ?_
            refine va_iald hx hb C0.2.2.2.2.2.1 hP 1 0 rfl rfl (ib_in 9 h13 rfl) dX10_keeps_39 ?_
            refine lv_topi (fun z21 ez21 => ?_)
            have Ez21 := lf_ld ez21 (lf_ra g_now) (lf_rf J15_l1)
            refine va_iast hx hb C0.2.2.2.2.2.1 hP hD hS 2 0 rfl rfl (ib_in 180 h20 rfl) dX10_keeps_40 (fun H locs hP hD hS => ?_)
            replace hP : va_P (dC, dI) vwCl [(a_this, .inr (10, mfs rm x_taped x_at x_end x_ended x_bad x_badPlace x_fault x_faultPlace x_namePlace x_awayTold x_away x_coded x_statements x_isCrossing x_textKind x_askSecond x_redMany x_isOpen x_lastGreen x_greenTo x_isCycleGreen x_stillGreen x_rowMany x_fitMany x_fitRules x_fitGreen x_undoable J15_c0_83 x_seeded x_qCoded x_qWaits x_qOpened x_qBase x_qPiled x_qAnswer x_qIsNew x_octets)), (wi_rm56_0_9_0 rm cy g_now), (wi_rm81_0_180_0 rm cy (upd J15_a2 (Int32.toNatClampNeg z18) z21))] H := hP
            replace hD := k_D hP hD
            generalize ef22 : upd J15_a2 (Int32.toNatClampNeg z18) z21 = f22 at hP hD
            have Ef22 := lf_st ef22 (lf_ra J15_a2) Ez18 Ez21
            obtain ⟨z23, ez23⟩ : ∃ y : Int32, y = J15_l1 + 1 := ⟨_, rfl⟩
            refine lv_iinc (v := z23) (lv' := [(1, .int z23), (0, .ref a_this)]) hx hb dX10_keeps_41 hl (k := 1) rfl (by rw [ez23]; rfl) (Nat.le_of_ble_eq_true rfl) rfl (fun ls hl => ?_)
            have h24 := ib_add h13 (ib_c 1 1 1 rfl) rfl
            rw [← ez23] at h24
            have h25 : ib z23 1 9 := ib_w 1 9 h24.1 rfl
            have Ez23 := lf_add h24.2 (lf_rf J15_l1) (lf_lc 1 (1 : Int) rfl)
            refine lv_goto (tgt := 15) hx hb dX10_keeps_44 rfl ?_
            exact ih15 J15_c0_83 z23 f22 H locs ls (ib_w 0 19 hJ15_c0_83 rfl) (ib_w 0 9 h25 rfl) (by rw [← hK15]; rw [lf_u Ez23]; rw [lf_ua Ef22]; exact hq) (by have := h24.2; have : (1 : Int32).toInt = 1 := rfl; omega) hP hD hS (lv_sub hl [1, 0] rfl)
  refine lv_aload_n hx hb dX10_keeps_0 rfl (lv_at hl 0 rfl) ?_
  refine lv_aload_n hx hb dX10_keeps_1 rfl (lv_at hl 0 rfl) ?_
  refine k_get C0 fg_X10_588 hP 0 rfl rfl dX10_keeps_2 ?_
  refine lv_iconst (v := 1) hx hb dX10_keeps_5 rfl ?_
  refine lv_iadd hx hb dX10_keeps_6 ?_
  refine lv_topi (fun z26 ez26 => ?_)
  have h27 := ib_add hx_newest (ib_c 1 1 1 rfl) rfl
  rw [← ez26] at h27
  have h28 : ib z26 1 20 := ib_w 1 20 h27.1 rfl
  have Ez26 := lf_add h27.2 (lf_rf x_newest) (lf_lc 1 (1 : Int) rfl)
  refine lv_bipush (v := 20) hx hb dX10_keeps_7 rfl ?_
  refine lv_irem hx hb dX10_keeps_9 (by decide) ?_
  refine lv_topi (fun z29 ez29 => ?_)
  have h30 : ib z29 0 19 := by rw [ez29]; exact ib_w 0 19 (ib_rem h28 (ib_c 20 20 20 rfl) rfl) rfl
  have Ez29 := lf_op lf_irem ez29 Ez26 (lf_lc 20 (20 : Int) rfl)
  refine k_put C0 fp_X10_588 hP hD hS 0 rfl rfl rfl (Nat.le_of_ble_eq_true rfl) dX10_keeps_10 (fun H locs hP hD hS => ?_)
  replace hP : va_P (dC, dI) vwCl [(a_this, .inr (10, mfs rm x_taped x_at x_end x_ended x_bad x_badPlace x_fault x_faultPlace x_namePlace x_awayTold x_away x_coded x_statements x_isCrossing x_textKind x_askSecond x_redMany x_isOpen x_lastGreen x_greenTo x_isCycleGreen x_stillGreen x_rowMany x_fitMany x_fitRules x_fitGreen x_undoable z29 x_seeded x_qCoded x_qWaits x_qOpened x_qBase x_qPiled x_qAnswer x_qIsNew x_octets)), (wi_rm56_0_9_0 rm cy g_now), (wi_rm81_0_180_0 rm cy g_kept0)] H := hP
  replace hD := k_D hP hD
  refine lv_iconst (v := 0) hx hb dX10_keeps_13 rfl ?_
  refine lv_istore_n (lv' := [(1, .int 0), (0, .ref a_this)]) hx hb dX10_keeps_14 rfl hl (Nat.le_of_ble_eq_true rfl) rfl (fun ls hl => ?_)
  exact jn15 11 z29 0 g_kept0 H locs ls (ib_w 0 19 h30 rfl) (ib_w 0 9 (ib_c 0 0 0 rfl) rfl) (by rw [lf_u Ez29]; try simp only [show (0 : Int32).toInt = (0 : Int) from rfl]; exact hq) (by have := (ib_c 0 0 0 rfl); unfold ib at this; omega) hP hD hS (lv_sub hl [1, 0] rfl)
set_option maxHeartbeats 4000000 in
set_option maxRecDepth 100000 in
theorem s_X10_refuses_a0_3 (l : Launch) (dC : Nat → ClassId) (dI : Nat → Nat → Nat) (cy : Nat → ClassId) (sq : Nat → Nat) (a_this : Nat) (rm : Nat → Nat) (x_taped : Int32) (x_at : Int32) (x_end : Int32) (x_ended : Int32) (x_bad : Int32) (x_badPlace : Int32) (x_fault : Int32) (x_faultPlace : Int32) (x_namePlace : Int32) (x_awayTold : Int32) (x_away : Int32) (x_coded : Int32) (x_statements : Int32) (x_isCrossing : Int32) (x_textKind : Int32) (x_askSecond : Int32) (x_redMany : Int32) (x_isOpen : Int32) (x_lastGreen : Int32) (x_greenTo : Int32) (x_isCycleGreen : Int32) (x_stillGreen : Int32) (x_rowMany : Int32) (x_fitMany : Int32) (x_fitRules : Int32) (x_fitGreen : Int32) (x_undoable : Int32) (x_newest : Int32) (x_seeded : Int64) (x_qCoded : Int32) (x_qWaits : Int32) (x_qOpened : Int32) (x_qBase : Int32) (x_qPiled : Int32) (x_qAnswer : Int64) (x_qIsNew : Int32) (x_octets : Int32) (g_refused : Nat → Int32)  : k_Met l yX10_refuses cX10_refuses 2 (some .int) { frames := 0, cells := 0, slots := 0, locals := 0 } dC dI cy sq [.ref a_this, .int 3] [(a_this, .inr (10, mfs rm x_taped x_at x_end x_ended x_bad x_badPlace x_fault x_faultPlace x_namePlace x_awayTold x_away x_coded x_statements x_isCrossing x_textKind x_askSecond x_redMany x_isOpen x_lastGreen x_greenTo x_isCycleGreen x_stillGreen x_rowMany x_fitMany x_fitRules x_fitGreen x_undoable x_newest x_seeded x_qCoded x_qWaits x_qOpened x_qBase x_qPiled x_qAnswer x_qIsNew x_octets)), (wi_rm9_0_6_0 rm cy g_refused)] (k_Qi dC dI (fun (r : Int32) (n0 : (Nat → Int32)) => ib r (-1) (-1) ∧ (F_X10_refuses_a0_3 (lf_A g_refused) = ((Int32.toInt r), (lf_A n0)))) (fun n0 : (Nat → Int32) => [(a_this, .inr (10, mfs rm x_taped x_at x_end x_ended x_bad x_badPlace x_fault x_faultPlace x_namePlace x_awayTold x_away x_coded x_statements x_isCrossing x_textKind x_askSecond x_redMany x_isOpen x_lastGreen x_greenTo x_isCycleGreen x_stillGreen x_rowMany x_fitMany x_fitRules x_fitGreen x_undoable x_newest x_seeded x_qCoded x_qWaits x_qOpened x_qBase x_qPiled x_qAnswer x_qIsNew x_octets)), (wi_rm9_0_6_0 rm cy n0)])) := by
  refine k_ofW2 (by decide +kernel) (Nat.le_of_ble_eq_true rfl) ?_
  intro p e s m below meth c A ls H locs args Q hQ C0 hZ hr hlk hin hP hD hA hS hl
  have C0 : k_cx p s m args c cX10_refuses 2 RX10 dC dI cy sq := C0
  have hx := C0.1
  have hb := C0.2.1
  have hl : lv_has ls 2 [(0, .ref a_this), (1, .int 3)] := hl
  obtain ⟨O, hO⟩ : ∃ o, o = F_X10_refuses_a0_3 (lf_A g_refused) := ⟨_, rfl⟩
  have hq := hO
  unfold F_X10_refuses_a0_3 at hq
  refine lv_aload_n hx hb dX10_refuses_0 rfl (lv_at hl 0 rfl) ?_
  refine k_get C0 fg_X10_17 hP 0 rfl rfl dX10_refuses_1 ?_
  refine lv_iload_n hx hb dX10_refuses_4 rfl (lv_at hl 1 rfl) ?_
  refine lv_dup2_11 hx hb dX10_refuses_5 rfl rfl ?_
  refine va_iald hx hb C0.2.2.2.2.2.1 hP 1 0 rfl rfl (k_in 3 6 rfl) dX10_refuses_6 ?_
  refine lv_topi (fun z1 ez1 => ?_)
  have Ez1 := lf_ld ez1 (lf_ra g_refused) (lf_lc 3 (3 : Int) rfl)
  refine lv_iconst (v := 1) hx hb dX10_refuses_7 rfl ?_
  refine lv_iadd hx hb dX10_refuses_8 ?_
  refine lv_topi (fun z2 ez2 => ?_)
  have Ez2 := lf_op lf_iadd ez2 Ez1 (lf_lc 1 (1 : Int) rfl)
  refine va_iast hx hb C0.2.2.2.2.2.1 hP hD hS 1 0 rfl rfl (k_in 3 6 rfl) dX10_refuses_9 (fun H locs hP hD hS => ?_)
  replace hP : va_P (dC, dI) vwCl [(a_this, .inr (10, mfs rm x_taped x_at x_end x_ended x_bad x_badPlace x_fault x_faultPlace x_namePlace x_awayTold x_away x_coded x_statements x_isCrossing x_textKind x_askSecond x_redMany x_isOpen x_lastGreen x_greenTo x_isCycleGreen x_stillGreen x_rowMany x_fitMany x_fitRules x_fitGreen x_undoable x_newest x_seeded x_qCoded x_qWaits x_qOpened x_qBase x_qPiled x_qAnswer x_qIsNew x_octets)), (wi_rm9_0_6_0 rm cy (upd g_refused 3 z2))] H := hP
  replace hD := k_D hP hD
  generalize ef3 : upd g_refused 3 z2 = f3 at hP hD
  have Ef3 := lf_stn (X := (3 : Int)) ef3 (lf_ra g_refused) rfl Ez2
  refine lv_iconst (v := (-1)) hx hb dX10_refuses_10 rfl ?_
  subst hQ; exact k_iret hx hb hr hlk rfl f3 hS ⟨ib_w (-1) (-1) (ib_c (-1) (-1) (-1) rfl) rfl, (hO.symm.trans (by try simp only [show ((-1) : Int32).toInt = (-1 : Int) from rfl]; rw [lf_ua Ef3]; exact hq))⟩ hP hD (Nat.le_of_ble_eq_true rfl) (Nat.le_of_ble_eq_true rfl) dX10_refuses_11
set_option maxHeartbeats 4000000 in
set_option maxRecDepth 100000 in
theorem s_X10_codesTell_a0_2 (l : Launch) (dC : Nat → ClassId) (dI : Nat → Nat → Nat) (cy : Nat → ClassId) (sq : Nat → Nat) (a_this : Nat) (rm : Nat → Nat) (x_taped : Int32) (x_at : Int32) (x_end : Int32) (x_ended : Int32) (x_bad : Int32) (x_badPlace : Int32) (x_fault : Int32) (x_faultPlace : Int32) (x_namePlace : Int32) (x_awayTold : Int32) (x_away : Int32) (x_coded : Int32) (x_statements : Int32) (x_isCrossing : Int32) (x_textKind : Int32) (x_askSecond : Int32) (x_redMany : Int32) (x_isOpen : Int32) (x_lastGreen : Int32) (x_greenTo : Int32) (x_isCycleGreen : Int32) (x_stillGreen : Int32) (x_rowMany : Int32) (x_fitMany : Int32) (x_fitRules : Int32) (x_fitGreen : Int32) (x_undoable : Int32) (x_newest : Int32) (x_seeded : Int64) (x_qCoded : Int32) (x_qWaits : Int32) (x_qOpened : Int32) (x_qBase : Int32) (x_qPiled : Int32) (x_qAnswer : Int64) (x_qIsNew : Int32) (x_octets : Int32) (g_bar : Nat → Int32) (g_kinds : Nat → Int32) (g_walkers : Nat → Int32) (g_codeFrom : Nat → Int32) (g_codeEnd : Nat → Int32) (g_codes : Nat → Int32) (g_now : Nat → Int32) (g_gaps : Nat → Int32) (g_waits : Nat → Int32) (g_goes : Nat → Int32) (g_harms : Nat → Int32) (g_qPile : Nat → Int64) (p1 : Int32) (hg_bar_4 : ib (g_bar 4) 10 120) (hpg_walkers : ip g_walkers 48 2 0 0 5) (hg_codeFrom_5 : ib (g_codeFrom 5) 0 1600) (hg_codeEnd_5 : ib (g_codeEnd 5) 0 1600) (hg_gaps : ia g_gaps 300 0 20) (hG2 : ¬ g_codeFrom 5 = (-1) → okc g_codes 1600 false (g_codeFrom 5) (g_codeEnd 5)) (hp1 : ib p1 0 11) : k_Met l yX10_codesTell cX10_codesTell 5 (some .long) { frames := 3, cells := 0, slots := 0, locals := 64 } dC dI cy sq [.ref a_this, .int 2, .int p1] [(a_this, .inr (10, mfs rm x_taped x_at x_end x_ended x_bad x_badPlace x_fault x_faultPlace x_namePlace x_awayTold x_away x_coded x_statements x_isCrossing x_textKind x_askSecond x_redMany x_isOpen x_lastGreen x_greenTo x_isCycleGreen x_stillGreen x_rowMany x_fitMany x_fitRules x_fitGreen x_undoable x_newest x_seeded x_qCoded x_qWaits x_qOpened x_qBase x_qPiled x_qAnswer x_qIsNew x_octets)), (wi_rm49_0_6_0 rm cy g_codeFrom), (wi_rm50_0_6_0 rm cy g_codeEnd), (wi_rm116_1_1700_1 rm cy g_qPile), (wi_rm51_0_3200_0 rm cy g_codes), (wi_rm46_0_48_0 rm cy g_walkers), (wi_rm56_0_9_0 rm cy g_now), (wi_rm43_0_8_0 rm cy g_bar), (wi_rm65_0_12_0 rm cy g_waits), (wi_rm44_0_24_0 rm cy g_kinds), (wi_rm61_0_300_0 rm cy g_gaps), (wi_rm66_3_12_0 rm cy g_goes), (wi_rm67_3_12_0 rm cy g_harms)] (k_Ql dC dI (fun (r : Int64) (u : Int32 × (Nat → Int64)) => match u with | (n0, n1) => ib n0 0 1600 ∧ (F_X10_codesTell_a0_2 (Int32.toInt x_askSecond) (Int32.toInt x_redMany) (lf_A g_bar) (lf_A g_kinds) (lf_A g_walkers) (lf_A g_codeFrom) (lf_A g_codeEnd) (lf_A g_codes) (lf_A g_now) (lf_A g_gaps) (lf_A g_waits) (lf_A g_goes) (lf_A g_harms) (lf_L g_qPile) (Int32.toInt p1) = ((Int64.toInt r), (Int32.toInt n0), (lf_L n1)))) (fun u : Int32 × (Nat → Int64) => match u with | (n0, n1) => [(a_this, .inr (10, mfs rm x_taped x_at x_end x_ended x_bad x_badPlace x_fault x_faultPlace x_namePlace x_awayTold x_away x_coded x_statements x_isCrossing 2 x_askSecond x_redMany x_isOpen x_lastGreen x_greenTo x_isCycleGreen x_stillGreen x_rowMany x_fitMany x_fitRules x_fitGreen x_undoable x_newest x_seeded x_qCoded x_qWaits x_qOpened x_qBase n0 x_qAnswer x_qIsNew x_octets)), (wi_rm49_0_6_0 rm cy g_codeFrom), (wi_rm50_0_6_0 rm cy g_codeEnd), (wi_rm116_1_1700_1 rm cy n1), (wi_rm51_0_3200_0 rm cy g_codes), (wi_rm46_0_48_0 rm cy g_walkers), (wi_rm56_0_9_0 rm cy g_now), (wi_rm43_0_8_0 rm cy g_bar), (wi_rm65_0_12_0 rm cy g_waits), (wi_rm44_0_24_0 rm cy g_kinds), (wi_rm61_0_300_0 rm cy g_gaps), (wi_rm66_3_12_0 rm cy g_goes), (wi_rm67_3_12_0 rm cy g_harms)])) := by
  refine k_ofW2 (by decide +kernel) (Nat.le_of_ble_eq_true rfl) ?_
  intro p e s m below meth c A ls H locs args Q hQ C0 hZ hr hlk hin hP hD hA hS hl
  have C0 : k_cx p s m args c cX10_codesTell 5 RX10 dC dI cy sq := C0
  have hx := C0.1
  have hb := C0.2.1
  have hl : lv_has ls 5 [(0, .ref a_this), (1, .int 2), (2, .int p1)] := hl
  obtain ⟨O, hO⟩ : ∃ o, o = F_X10_codesTell_a0_2 (Int32.toInt x_askSecond) (Int32.toInt x_redMany) (lf_A g_bar) (lf_A g_kinds) (lf_A g_walkers) (lf_A g_codeFrom) (lf_A g_codeEnd) (lf_A g_codes) (lf_A g_now) (lf_A g_gaps) (lf_A g_waits) (lf_A g_goes) (lf_A g_harms) (lf_L g_qPile) (Int32.toInt p1) := ⟨_, rfl⟩
  have hq := hO
  unfold F_X10_codesTell_a0_2 at hq
  have jn19 : ∀ (n : Nat) (J19_l3 : Int32) (J19_c0_117 : Int32) (J19_a3 : Nat → Int64) (H : Heap) (locs : List Loc) (ls : Array Slot), ib J19_l3 0 1600 → ib J19_c0_117 0 1600 → (1 * J19_c0_117.toInt + (-1) * J19_l3.toInt ≤ 0) → (O = F_X10_codesTell_a0_2_19 (Int32.toInt x_askSecond) (Int32.toInt x_redMany) (lf_A g_bar) (lf_A g_kinds) (lf_A g_walkers) (lf_A g_codeEnd) (lf_A g_codes) (lf_A g_now) (lf_A g_gaps) (lf_A g_waits) (lf_A g_goes) (lf_A g_harms) (Int32.toInt p1) n (Int32.toInt J19_l3) (Int32.toInt J19_c0_117) (lf_L J19_a3)) → (cdl g_codes 1600 (g_codeFrom 5) J19_l3 J19_c0_117) → 1601 ≤ J19_l3.toInt + (n : Int) → va_P (dC, dI) vwCl [(a_this, .inr (10, mfs rm x_taped x_at x_end x_ended x_bad x_badPlace x_fault x_faultPlace x_namePlace x_awayTold x_away x_coded x_statements x_isCrossing 2 x_askSecond x_redMany x_isOpen x_lastGreen x_greenTo x_isCycleGreen x_stillGreen x_rowMany x_fitMany x_fitRules x_fitGreen x_undoable x_newest x_seeded x_qCoded x_qWaits x_qOpened x_qBase J19_c0_117 x_qAnswer x_qIsNew x_octets)), (wi_rm49_0_6_0 rm cy g_codeFrom), (wi_rm50_0_6_0 rm cy g_codeEnd), (wi_rm116_1_1700_1 rm cy J19_a3), (wi_rm51_0_3200_0 rm cy g_codes), (wi_rm46_0_48_0 rm cy g_walkers), (wi_rm56_0_9_0 rm cy g_now), (wi_rm43_0_8_0 rm cy g_bar), (wi_rm65_0_12_0 rm cy g_waits), (wi_rm44_0_24_0 rm cy g_kinds), (wi_rm61_0_300_0 rm cy g_gaps), (wi_rm66_3_12_0 rm cy g_goes), (wi_rm67_3_12_0 rm cy g_harms)] H → va_D A [(a_this, .inr (10, mfs rm x_taped x_at x_end x_ended x_bad x_badPlace x_fault x_faultPlace x_namePlace x_awayTold x_away x_coded x_statements x_isCrossing 2 x_askSecond x_redMany x_isOpen x_lastGreen x_greenTo x_isCycleGreen x_stillGreen x_rowMany x_fitMany x_fitRules x_fitGreen x_undoable x_newest x_seeded x_qCoded x_qWaits x_qOpened x_qBase J19_c0_117 x_qAnswer x_qIsNew x_octets)), (wi_rm49_0_6_0 rm cy g_codeFrom), (wi_rm50_0_6_0 rm cy g_codeEnd), (wi_rm116_1_1700_1 rm cy J19_a3), (wi_rm51_0_3200_0 rm cy g_codes), (wi_rm46_0_48_0 rm cy g_walkers), (wi_rm56_0_9_0 rm cy g_now), (wi_rm43_0_8_0 rm cy g_bar), (wi_rm65_0_12_0 rm cy g_waits), (wi_rm44_0_24_0 rm cy g_kinds), (wi_rm61_0_300_0 rm cy g_gaps), (wi_rm66_3_12_0 rm cy g_goes), (wi_rm67_3_12_0 rm cy g_harms)] → va_S A s.heap H locs → lv_has ls 5 [(0, .ref a_this), (1, .int 2), (2, .int p1), (3, .int J19_l3)] → W p l e { frames := 3, cells := 0, slots := 0, locals := 64 } s m args below meth c H locs 0 0 Q (F0 m 19 ls []) := by
    as_aux_lemma =>
      intro n
      induction n with
      | zero =>
        intro J19_l3 J19_c0_117 J19_a3 H locs ls hJ19_l3 hJ19_c0_117 hJ19_lin0 hq hJ19_gh hm
        exact absurd hm (by have := hJ19_l3; unfold ib at this; omega)
      | succ n ih =>
        intro J19_l3 J19_c0_117 J19_a3 H locs ls hJ19_l3 hJ19_c0_117 hJ19_lin0 hq hJ19_gh hm19 hP hD hS hl
        have ih19 := ih
        obtain ⟨K19, hK19⟩ : ∃ K, K = F_X10_codesTell_a0_2_19 (Int32.toInt x_askSecond) (Int32.toInt x_redMany) (lf_A g_bar) (lf_A g_kinds) (lf_A g_walkers) (lf_A g_codeEnd) (lf_A g_codes) (lf_A g_now) (lf_A g_gaps) (lf_A g_waits) (lf_A g_goes) (lf_A g_harms) (Int32.toInt p1) n := ⟨_, rfl⟩
        have hq : O = F_X10_codesTell_a0_2_19b (Int32.toInt x_askSecond) (Int32.toInt x_redMany) (lf_A g_bar) (lf_A g_kinds) (lf_A g_walkers) (lf_A g_codeEnd) (lf_A g_codes) (lf_A g_now) (lf_A g_gaps) (lf_A g_waits) (lf_A g_goes) (lf_A g_harms) (Int32.toInt p1) K19 (Int32.toInt J19_l3) (Int32.toInt J19_c0_117) (lf_L J19_a3) := by rw [hK19]; exact hq
        unfold F_X10_codesTell_a0_2_19b at hq
        have jn144 : ∀ (J144_l4 : Int32) (J144_c0_117 : Int32) (J144_a3 : Nat → Int64) (H : Heap) (locs : List Loc) (ls : Array Slot), ib J19_l3 0 1599 → ib J144_c0_117 1 1600 → ib (g_codeEnd 5) 1 1600 → (1 * J144_c0_117.toInt + (-1) * J19_l3.toInt ≤ 1) → (O = F_X10_codesTell_a0_2_144 (Int32.toInt J19_l3) K19 (Int32.toInt J144_l4) (Int32.toInt J144_c0_117) (lf_L J144_a3)) → (cdm g_codes 1600 (g_codeFrom 5) J19_l3 J144_c0_117) → va_P (dC, dI) vwCl [(a_this, .inr (10, mfs rm x_taped x_at x_end x_ended x_bad x_badPlace x_fault x_faultPlace x_namePlace x_awayTold x_away x_coded x_statements x_isCrossing 2 x_askSecond x_redMany x_isOpen x_lastGreen x_greenTo x_isCycleGreen x_stillGreen x_rowMany x_fitMany x_fitRules x_fitGreen x_undoable x_newest x_seeded x_qCoded x_qWaits x_qOpened x_qBase J144_c0_117 x_qAnswer x_qIsNew x_octets)), (wi_rm49_0_6_0 rm cy g_codeFrom), (wi_rm50_0_6_0 rm cy g_codeEnd), (wi_rm116_1_1700_1 rm cy J144_a3), (wi_rm51_0_3200_0 rm cy g_codes), (wi_rm46_0_48_0 rm cy g_walkers), (wi_rm56_0_9_0 rm cy g_now), (wi_rm43_0_8_0 rm cy g_bar), (wi_rm65_0_12_0 rm cy g_waits), (wi_rm44_0_24_0 rm cy g_kinds), (wi_rm61_0_300_0 rm cy g_gaps), (wi_rm66_3_12_0 rm cy g_goes), (wi_rm67_3_12_0 rm cy g_harms)] H → va_D A [(a_this, .inr (10, mfs rm x_taped x_at x_end x_ended x_bad x_badPlace x_fault x_faultPlace x_namePlace x_awayTold x_away x_coded x_statements x_isCrossing 2 x_askSecond x_redMany x_isOpen x_lastGreen x_greenTo x_isCycleGreen x_stillGreen x_rowMany x_fitMany x_fitRules x_fitGreen x_undoable x_newest x_seeded x_qCoded x_qWaits x_qOpened x_qBase J144_c0_117 x_qAnswer x_qIsNew x_octets)), (wi_rm49_0_6_0 rm cy g_codeFrom), (wi_rm50_0_6_0 rm cy g_codeEnd), (wi_rm116_1_1700_1 rm cy J144_a3), (wi_rm51_0_3200_0 rm cy g_codes), (wi_rm46_0_48_0 rm cy g_walkers), (wi_rm56_0_9_0 rm cy g_now), (wi_rm43_0_8_0 rm cy g_bar), (wi_rm65_0_12_0 rm cy g_waits), (wi_rm44_0_24_0 rm cy g_kinds), (wi_rm61_0_300_0 rm cy g_gaps), (wi_rm66_3_12_0 rm cy g_goes), (wi_rm67_3_12_0 rm cy g_harms)] → va_S A s.heap H locs → lv_has ls 5 [(0, .ref a_this), (1, .int 2), (2, .int p1), (3, .int J19_l3), (4, .int J144_l4)] → W p l e { frames := 3, cells := 0, slots := 0, locals := 64 } s m args below meth c H locs 0 0 Q (F0 m 144 ls []) := by
          intro J144_l4 J144_c0_117 J144_a3 H locs ls hK144_J19_l3 hJ144_c0_117 hJ144_a2_5 hJ144_lin0 hq hJ144_gh hP hD hS hl
          unfold F_X10_codesTell_a0_2_144 at hq
          obtain ⟨z1, ez1⟩ : ∃ y : Int32, y = J19_l3 + 1 := ⟨_, rfl⟩
          refine lv_iinc (v := z1) (lv' := [(3, .int z1), (0, .ref a_this), (1, .int 2), (2, .int p1), (4, .int J144_l4)]) hx hb dX10_codesTell_144 hl (k := 3) rfl (by rw [ez1]; rfl) (Nat.le_of_ble_eq_true rfl) rfl (fun ls hl => ?_)
          have h2 := ib_add hK144_J19_l3 (ib_c 1 1 1 rfl) rfl
          rw [← ez1] at h2
          have h3 : ib z1 1 1600 := ib_w 1 1600 h2.1 rfl
          have Ez1 := lf_add h2.2 (lf_rf J19_l3) (lf_lc 1 (1 : Int) rfl)
          refine lv_goto (tgt := 19) hx hb dX10_codesTell_147 rfl ?_
          exact ih19 z1 J144_c0_117 J144_a3 H locs ls (ib_w 0 1600 h3 rfl) (ib_w 0 1600 hJ144_c0_117 rfl) (by have := h2.2; have : (1 : Int32).toInt = 1 := rfl; have := hJ144_lin0; omega) (by rw [← hK19]; rw [lf_u Ez1]; exact hq) (cdl_next hJ144_gh (hg_codeFrom_5).1 h2.2) (by have := h2.2; have : (1 : Int32).toInt = 1 := rfl; omega) hP hD hS (lv_sub hl [1, 2, 3, 0] rfl)
        refine lv_iload_n hx hb dX10_codesTell_19 rfl (lv_at hl 3 rfl) ?_
        refine lv_aload_n hx hb dX10_codesTell_20 rfl (lv_at hl 0 rfl) ?_
        refine k_get C0 fg_X10_133 hP 0 rfl rfl dX10_codesTell_21 ?_
        refine lv_iconst (v := 3) hx hb dX10_codesTell_24 rfl ?_
        refine lv_iload_n hx hb dX10_codesTell_25 rfl (lv_at hl 1 rfl) ?_
        refine lv_iadd hx hb dX10_codesTell_26 ?_
        refine k_topi (y := 5) (by decide) ?_
        refine va_iald hx hb C0.2.2.2.2.2.1 hP 2 0 rfl rfl (k_in 5 6 rfl) dX10_codesTell_27 ?_
        refine k_topi (y := g_codeEnd 5) rfl ?_
        refine lv_icmp_ge (tgt := 150) hx hb dX10_codesTell_28 rfl (fun c4 => ?_) (fun c4 => ?_)
        · replace hq := lf_pos hq (lf_le (lf_pt (lf_ra g_codeEnd) 5) (lf_rf J19_l3) c4)
          have h5 := ib_le hg_codeEnd_5 hJ19_l3 c4
          refine lv_aload_n hx hb dX10_codesTell_150 rfl (lv_at hl 0 rfl) ?_
          refine k_get C0 fg_X10_270 hP 0 rfl rfl dX10_codesTell_151 ?_
          refine lv_iconst (v := 0) hx hb dX10_codesTell_154 rfl ?_
          refine va_lald hx hb C0.2.2.2.2.2.1 hP 3 1 rfl rfl (k_in 0 1700 rfl) dX10_codesTell_155 ?_
          refine lv_topl (fun z6 ez6 => ?_)
          have Ez6 := lf_ldl ez6 (lf_raL J19_a3) (lf_lc 0 (0 : Int) rfl)
          subst hQ; exact k_lret hx hb hr hlk ((J19_c0_117, J19_a3)) hS ⟨ib_w 0 1600 hJ19_c0_117 rfl, (hO.symm.trans (by rw [lf_ul Ez6]; exact hq))⟩ hP hD (Nat.le_of_ble_eq_true rfl) (Nat.le_of_ble_eq_true rfl) dX10_codesTell_156
        · as_aux_lemma =>
            replace hq := lf_neg hq (lf_nle (lf_pt (lf_ra g_codeEnd) 5) (lf_rf J19_l3) c4)
            have h7 := ib_nle hg_codeEnd_5 hJ19_l3 c4
            have h8 : ib (g_codeEnd 5) 1 1600 := ib_w 1 1600 h7.1 rfl
            have h9 : ib J19_l3 0 1599 := ib_w 0 1599 h7.2 rfl
            have h10 : ib J19_c0_117 0 1599 := ⟨(hJ19_c0_117).1, by have := (hJ19_c0_117).2; have := hJ19_lin0; have := (h9).2; omega⟩
            refine lv_aload_n hx hb dX10_codesTell_31 rfl (lv_at hl 0 rfl) ?_
            refine k_get C0 fg_X10_136 hP 0 rfl rfl dX10_codesTell_32 ?_
            refine lv_sipush (v := 1600) hx hb dX10_codesTell_35 rfl ?_
            refine lv_iload_n hx hb dX10_codesTell_38 rfl (lv_at hl 3 rfl) ?_
            refine lv_iadd hx hb dX10_codesTell_39 ?_
            refine lv_topi (fun z11 ez11 => ?_)
            have h12 := ib_add (ib_c 1600 1600 1600 rfl) h9 rfl
            rw [← ez11] at h12
            have h13 : ib z11 1600 3199 := ib_w 1600 3199 h12.1 rfl
            have Ez11 := lf_add h12.2 (lf_lc 1600 (1600 : Int) rfl) (lf_rf J19_l3)
            refine va_iald hx hb C0.2.2.2.2.2.1 hP 4 0 rfl rfl (ib_in 3200 h13 rfl) dX10_codesTell_40 ?_
            refine lv_topi (fun z14 ez14 => ?_)
            have Ez14 := lf_ld ez14 (lf_ra g_codes) Ez11
            refine lv_istore (lv' := [(4, .int z14), (0, .ref a_this), (1, .int 2), (2, .int p1), (3, .int J19_l3)]) hx hb dX10_codesTell_41 hl (Nat.le_of_ble_eq_true rfl) rfl (fun ls hl => ?_)
            refine lv_iload hx hb dX10_codesTell_43 (lv_at hl 0 rfl) ?_
            refine lv_sipush (v := 1000) hx hb dX10_codesTell_45 rfl ?_
            refine lv_icmp_lt (tgt := 65) hx hb dX10_codesTell_48 rfl (fun c15 => ?_) (fun c15 => ?_)
            · as_aux_lemma =>
                replace hq := lf_pos hq (lf_lt Ez14 (lf_lc 1000 (1000 : Int) rfl) c15)
                have h16 := ib_lt (ib_any z14) (ib_c 1000 1000 1000 rfl) c15
                have h17 : ib z14 (-2147483648) 999 := ib_w (-2147483648) 999 h16.1 rfl
                refine lv_iload hx hb dX10_codesTell_65 (lv_at hl 0 rfl) ?_
                refine lv_bipush (v := 40) hx hb dX10_codesTell_67 rfl ?_
                refine lv_icmp_lt (tgt := 89) hx hb dX10_codesTell_69 rfl (fun c18 => ?_) (fun c18 => ?_)
                · as_aux_lemma =>
                    replace hq := lf_pos hq (lf_lt Ez14 (lf_lc 40 (40 : Int) rfl) c18)
                    have h19 := ib_lt h17 (ib_c 40 40 40 rfl) c18
                    have h20 : ib z14 (-2147483648) 39 := ib_w (-2147483648) 39 h19.1 rfl
                    refine lv_iload hx hb dX10_codesTell_89 (lv_at hl 0 rfl) ?_
                    refine lv_bipush (v := 13) hx hb dX10_codesTell_91 rfl ?_
                    refine lv_icmp_ne (tgt := 104) hx hb dX10_codesTell_93 rfl (fun c21 => ?_) (fun c21 => ?_)
                    · as_aux_lemma =>
                        replace hq := lf_neg hq (lf_ne Ez14 (lf_lc 13 (13 : Int) rfl) c21)
                        refine lv_iload hx hb dX10_codesTell_104 (lv_at hl 0 rfl) ?_
                        refine lv_bipush (v := 12) hx hb dX10_codesTell_106 rfl ?_
                        refine lv_icmp_ne (tgt := 138) hx hb dX10_codesTell_108 rfl (fun c22 => ?_) (fun c22 => ?_)
                        · replace hq := lf_neg hq (lf_ne Ez14 (lf_lc 12 (12 : Int) rfl) c22)
                          have h23 : ib J19_c0_117 2 1599 := ⟨cdl_ge2 (z := z14) (hG2 (ib_nc (-1) hg_codeFrom_5 rfl)) hJ19_gh (hg_codeFrom_5).1 (by have := (h8).1; have := (h8).2; have := (h9).1; have := (h9).2; have := hJ19_lin0; have := (h10).1; have := (h10).2; have := mt Int32.le_iff_toInt_le.mpr c4; omega) (by rw [ez14]; congr 1; show 1600 + (Int32.toInt J19_l3).toNat = (Int32.toInt z11).toNat; have := (h9).1; have := (h9).2; have := hJ19_lin0; have := (h10).1; have := (h10).2; have := (h13).1; have := (h13).2; have := h12.2; have : (1600 : Int32).toInt = 1600 := rfl; omega) (by have := (h20).2; omega) c21 c22, (h10).2⟩
                          refine lv_aload_n hx hb dX10_codesTell_138 rfl (lv_at hl 1 rfl) ?_
                          refine lv_iload hx hb dX10_codesTell_139 (lv_at hl 0 rfl) ?_
                          refine k_jvm hP hD hS hA [0, 3] [false, true, true, false, true, true, true, true, true, true, true, true, true] rfl rfl (by decide +kernel) 0 0 (Nat.le_of_ble_eq_true rfl) (Nat.le_of_ble_eq_true rfl) (fun hPc hDc => k_runV (As := [.int z14]) (rest := []) C0 hZ hS hA (s_X10_qJoins l dC dI cy sq a_this rm x_taped x_at x_end x_ended x_bad x_badPlace x_fault x_faultPlace x_namePlace x_awayTold x_away x_coded x_statements x_isCrossing 2 x_askSecond x_redMany x_isOpen x_lastGreen x_greenTo x_isCycleGreen x_stillGreen x_rowMany x_fitMany x_fitRules x_fitGreen x_undoable x_newest x_seeded x_qCoded x_qWaits x_qOpened x_qBase J19_c0_117 x_qAnswer x_qIsNew x_octets J19_a3 z14 (ib_w 2 1700 h23 rfl)) mV_X10_451 hPc hDc rfl rfl rfl hl rfl rfl (Nat.le_of_ble_eq_true rfl) ⟨(Nat.le_of_ble_eq_true rfl), (Nat.le_of_ble_eq_true rfl)⟩ ⟨(Nat.le_of_ble_eq_true rfl), (Nat.le_of_ble_eq_true rfl)⟩ dX10_codesTell_141) (fun u25 H locs hw hP hD hS => ?_)
                          obtain ⟨v26, f27⟩ := u25
                          try dsimp only at hP hD hw
                          replace hP : va_P (dC, dI) vwCl [(wi_rm49_0_6_0 rm cy g_codeFrom), (wi_rm50_0_6_0 rm cy g_codeEnd), (wi_rm51_0_3200_0 rm cy g_codes), (wi_rm46_0_48_0 rm cy g_walkers), (wi_rm56_0_9_0 rm cy g_now), (wi_rm43_0_8_0 rm cy g_bar), (wi_rm65_0_12_0 rm cy g_waits), (wi_rm44_0_24_0 rm cy g_kinds), (wi_rm61_0_300_0 rm cy g_gaps), (wi_rm66_3_12_0 rm cy g_goes), (wi_rm67_3_12_0 rm cy g_harms), (a_this, .inr (10, mfs rm x_taped x_at x_end x_ended x_bad x_badPlace x_fault x_faultPlace x_namePlace x_awayTold x_away x_coded x_statements x_isCrossing 2 x_askSecond x_redMany x_isOpen x_lastGreen x_greenTo x_isCycleGreen x_stillGreen x_rowMany x_fitMany x_fitRules x_fitGreen x_undoable x_newest x_seeded x_qCoded x_qWaits x_qOpened x_qBase v26 x_qAnswer x_qIsNew x_octets)), (wi_rm116_1_1700_1 rm cy f27)] H := hP
                          replace hD := k_D hP hD
                          obtain ⟨h28, h29, h30⟩ := hw
                          have h31 : v26.toInt = (J19_c0_117 : Int32).toInt + ((-1) : Int32).toInt := by have q1 := h29; have q2 : ((-1) : Int32).toInt = (-1) := rfl; omega
                          have h32 : ib v26 1 1598 := ⟨by have q1 := h29; have := (h23).1; have := (h28).1; omega, by have q1 := h29; have := (h23).2; have := (h28).2; omega⟩
                          have h30 := by have h9 := h30; rw [lf_u Ez14] at h9; exact h9
                          replace hq := lf_p1 hq h30
                          exact jn144 z14 v26 f27 H locs ls (ib_w 0 1599 h9 rfl) (ib_w 1 1600 h32 rfl) (ib_w 1 1600 h8 rfl) (by have := hJ19_lin0; have := h31; have : ((-1) : Int32).toInt = (-1) := rfl; omega) (by rw [lf_u Ez14]; exact hq) (cdm_join (z := z14) (hG2 (ib_nc (-1) hg_codeFrom_5 rfl)) hJ19_gh (hg_codeFrom_5).1 (by have := (h8).1; have := (h8).2; have := (h9).1; have := (h9).2; have := hJ19_lin0; have := (h23).1; have := (h23).2; have := mt Int32.le_iff_toInt_le.mpr c4; omega) (by rw [ez14]; congr 1; show 1600 + (Int32.toInt J19_l3).toNat = (Int32.toInt z11).toNat; have := (h9).1; have := (h9).2; have := hJ19_lin0; have := (h23).1; have := (h23).2; have := (h13).1; have := (h13).2; have := h12.2; have : (1600 : Int32).toInt = 1600 := rfl; omega) (by have := (h20).2; omega) c21 c22 (by have := (h23).1; have := (h23).2; have := hJ19_lin0; have := (h9).1; have := (h9).2; have := (h32).1; have := (h32).2; have := h31; have : ((-1) : Int32).toInt = (-1) := rfl; omega)) (hP.sub [11, 0, 1, 12, 2, 3, 4, 5, 6, 7, 8, 9, 10] rfl) (hD.sub [11, 0, 1, 12, 2, 3, 4, 5, 6, 7, 8, 9, 10] (by decide +kernel) rfl) hS (lv_sub hl [1, 2, 3, 4, 0] rfl)
                        · as_aux_lemma =>
                            replace hq := lf_pos hq (lf_eq Ez14 (lf_lc 12 (12 : Int) rfl) c22)
                            have h33 := ib_eq h20 (ib_c 12 12 12 rfl) c22
                            have h34 : ib z14 12 12 := ib_w 12 12 h33.1 rfl
                            have h35 : ib J19_c0_117 1 1599 := ⟨cdl_ge1 (z := z14) (hG2 (ib_nc (-1) hg_codeFrom_5 rfl)) hJ19_gh (hg_codeFrom_5).1 (by have := (h8).1; have := (h8).2; have := (h9).1; have := (h9).2; have := hJ19_lin0; have := (h10).1; have := (h10).2; have := mt Int32.le_iff_toInt_le.mpr c4; omega) (by rw [ez14]; congr 1; show 1600 + (Int32.toInt J19_l3).toNat = (Int32.toInt z11).toNat; have := (h9).1; have := (h9).2; have := hJ19_lin0; have := (h10).1; have := (h10).2; have := (h13).1; have := (h13).2; have := h12.2; have : (1600 : Int32).toInt = 1600 := rfl; omega) (Or.inl (ib_one h34 rfl)), (h10).2⟩
                            refine lv_aload_n hx hb dX10_codesTell_111 rfl (lv_at hl 1 rfl) ?_
                            refine k_get C0 fg_X10_270 hP 0 rfl rfl dX10_codesTell_112 ?_
                            refine lv_aload_n hx hb dX10_codesTell_115 rfl (lv_at hl 1 rfl) ?_
                            refine k_get C0 fg_X10_440 hP 0 rfl rfl dX10_codesTell_116 ?_
                            refine lv_iconst (v := 1) hx hb dX10_codesTell_119 rfl ?_
                            refine lv_isub hx hb dX10_codesTell_120 ?_
                            refine lv_topi (fun z36 ez36 => ?_)
                            have h37 := ib_sub h35 (ib_c 1 1 1 rfl) rfl
                            rw [← ez36] at h37
                            have h38 : ib z36 0 1598 := ib_w 0 1598 h37.1 rfl
                            have Ez36 := lf_sub h37.2 (lf_rf J19_c0_117) (lf_lc 1 (1 : Int) rfl)
                            refine lv_lconst (v := 1) hx hb dX10_codesTell_121 (by decide) ?_
                            refine lv_aload_n hx hb dX10_codesTell_122 rfl (lv_at hl 1 rfl) ?_
                            refine k_get C0 fg_X10_270 hP 0 rfl rfl dX10_codesTell_123 ?_
                            refine lv_aload_n hx hb dX10_codesTell_126 rfl (lv_at hl 1 rfl) ?_
                            refine k_get C0 fg_X10_440 hP 0 rfl rfl dX10_codesTell_127 ?_
                            refine lv_iconst (v := 1) hx hb dX10_codesTell_130 rfl ?_
                            refine lv_isub hx hb dX10_codesTell_131 ?_
                            refine lv_topi (fun z39 ez39 => ?_)
                            obtain rfl : z36 = z39 := ez36.trans ez39.symm
                            refine va_lald hx hb C0.2.2.2.2.2.1 hP 3 1 rfl rfl (ib_in 1700 h38 rfl) dX10_codesTell_132 ?_
                            refine lv_topl (fun z40 ez40 => ?_)
                            have Ez40 := lf_ldl ez40 (lf_raL J19_a3) Ez36
                            refine lv_lsub hx hb dX10_codesTell_133 ?_
                            refine lv_topl (fun z41 ez41 => ?_)
                            have Ez41 := lf_opl lf_lsub ez41 (lf_ll 1 (1 : Int) rfl) Ez40
                            refine va_last hx hb C0.2.2.2.2.2.1 hP hD hS 3 1 rfl rfl (ib_in 1700 h38 rfl) dX10_codesTell_134 (fun H locs hP hD hS => ?_)
                            replace hP : va_P (dC, dI) vwCl [(a_this, .inr (10, mfs rm x_taped x_at x_end x_ended x_bad x_badPlace x_fault x_faultPlace x_namePlace x_awayTold x_away x_coded x_statements x_isCrossing 2 x_askSecond x_redMany x_isOpen x_lastGreen x_greenTo x_isCycleGreen x_stillGreen x_rowMany x_fitMany x_fitRules x_fitGreen x_undoable x_newest x_seeded x_qCoded x_qWaits x_qOpened x_qBase J19_c0_117 x_qAnswer x_qIsNew x_octets)), (wi_rm49_0_6_0 rm cy g_codeFrom), (wi_rm50_0_6_0 rm cy g_codeEnd), (wi_rm116_1_1700_1 rm cy (vp_updL J19_a3 (Int32.toNatClampNeg z36) z41)), (wi_rm51_0_3200_0 rm cy g_codes), (wi_rm46_0_48_0 rm cy g_walkers), (wi_rm56_0_9_0 rm cy g_now), (wi_rm43_0_8_0 rm cy g_bar), (wi_rm65_0_12_0 rm cy g_waits), (wi_rm44_0_24_0 rm cy g_kinds), (wi_rm61_0_300_0 rm cy g_gaps), (wi_rm66_3_12_0 rm cy g_goes), (wi_rm67_3_12_0 rm cy g_harms)] H := hP
                            replace hD := k_D hP hD
                            generalize ef42 : vp_updL J19_a3 (Int32.toNatClampNeg z36) z41 = f42 at hP hD
                            have Ef42 := lf_stL ef42 (lf_raL J19_a3) Ez36 Ez41
                            refine lv_goto (tgt := 144) hx hb dX10_codesTell_135 rfl ?_
                            exact jn144 z14 J19_c0_117 f42 H locs ls (ib_w 0 1599 h9 rfl) (ib_w 1 1600 h35 rfl) (ib_w 1 1600 h8 rfl) (by have := hJ19_lin0; omega) (by rw [lf_u Ez14]; rw [lf_uaL Ef42]; exact hq) (cdm_same (z := z14) (hG2 (ib_nc (-1) hg_codeFrom_5 rfl)) hJ19_gh (hg_codeFrom_5).1 (by have := (h8).1; have := (h8).2; have := (h9).1; have := (h9).2; have := hJ19_lin0; have := (h35).1; have := (h35).2; have := mt Int32.le_iff_toInt_le.mpr c4; omega) (by rw [ez14]; congr 1; show 1600 + (Int32.toInt J19_l3).toNat = (Int32.toInt z11).toNat; have := (h9).1; have := (h9).2; have := hJ19_lin0; have := (h35).1; have := (h35).2; have := (h13).1; have := (h13).2; have := h12.2; have : (1600 : Int32).toInt = 1600 := rfl; omega) (Or.inl (ib_one h34 rfl))) hP hD hS (lv_sub hl [1, 2, 3, 4, 0] rfl)
                    · replace hq := lf_pos hq (lf_eq Ez14 (lf_lc 13 (13 : Int) rfl) c21)
                      have h43 := ib_eq h20 (ib_c 13 13 13 rfl) c21
                      have h44 : ib z14 13 13 := ib_w 13 13 h43.1 rfl
                      refine lv_aload_n hx hb dX10_codesTell_96 rfl (lv_at hl 1 rfl) ?_
                      refine lv_lconst (v := 1) hx hb dX10_codesTell_97 (by decide) ?_
                      refine k_jvm hP hD hS hA [0, 3] [false, true, true, false, true, true, true, true, true, true, true, true, true] rfl rfl (by decide +kernel) 0 0 (Nat.le_of_ble_eq_true rfl) (Nat.le_of_ble_eq_true rfl) (fun hPc hDc => k_runV (As := [.long 1]) (rest := []) C0 hZ hS hA (s_X10_qPuts l dC dI cy sq a_this rm x_taped x_at x_end x_ended x_bad x_badPlace x_fault x_faultPlace x_namePlace x_awayTold x_away x_coded x_statements x_isCrossing 2 x_askSecond x_redMany x_isOpen x_lastGreen x_greenTo x_isCycleGreen x_stillGreen x_rowMany x_fitMany x_fitRules x_fitGreen x_undoable x_newest x_seeded x_qCoded x_qWaits x_qOpened x_qBase J19_c0_117 x_qAnswer x_qIsNew x_octets J19_a3 1 (ib_w 0 1699 h10 rfl)) mV_X10_443 hPc hDc rfl rfl rfl hl rfl rfl (Nat.le_of_ble_eq_true rfl) ⟨(Nat.le_of_ble_eq_true rfl), (Nat.le_of_ble_eq_true rfl)⟩ ⟨(Nat.le_of_ble_eq_true rfl), (Nat.le_of_ble_eq_true rfl)⟩ dX10_codesTell_98) (fun u46 H locs hw hP hD hS => ?_)
                      obtain ⟨v47, f48⟩ := u46
                      try dsimp only at hP hD hw
                      replace hP : va_P (dC, dI) vwCl [(wi_rm49_0_6_0 rm cy g_codeFrom), (wi_rm50_0_6_0 rm cy g_codeEnd), (wi_rm51_0_3200_0 rm cy g_codes), (wi_rm46_0_48_0 rm cy g_walkers), (wi_rm56_0_9_0 rm cy g_now), (wi_rm43_0_8_0 rm cy g_bar), (wi_rm65_0_12_0 rm cy g_waits), (wi_rm44_0_24_0 rm cy g_kinds), (wi_rm61_0_300_0 rm cy g_gaps), (wi_rm66_3_12_0 rm cy g_goes), (wi_rm67_3_12_0 rm cy g_harms), (a_this, .inr (10, mfs rm x_taped x_at x_end x_ended x_bad x_badPlace x_fault x_faultPlace x_namePlace x_awayTold x_away x_coded x_statements x_isCrossing 2 x_askSecond x_redMany x_isOpen x_lastGreen x_greenTo x_isCycleGreen x_stillGreen x_rowMany x_fitMany x_fitRules x_fitGreen x_undoable x_newest x_seeded x_qCoded x_qWaits x_qOpened x_qBase v47 x_qAnswer x_qIsNew x_octets)), (wi_rm116_1_1700_1 rm cy f48)] H := hP
                      replace hD := k_D hP hD
                      obtain ⟨h49, h50, h51⟩ := hw
                      have h52 : v47.toInt = (J19_c0_117 : Int32).toInt + (1 : Int32).toInt := by have q1 := h50; have q2 : (1 : Int32).toInt = 1 := rfl; omega
                      have h53 : ib v47 1 1600 := ⟨by have q1 := h50; have := (h10).1; have := (h49).1; omega, by have q1 := h50; have := (h10).2; have := (h49).2; omega⟩
                      have h51 := by have h9 := h51; try simp only [show (1 : Int64).toInt = (1 : Int) from rfl] at h9; exact h9
                      replace hq := lf_p1 hq h51
                      refine lv_goto (tgt := 144) hx hb dX10_codesTell_101 rfl ?_
                      exact jn144 z14 v47 f48 H locs ls (ib_w 0 1599 h9 rfl) (ib_w 1 1600 h53 rfl) (ib_w 1 1600 h8 rfl) (by have := hJ19_lin0; have := h52; have : (1 : Int32).toInt = 1 := rfl; omega) (by rw [lf_u Ez14]; exact hq) (cdm_push (z := z14) (hG2 (ib_nc (-1) hg_codeFrom_5 rfl)) hJ19_gh (hg_codeFrom_5).1 (by have := (h8).1; have := (h8).2; have := (h9).1; have := (h9).2; have := hJ19_lin0; have := (h10).1; have := (h10).2; have := mt Int32.le_iff_toInt_le.mpr c4; omega) (by rw [ez14]; congr 1; show 1600 + (Int32.toInt J19_l3).toNat = (Int32.toInt z11).toNat; have := (h9).1; have := (h9).2; have := hJ19_lin0; have := (h10).1; have := (h10).2; have := (h13).1; have := (h13).2; have := h12.2; have : (1600 : Int32).toInt = 1600 := rfl; omega) (Or.inr (ib_one h44 rfl)) (by have := (h10).1; have := (h10).2; have := hJ19_lin0; have := (h9).1; have := (h9).2; have := (h53).1; have := (h53).2; have := h52; have : (1 : Int32).toInt = 1 := rfl; omega)) (hP.sub [11, 0, 1, 12, 2, 3, 4, 5, 6, 7, 8, 9, 10] rfl) (hD.sub [11, 0, 1, 12, 2, 3, 4, 5, 6, 7, 8, 9, 10] (by decide +kernel) rfl) hS (lv_sub hl [1, 2, 3, 4, 0] rfl)
                · as_aux_lemma =>
                    replace hq := lf_neg hq (lf_nlt Ez14 (lf_lc 40 (40 : Int) rfl) c18)
                    have h54 := ib_nlt h17 (ib_c 40 40 40 rfl) c18
                    have h55 : ib z14 40 999 := ib_w 40 999 h54.1 rfl
                    refine lv_aload_n hx hb dX10_codesTell_72 rfl (lv_at hl 1 rfl) ?_
                    refine lv_aload_n hx hb dX10_codesTell_73 rfl (lv_at hl 1 rfl) ?_
                    refine lv_iload hx hb dX10_codesTell_74 (lv_at hl 0 rfl) ?_
                    refine lv_bipush (v := 40) hx hb dX10_codesTell_76 rfl ?_
                    refine lv_isub hx hb dX10_codesTell_78 ?_
                    refine lv_topi (fun z56 ez56 => ?_)
                    have h57 := ib_sub h55 (ib_c 40 40 40 rfl) rfl
                    rw [← ez56] at h57
                    have h58 : ib z56 0 959 := ib_w 0 959 h57.1 rfl
                    have Ez56 := lf_sub h57.2 Ez14 (lf_lc 40 (40 : Int) rfl)
                    refine lv_iload_n hx hb dX10_codesTell_79 rfl (lv_at hl 3 rfl) ?_
                    refine k_jlm hP hD hS hA [0, 5, 6, 7, 8, 9, 10, 11, 12] [false, true, true, true, true] rfl rfl (by decide +kernel) 0 0 (Nat.le_of_ble_eq_true rfl) (Nat.le_of_ble_eq_true rfl) (fun hPc hDc => k_runV (As := [.int z56, .int p1]) (rest := [.ref a_this]) C0 hZ hS hA (s_X10_qPartOf l dC dI cy sq a_this rm x_taped x_at x_end x_ended x_bad x_badPlace x_fault x_faultPlace x_namePlace x_awayTold x_away x_coded x_statements x_isCrossing 2 x_askSecond x_redMany x_isOpen x_lastGreen x_greenTo x_isCycleGreen x_stillGreen x_rowMany x_fitMany x_fitRules x_fitGreen x_undoable x_newest x_seeded x_qCoded x_qWaits x_qOpened x_qBase J19_c0_117 x_qAnswer x_qIsNew x_octets g_bar g_kinds g_walkers g_now g_gaps g_waits g_goes g_harms z56 p1 (ib_w 10 120 hg_bar_4 rfl) hpg_walkers hg_gaps (ib_w 0 11 hp1 rfl) (fun q9 => (okc_47 (z := z14) (hG2 (ib_nc (-1) hg_codeFrom_5 rfl)) hJ19_gh.1 (hg_codeFrom_5).1 (by have := (h8).1; have := (h8).2; have := (h9).1; have := (h9).2; have := hJ19_lin0; have := (h10).1; have := (h10).2; have := mt Int32.le_iff_toInt_le.mpr c4; omega) (by rw [ez14]; congr 1; show 1600 + (Int32.toInt J19_l3).toNat = (Int32.toInt z11).toNat; have := (h9).1; have := (h9).2; have := hJ19_lin0; have := (h10).1; have := (h10).2; have := (h13).1; have := (h13).2; have := h12.2; have : (1600 : Int32).toInt = 1600 := rfl; omega) h57.2 q9).elim)) mV_X10_447 hPc hDc rfl rfl rfl hl rfl rfl (Nat.le_of_ble_eq_true rfl) ⟨(Nat.le_of_ble_eq_true rfl), (Nat.le_of_ble_eq_true rfl)⟩ ⟨(Nat.le_of_ble_eq_true rfl), (Nat.le_of_ble_eq_true rfl)⟩ dX10_codesTell_80) (fun r59 u60 H locs hw hP hD hS => ?_)
                    try dsimp only at hP hD hw
                    replace hP : va_P (dC, dI) vwCl [(wi_rm49_0_6_0 rm cy g_codeFrom), (wi_rm50_0_6_0 rm cy g_codeEnd), (wi_rm116_1_1700_1 rm cy J19_a3), (wi_rm51_0_3200_0 rm cy g_codes), (a_this, .inr (10, mfs rm x_taped x_at x_end x_ended x_bad x_badPlace x_fault x_faultPlace x_namePlace x_awayTold x_away x_coded x_statements x_isCrossing 2 x_askSecond x_redMany x_isOpen x_lastGreen x_greenTo x_isCycleGreen x_stillGreen x_rowMany x_fitMany x_fitRules x_fitGreen x_undoable x_newest x_seeded x_qCoded x_qWaits x_qOpened x_qBase J19_c0_117 x_qAnswer x_qIsNew x_octets)), (wi_rm46_0_48_0 rm cy g_walkers), (wi_rm56_0_9_0 rm cy g_now), (wi_rm43_0_8_0 rm cy g_bar), (wi_rm65_0_12_0 rm cy g_waits), (wi_rm44_0_24_0 rm cy g_kinds), (wi_rm61_0_300_0 rm cy g_gaps), (wi_rm66_3_12_0 rm cy g_goes), (wi_rm67_3_12_0 rm cy g_harms)] H := hP
                    replace hD := k_D hP hD
                    have h61 := hw
                    have h61 := by have h9 := h61; try simp only [show (2 : Int32).toInt = (2 : Int) from rfl] at h9; rw [lf_u Ez56] at h9; exact h9
                    replace hq := lf_b1 hq h61
                    refine k_jvm hP hD hS hA [4, 2] [true, true, false, true, false, true, true, true, true, true, true, true, true] rfl rfl (by decide +kernel) 0 0 (Nat.le_of_ble_eq_true rfl) (Nat.le_of_ble_eq_true rfl) (fun hPc hDc => k_runV (As := [.long r59]) (rest := []) C0 hZ hS hA (s_X10_qPuts l dC dI cy sq a_this rm x_taped x_at x_end x_ended x_bad x_badPlace x_fault x_faultPlace x_namePlace x_awayTold x_away x_coded x_statements x_isCrossing 2 x_askSecond x_redMany x_isOpen x_lastGreen x_greenTo x_isCycleGreen x_stillGreen x_rowMany x_fitMany x_fitRules x_fitGreen x_undoable x_newest x_seeded x_qCoded x_qWaits x_qOpened x_qBase J19_c0_117 x_qAnswer x_qIsNew x_octets J19_a3 r59 (ib_w 0 1699 h10 rfl)) mV_X10_443 hPc hDc rfl rfl rfl hl rfl rfl (Nat.le_of_ble_eq_true rfl) ⟨(Nat.le_of_ble_eq_true rfl), (Nat.le_of_ble_eq_true rfl)⟩ ⟨(Nat.le_of_ble_eq_true rfl), (Nat.le_of_ble_eq_true rfl)⟩ dX10_codesTell_83) (fun u63 H locs hw hP hD hS => ?_)
                    obtain ⟨v64, f65⟩ := u63
                    try dsimp only at hP hD hw
                    replace hP : va_P (dC, dI) vwCl [(wi_rm49_0_6_0 rm cy g_codeFrom), (wi_rm50_0_6_0 rm cy g_codeEnd), (wi_rm51_0_3200_0 rm cy g_codes), (wi_rm46_0_48_0 rm cy g_walkers), (wi_rm56_0_9_0 rm cy g_now), (wi_rm43_0_8_0 rm cy g_bar), (wi_rm65_0_12_0 rm cy g_waits), (wi_rm44_0_24_0 rm cy g_kinds), (wi_rm61_0_300_0 rm cy g_gaps), (wi_rm66_3_12_0 rm cy g_goes), (wi_rm67_3_12_0 rm cy g_harms), (a_this, .inr (10, mfs rm x_taped x_at x_end x_ended x_bad x_badPlace x_fault x_faultPlace x_namePlace x_awayTold x_away x_coded x_statements x_isCrossing 2 x_askSecond x_redMany x_isOpen x_lastGreen x_greenTo x_isCycleGreen x_stillGreen x_rowMany x_fitMany x_fitRules x_fitGreen x_undoable x_newest x_seeded x_qCoded x_qWaits x_qOpened x_qBase v64 x_qAnswer x_qIsNew x_octets)), (wi_rm116_1_1700_1 rm cy f65)] H := hP
                    replace hD := k_D hP hD
                    obtain ⟨h66, h67, h68⟩ := hw
                    have h69 : v64.toInt = (J19_c0_117 : Int32).toInt + (1 : Int32).toInt := by have q1 := h67; have q2 : (1 : Int32).toInt = 1 := rfl; omega
                    have h70 : ib v64 1 1600 := ⟨by have q1 := h67; have := (h10).1; have := (h66).1; omega, by have q1 := h67; have := (h10).2; have := (h66).2; omega⟩
                    replace hq := lf_p1 hq h68
                    refine lv_goto (tgt := 144) hx hb dX10_codesTell_86 rfl ?_
                    exact jn144 z14 v64 f65 H locs ls (ib_w 0 1599 h9 rfl) (ib_w 1 1600 h70 rfl) (ib_w 1 1600 h8 rfl) (by have := hJ19_lin0; have := h69; have : (1 : Int32).toInt = 1 := rfl; omega) (by rw [lf_u Ez14]; exact hq) (cdm_push (z := z14) (hG2 (ib_nc (-1) hg_codeFrom_5 rfl)) hJ19_gh (hg_codeFrom_5).1 (by have := (h8).1; have := (h8).2; have := (h9).1; have := (h9).2; have := hJ19_lin0; have := (h10).1; have := (h10).2; have := mt Int32.le_iff_toInt_le.mpr c4; omega) (by rw [ez14]; congr 1; show 1600 + (Int32.toInt J19_l3).toNat = (Int32.toInt z11).toNat; have := (h9).1; have := (h9).2; have := hJ19_lin0; have := (h10).1; have := (h10).2; have := (h13).1; have := (h13).2; have := h12.2; have : (1600 : Int32).toInt = 1600 := rfl; omega) (Or.inl (by have := (h55).1; omega)) (by have := (h10).1; have := (h10).2; have := hJ19_lin0; have := (h9).1; have := (h9).2; have := (h70).1; have := (h70).2; have := h69; have : (1 : Int32).toInt = 1 := rfl; omega)) (hP.sub [11, 0, 1, 12, 2, 3, 4, 5, 6, 7, 8, 9, 10] rfl) (hD.sub [11, 0, 1, 12, 2, 3, 4, 5, 6, 7, 8, 9, 10] (by decide +kernel) rfl) hS (lv_sub hl [1, 2, 3, 4, 0] rfl)
            · as_aux_lemma =>
                replace hq := lf_neg hq (lf_nlt Ez14 (lf_lc 1000 (1000 : Int) rfl) c15)
                have h71 := ib_nlt (ib_any z14) (ib_c 1000 1000 1000 rfl) c15
                have h72 : ib z14 1000 2147483647 := ib_w 1000 2147483647 h71.1 rfl
                refine lv_aload_n hx hb dX10_codesTell_51 rfl (lv_at hl 1 rfl) ?_
                refine lv_iload hx hb dX10_codesTell_52 (lv_at hl 0 rfl) ?_
                refine lv_sipush (v := 1000) hx hb dX10_codesTell_54 rfl ?_
                refine lv_isub hx hb dX10_codesTell_57 ?_
                refine lv_topi (fun z73 ez73 => ?_)
                have h74 := ib_sub h72 (ib_c 1000 1000 1000 rfl) rfl
                rw [← ez73] at h74
                have h75 : ib z73 0 2147482647 := ib_w 0 2147482647 h74.1 rfl
                have Ez73 := lf_sub h74.2 Ez14 (lf_lc 1000 (1000 : Int) rfl)
                refine lv_i2l (v := z73.toInt64) hx hb dX10_codesTell_58 rfl ?_
                refine k_jvm hP hD hS hA [0, 3] [false, true, true, false, true, true, true, true, true, true, true, true, true] rfl rfl (by decide +kernel) 0 0 (Nat.le_of_ble_eq_true rfl) (Nat.le_of_ble_eq_true rfl) (fun hPc hDc => k_runV (As := [.long z73.toInt64]) (rest := []) C0 hZ hS hA (s_X10_qPuts l dC dI cy sq a_this rm x_taped x_at x_end x_ended x_bad x_badPlace x_fault x_faultPlace x_namePlace x_awayTold x_away x_coded x_statements x_isCrossing 2 x_askSecond x_redMany x_isOpen x_lastGreen x_greenTo x_isCycleGreen x_stillGreen x_rowMany x_fitMany x_fitRules x_fitGreen x_undoable x_newest x_seeded x_qCoded x_qWaits x_qOpened x_qBase J19_c0_117 x_qAnswer x_qIsNew x_octets J19_a3 z73.toInt64 (ib_w 0 1699 h10 rfl)) mV_X10_443 hPc hDc rfl rfl rfl hl rfl rfl (Nat.le_of_ble_eq_true rfl) ⟨(Nat.le_of_ble_eq_true rfl), (Nat.le_of_ble_eq_true rfl)⟩ ⟨(Nat.le_of_ble_eq_true rfl), (Nat.le_of_ble_eq_true rfl)⟩ dX10_codesTell_59) (fun u77 H locs hw hP hD hS => ?_)
                obtain ⟨v78, f79⟩ := u77
                try dsimp only at hP hD hw
                replace hP : va_P (dC, dI) vwCl [(wi_rm49_0_6_0 rm cy g_codeFrom), (wi_rm50_0_6_0 rm cy g_codeEnd), (wi_rm51_0_3200_0 rm cy g_codes), (wi_rm46_0_48_0 rm cy g_walkers), (wi_rm56_0_9_0 rm cy g_now), (wi_rm43_0_8_0 rm cy g_bar), (wi_rm65_0_12_0 rm cy g_waits), (wi_rm44_0_24_0 rm cy g_kinds), (wi_rm61_0_300_0 rm cy g_gaps), (wi_rm66_3_12_0 rm cy g_goes), (wi_rm67_3_12_0 rm cy g_harms), (a_this, .inr (10, mfs rm x_taped x_at x_end x_ended x_bad x_badPlace x_fault x_faultPlace x_namePlace x_awayTold x_away x_coded x_statements x_isCrossing 2 x_askSecond x_redMany x_isOpen x_lastGreen x_greenTo x_isCycleGreen x_stillGreen x_rowMany x_fitMany x_fitRules x_fitGreen x_undoable x_newest x_seeded x_qCoded x_qWaits x_qOpened x_qBase v78 x_qAnswer x_qIsNew x_octets)), (wi_rm116_1_1700_1 rm cy f79)] H := hP
                replace hD := k_D hP hD
                obtain ⟨h80, h81, h82⟩ := hw
                have h83 : v78.toInt = (J19_c0_117 : Int32).toInt + (1 : Int32).toInt := by have q1 := h81; have q2 : (1 : Int32).toInt = 1 := rfl; omega
                have h84 : ib v78 1 1600 := ⟨by have q1 := h81; have := (h10).1; have := (h80).1; omega, by have q1 := h81; have := (h10).2; have := (h80).2; omega⟩
                have h82 := by have h9 := h82; rw [lf_ul (lf_i2l Ez73)] at h9; exact h9
                replace hq := lf_p1 hq h82
                refine lv_goto (tgt := 144) hx hb dX10_codesTell_62 rfl ?_
                exact jn144 z14 v78 f79 H locs ls (ib_w 0 1599 h9 rfl) (ib_w 1 1600 h84 rfl) (ib_w 1 1600 h8 rfl) (by have := hJ19_lin0; have := h83; have : (1 : Int32).toInt = 1 := rfl; omega) (by rw [lf_u Ez14]; exact hq) (cdm_push (z := z14) (hG2 (ib_nc (-1) hg_codeFrom_5 rfl)) hJ19_gh (hg_codeFrom_5).1 (by have := (h8).1; have := (h8).2; have := (h9).1; have := (h9).2; have := hJ19_lin0; have := (h10).1; have := (h10).2; have := mt Int32.le_iff_toInt_le.mpr c4; omega) (by rw [ez14]; congr 1; show 1600 + (Int32.toInt J19_l3).toNat = (Int32.toInt z11).toNat; have := (h9).1; have := (h9).2; have := hJ19_lin0; have := (h10).1; have := (h10).2; have := (h13).1; have := (h13).2; have := h12.2; have : (1600 : Int32).toInt = 1600 := rfl; omega) (Or.inl (by have := (h72).1; omega)) (by have := (h10).1; have := (h10).2; have := hJ19_lin0; have := (h9).1; have := (h9).2; have := (h84).1; have := (h84).2; have := h83; have : (1 : Int32).toInt = 1 := rfl; omega)) (hP.sub [11, 0, 1, 12, 2, 3, 4, 5, 6, 7, 8, 9, 10] rfl) (hD.sub [11, 0, 1, 12, 2, 3, 4, 5, 6, 7, 8, 9, 10] (by decide +kernel) rfl) hS (lv_sub hl [1, 2, 3, 4, 0] rfl)
  refine lv_aload_n hx hb dX10_codesTell_0 rfl (lv_at hl 0 rfl) ?_
  refine lv_iload_n hx hb dX10_codesTell_1 rfl (lv_at hl 1 rfl) ?_
  refine k_put C0 fp_X10_333 hP hD hS 0 rfl rfl rfl (Nat.le_of_ble_eq_true rfl) dX10_codesTell_2 (fun H locs hP hD hS => ?_)
  replace hP : va_P (dC, dI) vwCl [(a_this, .inr (10, mfs rm x_taped x_at x_end x_ended x_bad x_badPlace x_fault x_faultPlace x_namePlace x_awayTold x_away x_coded x_statements x_isCrossing 2 x_askSecond x_redMany x_isOpen x_lastGreen x_greenTo x_isCycleGreen x_stillGreen x_rowMany x_fitMany x_fitRules x_fitGreen x_undoable x_newest x_seeded x_qCoded x_qWaits x_qOpened x_qBase x_qPiled x_qAnswer x_qIsNew x_octets)), (wi_rm49_0_6_0 rm cy g_codeFrom), (wi_rm50_0_6_0 rm cy g_codeEnd), (wi_rm116_1_1700_1 rm cy g_qPile), (wi_rm51_0_3200_0 rm cy g_codes), (wi_rm46_0_48_0 rm cy g_walkers), (wi_rm56_0_9_0 rm cy g_now), (wi_rm43_0_8_0 rm cy g_bar), (wi_rm65_0_12_0 rm cy g_waits), (wi_rm44_0_24_0 rm cy g_kinds), (wi_rm61_0_300_0 rm cy g_gaps), (wi_rm66_3_12_0 rm cy g_goes), (wi_rm67_3_12_0 rm cy g_harms)] H := hP
  replace hD := k_D hP hD
  refine lv_aload_n hx hb dX10_codesTell_5 rfl (lv_at hl 0 rfl) ?_
  refine lv_iconst (v := 0) hx hb dX10_codesTell_6 rfl ?_
  refine k_put C0 fp_X10_440 hP hD hS 0 rfl rfl rfl (Nat.le_of_ble_eq_true rfl) dX10_codesTell_7 (fun H locs hP hD hS => ?_)
  replace hP : va_P (dC, dI) vwCl [(a_this, .inr (10, mfs rm x_taped x_at x_end x_ended x_bad x_badPlace x_fault x_faultPlace x_namePlace x_awayTold x_away x_coded x_statements x_isCrossing 2 x_askSecond x_redMany x_isOpen x_lastGreen x_greenTo x_isCycleGreen x_stillGreen x_rowMany x_fitMany x_fitRules x_fitGreen x_undoable x_newest x_seeded x_qCoded x_qWaits x_qOpened x_qBase 0 x_qAnswer x_qIsNew x_octets)), (wi_rm49_0_6_0 rm cy g_codeFrom), (wi_rm50_0_6_0 rm cy g_codeEnd), (wi_rm116_1_1700_1 rm cy g_qPile), (wi_rm51_0_3200_0 rm cy g_codes), (wi_rm46_0_48_0 rm cy g_walkers), (wi_rm56_0_9_0 rm cy g_now), (wi_rm43_0_8_0 rm cy g_bar), (wi_rm65_0_12_0 rm cy g_waits), (wi_rm44_0_24_0 rm cy g_kinds), (wi_rm61_0_300_0 rm cy g_gaps), (wi_rm66_3_12_0 rm cy g_goes), (wi_rm67_3_12_0 rm cy g_harms)] H := hP
  replace hD := k_D hP hD
  refine lv_aload_n hx hb dX10_codesTell_10 rfl (lv_at hl 0 rfl) ?_
  refine k_get C0 fg_X10_130 hP 0 rfl rfl dX10_codesTell_11 ?_
  refine lv_iconst (v := 3) hx hb dX10_codesTell_14 rfl ?_
  refine lv_iload_n hx hb dX10_codesTell_15 rfl (lv_at hl 1 rfl) ?_
  refine lv_iadd hx hb dX10_codesTell_16 ?_
  refine k_topi (y := 5) (by decide) ?_
  refine va_iald hx hb C0.2.2.2.2.2.1 hP 1 0 rfl rfl (k_in 5 6 rfl) dX10_codesTell_17 ?_
  refine k_topi (y := g_codeFrom 5) rfl ?_
  refine lv_istore_n (lv' := [(3, .int (g_codeFrom 5)), (0, .ref a_this), (1, .int 2), (2, .int p1)]) hx hb dX10_codesTell_18 rfl hl (Nat.le_of_ble_eq_true rfl) rfl (fun ls hl => ?_)
  exact jn19 1602 (g_codeFrom 5) 0 g_qPile H locs ls (ib_w 0 1600 hg_codeFrom_5 rfl) (ib_w 0 1600 (ib_c 0 0 0 rfl) rfl) (by have : (0 : Int32).toInt = 0 := rfl; have := (hg_codeFrom_5).1; omega) (by rw [lf_u (lf_pt (lf_ra g_codeFrom) 5)]; try simp only [show (0 : Int32).toInt = (0 : Int) from rfl]; exact hq) (cdl_0 _ _ _) (by have := hg_codeFrom_5; unfold ib at this; omega) hP hD hS (lv_sub hl [1, 2, 3, 0] rfl)
set_option maxHeartbeats 4000000 in
set_option maxRecDepth 100000 in
theorem s_X10_learn (l : Launch) (dC : Nat → ClassId) (dI : Nat → Nat → Nat) (cy : Nat → ClassId) (sq : Nat → Nat) (a_this : Nat) (rm : Nat → Nat) (x_taped : Int32) (x_at : Int32) (x_end : Int32) (x_ended : Int32) (x_bad : Int32) (x_badPlace : Int32) (x_fault : Int32) (x_faultPlace : Int32) (x_namePlace : Int32) (x_awayTold : Int32) (x_away : Int32) (x_coded : Int32) (x_statements : Int32) (x_isCrossing : Int32) (x_textKind : Int32) (x_askSecond : Int32) (x_redMany : Int32) (x_isOpen : Int32) (x_lastGreen : Int32) (x_greenTo : Int32) (x_isCycleGreen : Int32) (x_stillGreen : Int32) (x_rowMany : Int32) (x_fitMany : Int32) (x_fitRules : Int32) (x_fitGreen : Int32) (x_undoable : Int32) (x_newest : Int32) (x_seeded : Int64) (x_qCoded : Int32) (x_qWaits : Int32) (x_qOpened : Int32) (x_qBase : Int32) (x_qPiled : Int32) (x_qAnswer : Int64) (x_qIsNew : Int32) (x_octets : Int32) (g_many : Nat → Int32) (g_bar : Nat → Int32) (g_kinds : Nat → Int32) (g_walkers : Nat → Int32) (g_codeFrom : Nat → Int32) (g_codeEnd : Nat → Int32) (g_codes : Nat → Int32) (g_now : Nat → Int32) (g_gaps : Nat → Int32) (g_waits : Nat → Int32) (g_goes : Nat → Int32) (g_harms : Nat → Int32) (g_qPile : Nat → Int64) (p0 : Int32) (hx_qPiled : ib x_qPiled 0 1700) (hg_many_3 : ib (g_many 3) 0 12) (hg_bar_4 : ib (g_bar 4) 10 120) (hpg_walkers : ip g_walkers 48 2 0 0 5) (hg_codeFrom_5 : ib (g_codeFrom 5) (-1) 1600) (hg_codeEnd_5 : ib (g_codeEnd 5) 0 1600) (hg_gaps : ia g_gaps 300 0 20) (hG2 : ¬ g_codeFrom 5 = (-1) → okc g_codes 1600 false (g_codeFrom 5) (g_codeEnd 5)) : k_Met l yX10_learn cX10_learn 6 none { frames := 4, cells := 0, slots := 0, locals := 88 } dC dI cy sq [.ref a_this, .int p0] [(a_this, .inr (10, mfs rm x_taped x_at x_end x_ended x_bad x_badPlace x_fault x_faultPlace x_namePlace x_awayTold x_away x_coded x_statements x_isCrossing x_textKind x_askSecond x_redMany x_isOpen x_lastGreen x_greenTo x_isCycleGreen x_stillGreen x_rowMany x_fitMany x_fitRules x_fitGreen x_undoable x_newest x_seeded x_qCoded x_qWaits x_qOpened x_qBase x_qPiled x_qAnswer x_qIsNew x_octets)), (wi_rm41_0_4_0 rm cy g_many), (wi_rm49_0_6_0 rm cy g_codeFrom), (wi_rm46_0_48_0 rm cy g_walkers), (wi_rm56_0_9_0 rm cy g_now), (wi_rm50_0_6_0 rm cy g_codeEnd), (wi_rm116_1_1700_1 rm cy g_qPile), (wi_rm51_0_3200_0 rm cy g_codes), (wi_rm43_0_8_0 rm cy g_bar), (wi_rm65_0_12_0 rm cy g_waits), (wi_rm44_0_24_0 rm cy g_kinds), (wi_rm61_0_300_0 rm cy g_gaps), (wi_rm66_3_12_0 rm cy g_goes), (wi_rm67_3_12_0 rm cy g_harms)] (k_Qv dC dI (fun (u : Int32 × Int32 × (Nat → Int32) × (Nat → Int64)) => match u with | (n0, n1, n2, n3) => ib n1 0 1700 ∧ (F_X10_learn (Int32.toInt x_textKind) (Int32.toInt x_askSecond) (Int32.toInt x_redMany) (Int32.toInt x_qPiled) (lf_A g_many) (lf_A g_bar) (lf_A g_kinds) (lf_A g_walkers) (lf_A g_codeFrom) (lf_A g_codeEnd) (lf_A g_codes) (lf_A g_now) (lf_A g_gaps) (lf_A g_waits) (lf_A g_goes) (lf_A g_harms) (lf_L g_qPile) (Int32.toInt p0) = ((Int32.toInt n0), (Int32.toInt n1), (lf_A n2), (lf_L n3)))) (fun u : Int32 × Int32 × (Nat → Int32) × (Nat → Int64) => match u with | (n0, n1, n2, n3) => [(a_this, .inr (10, mfs rm x_taped x_at x_end x_ended x_bad x_badPlace x_fault x_faultPlace x_namePlace x_awayTold x_away x_coded x_statements x_isCrossing n0 x_askSecond x_redMany x_isOpen x_lastGreen x_greenTo x_isCycleGreen x_stillGreen x_rowMany x_fitMany x_fitRules x_fitGreen x_undoable x_newest x_seeded x_qCoded x_qWaits x_qOpened x_qBase n1 x_qAnswer x_qIsNew x_octets)), (wi_rm41_0_4_0 rm cy g_many), (wi_rm49_0_6_0 rm cy g_codeFrom), (wi_rm46_0_48_0 rm cy g_walkers), (wi_rm56_0_9_0 rm cy n2), (wi_rm50_0_6_0 rm cy g_codeEnd), (wi_rm116_1_1700_1 rm cy n3), (wi_rm51_0_3200_0 rm cy g_codes), (wi_rm43_0_8_0 rm cy g_bar), (wi_rm65_0_12_0 rm cy g_waits), (wi_rm44_0_24_0 rm cy g_kinds), (wi_rm61_0_300_0 rm cy g_gaps), (wi_rm66_3_12_0 rm cy g_goes), (wi_rm67_3_12_0 rm cy g_harms)])) := by
  refine k_ofW2 (by decide +kernel) (Nat.le_of_ble_eq_true rfl) ?_
  intro p e s m below meth c A ls H locs args Q hQ C0 hZ hr hlk hin hP hD hA hS hl
  have C0 : k_cx p s m args c cX10_learn 6 RX10 dC dI cy sq := C0
  have hx := C0.1
  have hb := C0.2.1
  have hl : lv_has ls 6 [(0, .ref a_this), (1, .int p0)] := hl
  obtain ⟨O, hO⟩ : ∃ o, o = F_X10_learn (Int32.toInt x_textKind) (Int32.toInt x_askSecond) (Int32.toInt x_redMany) (Int32.toInt x_qPiled) (lf_A g_many) (lf_A g_bar) (lf_A g_kinds) (lf_A g_walkers) (lf_A g_codeFrom) (lf_A g_codeEnd) (lf_A g_codes) (lf_A g_now) (lf_A g_gaps) (lf_A g_waits) (lf_A g_goes) (lf_A g_harms) (lf_L g_qPile) (Int32.toInt p0) := ⟨_, rfl⟩
  have hq := hO
  unfold F_X10_learn at hq
  have jn2 : ∀ (n : Nat) (J2_l2 : Int32) (J2_c0_55 : Int32) (J2_c0_117 : Int32) (J2_a4 : Nat → Int32) (J2_a6 : Nat → Int64) (H : Heap) (locs : List Loc) (ls : Array Slot), ib J2_l2 0 12 → ib J2_c0_117 0 1700 → (O = F_X10_learn_2 (Int32.toInt x_askSecond) (Int32.toInt x_redMany) (lf_A g_many) (lf_A g_bar) (lf_A g_kinds) (lf_A g_walkers) (lf_A g_codeFrom) (lf_A g_codeEnd) (lf_A g_codes) (lf_A g_gaps) (lf_A g_waits) (lf_A g_goes) (lf_A g_harms) (Int32.toInt p0) n (Int32.toInt J2_l2) (Int32.toInt J2_c0_55) (Int32.toInt J2_c0_117) (lf_A J2_a4) (lf_L J2_a6)) → 13 ≤ J2_l2.toInt + (n : Int) → va_P (dC, dI) vwCl [(a_this, .inr (10, mfs rm x_taped x_at x_end x_ended x_bad x_badPlace x_fault x_faultPlace x_namePlace x_awayTold x_away x_coded x_statements x_isCrossing J2_c0_55 x_askSecond x_redMany x_isOpen x_lastGreen x_greenTo x_isCycleGreen x_stillGreen x_rowMany x_fitMany x_fitRules x_fitGreen x_undoable x_newest x_seeded x_qCoded x_qWaits x_qOpened x_qBase J2_c0_117 x_qAnswer x_qIsNew x_octets)), (wi_rm41_0_4_0 rm cy g_many), (wi_rm49_0_6_0 rm cy g_codeFrom), (wi_rm46_0_48_0 rm cy g_walkers), (wi_rm56_0_9_0 rm cy J2_a4), (wi_rm50_0_6_0 rm cy g_codeEnd), (wi_rm116_1_1700_1 rm cy J2_a6), (wi_rm51_0_3200_0 rm cy g_codes), (wi_rm43_0_8_0 rm cy g_bar), (wi_rm65_0_12_0 rm cy g_waits), (wi_rm44_0_24_0 rm cy g_kinds), (wi_rm61_0_300_0 rm cy g_gaps), (wi_rm66_3_12_0 rm cy g_goes), (wi_rm67_3_12_0 rm cy g_harms)] H → va_D A [(a_this, .inr (10, mfs rm x_taped x_at x_end x_ended x_bad x_badPlace x_fault x_faultPlace x_namePlace x_awayTold x_away x_coded x_statements x_isCrossing J2_c0_55 x_askSecond x_redMany x_isOpen x_lastGreen x_greenTo x_isCycleGreen x_stillGreen x_rowMany x_fitMany x_fitRules x_fitGreen x_undoable x_newest x_seeded x_qCoded x_qWaits x_qOpened x_qBase J2_c0_117 x_qAnswer x_qIsNew x_octets)), (wi_rm41_0_4_0 rm cy g_many), (wi_rm49_0_6_0 rm cy g_codeFrom), (wi_rm46_0_48_0 rm cy g_walkers), (wi_rm56_0_9_0 rm cy J2_a4), (wi_rm50_0_6_0 rm cy g_codeEnd), (wi_rm116_1_1700_1 rm cy J2_a6), (wi_rm51_0_3200_0 rm cy g_codes), (wi_rm43_0_8_0 rm cy g_bar), (wi_rm65_0_12_0 rm cy g_waits), (wi_rm44_0_24_0 rm cy g_kinds), (wi_rm61_0_300_0 rm cy g_gaps), (wi_rm66_3_12_0 rm cy g_goes), (wi_rm67_3_12_0 rm cy g_harms)] → va_S A s.heap H locs → lv_has ls 6 [(0, .ref a_this), (1, .int p0), (2, .int J2_l2)] → W p l e { frames := 4, cells := 0, slots := 0, locals := 88 } s m args below meth c H locs 0 0 Q (F0 m 2 ls []) := by
    as_aux_lemma =>
      intro n
      induction n with
      | zero =>
        intro J2_l2 J2_c0_55 J2_c0_117 J2_a4 J2_a6 H locs ls hJ2_l2 hJ2_c0_117 hq hm
        exact absurd hm (by have := hJ2_l2; unfold ib at this; omega)
      | succ n ih =>
        intro J2_l2 J2_c0_55 J2_c0_117 J2_a4 J2_a6 H locs ls hJ2_l2 hJ2_c0_117 hq hm2 hP hD hS hl
        have ih2 := ih
        obtain ⟨K2, hK2⟩ : ∃ K, K = F_X10_learn_2 (Int32.toInt x_askSecond) (Int32.toInt x_redMany) (lf_A g_many) (lf_A g_bar) (lf_A g_kinds) (lf_A g_walkers) (lf_A g_codeFrom) (lf_A g_codeEnd) (lf_A g_codes) (lf_A g_gaps) (lf_A g_waits) (lf_A g_goes) (lf_A g_harms) (Int32.toInt p0) n := ⟨_, rfl⟩
        have hq : O = F_X10_learn_2b (Int32.toInt x_askSecond) (Int32.toInt x_redMany) (lf_A g_many) (lf_A g_bar) (lf_A g_kinds) (lf_A g_walkers) (lf_A g_codeFrom) (lf_A g_codeEnd) (lf_A g_codes) (lf_A g_gaps) (lf_A g_waits) (lf_A g_goes) (lf_A g_harms) (Int32.toInt p0) K2 (Int32.toInt J2_l2) (Int32.toInt J2_c0_55) (Int32.toInt J2_c0_117) (lf_A J2_a4) (lf_L J2_a6) := by rw [hK2]; exact hq
        unfold F_X10_learn_2b at hq
        have jn89 : ∀ (J89_c0_55 : Int32) (J89_c0_117 : Int32) (J89_a4 : Nat → Int32) (J89_a6 : Nat → Int64) (H : Heap) (locs : List Loc) (ls : Array Slot), ib J2_l2 0 11 → ib (g_many 3) 1 12 → ib J89_c0_117 0 1700 → (O = F_X10_learn_89 (Int32.toInt J2_l2) K2 (Int32.toInt J89_c0_55) (Int32.toInt J89_c0_117) (lf_A J89_a4) (lf_L J89_a6)) → va_P (dC, dI) vwCl [(a_this, .inr (10, mfs rm x_taped x_at x_end x_ended x_bad x_badPlace x_fault x_faultPlace x_namePlace x_awayTold x_away x_coded x_statements x_isCrossing J89_c0_55 x_askSecond x_redMany x_isOpen x_lastGreen x_greenTo x_isCycleGreen x_stillGreen x_rowMany x_fitMany x_fitRules x_fitGreen x_undoable x_newest x_seeded x_qCoded x_qWaits x_qOpened x_qBase J89_c0_117 x_qAnswer x_qIsNew x_octets)), (wi_rm41_0_4_0 rm cy g_many), (wi_rm49_0_6_0 rm cy g_codeFrom), (wi_rm46_0_48_0 rm cy g_walkers), (wi_rm56_0_9_0 rm cy J89_a4), (wi_rm50_0_6_0 rm cy g_codeEnd), (wi_rm116_1_1700_1 rm cy J89_a6), (wi_rm51_0_3200_0 rm cy g_codes), (wi_rm43_0_8_0 rm cy g_bar), (wi_rm65_0_12_0 rm cy g_waits), (wi_rm44_0_24_0 rm cy g_kinds), (wi_rm61_0_300_0 rm cy g_gaps), (wi_rm66_3_12_0 rm cy g_goes), (wi_rm67_3_12_0 rm cy g_harms)] H → va_D A [(a_this, .inr (10, mfs rm x_taped x_at x_end x_ended x_bad x_badPlace x_fault x_faultPlace x_namePlace x_awayTold x_away x_coded x_statements x_isCrossing J89_c0_55 x_askSecond x_redMany x_isOpen x_lastGreen x_greenTo x_isCycleGreen x_stillGreen x_rowMany x_fitMany x_fitRules x_fitGreen x_undoable x_newest x_seeded x_qCoded x_qWaits x_qOpened x_qBase J89_c0_117 x_qAnswer x_qIsNew x_octets)), (wi_rm41_0_4_0 rm cy g_many), (wi_rm49_0_6_0 rm cy g_codeFrom), (wi_rm46_0_48_0 rm cy g_walkers), (wi_rm56_0_9_0 rm cy J89_a4), (wi_rm50_0_6_0 rm cy g_codeEnd), (wi_rm116_1_1700_1 rm cy J89_a6), (wi_rm51_0_3200_0 rm cy g_codes), (wi_rm43_0_8_0 rm cy g_bar), (wi_rm65_0_12_0 rm cy g_waits), (wi_rm44_0_24_0 rm cy g_kinds), (wi_rm61_0_300_0 rm cy g_gaps), (wi_rm66_3_12_0 rm cy g_goes), (wi_rm67_3_12_0 rm cy g_harms)] → va_S A s.heap H locs → lv_has ls 6 [(0, .ref a_this), (1, .int p0), (2, .int J2_l2)] → W p l e { frames := 4, cells := 0, slots := 0, locals := 88 } s m args below meth c H locs 0 0 Q (F0 m 89 ls []) := by
          intro J89_c0_55 J89_c0_117 J89_a4 J89_a6 H locs ls hK89_J2_l2 hJ89_a1_3 hJ89_c0_117 hq hP hD hS hl
          unfold F_X10_learn_89 at hq
          obtain ⟨z1, ez1⟩ : ∃ y : Int32, y = J2_l2 + 1 := ⟨_, rfl⟩
          refine lv_iinc (v := z1) (lv' := [(2, .int z1), (0, .ref a_this), (1, .int p0)]) hx hb dX10_learn_89 hl (k := 2) rfl (by rw [ez1]; rfl) (Nat.le_of_ble_eq_true rfl) rfl (fun ls hl => ?_)
          have h2 := ib_add hK89_J2_l2 (ib_c 1 1 1 rfl) rfl
          rw [← ez1] at h2
          have h3 : ib z1 1 12 := ib_w 1 12 h2.1 rfl
          have Ez1 := lf_add h2.2 (lf_rf J2_l2) (lf_lc 1 (1 : Int) rfl)
          refine lv_goto (tgt := 2) hx hb dX10_learn_92 rfl ?_
          exact ih2 z1 J89_c0_55 J89_c0_117 J89_a4 J89_a6 H locs ls (ib_w 0 12 h3 rfl) (ib_w 0 1700 hJ89_c0_117 rfl) (by rw [← hK2]; rw [lf_u Ez1]; exact hq) (by have := h2.2; have : (1 : Int32).toInt = 1 := rfl; omega) hP hD hS (lv_sub hl [1, 2, 0] rfl)
        have jn88 : ∀ (J88_l3 : Int32) (J88_l4 : Int64) (J88_s0 : Int32) (J88_s1 : Int32) (J88_c0_117 : Int32) (J88_a6 : Nat → Int64) (H : Heap) (locs : List Loc) (ls : Array Slot), ib J2_l2 0 11 → ib J88_l3 0 5 → ib J88_s1 3 8 → ib J88_c0_117 0 1600 → ib (g_many 3) 1 12 → ib (g_codeFrom 5) 0 1600 → (O = F_X10_learn_88 (Int32.toInt J2_l2) (lf_A J2_a4) K2 (Int32.toInt J88_l3) (Int64.toInt J88_l4) (Int32.toInt J88_s0) (Int32.toInt J88_s1) (Int32.toInt J88_c0_117) (lf_L J88_a6)) → va_P (dC, dI) vwCl [(a_this, .inr (10, mfs rm x_taped x_at x_end x_ended x_bad x_badPlace x_fault x_faultPlace x_namePlace x_awayTold x_away x_coded x_statements x_isCrossing 2 x_askSecond x_redMany x_isOpen x_lastGreen x_greenTo x_isCycleGreen x_stillGreen x_rowMany x_fitMany x_fitRules x_fitGreen x_undoable x_newest x_seeded x_qCoded x_qWaits x_qOpened x_qBase J88_c0_117 x_qAnswer x_qIsNew x_octets)), (wi_rm41_0_4_0 rm cy g_many), (wi_rm49_0_6_0 rm cy g_codeFrom), (wi_rm46_0_48_0 rm cy g_walkers), (wi_rm56_0_9_0 rm cy J2_a4), (wi_rm50_0_6_0 rm cy g_codeEnd), (wi_rm116_1_1700_1 rm cy J88_a6), (wi_rm51_0_3200_0 rm cy g_codes), (wi_rm43_0_8_0 rm cy g_bar), (wi_rm65_0_12_0 rm cy g_waits), (wi_rm44_0_24_0 rm cy g_kinds), (wi_rm61_0_300_0 rm cy g_gaps), (wi_rm66_3_12_0 rm cy g_goes), (wi_rm67_3_12_0 rm cy g_harms)] H → va_D A [(a_this, .inr (10, mfs rm x_taped x_at x_end x_ended x_bad x_badPlace x_fault x_faultPlace x_namePlace x_awayTold x_away x_coded x_statements x_isCrossing 2 x_askSecond x_redMany x_isOpen x_lastGreen x_greenTo x_isCycleGreen x_stillGreen x_rowMany x_fitMany x_fitRules x_fitGreen x_undoable x_newest x_seeded x_qCoded x_qWaits x_qOpened x_qBase J88_c0_117 x_qAnswer x_qIsNew x_octets)), (wi_rm41_0_4_0 rm cy g_many), (wi_rm49_0_6_0 rm cy g_codeFrom), (wi_rm46_0_48_0 rm cy g_walkers), (wi_rm56_0_9_0 rm cy J2_a4), (wi_rm50_0_6_0 rm cy g_codeEnd), (wi_rm116_1_1700_1 rm cy J88_a6), (wi_rm51_0_3200_0 rm cy g_codes), (wi_rm43_0_8_0 rm cy g_bar), (wi_rm65_0_12_0 rm cy g_waits), (wi_rm44_0_24_0 rm cy g_kinds), (wi_rm61_0_300_0 rm cy g_gaps), (wi_rm66_3_12_0 rm cy g_goes), (wi_rm67_3_12_0 rm cy g_harms)] → va_S A s.heap H locs → lv_has ls 6 [(0, .ref a_this), (1, .int p0), (2, .int J2_l2), (3, .int J88_l3), (4, .long J88_l4)] → W p l e { frames := 4, cells := 0, slots := 0, locals := 88 } s m args below meth c H locs 0 0 Q (F0 m 88 ls [.int J88_s0, .int J88_s1, .ref (rm 56)]) := by
          intro J88_l3 J88_l4 J88_s0 J88_s1 J88_c0_117 J88_a6 H locs ls hK88_J2_l2 hJ88_l3 hJ88_s1 hJ88_c0_117 hJ88_a1_3 hJ88_a2_5 hq hP hD hS hl
          unfold F_X10_learn_88 at hq
          refine va_iast hx hb C0.2.2.2.2.2.1 hP hD hS 4 0 rfl rfl (ib_in 9 hJ88_s1 rfl) dX10_learn_88 (fun H locs hP hD hS => ?_)
          replace hP : va_P (dC, dI) vwCl [(a_this, .inr (10, mfs rm x_taped x_at x_end x_ended x_bad x_badPlace x_fault x_faultPlace x_namePlace x_awayTold x_away x_coded x_statements x_isCrossing 2 x_askSecond x_redMany x_isOpen x_lastGreen x_greenTo x_isCycleGreen x_stillGreen x_rowMany x_fitMany x_fitRules x_fitGreen x_undoable x_newest x_seeded x_qCoded x_qWaits x_qOpened x_qBase J88_c0_117 x_qAnswer x_qIsNew x_octets)), (wi_rm41_0_4_0 rm cy g_many), (wi_rm49_0_6_0 rm cy g_codeFrom), (wi_rm46_0_48_0 rm cy g_walkers), (wi_rm56_0_9_0 rm cy (upd J2_a4 (Int32.toNatClampNeg J88_s1) J88_s0)), (wi_rm50_0_6_0 rm cy g_codeEnd), (wi_rm116_1_1700_1 rm cy J88_a6), (wi_rm51_0_3200_0 rm cy g_codes), (wi_rm43_0_8_0 rm cy g_bar), (wi_rm65_0_12_0 rm cy g_waits), (wi_rm44_0_24_0 rm cy g_kinds), (wi_rm61_0_300_0 rm cy g_gaps), (wi_rm66_3_12_0 rm cy g_goes), (wi_rm67_3_12_0 rm cy g_harms)] H := hP
          replace hD := k_D hP hD
          generalize ef4 : upd J2_a4 (Int32.toNatClampNeg J88_s1) J88_s0 = f4 at hP hD
          have Ef4 := lf_st ef4 (lf_ra J2_a4) (lf_rf J88_s1) (lf_rf J88_s0)
          exact jn89 2 J88_c0_117 f4 J88_a6 H locs ls (ib_w 0 11 hK88_J2_l2 rfl) (ib_w 1 12 hJ88_a1_3 rfl) (ib_w 0 1700 hJ88_c0_117 rfl) (by try simp only [show (2 : Int32).toInt = (2 : Int) from rfl]; rw [lf_ua Ef4]; exact hq) hP hD hS (lv_sub hl [0, 1, 2] rfl)
        refine lv_iload_n hx hb dX10_learn_2 rfl (lv_at hl 2 rfl) ?_
        refine lv_aload_n hx hb dX10_learn_3 rfl (lv_at hl 0 rfl) ?_
        refine k_jim hP hD hS hA [0, 1] [false, false, true, true, true, true, true, true, true, true, true, true, true, true] rfl rfl (by decide +kernel) 0 0 (Nat.le_of_ble_eq_true rfl) (Nat.le_of_ble_eq_true rfl) (fun hPc hDc => k_runV (As := []) (rest := [.int J2_l2]) C0 hZ hS hA (s_X10_walkerMany l dC dI cy sq a_this rm x_taped x_at x_end x_ended x_bad x_badPlace x_fault x_faultPlace x_namePlace x_awayTold x_away x_coded x_statements x_isCrossing J2_c0_55 x_askSecond x_redMany x_isOpen x_lastGreen x_greenTo x_isCycleGreen x_stillGreen x_rowMany x_fitMany x_fitRules x_fitGreen x_undoable x_newest x_seeded x_qCoded x_qWaits x_qOpened x_qBase J2_c0_117 x_qAnswer x_qIsNew x_octets g_many ) mV_X10_433 hPc hDc rfl rfl rfl hl rfl rfl (Nat.le_of_ble_eq_true rfl) ⟨(Nat.le_of_ble_eq_true rfl), (Nat.le_of_ble_eq_true rfl)⟩ ⟨(Nat.le_of_ble_eq_true rfl), (Nat.le_of_ble_eq_true rfl)⟩ dX10_learn_4) (fun r5 u6 H locs hw hP hD hS => ?_)
        try dsimp only at hP hD hw
        replace hP : va_P (dC, dI) vwCl [(wi_rm49_0_6_0 rm cy g_codeFrom), (wi_rm46_0_48_0 rm cy g_walkers), (wi_rm56_0_9_0 rm cy J2_a4), (wi_rm50_0_6_0 rm cy g_codeEnd), (wi_rm116_1_1700_1 rm cy J2_a6), (wi_rm51_0_3200_0 rm cy g_codes), (wi_rm43_0_8_0 rm cy g_bar), (wi_rm65_0_12_0 rm cy g_waits), (wi_rm44_0_24_0 rm cy g_kinds), (wi_rm61_0_300_0 rm cy g_gaps), (wi_rm66_3_12_0 rm cy g_goes), (wi_rm67_3_12_0 rm cy g_harms), (a_this, .inr (10, mfs rm x_taped x_at x_end x_ended x_bad x_badPlace x_fault x_faultPlace x_namePlace x_awayTold x_away x_coded x_statements x_isCrossing J2_c0_55 x_askSecond x_redMany x_isOpen x_lastGreen x_greenTo x_isCycleGreen x_stillGreen x_rowMany x_fitMany x_fitRules x_fitGreen x_undoable x_newest x_seeded x_qCoded x_qWaits x_qOpened x_qBase J2_c0_117 x_qAnswer x_qIsNew x_octets)), (wi_rm41_0_4_0 rm cy g_many)] H := hP
        replace hD := k_D hP hD
        obtain ⟨h7, h8⟩ := hw
        subst h7
        replace hq := lf_b1 hq h8
        refine lv_icmp_ge (tgt := 95) hx hb dX10_learn_7 rfl (fun c9 => ?_) (fun c9 => ?_)
        · replace hq := lf_pos hq (lf_le (lf_pt (lf_ra g_many) 3) (lf_rf J2_l2) c9)
          have h10 := ib_le hg_many_3 hJ2_l2 c9
          subst hQ; exact k_vret hx hb hr hlk ((J2_c0_55, J2_c0_117, J2_a4, J2_a6)) hS ⟨ib_w 0 1700 hJ2_c0_117 rfl, (hO.symm.trans (by exact hq))⟩ (hP.sub [12, 13, 0, 1, 2, 3, 4, 5, 6, 7, 8, 9, 10, 11] rfl) (hD.sub [12, 13, 0, 1, 2, 3, 4, 5, 6, 7, 8, 9, 10, 11] (by decide +kernel) rfl) (Nat.le_of_ble_eq_true rfl) (Nat.le_of_ble_eq_true rfl) dX10_learn_95
        · as_aux_lemma =>
            replace hq := lf_neg hq (lf_nle (lf_pt (lf_ra g_many) 3) (lf_rf J2_l2) c9)
            have h11 := ib_nle hg_many_3 hJ2_l2 c9
            have h12 : ib (g_many 3) 1 12 := ib_w 1 12 h11.1 rfl
            have h13 : ib J2_l2 0 11 := ib_w 0 11 h11.2 rfl
            refine lv_iload_n hx hb dX10_learn_10 rfl (lv_at hl 1 rfl) ?_
            refine lv_iload_n hx hb dX10_learn_11 rfl (lv_at hl 2 rfl) ?_
            refine lv_ishr hx hb dX10_learn_12 ?_
            refine lv_topi (fun z14 ez14 => ?_)
            have Ez14 := lf_op lf_ishr ez14 (lf_rf p0) (lf_rf J2_l2)
            refine lv_iconst (v := 1) hx hb dX10_learn_13 rfl ?_
            refine lv_iand hx hb dX10_learn_14 ?_
            refine lv_topi (fun z15 ez15 => ?_)
            have h16 : ib z15 0 1 := by rw [ez15]; exact ib_and 1 (by decide) (by decide) 1 (by decide)
            have Ez15 := lf_op lf_iand ez15 Ez14 (lf_lc 1 (1 : Int) rfl)
            refine lv_iconst (v := 1) hx hb dX10_learn_15 rfl ?_
            refine lv_icmp_eq (tgt := 89) hx hb dX10_learn_16 rfl (fun c17 => ?_) (fun c17 => ?_)
            · replace hq := lf_pos hq (lf_eq Ez15 (lf_lc 1 (1 : Int) rfl) c17)
              have h18 := ib_eq h16 (ib_c 1 1 1 rfl) c17
              have h19 : ib z15 1 1 := ib_w 1 1 h18.1 rfl
              exact jn89 J2_c0_55 J2_c0_117 J2_a4 J2_a6 H locs ls (ib_w 0 11 h13 rfl) (ib_w 1 12 h12 rfl) (ib_w 0 1700 hJ2_c0_117 rfl) (by exact hq) (hP.sub [12, 13, 0, 1, 2, 3, 4, 5, 6, 7, 8, 9, 10, 11] rfl) (hD.sub [12, 13, 0, 1, 2, 3, 4, 5, 6, 7, 8, 9, 10, 11] (by decide +kernel) rfl) hS (lv_sub hl [0, 1, 2] rfl)
            · as_aux_lemma =>
                replace hq := lf_neg hq (lf_ne Ez15 (lf_lc 1 (1 : Int) rfl) c17)
                have h20 : ib z15 0 0 := ib_w 0 0 (ib_ne_hi 1 h16 rfl c17) rfl
                refine lv_aload_n hx hb dX10_learn_19 rfl (lv_at hl 0 rfl) ?_
                refine k_get C0 fg_X10_130 hP 12 rfl rfl dX10_learn_20 ?_
                refine lv_iconst (v := 5) hx hb dX10_learn_23 rfl ?_
                refine va_iald hx hb C0.2.2.2.2.2.1 hP 0 0 rfl rfl (k_in 5 6 rfl) dX10_learn_24 ?_
                refine k_topi (y := g_codeFrom 5) rfl ?_
                refine lv_iconst (v := (-1)) hx hb dX10_learn_25 rfl ?_
                refine lv_icmp_ne (tgt := 32) hx hb dX10_learn_26 rfl (fun c21 => ?_) (fun c21 => ?_)
                · as_aux_lemma =>
                    replace hq := lf_neg hq (lf_ne (lf_pt (lf_ra g_codeFrom) 5) (lf_lc (-1) (-1 : Int) rfl) c21)
                    have h22 : ib (g_codeFrom 5) 0 1600 := ib_w 0 1600 (ib_ne_lo (-1) hg_codeFrom_5 rfl c21) rfl
                    refine lv_aload_n hx hb dX10_learn_32 rfl (lv_at hl 0 rfl) ?_
                    refine lv_iload_n hx hb dX10_learn_33 rfl (lv_at hl 2 rfl) ?_
                    refine k_jim hP hD hS hA [12, 1] [true, false, true, true, true, true, true, true, true, true, true, true, false, true] rfl rfl (by decide +kernel) 0 0 (Nat.le_of_ble_eq_true rfl) (Nat.le_of_ble_eq_true rfl) (fun hPc hDc => k_runV (As := [.int J2_l2]) (rest := []) C0 hZ hS hA (s_X10_kindOf l dC dI cy sq a_this rm x_taped x_at x_end x_ended x_bad x_badPlace x_fault x_faultPlace x_namePlace x_awayTold x_away x_coded x_statements x_isCrossing J2_c0_55 x_askSecond x_redMany x_isOpen x_lastGreen x_greenTo x_isCycleGreen x_stillGreen x_rowMany x_fitMany x_fitRules x_fitGreen x_undoable x_newest x_seeded x_qCoded x_qWaits x_qOpened x_qBase J2_c0_117 x_qAnswer x_qIsNew x_octets g_walkers J2_l2 hpg_walkers (ib_w 0 11 h13 rfl)) mV_X10_436 hPc hDc rfl rfl rfl hl rfl rfl (Nat.le_of_ble_eq_true rfl) ⟨(Nat.le_of_ble_eq_true rfl), (Nat.le_of_ble_eq_true rfl)⟩ ⟨(Nat.le_of_ble_eq_true rfl), (Nat.le_of_ble_eq_true rfl)⟩ dX10_learn_34) (fun r23 u24 H locs hw hP hD hS => ?_)
                    try dsimp only at hP hD hw
                    replace hP : va_P (dC, dI) vwCl [(wi_rm49_0_6_0 rm cy g_codeFrom), (wi_rm56_0_9_0 rm cy J2_a4), (wi_rm50_0_6_0 rm cy g_codeEnd), (wi_rm116_1_1700_1 rm cy J2_a6), (wi_rm51_0_3200_0 rm cy g_codes), (wi_rm43_0_8_0 rm cy g_bar), (wi_rm65_0_12_0 rm cy g_waits), (wi_rm44_0_24_0 rm cy g_kinds), (wi_rm61_0_300_0 rm cy g_gaps), (wi_rm66_3_12_0 rm cy g_goes), (wi_rm67_3_12_0 rm cy g_harms), (wi_rm41_0_4_0 rm cy g_many), (a_this, .inr (10, mfs rm x_taped x_at x_end x_ended x_bad x_badPlace x_fault x_faultPlace x_namePlace x_awayTold x_away x_coded x_statements x_isCrossing J2_c0_55 x_askSecond x_redMany x_isOpen x_lastGreen x_greenTo x_isCycleGreen x_stillGreen x_rowMany x_fitMany x_fitRules x_fitGreen x_undoable x_newest x_seeded x_qCoded x_qWaits x_qOpened x_qBase J2_c0_117 x_qAnswer x_qIsNew x_octets)), (wi_rm46_0_48_0 rm cy g_walkers)] H := hP
                    replace hD := k_D hP hD
                    obtain ⟨h25, h26⟩ := hw
                    replace hq := lf_b1 hq h26
                    refine lv_istore_n (lv' := [(3, .int r23), (0, .ref a_this), (1, .int p0), (2, .int J2_l2)]) hx hb dX10_learn_37 rfl hl (Nat.le_of_ble_eq_true rfl) rfl (fun ls hl => ?_)
                    refine lv_aload_n hx hb dX10_learn_38 rfl (lv_at hl 1 rfl) ?_
                    refine lv_iload_n hx hb dX10_learn_39 rfl (lv_at hl 0 rfl) ?_
                    refine k_jim hP hD hS hA [12, 1] [true, false, true, true, true, true, true, true, true, true, true, true, false, true] rfl rfl (by decide +kernel) 0 0 (Nat.le_of_ble_eq_true rfl) (Nat.le_of_ble_eq_true rfl) (fun hPc hDc => k_runV (As := [.int r23]) (rest := []) C0 hZ hS hA (s_X10_trustsOf l dC dI cy sq a_this rm x_taped x_at x_end x_ended x_bad x_badPlace x_fault x_faultPlace x_namePlace x_awayTold x_away x_coded x_statements x_isCrossing J2_c0_55 x_askSecond x_redMany x_isOpen x_lastGreen x_greenTo x_isCycleGreen x_stillGreen x_rowMany x_fitMany x_fitRules x_fitGreen x_undoable x_newest x_seeded x_qCoded x_qWaits x_qOpened x_qBase J2_c0_117 x_qAnswer x_qIsNew x_octets J2_a4 r23 (ib_w 0 5 h25 rfl)) mV_X10_463 hPc hDc rfl rfl rfl hl rfl rfl (Nat.le_of_ble_eq_true rfl) ⟨(Nat.le_of_ble_eq_true rfl), (Nat.le_of_ble_eq_true rfl)⟩ ⟨(Nat.le_of_ble_eq_true rfl), (Nat.le_of_ble_eq_true rfl)⟩ dX10_learn_40) (fun r27 u28 H locs hw hP hD hS => ?_)
                    try dsimp only at hP hD hw
                    replace hP : va_P (dC, dI) vwCl [(wi_rm49_0_6_0 rm cy g_codeFrom), (wi_rm50_0_6_0 rm cy g_codeEnd), (wi_rm116_1_1700_1 rm cy J2_a6), (wi_rm51_0_3200_0 rm cy g_codes), (wi_rm43_0_8_0 rm cy g_bar), (wi_rm65_0_12_0 rm cy g_waits), (wi_rm44_0_24_0 rm cy g_kinds), (wi_rm61_0_300_0 rm cy g_gaps), (wi_rm66_3_12_0 rm cy g_goes), (wi_rm67_3_12_0 rm cy g_harms), (wi_rm41_0_4_0 rm cy g_many), (wi_rm46_0_48_0 rm cy g_walkers), (a_this, .inr (10, mfs rm x_taped x_at x_end x_ended x_bad x_badPlace x_fault x_faultPlace x_namePlace x_awayTold x_away x_coded x_statements x_isCrossing J2_c0_55 x_askSecond x_redMany x_isOpen x_lastGreen x_greenTo x_isCycleGreen x_stillGreen x_rowMany x_fitMany x_fitRules x_fitGreen x_undoable x_newest x_seeded x_qCoded x_qWaits x_qOpened x_qBase J2_c0_117 x_qAnswer x_qIsNew x_octets)), (wi_rm56_0_9_0 rm cy J2_a4)] H := hP
                    replace hD := k_D hP hD
                    have h29 := hw
                    replace hq := lf_b1 hq h29
                    refine lv_i2l (v := r27.toInt64) hx hb dX10_learn_43 rfl ?_
                    refine lv_aload_n hx hb dX10_learn_44 rfl (lv_at hl 1 rfl) ?_
                    refine lv_iconst (v := 2) hx hb dX10_learn_45 rfl ?_
                    refine lv_iload_n hx hb dX10_learn_46 rfl (lv_at hl 3 rfl) ?_
                    refine k_jlm hP hD hS hA [12, 0, 1, 2, 3, 11, 13, 4, 5, 6, 7, 8, 9] [false, false, false, false, false, false, false, false, false, false, true] rfl rfl (by decide +kernel) 0 0 (Nat.le_of_ble_eq_true rfl) (Nat.le_of_ble_eq_true rfl) (fun hPc hDc => k_runV (As := [.int 2, .int J2_l2]) (rest := [.long r27.toInt64]) C0 hZ hS hA (s_X10_codesTell_a0_2 l dC dI cy sq a_this rm x_taped x_at x_end x_ended x_bad x_badPlace x_fault x_faultPlace x_namePlace x_awayTold x_away x_coded x_statements x_isCrossing J2_c0_55 x_askSecond x_redMany x_isOpen x_lastGreen x_greenTo x_isCycleGreen x_stillGreen x_rowMany x_fitMany x_fitRules x_fitGreen x_undoable x_newest x_seeded x_qCoded x_qWaits x_qOpened x_qBase J2_c0_117 x_qAnswer x_qIsNew x_octets g_bar g_kinds g_walkers g_codeFrom g_codeEnd g_codes J2_a4 g_gaps g_waits g_goes g_harms J2_a6 J2_l2 (ib_w 10 120 hg_bar_4 rfl) hpg_walkers (ib_w 0 1600 h22 rfl) (ib_w 0 1600 hg_codeEnd_5 rfl) hg_gaps hG2 (ib_w 0 11 h13 rfl)) mV_X10_457 hPc hDc rfl rfl rfl hl rfl rfl (Nat.le_of_ble_eq_true rfl) ⟨(Nat.le_of_ble_eq_true rfl), (Nat.le_of_ble_eq_true rfl)⟩ ⟨(Nat.le_of_ble_eq_true rfl), (Nat.le_of_ble_eq_true rfl)⟩ dX10_learn_47) (fun r30 u31 H locs hw hP hD hS => ?_)
                    obtain ⟨v32, f33⟩ := u31
                    try dsimp only at hP hD hw
                    replace hP : va_P (dC, dI) vwCl [(wi_rm41_0_4_0 rm cy g_many), (a_this, .inr (10, mfs rm x_taped x_at x_end x_ended x_bad x_badPlace x_fault x_faultPlace x_namePlace x_awayTold x_away x_coded x_statements x_isCrossing 2 x_askSecond x_redMany x_isOpen x_lastGreen x_greenTo x_isCycleGreen x_stillGreen x_rowMany x_fitMany x_fitRules x_fitGreen x_undoable x_newest x_seeded x_qCoded x_qWaits x_qOpened x_qBase v32 x_qAnswer x_qIsNew x_octets)), (wi_rm49_0_6_0 rm cy g_codeFrom), (wi_rm50_0_6_0 rm cy g_codeEnd), (wi_rm116_1_1700_1 rm cy f33), (wi_rm51_0_3200_0 rm cy g_codes), (wi_rm46_0_48_0 rm cy g_walkers), (wi_rm56_0_9_0 rm cy J2_a4), (wi_rm43_0_8_0 rm cy g_bar), (wi_rm65_0_12_0 rm cy g_waits), (wi_rm44_0_24_0 rm cy g_kinds), (wi_rm61_0_300_0 rm cy g_gaps), (wi_rm66_3_12_0 rm cy g_goes), (wi_rm67_3_12_0 rm cy g_harms)] H := hP
                    replace hD := k_D hP hD
                    obtain ⟨h34, h35⟩ := hw
                    replace hq := lf_p1 hq h35
                    as_aux_lemma =>
                      replace hq := lf_p1 hq rfl
                      refine lv_ladd hx hb dX10_learn_50 ?_
                      refine lv_topl (fun z36 ez36 => ?_)
                      have Ez36 := lf_opl lf_ladd ez36 (lf_i2l (lf_rf r27)) (lf_rl r30)
                      refine lv_lstore (lv' := [(4, .long z36), (3, .int r23), (0, .ref a_this), (1, .int p0), (2, .int J2_l2)]) hx hb dX10_learn_51 hl (Nat.le_of_ble_eq_true rfl) rfl (fun ls hl => ?_)
                      refine lv_aload_n hx hb dX10_learn_53 rfl (lv_at hl 2 rfl) ?_
                      refine k_get C0 fg_X10_139 hP 1 rfl rfl dX10_learn_54 ?_
                      refine lv_iconst (v := 3) hx hb dX10_learn_57 rfl ?_
                      refine lv_iload_n hx hb dX10_learn_58 rfl (lv_at hl 1 rfl) ?_
                      refine lv_iadd hx hb dX10_learn_59 ?_
                      refine lv_topi (fun z37 ez37 => ?_)
                      have h38 := ib_add (ib_c 3 3 3 rfl) h25 rfl
                      rw [← ez37] at h38
                      have h39 : ib z37 3 8 := ib_w 3 8 h38.1 rfl
                      have Ez37 := lf_add h38.2 (lf_lc 3 (3 : Int) rfl) (lf_rf r23)
                      refine lv_lload hx hb dX10_learn_60 (lv_at hl 0 rfl) ?_
                      refine lv_lconst (v := 0) hx hb dX10_learn_62 (by decide) ?_
                      refine W.lcmp hx hb dX10_learn_63 ?_
                      refine lv_topi (fun z40 ez40 => ?_)
                      have h41 : ib z40 (-1) 1 := by rw [ez40]; exact ib_cmp _ _
                      have Ez40 := lf_cmpe ez40 Ez36 (lf_ll 0 (0 : Int) rfl)
                      refine lv_if_ge (tgt := 71) hx hb dX10_learn_64 rfl (fun c42 => ?_) (fun c42 => ?_)
                      · as_aux_lemma =>
                          replace hq := lf_pos hq (lf_le (lf_lc 0 (0 : Int) rfl) Ez40 c42)
                          have h43 := ib_le (ib_c 0 0 0 rfl) h41 c42
                          have h44 : ib z40 0 1 := ib_w 0 1 h43.2 rfl
                          refine lv_lload hx hb dX10_learn_71 (lv_at hl 0 rfl) ?_
                          refine lv_ldc2 hx hb C0.2.2.2.1 (C0.2.2.2.2.1 _ wd1174) dX10_learn_73 ?_
                          refine W.lcmp hx hb dX10_learn_76 ?_
                          refine lv_topi (fun z45 ez45 => ?_)
                          have h46 : ib z45 (-1) 1 := by rw [ez45]; exact ib_cmp _ _
                          have Ez45 := lf_cmpe ez45 Ez36 (lf_ll 9 (9 : Int) rfl)
                          refine lv_if_le (tgt := 85) hx hb dX10_learn_77 rfl (fun c47 => ?_) (fun c47 => ?_)
                          · replace hq := lf_pos hq (lf_le Ez45 (lf_lc 0 (0 : Int) rfl) c47)
                            have h48 := ib_le h46 (ib_c 0 0 0 rfl) c47
                            have h49 : ib z45 (-1) 0 := ib_w (-1) 0 h48.1 rfl
                            refine lv_lload hx hb dX10_learn_85 (lv_at hl 0 rfl) ?_
                            refine lv_l2i hx hb dX10_learn_87 rfl ?_
                            refine lv_topi (fun z50 ez50 => ?_)
                            have Ez50 := lf_l2ie ez50 Ez36
                            exact jn88 r23 z36 z50 z37 v32 f33 H locs ls (ib_w 0 11 h13 rfl) (ib_w 0 5 h25 rfl) (ib_w 3 8 h39 rfl) (ib_w 0 1600 h34 rfl) (ib_w 1 12 h12 rfl) (ib_w 0 1600 h22 rfl) (by rw [lf_ul Ez36]; rw [lf_u Ez50]; rw [lf_u Ez37]; exact hq) (hP.sub [1, 0, 2, 6, 7, 3, 4, 5, 8, 9, 10, 11, 12, 13] rfl) (hD.sub [1, 0, 2, 6, 7, 3, 4, 5, 8, 9, 10, 11, 12, 13] (by decide +kernel) rfl) hS (lv_sub hl [2, 3, 4, 1, 0] rfl)
                          · replace hq := lf_neg hq (lf_nle Ez45 (lf_lc 0 (0 : Int) rfl) c47)
                            have h51 := ib_nle h46 (ib_c 0 0 0 rfl) c47
                            have h52 : ib z45 1 1 := ib_w 1 1 h51.1 rfl
                            refine lv_bipush (v := 9) hx hb dX10_learn_80 rfl ?_
                            refine lv_goto (tgt := 88) hx hb dX10_learn_82 rfl ?_
                            exact jn88 r23 z36 9 z37 v32 f33 H locs ls (ib_w 0 11 h13 rfl) (ib_w 0 5 h25 rfl) (ib_w 3 8 h39 rfl) (ib_w 0 1600 h34 rfl) (ib_w 1 12 h12 rfl) (ib_w 0 1600 h22 rfl) (by rw [lf_ul Ez36]; try simp only [show (9 : Int32).toInt = (9 : Int) from rfl]; rw [lf_u Ez37]; exact hq) (hP.sub [1, 0, 2, 6, 7, 3, 4, 5, 8, 9, 10, 11, 12, 13] rfl) (hD.sub [1, 0, 2, 6, 7, 3, 4, 5, 8, 9, 10, 11, 12, 13] (by decide +kernel) rfl) hS (lv_sub hl [2, 3, 4, 1, 0] rfl)
                      · replace hq := lf_neg hq (lf_nle (lf_lc 0 (0 : Int) rfl) Ez40 c42)
                        have h53 := ib_nle (ib_c 0 0 0 rfl) h41 c42
                        have h54 : ib z40 (-1) (-1) := ib_w (-1) (-1) h53.2 rfl
                        refine lv_iconst (v := 0) hx hb dX10_learn_67 rfl ?_
                        refine lv_goto (tgt := 88) hx hb dX10_learn_68 rfl ?_
                        exact jn88 r23 z36 0 z37 v32 f33 H locs ls (ib_w 0 11 h13 rfl) (ib_w 0 5 h25 rfl) (ib_w 3 8 h39 rfl) (ib_w 0 1600 h34 rfl) (ib_w 1 12 h12 rfl) (ib_w 0 1600 h22 rfl) (by rw [lf_ul Ez36]; try simp only [show (0 : Int32).toInt = (0 : Int) from rfl]; rw [lf_u Ez37]; exact hq) (hP.sub [1, 0, 2, 6, 7, 3, 4, 5, 8, 9, 10, 11, 12, 13] rfl) (hD.sub [1, 0, 2, 6, 7, 3, 4, 5, 8, 9, 10, 11, 12, 13] (by decide +kernel) rfl) hS (lv_sub hl [2, 3, 4, 1, 0] rfl)
                · replace hq := lf_pos hq (lf_eq (lf_pt (lf_ra g_codeFrom) 5) (lf_lc (-1) (-1 : Int) rfl) c21)
                  have h55 := ib_eq hg_codeFrom_5 (ib_c (-1) (-1) (-1) rfl) c21
                  have h56 : ib (g_codeFrom 5) (-1) (-1) := ib_w (-1) (-1) h55.1 rfl
                  refine lv_goto (tgt := 89) hx hb dX10_learn_29 rfl ?_
                  exact jn89 J2_c0_55 J2_c0_117 J2_a4 J2_a6 H locs ls (ib_w 0 11 h13 rfl) (ib_w 1 12 h12 rfl) (ib_w 0 1700 hJ2_c0_117 rfl) (by exact hq) (hP.sub [12, 13, 0, 1, 2, 3, 4, 5, 6, 7, 8, 9, 10, 11] rfl) (hD.sub [12, 13, 0, 1, 2, 3, 4, 5, 6, 7, 8, 9, 10, 11] (by decide +kernel) rfl) hS (lv_sub hl [0, 1, 2] rfl)
  refine lv_iconst (v := 0) hx hb dX10_learn_0 rfl ?_
  refine lv_istore_n (lv' := [(2, .int 0), (0, .ref a_this), (1, .int p0)]) hx hb dX10_learn_1 rfl hl (Nat.le_of_ble_eq_true rfl) rfl (fun ls hl => ?_)
  exact jn2 14 0 x_textKind x_qPiled g_now g_qPile H locs ls (ib_w 0 12 (ib_c 0 0 0 rfl) rfl) (ib_w 0 1700 hx_qPiled rfl) (by try simp only [show (0 : Int32).toInt = (0 : Int) from rfl]; exact hq) (by have := (ib_c 0 0 0 rfl); unfold ib at this; omega) hP hD hS (lv_sub hl [1, 2, 0] rfl)
set_option maxHeartbeats 4000000 in
set_option maxRecDepth 100000 in
theorem s_X10_dayGoes (l : Launch) (dC : Nat → ClassId) (dI : Nat → Nat → Nat) (cy : Nat → ClassId) (sq : Nat → Nat) (a_this : Nat) (rm : Nat → Nat) (x_taped : Int32) (x_at : Int32) (x_end : Int32) (x_ended : Int32) (x_bad : Int32) (x_badPlace : Int32) (x_fault : Int32) (x_faultPlace : Int32) (x_namePlace : Int32) (x_awayTold : Int32) (x_away : Int32) (x_coded : Int32) (x_statements : Int32) (x_isCrossing : Int32) (x_textKind : Int32) (x_askSecond : Int32) (x_redMany : Int32) (x_isOpen : Int32) (x_lastGreen : Int32) (x_greenTo : Int32) (x_isCycleGreen : Int32) (x_stillGreen : Int32) (x_rowMany : Int32) (x_fitMany : Int32) (x_fitRules : Int32) (x_fitGreen : Int32) (x_undoable : Int32) (x_newest : Int32) (x_seeded : Int64) (x_qCoded : Int32) (x_qWaits : Int32) (x_qOpened : Int32) (x_qBase : Int32) (x_qPiled : Int32) (x_qAnswer : Int64) (x_qIsNew : Int32) (x_octets : Int32) (g_many : Nat → Int32) (g_bar : Nat → Int32) (g_kinds : Nat → Int32) (g_walkers : Nat → Int32) (g_codeFrom : Nat → Int32) (g_codeEnd : Nat → Int32) (g_codes : Nat → Int32) (g_now : Nat → Int32) (g_isCar : Nat → Int32) (g_gaps : Nat → Int32) (g_isGreen : Nat → Int32) (g_isHere : Nat → Int32) (g_crosses : Nat → Int32) (g_waits : Nat → Int32) (g_goes : Nat → Int32) (g_harms : Nat → Int32) (g_presses : Nat → Int32) (g_crossedIn : Nat → Int32) (g_qPile : Nat → Int64) (p0 : Int32) (hx_qPiled : ib x_qPiled 0 1700) (hg_many_3 : ib (g_many 3) 0 12) (hg_bar_4 : ib (g_bar 4) 10 120) (hpg_walkers : ip g_walkers 48 2 0 0 5) (hg_codeFrom_3 : ib (g_codeFrom 3) (-1) 1600) (hg_codeFrom_4 : ib (g_codeFrom 4) (-1) 1600) (hg_codeFrom_5 : ib (g_codeFrom 5) (-1) 1600) (hg_codeEnd_3 : ib (g_codeEnd 3) 0 1600) (hg_codeEnd_4 : ib (g_codeEnd 4) 0 1600) (hg_codeEnd_5 : ib (g_codeEnd 5) 0 1600) (hg_gaps : ia g_gaps 300 0 20) (hG0 : ¬ g_codeFrom 3 = (-1) → okc g_codes 1600 false (g_codeFrom 3) (g_codeEnd 3)) (hG1 : ¬ g_codeFrom 4 = (-1) → okc g_codes 1600 true (g_codeFrom 4) (g_codeEnd 4)) (hG2 : ¬ g_codeFrom 5 = (-1) → okc g_codes 1600 false (g_codeFrom 5) (g_codeEnd 5)) : k_Met l yX10_dayGoes cX10_dayGoes 3 (some .int) { frames := 6, cells := 0, slots := 0, locals := 137 } dC dI cy sq [.ref a_this, .int p0] [(a_this, .inr (10, mfs rm x_taped x_at x_end x_ended x_bad x_badPlace x_fault x_faultPlace x_namePlace x_awayTold x_away x_coded x_statements x_isCrossing x_textKind x_askSecond x_redMany x_isOpen x_lastGreen x_greenTo x_isCycleGreen x_stillGreen x_rowMany x_fitMany x_fitRules x_fitGreen x_undoable x_newest x_seeded x_qCoded x_qWaits x_qOpened x_qBase x_qPiled x_qAnswer x_qIsNew x_octets)), (wi_rm49_0_6_0 rm cy g_codeFrom), (wi_rm50_0_6_0 rm cy g_codeEnd), (wi_rm116_1_1700_1 rm cy g_qPile), (wi_rm51_0_3200_0 rm cy g_codes), (wi_rm46_0_48_0 rm cy g_walkers), (wi_rm56_0_9_0 rm cy g_now), (wi_rm43_0_8_0 rm cy g_bar), (wi_rm65_0_12_0 rm cy g_waits), (wi_rm44_0_24_0 rm cy g_kinds), (wi_rm61_0_300_0 rm cy g_gaps), (wi_rm66_3_12_0 rm cy g_goes), (wi_rm67_3_12_0 rm cy g_harms), (wi_rm60_3_320_0 rm cy g_isCar), (wi_rm63_3_12_0 rm cy g_isHere), (wi_rm64_0_12_0 rm cy g_crosses), (wi_rm68_3_12_0 rm cy g_presses), (wi_rm69_3_300_0 rm cy g_crossedIn), (wi_rm41_0_4_0 rm cy g_many), (wi_rm62_3_300_0 rm cy g_isGreen)] (k_Qi dC dI (fun (r : Int32) (u : Int32 × Int32 × Int32 × Int32 × Int32 × Int32 × Int32 × Int32 × Int32 × (Nat → Int64) × (Nat → Int32) × (Nat → Int32) × (Nat → Int32) × (Nat → Int32) × (Nat → Int32) × (Nat → Int32) × (Nat → Int32) × (Nat → Int32) × (Nat → Int32) × (Nat → Int32) × (Nat → Int32)) => match u with | (n0, n1, n2, n3, n4, n5, n6, n7, n8, n9, n10, n11, n12, n13, n14, n15, n16, n17, n18, n19, n20) => ib n3 0 1 ∧ ib n6 0 1 ∧ ib n8 0 1700 ∧ ia n12 300 0 20 ∧ (F_X10_dayGoes (Int32.toInt x_textKind) (Int32.toInt x_askSecond) (Int32.toInt x_redMany) (Int32.toInt x_stillGreen) (Int32.toInt x_qPiled) (lf_A g_many) (lf_A g_bar) (lf_A g_kinds) (lf_A g_walkers) (lf_A g_codeFrom) (lf_A g_codeEnd) (lf_A g_codes) (lf_A g_now) (lf_A g_isCar) (lf_A g_gaps) (lf_A g_isGreen) (lf_A g_isHere) (lf_A g_crosses) (lf_A g_waits) (lf_A g_goes) (lf_A g_harms) (lf_A g_presses) (lf_A g_crossedIn) (lf_L g_qPile) (Int32.toInt p0) = ((Int32.toInt r), (Int32.toInt n0), (Int32.toInt n1), (Int32.toInt n2), (Int32.toInt n3), (Int32.toInt n4), (Int32.toInt n5), (Int32.toInt n6), (Int32.toInt n7), (Int32.toInt n8), (lf_L n9), (lf_A n10), (lf_A n11), (lf_A n12), (lf_A n13), (lf_A n14), (lf_A n15), (lf_A n16), (lf_A n17), (lf_A n18), (lf_A n19), (lf_A n20)))) (fun u : Int32 × Int32 × Int32 × Int32 × Int32 × Int32 × Int32 × Int32 × Int32 × (Nat → Int64) × (Nat → Int32) × (Nat → Int32) × (Nat → Int32) × (Nat → Int32) × (Nat → Int32) × (Nat → Int32) × (Nat → Int32) × (Nat → Int32) × (Nat → Int32) × (Nat → Int32) × (Nat → Int32) => match u with | (n0, n1, n2, n3, n4, n5, n6, n7, n8, n9, n10, n11, n12, n13, n14, n15, n16, n17, n18, n19, n20) => [(a_this, .inr (10, mfs rm x_taped x_at x_end x_ended x_bad x_badPlace x_fault x_faultPlace x_namePlace x_awayTold x_away x_coded x_statements x_isCrossing n0 n1 n2 n3 n4 n5 n6 n7 x_rowMany x_fitMany x_fitRules x_fitGreen x_undoable x_newest x_seeded x_qCoded x_qWaits x_qOpened x_qBase n8 x_qAnswer x_qIsNew x_octets)), (wi_rm49_0_6_0 rm cy g_codeFrom), (wi_rm50_0_6_0 rm cy g_codeEnd), (wi_rm116_1_1700_1 rm cy n9), (wi_rm51_0_3200_0 rm cy g_codes), (wi_rm46_0_48_0 rm cy g_walkers), (wi_rm56_0_9_0 rm cy n10), (wi_rm43_0_8_0 rm cy g_bar), (wi_rm65_0_12_0 rm cy n11), (wi_rm44_0_24_0 rm cy g_kinds), (wi_rm61_0_300_0 rm cy n12), (wi_rm66_3_12_0 rm cy n13), (wi_rm67_3_12_0 rm cy n14), (wi_rm60_3_320_0 rm cy n15), (wi_rm63_3_12_0 rm cy n16), (wi_rm64_0_12_0 rm cy n17), (wi_rm68_3_12_0 rm cy n18), (wi_rm69_3_300_0 rm cy n19), (wi_rm41_0_4_0 rm cy g_many), (wi_rm62_3_300_0 rm cy n20)])) := by
  refine k_ofW2 (by decide +kernel) (Nat.le_of_ble_eq_true rfl) ?_
  intro p e s m below meth c A ls H locs args Q hQ C0 hZ hr hlk hin hP hD hA hS hl
  have C0 : k_cx p s m args c cX10_dayGoes 3 RX10 dC dI cy sq := C0
  have hx := C0.1
  have hb := C0.2.1
  have hl : lv_has ls 3 [(0, .ref a_this), (1, .int p0)] := hl
  obtain ⟨O, hO⟩ : ∃ o, o = F_X10_dayGoes (Int32.toInt x_textKind) (Int32.toInt x_askSecond) (Int32.toInt x_redMany) (Int32.toInt x_stillGreen) (Int32.toInt x_qPiled) (lf_A g_many) (lf_A g_bar) (lf_A g_kinds) (lf_A g_walkers) (lf_A g_codeFrom) (lf_A g_codeEnd) (lf_A g_codes) (lf_A g_now) (lf_A g_isCar) (lf_A g_gaps) (lf_A g_isGreen) (lf_A g_isHere) (lf_A g_crosses) (lf_A g_waits) (lf_A g_goes) (lf_A g_harms) (lf_A g_presses) (lf_A g_crossedIn) (lf_L g_qPile) (Int32.toInt p0) := ⟨_, rfl⟩
  have hq := hO
  unfold F_X10_dayGoes at hq
  refine lv_aload_n hx hb dX10_dayGoes_0 rfl (lv_at hl 0 rfl) ?_
  refine k_jvm hP hD hS hA [0, 1, 2, 3, 4, 5, 6, 7, 8, 9, 10, 11, 12, 13] [false, false, false, false, false, false, false, false, false, false, false, false, false, false, true, true, true, true, true, true] rfl rfl (by decide +kernel) 0 0 (Nat.le_of_ble_eq_true rfl) (Nat.le_of_ble_eq_true rfl) (fun hPc hDc => k_runV (As := []) (rest := []) C0 hZ hS hA (s_X10_laysCars l dC dI cy sq a_this rm x_taped x_at x_end x_ended x_bad x_badPlace x_fault x_faultPlace x_namePlace x_awayTold x_away x_coded x_statements x_isCrossing x_textKind x_askSecond x_redMany x_isOpen x_lastGreen x_greenTo x_isCycleGreen x_stillGreen x_rowMany x_fitMany x_fitRules x_fitGreen x_undoable x_newest x_seeded x_qCoded x_qWaits x_qOpened x_qBase x_qPiled x_qAnswer x_qIsNew x_octets g_bar g_kinds g_walkers g_codeFrom g_codeEnd g_codes g_now g_isCar g_gaps g_waits g_goes g_harms g_qPile (ib_w 0 1700 hx_qPiled rfl) (ib_w 10 120 hg_bar_4 rfl) hpg_walkers (ib_w (-1) 1600 hg_codeFrom_3 rfl) (ib_w 0 1600 hg_codeEnd_3 rfl) hg_gaps hG0) mV_X10_501 hPc hDc rfl rfl rfl hl rfl rfl (Nat.le_of_ble_eq_true rfl) ⟨(Nat.le_of_ble_eq_true rfl), (Nat.le_of_ble_eq_true rfl)⟩ ⟨(Nat.le_of_ble_eq_true rfl), (Nat.le_of_ble_eq_true rfl)⟩ dX10_dayGoes_1) (fun u2 H locs hw hP hD hS => ?_)
  obtain ⟨v3, v4, v5, f6, f7, f8⟩ := u2
  try dsimp only at hP hD hw
  replace hP : va_P (dC, dI) vwCl [(wi_rm63_3_12_0 rm cy g_isHere), (wi_rm64_0_12_0 rm cy g_crosses), (wi_rm68_3_12_0 rm cy g_presses), (wi_rm69_3_300_0 rm cy g_crossedIn), (wi_rm41_0_4_0 rm cy g_many), (wi_rm62_3_300_0 rm cy g_isGreen), (a_this, .inr (10, mfs rm x_taped x_at x_end x_ended x_bad x_badPlace x_fault x_faultPlace x_namePlace x_awayTold x_away x_coded x_statements x_isCrossing v3 v4 x_redMany x_isOpen x_lastGreen x_greenTo x_isCycleGreen x_stillGreen x_rowMany x_fitMany x_fitRules x_fitGreen x_undoable x_newest x_seeded x_qCoded x_qWaits x_qOpened x_qBase v5 x_qAnswer x_qIsNew x_octets)), (wi_rm49_0_6_0 rm cy g_codeFrom), (wi_rm50_0_6_0 rm cy g_codeEnd), (wi_rm116_1_1700_1 rm cy f6), (wi_rm51_0_3200_0 rm cy g_codes), (wi_rm46_0_48_0 rm cy g_walkers), (wi_rm56_0_9_0 rm cy g_now), (wi_rm43_0_8_0 rm cy g_bar), (wi_rm65_0_12_0 rm cy g_waits), (wi_rm44_0_24_0 rm cy g_kinds), (wi_rm61_0_300_0 rm cy f7), (wi_rm66_3_12_0 rm cy g_goes), (wi_rm67_3_12_0 rm cy g_harms), (wi_rm60_3_320_0 rm cy f8)] H := hP
  replace hD := k_D hP hD
  obtain ⟨h9, h10, h11⟩ := hw
  replace hq := lf_p1 hq h11
  replace hq := lf_p1 hq rfl
  replace hq := lf_p1 hq rfl
  replace hq := lf_p1 hq rfl
  replace hq := lf_p1 hq rfl
  refine lv_aload_n hx hb dX10_dayGoes_4 rfl (lv_at hl 0 rfl) ?_
  refine lv_aload_n hx hb dX10_dayGoes_5 rfl (lv_at hl 0 rfl) ?_
  refine k_get C0 fg_X10_139 hP 6 rfl rfl dX10_dayGoes_6 ?_
  refine lv_iconst (v := 1) hx hb dX10_dayGoes_9 rfl ?_
  refine va_iald hx hb C0.2.2.2.2.2.1 hP 12 0 rfl rfl (k_in 1 9 rfl) dX10_dayGoes_10 ?_
  refine lv_topi (fun z12 ez12 => ?_)
  have Ez12 := lf_ld ez12 (lf_ra g_now) (lf_lc 1 (1 : Int) rfl)
  refine lv_aload_n hx hb dX10_dayGoes_11 rfl (lv_at hl 0 rfl) ?_
  refine k_get C0 fg_X10_139 hP 6 rfl rfl dX10_dayGoes_12 ?_
  as_aux_lemma =>
    refine lv_iconst (v := 2) hx hb dX10_dayGoes_15 rfl ?_
    refine va_iald hx hb C0.2.2.2.2.2.1 hP 12 0 rfl rfl (k_in 2 9 rfl) dX10_dayGoes_16 ?_
    refine lv_topi (fun z13 ez13 => ?_)
    have Ez13 := lf_ld ez13 (lf_ra g_now) (lf_lc 2 (2 : Int) rfl)
    refine lv_iload_n hx hb dX10_dayGoes_17 rfl (lv_at hl 1 rfl) ?_
    refine lv_iconst (v := 0) hx hb dX10_dayGoes_18 rfl ?_
    refine k_jvm hP hD hS hA [6, 0, 1, 14, 17, 18, 2, 3, 4, 11, 12, 5, 13, 15, 7, 8, 9, 10, 16] [false, false, false, false, false, false, false, false, false, false, false, false, false, false, false, false, false, false, false, true] rfl rfl (by decide +kernel) 0 0 (Nat.le_of_ble_eq_true rfl) (Nat.le_of_ble_eq_true rfl) (fun hPc hDc => k_runV (As := [.int z12, .int z13, .int p0, .int 0]) (rest := []) C0 hZ hS hA (s_X10_dayBy l dC dI cy sq a_this rm x_taped x_at x_end x_ended x_bad x_badPlace x_fault x_faultPlace x_namePlace x_awayTold x_away x_coded x_statements x_isCrossing v3 v4 x_redMany x_isOpen x_lastGreen x_greenTo x_isCycleGreen x_stillGreen x_rowMany x_fitMany x_fitRules x_fitGreen x_undoable x_newest x_seeded x_qCoded x_qWaits x_qOpened x_qBase v5 x_qAnswer x_qIsNew x_octets g_many g_bar g_kinds g_walkers g_codeFrom g_codeEnd g_codes g_now f7 g_isGreen g_isHere g_crosses g_waits g_goes g_harms g_presses g_crossedIn f6 z12 z13 p0 0 (ib_w 0 1700 h9 rfl) (ib_w 0 12 hg_many_3 rfl) (ib_w 10 120 hg_bar_4 rfl) hpg_walkers (ib_w (-1) 1600 hg_codeFrom_4 rfl) (ib_w 0 1600 hg_codeEnd_4 rfl) h10 hG1) mV_X10_504 hPc hDc rfl rfl rfl hl rfl rfl (Nat.le_of_ble_eq_true rfl) ⟨(Nat.le_of_ble_eq_true rfl), (Nat.le_of_ble_eq_true rfl)⟩ ⟨(Nat.le_of_ble_eq_true rfl), (Nat.le_of_ble_eq_true rfl)⟩ dX10_dayGoes_19) (fun u15 H locs hw hP hD hS => ?_)
    obtain ⟨v16, v17, v18, v19, v20, v21, v22, v23, v24, f25, f26, f27, f28, f29, f30, f31, f32, f33⟩ := u15
    try dsimp only at hP hD hw
    replace hP : va_P (dC, dI) vwCl [(wi_rm60_3_320_0 rm cy f8), (a_this, .inr (10, mfs rm x_taped x_at x_end x_ended x_bad x_badPlace x_fault x_faultPlace x_namePlace x_awayTold x_away x_coded x_statements x_isCrossing v16 v17 v18 v19 v20 v21 v22 v23 x_rowMany x_fitMany x_fitRules x_fitGreen x_undoable x_newest x_seeded x_qCoded x_qWaits x_qOpened x_qBase v24 x_qAnswer x_qIsNew x_octets)), (wi_rm63_3_12_0 rm cy f25), (wi_rm64_0_12_0 rm cy f26), (wi_rm65_0_12_0 rm cy f27), (wi_rm66_3_12_0 rm cy f28), (wi_rm67_3_12_0 rm cy f29), (wi_rm68_3_12_0 rm cy f30), (wi_rm69_3_300_0 rm cy f31), (wi_rm41_0_4_0 rm cy g_many), (wi_rm46_0_48_0 rm cy g_walkers), (wi_rm56_0_9_0 rm cy g_now), (wi_rm62_3_300_0 rm cy f32), (wi_rm43_0_8_0 rm cy g_bar), (wi_rm44_0_24_0 rm cy g_kinds), (wi_rm49_0_6_0 rm cy g_codeFrom), (wi_rm50_0_6_0 rm cy g_codeEnd), (wi_rm116_1_1700_1 rm cy f33), (wi_rm51_0_3200_0 rm cy g_codes), (wi_rm61_0_300_0 rm cy f7)] H := hP
    replace hD := k_D hP hD
    obtain ⟨h34, h35, h36, h37⟩ := hw
    have h37 := by have h9 := h37; rw [lf_u Ez12] at h9; rw [lf_u Ez13] at h9; try simp only [show (0 : Int32).toInt = (0 : Int) from rfl] at h9; exact h9
    replace hq := lf_p1 hq h37
    replace hq := lf_p1 hq rfl
    replace hq := lf_p1 hq rfl
    replace hq := lf_p1 hq rfl
    replace hq := lf_p1 hq rfl
    replace hq := lf_p1 hq rfl
    replace hq := lf_p1 hq rfl
    replace hq := lf_p1 hq rfl
    replace hq := lf_p1 hq rfl
    replace hq := lf_p1 hq rfl
    replace hq := lf_p1 hq rfl
    replace hq := lf_p1 hq rfl
    replace hq := lf_p1 hq rfl
    replace hq := lf_p1 hq rfl
    replace hq := lf_p1 hq rfl
    replace hq := lf_p1 hq rfl
    replace hq := lf_p1 hq rfl
    as_aux_lemma =>
      refine lv_aload_n hx hb dX10_dayGoes_22 rfl (lv_at hl 0 rfl) ?_
      refine k_jim hP hD hS hA [1, 9, 4] [true, false, true, true, false, true, true, true, true, false, true, true, true, true, true, true, true, true, true, true] rfl rfl (by decide +kernel) 0 0 (Nat.le_of_ble_eq_true rfl) (Nat.le_of_ble_eq_true rfl) (fun hPc hDc => k_runV (As := []) (rest := []) C0 hZ hS hA (s_X10_waitedAll l dC dI cy sq a_this rm x_taped x_at x_end x_ended x_bad x_badPlace x_fault x_faultPlace x_namePlace x_awayTold x_away x_coded x_statements x_isCrossing v16 v17 v18 v19 v20 v21 v22 v23 x_rowMany x_fitMany x_fitRules x_fitGreen x_undoable x_newest x_seeded x_qCoded x_qWaits x_qOpened x_qBase v24 x_qAnswer x_qIsNew x_octets g_many f27 (ib_w 0 12 hg_many_3 rfl)) mV_X10_508 hPc hDc rfl rfl rfl hl rfl rfl (Nat.le_of_ble_eq_true rfl) ⟨(Nat.le_of_ble_eq_true rfl), (Nat.le_of_ble_eq_true rfl)⟩ ⟨(Nat.le_of_ble_eq_true rfl), (Nat.le_of_ble_eq_true rfl)⟩ dX10_dayGoes_23) (fun r38 u39 H locs hw hP hD hS => ?_)
      try dsimp only at hP hD hw
      replace hP : va_P (dC, dI) vwCl [(wi_rm60_3_320_0 rm cy f8), (wi_rm63_3_12_0 rm cy f25), (wi_rm64_0_12_0 rm cy f26), (wi_rm66_3_12_0 rm cy f28), (wi_rm67_3_12_0 rm cy f29), (wi_rm68_3_12_0 rm cy f30), (wi_rm69_3_300_0 rm cy f31), (wi_rm46_0_48_0 rm cy g_walkers), (wi_rm56_0_9_0 rm cy g_now), (wi_rm62_3_300_0 rm cy f32), (wi_rm43_0_8_0 rm cy g_bar), (wi_rm44_0_24_0 rm cy g_kinds), (wi_rm49_0_6_0 rm cy g_codeFrom), (wi_rm50_0_6_0 rm cy g_codeEnd), (wi_rm116_1_1700_1 rm cy f33), (wi_rm51_0_3200_0 rm cy g_codes), (wi_rm61_0_300_0 rm cy f7), (a_this, .inr (10, mfs rm x_taped x_at x_end x_ended x_bad x_badPlace x_fault x_faultPlace x_namePlace x_awayTold x_away x_coded x_statements x_isCrossing v16 v17 v18 v19 v20 v21 v22 v23 x_rowMany x_fitMany x_fitRules x_fitGreen x_undoable x_newest x_seeded x_qCoded x_qWaits x_qOpened x_qBase v24 x_qAnswer x_qIsNew x_octets)), (wi_rm41_0_4_0 rm cy g_many), (wi_rm65_0_12_0 rm cy f27)] H := hP
      replace hD := k_D hP hD
      have h40 := hw
      replace hq := lf_b1 hq h40
      refine lv_istore_n (lv' := [(2, .int r38), (0, .ref a_this), (1, .int p0)]) hx hb dX10_dayGoes_26 rfl hl (Nat.le_of_ble_eq_true rfl) rfl (fun ls hl => ?_)
      refine lv_aload_n hx hb dX10_dayGoes_27 rfl (lv_at hl 1 rfl) ?_
      refine lv_iload_n hx hb dX10_dayGoes_28 rfl (lv_at hl 2 rfl) ?_
      refine k_jvm hP hD hS hA [17, 18, 12, 7, 8, 13, 14, 15, 10, 19, 11, 16, 3, 4] [true, true, true, false, false, true, true, false, false, true] rfl rfl (by decide +kernel) 0 0 (Nat.le_of_ble_eq_true rfl) (Nat.le_of_ble_eq_true rfl) (fun hPc hDc => k_runV (As := [.int p0]) (rest := []) C0 hZ hS hA (s_X10_learn l dC dI cy sq a_this rm x_taped x_at x_end x_ended x_bad x_badPlace x_fault x_faultPlace x_namePlace x_awayTold x_away x_coded x_statements x_isCrossing v16 v17 v18 v19 v20 v21 v22 v23 x_rowMany x_fitMany x_fitRules x_fitGreen x_undoable x_newest x_seeded x_qCoded x_qWaits x_qOpened x_qBase v24 x_qAnswer x_qIsNew x_octets g_many g_bar g_kinds g_walkers g_codeFrom g_codeEnd g_codes g_now f7 f27 f28 f29 f33 p0 (ib_w 0 1700 h36 rfl) (ib_w 0 12 hg_many_3 rfl) (ib_w 10 120 hg_bar_4 rfl) hpg_walkers (ib_w (-1) 1600 hg_codeFrom_5 rfl) (ib_w 0 1600 hg_codeEnd_5 rfl) h10 hG2) mV_X10_523 hPc hDc rfl rfl rfl hl rfl rfl (Nat.le_of_ble_eq_true rfl) ⟨(Nat.le_of_ble_eq_true rfl), (Nat.le_of_ble_eq_true rfl)⟩ ⟨(Nat.le_of_ble_eq_true rfl), (Nat.le_of_ble_eq_true rfl)⟩ dX10_dayGoes_29) (fun u42 H locs hw hP hD hS => ?_)
      obtain ⟨v43, v44, f45, f46⟩ := u42
      try dsimp only at hP hD hw
      replace hP : va_P (dC, dI) vwCl [(wi_rm60_3_320_0 rm cy f8), (wi_rm63_3_12_0 rm cy f25), (wi_rm64_0_12_0 rm cy f26), (wi_rm68_3_12_0 rm cy f30), (wi_rm69_3_300_0 rm cy f31), (wi_rm62_3_300_0 rm cy f32), (a_this, .inr (10, mfs rm x_taped x_at x_end x_ended x_bad x_badPlace x_fault x_faultPlace x_namePlace x_awayTold x_away x_coded x_statements x_isCrossing v43 v17 v18 v19 v20 v21 v22 v23 x_rowMany x_fitMany x_fitRules x_fitGreen x_undoable x_newest x_seeded x_qCoded x_qWaits x_qOpened x_qBase v44 x_qAnswer x_qIsNew x_octets)), (wi_rm41_0_4_0 rm cy g_many), (wi_rm49_0_6_0 rm cy g_codeFrom), (wi_rm46_0_48_0 rm cy g_walkers), (wi_rm56_0_9_0 rm cy f45), (wi_rm50_0_6_0 rm cy g_codeEnd), (wi_rm116_1_1700_1 rm cy f46), (wi_rm51_0_3200_0 rm cy g_codes), (wi_rm43_0_8_0 rm cy g_bar), (wi_rm65_0_12_0 rm cy f27), (wi_rm44_0_24_0 rm cy g_kinds), (wi_rm61_0_300_0 rm cy f7), (wi_rm66_3_12_0 rm cy f28), (wi_rm67_3_12_0 rm cy f29)] H := hP
      replace hD := k_D hP hD
      obtain ⟨h47, h48⟩ := hw
      replace hq := lf_p1 hq h48
      replace hq := lf_p1 hq rfl
      replace hq := lf_p1 hq rfl
      refine lv_aload_n hx hb dX10_dayGoes_32 rfl (lv_at hl 1 rfl) ?_
      refine k_get C0 fg_X10_139 hP 6 rfl rfl dX10_dayGoes_33 ?_
      refine lv_iconst (v := 0) hx hb dX10_dayGoes_36 rfl ?_
      refine lv_dup2_11 hx hb dX10_dayGoes_37 rfl rfl ?_
      refine va_iald hx hb C0.2.2.2.2.2.1 hP 10 0 rfl rfl (k_in 0 9 rfl) dX10_dayGoes_38 ?_
      refine lv_topi (fun z49 ez49 => ?_)
      have Ez49 := lf_ld ez49 (lf_ra f45) (lf_lc 0 (0 : Int) rfl)
      refine lv_iconst (v := 1) hx hb dX10_dayGoes_39 rfl ?_
      refine lv_iadd hx hb dX10_dayGoes_40 ?_
      refine lv_topi (fun z50 ez50 => ?_)
      have Ez50 := lf_op lf_iadd ez50 Ez49 (lf_lc 1 (1 : Int) rfl)
      refine va_iast hx hb C0.2.2.2.2.2.1 hP hD hS 10 0 rfl rfl (k_in 0 9 rfl) dX10_dayGoes_41 (fun H locs hP hD hS => ?_)
      replace hP : va_P (dC, dI) vwCl [(wi_rm60_3_320_0 rm cy f8), (wi_rm63_3_12_0 rm cy f25), (wi_rm64_0_12_0 rm cy f26), (wi_rm68_3_12_0 rm cy f30), (wi_rm69_3_300_0 rm cy f31), (wi_rm62_3_300_0 rm cy f32), (a_this, .inr (10, mfs rm x_taped x_at x_end x_ended x_bad x_badPlace x_fault x_faultPlace x_namePlace x_awayTold x_away x_coded x_statements x_isCrossing v43 v17 v18 v19 v20 v21 v22 v23 x_rowMany x_fitMany x_fitRules x_fitGreen x_undoable x_newest x_seeded x_qCoded x_qWaits x_qOpened x_qBase v44 x_qAnswer x_qIsNew x_octets)), (wi_rm41_0_4_0 rm cy g_many), (wi_rm49_0_6_0 rm cy g_codeFrom), (wi_rm46_0_48_0 rm cy g_walkers), (wi_rm56_0_9_0 rm cy (upd f45 0 z50)), (wi_rm50_0_6_0 rm cy g_codeEnd), (wi_rm116_1_1700_1 rm cy f46), (wi_rm51_0_3200_0 rm cy g_codes), (wi_rm43_0_8_0 rm cy g_bar), (wi_rm65_0_12_0 rm cy f27), (wi_rm44_0_24_0 rm cy g_kinds), (wi_rm61_0_300_0 rm cy f7), (wi_rm66_3_12_0 rm cy f28), (wi_rm67_3_12_0 rm cy f29)] H := hP
      replace hD := k_D hP hD
      generalize ef51 : upd f45 0 z50 = f51 at hP hD
      have Ef51 := lf_stn (X := (0 : Int)) ef51 (lf_ra f45) rfl Ez50
      refine lv_iload_n hx hb dX10_dayGoes_42 rfl (lv_at hl 0 rfl) ?_
      subst hQ; exact k_iret hx hb hr hlk rfl ((v43, v17, v18, v19, v20, v21, v22, v23, v44, f46, f51, f27, f7, f28, f29, f8, f25, f26, f30, f31, f32)) hS ⟨ib_w 0 1 h34 rfl, ib_w 0 1 h35 rfl, ib_w 0 1700 h47 rfl, h10, (hO.symm.trans (by rw [lf_ua Ef51]; exact hq))⟩ (hP.sub [6, 8, 11, 12, 13, 9, 10, 14, 15, 16, 17, 18, 19, 0, 1, 2, 3, 4, 7, 5] rfl) (hD.sub [6, 8, 11, 12, 13, 9, 10, 14, 15, 16, 17, 18, 19, 0, 1, 2, 3, 4, 7, 5] (by decide +kernel) rfl) (Nat.le_of_ble_eq_true rfl) (Nat.le_of_ble_eq_true rfl) dX10_dayGoes_43
set_option maxHeartbeats 4000000 in
set_option maxRecDepth 100000 in
theorem s_X10_drawOf_a0_100 (l : Launch) (dC : Nat → ClassId) (dI : Nat → Nat → Nat) (cy : Nat → ClassId) (sq : Nat → Nat) (a_this : Nat) (rm : Nat → Nat) (x_taped : Int32) (x_at : Int32) (x_end : Int32) (x_ended : Int32) (x_bad : Int32) (x_badPlace : Int32) (x_fault : Int32) (x_faultPlace : Int32) (x_namePlace : Int32) (x_awayTold : Int32) (x_away : Int32) (x_coded : Int32) (x_statements : Int32) (x_isCrossing : Int32) (x_textKind : Int32) (x_askSecond : Int32) (x_redMany : Int32) (x_isOpen : Int32) (x_lastGreen : Int32) (x_greenTo : Int32) (x_isCycleGreen : Int32) (x_stillGreen : Int32) (x_rowMany : Int32) (x_fitMany : Int32) (x_fitRules : Int32) (x_fitGreen : Int32) (x_undoable : Int32) (x_newest : Int32) (x_seeded : Int64) (x_qCoded : Int32) (x_qWaits : Int32) (x_qOpened : Int32) (x_qBase : Int32) (x_qPiled : Int32) (x_qAnswer : Int64) (x_qIsNew : Int32) (x_octets : Int32)  : k_Met l yX10_drawOf cX10_drawOf 2 (some .int) { frames := 0, cells := 0, slots := 0, locals := 0 } dC dI cy sq [.ref a_this, .int 100] [(a_this, .inr (10, mfs rm x_taped x_at x_end x_ended x_bad x_badPlace x_fault x_faultPlace x_namePlace x_awayTold x_away x_coded x_statements x_isCrossing x_textKind x_askSecond x_redMany x_isOpen x_lastGreen x_greenTo x_isCycleGreen x_stillGreen x_rowMany x_fitMany x_fitRules x_fitGreen x_undoable x_newest x_seeded x_qCoded x_qWaits x_qOpened x_qBase x_qPiled x_qAnswer x_qIsNew x_octets))] (k_Qi dC dI (fun (r : Int32) (n0 : Int64) => (F_X10_drawOf_a0_100 (Int64.toInt x_seeded) = ((Int32.toInt r), (Int64.toInt n0)))) (fun n0 : Int64 => [(a_this, .inr (10, mfs rm x_taped x_at x_end x_ended x_bad x_badPlace x_fault x_faultPlace x_namePlace x_awayTold x_away x_coded x_statements x_isCrossing x_textKind x_askSecond x_redMany x_isOpen x_lastGreen x_greenTo x_isCycleGreen x_stillGreen x_rowMany x_fitMany x_fitRules x_fitGreen x_undoable x_newest n0 x_qCoded x_qWaits x_qOpened x_qBase x_qPiled x_qAnswer x_qIsNew x_octets))])) := by
  refine k_ofW2 (by decide +kernel) (Nat.le_of_ble_eq_true rfl) ?_
  intro p e s m below meth c A ls H locs args Q hQ C0 hZ hr hlk hin hP hD hA hS hl
  have C0 : k_cx p s m args c cX10_drawOf 2 RX10 dC dI cy sq := C0
  have hx := C0.1
  have hb := C0.2.1
  have hl : lv_has ls 2 [(0, .ref a_this), (1, .int 100)] := hl
  obtain ⟨O, hO⟩ : ∃ o, o = F_X10_drawOf_a0_100 (Int64.toInt x_seeded) := ⟨_, rfl⟩
  have hq := hO
  unfold F_X10_drawOf_a0_100 at hq
  refine lv_aload_n hx hb dX10_drawOf_0 rfl (lv_at hl 0 rfl) ?_
  refine lv_ldc2 hx hb C0.2.2.2.1 (C0.2.2.2.2.1 _ wd1355) dX10_drawOf_1 ?_
  refine lv_aload_n hx hb dX10_drawOf_4 rfl (lv_at hl 0 rfl) ?_
  refine k_get C0 fg_X10_185 hP 0 rfl rfl dX10_drawOf_5 ?_
  refine lv_lmul hx hb dX10_drawOf_8 ?_
  refine lv_topl (fun z1 ez1 => ?_)
  have Ez1 := lf_opl lf_lmul ez1 (lf_ll 1103515245 (1103515245 : Int) rfl) (lf_rl x_seeded)
  refine lv_ldc2 hx hb C0.2.2.2.1 (C0.2.2.2.2.1 _ wd1356) dX10_drawOf_9 ?_
  refine lv_ladd hx hb dX10_drawOf_12 ?_
  refine lv_topl (fun z2 ez2 => ?_)
  have Ez2 := lf_opl lf_ladd ez2 Ez1 (lf_ll 12345 (12345 : Int) rfl)
  refine lv_ldc2 hx hb C0.2.2.2.1 (C0.2.2.2.2.1 _ wd1357) dX10_drawOf_13 ?_
  refine lv_lrem hx hb dX10_drawOf_16 (by decide) ?_
  refine lv_topl (fun z3 ez3 => ?_)
  have Ez3 := lf_opl lf_lrem (ez3.trans (lf_lremt _ _)) Ez2 (lf_ll 2147483648 (2147483648 : Int) rfl)
  refine k_put C0 fp_X10_185 hP hD hS 0 rfl rfl rfl (Nat.le_of_ble_eq_true rfl) dX10_drawOf_17 (fun H locs hP hD hS => ?_)
  replace hP : va_P (dC, dI) vwCl [(a_this, .inr (10, mfs rm x_taped x_at x_end x_ended x_bad x_badPlace x_fault x_faultPlace x_namePlace x_awayTold x_away x_coded x_statements x_isCrossing x_textKind x_askSecond x_redMany x_isOpen x_lastGreen x_greenTo x_isCycleGreen x_stillGreen x_rowMany x_fitMany x_fitRules x_fitGreen x_undoable x_newest z3 x_qCoded x_qWaits x_qOpened x_qBase x_qPiled x_qAnswer x_qIsNew x_octets))] H := hP
  replace hD := k_D hP hD
  refine lv_aload_n hx hb dX10_drawOf_20 rfl (lv_at hl 0 rfl) ?_
  refine k_get C0 fg_X10_185 hP 0 rfl rfl dX10_drawOf_21 ?_
  refine lv_ldc2 hx hb C0.2.2.2.1 (C0.2.2.2.2.1 _ wd1358) dX10_drawOf_24 ?_
  refine lv_ldiv hx hb dX10_drawOf_27 (by decide) ?_
  refine lv_topl (fun z4 ez4 => ?_)
  have Ez4 := lf_opl lf_ldiv ez4 Ez3 (lf_ll 64 (64 : Int) rfl)
  refine lv_iload_n hx hb dX10_drawOf_28 rfl (lv_at hl 1 rfl) ?_
  refine lv_i2l (v := 100) hx hb dX10_drawOf_29 (by decide) ?_
  refine lv_lrem hx hb dX10_drawOf_30 (by decide) ?_
  refine lv_topl (fun z5 ez5 => ?_)
  have Ez5 := lf_opl lf_lrem (ez5.trans (lf_lremt _ _)) Ez4 (lf_ll 100 (100 : Int) rfl)
  refine lv_l2i hx hb dX10_drawOf_31 rfl ?_
  refine lv_topi (fun z6 ez6 => ?_)
  have Ez6 := lf_l2ie ez6 Ez5
  subst hQ; exact k_iret hx hb hr hlk rfl z3 hS ((hO.symm.trans (by rw [lf_u Ez6]; rw [lf_ul Ez3]; exact hq))) hP hD (Nat.le_of_ble_eq_true rfl) (Nat.le_of_ble_eq_true rfl) dX10_drawOf_32
set_option maxHeartbeats 4000000 in
set_option maxRecDepth 100000 in
theorem s_X10_chance (l : Launch) (dC : Nat → ClassId) (dI : Nat → Nat → Nat) (cy : Nat → ClassId) (sq : Nat → Nat) (a_this : Nat) (rm : Nat → Nat) (x_taped : Int32) (x_at : Int32) (x_end : Int32) (x_ended : Int32) (x_bad : Int32) (x_badPlace : Int32) (x_fault : Int32) (x_faultPlace : Int32) (x_namePlace : Int32) (x_awayTold : Int32) (x_away : Int32) (x_coded : Int32) (x_statements : Int32) (x_isCrossing : Int32) (x_textKind : Int32) (x_askSecond : Int32) (x_redMany : Int32) (x_isOpen : Int32) (x_lastGreen : Int32) (x_greenTo : Int32) (x_isCycleGreen : Int32) (x_stillGreen : Int32) (x_rowMany : Int32) (x_fitMany : Int32) (x_fitRules : Int32) (x_fitGreen : Int32) (x_undoable : Int32) (x_newest : Int32) (x_seeded : Int64) (x_qCoded : Int32) (x_qWaits : Int32) (x_qOpened : Int32) (x_qBase : Int32) (x_qPiled : Int32) (x_qAnswer : Int64) (x_qIsNew : Int32) (x_octets : Int32) (g_refused : Nat → Int32) (g_many : Nat → Int32) (g_bar : Nat → Int32) (g_kinds : Nat → Int32) (g_walkers : Nat → Int32) (g_codeFrom : Nat → Int32) (g_codeEnd : Nat → Int32) (g_codes : Nat → Int32) (g_now : Nat → Int32) (g_isCar : Nat → Int32) (g_gaps : Nat → Int32) (g_isGreen : Nat → Int32) (g_isHere : Nat → Int32) (g_crosses : Nat → Int32) (g_waits : Nat → Int32) (g_goes : Nat → Int32) (g_harms : Nat → Int32) (g_presses : Nat → Int32) (g_crossedIn : Nat → Int32) (g_kept0 : Nat → Int32) (g_qPile : Nat → Int64) (p0 : Int32) (hx_isCrossing : ib x_isCrossing 0 1) (hx_isOpen : ib x_isOpen 0 1) (hx_isCycleGreen : ib x_isCycleGreen 0 1) (hx_undoable : ib x_undoable 0 20) (hx_newest : ib x_newest 0 19) (hx_qPiled : ib x_qPiled 0 1700) (hg_many_3 : ib (g_many 3) 0 12) (hg_bar_4 : ib (g_bar 4) 0 120) (hpg_walkers : ip g_walkers 48 2 0 0 5) (hg_codeFrom_3 : ib (g_codeFrom 3) (-1) 1600) (hg_codeFrom_4 : ib (g_codeFrom 4) (-1) 1600) (hg_codeFrom_5 : ib (g_codeFrom 5) (-1) 1600) (hg_codeEnd_3 : ib (g_codeEnd 3) 0 1600) (hg_codeEnd_4 : ib (g_codeEnd 4) 0 1600) (hg_codeEnd_5 : ib (g_codeEnd 5) 0 1600) (hg_gaps : ia g_gaps 300 0 20) (hG0 : ¬ g_codeFrom 3 = (-1) → okc g_codes 1600 false (g_codeFrom 3) (g_codeEnd 3)) (hG1 : ¬ g_codeFrom 4 = (-1) → okc g_codes 1600 true (g_codeFrom 4) (g_codeEnd 4)) (hG2 : ¬ g_codeFrom 5 = (-1) → okc g_codes 1600 false (g_codeFrom 5) (g_codeEnd 5)) (hc_cr : ¬ x_isCrossing = 0 → ib (g_bar 4) 10 120) : k_Met l yX10_chance cX10_chance 6 (some .int) { frames := 7, cells := 0, slots := 0, locals := 159 } dC dI cy sq [.ref a_this, .int p0] [(a_this, .inr (10, mfs rm x_taped x_at x_end x_ended x_bad x_badPlace x_fault x_faultPlace x_namePlace x_awayTold x_away x_coded x_statements x_isCrossing x_textKind x_askSecond x_redMany x_isOpen x_lastGreen x_greenTo x_isCycleGreen x_stillGreen x_rowMany x_fitMany x_fitRules x_fitGreen x_undoable x_newest x_seeded x_qCoded x_qWaits x_qOpened x_qBase x_qPiled x_qAnswer x_qIsNew x_octets)), (wi_rm56_0_9_0 rm cy g_now), (wi_rm81_0_180_0 rm cy g_kept0), (wi_rm9_0_6_0 rm cy g_refused), (wi_rm41_0_4_0 rm cy g_many), (wi_rm49_0_6_0 rm cy g_codeFrom), (wi_rm50_0_6_0 rm cy g_codeEnd), (wi_rm116_1_1700_1 rm cy g_qPile), (wi_rm51_0_3200_0 rm cy g_codes), (wi_rm46_0_48_0 rm cy g_walkers), (wi_rm43_0_8_0 rm cy g_bar), (wi_rm65_0_12_0 rm cy g_waits), (wi_rm44_0_24_0 rm cy g_kinds), (wi_rm61_0_300_0 rm cy g_gaps), (wi_rm66_3_12_0 rm cy g_goes), (wi_rm67_3_12_0 rm cy g_harms), (wi_rm60_3_320_0 rm cy g_isCar), (wi_rm63_3_12_0 rm cy g_isHere), (wi_rm64_0_12_0 rm cy g_crosses), (wi_rm68_3_12_0 rm cy g_presses), (wi_rm69_3_300_0 rm cy g_crossedIn), (wi_rm62_3_300_0 rm cy g_isGreen)] (k_Qi dC dI (fun (r : Int32) (u : Int32 × Int32 × Int32 × Int32 × Int32 × Int32 × Int32 × Int32 × Int32 × Int32 × Int64 × Int32 × (Nat → Int32) × (Nat → Int32) × (Nat → Int32) × (Nat → Int64) × (Nat → Int32) × (Nat → Int32) × (Nat → Int32) × (Nat → Int32) × (Nat → Int32) × (Nat → Int32) × (Nat → Int32) × (Nat → Int32) × (Nat → Int32) × (Nat → Int32)) => match u with | (n0, n1, n2, n3, n4, n5, n6, n7, n8, n9, n10, n11, n12, n13, n14, n15, n16, n17, n18, n19, n20, n21, n22, n23, n24, n25) => ib n3 0 1 ∧ ib n6 0 1 ∧ ib n8 0 20 ∧ ib n9 0 19 ∧ ib n11 0 1700 ∧ ia n17 300 0 20 ∧ (F_X10_chance (Int32.toInt x_away) (Int32.toInt x_isCrossing) (Int32.toInt x_textKind) (Int32.toInt x_askSecond) (Int32.toInt x_redMany) (Int32.toInt x_isOpen) (Int32.toInt x_lastGreen) (Int32.toInt x_greenTo) (Int32.toInt x_isCycleGreen) (Int32.toInt x_stillGreen) (Int32.toInt x_undoable) (Int32.toInt x_newest) (Int64.toInt x_seeded) (Int32.toInt x_qPiled) (lf_A g_refused) (lf_A g_many) (lf_A g_bar) (lf_A g_kinds) (lf_A g_walkers) (lf_A g_codeFrom) (lf_A g_codeEnd) (lf_A g_codes) (lf_A g_now) (lf_A g_isCar) (lf_A g_gaps) (lf_A g_isGreen) (lf_A g_isHere) (lf_A g_crosses) (lf_A g_waits) (lf_A g_goes) (lf_A g_harms) (lf_A g_presses) (lf_A g_crossedIn) (lf_A g_kept0) (lf_L g_qPile) (Int32.toInt p0) = ((Int32.toInt r), (Int32.toInt n0), (Int32.toInt n1), (Int32.toInt n2), (Int32.toInt n3), (Int32.toInt n4), (Int32.toInt n5), (Int32.toInt n6), (Int32.toInt n7), (Int32.toInt n8), (Int32.toInt n9), (Int64.toInt n10), (Int32.toInt n11), (lf_A n12), (lf_A n13), (lf_A n14), (lf_L n15), (lf_A n16), (lf_A n17), (lf_A n18), (lf_A n19), (lf_A n20), (lf_A n21), (lf_A n22), (lf_A n23), (lf_A n24), (lf_A n25)))) (fun u : Int32 × Int32 × Int32 × Int32 × Int32 × Int32 × Int32 × Int32 × Int32 × Int32 × Int64 × Int32 × (Nat → Int32) × (Nat → Int32) × (Nat → Int32) × (Nat → Int64) × (Nat → Int32) × (Nat → Int32) × (Nat → Int32) × (Nat → Int32) × (Nat → Int32) × (Nat → Int32) × (Nat → Int32) × (Nat → Int32) × (Nat → Int32) × (Nat → Int32) => match u with | (n0, n1, n2, n3, n4, n5, n6, n7, n8, n9, n10, n11, n12, n13, n14, n15, n16, n17, n18, n19, n20, n21, n22, n23, n24, n25) => [(a_this, .inr (10, mfs rm x_taped x_at x_end x_ended x_bad x_badPlace x_fault x_faultPlace x_namePlace x_awayTold x_away x_coded x_statements x_isCrossing n0 n1 n2 n3 n4 n5 n6 n7 x_rowMany x_fitMany x_fitRules x_fitGreen n8 n9 n10 x_qCoded x_qWaits x_qOpened x_qBase n11 x_qAnswer x_qIsNew x_octets)), (wi_rm56_0_9_0 rm cy n12), (wi_rm81_0_180_0 rm cy n13), (wi_rm9_0_6_0 rm cy n14), (wi_rm41_0_4_0 rm cy g_many), (wi_rm49_0_6_0 rm cy g_codeFrom), (wi_rm50_0_6_0 rm cy g_codeEnd), (wi_rm116_1_1700_1 rm cy n15), (wi_rm51_0_3200_0 rm cy g_codes), (wi_rm46_0_48_0 rm cy g_walkers), (wi_rm43_0_8_0 rm cy g_bar), (wi_rm65_0_12_0 rm cy n16), (wi_rm44_0_24_0 rm cy g_kinds), (wi_rm61_0_300_0 rm cy n17), (wi_rm66_3_12_0 rm cy n18), (wi_rm67_3_12_0 rm cy n19), (wi_rm60_3_320_0 rm cy n20), (wi_rm63_3_12_0 rm cy n21), (wi_rm64_0_12_0 rm cy n22), (wi_rm68_3_12_0 rm cy n23), (wi_rm69_3_300_0 rm cy n24), (wi_rm62_3_300_0 rm cy n25)])) := by
  refine k_ofW2 (by decide +kernel) (Nat.le_of_ble_eq_true rfl) ?_
  intro p e s m below meth c A ls H locs args Q hQ C0 hZ hr hlk hin hP hD hA hS hl
  have C0 : k_cx p s m args c cX10_chance 6 RX10 dC dI cy sq := C0
  have hx := C0.1
  have hb := C0.2.1
  have hl : lv_has ls 6 [(0, .ref a_this), (1, .int p0)] := hl
  obtain ⟨O, hO⟩ : ∃ o, o = F_X10_chance (Int32.toInt x_away) (Int32.toInt x_isCrossing) (Int32.toInt x_textKind) (Int32.toInt x_askSecond) (Int32.toInt x_redMany) (Int32.toInt x_isOpen) (Int32.toInt x_lastGreen) (Int32.toInt x_greenTo) (Int32.toInt x_isCycleGreen) (Int32.toInt x_stillGreen) (Int32.toInt x_undoable) (Int32.toInt x_newest) (Int64.toInt x_seeded) (Int32.toInt x_qPiled) (lf_A g_refused) (lf_A g_many) (lf_A g_bar) (lf_A g_kinds) (lf_A g_walkers) (lf_A g_codeFrom) (lf_A g_codeEnd) (lf_A g_codes) (lf_A g_now) (lf_A g_isCar) (lf_A g_gaps) (lf_A g_isGreen) (lf_A g_isHere) (lf_A g_crosses) (lf_A g_waits) (lf_A g_goes) (lf_A g_harms) (lf_A g_presses) (lf_A g_crossedIn) (lf_A g_kept0) (lf_L g_qPile) (Int32.toInt p0) := ⟨_, rfl⟩
  have hq := hO
  unfold F_X10_chance at hq
  have jn25 : ∀ (n : Nat) (J25_c0_82 : Int32) (J25_c0_83 : Int32) (J25_a2 : Nat → Int32) (J25_l3 : Int32) (J25_c0_55 : Int32) (J25_c0_58 : Int32) (J25_c0_59 : Int32) (J25_c0_70 : Int32) (J25_c0_71 : Int32) (J25_c0_72 : Int32) (J25_c0_73 : Int32) (J25_c0_74 : Int32) (J25_c0_117 : Int32) (J25_a1 : Nat → Int32) (J25_a7 : Nat → Int64) (J25_a11 : Nat → Int32) (J25_a13 : Nat → Int32) (J25_a14 : Nat → Int32) (J25_a15 : Nat → Int32) (J25_a16 : Nat → Int32) (J25_a17 : Nat → Int32) (J25_a18 : Nat → Int32) (J25_a19 : Nat → Int32) (J25_a20 : Nat → Int32) (J25_a21 : Nat → Int32) (J25_l2 : Int32) (J25_c0_84 : Int64) (H : Heap) (locs : List Loc) (ls : Array Slot), ib p0 1 30 → ib x_isCrossing 1 1 → ib J25_c0_82 1 20 → ib J25_c0_83 0 19 → ib (g_bar 4) 10 120 → ib J25_l3 0 30 → ib J25_c0_70 0 1 → ib J25_c0_73 0 1 → ib J25_c0_117 0 1700 → ia J25_a13 300 0 20 → (O = F_X10_chance_25 (Int32.toInt x_away) (lf_A g_refused) (lf_A g_many) (lf_A g_bar) (lf_A g_kinds) (lf_A g_walkers) (lf_A g_codeFrom) (lf_A g_codeEnd) (lf_A g_codes) (Int32.toInt p0) n (Int32.toInt J25_c0_82) (Int32.toInt J25_c0_83) (lf_A J25_a2) (Int32.toInt J25_l3) (Int32.toInt J25_c0_55) (Int32.toInt J25_c0_58) (Int32.toInt J25_c0_59) (Int32.toInt J25_c0_70) (Int32.toInt J25_c0_71) (Int32.toInt J25_c0_72) (Int32.toInt J25_c0_73) (Int32.toInt J25_c0_74) (Int32.toInt J25_c0_117) (lf_A J25_a1) (lf_L J25_a7) (lf_A J25_a11) (lf_A J25_a13) (lf_A J25_a14) (lf_A J25_a15) (lf_A J25_a16) (lf_A J25_a17) (lf_A J25_a18) (lf_A J25_a19) (lf_A J25_a20) (lf_A J25_a21) (Int32.toInt J25_l2) (Int64.toInt J25_c0_84)) → 31 ≤ J25_l3.toInt + (n : Int) → va_P (dC, dI) vwCl [(a_this, .inr (10, mfs rm x_taped x_at x_end x_ended x_bad x_badPlace x_fault x_faultPlace x_namePlace x_awayTold x_away x_coded x_statements x_isCrossing J25_c0_55 J25_c0_58 J25_c0_59 J25_c0_70 J25_c0_71 J25_c0_72 J25_c0_73 J25_c0_74 x_rowMany x_fitMany x_fitRules x_fitGreen J25_c0_82 J25_c0_83 J25_c0_84 x_qCoded x_qWaits x_qOpened x_qBase J25_c0_117 x_qAnswer x_qIsNew x_octets)), (wi_rm56_0_9_0 rm cy J25_a1), (wi_rm81_0_180_0 rm cy J25_a2), (wi_rm9_0_6_0 rm cy g_refused), (wi_rm41_0_4_0 rm cy g_many), (wi_rm49_0_6_0 rm cy g_codeFrom), (wi_rm50_0_6_0 rm cy g_codeEnd), (wi_rm116_1_1700_1 rm cy J25_a7), (wi_rm51_0_3200_0 rm cy g_codes), (wi_rm46_0_48_0 rm cy g_walkers), (wi_rm43_0_8_0 rm cy g_bar), (wi_rm65_0_12_0 rm cy J25_a11), (wi_rm44_0_24_0 rm cy g_kinds), (wi_rm61_0_300_0 rm cy J25_a13), (wi_rm66_3_12_0 rm cy J25_a14), (wi_rm67_3_12_0 rm cy J25_a15), (wi_rm60_3_320_0 rm cy J25_a16), (wi_rm63_3_12_0 rm cy J25_a17), (wi_rm64_0_12_0 rm cy J25_a18), (wi_rm68_3_12_0 rm cy J25_a19), (wi_rm69_3_300_0 rm cy J25_a20), (wi_rm62_3_300_0 rm cy J25_a21)] H → va_D A [(a_this, .inr (10, mfs rm x_taped x_at x_end x_ended x_bad x_badPlace x_fault x_faultPlace x_namePlace x_awayTold x_away x_coded x_statements x_isCrossing J25_c0_55 J25_c0_58 J25_c0_59 J25_c0_70 J25_c0_71 J25_c0_72 J25_c0_73 J25_c0_74 x_rowMany x_fitMany x_fitRules x_fitGreen J25_c0_82 J25_c0_83 J25_c0_84 x_qCoded x_qWaits x_qOpened x_qBase J25_c0_117 x_qAnswer x_qIsNew x_octets)), (wi_rm56_0_9_0 rm cy J25_a1), (wi_rm81_0_180_0 rm cy J25_a2), (wi_rm9_0_6_0 rm cy g_refused), (wi_rm41_0_4_0 rm cy g_many), (wi_rm49_0_6_0 rm cy g_codeFrom), (wi_rm50_0_6_0 rm cy g_codeEnd), (wi_rm116_1_1700_1 rm cy J25_a7), (wi_rm51_0_3200_0 rm cy g_codes), (wi_rm46_0_48_0 rm cy g_walkers), (wi_rm43_0_8_0 rm cy g_bar), (wi_rm65_0_12_0 rm cy J25_a11), (wi_rm44_0_24_0 rm cy g_kinds), (wi_rm61_0_300_0 rm cy J25_a13), (wi_rm66_3_12_0 rm cy J25_a14), (wi_rm67_3_12_0 rm cy J25_a15), (wi_rm60_3_320_0 rm cy J25_a16), (wi_rm63_3_12_0 rm cy J25_a17), (wi_rm64_0_12_0 rm cy J25_a18), (wi_rm68_3_12_0 rm cy J25_a19), (wi_rm69_3_300_0 rm cy J25_a20), (wi_rm62_3_300_0 rm cy J25_a21)] → va_S A s.heap H locs → lv_has ls 6 [(0, .ref a_this), (1, .int p0), (2, .int J25_l2), (3, .int J25_l3)] → W p l e { frames := 7, cells := 0, slots := 0, locals := 159 } s m args below meth c H locs 0 0 Q (F0 m 25 ls []) := by
    as_aux_lemma =>
      intro n
      induction n with
      | zero =>
        intro J25_c0_82 J25_c0_83 J25_a2 J25_l3 J25_c0_55 J25_c0_58 J25_c0_59 J25_c0_70 J25_c0_71 J25_c0_72 J25_c0_73 J25_c0_74 J25_c0_117 J25_a1 J25_a7 J25_a11 J25_a13 J25_a14 J25_a15 J25_a16 J25_a17 J25_a18 J25_a19 J25_a20 J25_a21 J25_l2 J25_c0_84 H locs ls hK25_p0 hK25_x_isCrossing hJ25_c0_82 hJ25_c0_83 hJ25_a10_4 hJ25_l3 hJ25_c0_70 hJ25_c0_73 hJ25_c0_117 hJ25_a13 hq hm
        exact absurd hm (by have := hJ25_l3; unfold ib at this; omega)
      | succ n ih =>
        intro J25_c0_82 J25_c0_83 J25_a2 J25_l3 J25_c0_55 J25_c0_58 J25_c0_59 J25_c0_70 J25_c0_71 J25_c0_72 J25_c0_73 J25_c0_74 J25_c0_117 J25_a1 J25_a7 J25_a11 J25_a13 J25_a14 J25_a15 J25_a16 J25_a17 J25_a18 J25_a19 J25_a20 J25_a21 J25_l2 J25_c0_84 H locs ls hK25_p0 hK25_x_isCrossing hJ25_c0_82 hJ25_c0_83 hJ25_a10_4 hJ25_l3 hJ25_c0_70 hJ25_c0_73 hJ25_c0_117 hJ25_a13 hq hm25 hP hD hS hl
        have ih25 := ih
        obtain ⟨K25, hK25⟩ : ∃ K, K = F_X10_chance_25 (Int32.toInt x_away) (lf_A g_refused) (lf_A g_many) (lf_A g_bar) (lf_A g_kinds) (lf_A g_walkers) (lf_A g_codeFrom) (lf_A g_codeEnd) (lf_A g_codes) (Int32.toInt p0) n := ⟨_, rfl⟩
        have hq : O = F_X10_chance_25b (Int32.toInt x_away) (lf_A g_refused) (lf_A g_many) (lf_A g_bar) (lf_A g_kinds) (lf_A g_walkers) (lf_A g_codeFrom) (lf_A g_codeEnd) (lf_A g_codes) (Int32.toInt p0) K25 (Int32.toInt J25_c0_82) (Int32.toInt J25_c0_83) (lf_A J25_a2) (Int32.toInt J25_l3) (Int32.toInt J25_c0_55) (Int32.toInt J25_c0_58) (Int32.toInt J25_c0_59) (Int32.toInt J25_c0_70) (Int32.toInt J25_c0_71) (Int32.toInt J25_c0_72) (Int32.toInt J25_c0_73) (Int32.toInt J25_c0_74) (Int32.toInt J25_c0_117) (lf_A J25_a1) (lf_L J25_a7) (lf_A J25_a11) (lf_A J25_a13) (lf_A J25_a14) (lf_A J25_a15) (lf_A J25_a16) (lf_A J25_a17) (lf_A J25_a18) (lf_A J25_a19) (lf_A J25_a20) (lf_A J25_a21) (Int32.toInt J25_l2) (Int64.toInt J25_c0_84) := by rw [hK25]; exact hq
        unfold F_X10_chance_25b at hq
        have jn36 : ∀ (n : Nat) (J36_l2 : Int32) (J36_l4 : Int32) (J36_l5 : Int32) (J36_c0_84 : Int64) (H : Heap) (locs : List Loc) (ls : Array Slot), ib p0 1 30 → ib J25_l3 0 29 → ib x_isCrossing 1 1 → ib J25_c0_70 0 1 → ib J25_c0_73 0 1 → ib J25_c0_82 1 20 → ib J25_c0_83 0 19 → ib J25_c0_117 0 1700 → ib (g_bar 4) 10 120 → ib J36_l5 0 12 → (O = F_X10_chance_36 (Int32.toInt x_away) (lf_A g_many) (lf_A g_bar) (lf_A g_kinds) (lf_A g_walkers) (lf_A g_codeFrom) (lf_A g_codeEnd) (lf_A g_codes) (Int32.toInt J25_c0_82) (Int32.toInt J25_c0_83) (lf_A J25_a2) (Int32.toInt J25_l3) (Int32.toInt J25_c0_55) (Int32.toInt J25_c0_58) (Int32.toInt J25_c0_59) (Int32.toInt J25_c0_74) (Int32.toInt J25_c0_117) (lf_A J25_a1) (lf_L J25_a7) (lf_A J25_a11) (lf_A J25_a13) (lf_A J25_a14) (lf_A J25_a15) (lf_A J25_a16) (lf_A J25_a17) (lf_A J25_a18) (lf_A J25_a19) (lf_A J25_a20) (lf_A J25_a21) K25 n (Int32.toInt J36_l2) (Int32.toInt J36_l4) (Int32.toInt J36_l5) (Int64.toInt J36_c0_84)) → 13 ≤ J36_l5.toInt + (n : Int) → va_P (dC, dI) vwCl [(a_this, .inr (10, mfs rm x_taped x_at x_end x_ended x_bad x_badPlace x_fault x_faultPlace x_namePlace x_awayTold x_away x_coded x_statements x_isCrossing J25_c0_55 J25_c0_58 J25_c0_59 J25_c0_70 J25_c0_71 J25_c0_72 J25_c0_73 J25_c0_74 x_rowMany x_fitMany x_fitRules x_fitGreen J25_c0_82 J25_c0_83 J36_c0_84 x_qCoded x_qWaits x_qOpened x_qBase J25_c0_117 x_qAnswer x_qIsNew x_octets)), (wi_rm56_0_9_0 rm cy J25_a1), (wi_rm81_0_180_0 rm cy J25_a2), (wi_rm9_0_6_0 rm cy g_refused), (wi_rm41_0_4_0 rm cy g_many), (wi_rm49_0_6_0 rm cy g_codeFrom), (wi_rm50_0_6_0 rm cy g_codeEnd), (wi_rm116_1_1700_1 rm cy J25_a7), (wi_rm51_0_3200_0 rm cy g_codes), (wi_rm46_0_48_0 rm cy g_walkers), (wi_rm43_0_8_0 rm cy g_bar), (wi_rm65_0_12_0 rm cy J25_a11), (wi_rm44_0_24_0 rm cy g_kinds), (wi_rm61_0_300_0 rm cy J25_a13), (wi_rm66_3_12_0 rm cy J25_a14), (wi_rm67_3_12_0 rm cy J25_a15), (wi_rm60_3_320_0 rm cy J25_a16), (wi_rm63_3_12_0 rm cy J25_a17), (wi_rm64_0_12_0 rm cy J25_a18), (wi_rm68_3_12_0 rm cy J25_a19), (wi_rm69_3_300_0 rm cy J25_a20), (wi_rm62_3_300_0 rm cy J25_a21)] H → va_D A [(a_this, .inr (10, mfs rm x_taped x_at x_end x_ended x_bad x_badPlace x_fault x_faultPlace x_namePlace x_awayTold x_away x_coded x_statements x_isCrossing J25_c0_55 J25_c0_58 J25_c0_59 J25_c0_70 J25_c0_71 J25_c0_72 J25_c0_73 J25_c0_74 x_rowMany x_fitMany x_fitRules x_fitGreen J25_c0_82 J25_c0_83 J36_c0_84 x_qCoded x_qWaits x_qOpened x_qBase J25_c0_117 x_qAnswer x_qIsNew x_octets)), (wi_rm56_0_9_0 rm cy J25_a1), (wi_rm81_0_180_0 rm cy J25_a2), (wi_rm9_0_6_0 rm cy g_refused), (wi_rm41_0_4_0 rm cy g_many), (wi_rm49_0_6_0 rm cy g_codeFrom), (wi_rm50_0_6_0 rm cy g_codeEnd), (wi_rm116_1_1700_1 rm cy J25_a7), (wi_rm51_0_3200_0 rm cy g_codes), (wi_rm46_0_48_0 rm cy g_walkers), (wi_rm43_0_8_0 rm cy g_bar), (wi_rm65_0_12_0 rm cy J25_a11), (wi_rm44_0_24_0 rm cy g_kinds), (wi_rm61_0_300_0 rm cy J25_a13), (wi_rm66_3_12_0 rm cy J25_a14), (wi_rm67_3_12_0 rm cy J25_a15), (wi_rm60_3_320_0 rm cy J25_a16), (wi_rm63_3_12_0 rm cy J25_a17), (wi_rm64_0_12_0 rm cy J25_a18), (wi_rm68_3_12_0 rm cy J25_a19), (wi_rm69_3_300_0 rm cy J25_a20), (wi_rm62_3_300_0 rm cy J25_a21)] → va_S A s.heap H locs → lv_has ls 6 [(0, .ref a_this), (1, .int p0), (2, .int J36_l2), (3, .int J25_l3), (4, .int J36_l4), (5, .int J36_l5)] → W p l e { frames := 7, cells := 0, slots := 0, locals := 159 } s m args below meth c H locs 0 0 Q (F0 m 36 ls []) := by
          as_aux_lemma =>
            intro n
            induction n with
            | zero =>
              intro J36_l2 J36_l4 J36_l5 J36_c0_84 H locs ls hK36_p0 hK36_J25_l3 hK36_x_isCrossing hK36_J25_c0_70 hK36_J25_c0_73 hK36_J25_c0_82 hK36_J25_c0_83 hK36_J25_c0_117 hJ36_a10_4 hJ36_l5 hq hm
              exact absurd hm (by have := hJ36_l5; unfold ib at this; omega)
            | succ n ih =>
              intro J36_l2 J36_l4 J36_l5 J36_c0_84 H locs ls hK36_p0 hK36_J25_l3 hK36_x_isCrossing hK36_J25_c0_70 hK36_J25_c0_73 hK36_J25_c0_82 hK36_J25_c0_83 hK36_J25_c0_117 hJ36_a10_4 hJ36_l5 hq hm36 hP hD hS hl
              have ih36 := ih
              obtain ⟨K36, hK36⟩ : ∃ K, K = F_X10_chance_36 (Int32.toInt x_away) (lf_A g_many) (lf_A g_bar) (lf_A g_kinds) (lf_A g_walkers) (lf_A g_codeFrom) (lf_A g_codeEnd) (lf_A g_codes) (Int32.toInt J25_c0_82) (Int32.toInt J25_c0_83) (lf_A J25_a2) (Int32.toInt J25_l3) (Int32.toInt J25_c0_55) (Int32.toInt J25_c0_58) (Int32.toInt J25_c0_59) (Int32.toInt J25_c0_74) (Int32.toInt J25_c0_117) (lf_A J25_a1) (lf_L J25_a7) (lf_A J25_a11) (lf_A J25_a13) (lf_A J25_a14) (lf_A J25_a15) (lf_A J25_a16) (lf_A J25_a17) (lf_A J25_a18) (lf_A J25_a19) (lf_A J25_a20) (lf_A J25_a21) K25 n := ⟨_, rfl⟩
              have hq : O = F_X10_chance_36b (Int32.toInt x_away) (lf_A g_many) (lf_A g_bar) (lf_A g_kinds) (lf_A g_walkers) (lf_A g_codeFrom) (lf_A g_codeEnd) (lf_A g_codes) (Int32.toInt J25_c0_82) (Int32.toInt J25_c0_83) (lf_A J25_a2) (Int32.toInt J25_l3) (Int32.toInt J25_c0_55) (Int32.toInt J25_c0_58) (Int32.toInt J25_c0_59) (Int32.toInt J25_c0_74) (Int32.toInt J25_c0_117) (lf_A J25_a1) (lf_L J25_a7) (lf_A J25_a11) (lf_A J25_a13) (lf_A J25_a14) (lf_A J25_a15) (lf_A J25_a16) (lf_A J25_a17) (lf_A J25_a18) (lf_A J25_a19) (lf_A J25_a20) (lf_A J25_a21) K25 K36 (Int32.toInt J36_l2) (Int32.toInt J36_l4) (Int32.toInt J36_l5) (Int64.toInt J36_c0_84) := by rw [hK36]; exact hq
              unfold F_X10_chance_36b at hq
              have jn70 : ∀ (J70_c0_84 : Int64) (J70_l2 : Int32) (J70_l4 : Int32) (H : Heap) (locs : List Loc) (ls : Array Slot), ib p0 1 30 → ib J25_l3 0 29 → ib J36_l5 0 11 → ib x_isCrossing 1 1 → ib J25_c0_70 0 1 → ib J25_c0_73 0 1 → ib J25_c0_82 1 20 → ib J25_c0_83 0 19 → ib J25_c0_117 0 1700 → ib (g_many 3) 1 12 → ib (g_bar 4) 10 120 → (O = F_X10_chance_70 (Int32.toInt J36_l5) K36 (Int64.toInt J70_c0_84) (Int32.toInt J70_l2) (Int32.toInt J70_l4)) → va_P (dC, dI) vwCl [(a_this, .inr (10, mfs rm x_taped x_at x_end x_ended x_bad x_badPlace x_fault x_faultPlace x_namePlace x_awayTold x_away x_coded x_statements x_isCrossing J25_c0_55 J25_c0_58 J25_c0_59 J25_c0_70 J25_c0_71 J25_c0_72 J25_c0_73 J25_c0_74 x_rowMany x_fitMany x_fitRules x_fitGreen J25_c0_82 J25_c0_83 J70_c0_84 x_qCoded x_qWaits x_qOpened x_qBase J25_c0_117 x_qAnswer x_qIsNew x_octets)), (wi_rm56_0_9_0 rm cy J25_a1), (wi_rm81_0_180_0 rm cy J25_a2), (wi_rm9_0_6_0 rm cy g_refused), (wi_rm41_0_4_0 rm cy g_many), (wi_rm49_0_6_0 rm cy g_codeFrom), (wi_rm50_0_6_0 rm cy g_codeEnd), (wi_rm116_1_1700_1 rm cy J25_a7), (wi_rm51_0_3200_0 rm cy g_codes), (wi_rm46_0_48_0 rm cy g_walkers), (wi_rm43_0_8_0 rm cy g_bar), (wi_rm65_0_12_0 rm cy J25_a11), (wi_rm44_0_24_0 rm cy g_kinds), (wi_rm61_0_300_0 rm cy J25_a13), (wi_rm66_3_12_0 rm cy J25_a14), (wi_rm67_3_12_0 rm cy J25_a15), (wi_rm60_3_320_0 rm cy J25_a16), (wi_rm63_3_12_0 rm cy J25_a17), (wi_rm64_0_12_0 rm cy J25_a18), (wi_rm68_3_12_0 rm cy J25_a19), (wi_rm69_3_300_0 rm cy J25_a20), (wi_rm62_3_300_0 rm cy J25_a21)] H → va_D A [(a_this, .inr (10, mfs rm x_taped x_at x_end x_ended x_bad x_badPlace x_fault x_faultPlace x_namePlace x_awayTold x_away x_coded x_statements x_isCrossing J25_c0_55 J25_c0_58 J25_c0_59 J25_c0_70 J25_c0_71 J25_c0_72 J25_c0_73 J25_c0_74 x_rowMany x_fitMany x_fitRules x_fitGreen J25_c0_82 J25_c0_83 J70_c0_84 x_qCoded x_qWaits x_qOpened x_qBase J25_c0_117 x_qAnswer x_qIsNew x_octets)), (wi_rm56_0_9_0 rm cy J25_a1), (wi_rm81_0_180_0 rm cy J25_a2), (wi_rm9_0_6_0 rm cy g_refused), (wi_rm41_0_4_0 rm cy g_many), (wi_rm49_0_6_0 rm cy g_codeFrom), (wi_rm50_0_6_0 rm cy g_codeEnd), (wi_rm116_1_1700_1 rm cy J25_a7), (wi_rm51_0_3200_0 rm cy g_codes), (wi_rm46_0_48_0 rm cy g_walkers), (wi_rm43_0_8_0 rm cy g_bar), (wi_rm65_0_12_0 rm cy J25_a11), (wi_rm44_0_24_0 rm cy g_kinds), (wi_rm61_0_300_0 rm cy J25_a13), (wi_rm66_3_12_0 rm cy J25_a14), (wi_rm67_3_12_0 rm cy J25_a15), (wi_rm60_3_320_0 rm cy J25_a16), (wi_rm63_3_12_0 rm cy J25_a17), (wi_rm64_0_12_0 rm cy J25_a18), (wi_rm68_3_12_0 rm cy J25_a19), (wi_rm69_3_300_0 rm cy J25_a20), (wi_rm62_3_300_0 rm cy J25_a21)] → va_S A s.heap H locs → lv_has ls 6 [(0, .ref a_this), (1, .int p0), (2, .int J70_l2), (3, .int J25_l3), (4, .int J70_l4), (5, .int J36_l5)] → W p l e { frames := 7, cells := 0, slots := 0, locals := 159 } s m args below meth c H locs 0 0 Q (F0 m 70 ls []) := by
                intro J70_c0_84 J70_l2 J70_l4 H locs ls hK70_p0 hK70_J25_l3 hK70_J36_l5 hK70_x_isCrossing hK70_J25_c0_70 hK70_J25_c0_73 hK70_J25_c0_82 hK70_J25_c0_83 hK70_J25_c0_117 hJ70_a4_3 hJ70_a10_4 hq hP hD hS hl
                unfold F_X10_chance_70 at hq
                obtain ⟨z1, ez1⟩ : ∃ y : Int32, y = J36_l5 + 1 := ⟨_, rfl⟩
                refine lv_iinc (v := z1) (lv' := [(5, .int z1), (0, .ref a_this), (1, .int p0), (2, .int J70_l2), (3, .int J25_l3), (4, .int J70_l4)]) hx hb dX10_chance_70 hl (k := 5) rfl (by rw [ez1]; rfl) (Nat.le_of_ble_eq_true rfl) rfl (fun ls hl => ?_)
                have h2 := ib_add hK70_J36_l5 (ib_c 1 1 1 rfl) rfl
                rw [← ez1] at h2
                have h3 : ib z1 1 12 := ib_w 1 12 h2.1 rfl
                have Ez1 := lf_add h2.2 (lf_rf J36_l5) (lf_lc 1 (1 : Int) rfl)
                refine lv_goto (tgt := 36) hx hb dX10_chance_73 rfl ?_
                exact ih36 J70_l2 J70_l4 z1 J70_c0_84 H locs ls (ib_w 1 30 hK70_p0 rfl) (ib_w 0 29 hK70_J25_l3 rfl) (ib_w 1 1 hK70_x_isCrossing rfl) (ib_w 0 1 hK70_J25_c0_70 rfl) (ib_w 0 1 hK70_J25_c0_73 rfl) (ib_w 1 20 hK70_J25_c0_82 rfl) (ib_w 0 19 hK70_J25_c0_83 rfl) (ib_w 0 1700 hK70_J25_c0_117 rfl) (ib_w 10 120 hJ70_a10_4 rfl) (ib_w 0 12 h3 rfl) (by rw [← hK36]; rw [lf_u Ez1]; exact hq) (by have := h2.2; have : (1 : Int32).toInt = 1 := rfl; omega) hP hD hS (lv_sub hl [1, 2, 3, 4, 5, 0] rfl)
              refine lv_iload hx hb dX10_chance_36 (lv_at hl 5 rfl) ?_
              refine lv_aload_n hx hb dX10_chance_38 rfl (lv_at hl 0 rfl) ?_
              refine k_jim hP hD hS hA [0, 4] [false, true, true, true, false, true, true, true, true, true, true, true, true, true, true, true, true, true, true, true, true, true] rfl rfl (by decide +kernel) 0 0 (Nat.le_of_ble_eq_true rfl) (Nat.le_of_ble_eq_true rfl) (fun hPc hDc => k_runV (As := []) (rest := [.int J36_l5]) C0 hZ hS hA (s_X10_walkerMany l dC dI cy sq a_this rm x_taped x_at x_end x_ended x_bad x_badPlace x_fault x_faultPlace x_namePlace x_awayTold x_away x_coded x_statements x_isCrossing J25_c0_55 J25_c0_58 J25_c0_59 J25_c0_70 J25_c0_71 J25_c0_72 J25_c0_73 J25_c0_74 x_rowMany x_fitMany x_fitRules x_fitGreen J25_c0_82 J25_c0_83 J36_c0_84 x_qCoded x_qWaits x_qOpened x_qBase J25_c0_117 x_qAnswer x_qIsNew x_octets g_many ) mV_X10_433 hPc hDc rfl rfl rfl hl rfl rfl (Nat.le_of_ble_eq_true rfl) ⟨(Nat.le_of_ble_eq_true rfl), (Nat.le_of_ble_eq_true rfl)⟩ ⟨(Nat.le_of_ble_eq_true rfl), (Nat.le_of_ble_eq_true rfl)⟩ dX10_chance_39) (fun r4 u5 H locs hw hP hD hS => ?_)
              try dsimp only at hP hD hw
              replace hP : va_P (dC, dI) vwCl [(wi_rm56_0_9_0 rm cy J25_a1), (wi_rm81_0_180_0 rm cy J25_a2), (wi_rm9_0_6_0 rm cy g_refused), (wi_rm49_0_6_0 rm cy g_codeFrom), (wi_rm50_0_6_0 rm cy g_codeEnd), (wi_rm116_1_1700_1 rm cy J25_a7), (wi_rm51_0_3200_0 rm cy g_codes), (wi_rm46_0_48_0 rm cy g_walkers), (wi_rm43_0_8_0 rm cy g_bar), (wi_rm65_0_12_0 rm cy J25_a11), (wi_rm44_0_24_0 rm cy g_kinds), (wi_rm61_0_300_0 rm cy J25_a13), (wi_rm66_3_12_0 rm cy J25_a14), (wi_rm67_3_12_0 rm cy J25_a15), (wi_rm60_3_320_0 rm cy J25_a16), (wi_rm63_3_12_0 rm cy J25_a17), (wi_rm64_0_12_0 rm cy J25_a18), (wi_rm68_3_12_0 rm cy J25_a19), (wi_rm69_3_300_0 rm cy J25_a20), (wi_rm62_3_300_0 rm cy J25_a21), (a_this, .inr (10, mfs rm x_taped x_at x_end x_ended x_bad x_badPlace x_fault x_faultPlace x_namePlace x_awayTold x_away x_coded x_statements x_isCrossing J25_c0_55 J25_c0_58 J25_c0_59 J25_c0_70 J25_c0_71 J25_c0_72 J25_c0_73 J25_c0_74 x_rowMany x_fitMany x_fitRules x_fitGreen J25_c0_82 J25_c0_83 J36_c0_84 x_qCoded x_qWaits x_qOpened x_qBase J25_c0_117 x_qAnswer x_qIsNew x_octets)), (wi_rm41_0_4_0 rm cy g_many)] H := hP
              replace hD := k_D hP hD
              obtain ⟨h6, h7⟩ := hw
              subst h6
              replace hq := lf_b1 hq h7
              refine lv_icmp_ge (tgt := 76) hx hb dX10_chance_42 rfl (fun c8 => ?_) (fun c8 => ?_)
              · as_aux_lemma =>
                  replace hq := lf_pos hq (lf_le (lf_pt (lf_ra g_many) 3) (lf_rf J36_l5) c8)
                  have h9 := ib_le hg_many_3 hJ36_l5 c8
                  refine lv_aload_n hx hb dX10_chance_76 rfl (lv_at hl 0 rfl) ?_
                  refine lv_iload hx hb dX10_chance_77 (lv_at hl 4 rfl) ?_
                  refine k_jim hP hD hS hA [20, 3, 4, 5, 6, 7, 0, 8, 9, 10, 11, 12, 13, 14, 15, 16, 17, 18, 21, 19] [false, true, true] rfl rfl (by decide +kernel) 0 0 (Nat.le_of_ble_eq_true rfl) (Nat.le_of_ble_eq_true rfl) (fun hPc hDc => k_runV (As := [.int J36_l4]) (rest := []) C0 hZ hS hA (s_X10_dayGoes l dC dI cy sq a_this rm x_taped x_at x_end x_ended x_bad x_badPlace x_fault x_faultPlace x_namePlace x_awayTold x_away x_coded x_statements x_isCrossing J25_c0_55 J25_c0_58 J25_c0_59 J25_c0_70 J25_c0_71 J25_c0_72 J25_c0_73 J25_c0_74 x_rowMany x_fitMany x_fitRules x_fitGreen J25_c0_82 J25_c0_83 J36_c0_84 x_qCoded x_qWaits x_qOpened x_qBase J25_c0_117 x_qAnswer x_qIsNew x_octets g_many g_bar g_kinds g_walkers g_codeFrom g_codeEnd g_codes J25_a1 J25_a16 J25_a13 J25_a21 J25_a17 J25_a18 J25_a11 J25_a14 J25_a15 J25_a19 J25_a20 J25_a7 J36_l4 (ib_w 0 1700 hK36_J25_c0_117 rfl) (ib_w 0 12 hg_many_3 rfl) (ib_w 10 120 hJ36_a10_4 rfl) hpg_walkers (ib_w (-1) 1600 hg_codeFrom_3 rfl) (ib_w (-1) 1600 hg_codeFrom_4 rfl) (ib_w (-1) 1600 hg_codeFrom_5 rfl) (ib_w 0 1600 hg_codeEnd_3 rfl) (ib_w 0 1600 hg_codeEnd_4 rfl) (ib_w 0 1600 hg_codeEnd_5 rfl) hJ25_a13 hG0 hG1 hG2) mV_X10_560 hPc hDc rfl rfl rfl hl rfl rfl (Nat.le_of_ble_eq_true rfl) ⟨(Nat.le_of_ble_eq_true rfl), (Nat.le_of_ble_eq_true rfl)⟩ ⟨(Nat.le_of_ble_eq_true rfl), (Nat.le_of_ble_eq_true rfl)⟩ dX10_chance_79) (fun r10 u11 H locs hw hP hD hS => ?_)
                  obtain ⟨v12, v13, v14, v15, v16, v17, v18, v19, v20, f21, f22, f23, f24, f25, f26, f27, f28, f29, f30, f31, f32⟩ := u11
                  try dsimp only at hP hD hw
                  replace hP : va_P (dC, dI) vwCl [(wi_rm81_0_180_0 rm cy J25_a2), (wi_rm9_0_6_0 rm cy g_refused), (a_this, .inr (10, mfs rm x_taped x_at x_end x_ended x_bad x_badPlace x_fault x_faultPlace x_namePlace x_awayTold x_away x_coded x_statements x_isCrossing v12 v13 v14 v15 v16 v17 v18 v19 x_rowMany x_fitMany x_fitRules x_fitGreen J25_c0_82 J25_c0_83 J36_c0_84 x_qCoded x_qWaits x_qOpened x_qBase v20 x_qAnswer x_qIsNew x_octets)), (wi_rm49_0_6_0 rm cy g_codeFrom), (wi_rm50_0_6_0 rm cy g_codeEnd), (wi_rm116_1_1700_1 rm cy f21), (wi_rm51_0_3200_0 rm cy g_codes), (wi_rm46_0_48_0 rm cy g_walkers), (wi_rm56_0_9_0 rm cy f22), (wi_rm43_0_8_0 rm cy g_bar), (wi_rm65_0_12_0 rm cy f23), (wi_rm44_0_24_0 rm cy g_kinds), (wi_rm61_0_300_0 rm cy f24), (wi_rm66_3_12_0 rm cy f25), (wi_rm67_3_12_0 rm cy f26), (wi_rm60_3_320_0 rm cy f27), (wi_rm63_3_12_0 rm cy f28), (wi_rm64_0_12_0 rm cy f29), (wi_rm68_3_12_0 rm cy f30), (wi_rm69_3_300_0 rm cy f31), (wi_rm41_0_4_0 rm cy g_many), (wi_rm62_3_300_0 rm cy f32)] H := hP
                  replace hD := k_D hP hD
                  obtain ⟨h33, h34, h35, h36, h37⟩ := hw
                  replace hq := lf_p1 hq h37
                  replace hq := lf_p1 hq rfl
                  replace hq := lf_p1 hq rfl
                  replace hq := lf_p1 hq rfl
                  replace hq := lf_p1 hq rfl
                  replace hq := lf_p1 hq rfl
                  replace hq := lf_p1 hq rfl
                  replace hq := lf_p1 hq rfl
                  replace hq := lf_p1 hq rfl
                  replace hq := lf_p1 hq rfl
                  replace hq := lf_p1 hq rfl
                  replace hq := lf_p1 hq rfl
                  replace hq := lf_p1 hq rfl
                  replace hq := lf_p1 hq rfl
                  replace hq := lf_p1 hq rfl
                  replace hq := lf_p1 hq rfl
                  replace hq := lf_p1 hq rfl
                  replace hq := lf_p1 hq rfl
                  replace hq := lf_p1 hq rfl
                  replace hq := lf_p1 hq rfl
                  replace hq := lf_p1 hq rfl
                  refine lv_pop hx hb dX10_chance_82 rfl ?_
                  obtain ⟨z38, ez38⟩ : ∃ y : Int32, y = J25_l3 + 1 := ⟨_, rfl⟩
                  refine lv_iinc (v := z38) (lv' := [(3, .int z38), (0, .ref a_this), (1, .int p0), (2, .int J36_l2), (4, .int J36_l4), (5, .int J36_l5)]) hx hb dX10_chance_83 hl (k := 3) rfl (by rw [ez38]; rfl) (Nat.le_of_ble_eq_true rfl) rfl (fun ls hl => ?_)
                  have h39 := ib_add hK36_J25_l3 (ib_c 1 1 1 rfl) rfl
                  rw [← ez38] at h39
                  have h40 : ib z38 1 30 := ib_w 1 30 h39.1 rfl
                  have Ez38 := lf_add h39.2 (lf_rf J25_l3) (lf_lc 1 (1 : Int) rfl)
                  refine lv_goto (tgt := 25) hx hb dX10_chance_86 rfl ?_
                  exact ih25 J25_c0_82 J25_c0_83 J25_a2 z38 v12 v13 v14 v15 v16 v17 v18 v19 v20 f22 f21 f23 f24 f25 f26 f27 f28 f29 f30 f31 f32 J36_l2 J36_c0_84 H locs ls (ib_w 1 30 hK36_p0 rfl) (ib_w 1 1 hK36_x_isCrossing rfl) (ib_w 1 20 hK36_J25_c0_82 rfl) (ib_w 0 19 hK36_J25_c0_83 rfl) (ib_w 10 120 hJ36_a10_4 rfl) (ib_w 0 30 h40 rfl) (ib_w 0 1 h33 rfl) (ib_w 0 1 h34 rfl) (ib_w 0 1700 h35 rfl) h36 (by rw [← hK25]; rw [lf_u Ez38]; exact hq) (by have := h39.2; have : (1 : Int32).toInt = 1 := rfl; omega) (hP.sub [2, 8, 0, 1, 20, 3, 4, 5, 6, 7, 9, 10, 11, 12, 13, 14, 15, 16, 17, 18, 19, 21] rfl) (hD.sub [2, 8, 0, 1, 20, 3, 4, 5, 6, 7, 9, 10, 11, 12, 13, 14, 15, 16, 17, 18, 19, 21] (by decide +kernel) rfl) hS (lv_sub hl [1, 2, 3, 0] rfl)
              · as_aux_lemma =>
                  replace hq := lf_neg hq (lf_nle (lf_pt (lf_ra g_many) 3) (lf_rf J36_l5) c8)
                  have h41 := ib_nle hg_many_3 hJ36_l5 c8
                  have h42 : ib (g_many 3) 1 12 := ib_w 1 12 h41.1 rfl
                  have h43 : ib J36_l5 0 11 := ib_w 0 11 h41.2 rfl
                  refine lv_aload_n hx hb dX10_chance_45 rfl (lv_at hl 0 rfl) ?_
                  refine lv_bipush (v := 100) hx hb dX10_chance_46 rfl ?_
                  refine k_jim hP hD hS hA [20] [true, true, true, true, true, true, true, true, true, true, true, true, true, true, true, true, true, true, true, true, false, true] rfl rfl (by decide +kernel) 0 0 (Nat.le_of_ble_eq_true rfl) (Nat.le_of_ble_eq_true rfl) (fun hPc hDc => k_runV (As := [.int 100]) (rest := []) C0 hZ hS hA (s_X10_drawOf_a0_100 l dC dI cy sq a_this rm x_taped x_at x_end x_ended x_bad x_badPlace x_fault x_faultPlace x_namePlace x_awayTold x_away x_coded x_statements x_isCrossing J25_c0_55 J25_c0_58 J25_c0_59 J25_c0_70 J25_c0_71 J25_c0_72 J25_c0_73 J25_c0_74 x_rowMany x_fitMany x_fitRules x_fitGreen J25_c0_82 J25_c0_83 J36_c0_84 x_qCoded x_qWaits x_qOpened x_qBase J25_c0_117 x_qAnswer x_qIsNew x_octets ) mV_X10_605 hPc hDc rfl rfl rfl hl rfl rfl (Nat.le_of_ble_eq_true rfl) ⟨(Nat.le_of_ble_eq_true rfl), (Nat.le_of_ble_eq_true rfl)⟩ ⟨(Nat.le_of_ble_eq_true rfl), (Nat.le_of_ble_eq_true rfl)⟩ dX10_chance_48) (fun r44 u45 H locs hw hP hD hS => ?_)
                  obtain ⟨v46, ev46⟩ : ∃ z, z = u45 := ⟨_, rfl⟩; subst ev46
                  try dsimp only at hP hD hw
                  replace hP : va_P (dC, dI) vwCl [(wi_rm56_0_9_0 rm cy J25_a1), (wi_rm81_0_180_0 rm cy J25_a2), (wi_rm9_0_6_0 rm cy g_refused), (wi_rm49_0_6_0 rm cy g_codeFrom), (wi_rm50_0_6_0 rm cy g_codeEnd), (wi_rm116_1_1700_1 rm cy J25_a7), (wi_rm51_0_3200_0 rm cy g_codes), (wi_rm46_0_48_0 rm cy g_walkers), (wi_rm43_0_8_0 rm cy g_bar), (wi_rm65_0_12_0 rm cy J25_a11), (wi_rm44_0_24_0 rm cy g_kinds), (wi_rm61_0_300_0 rm cy J25_a13), (wi_rm66_3_12_0 rm cy J25_a14), (wi_rm67_3_12_0 rm cy J25_a15), (wi_rm60_3_320_0 rm cy J25_a16), (wi_rm63_3_12_0 rm cy J25_a17), (wi_rm64_0_12_0 rm cy J25_a18), (wi_rm68_3_12_0 rm cy J25_a19), (wi_rm69_3_300_0 rm cy J25_a20), (wi_rm62_3_300_0 rm cy J25_a21), (wi_rm41_0_4_0 rm cy g_many), (a_this, .inr (10, mfs rm x_taped x_at x_end x_ended x_bad x_badPlace x_fault x_faultPlace x_namePlace x_awayTold x_away x_coded x_statements x_isCrossing J25_c0_55 J25_c0_58 J25_c0_59 J25_c0_70 J25_c0_71 J25_c0_72 J25_c0_73 J25_c0_74 x_rowMany x_fitMany x_fitRules x_fitGreen J25_c0_82 J25_c0_83 v46 x_qCoded x_qWaits x_qOpened x_qBase J25_c0_117 x_qAnswer x_qIsNew x_octets))] H := hP
                  replace hD := k_D hP hD
                  have h47 := hw
                  replace hq := lf_p1 hq h47
                  refine lv_aload_n hx hb dX10_chance_51 rfl (lv_at hl 0 rfl) ?_
                  refine k_get C0 fg_X10_421 hP 21 rfl rfl dX10_chance_52 ?_
                  refine lv_icmp_ge (tgt := 70) hx hb dX10_chance_55 rfl (fun c48 => ?_) (fun c48 => ?_)
                  · replace hq := lf_pos hq (lf_le (lf_rf x_away) (lf_rf r44) c48)
                    have h49 := ib_le (ib_any x_away) (ib_any r44) c48
                    exact jn70 v46 J36_l2 J36_l4 H locs ls (ib_w 1 30 hK36_p0 rfl) (ib_w 0 29 hK36_J25_l3 rfl) (ib_w 0 11 h43 rfl) (ib_w 1 1 hK36_x_isCrossing rfl) (ib_w 0 1 hK36_J25_c0_70 rfl) (ib_w 0 1 hK36_J25_c0_73 rfl) (ib_w 1 20 hK36_J25_c0_82 rfl) (ib_w 0 19 hK36_J25_c0_83 rfl) (ib_w 0 1700 hK36_J25_c0_117 rfl) (ib_w 1 12 h42 rfl) (ib_w 10 120 hJ36_a10_4 rfl) (by exact hq) (hP.sub [21, 0, 1, 2, 20, 3, 4, 5, 6, 7, 8, 9, 10, 11, 12, 13, 14, 15, 16, 17, 18, 19] rfl) (hD.sub [21, 0, 1, 2, 20, 3, 4, 5, 6, 7, 8, 9, 10, 11, 12, 13, 14, 15, 16, 17, 18, 19] (by decide +kernel) rfl) hS (lv_sub hl [0, 1, 2, 3, 4, 5] rfl)
                  · replace hq := lf_neg hq (lf_nle (lf_rf x_away) (lf_rf r44) c48)
                    have h50 := ib_nle (ib_any x_away) (ib_any r44) c48
                    have h51 : ib x_away (-2147483647) 2147483647 := ib_w (-2147483647) 2147483647 h50.1 rfl
                    have h52 : ib r44 (-2147483648) 2147483646 := ib_w (-2147483648) 2147483646 h50.2 rfl
                    refine lv_iload hx hb dX10_chance_58 (lv_at hl 4 rfl) ?_
                    refine lv_iconst (v := 1) hx hb dX10_chance_60 rfl ?_
                    refine lv_iload hx hb dX10_chance_61 (lv_at hl 5 rfl) ?_
                    refine lv_ishl hx hb dX10_chance_63 ?_
                    refine lv_topi (fun z53 ez53 => ?_)
                    have h54 : ib z53 1 2048 := by rw [ez53]; exact ib_w 1 2048 (ib_shl1 11 (ib_w 0 11 h43 rfl) (by decide)) rfl
                    have Ez53 := lf_op lf_ishl ez53 (lf_lc 1 (1 : Int) rfl) (lf_rf J36_l5)
                    refine lv_ior hx hb dX10_chance_64 ?_
                    refine lv_topi (fun z55 ez55 => ?_)
                    have Ez55 := lf_op lf_ior ez55 (lf_rf J36_l4) Ez53
                    refine lv_istore (lv' := [(4, .int z55), (0, .ref a_this), (1, .int p0), (2, .int J36_l2), (3, .int J25_l3), (5, .int J36_l5)]) hx hb dX10_chance_65 hl (Nat.le_of_ble_eq_true rfl) rfl (fun ls hl => ?_)
                    obtain ⟨z56, ez56⟩ : ∃ y : Int32, y = J36_l2 + 1 := ⟨_, rfl⟩
                    refine lv_iinc (v := z56) (lv' := [(2, .int z56), (4, .int z55), (0, .ref a_this), (1, .int p0), (3, .int J25_l3), (5, .int J36_l5)]) hx hb dX10_chance_67 hl (k := 3) rfl (by rw [ez56]; rfl) (Nat.le_of_ble_eq_true rfl) rfl (fun ls hl => ?_)
                    have Ez56 := lf_op lf_iadd ez56 (lf_rf J36_l2) (lf_lc 1 (1 : Int) rfl)
                    exact jn70 v46 z56 z55 H locs ls (ib_w 1 30 hK36_p0 rfl) (ib_w 0 29 hK36_J25_l3 rfl) (ib_w 0 11 h43 rfl) (ib_w 1 1 hK36_x_isCrossing rfl) (ib_w 0 1 hK36_J25_c0_70 rfl) (ib_w 0 1 hK36_J25_c0_73 rfl) (ib_w 1 20 hK36_J25_c0_82 rfl) (ib_w 0 19 hK36_J25_c0_83 rfl) (ib_w 0 1700 hK36_J25_c0_117 rfl) (ib_w 1 12 h42 rfl) (ib_w 10 120 hJ36_a10_4 rfl) (by rw [lf_u Ez56]; rw [lf_u Ez55]; exact hq) (hP.sub [21, 0, 1, 2, 20, 3, 4, 5, 6, 7, 8, 9, 10, 11, 12, 13, 14, 15, 16, 17, 18, 19] rfl) (hD.sub [21, 0, 1, 2, 20, 3, 4, 5, 6, 7, 8, 9, 10, 11, 12, 13, 14, 15, 16, 17, 18, 19] (by decide +kernel) rfl) hS (lv_sub hl [2, 3, 0, 4, 1, 5] rfl)
        refine lv_iload_n hx hb dX10_chance_25 rfl (lv_at hl 3 rfl) ?_
        refine lv_iload_n hx hb dX10_chance_26 rfl (lv_at hl 1 rfl) ?_
        refine lv_icmp_ge (tgt := 89) hx hb dX10_chance_27 rfl (fun c57 => ?_) (fun c57 => ?_)
        · replace hq := lf_pos hq (lf_le (lf_rf p0) (lf_rf J25_l3) c57)
          have h58 := ib_le hK25_p0 hJ25_l3 c57
          have h59 : ib J25_l3 1 30 := ib_w 1 30 h58.2 rfl
          refine lv_iload_n hx hb dX10_chance_89 rfl (lv_at hl 2 rfl) ?_
          subst hQ; exact k_iret hx hb hr hlk rfl ((J25_c0_55, J25_c0_58, J25_c0_59, J25_c0_70, J25_c0_71, J25_c0_72, J25_c0_73, J25_c0_74, J25_c0_82, J25_c0_83, J25_c0_84, J25_c0_117, J25_a1, J25_a2, g_refused, J25_a7, J25_a11, J25_a13, J25_a14, J25_a15, J25_a16, J25_a17, J25_a18, J25_a19, J25_a20, J25_a21)) hS ⟨ib_w 0 1 hJ25_c0_70 rfl, ib_w 0 1 hJ25_c0_73 rfl, ib_w 0 20 hJ25_c0_82 rfl, ib_w 0 19 hJ25_c0_83 rfl, ib_w 0 1700 hJ25_c0_117 rfl, hJ25_a13, (hO.symm.trans (by exact hq))⟩ hP hD (Nat.le_of_ble_eq_true rfl) (Nat.le_of_ble_eq_true rfl) dX10_chance_90
        · replace hq := lf_neg hq (lf_nle (lf_rf p0) (lf_rf J25_l3) c57)
          have h60 := ib_nle hK25_p0 hJ25_l3 c57
          have h61 : ib J25_l3 0 29 := ib_w 0 29 h60.2 rfl
          refine lv_iconst (v := 0) hx hb dX10_chance_30 rfl ?_
          refine lv_istore (lv' := [(4, .int 0), (0, .ref a_this), (1, .int p0), (2, .int J25_l2), (3, .int J25_l3)]) hx hb dX10_chance_31 hl (Nat.le_of_ble_eq_true rfl) rfl (fun ls hl => ?_)
          refine lv_iconst (v := 0) hx hb dX10_chance_33 rfl ?_
          refine lv_istore (lv' := [(5, .int 0), (4, .int 0), (0, .ref a_this), (1, .int p0), (2, .int J25_l2), (3, .int J25_l3)]) hx hb dX10_chance_34 hl (Nat.le_of_ble_eq_true rfl) rfl (fun ls hl => ?_)
          exact jn36 14 J25_l2 0 0 J25_c0_84 H locs ls (ib_w 1 30 hK25_p0 rfl) (ib_w 0 29 h61 rfl) (ib_w 1 1 hK25_x_isCrossing rfl) (ib_w 0 1 hJ25_c0_70 rfl) (ib_w 0 1 hJ25_c0_73 rfl) (ib_w 1 20 hJ25_c0_82 rfl) (ib_w 0 19 hJ25_c0_83 rfl) (ib_w 0 1700 hJ25_c0_117 rfl) (ib_w 10 120 hJ25_a10_4 rfl) (ib_w 0 12 (ib_c 0 0 0 rfl) rfl) (by try simp only [show (0 : Int32).toInt = (0 : Int) from rfl]; exact hq) (by have := (ib_c 0 0 0 rfl); unfold ib at this; omega) hP hD hS (lv_sub hl [2, 3, 4, 5, 1, 0] rfl)
  refine lv_aload_n hx hb dX10_chance_0 rfl (lv_at hl 0 rfl) ?_
  refine lv_iload_n hx hb dX10_chance_1 rfl (lv_at hl 1 rfl) ?_
  refine lv_iconst (v := 1) hx hb dX10_chance_2 rfl ?_
  refine lv_bipush (v := 30) hx hb dX10_chance_3 rfl ?_
  refine k_jim hP hD hS hA [0, 1] [false, false, true, true, true, true, true, true, true, true, true, true, true, true, true, true, true, true, true, true, true, true] rfl rfl (by decide +kernel) 0 0 (Nat.le_of_ble_eq_true rfl) (Nat.le_of_ble_eq_true rfl) (fun hPc hDc => k_runV (As := [.int p0, .int 1, .int 30]) (rest := []) C0 hZ hS hA (s_X10_isAhead_a1_1_a2_30 l dC dI cy sq a_this rm x_taped x_at x_end x_ended x_bad x_badPlace x_fault x_faultPlace x_namePlace x_awayTold x_away x_coded x_statements x_isCrossing x_textKind x_askSecond x_redMany x_isOpen x_lastGreen x_greenTo x_isCycleGreen x_stillGreen x_rowMany x_fitMany x_fitRules x_fitGreen x_undoable x_newest x_seeded x_qCoded x_qWaits x_qOpened x_qBase x_qPiled x_qAnswer x_qIsNew x_octets g_now p0 (ib_w 0 1 hx_isCrossing rfl)) mV_X10_554 hPc hDc rfl rfl rfl hl rfl rfl (Nat.le_of_ble_eq_true rfl) ⟨(Nat.le_of_ble_eq_true rfl), (Nat.le_of_ble_eq_true rfl)⟩ ⟨(Nat.le_of_ble_eq_true rfl), (Nat.le_of_ble_eq_true rfl)⟩ dX10_chance_5) (fun r62 u63 H locs hw hP hD hS => ?_)
  try dsimp only at hP hD hw
  replace hP : va_P (dC, dI) vwCl [(wi_rm81_0_180_0 rm cy g_kept0), (wi_rm9_0_6_0 rm cy g_refused), (wi_rm41_0_4_0 rm cy g_many), (wi_rm49_0_6_0 rm cy g_codeFrom), (wi_rm50_0_6_0 rm cy g_codeEnd), (wi_rm116_1_1700_1 rm cy g_qPile), (wi_rm51_0_3200_0 rm cy g_codes), (wi_rm46_0_48_0 rm cy g_walkers), (wi_rm43_0_8_0 rm cy g_bar), (wi_rm65_0_12_0 rm cy g_waits), (wi_rm44_0_24_0 rm cy g_kinds), (wi_rm61_0_300_0 rm cy g_gaps), (wi_rm66_3_12_0 rm cy g_goes), (wi_rm67_3_12_0 rm cy g_harms), (wi_rm60_3_320_0 rm cy g_isCar), (wi_rm63_3_12_0 rm cy g_isHere), (wi_rm64_0_12_0 rm cy g_crosses), (wi_rm68_3_12_0 rm cy g_presses), (wi_rm69_3_300_0 rm cy g_crossedIn), (wi_rm62_3_300_0 rm cy g_isGreen), (a_this, .inr (10, mfs rm x_taped x_at x_end x_ended x_bad x_badPlace x_fault x_faultPlace x_namePlace x_awayTold x_away x_coded x_statements x_isCrossing x_textKind x_askSecond x_redMany x_isOpen x_lastGreen x_greenTo x_isCycleGreen x_stillGreen x_rowMany x_fitMany x_fitRules x_fitGreen x_undoable x_newest x_seeded x_qCoded x_qWaits x_qOpened x_qBase x_qPiled x_qAnswer x_qIsNew x_octets)), (wi_rm56_0_9_0 rm cy g_now)] H := hP
  replace hD := k_D hP hD
  obtain ⟨h64, h65, h66, h67⟩ := hw
  replace hq := lf_b1 hq h67
  refine lv_if_ne (tgt := 17) hx hb dX10_chance_8 rfl (fun c68 => ?_) (fun c68 => ?_)
  · replace hq := lf_neg hq (lf_ne (lf_rf r62) (lf_lc 0 (0 : Int) rfl) c68)
    have h69 : ib r62 1 1 := ib_w 1 1 (ib_ne_lo 0 h64 rfl c68) rfl
    have h70 : ib x_isCrossing 1 1 := ib_w 1 1 (ib_two hx_isCrossing (h65 (ib_nz h69 rfl))) rfl
    have h71 : ib (g_bar 4) 10 120 := ib_w 10 120 (ib_two hg_bar_4 (hc_cr (ib_nz h70 rfl))) rfl
    have h72 : ib p0 1 30 := ib_w 1 30 (ib_two (ib_any p0) (h66 (ib_nz h69 rfl))) rfl
    refine lv_aload_n hx hb dX10_chance_17 rfl (lv_at hl 0 rfl) ?_
    refine k_jvm hP hD hS hA [20, 21, 0] [false, true, true, true, true, true, true, true, true, true, true, true, true, true, true, true, true, true, true, true] rfl rfl (by decide +kernel) 0 0 (Nat.le_of_ble_eq_true rfl) (Nat.le_of_ble_eq_true rfl) (fun hPc hDc => k_runV (As := []) (rest := []) C0 hZ hS hA (s_X10_keeps l dC dI cy sq a_this rm x_taped x_at x_end x_ended x_bad x_badPlace x_fault x_faultPlace x_namePlace x_awayTold x_away x_coded x_statements x_isCrossing x_textKind x_askSecond x_redMany x_isOpen x_lastGreen x_greenTo x_isCycleGreen x_stillGreen x_rowMany x_fitMany x_fitRules x_fitGreen x_undoable x_newest x_seeded x_qCoded x_qWaits x_qOpened x_qBase x_qPiled x_qAnswer x_qIsNew x_octets g_now g_kept0 (ib_w 0 20 hx_undoable rfl) (ib_w 0 19 hx_newest rfl)) mV_X10_594 hPc hDc rfl rfl rfl hl rfl rfl (Nat.le_of_ble_eq_true rfl) ⟨(Nat.le_of_ble_eq_true rfl), (Nat.le_of_ble_eq_true rfl)⟩ ⟨(Nat.le_of_ble_eq_true rfl), (Nat.le_of_ble_eq_true rfl)⟩ dX10_chance_18) (fun u74 H locs hw hP hD hS => ?_)
    obtain ⟨v75, v76, f77⟩ := u74
    try dsimp only at hP hD hw
    replace hP : va_P (dC, dI) vwCl [(wi_rm9_0_6_0 rm cy g_refused), (wi_rm41_0_4_0 rm cy g_many), (wi_rm49_0_6_0 rm cy g_codeFrom), (wi_rm50_0_6_0 rm cy g_codeEnd), (wi_rm116_1_1700_1 rm cy g_qPile), (wi_rm51_0_3200_0 rm cy g_codes), (wi_rm46_0_48_0 rm cy g_walkers), (wi_rm43_0_8_0 rm cy g_bar), (wi_rm65_0_12_0 rm cy g_waits), (wi_rm44_0_24_0 rm cy g_kinds), (wi_rm61_0_300_0 rm cy g_gaps), (wi_rm66_3_12_0 rm cy g_goes), (wi_rm67_3_12_0 rm cy g_harms), (wi_rm60_3_320_0 rm cy g_isCar), (wi_rm63_3_12_0 rm cy g_isHere), (wi_rm64_0_12_0 rm cy g_crosses), (wi_rm68_3_12_0 rm cy g_presses), (wi_rm69_3_300_0 rm cy g_crossedIn), (wi_rm62_3_300_0 rm cy g_isGreen), (a_this, .inr (10, mfs rm x_taped x_at x_end x_ended x_bad x_badPlace x_fault x_faultPlace x_namePlace x_awayTold x_away x_coded x_statements x_isCrossing x_textKind x_askSecond x_redMany x_isOpen x_lastGreen x_greenTo x_isCycleGreen x_stillGreen x_rowMany x_fitMany x_fitRules x_fitGreen v75 v76 x_seeded x_qCoded x_qWaits x_qOpened x_qBase x_qPiled x_qAnswer x_qIsNew x_octets)), (wi_rm56_0_9_0 rm cy g_now), (wi_rm81_0_180_0 rm cy f77)] H := hP
    replace hD := k_D hP hD
    obtain ⟨h78, h79, h80⟩ := hw
    replace hq := lf_p1 hq h80
    replace hq := lf_p1 hq rfl
    refine lv_iconst (v := 0) hx hb dX10_chance_21 rfl ?_
    refine lv_istore_n (lv' := [(2, .int 0), (0, .ref a_this), (1, .int p0)]) hx hb dX10_chance_22 rfl hl (Nat.le_of_ble_eq_true rfl) rfl (fun ls hl => ?_)
    refine lv_iconst (v := 0) hx hb dX10_chance_23 rfl ?_
    refine lv_istore_n (lv' := [(3, .int 0), (2, .int 0), (0, .ref a_this), (1, .int p0)]) hx hb dX10_chance_24 rfl hl (Nat.le_of_ble_eq_true rfl) rfl (fun ls hl => ?_)
    exact jn25 32 v75 v76 f77 0 x_textKind x_askSecond x_redMany x_isOpen x_lastGreen x_greenTo x_isCycleGreen x_stillGreen x_qPiled g_now g_qPile g_waits g_gaps g_goes g_harms g_isCar g_isHere g_crosses g_presses g_crossedIn g_isGreen 0 x_seeded H locs ls (ib_w 1 30 h72 rfl) (ib_w 1 1 h70 rfl) (ib_w 1 20 h78 rfl) (ib_w 0 19 h79 rfl) (ib_w 10 120 h71 rfl) (ib_w 0 30 (ib_c 0 0 0 rfl) rfl) (ib_w 0 1 hx_isOpen rfl) (ib_w 0 1 hx_isCycleGreen rfl) (ib_w 0 1700 hx_qPiled rfl) hg_gaps (by try simp only [show (0 : Int32).toInt = (0 : Int) from rfl]; exact hq) (by have := (ib_c 0 0 0 rfl); unfold ib at this; omega) (hP.sub [19, 20, 21, 0, 1, 2, 3, 4, 5, 6, 7, 8, 9, 10, 11, 12, 13, 14, 15, 16, 17, 18] rfl) (hD.sub [19, 20, 21, 0, 1, 2, 3, 4, 5, 6, 7, 8, 9, 10, 11, 12, 13, 14, 15, 16, 17, 18] (by decide +kernel) rfl) hS (lv_sub hl [2, 3, 1, 0] rfl)
  · replace hq := lf_pos hq (lf_eq (lf_rf r62) (lf_lc 0 (0 : Int) rfl) c68)
    have h81 := ib_eq h64 (ib_c 0 0 0 rfl) c68
    have h82 : ib r62 0 0 := ib_w 0 0 h81.1 rfl
    refine lv_aload_n hx hb dX10_chance_11 rfl (lv_at hl 0 rfl) ?_
    refine lv_iconst (v := 3) hx hb dX10_chance_12 rfl ?_
    refine k_jim hP hD hS hA [20, 1] [true, false, true, true, true, true, true, true, true, true, true, true, true, true, true, true, true, true, true, true, false, true] rfl rfl (by decide +kernel) 0 0 (Nat.le_of_ble_eq_true rfl) (Nat.le_of_ble_eq_true rfl) (fun hPc hDc => k_runV (As := [.int 3]) (rest := []) C0 hZ hS hA (s_X10_refuses_a0_3 l dC dI cy sq a_this rm x_taped x_at x_end x_ended x_bad x_badPlace x_fault x_faultPlace x_namePlace x_awayTold x_away x_coded x_statements x_isCrossing x_textKind x_askSecond x_redMany x_isOpen x_lastGreen x_greenTo x_isCycleGreen x_stillGreen x_rowMany x_fitMany x_fitRules x_fitGreen x_undoable x_newest x_seeded x_qCoded x_qWaits x_qOpened x_qBase x_qPiled x_qAnswer x_qIsNew x_octets g_refused ) mV_X10_567 hPc hDc rfl rfl rfl hl rfl rfl (Nat.le_of_ble_eq_true rfl) ⟨(Nat.le_of_ble_eq_true rfl), (Nat.le_of_ble_eq_true rfl)⟩ ⟨(Nat.le_of_ble_eq_true rfl), (Nat.le_of_ble_eq_true rfl)⟩ dX10_chance_13) (fun r83 u84 H locs hw hP hD hS => ?_)
    obtain ⟨f85, ef85⟩ : ∃ z, z = u84 := ⟨_, rfl⟩; subst ef85
    try dsimp only at hP hD hw
    replace hP : va_P (dC, dI) vwCl [(wi_rm81_0_180_0 rm cy g_kept0), (wi_rm41_0_4_0 rm cy g_many), (wi_rm49_0_6_0 rm cy g_codeFrom), (wi_rm50_0_6_0 rm cy g_codeEnd), (wi_rm116_1_1700_1 rm cy g_qPile), (wi_rm51_0_3200_0 rm cy g_codes), (wi_rm46_0_48_0 rm cy g_walkers), (wi_rm43_0_8_0 rm cy g_bar), (wi_rm65_0_12_0 rm cy g_waits), (wi_rm44_0_24_0 rm cy g_kinds), (wi_rm61_0_300_0 rm cy g_gaps), (wi_rm66_3_12_0 rm cy g_goes), (wi_rm67_3_12_0 rm cy g_harms), (wi_rm60_3_320_0 rm cy g_isCar), (wi_rm63_3_12_0 rm cy g_isHere), (wi_rm64_0_12_0 rm cy g_crosses), (wi_rm68_3_12_0 rm cy g_presses), (wi_rm69_3_300_0 rm cy g_crossedIn), (wi_rm62_3_300_0 rm cy g_isGreen), (wi_rm56_0_9_0 rm cy g_now), (a_this, .inr (10, mfs rm x_taped x_at x_end x_ended x_bad x_badPlace x_fault x_faultPlace x_namePlace x_awayTold x_away x_coded x_statements x_isCrossing x_textKind x_askSecond x_redMany x_isOpen x_lastGreen x_greenTo x_isCycleGreen x_stillGreen x_rowMany x_fitMany x_fitRules x_fitGreen x_undoable x_newest x_seeded x_qCoded x_qWaits x_qOpened x_qBase x_qPiled x_qAnswer x_qIsNew x_octets)), (wi_rm9_0_6_0 rm cy f85)] H := hP
    replace hD := k_D hP hD
    obtain ⟨h86, h87⟩ := hw
    replace hq := lf_p1 hq h87
    subst hQ; exact k_iret hx hb hr hlk rfl ((x_textKind, x_askSecond, x_redMany, x_isOpen, x_lastGreen, x_greenTo, x_isCycleGreen, x_stillGreen, x_undoable, x_newest, x_seeded, x_qPiled, g_now, g_kept0, f85, g_qPile, g_waits, g_gaps, g_goes, g_harms, g_isCar, g_isHere, g_crosses, g_presses, g_crossedIn, g_isGreen)) hS ⟨ib_w 0 1 hx_isOpen rfl, ib_w 0 1 hx_isCycleGreen rfl, ib_w 0 20 hx_undoable rfl, ib_w 0 19 hx_newest rfl, ib_w 0 1700 hx_qPiled rfl, hg_gaps, (hO.symm.trans (by exact hq))⟩ (hP.sub [20, 19, 0, 21, 1, 2, 3, 4, 5, 6, 7, 8, 9, 10, 11, 12, 13, 14, 15, 16, 17, 18] rfl) (hD.sub [20, 19, 0, 21, 1, 2, 3, 4, 5, 6, 7, 8, 9, 10, 11, 12, 13, 14, 15, 16, 17, 18] (by decide +kernel) rfl) (Nat.le_of_ble_eq_true rfl) (Nat.le_of_ble_eq_true rfl) dX10_chance_16
set_option maxHeartbeats 4000000 in
set_option maxRecDepth 100000 in
theorem s_X10_checked (l : Launch) (dC : Nat → ClassId) (dI : Nat → Nat → Nat) (cy : Nat → ClassId) (sq : Nat → Nat) (a_arg0 : Nat) (g_arg0 : Nat → Int32) (p1 : Int32) (hg_arg0 : ia g_arg0 1600 0 255) (hp1 : ib p1 0 1599) : k_Met l yX10_checked cX10_checked 4 (some .int) { frames := 0, cells := 0, slots := 0, locals := 0 } dC dI cy sq [.ref a_arg0, .int p1] [(wi_0_1600_0 a_arg0 cy g_arg0)] (k_Qi dC dI (fun (r : Int32) (_ : Unit) => ib r 0 250 ∧ (F_X10_checked (lf_A g_arg0) (Int32.toInt p1) = ((Int32.toInt r)))) (fun _ : Unit => [(wi_0_1600_0 a_arg0 cy g_arg0)])) := by
  refine k_ofW2 (by decide +kernel) (Nat.le_of_ble_eq_true rfl) ?_
  intro p e s m below meth c A ls H locs args Q hQ C0 hZ hr hlk hin hP hD hA hS hl
  have C0 : k_cx p s m args c cX10_checked 4 RX10 dC dI cy sq := C0
  have hx := C0.1
  have hb := C0.2.1
  have hl : lv_has ls 4 [(0, .ref a_arg0), (1, .int p1)] := hl
  obtain ⟨O, hO⟩ : ∃ o, o = F_X10_checked (lf_A g_arg0) (Int32.toInt p1) := ⟨_, rfl⟩
  have hq := hO
  unfold F_X10_checked at hq
  have jn5 : ∀ (n : Nat) (J5_l2 : Int32) (J5_l3 : Int32) (H : Heap) (locs : List Loc) (ls : Array Slot), ib J5_l2 0 250 → ib J5_l3 0 1599 → (O = F_X10_checked_5 (lf_A g_arg0) (Int32.toInt p1) n (Int32.toInt J5_l2) (Int32.toInt J5_l3)) → 1600 ≤ J5_l3.toInt + (n : Int) → va_P (dC, dI) vwCl [(wi_0_1600_0 a_arg0 cy g_arg0)] H → va_D A [(wi_0_1600_0 a_arg0 cy g_arg0)] → va_S A s.heap H locs → lv_has ls 4 [(0, .ref a_arg0), (1, .int p1), (2, .int J5_l2), (3, .int J5_l3)] → W p l e { frames := 0, cells := 0, slots := 0, locals := 0 } s m args below meth c H locs 0 0 Q (F0 m 5 ls []) := by
    as_aux_lemma =>
      intro n
      induction n with
      | zero =>
        intro J5_l2 J5_l3 H locs ls hJ5_l2 hJ5_l3 hq hm
        exact absurd hm (by have := hJ5_l3; unfold ib at this; omega)
      | succ n ih =>
        intro J5_l2 J5_l3 H locs ls hJ5_l2 hJ5_l3 hq hm5 hP hD hS hl
        have ih5 := ih
        obtain ⟨K5, hK5⟩ : ∃ K, K = F_X10_checked_5 (lf_A g_arg0) (Int32.toInt p1) n := ⟨_, rfl⟩
        have hq : O = F_X10_checked_5b (lf_A g_arg0) (Int32.toInt p1) K5 (Int32.toInt J5_l2) (Int32.toInt J5_l3) := by rw [hK5]; exact hq
        unfold F_X10_checked_5b at hq
        refine lv_iload_n hx hb dX10_checked_5 rfl (lv_at hl 3 rfl) ?_
        refine lv_iload_n hx hb dX10_checked_6 rfl (lv_at hl 1 rfl) ?_
        refine lv_icmp_ge (tgt := 28) hx hb dX10_checked_7 rfl (fun c1 => ?_) (fun c1 => ?_)
        · replace hq := lf_pos hq (lf_le (lf_rf p1) (lf_rf J5_l3) c1)
          have h2 := ib_le hp1 hJ5_l3 c1
          refine lv_iload_n hx hb dX10_checked_28 rfl (lv_at hl 2 rfl) ?_
          subst hQ; exact k_iret hx hb hr hlk rfl () hS ⟨ib_w 0 250 hJ5_l2 rfl, (hO.symm.trans (by exact hq))⟩ hP hD (Nat.le_of_ble_eq_true rfl) (Nat.le_of_ble_eq_true rfl) dX10_checked_29
        · as_aux_lemma =>
            replace hq := lf_neg hq (lf_nle (lf_rf p1) (lf_rf J5_l3) c1)
            have h3 := ib_nle hp1 hJ5_l3 c1
            have h4 : ib p1 1 1599 := ib_w 1 1599 h3.1 rfl
            have h5 : ib J5_l3 0 1598 := ib_w 0 1598 h3.2 rfl
            refine lv_iconst (v := 3) hx hb dX10_checked_10 rfl ?_
            refine lv_iload_n hx hb dX10_checked_11 rfl (lv_at hl 2 rfl) ?_
            refine lv_imul hx hb dX10_checked_12 ?_
            refine lv_topi (fun z6 ez6 => ?_)
            have h7 := ib_mul (ib_c 3 3 3 rfl) hJ5_l2 rfl
            rw [← ez6] at h7
            have h8 : ib z6 0 750 := ib_w 0 750 h7.1 rfl
            have h9 : z6.toInt = 3 * J5_l2.toInt := by have q0 := h7.2; rw [show (3 : Int32).toInt = 3 from by decide] at q0; omega
            have Ez6 := lf_mul h7.2 (lf_lc 3 (3 : Int) rfl) (lf_rf J5_l2)
            refine lv_aload_n hx hb dX10_checked_13 rfl (lv_at hl 0 rfl) ?_
            refine lv_iload_n hx hb dX10_checked_14 rfl (lv_at hl 3 rfl) ?_
            refine va_iald hx hb C0.2.2.2.2.2.1 hP 0 0 rfl rfl (ib_in 1600 h5 rfl) dX10_checked_15 ?_
            refine lv_topi (fun z10 ez10 => ?_)
            have h11 : ib z10 0 255 := by rw [ez10]; exact ia_at hg_arg0 (ib_in 1600 h5 rfl)
            have Ez10 := lf_ld ez10 (lf_ra g_arg0) (lf_rf J5_l3)
            refine lv_iadd hx hb dX10_checked_16 ?_
            refine lv_topi (fun z12 ez12 => ?_)
            have h13 := ib_add h8 h11 rfl
            rw [← ez12] at h13
            have h14 : ib z12 0 1005 := ib_w 0 1005 h13.1 rfl
            have Ez12 := lf_add h13.2 Ez6 Ez10
            refine lv_sipush (v := 251) hx hb dX10_checked_17 rfl ?_
            refine lv_irem hx hb dX10_checked_20 (by decide) ?_
            refine lv_topi (fun z15 ez15 => ?_)
            have h16 : ib z15 0 250 := by rw [ez15]; exact ib_w 0 250 (ib_rem h14 (ib_c 251 251 251 rfl) rfl) rfl
            have Ez15 := lf_op lf_irem ez15 Ez12 (lf_lc 251 (251 : Int) rfl)
            refine lv_istore_n (lv' := [(2, .int z15), (0, .ref a_arg0), (1, .int p1), (3, .int J5_l3)]) hx hb dX10_checked_21 rfl hl (Nat.le_of_ble_eq_true rfl) rfl (fun ls hl => ?_)
            obtain ⟨z17, ez17⟩ : ∃ y : Int32, y = J5_l3 + 1 := ⟨_, rfl⟩
            refine lv_iinc (v := z17) (lv' := [(3, .int z17), (2, .int z15), (0, .ref a_arg0), (1, .int p1)]) hx hb dX10_checked_22 hl (k := 3) rfl (by rw [ez17]; rfl) (Nat.le_of_ble_eq_true rfl) rfl (fun ls hl => ?_)
            have h18 := ib_add h5 (ib_c 1 1 1 rfl) rfl
            rw [← ez17] at h18
            have h19 : ib z17 1 1599 := ib_w 1 1599 h18.1 rfl
            have Ez17 := lf_add h18.2 (lf_rf J5_l3) (lf_lc 1 (1 : Int) rfl)
            refine lv_goto (tgt := 5) hx hb dX10_checked_25 rfl ?_
            exact ih5 z15 z17 H locs ls (ib_w 0 250 h16 rfl) (ib_w 0 1599 h19 rfl) (by rw [← hK5]; rw [lf_u Ez15]; rw [lf_u Ez17]; exact hq) (by have := h18.2; have : (1 : Int32).toInt = 1 := rfl; omega) hP hD hS (lv_sub hl [2, 3, 1, 0] rfl)
  refine lv_bipush (v := 101) hx hb dX10_checked_0 rfl ?_
  refine lv_istore_n (lv' := [(2, .int 101), (0, .ref a_arg0), (1, .int p1)]) hx hb dX10_checked_2 rfl hl (Nat.le_of_ble_eq_true rfl) rfl (fun ls hl => ?_)
  refine lv_iconst (v := 0) hx hb dX10_checked_3 rfl ?_
  refine lv_istore_n (lv' := [(3, .int 0), (2, .int 101), (0, .ref a_arg0), (1, .int p1)]) hx hb dX10_checked_4 rfl hl (Nat.le_of_ble_eq_true rfl) rfl (fun ls hl => ?_)
  exact jn5 1601 101 0 H locs ls (ib_w 0 250 (ib_c 101 101 101 rfl) rfl) (ib_w 0 1599 (ib_c 0 0 0 rfl) rfl) (by try simp only [show (101 : Int32).toInt = (101 : Int) from rfl]; try simp only [show (0 : Int32).toInt = (0 : Int) from rfl]; exact hq) (by have := (ib_c 0 0 0 rfl); unfold ib at this; omega) hP hD hS (lv_sub hl [2, 3, 1, 0] rfl)
set_option maxHeartbeats 4000000 in
set_option maxRecDepth 100000 in
theorem s_X10_fail_a0_5_f_bad_0_0 (l : Launch) (dC : Nat → ClassId) (dI : Nat → Nat → Nat) (cy : Nat → ClassId) (sq : Nat → Nat) (a_this : Nat) (rm : Nat → Nat) (x_taped : Int32) (x_at : Int32) (x_end : Int32) (x_ended : Int32) (x_bad : Int32) (x_badPlace : Int32) (x_fault : Int32) (x_faultPlace : Int32) (x_namePlace : Int32) (x_awayTold : Int32) (x_away : Int32) (x_coded : Int32) (x_statements : Int32) (x_isCrossing : Int32) (x_textKind : Int32) (x_askSecond : Int32) (x_redMany : Int32) (x_isOpen : Int32) (x_lastGreen : Int32) (x_greenTo : Int32) (x_isCycleGreen : Int32) (x_stillGreen : Int32) (x_rowMany : Int32) (x_fitMany : Int32) (x_fitRules : Int32) (x_fitGreen : Int32) (x_undoable : Int32) (x_newest : Int32) (x_seeded : Int64) (x_qCoded : Int32) (x_qWaits : Int32) (x_qOpened : Int32) (x_qBase : Int32) (x_qPiled : Int32) (x_qAnswer : Int64) (x_qIsNew : Int32) (x_octets : Int32) (p1 : Int32) (hx_bad : ib x_bad 0 0) : k_Met l yX10_fail cX10_fail 3 none { frames := 0, cells := 0, slots := 0, locals := 0 } dC dI cy sq [.ref a_this, .int 5, .int p1] [(a_this, .inr (10, mfs rm x_taped x_at x_end x_ended x_bad x_badPlace x_fault x_faultPlace x_namePlace x_awayTold x_away x_coded x_statements x_isCrossing x_textKind x_askSecond x_redMany x_isOpen x_lastGreen x_greenTo x_isCycleGreen x_stillGreen x_rowMany x_fitMany x_fitRules x_fitGreen x_undoable x_newest x_seeded x_qCoded x_qWaits x_qOpened x_qBase x_qPiled x_qAnswer x_qIsNew x_octets))] (k_Qv dC dI (fun (_ : Unit) => True) (fun _ : Unit => [(a_this, .inr (10, mfs rm x_taped x_at x_end x_ended 5 p1 x_fault x_faultPlace x_namePlace x_awayTold x_away x_coded x_statements x_isCrossing x_textKind x_askSecond x_redMany x_isOpen x_lastGreen x_greenTo x_isCycleGreen x_stillGreen x_rowMany x_fitMany x_fitRules x_fitGreen x_undoable x_newest x_seeded x_qCoded x_qWaits x_qOpened x_qBase x_qPiled x_qAnswer x_qIsNew x_octets))])) := by
  refine k_ofW2 (by decide +kernel) (Nat.le_of_ble_eq_true rfl) ?_
  intro p e s m below meth c A ls H locs args Q hQ C0 hZ hr hlk hin hP hD hA hS hl
  have C0 : k_cx p s m args c cX10_fail 3 RX10 dC dI cy sq := C0
  have hx := C0.1
  have hb := C0.2.1
  have hl : lv_has ls 3 [(0, .ref a_this), (1, .int 5), (2, .int p1)] := hl
  refine lv_aload_n hx hb dX10_fail_0 rfl (lv_at hl 0 rfl) ?_
  refine k_get C0 fg_X10_279 hP 0 rfl rfl dX10_fail_1 ?_
  refine lv_if_eq (tgt := 8) hx hb dX10_fail_4 rfl (fun c1 => ?_) (fun c1 => ?_)
  · have h2 := ib_eq hx_bad (ib_c 0 0 0 rfl) c1
    refine lv_aload_n hx hb dX10_fail_8 rfl (lv_at hl 0 rfl) ?_
    refine lv_iload_n hx hb dX10_fail_9 rfl (lv_at hl 1 rfl) ?_
    refine k_put C0 fp_X10_279 hP hD hS 0 rfl rfl rfl (Nat.le_of_ble_eq_true rfl) dX10_fail_10 (fun H locs hP hD hS => ?_)
    replace hP : va_P (dC, dI) vwCl [(a_this, .inr (10, mfs rm x_taped x_at x_end x_ended 5 x_badPlace x_fault x_faultPlace x_namePlace x_awayTold x_away x_coded x_statements x_isCrossing x_textKind x_askSecond x_redMany x_isOpen x_lastGreen x_greenTo x_isCycleGreen x_stillGreen x_rowMany x_fitMany x_fitRules x_fitGreen x_undoable x_newest x_seeded x_qCoded x_qWaits x_qOpened x_qBase x_qPiled x_qAnswer x_qIsNew x_octets))] H := hP
    replace hD := k_D hP hD
    refine lv_aload_n hx hb dX10_fail_13 rfl (lv_at hl 0 rfl) ?_
    refine lv_iload_n hx hb dX10_fail_14 rfl (lv_at hl 2 rfl) ?_
    refine k_put C0 fp_X10_282 hP hD hS 0 rfl rfl rfl (Nat.le_of_ble_eq_true rfl) dX10_fail_15 (fun H locs hP hD hS => ?_)
    replace hP : va_P (dC, dI) vwCl [(a_this, .inr (10, mfs rm x_taped x_at x_end x_ended 5 p1 x_fault x_faultPlace x_namePlace x_awayTold x_away x_coded x_statements x_isCrossing x_textKind x_askSecond x_redMany x_isOpen x_lastGreen x_greenTo x_isCycleGreen x_stillGreen x_rowMany x_fitMany x_fitRules x_fitGreen x_undoable x_newest x_seeded x_qCoded x_qWaits x_qOpened x_qBase x_qPiled x_qAnswer x_qIsNew x_octets))] H := hP
    replace hD := k_D hP hD
    subst hQ; exact k_vret hx hb hr hlk () hS True.intro hP hD (Nat.le_of_ble_eq_true rfl) (Nat.le_of_ble_eq_true rfl) dX10_fail_18
  · exact absurd (ib_one hx_bad rfl) c1
set_option maxHeartbeats 4000000 in
set_option maxRecDepth 100000 in
theorem s_X10_stands (l : Launch) (dC : Nat → ClassId) (dI : Nat → Nat → Nat) (cy : Nat → ClassId) (sq : Nat → Nat) (a_this : Nat) (rm : Nat → Nat) (x_taped : Int32) (x_at : Int32) (x_end : Int32) (x_ended : Int32) (x_bad : Int32) (x_badPlace : Int32) (x_fault : Int32) (x_faultPlace : Int32) (x_namePlace : Int32) (x_awayTold : Int32) (x_away : Int32) (x_coded : Int32) (x_statements : Int32) (x_isCrossing : Int32) (x_textKind : Int32) (x_askSecond : Int32) (x_redMany : Int32) (x_isOpen : Int32) (x_lastGreen : Int32) (x_greenTo : Int32) (x_isCycleGreen : Int32) (x_stillGreen : Int32) (x_rowMany : Int32) (x_fitMany : Int32) (x_fitRules : Int32) (x_fitGreen : Int32) (x_undoable : Int32) (x_newest : Int32) (x_seeded : Int64) (x_qCoded : Int32) (x_qWaits : Int32) (x_qOpened : Int32) (x_qBase : Int32) (x_qPiled : Int32) (x_qAnswer : Int64) (x_qIsNew : Int32) (x_octets : Int32) (g_many : Nat → Int32) (g_names : Nat → Int64) (g_bar : Nat → Int32) (g_kinds : Nat → Int32) (g_trusted : Nat → Int32) (g_walkers : Nat → Int32) (g_codeFrom : Nat → Int32) (g_codeEnd : Nat → Int32) (g_codes : Nat → Int32) (g_now : Nat → Int32) (hx_coded : ib x_coded 0 1600) (hg_many : ia g_many 4 0 12) (hg_many_0 : ib (g_many 0) 0 6) (hg_many_1 : ib (g_many 1) 0 12) (hg_many_3 : ib (g_many 3) 0 12) (hg_bar_0 : ib (g_bar 0) 10 120) (hpg_walkers : ip g_walkers 48 2 0 0 5) (hg_codeFrom : ia g_codeFrom 6 (-1) 1600) (hg_codeFrom_0 : ib (g_codeFrom 0) (-1) 1600) (hg_codeFrom_1 : ib (g_codeFrom 1) (-1) 1600) (hg_codeFrom_2 : ib (g_codeFrom 2) (-1) 1600) (hg_codeFrom_4 : ib (g_codeFrom 4) (-1) 1600) (hg_codeFrom_5 : ib (g_codeFrom 5) (-1) 1600) (hg_codeEnd : ia g_codeEnd 6 0 1600) (hg_codeEnd_0 : ib (g_codeEnd 0) 0 1600) (hg_codeEnd_1 : ib (g_codeEnd 1) 0 1600) (hg_codeEnd_2 : ib (g_codeEnd 2) 0 1600) (hg_codeEnd_4 : ib (g_codeEnd 4) 0 1600) (hg_codeEnd_5 : ib (g_codeEnd 5) 0 1600) (hTI2 : TI g_codeFrom g_codeEnd g_codes x_coded) : k_Met l yX10_stands cX10_stands 2 none { frames := 0, cells := 0, slots := 0, locals := 0 } dC dI cy sq [.ref a_this] [(a_this, .inr (10, mfs rm x_taped x_at x_end x_ended x_bad x_badPlace x_fault x_faultPlace x_namePlace x_awayTold x_away x_coded x_statements x_isCrossing x_textKind x_askSecond x_redMany x_isOpen x_lastGreen x_greenTo x_isCycleGreen x_stillGreen x_rowMany x_fitMany x_fitRules x_fitGreen x_undoable x_newest x_seeded x_qCoded x_qWaits x_qOpened x_qBase x_qPiled x_qAnswer x_qIsNew x_octets)), (wi_rm41_0_4_0 rm cy g_many), (wi_rm42_1_48_1 rm cy g_names), (wi_rm46_0_48_0 rm cy g_walkers), (wi_rm43_0_8_0 rm cy g_bar), (wi_rm44_0_24_0 rm cy g_kinds), (wi_rm49_0_6_0 rm cy g_codeFrom), (wi_rm50_0_6_0 rm cy g_codeEnd), (wi_rm56_0_9_0 rm cy g_now), (wi_rm51_0_3200_0 rm cy g_codes), (wi_rm45_0_6_0 rm cy g_trusted)] (k_Qv dC dI (fun (u : (Nat → Int32) × (Nat → Int64) × (Nat → Int32) × (Nat → Int32) × (Nat → Int32) × (Nat → Int32) × (Nat → Int32) × (Nat → Int32) × (Nat → Int32)) => match u with | (n0, n1, n2, n3, n4, n5, n6, n7, n8) => ia n0 4 0 12 ∧ ib (n0 0) 0 6 ∧ ib (n0 1) 0 12 ∧ ib (n0 2) 0 6 ∧ ib (n0 3) 0 12 ∧ ip n2 48 2 0 0 5 ∧ ib (n3 0) 10 120 ∧ ib (n3 4) 10 120 ∧ ia n5 6 (-1) 1600 ∧ ib (n5 0) (-1) 1600 ∧ ib (n5 1) (-1) 1600 ∧ ib (n5 2) (-1) 1600 ∧ ib (n5 3) (-1) 1600 ∧ ib (n5 4) (-1) 1600 ∧ ib (n5 5) (-1) 1600 ∧ ia n6 6 0 1600 ∧ ib (n6 0) 0 1600 ∧ ib (n6 1) 0 1600 ∧ ib (n6 2) 0 1600 ∧ ib (n6 3) 0 1600 ∧ ib (n6 4) 0 1600 ∧ ib (n6 5) 0 1600 ∧ (∀ w : Nat, w < 3 → ¬ n5 (3 + w) = -1 → okc n8 1600 (decide (w = 1)) (n5 (3 + w)) (n6 (3 + w))) ∧ (F_X10_stands (Int32.toInt x_coded) (lf_A g_many) (lf_L g_names) (lf_A g_bar) (lf_A g_kinds) (lf_A g_trusted) (lf_A g_walkers) (lf_A g_codeFrom) (lf_A g_codeEnd) (lf_A g_codes) (lf_A g_now) = ((lf_A n0), (lf_L n1), (lf_A n2), (lf_A n3), (lf_A n4), (lf_A n5), (lf_A n6), (lf_A n7), (lf_A n8)))) (fun u : (Nat → Int32) × (Nat → Int64) × (Nat → Int32) × (Nat → Int32) × (Nat → Int32) × (Nat → Int32) × (Nat → Int32) × (Nat → Int32) × (Nat → Int32) => match u with | (n0, n1, n2, n3, n4, n5, n6, n7, n8) => [(a_this, .inr (10, mfs rm x_taped x_at x_end x_ended x_bad x_badPlace x_fault x_faultPlace x_namePlace x_awayTold x_awayTold x_coded x_statements 1 x_textKind x_askSecond x_redMany x_isOpen x_lastGreen x_greenTo x_isCycleGreen x_stillGreen 0 x_fitMany x_fitRules x_fitGreen 0 x_newest x_seeded x_qCoded x_qWaits x_qOpened x_qBase x_qPiled x_qAnswer x_qIsNew x_octets)), (wi_rm41_0_4_0 rm cy n0), (wi_rm42_1_48_1 rm cy n1), (wi_rm46_0_48_0 rm cy n2), (wi_rm43_0_8_0 rm cy n3), (wi_rm44_0_24_0 rm cy n4), (wi_rm49_0_6_0 rm cy n5), (wi_rm50_0_6_0 rm cy n6), (wi_rm56_0_9_0 rm cy n7), (wi_rm51_0_3200_0 rm cy n8), (wi_rm45_0_6_0 rm cy g_trusted)])) := by
  refine k_ofW2 (by decide +kernel) (Nat.le_of_ble_eq_true rfl) ?_
  intro p e s m below meth c A ls H locs args Q hQ C0 hZ hr hlk hin hP hD hA hS hl
  have C0 : k_cx p s m args c cX10_stands 2 RX10 dC dI cy sq := C0
  have hx := C0.1
  have hb := C0.2.1
  have hl : lv_has ls 2 [(0, .ref a_this)] := hl
  obtain ⟨O, hO⟩ : ∃ o, o = F_X10_stands (Int32.toInt x_coded) (lf_A g_many) (lf_L g_names) (lf_A g_bar) (lf_A g_kinds) (lf_A g_trusted) (lf_A g_walkers) (lf_A g_codeFrom) (lf_A g_codeEnd) (lf_A g_codes) (lf_A g_now) := ⟨_, rfl⟩
  have hq := hO
  unfold F_X10_stands at hq
  have jn246 : ∀ (n : Nat) (J246_a1 : Nat → Int32) (J246_a2 : Nat → Int64) (J246_a3 : Nat → Int32) (J246_a4 : Nat → Int32) (J246_a5 : Nat → Int32) (J246_a6 : Nat → Int32) (J246_a7 : Nat → Int32) (J246_a8 : Nat → Int32) (J246_a9 : Nat → Int32) (J246_l1 : Int32) (H : Heap) (locs : List Loc) (ls : Array Slot), ib (J246_a1 0) 0 6 → ib (J246_a1 1) 0 12 → ib (J246_a1 2) 0 6 → ib (J246_a1 3) 0 12 → ib (J246_a4 0) 10 120 → ib (J246_a4 4) 10 120 → ib (J246_a6 0) (-1) 1600 → ib (J246_a6 1) (-1) 1600 → ib (J246_a6 2) (-1) 1600 → ib (J246_a6 3) (-1) 1600 → ib (J246_a6 4) (-1) 1600 → ib (J246_a6 5) (-1) 1600 → ib (J246_a7 0) 0 1600 → ib (J246_a7 1) 0 1600 → ib (J246_a7 2) 0 1600 → ib (J246_a7 3) 0 1600 → ib (J246_a7 4) 0 1600 → ib (J246_a7 5) 0 1600 → ib J246_l1 0 6 → ia J246_a1 4 0 12 → ia J246_a6 6 (-1) 1600 → ia J246_a7 6 0 1600 → ip J246_a3 48 2 0 0 5 → ((∀ w : Nat, w < 3 → J246_a6 (3 + w) = g_codeFrom w) ∧ (∀ w : Nat, w < 3 → J246_a7 (3 + w) = g_codeEnd w) ∧ (∀ j : Nat, (j : Int) < x_coded.toInt → J246_a9 (1600 + j) = g_codes j) ∧ (∀ p : Nat, p < 1600 → J246_a9 p = g_codes p)) → (O = F_X10_stands_246 (lf_A g_trusted) n (lf_A J246_a1) (lf_L J246_a2) (lf_A J246_a3) (lf_A J246_a4) (lf_A J246_a5) (lf_A J246_a6) (lf_A J246_a7) (lf_A J246_a8) (lf_A J246_a9) (Int32.toInt J246_l1)) → 7 ≤ J246_l1.toInt + (n : Int) → va_P (dC, dI) vwCl [(a_this, .inr (10, mfs rm x_taped x_at x_end x_ended x_bad x_badPlace x_fault x_faultPlace x_namePlace x_awayTold x_awayTold x_coded x_statements 1 x_textKind x_askSecond x_redMany x_isOpen x_lastGreen x_greenTo x_isCycleGreen x_stillGreen x_rowMany x_fitMany x_fitRules x_fitGreen x_undoable x_newest x_seeded x_qCoded x_qWaits x_qOpened x_qBase x_qPiled x_qAnswer x_qIsNew x_octets)), (wi_rm41_0_4_0 rm cy J246_a1), (wi_rm42_1_48_1 rm cy J246_a2), (wi_rm46_0_48_0 rm cy J246_a3), (wi_rm43_0_8_0 rm cy J246_a4), (wi_rm44_0_24_0 rm cy J246_a5), (wi_rm49_0_6_0 rm cy J246_a6), (wi_rm50_0_6_0 rm cy J246_a7), (wi_rm56_0_9_0 rm cy J246_a8), (wi_rm51_0_3200_0 rm cy J246_a9), (wi_rm45_0_6_0 rm cy g_trusted)] H → va_D A [(a_this, .inr (10, mfs rm x_taped x_at x_end x_ended x_bad x_badPlace x_fault x_faultPlace x_namePlace x_awayTold x_awayTold x_coded x_statements 1 x_textKind x_askSecond x_redMany x_isOpen x_lastGreen x_greenTo x_isCycleGreen x_stillGreen x_rowMany x_fitMany x_fitRules x_fitGreen x_undoable x_newest x_seeded x_qCoded x_qWaits x_qOpened x_qBase x_qPiled x_qAnswer x_qIsNew x_octets)), (wi_rm41_0_4_0 rm cy J246_a1), (wi_rm42_1_48_1 rm cy J246_a2), (wi_rm46_0_48_0 rm cy J246_a3), (wi_rm43_0_8_0 rm cy J246_a4), (wi_rm44_0_24_0 rm cy J246_a5), (wi_rm49_0_6_0 rm cy J246_a6), (wi_rm50_0_6_0 rm cy J246_a7), (wi_rm56_0_9_0 rm cy J246_a8), (wi_rm51_0_3200_0 rm cy J246_a9), (wi_rm45_0_6_0 rm cy g_trusted)] → va_S A s.heap H locs → lv_has ls 2 [(0, .ref a_this), (1, .int J246_l1)] → W p l e { frames := 0, cells := 0, slots := 0, locals := 0 } s m args below meth c H locs 0 0 Q (F0 m 246 ls []) := by
    as_aux_lemma =>
      intro n
      induction n with
      | zero =>
        intro J246_a1 J246_a2 J246_a3 J246_a4 J246_a5 J246_a6 J246_a7 J246_a8 J246_a9 J246_l1 H locs ls hJ246_a1_0 hJ246_a1_1 hJ246_a1_2 hJ246_a1_3 hJ246_a4_0 hJ246_a4_4 hJ246_a6_0 hJ246_a6_1 hJ246_a6_2 hJ246_a6_3 hJ246_a6_4 hJ246_a6_5 hJ246_a7_0 hJ246_a7_1 hJ246_a7_2 hJ246_a7_3 hJ246_a7_4 hJ246_a7_5 hJ246_l1 hJ246_a1 hJ246_a6 hJ246_a7 hJ246_a3p hJ246_go hq hm
        exact absurd hm (by have := hJ246_l1; unfold ib at this; omega)
      | succ n ih =>
        intro J246_a1 J246_a2 J246_a3 J246_a4 J246_a5 J246_a6 J246_a7 J246_a8 J246_a9 J246_l1 H locs ls hJ246_a1_0 hJ246_a1_1 hJ246_a1_2 hJ246_a1_3 hJ246_a4_0 hJ246_a4_4 hJ246_a6_0 hJ246_a6_1 hJ246_a6_2 hJ246_a6_3 hJ246_a6_4 hJ246_a6_5 hJ246_a7_0 hJ246_a7_1 hJ246_a7_2 hJ246_a7_3 hJ246_a7_4 hJ246_a7_5 hJ246_l1 hJ246_a1 hJ246_a6 hJ246_a7 hJ246_a3p hJ246_go hq hm246 hP hD hS hl
        have ih246 := ih
        obtain ⟨K246, hK246⟩ : ∃ K, K = F_X10_stands_246 (lf_A g_trusted) n := ⟨_, rfl⟩
        have hq : O = F_X10_stands_246b (lf_A g_trusted) K246 (lf_A J246_a1) (lf_L J246_a2) (lf_A J246_a3) (lf_A J246_a4) (lf_A J246_a5) (lf_A J246_a6) (lf_A J246_a7) (lf_A J246_a8) (lf_A J246_a9) (Int32.toInt J246_l1) := by rw [hK246]; exact hq
        unfold F_X10_stands_246b at hq
        refine lv_iload_n hx hb dX10_stands_246 rfl (lv_at hl 1 rfl) ?_
        refine lv_bipush (v := 6) hx hb dX10_stands_247 rfl ?_
        refine lv_icmp_ge (tgt := 272) hx hb dX10_stands_249 rfl (fun c1 => ?_) (fun c1 => ?_)
        · replace hq := lf_pos hq (lf_le (lf_lc 6 (6 : Int) rfl) (lf_rf J246_l1) c1)
          have h2 := ib_le (ib_c 6 6 6 rfl) hJ246_l1 c1
          have h3 : ib J246_l1 6 6 := ib_w 6 6 h2.2 rfl
          refine lv_aload_n hx hb dX10_stands_272 rfl (lv_at hl 0 rfl) ?_
          refine lv_iconst (v := 0) hx hb dX10_stands_273 rfl ?_
          refine k_put C0 fp_X10_424 hP hD hS 0 rfl rfl rfl (Nat.le_of_ble_eq_true rfl) dX10_stands_274 (fun H locs hP hD hS => ?_)
          replace hP : va_P (dC, dI) vwCl [(a_this, .inr (10, mfs rm x_taped x_at x_end x_ended x_bad x_badPlace x_fault x_faultPlace x_namePlace x_awayTold x_awayTold x_coded x_statements 1 x_textKind x_askSecond x_redMany x_isOpen x_lastGreen x_greenTo x_isCycleGreen x_stillGreen x_rowMany x_fitMany x_fitRules x_fitGreen 0 x_newest x_seeded x_qCoded x_qWaits x_qOpened x_qBase x_qPiled x_qAnswer x_qIsNew x_octets)), (wi_rm41_0_4_0 rm cy J246_a1), (wi_rm42_1_48_1 rm cy J246_a2), (wi_rm46_0_48_0 rm cy J246_a3), (wi_rm43_0_8_0 rm cy J246_a4), (wi_rm44_0_24_0 rm cy J246_a5), (wi_rm49_0_6_0 rm cy J246_a6), (wi_rm50_0_6_0 rm cy J246_a7), (wi_rm56_0_9_0 rm cy J246_a8), (wi_rm51_0_3200_0 rm cy J246_a9), (wi_rm45_0_6_0 rm cy g_trusted)] H := hP
          replace hD := k_D hP hD
          refine lv_aload_n hx hb dX10_stands_277 rfl (lv_at hl 0 rfl) ?_
          refine lv_iconst (v := 0) hx hb dX10_stands_278 rfl ?_
          refine k_put C0 fp_X10_427 hP hD hS 0 rfl rfl rfl (Nat.le_of_ble_eq_true rfl) dX10_stands_279 (fun H locs hP hD hS => ?_)
          replace hP : va_P (dC, dI) vwCl [(a_this, .inr (10, mfs rm x_taped x_at x_end x_ended x_bad x_badPlace x_fault x_faultPlace x_namePlace x_awayTold x_awayTold x_coded x_statements 1 x_textKind x_askSecond x_redMany x_isOpen x_lastGreen x_greenTo x_isCycleGreen x_stillGreen 0 x_fitMany x_fitRules x_fitGreen 0 x_newest x_seeded x_qCoded x_qWaits x_qOpened x_qBase x_qPiled x_qAnswer x_qIsNew x_octets)), (wi_rm41_0_4_0 rm cy J246_a1), (wi_rm42_1_48_1 rm cy J246_a2), (wi_rm46_0_48_0 rm cy J246_a3), (wi_rm43_0_8_0 rm cy J246_a4), (wi_rm44_0_24_0 rm cy J246_a5), (wi_rm49_0_6_0 rm cy J246_a6), (wi_rm50_0_6_0 rm cy J246_a7), (wi_rm56_0_9_0 rm cy J246_a8), (wi_rm51_0_3200_0 rm cy J246_a9), (wi_rm45_0_6_0 rm cy g_trusted)] H := hP
          replace hD := k_D hP hD
          subst hQ; exact k_vret hx hb hr hlk ((J246_a1, J246_a2, J246_a3, J246_a4, J246_a5, J246_a6, J246_a7, J246_a8, J246_a9)) hS ⟨hJ246_a1, ib_w 0 6 hJ246_a1_0 rfl, ib_w 0 12 hJ246_a1_1 rfl, ib_w 0 6 hJ246_a1_2 rfl, ib_w 0 12 hJ246_a1_3 rfl, hJ246_a3p, ib_w 10 120 hJ246_a4_0 rfl, ib_w 10 120 hJ246_a4_4 rfl, hJ246_a6, ib_w (-1) 1600 hJ246_a6_0 rfl, ib_w (-1) 1600 hJ246_a6_1 rfl, ib_w (-1) 1600 hJ246_a6_2 rfl, ib_w (-1) 1600 hJ246_a6_3 rfl, ib_w (-1) 1600 hJ246_a6_4 rfl, ib_w (-1) 1600 hJ246_a6_5 rfl, hJ246_a7, ib_w 0 1600 hJ246_a7_0 rfl, ib_w 0 1600 hJ246_a7_1 rfl, ib_w 0 1600 hJ246_a7_2 rfl, ib_w 0 1600 hJ246_a7_3 rfl, ib_w 0 1600 hJ246_a7_4 rfl, ib_w 0 1600 hJ246_a7_5 rfl, fun w hw hn => ST_ok hTI2 hJ246_go.1 hJ246_go.2.1 hJ246_go.2.2.1 w hw hn, (hO.symm.trans (by exact hq))⟩ hP hD (Nat.le_of_ble_eq_true rfl) (Nat.le_of_ble_eq_true rfl) dX10_stands_282
        · as_aux_lemma =>
            replace hq := lf_neg hq (lf_nle (lf_lc 6 (6 : Int) rfl) (lf_rf J246_l1) c1)
            have h4 := ib_nle (ib_c 6 6 6 rfl) hJ246_l1 c1
            have h5 : ib J246_l1 0 5 := ib_w 0 5 h4.2 rfl
            refine lv_aload_n hx hb dX10_stands_252 rfl (lv_at hl 0 rfl) ?_
            refine k_get C0 fg_X10_139 hP 0 rfl rfl dX10_stands_253 ?_
            refine lv_iconst (v := 3) hx hb dX10_stands_256 rfl ?_
            refine lv_iload_n hx hb dX10_stands_257 rfl (lv_at hl 1 rfl) ?_
            refine lv_iadd hx hb dX10_stands_258 ?_
            refine lv_topi (fun z6 ez6 => ?_)
            have h7 := ib_add (ib_c 3 3 3 rfl) h5 rfl
            rw [← ez6] at h7
            have h8 : ib z6 3 8 := ib_w 3 8 h7.1 rfl
            have Ez6 := lf_add h7.2 (lf_lc 3 (3 : Int) rfl) (lf_rf J246_l1)
            refine lv_aload_n hx hb dX10_stands_259 rfl (lv_at hl 0 rfl) ?_
            refine k_get C0 fg_X10_124 hP 0 rfl rfl dX10_stands_260 ?_
            refine lv_iload_n hx hb dX10_stands_263 rfl (lv_at hl 1 rfl) ?_
            refine va_iald hx hb C0.2.2.2.2.2.1 hP 10 0 rfl rfl (ib_in 6 h5 rfl) dX10_stands_264 ?_
            refine lv_topi (fun z9 ez9 => ?_)
            have Ez9 := lf_ld ez9 (lf_ra g_trusted) (lf_rf J246_l1)
            refine va_iast hx hb C0.2.2.2.2.2.1 hP hD hS 8 0 rfl rfl (ib_in 9 h8 rfl) dX10_stands_265 (fun H locs hP hD hS => ?_)
            replace hP : va_P (dC, dI) vwCl [(a_this, .inr (10, mfs rm x_taped x_at x_end x_ended x_bad x_badPlace x_fault x_faultPlace x_namePlace x_awayTold x_awayTold x_coded x_statements 1 x_textKind x_askSecond x_redMany x_isOpen x_lastGreen x_greenTo x_isCycleGreen x_stillGreen x_rowMany x_fitMany x_fitRules x_fitGreen x_undoable x_newest x_seeded x_qCoded x_qWaits x_qOpened x_qBase x_qPiled x_qAnswer x_qIsNew x_octets)), (wi_rm41_0_4_0 rm cy J246_a1), (wi_rm42_1_48_1 rm cy J246_a2), (wi_rm46_0_48_0 rm cy J246_a3), (wi_rm43_0_8_0 rm cy J246_a4), (wi_rm44_0_24_0 rm cy J246_a5), (wi_rm49_0_6_0 rm cy J246_a6), (wi_rm50_0_6_0 rm cy J246_a7), (wi_rm56_0_9_0 rm cy (upd J246_a8 (Int32.toNatClampNeg z6) z9)), (wi_rm51_0_3200_0 rm cy J246_a9), (wi_rm45_0_6_0 rm cy g_trusted)] H := hP
            replace hD := k_D hP hD
            generalize h11E : upd J246_a8 (Int32.toNatClampNeg z6) z9 = f10 at hP hD
            have ef10 := h11E
            have Ef10 := lf_st ef10 (lf_ra J246_a8) Ez6 Ez9
            obtain ⟨z12, ez12⟩ : ∃ y : Int32, y = J246_l1 + 1 := ⟨_, rfl⟩
            refine lv_iinc (v := z12) (lv' := [(1, .int z12), (0, .ref a_this)]) hx hb dX10_stands_266 hl (k := 1) rfl (by rw [ez12]; rfl) (Nat.le_of_ble_eq_true rfl) rfl (fun ls hl => ?_)
            have h13 := ib_add h5 (ib_c 1 1 1 rfl) rfl
            rw [← ez12] at h13
            have h14 : ib z12 1 6 := ib_w 1 6 h13.1 rfl
            have Ez12 := lf_add h13.2 (lf_rf J246_l1) (lf_lc 1 (1 : Int) rfl)
            refine lv_goto (tgt := 246) hx hb dX10_stands_269 rfl ?_
            exact ih246 J246_a1 J246_a2 J246_a3 J246_a4 J246_a5 J246_a6 J246_a7 f10 J246_a9 z12 H locs ls (ib_w 0 6 hJ246_a1_0 rfl) (ib_w 0 12 hJ246_a1_1 rfl) (ib_w 0 6 hJ246_a1_2 rfl) (ib_w 0 12 hJ246_a1_3 rfl) (ib_w 10 120 hJ246_a4_0 rfl) (ib_w 10 120 hJ246_a4_4 rfl) (ib_w (-1) 1600 hJ246_a6_0 rfl) (ib_w (-1) 1600 hJ246_a6_1 rfl) (ib_w (-1) 1600 hJ246_a6_2 rfl) (ib_w (-1) 1600 hJ246_a6_3 rfl) (ib_w (-1) 1600 hJ246_a6_4 rfl) (ib_w (-1) 1600 hJ246_a6_5 rfl) (ib_w 0 1600 hJ246_a7_0 rfl) (ib_w 0 1600 hJ246_a7_1 rfl) (ib_w 0 1600 hJ246_a7_2 rfl) (ib_w 0 1600 hJ246_a7_3 rfl) (ib_w 0 1600 hJ246_a7_4 rfl) (ib_w 0 1600 hJ246_a7_5 rfl) (ib_w 0 6 h14 rfl) hJ246_a1 hJ246_a6 hJ246_a7 hJ246_a3p (hJ246_go) (by rw [← hK246]; rw [lf_ua Ef10]; rw [lf_u Ez12]; exact hq) (by have := h13.2; have : (1 : Int32).toInt = 1 := rfl; omega) hP hD hS (lv_sub hl [1, 0] rfl)
  have jn183 : ∀ (n : Nat) (J183_a1 : Nat → Int32) (J183_a2 : Nat → Int64) (J183_a3 : Nat → Int32) (J183_a4 : Nat → Int32) (J183_a5 : Nat → Int32) (J183_a6 : Nat → Int32) (J183_a7 : Nat → Int32) (J183_l1 : Int32) (J183_a9 : Nat → Int32) (H : Heap) (locs : List Loc) (ls : Array Slot), ib (J183_a1 0) 0 6 → ib (J183_a1 1) 0 12 → ib (J183_a1 2) 0 6 → ib (J183_a1 3) 0 12 → ib (J183_a4 0) 10 120 → ib (J183_a4 4) 10 120 → ib (J183_a6 0) (-1) 1600 → ib (J183_a6 1) (-1) 1600 → ib (J183_a6 2) (-1) 1600 → ib (J183_a6 3) (-1) 1600 → ib (J183_a6 4) (-1) 1600 → ib (J183_a6 5) (-1) 1600 → ib (J183_a7 0) 0 1600 → ib (J183_a7 1) 0 1600 → ib (J183_a7 2) 0 1600 → ib (J183_a7 3) 0 1600 → ib (J183_a7 4) 0 1600 → ib (J183_a7 5) 0 1600 → ib J183_l1 0 1600 → ia J183_a1 4 0 12 → ia J183_a6 6 (-1) 1600 → ia J183_a7 6 0 1600 → ip J183_a3 48 2 0 0 5 → (1 * J183_l1.toInt + (-1) * x_coded.toInt ≤ 0) → ((∀ w : Nat, w < 3 → J183_a6 (3 + w) = g_codeFrom w) ∧ (∀ w : Nat, w < 3 → J183_a7 (3 + w) = g_codeEnd w) ∧ (∀ j : Nat, (j : Int) < J183_l1.toInt → J183_a9 (1600 + j) = g_codes j) ∧ (∀ p : Nat, p < 1600 → J183_a9 p = g_codes p)) → (O = F_X10_stands_183 (Int32.toInt x_coded) (lf_A g_trusted) (lf_A g_now) n (lf_A J183_a1) (lf_L J183_a2) (lf_A J183_a3) (lf_A J183_a4) (lf_A J183_a5) (lf_A J183_a6) (lf_A J183_a7) (Int32.toInt J183_l1) (lf_A J183_a9)) → 1601 ≤ J183_l1.toInt + (n : Int) → va_P (dC, dI) vwCl [(a_this, .inr (10, mfs rm x_taped x_at x_end x_ended x_bad x_badPlace x_fault x_faultPlace x_namePlace x_awayTold x_awayTold x_coded x_statements 1 x_textKind x_askSecond x_redMany x_isOpen x_lastGreen x_greenTo x_isCycleGreen x_stillGreen x_rowMany x_fitMany x_fitRules x_fitGreen x_undoable x_newest x_seeded x_qCoded x_qWaits x_qOpened x_qBase x_qPiled x_qAnswer x_qIsNew x_octets)), (wi_rm41_0_4_0 rm cy J183_a1), (wi_rm42_1_48_1 rm cy J183_a2), (wi_rm46_0_48_0 rm cy J183_a3), (wi_rm43_0_8_0 rm cy J183_a4), (wi_rm44_0_24_0 rm cy J183_a5), (wi_rm49_0_6_0 rm cy J183_a6), (wi_rm50_0_6_0 rm cy J183_a7), (wi_rm56_0_9_0 rm cy g_now), (wi_rm51_0_3200_0 rm cy J183_a9), (wi_rm45_0_6_0 rm cy g_trusted)] H → va_D A [(a_this, .inr (10, mfs rm x_taped x_at x_end x_ended x_bad x_badPlace x_fault x_faultPlace x_namePlace x_awayTold x_awayTold x_coded x_statements 1 x_textKind x_askSecond x_redMany x_isOpen x_lastGreen x_greenTo x_isCycleGreen x_stillGreen x_rowMany x_fitMany x_fitRules x_fitGreen x_undoable x_newest x_seeded x_qCoded x_qWaits x_qOpened x_qBase x_qPiled x_qAnswer x_qIsNew x_octets)), (wi_rm41_0_4_0 rm cy J183_a1), (wi_rm42_1_48_1 rm cy J183_a2), (wi_rm46_0_48_0 rm cy J183_a3), (wi_rm43_0_8_0 rm cy J183_a4), (wi_rm44_0_24_0 rm cy J183_a5), (wi_rm49_0_6_0 rm cy J183_a6), (wi_rm50_0_6_0 rm cy J183_a7), (wi_rm56_0_9_0 rm cy g_now), (wi_rm51_0_3200_0 rm cy J183_a9), (wi_rm45_0_6_0 rm cy g_trusted)] → va_S A s.heap H locs → lv_has ls 2 [(0, .ref a_this), (1, .int J183_l1)] → W p l e { frames := 0, cells := 0, slots := 0, locals := 0 } s m args below meth c H locs 0 0 Q (F0 m 183 ls []) := by
    as_aux_lemma =>
      intro n
      induction n with
      | zero =>
        intro J183_a1 J183_a2 J183_a3 J183_a4 J183_a5 J183_a6 J183_a7 J183_l1 J183_a9 H locs ls hJ183_a1_0 hJ183_a1_1 hJ183_a1_2 hJ183_a1_3 hJ183_a4_0 hJ183_a4_4 hJ183_a6_0 hJ183_a6_1 hJ183_a6_2 hJ183_a6_3 hJ183_a6_4 hJ183_a6_5 hJ183_a7_0 hJ183_a7_1 hJ183_a7_2 hJ183_a7_3 hJ183_a7_4 hJ183_a7_5 hJ183_l1 hJ183_a1 hJ183_a6 hJ183_a7 hJ183_a3p hJ183_lin0 hJ183_go hq hm
        exact absurd hm (by have := hJ183_l1; unfold ib at this; omega)
      | succ n ih =>
        intro J183_a1 J183_a2 J183_a3 J183_a4 J183_a5 J183_a6 J183_a7 J183_l1 J183_a9 H locs ls hJ183_a1_0 hJ183_a1_1 hJ183_a1_2 hJ183_a1_3 hJ183_a4_0 hJ183_a4_4 hJ183_a6_0 hJ183_a6_1 hJ183_a6_2 hJ183_a6_3 hJ183_a6_4 hJ183_a6_5 hJ183_a7_0 hJ183_a7_1 hJ183_a7_2 hJ183_a7_3 hJ183_a7_4 hJ183_a7_5 hJ183_l1 hJ183_a1 hJ183_a6 hJ183_a7 hJ183_a3p hJ183_lin0 hJ183_go hq hm183 hP hD hS hl
        have ih183 := ih
        obtain ⟨K183, hK183⟩ : ∃ K, K = F_X10_stands_183 (Int32.toInt x_coded) (lf_A g_trusted) (lf_A g_now) n := ⟨_, rfl⟩
        have hq : O = F_X10_stands_183b (Int32.toInt x_coded) (lf_A g_trusted) (lf_A g_now) K183 (lf_A J183_a1) (lf_L J183_a2) (lf_A J183_a3) (lf_A J183_a4) (lf_A J183_a5) (lf_A J183_a6) (lf_A J183_a7) (Int32.toInt J183_l1) (lf_A J183_a9) := by rw [hK183]; exact hq
        unfold F_X10_stands_183b at hq
        refine lv_iload_n hx hb dX10_stands_183 rfl (lv_at hl 1 rfl) ?_
        refine lv_aload_n hx hb dX10_stands_184 rfl (lv_at hl 0 rfl) ?_
        refine k_get C0 fg_X10_387 hP 0 rfl rfl dX10_stands_185 ?_
        refine lv_icmp_ge (tgt := 213) hx hb dX10_stands_188 rfl (fun c15 => ?_) (fun c15 => ?_)
        · as_aux_lemma =>
            replace hq := lf_pos hq (lf_le (lf_rf x_coded) (lf_rf J183_l1) c15)
            have h16 := ib_le hx_coded hJ183_l1 c15
            refine lv_aload_n hx hb dX10_stands_213 rfl (lv_at hl 0 rfl) ?_
            refine k_get C0 fg_X10_139 hP 0 rfl rfl dX10_stands_214 ?_
            refine lv_iconst (v := 0) hx hb dX10_stands_217 rfl ?_
            refine lv_iconst (v := 0) hx hb dX10_stands_218 rfl ?_
            refine va_iast hx hb C0.2.2.2.2.2.1 hP hD hS 8 0 rfl rfl (k_in 0 9 rfl) dX10_stands_219 (fun H locs hP hD hS => ?_)
            replace hP : va_P (dC, dI) vwCl [(a_this, .inr (10, mfs rm x_taped x_at x_end x_ended x_bad x_badPlace x_fault x_faultPlace x_namePlace x_awayTold x_awayTold x_coded x_statements 1 x_textKind x_askSecond x_redMany x_isOpen x_lastGreen x_greenTo x_isCycleGreen x_stillGreen x_rowMany x_fitMany x_fitRules x_fitGreen x_undoable x_newest x_seeded x_qCoded x_qWaits x_qOpened x_qBase x_qPiled x_qAnswer x_qIsNew x_octets)), (wi_rm41_0_4_0 rm cy J183_a1), (wi_rm42_1_48_1 rm cy J183_a2), (wi_rm46_0_48_0 rm cy J183_a3), (wi_rm43_0_8_0 rm cy J183_a4), (wi_rm44_0_24_0 rm cy J183_a5), (wi_rm49_0_6_0 rm cy J183_a6), (wi_rm50_0_6_0 rm cy J183_a7), (wi_rm56_0_9_0 rm cy (upd g_now 0 0)), (wi_rm51_0_3200_0 rm cy J183_a9), (wi_rm45_0_6_0 rm cy g_trusted)] H := hP
            replace hD := k_D hP hD
            generalize h18E : upd g_now 0 0 = f17 at hP hD
            have ef17 := h18E
            have Ef17 := lf_stn (X := (0 : Int)) ef17 (lf_ra g_now) rfl (lf_lc 0 (0 : Int) rfl)
            refine lv_aload_n hx hb dX10_stands_220 rfl (lv_at hl 0 rfl) ?_
            refine k_get C0 fg_X10_139 hP 0 rfl rfl dX10_stands_221 ?_
            refine lv_iconst (v := 1) hx hb dX10_stands_224 rfl ?_
            refine lv_aload_n hx hb dX10_stands_225 rfl (lv_at hl 0 rfl) ?_
            refine k_get C0 fg_X10_118 hP 0 rfl rfl dX10_stands_226 ?_
            refine lv_iconst (v := 2) hx hb dX10_stands_229 rfl ?_
            refine va_iald hx hb C0.2.2.2.2.2.1 hP 4 0 rfl rfl (k_in 2 8 rfl) dX10_stands_230 ?_
            refine lv_topi (fun z19 ez19 => ?_)
            have Ez19 := lf_ld ez19 (lf_ra J183_a4) (lf_lc 2 (2 : Int) rfl)
            refine va_iast hx hb C0.2.2.2.2.2.1 hP hD hS 8 0 rfl rfl (k_in 1 9 rfl) dX10_stands_231 (fun H locs hP hD hS => ?_)
            replace hP : va_P (dC, dI) vwCl [(a_this, .inr (10, mfs rm x_taped x_at x_end x_ended x_bad x_badPlace x_fault x_faultPlace x_namePlace x_awayTold x_awayTold x_coded x_statements 1 x_textKind x_askSecond x_redMany x_isOpen x_lastGreen x_greenTo x_isCycleGreen x_stillGreen x_rowMany x_fitMany x_fitRules x_fitGreen x_undoable x_newest x_seeded x_qCoded x_qWaits x_qOpened x_qBase x_qPiled x_qAnswer x_qIsNew x_octets)), (wi_rm41_0_4_0 rm cy J183_a1), (wi_rm42_1_48_1 rm cy J183_a2), (wi_rm46_0_48_0 rm cy J183_a3), (wi_rm43_0_8_0 rm cy J183_a4), (wi_rm44_0_24_0 rm cy J183_a5), (wi_rm49_0_6_0 rm cy J183_a6), (wi_rm50_0_6_0 rm cy J183_a7), (wi_rm56_0_9_0 rm cy (upd f17 1 z19)), (wi_rm51_0_3200_0 rm cy J183_a9), (wi_rm45_0_6_0 rm cy g_trusted)] H := hP
            replace hD := k_D hP hD
            generalize h21E : upd f17 1 z19 = f20 at hP hD
            have ef20 := h21E
            have Ef20 := lf_stn (X := (1 : Int)) ef20 Ef17 rfl Ez19
            refine lv_aload_n hx hb dX10_stands_232 rfl (lv_at hl 0 rfl) ?_
            refine k_get C0 fg_X10_139 hP 0 rfl rfl dX10_stands_233 ?_
            refine lv_iconst (v := 2) hx hb dX10_stands_236 rfl ?_
            refine lv_aload_n hx hb dX10_stands_237 rfl (lv_at hl 0 rfl) ?_
            refine k_get C0 fg_X10_118 hP 0 rfl rfl dX10_stands_238 ?_
            refine lv_iconst (v := 1) hx hb dX10_stands_241 rfl ?_
            refine va_iald hx hb C0.2.2.2.2.2.1 hP 4 0 rfl rfl (k_in 1 8 rfl) dX10_stands_242 ?_
            refine lv_topi (fun z22 ez22 => ?_)
            have Ez22 := lf_ld ez22 (lf_ra J183_a4) (lf_lc 1 (1 : Int) rfl)
            refine va_iast hx hb C0.2.2.2.2.2.1 hP hD hS 8 0 rfl rfl (k_in 2 9 rfl) dX10_stands_243 (fun H locs hP hD hS => ?_)
            replace hP : va_P (dC, dI) vwCl [(a_this, .inr (10, mfs rm x_taped x_at x_end x_ended x_bad x_badPlace x_fault x_faultPlace x_namePlace x_awayTold x_awayTold x_coded x_statements 1 x_textKind x_askSecond x_redMany x_isOpen x_lastGreen x_greenTo x_isCycleGreen x_stillGreen x_rowMany x_fitMany x_fitRules x_fitGreen x_undoable x_newest x_seeded x_qCoded x_qWaits x_qOpened x_qBase x_qPiled x_qAnswer x_qIsNew x_octets)), (wi_rm41_0_4_0 rm cy J183_a1), (wi_rm42_1_48_1 rm cy J183_a2), (wi_rm46_0_48_0 rm cy J183_a3), (wi_rm43_0_8_0 rm cy J183_a4), (wi_rm44_0_24_0 rm cy J183_a5), (wi_rm49_0_6_0 rm cy J183_a6), (wi_rm50_0_6_0 rm cy J183_a7), (wi_rm56_0_9_0 rm cy (upd f20 2 z22)), (wi_rm51_0_3200_0 rm cy J183_a9), (wi_rm45_0_6_0 rm cy g_trusted)] H := hP
            replace hD := k_D hP hD
            generalize h24E : upd f20 2 z22 = f23 at hP hD
            have ef23 := h24E
            have Ef23 := lf_stn (X := (2 : Int)) ef23 Ef20 rfl Ez22
            refine lv_iconst (v := 0) hx hb dX10_stands_244 rfl ?_
            refine lv_istore_n (lv' := [(1, .int 0), (0, .ref a_this)]) hx hb dX10_stands_245 rfl hl (Nat.le_of_ble_eq_true rfl) rfl (fun ls hl => ?_)
            exact jn246 8 J183_a1 J183_a2 J183_a3 J183_a4 J183_a5 J183_a6 J183_a7 f23 J183_a9 0 H locs ls (ib_w 0 6 hJ183_a1_0 rfl) (ib_w 0 12 hJ183_a1_1 rfl) (ib_w 0 6 hJ183_a1_2 rfl) (ib_w 0 12 hJ183_a1_3 rfl) (ib_w 10 120 hJ183_a4_0 rfl) (ib_w 10 120 hJ183_a4_4 rfl) (ib_w (-1) 1600 hJ183_a6_0 rfl) (ib_w (-1) 1600 hJ183_a6_1 rfl) (ib_w (-1) 1600 hJ183_a6_2 rfl) (ib_w (-1) 1600 hJ183_a6_3 rfl) (ib_w (-1) 1600 hJ183_a6_4 rfl) (ib_w (-1) 1600 hJ183_a6_5 rfl) (ib_w 0 1600 hJ183_a7_0 rfl) (ib_w 0 1600 hJ183_a7_1 rfl) (ib_w 0 1600 hJ183_a7_2 rfl) (ib_w 0 1600 hJ183_a7_3 rfl) (ib_w 0 1600 hJ183_a7_4 rfl) (ib_w 0 1600 hJ183_a7_5 rfl) (ib_w 0 6 (ib_c 0 0 0 rfl) rfl) hJ183_a1 hJ183_a6 hJ183_a7 hJ183_a3p (⟨hJ183_go.1, hJ183_go.2.1, fun j hj => hJ183_go.2.2.1 j (by have := (hx_coded).1; have := (hx_coded).2; have := hJ183_lin0; have := (hJ183_l1).1; have := (hJ183_l1).2; have := Int32.le_iff_toInt_le.mp c15; omega), hJ183_go.2.2.2⟩) (by rw [lf_ua Ef23]; try simp only [show (0 : Int32).toInt = (0 : Int) from rfl]; exact hq) (by have := (ib_c 0 0 0 rfl); unfold ib at this; omega) hP hD hS (lv_sub hl [1, 0] rfl)
        · as_aux_lemma =>
            replace hq := lf_neg hq (lf_nle (lf_rf x_coded) (lf_rf J183_l1) c15)
            have h25 := ib_nle hx_coded hJ183_l1 c15
            have h26 : ib x_coded 1 1600 := ib_w 1 1600 h25.1 rfl
            have h27 : ib J183_l1 0 1599 := ib_w 0 1599 h25.2 rfl
            refine lv_aload_n hx hb dX10_stands_191 rfl (lv_at hl 0 rfl) ?_
            refine k_get C0 fg_X10_136 hP 0 rfl rfl dX10_stands_192 ?_
            refine lv_sipush (v := 1600) hx hb dX10_stands_195 rfl ?_
            refine lv_iload_n hx hb dX10_stands_198 rfl (lv_at hl 1 rfl) ?_
            refine lv_iadd hx hb dX10_stands_199 ?_
            refine lv_topi (fun z28 ez28 => ?_)
            have h29 := ib_add (ib_c 1600 1600 1600 rfl) h27 rfl
            rw [← ez28] at h29
            have h30 : ib z28 1600 3199 := ib_w 1600 3199 h29.1 rfl
            have Ez28 := lf_add h29.2 (lf_lc 1600 (1600 : Int) rfl) (lf_rf J183_l1)
            refine lv_aload_n hx hb dX10_stands_200 rfl (lv_at hl 0 rfl) ?_
            refine k_get C0 fg_X10_136 hP 0 rfl rfl dX10_stands_201 ?_
            refine lv_iload_n hx hb dX10_stands_204 rfl (lv_at hl 1 rfl) ?_
            refine va_iald hx hb C0.2.2.2.2.2.1 hP 9 0 rfl rfl (ib_in 3200 h27 rfl) dX10_stands_205 ?_
            refine lv_topi (fun z31 ez31 => ?_)
            have Ez31 := lf_ld ez31 (lf_ra J183_a9) (lf_rf J183_l1)
            refine va_iast hx hb C0.2.2.2.2.2.1 hP hD hS 9 0 rfl rfl (ib_in 3200 h30 rfl) dX10_stands_206 (fun H locs hP hD hS => ?_)
            replace hP : va_P (dC, dI) vwCl [(a_this, .inr (10, mfs rm x_taped x_at x_end x_ended x_bad x_badPlace x_fault x_faultPlace x_namePlace x_awayTold x_awayTold x_coded x_statements 1 x_textKind x_askSecond x_redMany x_isOpen x_lastGreen x_greenTo x_isCycleGreen x_stillGreen x_rowMany x_fitMany x_fitRules x_fitGreen x_undoable x_newest x_seeded x_qCoded x_qWaits x_qOpened x_qBase x_qPiled x_qAnswer x_qIsNew x_octets)), (wi_rm41_0_4_0 rm cy J183_a1), (wi_rm42_1_48_1 rm cy J183_a2), (wi_rm46_0_48_0 rm cy J183_a3), (wi_rm43_0_8_0 rm cy J183_a4), (wi_rm44_0_24_0 rm cy J183_a5), (wi_rm49_0_6_0 rm cy J183_a6), (wi_rm50_0_6_0 rm cy J183_a7), (wi_rm56_0_9_0 rm cy g_now), (wi_rm51_0_3200_0 rm cy (upd J183_a9 (Int32.toNatClampNeg z28) z31)), (wi_rm45_0_6_0 rm cy g_trusted)] H := hP
            replace hD := k_D hP hD
            generalize h33E : upd J183_a9 (Int32.toNatClampNeg z28) z31 = f32 at hP hD
            have ef32 := h33E
            have Ef32 := lf_st ef32 (lf_ra J183_a9) Ez28 Ez31
            obtain ⟨z34, ez34⟩ : ∃ y : Int32, y = J183_l1 + 1 := ⟨_, rfl⟩
            refine lv_iinc (v := z34) (lv' := [(1, .int z34), (0, .ref a_this)]) hx hb dX10_stands_207 hl (k := 1) rfl (by rw [ez34]; rfl) (Nat.le_of_ble_eq_true rfl) rfl (fun ls hl => ?_)
            have h35 := ib_add h27 (ib_c 1 1 1 rfl) rfl
            rw [← ez34] at h35
            have h36 : ib z34 1 1600 := ib_w 1 1600 h35.1 rfl
            have Ez34 := lf_add h35.2 (lf_rf J183_l1) (lf_lc 1 (1 : Int) rfl)
            refine lv_goto (tgt := 183) hx hb dX10_stands_210 rfl ?_
            exact ih183 J183_a1 J183_a2 J183_a3 J183_a4 J183_a5 J183_a6 J183_a7 z34 f32 H locs ls (ib_w 0 6 hJ183_a1_0 rfl) (ib_w 0 12 hJ183_a1_1 rfl) (ib_w 0 6 hJ183_a1_2 rfl) (ib_w 0 12 hJ183_a1_3 rfl) (ib_w 10 120 hJ183_a4_0 rfl) (ib_w 10 120 hJ183_a4_4 rfl) (ib_w (-1) 1600 hJ183_a6_0 rfl) (ib_w (-1) 1600 hJ183_a6_1 rfl) (ib_w (-1) 1600 hJ183_a6_2 rfl) (ib_w (-1) 1600 hJ183_a6_3 rfl) (ib_w (-1) 1600 hJ183_a6_4 rfl) (ib_w (-1) 1600 hJ183_a6_5 rfl) (ib_w 0 1600 hJ183_a7_0 rfl) (ib_w 0 1600 hJ183_a7_1 rfl) (ib_w 0 1600 hJ183_a7_2 rfl) (ib_w 0 1600 hJ183_a7_3 rfl) (ib_w 0 1600 hJ183_a7_4 rfl) (ib_w 0 1600 hJ183_a7_5 rfl) (ib_w 0 1600 h36 rfl) hJ183_a1 hJ183_a6 hJ183_a7 hJ183_a3p (by have := h35.2; have : (1 : Int32).toInt = 1 := rfl; have := mt Int32.le_iff_toInt_le.mpr c15; omega) (⟨hJ183_go.1, hJ183_go.2.1, fun j hj => (by rw [h33E.symm]; by_cases e9 : 1600 + j = Int32.toNatClampNeg z28; exact (by rw [e9, pk_us, ez31, hJ183_go.2.2.2 _ (by show (Int32.toInt J183_l1).toNat < 1600; have := (h27).1; have := (h27).2; have := hJ183_lin0; have := (h26).1; have := (h26).2; have := (h30).1; have := (h30).2; have := h29.2; have : (1600 : Int32).toInt = 1600 := rfl; have := mt Int32.le_iff_toInt_le.mpr c15; omega)]; congr 1; have e8 : 1600 + j = (Int32.toInt z28).toNat := e9; show (Int32.toInt J183_l1).toNat = j; have := (h27).1; have := (h27).2; have := hJ183_lin0; have := (h26).1; have := (h26).2; have := (h30).1; have := (h30).2; have := h29.2; have : (1600 : Int32).toInt = 1600 := rfl; have := mt Int32.le_iff_toInt_le.mpr c15; omega); exact (pk_un e9).trans (hJ183_go.2.2.1 j (by have e8 : ¬ 1600 + j = (Int32.toInt z28).toNat := e9; have := (h27).1; have := (h27).2; have := hJ183_lin0; have := (h26).1; have := (h26).2; have := (h30).1; have := (h30).2; have := h29.2; have : (1600 : Int32).toInt = 1600 := rfl; have := mt Int32.le_iff_toInt_le.mpr c15; have := (h27).1; have := (h27).2; have := hJ183_lin0; have := (h26).1; have := (h26).2; have := (h36).1; have := (h36).2; have := h35.2; have : (1 : Int32).toInt = 1 := rfl; have := mt Int32.le_iff_toInt_le.mpr c15; omega))), fun p hp => (by rw [h33E.symm]; exact (pk_un (by show ¬ p = (Int32.toInt z28).toNat; have := (h27).1; have := (h27).2; have := hJ183_lin0; have := (h26).1; have := (h26).2; have := (h30).1; have := (h30).2; have := h29.2; have : (1600 : Int32).toInt = 1600 := rfl; have := mt Int32.le_iff_toInt_le.mpr c15; omega)).trans (hJ183_go.2.2.2 p hp))⟩) (by rw [← hK183]; rw [lf_u Ez34]; rw [lf_ua Ef32]; exact hq) (by have := h35.2; have : (1 : Int32).toInt = 1 := rfl; omega) hP hD hS (lv_sub hl [1, 0] rfl)
  have jn105 : ∀ (n : Nat) (J105_a1 : Nat → Int32) (J105_a2 : Nat → Int64) (J105_a3 : Nat → Int32) (J105_a4 : Nat → Int32) (J105_l1 : Int32) (J105_a5 : Nat → Int32) (H : Heap) (locs : List Loc) (ls : Array Slot), ib (J105_a1 0) 0 6 → ib (J105_a1 1) 0 12 → ib (J105_a1 2) 0 6 → ib (J105_a1 3) 0 12 → ib (J105_a4 0) 10 120 → ib (J105_a4 4) 10 120 → ib J105_l1 0 12 → ia J105_a1 4 0 12 → ip J105_a3 48 2 0 0 5 → (O = F_X10_stands_105 (Int32.toInt x_coded) (lf_A g_trusted) (lf_A g_codeFrom) (lf_A g_codeEnd) (lf_A g_codes) (lf_A g_now) n (lf_A J105_a1) (lf_L J105_a2) (lf_A J105_a3) (lf_A J105_a4) (Int32.toInt J105_l1) (lf_A J105_a5)) → 13 ≤ J105_l1.toInt + (n : Int) → va_P (dC, dI) vwCl [(a_this, .inr (10, mfs rm x_taped x_at x_end x_ended x_bad x_badPlace x_fault x_faultPlace x_namePlace x_awayTold x_away x_coded x_statements 1 x_textKind x_askSecond x_redMany x_isOpen x_lastGreen x_greenTo x_isCycleGreen x_stillGreen x_rowMany x_fitMany x_fitRules x_fitGreen x_undoable x_newest x_seeded x_qCoded x_qWaits x_qOpened x_qBase x_qPiled x_qAnswer x_qIsNew x_octets)), (wi_rm41_0_4_0 rm cy J105_a1), (wi_rm42_1_48_1 rm cy J105_a2), (wi_rm46_0_48_0 rm cy J105_a3), (wi_rm43_0_8_0 rm cy J105_a4), (wi_rm44_0_24_0 rm cy J105_a5), (wi_rm49_0_6_0 rm cy g_codeFrom), (wi_rm50_0_6_0 rm cy g_codeEnd), (wi_rm56_0_9_0 rm cy g_now), (wi_rm51_0_3200_0 rm cy g_codes), (wi_rm45_0_6_0 rm cy g_trusted)] H → va_D A [(a_this, .inr (10, mfs rm x_taped x_at x_end x_ended x_bad x_badPlace x_fault x_faultPlace x_namePlace x_awayTold x_away x_coded x_statements 1 x_textKind x_askSecond x_redMany x_isOpen x_lastGreen x_greenTo x_isCycleGreen x_stillGreen x_rowMany x_fitMany x_fitRules x_fitGreen x_undoable x_newest x_seeded x_qCoded x_qWaits x_qOpened x_qBase x_qPiled x_qAnswer x_qIsNew x_octets)), (wi_rm41_0_4_0 rm cy J105_a1), (wi_rm42_1_48_1 rm cy J105_a2), (wi_rm46_0_48_0 rm cy J105_a3), (wi_rm43_0_8_0 rm cy J105_a4), (wi_rm44_0_24_0 rm cy J105_a5), (wi_rm49_0_6_0 rm cy g_codeFrom), (wi_rm50_0_6_0 rm cy g_codeEnd), (wi_rm56_0_9_0 rm cy g_now), (wi_rm51_0_3200_0 rm cy g_codes), (wi_rm45_0_6_0 rm cy g_trusted)] → va_S A s.heap H locs → lv_has ls 2 [(0, .ref a_this), (1, .int J105_l1)] → W p l e { frames := 0, cells := 0, slots := 0, locals := 0 } s m args below meth c H locs 0 0 Q (F0 m 105 ls []) := by
    as_aux_lemma =>
      intro n
      induction n with
      | zero =>
        intro J105_a1 J105_a2 J105_a3 J105_a4 J105_l1 J105_a5 H locs ls hJ105_a1_0 hJ105_a1_1 hJ105_a1_2 hJ105_a1_3 hJ105_a4_0 hJ105_a4_4 hJ105_l1 hJ105_a1 hJ105_a3p hq hm
        exact absurd hm (by have := hJ105_l1; unfold ib at this; omega)
      | succ n ih =>
        intro J105_a1 J105_a2 J105_a3 J105_a4 J105_l1 J105_a5 H locs ls hJ105_a1_0 hJ105_a1_1 hJ105_a1_2 hJ105_a1_3 hJ105_a4_0 hJ105_a4_4 hJ105_l1 hJ105_a1 hJ105_a3p hq hm105 hP hD hS hl
        have ih105 := ih
        obtain ⟨K105, hK105⟩ : ∃ K, K = F_X10_stands_105 (Int32.toInt x_coded) (lf_A g_trusted) (lf_A g_codeFrom) (lf_A g_codeEnd) (lf_A g_codes) (lf_A g_now) n := ⟨_, rfl⟩
        have hq : O = F_X10_stands_105b (Int32.toInt x_coded) (lf_A g_trusted) (lf_A g_codeFrom) (lf_A g_codeEnd) (lf_A g_codes) (lf_A g_now) K105 (lf_A J105_a1) (lf_L J105_a2) (lf_A J105_a3) (lf_A J105_a4) (Int32.toInt J105_l1) (lf_A J105_a5) := by rw [hK105]; exact hq
        unfold F_X10_stands_105b at hq
        refine lv_iload_n hx hb dX10_stands_105 rfl (lv_at hl 1 rfl) ?_
        refine lv_bipush (v := 12) hx hb dX10_stands_106 rfl ?_
        refine lv_icmp_ge (tgt := 132) hx hb dX10_stands_108 rfl (fun c37 => ?_) (fun c37 => ?_)
        · as_aux_lemma =>
            replace hq := lf_pos hq (lf_le (lf_lc 12 (12 : Int) rfl) (lf_rf J105_l1) c37)
            have h38 := ib_le (ib_c 12 12 12 rfl) hJ105_l1 c37
            have h39 : ib J105_l1 12 12 := ib_w 12 12 h38.2 rfl
            refine lv_aload_n hx hb dX10_stands_132 rfl (lv_at hl 0 rfl) ?_
            refine lv_aload_n hx hb dX10_stands_133 rfl (lv_at hl 0 rfl) ?_
            refine k_get C0 fg_X10_402 hP 0 rfl rfl dX10_stands_134 ?_
            refine k_put C0 fp_X10_421 hP hD hS 0 rfl rfl rfl (Nat.le_of_ble_eq_true rfl) dX10_stands_137 (fun H locs hP hD hS => ?_)
            replace hP : va_P (dC, dI) vwCl [(a_this, .inr (10, mfs rm x_taped x_at x_end x_ended x_bad x_badPlace x_fault x_faultPlace x_namePlace x_awayTold x_awayTold x_coded x_statements 1 x_textKind x_askSecond x_redMany x_isOpen x_lastGreen x_greenTo x_isCycleGreen x_stillGreen x_rowMany x_fitMany x_fitRules x_fitGreen x_undoable x_newest x_seeded x_qCoded x_qWaits x_qOpened x_qBase x_qPiled x_qAnswer x_qIsNew x_octets)), (wi_rm41_0_4_0 rm cy J105_a1), (wi_rm42_1_48_1 rm cy J105_a2), (wi_rm46_0_48_0 rm cy J105_a3), (wi_rm43_0_8_0 rm cy J105_a4), (wi_rm44_0_24_0 rm cy J105_a5), (wi_rm49_0_6_0 rm cy g_codeFrom), (wi_rm50_0_6_0 rm cy g_codeEnd), (wi_rm56_0_9_0 rm cy g_now), (wi_rm51_0_3200_0 rm cy g_codes), (wi_rm45_0_6_0 rm cy g_trusted)] H := hP
            replace hD := k_D hP hD
            refine lv_iconst (v := 0) hx hb dX10_stands_140 rfl ?_
            refine lv_istore_n (lv' := [(1, .int 0), (0, .ref a_this)]) hx hb dX10_stands_141 rfl hl (Nat.le_of_ble_eq_true rfl) rfl (fun ls hl => ?_)
            refine lv_iload_n hx hb dX10_stands_142 rfl (lv_at hl 0 rfl) ?_
            refine lv_iconst (v := 3) hx hb dX10_stands_143 rfl ?_
            refine lv_icmp_ge (tgt := 181) hx hb dX10_stands_144 rfl (fun h9 => absurd h9 (by decide)) (fun _ => ?_)
            refine lv_aload_n hx hb dX10_stands_147 rfl (lv_at hl 1 rfl) ?_
            refine k_get C0 fg_X10_130 hP 0 rfl rfl dX10_stands_148 ?_
            refine lv_iconst (v := 3) hx hb dX10_stands_151 rfl ?_
            refine lv_iload_n hx hb dX10_stands_152 rfl (lv_at hl 0 rfl) ?_
            refine lv_iadd hx hb dX10_stands_153 ?_
            refine k_topi (y := 3) (by decide) ?_
            refine lv_aload_n hx hb dX10_stands_154 rfl (lv_at hl 1 rfl) ?_
            refine k_get C0 fg_X10_130 hP 0 rfl rfl dX10_stands_155 ?_
            refine lv_iload_n hx hb dX10_stands_158 rfl (lv_at hl 0 rfl) ?_
            refine va_iald hx hb C0.2.2.2.2.2.1 hP 6 0 rfl rfl (k_in 0 6 rfl) dX10_stands_159 ?_
            refine k_topi (y := g_codeFrom 0) rfl ?_
            refine va_iast hx hb C0.2.2.2.2.2.1 hP hD hS 6 0 rfl rfl (k_in 3 6 rfl) dX10_stands_160 (fun H locs hP hD hS => ?_)
            have h41 := ia_upd hg_codeFrom 3 (ib_w (-1) 1600 hg_codeFrom_0 rfl)
            have h42 : ib ((upd g_codeFrom 3 (g_codeFrom 0)) 0) (-1) 1600 := by rw [pk_un (by decide)]; exact hg_codeFrom_0
            have h43 : ib ((upd g_codeFrom 3 (g_codeFrom 0)) 1) (-1) 1600 := by rw [pk_un (by decide)]; exact hg_codeFrom_1
            have h44 : ib ((upd g_codeFrom 3 (g_codeFrom 0)) 2) (-1) 1600 := by rw [pk_un (by decide)]; exact hg_codeFrom_2
            as_aux_lemma =>
              have h45 : ib ((upd g_codeFrom 3 (g_codeFrom 0)) 3) (-1) 1600 := by rw [pk_us]; exact hg_codeFrom_0
              have h46 : ib ((upd g_codeFrom 3 (g_codeFrom 0)) 4) (-1) 1600 := by rw [pk_un (by decide)]; exact hg_codeFrom_4
              have h47 : ib ((upd g_codeFrom 3 (g_codeFrom 0)) 5) (-1) 1600 := by rw [pk_un (by decide)]; exact hg_codeFrom_5
              replace hP : va_P (dC, dI) vwCl [(a_this, .inr (10, mfs rm x_taped x_at x_end x_ended x_bad x_badPlace x_fault x_faultPlace x_namePlace x_awayTold x_awayTold x_coded x_statements 1 x_textKind x_askSecond x_redMany x_isOpen x_lastGreen x_greenTo x_isCycleGreen x_stillGreen x_rowMany x_fitMany x_fitRules x_fitGreen x_undoable x_newest x_seeded x_qCoded x_qWaits x_qOpened x_qBase x_qPiled x_qAnswer x_qIsNew x_octets)), (wi_rm41_0_4_0 rm cy J105_a1), (wi_rm42_1_48_1 rm cy J105_a2), (wi_rm46_0_48_0 rm cy J105_a3), (wi_rm43_0_8_0 rm cy J105_a4), (wi_rm44_0_24_0 rm cy J105_a5), (wi_rm49_0_6_0 rm cy (upd g_codeFrom 3 (g_codeFrom 0))), (wi_rm50_0_6_0 rm cy g_codeEnd), (wi_rm56_0_9_0 rm cy g_now), (wi_rm51_0_3200_0 rm cy g_codes), (wi_rm45_0_6_0 rm cy g_trusted)] H := hP
              replace hD := k_D hP hD
              generalize h48E : upd g_codeFrom 3 (g_codeFrom 0) = f40 at hP hD h41 h42 h43 h44 h45 h46 h47
              have ef40 := h48E
              have Ef40 := lf_stn (X := (3 : Int)) ef40 (lf_ra g_codeFrom) rfl (lf_pt (lf_ra g_codeFrom) 0)
              refine lv_aload_n hx hb dX10_stands_161 rfl (lv_at hl 1 rfl) ?_
              refine k_get C0 fg_X10_133 hP 0 rfl rfl dX10_stands_162 ?_
              refine lv_iconst (v := 3) hx hb dX10_stands_165 rfl ?_
              refine lv_iload_n hx hb dX10_stands_166 rfl (lv_at hl 0 rfl) ?_
              refine lv_iadd hx hb dX10_stands_167 ?_
              refine k_topi (y := 3) (by decide) ?_
              refine lv_aload_n hx hb dX10_stands_168 rfl (lv_at hl 1 rfl) ?_
              refine k_get C0 fg_X10_133 hP 0 rfl rfl dX10_stands_169 ?_
              refine lv_iload_n hx hb dX10_stands_172 rfl (lv_at hl 0 rfl) ?_
              refine va_iald hx hb C0.2.2.2.2.2.1 hP 7 0 rfl rfl (k_in 0 6 rfl) dX10_stands_173 ?_
              refine k_topi (y := g_codeEnd 0) rfl ?_
              refine va_iast hx hb C0.2.2.2.2.2.1 hP hD hS 7 0 rfl rfl (k_in 3 6 rfl) dX10_stands_174 (fun H locs hP hD hS => ?_)
              have h50 := ia_upd hg_codeEnd 3 (ib_w 0 1600 hg_codeEnd_0 rfl)
              have h51 : ib ((upd g_codeEnd 3 (g_codeEnd 0)) 0) 0 1600 := by rw [pk_un (by decide)]; exact hg_codeEnd_0
              have h52 : ib ((upd g_codeEnd 3 (g_codeEnd 0)) 1) 0 1600 := by rw [pk_un (by decide)]; exact hg_codeEnd_1
              have h53 : ib ((upd g_codeEnd 3 (g_codeEnd 0)) 2) 0 1600 := by rw [pk_un (by decide)]; exact hg_codeEnd_2
              have h54 : ib ((upd g_codeEnd 3 (g_codeEnd 0)) 3) 0 1600 := by rw [pk_us]; exact hg_codeEnd_0
              have h55 : ib ((upd g_codeEnd 3 (g_codeEnd 0)) 4) 0 1600 := by rw [pk_un (by decide)]; exact hg_codeEnd_4
              have h56 : ib ((upd g_codeEnd 3 (g_codeEnd 0)) 5) 0 1600 := by rw [pk_un (by decide)]; exact hg_codeEnd_5
              replace hP : va_P (dC, dI) vwCl [(a_this, .inr (10, mfs rm x_taped x_at x_end x_ended x_bad x_badPlace x_fault x_faultPlace x_namePlace x_awayTold x_awayTold x_coded x_statements 1 x_textKind x_askSecond x_redMany x_isOpen x_lastGreen x_greenTo x_isCycleGreen x_stillGreen x_rowMany x_fitMany x_fitRules x_fitGreen x_undoable x_newest x_seeded x_qCoded x_qWaits x_qOpened x_qBase x_qPiled x_qAnswer x_qIsNew x_octets)), (wi_rm41_0_4_0 rm cy J105_a1), (wi_rm42_1_48_1 rm cy J105_a2), (wi_rm46_0_48_0 rm cy J105_a3), (wi_rm43_0_8_0 rm cy J105_a4), (wi_rm44_0_24_0 rm cy J105_a5), (wi_rm49_0_6_0 rm cy f40), (wi_rm50_0_6_0 rm cy (upd g_codeEnd 3 (g_codeEnd 0))), (wi_rm56_0_9_0 rm cy g_now), (wi_rm51_0_3200_0 rm cy g_codes), (wi_rm45_0_6_0 rm cy g_trusted)] H := hP
              replace hD := k_D hP hD
              generalize h57E : upd g_codeEnd 3 (g_codeEnd 0) = f49 at hP hD h50 h51 h52 h53 h54 h55 h56
              as_aux_lemma =>
                have ef49 := h57E
                have Ef49 := lf_stn (X := (3 : Int)) ef49 (lf_ra g_codeEnd) rfl (lf_pt (lf_ra g_codeEnd) 0)
                refine lv_iinc (v := 1) (lv' := [(1, .int 1), (0, .ref a_this)]) hx hb dX10_stands_175 hl (k := 0) rfl (by decide) (Nat.le_of_ble_eq_true rfl) rfl (fun ls hl => ?_)
                refine lv_goto (tgt := 142) hx hb dX10_stands_178 rfl ?_
                refine lv_iload_n hx hb dX10_stands_142 rfl (lv_at hl 0 rfl) ?_
                refine lv_iconst (v := 3) hx hb dX10_stands_143 rfl ?_
                refine lv_icmp_ge (tgt := 181) hx hb dX10_stands_144 rfl (fun h9 => absurd h9 (by decide)) (fun _ => ?_)
                refine lv_aload_n hx hb dX10_stands_147 rfl (lv_at hl 1 rfl) ?_
                refine k_get C0 fg_X10_130 hP 0 rfl rfl dX10_stands_148 ?_
                refine lv_iconst (v := 3) hx hb dX10_stands_151 rfl ?_
                refine lv_iload_n hx hb dX10_stands_152 rfl (lv_at hl 0 rfl) ?_
                refine lv_iadd hx hb dX10_stands_153 ?_
                refine k_topi (y := 4) (by decide) ?_
                refine lv_aload_n hx hb dX10_stands_154 rfl (lv_at hl 1 rfl) ?_
                refine k_get C0 fg_X10_130 hP 0 rfl rfl dX10_stands_155 ?_
                refine lv_iload_n hx hb dX10_stands_158 rfl (lv_at hl 0 rfl) ?_
                refine va_iald hx hb C0.2.2.2.2.2.1 hP 6 0 rfl rfl (k_in 1 6 rfl) dX10_stands_159 ?_
                refine k_topi (y := f40 1) rfl ?_
                refine va_iast hx hb C0.2.2.2.2.2.1 hP hD hS 6 0 rfl rfl (k_in 4 6 rfl) dX10_stands_160 (fun H locs hP hD hS => ?_)
                have h59 := ia_upd h41 4 (ib_w (-1) 1600 h43 rfl)
                have h60 : ib ((upd f40 4 (f40 1)) 0) (-1) 1600 := by rw [pk_un (by decide)]; exact h42
                have h61 : ib ((upd f40 4 (f40 1)) 1) (-1) 1600 := by rw [pk_un (by decide)]; exact h43
                have h62 : ib ((upd f40 4 (f40 1)) 2) (-1) 1600 := by rw [pk_un (by decide)]; exact h44
                have h63 : ib ((upd f40 4 (f40 1)) 3) (-1) 1600 := by rw [pk_un (by decide)]; exact h45
                have h64 : ib ((upd f40 4 (f40 1)) 4) (-1) 1600 := by rw [pk_us]; exact h43
                have h65 : ib ((upd f40 4 (f40 1)) 5) (-1) 1600 := by rw [pk_un (by decide)]; exact h47
                replace hP : va_P (dC, dI) vwCl [(a_this, .inr (10, mfs rm x_taped x_at x_end x_ended x_bad x_badPlace x_fault x_faultPlace x_namePlace x_awayTold x_awayTold x_coded x_statements 1 x_textKind x_askSecond x_redMany x_isOpen x_lastGreen x_greenTo x_isCycleGreen x_stillGreen x_rowMany x_fitMany x_fitRules x_fitGreen x_undoable x_newest x_seeded x_qCoded x_qWaits x_qOpened x_qBase x_qPiled x_qAnswer x_qIsNew x_octets)), (wi_rm41_0_4_0 rm cy J105_a1), (wi_rm42_1_48_1 rm cy J105_a2), (wi_rm46_0_48_0 rm cy J105_a3), (wi_rm43_0_8_0 rm cy J105_a4), (wi_rm44_0_24_0 rm cy J105_a5), (wi_rm49_0_6_0 rm cy (upd f40 4 (f40 1))), (wi_rm50_0_6_0 rm cy f49), (wi_rm56_0_9_0 rm cy g_now), (wi_rm51_0_3200_0 rm cy g_codes), (wi_rm45_0_6_0 rm cy g_trusted)] H := hP
                replace hD := k_D hP hD
                generalize h66E : upd f40 4 (f40 1) = f58 at hP hD h59 h60 h61 h62 h63 h64 h65
                have ef58 := h66E
                as_aux_lemma =>
                  have Ef58 := lf_stn (X := (4 : Int)) ef58 Ef40 rfl (lf_pt Ef40 1)
                  refine lv_aload_n hx hb dX10_stands_161 rfl (lv_at hl 1 rfl) ?_
                  refine k_get C0 fg_X10_133 hP 0 rfl rfl dX10_stands_162 ?_
                  refine lv_iconst (v := 3) hx hb dX10_stands_165 rfl ?_
                  refine lv_iload_n hx hb dX10_stands_166 rfl (lv_at hl 0 rfl) ?_
                  refine lv_iadd hx hb dX10_stands_167 ?_
                  refine k_topi (y := 4) (by decide) ?_
                  refine lv_aload_n hx hb dX10_stands_168 rfl (lv_at hl 1 rfl) ?_
                  refine k_get C0 fg_X10_133 hP 0 rfl rfl dX10_stands_169 ?_
                  refine lv_iload_n hx hb dX10_stands_172 rfl (lv_at hl 0 rfl) ?_
                  refine va_iald hx hb C0.2.2.2.2.2.1 hP 7 0 rfl rfl (k_in 1 6 rfl) dX10_stands_173 ?_
                  refine k_topi (y := f49 1) rfl ?_
                  refine va_iast hx hb C0.2.2.2.2.2.1 hP hD hS 7 0 rfl rfl (k_in 4 6 rfl) dX10_stands_174 (fun H locs hP hD hS => ?_)
                  have h68 := ia_upd h50 4 (ib_w 0 1600 h52 rfl)
                  have h69 : ib ((upd f49 4 (f49 1)) 0) 0 1600 := by rw [pk_un (by decide)]; exact h51
                  have h70 : ib ((upd f49 4 (f49 1)) 1) 0 1600 := by rw [pk_un (by decide)]; exact h52
                  have h71 : ib ((upd f49 4 (f49 1)) 2) 0 1600 := by rw [pk_un (by decide)]; exact h53
                  have h72 : ib ((upd f49 4 (f49 1)) 3) 0 1600 := by rw [pk_un (by decide)]; exact h54
                  have h73 : ib ((upd f49 4 (f49 1)) 4) 0 1600 := by rw [pk_us]; exact h52
                  have h74 : ib ((upd f49 4 (f49 1)) 5) 0 1600 := by rw [pk_un (by decide)]; exact h56
                  replace hP : va_P (dC, dI) vwCl [(a_this, .inr (10, mfs rm x_taped x_at x_end x_ended x_bad x_badPlace x_fault x_faultPlace x_namePlace x_awayTold x_awayTold x_coded x_statements 1 x_textKind x_askSecond x_redMany x_isOpen x_lastGreen x_greenTo x_isCycleGreen x_stillGreen x_rowMany x_fitMany x_fitRules x_fitGreen x_undoable x_newest x_seeded x_qCoded x_qWaits x_qOpened x_qBase x_qPiled x_qAnswer x_qIsNew x_octets)), (wi_rm41_0_4_0 rm cy J105_a1), (wi_rm42_1_48_1 rm cy J105_a2), (wi_rm46_0_48_0 rm cy J105_a3), (wi_rm43_0_8_0 rm cy J105_a4), (wi_rm44_0_24_0 rm cy J105_a5), (wi_rm49_0_6_0 rm cy f58), (wi_rm50_0_6_0 rm cy (upd f49 4 (f49 1))), (wi_rm56_0_9_0 rm cy g_now), (wi_rm51_0_3200_0 rm cy g_codes), (wi_rm45_0_6_0 rm cy g_trusted)] H := hP
                  replace hD := k_D hP hD
                  generalize h75E : upd f49 4 (f49 1) = f67 at hP hD h68 h69 h70 h71 h72 h73 h74
                  have ef67 := h75E
                  have Ef67 := lf_stn (X := (4 : Int)) ef67 Ef49 rfl (lf_pt Ef49 1)
                  refine lv_iinc (v := 2) (lv' := [(1, .int 2), (0, .ref a_this)]) hx hb dX10_stands_175 hl (k := 0) rfl (by decide) (Nat.le_of_ble_eq_true rfl) rfl (fun ls hl => ?_)
                  refine lv_goto (tgt := 142) hx hb dX10_stands_178 rfl ?_
                  refine lv_iload_n hx hb dX10_stands_142 rfl (lv_at hl 0 rfl) ?_
                  refine lv_iconst (v := 3) hx hb dX10_stands_143 rfl ?_
                  refine lv_icmp_ge (tgt := 181) hx hb dX10_stands_144 rfl (fun h9 => absurd h9 (by decide)) (fun _ => ?_)
                  as_aux_lemma =>
                    refine lv_aload_n hx hb dX10_stands_147 rfl (lv_at hl 1 rfl) ?_
                    refine k_get C0 fg_X10_130 hP 0 rfl rfl dX10_stands_148 ?_
                    refine lv_iconst (v := 3) hx hb dX10_stands_151 rfl ?_
                    refine lv_iload_n hx hb dX10_stands_152 rfl (lv_at hl 0 rfl) ?_
                    refine lv_iadd hx hb dX10_stands_153 ?_
                    refine k_topi (y := 5) (by decide) ?_
                    refine lv_aload_n hx hb dX10_stands_154 rfl (lv_at hl 1 rfl) ?_
                    refine k_get C0 fg_X10_130 hP 0 rfl rfl dX10_stands_155 ?_
                    refine lv_iload_n hx hb dX10_stands_158 rfl (lv_at hl 0 rfl) ?_
                    refine va_iald hx hb C0.2.2.2.2.2.1 hP 6 0 rfl rfl (k_in 2 6 rfl) dX10_stands_159 ?_
                    refine k_topi (y := f58 2) rfl ?_
                    refine va_iast hx hb C0.2.2.2.2.2.1 hP hD hS 6 0 rfl rfl (k_in 5 6 rfl) dX10_stands_160 (fun H locs hP hD hS => ?_)
                    have h77 := ia_upd h59 5 (ib_w (-1) 1600 h62 rfl)
                    have h78 : ib ((upd f58 5 (f58 2)) 0) (-1) 1600 := by rw [pk_un (by decide)]; exact h60
                    have h79 : ib ((upd f58 5 (f58 2)) 1) (-1) 1600 := by rw [pk_un (by decide)]; exact h61
                    have h80 : ib ((upd f58 5 (f58 2)) 2) (-1) 1600 := by rw [pk_un (by decide)]; exact h62
                    have h81 : ib ((upd f58 5 (f58 2)) 3) (-1) 1600 := by rw [pk_un (by decide)]; exact h63
                    have h82 : ib ((upd f58 5 (f58 2)) 4) (-1) 1600 := by rw [pk_un (by decide)]; exact h64
                    have h83 : ib ((upd f58 5 (f58 2)) 5) (-1) 1600 := by rw [pk_us]; exact h62
                    replace hP : va_P (dC, dI) vwCl [(a_this, .inr (10, mfs rm x_taped x_at x_end x_ended x_bad x_badPlace x_fault x_faultPlace x_namePlace x_awayTold x_awayTold x_coded x_statements 1 x_textKind x_askSecond x_redMany x_isOpen x_lastGreen x_greenTo x_isCycleGreen x_stillGreen x_rowMany x_fitMany x_fitRules x_fitGreen x_undoable x_newest x_seeded x_qCoded x_qWaits x_qOpened x_qBase x_qPiled x_qAnswer x_qIsNew x_octets)), (wi_rm41_0_4_0 rm cy J105_a1), (wi_rm42_1_48_1 rm cy J105_a2), (wi_rm46_0_48_0 rm cy J105_a3), (wi_rm43_0_8_0 rm cy J105_a4), (wi_rm44_0_24_0 rm cy J105_a5), (wi_rm49_0_6_0 rm cy (upd f58 5 (f58 2))), (wi_rm50_0_6_0 rm cy f67), (wi_rm56_0_9_0 rm cy g_now), (wi_rm51_0_3200_0 rm cy g_codes), (wi_rm45_0_6_0 rm cy g_trusted)] H := hP
                    replace hD := k_D hP hD
                    generalize h84E : upd f58 5 (f58 2) = f76 at hP hD h77 h78 h79 h80 h81 h82 h83
                    have ef76 := h84E
                    have Ef76 := lf_stn (X := (5 : Int)) ef76 Ef58 rfl (lf_pt Ef58 2)
                    refine lv_aload_n hx hb dX10_stands_161 rfl (lv_at hl 1 rfl) ?_
                    refine k_get C0 fg_X10_133 hP 0 rfl rfl dX10_stands_162 ?_
                    refine lv_iconst (v := 3) hx hb dX10_stands_165 rfl ?_
                    refine lv_iload_n hx hb dX10_stands_166 rfl (lv_at hl 0 rfl) ?_
                    refine lv_iadd hx hb dX10_stands_167 ?_
                    refine k_topi (y := 5) (by decide) ?_
                    as_aux_lemma =>
                      refine lv_aload_n hx hb dX10_stands_168 rfl (lv_at hl 1 rfl) ?_
                      refine k_get C0 fg_X10_133 hP 0 rfl rfl dX10_stands_169 ?_
                      refine lv_iload_n hx hb dX10_stands_172 rfl (lv_at hl 0 rfl) ?_
                      refine va_iald hx hb C0.2.2.2.2.2.1 hP 7 0 rfl rfl (k_in 2 6 rfl) dX10_stands_173 ?_
                      refine k_topi (y := f67 2) rfl ?_
                      refine va_iast hx hb C0.2.2.2.2.2.1 hP hD hS 7 0 rfl rfl (k_in 5 6 rfl) dX10_stands_174 (fun H locs hP hD hS => ?_)
                      have h86 := ia_upd h68 5 (ib_w 0 1600 h71 rfl)
                      have h87 : ib ((upd f67 5 (f67 2)) 0) 0 1600 := by rw [pk_un (by decide)]; exact h69
                      have h88 : ib ((upd f67 5 (f67 2)) 1) 0 1600 := by rw [pk_un (by decide)]; exact h70
                      have h89 : ib ((upd f67 5 (f67 2)) 2) 0 1600 := by rw [pk_un (by decide)]; exact h71
                      have h90 : ib ((upd f67 5 (f67 2)) 3) 0 1600 := by rw [pk_un (by decide)]; exact h72
                      have h91 : ib ((upd f67 5 (f67 2)) 4) 0 1600 := by rw [pk_un (by decide)]; exact h73
                      have h92 : ib ((upd f67 5 (f67 2)) 5) 0 1600 := by rw [pk_us]; exact h71
                      replace hP : va_P (dC, dI) vwCl [(a_this, .inr (10, mfs rm x_taped x_at x_end x_ended x_bad x_badPlace x_fault x_faultPlace x_namePlace x_awayTold x_awayTold x_coded x_statements 1 x_textKind x_askSecond x_redMany x_isOpen x_lastGreen x_greenTo x_isCycleGreen x_stillGreen x_rowMany x_fitMany x_fitRules x_fitGreen x_undoable x_newest x_seeded x_qCoded x_qWaits x_qOpened x_qBase x_qPiled x_qAnswer x_qIsNew x_octets)), (wi_rm41_0_4_0 rm cy J105_a1), (wi_rm42_1_48_1 rm cy J105_a2), (wi_rm46_0_48_0 rm cy J105_a3), (wi_rm43_0_8_0 rm cy J105_a4), (wi_rm44_0_24_0 rm cy J105_a5), (wi_rm49_0_6_0 rm cy f76), (wi_rm50_0_6_0 rm cy (upd f67 5 (f67 2))), (wi_rm56_0_9_0 rm cy g_now), (wi_rm51_0_3200_0 rm cy g_codes), (wi_rm45_0_6_0 rm cy g_trusted)] H := hP
                      replace hD := k_D hP hD
                      generalize h93E : upd f67 5 (f67 2) = f85 at hP hD h86 h87 h88 h89 h90 h91 h92
                      have ef85 := h93E
                      have Ef85 := lf_stn (X := (5 : Int)) ef85 Ef67 rfl (lf_pt Ef67 2)
                      refine lv_iinc (v := 3) (lv' := [(1, .int 3), (0, .ref a_this)]) hx hb dX10_stands_175 hl (k := 0) rfl (by decide) (Nat.le_of_ble_eq_true rfl) rfl (fun ls hl => ?_)
                      refine lv_goto (tgt := 142) hx hb dX10_stands_178 rfl ?_
                      refine lv_iload_n hx hb dX10_stands_142 rfl (lv_at hl 0 rfl) ?_
                      refine lv_iconst (v := 3) hx hb dX10_stands_143 rfl ?_
                      refine lv_icmp_ge (tgt := 181) hx hb dX10_stands_144 rfl (fun _ => ?_) (fun h9 => absurd (by decide) h9)
                      refine lv_iconst (v := 0) hx hb dX10_stands_181 rfl ?_
                      refine lv_istore_n (lv' := [(1, .int 0), (0, .ref a_this)]) hx hb dX10_stands_182 rfl hl (Nat.le_of_ble_eq_true rfl) rfl (fun ls hl => ?_)
                      exact jn183 1602 J105_a1 J105_a2 J105_a3 J105_a4 J105_a5 f76 f85 0 g_codes H locs ls (ib_w 0 6 hJ105_a1_0 rfl) (ib_w 0 12 hJ105_a1_1 rfl) (ib_w 0 6 hJ105_a1_2 rfl) (ib_w 0 12 hJ105_a1_3 rfl) (ib_w 10 120 hJ105_a4_0 rfl) (ib_w 10 120 hJ105_a4_4 rfl) (ib_w (-1) 1600 h78 rfl) (ib_w (-1) 1600 h79 rfl) (ib_w (-1) 1600 h80 rfl) (ib_w (-1) 1600 h81 rfl) (ib_w (-1) 1600 h82 rfl) (ib_w (-1) 1600 h83 rfl) (ib_w 0 1600 h87 rfl) (ib_w 0 1600 h88 rfl) (ib_w 0 1600 h89 rfl) (ib_w 0 1600 h90 rfl) (ib_w 0 1600 h91 rfl) (ib_w 0 1600 h92 rfl) (ib_w 0 1600 (ib_c 0 0 0 rfl) rfl) hJ105_a1 h77 h86 hJ105_a3p (by have : (0 : Int32).toInt = 0 := rfl; have := (hx_coded).1; omega) (⟨cf_3 h48E.symm h66E.symm h84E.symm, cf_3 h57E.symm h75E.symm h93E.symm, fun j h => absurd h (by have : (0 : Int32).toInt = 0 := rfl; omega), fun _ _ => rfl⟩) (by rw [lf_ua Ef76]; rw [lf_ua Ef85]; try simp only [show (0 : Int32).toInt = (0 : Int) from rfl]; exact hq) (by have := (ib_c 0 0 0 rfl); unfold ib at this; omega) hP hD hS (lv_sub hl [1, 0] rfl)
        · as_aux_lemma =>
            replace hq := lf_neg hq (lf_nle (lf_lc 12 (12 : Int) rfl) (lf_rf J105_l1) c37)
            have h94 := ib_nle (ib_c 12 12 12 rfl) hJ105_l1 c37
            have h95 : ib J105_l1 0 11 := ib_w 0 11 h94.2 rfl
            refine lv_aload_n hx hb dX10_stands_111 rfl (lv_at hl 0 rfl) ?_
            refine k_get C0 fg_X10_121 hP 0 rfl rfl dX10_stands_112 ?_
            refine lv_bipush (v := 12) hx hb dX10_stands_115 rfl ?_
            refine lv_iload_n hx hb dX10_stands_117 rfl (lv_at hl 1 rfl) ?_
            refine lv_iadd hx hb dX10_stands_118 ?_
            refine lv_topi (fun z96 ez96 => ?_)
            have h97 := ib_add (ib_c 12 12 12 rfl) h95 rfl
            rw [← ez96] at h97
            have h98 : ib z96 12 23 := ib_w 12 23 h97.1 rfl
            have Ez96 := lf_add h97.2 (lf_lc 12 (12 : Int) rfl) (lf_rf J105_l1)
            refine lv_aload_n hx hb dX10_stands_119 rfl (lv_at hl 0 rfl) ?_
            refine k_get C0 fg_X10_121 hP 0 rfl rfl dX10_stands_120 ?_
            refine lv_iload_n hx hb dX10_stands_123 rfl (lv_at hl 1 rfl) ?_
            refine va_iald hx hb C0.2.2.2.2.2.1 hP 5 0 rfl rfl (ib_in 24 h95 rfl) dX10_stands_124 ?_
            refine lv_topi (fun z99 ez99 => ?_)
            have Ez99 := lf_ld ez99 (lf_ra J105_a5) (lf_rf J105_l1)
            refine va_iast hx hb C0.2.2.2.2.2.1 hP hD hS 5 0 rfl rfl (ib_in 24 h98 rfl) dX10_stands_125 (fun H locs hP hD hS => ?_)
            replace hP : va_P (dC, dI) vwCl [(a_this, .inr (10, mfs rm x_taped x_at x_end x_ended x_bad x_badPlace x_fault x_faultPlace x_namePlace x_awayTold x_away x_coded x_statements 1 x_textKind x_askSecond x_redMany x_isOpen x_lastGreen x_greenTo x_isCycleGreen x_stillGreen x_rowMany x_fitMany x_fitRules x_fitGreen x_undoable x_newest x_seeded x_qCoded x_qWaits x_qOpened x_qBase x_qPiled x_qAnswer x_qIsNew x_octets)), (wi_rm41_0_4_0 rm cy J105_a1), (wi_rm42_1_48_1 rm cy J105_a2), (wi_rm46_0_48_0 rm cy J105_a3), (wi_rm43_0_8_0 rm cy J105_a4), (wi_rm44_0_24_0 rm cy (upd J105_a5 (Int32.toNatClampNeg z96) z99)), (wi_rm49_0_6_0 rm cy g_codeFrom), (wi_rm50_0_6_0 rm cy g_codeEnd), (wi_rm56_0_9_0 rm cy g_now), (wi_rm51_0_3200_0 rm cy g_codes), (wi_rm45_0_6_0 rm cy g_trusted)] H := hP
            replace hD := k_D hP hD
            generalize h101E : upd J105_a5 (Int32.toNatClampNeg z96) z99 = f100 at hP hD
            have ef100 := h101E
            have Ef100 := lf_st ef100 (lf_ra J105_a5) Ez96 Ez99
            obtain ⟨z102, ez102⟩ : ∃ y : Int32, y = J105_l1 + 1 := ⟨_, rfl⟩
            refine lv_iinc (v := z102) (lv' := [(1, .int z102), (0, .ref a_this)]) hx hb dX10_stands_126 hl (k := 1) rfl (by rw [ez102]; rfl) (Nat.le_of_ble_eq_true rfl) rfl (fun ls hl => ?_)
            have h103 := ib_add h95 (ib_c 1 1 1 rfl) rfl
            rw [← ez102] at h103
            have h104 : ib z102 1 12 := ib_w 1 12 h103.1 rfl
            have Ez102 := lf_add h103.2 (lf_rf J105_l1) (lf_lc 1 (1 : Int) rfl)
            refine lv_goto (tgt := 105) hx hb dX10_stands_129 rfl ?_
            exact ih105 J105_a1 J105_a2 J105_a3 J105_a4 z102 f100 H locs ls (ib_w 0 6 hJ105_a1_0 rfl) (ib_w 0 12 hJ105_a1_1 rfl) (ib_w 0 6 hJ105_a1_2 rfl) (ib_w 0 12 hJ105_a1_3 rfl) (ib_w 10 120 hJ105_a4_0 rfl) (ib_w 10 120 hJ105_a4_4 rfl) (ib_w 0 12 h104 rfl) hJ105_a1 hJ105_a3p (by rw [← hK105]; rw [lf_u Ez102]; rw [lf_ua Ef100]; exact hq) (by have := h103.2; have : (1 : Int32).toInt = 1 := rfl; omega) hP hD hS (lv_sub hl [1, 0] rfl)
  have jn34 : ∀ (n : Nat) (J34_a1 : Nat → Int32) (J34_l1 : Int32) (J34_a2 : Nat → Int64) (J34_a3 : Nat → Int32) (H : Heap) (locs : List Loc) (ls : Array Slot), ib (J34_a1 0) 0 6 → ib (J34_a1 1) 0 12 → ib (J34_a1 2) 0 6 → ib (J34_a1 3) 0 12 → ib J34_l1 0 24 → ia J34_a1 4 0 12 → ip J34_a3 48 2 0 0 5 → (O = F_X10_stands_34 (Int32.toInt x_coded) (lf_A g_bar) (lf_A g_kinds) (lf_A g_trusted) (lf_A g_codeFrom) (lf_A g_codeEnd) (lf_A g_codes) (lf_A g_now) n (lf_A J34_a1) (Int32.toInt J34_l1) (lf_L J34_a2) (lf_A J34_a3)) → 25 ≤ J34_l1.toInt + (n : Int) → va_P (dC, dI) vwCl [(a_this, .inr (10, mfs rm x_taped x_at x_end x_ended x_bad x_badPlace x_fault x_faultPlace x_namePlace x_awayTold x_away x_coded x_statements 1 x_textKind x_askSecond x_redMany x_isOpen x_lastGreen x_greenTo x_isCycleGreen x_stillGreen x_rowMany x_fitMany x_fitRules x_fitGreen x_undoable x_newest x_seeded x_qCoded x_qWaits x_qOpened x_qBase x_qPiled x_qAnswer x_qIsNew x_octets)), (wi_rm41_0_4_0 rm cy J34_a1), (wi_rm42_1_48_1 rm cy J34_a2), (wi_rm46_0_48_0 rm cy J34_a3), (wi_rm43_0_8_0 rm cy g_bar), (wi_rm44_0_24_0 rm cy g_kinds), (wi_rm49_0_6_0 rm cy g_codeFrom), (wi_rm50_0_6_0 rm cy g_codeEnd), (wi_rm56_0_9_0 rm cy g_now), (wi_rm51_0_3200_0 rm cy g_codes), (wi_rm45_0_6_0 rm cy g_trusted)] H → va_D A [(a_this, .inr (10, mfs rm x_taped x_at x_end x_ended x_bad x_badPlace x_fault x_faultPlace x_namePlace x_awayTold x_away x_coded x_statements 1 x_textKind x_askSecond x_redMany x_isOpen x_lastGreen x_greenTo x_isCycleGreen x_stillGreen x_rowMany x_fitMany x_fitRules x_fitGreen x_undoable x_newest x_seeded x_qCoded x_qWaits x_qOpened x_qBase x_qPiled x_qAnswer x_qIsNew x_octets)), (wi_rm41_0_4_0 rm cy J34_a1), (wi_rm42_1_48_1 rm cy J34_a2), (wi_rm46_0_48_0 rm cy J34_a3), (wi_rm43_0_8_0 rm cy g_bar), (wi_rm44_0_24_0 rm cy g_kinds), (wi_rm49_0_6_0 rm cy g_codeFrom), (wi_rm50_0_6_0 rm cy g_codeEnd), (wi_rm56_0_9_0 rm cy g_now), (wi_rm51_0_3200_0 rm cy g_codes), (wi_rm45_0_6_0 rm cy g_trusted)] → va_S A s.heap H locs → lv_has ls 2 [(0, .ref a_this), (1, .int J34_l1)] → W p l e { frames := 0, cells := 0, slots := 0, locals := 0 } s m args below meth c H locs 0 0 Q (F0 m 34 ls []) := by
    as_aux_lemma =>
      intro n
      induction n with
      | zero =>
        intro J34_a1 J34_l1 J34_a2 J34_a3 H locs ls hJ34_a1_0 hJ34_a1_1 hJ34_a1_2 hJ34_a1_3 hJ34_l1 hJ34_a1 hJ34_a3p hq hm
        exact absurd hm (by have := hJ34_l1; unfold ib at this; omega)
      | succ n ih =>
        intro J34_a1 J34_l1 J34_a2 J34_a3 H locs ls hJ34_a1_0 hJ34_a1_1 hJ34_a1_2 hJ34_a1_3 hJ34_l1 hJ34_a1 hJ34_a3p hq hm34 hP hD hS hl
        have ih34 := ih
        obtain ⟨K34, hK34⟩ : ∃ K, K = F_X10_stands_34 (Int32.toInt x_coded) (lf_A g_bar) (lf_A g_kinds) (lf_A g_trusted) (lf_A g_codeFrom) (lf_A g_codeEnd) (lf_A g_codes) (lf_A g_now) n := ⟨_, rfl⟩
        have hq : O = F_X10_stands_34b (Int32.toInt x_coded) (lf_A g_bar) (lf_A g_kinds) (lf_A g_trusted) (lf_A g_codeFrom) (lf_A g_codeEnd) (lf_A g_codes) (lf_A g_now) K34 (lf_A J34_a1) (Int32.toInt J34_l1) (lf_L J34_a2) (lf_A J34_a3) := by rw [hK34]; exact hq
        unfold F_X10_stands_34b at hq
        refine lv_iload_n hx hb dX10_stands_34 rfl (lv_at hl 1 rfl) ?_
        refine lv_bipush (v := 24) hx hb dX10_stands_35 rfl ?_
        refine lv_icmp_ge (tgt := 76) hx hb dX10_stands_37 rfl (fun c105 => ?_) (fun c105 => ?_)
        · as_aux_lemma =>
            replace hq := lf_pos hq (lf_le (lf_lc 24 (24 : Int) rfl) (lf_rf J34_l1) c105)
            have h106 := ib_le (ib_c 24 24 24 rfl) hJ34_l1 c105
            have h107 : ib J34_l1 24 24 := ib_w 24 24 h106.2 rfl
            refine lv_iconst (v := 0) hx hb dX10_stands_76 rfl ?_
            refine lv_istore_n (lv' := [(1, .int 0), (0, .ref a_this)]) hx hb dX10_stands_77 rfl hl (Nat.le_of_ble_eq_true rfl) rfl (fun ls hl => ?_)
            refine lv_iload_n hx hb dX10_stands_78 rfl (lv_at hl 0 rfl) ?_
            refine lv_iconst (v := 4) hx hb dX10_stands_79 rfl ?_
            refine lv_icmp_ge (tgt := 103) hx hb dX10_stands_80 rfl (fun h9 => absurd h9 (by decide)) (fun _ => ?_)
            refine lv_aload_n hx hb dX10_stands_83 rfl (lv_at hl 1 rfl) ?_
            refine k_get C0 fg_X10_118 hP 0 rfl rfl dX10_stands_84 ?_
            refine lv_iconst (v := 4) hx hb dX10_stands_87 rfl ?_
            refine lv_iload_n hx hb dX10_stands_88 rfl (lv_at hl 0 rfl) ?_
            refine lv_iadd hx hb dX10_stands_89 ?_
            refine k_topi (y := 4) (by decide) ?_
            refine lv_aload_n hx hb dX10_stands_90 rfl (lv_at hl 1 rfl) ?_
            refine k_get C0 fg_X10_118 hP 0 rfl rfl dX10_stands_91 ?_
            refine lv_iload_n hx hb dX10_stands_94 rfl (lv_at hl 0 rfl) ?_
            refine va_iald hx hb C0.2.2.2.2.2.1 hP 4 0 rfl rfl (k_in 0 8 rfl) dX10_stands_95 ?_
            refine k_topi (y := g_bar 0) rfl ?_
            refine va_iast hx hb C0.2.2.2.2.2.1 hP hD hS 4 0 rfl rfl (k_in 4 8 rfl) dX10_stands_96 (fun H locs hP hD hS => ?_)
            have h109 : ib ((upd g_bar 4 (g_bar 0)) 0) 10 120 := by rw [pk_un (by decide)]; exact hg_bar_0
            have h110 : ib ((upd g_bar 4 (g_bar 0)) 4) 10 120 := by rw [pk_us]; exact hg_bar_0
            replace hP : va_P (dC, dI) vwCl [(a_this, .inr (10, mfs rm x_taped x_at x_end x_ended x_bad x_badPlace x_fault x_faultPlace x_namePlace x_awayTold x_away x_coded x_statements 1 x_textKind x_askSecond x_redMany x_isOpen x_lastGreen x_greenTo x_isCycleGreen x_stillGreen x_rowMany x_fitMany x_fitRules x_fitGreen x_undoable x_newest x_seeded x_qCoded x_qWaits x_qOpened x_qBase x_qPiled x_qAnswer x_qIsNew x_octets)), (wi_rm41_0_4_0 rm cy J34_a1), (wi_rm42_1_48_1 rm cy J34_a2), (wi_rm46_0_48_0 rm cy J34_a3), (wi_rm43_0_8_0 rm cy (upd g_bar 4 (g_bar 0))), (wi_rm44_0_24_0 rm cy g_kinds), (wi_rm49_0_6_0 rm cy g_codeFrom), (wi_rm50_0_6_0 rm cy g_codeEnd), (wi_rm56_0_9_0 rm cy g_now), (wi_rm51_0_3200_0 rm cy g_codes), (wi_rm45_0_6_0 rm cy g_trusted)] H := hP
            replace hD := k_D hP hD
            generalize h111E : upd g_bar 4 (g_bar 0) = f108 at hP hD h109 h110
            have ef108 := h111E
            have Ef108 := lf_stn (X := (4 : Int)) ef108 (lf_ra g_bar) rfl (lf_pt (lf_ra g_bar) 0)
            refine lv_iinc (v := 1) (lv' := [(1, .int 1), (0, .ref a_this)]) hx hb dX10_stands_97 hl (k := 0) rfl (by decide) (Nat.le_of_ble_eq_true rfl) rfl (fun ls hl => ?_)
            refine lv_goto (tgt := 78) hx hb dX10_stands_100 rfl ?_
            refine lv_iload_n hx hb dX10_stands_78 rfl (lv_at hl 0 rfl) ?_
            as_aux_lemma =>
              refine lv_iconst (v := 4) hx hb dX10_stands_79 rfl ?_
              refine lv_icmp_ge (tgt := 103) hx hb dX10_stands_80 rfl (fun h9 => absurd h9 (by decide)) (fun _ => ?_)
              refine lv_aload_n hx hb dX10_stands_83 rfl (lv_at hl 1 rfl) ?_
              refine k_get C0 fg_X10_118 hP 0 rfl rfl dX10_stands_84 ?_
              refine lv_iconst (v := 4) hx hb dX10_stands_87 rfl ?_
              refine lv_iload_n hx hb dX10_stands_88 rfl (lv_at hl 0 rfl) ?_
              refine lv_iadd hx hb dX10_stands_89 ?_
              refine k_topi (y := 5) (by decide) ?_
              refine lv_aload_n hx hb dX10_stands_90 rfl (lv_at hl 1 rfl) ?_
              refine k_get C0 fg_X10_118 hP 0 rfl rfl dX10_stands_91 ?_
              refine lv_iload_n hx hb dX10_stands_94 rfl (lv_at hl 0 rfl) ?_
              refine va_iald hx hb C0.2.2.2.2.2.1 hP 4 0 rfl rfl (k_in 1 8 rfl) dX10_stands_95 ?_
              refine lv_topi (fun z112 ez112 => ?_)
              have Ez112 := lf_ld ez112 Ef108 (lf_lc 1 (1 : Int) rfl)
              refine va_iast hx hb C0.2.2.2.2.2.1 hP hD hS 4 0 rfl rfl (k_in 5 8 rfl) dX10_stands_96 (fun H locs hP hD hS => ?_)
              have h114 : ib ((upd f108 5 z112) 0) 10 120 := by rw [pk_un (by decide)]; exact h109
              have h115 : ib ((upd f108 5 z112) 4) 10 120 := by rw [pk_un (by decide)]; exact h110
              replace hP : va_P (dC, dI) vwCl [(a_this, .inr (10, mfs rm x_taped x_at x_end x_ended x_bad x_badPlace x_fault x_faultPlace x_namePlace x_awayTold x_away x_coded x_statements 1 x_textKind x_askSecond x_redMany x_isOpen x_lastGreen x_greenTo x_isCycleGreen x_stillGreen x_rowMany x_fitMany x_fitRules x_fitGreen x_undoable x_newest x_seeded x_qCoded x_qWaits x_qOpened x_qBase x_qPiled x_qAnswer x_qIsNew x_octets)), (wi_rm41_0_4_0 rm cy J34_a1), (wi_rm42_1_48_1 rm cy J34_a2), (wi_rm46_0_48_0 rm cy J34_a3), (wi_rm43_0_8_0 rm cy (upd f108 5 z112)), (wi_rm44_0_24_0 rm cy g_kinds), (wi_rm49_0_6_0 rm cy g_codeFrom), (wi_rm50_0_6_0 rm cy g_codeEnd), (wi_rm56_0_9_0 rm cy g_now), (wi_rm51_0_3200_0 rm cy g_codes), (wi_rm45_0_6_0 rm cy g_trusted)] H := hP
              replace hD := k_D hP hD
              generalize h116E : upd f108 5 z112 = f113 at hP hD h114 h115
              have ef113 := h116E
              have Ef113 := lf_stn (X := (5 : Int)) ef113 Ef108 rfl Ez112
              refine lv_iinc (v := 2) (lv' := [(1, .int 2), (0, .ref a_this)]) hx hb dX10_stands_97 hl (k := 0) rfl (by decide) (Nat.le_of_ble_eq_true rfl) rfl (fun ls hl => ?_)
              refine lv_goto (tgt := 78) hx hb dX10_stands_100 rfl ?_
              refine lv_iload_n hx hb dX10_stands_78 rfl (lv_at hl 0 rfl) ?_
              refine lv_iconst (v := 4) hx hb dX10_stands_79 rfl ?_
              refine lv_icmp_ge (tgt := 103) hx hb dX10_stands_80 rfl (fun h9 => absurd h9 (by decide)) (fun _ => ?_)
              refine lv_aload_n hx hb dX10_stands_83 rfl (lv_at hl 1 rfl) ?_
              refine k_get C0 fg_X10_118 hP 0 rfl rfl dX10_stands_84 ?_
              refine lv_iconst (v := 4) hx hb dX10_stands_87 rfl ?_
              as_aux_lemma =>
                refine lv_iload_n hx hb dX10_stands_88 rfl (lv_at hl 0 rfl) ?_
                refine lv_iadd hx hb dX10_stands_89 ?_
                refine k_topi (y := 6) (by decide) ?_
                refine lv_aload_n hx hb dX10_stands_90 rfl (lv_at hl 1 rfl) ?_
                refine k_get C0 fg_X10_118 hP 0 rfl rfl dX10_stands_91 ?_
                refine lv_iload_n hx hb dX10_stands_94 rfl (lv_at hl 0 rfl) ?_
                refine va_iald hx hb C0.2.2.2.2.2.1 hP 4 0 rfl rfl (k_in 2 8 rfl) dX10_stands_95 ?_
                refine lv_topi (fun z117 ez117 => ?_)
                have Ez117 := lf_ld ez117 Ef113 (lf_lc 2 (2 : Int) rfl)
                refine va_iast hx hb C0.2.2.2.2.2.1 hP hD hS 4 0 rfl rfl (k_in 6 8 rfl) dX10_stands_96 (fun H locs hP hD hS => ?_)
                have h119 : ib ((upd f113 6 z117) 0) 10 120 := by rw [pk_un (by decide)]; exact h114
                have h120 : ib ((upd f113 6 z117) 4) 10 120 := by rw [pk_un (by decide)]; exact h115
                replace hP : va_P (dC, dI) vwCl [(a_this, .inr (10, mfs rm x_taped x_at x_end x_ended x_bad x_badPlace x_fault x_faultPlace x_namePlace x_awayTold x_away x_coded x_statements 1 x_textKind x_askSecond x_redMany x_isOpen x_lastGreen x_greenTo x_isCycleGreen x_stillGreen x_rowMany x_fitMany x_fitRules x_fitGreen x_undoable x_newest x_seeded x_qCoded x_qWaits x_qOpened x_qBase x_qPiled x_qAnswer x_qIsNew x_octets)), (wi_rm41_0_4_0 rm cy J34_a1), (wi_rm42_1_48_1 rm cy J34_a2), (wi_rm46_0_48_0 rm cy J34_a3), (wi_rm43_0_8_0 rm cy (upd f113 6 z117)), (wi_rm44_0_24_0 rm cy g_kinds), (wi_rm49_0_6_0 rm cy g_codeFrom), (wi_rm50_0_6_0 rm cy g_codeEnd), (wi_rm56_0_9_0 rm cy g_now), (wi_rm51_0_3200_0 rm cy g_codes), (wi_rm45_0_6_0 rm cy g_trusted)] H := hP
                replace hD := k_D hP hD
                generalize h121E : upd f113 6 z117 = f118 at hP hD h119 h120
                have ef118 := h121E
                have Ef118 := lf_stn (X := (6 : Int)) ef118 Ef113 rfl Ez117
                refine lv_iinc (v := 3) (lv' := [(1, .int 3), (0, .ref a_this)]) hx hb dX10_stands_97 hl (k := 0) rfl (by decide) (Nat.le_of_ble_eq_true rfl) rfl (fun ls hl => ?_)
                refine lv_goto (tgt := 78) hx hb dX10_stands_100 rfl ?_
                refine lv_iload_n hx hb dX10_stands_78 rfl (lv_at hl 0 rfl) ?_
                refine lv_iconst (v := 4) hx hb dX10_stands_79 rfl ?_
                refine lv_icmp_ge (tgt := 103) hx hb dX10_stands_80 rfl (fun h9 => absurd h9 (by decide)) (fun _ => ?_)
                refine lv_aload_n hx hb dX10_stands_83 rfl (lv_at hl 1 rfl) ?_
                refine k_get C0 fg_X10_118 hP 0 rfl rfl dX10_stands_84 ?_
                refine lv_iconst (v := 4) hx hb dX10_stands_87 rfl ?_
                refine lv_iload_n hx hb dX10_stands_88 rfl (lv_at hl 0 rfl) ?_
                refine lv_iadd hx hb dX10_stands_89 ?_
                refine k_topi (y := 7) (by decide) ?_
                refine lv_aload_n hx hb dX10_stands_90 rfl (lv_at hl 1 rfl) ?_
                refine k_get C0 fg_X10_118 hP 0 rfl rfl dX10_stands_91 ?_
                as_aux_lemma =>
                  refine lv_iload_n hx hb dX10_stands_94 rfl (lv_at hl 0 rfl) ?_
                  refine va_iald hx hb C0.2.2.2.2.2.1 hP 4 0 rfl rfl (k_in 3 8 rfl) dX10_stands_95 ?_
                  refine lv_topi (fun z122 ez122 => ?_)
                  have Ez122 := lf_ld ez122 Ef118 (lf_lc 3 (3 : Int) rfl)
                  refine va_iast hx hb C0.2.2.2.2.2.1 hP hD hS 4 0 rfl rfl (k_in 7 8 rfl) dX10_stands_96 (fun H locs hP hD hS => ?_)
                  have h124 : ib ((upd f118 7 z122) 0) 10 120 := by rw [pk_un (by decide)]; exact h119
                  have h125 : ib ((upd f118 7 z122) 4) 10 120 := by rw [pk_un (by decide)]; exact h120
                  replace hP : va_P (dC, dI) vwCl [(a_this, .inr (10, mfs rm x_taped x_at x_end x_ended x_bad x_badPlace x_fault x_faultPlace x_namePlace x_awayTold x_away x_coded x_statements 1 x_textKind x_askSecond x_redMany x_isOpen x_lastGreen x_greenTo x_isCycleGreen x_stillGreen x_rowMany x_fitMany x_fitRules x_fitGreen x_undoable x_newest x_seeded x_qCoded x_qWaits x_qOpened x_qBase x_qPiled x_qAnswer x_qIsNew x_octets)), (wi_rm41_0_4_0 rm cy J34_a1), (wi_rm42_1_48_1 rm cy J34_a2), (wi_rm46_0_48_0 rm cy J34_a3), (wi_rm43_0_8_0 rm cy (upd f118 7 z122)), (wi_rm44_0_24_0 rm cy g_kinds), (wi_rm49_0_6_0 rm cy g_codeFrom), (wi_rm50_0_6_0 rm cy g_codeEnd), (wi_rm56_0_9_0 rm cy g_now), (wi_rm51_0_3200_0 rm cy g_codes), (wi_rm45_0_6_0 rm cy g_trusted)] H := hP
                  replace hD := k_D hP hD
                  generalize h126E : upd f118 7 z122 = f123 at hP hD h124 h125
                  have ef123 := h126E
                  have Ef123 := lf_stn (X := (7 : Int)) ef123 Ef118 rfl Ez122
                  refine lv_iinc (v := 4) (lv' := [(1, .int 4), (0, .ref a_this)]) hx hb dX10_stands_97 hl (k := 0) rfl (by decide) (Nat.le_of_ble_eq_true rfl) rfl (fun ls hl => ?_)
                  refine lv_goto (tgt := 78) hx hb dX10_stands_100 rfl ?_
                  refine lv_iload_n hx hb dX10_stands_78 rfl (lv_at hl 0 rfl) ?_
                  refine lv_iconst (v := 4) hx hb dX10_stands_79 rfl ?_
                  refine lv_icmp_ge (tgt := 103) hx hb dX10_stands_80 rfl (fun _ => ?_) (fun h9 => absurd (by decide) h9)
                  refine lv_iconst (v := 0) hx hb dX10_stands_103 rfl ?_
                  refine lv_istore_n (lv' := [(1, .int 0), (0, .ref a_this)]) hx hb dX10_stands_104 rfl hl (Nat.le_of_ble_eq_true rfl) rfl (fun ls hl => ?_)
                  exact jn105 14 J34_a1 J34_a2 J34_a3 f123 0 g_kinds H locs ls (ib_w 0 6 hJ34_a1_0 rfl) (ib_w 0 12 hJ34_a1_1 rfl) (ib_w 0 6 hJ34_a1_2 rfl) (ib_w 0 12 hJ34_a1_3 rfl) (ib_w 10 120 h124 rfl) (ib_w 10 120 h125 rfl) (ib_w 0 12 (ib_c 0 0 0 rfl) rfl) hJ34_a1 hJ34_a3p (by rw [lf_ua Ef123]; try simp only [show (0 : Int32).toInt = (0 : Int) from rfl]; exact hq) (by have := (ib_c 0 0 0 rfl); unfold ib at this; omega) hP hD hS (lv_sub hl [1, 0] rfl)
        · as_aux_lemma =>
            replace hq := lf_neg hq (lf_nle (lf_lc 24 (24 : Int) rfl) (lf_rf J34_l1) c105)
            have h127 := ib_nle (ib_c 24 24 24 rfl) hJ34_l1 c105
            have h128 : ib J34_l1 0 23 := ib_w 0 23 h127.2 rfl
            refine lv_aload_n hx hb dX10_stands_40 rfl (lv_at hl 0 rfl) ?_
            refine k_get C0 fg_X10_114 hP 0 rfl rfl dX10_stands_41 ?_
            refine lv_bipush (v := 24) hx hb dX10_stands_44 rfl ?_
            refine lv_iload_n hx hb dX10_stands_46 rfl (lv_at hl 1 rfl) ?_
            refine lv_iadd hx hb dX10_stands_47 ?_
            refine lv_topi (fun z129 ez129 => ?_)
            have h130 := ib_add (ib_c 24 24 24 rfl) h128 rfl
            rw [← ez129] at h130
            have h131 : ib z129 24 47 := ib_w 24 47 h130.1 rfl
            have Ez129 := lf_add h130.2 (lf_lc 24 (24 : Int) rfl) (lf_rf J34_l1)
            refine lv_aload_n hx hb dX10_stands_48 rfl (lv_at hl 0 rfl) ?_
            refine k_get C0 fg_X10_114 hP 0 rfl rfl dX10_stands_49 ?_
            refine lv_iload_n hx hb dX10_stands_52 rfl (lv_at hl 1 rfl) ?_
            refine va_lald hx hb C0.2.2.2.2.2.1 hP 2 1 rfl rfl (ib_in 48 h128 rfl) dX10_stands_53 ?_
            refine lv_topl (fun z132 ez132 => ?_)
            have Ez132 := lf_ldl ez132 (lf_raL J34_a2) (lf_rf J34_l1)
            refine va_last hx hb C0.2.2.2.2.2.1 hP hD hS 2 1 rfl rfl (ib_in 48 h131 rfl) dX10_stands_54 (fun H locs hP hD hS => ?_)
            replace hP : va_P (dC, dI) vwCl [(a_this, .inr (10, mfs rm x_taped x_at x_end x_ended x_bad x_badPlace x_fault x_faultPlace x_namePlace x_awayTold x_away x_coded x_statements 1 x_textKind x_askSecond x_redMany x_isOpen x_lastGreen x_greenTo x_isCycleGreen x_stillGreen x_rowMany x_fitMany x_fitRules x_fitGreen x_undoable x_newest x_seeded x_qCoded x_qWaits x_qOpened x_qBase x_qPiled x_qAnswer x_qIsNew x_octets)), (wi_rm41_0_4_0 rm cy J34_a1), (wi_rm42_1_48_1 rm cy (vp_updL J34_a2 (Int32.toNatClampNeg z129) z132)), (wi_rm46_0_48_0 rm cy J34_a3), (wi_rm43_0_8_0 rm cy g_bar), (wi_rm44_0_24_0 rm cy g_kinds), (wi_rm49_0_6_0 rm cy g_codeFrom), (wi_rm50_0_6_0 rm cy g_codeEnd), (wi_rm56_0_9_0 rm cy g_now), (wi_rm51_0_3200_0 rm cy g_codes), (wi_rm45_0_6_0 rm cy g_trusted)] H := hP
            replace hD := k_D hP hD
            generalize h134E : vp_updL J34_a2 (Int32.toNatClampNeg z129) z132 = f133 at hP hD
            have ef133 := h134E
            have Ef133 := lf_stL ef133 (lf_raL J34_a2) Ez129 Ez132
            refine lv_aload_n hx hb dX10_stands_55 rfl (lv_at hl 0 rfl) ?_
            refine k_get C0 fg_X10_127 hP 0 rfl rfl dX10_stands_56 ?_
            refine lv_bipush (v := 24) hx hb dX10_stands_59 rfl ?_
            refine lv_iload_n hx hb dX10_stands_61 rfl (lv_at hl 1 rfl) ?_
            refine lv_iadd hx hb dX10_stands_62 ?_
            as_aux_lemma =>
              refine lv_topi (fun z135 ez135 => ?_)
              obtain rfl : z129 = z135 := ez129.trans ez135.symm
              refine lv_aload_n hx hb dX10_stands_63 rfl (lv_at hl 0 rfl) ?_
              refine k_get C0 fg_X10_127 hP 0 rfl rfl dX10_stands_64 ?_
              refine lv_iload_n hx hb dX10_stands_67 rfl (lv_at hl 1 rfl) ?_
              refine va_iald hx hb C0.2.2.2.2.2.1 hP 3 0 rfl rfl (ib_in 48 h128 rfl) dX10_stands_68 ?_
              refine lv_topi (fun z136 ez136 => ?_)
              have h137 : Int32.toNatClampNeg J34_l1 % 2 = 0 → ib z136 0 5 := fun q => by rw [ez136]; exact ip_at hJ34_a3p (ib_in 48 h128 rfl) q
              have Ez136 := lf_ld ez136 (lf_ra J34_a3) (lf_rf J34_l1)
              refine va_iast hx hb C0.2.2.2.2.2.1 hP hD hS 3 0 rfl rfl (ib_in 48 h131 rfl) dX10_stands_69 (fun H locs hP hD hS => ?_)
              have h139 := ip_upd (x := z136) hJ34_a3p (Int32.toNatClampNeg z129) (fun q => h137 (by have q2 : (Int32.toInt z129).toNat % 2 = 0 := q; show (Int32.toInt J34_l1).toNat % 2 = 0; have := (h128).1; have := (h128).2; have := (h131).1; have := (h131).2; have := h130.2; have : (24 : Int32).toInt = 24 := rfl; omega))
              replace hP : va_P (dC, dI) vwCl [(a_this, .inr (10, mfs rm x_taped x_at x_end x_ended x_bad x_badPlace x_fault x_faultPlace x_namePlace x_awayTold x_away x_coded x_statements 1 x_textKind x_askSecond x_redMany x_isOpen x_lastGreen x_greenTo x_isCycleGreen x_stillGreen x_rowMany x_fitMany x_fitRules x_fitGreen x_undoable x_newest x_seeded x_qCoded x_qWaits x_qOpened x_qBase x_qPiled x_qAnswer x_qIsNew x_octets)), (wi_rm41_0_4_0 rm cy J34_a1), (wi_rm42_1_48_1 rm cy f133), (wi_rm46_0_48_0 rm cy (upd J34_a3 (Int32.toNatClampNeg z129) z136)), (wi_rm43_0_8_0 rm cy g_bar), (wi_rm44_0_24_0 rm cy g_kinds), (wi_rm49_0_6_0 rm cy g_codeFrom), (wi_rm50_0_6_0 rm cy g_codeEnd), (wi_rm56_0_9_0 rm cy g_now), (wi_rm51_0_3200_0 rm cy g_codes), (wi_rm45_0_6_0 rm cy g_trusted)] H := hP
              replace hD := k_D hP hD
              generalize h140E : upd J34_a3 (Int32.toNatClampNeg z129) z136 = f138 at hP hD h139
              have ef138 := h140E
              have Ef138 := lf_st ef138 (lf_ra J34_a3) Ez129 Ez136
              obtain ⟨z141, ez141⟩ : ∃ y : Int32, y = J34_l1 + 1 := ⟨_, rfl⟩
              refine lv_iinc (v := z141) (lv' := [(1, .int z141), (0, .ref a_this)]) hx hb dX10_stands_70 hl (k := 1) rfl (by rw [ez141]; rfl) (Nat.le_of_ble_eq_true rfl) rfl (fun ls hl => ?_)
              have h142 := ib_add h128 (ib_c 1 1 1 rfl) rfl
              rw [← ez141] at h142
              have h143 : ib z141 1 24 := ib_w 1 24 h142.1 rfl
              have Ez141 := lf_add h142.2 (lf_rf J34_l1) (lf_lc 1 (1 : Int) rfl)
              refine lv_goto (tgt := 34) hx hb dX10_stands_73 rfl ?_
              exact ih34 J34_a1 z141 f133 f138 H locs ls (ib_w 0 6 hJ34_a1_0 rfl) (ib_w 0 12 hJ34_a1_1 rfl) (ib_w 0 6 hJ34_a1_2 rfl) (ib_w 0 12 hJ34_a1_3 rfl) (ib_w 0 24 h143 rfl) hJ34_a1 h139 (by rw [← hK34]; rw [lf_u Ez141]; rw [lf_uaL Ef133]; rw [lf_ua Ef138]; exact hq) (by have := h142.2; have : (1 : Int32).toInt = 1 := rfl; omega) hP hD hS (lv_sub hl [1, 0] rfl)
  refine lv_aload_n hx hb dX10_stands_0 rfl (lv_at hl 0 rfl) ?_
  refine lv_iconst (v := 1) hx hb dX10_stands_1 rfl ?_
  refine k_put C0 fp_X10_417 hP hD hS 0 rfl (k_nb 1 rfl) (k_fb 1 (by decide)) (Nat.le_of_ble_eq_true rfl) dX10_stands_2 (fun H locs hP hD hS => ?_)
  replace hP : va_P (dC, dI) vwCl [(a_this, .inr (10, mfs rm x_taped x_at x_end x_ended x_bad x_badPlace x_fault x_faultPlace x_namePlace x_awayTold x_away x_coded x_statements 1 x_textKind x_askSecond x_redMany x_isOpen x_lastGreen x_greenTo x_isCycleGreen x_stillGreen x_rowMany x_fitMany x_fitRules x_fitGreen x_undoable x_newest x_seeded x_qCoded x_qWaits x_qOpened x_qBase x_qPiled x_qAnswer x_qIsNew x_octets)), (wi_rm41_0_4_0 rm cy g_many), (wi_rm42_1_48_1 rm cy g_names), (wi_rm46_0_48_0 rm cy g_walkers), (wi_rm43_0_8_0 rm cy g_bar), (wi_rm44_0_24_0 rm cy g_kinds), (wi_rm49_0_6_0 rm cy g_codeFrom), (wi_rm50_0_6_0 rm cy g_codeEnd), (wi_rm56_0_9_0 rm cy g_now), (wi_rm51_0_3200_0 rm cy g_codes), (wi_rm45_0_6_0 rm cy g_trusted)] H := hP
  replace hD := k_D hP hD
  refine lv_iconst (v := 0) hx hb dX10_stands_5 rfl ?_
  refine lv_istore_n (lv' := [(1, .int 0), (0, .ref a_this)]) hx hb dX10_stands_6 rfl hl (Nat.le_of_ble_eq_true rfl) rfl (fun ls hl => ?_)
  refine lv_iload_n hx hb dX10_stands_7 rfl (lv_at hl 0 rfl) ?_
  refine lv_iconst (v := 2) hx hb dX10_stands_8 rfl ?_
  refine lv_icmp_ge (tgt := 32) hx hb dX10_stands_9 rfl (fun h9 => absurd h9 (by decide)) (fun _ => ?_)
  refine lv_aload_n hx hb dX10_stands_12 rfl (lv_at hl 1 rfl) ?_
  refine k_get C0 fg_X10_111 hP 0 rfl rfl dX10_stands_13 ?_
  refine lv_iconst (v := 2) hx hb dX10_stands_16 rfl ?_
  refine lv_iload_n hx hb dX10_stands_17 rfl (lv_at hl 0 rfl) ?_
  refine lv_iadd hx hb dX10_stands_18 ?_
  refine k_topi (y := 2) (by decide) ?_
  refine lv_aload_n hx hb dX10_stands_19 rfl (lv_at hl 1 rfl) ?_
  as_aux_lemma =>
    refine k_get C0 fg_X10_111 hP 0 rfl rfl dX10_stands_20 ?_
    refine lv_iload_n hx hb dX10_stands_23 rfl (lv_at hl 0 rfl) ?_
    refine va_iald hx hb C0.2.2.2.2.2.1 hP 1 0 rfl rfl (k_in 0 4 rfl) dX10_stands_24 ?_
    refine k_topi (y := g_many 0) rfl ?_
    refine va_iast hx hb C0.2.2.2.2.2.1 hP hD hS 1 0 rfl rfl (k_in 2 4 rfl) dX10_stands_25 (fun H locs hP hD hS => ?_)
    have h145 := ia_upd hg_many 2 (ib_w 0 12 hg_many_0 rfl)
    have h146 : ib ((upd g_many 2 (g_many 0)) 0) 0 6 := by rw [pk_un (by decide)]; exact hg_many_0
    have h147 : ib ((upd g_many 2 (g_many 0)) 1) 0 12 := by rw [pk_un (by decide)]; exact hg_many_1
    have h148 : ib ((upd g_many 2 (g_many 0)) 2) 0 6 := by rw [pk_us]; exact hg_many_0
    have h149 : ib ((upd g_many 2 (g_many 0)) 3) 0 12 := by rw [pk_un (by decide)]; exact hg_many_3
    replace hP : va_P (dC, dI) vwCl [(a_this, .inr (10, mfs rm x_taped x_at x_end x_ended x_bad x_badPlace x_fault x_faultPlace x_namePlace x_awayTold x_away x_coded x_statements 1 x_textKind x_askSecond x_redMany x_isOpen x_lastGreen x_greenTo x_isCycleGreen x_stillGreen x_rowMany x_fitMany x_fitRules x_fitGreen x_undoable x_newest x_seeded x_qCoded x_qWaits x_qOpened x_qBase x_qPiled x_qAnswer x_qIsNew x_octets)), (wi_rm41_0_4_0 rm cy (upd g_many 2 (g_many 0))), (wi_rm42_1_48_1 rm cy g_names), (wi_rm46_0_48_0 rm cy g_walkers), (wi_rm43_0_8_0 rm cy g_bar), (wi_rm44_0_24_0 rm cy g_kinds), (wi_rm49_0_6_0 rm cy g_codeFrom), (wi_rm50_0_6_0 rm cy g_codeEnd), (wi_rm56_0_9_0 rm cy g_now), (wi_rm51_0_3200_0 rm cy g_codes), (wi_rm45_0_6_0 rm cy g_trusted)] H := hP
    replace hD := k_D hP hD
    generalize h150E : upd g_many 2 (g_many 0) = f144 at hP hD h145 h146 h147 h148 h149
    have ef144 := h150E
    have Ef144 := lf_stn (X := (2 : Int)) ef144 (lf_ra g_many) rfl (lf_pt (lf_ra g_many) 0)
    refine lv_iinc (v := 1) (lv' := [(1, .int 1), (0, .ref a_this)]) hx hb dX10_stands_26 hl (k := 0) rfl (by decide) (Nat.le_of_ble_eq_true rfl) rfl (fun ls hl => ?_)
    refine lv_goto (tgt := 7) hx hb dX10_stands_29 rfl ?_
    refine lv_iload_n hx hb dX10_stands_7 rfl (lv_at hl 0 rfl) ?_
    refine lv_iconst (v := 2) hx hb dX10_stands_8 rfl ?_
    refine lv_icmp_ge (tgt := 32) hx hb dX10_stands_9 rfl (fun h9 => absurd h9 (by decide)) (fun _ => ?_)
    refine lv_aload_n hx hb dX10_stands_12 rfl (lv_at hl 1 rfl) ?_
    refine k_get C0 fg_X10_111 hP 0 rfl rfl dX10_stands_13 ?_
    refine lv_iconst (v := 2) hx hb dX10_stands_16 rfl ?_
    refine lv_iload_n hx hb dX10_stands_17 rfl (lv_at hl 0 rfl) ?_
    refine lv_iadd hx hb dX10_stands_18 ?_
    refine k_topi (y := 3) (by decide) ?_
    refine lv_aload_n hx hb dX10_stands_19 rfl (lv_at hl 1 rfl) ?_
    refine k_get C0 fg_X10_111 hP 0 rfl rfl dX10_stands_20 ?_
    refine lv_iload_n hx hb dX10_stands_23 rfl (lv_at hl 0 rfl) ?_
    refine va_iald hx hb C0.2.2.2.2.2.1 hP 1 0 rfl rfl (k_in 1 4 rfl) dX10_stands_24 ?_
    as_aux_lemma =>
      refine k_topi (y := f144 1) rfl ?_
      refine va_iast hx hb C0.2.2.2.2.2.1 hP hD hS 1 0 rfl rfl (k_in 3 4 rfl) dX10_stands_25 (fun H locs hP hD hS => ?_)
      have h152 := ia_upd h145 3 (ib_w 0 12 h147 rfl)
      have h153 : ib ((upd f144 3 (f144 1)) 0) 0 6 := by rw [pk_un (by decide)]; exact h146
      have h154 : ib ((upd f144 3 (f144 1)) 1) 0 12 := by rw [pk_un (by decide)]; exact h147
      have h155 : ib ((upd f144 3 (f144 1)) 2) 0 6 := by rw [pk_un (by decide)]; exact h148
      have h156 : ib ((upd f144 3 (f144 1)) 3) 0 12 := by rw [pk_us]; exact h147
      replace hP : va_P (dC, dI) vwCl [(a_this, .inr (10, mfs rm x_taped x_at x_end x_ended x_bad x_badPlace x_fault x_faultPlace x_namePlace x_awayTold x_away x_coded x_statements 1 x_textKind x_askSecond x_redMany x_isOpen x_lastGreen x_greenTo x_isCycleGreen x_stillGreen x_rowMany x_fitMany x_fitRules x_fitGreen x_undoable x_newest x_seeded x_qCoded x_qWaits x_qOpened x_qBase x_qPiled x_qAnswer x_qIsNew x_octets)), (wi_rm41_0_4_0 rm cy (upd f144 3 (f144 1))), (wi_rm42_1_48_1 rm cy g_names), (wi_rm46_0_48_0 rm cy g_walkers), (wi_rm43_0_8_0 rm cy g_bar), (wi_rm44_0_24_0 rm cy g_kinds), (wi_rm49_0_6_0 rm cy g_codeFrom), (wi_rm50_0_6_0 rm cy g_codeEnd), (wi_rm56_0_9_0 rm cy g_now), (wi_rm51_0_3200_0 rm cy g_codes), (wi_rm45_0_6_0 rm cy g_trusted)] H := hP
      replace hD := k_D hP hD
      generalize h157E : upd f144 3 (f144 1) = f151 at hP hD h152 h153 h154 h155 h156
      have ef151 := h157E
      have Ef151 := lf_stn (X := (3 : Int)) ef151 Ef144 rfl (lf_pt Ef144 1)
      refine lv_iinc (v := 2) (lv' := [(1, .int 2), (0, .ref a_this)]) hx hb dX10_stands_26 hl (k := 0) rfl (by decide) (Nat.le_of_ble_eq_true rfl) rfl (fun ls hl => ?_)
      refine lv_goto (tgt := 7) hx hb dX10_stands_29 rfl ?_
      refine lv_iload_n hx hb dX10_stands_7 rfl (lv_at hl 0 rfl) ?_
      refine lv_iconst (v := 2) hx hb dX10_stands_8 rfl ?_
      refine lv_icmp_ge (tgt := 32) hx hb dX10_stands_9 rfl (fun _ => ?_) (fun h9 => absurd (by decide) h9)
      refine lv_iconst (v := 0) hx hb dX10_stands_32 rfl ?_
      refine lv_istore_n (lv' := [(1, .int 0), (0, .ref a_this)]) hx hb dX10_stands_33 rfl hl (Nat.le_of_ble_eq_true rfl) rfl (fun ls hl => ?_)
      exact jn34 26 f151 0 g_names g_walkers H locs ls (ib_w 0 6 h153 rfl) (ib_w 0 12 h154 rfl) (ib_w 0 6 h155 rfl) (ib_w 0 12 h156 rfl) (ib_w 0 24 (ib_c 0 0 0 rfl) rfl) h152 hpg_walkers (by rw [lf_ua Ef151]; try simp only [show (0 : Int32).toInt = (0 : Int) from rfl]; exact hq) (by have := (ib_c 0 0 0 rfl); unfold ib at this; omega) hP hD hS (lv_sub hl [1, 0] rfl)
