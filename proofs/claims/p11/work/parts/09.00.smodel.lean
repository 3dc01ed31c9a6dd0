set_option maxHeartbeats 4000000 in
set_option maxRecDepth 100000 in
theorem s_X10_kindOf (l : Launch) (dC : Nat → ClassId) (dI : Nat → Nat → Nat) (cy : Nat → ClassId) (sq : Nat → Nat) (a_this : Nat) (rm : Nat → Nat) (x_taped : Int32) (x_at : Int32) (x_end : Int32) (x_ended : Int32) (x_bad : Int32) (x_badPlace : Int32) (x_fault : Int32) (x_faultPlace : Int32) (x_namePlace : Int32) (x_awayTold : Int32) (x_away : Int32) (x_coded : Int32) (x_statements : Int32) (x_isCrossing : Int32) (x_textKind : Int32) (x_askSecond : Int32) (x_redMany : Int32) (x_isOpen : Int32) (x_lastGreen : Int32) (x_greenTo : Int32) (x_isCycleGreen : Int32) (x_stillGreen : Int32) (x_rowMany : Int32) (x_fitMany : Int32) (x_fitRules : Int32) (x_fitGreen : Int32) (x_undoable : Int32) (x_newest : Int32) (x_seeded : Int64) (x_qCoded : Int32) (x_qWaits : Int32) (x_qOpened : Int32) (x_qBase : Int32) (x_qPiled : Int32) (x_qAnswer : Int64) (x_qIsNew : Int32) (x_octets : Int32) (g_walkers : Nat → Int32) (p0 : Int32) (hpg_walkers : ip g_walkers 48 2 0 0 5) (hp0 : ib p0 0 11) : k_Met l yX10_kindOf cX10_kindOf 2 (some .int) { frames := 0, cells := 0, slots := 0, locals := 0 } dC dI cy sq [.ref a_this, .int p0] [(a_this, .inr (10, mfs rm x_taped x_at x_end x_ended x_bad x_badPlace x_fault x_faultPlace x_namePlace x_awayTold x_away x_coded x_statements x_isCrossing x_textKind x_askSecond x_redMany x_isOpen x_lastGreen x_greenTo x_isCycleGreen x_stillGreen x_rowMany x_fitMany x_fitRules x_fitGreen x_undoable x_newest x_seeded x_qCoded x_qWaits x_qOpened x_qBase x_qPiled x_qAnswer x_qIsNew x_octets)), (wi_rm46_0_48_0 rm cy g_walkers)] (k_Qi dC dI (fun (r : Int32) (_ : Unit) => ib r 0 5 ∧ (F_X10_kindOf (lf_A g_walkers) (Int32.toInt p0) = ((Int32.toInt r)))) (fun _ : Unit => [(a_this, .inr (10, mfs rm x_taped x_at x_end x_ended x_bad x_badPlace x_fault x_faultPlace x_namePlace x_awayTold x_away x_coded x_statements x_isCrossing x_textKind x_askSecond x_redMany x_isOpen x_lastGreen x_greenTo x_isCycleGreen x_stillGreen x_rowMany x_fitMany x_fitRules x_fitGreen x_undoable x_newest x_seeded x_qCoded x_qWaits x_qOpened x_qBase x_qPiled x_qAnswer x_qIsNew x_octets)), (wi_rm46_0_48_0 rm cy g_walkers)])) := by
  refine k_ofW2 (by decide +kernel) (Nat.le_of_ble_eq_true rfl) ?_
  intro p e s m below meth c A ls H locs args Q hQ C0 hZ hr hlk hin hP hD hA hS hl
  have C0 : k_cx p s m args c cX10_kindOf 2 RX10 dC dI cy sq := C0
  have hx := C0.1
  have hb := C0.2.1
  have hl : lv_has ls 2 [(0, .ref a_this), (1, .int p0)] := hl
  obtain ⟨O, hO⟩ : ∃ o, o = F_X10_kindOf (lf_A g_walkers) (Int32.toInt p0) := ⟨_, rfl⟩
  have hq := hO
  unfold F_X10_kindOf at hq
  refine lv_aload_n hx hb dX10_kindOf_0 rfl (lv_at hl 0 rfl) ?_
  refine k_get C0 fg_X10_127 hP 0 rfl rfl dX10_kindOf_1 ?_
  refine lv_bipush (v := 24) hx hb dX10_kindOf_4 rfl ?_
  refine lv_iconst (v := 2) hx hb dX10_kindOf_6 rfl ?_
  refine lv_iload_n hx hb dX10_kindOf_7 rfl (lv_at hl 1 rfl) ?_
  refine lv_imul hx hb dX10_kindOf_8 ?_
  refine lv_topi (fun z1 ez1 => ?_)
  have h2 := ib_mul (ib_c 2 2 2 rfl) hp0 rfl
  rw [← ez1] at h2
  have h3 : ib z1 0 22 := ib_w 0 22 h2.1 rfl
  have h4 : z1.toInt = 2 * p0.toInt := by have q0 := h2.2; rw [show (2 : Int32).toInt = 2 from by decide] at q0; omega
  have Ez1 := lf_mul h2.2 (lf_lc 2 (2 : Int) rfl) (lf_rf p0)
  refine lv_iadd hx hb dX10_kindOf_9 ?_
  refine lv_topi (fun z5 ez5 => ?_)
  have h6 := ib_add (ib_c 24 24 24 rfl) h3 rfl
  rw [← ez5] at h6
  have h7 : ib z5 24 46 := ib_w 24 46 h6.1 rfl
  have Ez5 := lf_add h6.2 (lf_lc 24 (24 : Int) rfl) Ez1
  refine va_iald hx hb C0.2.2.2.2.2.1 hP 1 0 rfl rfl (ib_in 48 h7 rfl) dX10_kindOf_10 ?_
  refine lv_topi (fun z8 ez8 => ?_)
  have h9 : Int32.toNatClampNeg z5 % 2 = 0 → ib z8 0 5 := fun q => by rw [ez8]; exact ip_at hpg_walkers (ib_in 48 h7 rfl) q
  have h10 : ib z8 0 5 := h9 (by show (Int32.toInt z5).toNat % 2 = 0; have := (h7).1; have := (h7).2; have := h6.2; have : (24 : Int32).toInt = 24 := rfl; have := (h3).1; have := (h3).2; have := h4; have := (hp0).1; have := (hp0).2; omega)
  have Ez8 := lf_ld ez8 (lf_ra g_walkers) Ez5
  subst hQ; exact k_iret hx hb hr hlk rfl () hS ⟨ib_w 0 5 h10 rfl, (hO.symm.trans (by rw [lf_u Ez8]; exact hq))⟩ hP hD (Nat.le_of_ble_eq_true rfl) (Nat.le_of_ble_eq_true rfl) dX10_kindOf_11
set_option maxHeartbeats 4000000 in
set_option maxRecDepth 100000 in
theorem s_X10_paceOf (l : Launch) (dC : Nat → ClassId) (dI : Nat → Nat → Nat) (cy : Nat → ClassId) (sq : Nat → Nat) (a_this : Nat) (rm : Nat → Nat) (x_taped : Int32) (x_at : Int32) (x_end : Int32) (x_ended : Int32) (x_bad : Int32) (x_badPlace : Int32) (x_fault : Int32) (x_faultPlace : Int32) (x_namePlace : Int32) (x_awayTold : Int32) (x_away : Int32) (x_coded : Int32) (x_statements : Int32) (x_isCrossing : Int32) (x_textKind : Int32) (x_askSecond : Int32) (x_redMany : Int32) (x_isOpen : Int32) (x_lastGreen : Int32) (x_greenTo : Int32) (x_isCycleGreen : Int32) (x_stillGreen : Int32) (x_rowMany : Int32) (x_fitMany : Int32) (x_fitRules : Int32) (x_fitGreen : Int32) (x_undoable : Int32) (x_newest : Int32) (x_seeded : Int64) (x_qCoded : Int32) (x_qWaits : Int32) (x_qOpened : Int32) (x_qBase : Int32) (x_qPiled : Int32) (x_qAnswer : Int64) (x_qIsNew : Int32) (x_octets : Int32) (g_kinds : Nat → Int32) (g_walkers : Nat → Int32) (p0 : Int32) (hpg_walkers : ip g_walkers 48 2 0 0 5) (hp0 : ib p0 0 11) : k_Met l yX10_paceOf cX10_paceOf 2 (some .int) { frames := 1, cells := 0, slots := 0, locals := 21 } dC dI cy sq [.ref a_this, .int p0] [(a_this, .inr (10, mfs rm x_taped x_at x_end x_ended x_bad x_badPlace x_fault x_faultPlace x_namePlace x_awayTold x_away x_coded x_statements x_isCrossing x_textKind x_askSecond x_redMany x_isOpen x_lastGreen x_greenTo x_isCycleGreen x_stillGreen x_rowMany x_fitMany x_fitRules x_fitGreen x_undoable x_newest x_seeded x_qCoded x_qWaits x_qOpened x_qBase x_qPiled x_qAnswer x_qIsNew x_octets)), (wi_rm46_0_48_0 rm cy g_walkers), (wi_rm44_0_24_0 rm cy g_kinds)] (k_Qi dC dI (fun (r : Int32) (_ : Unit) => (F_X10_paceOf (lf_A g_kinds) (lf_A g_walkers) (Int32.toInt p0) = ((Int32.toInt r)))) (fun _ : Unit => [(a_this, .inr (10, mfs rm x_taped x_at x_end x_ended x_bad x_badPlace x_fault x_faultPlace x_namePlace x_awayTold x_away x_coded x_statements x_isCrossing x_textKind x_askSecond x_redMany x_isOpen x_lastGreen x_greenTo x_isCycleGreen x_stillGreen x_rowMany x_fitMany x_fitRules x_fitGreen x_undoable x_newest x_seeded x_qCoded x_qWaits x_qOpened x_qBase x_qPiled x_qAnswer x_qIsNew x_octets)), (wi_rm46_0_48_0 rm cy g_walkers), (wi_rm44_0_24_0 rm cy g_kinds)])) := by
  refine k_ofW2 (by decide +kernel) (Nat.le_of_ble_eq_true rfl) ?_
  intro p e s m below meth c A ls H locs args Q hQ C0 hZ hr hlk hin hP hD hA hS hl
  have C0 : k_cx p s m args c cX10_paceOf 2 RX10 dC dI cy sq := C0
  have hx := C0.1
  have hb := C0.2.1
  have hl : lv_has ls 2 [(0, .ref a_this), (1, .int p0)] := hl
  obtain ⟨O, hO⟩ : ∃ o, o = F_X10_paceOf (lf_A g_kinds) (lf_A g_walkers) (Int32.toInt p0) := ⟨_, rfl⟩
  have hq := hO
  unfold F_X10_paceOf at hq
  refine lv_aload_n hx hb dX10_paceOf_0 rfl (lv_at hl 0 rfl) ?_
  refine k_get C0 fg_X10_121 hP 0 rfl rfl dX10_paceOf_1 ?_
  refine lv_bipush (v := 13) hx hb dX10_paceOf_4 rfl ?_
  refine lv_iconst (v := 2) hx hb dX10_paceOf_6 rfl ?_
  refine lv_aload_n hx hb dX10_paceOf_7 rfl (lv_at hl 0 rfl) ?_
  refine lv_iload_n hx hb dX10_paceOf_8 rfl (lv_at hl 1 rfl) ?_
  refine k_jim hP hD hS hA [0, 1] [false, false, true] rfl rfl rfl 0 0 (Nat.le_of_ble_eq_true rfl) (Nat.le_of_ble_eq_true rfl) (fun hPc hDc => k_runV (As := [.int p0]) (rest := [.int 2, .int 13, .ref (rm 44)]) C0 hZ hS hA (s_X10_kindOf l dC dI cy sq a_this rm x_taped x_at x_end x_ended x_bad x_badPlace x_fault x_faultPlace x_namePlace x_awayTold x_away x_coded x_statements x_isCrossing x_textKind x_askSecond x_redMany x_isOpen x_lastGreen x_greenTo x_isCycleGreen x_stillGreen x_rowMany x_fitMany x_fitRules x_fitGreen x_undoable x_newest x_seeded x_qCoded x_qWaits x_qOpened x_qBase x_qPiled x_qAnswer x_qIsNew x_octets g_walkers p0 hpg_walkers (ib_w 0 11 hp0 rfl)) mV_X10_436 hPc hDc rfl rfl rfl hl rfl rfl (Nat.le_of_ble_eq_true rfl) ⟨(Nat.le_of_ble_eq_true rfl), (Nat.le_of_ble_eq_true rfl)⟩ ⟨(Nat.le_of_ble_eq_true rfl), (Nat.le_of_ble_eq_true rfl)⟩ dX10_paceOf_9) (fun r1 u2 H locs hw hP hD hS => ?_)
  try dsimp only at hP hD hw
  replace hP : va_P (dC, dI) vwCl [(wi_rm44_0_24_0 rm cy g_kinds), (a_this, .inr (10, mfs rm x_taped x_at x_end x_ended x_bad x_badPlace x_fault x_faultPlace x_namePlace x_awayTold x_away x_coded x_statements x_isCrossing x_textKind x_askSecond x_redMany x_isOpen x_lastGreen x_greenTo x_isCycleGreen x_stillGreen x_rowMany x_fitMany x_fitRules x_fitGreen x_undoable x_newest x_seeded x_qCoded x_qWaits x_qOpened x_qBase x_qPiled x_qAnswer x_qIsNew x_octets)), (wi_rm46_0_48_0 rm cy g_walkers)] H := hP
  replace hD := k_D hP hD
  obtain ⟨h3, h4⟩ := hw
  replace hq := lf_b1 hq h4
  refine lv_imul hx hb dX10_paceOf_12 ?_
  refine lv_topi (fun z5 ez5 => ?_)
  have h6 := ib_mul (ib_c 2 2 2 rfl) h3 rfl
  rw [← ez5] at h6
  have h7 : ib z5 0 10 := ib_w 0 10 h6.1 rfl
  have h8 : z5.toInt = 2 * r1.toInt := by have q0 := h6.2; rw [show (2 : Int32).toInt = 2 from by decide] at q0; omega
  have Ez5 := lf_mul h6.2 (lf_lc 2 (2 : Int) rfl) (lf_rf r1)
  refine lv_iadd hx hb dX10_paceOf_13 ?_
  refine lv_topi (fun z9 ez9 => ?_)
  have h10 := ib_add (ib_c 13 13 13 rfl) h7 rfl
  rw [← ez9] at h10
  have h11 : ib z9 13 23 := ib_w 13 23 h10.1 rfl
  have Ez9 := lf_add h10.2 (lf_lc 13 (13 : Int) rfl) Ez5
  refine va_iald hx hb C0.2.2.2.2.2.1 hP 0 0 rfl rfl (ib_in 24 h11 rfl) dX10_paceOf_14 ?_
  refine lv_topi (fun z12 ez12 => ?_)
  have Ez12 := lf_ld ez12 (lf_ra g_kinds) Ez9
  subst hQ; exact k_iret hx hb hr hlk rfl () hS ((hO.symm.trans (by rw [lf_u Ez12]; exact hq))) (hP.sub [1, 2, 0] rfl) (hD.sub [1, 2, 0] rfl rfl) (Nat.le_of_ble_eq_true rfl) (Nat.le_of_ble_eq_true rfl) dX10_paceOf_15
set_option maxHeartbeats 4000000 in
set_option maxRecDepth 100000 in
theorem s_X10_qClip (l : Launch) (dC : Nat → ClassId) (dI : Nat → Nat → Nat) (cy : Nat → ClassId) (sq : Nat → Nat) (p0 : Int64)  : k_Met l yX10_qClip cX10_qClip 2 (some .long) { frames := 0, cells := 0, slots := 0, locals := 0 } dC dI cy sq [.long p0] [] (k_Ql dC dI (fun (r : Int64) (_ : Unit) => (F_X10_qClip (Int64.toInt p0) = ((Int64.toInt r)))) (fun _ : Unit => [])) := by
  refine k_ofW2 (by decide +kernel) (Nat.le_of_ble_eq_true rfl) ?_
  intro p e s m below meth c A ls H locs args Q hQ C0 hZ hr hlk hin hP hD hA hS hl
  have C0 : k_cx p s m args c cX10_qClip 2 RX10 dC dI cy sq := C0
  have hx := C0.1
  have hb := C0.2.1
  have hl : lv_has ls 2 [(0, .long p0)] := hl
  obtain ⟨O, hO⟩ : ∃ o, o = F_X10_qClip (Int64.toInt p0) := ⟨_, rfl⟩
  have hq := hO
  unfold F_X10_qClip at hq
  refine lv_lload_n hx hb dX10_qClip_0 rfl (lv_at hl 0 rfl) ?_
  refine lv_ldc2 hx hb C0.2.2.2.1 (C0.2.2.2.2.1 _ wd956) dX10_qClip_1 ?_
  refine W.lcmp hx hb dX10_qClip_4 ?_
  refine lv_topi (fun z1 ez1 => ?_)
  have h2 : ib z1 (-1) 1 := by rw [ez1]; exact ib_cmp _ _
  have Ez1 := lf_cmpe ez1 (lf_rl p0) (lf_ll 1000000 (1000000 : Int) rfl)
  refine lv_if_le (tgt := 14) hx hb dX10_qClip_5 rfl (fun c3 => ?_) (fun c3 => ?_)
  · replace hq := lf_pos hq (lf_le Ez1 (lf_lc 0 (0 : Int) rfl) c3)
    have h4 := ib_le h2 (ib_c 0 0 0 rfl) c3
    have h5 : ib z1 (-1) 0 := ib_w (-1) 0 h4.1 rfl
    refine lv_lload_n hx hb dX10_qClip_14 rfl (lv_at hl 0 rfl) ?_
    refine lv_ldc2 hx hb C0.2.2.2.1 (C0.2.2.2.2.1 _ wd957) dX10_qClip_15 ?_
    refine W.lcmp hx hb dX10_qClip_18 ?_
    refine lv_topi (fun z6 ez6 => ?_)
    have h7 : ib z6 (-1) 1 := by rw [ez6]; exact ib_cmp _ _
    have Ez6 := lf_cmpe ez6 (lf_rl p0) (lf_ll (-1000000) (-1000000 : Int) rfl)
    refine lv_if_ge (tgt := 28) hx hb dX10_qClip_19 rfl (fun c8 => ?_) (fun c8 => ?_)
    · replace hq := lf_pos hq (lf_le (lf_lc 0 (0 : Int) rfl) Ez6 c8)
      have h9 := ib_le (ib_c 0 0 0 rfl) h7 c8
      have h10 : ib z6 0 1 := ib_w 0 1 h9.2 rfl
      refine lv_lload_n hx hb dX10_qClip_28 rfl (lv_at hl 0 rfl) ?_
      subst hQ; exact k_lret hx hb hr hlk () hS ((hO.symm.trans (by exact hq))) hP hD (Nat.le_of_ble_eq_true rfl) (Nat.le_of_ble_eq_true rfl) dX10_qClip_29
    · replace hq := lf_neg hq (lf_nle (lf_lc 0 (0 : Int) rfl) Ez6 c8)
      have h11 := ib_nle (ib_c 0 0 0 rfl) h7 c8
      have h12 : ib z6 (-1) (-1) := ib_w (-1) (-1) h11.2 rfl
      refine lv_ldc2 hx hb C0.2.2.2.1 (C0.2.2.2.2.1 _ wd957) dX10_qClip_22 ?_
      refine lv_goto (tgt := 29) hx hb dX10_qClip_25 rfl ?_
      subst hQ; exact k_lret hx hb hr hlk () hS ((hO.symm.trans (by try simp only [show ((-1000000) : Int64).toInt = (-1000000 : Int) from rfl]; exact hq))) hP hD (Nat.le_of_ble_eq_true rfl) (Nat.le_of_ble_eq_true rfl) dX10_qClip_29
  · replace hq := lf_neg hq (lf_nle Ez1 (lf_lc 0 (0 : Int) rfl) c3)
    have h13 := ib_nle h2 (ib_c 0 0 0 rfl) c3
    have h14 : ib z1 1 1 := ib_w 1 1 h13.1 rfl
    refine lv_ldc2 hx hb C0.2.2.2.1 (C0.2.2.2.2.1 _ wd956) dX10_qClip_8 ?_
    refine lv_goto (tgt := 29) hx hb dX10_qClip_11 rfl ?_
    subst hQ; exact k_lret hx hb hr hlk () hS ((hO.symm.trans (by try simp only [show (1000000 : Int64).toInt = (1000000 : Int) from rfl]; exact hq))) hP hD (Nat.le_of_ble_eq_true rfl) (Nat.le_of_ble_eq_true rfl) dX10_qClip_29
set_option maxHeartbeats 4000000 in
set_option maxRecDepth 100000 in
theorem s_X10_qPuts (l : Launch) (dC : Nat → ClassId) (dI : Nat → Nat → Nat) (cy : Nat → ClassId) (sq : Nat → Nat) (a_this : Nat) (rm : Nat → Nat) (x_taped : Int32) (x_at : Int32) (x_end : Int32) (x_ended : Int32) (x_bad : Int32) (x_badPlace : Int32) (x_fault : Int32) (x_faultPlace : Int32) (x_namePlace : Int32) (x_awayTold : Int32) (x_away : Int32) (x_coded : Int32) (x_statements : Int32) (x_isCrossing : Int32) (x_textKind : Int32) (x_askSecond : Int32) (x_redMany : Int32) (x_isOpen : Int32) (x_lastGreen : Int32) (x_greenTo : Int32) (x_isCycleGreen : Int32) (x_stillGreen : Int32) (x_rowMany : Int32) (x_fitMany : Int32) (x_fitRules : Int32) (x_fitGreen : Int32) (x_undoable : Int32) (x_newest : Int32) (x_seeded : Int64) (x_qCoded : Int32) (x_qWaits : Int32) (x_qOpened : Int32) (x_qBase : Int32) (x_qPiled : Int32) (x_qAnswer : Int64) (x_qIsNew : Int32) (x_octets : Int32) (g_qPile : Nat → Int64) (p0 : Int64) (hx_qPiled : ib x_qPiled 0 1699) : k_Met l yX10_qPuts cX10_qPuts 3 none { frames := 0, cells := 0, slots := 0, locals := 0 } dC dI cy sq [.ref a_this, .long p0] [(a_this, .inr (10, mfs rm x_taped x_at x_end x_ended x_bad x_badPlace x_fault x_faultPlace x_namePlace x_awayTold x_away x_coded x_statements x_isCrossing x_textKind x_askSecond x_redMany x_isOpen x_lastGreen x_greenTo x_isCycleGreen x_stillGreen x_rowMany x_fitMany x_fitRules x_fitGreen x_undoable x_newest x_seeded x_qCoded x_qWaits x_qOpened x_qBase x_qPiled x_qAnswer x_qIsNew x_octets)), (wi_rm116_1_1700_1 rm cy g_qPile)] (k_Qv dC dI (fun (u : Int32 × (Nat → Int64)) => match u with | (n0, n1) => ib n0 1 1700 ∧ n0.toInt = x_qPiled.toInt + 1 ∧ (F_X10_qPuts (Int32.toInt x_qPiled) (lf_L g_qPile) (Int64.toInt p0) = ((Int32.toInt n0), (lf_L n1)))) (fun u : Int32 × (Nat → Int64) => match u with | (n0, n1) => [(a_this, .inr (10, mfs rm x_taped x_at x_end x_ended x_bad x_badPlace x_fault x_faultPlace x_namePlace x_awayTold x_away x_coded x_statements x_isCrossing x_textKind x_askSecond x_redMany x_isOpen x_lastGreen x_greenTo x_isCycleGreen x_stillGreen x_rowMany x_fitMany x_fitRules x_fitGreen x_undoable x_newest x_seeded x_qCoded x_qWaits x_qOpened x_qBase n0 x_qAnswer x_qIsNew x_octets)), (wi_rm116_1_1700_1 rm cy n1)])) := by
  refine k_ofW2 (by decide +kernel) (Nat.le_of_ble_eq_true rfl) ?_
  intro p e s m below meth c A ls H locs args Q hQ C0 hZ hr hlk hin hP hD hA hS hl
  have C0 : k_cx p s m args c cX10_qPuts 3 RX10 dC dI cy sq := C0
  have hx := C0.1
  have hb := C0.2.1
  have hl : lv_has ls 3 [(0, .ref a_this), (1, .long p0)] := hl
  obtain ⟨O, hO⟩ : ∃ o, o = F_X10_qPuts (Int32.toInt x_qPiled) (lf_L g_qPile) (Int64.toInt p0) := ⟨_, rfl⟩
  have hq := hO
  unfold F_X10_qPuts at hq
  refine lv_aload_n hx hb dX10_qPuts_0 rfl (lv_at hl 0 rfl) ?_
  refine k_get C0 fg_X10_270 hP 0 rfl rfl dX10_qPuts_1 ?_
  refine lv_aload_n hx hb dX10_qPuts_4 rfl (lv_at hl 0 rfl) ?_
  refine k_get C0 fg_X10_440 hP 0 rfl rfl dX10_qPuts_5 ?_
  refine lv_lload_n hx hb dX10_qPuts_8 rfl (lv_at hl 1 rfl) ?_
  refine va_last hx hb C0.2.2.2.2.2.1 hP hD hS 1 1 rfl rfl (ib_in 1700 hx_qPiled rfl) dX10_qPuts_9 (fun H locs hP hD hS => ?_)
  replace hP : va_P (dC, dI) vwCl [(a_this, .inr (10, mfs rm x_taped x_at x_end x_ended x_bad x_badPlace x_fault x_faultPlace x_namePlace x_awayTold x_away x_coded x_statements x_isCrossing x_textKind x_askSecond x_redMany x_isOpen x_lastGreen x_greenTo x_isCycleGreen x_stillGreen x_rowMany x_fitMany x_fitRules x_fitGreen x_undoable x_newest x_seeded x_qCoded x_qWaits x_qOpened x_qBase x_qPiled x_qAnswer x_qIsNew x_octets)), (wi_rm116_1_1700_1 rm cy (vp_updL g_qPile (Int32.toNatClampNeg x_qPiled) p0))] H := hP
  replace hD := k_D hP hD
  generalize h2E : vp_updL g_qPile (Int32.toNatClampNeg x_qPiled) p0 = f1 at hP hD
  have ef1 := h2E
  have Ef1 := lf_stL ef1 (lf_raL g_qPile) (lf_rf x_qPiled) (lf_rl p0)
  refine lv_aload_n hx hb dX10_qPuts_10 rfl (lv_at hl 0 rfl) ?_
  refine lv_dup hx hb dX10_qPuts_11 rfl ?_
  refine k_get C0 fg_X10_440 hP 0 rfl rfl dX10_qPuts_12 ?_
  refine lv_iconst (v := 1) hx hb dX10_qPuts_15 rfl ?_
  refine lv_iadd hx hb dX10_qPuts_16 ?_
  refine lv_topi (fun z3 ez3 => ?_)
  have h4 := ib_add hx_qPiled (ib_c 1 1 1 rfl) rfl
  rw [← ez3] at h4
  have h5 : ib z3 1 1700 := ib_w 1 1700 h4.1 rfl
  have Ez3 := lf_add h4.2 (lf_rf x_qPiled) (lf_lc 1 (1 : Int) rfl)
  refine k_put C0 fp_X10_440 hP hD hS 0 rfl rfl rfl (Nat.le_of_ble_eq_true rfl) dX10_qPuts_17 (fun H locs hP hD hS => ?_)
  replace hP : va_P (dC, dI) vwCl [(a_this, .inr (10, mfs rm x_taped x_at x_end x_ended x_bad x_badPlace x_fault x_faultPlace x_namePlace x_awayTold x_away x_coded x_statements x_isCrossing x_textKind x_askSecond x_redMany x_isOpen x_lastGreen x_greenTo x_isCycleGreen x_stillGreen x_rowMany x_fitMany x_fitRules x_fitGreen x_undoable x_newest x_seeded x_qCoded x_qWaits x_qOpened x_qBase z3 x_qAnswer x_qIsNew x_octets)), (wi_rm116_1_1700_1 rm cy f1)] H := hP
  replace hD := k_D hP hD
  subst hQ; exact k_vret hx hb hr hlk ((z3, f1)) hS ⟨ib_w 1 1700 h5 rfl, (by have := (hx_qPiled).1; have := (hx_qPiled).2; have := (h5).1; have := (h5).2; have := h4.2; have : (1 : Int32).toInt = 1 := rfl; omega), (hO.symm.trans (by rw [lf_u Ez3]; rw [lf_uaL Ef1]; exact hq))⟩ hP hD (Nat.le_of_ble_eq_true rfl) (Nat.le_of_ble_eq_true rfl) dX10_qPuts_20
set_option maxHeartbeats 4000000 in
set_option maxRecDepth 100000 in
theorem s_X10_qFloor (l : Launch) (dC : Nat → ClassId) (dI : Nat → Nat → Nat) (cy : Nat → ClassId) (sq : Nat → Nat) (p0 : Int64) (p1 : Int64)  : k_Met l yX10_qFloor cX10_qFloor 6 (some .long) { frames := 0, cells := 0, slots := 0, locals := 0 } dC dI cy sq [.long p0, .long p1] [] (k_Ql dC dI (fun (r : Int64) (_ : Unit) => (F_X10_qFloor (Int64.toInt p0) (Int64.toInt p1) = ((Int64.toInt r)))) (fun _ : Unit => [])) := by
  refine k_ofW2 (by decide +kernel) (Nat.le_of_ble_eq_true rfl) ?_
  intro p e s m below meth c A ls H locs args Q hQ C0 hZ hr hlk hin hP hD hA hS hl
  have C0 : k_cx p s m args c cX10_qFloor 6 RX10 dC dI cy sq := C0
  have hx := C0.1
  have hb := C0.2.1
  have hl : lv_has ls 6 [(0, .long p0), (2, .long p1)] := hl
  obtain ⟨O, hO⟩ : ∃ o, o = F_X10_qFloor (Int64.toInt p0) (Int64.toInt p1) := ⟨_, rfl⟩
  have hq := hO
  unfold F_X10_qFloor at hq
  have jn53 : ∀ (J53_l4 : Int64) (H : Heap) (locs : List Loc) (ls : Array Slot), (O = F_X10_qFloor_53 (Int64.toInt J53_l4)) → va_P (dC, dI) vwCl [] H → va_D A [] → va_S A s.heap H locs → lv_has ls 6 [(0, .long p0), (2, .long p1), (4, .long J53_l4)] → W p l e { frames := 0, cells := 0, slots := 0, locals := 0 } s m args below meth c H locs 0 0 Q (F0 m 53 ls []) := by
    intro J53_l4 H locs ls hq hP hD hS hl
    unfold F_X10_qFloor_53 at hq
    refine lv_lload hx hb dX10_qFloor_53 (lv_at hl 2 rfl) ?_
    subst hQ; exact k_lret hx hb hr hlk () hS ((hO.symm.trans (by exact hq))) hP hD (Nat.le_of_ble_eq_true rfl) (Nat.le_of_ble_eq_true rfl) dX10_qFloor_55
  have jn43 : ∀ (J43_l4 : Int64) (J43_s1 : Int32) (J43_s0 : Int32) (H : Heap) (locs : List Loc) (ls : Array Slot), ib J43_s1 0 1 → ib J43_s0 0 1 → (O = F_X10_qFloor_43 (Int64.toInt J43_l4) (Int32.toInt J43_s1) (Int32.toInt J43_s0)) → va_P (dC, dI) vwCl [] H → va_D A [] → va_S A s.heap H locs → lv_has ls 6 [(0, .long p0), (2, .long p1), (4, .long J43_l4)] → W p l e { frames := 0, cells := 0, slots := 0, locals := 0 } s m args below meth c H locs 0 0 Q (F0 m 43 ls [.int J43_s0, .int J43_s1]) := by
    intro J43_l4 J43_s1 J43_s0 H locs ls hJ43_s1 hJ43_s0 hq hP hD hS hl
    unfold F_X10_qFloor_43 at hq
    refine lv_icmp_eq (tgt := 53) hx hb dX10_qFloor_43 rfl (fun c1 => ?_) (fun c1 => ?_)
    · replace hq := lf_pos hq (lf_eq (lf_rf J43_s1) (lf_rf J43_s0) c1)
      have h2 := ib_eq hJ43_s1 hJ43_s0 c1
      exact jn53 J43_l4 H locs ls (by exact hq) hP hD hS (lv_sub hl [0, 1, 2] rfl)
    · replace hq := lf_neg hq (lf_ne (lf_rf J43_s1) (lf_rf J43_s0) c1)
      refine lv_lload hx hb dX10_qFloor_46 (lv_at hl 2 rfl) ?_
      refine lv_lconst (v := 1) hx hb dX10_qFloor_48 (by decide) ?_
      refine lv_lsub hx hb dX10_qFloor_49 ?_
      refine lv_topl (fun z3 ez3 => ?_)
      have Ez3 := lf_opl lf_lsub ez3 (lf_rl J43_l4) (lf_ll 1 (1 : Int) rfl)
      refine lv_goto (tgt := 55) hx hb dX10_qFloor_50 rfl ?_
      subst hQ; exact k_lret hx hb hr hlk () hS ((hO.symm.trans (by rw [lf_ul Ez3]; exact hq))) hP hD (Nat.le_of_ble_eq_true rfl) (Nat.le_of_ble_eq_true rfl) dX10_qFloor_55
  have jn32 : ∀ (J32_l4 : Int64) (J32_s0 : Int32) (H : Heap) (locs : List Loc) (ls : Array Slot), ib J32_s0 0 1 → (O = F_X10_qFloor_32 (Int64.toInt p1) (Int64.toInt J32_l4) (Int32.toInt J32_s0)) → va_P (dC, dI) vwCl [] H → va_D A [] → va_S A s.heap H locs → lv_has ls 6 [(0, .long p0), (2, .long p1), (4, .long J32_l4)] → W p l e { frames := 0, cells := 0, slots := 0, locals := 0 } s m args below meth c H locs 0 0 Q (F0 m 32 ls [.int J32_s0]) := by
    as_aux_lemma =>
      intro J32_l4 J32_s0 H locs ls hJ32_s0 hq hP hD hS hl
      unfold F_X10_qFloor_32 at hq
      refine lv_lload_n hx hb dX10_qFloor_32 rfl (lv_at hl 1 rfl) ?_
      refine lv_lconst (v := 0) hx hb dX10_qFloor_33 (by decide) ?_
      refine W.lcmp hx hb dX10_qFloor_34 ?_
      refine lv_topi (fun z4 ez4 => ?_)
      have h5 : ib z4 (-1) 1 := by rw [ez4]; exact ib_cmp _ _
      have Ez4 := lf_cmpe ez4 (lf_rl p1) (lf_ll 0 (0 : Int) rfl)
      refine lv_if_ge (tgt := 42) hx hb dX10_qFloor_35 rfl (fun c6 => ?_) (fun c6 => ?_)
      · replace hq := lf_pos hq (lf_le (lf_lc 0 (0 : Int) rfl) Ez4 c6)
        have h7 := ib_le (ib_c 0 0 0 rfl) h5 c6
        have h8 : ib z4 0 1 := ib_w 0 1 h7.2 rfl
        refine lv_iconst (v := 0) hx hb dX10_qFloor_42 rfl ?_
        exact jn43 J32_l4 J32_s0 0 H locs ls (ib_w 0 1 hJ32_s0 rfl) (ib_w 0 1 (ib_c 0 0 0 rfl) rfl) (by try simp only [show (0 : Int32).toInt = (0 : Int) from rfl]; exact hq) hP hD hS (lv_sub hl [0, 1, 2] rfl)
      · replace hq := lf_neg hq (lf_nle (lf_lc 0 (0 : Int) rfl) Ez4 c6)
        have h9 := ib_nle (ib_c 0 0 0 rfl) h5 c6
        have h10 : ib z4 (-1) (-1) := ib_w (-1) (-1) h9.2 rfl
        refine lv_iconst (v := 1) hx hb dX10_qFloor_38 rfl ?_
        refine lv_goto (tgt := 43) hx hb dX10_qFloor_39 rfl ?_
        exact jn43 J32_l4 J32_s0 1 H locs ls (ib_w 0 1 hJ32_s0 rfl) (ib_w 0 1 (ib_c 1 1 1 rfl) rfl) (by try simp only [show (1 : Int32).toInt = (1 : Int) from rfl]; exact hq) hP hD hS (lv_sub hl [0, 1, 2] rfl)
  refine lv_lload_n hx hb dX10_qFloor_0 rfl (lv_at hl 1 rfl) ?_
  refine lv_lconst (v := 0) hx hb dX10_qFloor_1 (by decide) ?_
  refine W.lcmp hx hb dX10_qFloor_2 ?_
  refine lv_topi (fun z11 ez11 => ?_)
  have h12 : ib z11 (-1) 1 := by rw [ez11]; exact ib_cmp _ _
  have Ez11 := lf_cmpe ez11 (lf_rl p1) (lf_ll 0 (0 : Int) rfl)
  refine lv_if_ne (tgt := 8) hx hb dX10_qFloor_3 rfl (fun c13 => ?_) (fun c13 => ?_)
  · as_aux_lemma =>
      replace hq := lf_neg hq (lf_ne Ez11 (lf_lc 0 (0 : Int) rfl) c13)
      refine lv_lload_n hx hb dX10_qFloor_8 rfl (lv_at hl 0 rfl) ?_
      refine lv_lload_n hx hb dX10_qFloor_9 rfl (lv_at hl 1 rfl) ?_
      refine lv_ldiv hx hb dX10_qFloor_10 (fun q9 => c13 (by rw [ez11, q9]; decide)) ?_
      refine lv_topl (fun z14 ez14 => ?_)
      have Ez14 := lf_opl lf_ldiv ez14 (lf_rl p0) (lf_rl p1)
      refine lv_lstore (lv' := [(4, .long z14), (0, .long p0), (2, .long p1)]) hx hb dX10_qFloor_11 hl (Nat.le_of_ble_eq_true rfl) rfl (fun ls hl => ?_)
      refine lv_lload_n hx hb dX10_qFloor_13 rfl (lv_at hl 1 rfl) ?_
      refine lv_lload_n hx hb dX10_qFloor_14 rfl (lv_at hl 2 rfl) ?_
      refine lv_lrem hx hb dX10_qFloor_15 (fun q9 => c13 (by rw [ez11, q9]; decide)) ?_
      refine lv_topl (fun z15 ez15 => ?_)
      have Ez15 := lf_opl lf_lrem (ez15.trans (lf_lremt _ _)) (lf_rl p0) (lf_rl p1)
      refine lv_lconst (v := 0) hx hb dX10_qFloor_16 (by decide) ?_
      refine W.lcmp hx hb dX10_qFloor_17 ?_
      refine lv_topi (fun z16 ez16 => ?_)
      have h17 : ib z16 (-1) 1 := by rw [ez16]; exact ib_cmp _ _
      have Ez16 := lf_cmpe ez16 Ez15 (lf_ll 0 (0 : Int) rfl)
      refine lv_if_eq (tgt := 53) hx hb dX10_qFloor_18 rfl (fun c18 => ?_) (fun c18 => ?_)
      · replace hq := lf_pos hq (lf_eq Ez16 (lf_lc 0 (0 : Int) rfl) c18)
        have h19 := ib_eq h17 (ib_c 0 0 0 rfl) c18
        have h20 : ib z16 0 0 := ib_w 0 0 h19.1 rfl
        exact jn53 z14 H locs ls (by rw [lf_ul Ez14]; exact hq) hP hD hS (lv_sub hl [1, 2, 0] rfl)
      · replace hq := lf_neg hq (lf_ne Ez16 (lf_lc 0 (0 : Int) rfl) c18)
        refine lv_lload_n hx hb dX10_qFloor_21 rfl (lv_at hl 1 rfl) ?_
        refine lv_lconst (v := 0) hx hb dX10_qFloor_22 (by decide) ?_
        refine W.lcmp hx hb dX10_qFloor_23 ?_
        refine lv_topi (fun z21 ez21 => ?_)
        have h22 : ib z21 (-1) 1 := by rw [ez21]; exact ib_cmp _ _
        have Ez21 := lf_cmpe ez21 (lf_rl p0) (lf_ll 0 (0 : Int) rfl)
        refine lv_if_ge (tgt := 31) hx hb dX10_qFloor_24 rfl (fun c23 => ?_) (fun c23 => ?_)
        · replace hq := lf_pos hq (lf_le (lf_lc 0 (0 : Int) rfl) Ez21 c23)
          have h24 := ib_le (ib_c 0 0 0 rfl) h22 c23
          have h25 : ib z21 0 1 := ib_w 0 1 h24.2 rfl
          refine lv_iconst (v := 0) hx hb dX10_qFloor_31 rfl ?_
          exact jn32 z14 0 H locs ls (ib_w 0 1 (ib_c 0 0 0 rfl) rfl) (by rw [lf_ul Ez14]; try simp only [show (0 : Int32).toInt = (0 : Int) from rfl]; exact hq) hP hD hS (lv_sub hl [1, 2, 0] rfl)
        · replace hq := lf_neg hq (lf_nle (lf_lc 0 (0 : Int) rfl) Ez21 c23)
          have h26 := ib_nle (ib_c 0 0 0 rfl) h22 c23
          have h27 : ib z21 (-1) (-1) := ib_w (-1) (-1) h26.2 rfl
          refine lv_iconst (v := 1) hx hb dX10_qFloor_27 rfl ?_
          refine lv_goto (tgt := 32) hx hb dX10_qFloor_28 rfl ?_
          exact jn32 z14 1 H locs ls (ib_w 0 1 (ib_c 1 1 1 rfl) rfl) (by rw [lf_ul Ez14]; try simp only [show (1 : Int32).toInt = (1 : Int) from rfl]; exact hq) hP hD hS (lv_sub hl [1, 2, 0] rfl)
  · replace hq := lf_pos hq (lf_eq Ez11 (lf_lc 0 (0 : Int) rfl) c13)
    have h28 := ib_eq h12 (ib_c 0 0 0 rfl) c13
    have h29 : ib z11 0 0 := ib_w 0 0 h28.1 rfl
    refine lv_lconst (v := 0) hx hb dX10_qFloor_6 (by decide) ?_
    subst hQ; exact k_lret hx hb hr hlk () hS ((hO.symm.trans (by try simp only [show (0 : Int64).toInt = (0 : Int) from rfl]; exact hq))) hP hD (Nat.le_of_ble_eq_true rfl) (Nat.le_of_ble_eq_true rfl) dX10_qFloor_7
set_option maxHeartbeats 4000000 in
set_option maxRecDepth 100000 in
theorem s_X10_qJoins (l : Launch) (dC : Nat → ClassId) (dI : Nat → Nat → Nat) (cy : Nat → ClassId) (sq : Nat → Nat) (a_this : Nat) (rm : Nat → Nat) (x_taped : Int32) (x_at : Int32) (x_end : Int32) (x_ended : Int32) (x_bad : Int32) (x_badPlace : Int32) (x_fault : Int32) (x_faultPlace : Int32) (x_namePlace : Int32) (x_awayTold : Int32) (x_away : Int32) (x_coded : Int32) (x_statements : Int32) (x_isCrossing : Int32) (x_textKind : Int32) (x_askSecond : Int32) (x_redMany : Int32) (x_isOpen : Int32) (x_lastGreen : Int32) (x_greenTo : Int32) (x_isCycleGreen : Int32) (x_stillGreen : Int32) (x_rowMany : Int32) (x_fitMany : Int32) (x_fitRules : Int32) (x_fitGreen : Int32) (x_undoable : Int32) (x_newest : Int32) (x_seeded : Int64) (x_qCoded : Int32) (x_qWaits : Int32) (x_qOpened : Int32) (x_qBase : Int32) (x_qPiled : Int32) (x_qAnswer : Int64) (x_qIsNew : Int32) (x_octets : Int32) (g_qPile : Nat → Int64) (p0 : Int32) (hx_qPiled : ib x_qPiled 2 1700) : k_Met l yX10_qJoins cX10_qJoins 6 none { frames := 1, cells := 0, slots := 0, locals := 25 } dC dI cy sq [.ref a_this, .int p0] [(a_this, .inr (10, mfs rm x_taped x_at x_end x_ended x_bad x_badPlace x_fault x_faultPlace x_namePlace x_awayTold x_away x_coded x_statements x_isCrossing x_textKind x_askSecond x_redMany x_isOpen x_lastGreen x_greenTo x_isCycleGreen x_stillGreen x_rowMany x_fitMany x_fitRules x_fitGreen x_undoable x_newest x_seeded x_qCoded x_qWaits x_qOpened x_qBase x_qPiled x_qAnswer x_qIsNew x_octets)), (wi_rm116_1_1700_1 rm cy g_qPile)] (k_Qv dC dI (fun (u : Int32 × (Nat → Int64)) => match u with | (n0, n1) => ib n0 1 1699 ∧ n0.toInt = x_qPiled.toInt + (-1) ∧ (F_X10_qJoins (Int32.toInt x_qPiled) (lf_L g_qPile) (Int32.toInt p0) = ((Int32.toInt n0), (lf_L n1)))) (fun u : Int32 × (Nat → Int64) => match u with | (n0, n1) => [(a_this, .inr (10, mfs rm x_taped x_at x_end x_ended x_bad x_badPlace x_fault x_faultPlace x_namePlace x_awayTold x_away x_coded x_statements x_isCrossing x_textKind x_askSecond x_redMany x_isOpen x_lastGreen x_greenTo x_isCycleGreen x_stillGreen x_rowMany x_fitMany x_fitRules x_fitGreen x_undoable x_newest x_seeded x_qCoded x_qWaits x_qOpened x_qBase n0 x_qAnswer x_qIsNew x_octets)), (wi_rm116_1_1700_1 rm cy n1)])) := by
  refine k_ofW2 (by decide +kernel) (Nat.le_of_ble_eq_true rfl) ?_
  intro p e s m below meth c A ls H locs args Q hQ C0 hZ hr hlk hin hP hD hA hS hl
  have C0 : k_cx p s m args c cX10_qJoins 6 RX10 dC dI cy sq := C0
  have hx := C0.1
  have hb := C0.2.1
  have hl : lv_has ls 6 [(0, .ref a_this), (1, .int p0)] := hl
  obtain ⟨O, hO⟩ : ∃ o, o = F_X10_qJoins (Int32.toInt x_qPiled) (lf_L g_qPile) (Int32.toInt p0) := ⟨_, rfl⟩
  have hq := hO
  unfold F_X10_qJoins at hq
  refine lv_aload_n hx hb dX10_qJoins_0 rfl (lv_at hl 0 rfl) ?_
  refine k_get C0 fg_X10_270 hP 0 rfl rfl dX10_qJoins_1 ?_
  refine lv_aload_n hx hb dX10_qJoins_4 rfl (lv_at hl 0 rfl) ?_
  refine k_get C0 fg_X10_440 hP 0 rfl rfl dX10_qJoins_5 ?_
  refine lv_iconst (v := 1) hx hb dX10_qJoins_8 rfl ?_
  refine lv_isub hx hb dX10_qJoins_9 ?_
  refine lv_topi (fun z1 ez1 => ?_)
  have h2 := ib_sub hx_qPiled (ib_c 1 1 1 rfl) rfl
  rw [← ez1] at h2
  have h3 : ib z1 1 1699 := ib_w 1 1699 h2.1 rfl
  have Ez1 := lf_sub h2.2 (lf_rf x_qPiled) (lf_lc 1 (1 : Int) rfl)
  refine va_lald hx hb C0.2.2.2.2.2.1 hP 1 1 rfl rfl (ib_in 1700 h3 rfl) dX10_qJoins_10 ?_
  refine lv_topl (fun z4 ez4 => ?_)
  have Ez4 := lf_ldl ez4 (lf_raL g_qPile) Ez1
  refine lv_lstore_n (lv' := [(2, .long z4), (0, .ref a_this), (1, .int p0)]) hx hb dX10_qJoins_11 rfl hl (Nat.le_of_ble_eq_true rfl) rfl (fun ls hl => ?_)
  refine lv_aload_n hx hb dX10_qJoins_12 rfl (lv_at hl 1 rfl) ?_
  refine k_get C0 fg_X10_270 hP 0 rfl rfl dX10_qJoins_13 ?_
  refine lv_aload_n hx hb dX10_qJoins_16 rfl (lv_at hl 1 rfl) ?_
  refine k_get C0 fg_X10_440 hP 0 rfl rfl dX10_qJoins_17 ?_
  refine lv_iconst (v := 2) hx hb dX10_qJoins_20 rfl ?_
  refine lv_isub hx hb dX10_qJoins_21 ?_
  as_aux_lemma =>
    refine lv_topi (fun z5 ez5 => ?_)
    have h6 := ib_sub hx_qPiled (ib_c 2 2 2 rfl) rfl
    rw [← ez5] at h6
    have h7 : ib z5 0 1698 := ib_w 0 1698 h6.1 rfl
    have Ez5 := lf_sub h6.2 (lf_rf x_qPiled) (lf_lc 2 (2 : Int) rfl)
    refine va_lald hx hb C0.2.2.2.2.2.1 hP 1 1 rfl rfl (ib_in 1700 h7 rfl) dX10_qJoins_22 ?_
    refine lv_topl (fun z8 ez8 => ?_)
    have Ez8 := lf_ldl ez8 (lf_raL g_qPile) Ez5
    refine lv_lstore (lv' := [(4, .long z8), (2, .long z4), (0, .ref a_this), (1, .int p0)]) hx hb dX10_qJoins_23 hl (Nat.le_of_ble_eq_true rfl) rfl (fun ls hl => ?_)
    refine lv_aload_n hx hb dX10_qJoins_25 rfl (lv_at hl 2 rfl) ?_
    refine lv_dup hx hb dX10_qJoins_26 rfl ?_
    refine k_get C0 fg_X10_440 hP 0 rfl rfl dX10_qJoins_27 ?_
    refine lv_iconst (v := 2) hx hb dX10_qJoins_30 rfl ?_
    refine lv_isub hx hb dX10_qJoins_31 ?_
    refine lv_topi (fun z9 ez9 => ?_)
    obtain rfl : z5 = z9 := ez5.trans ez9.symm
    refine k_put C0 fp_X10_440 hP hD hS 0 rfl rfl rfl (Nat.le_of_ble_eq_true rfl) dX10_qJoins_32 (fun H locs hP hD hS => ?_)
    replace hP : va_P (dC, dI) vwCl [(a_this, .inr (10, mfs rm x_taped x_at x_end x_ended x_bad x_badPlace x_fault x_faultPlace x_namePlace x_awayTold x_away x_coded x_statements x_isCrossing x_textKind x_askSecond x_redMany x_isOpen x_lastGreen x_greenTo x_isCycleGreen x_stillGreen x_rowMany x_fitMany x_fitRules x_fitGreen x_undoable x_newest x_seeded x_qCoded x_qWaits x_qOpened x_qBase z5 x_qAnswer x_qIsNew x_octets)), (wi_rm116_1_1700_1 rm cy g_qPile)] H := hP
    replace hD := k_D hP hD
    refine lv_iload_n hx hb dX10_qJoins_35 rfl (lv_at hl 3 rfl) ?_
    rcases Decidable.em (p0 = 1) with s10_1 | s10_1
    · as_aux_lemma =>
        skip
        replace hq := lf_pos hq (lf_eq (lf_rf p0) (lf_lc 1 (1 : Int) rfl) s10_1)
        have h11 : ib p0 1 1 := by rw [s10_1]; exact ib_c 1 1 1 rfl
        refine lv_tableIn (off := 56) (tgt := 92) hx hb dX10_qJoins_36 (by rw [s10_1]; decide) (by rw [s10_1]; decide) (by rw [s10_1]; decide) (by decide) ?_
        refine lv_aload_n hx hb dX10_qJoins_92 rfl (lv_at hl 2 rfl) ?_
        refine lv_lload hx hb dX10_qJoins_93 (lv_at hl 0 rfl) ?_
        refine lv_lload_n hx hb dX10_qJoins_95 rfl (lv_at hl 1 rfl) ?_
        refine lv_ladd hx hb dX10_qJoins_96 ?_
        refine lv_topl (fun z12 ez12 => ?_)
        have Ez12 := lf_opl lf_ladd ez12 Ez8 Ez4
        refine k_jlm hP hD hS hA [] [true, true] rfl rfl rfl 0 0 (Nat.le_of_ble_eq_true rfl) (Nat.le_of_ble_eq_true rfl) (fun hPc hDc => k_runS (As := [.long z12]) (rest := [.ref a_this]) C0 hZ hS hA (s_X10_qClip l dC dI cy sq z12 ) mS_X10_666 hPc hDc hl rfl rfl (Nat.le_of_ble_eq_true rfl) ⟨(Nat.le_of_ble_eq_true rfl), (Nat.le_of_ble_eq_true rfl)⟩ ⟨(Nat.le_of_ble_eq_true rfl), (Nat.le_of_ble_eq_true rfl)⟩ dX10_qJoins_97) (fun r13 u14 H locs hw hP hD hS => ?_)
        try dsimp only at hP hD hw
        replace hP : va_P (dC, dI) vwCl [(a_this, .inr (10, mfs rm x_taped x_at x_end x_ended x_bad x_badPlace x_fault x_faultPlace x_namePlace x_awayTold x_away x_coded x_statements x_isCrossing x_textKind x_askSecond x_redMany x_isOpen x_lastGreen x_greenTo x_isCycleGreen x_stillGreen x_rowMany x_fitMany x_fitRules x_fitGreen x_undoable x_newest x_seeded x_qCoded x_qWaits x_qOpened x_qBase z5 x_qAnswer x_qIsNew x_octets)), (wi_rm116_1_1700_1 rm cy g_qPile)] H := hP
        replace hD := k_D hP hD
        have h15 := hw
        have h15 := by have h9 := h15; rw [lf_ul Ez12] at h9; exact h9
        replace hq := lf_b1 hq h15
        refine k_jvm hP hD hS hA [0, 1] [] rfl rfl rfl 0 0 (Nat.le_of_ble_eq_true rfl) (Nat.le_of_ble_eq_true rfl) (fun hPc hDc => k_runV (As := [.long r13]) (rest := []) C0 hZ hS hA (s_X10_qPuts l dC dI cy sq a_this rm x_taped x_at x_end x_ended x_bad x_badPlace x_fault x_faultPlace x_namePlace x_awayTold x_away x_coded x_statements x_isCrossing x_textKind x_askSecond x_redMany x_isOpen x_lastGreen x_greenTo x_isCycleGreen x_stillGreen x_rowMany x_fitMany x_fitRules x_fitGreen x_undoable x_newest x_seeded x_qCoded x_qWaits x_qOpened x_qBase z5 x_qAnswer x_qIsNew x_octets g_qPile r13 (ib_w 0 1699 h7 rfl)) mV_X10_443 hPc hDc rfl rfl rfl hl rfl rfl (Nat.le_of_ble_eq_true rfl) ⟨(Nat.le_of_ble_eq_true rfl), (Nat.le_of_ble_eq_true rfl)⟩ ⟨(Nat.le_of_ble_eq_true rfl), (Nat.le_of_ble_eq_true rfl)⟩ dX10_qJoins_100) (fun u17 H locs hw hP hD hS => ?_)
        obtain ⟨v18, f19⟩ := u17
        try dsimp only at hP hD hw
        replace hP : va_P (dC, dI) vwCl [(a_this, .inr (10, mfs rm x_taped x_at x_end x_ended x_bad x_badPlace x_fault x_faultPlace x_namePlace x_awayTold x_away x_coded x_statements x_isCrossing x_textKind x_askSecond x_redMany x_isOpen x_lastGreen x_greenTo x_isCycleGreen x_stillGreen x_rowMany x_fitMany x_fitRules x_fitGreen x_undoable x_newest x_seeded x_qCoded x_qWaits x_qOpened x_qBase v18 x_qAnswer x_qIsNew x_octets)), (wi_rm116_1_1700_1 rm cy f19)] H := hP
        replace hD := k_D hP hD
        obtain ⟨h20, h21, h22⟩ := hw
        have h23 : v18.toInt = (z5 : Int32).toInt + (1 : Int32).toInt := by have q1 := h21; have q2 : (1 : Int32).toInt = 1 := rfl; omega
        have h24 : ib v18 1 1699 := ⟨by have q1 := h21; have := (h7).1; have := (h20).1; omega, by have q1 := h21; have := (h7).2; have := (h20).2; omega⟩
        have h22 := by have h9 := h22; rw [lf_u Ez5] at h9; exact h9
        replace hq := lf_p1 hq h22
        refine lv_goto (tgt := 273) hx hb dX10_qJoins_103 rfl ?_
        subst hQ; exact k_vret hx hb hr hlk ((v18, f19)) hS ⟨ib_w 1 1699 h24 rfl, (by have := (hx_qPiled).1; have := (hx_qPiled).2; have := (h24).1; have := (h24).2; have := h23; have : (1 : Int32).toInt = 1 := rfl; have := (h7).1; have := (h7).2; have := h6.2; have : (2 : Int32).toInt = 2 := rfl; omega), (hO.symm.trans (by exact hq))⟩ hP hD (Nat.le_of_ble_eq_true rfl) (Nat.le_of_ble_eq_true rfl) dX10_qJoins_273
    replace hq := lf_neg hq (lf_ne (lf_rf p0) (lf_lc 1 (1 : Int) rfl) s10_1)
    rcases Decidable.em (p0 = 2) with s10_2 | s10_2
    · as_aux_lemma =>
        skip
        replace hq := lf_pos hq (lf_eq (lf_rf p0) (lf_lc 2 (2 : Int) rfl) s10_2)
        have h25 : ib p0 2 2 := by rw [s10_2]; exact ib_c 2 2 2 rfl
        refine lv_tableIn (off := 70) (tgt := 106) hx hb dX10_qJoins_36 (by rw [s10_2]; decide) (by rw [s10_2]; decide) (by rw [s10_2]; decide) (by decide) ?_
        refine lv_aload_n hx hb dX10_qJoins_106 rfl (lv_at hl 2 rfl) ?_
        refine lv_lload hx hb dX10_qJoins_107 (lv_at hl 0 rfl) ?_
        refine lv_lload_n hx hb dX10_qJoins_109 rfl (lv_at hl 1 rfl) ?_
        refine lv_lsub hx hb dX10_qJoins_110 ?_
        refine lv_topl (fun z26 ez26 => ?_)
        have Ez26 := lf_opl lf_lsub ez26 Ez8 Ez4
        refine k_jlm hP hD hS hA [] [true, true] rfl rfl rfl 0 0 (Nat.le_of_ble_eq_true rfl) (Nat.le_of_ble_eq_true rfl) (fun hPc hDc => k_runS (As := [.long z26]) (rest := [.ref a_this]) C0 hZ hS hA (s_X10_qClip l dC dI cy sq z26 ) mS_X10_666 hPc hDc hl rfl rfl (Nat.le_of_ble_eq_true rfl) ⟨(Nat.le_of_ble_eq_true rfl), (Nat.le_of_ble_eq_true rfl)⟩ ⟨(Nat.le_of_ble_eq_true rfl), (Nat.le_of_ble_eq_true rfl)⟩ dX10_qJoins_111) (fun r27 u28 H locs hw hP hD hS => ?_)
        try dsimp only at hP hD hw
        replace hP : va_P (dC, dI) vwCl [(a_this, .inr (10, mfs rm x_taped x_at x_end x_ended x_bad x_badPlace x_fault x_faultPlace x_namePlace x_awayTold x_away x_coded x_statements x_isCrossing x_textKind x_askSecond x_redMany x_isOpen x_lastGreen x_greenTo x_isCycleGreen x_stillGreen x_rowMany x_fitMany x_fitRules x_fitGreen x_undoable x_newest x_seeded x_qCoded x_qWaits x_qOpened x_qBase z5 x_qAnswer x_qIsNew x_octets)), (wi_rm116_1_1700_1 rm cy g_qPile)] H := hP
        replace hD := k_D hP hD
        have h29 := hw
        have h29 := by have h9 := h29; rw [lf_ul Ez26] at h9; exact h9
        replace hq := lf_b1 hq h29
        refine k_jvm hP hD hS hA [0, 1] [] rfl rfl rfl 0 0 (Nat.le_of_ble_eq_true rfl) (Nat.le_of_ble_eq_true rfl) (fun hPc hDc => k_runV (As := [.long r27]) (rest := []) C0 hZ hS hA (s_X10_qPuts l dC dI cy sq a_this rm x_taped x_at x_end x_ended x_bad x_badPlace x_fault x_faultPlace x_namePlace x_awayTold x_away x_coded x_statements x_isCrossing x_textKind x_askSecond x_redMany x_isOpen x_lastGreen x_greenTo x_isCycleGreen x_stillGreen x_rowMany x_fitMany x_fitRules x_fitGreen x_undoable x_newest x_seeded x_qCoded x_qWaits x_qOpened x_qBase z5 x_qAnswer x_qIsNew x_octets g_qPile r27 (ib_w 0 1699 h7 rfl)) mV_X10_443 hPc hDc rfl rfl rfl hl rfl rfl (Nat.le_of_ble_eq_true rfl) ⟨(Nat.le_of_ble_eq_true rfl), (Nat.le_of_ble_eq_true rfl)⟩ ⟨(Nat.le_of_ble_eq_true rfl), (Nat.le_of_ble_eq_true rfl)⟩ dX10_qJoins_114) (fun u31 H locs hw hP hD hS => ?_)
        obtain ⟨v32, f33⟩ := u31
        try dsimp only at hP hD hw
        replace hP : va_P (dC, dI) vwCl [(a_this, .inr (10, mfs rm x_taped x_at x_end x_ended x_bad x_badPlace x_fault x_faultPlace x_namePlace x_awayTold x_away x_coded x_statements x_isCrossing x_textKind x_askSecond x_redMany x_isOpen x_lastGreen x_greenTo x_isCycleGreen x_stillGreen x_rowMany x_fitMany x_fitRules x_fitGreen x_undoable x_newest x_seeded x_qCoded x_qWaits x_qOpened x_qBase v32 x_qAnswer x_qIsNew x_octets)), (wi_rm116_1_1700_1 rm cy f33)] H := hP
        replace hD := k_D hP hD
        obtain ⟨h34, h35, h36⟩ := hw
        have h37 : v32.toInt = (z5 : Int32).toInt + (1 : Int32).toInt := by have q1 := h35; have q2 : (1 : Int32).toInt = 1 := rfl; omega
        have h38 : ib v32 1 1699 := ⟨by have q1 := h35; have := (h7).1; have := (h34).1; omega, by have q1 := h35; have := (h7).2; have := (h34).2; omega⟩
        have h36 := by have h9 := h36; rw [lf_u Ez5] at h9; exact h9
        replace hq := lf_p1 hq h36
        refine lv_goto (tgt := 273) hx hb dX10_qJoins_117 rfl ?_
        subst hQ; exact k_vret hx hb hr hlk ((v32, f33)) hS ⟨ib_w 1 1699 h38 rfl, (by have := (hx_qPiled).1; have := (hx_qPiled).2; have := (h38).1; have := (h38).2; have := h37; have : (1 : Int32).toInt = 1 := rfl; have := (h7).1; have := (h7).2; have := h6.2; have : (2 : Int32).toInt = 2 := rfl; omega), (hO.symm.trans (by exact hq))⟩ hP hD (Nat.le_of_ble_eq_true rfl) (Nat.le_of_ble_eq_true rfl) dX10_qJoins_273
    replace hq := lf_neg hq (lf_ne (lf_rf p0) (lf_lc 2 (2 : Int) rfl) s10_2)
    rcases Decidable.em (p0 = 3) with s10_3 | s10_3
    · as_aux_lemma =>
        skip
        replace hq := lf_pos hq (lf_eq (lf_rf p0) (lf_lc 3 (3 : Int) rfl) s10_3)
        have h39 : ib p0 3 3 := by rw [s10_3]; exact ib_c 3 3 3 rfl
        refine lv_tableIn (off := 84) (tgt := 120) hx hb dX10_qJoins_36 (by rw [s10_3]; decide) (by rw [s10_3]; decide) (by rw [s10_3]; decide) (by decide) ?_
        refine lv_aload_n hx hb dX10_qJoins_120 rfl (lv_at hl 2 rfl) ?_
        refine lv_lload hx hb dX10_qJoins_121 (lv_at hl 0 rfl) ?_
        refine lv_lload_n hx hb dX10_qJoins_123 rfl (lv_at hl 1 rfl) ?_
        refine lv_lmul hx hb dX10_qJoins_124 ?_
        refine lv_topl (fun z40 ez40 => ?_)
        have Ez40 := lf_opl lf_lmul ez40 Ez8 Ez4
        refine k_jlm hP hD hS hA [] [true, true] rfl rfl rfl 0 0 (Nat.le_of_ble_eq_true rfl) (Nat.le_of_ble_eq_true rfl) (fun hPc hDc => k_runS (As := [.long z40]) (rest := [.ref a_this]) C0 hZ hS hA (s_X10_qClip l dC dI cy sq z40 ) mS_X10_666 hPc hDc hl rfl rfl (Nat.le_of_ble_eq_true rfl) ⟨(Nat.le_of_ble_eq_true rfl), (Nat.le_of_ble_eq_true rfl)⟩ ⟨(Nat.le_of_ble_eq_true rfl), (Nat.le_of_ble_eq_true rfl)⟩ dX10_qJoins_125) (fun r41 u42 H locs hw hP hD hS => ?_)
        try dsimp only at hP hD hw
        replace hP : va_P (dC, dI) vwCl [(a_this, .inr (10, mfs rm x_taped x_at x_end x_ended x_bad x_badPlace x_fault x_faultPlace x_namePlace x_awayTold x_away x_coded x_statements x_isCrossing x_textKind x_askSecond x_redMany x_isOpen x_lastGreen x_greenTo x_isCycleGreen x_stillGreen x_rowMany x_fitMany x_fitRules x_fitGreen x_undoable x_newest x_seeded x_qCoded x_qWaits x_qOpened x_qBase z5 x_qAnswer x_qIsNew x_octets)), (wi_rm116_1_1700_1 rm cy g_qPile)] H := hP
        replace hD := k_D hP hD
        have h43 := hw
        have h43 := by have h9 := h43; rw [lf_ul Ez40] at h9; exact h9
        replace hq := lf_b1 hq h43
        refine k_jvm hP hD hS hA [0, 1] [] rfl rfl rfl 0 0 (Nat.le_of_ble_eq_true rfl) (Nat.le_of_ble_eq_true rfl) (fun hPc hDc => k_runV (As := [.long r41]) (rest := []) C0 hZ hS hA (s_X10_qPuts l dC dI cy sq a_this rm x_taped x_at x_end x_ended x_bad x_badPlace x_fault x_faultPlace x_namePlace x_awayTold x_away x_coded x_statements x_isCrossing x_textKind x_askSecond x_redMany x_isOpen x_lastGreen x_greenTo x_isCycleGreen x_stillGreen x_rowMany x_fitMany x_fitRules x_fitGreen x_undoable x_newest x_seeded x_qCoded x_qWaits x_qOpened x_qBase z5 x_qAnswer x_qIsNew x_octets g_qPile r41 (ib_w 0 1699 h7 rfl)) mV_X10_443 hPc hDc rfl rfl rfl hl rfl rfl (Nat.le_of_ble_eq_true rfl) ⟨(Nat.le_of_ble_eq_true rfl), (Nat.le_of_ble_eq_true rfl)⟩ ⟨(Nat.le_of_ble_eq_true rfl), (Nat.le_of_ble_eq_true rfl)⟩ dX10_qJoins_128) (fun u45 H locs hw hP hD hS => ?_)
        obtain ⟨v46, f47⟩ := u45
        try dsimp only at hP hD hw
        replace hP : va_P (dC, dI) vwCl [(a_this, .inr (10, mfs rm x_taped x_at x_end x_ended x_bad x_badPlace x_fault x_faultPlace x_namePlace x_awayTold x_away x_coded x_statements x_isCrossing x_textKind x_askSecond x_redMany x_isOpen x_lastGreen x_greenTo x_isCycleGreen x_stillGreen x_rowMany x_fitMany x_fitRules x_fitGreen x_undoable x_newest x_seeded x_qCoded x_qWaits x_qOpened x_qBase v46 x_qAnswer x_qIsNew x_octets)), (wi_rm116_1_1700_1 rm cy f47)] H := hP
        replace hD := k_D hP hD
        obtain ⟨h48, h49, h50⟩ := hw
        have h51 : v46.toInt = (z5 : Int32).toInt + (1 : Int32).toInt := by have q1 := h49; have q2 : (1 : Int32).toInt = 1 := rfl; omega
        have h52 : ib v46 1 1699 := ⟨by have q1 := h49; have := (h7).1; have := (h48).1; omega, by have q1 := h49; have := (h7).2; have := (h48).2; omega⟩
        have h50 := by have h9 := h50; rw [lf_u Ez5] at h9; exact h9
        replace hq := lf_p1 hq h50
        refine lv_goto (tgt := 273) hx hb dX10_qJoins_131 rfl ?_
        subst hQ; exact k_vret hx hb hr hlk ((v46, f47)) hS ⟨ib_w 1 1699 h52 rfl, (by have := (hx_qPiled).1; have := (hx_qPiled).2; have := (h52).1; have := (h52).2; have := h51; have : (1 : Int32).toInt = 1 := rfl; have := (h7).1; have := (h7).2; have := h6.2; have : (2 : Int32).toInt = 2 := rfl; omega), (hO.symm.trans (by exact hq))⟩ hP hD (Nat.le_of_ble_eq_true rfl) (Nat.le_of_ble_eq_true rfl) dX10_qJoins_273
    replace hq := lf_neg hq (lf_ne (lf_rf p0) (lf_lc 3 (3 : Int) rfl) s10_3)
    rcases Decidable.em (p0 = 4) with s10_4 | s10_4
    · as_aux_lemma =>
        skip
        replace hq := lf_pos hq (lf_eq (lf_rf p0) (lf_lc 4 (4 : Int) rfl) s10_4)
        have h53 : ib p0 4 4 := by rw [s10_4]; exact ib_c 4 4 4 rfl
        refine lv_tableIn (off := 98) (tgt := 134) hx hb dX10_qJoins_36 (by rw [s10_4]; decide) (by rw [s10_4]; decide) (by rw [s10_4]; decide) (by decide) ?_
        refine lv_aload_n hx hb dX10_qJoins_134 rfl (lv_at hl 2 rfl) ?_
        refine lv_lload hx hb dX10_qJoins_135 (lv_at hl 0 rfl) ?_
        refine lv_lload_n hx hb dX10_qJoins_137 rfl (lv_at hl 1 rfl) ?_
        refine k_jlm hP hD hS hA [] [true, true] rfl rfl rfl 0 0 (Nat.le_of_ble_eq_true rfl) (Nat.le_of_ble_eq_true rfl) (fun hPc hDc => k_runS (As := [.long z8, .long z4]) (rest := [.ref a_this]) C0 hZ hS hA (s_X10_qFloor l dC dI cy sq z8 z4 ) mS_X10_670 hPc hDc hl rfl rfl (Nat.le_of_ble_eq_true rfl) ⟨(Nat.le_of_ble_eq_true rfl), (Nat.le_of_ble_eq_true rfl)⟩ ⟨(Nat.le_of_ble_eq_true rfl), (Nat.le_of_ble_eq_true rfl)⟩ dX10_qJoins_138) (fun r54 u55 H locs hw hP hD hS => ?_)
        try dsimp only at hP hD hw
        replace hP : va_P (dC, dI) vwCl [(a_this, .inr (10, mfs rm x_taped x_at x_end x_ended x_bad x_badPlace x_fault x_faultPlace x_namePlace x_awayTold x_away x_coded x_statements x_isCrossing x_textKind x_askSecond x_redMany x_isOpen x_lastGreen x_greenTo x_isCycleGreen x_stillGreen x_rowMany x_fitMany x_fitRules x_fitGreen x_undoable x_newest x_seeded x_qCoded x_qWaits x_qOpened x_qBase z5 x_qAnswer x_qIsNew x_octets)), (wi_rm116_1_1700_1 rm cy g_qPile)] H := hP
        replace hD := k_D hP hD
        have h56 := hw
        have h56 := by have h9 := h56; rw [lf_ul Ez8] at h9; rw [lf_ul Ez4] at h9; exact h9
        replace hq := lf_b1 hq h56
        refine k_jvm hP hD hS hA [0, 1] [] rfl rfl rfl 0 0 (Nat.le_of_ble_eq_true rfl) (Nat.le_of_ble_eq_true rfl) (fun hPc hDc => k_runV (As := [.long r54]) (rest := []) C0 hZ hS hA (s_X10_qPuts l dC dI cy sq a_this rm x_taped x_at x_end x_ended x_bad x_badPlace x_fault x_faultPlace x_namePlace x_awayTold x_away x_coded x_statements x_isCrossing x_textKind x_askSecond x_redMany x_isOpen x_lastGreen x_greenTo x_isCycleGreen x_stillGreen x_rowMany x_fitMany x_fitRules x_fitGreen x_undoable x_newest x_seeded x_qCoded x_qWaits x_qOpened x_qBase z5 x_qAnswer x_qIsNew x_octets g_qPile r54 (ib_w 0 1699 h7 rfl)) mV_X10_443 hPc hDc rfl rfl rfl hl rfl rfl (Nat.le_of_ble_eq_true rfl) ⟨(Nat.le_of_ble_eq_true rfl), (Nat.le_of_ble_eq_true rfl)⟩ ⟨(Nat.le_of_ble_eq_true rfl), (Nat.le_of_ble_eq_true rfl)⟩ dX10_qJoins_141) (fun u58 H locs hw hP hD hS => ?_)
        obtain ⟨v59, f60⟩ := u58
        try dsimp only at hP hD hw
        replace hP : va_P (dC, dI) vwCl [(a_this, .inr (10, mfs rm x_taped x_at x_end x_ended x_bad x_badPlace x_fault x_faultPlace x_namePlace x_awayTold x_away x_coded x_statements x_isCrossing x_textKind x_askSecond x_redMany x_isOpen x_lastGreen x_greenTo x_isCycleGreen x_stillGreen x_rowMany x_fitMany x_fitRules x_fitGreen x_undoable x_newest x_seeded x_qCoded x_qWaits x_qOpened x_qBase v59 x_qAnswer x_qIsNew x_octets)), (wi_rm116_1_1700_1 rm cy f60)] H := hP
        replace hD := k_D hP hD
        obtain ⟨h61, h62, h63⟩ := hw
        have h64 : v59.toInt = (z5 : Int32).toInt + (1 : Int32).toInt := by have q1 := h62; have q2 : (1 : Int32).toInt = 1 := rfl; omega
        have h65 : ib v59 1 1699 := ⟨by have q1 := h62; have := (h7).1; have := (h61).1; omega, by have q1 := h62; have := (h7).2; have := (h61).2; omega⟩
        have h63 := by have h9 := h63; rw [lf_u Ez5] at h9; exact h9
        replace hq := lf_p1 hq h63
        refine lv_goto (tgt := 273) hx hb dX10_qJoins_144 rfl ?_
        subst hQ; exact k_vret hx hb hr hlk ((v59, f60)) hS ⟨ib_w 1 1699 h65 rfl, (by have := (hx_qPiled).1; have := (hx_qPiled).2; have := (h65).1; have := (h65).2; have := h64; have : (1 : Int32).toInt = 1 := rfl; have := (h7).1; have := (h7).2; have := h6.2; have : (2 : Int32).toInt = 2 := rfl; omega), (hO.symm.trans (by exact hq))⟩ hP hD (Nat.le_of_ble_eq_true rfl) (Nat.le_of_ble_eq_true rfl) dX10_qJoins_273
    replace hq := lf_neg hq (lf_ne (lf_rf p0) (lf_lc 4 (4 : Int) rfl) s10_4)
    as_aux_lemma =>
      rcases Decidable.em (p0 = 5) with s10_5 | s10_5
      · as_aux_lemma =>
          skip
          replace hq := lf_pos hq (lf_eq (lf_rf p0) (lf_lc 5 (5 : Int) rfl) s10_5)
          have h66 : ib p0 5 5 := by rw [s10_5]; exact ib_c 5 5 5 rfl
          refine lv_tableIn (off := 111) (tgt := 147) hx hb dX10_qJoins_36 (by rw [s10_5]; decide) (by rw [s10_5]; decide) (by rw [s10_5]; decide) (by decide) ?_
          refine lv_aload_n hx hb dX10_qJoins_147 rfl (lv_at hl 2 rfl) ?_
          refine lv_lload hx hb dX10_qJoins_148 (lv_at hl 0 rfl) ?_
          refine lv_lload_n hx hb dX10_qJoins_150 rfl (lv_at hl 1 rfl) ?_
          refine W.lcmp hx hb dX10_qJoins_151 ?_
          refine lv_topi (fun z67 ez67 => ?_)
          have h68 : ib z67 (-1) 1 := by rw [ez67]; exact ib_cmp _ _
          have Ez67 := lf_cmpe ez67 Ez8 Ez4
          refine lv_if_ge (tgt := 160) hx hb dX10_qJoins_152 rfl (fun c69 => ?_) (fun c69 => ?_)
          · replace hq := lf_pos hq (lf_le (lf_lc 0 (0 : Int) rfl) Ez67 c69)
            have h70 := ib_le (ib_c 0 0 0 rfl) h68 c69
            have h71 : ib z67 0 1 := ib_w 0 1 h70.2 rfl
            refine lv_lload_n hx hb dX10_qJoins_160 rfl (lv_at hl 1 rfl) ?_
            refine k_jvm hP hD hS hA [0, 1] [] rfl rfl rfl 0 0 (Nat.le_of_ble_eq_true rfl) (Nat.le_of_ble_eq_true rfl) (fun hPc hDc => k_runV (As := [.long z4]) (rest := []) C0 hZ hS hA (s_X10_qPuts l dC dI cy sq a_this rm x_taped x_at x_end x_ended x_bad x_badPlace x_fault x_faultPlace x_namePlace x_awayTold x_away x_coded x_statements x_isCrossing x_textKind x_askSecond x_redMany x_isOpen x_lastGreen x_greenTo x_isCycleGreen x_stillGreen x_rowMany x_fitMany x_fitRules x_fitGreen x_undoable x_newest x_seeded x_qCoded x_qWaits x_qOpened x_qBase z5 x_qAnswer x_qIsNew x_octets g_qPile z4 (ib_w 0 1699 h7 rfl)) mV_X10_443 hPc hDc rfl rfl rfl hl rfl rfl (Nat.le_of_ble_eq_true rfl) ⟨(Nat.le_of_ble_eq_true rfl), (Nat.le_of_ble_eq_true rfl)⟩ ⟨(Nat.le_of_ble_eq_true rfl), (Nat.le_of_ble_eq_true rfl)⟩ dX10_qJoins_161) (fun u73 H locs hw hP hD hS => ?_)
            obtain ⟨v74, f75⟩ := u73
            try dsimp only at hP hD hw
            replace hP : va_P (dC, dI) vwCl [(a_this, .inr (10, mfs rm x_taped x_at x_end x_ended x_bad x_badPlace x_fault x_faultPlace x_namePlace x_awayTold x_away x_coded x_statements x_isCrossing x_textKind x_askSecond x_redMany x_isOpen x_lastGreen x_greenTo x_isCycleGreen x_stillGreen x_rowMany x_fitMany x_fitRules x_fitGreen x_undoable x_newest x_seeded x_qCoded x_qWaits x_qOpened x_qBase v74 x_qAnswer x_qIsNew x_octets)), (wi_rm116_1_1700_1 rm cy f75)] H := hP
            replace hD := k_D hP hD
            obtain ⟨h76, h77, h78⟩ := hw
            have h79 : v74.toInt = (z5 : Int32).toInt + (1 : Int32).toInt := by have q1 := h77; have q2 : (1 : Int32).toInt = 1 := rfl; omega
            have h80 : ib v74 1 1699 := ⟨by have q1 := h77; have := (h7).1; have := (h76).1; omega, by have q1 := h77; have := (h7).2; have := (h76).2; omega⟩
            have h78 := by have h9 := h78; rw [lf_u Ez5] at h9; rw [lf_ul Ez4] at h9; exact h9
            replace hq := lf_p1 hq h78
            refine lv_goto (tgt := 273) hx hb dX10_qJoins_164 rfl ?_
            subst hQ; exact k_vret hx hb hr hlk ((v74, f75)) hS ⟨ib_w 1 1699 h80 rfl, (by have := (hx_qPiled).1; have := (hx_qPiled).2; have := (h80).1; have := (h80).2; have := h79; have : (1 : Int32).toInt = 1 := rfl; have := (h7).1; have := (h7).2; have := h6.2; have : (2 : Int32).toInt = 2 := rfl; omega), (hO.symm.trans (by exact hq))⟩ hP hD (Nat.le_of_ble_eq_true rfl) (Nat.le_of_ble_eq_true rfl) dX10_qJoins_273
          · replace hq := lf_neg hq (lf_nle (lf_lc 0 (0 : Int) rfl) Ez67 c69)
            have h81 := ib_nle (ib_c 0 0 0 rfl) h68 c69
            have h82 : ib z67 (-1) (-1) := ib_w (-1) (-1) h81.2 rfl
            refine lv_lload hx hb dX10_qJoins_155 (lv_at hl 0 rfl) ?_
            refine lv_goto (tgt := 161) hx hb dX10_qJoins_157 rfl ?_
            refine k_jvm hP hD hS hA [0, 1] [] rfl rfl rfl 0 0 (Nat.le_of_ble_eq_true rfl) (Nat.le_of_ble_eq_true rfl) (fun hPc hDc => k_runV (As := [.long z8]) (rest := []) C0 hZ hS hA (s_X10_qPuts l dC dI cy sq a_this rm x_taped x_at x_end x_ended x_bad x_badPlace x_fault x_faultPlace x_namePlace x_awayTold x_away x_coded x_statements x_isCrossing x_textKind x_askSecond x_redMany x_isOpen x_lastGreen x_greenTo x_isCycleGreen x_stillGreen x_rowMany x_fitMany x_fitRules x_fitGreen x_undoable x_newest x_seeded x_qCoded x_qWaits x_qOpened x_qBase z5 x_qAnswer x_qIsNew x_octets g_qPile z8 (ib_w 0 1699 h7 rfl)) mV_X10_443 hPc hDc rfl rfl rfl hl rfl rfl (Nat.le_of_ble_eq_true rfl) ⟨(Nat.le_of_ble_eq_true rfl), (Nat.le_of_ble_eq_true rfl)⟩ ⟨(Nat.le_of_ble_eq_true rfl), (Nat.le_of_ble_eq_true rfl)⟩ dX10_qJoins_161) (fun u84 H locs hw hP hD hS => ?_)
            obtain ⟨v85, f86⟩ := u84
            try dsimp only at hP hD hw
            replace hP : va_P (dC, dI) vwCl [(a_this, .inr (10, mfs rm x_taped x_at x_end x_ended x_bad x_badPlace x_fault x_faultPlace x_namePlace x_awayTold x_away x_coded x_statements x_isCrossing x_textKind x_askSecond x_redMany x_isOpen x_lastGreen x_greenTo x_isCycleGreen x_stillGreen x_rowMany x_fitMany x_fitRules x_fitGreen x_undoable x_newest x_seeded x_qCoded x_qWaits x_qOpened x_qBase v85 x_qAnswer x_qIsNew x_octets)), (wi_rm116_1_1700_1 rm cy f86)] H := hP
            replace hD := k_D hP hD
            obtain ⟨h87, h88, h89⟩ := hw
            have h90 : v85.toInt = (z5 : Int32).toInt + (1 : Int32).toInt := by have q1 := h88; have q2 : (1 : Int32).toInt = 1 := rfl; omega
            have h91 : ib v85 1 1699 := ⟨by have q1 := h88; have := (h7).1; have := (h87).1; omega, by have q1 := h88; have := (h7).2; have := (h87).2; omega⟩
            have h89 := by have h9 := h89; rw [lf_u Ez5] at h9; rw [lf_ul Ez8] at h9; exact h9
            replace hq := lf_p1 hq h89
            refine lv_goto (tgt := 273) hx hb dX10_qJoins_164 rfl ?_
            subst hQ; exact k_vret hx hb hr hlk ((v85, f86)) hS ⟨ib_w 1 1699 h91 rfl, (by have := (hx_qPiled).1; have := (hx_qPiled).2; have := (h91).1; have := (h91).2; have := h90; have : (1 : Int32).toInt = 1 := rfl; have := (h7).1; have := (h7).2; have := h6.2; have : (2 : Int32).toInt = 2 := rfl; omega), (hO.symm.trans (by exact hq))⟩ hP hD (Nat.le_of_ble_eq_true rfl) (Nat.le_of_ble_eq_true rfl) dX10_qJoins_273
      replace hq := lf_neg hq (lf_ne (lf_rf p0) (lf_lc 5 (5 : Int) rfl) s10_5)
      rcases Decidable.em (p0 = 6) with s10_6 | s10_6
      · as_aux_lemma =>
          skip
          replace hq := lf_pos hq (lf_eq (lf_rf p0) (lf_lc 6 (6 : Int) rfl) s10_6)
          have h92 : ib p0 6 6 := by rw [s10_6]; exact ib_c 6 6 6 rfl
          refine lv_tableIn (off := 131) (tgt := 167) hx hb dX10_qJoins_36 (by rw [s10_6]; decide) (by rw [s10_6]; decide) (by rw [s10_6]; decide) (by decide) ?_
          refine lv_aload_n hx hb dX10_qJoins_167 rfl (lv_at hl 2 rfl) ?_
          refine lv_lload hx hb dX10_qJoins_168 (lv_at hl 0 rfl) ?_
          refine lv_lload_n hx hb dX10_qJoins_170 rfl (lv_at hl 1 rfl) ?_
          refine W.lcmp hx hb dX10_qJoins_171 ?_
          refine lv_topi (fun z93 ez93 => ?_)
          have h94 : ib z93 (-1) 1 := by rw [ez93]; exact ib_cmp _ _
          have Ez93 := lf_cmpe ez93 Ez8 Ez4
          refine lv_if_le (tgt := 180) hx hb dX10_qJoins_172 rfl (fun c95 => ?_) (fun c95 => ?_)
          · replace hq := lf_pos hq (lf_le Ez93 (lf_lc 0 (0 : Int) rfl) c95)
            have h96 := ib_le h94 (ib_c 0 0 0 rfl) c95
            have h97 : ib z93 (-1) 0 := ib_w (-1) 0 h96.1 rfl
            refine lv_lload_n hx hb dX10_qJoins_180 rfl (lv_at hl 1 rfl) ?_
            refine k_jvm hP hD hS hA [0, 1] [] rfl rfl rfl 0 0 (Nat.le_of_ble_eq_true rfl) (Nat.le_of_ble_eq_true rfl) (fun hPc hDc => k_runV (As := [.long z4]) (rest := []) C0 hZ hS hA (s_X10_qPuts l dC dI cy sq a_this rm x_taped x_at x_end x_ended x_bad x_badPlace x_fault x_faultPlace x_namePlace x_awayTold x_away x_coded x_statements x_isCrossing x_textKind x_askSecond x_redMany x_isOpen x_lastGreen x_greenTo x_isCycleGreen x_stillGreen x_rowMany x_fitMany x_fitRules x_fitGreen x_undoable x_newest x_seeded x_qCoded x_qWaits x_qOpened x_qBase z5 x_qAnswer x_qIsNew x_octets g_qPile z4 (ib_w 0 1699 h7 rfl)) mV_X10_443 hPc hDc rfl rfl rfl hl rfl rfl (Nat.le_of_ble_eq_true rfl) ⟨(Nat.le_of_ble_eq_true rfl), (Nat.le_of_ble_eq_true rfl)⟩ ⟨(Nat.le_of_ble_eq_true rfl), (Nat.le_of_ble_eq_true rfl)⟩ dX10_qJoins_181) (fun u99 H locs hw hP hD hS => ?_)
            obtain ⟨v100, f101⟩ := u99
            try dsimp only at hP hD hw
            replace hP : va_P (dC, dI) vwCl [(a_this, .inr (10, mfs rm x_taped x_at x_end x_ended x_bad x_badPlace x_fault x_faultPlace x_namePlace x_awayTold x_away x_coded x_statements x_isCrossing x_textKind x_askSecond x_redMany x_isOpen x_lastGreen x_greenTo x_isCycleGreen x_stillGreen x_rowMany x_fitMany x_fitRules x_fitGreen x_undoable x_newest x_seeded x_qCoded x_qWaits x_qOpened x_qBase v100 x_qAnswer x_qIsNew x_octets)), (wi_rm116_1_1700_1 rm cy f101)] H := hP
            replace hD := k_D hP hD
            obtain ⟨h102, h103, h104⟩ := hw
            have h105 : v100.toInt = (z5 : Int32).toInt + (1 : Int32).toInt := by have q1 := h103; have q2 : (1 : Int32).toInt = 1 := rfl; omega
            have h106 : ib v100 1 1699 := ⟨by have q1 := h103; have := (h7).1; have := (h102).1; omega, by have q1 := h103; have := (h7).2; have := (h102).2; omega⟩
            have h104 := by have h9 := h104; rw [lf_u Ez5] at h9; rw [lf_ul Ez4] at h9; exact h9
            replace hq := lf_p1 hq h104
            refine lv_goto (tgt := 273) hx hb dX10_qJoins_184 rfl ?_
            subst hQ; exact k_vret hx hb hr hlk ((v100, f101)) hS ⟨ib_w 1 1699 h106 rfl, (by have := (hx_qPiled).1; have := (hx_qPiled).2; have := (h106).1; have := (h106).2; have := h105; have : (1 : Int32).toInt = 1 := rfl; have := (h7).1; have := (h7).2; have := h6.2; have : (2 : Int32).toInt = 2 := rfl; omega), (hO.symm.trans (by exact hq))⟩ hP hD (Nat.le_of_ble_eq_true rfl) (Nat.le_of_ble_eq_true rfl) dX10_qJoins_273
          · replace hq := lf_neg hq (lf_nle Ez93 (lf_lc 0 (0 : Int) rfl) c95)
            have h107 := ib_nle h94 (ib_c 0 0 0 rfl) c95
            have h108 : ib z93 1 1 := ib_w 1 1 h107.1 rfl
            refine lv_lload hx hb dX10_qJoins_175 (lv_at hl 0 rfl) ?_
            refine lv_goto (tgt := 181) hx hb dX10_qJoins_177 rfl ?_
            refine k_jvm hP hD hS hA [0, 1] [] rfl rfl rfl 0 0 (Nat.le_of_ble_eq_true rfl) (Nat.le_of_ble_eq_true rfl) (fun hPc hDc => k_runV (As := [.long z8]) (rest := []) C0 hZ hS hA (s_X10_qPuts l dC dI cy sq a_this rm x_taped x_at x_end x_ended x_bad x_badPlace x_fault x_faultPlace x_namePlace x_awayTold x_away x_coded x_statements x_isCrossing x_textKind x_askSecond x_redMany x_isOpen x_lastGreen x_greenTo x_isCycleGreen x_stillGreen x_rowMany x_fitMany x_fitRules x_fitGreen x_undoable x_newest x_seeded x_qCoded x_qWaits x_qOpened x_qBase z5 x_qAnswer x_qIsNew x_octets g_qPile z8 (ib_w 0 1699 h7 rfl)) mV_X10_443 hPc hDc rfl rfl rfl hl rfl rfl (Nat.le_of_ble_eq_true rfl) ⟨(Nat.le_of_ble_eq_true rfl), (Nat.le_of_ble_eq_true rfl)⟩ ⟨(Nat.le_of_ble_eq_true rfl), (Nat.le_of_ble_eq_true rfl)⟩ dX10_qJoins_181) (fun u110 H locs hw hP hD hS => ?_)
            obtain ⟨v111, f112⟩ := u110
            try dsimp only at hP hD hw
            replace hP : va_P (dC, dI) vwCl [(a_this, .inr (10, mfs rm x_taped x_at x_end x_ended x_bad x_badPlace x_fault x_faultPlace x_namePlace x_awayTold x_away x_coded x_statements x_isCrossing x_textKind x_askSecond x_redMany x_isOpen x_lastGreen x_greenTo x_isCycleGreen x_stillGreen x_rowMany x_fitMany x_fitRules x_fitGreen x_undoable x_newest x_seeded x_qCoded x_qWaits x_qOpened x_qBase v111 x_qAnswer x_qIsNew x_octets)), (wi_rm116_1_1700_1 rm cy f112)] H := hP
            replace hD := k_D hP hD
            obtain ⟨h113, h114, h115⟩ := hw
            have h116 : v111.toInt = (z5 : Int32).toInt + (1 : Int32).toInt := by have q1 := h114; have q2 : (1 : Int32).toInt = 1 := rfl; omega
            have h117 : ib v111 1 1699 := ⟨by have q1 := h114; have := (h7).1; have := (h113).1; omega, by have q1 := h114; have := (h7).2; have := (h113).2; omega⟩
            have h115 := by have h9 := h115; rw [lf_u Ez5] at h9; rw [lf_ul Ez8] at h9; exact h9
            replace hq := lf_p1 hq h115
            refine lv_goto (tgt := 273) hx hb dX10_qJoins_184 rfl ?_
            subst hQ; exact k_vret hx hb hr hlk ((v111, f112)) hS ⟨ib_w 1 1699 h117 rfl, (by have := (hx_qPiled).1; have := (hx_qPiled).2; have := (h117).1; have := (h117).2; have := h116; have : (1 : Int32).toInt = 1 := rfl; have := (h7).1; have := (h7).2; have := h6.2; have : (2 : Int32).toInt = 2 := rfl; omega), (hO.symm.trans (by exact hq))⟩ hP hD (Nat.le_of_ble_eq_true rfl) (Nat.le_of_ble_eq_true rfl) dX10_qJoins_273
      replace hq := lf_neg hq (lf_ne (lf_rf p0) (lf_lc 6 (6 : Int) rfl) s10_6)
      rcases Decidable.em (p0 = 7) with s10_7 | s10_7
      · as_aux_lemma =>
          skip
          replace hq := lf_pos hq (lf_eq (lf_rf p0) (lf_lc 7 (7 : Int) rfl) s10_7)
          have h118 : ib p0 7 7 := by rw [s10_7]; exact ib_c 7 7 7 rfl
          refine lv_tableIn (off := 151) (tgt := 187) hx hb dX10_qJoins_36 (by rw [s10_7]; decide) (by rw [s10_7]; decide) (by rw [s10_7]; decide) (by decide) ?_
          refine lv_aload_n hx hb dX10_qJoins_187 rfl (lv_at hl 2 rfl) ?_
          refine lv_lload hx hb dX10_qJoins_188 (lv_at hl 0 rfl) ?_
          refine lv_lload_n hx hb dX10_qJoins_190 rfl (lv_at hl 1 rfl) ?_
          refine W.lcmp hx hb dX10_qJoins_191 ?_
          refine lv_topi (fun z119 ez119 => ?_)
          have h120 : ib z119 (-1) 1 := by rw [ez119]; exact ib_cmp _ _
          have Ez119 := lf_cmpe ez119 Ez8 Ez4
          refine lv_if_ge (tgt := 199) hx hb dX10_qJoins_192 rfl (fun c121 => ?_) (fun c121 => ?_)
          · replace hq := lf_pos hq (lf_le (lf_lc 0 (0 : Int) rfl) Ez119 c121)
            have h122 := ib_le (ib_c 0 0 0 rfl) h120 c121
            have h123 : ib z119 0 1 := ib_w 0 1 h122.2 rfl
            refine lv_lconst (v := 0) hx hb dX10_qJoins_199 (by decide) ?_
            refine k_jvm hP hD hS hA [0, 1] [] rfl rfl rfl 0 0 (Nat.le_of_ble_eq_true rfl) (Nat.le_of_ble_eq_true rfl) (fun hPc hDc => k_runV (As := [.long 0]) (rest := []) C0 hZ hS hA (s_X10_qPuts l dC dI cy sq a_this rm x_taped x_at x_end x_ended x_bad x_badPlace x_fault x_faultPlace x_namePlace x_awayTold x_away x_coded x_statements x_isCrossing x_textKind x_askSecond x_redMany x_isOpen x_lastGreen x_greenTo x_isCycleGreen x_stillGreen x_rowMany x_fitMany x_fitRules x_fitGreen x_undoable x_newest x_seeded x_qCoded x_qWaits x_qOpened x_qBase z5 x_qAnswer x_qIsNew x_octets g_qPile 0 (ib_w 0 1699 h7 rfl)) mV_X10_443 hPc hDc rfl rfl rfl hl rfl rfl (Nat.le_of_ble_eq_true rfl) ⟨(Nat.le_of_ble_eq_true rfl), (Nat.le_of_ble_eq_true rfl)⟩ ⟨(Nat.le_of_ble_eq_true rfl), (Nat.le_of_ble_eq_true rfl)⟩ dX10_qJoins_200) (fun u125 H locs hw hP hD hS => ?_)
            obtain ⟨v126, f127⟩ := u125
            try dsimp only at hP hD hw
            replace hP : va_P (dC, dI) vwCl [(a_this, .inr (10, mfs rm x_taped x_at x_end x_ended x_bad x_badPlace x_fault x_faultPlace x_namePlace x_awayTold x_away x_coded x_statements x_isCrossing x_textKind x_askSecond x_redMany x_isOpen x_lastGreen x_greenTo x_isCycleGreen x_stillGreen x_rowMany x_fitMany x_fitRules x_fitGreen x_undoable x_newest x_seeded x_qCoded x_qWaits x_qOpened x_qBase v126 x_qAnswer x_qIsNew x_octets)), (wi_rm116_1_1700_1 rm cy f127)] H := hP
            replace hD := k_D hP hD
            obtain ⟨h128, h129, h130⟩ := hw
            have h131 : v126.toInt = (z5 : Int32).toInt + (1 : Int32).toInt := by have q1 := h129; have q2 : (1 : Int32).toInt = 1 := rfl; omega
            have h132 : ib v126 1 1699 := ⟨by have q1 := h129; have := (h7).1; have := (h128).1; omega, by have q1 := h129; have := (h7).2; have := (h128).2; omega⟩
            have h130 := by have h9 := h130; rw [lf_u Ez5] at h9; try simp only [show (0 : Int64).toInt = (0 : Int) from rfl] at h9; exact h9
            replace hq := lf_p1 hq h130
            refine lv_goto (tgt := 273) hx hb dX10_qJoins_203 rfl ?_
            subst hQ; exact k_vret hx hb hr hlk ((v126, f127)) hS ⟨ib_w 1 1699 h132 rfl, (by have := (hx_qPiled).1; have := (hx_qPiled).2; have := (h132).1; have := (h132).2; have := h131; have : (1 : Int32).toInt = 1 := rfl; have := (h7).1; have := (h7).2; have := h6.2; have : (2 : Int32).toInt = 2 := rfl; omega), (hO.symm.trans (by exact hq))⟩ hP hD (Nat.le_of_ble_eq_true rfl) (Nat.le_of_ble_eq_true rfl) dX10_qJoins_273
          · replace hq := lf_neg hq (lf_nle (lf_lc 0 (0 : Int) rfl) Ez119 c121)
            have h133 := ib_nle (ib_c 0 0 0 rfl) h120 c121
            have h134 : ib z119 (-1) (-1) := ib_w (-1) (-1) h133.2 rfl
            refine lv_lconst (v := 1) hx hb dX10_qJoins_195 (by decide) ?_
            refine lv_goto (tgt := 200) hx hb dX10_qJoins_196 rfl ?_
            refine k_jvm hP hD hS hA [0, 1] [] rfl rfl rfl 0 0 (Nat.le_of_ble_eq_true rfl) (Nat.le_of_ble_eq_true rfl) (fun hPc hDc => k_runV (As := [.long 1]) (rest := []) C0 hZ hS hA (s_X10_qPuts l dC dI cy sq a_this rm x_taped x_at x_end x_ended x_bad x_badPlace x_fault x_faultPlace x_namePlace x_awayTold x_away x_coded x_statements x_isCrossing x_textKind x_askSecond x_redMany x_isOpen x_lastGreen x_greenTo x_isCycleGreen x_stillGreen x_rowMany x_fitMany x_fitRules x_fitGreen x_undoable x_newest x_seeded x_qCoded x_qWaits x_qOpened x_qBase z5 x_qAnswer x_qIsNew x_octets g_qPile 1 (ib_w 0 1699 h7 rfl)) mV_X10_443 hPc hDc rfl rfl rfl hl rfl rfl (Nat.le_of_ble_eq_true rfl) ⟨(Nat.le_of_ble_eq_true rfl), (Nat.le_of_ble_eq_true rfl)⟩ ⟨(Nat.le_of_ble_eq_true rfl), (Nat.le_of_ble_eq_true rfl)⟩ dX10_qJoins_200) (fun u136 H locs hw hP hD hS => ?_)
            obtain ⟨v137, f138⟩ := u136
            try dsimp only at hP hD hw
            replace hP : va_P (dC, dI) vwCl [(a_this, .inr (10, mfs rm x_taped x_at x_end x_ended x_bad x_badPlace x_fault x_faultPlace x_namePlace x_awayTold x_away x_coded x_statements x_isCrossing x_textKind x_askSecond x_redMany x_isOpen x_lastGreen x_greenTo x_isCycleGreen x_stillGreen x_rowMany x_fitMany x_fitRules x_fitGreen x_undoable x_newest x_seeded x_qCoded x_qWaits x_qOpened x_qBase v137 x_qAnswer x_qIsNew x_octets)), (wi_rm116_1_1700_1 rm cy f138)] H := hP
            replace hD := k_D hP hD
            obtain ⟨h139, h140, h141⟩ := hw
            have h142 : v137.toInt = (z5 : Int32).toInt + (1 : Int32).toInt := by have q1 := h140; have q2 : (1 : Int32).toInt = 1 := rfl; omega
            have h143 : ib v137 1 1699 := ⟨by have q1 := h140; have := (h7).1; have := (h139).1; omega, by have q1 := h140; have := (h7).2; have := (h139).2; omega⟩
            have h141 := by have h9 := h141; rw [lf_u Ez5] at h9; try simp only [show (1 : Int64).toInt = (1 : Int) from rfl] at h9; exact h9
            replace hq := lf_p1 hq h141
            refine lv_goto (tgt := 273) hx hb dX10_qJoins_203 rfl ?_
            subst hQ; exact k_vret hx hb hr hlk ((v137, f138)) hS ⟨ib_w 1 1699 h143 rfl, (by have := (hx_qPiled).1; have := (hx_qPiled).2; have := (h143).1; have := (h143).2; have := h142; have : (1 : Int32).toInt = 1 := rfl; have := (h7).1; have := (h7).2; have := h6.2; have : (2 : Int32).toInt = 2 := rfl; omega), (hO.symm.trans (by exact hq))⟩ hP hD (Nat.le_of_ble_eq_true rfl) (Nat.le_of_ble_eq_true rfl) dX10_qJoins_273
      replace hq := lf_neg hq (lf_ne (lf_rf p0) (lf_lc 7 (7 : Int) rfl) s10_7)
      rcases Decidable.em (p0 = 8) with s10_8 | s10_8
      · as_aux_lemma =>
          skip
          replace hq := lf_pos hq (lf_eq (lf_rf p0) (lf_lc 8 (8 : Int) rfl) s10_8)
          have h144 : ib p0 8 8 := by rw [s10_8]; exact ib_c 8 8 8 rfl
          refine lv_tableIn (off := 170) (tgt := 206) hx hb dX10_qJoins_36 (by rw [s10_8]; decide) (by rw [s10_8]; decide) (by rw [s10_8]; decide) (by decide) ?_
          refine lv_aload_n hx hb dX10_qJoins_206 rfl (lv_at hl 2 rfl) ?_
          refine lv_lload hx hb dX10_qJoins_207 (lv_at hl 0 rfl) ?_
          refine lv_lload_n hx hb dX10_qJoins_209 rfl (lv_at hl 1 rfl) ?_
          refine W.lcmp hx hb dX10_qJoins_210 ?_
          refine lv_topi (fun z145 ez145 => ?_)
          have h146 : ib z145 (-1) 1 := by rw [ez145]; exact ib_cmp _ _
          have Ez145 := lf_cmpe ez145 Ez8 Ez4
          refine lv_if_le (tgt := 218) hx hb dX10_qJoins_211 rfl (fun c147 => ?_) (fun c147 => ?_)
          · replace hq := lf_pos hq (lf_le Ez145 (lf_lc 0 (0 : Int) rfl) c147)
            have h148 := ib_le h146 (ib_c 0 0 0 rfl) c147
            have h149 : ib z145 (-1) 0 := ib_w (-1) 0 h148.1 rfl
            refine lv_lconst (v := 0) hx hb dX10_qJoins_218 (by decide) ?_
            refine k_jvm hP hD hS hA [0, 1] [] rfl rfl rfl 0 0 (Nat.le_of_ble_eq_true rfl) (Nat.le_of_ble_eq_true rfl) (fun hPc hDc => k_runV (As := [.long 0]) (rest := []) C0 hZ hS hA (s_X10_qPuts l dC dI cy sq a_this rm x_taped x_at x_end x_ended x_bad x_badPlace x_fault x_faultPlace x_namePlace x_awayTold x_away x_coded x_statements x_isCrossing x_textKind x_askSecond x_redMany x_isOpen x_lastGreen x_greenTo x_isCycleGreen x_stillGreen x_rowMany x_fitMany x_fitRules x_fitGreen x_undoable x_newest x_seeded x_qCoded x_qWaits x_qOpened x_qBase z5 x_qAnswer x_qIsNew x_octets g_qPile 0 (ib_w 0 1699 h7 rfl)) mV_X10_443 hPc hDc rfl rfl rfl hl rfl rfl (Nat.le_of_ble_eq_true rfl) ⟨(Nat.le_of_ble_eq_true rfl), (Nat.le_of_ble_eq_true rfl)⟩ ⟨(Nat.le_of_ble_eq_true rfl), (Nat.le_of_ble_eq_true rfl)⟩ dX10_qJoins_219) (fun u151 H locs hw hP hD hS => ?_)
            obtain ⟨v152, f153⟩ := u151
            try dsimp only at hP hD hw
            replace hP : va_P (dC, dI) vwCl [(a_this, .inr (10, mfs rm x_taped x_at x_end x_ended x_bad x_badPlace x_fault x_faultPlace x_namePlace x_awayTold x_away x_coded x_statements x_isCrossing x_textKind x_askSecond x_redMany x_isOpen x_lastGreen x_greenTo x_isCycleGreen x_stillGreen x_rowMany x_fitMany x_fitRules x_fitGreen x_undoable x_newest x_seeded x_qCoded x_qWaits x_qOpened x_qBase v152 x_qAnswer x_qIsNew x_octets)), (wi_rm116_1_1700_1 rm cy f153)] H := hP
            replace hD := k_D hP hD
            obtain ⟨h154, h155, h156⟩ := hw
            have h157 : v152.toInt = (z5 : Int32).toInt + (1 : Int32).toInt := by have q1 := h155; have q2 : (1 : Int32).toInt = 1 := rfl; omega
            have h158 : ib v152 1 1699 := ⟨by have q1 := h155; have := (h7).1; have := (h154).1; omega, by have q1 := h155; have := (h7).2; have := (h154).2; omega⟩
            have h156 := by have h9 := h156; rw [lf_u Ez5] at h9; try simp only [show (0 : Int64).toInt = (0 : Int) from rfl] at h9; exact h9
            replace hq := lf_p1 hq h156
            refine lv_goto (tgt := 273) hx hb dX10_qJoins_222 rfl ?_
            subst hQ; exact k_vret hx hb hr hlk ((v152, f153)) hS ⟨ib_w 1 1699 h158 rfl, (by have := (hx_qPiled).1; have := (hx_qPiled).2; have := (h158).1; have := (h158).2; have := h157; have : (1 : Int32).toInt = 1 := rfl; have := (h7).1; have := (h7).2; have := h6.2; have : (2 : Int32).toInt = 2 := rfl; omega), (hO.symm.trans (by exact hq))⟩ hP hD (Nat.le_of_ble_eq_true rfl) (Nat.le_of_ble_eq_true rfl) dX10_qJoins_273
          · replace hq := lf_neg hq (lf_nle Ez145 (lf_lc 0 (0 : Int) rfl) c147)
            have h159 := ib_nle h146 (ib_c 0 0 0 rfl) c147
            have h160 : ib z145 1 1 := ib_w 1 1 h159.1 rfl
            refine lv_lconst (v := 1) hx hb dX10_qJoins_214 (by decide) ?_
            refine lv_goto (tgt := 219) hx hb dX10_qJoins_215 rfl ?_
            refine k_jvm hP hD hS hA [0, 1] [] rfl rfl rfl 0 0 (Nat.le_of_ble_eq_true rfl) (Nat.le_of_ble_eq_true rfl) (fun hPc hDc => k_runV (As := [.long 1]) (rest := []) C0 hZ hS hA (s_X10_qPuts l dC dI cy sq a_this rm x_taped x_at x_end x_ended x_bad x_badPlace x_fault x_faultPlace x_namePlace x_awayTold x_away x_coded x_statements x_isCrossing x_textKind x_askSecond x_redMany x_isOpen x_lastGreen x_greenTo x_isCycleGreen x_stillGreen x_rowMany x_fitMany x_fitRules x_fitGreen x_undoable x_newest x_seeded x_qCoded x_qWaits x_qOpened x_qBase z5 x_qAnswer x_qIsNew x_octets g_qPile 1 (ib_w 0 1699 h7 rfl)) mV_X10_443 hPc hDc rfl rfl rfl hl rfl rfl (Nat.le_of_ble_eq_true rfl) ⟨(Nat.le_of_ble_eq_true rfl), (Nat.le_of_ble_eq_true rfl)⟩ ⟨(Nat.le_of_ble_eq_true rfl), (Nat.le_of_ble_eq_true rfl)⟩ dX10_qJoins_219) (fun u162 H locs hw hP hD hS => ?_)
            obtain ⟨v163, f164⟩ := u162
            try dsimp only at hP hD hw
            replace hP : va_P (dC, dI) vwCl [(a_this, .inr (10, mfs rm x_taped x_at x_end x_ended x_bad x_badPlace x_fault x_faultPlace x_namePlace x_awayTold x_away x_coded x_statements x_isCrossing x_textKind x_askSecond x_redMany x_isOpen x_lastGreen x_greenTo x_isCycleGreen x_stillGreen x_rowMany x_fitMany x_fitRules x_fitGreen x_undoable x_newest x_seeded x_qCoded x_qWaits x_qOpened x_qBase v163 x_qAnswer x_qIsNew x_octets)), (wi_rm116_1_1700_1 rm cy f164)] H := hP
            replace hD := k_D hP hD
            obtain ⟨h165, h166, h167⟩ := hw
            have h168 : v163.toInt = (z5 : Int32).toInt + (1 : Int32).toInt := by have q1 := h166; have q2 : (1 : Int32).toInt = 1 := rfl; omega
            have h169 : ib v163 1 1699 := ⟨by have q1 := h166; have := (h7).1; have := (h165).1; omega, by have q1 := h166; have := (h7).2; have := (h165).2; omega⟩
            have h167 := by have h9 := h167; rw [lf_u Ez5] at h9; try simp only [show (1 : Int64).toInt = (1 : Int) from rfl] at h9; exact h9
            replace hq := lf_p1 hq h167
            refine lv_goto (tgt := 273) hx hb dX10_qJoins_222 rfl ?_
            subst hQ; exact k_vret hx hb hr hlk ((v163, f164)) hS ⟨ib_w 1 1699 h169 rfl, (by have := (hx_qPiled).1; have := (hx_qPiled).2; have := (h169).1; have := (h169).2; have := h168; have : (1 : Int32).toInt = 1 := rfl; have := (h7).1; have := (h7).2; have := h6.2; have : (2 : Int32).toInt = 2 := rfl; omega), (hO.symm.trans (by exact hq))⟩ hP hD (Nat.le_of_ble_eq_true rfl) (Nat.le_of_ble_eq_true rfl) dX10_qJoins_273
      replace hq := lf_neg hq (lf_ne (lf_rf p0) (lf_lc 8 (8 : Int) rfl) s10_8)
      rcases Decidable.em (p0 = 9) with s10_9 | s10_9
      · as_aux_lemma =>
          skip
          replace hq := lf_pos hq (lf_eq (lf_rf p0) (lf_lc 9 (9 : Int) rfl) s10_9)
          have h170 : ib p0 9 9 := by rw [s10_9]; exact ib_c 9 9 9 rfl
          refine lv_tableIn (off := 189) (tgt := 225) hx hb dX10_qJoins_36 (by rw [s10_9]; decide) (by rw [s10_9]; decide) (by rw [s10_9]; decide) (by decide) ?_
          refine lv_aload_n hx hb dX10_qJoins_225 rfl (lv_at hl 2 rfl) ?_
          refine lv_lload hx hb dX10_qJoins_226 (lv_at hl 0 rfl) ?_
          refine lv_lload_n hx hb dX10_qJoins_228 rfl (lv_at hl 1 rfl) ?_
          refine W.lcmp hx hb dX10_qJoins_229 ?_
          refine lv_topi (fun z171 ez171 => ?_)
          have h172 : ib z171 (-1) 1 := by rw [ez171]; exact ib_cmp _ _
          have Ez171 := lf_cmpe ez171 Ez8 Ez4
          refine lv_if_ne (tgt := 237) hx hb dX10_qJoins_230 rfl (fun c173 => ?_) (fun c173 => ?_)
          · replace hq := lf_neg hq (lf_ne Ez171 (lf_lc 0 (0 : Int) rfl) c173)
            refine lv_lconst (v := 0) hx hb dX10_qJoins_237 (by decide) ?_
            refine k_jvm hP hD hS hA [0, 1] [] rfl rfl rfl 0 0 (Nat.le_of_ble_eq_true rfl) (Nat.le_of_ble_eq_true rfl) (fun hPc hDc => k_runV (As := [.long 0]) (rest := []) C0 hZ hS hA (s_X10_qPuts l dC dI cy sq a_this rm x_taped x_at x_end x_ended x_bad x_badPlace x_fault x_faultPlace x_namePlace x_awayTold x_away x_coded x_statements x_isCrossing x_textKind x_askSecond x_redMany x_isOpen x_lastGreen x_greenTo x_isCycleGreen x_stillGreen x_rowMany x_fitMany x_fitRules x_fitGreen x_undoable x_newest x_seeded x_qCoded x_qWaits x_qOpened x_qBase z5 x_qAnswer x_qIsNew x_octets g_qPile 0 (ib_w 0 1699 h7 rfl)) mV_X10_443 hPc hDc rfl rfl rfl hl rfl rfl (Nat.le_of_ble_eq_true rfl) ⟨(Nat.le_of_ble_eq_true rfl), (Nat.le_of_ble_eq_true rfl)⟩ ⟨(Nat.le_of_ble_eq_true rfl), (Nat.le_of_ble_eq_true rfl)⟩ dX10_qJoins_238) (fun u175 H locs hw hP hD hS => ?_)
            obtain ⟨v176, f177⟩ := u175
            try dsimp only at hP hD hw
            replace hP : va_P (dC, dI) vwCl [(a_this, .inr (10, mfs rm x_taped x_at x_end x_ended x_bad x_badPlace x_fault x_faultPlace x_namePlace x_awayTold x_away x_coded x_statements x_isCrossing x_textKind x_askSecond x_redMany x_isOpen x_lastGreen x_greenTo x_isCycleGreen x_stillGreen x_rowMany x_fitMany x_fitRules x_fitGreen x_undoable x_newest x_seeded x_qCoded x_qWaits x_qOpened x_qBase v176 x_qAnswer x_qIsNew x_octets)), (wi_rm116_1_1700_1 rm cy f177)] H := hP
            replace hD := k_D hP hD
            obtain ⟨h178, h179, h180⟩ := hw
            have h181 : v176.toInt = (z5 : Int32).toInt + (1 : Int32).toInt := by have q1 := h179; have q2 : (1 : Int32).toInt = 1 := rfl; omega
            have h182 : ib v176 1 1699 := ⟨by have q1 := h179; have := (h7).1; have := (h178).1; omega, by have q1 := h179; have := (h7).2; have := (h178).2; omega⟩
            have h180 := by have h9 := h180; rw [lf_u Ez5] at h9; try simp only [show (0 : Int64).toInt = (0 : Int) from rfl] at h9; exact h9
            replace hq := lf_p1 hq h180
            refine lv_goto (tgt := 273) hx hb dX10_qJoins_241 rfl ?_
            subst hQ; exact k_vret hx hb hr hlk ((v176, f177)) hS ⟨ib_w 1 1699 h182 rfl, (by have := (hx_qPiled).1; have := (hx_qPiled).2; have := (h182).1; have := (h182).2; have := h181; have : (1 : Int32).toInt = 1 := rfl; have := (h7).1; have := (h7).2; have := h6.2; have : (2 : Int32).toInt = 2 := rfl; omega), (hO.symm.trans (by exact hq))⟩ hP hD (Nat.le_of_ble_eq_true rfl) (Nat.le_of_ble_eq_true rfl) dX10_qJoins_273
          · replace hq := lf_pos hq (lf_eq Ez171 (lf_lc 0 (0 : Int) rfl) c173)
            have h183 := ib_eq h172 (ib_c 0 0 0 rfl) c173
            have h184 : ib z171 0 0 := ib_w 0 0 h183.1 rfl
            refine lv_lconst (v := 1) hx hb dX10_qJoins_233 (by decide) ?_
            refine lv_goto (tgt := 238) hx hb dX10_qJoins_234 rfl ?_
            refine k_jvm hP hD hS hA [0, 1] [] rfl rfl rfl 0 0 (Nat.le_of_ble_eq_true rfl) (Nat.le_of_ble_eq_true rfl) (fun hPc hDc => k_runV (As := [.long 1]) (rest := []) C0 hZ hS hA (s_X10_qPuts l dC dI cy sq a_this rm x_taped x_at x_end x_ended x_bad x_badPlace x_fault x_faultPlace x_namePlace x_awayTold x_away x_coded x_statements x_isCrossing x_textKind x_askSecond x_redMany x_isOpen x_lastGreen x_greenTo x_isCycleGreen x_stillGreen x_rowMany x_fitMany x_fitRules x_fitGreen x_undoable x_newest x_seeded x_qCoded x_qWaits x_qOpened x_qBase z5 x_qAnswer x_qIsNew x_octets g_qPile 1 (ib_w 0 1699 h7 rfl)) mV_X10_443 hPc hDc rfl rfl rfl hl rfl rfl (Nat.le_of_ble_eq_true rfl) ⟨(Nat.le_of_ble_eq_true rfl), (Nat.le_of_ble_eq_true rfl)⟩ ⟨(Nat.le_of_ble_eq_true rfl), (Nat.le_of_ble_eq_true rfl)⟩ dX10_qJoins_238) (fun u186 H locs hw hP hD hS => ?_)
            obtain ⟨v187, f188⟩ := u186
            try dsimp only at hP hD hw
            replace hP : va_P (dC, dI) vwCl [(a_this, .inr (10, mfs rm x_taped x_at x_end x_ended x_bad x_badPlace x_fault x_faultPlace x_namePlace x_awayTold x_away x_coded x_statements x_isCrossing x_textKind x_askSecond x_redMany x_isOpen x_lastGreen x_greenTo x_isCycleGreen x_stillGreen x_rowMany x_fitMany x_fitRules x_fitGreen x_undoable x_newest x_seeded x_qCoded x_qWaits x_qOpened x_qBase v187 x_qAnswer x_qIsNew x_octets)), (wi_rm116_1_1700_1 rm cy f188)] H := hP
            replace hD := k_D hP hD
            obtain ⟨h189, h190, h191⟩ := hw
            have h192 : v187.toInt = (z5 : Int32).toInt + (1 : Int32).toInt := by have q1 := h190; have q2 : (1 : Int32).toInt = 1 := rfl; omega
            have h193 : ib v187 1 1699 := ⟨by have q1 := h190; have := (h7).1; have := (h189).1; omega, by have q1 := h190; have := (h7).2; have := (h189).2; omega⟩
            have h191 := by have h9 := h191; rw [lf_u Ez5] at h9; try simp only [show (1 : Int64).toInt = (1 : Int) from rfl] at h9; exact h9
            replace hq := lf_p1 hq h191
            refine lv_goto (tgt := 273) hx hb dX10_qJoins_241 rfl ?_
            subst hQ; exact k_vret hx hb hr hlk ((v187, f188)) hS ⟨ib_w 1 1699 h193 rfl, (by have := (hx_qPiled).1; have := (hx_qPiled).2; have := (h193).1; have := (h193).2; have := h192; have : (1 : Int32).toInt = 1 := rfl; have := (h7).1; have := (h7).2; have := h6.2; have : (2 : Int32).toInt = 2 := rfl; omega), (hO.symm.trans (by exact hq))⟩ hP hD (Nat.le_of_ble_eq_true rfl) (Nat.le_of_ble_eq_true rfl) dX10_qJoins_273
      replace hq := lf_neg hq (lf_ne (lf_rf p0) (lf_lc 9 (9 : Int) rfl) s10_9)
      rcases Decidable.em (p0 = 10) with s10_10 | s10_10
      · as_aux_lemma =>
          skip
          replace hq := lf_pos hq (lf_eq (lf_rf p0) (lf_lc 10 (10 : Int) rfl) s10_10)
          have h194 : ib p0 10 10 := by rw [s10_10]; exact ib_c 10 10 10 rfl
          refine lv_tableIn (off := 208) (tgt := 244) hx hb dX10_qJoins_36 (by rw [s10_10]; decide) (by rw [s10_10]; decide) (by rw [s10_10]; decide) (by decide) ?_
          refine lv_aload_n hx hb dX10_qJoins_244 rfl (lv_at hl 2 rfl) ?_
          refine lv_lload hx hb dX10_qJoins_245 (lv_at hl 0 rfl) ?_
          refine lv_lload_n hx hb dX10_qJoins_247 rfl (lv_at hl 1 rfl) ?_
          refine lv_lmul hx hb dX10_qJoins_248 ?_
          refine lv_topl (fun z195 ez195 => ?_)
          have Ez195 := lf_opl lf_lmul ez195 Ez8 Ez4
          refine k_jvm hP hD hS hA [0, 1] [] rfl rfl rfl 0 0 (Nat.le_of_ble_eq_true rfl) (Nat.le_of_ble_eq_true rfl) (fun hPc hDc => k_runV (As := [.long z195]) (rest := []) C0 hZ hS hA (s_X10_qPuts l dC dI cy sq a_this rm x_taped x_at x_end x_ended x_bad x_badPlace x_fault x_faultPlace x_namePlace x_awayTold x_away x_coded x_statements x_isCrossing x_textKind x_askSecond x_redMany x_isOpen x_lastGreen x_greenTo x_isCycleGreen x_stillGreen x_rowMany x_fitMany x_fitRules x_fitGreen x_undoable x_newest x_seeded x_qCoded x_qWaits x_qOpened x_qBase z5 x_qAnswer x_qIsNew x_octets g_qPile z195 (ib_w 0 1699 h7 rfl)) mV_X10_443 hPc hDc rfl rfl rfl hl rfl rfl (Nat.le_of_ble_eq_true rfl) ⟨(Nat.le_of_ble_eq_true rfl), (Nat.le_of_ble_eq_true rfl)⟩ ⟨(Nat.le_of_ble_eq_true rfl), (Nat.le_of_ble_eq_true rfl)⟩ dX10_qJoins_249) (fun u197 H locs hw hP hD hS => ?_)
          obtain ⟨v198, f199⟩ := u197
          try dsimp only at hP hD hw
          replace hP : va_P (dC, dI) vwCl [(a_this, .inr (10, mfs rm x_taped x_at x_end x_ended x_bad x_badPlace x_fault x_faultPlace x_namePlace x_awayTold x_away x_coded x_statements x_isCrossing x_textKind x_askSecond x_redMany x_isOpen x_lastGreen x_greenTo x_isCycleGreen x_stillGreen x_rowMany x_fitMany x_fitRules x_fitGreen x_undoable x_newest x_seeded x_qCoded x_qWaits x_qOpened x_qBase v198 x_qAnswer x_qIsNew x_octets)), (wi_rm116_1_1700_1 rm cy f199)] H := hP
          replace hD := k_D hP hD
          obtain ⟨h200, h201, h202⟩ := hw
          have h203 : v198.toInt = (z5 : Int32).toInt + (1 : Int32).toInt := by have q1 := h201; have q2 : (1 : Int32).toInt = 1 := rfl; omega
          have h204 : ib v198 1 1699 := ⟨by have q1 := h201; have := (h7).1; have := (h200).1; omega, by have q1 := h201; have := (h7).2; have := (h200).2; omega⟩
          have h202 := by have h9 := h202; rw [lf_u Ez5] at h9; rw [lf_ul Ez195] at h9; exact h9
          replace hq := lf_p1 hq h202
          refine lv_goto (tgt := 273) hx hb dX10_qJoins_252 rfl ?_
          subst hQ; exact k_vret hx hb hr hlk ((v198, f199)) hS ⟨ib_w 1 1699 h204 rfl, (by have := (hx_qPiled).1; have := (hx_qPiled).2; have := (h204).1; have := (h204).2; have := h203; have : (1 : Int32).toInt = 1 := rfl; have := (h7).1; have := (h7).2; have := h6.2; have : (2 : Int32).toInt = 2 := rfl; omega), (hO.symm.trans (by exact hq))⟩ hP hD (Nat.le_of_ble_eq_true rfl) (Nat.le_of_ble_eq_true rfl) dX10_qJoins_273
      replace hq := lf_neg hq (lf_ne (lf_rf p0) (lf_lc 10 (10 : Int) rfl) s10_10)
      refine lv_tableOut (tgt := 255) hx hb dX10_qJoins_36 (by have q0 := ib_nei 1 1 rfl s10_1; have q1 := ib_nei 2 2 rfl s10_2; have q2 := ib_nei 3 3 rfl s10_3; have q3 := ib_nei 4 4 rfl s10_4; have q4 := ib_nei 5 5 rfl s10_5; have q5 := ib_nei 6 6 rfl s10_6; have q6 := ib_nei 7 7 rfl s10_7; have q7 := ib_nei 8 8 rfl s10_8; have q8 := ib_nei 9 9 rfl s10_9; have q9 := ib_nei 10 10 rfl s10_10; omega) (by decide) ?_
      refine lv_aload_n hx hb dX10_qJoins_255 rfl (lv_at hl 2 rfl) ?_
      refine lv_lload hx hb dX10_qJoins_256 (lv_at hl 0 rfl) ?_
      refine lv_lload_n hx hb dX10_qJoins_258 rfl (lv_at hl 1 rfl) ?_
      refine lv_ladd hx hb dX10_qJoins_259 ?_
      refine lv_topl (fun z205 ez205 => ?_)
      have Ez205 := lf_opl lf_ladd ez205 Ez8 Ez4
      refine lv_lconst (v := 0) hx hb dX10_qJoins_260 (by decide) ?_
      refine W.lcmp hx hb dX10_qJoins_261 ?_
      refine lv_topi (fun z206 ez206 => ?_)
      have h207 : ib z206 (-1) 1 := by rw [ez206]; exact ib_cmp _ _
      have Ez206 := lf_cmpe ez206 Ez205 (lf_ll 0 (0 : Int) rfl)
      as_aux_lemma =>
        refine lv_if_le (tgt := 269) hx hb dX10_qJoins_262 rfl (fun c208 => ?_) (fun c208 => ?_)
        · replace hq := lf_pos hq (lf_le Ez206 (lf_lc 0 (0 : Int) rfl) c208)
          have h209 := ib_le h207 (ib_c 0 0 0 rfl) c208
          have h210 : ib z206 (-1) 0 := ib_w (-1) 0 h209.1 rfl
          refine lv_lconst (v := 0) hx hb dX10_qJoins_269 (by decide) ?_
          refine k_jvm hP hD hS hA [0, 1] [] rfl rfl rfl 0 0 (Nat.le_of_ble_eq_true rfl) (Nat.le_of_ble_eq_true rfl) (fun hPc hDc => k_runV (As := [.long 0]) (rest := []) C0 hZ hS hA (s_X10_qPuts l dC dI cy sq a_this rm x_taped x_at x_end x_ended x_bad x_badPlace x_fault x_faultPlace x_namePlace x_awayTold x_away x_coded x_statements x_isCrossing x_textKind x_askSecond x_redMany x_isOpen x_lastGreen x_greenTo x_isCycleGreen x_stillGreen x_rowMany x_fitMany x_fitRules x_fitGreen x_undoable x_newest x_seeded x_qCoded x_qWaits x_qOpened x_qBase z5 x_qAnswer x_qIsNew x_octets g_qPile 0 (ib_w 0 1699 h7 rfl)) mV_X10_443 hPc hDc rfl rfl rfl hl rfl rfl (Nat.le_of_ble_eq_true rfl) ⟨(Nat.le_of_ble_eq_true rfl), (Nat.le_of_ble_eq_true rfl)⟩ ⟨(Nat.le_of_ble_eq_true rfl), (Nat.le_of_ble_eq_true rfl)⟩ dX10_qJoins_270) (fun u212 H locs hw hP hD hS => ?_)
          obtain ⟨v213, f214⟩ := u212
          try dsimp only at hP hD hw
          replace hP : va_P (dC, dI) vwCl [(a_this, .inr (10, mfs rm x_taped x_at x_end x_ended x_bad x_badPlace x_fault x_faultPlace x_namePlace x_awayTold x_away x_coded x_statements x_isCrossing x_textKind x_askSecond x_redMany x_isOpen x_lastGreen x_greenTo x_isCycleGreen x_stillGreen x_rowMany x_fitMany x_fitRules x_fitGreen x_undoable x_newest x_seeded x_qCoded x_qWaits x_qOpened x_qBase v213 x_qAnswer x_qIsNew x_octets)), (wi_rm116_1_1700_1 rm cy f214)] H := hP
          replace hD := k_D hP hD
          obtain ⟨h215, h216, h217⟩ := hw
          have h218 : v213.toInt = (z5 : Int32).toInt + (1 : Int32).toInt := by have q1 := h216; have q2 : (1 : Int32).toInt = 1 := rfl; omega
          have h219 : ib v213 1 1699 := ⟨by have q1 := h216; have := (h7).1; have := (h215).1; omega, by have q1 := h216; have := (h7).2; have := (h215).2; omega⟩
          have h217 := by have h9 := h217; rw [lf_u Ez5] at h9; try simp only [show (0 : Int64).toInt = (0 : Int) from rfl] at h9; exact h9
          replace hq := lf_p1 hq h217
          subst hQ; exact k_vret hx hb hr hlk ((v213, f214)) hS ⟨ib_w 1 1699 h219 rfl, (by have := (hx_qPiled).1; have := (hx_qPiled).2; have := (h219).1; have := (h219).2; have := h218; have : (1 : Int32).toInt = 1 := rfl; have := (h7).1; have := (h7).2; have := h6.2; have : (2 : Int32).toInt = 2 := rfl; omega), (hO.symm.trans (by exact hq))⟩ hP hD (Nat.le_of_ble_eq_true rfl) (Nat.le_of_ble_eq_true rfl) dX10_qJoins_273
        · replace hq := lf_neg hq (lf_nle Ez206 (lf_lc 0 (0 : Int) rfl) c208)
          have h220 := ib_nle h207 (ib_c 0 0 0 rfl) c208
          have h221 : ib z206 1 1 := ib_w 1 1 h220.1 rfl
          refine lv_lconst (v := 1) hx hb dX10_qJoins_265 (by decide) ?_
          refine lv_goto (tgt := 270) hx hb dX10_qJoins_266 rfl ?_
          refine k_jvm hP hD hS hA [0, 1] [] rfl rfl rfl 0 0 (Nat.le_of_ble_eq_true rfl) (Nat.le_of_ble_eq_true rfl) (fun hPc hDc => k_runV (As := [.long 1]) (rest := []) C0 hZ hS hA (s_X10_qPuts l dC dI cy sq a_this rm x_taped x_at x_end x_ended x_bad x_badPlace x_fault x_faultPlace x_namePlace x_awayTold x_away x_coded x_statements x_isCrossing x_textKind x_askSecond x_redMany x_isOpen x_lastGreen x_greenTo x_isCycleGreen x_stillGreen x_rowMany x_fitMany x_fitRules x_fitGreen x_undoable x_newest x_seeded x_qCoded x_qWaits x_qOpened x_qBase z5 x_qAnswer x_qIsNew x_octets g_qPile 1 (ib_w 0 1699 h7 rfl)) mV_X10_443 hPc hDc rfl rfl rfl hl rfl rfl (Nat.le_of_ble_eq_true rfl) ⟨(Nat.le_of_ble_eq_true rfl), (Nat.le_of_ble_eq_true rfl)⟩ ⟨(Nat.le_of_ble_eq_true rfl), (Nat.le_of_ble_eq_true rfl)⟩ dX10_qJoins_270) (fun u223 H locs hw hP hD hS => ?_)
          obtain ⟨v224, f225⟩ := u223
          try dsimp only at hP hD hw
          replace hP : va_P (dC, dI) vwCl [(a_this, .inr (10, mfs rm x_taped x_at x_end x_ended x_bad x_badPlace x_fault x_faultPlace x_namePlace x_awayTold x_away x_coded x_statements x_isCrossing x_textKind x_askSecond x_redMany x_isOpen x_lastGreen x_greenTo x_isCycleGreen x_stillGreen x_rowMany x_fitMany x_fitRules x_fitGreen x_undoable x_newest x_seeded x_qCoded x_qWaits x_qOpened x_qBase v224 x_qAnswer x_qIsNew x_octets)), (wi_rm116_1_1700_1 rm cy f225)] H := hP
          replace hD := k_D hP hD
          obtain ⟨h226, h227, h228⟩ := hw
          have h229 : v224.toInt = (z5 : Int32).toInt + (1 : Int32).toInt := by have q1 := h227; have q2 : (1 : Int32).toInt = 1 := rfl; omega
          have h230 : ib v224 1 1699 := ⟨by have q1 := h227; have := (h7).1; have := (h226).1; omega, by have q1 := h227; have := (h7).2; have := (h226).2; omega⟩
          have h228 := by have h9 := h228; rw [lf_u Ez5] at h9; try simp only [show (1 : Int64).toInt = (1 : Int) from rfl] at h9; exact h9
          replace hq := lf_p1 hq h228
          subst hQ; exact k_vret hx hb hr hlk ((v224, f225)) hS ⟨ib_w 1 1699 h230 rfl, (by have := (hx_qPiled).1; have := (hx_qPiled).2; have := (h230).1; have := (h230).2; have := h229; have : (1 : Int32).toInt = 1 := rfl; have := (h7).1; have := (h7).2; have := h6.2; have : (2 : Int32).toInt = 2 := rfl; omega), (hO.symm.trans (by exact hq))⟩ hP hD (Nat.le_of_ble_eq_true rfl) (Nat.le_of_ble_eq_true rfl) dX10_qJoins_273
set_option maxHeartbeats 4000000 in
set_option maxRecDepth 100000 in
theorem s_X10_trustsOf (l : Launch) (dC : Nat → ClassId) (dI : Nat → Nat → Nat) (cy : Nat → ClassId) (sq : Nat → Nat) (a_this : Nat) (rm : Nat → Nat) (x_taped : Int32) (x_at : Int32) (x_end : Int32) (x_ended : Int32) (x_bad : Int32) (x_badPlace : Int32) (x_fault : Int32) (x_faultPlace : Int32) (x_namePlace : Int32) (x_awayTold : Int32) (x_away : Int32) (x_coded : Int32) (x_statements : Int32) (x_isCrossing : Int32) (x_textKind : Int32) (x_askSecond : Int32) (x_redMany : Int32) (x_isOpen : Int32) (x_lastGreen : Int32) (x_greenTo : Int32) (x_isCycleGreen : Int32) (x_stillGreen : Int32) (x_rowMany : Int32) (x_fitMany : Int32) (x_fitRules : Int32) (x_fitGreen : Int32) (x_undoable : Int32) (x_newest : Int32) (x_seeded : Int64) (x_qCoded : Int32) (x_qWaits : Int32) (x_qOpened : Int32) (x_qBase : Int32) (x_qPiled : Int32) (x_qAnswer : Int64) (x_qIsNew : Int32) (x_octets : Int32) (g_now : Nat → Int32) (p0 : Int32) (hp0 : ib p0 0 5) : k_Met l yX10_trustsOf cX10_trustsOf 2 (some .int) { frames := 0, cells := 0, slots := 0, locals := 0 } dC dI cy sq [.ref a_this, .int p0] [(a_this, .inr (10, mfs rm x_taped x_at x_end x_ended x_bad x_badPlace x_fault x_faultPlace x_namePlace x_awayTold x_away x_coded x_statements x_isCrossing x_textKind x_askSecond x_redMany x_isOpen x_lastGreen x_greenTo x_isCycleGreen x_stillGreen x_rowMany x_fitMany x_fitRules x_fitGreen x_undoable x_newest x_seeded x_qCoded x_qWaits x_qOpened x_qBase x_qPiled x_qAnswer x_qIsNew x_octets)), (wi_rm56_0_9_0 rm cy g_now)] (k_Qi dC dI (fun (r : Int32) (_ : Unit) => (F_X10_trustsOf (lf_A g_now) (Int32.toInt p0) = ((Int32.toInt r)))) (fun _ : Unit => [(a_this, .inr (10, mfs rm x_taped x_at x_end x_ended x_bad x_badPlace x_fault x_faultPlace x_namePlace x_awayTold x_away x_coded x_statements x_isCrossing x_textKind x_askSecond x_redMany x_isOpen x_lastGreen x_greenTo x_isCycleGreen x_stillGreen x_rowMany x_fitMany x_fitRules x_fitGreen x_undoable x_newest x_seeded x_qCoded x_qWaits x_qOpened x_qBase x_qPiled x_qAnswer x_qIsNew x_octets)), (wi_rm56_0_9_0 rm cy g_now)])) := by
  refine k_ofW2 (by decide +kernel) (Nat.le_of_ble_eq_true rfl) ?_
  intro p e s m below meth c A ls H locs args Q hQ C0 hZ hr hlk hin hP hD hA hS hl
  have C0 : k_cx p s m args c cX10_trustsOf 2 RX10 dC dI cy sq := C0
  have hx := C0.1
  have hb := C0.2.1
  have hl : lv_has ls 2 [(0, .ref a_this), (1, .int p0)] := hl
  obtain ⟨O, hO⟩ : ∃ o, o = F_X10_trustsOf (lf_A g_now) (Int32.toInt p0) := ⟨_, rfl⟩
  have hq := hO
  unfold F_X10_trustsOf at hq
  refine lv_aload_n hx hb dX10_trustsOf_0 rfl (lv_at hl 0 rfl) ?_
  refine k_get C0 fg_X10_139 hP 0 rfl rfl dX10_trustsOf_1 ?_
  refine lv_iconst (v := 3) hx hb dX10_trustsOf_4 rfl ?_
  refine lv_iload_n hx hb dX10_trustsOf_5 rfl (lv_at hl 1 rfl) ?_
  refine lv_iadd hx hb dX10_trustsOf_6 ?_
  refine lv_topi (fun z1 ez1 => ?_)
  have h2 := ib_add (ib_c 3 3 3 rfl) hp0 rfl
  rw [← ez1] at h2
  have h3 : ib z1 3 8 := ib_w 3 8 h2.1 rfl
  have Ez1 := lf_add h2.2 (lf_lc 3 (3 : Int) rfl) (lf_rf p0)
  refine va_iald hx hb C0.2.2.2.2.2.1 hP 1 0 rfl rfl (ib_in 9 h3 rfl) dX10_trustsOf_7 ?_
  refine lv_topi (fun z4 ez4 => ?_)
  have Ez4 := lf_ld ez4 (lf_ra g_now) Ez1
  subst hQ; exact k_iret hx hb hr hlk rfl () hS ((hO.symm.trans (by rw [lf_u Ez4]; exact hq))) hP hD (Nat.le_of_ble_eq_true rfl) (Nat.le_of_ble_eq_true rfl) dX10_trustsOf_8
set_option maxHeartbeats 4000000 in
set_option maxRecDepth 100000 in
theorem s_X10_qPartOf (l : Launch) (dC : Nat → ClassId) (dI : Nat → Nat → Nat) (cy : Nat → ClassId) (sq : Nat → Nat) (a_this : Nat) (rm : Nat → Nat) (x_taped : Int32) (x_at : Int32) (x_end : Int32) (x_ended : Int32) (x_bad : Int32) (x_badPlace : Int32) (x_fault : Int32) (x_faultPlace : Int32) (x_namePlace : Int32) (x_awayTold : Int32) (x_away : Int32) (x_coded : Int32) (x_statements : Int32) (x_isCrossing : Int32) (x_textKind : Int32) (x_askSecond : Int32) (x_redMany : Int32) (x_isOpen : Int32) (x_lastGreen : Int32) (x_greenTo : Int32) (x_isCycleGreen : Int32) (x_stillGreen : Int32) (x_rowMany : Int32) (x_fitMany : Int32) (x_fitRules : Int32) (x_fitGreen : Int32) (x_undoable : Int32) (x_newest : Int32) (x_seeded : Int64) (x_qCoded : Int32) (x_qWaits : Int32) (x_qOpened : Int32) (x_qBase : Int32) (x_qPiled : Int32) (x_qAnswer : Int64) (x_qIsNew : Int32) (x_octets : Int32) (g_bar : Nat → Int32) (g_kinds : Nat → Int32) (g_walkers : Nat → Int32) (g_now : Nat → Int32) (g_gaps : Nat → Int32) (g_waits : Nat → Int32) (g_goes : Nat → Int32) (g_harms : Nat → Int32) (p0 : Int32) (p1 : Int32) (hg_bar_4 : ib (g_bar 4) 10 120) (hpg_walkers : ip g_walkers 48 2 0 0 5) (hg_gaps : ia g_gaps 300 0 20) (hp1 : ib p1 0 11) (h7 : p0 = 7 → ib x_askSecond 0 299) : k_Met l yX10_qPartOf cX10_qPartOf 3 (some .long) { frames := 2, cells := 0, slots := 0, locals := 42 } dC dI cy sq [.ref a_this, .int p0, .int p1] [(a_this, .inr (10, mfs rm x_taped x_at x_end x_ended x_bad x_badPlace x_fault x_faultPlace x_namePlace x_awayTold x_away x_coded x_statements x_isCrossing x_textKind x_askSecond x_redMany x_isOpen x_lastGreen x_greenTo x_isCycleGreen x_stillGreen x_rowMany x_fitMany x_fitRules x_fitGreen x_undoable x_newest x_seeded x_qCoded x_qWaits x_qOpened x_qBase x_qPiled x_qAnswer x_qIsNew x_octets)), (wi_rm46_0_48_0 rm cy g_walkers), (wi_rm56_0_9_0 rm cy g_now), (wi_rm43_0_8_0 rm cy g_bar), (wi_rm65_0_12_0 rm cy g_waits), (wi_rm44_0_24_0 rm cy g_kinds), (wi_rm61_0_300_0 rm cy g_gaps), (wi_rm66_3_12_0 rm cy g_goes), (wi_rm67_3_12_0 rm cy g_harms)] (k_Ql dC dI (fun (r : Int64) (_ : Unit) => (F_X10_qPartOf (Int32.toInt x_textKind) (Int32.toInt x_askSecond) (Int32.toInt x_redMany) (lf_A g_bar) (lf_A g_kinds) (lf_A g_walkers) (lf_A g_now) (lf_A g_gaps) (lf_A g_waits) (lf_A g_goes) (lf_A g_harms) (Int32.toInt p0) (Int32.toInt p1) = ((Int64.toInt r)))) (fun _ : Unit => [(a_this, .inr (10, mfs rm x_taped x_at x_end x_ended x_bad x_badPlace x_fault x_faultPlace x_namePlace x_awayTold x_away x_coded x_statements x_isCrossing x_textKind x_askSecond x_redMany x_isOpen x_lastGreen x_greenTo x_isCycleGreen x_stillGreen x_rowMany x_fitMany x_fitRules x_fitGreen x_undoable x_newest x_seeded x_qCoded x_qWaits x_qOpened x_qBase x_qPiled x_qAnswer x_qIsNew x_octets)), (wi_rm46_0_48_0 rm cy g_walkers), (wi_rm56_0_9_0 rm cy g_now), (wi_rm43_0_8_0 rm cy g_bar), (wi_rm65_0_12_0 rm cy g_waits), (wi_rm44_0_24_0 rm cy g_kinds), (wi_rm61_0_300_0 rm cy g_gaps), (wi_rm66_3_12_0 rm cy g_goes), (wi_rm67_3_12_0 rm cy g_harms)])) := by
  refine k_ofW2 (by decide +kernel) (Nat.le_of_ble_eq_true rfl) ?_
  intro p e s m below meth c A ls H locs args Q hQ C0 hZ hr hlk hin hP hD hA hS hl
  have C0 : k_cx p s m args c cX10_qPartOf 3 RX10 dC dI cy sq := C0
  have hx := C0.1
  have hb := C0.2.1
  have hl : lv_has ls 3 [(0, .ref a_this), (1, .int p0), (2, .int p1)] := hl
  obtain ⟨O, hO⟩ : ∃ o, o = F_X10_qPartOf (Int32.toInt x_textKind) (Int32.toInt x_askSecond) (Int32.toInt x_redMany) (lf_A g_bar) (lf_A g_kinds) (lf_A g_walkers) (lf_A g_now) (lf_A g_gaps) (lf_A g_waits) (lf_A g_goes) (lf_A g_harms) (Int32.toInt p0) (Int32.toInt p1) := ⟨_, rfl⟩
  have hq := hO
  unfold F_X10_qPartOf at hq
  have jn75 : ∀  (H : Heap) (locs : List Loc) (ls : Array Slot), ib p0 0 0 → ib x_textKind 0 1 → (O = F_X10_qPartOf_75 (Int32.toInt x_askSecond) ) → va_P (dC, dI) vwCl [(a_this, .inr (10, mfs rm x_taped x_at x_end x_ended x_bad x_badPlace x_fault x_faultPlace x_namePlace x_awayTold x_away x_coded x_statements x_isCrossing x_textKind x_askSecond x_redMany x_isOpen x_lastGreen x_greenTo x_isCycleGreen x_stillGreen x_rowMany x_fitMany x_fitRules x_fitGreen x_undoable x_newest x_seeded x_qCoded x_qWaits x_qOpened x_qBase x_qPiled x_qAnswer x_qIsNew x_octets)), (wi_rm46_0_48_0 rm cy g_walkers), (wi_rm56_0_9_0 rm cy g_now), (wi_rm43_0_8_0 rm cy g_bar), (wi_rm65_0_12_0 rm cy g_waits), (wi_rm44_0_24_0 rm cy g_kinds), (wi_rm61_0_300_0 rm cy g_gaps), (wi_rm66_3_12_0 rm cy g_goes), (wi_rm67_3_12_0 rm cy g_harms)] H → va_D A [(a_this, .inr (10, mfs rm x_taped x_at x_end x_ended x_bad x_badPlace x_fault x_faultPlace x_namePlace x_awayTold x_away x_coded x_statements x_isCrossing x_textKind x_askSecond x_redMany x_isOpen x_lastGreen x_greenTo x_isCycleGreen x_stillGreen x_rowMany x_fitMany x_fitRules x_fitGreen x_undoable x_newest x_seeded x_qCoded x_qWaits x_qOpened x_qBase x_qPiled x_qAnswer x_qIsNew x_octets)), (wi_rm46_0_48_0 rm cy g_walkers), (wi_rm56_0_9_0 rm cy g_now), (wi_rm43_0_8_0 rm cy g_bar), (wi_rm65_0_12_0 rm cy g_waits), (wi_rm44_0_24_0 rm cy g_kinds), (wi_rm61_0_300_0 rm cy g_gaps), (wi_rm66_3_12_0 rm cy g_goes), (wi_rm67_3_12_0 rm cy g_harms)] → va_S A s.heap H locs → lv_has ls 3 [(0, .ref a_this), (1, .int p0), (2, .int p1)] → W p l e { frames := 2, cells := 0, slots := 0, locals := 42 } s m args below meth c H locs 0 0 Q (F0 m 75 ls []) := by
    intro H locs ls hK75_p0 hK75_x_textKind hq hP hD hS hl
    unfold F_X10_qPartOf_75 at hq
    refine lv_aload_n hx hb dX10_qPartOf_75 rfl (lv_at hl 0 rfl) ?_
    refine k_get C0 fg_X10_454 hP 0 rfl rfl dX10_qPartOf_76 ?_
    refine lv_i2l (v := x_askSecond.toInt64) hx hb dX10_qPartOf_79 rfl ?_
    refine lv_goto (tgt := 95) hx hb dX10_qPartOf_80 rfl ?_
    subst hQ; exact k_lret hx hb hr hlk () hS ((hO.symm.trans (by rw [lf_ul (lf_i2l (lf_rf x_askSecond))]; exact hq))) hP hD (Nat.le_of_ble_eq_true rfl) (Nat.le_of_ble_eq_true rfl) dX10_qPartOf_95
  refine lv_iload_n hx hb dX10_qPartOf_0 rfl (lv_at hl 1 rfl) ?_
  rcases Decidable.em (p0 = 0) with s1_0 | s1_0
  · as_aux_lemma =>
      skip
      replace hq := lf_pos hq (lf_eq (lf_rf p0) (lf_lc 0 (0 : Int) rfl) s1_0)
      have h2 : ib p0 0 0 := by rw [s1_0]; exact ib_c 0 0 0 rfl
      refine lv_tableIn (off := 59) (tgt := 60) hx hb dX10_qPartOf_1 (by rw [s1_0]; decide) (by rw [s1_0]; decide) (by rw [s1_0]; decide) (by decide) ?_
      refine lv_aload_n hx hb dX10_qPartOf_60 rfl (lv_at hl 0 rfl) ?_
      refine k_get C0 fg_X10_333 hP 0 rfl rfl dX10_qPartOf_61 ?_
      refine lv_if_eq (tgt := 75) hx hb dX10_qPartOf_64 rfl (fun c3 => ?_) (fun c3 => ?_)
      · replace hq := lf_pos hq (lf_eq (lf_rf x_textKind) (lf_lc 0 (0 : Int) rfl) c3)
        have h4 := ib_eq (ib_any x_textKind) (ib_c 0 0 0 rfl) c3
        have h5 : ib x_textKind 0 0 := ib_w 0 0 h4.1 rfl
        exact jn75  H locs ls (ib_w 0 0 h2 rfl) (ib_w 0 1 h5 rfl) (by exact hq) hP hD hS (lv_sub hl [0, 1, 2] rfl)
      · as_aux_lemma =>
          replace hq := lf_neg hq (lf_ne (lf_rf x_textKind) (lf_lc 0 (0 : Int) rfl) c3)
          refine lv_aload_n hx hb dX10_qPartOf_67 rfl (lv_at hl 0 rfl) ?_
          refine k_get C0 fg_X10_333 hP 0 rfl rfl dX10_qPartOf_68 ?_
          refine lv_iconst (v := 1) hx hb dX10_qPartOf_71 rfl ?_
          refine lv_icmp_ne (tgt := 83) hx hb dX10_qPartOf_72 rfl (fun c6 => ?_) (fun c6 => ?_)
          · as_aux_lemma =>
              replace hq := lf_neg hq (lf_ne (lf_rf x_textKind) (lf_lc 1 (1 : Int) rfl) c6)
              refine lv_aload_n hx hb dX10_qPartOf_83 rfl (lv_at hl 0 rfl) ?_
              refine k_get C0 fg_X10_127 hP 0 rfl rfl dX10_qPartOf_84 ?_
              refine lv_bipush (v := 25) hx hb dX10_qPartOf_87 rfl ?_
              refine lv_iconst (v := 2) hx hb dX10_qPartOf_89 rfl ?_
              refine lv_iload_n hx hb dX10_qPartOf_90 rfl (lv_at hl 2 rfl) ?_
              refine lv_imul hx hb dX10_qPartOf_91 ?_
              refine lv_topi (fun z7 ez7 => ?_)
              have h8 := ib_mul (ib_c 2 2 2 rfl) hp1 rfl
              rw [← ez7] at h8
              have h9 : ib z7 0 22 := ib_w 0 22 h8.1 rfl
              have h10 : z7.toInt = 2 * p1.toInt := by have q0 := h8.2; rw [show (2 : Int32).toInt = 2 from by decide] at q0; omega
              have Ez7 := lf_mul h8.2 (lf_lc 2 (2 : Int) rfl) (lf_rf p1)
              refine lv_iadd hx hb dX10_qPartOf_92 ?_
              refine lv_topi (fun z11 ez11 => ?_)
              have h12 := ib_add (ib_c 25 25 25 rfl) h9 rfl
              rw [← ez11] at h12
              have h13 : ib z11 25 47 := ib_w 25 47 h12.1 rfl
              have Ez11 := lf_add h12.2 (lf_lc 25 (25 : Int) rfl) Ez7
              refine va_iald hx hb C0.2.2.2.2.2.1 hP 1 0 rfl rfl (ib_in 48 h13 rfl) dX10_qPartOf_93 ?_
              refine lv_topi (fun z14 ez14 => ?_)
              have h15 : Int32.toNatClampNeg z11 % 2 = 0 → ib z14 0 5 := fun q => by rw [ez14]; exact ip_at hpg_walkers (ib_in 48 h13 rfl) q
              have Ez14 := lf_ld ez14 (lf_ra g_walkers) Ez11
              refine lv_i2l (v := z14.toInt64) hx hb dX10_qPartOf_94 rfl ?_
              subst hQ; exact k_lret hx hb hr hlk () hS ((hO.symm.trans (by rw [lf_ul (lf_i2l Ez14)]; exact hq))) hP hD (Nat.le_of_ble_eq_true rfl) (Nat.le_of_ble_eq_true rfl) dX10_qPartOf_95
          · replace hq := lf_pos hq (lf_eq (lf_rf x_textKind) (lf_lc 1 (1 : Int) rfl) c6)
            have h16 := ib_eq (ib_any x_textKind) (ib_c 1 1 1 rfl) c6
            have h17 : ib x_textKind 1 1 := ib_w 1 1 h16.1 rfl
            exact jn75  H locs ls (ib_w 0 0 h2 rfl) (ib_w 0 1 h17 rfl) (by exact hq) hP hD hS (lv_sub hl [0, 1, 2] rfl)
  replace hq := lf_neg hq (lf_ne (lf_rf p0) (lf_lc 0 (0 : Int) rfl) s1_0)
  rcases Decidable.em (p0 = 1) with s1_1 | s1_1
  · skip
    replace hq := lf_pos hq (lf_eq (lf_rf p0) (lf_lc 1 (1 : Int) rfl) s1_1)
    have h18 : ib p0 1 1 := by rw [s1_1]; exact ib_c 1 1 1 rfl
    refine lv_tableIn (off := 95) (tgt := 96) hx hb dX10_qPartOf_1 (by rw [s1_1]; decide) (by rw [s1_1]; decide) (by rw [s1_1]; decide) (by decide) ?_
    refine lv_aload_n hx hb dX10_qPartOf_96 rfl (lv_at hl 0 rfl) ?_
    refine k_get C0 fg_X10_139 hP 0 rfl rfl dX10_qPartOf_97 ?_
    refine lv_iconst (v := 0) hx hb dX10_qPartOf_100 rfl ?_
    refine va_iald hx hb C0.2.2.2.2.2.1 hP 2 0 rfl rfl (k_in 0 9 rfl) dX10_qPartOf_101 ?_
    refine lv_topi (fun z19 ez19 => ?_)
    have Ez19 := lf_ld ez19 (lf_ra g_now) (lf_lc 0 (0 : Int) rfl)
    refine lv_i2l (v := z19.toInt64) hx hb dX10_qPartOf_102 rfl ?_
    subst hQ; exact k_lret hx hb hr hlk () hS ((hO.symm.trans (by rw [lf_ul (lf_i2l Ez19)]; exact hq))) hP hD (Nat.le_of_ble_eq_true rfl) (Nat.le_of_ble_eq_true rfl) dX10_qPartOf_103
  replace hq := lf_neg hq (lf_ne (lf_rf p0) (lf_lc 1 (1 : Int) rfl) s1_1)
  rcases Decidable.em (p0 = 2) with s1_2 | s1_2
  · skip
    replace hq := lf_pos hq (lf_eq (lf_rf p0) (lf_lc 2 (2 : Int) rfl) s1_2)
    have h20 : ib p0 2 2 := by rw [s1_2]; exact ib_c 2 2 2 rfl
    refine lv_tableIn (off := 103) (tgt := 104) hx hb dX10_qPartOf_1 (by rw [s1_2]; decide) (by rw [s1_2]; decide) (by rw [s1_2]; decide) (by decide) ?_
    refine lv_aload_n hx hb dX10_qPartOf_104 rfl (lv_at hl 0 rfl) ?_
    refine k_get C0 fg_X10_454 hP 0 rfl rfl dX10_qPartOf_105 ?_
    refine lv_aload_n hx hb dX10_qPartOf_108 rfl (lv_at hl 0 rfl) ?_
    refine k_get C0 fg_X10_118 hP 0 rfl rfl dX10_qPartOf_109 ?_
    refine lv_iconst (v := 4) hx hb dX10_qPartOf_112 rfl ?_
    refine va_iald hx hb C0.2.2.2.2.2.1 hP 3 0 rfl rfl (k_in 4 8 rfl) dX10_qPartOf_113 ?_
    refine k_topi (y := g_bar 4) rfl ?_
    refine lv_irem hx hb dX10_qPartOf_114 (ib_nz hg_bar_4 rfl) ?_
    refine lv_topi (fun z21 ez21 => ?_)
    have Ez21 := lf_op lf_irem ez21 (lf_rf x_askSecond) (lf_pt (lf_ra g_bar) 4)
    refine lv_i2l (v := z21.toInt64) hx hb dX10_qPartOf_115 rfl ?_
    subst hQ; exact k_lret hx hb hr hlk () hS ((hO.symm.trans (by rw [lf_ul (lf_i2l Ez21)]; exact hq))) hP hD (Nat.le_of_ble_eq_true rfl) (Nat.le_of_ble_eq_true rfl) dX10_qPartOf_116
  replace hq := lf_neg hq (lf_ne (lf_rf p0) (lf_lc 2 (2 : Int) rfl) s1_2)
  rcases Decidable.em (p0 = 3) with s1_3 | s1_3
  · skip
    replace hq := lf_pos hq (lf_eq (lf_rf p0) (lf_lc 3 (3 : Int) rfl) s1_3)
    have h22 : ib p0 3 3 := by rw [s1_3]; exact ib_c 3 3 3 rfl
    refine lv_tableIn (off := 116) (tgt := 117) hx hb dX10_qPartOf_1 (by rw [s1_3]; decide) (by rw [s1_3]; decide) (by rw [s1_3]; decide) (by decide) ?_
    refine lv_aload_n hx hb dX10_qPartOf_117 rfl (lv_at hl 0 rfl) ?_
    refine k_get C0 fg_X10_161 hP 0 rfl rfl dX10_qPartOf_118 ?_
    refine lv_iload_n hx hb dX10_qPartOf_121 rfl (lv_at hl 2 rfl) ?_
    refine va_iald hx hb C0.2.2.2.2.2.1 hP 4 0 rfl rfl (ib_in 12 hp1 rfl) dX10_qPartOf_122 ?_
    refine lv_topi (fun z23 ez23 => ?_)
    have Ez23 := lf_ld ez23 (lf_ra g_waits) (lf_rf p1)
    refine lv_i2l (v := z23.toInt64) hx hb dX10_qPartOf_123 rfl ?_
    subst hQ; exact k_lret hx hb hr hlk () hS ((hO.symm.trans (by rw [lf_ul (lf_i2l Ez23)]; exact hq))) hP hD (Nat.le_of_ble_eq_true rfl) (Nat.le_of_ble_eq_true rfl) dX10_qPartOf_124
  replace hq := lf_neg hq (lf_ne (lf_rf p0) (lf_lc 3 (3 : Int) rfl) s1_3)
  rcases Decidable.em (p0 = 4) with s1_4 | s1_4
  · as_aux_lemma =>
      skip
      replace hq := lf_pos hq (lf_eq (lf_rf p0) (lf_lc 4 (4 : Int) rfl) s1_4)
      have h24 : ib p0 4 4 := by rw [s1_4]; exact ib_c 4 4 4 rfl
      refine lv_tableIn (off := 124) (tgt := 125) hx hb dX10_qPartOf_1 (by rw [s1_4]; decide) (by rw [s1_4]; decide) (by rw [s1_4]; decide) (by decide) ?_
      refine lv_aload_n hx hb dX10_qPartOf_125 rfl (lv_at hl 0 rfl) ?_
      refine k_get C0 fg_X10_121 hP 0 rfl rfl dX10_qPartOf_126 ?_
      refine lv_bipush (v := 12) hx hb dX10_qPartOf_129 rfl ?_
      refine lv_iconst (v := 2) hx hb dX10_qPartOf_131 rfl ?_
      refine lv_aload_n hx hb dX10_qPartOf_132 rfl (lv_at hl 0 rfl) ?_
      refine lv_iload_n hx hb dX10_qPartOf_133 rfl (lv_at hl 2 rfl) ?_
      refine k_jim hP hD hS hA [0, 1] [false, false, true, true, true, true, true, true, true] rfl rfl (by decide +kernel) 0 0 (Nat.le_of_ble_eq_true rfl) (Nat.le_of_ble_eq_true rfl) (fun hPc hDc => k_runV (As := [.int p1]) (rest := [.int 2, .int 12, .ref (rm 44)]) C0 hZ hS hA (s_X10_kindOf l dC dI cy sq a_this rm x_taped x_at x_end x_ended x_bad x_badPlace x_fault x_faultPlace x_namePlace x_awayTold x_away x_coded x_statements x_isCrossing x_textKind x_askSecond x_redMany x_isOpen x_lastGreen x_greenTo x_isCycleGreen x_stillGreen x_rowMany x_fitMany x_fitRules x_fitGreen x_undoable x_newest x_seeded x_qCoded x_qWaits x_qOpened x_qBase x_qPiled x_qAnswer x_qIsNew x_octets g_walkers p1 hpg_walkers (ib_w 0 11 hp1 rfl)) mV_X10_436 hPc hDc rfl rfl rfl hl rfl rfl (Nat.le_of_ble_eq_true rfl) ⟨(Nat.le_of_ble_eq_true rfl), (Nat.le_of_ble_eq_true rfl)⟩ ⟨(Nat.le_of_ble_eq_true rfl), (Nat.le_of_ble_eq_true rfl)⟩ dX10_qPartOf_134) (fun r25 u26 H locs hw hP hD hS => ?_)
      try dsimp only at hP hD hw
      replace hP : va_P (dC, dI) vwCl [(wi_rm56_0_9_0 rm cy g_now), (wi_rm43_0_8_0 rm cy g_bar), (wi_rm65_0_12_0 rm cy g_waits), (wi_rm44_0_24_0 rm cy g_kinds), (wi_rm61_0_300_0 rm cy g_gaps), (wi_rm66_3_12_0 rm cy g_goes), (wi_rm67_3_12_0 rm cy g_harms), (a_this, .inr (10, mfs rm x_taped x_at x_end x_ended x_bad x_badPlace x_fault x_faultPlace x_namePlace x_awayTold x_away x_coded x_statements x_isCrossing x_textKind x_askSecond x_redMany x_isOpen x_lastGreen x_greenTo x_isCycleGreen x_stillGreen x_rowMany x_fitMany x_fitRules x_fitGreen x_undoable x_newest x_seeded x_qCoded x_qWaits x_qOpened x_qBase x_qPiled x_qAnswer x_qIsNew x_octets)), (wi_rm46_0_48_0 rm cy g_walkers)] H := hP
      replace hD := k_D hP hD
      obtain ⟨h27, h28⟩ := hw
      replace hq := lf_b1 hq h28
      refine lv_imul hx hb dX10_qPartOf_137 ?_
      refine lv_topi (fun z29 ez29 => ?_)
      have h30 := ib_mul (ib_c 2 2 2 rfl) h27 rfl
      rw [← ez29] at h30
      have h31 : ib z29 0 10 := ib_w 0 10 h30.1 rfl
      have h32 : z29.toInt = 2 * r25.toInt := by have q0 := h30.2; rw [show (2 : Int32).toInt = 2 from by decide] at q0; omega
      have Ez29 := lf_mul h30.2 (lf_lc 2 (2 : Int) rfl) (lf_rf r25)
      refine lv_iadd hx hb dX10_qPartOf_138 ?_
      refine lv_topi (fun z33 ez33 => ?_)
      have h34 := ib_add (ib_c 12 12 12 rfl) h31 rfl
      rw [← ez33] at h34
      have h35 : ib z33 12 22 := ib_w 12 22 h34.1 rfl
      have Ez33 := lf_add h34.2 (lf_lc 12 (12 : Int) rfl) Ez29
      refine va_iald hx hb C0.2.2.2.2.2.1 hP 3 0 rfl rfl (ib_in 24 h35 rfl) dX10_qPartOf_139 ?_
      refine lv_topi (fun z36 ez36 => ?_)
      have Ez36 := lf_ld ez36 (lf_ra g_kinds) Ez33
      refine lv_i2l (v := z36.toInt64) hx hb dX10_qPartOf_140 rfl ?_
      subst hQ; exact k_lret hx hb hr hlk () hS ((hO.symm.trans (by rw [lf_ul (lf_i2l Ez36)]; exact hq))) (hP.sub [7, 8, 0, 1, 2, 3, 4, 5, 6] rfl) (hD.sub [7, 8, 0, 1, 2, 3, 4, 5, 6] rfl rfl) (Nat.le_of_ble_eq_true rfl) (Nat.le_of_ble_eq_true rfl) dX10_qPartOf_141
  replace hq := lf_neg hq (lf_ne (lf_rf p0) (lf_lc 4 (4 : Int) rfl) s1_4)
  rcases Decidable.em (p0 = 5) with s1_5 | s1_5
  · skip
    replace hq := lf_pos hq (lf_eq (lf_rf p0) (lf_lc 5 (5 : Int) rfl) s1_5)
    have h37 : ib p0 5 5 := by rw [s1_5]; exact ib_c 5 5 5 rfl
    refine lv_tableIn (off := 141) (tgt := 142) hx hb dX10_qPartOf_1 (by rw [s1_5]; decide) (by rw [s1_5]; decide) (by rw [s1_5]; decide) (by decide) ?_
    refine lv_aload_n hx hb dX10_qPartOf_142 rfl (lv_at hl 0 rfl) ?_
    refine lv_iload_n hx hb dX10_qPartOf_143 rfl (lv_at hl 2 rfl) ?_
    refine k_jim hP hD hS hA [0, 1, 5] [false, false, true, true, true, false, true, true, true] rfl rfl (by decide +kernel) 0 0 (Nat.le_of_ble_eq_true rfl) (Nat.le_of_ble_eq_true rfl) (fun hPc hDc => k_runV (As := [.int p1]) (rest := []) C0 hZ hS hA (s_X10_paceOf l dC dI cy sq a_this rm x_taped x_at x_end x_ended x_bad x_badPlace x_fault x_faultPlace x_namePlace x_awayTold x_away x_coded x_statements x_isCrossing x_textKind x_askSecond x_redMany x_isOpen x_lastGreen x_greenTo x_isCycleGreen x_stillGreen x_rowMany x_fitMany x_fitRules x_fitGreen x_undoable x_newest x_seeded x_qCoded x_qWaits x_qOpened x_qBase x_qPiled x_qAnswer x_qIsNew x_octets g_kinds g_walkers p1 hpg_walkers (ib_w 0 11 hp1 rfl)) mV_X10_481 hPc hDc rfl rfl rfl hl rfl rfl (Nat.le_of_ble_eq_true rfl) ⟨(Nat.le_of_ble_eq_true rfl), (Nat.le_of_ble_eq_true rfl)⟩ ⟨(Nat.le_of_ble_eq_true rfl), (Nat.le_of_ble_eq_true rfl)⟩ dX10_qPartOf_144) (fun r38 u39 H locs hw hP hD hS => ?_)
    try dsimp only at hP hD hw
    replace hP : va_P (dC, dI) vwCl [(wi_rm56_0_9_0 rm cy g_now), (wi_rm43_0_8_0 rm cy g_bar), (wi_rm65_0_12_0 rm cy g_waits), (wi_rm61_0_300_0 rm cy g_gaps), (wi_rm66_3_12_0 rm cy g_goes), (wi_rm67_3_12_0 rm cy g_harms), (a_this, .inr (10, mfs rm x_taped x_at x_end x_ended x_bad x_badPlace x_fault x_faultPlace x_namePlace x_awayTold x_away x_coded x_statements x_isCrossing x_textKind x_askSecond x_redMany x_isOpen x_lastGreen x_greenTo x_isCycleGreen x_stillGreen x_rowMany x_fitMany x_fitRules x_fitGreen x_undoable x_newest x_seeded x_qCoded x_qWaits x_qOpened x_qBase x_qPiled x_qAnswer x_qIsNew x_octets)), (wi_rm46_0_48_0 rm cy g_walkers), (wi_rm44_0_24_0 rm cy g_kinds)] H := hP
    replace hD := k_D hP hD
    have h40 := hw
    replace hq := lf_b1 hq h40
    refine lv_i2l (v := r38.toInt64) hx hb dX10_qPartOf_147 rfl ?_
    subst hQ; exact k_lret hx hb hr hlk () hS ((hO.symm.trans (by rw [lf_ul (lf_i2l (lf_rf r38))]; exact hq))) (hP.sub [6, 7, 0, 1, 2, 8, 3, 4, 5] rfl) (hD.sub [6, 7, 0, 1, 2, 8, 3, 4, 5] rfl rfl) (Nat.le_of_ble_eq_true rfl) (Nat.le_of_ble_eq_true rfl) dX10_qPartOf_148
  replace hq := lf_neg hq (lf_ne (lf_rf p0) (lf_lc 5 (5 : Int) rfl) s1_5)
  rcases Decidable.em (p0 = 6) with s1_6 | s1_6
  · as_aux_lemma =>
      skip
      replace hq := lf_pos hq (lf_eq (lf_rf p0) (lf_lc 6 (6 : Int) rfl) s1_6)
      have h41 : ib p0 6 6 := by rw [s1_6]; exact ib_c 6 6 6 rfl
      refine lv_tableIn (off := 148) (tgt := 149) hx hb dX10_qPartOf_1 (by rw [s1_6]; decide) (by rw [s1_6]; decide) (by rw [s1_6]; decide) (by decide) ?_
      refine lv_aload_n hx hb dX10_qPartOf_149 rfl (lv_at hl 0 rfl) ?_
      refine lv_aload_n hx hb dX10_qPartOf_150 rfl (lv_at hl 0 rfl) ?_
      refine lv_iload_n hx hb dX10_qPartOf_151 rfl (lv_at hl 2 rfl) ?_
      refine k_jim hP hD hS hA [0, 1] [false, false, true, true, true, true, true, true, true] rfl rfl (by decide +kernel) 0 0 (Nat.le_of_ble_eq_true rfl) (Nat.le_of_ble_eq_true rfl) (fun hPc hDc => k_runV (As := [.int p1]) (rest := [.ref a_this]) C0 hZ hS hA (s_X10_kindOf l dC dI cy sq a_this rm x_taped x_at x_end x_ended x_bad x_badPlace x_fault x_faultPlace x_namePlace x_awayTold x_away x_coded x_statements x_isCrossing x_textKind x_askSecond x_redMany x_isOpen x_lastGreen x_greenTo x_isCycleGreen x_stillGreen x_rowMany x_fitMany x_fitRules x_fitGreen x_undoable x_newest x_seeded x_qCoded x_qWaits x_qOpened x_qBase x_qPiled x_qAnswer x_qIsNew x_octets g_walkers p1 hpg_walkers (ib_w 0 11 hp1 rfl)) mV_X10_436 hPc hDc rfl rfl rfl hl rfl rfl (Nat.le_of_ble_eq_true rfl) ⟨(Nat.le_of_ble_eq_true rfl), (Nat.le_of_ble_eq_true rfl)⟩ ⟨(Nat.le_of_ble_eq_true rfl), (Nat.le_of_ble_eq_true rfl)⟩ dX10_qPartOf_152) (fun r42 u43 H locs hw hP hD hS => ?_)
      try dsimp only at hP hD hw
      replace hP : va_P (dC, dI) vwCl [(wi_rm56_0_9_0 rm cy g_now), (wi_rm43_0_8_0 rm cy g_bar), (wi_rm65_0_12_0 rm cy g_waits), (wi_rm44_0_24_0 rm cy g_kinds), (wi_rm61_0_300_0 rm cy g_gaps), (wi_rm66_3_12_0 rm cy g_goes), (wi_rm67_3_12_0 rm cy g_harms), (a_this, .inr (10, mfs rm x_taped x_at x_end x_ended x_bad x_badPlace x_fault x_faultPlace x_namePlace x_awayTold x_away x_coded x_statements x_isCrossing x_textKind x_askSecond x_redMany x_isOpen x_lastGreen x_greenTo x_isCycleGreen x_stillGreen x_rowMany x_fitMany x_fitRules x_fitGreen x_undoable x_newest x_seeded x_qCoded x_qWaits x_qOpened x_qBase x_qPiled x_qAnswer x_qIsNew x_octets)), (wi_rm46_0_48_0 rm cy g_walkers)] H := hP
      replace hD := k_D hP hD
      obtain ⟨h44, h45⟩ := hw
      replace hq := lf_b1 hq h45
      refine k_jim hP hD hS hA [7, 0] [false, true, true, true, true, true, true, false, true] rfl rfl (by decide +kernel) 0 0 (Nat.le_of_ble_eq_true rfl) (Nat.le_of_ble_eq_true rfl) (fun hPc hDc => k_runV (As := [.int r42]) (rest := []) C0 hZ hS hA (s_X10_trustsOf l dC dI cy sq a_this rm x_taped x_at x_end x_ended x_bad x_badPlace x_fault x_faultPlace x_namePlace x_awayTold x_away x_coded x_statements x_isCrossing x_textKind x_askSecond x_redMany x_isOpen x_lastGreen x_greenTo x_isCycleGreen x_stillGreen x_rowMany x_fitMany x_fitRules x_fitGreen x_undoable x_newest x_seeded x_qCoded x_qWaits x_qOpened x_qBase x_qPiled x_qAnswer x_qIsNew x_octets g_now r42 (ib_w 0 5 h44 rfl)) mV_X10_463 hPc hDc rfl rfl rfl hl rfl rfl (Nat.le_of_ble_eq_true rfl) ⟨(Nat.le_of_ble_eq_true rfl), (Nat.le_of_ble_eq_true rfl)⟩ ⟨(Nat.le_of_ble_eq_true rfl), (Nat.le_of_ble_eq_true rfl)⟩ dX10_qPartOf_155) (fun r46 u47 H locs hw hP hD hS => ?_)
      try dsimp only at hP hD hw
      replace hP : va_P (dC, dI) vwCl [(wi_rm43_0_8_0 rm cy g_bar), (wi_rm65_0_12_0 rm cy g_waits), (wi_rm44_0_24_0 rm cy g_kinds), (wi_rm61_0_300_0 rm cy g_gaps), (wi_rm66_3_12_0 rm cy g_goes), (wi_rm67_3_12_0 rm cy g_harms), (wi_rm46_0_48_0 rm cy g_walkers), (a_this, .inr (10, mfs rm x_taped x_at x_end x_ended x_bad x_badPlace x_fault x_faultPlace x_namePlace x_awayTold x_away x_coded x_statements x_isCrossing x_textKind x_askSecond x_redMany x_isOpen x_lastGreen x_greenTo x_isCycleGreen x_stillGreen x_rowMany x_fitMany x_fitRules x_fitGreen x_undoable x_newest x_seeded x_qCoded x_qWaits x_qOpened x_qBase x_qPiled x_qAnswer x_qIsNew x_octets)), (wi_rm56_0_9_0 rm cy g_now)] H := hP
      replace hD := k_D hP hD
      have h48 := hw
      replace hq := lf_b1 hq h48
      refine lv_i2l (v := r46.toInt64) hx hb dX10_qPartOf_158 rfl ?_
      subst hQ; exact k_lret hx hb hr hlk () hS ((hO.symm.trans (by rw [lf_ul (lf_i2l (lf_rf r46))]; exact hq))) (hP.sub [7, 6, 8, 0, 1, 2, 3, 4, 5] rfl) (hD.sub [7, 6, 8, 0, 1, 2, 3, 4, 5] rfl rfl) (Nat.le_of_ble_eq_true rfl) (Nat.le_of_ble_eq_true rfl) dX10_qPartOf_159
  replace hq := lf_neg hq (lf_ne (lf_rf p0) (lf_lc 6 (6 : Int) rfl) s1_6)
  as_aux_lemma =>
    rcases Decidable.em (p0 = 7) with s1_7 | s1_7
    · skip
      replace hq := lf_pos hq (lf_eq (lf_rf p0) (lf_lc 7 (7 : Int) rfl) s1_7)
      have h49 : ib p0 7 7 := by rw [s1_7]; exact ib_c 7 7 7 rfl
      refine lv_tableIn (off := 159) (tgt := 160) hx hb dX10_qPartOf_1 (by rw [s1_7]; decide) (by rw [s1_7]; decide) (by rw [s1_7]; decide) (by decide) ?_
      have h50 : ib x_askSecond 0 299 := h7 s1_7
      refine lv_aload_n hx hb dX10_qPartOf_160 rfl (lv_at hl 0 rfl) ?_
      refine k_get C0 fg_X10_149 hP 0 rfl rfl dX10_qPartOf_161 ?_
      refine lv_aload_n hx hb dX10_qPartOf_164 rfl (lv_at hl 0 rfl) ?_
      refine k_get C0 fg_X10_454 hP 0 rfl rfl dX10_qPartOf_165 ?_
      refine va_iald hx hb C0.2.2.2.2.2.1 hP 6 0 rfl rfl (ib_in 300 h50 rfl) dX10_qPartOf_168 ?_
      refine lv_topi (fun z51 ez51 => ?_)
      have h52 : ib z51 0 20 := by rw [ez51]; exact ia_at hg_gaps (ib_in 300 h50 rfl)
      have Ez51 := lf_ld ez51 (lf_ra g_gaps) (lf_rf x_askSecond)
      refine lv_i2l (v := z51.toInt64) hx hb dX10_qPartOf_169 rfl ?_
      subst hQ; exact k_lret hx hb hr hlk () hS ((hO.symm.trans (by rw [lf_ul (lf_i2l Ez51)]; exact hq))) hP hD (Nat.le_of_ble_eq_true rfl) (Nat.le_of_ble_eq_true rfl) dX10_qPartOf_170
    replace hq := lf_neg hq (lf_ne (lf_rf p0) (lf_lc 7 (7 : Int) rfl) s1_7)
    rcases Decidable.em (p0 = 8) with s1_8 | s1_8
    · skip
      replace hq := lf_pos hq (lf_eq (lf_rf p0) (lf_lc 8 (8 : Int) rfl) s1_8)
      have h53 : ib p0 8 8 := by rw [s1_8]; exact ib_c 8 8 8 rfl
      refine lv_tableIn (off := 170) (tgt := 171) hx hb dX10_qPartOf_1 (by rw [s1_8]; decide) (by rw [s1_8]; decide) (by rw [s1_8]; decide) (by decide) ?_
      refine lv_aload_n hx hb dX10_qPartOf_171 rfl (lv_at hl 0 rfl) ?_
      refine k_get C0 fg_X10_488 hP 0 rfl rfl dX10_qPartOf_172 ?_
      refine lv_i2l (v := x_redMany.toInt64) hx hb dX10_qPartOf_175 rfl ?_
      subst hQ; exact k_lret hx hb hr hlk () hS ((hO.symm.trans (by rw [lf_ul (lf_i2l (lf_rf x_redMany))]; exact hq))) hP hD (Nat.le_of_ble_eq_true rfl) (Nat.le_of_ble_eq_true rfl) dX10_qPartOf_176
    replace hq := lf_neg hq (lf_ne (lf_rf p0) (lf_lc 8 (8 : Int) rfl) s1_8)
    rcases Decidable.em (p0 = 9) with s1_9 | s1_9
    · skip
      replace hq := lf_pos hq (lf_eq (lf_rf p0) (lf_lc 9 (9 : Int) rfl) s1_9)
      have h54 : ib p0 9 9 := by rw [s1_9]; exact ib_c 9 9 9 rfl
      refine lv_tableIn (off := 176) (tgt := 177) hx hb dX10_qPartOf_1 (by rw [s1_9]; decide) (by rw [s1_9]; decide) (by rw [s1_9]; decide) (by decide) ?_
      refine lv_iload_n hx hb dX10_qPartOf_177 rfl (lv_at hl 2 rfl) ?_
      refine lv_i2l (v := p1.toInt64) hx hb dX10_qPartOf_178 rfl ?_
      subst hQ; exact k_lret hx hb hr hlk () hS ((hO.symm.trans (by rw [lf_ul (lf_i2l (lf_rf p1))]; exact hq))) hP hD (Nat.le_of_ble_eq_true rfl) (Nat.le_of_ble_eq_true rfl) dX10_qPartOf_179
    replace hq := lf_neg hq (lf_ne (lf_rf p0) (lf_lc 9 (9 : Int) rfl) s1_9)
    rcases Decidable.em (p0 = 10) with s1_10 | s1_10
    · as_aux_lemma =>
        skip
        replace hq := lf_pos hq (lf_eq (lf_rf p0) (lf_lc 10 (10 : Int) rfl) s1_10)
        have h55 : ib p0 10 10 := by rw [s1_10]; exact ib_c 10 10 10 rfl
        refine lv_tableIn (off := 179) (tgt := 180) hx hb dX10_qPartOf_1 (by rw [s1_10]; decide) (by rw [s1_10]; decide) (by rw [s1_10]; decide) (by decide) ?_
        refine lv_aload_n hx hb dX10_qPartOf_180 rfl (lv_at hl 0 rfl) ?_
        refine k_get C0 fg_X10_164 hP 0 rfl rfl dX10_qPartOf_181 ?_
        refine lv_iload_n hx hb dX10_qPartOf_184 rfl (lv_at hl 2 rfl) ?_
        refine va_zald hx hb C0.2.2.2.2.2.1 hP 7 3 rfl rfl (ib_in 12 hp1 rfl) dX10_qPartOf_185 ?_
        refine lv_topi (fun z56 ez56 => ?_)
        have Ez56 := lf_ld ez56 (lf_ra g_goes) (lf_rf p1)
        refine lv_if_eq (tgt := 193) hx hb dX10_qPartOf_186 rfl (fun c57 => ?_) (fun c57 => ?_)
        · replace hq := lf_pos hq (lf_eq Ez56 (lf_lc 0 (0 : Int) rfl) c57)
          have h58 := ib_eq (ib_any z56) (ib_c 0 0 0 rfl) c57
          have h59 : ib z56 0 0 := ib_w 0 0 h58.1 rfl
          refine lv_lconst (v := 0) hx hb dX10_qPartOf_193 (by decide) ?_
          subst hQ; exact k_lret hx hb hr hlk () hS ((hO.symm.trans (by try simp only [show (0 : Int64).toInt = (0 : Int) from rfl]; exact hq))) hP hD (Nat.le_of_ble_eq_true rfl) (Nat.le_of_ble_eq_true rfl) dX10_qPartOf_194
        · replace hq := lf_neg hq (lf_ne Ez56 (lf_lc 0 (0 : Int) rfl) c57)
          refine lv_lconst (v := 1) hx hb dX10_qPartOf_189 (by decide) ?_
          refine lv_goto (tgt := 194) hx hb dX10_qPartOf_190 rfl ?_
          subst hQ; exact k_lret hx hb hr hlk () hS ((hO.symm.trans (by try simp only [show (1 : Int64).toInt = (1 : Int) from rfl]; exact hq))) hP hD (Nat.le_of_ble_eq_true rfl) (Nat.le_of_ble_eq_true rfl) dX10_qPartOf_194
    replace hq := lf_neg hq (lf_ne (lf_rf p0) (lf_lc 10 (10 : Int) rfl) s1_10)
    refine lv_tableOut (tgt := 195) hx hb dX10_qPartOf_1 (by have q0 := ib_nei 0 0 rfl s1_0; have q1 := ib_nei 1 1 rfl s1_1; have q2 := ib_nei 2 2 rfl s1_2; have q3 := ib_nei 3 3 rfl s1_3; have q4 := ib_nei 4 4 rfl s1_4; have q5 := ib_nei 5 5 rfl s1_5; have q6 := ib_nei 6 6 rfl s1_6; have q7 := ib_nei 7 7 rfl s1_7; have q8 := ib_nei 8 8 rfl s1_8; have q9 := ib_nei 9 9 rfl s1_9; have q10 := ib_nei 10 10 rfl s1_10; omega) (by decide) ?_
    refine lv_aload_n hx hb dX10_qPartOf_195 rfl (lv_at hl 0 rfl) ?_
    refine k_get C0 fg_X10_167 hP 0 rfl rfl dX10_qPartOf_196 ?_
    refine lv_iload_n hx hb dX10_qPartOf_199 rfl (lv_at hl 2 rfl) ?_
    refine va_zald hx hb C0.2.2.2.2.2.1 hP 8 3 rfl rfl (ib_in 12 hp1 rfl) dX10_qPartOf_200 ?_
    refine lv_topi (fun z60 ez60 => ?_)
    have Ez60 := lf_ld ez60 (lf_ra g_harms) (lf_rf p1)
    refine lv_if_eq (tgt := 208) hx hb dX10_qPartOf_201 rfl (fun c61 => ?_) (fun c61 => ?_)
    · replace hq := lf_pos hq (lf_eq Ez60 (lf_lc 0 (0 : Int) rfl) c61)
      have h62 := ib_eq (ib_any z60) (ib_c 0 0 0 rfl) c61
      have h63 : ib z60 0 0 := ib_w 0 0 h62.1 rfl
      refine lv_lconst (v := 0) hx hb dX10_qPartOf_208 (by decide) ?_
      subst hQ; exact k_lret hx hb hr hlk () hS ((hO.symm.trans (by try simp only [show (0 : Int64).toInt = (0 : Int) from rfl]; exact hq))) hP hD (Nat.le_of_ble_eq_true rfl) (Nat.le_of_ble_eq_true rfl) dX10_qPartOf_209
    · replace hq := lf_neg hq (lf_ne Ez60 (lf_lc 0 (0 : Int) rfl) c61)
      refine lv_lconst (v := 1) hx hb dX10_qPartOf_204 (by decide) ?_
      refine lv_goto (tgt := 209) hx hb dX10_qPartOf_205 rfl ?_
      subst hQ; exact k_lret hx hb hr hlk () hS ((hO.symm.trans (by try simp only [show (1 : Int64).toInt = (1 : Int) from rfl]; exact hq))) hP hD (Nat.le_of_ble_eq_true rfl) (Nat.le_of_ble_eq_true rfl) dX10_qPartOf_209
set_option maxHeartbeats 4000000 in
set_option maxRecDepth 100000 in
theorem s_X10_codesTell_a0_1 (l : Launch) (dC : Nat → ClassId) (dI : Nat → Nat → Nat) (cy : Nat → ClassId) (sq : Nat → Nat) (a_this : Nat) (rm : Nat → Nat) (x_taped : Int32) (x_at : Int32) (x_end : Int32) (x_ended : Int32) (x_bad : Int32) (x_badPlace : Int32) (x_fault : Int32) (x_faultPlace : Int32) (x_namePlace : Int32) (x_awayTold : Int32) (x_away : Int32) (x_coded : Int32) (x_statements : Int32) (x_isCrossing : Int32) (x_textKind : Int32) (x_askSecond : Int32) (x_redMany : Int32) (x_isOpen : Int32) (x_lastGreen : Int32) (x_greenTo : Int32) (x_isCycleGreen : Int32) (x_stillGreen : Int32) (x_rowMany : Int32) (x_fitMany : Int32) (x_fitRules : Int32) (x_fitGreen : Int32) (x_undoable : Int32) (x_newest : Int32) (x_seeded : Int64) (x_qCoded : Int32) (x_qWaits : Int32) (x_qOpened : Int32) (x_qBase : Int32) (x_qPiled : Int32) (x_qAnswer : Int64) (x_qIsNew : Int32) (x_octets : Int32) (g_bar : Nat → Int32) (g_kinds : Nat → Int32) (g_walkers : Nat → Int32) (g_codeFrom : Nat → Int32) (g_codeEnd : Nat → Int32) (g_codes : Nat → Int32) (g_now : Nat → Int32) (g_gaps : Nat → Int32) (g_waits : Nat → Int32) (g_goes : Nat → Int32) (g_harms : Nat → Int32) (g_qPile : Nat → Int64) (p1 : Int32) (hx_askSecond : ib x_askSecond 0 299) (hg_bar_4 : ib (g_bar 4) 10 120) (hpg_walkers : ip g_walkers 48 2 0 0 5) (hg_codeFrom_4 : ib (g_codeFrom 4) 0 1600) (hg_codeEnd_4 : ib (g_codeEnd 4) 0 1600) (hg_gaps : ia g_gaps 300 0 20) (hG1 : ¬ g_codeFrom 4 = (-1) → okc g_codes 1600 true (g_codeFrom 4) (g_codeEnd 4)) (hp1 : ib p1 0 11) : k_Met l yX10_codesTell cX10_codesTell 5 (some .long) { frames := 3, cells := 0, slots := 0, locals := 64 } dC dI cy sq [.ref a_this, .int 1, .int p1] [(a_this, .inr (10, mfs rm x_taped x_at x_end x_ended x_bad x_badPlace x_fault x_faultPlace x_namePlace x_awayTold x_away x_coded x_statements x_isCrossing x_textKind x_askSecond x_redMany x_isOpen x_lastGreen x_greenTo x_isCycleGreen x_stillGreen x_rowMany x_fitMany x_fitRules x_fitGreen x_undoable x_newest x_seeded x_qCoded x_qWaits x_qOpened x_qBase x_qPiled x_qAnswer x_qIsNew x_octets)), (wi_rm49_0_6_0 rm cy g_codeFrom), (wi_rm50_0_6_0 rm cy g_codeEnd), (wi_rm116_1_1700_1 rm cy g_qPile), (wi_rm51_0_3200_0 rm cy g_codes), (wi_rm46_0_48_0 rm cy g_walkers), (wi_rm56_0_9_0 rm cy g_now), (wi_rm43_0_8_0 rm cy g_bar), (wi_rm65_0_12_0 rm cy g_waits), (wi_rm44_0_24_0 rm cy g_kinds), (wi_rm61_0_300_0 rm cy g_gaps), (wi_rm66_3_12_0 rm cy g_goes), (wi_rm67_3_12_0 rm cy g_harms)] (k_Ql dC dI (fun (r : Int64) (u : Int32 × (Nat → Int64)) => match u with | (n0, n1) => ib n0 0 1600 ∧ (F_X10_codesTell_a0_1 (Int32.toInt x_askSecond) (Int32.toInt x_redMany) (lf_A g_bar) (lf_A g_kinds) (lf_A g_walkers) (lf_A g_codeFrom) (lf_A g_codeEnd) (lf_A g_codes) (lf_A g_now) (lf_A g_gaps) (lf_A g_waits) (lf_A g_goes) (lf_A g_harms) (lf_L g_qPile) (Int32.toInt p1) = ((Int64.toInt r), (Int32.toInt n0), (lf_L n1)))) (fun u : Int32 × (Nat → Int64) => match u with | (n0, n1) => [(a_this, .inr (10, mfs rm x_taped x_at x_end x_ended x_bad x_badPlace x_fault x_faultPlace x_namePlace x_awayTold x_away x_coded x_statements x_isCrossing 1 x_askSecond x_redMany x_isOpen x_lastGreen x_greenTo x_isCycleGreen x_stillGreen x_rowMany x_fitMany x_fitRules x_fitGreen x_undoable x_newest x_seeded x_qCoded x_qWaits x_qOpened x_qBase n0 x_qAnswer x_qIsNew x_octets)), (wi_rm49_0_6_0 rm cy g_codeFrom), (wi_rm50_0_6_0 rm cy g_codeEnd), (wi_rm116_1_1700_1 rm cy n1), (wi_rm51_0_3200_0 rm cy g_codes), (wi_rm46_0_48_0 rm cy g_walkers), (wi_rm56_0_9_0 rm cy g_now), (wi_rm43_0_8_0 rm cy g_bar), (wi_rm65_0_12_0 rm cy g_waits), (wi_rm44_0_24_0 rm cy g_kinds), (wi_rm61_0_300_0 rm cy g_gaps), (wi_rm66_3_12_0 rm cy g_goes), (wi_rm67_3_12_0 rm cy g_harms)])) := by
  refine k_ofW2 (by decide +kernel) (Nat.le_of_ble_eq_true rfl) ?_
  intro p e s m below meth c A ls H locs args Q hQ C0 hZ hr hlk hin hP hD hA hS hl
  have C0 : k_cx p s m args c cX10_codesTell 5 RX10 dC dI cy sq := C0
  have hx := C0.1
  have hb := C0.2.1
  have hl : lv_has ls 5 [(0, .ref a_this), (1, .int 1), (2, .int p1)] := hl
  obtain ⟨O, hO⟩ : ∃ o, o = F_X10_codesTell_a0_1 (Int32.toInt x_askSecond) (Int32.toInt x_redMany) (lf_A g_bar) (lf_A g_kinds) (lf_A g_walkers) (lf_A g_codeFrom) (lf_A g_codeEnd) (lf_A g_codes) (lf_A g_now) (lf_A g_gaps) (lf_A g_waits) (lf_A g_goes) (lf_A g_harms) (lf_L g_qPile) (Int32.toInt p1) := ⟨_, rfl⟩
  have hq := hO
  unfold F_X10_codesTell_a0_1 at hq
  have jn19 : ∀ (n : Nat) (J19_l3 : Int32) (J19_c0_117 : Int32) (J19_a3 : Nat → Int64) (H : Heap) (locs : List Loc) (ls : Array Slot), ib J19_l3 0 1600 → ib J19_c0_117 0 1600 → (1 * J19_c0_117.toInt + (-1) * J19_l3.toInt ≤ 0) → (O = F_X10_codesTell_a0_1_19 (Int32.toInt x_askSecond) (Int32.toInt x_redMany) (lf_A g_bar) (lf_A g_kinds) (lf_A g_walkers) (lf_A g_codeEnd) (lf_A g_codes) (lf_A g_now) (lf_A g_gaps) (lf_A g_waits) (lf_A g_goes) (lf_A g_harms) (Int32.toInt p1) n (Int32.toInt J19_l3) (Int32.toInt J19_c0_117) (lf_L J19_a3)) → (cdl g_codes 1600 (g_codeFrom 4) J19_l3 J19_c0_117) → 1601 ≤ J19_l3.toInt + (n : Int) → va_P (dC, dI) vwCl [(a_this, .inr (10, mfs rm x_taped x_at x_end x_ended x_bad x_badPlace x_fault x_faultPlace x_namePlace x_awayTold x_away x_coded x_statements x_isCrossing 1 x_askSecond x_redMany x_isOpen x_lastGreen x_greenTo x_isCycleGreen x_stillGreen x_rowMany x_fitMany x_fitRules x_fitGreen x_undoable x_newest x_seeded x_qCoded x_qWaits x_qOpened x_qBase J19_c0_117 x_qAnswer x_qIsNew x_octets)), (wi_rm49_0_6_0 rm cy g_codeFrom), (wi_rm50_0_6_0 rm cy g_codeEnd), (wi_rm116_1_1700_1 rm cy J19_a3), (wi_rm51_0_3200_0 rm cy g_codes), (wi_rm46_0_48_0 rm cy g_walkers), (wi_rm56_0_9_0 rm cy g_now), (wi_rm43_0_8_0 rm cy g_bar), (wi_rm65_0_12_0 rm cy g_waits), (wi_rm44_0_24_0 rm cy g_kinds), (wi_rm61_0_300_0 rm cy g_gaps), (wi_rm66_3_12_0 rm cy g_goes), (wi_rm67_3_12_0 rm cy g_harms)] H → va_D A [(a_this, .inr (10, mfs rm x_taped x_at x_end x_ended x_bad x_badPlace x_fault x_faultPlace x_namePlace x_awayTold x_away x_coded x_statements x_isCrossing 1 x_askSecond x_redMany x_isOpen x_lastGreen x_greenTo x_isCycleGreen x_stillGreen x_rowMany x_fitMany x_fitRules x_fitGreen x_undoable x_newest x_seeded x_qCoded x_qWaits x_qOpened x_qBase J19_c0_117 x_qAnswer x_qIsNew x_octets)), (wi_rm49_0_6_0 rm cy g_codeFrom), (wi_rm50_0_6_0 rm cy g_codeEnd), (wi_rm116_1_1700_1 rm cy J19_a3), (wi_rm51_0_3200_0 rm cy g_codes), (wi_rm46_0_48_0 rm cy g_walkers), (wi_rm56_0_9_0 rm cy g_now), (wi_rm43_0_8_0 rm cy g_bar), (wi_rm65_0_12_0 rm cy g_waits), (wi_rm44_0_24_0 rm cy g_kinds), (wi_rm61_0_300_0 rm cy g_gaps), (wi_rm66_3_12_0 rm cy g_goes), (wi_rm67_3_12_0 rm cy g_harms)] → va_S A s.heap H locs → lv_has ls 5 [(0, .ref a_this), (1, .int 1), (2, .int p1), (3, .int J19_l3)] → W p l e { frames := 3, cells := 0, slots := 0, locals := 64 } s m args below meth c H locs 0 0 Q (F0 m 19 ls []) := by
    as_aux_lemma =>
      intro n
      induction n with
      | zero =>
        intro J19_l3 J19_c0_117 J19_a3 H locs ls hJ19_l3 hJ19_c0_117 hJ19_lin0 hq hJ19_gh hm
        exact absurd hm (by have := hJ19_l3; unfold ib at this; omega)
      | succ n ih =>
        intro J19_l3 J19_c0_117 J19_a3 H locs ls hJ19_l3 hJ19_c0_117 hJ19_lin0 hq hJ19_gh hm19 hP hD hS hl
        have ih19 := ih
        obtain ⟨K19, hK19⟩ : ∃ K, K = F_X10_codesTell_a0_1_19 (Int32.toInt x_askSecond) (Int32.toInt x_redMany) (lf_A g_bar) (lf_A g_kinds) (lf_A g_walkers) (lf_A g_codeEnd) (lf_A g_codes) (lf_A g_now) (lf_A g_gaps) (lf_A g_waits) (lf_A g_goes) (lf_A g_harms) (Int32.toInt p1) n := ⟨_, rfl⟩
        have hq : O = F_X10_codesTell_a0_1_19b (Int32.toInt x_askSecond) (Int32.toInt x_redMany) (lf_A g_bar) (lf_A g_kinds) (lf_A g_walkers) (lf_A g_codeEnd) (lf_A g_codes) (lf_A g_now) (lf_A g_gaps) (lf_A g_waits) (lf_A g_goes) (lf_A g_harms) (Int32.toInt p1) K19 (Int32.toInt J19_l3) (Int32.toInt J19_c0_117) (lf_L J19_a3) := by rw [hK19]; exact hq
        unfold F_X10_codesTell_a0_1_19b at hq
        have jn144 : ∀ (J144_l4 : Int32) (J144_c0_117 : Int32) (J144_a3 : Nat → Int64) (H : Heap) (locs : List Loc) (ls : Array Slot), ib J19_l3 0 1599 → ib J144_c0_117 1 1600 → ib (g_codeEnd 4) 1 1600 → (1 * J144_c0_117.toInt + (-1) * J19_l3.toInt ≤ 1) → (O = F_X10_codesTell_a0_1_144 (Int32.toInt J19_l3) K19 (Int32.toInt J144_l4) (Int32.toInt J144_c0_117) (lf_L J144_a3)) → (cdm g_codes 1600 (g_codeFrom 4) J19_l3 J144_c0_117) → va_P (dC, dI) vwCl [(a_this, .inr (10, mfs rm x_taped x_at x_end x_ended x_bad x_badPlace x_fault x_faultPlace x_namePlace x_awayTold x_away x_coded x_statements x_isCrossing 1 x_askSecond x_redMany x_isOpen x_lastGreen x_greenTo x_isCycleGreen x_stillGreen x_rowMany x_fitMany x_fitRules x_fitGreen x_undoable x_newest x_seeded x_qCoded x_qWaits x_qOpened x_qBase J144_c0_117 x_qAnswer x_qIsNew x_octets)), (wi_rm49_0_6_0 rm cy g_codeFrom), (wi_rm50_0_6_0 rm cy g_codeEnd), (wi_rm116_1_1700_1 rm cy J144_a3), (wi_rm51_0_3200_0 rm cy g_codes), (wi_rm46_0_48_0 rm cy g_walkers), (wi_rm56_0_9_0 rm cy g_now), (wi_rm43_0_8_0 rm cy g_bar), (wi_rm65_0_12_0 rm cy g_waits), (wi_rm44_0_24_0 rm cy g_kinds), (wi_rm61_0_300_0 rm cy g_gaps), (wi_rm66_3_12_0 rm cy g_goes), (wi_rm67_3_12_0 rm cy g_harms)] H → va_D A [(a_this, .inr (10, mfs rm x_taped x_at x_end x_ended x_bad x_badPlace x_fault x_faultPlace x_namePlace x_awayTold x_away x_coded x_statements x_isCrossing 1 x_askSecond x_redMany x_isOpen x_lastGreen x_greenTo x_isCycleGreen x_stillGreen x_rowMany x_fitMany x_fitRules x_fitGreen x_undoable x_newest x_seeded x_qCoded x_qWaits x_qOpened x_qBase J144_c0_117 x_qAnswer x_qIsNew x_octets)), (wi_rm49_0_6_0 rm cy g_codeFrom), (wi_rm50_0_6_0 rm cy g_codeEnd), (wi_rm116_1_1700_1 rm cy J144_a3), (wi_rm51_0_3200_0 rm cy g_codes), (wi_rm46_0_48_0 rm cy g_walkers), (wi_rm56_0_9_0 rm cy g_now), (wi_rm43_0_8_0 rm cy g_bar), (wi_rm65_0_12_0 rm cy g_waits), (wi_rm44_0_24_0 rm cy g_kinds), (wi_rm61_0_300_0 rm cy g_gaps), (wi_rm66_3_12_0 rm cy g_goes), (wi_rm67_3_12_0 rm cy g_harms)] → va_S A s.heap H locs → lv_has ls 5 [(0, .ref a_this), (1, .int 1), (2, .int p1), (3, .int J19_l3), (4, .int J144_l4)] → W p l e { frames := 3, cells := 0, slots := 0, locals := 64 } s m args below meth c H locs 0 0 Q (F0 m 144 ls []) := by
          intro J144_l4 J144_c0_117 J144_a3 H locs ls hK144_J19_l3 hJ144_c0_117 hJ144_a2_4 hJ144_lin0 hq hJ144_gh hP hD hS hl
          unfold F_X10_codesTell_a0_1_144 at hq
          obtain ⟨z1, ez1⟩ : ∃ y : Int32, y = J19_l3 + 1 := ⟨_, rfl⟩
          refine lv_iinc (v := z1) (lv' := [(3, .int z1), (0, .ref a_this), (1, .int 1), (2, .int p1), (4, .int J144_l4)]) hx hb dX10_codesTell_144 hl (k := 3) rfl (by rw [ez1]; rfl) (Nat.le_of_ble_eq_true rfl) rfl (fun ls hl => ?_)
          have h2 := ib_add hK144_J19_l3 (ib_c 1 1 1 rfl) rfl
          rw [← ez1] at h2
          have h3 : ib z1 1 1600 := ib_w 1 1600 h2.1 rfl
          have Ez1 := lf_add h2.2 (lf_rf J19_l3) (lf_lc 1 (1 : Int) rfl)
          refine lv_goto (tgt := 19) hx hb dX10_codesTell_147 rfl ?_
          exact ih19 z1 J144_c0_117 J144_a3 H locs ls (ib_w 0 1600 h3 rfl) (ib_w 0 1600 hJ144_c0_117 rfl) (by have := h2.2; have : (1 : Int32).toInt = 1 := rfl; have := hJ144_lin0; omega) (by rw [← hK19]; rw [lf_u Ez1]; exact hq) (cdl_next hJ144_gh (hg_codeFrom_4).1 h2.2) (by have := h2.2; have : (1 : Int32).toInt = 1 := rfl; omega) hP hD hS (lv_sub hl [1, 2, 3, 0] rfl)
        refine lv_iload_n hx hb dX10_codesTell_19 rfl (lv_at hl 3 rfl) ?_
        refine lv_aload_n hx hb dX10_codesTell_20 rfl (lv_at hl 0 rfl) ?_
        refine k_get C0 fg_X10_133 hP 0 rfl rfl dX10_codesTell_21 ?_
        refine lv_iconst (v := 3) hx hb dX10_codesTell_24 rfl ?_
        refine lv_iload_n hx hb dX10_codesTell_25 rfl (lv_at hl 1 rfl) ?_
        refine lv_iadd hx hb dX10_codesTell_26 ?_
        refine k_topi (y := 4) (by decide) ?_
        refine va_iald hx hb C0.2.2.2.2.2.1 hP 2 0 rfl rfl (k_in 4 6 rfl) dX10_codesTell_27 ?_
        refine k_topi (y := g_codeEnd 4) rfl ?_
        refine lv_icmp_ge (tgt := 150) hx hb dX10_codesTell_28 rfl (fun c4 => ?_) (fun c4 => ?_)
        · replace hq := lf_pos hq (lf_le (lf_pt (lf_ra g_codeEnd) 4) (lf_rf J19_l3) c4)
          have h5 := ib_le hg_codeEnd_4 hJ19_l3 c4
          refine lv_aload_n hx hb dX10_codesTell_150 rfl (lv_at hl 0 rfl) ?_
          refine k_get C0 fg_X10_270 hP 0 rfl rfl dX10_codesTell_151 ?_
          refine lv_iconst (v := 0) hx hb dX10_codesTell_154 rfl ?_
          refine va_lald hx hb C0.2.2.2.2.2.1 hP 3 1 rfl rfl (k_in 0 1700 rfl) dX10_codesTell_155 ?_
          refine lv_topl (fun z6 ez6 => ?_)
          have Ez6 := lf_ldl ez6 (lf_raL J19_a3) (lf_lc 0 (0 : Int) rfl)
          subst hQ; exact k_lret hx hb hr hlk ((J19_c0_117, J19_a3)) hS ⟨ib_w 0 1600 hJ19_c0_117 rfl, (hO.symm.trans (by rw [lf_ul Ez6]; exact hq))⟩ hP hD (Nat.le_of_ble_eq_true rfl) (Nat.le_of_ble_eq_true rfl) dX10_codesTell_156
        · as_aux_lemma =>
            replace hq := lf_neg hq (lf_nle (lf_pt (lf_ra g_codeEnd) 4) (lf_rf J19_l3) c4)
            have h7 := ib_nle hg_codeEnd_4 hJ19_l3 c4
            have h8 : ib (g_codeEnd 4) 1 1600 := ib_w 1 1600 h7.1 rfl
            have h9 : ib J19_l3 0 1599 := ib_w 0 1599 h7.2 rfl
            have h10 : ib J19_c0_117 0 1599 := ⟨(hJ19_c0_117).1, by have := (hJ19_c0_117).2; have := hJ19_lin0; have := (h9).2; omega⟩
            refine lv_aload_n hx hb dX10_codesTell_31 rfl (lv_at hl 0 rfl) ?_
            refine k_get C0 fg_X10_136 hP 0 rfl rfl dX10_codesTell_32 ?_
            refine lv_sipush (v := 1600) hx hb dX10_codesTell_35 rfl ?_
            refine lv_iload_n hx hb dX10_codesTell_38 rfl (lv_at hl 3 rfl) ?_
            refine lv_iadd hx hb dX10_codesTell_39 ?_
            refine lv_topi (fun z11 ez11 => ?_)
            have h12 := ib_add (ib_c 1600 1600 1600 rfl) h9 rfl
            rw [← ez11] at h12
            have h13 : ib z11 1600 3199 := ib_w 1600 3199 h12.1 rfl
            have Ez11 := lf_add h12.2 (lf_lc 1600 (1600 : Int) rfl) (lf_rf J19_l3)
            refine va_iald hx hb C0.2.2.2.2.2.1 hP 4 0 rfl rfl (ib_in 3200 h13 rfl) dX10_codesTell_40 ?_
            refine lv_topi (fun z14 ez14 => ?_)
            have Ez14 := lf_ld ez14 (lf_ra g_codes) Ez11
            refine lv_istore (lv' := [(4, .int z14), (0, .ref a_this), (1, .int 1), (2, .int p1), (3, .int J19_l3)]) hx hb dX10_codesTell_41 hl (Nat.le_of_ble_eq_true rfl) rfl (fun ls hl => ?_)
            refine lv_iload hx hb dX10_codesTell_43 (lv_at hl 0 rfl) ?_
            refine lv_sipush (v := 1000) hx hb dX10_codesTell_45 rfl ?_
            refine lv_icmp_lt (tgt := 65) hx hb dX10_codesTell_48 rfl (fun c15 => ?_) (fun c15 => ?_)
            · as_aux_lemma =>
                replace hq := lf_pos hq (lf_lt Ez14 (lf_lc 1000 (1000 : Int) rfl) c15)
                have h16 := ib_lt (ib_any z14) (ib_c 1000 1000 1000 rfl) c15
                have h17 : ib z14 (-2147483648) 999 := ib_w (-2147483648) 999 h16.1 rfl
                refine lv_iload hx hb dX10_codesTell_65 (lv_at hl 0 rfl) ?_
                refine lv_bipush (v := 40) hx hb dX10_codesTell_67 rfl ?_
                refine lv_icmp_lt (tgt := 89) hx hb dX10_codesTell_69 rfl (fun c18 => ?_) (fun c18 => ?_)
                · as_aux_lemma =>
                    replace hq := lf_pos hq (lf_lt Ez14 (lf_lc 40 (40 : Int) rfl) c18)
                    have h19 := ib_lt h17 (ib_c 40 40 40 rfl) c18
                    have h20 : ib z14 (-2147483648) 39 := ib_w (-2147483648) 39 h19.1 rfl
                    refine lv_iload hx hb dX10_codesTell_89 (lv_at hl 0 rfl) ?_
                    refine lv_bipush (v := 13) hx hb dX10_codesTell_91 rfl ?_
                    refine lv_icmp_ne (tgt := 104) hx hb dX10_codesTell_93 rfl (fun c21 => ?_) (fun c21 => ?_)
                    · as_aux_lemma =>
                        replace hq := lf_neg hq (lf_ne Ez14 (lf_lc 13 (13 : Int) rfl) c21)
                        refine lv_iload hx hb dX10_codesTell_104 (lv_at hl 0 rfl) ?_
                        refine lv_bipush (v := 12) hx hb dX10_codesTell_106 rfl ?_
                        refine lv_icmp_ne (tgt := 138) hx hb dX10_codesTell_108 rfl (fun c22 => ?_) (fun c22 => ?_)
                        · replace hq := lf_neg hq (lf_ne Ez14 (lf_lc 12 (12 : Int) rfl) c22)
                          have h23 : ib J19_c0_117 2 1599 := ⟨cdl_ge2 (z := z14) (hG1 (ib_nc (-1) hg_codeFrom_4 rfl)) hJ19_gh (hg_codeFrom_4).1 (by have := (h8).1; have := (h8).2; have := (h9).1; have := (h9).2; have := hJ19_lin0; have := (h10).1; have := (h10).2; have := mt Int32.le_iff_toInt_le.mpr c4; omega) (by rw [ez14]; congr 1; show 1600 + (Int32.toInt J19_l3).toNat = (Int32.toInt z11).toNat; have := (h9).1; have := (h9).2; have := hJ19_lin0; have := (h10).1; have := (h10).2; have := (h13).1; have := (h13).2; have := h12.2; have : (1600 : Int32).toInt = 1600 := rfl; omega) (by have := (h20).2; omega) c21 c22, (h10).2⟩
                          refine lv_aload_n hx hb dX10_codesTell_138 rfl (lv_at hl 1 rfl) ?_
                          refine lv_iload hx hb dX10_codesTell_139 (lv_at hl 0 rfl) ?_
                          refine k_jvm hP hD hS hA [0, 3] [false, true, true, false, true, true, true, true, true, true, true, true, true] rfl rfl (by decide +kernel) 0 0 (Nat.le_of_ble_eq_true rfl) (Nat.le_of_ble_eq_true rfl) (fun hPc hDc => k_runV (As := [.int z14]) (rest := []) C0 hZ hS hA (s_X10_qJoins l dC dI cy sq a_this rm x_taped x_at x_end x_ended x_bad x_badPlace x_fault x_faultPlace x_namePlace x_awayTold x_away x_coded x_statements x_isCrossing 1 x_askSecond x_redMany x_isOpen x_lastGreen x_greenTo x_isCycleGreen x_stillGreen x_rowMany x_fitMany x_fitRules x_fitGreen x_undoable x_newest x_seeded x_qCoded x_qWaits x_qOpened x_qBase J19_c0_117 x_qAnswer x_qIsNew x_octets J19_a3 z14 (ib_w 2 1700 h23 rfl)) mV_X10_451 hPc hDc rfl rfl rfl hl rfl rfl (Nat.le_of_ble_eq_true rfl) ⟨(Nat.le_of_ble_eq_true rfl), (Nat.le_of_ble_eq_true rfl)⟩ ⟨(Nat.le_of_ble_eq_true rfl), (Nat.le_of_ble_eq_true rfl)⟩ dX10_codesTell_141) (fun u25 H locs hw hP hD hS => ?_)
                          obtain ⟨v26, f27⟩ := u25
                          try dsimp only at hP hD hw
                          replace hP : va_P (dC, dI) vwCl [(wi_rm49_0_6_0 rm cy g_codeFrom), (wi_rm50_0_6_0 rm cy g_codeEnd), (wi_rm51_0_3200_0 rm cy g_codes), (wi_rm46_0_48_0 rm cy g_walkers), (wi_rm56_0_9_0 rm cy g_now), (wi_rm43_0_8_0 rm cy g_bar), (wi_rm65_0_12_0 rm cy g_waits), (wi_rm44_0_24_0 rm cy g_kinds), (wi_rm61_0_300_0 rm cy g_gaps), (wi_rm66_3_12_0 rm cy g_goes), (wi_rm67_3_12_0 rm cy g_harms), (a_this, .inr (10, mfs rm x_taped x_at x_end x_ended x_bad x_badPlace x_fault x_faultPlace x_namePlace x_awayTold x_away x_coded x_statements x_isCrossing 1 x_askSecond x_redMany x_isOpen x_lastGreen x_greenTo x_isCycleGreen x_stillGreen x_rowMany x_fitMany x_fitRules x_fitGreen x_undoable x_newest x_seeded x_qCoded x_qWaits x_qOpened x_qBase v26 x_qAnswer x_qIsNew x_octets)), (wi_rm116_1_1700_1 rm cy f27)] H := hP
                          replace hD := k_D hP hD
                          obtain ⟨h28, h29, h30⟩ := hw
                          have h31 : v26.toInt = (J19_c0_117 : Int32).toInt + ((-1) : Int32).toInt := by have q1 := h29; have q2 : ((-1) : Int32).toInt = (-1) := rfl; omega
                          have h32 : ib v26 1 1598 := ⟨by have q1 := h29; have := (h23).1; have := (h28).1; omega, by have q1 := h29; have := (h23).2; have := (h28).2; omega⟩
                          have h30 := by have h9 := h30; rw [lf_u Ez14] at h9; exact h9
                          replace hq := lf_p1 hq h30
                          exact jn144 z14 v26 f27 H locs ls (ib_w 0 1599 h9 rfl) (ib_w 1 1600 h32 rfl) (ib_w 1 1600 h8 rfl) (by have := hJ19_lin0; have := h31; have : ((-1) : Int32).toInt = (-1) := rfl; omega) (by rw [lf_u Ez14]; exact hq) (cdm_join (z := z14) (hG1 (ib_nc (-1) hg_codeFrom_4 rfl)) hJ19_gh (hg_codeFrom_4).1 (by have := (h8).1; have := (h8).2; have := (h9).1; have := (h9).2; have := hJ19_lin0; have := (h23).1; have := (h23).2; have := mt Int32.le_iff_toInt_le.mpr c4; omega) (by rw [ez14]; congr 1; show 1600 + (Int32.toInt J19_l3).toNat = (Int32.toInt z11).toNat; have := (h9).1; have := (h9).2; have := hJ19_lin0; have := (h23).1; have := (h23).2; have := (h13).1; have := (h13).2; have := h12.2; have : (1600 : Int32).toInt = 1600 := rfl; omega) (by have := (h20).2; omega) c21 c22 (by have := (h23).1; have := (h23).2; have := hJ19_lin0; have := (h9).1; have := (h9).2; have := (h32).1; have := (h32).2; have := h31; have : ((-1) : Int32).toInt = (-1) := rfl; omega)) (hP.sub [11, 0, 1, 12, 2, 3, 4, 5, 6, 7, 8, 9, 10] rfl) (hD.sub [11, 0, 1, 12, 2, 3, 4, 5, 6, 7, 8, 9, 10] (by decide +kernel) rfl) hS (lv_sub hl [1, 2, 3, 4, 0] rfl)
                        · as_aux_lemma =>
                            replace hq := lf_pos hq (lf_eq Ez14 (lf_lc 12 (12 : Int) rfl) c22)
                            have h33 := ib_eq h20 (ib_c 12 12 12 rfl) c22
                            have h34 : ib z14 12 12 := ib_w 12 12 h33.1 rfl
                            have h35 : ib J19_c0_117 1 1599 := ⟨cdl_ge1 (z := z14) (hG1 (ib_nc (-1) hg_codeFrom_4 rfl)) hJ19_gh (hg_codeFrom_4).1 (by have := (h8).1; have := (h8).2; have := (h9).1; have := (h9).2; have := hJ19_lin0; have := (h10).1; have := (h10).2; have := mt Int32.le_iff_toInt_le.mpr c4; omega) (by rw [ez14]; congr 1; show 1600 + (Int32.toInt J19_l3).toNat = (Int32.toInt z11).toNat; have := (h9).1; have := (h9).2; have := hJ19_lin0; have := (h10).1; have := (h10).2; have := (h13).1; have := (h13).2; have := h12.2; have : (1600 : Int32).toInt = 1600 := rfl; omega) (Or.inl (ib_one h34 rfl)), (h10).2⟩
                            refine lv_aload_n hx hb dX10_codesTell_111 rfl (lv_at hl 1 rfl) ?_
                            refine k_get C0 fg_X10_270 hP 0 rfl rfl dX10_codesTell_112 ?_
                            refine lv_aload_n hx hb dX10_codesTell_115 rfl (lv_at hl 1 rfl) ?_
                            refine k_get C0 fg_X10_440 hP 0 rfl rfl dX10_codesTell_116 ?_
                            refine lv_iconst (v := 1) hx hb dX10_codesTell_119 rfl ?_
                            refine lv_isub hx hb dX10_codesTell_120 ?_
                            refine lv_topi (fun z36 ez36 => ?_)
                            have h37 := ib_sub h35 (ib_c 1 1 1 rfl) rfl
                            rw [← ez36] at h37
                            have h38 : ib z36 0 1598 := ib_w 0 1598 h37.1 rfl
                            have Ez36 := lf_sub h37.2 (lf_rf J19_c0_117) (lf_lc 1 (1 : Int) rfl)
                            refine lv_lconst (v := 1) hx hb dX10_codesTell_121 (by decide) ?_
                            refine lv_aload_n hx hb dX10_codesTell_122 rfl (lv_at hl 1 rfl) ?_
                            refine k_get C0 fg_X10_270 hP 0 rfl rfl dX10_codesTell_123 ?_
                            refine lv_aload_n hx hb dX10_codesTell_126 rfl (lv_at hl 1 rfl) ?_
                            refine k_get C0 fg_X10_440 hP 0 rfl rfl dX10_codesTell_127 ?_
                            refine lv_iconst (v := 1) hx hb dX10_codesTell_130 rfl ?_
                            refine lv_isub hx hb dX10_codesTell_131 ?_
                            refine lv_topi (fun z39 ez39 => ?_)
                            obtain rfl : z36 = z39 := ez36.trans ez39.symm
                            refine va_lald hx hb C0.2.2.2.2.2.1 hP 3 1 rfl rfl (ib_in 1700 h38 rfl) dX10_codesTell_132 ?_
                            refine lv_topl (fun z40 ez40 => ?_)
                            have Ez40 := lf_ldl ez40 (lf_raL J19_a3) Ez36
                            refine lv_lsub hx hb dX10_codesTell_133 ?_
                            refine lv_topl (fun z41 ez41 => ?_)
                            have Ez41 := lf_opl lf_lsub ez41 (lf_ll 1 (1 : Int) rfl) Ez40
                            refine va_last hx hb C0.2.2.2.2.2.1 hP hD hS 3 1 rfl rfl (ib_in 1700 h38 rfl) dX10_codesTell_134 (fun H locs hP hD hS => ?_)
                            replace hP : va_P (dC, dI) vwCl [(a_this, .inr (10, mfs rm x_taped x_at x_end x_ended x_bad x_badPlace x_fault x_faultPlace x_namePlace x_awayTold x_away x_coded x_statements x_isCrossing 1 x_askSecond x_redMany x_isOpen x_lastGreen x_greenTo x_isCycleGreen x_stillGreen x_rowMany x_fitMany x_fitRules x_fitGreen x_undoable x_newest x_seeded x_qCoded x_qWaits x_qOpened x_qBase J19_c0_117 x_qAnswer x_qIsNew x_octets)), (wi_rm49_0_6_0 rm cy g_codeFrom), (wi_rm50_0_6_0 rm cy g_codeEnd), (wi_rm116_1_1700_1 rm cy (vp_updL J19_a3 (Int32.toNatClampNeg z36) z41)), (wi_rm51_0_3200_0 rm cy g_codes), (wi_rm46_0_48_0 rm cy g_walkers), (wi_rm56_0_9_0 rm cy g_now), (wi_rm43_0_8_0 rm cy g_bar), (wi_rm65_0_12_0 rm cy g_waits), (wi_rm44_0_24_0 rm cy g_kinds), (wi_rm61_0_300_0 rm cy g_gaps), (wi_rm66_3_12_0 rm cy g_goes), (wi_rm67_3_12_0 rm cy g_harms)] H := hP
                            replace hD := k_D hP hD
                            generalize ef42 : vp_updL J19_a3 (Int32.toNatClampNeg z36) z41 = f42 at hP hD
                            have Ef42 := lf_stL ef42 (lf_raL J19_a3) Ez36 Ez41
                            refine lv_goto (tgt := 144) hx hb dX10_codesTell_135 rfl ?_
                            exact jn144 z14 J19_c0_117 f42 H locs ls (ib_w 0 1599 h9 rfl) (ib_w 1 1600 h35 rfl) (ib_w 1 1600 h8 rfl) (by have := hJ19_lin0; omega) (by rw [lf_u Ez14]; rw [lf_uaL Ef42]; exact hq) (cdm_same (z := z14) (hG1 (ib_nc (-1) hg_codeFrom_4 rfl)) hJ19_gh (hg_codeFrom_4).1 (by have := (h8).1; have := (h8).2; have := (h9).1; have := (h9).2; have := hJ19_lin0; have := (h35).1; have := (h35).2; have := mt Int32.le_iff_toInt_le.mpr c4; omega) (by rw [ez14]; congr 1; show 1600 + (Int32.toInt J19_l3).toNat = (Int32.toInt z11).toNat; have := (h9).1; have := (h9).2; have := hJ19_lin0; have := (h35).1; have := (h35).2; have := (h13).1; have := (h13).2; have := h12.2; have : (1600 : Int32).toInt = 1600 := rfl; omega) (Or.inl (ib_one h34 rfl))) hP hD hS (lv_sub hl [1, 2, 3, 4, 0] rfl)
                    · replace hq := lf_pos hq (lf_eq Ez14 (lf_lc 13 (13 : Int) rfl) c21)
                      have h43 := ib_eq h20 (ib_c 13 13 13 rfl) c21
                      have h44 : ib z14 13 13 := ib_w 13 13 h43.1 rfl
                      refine lv_aload_n hx hb dX10_codesTell_96 rfl (lv_at hl 1 rfl) ?_
                      refine lv_lconst (v := 1) hx hb dX10_codesTell_97 (by decide) ?_
                      refine k_jvm hP hD hS hA [0, 3] [false, true, true, false, true, true, true, true, true, true, true, true, true] rfl rfl (by decide +kernel) 0 0 (Nat.le_of_ble_eq_true rfl) (Nat.le_of_ble_eq_true rfl) (fun hPc hDc => k_runV (As := [.long 1]) (rest := []) C0 hZ hS hA (s_X10_qPuts l dC dI cy sq a_this rm x_taped x_at x_end x_ended x_bad x_badPlace x_fault x_faultPlace x_namePlace x_awayTold x_away x_coded x_statements x_isCrossing 1 x_askSecond x_redMany x_isOpen x_lastGreen x_greenTo x_isCycleGreen x_stillGreen x_rowMany x_fitMany x_fitRules x_fitGreen x_undoable x_newest x_seeded x_qCoded x_qWaits x_qOpened x_qBase J19_c0_117 x_qAnswer x_qIsNew x_octets J19_a3 1 (ib_w 0 1699 h10 rfl)) mV_X10_443 hPc hDc rfl rfl rfl hl rfl rfl (Nat.le_of_ble_eq_true rfl) ⟨(Nat.le_of_ble_eq_true rfl), (Nat.le_of_ble_eq_true rfl)⟩ ⟨(Nat.le_of_ble_eq_true rfl), (Nat.le_of_ble_eq_true rfl)⟩ dX10_codesTell_98) (fun u46 H locs hw hP hD hS => ?_)
                      obtain ⟨v47, f48⟩ := u46
                      try dsimp only at hP hD hw
                      replace hP : va_P (dC, dI) vwCl [(wi_rm49_0_6_0 rm cy g_codeFrom), (wi_rm50_0_6_0 rm cy g_codeEnd), (wi_rm51_0_3200_0 rm cy g_codes), (wi_rm46_0_48_0 rm cy g_walkers), (wi_rm56_0_9_0 rm cy g_now), (wi_rm43_0_8_0 rm cy g_bar), (wi_rm65_0_12_0 rm cy g_waits), (wi_rm44_0_24_0 rm cy g_kinds), (wi_rm61_0_300_0 rm cy g_gaps), (wi_rm66_3_12_0 rm cy g_goes), (wi_rm67_3_12_0 rm cy g_harms), (a_this, .inr (10, mfs rm x_taped x_at x_end x_ended x_bad x_badPlace x_fault x_faultPlace x_namePlace x_awayTold x_away x_coded x_statements x_isCrossing 1 x_askSecond x_redMany x_isOpen x_lastGreen x_greenTo x_isCycleGreen x_stillGreen x_rowMany x_fitMany x_fitRules x_fitGreen x_undoable x_newest x_seeded x_qCoded x_qWaits x_qOpened x_qBase v47 x_qAnswer x_qIsNew x_octets)), (wi_rm116_1_1700_1 rm cy f48)] H := hP
                      replace hD := k_D hP hD
                      obtain ⟨h49, h50, h51⟩ := hw
                      have h52 : v47.toInt = (J19_c0_117 : Int32).toInt + (1 : Int32).toInt := by have q1 := h50; have q2 : (1 : Int32).toInt = 1 := rfl; omega
                      have h53 : ib v47 1 1600 := ⟨by have q1 := h50; have := (h10).1; have := (h49).1; omega, by have q1 := h50; have := (h10).2; have := (h49).2; omega⟩
                      have h51 := by have h9 := h51; try simp only [show (1 : Int64).toInt = (1 : Int) from rfl] at h9; exact h9
                      replace hq := lf_p1 hq h51
                      refine lv_goto (tgt := 144) hx hb dX10_codesTell_101 rfl ?_
                      exact jn144 z14 v47 f48 H locs ls (ib_w 0 1599 h9 rfl) (ib_w 1 1600 h53 rfl) (ib_w 1 1600 h8 rfl) (by have := hJ19_lin0; have := h52; have : (1 : Int32).toInt = 1 := rfl; omega) (by rw [lf_u Ez14]; exact hq) (cdm_push (z := z14) (hG1 (ib_nc (-1) hg_codeFrom_4 rfl)) hJ19_gh (hg_codeFrom_4).1 (by have := (h8).1; have := (h8).2; have := (h9).1; have := (h9).2; have := hJ19_lin0; have := (h10).1; have := (h10).2; have := mt Int32.le_iff_toInt_le.mpr c4; omega) (by rw [ez14]; congr 1; show 1600 + (Int32.toInt J19_l3).toNat = (Int32.toInt z11).toNat; have := (h9).1; have := (h9).2; have := hJ19_lin0; have := (h10).1; have := (h10).2; have := (h13).1; have := (h13).2; have := h12.2; have : (1600 : Int32).toInt = 1600 := rfl; omega) (Or.inr (ib_one h44 rfl)) (by have := (h10).1; have := (h10).2; have := hJ19_lin0; have := (h9).1; have := (h9).2; have := (h53).1; have := (h53).2; have := h52; have : (1 : Int32).toInt = 1 := rfl; omega)) (hP.sub [11, 0, 1, 12, 2, 3, 4, 5, 6, 7, 8, 9, 10] rfl) (hD.sub [11, 0, 1, 12, 2, 3, 4, 5, 6, 7, 8, 9, 10] (by decide +kernel) rfl) hS (lv_sub hl [1, 2, 3, 4, 0] rfl)
                · as_aux_lemma =>
                    replace hq := lf_neg hq (lf_nlt Ez14 (lf_lc 40 (40 : Int) rfl) c18)
                    have h54 := ib_nlt h17 (ib_c 40 40 40 rfl) c18
                    have h55 : ib z14 40 999 := ib_w 40 999 h54.1 rfl
                    refine lv_aload_n hx hb dX10_codesTell_72 rfl (lv_at hl 1 rfl) ?_
                    refine lv_aload_n hx hb dX10_codesTell_73 rfl (lv_at hl 1 rfl) ?_
                    refine lv_iload hx hb dX10_codesTell_74 (lv_at hl 0 rfl) ?_
                    refine lv_bipush (v := 40) hx hb dX10_codesTell_76 rfl ?_
                    refine lv_isub hx hb dX10_codesTell_78 ?_
                    refine lv_topi (fun z56 ez56 => ?_)
                    have h57 := ib_sub h55 (ib_c 40 40 40 rfl) rfl
                    rw [← ez56] at h57
                    have h58 : ib z56 0 959 := ib_w 0 959 h57.1 rfl
                    have Ez56 := lf_sub h57.2 Ez14 (lf_lc 40 (40 : Int) rfl)
                    refine lv_iload_n hx hb dX10_codesTell_79 rfl (lv_at hl 3 rfl) ?_
                    refine k_jlm hP hD hS hA [0, 5, 6, 7, 8, 9, 10, 11, 12] [false, true, true, true, true] rfl rfl (by decide +kernel) 0 0 (Nat.le_of_ble_eq_true rfl) (Nat.le_of_ble_eq_true rfl) (fun hPc hDc => k_runV (As := [.int z56, .int p1]) (rest := [.ref a_this]) C0 hZ hS hA (s_X10_qPartOf l dC dI cy sq a_this rm x_taped x_at x_end x_ended x_bad x_badPlace x_fault x_faultPlace x_namePlace x_awayTold x_away x_coded x_statements x_isCrossing 1 x_askSecond x_redMany x_isOpen x_lastGreen x_greenTo x_isCycleGreen x_stillGreen x_rowMany x_fitMany x_fitRules x_fitGreen x_undoable x_newest x_seeded x_qCoded x_qWaits x_qOpened x_qBase J19_c0_117 x_qAnswer x_qIsNew x_octets g_bar g_kinds g_walkers g_now g_gaps g_waits g_goes g_harms z56 p1 (ib_w 10 120 hg_bar_4 rfl) hpg_walkers hg_gaps (ib_w 0 11 hp1 rfl) (fun _ => ib_w 0 299 hx_askSecond rfl)) mV_X10_447 hPc hDc rfl rfl rfl hl rfl rfl (Nat.le_of_ble_eq_true rfl) ⟨(Nat.le_of_ble_eq_true rfl), (Nat.le_of_ble_eq_true rfl)⟩ ⟨(Nat.le_of_ble_eq_true rfl), (Nat.le_of_ble_eq_true rfl)⟩ dX10_codesTell_80) (fun r59 u60 H locs hw hP hD hS => ?_)
                    try dsimp only at hP hD hw
                    replace hP : va_P (dC, dI) vwCl [(wi_rm49_0_6_0 rm cy g_codeFrom), (wi_rm50_0_6_0 rm cy g_codeEnd), (wi_rm116_1_1700_1 rm cy J19_a3), (wi_rm51_0_3200_0 rm cy g_codes), (a_this, .inr (10, mfs rm x_taped x_at x_end x_ended x_bad x_badPlace x_fault x_faultPlace x_namePlace x_awayTold x_away x_coded x_statements x_isCrossing 1 x_askSecond x_redMany x_isOpen x_lastGreen x_greenTo x_isCycleGreen x_stillGreen x_rowMany x_fitMany x_fitRules x_fitGreen x_undoable x_newest x_seeded x_qCoded x_qWaits x_qOpened x_qBase J19_c0_117 x_qAnswer x_qIsNew x_octets)), (wi_rm46_0_48_0 rm cy g_walkers), (wi_rm56_0_9_0 rm cy g_now), (wi_rm43_0_8_0 rm cy g_bar), (wi_rm65_0_12_0 rm cy g_waits), (wi_rm44_0_24_0 rm cy g_kinds), (wi_rm61_0_300_0 rm cy g_gaps), (wi_rm66_3_12_0 rm cy g_goes), (wi_rm67_3_12_0 rm cy g_harms)] H := hP
                    replace hD := k_D hP hD
                    have h61 := hw
                    have h61 := by have h9 := h61; try simp only [show (1 : Int32).toInt = (1 : Int) from rfl] at h9; rw [lf_u Ez56] at h9; exact h9
                    replace hq := lf_b1 hq h61
                    refine k_jvm hP hD hS hA [4, 2] [true, true, false, true, false, true, true, true, true, true, true, true, true] rfl rfl (by decide +kernel) 0 0 (Nat.le_of_ble_eq_true rfl) (Nat.le_of_ble_eq_true rfl) (fun hPc hDc => k_runV (As := [.long r59]) (rest := []) C0 hZ hS hA (s_X10_qPuts l dC dI cy sq a_this rm x_taped x_at x_end x_ended x_bad x_badPlace x_fault x_faultPlace x_namePlace x_awayTold x_away x_coded x_statements x_isCrossing 1 x_askSecond x_redMany x_isOpen x_lastGreen x_greenTo x_isCycleGreen x_stillGreen x_rowMany x_fitMany x_fitRules x_fitGreen x_undoable x_newest x_seeded x_qCoded x_qWaits x_qOpened x_qBase J19_c0_117 x_qAnswer x_qIsNew x_octets J19_a3 r59 (ib_w 0 1699 h10 rfl)) mV_X10_443 hPc hDc rfl rfl rfl hl rfl rfl (Nat.le_of_ble_eq_true rfl) ⟨(Nat.le_of_ble_eq_true rfl), (Nat.le_of_ble_eq_true rfl)⟩ ⟨(Nat.le_of_ble_eq_true rfl), (Nat.le_of_ble_eq_true rfl)⟩ dX10_codesTell_83) (fun u63 H locs hw hP hD hS => ?_)
                    obtain ⟨v64, f65⟩ := u63
                    try dsimp only at hP hD hw
                    replace hP : va_P (dC, dI) vwCl [(wi_rm49_0_6_0 rm cy g_codeFrom), (wi_rm50_0_6_0 rm cy g_codeEnd), (wi_rm51_0_3200_0 rm cy g_codes), (wi_rm46_0_48_0 rm cy g_walkers), (wi_rm56_0_9_0 rm cy g_now), (wi_rm43_0_8_0 rm cy g_bar), (wi_rm65_0_12_0 rm cy g_waits), (wi_rm44_0_24_0 rm cy g_kinds), (wi_rm61_0_300_0 rm cy g_gaps), (wi_rm66_3_12_0 rm cy g_goes), (wi_rm67_3_12_0 rm cy g_harms), (a_this, .inr (10, mfs rm x_taped x_at x_end x_ended x_bad x_badPlace x_fault x_faultPlace x_namePlace x_awayTold x_away x_coded x_statements x_isCrossing 1 x_askSecond x_redMany x_isOpen x_lastGreen x_greenTo x_isCycleGreen x_stillGreen x_rowMany x_fitMany x_fitRules x_fitGreen x_undoable x_newest x_seeded x_qCoded x_qWaits x_qOpened x_qBase v64 x_qAnswer x_qIsNew x_octets)), (wi_rm116_1_1700_1 rm cy f65)] H := hP
                    replace hD := k_D hP hD
                    obtain ⟨h66, h67, h68⟩ := hw
                    have h69 : v64.toInt = (J19_c0_117 : Int32).toInt + (1 : Int32).toInt := by have q1 := h67; have q2 : (1 : Int32).toInt = 1 := rfl; omega
                    have h70 : ib v64 1 1600 := ⟨by have q1 := h67; have := (h10).1; have := (h66).1; omega, by have q1 := h67; have := (h10).2; have := (h66).2; omega⟩
                    replace hq := lf_p1 hq h68
                    refine lv_goto (tgt := 144) hx hb dX10_codesTell_86 rfl ?_
                    exact jn144 z14 v64 f65 H locs ls (ib_w 0 1599 h9 rfl) (ib_w 1 1600 h70 rfl) (ib_w 1 1600 h8 rfl) (by have := hJ19_lin0; have := h69; have : (1 : Int32).toInt = 1 := rfl; omega) (by rw [lf_u Ez14]; exact hq) (cdm_push (z := z14) (hG1 (ib_nc (-1) hg_codeFrom_4 rfl)) hJ19_gh (hg_codeFrom_4).1 (by have := (h8).1; have := (h8).2; have := (h9).1; have := (h9).2; have := hJ19_lin0; have := (h10).1; have := (h10).2; have := mt Int32.le_iff_toInt_le.mpr c4; omega) (by rw [ez14]; congr 1; show 1600 + (Int32.toInt J19_l3).toNat = (Int32.toInt z11).toNat; have := (h9).1; have := (h9).2; have := hJ19_lin0; have := (h10).1; have := (h10).2; have := (h13).1; have := (h13).2; have := h12.2; have : (1600 : Int32).toInt = 1600 := rfl; omega) (Or.inl (by have := (h55).1; omega)) (by have := (h10).1; have := (h10).2; have := hJ19_lin0; have := (h9).1; have := (h9).2; have := (h70).1; have := (h70).2; have := h69; have : (1 : Int32).toInt = 1 := rfl; omega)) (hP.sub [11, 0, 1, 12, 2, 3, 4, 5, 6, 7, 8, 9, 10] rfl) (hD.sub [11, 0, 1, 12, 2, 3, 4, 5, 6, 7, 8, 9, 10] (by decide +kernel) rfl) hS (lv_sub hl [1, 2, 3, 4, 0] rfl)
            · as_aux_lemma =>
                replace hq := lf_neg hq (lf_nlt Ez14 (lf_lc 1000 (1000 : Int) rfl) c15)
                have h71 := ib_nlt (ib_any z14) (ib_c 1000 1000 1000 rfl) c15
                have h72 : ib z14 1000 2147483647 := ib_w 1000 2147483647 h71.1 rfl
                refine lv_aload_n hx hb dX10_codesTell_51 rfl (lv_at hl 1 rfl) ?_
                refine lv_iload hx hb dX10_codesTell_52 (lv_at hl 0 rfl) ?_
                refine lv_sipush (v := 1000) hx hb dX10_codesTell_54 rfl ?_
                refine lv_isub hx hb dX10_codesTell_57 ?_
                refine lv_topi (fun z73 ez73 => ?_)
                have h74 := ib_sub h72 (ib_c 1000 1000 1000 rfl) rfl
                rw [← ez73] at h74
                have h75 : ib z73 0 2147482647 := ib_w 0 2147482647 h74.1 rfl
                have Ez73 := lf_sub h74.2 Ez14 (lf_lc 1000 (1000 : Int) rfl)
                refine lv_i2l (v := z73.toInt64) hx hb dX10_codesTell_58 rfl ?_
                refine k_jvm hP hD hS hA [0, 3] [false, true, true, false, true, true, true, true, true, true, true, true, true] rfl rfl (by decide +kernel) 0 0 (Nat.le_of_ble_eq_true rfl) (Nat.le_of_ble_eq_true rfl) (fun hPc hDc => k_runV (As := [.long z73.toInt64]) (rest := []) C0 hZ hS hA (s_X10_qPuts l dC dI cy sq a_this rm x_taped x_at x_end x_ended x_bad x_badPlace x_fault x_faultPlace x_namePlace x_awayTold x_away x_coded x_statements x_isCrossing 1 x_askSecond x_redMany x_isOpen x_lastGreen x_greenTo x_isCycleGreen x_stillGreen x_rowMany x_fitMany x_fitRules x_fitGreen x_undoable x_newest x_seeded x_qCoded x_qWaits x_qOpened x_qBase J19_c0_117 x_qAnswer x_qIsNew x_octets J19_a3 z73.toInt64 (ib_w 0 1699 h10 rfl)) mV_X10_443 hPc hDc rfl rfl rfl hl rfl rfl (Nat.le_of_ble_eq_true rfl) ⟨(Nat.le_of_ble_eq_true rfl), (Nat.le_of_ble_eq_true rfl)⟩ ⟨(Nat.le_of_ble_eq_true rfl), (Nat.le_of_ble_eq_true rfl)⟩ dX10_codesTell_59) (fun u77 H locs hw hP hD hS => ?_)
                obtain ⟨v78, f79⟩ := u77
                try dsimp only at hP hD hw
                replace hP : va_P (dC, dI) vwCl [(wi_rm49_0_6_0 rm cy g_codeFrom), (wi_rm50_0_6_0 rm cy g_codeEnd), (wi_rm51_0_3200_0 rm cy g_codes), (wi_rm46_0_48_0 rm cy g_walkers), (wi_rm56_0_9_0 rm cy g_now), (wi_rm43_0_8_0 rm cy g_bar), (wi_rm65_0_12_0 rm cy g_waits), (wi_rm44_0_24_0 rm cy g_kinds), (wi_rm61_0_300_0 rm cy g_gaps), (wi_rm66_3_12_0 rm cy g_goes), (wi_rm67_3_12_0 rm cy g_harms), (a_this, .inr (10, mfs rm x_taped x_at x_end x_ended x_bad x_badPlace x_fault x_faultPlace x_namePlace x_awayTold x_away x_coded x_statements x_isCrossing 1 x_askSecond x_redMany x_isOpen x_lastGreen x_greenTo x_isCycleGreen x_stillGreen x_rowMany x_fitMany x_fitRules x_fitGreen x_undoable x_newest x_seeded x_qCoded x_qWaits x_qOpened x_qBase v78 x_qAnswer x_qIsNew x_octets)), (wi_rm116_1_1700_1 rm cy f79)] H := hP
                replace hD := k_D hP hD
                obtain ⟨h80, h81, h82⟩ := hw
                have h83 : v78.toInt = (J19_c0_117 : Int32).toInt + (1 : Int32).toInt := by have q1 := h81; have q2 : (1 : Int32).toInt = 1 := rfl; omega
                have h84 : ib v78 1 1600 := ⟨by have q1 := h81; have := (h10).1; have := (h80).1; omega, by have q1 := h81; have := (h10).2; have := (h80).2; omega⟩
                have h82 := by have h9 := h82; rw [lf_ul (lf_i2l Ez73)] at h9; exact h9
                replace hq := lf_p1 hq h82
                refine lv_goto (tgt := 144) hx hb dX10_codesTell_62 rfl ?_
                exact jn144 z14 v78 f79 H locs ls (ib_w 0 1599 h9 rfl) (ib_w 1 1600 h84 rfl) (ib_w 1 1600 h8 rfl) (by have := hJ19_lin0; have := h83; have : (1 : Int32).toInt = 1 := rfl; omega) (by rw [lf_u Ez14]; exact hq) (cdm_push (z := z14) (hG1 (ib_nc (-1) hg_codeFrom_4 rfl)) hJ19_gh (hg_codeFrom_4).1 (by have := (h8).1; have := (h8).2; have := (h9).1; have := (h9).2; have := hJ19_lin0; have := (h10).1; have := (h10).2; have := mt Int32.le_iff_toInt_le.mpr c4; omega) (by rw [ez14]; congr 1; show 1600 + (Int32.toInt J19_l3).toNat = (Int32.toInt z11).toNat; have := (h9).1; have := (h9).2; have := hJ19_lin0; have := (h10).1; have := (h10).2; have := (h13).1; have := (h13).2; have := h12.2; have : (1600 : Int32).toInt = 1600 := rfl; omega) (Or.inl (by have := (h72).1; omega)) (by have := (h10).1; have := (h10).2; have := hJ19_lin0; have := (h9).1; have := (h9).2; have := (h84).1; have := (h84).2; have := h83; have : (1 : Int32).toInt = 1 := rfl; omega)) (hP.sub [11, 0, 1, 12, 2, 3, 4, 5, 6, 7, 8, 9, 10] rfl) (hD.sub [11, 0, 1, 12, 2, 3, 4, 5, 6, 7, 8, 9, 10] (by decide +kernel) rfl) hS (lv_sub hl [1, 2, 3, 4, 0] rfl)
  refine lv_aload_n hx hb dX10_codesTell_0 rfl (lv_at hl 0 rfl) ?_
  refine lv_iload_n hx hb dX10_codesTell_1 rfl (lv_at hl 1 rfl) ?_
  refine k_put C0 fp_X10_333 hP hD hS 0 rfl rfl rfl (Nat.le_of_ble_eq_true rfl) dX10_codesTell_2 (fun H locs hP hD hS => ?_)
  replace hP : va_P (dC, dI) vwCl [(a_this, .inr (10, mfs rm x_taped x_at x_end x_ended x_bad x_badPlace x_fault x_faultPlace x_namePlace x_awayTold x_away x_coded x_statements x_isCrossing 1 x_askSecond x_redMany x_isOpen x_lastGreen x_greenTo x_isCycleGreen x_stillGreen x_rowMany x_fitMany x_fitRules x_fitGreen x_undoable x_newest x_seeded x_qCoded x_qWaits x_qOpened x_qBase x_qPiled x_qAnswer x_qIsNew x_octets)), (wi_rm49_0_6_0 rm cy g_codeFrom), (wi_rm50_0_6_0 rm cy g_codeEnd), (wi_rm116_1_1700_1 rm cy g_qPile), (wi_rm51_0_3200_0 rm cy g_codes), (wi_rm46_0_48_0 rm cy g_walkers), (wi_rm56_0_9_0 rm cy g_now), (wi_rm43_0_8_0 rm cy g_bar), (wi_rm65_0_12_0 rm cy g_waits), (wi_rm44_0_24_0 rm cy g_kinds), (wi_rm61_0_300_0 rm cy g_gaps), (wi_rm66_3_12_0 rm cy g_goes), (wi_rm67_3_12_0 rm cy g_harms)] H := hP
  replace hD := k_D hP hD
  refine lv_aload_n hx hb dX10_codesTell_5 rfl (lv_at hl 0 rfl) ?_
  refine lv_iconst (v := 0) hx hb dX10_codesTell_6 rfl ?_
  refine k_put C0 fp_X10_440 hP hD hS 0 rfl rfl rfl (Nat.le_of_ble_eq_true rfl) dX10_codesTell_7 (fun H locs hP hD hS => ?_)
  replace hP : va_P (dC, dI) vwCl [(a_this, .inr (10, mfs rm x_taped x_at x_end x_ended x_bad x_badPlace x_fault x_faultPlace x_namePlace x_awayTold x_away x_coded x_statements x_isCrossing 1 x_askSecond x_redMany x_isOpen x_lastGreen x_greenTo x_isCycleGreen x_stillGreen x_rowMany x_fitMany x_fitRules x_fitGreen x_undoable x_newest x_seeded x_qCoded x_qWaits x_qOpened x_qBase 0 x_qAnswer x_qIsNew x_octets)), (wi_rm49_0_6_0 rm cy g_codeFrom), (wi_rm50_0_6_0 rm cy g_codeEnd), (wi_rm116_1_1700_1 rm cy g_qPile), (wi_rm51_0_3200_0 rm cy g_codes), (wi_rm46_0_48_0 rm cy g_walkers), (wi_rm56_0_9_0 rm cy g_now), (wi_rm43_0_8_0 rm cy g_bar), (wi_rm65_0_12_0 rm cy g_waits), (wi_rm44_0_24_0 rm cy g_kinds), (wi_rm61_0_300_0 rm cy g_gaps), (wi_rm66_3_12_0 rm cy g_goes), (wi_rm67_3_12_0 rm cy g_harms)] H := hP
  replace hD := k_D hP hD
  refine lv_aload_n hx hb dX10_codesTell_10 rfl (lv_at hl 0 rfl) ?_
  refine k_get C0 fg_X10_130 hP 0 rfl rfl dX10_codesTell_11 ?_
  refine lv_iconst (v := 3) hx hb dX10_codesTell_14 rfl ?_
  refine lv_iload_n hx hb dX10_codesTell_15 rfl (lv_at hl 1 rfl) ?_
  refine lv_iadd hx hb dX10_codesTell_16 ?_
  refine k_topi (y := 4) (by decide) ?_
  refine va_iald hx hb C0.2.2.2.2.2.1 hP 1 0 rfl rfl (k_in 4 6 rfl) dX10_codesTell_17 ?_
  refine k_topi (y := g_codeFrom 4) rfl ?_
  refine lv_istore_n (lv' := [(3, .int (g_codeFrom 4)), (0, .ref a_this), (1, .int 1), (2, .int p1)]) hx hb dX10_codesTell_18 rfl hl (Nat.le_of_ble_eq_true rfl) rfl (fun ls hl => ?_)
  exact jn19 1602 (g_codeFrom 4) 0 g_qPile H locs ls (ib_w 0 1600 hg_codeFrom_4 rfl) (ib_w 0 1600 (ib_c 0 0 0 rfl) rfl) (by have : (0 : Int32).toInt = 0 := rfl; have := (hg_codeFrom_4).1; omega) (by rw [lf_u (lf_pt (lf_ra g_codeFrom) 4)]; try simp only [show (0 : Int32).toInt = (0 : Int) from rfl]; exact hq) (cdl_0 _ _ _) (by have := hg_codeFrom_4; unfold ib at this; omega) hP hD hS (lv_sub hl [1, 2, 3, 0] rfl)
set_option maxHeartbeats 4000000 in
set_option maxRecDepth 100000 in
theorem s_X10_isHarmed (l : Launch) (dC : Nat → ClassId) (dI : Nat → Nat → Nat) (cy : Nat → ClassId) (sq : Nat → Nat) (a_this : Nat) (rm : Nat → Nat) (x_taped : Int32) (x_at : Int32) (x_end : Int32) (x_ended : Int32) (x_bad : Int32) (x_badPlace : Int32) (x_fault : Int32) (x_faultPlace : Int32) (x_namePlace : Int32) (x_awayTold : Int32) (x_away : Int32) (x_coded : Int32) (x_statements : Int32) (x_isCrossing : Int32) (x_textKind : Int32) (x_askSecond : Int32) (x_redMany : Int32) (x_isOpen : Int32) (x_lastGreen : Int32) (x_greenTo : Int32) (x_isCycleGreen : Int32) (x_stillGreen : Int32) (x_rowMany : Int32) (x_fitMany : Int32) (x_fitRules : Int32) (x_fitGreen : Int32) (x_undoable : Int32) (x_newest : Int32) (x_seeded : Int64) (x_qCoded : Int32) (x_qWaits : Int32) (x_qOpened : Int32) (x_qBase : Int32) (x_qPiled : Int32) (x_qAnswer : Int64) (x_qIsNew : Int32) (x_octets : Int32) (g_kinds : Nat → Int32) (g_walkers : Nat → Int32) (g_gaps : Nat → Int32) (p0 : Int32) (p1 : Int32) (hpg_walkers : ip g_walkers 48 2 0 0 5) (hg_gaps : ia g_gaps 300 0 20) (hp0 : ib p0 0 11) (hp1 : ib p1 0 299) : k_Met l yX10_isHarmed cX10_isHarmed 3 (some .boolean) { frames := 2, cells := 0, slots := 0, locals := 42 } dC dI cy sq [.ref a_this, .int p0, .int p1] [(a_this, .inr (10, mfs rm x_taped x_at x_end x_ended x_bad x_badPlace x_fault x_faultPlace x_namePlace x_awayTold x_away x_coded x_statements x_isCrossing x_textKind x_askSecond x_redMany x_isOpen x_lastGreen x_greenTo x_isCycleGreen x_stillGreen x_rowMany x_fitMany x_fitRules x_fitGreen x_undoable x_newest x_seeded x_qCoded x_qWaits x_qOpened x_qBase x_qPiled x_qAnswer x_qIsNew x_octets)), (wi_rm61_0_300_0 rm cy g_gaps), (wi_rm46_0_48_0 rm cy g_walkers), (wi_rm44_0_24_0 rm cy g_kinds)] (k_Qi dC dI (fun (r : Int32) (_ : Unit) => ib r 0 1 ∧ (F_X10_isHarmed (lf_A g_kinds) (lf_A g_walkers) (lf_A g_gaps) (Int32.toInt p0) (Int32.toInt p1) = ((Int32.toInt r)))) (fun _ : Unit => [(a_this, .inr (10, mfs rm x_taped x_at x_end x_ended x_bad x_badPlace x_fault x_faultPlace x_namePlace x_awayTold x_away x_coded x_statements x_isCrossing x_textKind x_askSecond x_redMany x_isOpen x_lastGreen x_greenTo x_isCycleGreen x_stillGreen x_rowMany x_fitMany x_fitRules x_fitGreen x_undoable x_newest x_seeded x_qCoded x_qWaits x_qOpened x_qBase x_qPiled x_qAnswer x_qIsNew x_octets)), (wi_rm61_0_300_0 rm cy g_gaps), (wi_rm46_0_48_0 rm cy g_walkers), (wi_rm44_0_24_0 rm cy g_kinds)])) := by
  refine k_ofW2 (by decide +kernel) (Nat.le_of_ble_eq_true rfl) ?_
  intro p e s m below meth c A ls H locs args Q hQ C0 hZ hr hlk hin hP hD hA hS hl
  have C0 : k_cx p s m args c cX10_isHarmed 3 RX10 dC dI cy sq := C0
  have hx := C0.1
  have hb := C0.2.1
  have hl : lv_has ls 3 [(0, .ref a_this), (1, .int p0), (2, .int p1)] := hl
  obtain ⟨O, hO⟩ : ∃ o, o = F_X10_isHarmed (lf_A g_kinds) (lf_A g_walkers) (lf_A g_gaps) (Int32.toInt p0) (Int32.toInt p1) := ⟨_, rfl⟩
  have hq := hO
  unfold F_X10_isHarmed at hq
  refine lv_aload_n hx hb dX10_isHarmed_0 rfl (lv_at hl 0 rfl) ?_
  refine k_get C0 fg_X10_149 hP 0 rfl rfl dX10_isHarmed_1 ?_
  refine lv_iload_n hx hb dX10_isHarmed_4 rfl (lv_at hl 2 rfl) ?_
  refine va_iald hx hb C0.2.2.2.2.2.1 hP 1 0 rfl rfl (ib_in 300 hp1 rfl) dX10_isHarmed_5 ?_
  refine lv_topi (fun z1 ez1 => ?_)
  have h2 : ib z1 0 20 := by rw [ez1]; exact ia_at hg_gaps (ib_in 300 hp1 rfl)
  have Ez1 := lf_ld ez1 (lf_ra g_gaps) (lf_rf p1)
  refine lv_aload_n hx hb dX10_isHarmed_6 rfl (lv_at hl 0 rfl) ?_
  refine lv_iload_n hx hb dX10_isHarmed_7 rfl (lv_at hl 1 rfl) ?_
  refine k_jim hP hD hS hA [0, 2, 3] [false, true] rfl rfl rfl 0 0 (Nat.le_of_ble_eq_true rfl) (Nat.le_of_ble_eq_true rfl) (fun hPc hDc => k_runV (As := [.int p0]) (rest := [.int z1]) C0 hZ hS hA (s_X10_paceOf l dC dI cy sq a_this rm x_taped x_at x_end x_ended x_bad x_badPlace x_fault x_faultPlace x_namePlace x_awayTold x_away x_coded x_statements x_isCrossing x_textKind x_askSecond x_redMany x_isOpen x_lastGreen x_greenTo x_isCycleGreen x_stillGreen x_rowMany x_fitMany x_fitRules x_fitGreen x_undoable x_newest x_seeded x_qCoded x_qWaits x_qOpened x_qBase x_qPiled x_qAnswer x_qIsNew x_octets g_kinds g_walkers p0 hpg_walkers (ib_w 0 11 hp0 rfl)) mV_X10_481 hPc hDc rfl rfl rfl hl rfl rfl (Nat.le_of_ble_eq_true rfl) ⟨(Nat.le_of_ble_eq_true rfl), (Nat.le_of_ble_eq_true rfl)⟩ ⟨(Nat.le_of_ble_eq_true rfl), (Nat.le_of_ble_eq_true rfl)⟩ dX10_isHarmed_8) (fun r3 u4 H locs hw hP hD hS => ?_)
  try dsimp only at hP hD hw
  replace hP : va_P (dC, dI) vwCl [(wi_rm61_0_300_0 rm cy g_gaps), (a_this, .inr (10, mfs rm x_taped x_at x_end x_ended x_bad x_badPlace x_fault x_faultPlace x_namePlace x_awayTold x_away x_coded x_statements x_isCrossing x_textKind x_askSecond x_redMany x_isOpen x_lastGreen x_greenTo x_isCycleGreen x_stillGreen x_rowMany x_fitMany x_fitRules x_fitGreen x_undoable x_newest x_seeded x_qCoded x_qWaits x_qOpened x_qBase x_qPiled x_qAnswer x_qIsNew x_octets)), (wi_rm46_0_48_0 rm cy g_walkers), (wi_rm44_0_24_0 rm cy g_kinds)] H := hP
  replace hD := k_D hP hD
  have h5 := hw
  replace hq := lf_b1 hq h5
  refine lv_icmp_ge (tgt := 18) hx hb dX10_isHarmed_11 rfl (fun c6 => ?_) (fun c6 => ?_)
  · replace hq := lf_pos hq (lf_le (lf_rf r3) Ez1 c6)
    have h7 := ib_le (ib_any r3) h2 c6
    have h8 : ib r3 (-2147483648) 20 := ib_w (-2147483648) 20 h7.1 rfl
    refine lv_iconst (v := 0) hx hb dX10_isHarmed_18 rfl ?_
    subst hQ; exact k_iret hx hb hr hlk (k_nb 0 rfl) () hS ⟨ib_w 0 1 (ib_c 0 0 0 rfl) rfl, (hO.symm.trans (by try simp only [show (0 : Int32).toInt = (0 : Int) from rfl]; exact hq))⟩ (hP.sub [1, 0, 2, 3] rfl) (hD.sub [1, 0, 2, 3] rfl rfl) (Nat.le_of_ble_eq_true rfl) (Nat.le_of_ble_eq_true rfl) dX10_isHarmed_19
  · replace hq := lf_neg hq (lf_nle (lf_rf r3) Ez1 c6)
    have h9 := ib_nle (ib_any r3) h2 c6
    have h10 : ib r3 1 2147483647 := ib_w 1 2147483647 h9.1 rfl
    refine lv_iconst (v := 1) hx hb dX10_isHarmed_14 rfl ?_
    refine lv_goto (tgt := 19) hx hb dX10_isHarmed_15 rfl ?_
    subst hQ; exact k_iret hx hb hr hlk (k_nb 1 rfl) () hS ⟨ib_w 0 1 (ib_c 1 1 1 rfl) rfl, (hO.symm.trans (by try simp only [show (1 : Int32).toInt = (1 : Int) from rfl]; exact hq))⟩ (hP.sub [1, 0, 2, 3] rfl) (hD.sub [1, 0, 2, 3] rfl rfl) (Nat.le_of_ble_eq_true rfl) (Nat.le_of_ble_eq_true rfl) dX10_isHarmed_19
set_option maxHeartbeats 4000000 in
set_option maxRecDepth 100000 in
theorem s_X10_acts (l : Launch) (dC : Nat → ClassId) (dI : Nat → Nat → Nat) (cy : Nat → ClassId) (sq : Nat → Nat) (a_this : Nat) (rm : Nat → Nat) (x_taped : Int32) (x_at : Int32) (x_end : Int32) (x_ended : Int32) (x_bad : Int32) (x_badPlace : Int32) (x_fault : Int32) (x_faultPlace : Int32) (x_namePlace : Int32) (x_awayTold : Int32) (x_away : Int32) (x_coded : Int32) (x_statements : Int32) (x_isCrossing : Int32) (x_textKind : Int32) (x_askSecond : Int32) (x_redMany : Int32) (x_isOpen : Int32) (x_lastGreen : Int32) (x_greenTo : Int32) (x_isCycleGreen : Int32) (x_stillGreen : Int32) (x_rowMany : Int32) (x_fitMany : Int32) (x_fitRules : Int32) (x_fitGreen : Int32) (x_undoable : Int32) (x_newest : Int32) (x_seeded : Int64) (x_qCoded : Int32) (x_qWaits : Int32) (x_qOpened : Int32) (x_qBase : Int32) (x_qPiled : Int32) (x_qAnswer : Int64) (x_qIsNew : Int32) (x_octets : Int32) (g_bar : Nat → Int32) (g_kinds : Nat → Int32) (g_walkers : Nat → Int32) (g_codeFrom : Nat → Int32) (g_codeEnd : Nat → Int32) (g_codes : Nat → Int32) (g_now : Nat → Int32) (g_gaps : Nat → Int32) (g_isGreen : Nat → Int32) (g_isHere : Nat → Int32) (g_crosses : Nat → Int32) (g_waits : Nat → Int32) (g_goes : Nat → Int32) (g_harms : Nat → Int32) (g_crossedIn : Nat → Int32) (g_qPile : Nat → Int64) (p0 : Int32) (p1 : Int32) (p2 : Int32) (hx_qPiled : ib x_qPiled 0 1700) (hg_bar_4 : ib (g_bar 4) 10 120) (hpg_walkers : ip g_walkers 48 2 0 0 5) (hg_codeFrom_4 : ib (g_codeFrom 4) (-1) 1600) (hg_codeEnd_4 : ib (g_codeEnd 4) 0 1600) (hg_gaps : ia g_gaps 300 0 20) (hG1 : ¬ g_codeFrom 4 = (-1) → okc g_codes 1600 true (g_codeFrom 4) (g_codeEnd 4)) (hp0 : ib p0 0 11) (hp1 : ib p1 0 299) : k_Met l yX10_acts cX10_acts 4 none { frames := 4, cells := 0, slots := 0, locals := 88 } dC dI cy sq [.ref a_this, .int p0, .int p1, .int p2] [(a_this, .inr (10, mfs rm x_taped x_at x_end x_ended x_bad x_badPlace x_fault x_faultPlace x_namePlace x_awayTold x_away x_coded x_statements x_isCrossing x_textKind x_askSecond x_redMany x_isOpen x_lastGreen x_greenTo x_isCycleGreen x_stillGreen x_rowMany x_fitMany x_fitRules x_fitGreen x_undoable x_newest x_seeded x_qCoded x_qWaits x_qOpened x_qBase x_qPiled x_qAnswer x_qIsNew x_octets)), (wi_rm62_3_300_0 rm cy g_isGreen), (wi_rm46_0_48_0 rm cy g_walkers), (wi_rm44_0_24_0 rm cy g_kinds), (wi_rm64_0_12_0 rm cy g_crosses), (wi_rm63_3_12_0 rm cy g_isHere), (wi_rm69_3_300_0 rm cy g_crossedIn), (wi_rm49_0_6_0 rm cy g_codeFrom), (wi_rm50_0_6_0 rm cy g_codeEnd), (wi_rm116_1_1700_1 rm cy g_qPile), (wi_rm51_0_3200_0 rm cy g_codes), (wi_rm56_0_9_0 rm cy g_now), (wi_rm43_0_8_0 rm cy g_bar), (wi_rm65_0_12_0 rm cy g_waits), (wi_rm61_0_300_0 rm cy g_gaps), (wi_rm66_3_12_0 rm cy g_goes), (wi_rm67_3_12_0 rm cy g_harms)] (k_Qv dC dI (fun (u : Int32 × Int32 × Int32 × Int32 × (Nat → Int32) × (Nat → Int32) × (Nat → Int32) × (Nat → Int64) × (Nat → Int32) × (Nat → Int32) × (Nat → Int32)) => match u with | (n0, n1, n2, n3, n4, n5, n6, n7, n8, n9, n10) => ib n3 0 1700 ∧ (F_X10_acts (Int32.toInt x_textKind) (Int32.toInt x_askSecond) (Int32.toInt x_redMany) (Int32.toInt x_stillGreen) (Int32.toInt x_qPiled) (lf_A g_bar) (lf_A g_kinds) (lf_A g_walkers) (lf_A g_codeFrom) (lf_A g_codeEnd) (lf_A g_codes) (lf_A g_now) (lf_A g_gaps) (lf_A g_isGreen) (lf_A g_isHere) (lf_A g_crosses) (lf_A g_waits) (lf_A g_goes) (lf_A g_harms) (lf_A g_crossedIn) (lf_L g_qPile) (Int32.toInt p0) (Int32.toInt p1) (Int32.toInt p2) = ((Int32.toInt n0), (Int32.toInt n1), (Int32.toInt n2), (Int32.toInt n3), (lf_A n4), (lf_A n5), (lf_A n6), (lf_L n7), (lf_A n8), (lf_A n9), (lf_A n10)))) (fun u : Int32 × Int32 × Int32 × Int32 × (Nat → Int32) × (Nat → Int32) × (Nat → Int32) × (Nat → Int64) × (Nat → Int32) × (Nat → Int32) × (Nat → Int32) => match u with | (n0, n1, n2, n3, n4, n5, n6, n7, n8, n9, n10) => [(a_this, .inr (10, mfs rm x_taped x_at x_end x_ended x_bad x_badPlace x_fault x_faultPlace x_namePlace x_awayTold x_away x_coded x_statements x_isCrossing n0 n1 n2 x_isOpen x_lastGreen x_greenTo x_isCycleGreen x_stillGreen x_rowMany x_fitMany x_fitRules x_fitGreen x_undoable x_newest x_seeded x_qCoded x_qWaits x_qOpened x_qBase n3 x_qAnswer x_qIsNew x_octets)), (wi_rm62_3_300_0 rm cy g_isGreen), (wi_rm46_0_48_0 rm cy g_walkers), (wi_rm44_0_24_0 rm cy g_kinds), (wi_rm64_0_12_0 rm cy n4), (wi_rm63_3_12_0 rm cy n5), (wi_rm69_3_300_0 rm cy n6), (wi_rm49_0_6_0 rm cy g_codeFrom), (wi_rm50_0_6_0 rm cy g_codeEnd), (wi_rm116_1_1700_1 rm cy n7), (wi_rm51_0_3200_0 rm cy g_codes), (wi_rm56_0_9_0 rm cy g_now), (wi_rm43_0_8_0 rm cy g_bar), (wi_rm65_0_12_0 rm cy n8), (wi_rm61_0_300_0 rm cy g_gaps), (wi_rm66_3_12_0 rm cy n9), (wi_rm67_3_12_0 rm cy n10)])) := by
  refine k_ofW2 (by decide +kernel) (Nat.le_of_ble_eq_true rfl) ?_
  intro p e s m below meth c A ls H locs args Q hQ C0 hZ hr hlk hin hP hD hA hS hl
  have C0 : k_cx p s m args c cX10_acts 4 RX10 dC dI cy sq := C0
  have hx := C0.1
  have hb := C0.2.1
  have hl : lv_has ls 4 [(0, .ref a_this), (1, .int p0), (2, .int p1), (3, .int p2)] := hl
  obtain ⟨O, hO⟩ : ∃ o, o = F_X10_acts (Int32.toInt x_textKind) (Int32.toInt x_askSecond) (Int32.toInt x_redMany) (Int32.toInt x_stillGreen) (Int32.toInt x_qPiled) (lf_A g_bar) (lf_A g_kinds) (lf_A g_walkers) (lf_A g_codeFrom) (lf_A g_codeEnd) (lf_A g_codes) (lf_A g_now) (lf_A g_gaps) (lf_A g_isGreen) (lf_A g_isHere) (lf_A g_crosses) (lf_A g_waits) (lf_A g_goes) (lf_A g_harms) (lf_A g_crossedIn) (lf_L g_qPile) (Int32.toInt p0) (Int32.toInt p1) (Int32.toInt p2) := ⟨_, rfl⟩
  have hq := hO
  unfold F_X10_acts at hq
  have jn78 : ∀ (J78_c0_55 : Int32) (J78_c0_117 : Int32) (J78_a9 : Nat → Int64) (H : Heap) (locs : List Loc) (ls : Array Slot), ib J78_c0_117 0 1700 → (O = F_X10_acts_78 (Int32.toInt x_redMany) (lf_A g_isHere) (lf_A g_crosses) (lf_A g_waits) (lf_A g_goes) (lf_A g_harms) (lf_A g_crossedIn) (Int32.toInt p0) (Int32.toInt p1) (Int32.toInt J78_c0_55) (Int32.toInt J78_c0_117) (lf_L J78_a9)) → va_P (dC, dI) vwCl [(a_this, .inr (10, mfs rm x_taped x_at x_end x_ended x_bad x_badPlace x_fault x_faultPlace x_namePlace x_awayTold x_away x_coded x_statements x_isCrossing J78_c0_55 p1 x_redMany x_isOpen x_lastGreen x_greenTo x_isCycleGreen x_stillGreen x_rowMany x_fitMany x_fitRules x_fitGreen x_undoable x_newest x_seeded x_qCoded x_qWaits x_qOpened x_qBase J78_c0_117 x_qAnswer x_qIsNew x_octets)), (wi_rm62_3_300_0 rm cy g_isGreen), (wi_rm46_0_48_0 rm cy g_walkers), (wi_rm44_0_24_0 rm cy g_kinds), (wi_rm64_0_12_0 rm cy g_crosses), (wi_rm63_3_12_0 rm cy g_isHere), (wi_rm69_3_300_0 rm cy g_crossedIn), (wi_rm49_0_6_0 rm cy g_codeFrom), (wi_rm50_0_6_0 rm cy g_codeEnd), (wi_rm116_1_1700_1 rm cy J78_a9), (wi_rm51_0_3200_0 rm cy g_codes), (wi_rm56_0_9_0 rm cy g_now), (wi_rm43_0_8_0 rm cy g_bar), (wi_rm65_0_12_0 rm cy g_waits), (wi_rm61_0_300_0 rm cy g_gaps), (wi_rm66_3_12_0 rm cy g_goes), (wi_rm67_3_12_0 rm cy g_harms)] H → va_D A [(a_this, .inr (10, mfs rm x_taped x_at x_end x_ended x_bad x_badPlace x_fault x_faultPlace x_namePlace x_awayTold x_away x_coded x_statements x_isCrossing J78_c0_55 p1 x_redMany x_isOpen x_lastGreen x_greenTo x_isCycleGreen x_stillGreen x_rowMany x_fitMany x_fitRules x_fitGreen x_undoable x_newest x_seeded x_qCoded x_qWaits x_qOpened x_qBase J78_c0_117 x_qAnswer x_qIsNew x_octets)), (wi_rm62_3_300_0 rm cy g_isGreen), (wi_rm46_0_48_0 rm cy g_walkers), (wi_rm44_0_24_0 rm cy g_kinds), (wi_rm64_0_12_0 rm cy g_crosses), (wi_rm63_3_12_0 rm cy g_isHere), (wi_rm69_3_300_0 rm cy g_crossedIn), (wi_rm49_0_6_0 rm cy g_codeFrom), (wi_rm50_0_6_0 rm cy g_codeEnd), (wi_rm116_1_1700_1 rm cy J78_a9), (wi_rm51_0_3200_0 rm cy g_codes), (wi_rm56_0_9_0 rm cy g_now), (wi_rm43_0_8_0 rm cy g_bar), (wi_rm65_0_12_0 rm cy g_waits), (wi_rm61_0_300_0 rm cy g_gaps), (wi_rm66_3_12_0 rm cy g_goes), (wi_rm67_3_12_0 rm cy g_harms)] → va_S A s.heap H locs → lv_has ls 4 [(0, .ref a_this), (1, .int p0), (2, .int p1), (3, .int p2)] → W p l e { frames := 4, cells := 0, slots := 0, locals := 88 } s m args below meth c H locs 0 0 Q (F0 m 78 ls []) := by
    intro J78_c0_55 J78_c0_117 J78_a9 H locs ls hJ78_c0_117 hq hP hD hS hl
    unfold F_X10_acts_78 at hq
    refine lv_aload_n hx hb dX10_acts_78 rfl (lv_at hl 0 rfl) ?_
    refine k_get C0 fg_X10_161 hP 0 rfl rfl dX10_acts_79 ?_
    refine lv_iload_n hx hb dX10_acts_82 rfl (lv_at hl 1 rfl) ?_
    refine lv_dup2_11 hx hb dX10_acts_83 rfl rfl ?_
    refine va_iald hx hb C0.2.2.2.2.2.1 hP 13 0 rfl rfl (ib_in 12 hp0 rfl) dX10_acts_84 ?_
    refine lv_topi (fun z1 ez1 => ?_)
    have Ez1 := lf_ld ez1 (lf_ra g_waits) (lf_rf p0)
    refine lv_iconst (v := 1) hx hb dX10_acts_85 rfl ?_
    refine lv_iadd hx hb dX10_acts_86 ?_
    refine lv_topi (fun z2 ez2 => ?_)
    have Ez2 := lf_op lf_iadd ez2 Ez1 (lf_lc 1 (1 : Int) rfl)
    refine va_iast hx hb C0.2.2.2.2.2.1 hP hD hS 13 0 rfl rfl (ib_in 12 hp0 rfl) dX10_acts_87 (fun H locs hP hD hS => ?_)
    replace hP : va_P (dC, dI) vwCl [(a_this, .inr (10, mfs rm x_taped x_at x_end x_ended x_bad x_badPlace x_fault x_faultPlace x_namePlace x_awayTold x_away x_coded x_statements x_isCrossing J78_c0_55 p1 x_redMany x_isOpen x_lastGreen x_greenTo x_isCycleGreen x_stillGreen x_rowMany x_fitMany x_fitRules x_fitGreen x_undoable x_newest x_seeded x_qCoded x_qWaits x_qOpened x_qBase J78_c0_117 x_qAnswer x_qIsNew x_octets)), (wi_rm62_3_300_0 rm cy g_isGreen), (wi_rm46_0_48_0 rm cy g_walkers), (wi_rm44_0_24_0 rm cy g_kinds), (wi_rm64_0_12_0 rm cy g_crosses), (wi_rm63_3_12_0 rm cy g_isHere), (wi_rm69_3_300_0 rm cy g_crossedIn), (wi_rm49_0_6_0 rm cy g_codeFrom), (wi_rm50_0_6_0 rm cy g_codeEnd), (wi_rm116_1_1700_1 rm cy J78_a9), (wi_rm51_0_3200_0 rm cy g_codes), (wi_rm56_0_9_0 rm cy g_now), (wi_rm43_0_8_0 rm cy g_bar), (wi_rm65_0_12_0 rm cy (upd g_waits (Int32.toNatClampNeg p0) z2)), (wi_rm61_0_300_0 rm cy g_gaps), (wi_rm66_3_12_0 rm cy g_goes), (wi_rm67_3_12_0 rm cy g_harms)] H := hP
    replace hD := k_D hP hD
    generalize ef3 : upd g_waits (Int32.toNatClampNeg p0) z2 = f3 at hP hD
    have Ef3 := lf_st ef3 (lf_ra g_waits) (lf_rf p0) Ez2
    subst hQ; exact k_vret hx hb hr hlk ((J78_c0_55, p1, x_redMany, J78_c0_117, g_crosses, g_isHere, g_crossedIn, J78_a9, f3, g_goes, g_harms)) hS ⟨ib_w 0 1700 hJ78_c0_117 rfl, (hO.symm.trans (by rw [lf_ua Ef3]; exact hq))⟩ hP hD (Nat.le_of_ble_eq_true rfl) (Nat.le_of_ble_eq_true rfl) dX10_acts_88
  have jn43 : ∀  (H : Heap) (locs : List Loc) (ls : Array Slot), (O = F_X10_acts_43 (Int32.toInt x_textKind) (Int32.toInt x_redMany) (Int32.toInt x_qPiled) (lf_A g_bar) (lf_A g_kinds) (lf_A g_walkers) (lf_A g_codeFrom) (lf_A g_codeEnd) (lf_A g_codes) (lf_A g_now) (lf_A g_gaps) (lf_A g_isHere) (lf_A g_crosses) (lf_A g_waits) (lf_A g_goes) (lf_A g_harms) (lf_A g_crossedIn) (lf_L g_qPile) (Int32.toInt p0) (Int32.toInt p1) (Int32.toInt p2) ) → va_P (dC, dI) vwCl [(a_this, .inr (10, mfs rm x_taped x_at x_end x_ended x_bad x_badPlace x_fault x_faultPlace x_namePlace x_awayTold x_away x_coded x_statements x_isCrossing x_textKind x_askSecond x_redMany x_isOpen x_lastGreen x_greenTo x_isCycleGreen x_stillGreen x_rowMany x_fitMany x_fitRules x_fitGreen x_undoable x_newest x_seeded x_qCoded x_qWaits x_qOpened x_qBase x_qPiled x_qAnswer x_qIsNew x_octets)), (wi_rm62_3_300_0 rm cy g_isGreen), (wi_rm46_0_48_0 rm cy g_walkers), (wi_rm44_0_24_0 rm cy g_kinds), (wi_rm64_0_12_0 rm cy g_crosses), (wi_rm63_3_12_0 rm cy g_isHere), (wi_rm69_3_300_0 rm cy g_crossedIn), (wi_rm49_0_6_0 rm cy g_codeFrom), (wi_rm50_0_6_0 rm cy g_codeEnd), (wi_rm116_1_1700_1 rm cy g_qPile), (wi_rm51_0_3200_0 rm cy g_codes), (wi_rm56_0_9_0 rm cy g_now), (wi_rm43_0_8_0 rm cy g_bar), (wi_rm65_0_12_0 rm cy g_waits), (wi_rm61_0_300_0 rm cy g_gaps), (wi_rm66_3_12_0 rm cy g_goes), (wi_rm67_3_12_0 rm cy g_harms)] H → va_D A [(a_this, .inr (10, mfs rm x_taped x_at x_end x_ended x_bad x_badPlace x_fault x_faultPlace x_namePlace x_awayTold x_away x_coded x_statements x_isCrossing x_textKind x_askSecond x_redMany x_isOpen x_lastGreen x_greenTo x_isCycleGreen x_stillGreen x_rowMany x_fitMany x_fitRules x_fitGreen x_undoable x_newest x_seeded x_qCoded x_qWaits x_qOpened x_qBase x_qPiled x_qAnswer x_qIsNew x_octets)), (wi_rm62_3_300_0 rm cy g_isGreen), (wi_rm46_0_48_0 rm cy g_walkers), (wi_rm44_0_24_0 rm cy g_kinds), (wi_rm64_0_12_0 rm cy g_crosses), (wi_rm63_3_12_0 rm cy g_isHere), (wi_rm69_3_300_0 rm cy g_crossedIn), (wi_rm49_0_6_0 rm cy g_codeFrom), (wi_rm50_0_6_0 rm cy g_codeEnd), (wi_rm116_1_1700_1 rm cy g_qPile), (wi_rm51_0_3200_0 rm cy g_codes), (wi_rm56_0_9_0 rm cy g_now), (wi_rm43_0_8_0 rm cy g_bar), (wi_rm65_0_12_0 rm cy g_waits), (wi_rm61_0_300_0 rm cy g_gaps), (wi_rm66_3_12_0 rm cy g_goes), (wi_rm67_3_12_0 rm cy g_harms)] → va_S A s.heap H locs → lv_has ls 4 [(0, .ref a_this), (1, .int p0), (2, .int p1), (3, .int p2)] → W p l e { frames := 4, cells := 0, slots := 0, locals := 88 } s m args below meth c H locs 0 0 Q (F0 m 43 ls []) := by
    as_aux_lemma =>
      intro H locs ls hq hP hD hS hl
      unfold F_X10_acts_43 at hq
      refine lv_aload_n hx hb dX10_acts_43 rfl (lv_at hl 0 rfl) ?_
      refine lv_iload_n hx hb dX10_acts_44 rfl (lv_at hl 2 rfl) ?_
      refine k_put C0 fp_X10_454 hP hD hS 0 rfl rfl rfl (Nat.le_of_ble_eq_true rfl) dX10_acts_45 (fun H locs hP hD hS => ?_)
      replace hP : va_P (dC, dI) vwCl [(a_this, .inr (10, mfs rm x_taped x_at x_end x_ended x_bad x_badPlace x_fault x_faultPlace x_namePlace x_awayTold x_away x_coded x_statements x_isCrossing x_textKind p1 x_redMany x_isOpen x_lastGreen x_greenTo x_isCycleGreen x_stillGreen x_rowMany x_fitMany x_fitRules x_fitGreen x_undoable x_newest x_seeded x_qCoded x_qWaits x_qOpened x_qBase x_qPiled x_qAnswer x_qIsNew x_octets)), (wi_rm62_3_300_0 rm cy g_isGreen), (wi_rm46_0_48_0 rm cy g_walkers), (wi_rm44_0_24_0 rm cy g_kinds), (wi_rm64_0_12_0 rm cy g_crosses), (wi_rm63_3_12_0 rm cy g_isHere), (wi_rm69_3_300_0 rm cy g_crossedIn), (wi_rm49_0_6_0 rm cy g_codeFrom), (wi_rm50_0_6_0 rm cy g_codeEnd), (wi_rm116_1_1700_1 rm cy g_qPile), (wi_rm51_0_3200_0 rm cy g_codes), (wi_rm56_0_9_0 rm cy g_now), (wi_rm43_0_8_0 rm cy g_bar), (wi_rm65_0_12_0 rm cy g_waits), (wi_rm61_0_300_0 rm cy g_gaps), (wi_rm66_3_12_0 rm cy g_goes), (wi_rm67_3_12_0 rm cy g_harms)] H := hP
      replace hD := k_D hP hD
      refine lv_iload_n hx hb dX10_acts_48 rfl (lv_at hl 3 rfl) ?_
      refine lv_iload_n hx hb dX10_acts_49 rfl (lv_at hl 1 rfl) ?_
      refine lv_ishr hx hb dX10_acts_50 ?_
      refine lv_topi (fun z4 ez4 => ?_)
      have Ez4 := lf_op lf_ishr ez4 (lf_rf p2) (lf_rf p0)
      refine lv_iconst (v := 1) hx hb dX10_acts_51 rfl ?_
      refine lv_iand hx hb dX10_acts_52 ?_
      refine lv_topi (fun z5 ez5 => ?_)
      have h6 : ib z5 0 1 := by rw [ez5]; exact ib_and 1 (by decide) (by decide) 1 (by decide)
      have Ez5 := lf_op lf_iand ez5 Ez4 (lf_lc 1 (1 : Int) rfl)
      refine lv_iconst (v := 1) hx hb dX10_acts_53 rfl ?_
      refine lv_icmp_eq (tgt := 78) hx hb dX10_acts_54 rfl (fun c7 => ?_) (fun c7 => ?_)
      · replace hq := lf_pos hq (lf_eq Ez5 (lf_lc 1 (1 : Int) rfl) c7)
        have h8 := ib_eq h6 (ib_c 1 1 1 rfl) c7
        have h9 : ib z5 1 1 := ib_w 1 1 h8.1 rfl
        exact jn78 x_textKind x_qPiled g_qPile H locs ls (ib_w 0 1700 hx_qPiled rfl) (by exact hq) hP hD hS (lv_sub hl [0, 1, 2, 3] rfl)
      · as_aux_lemma =>
          replace hq := lf_neg hq (lf_ne Ez5 (lf_lc 1 (1 : Int) rfl) c7)
          have h10 : ib z5 0 0 := ib_w 0 0 (ib_ne_hi 1 h6 rfl c7) rfl
          refine lv_aload_n hx hb dX10_acts_57 rfl (lv_at hl 0 rfl) ?_
          refine k_get C0 fg_X10_130 hP 0 rfl rfl dX10_acts_58 ?_
          refine lv_iconst (v := 4) hx hb dX10_acts_61 rfl ?_
          refine va_iald hx hb C0.2.2.2.2.2.1 hP 7 0 rfl rfl (k_in 4 6 rfl) dX10_acts_62 ?_
          refine k_topi (y := g_codeFrom 4) rfl ?_
          refine lv_iconst (v := (-1)) hx hb dX10_acts_63 rfl ?_
          refine lv_icmp_eq (tgt := 78) hx hb dX10_acts_64 rfl (fun c11 => ?_) (fun c11 => ?_)
          · replace hq := lf_pos hq (lf_eq (lf_pt (lf_ra g_codeFrom) 4) (lf_lc (-1) (-1 : Int) rfl) c11)
            have h12 := ib_eq hg_codeFrom_4 (ib_c (-1) (-1) (-1) rfl) c11
            have h13 : ib (g_codeFrom 4) (-1) (-1) := ib_w (-1) (-1) h12.1 rfl
            exact jn78 x_textKind x_qPiled g_qPile H locs ls (ib_w 0 1700 hx_qPiled rfl) (by exact hq) hP hD hS (lv_sub hl [0, 1, 2, 3] rfl)
          · as_aux_lemma =>
              replace hq := lf_neg hq (lf_ne (lf_pt (lf_ra g_codeFrom) 4) (lf_lc (-1) (-1 : Int) rfl) c11)
              have h14 : ib (g_codeFrom 4) 0 1600 := ib_w 0 1600 (ib_ne_lo (-1) hg_codeFrom_4 rfl c11) rfl
              refine lv_aload_n hx hb dX10_acts_67 rfl (lv_at hl 0 rfl) ?_
              refine lv_iconst (v := 1) hx hb dX10_acts_68 rfl ?_
              refine lv_iload_n hx hb dX10_acts_69 rfl (lv_at hl 1 rfl) ?_
              refine k_jlm hP hD hS hA [0, 7, 8, 9, 10, 2, 11, 12, 13, 3, 14, 15, 16] [false, true, false, false, true, true, true] rfl rfl (by decide +kernel) 0 0 (Nat.le_of_ble_eq_true rfl) (Nat.le_of_ble_eq_true rfl) (fun hPc hDc => k_runV (As := [.int 1, .int p0]) (rest := []) C0 hZ hS hA (s_X10_codesTell_a0_1 l dC dI cy sq a_this rm x_taped x_at x_end x_ended x_bad x_badPlace x_fault x_faultPlace x_namePlace x_awayTold x_away x_coded x_statements x_isCrossing x_textKind p1 x_redMany x_isOpen x_lastGreen x_greenTo x_isCycleGreen x_stillGreen x_rowMany x_fitMany x_fitRules x_fitGreen x_undoable x_newest x_seeded x_qCoded x_qWaits x_qOpened x_qBase x_qPiled x_qAnswer x_qIsNew x_octets g_bar g_kinds g_walkers g_codeFrom g_codeEnd g_codes g_now g_gaps g_waits g_goes g_harms g_qPile p0 (ib_w 0 299 hp1 rfl) (ib_w 10 120 hg_bar_4 rfl) hpg_walkers (ib_w 0 1600 h14 rfl) (ib_w 0 1600 hg_codeEnd_4 rfl) hg_gaps hG1 (ib_w 0 11 hp0 rfl)) mV_X10_457 hPc hDc rfl rfl rfl hl rfl rfl (Nat.le_of_ble_eq_true rfl) ⟨(Nat.le_of_ble_eq_true rfl), (Nat.le_of_ble_eq_true rfl)⟩ ⟨(Nat.le_of_ble_eq_true rfl), (Nat.le_of_ble_eq_true rfl)⟩ dX10_acts_70) (fun r15 u16 H locs hw hP hD hS => ?_)
              obtain ⟨v17, f18⟩ := u16
              try dsimp only at hP hD hw
              replace hP : va_P (dC, dI) vwCl [(wi_rm62_3_300_0 rm cy g_isGreen), (wi_rm64_0_12_0 rm cy g_crosses), (wi_rm63_3_12_0 rm cy g_isHere), (wi_rm69_3_300_0 rm cy g_crossedIn), (a_this, .inr (10, mfs rm x_taped x_at x_end x_ended x_bad x_badPlace x_fault x_faultPlace x_namePlace x_awayTold x_away x_coded x_statements x_isCrossing 1 p1 x_redMany x_isOpen x_lastGreen x_greenTo x_isCycleGreen x_stillGreen x_rowMany x_fitMany x_fitRules x_fitGreen x_undoable x_newest x_seeded x_qCoded x_qWaits x_qOpened x_qBase v17 x_qAnswer x_qIsNew x_octets)), (wi_rm49_0_6_0 rm cy g_codeFrom), (wi_rm50_0_6_0 rm cy g_codeEnd), (wi_rm116_1_1700_1 rm cy f18), (wi_rm51_0_3200_0 rm cy g_codes), (wi_rm46_0_48_0 rm cy g_walkers), (wi_rm56_0_9_0 rm cy g_now), (wi_rm43_0_8_0 rm cy g_bar), (wi_rm65_0_12_0 rm cy g_waits), (wi_rm44_0_24_0 rm cy g_kinds), (wi_rm61_0_300_0 rm cy g_gaps), (wi_rm66_3_12_0 rm cy g_goes), (wi_rm67_3_12_0 rm cy g_harms)] H := hP
              replace hD := k_D hP hD
              obtain ⟨h19, h20⟩ := hw
              replace hq := lf_p1 hq h20
              replace hq := lf_p1 hq rfl
              refine lv_lconst (v := 1) hx hb dX10_acts_73 (by decide) ?_
              refine W.lcmp hx hb dX10_acts_74 ?_
              refine lv_topi (fun z21 ez21 => ?_)
              have h22 : ib z21 (-1) 1 := by rw [ez21]; exact ib_cmp _ _
              have Ez21 := lf_cmpe ez21 (lf_rl r15) (lf_ll 1 (1 : Int) rfl)
              refine lv_if_eq (tgt := 89) hx hb dX10_acts_75 rfl (fun c23 => ?_) (fun c23 => ?_)
              · as_aux_lemma =>
                  replace hq := lf_pos hq (lf_eq Ez21 (lf_lc 0 (0 : Int) rfl) c23)
                  have h24 := ib_eq h22 (ib_c 0 0 0 rfl) c23
                  have h25 : ib z21 0 0 := ib_w 0 0 h24.1 rfl
                  refine lv_aload_n hx hb dX10_acts_89 rfl (lv_at hl 0 rfl) ?_
                  refine k_get C0 fg_X10_158 hP 4 rfl rfl dX10_acts_90 ?_
                  refine lv_iload_n hx hb dX10_acts_93 rfl (lv_at hl 1 rfl) ?_
                  refine lv_iload_n hx hb dX10_acts_94 rfl (lv_at hl 2 rfl) ?_
                  refine va_iast hx hb C0.2.2.2.2.2.1 hP hD hS 1 0 rfl rfl (ib_in 12 hp0 rfl) dX10_acts_95 (fun H locs hP hD hS => ?_)
                  replace hP : va_P (dC, dI) vwCl [(wi_rm62_3_300_0 rm cy g_isGreen), (wi_rm64_0_12_0 rm cy (upd g_crosses (Int32.toNatClampNeg p0) p1)), (wi_rm63_3_12_0 rm cy g_isHere), (wi_rm69_3_300_0 rm cy g_crossedIn), (a_this, .inr (10, mfs rm x_taped x_at x_end x_ended x_bad x_badPlace x_fault x_faultPlace x_namePlace x_awayTold x_away x_coded x_statements x_isCrossing 1 p1 x_redMany x_isOpen x_lastGreen x_greenTo x_isCycleGreen x_stillGreen x_rowMany x_fitMany x_fitRules x_fitGreen x_undoable x_newest x_seeded x_qCoded x_qWaits x_qOpened x_qBase v17 x_qAnswer x_qIsNew x_octets)), (wi_rm49_0_6_0 rm cy g_codeFrom), (wi_rm50_0_6_0 rm cy g_codeEnd), (wi_rm116_1_1700_1 rm cy f18), (wi_rm51_0_3200_0 rm cy g_codes), (wi_rm46_0_48_0 rm cy g_walkers), (wi_rm56_0_9_0 rm cy g_now), (wi_rm43_0_8_0 rm cy g_bar), (wi_rm65_0_12_0 rm cy g_waits), (wi_rm44_0_24_0 rm cy g_kinds), (wi_rm61_0_300_0 rm cy g_gaps), (wi_rm66_3_12_0 rm cy g_goes), (wi_rm67_3_12_0 rm cy g_harms)] H := hP
                  replace hD := k_D hP hD
                  generalize ef26 : upd g_crosses (Int32.toNatClampNeg p0) p1 = f26 at hP hD
                  have Ef26 := lf_st ef26 (lf_ra g_crosses) (lf_rf p0) (lf_rf p1)
                  refine lv_aload_n hx hb dX10_acts_96 rfl (lv_at hl 0 rfl) ?_
                  refine k_get C0 fg_X10_155 hP 4 rfl rfl dX10_acts_97 ?_
                  refine lv_iload_n hx hb dX10_acts_100 rfl (lv_at hl 1 rfl) ?_
                  refine lv_iconst (v := 0) hx hb dX10_acts_101 rfl ?_
                  refine va_zast hx hb C0.2.2.2.2.2.1 hP hD hS 2 3 rfl rfl (ib_in 12 hp0 rfl) dX10_acts_102 (fun H locs hP hD hS => ?_)
                  replace hP : va_P (dC, dI) vwCl [(wi_rm62_3_300_0 rm cy g_isGreen), (wi_rm64_0_12_0 rm cy f26), (wi_rm63_3_12_0 rm cy (upd g_isHere (Int32.toNatClampNeg p0) (vp_nar .boolean 0))), (wi_rm69_3_300_0 rm cy g_crossedIn), (a_this, .inr (10, mfs rm x_taped x_at x_end x_ended x_bad x_badPlace x_fault x_faultPlace x_namePlace x_awayTold x_away x_coded x_statements x_isCrossing 1 p1 x_redMany x_isOpen x_lastGreen x_greenTo x_isCycleGreen x_stillGreen x_rowMany x_fitMany x_fitRules x_fitGreen x_undoable x_newest x_seeded x_qCoded x_qWaits x_qOpened x_qBase v17 x_qAnswer x_qIsNew x_octets)), (wi_rm49_0_6_0 rm cy g_codeFrom), (wi_rm50_0_6_0 rm cy g_codeEnd), (wi_rm116_1_1700_1 rm cy f18), (wi_rm51_0_3200_0 rm cy g_codes), (wi_rm46_0_48_0 rm cy g_walkers), (wi_rm56_0_9_0 rm cy g_now), (wi_rm43_0_8_0 rm cy g_bar), (wi_rm65_0_12_0 rm cy g_waits), (wi_rm44_0_24_0 rm cy g_kinds), (wi_rm61_0_300_0 rm cy g_gaps), (wi_rm66_3_12_0 rm cy g_goes), (wi_rm67_3_12_0 rm cy g_harms)] H := hP
                  replace hD := k_D hP hD
                  generalize ef27 : upd g_isHere (Int32.toNatClampNeg p0) (vp_nar .boolean 0) = f27 at hP hD
                  have Ef27 := lf_st (lf_nb ef27 (ib_w 0 1 (ib_c 0 0 0 rfl) rfl)) (lf_ra g_isHere) (lf_rf p0) (lf_lc 0 (0 : Int) rfl)
                  refine lv_aload_n hx hb dX10_acts_103 rfl (lv_at hl 0 rfl) ?_
                  refine k_get C0 fg_X10_164 hP 4 rfl rfl dX10_acts_104 ?_
                  refine lv_iload_n hx hb dX10_acts_107 rfl (lv_at hl 1 rfl) ?_
                  refine lv_iconst (v := 1) hx hb dX10_acts_108 rfl ?_
                  refine va_zast hx hb C0.2.2.2.2.2.1 hP hD hS 15 3 rfl rfl (ib_in 12 hp0 rfl) dX10_acts_109 (fun H locs hP hD hS => ?_)
                  replace hP : va_P (dC, dI) vwCl [(wi_rm62_3_300_0 rm cy g_isGreen), (wi_rm64_0_12_0 rm cy f26), (wi_rm63_3_12_0 rm cy f27), (wi_rm69_3_300_0 rm cy g_crossedIn), (a_this, .inr (10, mfs rm x_taped x_at x_end x_ended x_bad x_badPlace x_fault x_faultPlace x_namePlace x_awayTold x_away x_coded x_statements x_isCrossing 1 p1 x_redMany x_isOpen x_lastGreen x_greenTo x_isCycleGreen x_stillGreen x_rowMany x_fitMany x_fitRules x_fitGreen x_undoable x_newest x_seeded x_qCoded x_qWaits x_qOpened x_qBase v17 x_qAnswer x_qIsNew x_octets)), (wi_rm49_0_6_0 rm cy g_codeFrom), (wi_rm50_0_6_0 rm cy g_codeEnd), (wi_rm116_1_1700_1 rm cy f18), (wi_rm51_0_3200_0 rm cy g_codes), (wi_rm46_0_48_0 rm cy g_walkers), (wi_rm56_0_9_0 rm cy g_now), (wi_rm43_0_8_0 rm cy g_bar), (wi_rm65_0_12_0 rm cy g_waits), (wi_rm44_0_24_0 rm cy g_kinds), (wi_rm61_0_300_0 rm cy g_gaps), (wi_rm66_3_12_0 rm cy (upd g_goes (Int32.toNatClampNeg p0) (vp_nar .boolean 1))), (wi_rm67_3_12_0 rm cy g_harms)] H := hP
                  replace hD := k_D hP hD
                  generalize ef28 : upd g_goes (Int32.toNatClampNeg p0) (vp_nar .boolean 1) = f28 at hP hD
                  have Ef28 := lf_st (lf_nb ef28 (ib_w 0 1 (ib_c 1 1 1 rfl) rfl)) (lf_ra g_goes) (lf_rf p0) (lf_lc 1 (1 : Int) rfl)
                  as_aux_lemma =>
                    refine lv_aload_n hx hb dX10_acts_110 rfl (lv_at hl 0 rfl) ?_
                    refine k_get C0 fg_X10_167 hP 4 rfl rfl dX10_acts_111 ?_
                    refine lv_iload_n hx hb dX10_acts_114 rfl (lv_at hl 1 rfl) ?_
                    refine lv_aload_n hx hb dX10_acts_115 rfl (lv_at hl 0 rfl) ?_
                    refine lv_iload_n hx hb dX10_acts_116 rfl (lv_at hl 1 rfl) ?_
                    refine lv_iload_n hx hb dX10_acts_117 rfl (lv_at hl 2 rfl) ?_
                    refine k_jim hP hD hS hA [4, 14, 9, 13] [true, true, true, true, false, true, true, true, true, false, true, true, true, false, false, true, true] rfl rfl (by decide +kernel) 0 0 (Nat.le_of_ble_eq_true rfl) (Nat.le_of_ble_eq_true rfl) (fun hPc hDc => k_runV (As := [.int p0, .int p1]) (rest := [.int p0, .ref (rm 67)]) C0 hZ hS hA (s_X10_isHarmed l dC dI cy sq a_this rm x_taped x_at x_end x_ended x_bad x_badPlace x_fault x_faultPlace x_namePlace x_awayTold x_away x_coded x_statements x_isCrossing 1 p1 x_redMany x_isOpen x_lastGreen x_greenTo x_isCycleGreen x_stillGreen x_rowMany x_fitMany x_fitRules x_fitGreen x_undoable x_newest x_seeded x_qCoded x_qWaits x_qOpened x_qBase v17 x_qAnswer x_qIsNew x_octets g_kinds g_walkers g_gaps p0 p1 hpg_walkers hg_gaps (ib_w 0 11 hp0 rfl) (ib_w 0 299 hp1 rfl)) mV_X10_484 hPc hDc rfl rfl rfl hl rfl rfl (Nat.le_of_ble_eq_true rfl) ⟨(Nat.le_of_ble_eq_true rfl), (Nat.le_of_ble_eq_true rfl)⟩ ⟨(Nat.le_of_ble_eq_true rfl), (Nat.le_of_ble_eq_true rfl)⟩ dX10_acts_118) (fun r29 u30 H locs hw hP hD hS => ?_)
                    try dsimp only at hP hD hw
                    replace hP : va_P (dC, dI) vwCl [(wi_rm62_3_300_0 rm cy g_isGreen), (wi_rm64_0_12_0 rm cy f26), (wi_rm63_3_12_0 rm cy f27), (wi_rm69_3_300_0 rm cy g_crossedIn), (wi_rm49_0_6_0 rm cy g_codeFrom), (wi_rm50_0_6_0 rm cy g_codeEnd), (wi_rm116_1_1700_1 rm cy f18), (wi_rm51_0_3200_0 rm cy g_codes), (wi_rm56_0_9_0 rm cy g_now), (wi_rm43_0_8_0 rm cy g_bar), (wi_rm65_0_12_0 rm cy g_waits), (wi_rm66_3_12_0 rm cy f28), (wi_rm67_3_12_0 rm cy g_harms), (a_this, .inr (10, mfs rm x_taped x_at x_end x_ended x_bad x_badPlace x_fault x_faultPlace x_namePlace x_awayTold x_away x_coded x_statements x_isCrossing 1 p1 x_redMany x_isOpen x_lastGreen x_greenTo x_isCycleGreen x_stillGreen x_rowMany x_fitMany x_fitRules x_fitGreen x_undoable x_newest x_seeded x_qCoded x_qWaits x_qOpened x_qBase v17 x_qAnswer x_qIsNew x_octets)), (wi_rm61_0_300_0 rm cy g_gaps), (wi_rm46_0_48_0 rm cy g_walkers), (wi_rm44_0_24_0 rm cy g_kinds)] H := hP
                    replace hD := k_D hP hD
                    obtain ⟨h31, h32⟩ := hw
                    replace hq := lf_b1 hq h32
                    refine va_zast hx hb C0.2.2.2.2.2.1 hP hD hS 12 3 rfl rfl (ib_in 12 hp0 rfl) dX10_acts_121 (fun H locs hP hD hS => ?_)
                    replace hP : va_P (dC, dI) vwCl [(wi_rm62_3_300_0 rm cy g_isGreen), (wi_rm64_0_12_0 rm cy f26), (wi_rm63_3_12_0 rm cy f27), (wi_rm69_3_300_0 rm cy g_crossedIn), (wi_rm49_0_6_0 rm cy g_codeFrom), (wi_rm50_0_6_0 rm cy g_codeEnd), (wi_rm116_1_1700_1 rm cy f18), (wi_rm51_0_3200_0 rm cy g_codes), (wi_rm56_0_9_0 rm cy g_now), (wi_rm43_0_8_0 rm cy g_bar), (wi_rm65_0_12_0 rm cy g_waits), (wi_rm66_3_12_0 rm cy f28), (wi_rm67_3_12_0 rm cy (upd g_harms (Int32.toNatClampNeg p0) (vp_nar .boolean r29))), (a_this, .inr (10, mfs rm x_taped x_at x_end x_ended x_bad x_badPlace x_fault x_faultPlace x_namePlace x_awayTold x_away x_coded x_statements x_isCrossing 1 p1 x_redMany x_isOpen x_lastGreen x_greenTo x_isCycleGreen x_stillGreen x_rowMany x_fitMany x_fitRules x_fitGreen x_undoable x_newest x_seeded x_qCoded x_qWaits x_qOpened x_qBase v17 x_qAnswer x_qIsNew x_octets)), (wi_rm61_0_300_0 rm cy g_gaps), (wi_rm46_0_48_0 rm cy g_walkers), (wi_rm44_0_24_0 rm cy g_kinds)] H := hP
                    replace hD := k_D hP hD
                    generalize ef33 : upd g_harms (Int32.toNatClampNeg p0) (vp_nar .boolean r29) = f33 at hP hD
                    have Ef33 := lf_st (lf_nb ef33 (ib_w 0 1 h31 rfl)) (lf_ra g_harms) (lf_rf p0) (lf_rf r29)
                    refine lv_aload_n hx hb dX10_acts_122 rfl (lv_at hl 0 rfl) ?_
                    refine lv_dup hx hb dX10_acts_123 rfl ?_
                    refine k_get C0 fg_X10_488 hP 13 rfl rfl dX10_acts_124 ?_
                    refine lv_iconst (v := 1) hx hb dX10_acts_127 rfl ?_
                    refine lv_iadd hx hb dX10_acts_128 ?_
                    refine lv_topi (fun z34 ez34 => ?_)
                    have Ez34 := lf_op lf_iadd ez34 (lf_rf x_redMany) (lf_lc 1 (1 : Int) rfl)
                    refine k_put C0 fp_X10_488 hP hD hS 13 rfl rfl rfl (Nat.le_of_ble_eq_true rfl) dX10_acts_129 (fun H locs hP hD hS => ?_)
                    replace hP : va_P (dC, dI) vwCl [(wi_rm62_3_300_0 rm cy g_isGreen), (wi_rm64_0_12_0 rm cy f26), (wi_rm63_3_12_0 rm cy f27), (wi_rm69_3_300_0 rm cy g_crossedIn), (wi_rm49_0_6_0 rm cy g_codeFrom), (wi_rm50_0_6_0 rm cy g_codeEnd), (wi_rm116_1_1700_1 rm cy f18), (wi_rm51_0_3200_0 rm cy g_codes), (wi_rm56_0_9_0 rm cy g_now), (wi_rm43_0_8_0 rm cy g_bar), (wi_rm65_0_12_0 rm cy g_waits), (wi_rm66_3_12_0 rm cy f28), (wi_rm67_3_12_0 rm cy f33), (a_this, .inr (10, mfs rm x_taped x_at x_end x_ended x_bad x_badPlace x_fault x_faultPlace x_namePlace x_awayTold x_away x_coded x_statements x_isCrossing 1 p1 z34 x_isOpen x_lastGreen x_greenTo x_isCycleGreen x_stillGreen x_rowMany x_fitMany x_fitRules x_fitGreen x_undoable x_newest x_seeded x_qCoded x_qWaits x_qOpened x_qBase v17 x_qAnswer x_qIsNew x_octets)), (wi_rm61_0_300_0 rm cy g_gaps), (wi_rm46_0_48_0 rm cy g_walkers), (wi_rm44_0_24_0 rm cy g_kinds)] H := hP
                    replace hD := k_D hP hD
                    subst hQ; exact k_vret hx hb hr hlk ((1, p1, z34, v17, f26, f27, g_crossedIn, f18, g_waits, f28, f33)) hS ⟨ib_w 0 1700 h19 rfl, (hO.symm.trans (by try simp only [show (1 : Int32).toInt = (1 : Int) from rfl]; rw [lf_u Ez34]; rw [lf_ua Ef26]; rw [lf_ua Ef27]; rw [lf_ua Ef28]; rw [lf_ua Ef33]; exact hq))⟩ (hP.sub [13, 0, 15, 16, 1, 2, 3, 4, 5, 6, 7, 8, 9, 10, 14, 11, 12] rfl) (hD.sub [13, 0, 15, 16, 1, 2, 3, 4, 5, 6, 7, 8, 9, 10, 14, 11, 12] (by decide +kernel) rfl) (Nat.le_of_ble_eq_true rfl) (Nat.le_of_ble_eq_true rfl) dX10_acts_132
              · replace hq := lf_neg hq (lf_ne Ez21 (lf_lc 0 (0 : Int) rfl) c23)
                exact jn78 1 v17 f18 H locs ls (ib_w 0 1700 h19 rfl) (by try simp only [show (1 : Int32).toInt = (1 : Int) from rfl]; exact hq) (hP.sub [4, 0, 9, 13, 1, 2, 3, 5, 6, 7, 8, 10, 11, 12, 14, 15, 16] rfl) (hD.sub [4, 0, 9, 13, 1, 2, 3, 5, 6, 7, 8, 10, 11, 12, 14, 15, 16] (by decide +kernel) rfl) hS (lv_sub hl [0, 1, 2, 3] rfl)
  refine lv_aload_n hx hb dX10_acts_0 rfl (lv_at hl 0 rfl) ?_
  refine k_get C0 fg_X10_152 hP 0 rfl rfl dX10_acts_1 ?_
  refine lv_iload_n hx hb dX10_acts_4 rfl (lv_at hl 2 rfl) ?_
  refine va_zald hx hb C0.2.2.2.2.2.1 hP 1 3 rfl rfl (ib_in 300 hp1 rfl) dX10_acts_5 ?_
  refine lv_topi (fun z35 ez35 => ?_)
  have Ez35 := lf_ld ez35 (lf_ra g_isGreen) (lf_rf p1)
  refine lv_if_eq (tgt := 43) hx hb dX10_acts_6 rfl (fun c36 => ?_) (fun c36 => ?_)
  · replace hq := lf_pos hq (lf_eq Ez35 (lf_lc 0 (0 : Int) rfl) c36)
    have h37 := ib_eq (ib_any z35) (ib_c 0 0 0 rfl) c36
    have h38 : ib z35 0 0 := ib_w 0 0 h37.1 rfl
    exact jn43  H locs ls (by exact hq) hP hD hS (lv_sub hl [0, 1, 2, 3] rfl)
  · as_aux_lemma =>
      replace hq := lf_neg hq (lf_ne Ez35 (lf_lc 0 (0 : Int) rfl) c36)
      refine lv_aload_n hx hb dX10_acts_9 rfl (lv_at hl 0 rfl) ?_
      refine k_get C0 fg_X10_469 hP 0 rfl rfl dX10_acts_10 ?_
      refine lv_aload_n hx hb dX10_acts_13 rfl (lv_at hl 0 rfl) ?_
      refine lv_iload_n hx hb dX10_acts_14 rfl (lv_at hl 1 rfl) ?_
      refine k_jim hP hD hS hA [0, 2, 3] [false, true, false, false, true, true, true, true, true, true, true, true, true, true, true, true, true] rfl rfl (by decide +kernel) 0 0 (Nat.le_of_ble_eq_true rfl) (Nat.le_of_ble_eq_true rfl) (fun hPc hDc => k_runV (As := [.int p0]) (rest := [.int x_stillGreen]) C0 hZ hS hA (s_X10_paceOf l dC dI cy sq a_this rm x_taped x_at x_end x_ended x_bad x_badPlace x_fault x_faultPlace x_namePlace x_awayTold x_away x_coded x_statements x_isCrossing x_textKind x_askSecond x_redMany x_isOpen x_lastGreen x_greenTo x_isCycleGreen x_stillGreen x_rowMany x_fitMany x_fitRules x_fitGreen x_undoable x_newest x_seeded x_qCoded x_qWaits x_qOpened x_qBase x_qPiled x_qAnswer x_qIsNew x_octets g_kinds g_walkers p0 hpg_walkers (ib_w 0 11 hp0 rfl)) mV_X10_481 hPc hDc rfl rfl rfl hl rfl rfl (Nat.le_of_ble_eq_true rfl) ⟨(Nat.le_of_ble_eq_true rfl), (Nat.le_of_ble_eq_true rfl)⟩ ⟨(Nat.le_of_ble_eq_true rfl), (Nat.le_of_ble_eq_true rfl)⟩ dX10_acts_15) (fun r39 u40 H locs hw hP hD hS => ?_)
      try dsimp only at hP hD hw
      replace hP : va_P (dC, dI) vwCl [(wi_rm62_3_300_0 rm cy g_isGreen), (wi_rm64_0_12_0 rm cy g_crosses), (wi_rm63_3_12_0 rm cy g_isHere), (wi_rm69_3_300_0 rm cy g_crossedIn), (wi_rm49_0_6_0 rm cy g_codeFrom), (wi_rm50_0_6_0 rm cy g_codeEnd), (wi_rm116_1_1700_1 rm cy g_qPile), (wi_rm51_0_3200_0 rm cy g_codes), (wi_rm56_0_9_0 rm cy g_now), (wi_rm43_0_8_0 rm cy g_bar), (wi_rm65_0_12_0 rm cy g_waits), (wi_rm61_0_300_0 rm cy g_gaps), (wi_rm66_3_12_0 rm cy g_goes), (wi_rm67_3_12_0 rm cy g_harms), (a_this, .inr (10, mfs rm x_taped x_at x_end x_ended x_bad x_badPlace x_fault x_faultPlace x_namePlace x_awayTold x_away x_coded x_statements x_isCrossing x_textKind x_askSecond x_redMany x_isOpen x_lastGreen x_greenTo x_isCycleGreen x_stillGreen x_rowMany x_fitMany x_fitRules x_fitGreen x_undoable x_newest x_seeded x_qCoded x_qWaits x_qOpened x_qBase x_qPiled x_qAnswer x_qIsNew x_octets)), (wi_rm46_0_48_0 rm cy g_walkers), (wi_rm44_0_24_0 rm cy g_kinds)] H := hP
      replace hD := k_D hP hD
      have h41 := hw
      replace hq := lf_b1 hq h41
      refine lv_icmp_lt (tgt := 43) hx hb dX10_acts_18 rfl (fun c42 => ?_) (fun c42 => ?_)
      · replace hq := lf_pos hq (lf_lt (lf_rf x_stillGreen) (lf_rf r39) c42)
        have h43 := ib_lt (ib_any x_stillGreen) (ib_any r39) c42
        have h44 : ib x_stillGreen (-2147483648) 2147483646 := ib_w (-2147483648) 2147483646 h43.1 rfl
        have h45 : ib r39 (-2147483647) 2147483647 := ib_w (-2147483647) 2147483647 h43.2 rfl
        exact jn43  H locs ls (by exact hq) (hP.sub [14, 0, 15, 16, 1, 2, 3, 4, 5, 6, 7, 8, 9, 10, 11, 12, 13] rfl) (hD.sub [14, 0, 15, 16, 1, 2, 3, 4, 5, 6, 7, 8, 9, 10, 11, 12, 13] (by decide +kernel) rfl) hS (lv_sub hl [0, 1, 2, 3] rfl)
      · as_aux_lemma =>
          replace hq := lf_neg hq (lf_nlt (lf_rf x_stillGreen) (lf_rf r39) c42)
          have h46 := ib_nlt (ib_any x_stillGreen) (ib_any r39) c42
          refine lv_aload_n hx hb dX10_acts_21 rfl (lv_at hl 0 rfl) ?_
          refine k_get C0 fg_X10_158 hP 14 rfl rfl dX10_acts_22 ?_
          refine lv_iload_n hx hb dX10_acts_25 rfl (lv_at hl 1 rfl) ?_
          refine lv_iload_n hx hb dX10_acts_26 rfl (lv_at hl 2 rfl) ?_
          refine va_iast hx hb C0.2.2.2.2.2.1 hP hD hS 1 0 rfl rfl (ib_in 12 hp0 rfl) dX10_acts_27 (fun H locs hP hD hS => ?_)
          replace hP : va_P (dC, dI) vwCl [(wi_rm62_3_300_0 rm cy g_isGreen), (wi_rm64_0_12_0 rm cy (upd g_crosses (Int32.toNatClampNeg p0) p1)), (wi_rm63_3_12_0 rm cy g_isHere), (wi_rm69_3_300_0 rm cy g_crossedIn), (wi_rm49_0_6_0 rm cy g_codeFrom), (wi_rm50_0_6_0 rm cy g_codeEnd), (wi_rm116_1_1700_1 rm cy g_qPile), (wi_rm51_0_3200_0 rm cy g_codes), (wi_rm56_0_9_0 rm cy g_now), (wi_rm43_0_8_0 rm cy g_bar), (wi_rm65_0_12_0 rm cy g_waits), (wi_rm61_0_300_0 rm cy g_gaps), (wi_rm66_3_12_0 rm cy g_goes), (wi_rm67_3_12_0 rm cy g_harms), (a_this, .inr (10, mfs rm x_taped x_at x_end x_ended x_bad x_badPlace x_fault x_faultPlace x_namePlace x_awayTold x_away x_coded x_statements x_isCrossing x_textKind x_askSecond x_redMany x_isOpen x_lastGreen x_greenTo x_isCycleGreen x_stillGreen x_rowMany x_fitMany x_fitRules x_fitGreen x_undoable x_newest x_seeded x_qCoded x_qWaits x_qOpened x_qBase x_qPiled x_qAnswer x_qIsNew x_octets)), (wi_rm46_0_48_0 rm cy g_walkers), (wi_rm44_0_24_0 rm cy g_kinds)] H := hP
          replace hD := k_D hP hD
          generalize ef47 : upd g_crosses (Int32.toNatClampNeg p0) p1 = f47 at hP hD
          have Ef47 := lf_st ef47 (lf_ra g_crosses) (lf_rf p0) (lf_rf p1)
          refine lv_aload_n hx hb dX10_acts_28 rfl (lv_at hl 0 rfl) ?_
          refine k_get C0 fg_X10_155 hP 14 rfl rfl dX10_acts_29 ?_
          refine lv_iload_n hx hb dX10_acts_32 rfl (lv_at hl 1 rfl) ?_
          refine lv_iconst (v := 0) hx hb dX10_acts_33 rfl ?_
          refine va_zast hx hb C0.2.2.2.2.2.1 hP hD hS 2 3 rfl rfl (ib_in 12 hp0 rfl) dX10_acts_34 (fun H locs hP hD hS => ?_)
          replace hP : va_P (dC, dI) vwCl [(wi_rm62_3_300_0 rm cy g_isGreen), (wi_rm64_0_12_0 rm cy f47), (wi_rm63_3_12_0 rm cy (upd g_isHere (Int32.toNatClampNeg p0) (vp_nar .boolean 0))), (wi_rm69_3_300_0 rm cy g_crossedIn), (wi_rm49_0_6_0 rm cy g_codeFrom), (wi_rm50_0_6_0 rm cy g_codeEnd), (wi_rm116_1_1700_1 rm cy g_qPile), (wi_rm51_0_3200_0 rm cy g_codes), (wi_rm56_0_9_0 rm cy g_now), (wi_rm43_0_8_0 rm cy g_bar), (wi_rm65_0_12_0 rm cy g_waits), (wi_rm61_0_300_0 rm cy g_gaps), (wi_rm66_3_12_0 rm cy g_goes), (wi_rm67_3_12_0 rm cy g_harms), (a_this, .inr (10, mfs rm x_taped x_at x_end x_ended x_bad x_badPlace x_fault x_faultPlace x_namePlace x_awayTold x_away x_coded x_statements x_isCrossing x_textKind x_askSecond x_redMany x_isOpen x_lastGreen x_greenTo x_isCycleGreen x_stillGreen x_rowMany x_fitMany x_fitRules x_fitGreen x_undoable x_newest x_seeded x_qCoded x_qWaits x_qOpened x_qBase x_qPiled x_qAnswer x_qIsNew x_octets)), (wi_rm46_0_48_0 rm cy g_walkers), (wi_rm44_0_24_0 rm cy g_kinds)] H := hP
          replace hD := k_D hP hD
          generalize ef48 : upd g_isHere (Int32.toNatClampNeg p0) (vp_nar .boolean 0) = f48 at hP hD
          have Ef48 := lf_st (lf_nb ef48 (ib_w 0 1 (ib_c 0 0 0 rfl) rfl)) (lf_ra g_isHere) (lf_rf p0) (lf_lc 0 (0 : Int) rfl)
          refine lv_aload_n hx hb dX10_acts_35 rfl (lv_at hl 0 rfl) ?_
          refine k_get C0 fg_X10_173 hP 14 rfl rfl dX10_acts_36 ?_
          refine lv_iload_n hx hb dX10_acts_39 rfl (lv_at hl 2 rfl) ?_
          refine lv_iconst (v := 1) hx hb dX10_acts_40 rfl ?_
          refine va_zast hx hb C0.2.2.2.2.2.1 hP hD hS 3 3 rfl rfl (ib_in 300 hp1 rfl) dX10_acts_41 (fun H locs hP hD hS => ?_)
          replace hP : va_P (dC, dI) vwCl [(wi_rm62_3_300_0 rm cy g_isGreen), (wi_rm64_0_12_0 rm cy f47), (wi_rm63_3_12_0 rm cy f48), (wi_rm69_3_300_0 rm cy (upd g_crossedIn (Int32.toNatClampNeg p1) (vp_nar .boolean 1))), (wi_rm49_0_6_0 rm cy g_codeFrom), (wi_rm50_0_6_0 rm cy g_codeEnd), (wi_rm116_1_1700_1 rm cy g_qPile), (wi_rm51_0_3200_0 rm cy g_codes), (wi_rm56_0_9_0 rm cy g_now), (wi_rm43_0_8_0 rm cy g_bar), (wi_rm65_0_12_0 rm cy g_waits), (wi_rm61_0_300_0 rm cy g_gaps), (wi_rm66_3_12_0 rm cy g_goes), (wi_rm67_3_12_0 rm cy g_harms), (a_this, .inr (10, mfs rm x_taped x_at x_end x_ended x_bad x_badPlace x_fault x_faultPlace x_namePlace x_awayTold x_away x_coded x_statements x_isCrossing x_textKind x_askSecond x_redMany x_isOpen x_lastGreen x_greenTo x_isCycleGreen x_stillGreen x_rowMany x_fitMany x_fitRules x_fitGreen x_undoable x_newest x_seeded x_qCoded x_qWaits x_qOpened x_qBase x_qPiled x_qAnswer x_qIsNew x_octets)), (wi_rm46_0_48_0 rm cy g_walkers), (wi_rm44_0_24_0 rm cy g_kinds)] H := hP
          replace hD := k_D hP hD
          generalize ef49 : upd g_crossedIn (Int32.toNatClampNeg p1) (vp_nar .boolean 1) = f49 at hP hD
          have Ef49 := lf_st (lf_nb ef49 (ib_w 0 1 (ib_c 1 1 1 rfl) rfl)) (lf_ra g_crossedIn) (lf_rf p1) (lf_lc 1 (1 : Int) rfl)
          subst hQ; exact k_vret hx hb hr hlk ((x_textKind, x_askSecond, x_redMany, x_qPiled, f47, f48, f49, g_qPile, g_waits, g_goes, g_harms)) hS ⟨ib_w 0 1700 hx_qPiled rfl, (hO.symm.trans (by rw [lf_ua Ef47]; rw [lf_ua Ef48]; rw [lf_ua Ef49]; exact hq))⟩ (hP.sub [14, 0, 15, 16, 1, 2, 3, 4, 5, 6, 7, 8, 9, 10, 11, 12, 13] rfl) (hD.sub [14, 0, 15, 16, 1, 2, 3, 4, 5, 6, 7, 8, 9, 10, 11, 12, 13] (by decide +kernel) rfl) (Nat.le_of_ble_eq_true rfl) (Nat.le_of_ble_eq_true rfl) dX10_acts_42
set_option maxHeartbeats 4000000 in
set_option maxRecDepth 100000 in
theorem s_X10_walkerMany (l : Launch) (dC : Nat → ClassId) (dI : Nat → Nat → Nat) (cy : Nat → ClassId) (sq : Nat → Nat) (a_this : Nat) (rm : Nat → Nat) (x_taped : Int32) (x_at : Int32) (x_end : Int32) (x_ended : Int32) (x_bad : Int32) (x_badPlace : Int32) (x_fault : Int32) (x_faultPlace : Int32) (x_namePlace : Int32) (x_awayTold : Int32) (x_away : Int32) (x_coded : Int32) (x_statements : Int32) (x_isCrossing : Int32) (x_textKind : Int32) (x_askSecond : Int32) (x_redMany : Int32) (x_isOpen : Int32) (x_lastGreen : Int32) (x_greenTo : Int32) (x_isCycleGreen : Int32) (x_stillGreen : Int32) (x_rowMany : Int32) (x_fitMany : Int32) (x_fitRules : Int32) (x_fitGreen : Int32) (x_undoable : Int32) (x_newest : Int32) (x_seeded : Int64) (x_qCoded : Int32) (x_qWaits : Int32) (x_qOpened : Int32) (x_qBase : Int32) (x_qPiled : Int32) (x_qAnswer : Int64) (x_qIsNew : Int32) (x_octets : Int32) (g_many : Nat → Int32)  : k_Met l yX10_walkerMany cX10_walkerMany 1 (some .int) { frames := 0, cells := 0, slots := 0, locals := 0 } dC dI cy sq [.ref a_this] [(a_this, .inr (10, mfs rm x_taped x_at x_end x_ended x_bad x_badPlace x_fault x_faultPlace x_namePlace x_awayTold x_away x_coded x_statements x_isCrossing x_textKind x_askSecond x_redMany x_isOpen x_lastGreen x_greenTo x_isCycleGreen x_stillGreen x_rowMany x_fitMany x_fitRules x_fitGreen x_undoable x_newest x_seeded x_qCoded x_qWaits x_qOpened x_qBase x_qPiled x_qAnswer x_qIsNew x_octets)), (wi_rm41_0_4_0 rm cy g_many)] (k_Qi dC dI (fun (r : Int32) (_ : Unit) => r = (g_many 3) ∧ (F_X10_walkerMany (lf_A g_many) = ((Int32.toInt r)))) (fun _ : Unit => [(a_this, .inr (10, mfs rm x_taped x_at x_end x_ended x_bad x_badPlace x_fault x_faultPlace x_namePlace x_awayTold x_away x_coded x_statements x_isCrossing x_textKind x_askSecond x_redMany x_isOpen x_lastGreen x_greenTo x_isCycleGreen x_stillGreen x_rowMany x_fitMany x_fitRules x_fitGreen x_undoable x_newest x_seeded x_qCoded x_qWaits x_qOpened x_qBase x_qPiled x_qAnswer x_qIsNew x_octets)), (wi_rm41_0_4_0 rm cy g_many)])) := by
  refine k_ofW2 (by decide +kernel) (Nat.le_of_ble_eq_true rfl) ?_
  intro p e s m below meth c A ls H locs args Q hQ C0 hZ hr hlk hin hP hD hA hS hl
  have C0 : k_cx p s m args c cX10_walkerMany 1 RX10 dC dI cy sq := C0
  have hx := C0.1
  have hb := C0.2.1
  have hl : lv_has ls 1 [(0, .ref a_this)] := hl
  obtain ⟨O, hO⟩ : ∃ o, o = F_X10_walkerMany (lf_A g_many) := ⟨_, rfl⟩
  have hq := hO
  unfold F_X10_walkerMany at hq
  refine lv_aload_n hx hb dX10_walkerMany_0 rfl (lv_at hl 0 rfl) ?_
  refine k_get C0 fg_X10_111 hP 0 rfl rfl dX10_walkerMany_1 ?_
  refine lv_iconst (v := 3) hx hb dX10_walkerMany_4 rfl ?_
  refine va_iald hx hb C0.2.2.2.2.2.1 hP 1 0 rfl rfl (k_in 3 4 rfl) dX10_walkerMany_5 ?_
  refine k_topi (y := g_many 3) rfl ?_
  subst hQ; exact k_iret hx hb hr hlk rfl () hS ⟨rfl, (hO.symm.trans (by rw [lf_u (lf_pt (lf_ra g_many) 3)]; exact hq))⟩ hP hD (Nat.le_of_ble_eq_true rfl) (Nat.le_of_ble_eq_true rfl) dX10_walkerMany_6
set_option maxHeartbeats 4000000 in
set_option maxRecDepth 100000 in
theorem s_X10_secondOf (l : Launch) (dC : Nat → ClassId) (dI : Nat → Nat → Nat) (cy : Nat → ClassId) (sq : Nat → Nat) (a_this : Nat) (rm : Nat → Nat) (x_taped : Int32) (x_at : Int32) (x_end : Int32) (x_ended : Int32) (x_bad : Int32) (x_badPlace : Int32) (x_fault : Int32) (x_faultPlace : Int32) (x_namePlace : Int32) (x_awayTold : Int32) (x_away : Int32) (x_coded : Int32) (x_statements : Int32) (x_isCrossing : Int32) (x_textKind : Int32) (x_askSecond : Int32) (x_redMany : Int32) (x_isOpen : Int32) (x_lastGreen : Int32) (x_greenTo : Int32) (x_isCycleGreen : Int32) (x_stillGreen : Int32) (x_rowMany : Int32) (x_fitMany : Int32) (x_fitRules : Int32) (x_fitGreen : Int32) (x_undoable : Int32) (x_newest : Int32) (x_seeded : Int64) (x_qCoded : Int32) (x_qWaits : Int32) (x_qOpened : Int32) (x_qBase : Int32) (x_qPiled : Int32) (x_qAnswer : Int64) (x_qIsNew : Int32) (x_octets : Int32) (g_walkers : Nat → Int32) (p0 : Int32) (hpg_walkers : ip g_walkers 48 2 0 0 5) (hp0 : ib p0 0 11) : k_Met l yX10_secondOf cX10_secondOf 2 (some .int) { frames := 0, cells := 0, slots := 0, locals := 0 } dC dI cy sq [.ref a_this, .int p0] [(a_this, .inr (10, mfs rm x_taped x_at x_end x_ended x_bad x_badPlace x_fault x_faultPlace x_namePlace x_awayTold x_away x_coded x_statements x_isCrossing x_textKind x_askSecond x_redMany x_isOpen x_lastGreen x_greenTo x_isCycleGreen x_stillGreen x_rowMany x_fitMany x_fitRules x_fitGreen x_undoable x_newest x_seeded x_qCoded x_qWaits x_qOpened x_qBase x_qPiled x_qAnswer x_qIsNew x_octets)), (wi_rm46_0_48_0 rm cy g_walkers)] (k_Qi dC dI (fun (r : Int32) (_ : Unit) => (F_X10_secondOf (lf_A g_walkers) (Int32.toInt p0) = ((Int32.toInt r)))) (fun _ : Unit => [(a_this, .inr (10, mfs rm x_taped x_at x_end x_ended x_bad x_badPlace x_fault x_faultPlace x_namePlace x_awayTold x_away x_coded x_statements x_isCrossing x_textKind x_askSecond x_redMany x_isOpen x_lastGreen x_greenTo x_isCycleGreen x_stillGreen x_rowMany x_fitMany x_fitRules x_fitGreen x_undoable x_newest x_seeded x_qCoded x_qWaits x_qOpened x_qBase x_qPiled x_qAnswer x_qIsNew x_octets)), (wi_rm46_0_48_0 rm cy g_walkers)])) := by
  refine k_ofW2 (by decide +kernel) (Nat.le_of_ble_eq_true rfl) ?_
  intro p e s m below meth c A ls H locs args Q hQ C0 hZ hr hlk hin hP hD hA hS hl
  have C0 : k_cx p s m args c cX10_secondOf 2 RX10 dC dI cy sq := C0
  have hx := C0.1
  have hb := C0.2.1
  have hl : lv_has ls 2 [(0, .ref a_this), (1, .int p0)] := hl
  obtain ⟨O, hO⟩ : ∃ o, o = F_X10_secondOf (lf_A g_walkers) (Int32.toInt p0) := ⟨_, rfl⟩
  have hq := hO
  unfold F_X10_secondOf at hq
  refine lv_aload_n hx hb dX10_secondOf_0 rfl (lv_at hl 0 rfl) ?_
  refine k_get C0 fg_X10_127 hP 0 rfl rfl dX10_secondOf_1 ?_
  refine lv_bipush (v := 25) hx hb dX10_secondOf_4 rfl ?_
  refine lv_iconst (v := 2) hx hb dX10_secondOf_6 rfl ?_
  refine lv_iload_n hx hb dX10_secondOf_7 rfl (lv_at hl 1 rfl) ?_
  refine lv_imul hx hb dX10_secondOf_8 ?_
  refine lv_topi (fun z1 ez1 => ?_)
  have h2 := ib_mul (ib_c 2 2 2 rfl) hp0 rfl
  rw [← ez1] at h2
  have h3 : ib z1 0 22 := ib_w 0 22 h2.1 rfl
  have h4 : z1.toInt = 2 * p0.toInt := by have q0 := h2.2; rw [show (2 : Int32).toInt = 2 from by decide] at q0; omega
  have Ez1 := lf_mul h2.2 (lf_lc 2 (2 : Int) rfl) (lf_rf p0)
  refine lv_iadd hx hb dX10_secondOf_9 ?_
  refine lv_topi (fun z5 ez5 => ?_)
  have h6 := ib_add (ib_c 25 25 25 rfl) h3 rfl
  rw [← ez5] at h6
  have h7 : ib z5 25 47 := ib_w 25 47 h6.1 rfl
  have Ez5 := lf_add h6.2 (lf_lc 25 (25 : Int) rfl) Ez1
  refine va_iald hx hb C0.2.2.2.2.2.1 hP 1 0 rfl rfl (ib_in 48 h7 rfl) dX10_secondOf_10 ?_
  refine lv_topi (fun z8 ez8 => ?_)
  have h9 : Int32.toNatClampNeg z5 % 2 = 0 → ib z8 0 5 := fun q => by rw [ez8]; exact ip_at hpg_walkers (ib_in 48 h7 rfl) q
  have Ez8 := lf_ld ez8 (lf_ra g_walkers) Ez5
  subst hQ; exact k_iret hx hb hr hlk rfl () hS ((hO.symm.trans (by rw [lf_u Ez8]; exact hq))) hP hD (Nat.le_of_ble_eq_true rfl) (Nat.le_of_ble_eq_true rfl) dX10_secondOf_11
set_option maxHeartbeats 4000000 in
set_option maxRecDepth 100000 in
theorem s_X10_arrive (l : Launch) (dC : Nat → ClassId) (dI : Nat → Nat → Nat) (cy : Nat → ClassId) (sq : Nat → Nat) (a_this : Nat) (rm : Nat → Nat) (x_taped : Int32) (x_at : Int32) (x_end : Int32) (x_ended : Int32) (x_bad : Int32) (x_badPlace : Int32) (x_fault : Int32) (x_faultPlace : Int32) (x_namePlace : Int32) (x_awayTold : Int32) (x_away : Int32) (x_coded : Int32) (x_statements : Int32) (x_isCrossing : Int32) (x_textKind : Int32) (x_askSecond : Int32) (x_redMany : Int32) (x_isOpen : Int32) (x_lastGreen : Int32) (x_greenTo : Int32) (x_isCycleGreen : Int32) (x_stillGreen : Int32) (x_rowMany : Int32) (x_fitMany : Int32) (x_fitRules : Int32) (x_fitGreen : Int32) (x_undoable : Int32) (x_newest : Int32) (x_seeded : Int64) (x_qCoded : Int32) (x_qWaits : Int32) (x_qOpened : Int32) (x_qBase : Int32) (x_qPiled : Int32) (x_qAnswer : Int64) (x_qIsNew : Int32) (x_octets : Int32) (g_many : Nat → Int32) (g_walkers : Nat → Int32) (g_now : Nat → Int32) (g_isGreen : Nat → Int32) (g_isHere : Nat → Int32) (g_presses : Nat → Int32) (p0 : Int32) (p1 : Int32) (hx_isOpen : ib x_isOpen 0 1) (hg_many_3 : ib (g_many 3) 0 12) (hpg_walkers : ip g_walkers 48 2 0 0 5) (hp0 : ib p0 0 299) : k_Met l yX10_arrive cX10_arrive 4 none { frames := 1, cells := 0, slots := 0, locals := 21 } dC dI cy sq [.ref a_this, .int p0, .int p1] [(a_this, .inr (10, mfs rm x_taped x_at x_end x_ended x_bad x_badPlace x_fault x_faultPlace x_namePlace x_awayTold x_away x_coded x_statements x_isCrossing x_textKind x_askSecond x_redMany x_isOpen x_lastGreen x_greenTo x_isCycleGreen x_stillGreen x_rowMany x_fitMany x_fitRules x_fitGreen x_undoable x_newest x_seeded x_qCoded x_qWaits x_qOpened x_qBase x_qPiled x_qAnswer x_qIsNew x_octets)), (wi_rm41_0_4_0 rm cy g_many), (wi_rm46_0_48_0 rm cy g_walkers), (wi_rm63_3_12_0 rm cy g_isHere), (wi_rm56_0_9_0 rm cy g_now), (wi_rm62_3_300_0 rm cy g_isGreen), (wi_rm68_3_12_0 rm cy g_presses)] (k_Qv dC dI (fun (u : Int32 × (Nat → Int32) × (Nat → Int32)) => match u with | (n0, n1, n2) => ib n0 0 1 ∧ (F_X10_arrive (Int32.toInt x_isOpen) (lf_A g_many) (lf_A g_walkers) (lf_A g_now) (lf_A g_isGreen) (lf_A g_isHere) (lf_A g_presses) (Int32.toInt p0) (Int32.toInt p1) = ((Int32.toInt n0), (lf_A n1), (lf_A n2)))) (fun u : Int32 × (Nat → Int32) × (Nat → Int32) => match u with | (n0, n1, n2) => [(a_this, .inr (10, mfs rm x_taped x_at x_end x_ended x_bad x_badPlace x_fault x_faultPlace x_namePlace x_awayTold x_away x_coded x_statements x_isCrossing x_textKind x_askSecond x_redMany n0 x_lastGreen x_greenTo x_isCycleGreen x_stillGreen x_rowMany x_fitMany x_fitRules x_fitGreen x_undoable x_newest x_seeded x_qCoded x_qWaits x_qOpened x_qBase x_qPiled x_qAnswer x_qIsNew x_octets)), (wi_rm41_0_4_0 rm cy g_many), (wi_rm46_0_48_0 rm cy g_walkers), (wi_rm63_3_12_0 rm cy n1), (wi_rm56_0_9_0 rm cy g_now), (wi_rm62_3_300_0 rm cy g_isGreen), (wi_rm68_3_12_0 rm cy n2)])) := by
  refine k_ofW2 (by decide +kernel) (Nat.le_of_ble_eq_true rfl) ?_
  intro p e s m below meth c A ls H locs args Q hQ C0 hZ hr hlk hin hP hD hA hS hl
  have C0 : k_cx p s m args c cX10_arrive 4 RX10 dC dI cy sq := C0
  have hx := C0.1
  have hb := C0.2.1
  have hl : lv_has ls 4 [(0, .ref a_this), (1, .int p0), (2, .int p1)] := hl
  obtain ⟨O, hO⟩ : ∃ o, o = F_X10_arrive (Int32.toInt x_isOpen) (lf_A g_many) (lf_A g_walkers) (lf_A g_now) (lf_A g_isGreen) (lf_A g_isHere) (lf_A g_presses) (Int32.toInt p0) (Int32.toInt p1) := ⟨_, rfl⟩
  have hq := hO
  unfold F_X10_arrive at hq
  have jn2 : ∀ (n : Nat) (J2_l3 : Int32) (J2_c0_70 : Int32) (J2_a3 : Nat → Int32) (J2_a6 : Nat → Int32) (H : Heap) (locs : List Loc) (ls : Array Slot), ib J2_l3 0 12 → ib J2_c0_70 0 1 → (O = F_X10_arrive_2 (lf_A g_many) (lf_A g_walkers) (lf_A g_now) (lf_A g_isGreen) (Int32.toInt p0) (Int32.toInt p1) n (Int32.toInt J2_l3) (Int32.toInt J2_c0_70) (lf_A J2_a3) (lf_A J2_a6)) → 13 ≤ J2_l3.toInt + (n : Int) → va_P (dC, dI) vwCl [(a_this, .inr (10, mfs rm x_taped x_at x_end x_ended x_bad x_badPlace x_fault x_faultPlace x_namePlace x_awayTold x_away x_coded x_statements x_isCrossing x_textKind x_askSecond x_redMany J2_c0_70 x_lastGreen x_greenTo x_isCycleGreen x_stillGreen x_rowMany x_fitMany x_fitRules x_fitGreen x_undoable x_newest x_seeded x_qCoded x_qWaits x_qOpened x_qBase x_qPiled x_qAnswer x_qIsNew x_octets)), (wi_rm41_0_4_0 rm cy g_many), (wi_rm46_0_48_0 rm cy g_walkers), (wi_rm63_3_12_0 rm cy J2_a3), (wi_rm56_0_9_0 rm cy g_now), (wi_rm62_3_300_0 rm cy g_isGreen), (wi_rm68_3_12_0 rm cy J2_a6)] H → va_D A [(a_this, .inr (10, mfs rm x_taped x_at x_end x_ended x_bad x_badPlace x_fault x_faultPlace x_namePlace x_awayTold x_away x_coded x_statements x_isCrossing x_textKind x_askSecond x_redMany J2_c0_70 x_lastGreen x_greenTo x_isCycleGreen x_stillGreen x_rowMany x_fitMany x_fitRules x_fitGreen x_undoable x_newest x_seeded x_qCoded x_qWaits x_qOpened x_qBase x_qPiled x_qAnswer x_qIsNew x_octets)), (wi_rm41_0_4_0 rm cy g_many), (wi_rm46_0_48_0 rm cy g_walkers), (wi_rm63_3_12_0 rm cy J2_a3), (wi_rm56_0_9_0 rm cy g_now), (wi_rm62_3_300_0 rm cy g_isGreen), (wi_rm68_3_12_0 rm cy J2_a6)] → va_S A s.heap H locs → lv_has ls 4 [(0, .ref a_this), (1, .int p0), (2, .int p1), (3, .int J2_l3)] → W p l e { frames := 1, cells := 0, slots := 0, locals := 21 } s m args below meth c H locs 0 0 Q (F0 m 2 ls []) := by
    as_aux_lemma =>
      intro n
      induction n with
      | zero =>
        intro J2_l3 J2_c0_70 J2_a3 J2_a6 H locs ls hJ2_l3 hJ2_c0_70 hq hm
        exact absurd hm (by have := hJ2_l3; unfold ib at this; omega)
      | succ n ih =>
        intro J2_l3 J2_c0_70 J2_a3 J2_a6 H locs ls hJ2_l3 hJ2_c0_70 hq hm2 hP hD hS hl
        have ih2 := ih
        obtain ⟨K2, hK2⟩ : ∃ K, K = F_X10_arrive_2 (lf_A g_many) (lf_A g_walkers) (lf_A g_now) (lf_A g_isGreen) (Int32.toInt p0) (Int32.toInt p1) n := ⟨_, rfl⟩
        have hq : O = F_X10_arrive_2b (lf_A g_many) (lf_A g_walkers) (lf_A g_now) (lf_A g_isGreen) (Int32.toInt p0) (Int32.toInt p1) K2 (Int32.toInt J2_l3) (Int32.toInt J2_c0_70) (lf_A J2_a3) (lf_A J2_a6) := by rw [hK2]; exact hq
        unfold F_X10_arrive_2b at hq
        have jn80 : ∀ (J80_a3 : Nat → Int32) (J80_c0_70 : Int32) (J80_a6 : Nat → Int32) (H : Heap) (locs : List Loc) (ls : Array Slot), ib J2_l3 0 11 → ib (g_many 3) 1 12 → ib J80_c0_70 0 1 → (O = F_X10_arrive_80 (Int32.toInt J2_l3) K2 (lf_A J80_a3) (Int32.toInt J80_c0_70) (lf_A J80_a6)) → va_P (dC, dI) vwCl [(a_this, .inr (10, mfs rm x_taped x_at x_end x_ended x_bad x_badPlace x_fault x_faultPlace x_namePlace x_awayTold x_away x_coded x_statements x_isCrossing x_textKind x_askSecond x_redMany J80_c0_70 x_lastGreen x_greenTo x_isCycleGreen x_stillGreen x_rowMany x_fitMany x_fitRules x_fitGreen x_undoable x_newest x_seeded x_qCoded x_qWaits x_qOpened x_qBase x_qPiled x_qAnswer x_qIsNew x_octets)), (wi_rm41_0_4_0 rm cy g_many), (wi_rm46_0_48_0 rm cy g_walkers), (wi_rm63_3_12_0 rm cy J80_a3), (wi_rm56_0_9_0 rm cy g_now), (wi_rm62_3_300_0 rm cy g_isGreen), (wi_rm68_3_12_0 rm cy J80_a6)] H → va_D A [(a_this, .inr (10, mfs rm x_taped x_at x_end x_ended x_bad x_badPlace x_fault x_faultPlace x_namePlace x_awayTold x_away x_coded x_statements x_isCrossing x_textKind x_askSecond x_redMany J80_c0_70 x_lastGreen x_greenTo x_isCycleGreen x_stillGreen x_rowMany x_fitMany x_fitRules x_fitGreen x_undoable x_newest x_seeded x_qCoded x_qWaits x_qOpened x_qBase x_qPiled x_qAnswer x_qIsNew x_octets)), (wi_rm41_0_4_0 rm cy g_many), (wi_rm46_0_48_0 rm cy g_walkers), (wi_rm63_3_12_0 rm cy J80_a3), (wi_rm56_0_9_0 rm cy g_now), (wi_rm62_3_300_0 rm cy g_isGreen), (wi_rm68_3_12_0 rm cy J80_a6)] → va_S A s.heap H locs → lv_has ls 4 [(0, .ref a_this), (1, .int p0), (2, .int p1), (3, .int J2_l3)] → W p l e { frames := 1, cells := 0, slots := 0, locals := 21 } s m args below meth c H locs 0 0 Q (F0 m 80 ls []) := by
          intro J80_a3 J80_c0_70 J80_a6 H locs ls hK80_J2_l3 hJ80_a1_3 hJ80_c0_70 hq hP hD hS hl
          unfold F_X10_arrive_80 at hq
          obtain ⟨z1, ez1⟩ : ∃ y : Int32, y = J2_l3 + 1 := ⟨_, rfl⟩
          refine lv_iinc (v := z1) (lv' := [(3, .int z1), (0, .ref a_this), (1, .int p0), (2, .int p1)]) hx hb dX10_arrive_80 hl (k := 3) rfl (by rw [ez1]; rfl) (Nat.le_of_ble_eq_true rfl) rfl (fun ls hl => ?_)
          have h2 := ib_add hK80_J2_l3 (ib_c 1 1 1 rfl) rfl
          rw [← ez1] at h2
          have h3 : ib z1 1 12 := ib_w 1 12 h2.1 rfl
          have Ez1 := lf_add h2.2 (lf_rf J2_l3) (lf_lc 1 (1 : Int) rfl)
          refine lv_goto (tgt := 2) hx hb dX10_arrive_83 rfl ?_
          exact ih2 z1 J80_c0_70 J80_a3 J80_a6 H locs ls (ib_w 0 12 h3 rfl) (ib_w 0 1 hJ80_c0_70 rfl) (by rw [← hK2]; rw [lf_u Ez1]; exact hq) (by have := h2.2; have : (1 : Int32).toInt = 1 := rfl; omega) hP hD hS (lv_sub hl [1, 2, 3, 0] rfl)
        have jn68 : ∀ (J68_a3 : Nat → Int32) (H : Heap) (locs : List Loc) (ls : Array Slot), ib J2_l3 0 11 → ib J2_c0_70 0 1 → ib (g_many 3) 1 12 → (O = F_X10_arrive_68 (Int32.toInt J2_l3) (lf_A J2_a6) K2 (lf_A J68_a3)) → va_P (dC, dI) vwCl [(a_this, .inr (10, mfs rm x_taped x_at x_end x_ended x_bad x_badPlace x_fault x_faultPlace x_namePlace x_awayTold x_away x_coded x_statements x_isCrossing x_textKind x_askSecond x_redMany J2_c0_70 x_lastGreen x_greenTo x_isCycleGreen x_stillGreen x_rowMany x_fitMany x_fitRules x_fitGreen x_undoable x_newest x_seeded x_qCoded x_qWaits x_qOpened x_qBase x_qPiled x_qAnswer x_qIsNew x_octets)), (wi_rm41_0_4_0 rm cy g_many), (wi_rm46_0_48_0 rm cy g_walkers), (wi_rm63_3_12_0 rm cy J68_a3), (wi_rm56_0_9_0 rm cy g_now), (wi_rm62_3_300_0 rm cy g_isGreen), (wi_rm68_3_12_0 rm cy J2_a6)] H → va_D A [(a_this, .inr (10, mfs rm x_taped x_at x_end x_ended x_bad x_badPlace x_fault x_faultPlace x_namePlace x_awayTold x_away x_coded x_statements x_isCrossing x_textKind x_askSecond x_redMany J2_c0_70 x_lastGreen x_greenTo x_isCycleGreen x_stillGreen x_rowMany x_fitMany x_fitRules x_fitGreen x_undoable x_newest x_seeded x_qCoded x_qWaits x_qOpened x_qBase x_qPiled x_qAnswer x_qIsNew x_octets)), (wi_rm41_0_4_0 rm cy g_many), (wi_rm46_0_48_0 rm cy g_walkers), (wi_rm63_3_12_0 rm cy J68_a3), (wi_rm56_0_9_0 rm cy g_now), (wi_rm62_3_300_0 rm cy g_isGreen), (wi_rm68_3_12_0 rm cy J2_a6)] → va_S A s.heap H locs → lv_has ls 4 [(0, .ref a_this), (1, .int p0), (2, .int p1), (3, .int J2_l3)] → W p l e { frames := 1, cells := 0, slots := 0, locals := 21 } s m args below meth c H locs 0 0 Q (F0 m 68 ls []) := by
          intro J68_a3 H locs ls hK68_J2_l3 hK68_J2_c0_70 hJ68_a1_3 hq hP hD hS hl
          unfold F_X10_arrive_68 at hq
          refine lv_aload_n hx hb dX10_arrive_68 rfl (lv_at hl 0 rfl) ?_
          refine lv_iconst (v := 1) hx hb dX10_arrive_69 rfl ?_
          refine k_put C0 fp_X10_466 hP hD hS 0 rfl (k_nb 1 rfl) (k_fb 1 (by decide)) (Nat.le_of_ble_eq_true rfl) dX10_arrive_70 (fun H locs hP hD hS => ?_)
          replace hP : va_P (dC, dI) vwCl [(a_this, .inr (10, mfs rm x_taped x_at x_end x_ended x_bad x_badPlace x_fault x_faultPlace x_namePlace x_awayTold x_away x_coded x_statements x_isCrossing x_textKind x_askSecond x_redMany 1 x_lastGreen x_greenTo x_isCycleGreen x_stillGreen x_rowMany x_fitMany x_fitRules x_fitGreen x_undoable x_newest x_seeded x_qCoded x_qWaits x_qOpened x_qBase x_qPiled x_qAnswer x_qIsNew x_octets)), (wi_rm41_0_4_0 rm cy g_many), (wi_rm46_0_48_0 rm cy g_walkers), (wi_rm63_3_12_0 rm cy J68_a3), (wi_rm56_0_9_0 rm cy g_now), (wi_rm62_3_300_0 rm cy g_isGreen), (wi_rm68_3_12_0 rm cy J2_a6)] H := hP
          replace hD := k_D hP hD
          refine lv_aload_n hx hb dX10_arrive_73 rfl (lv_at hl 0 rfl) ?_
          refine k_get C0 fg_X10_170 hP 0 rfl rfl dX10_arrive_74 ?_
          refine lv_iload_n hx hb dX10_arrive_77 rfl (lv_at hl 3 rfl) ?_
          refine lv_iconst (v := 1) hx hb dX10_arrive_78 rfl ?_
          refine va_zast hx hb C0.2.2.2.2.2.1 hP hD hS 6 3 rfl rfl (ib_in 12 hK68_J2_l3 rfl) dX10_arrive_79 (fun H locs hP hD hS => ?_)
          replace hP : va_P (dC, dI) vwCl [(a_this, .inr (10, mfs rm x_taped x_at x_end x_ended x_bad x_badPlace x_fault x_faultPlace x_namePlace x_awayTold x_away x_coded x_statements x_isCrossing x_textKind x_askSecond x_redMany 1 x_lastGreen x_greenTo x_isCycleGreen x_stillGreen x_rowMany x_fitMany x_fitRules x_fitGreen x_undoable x_newest x_seeded x_qCoded x_qWaits x_qOpened x_qBase x_qPiled x_qAnswer x_qIsNew x_octets)), (wi_rm41_0_4_0 rm cy g_many), (wi_rm46_0_48_0 rm cy g_walkers), (wi_rm63_3_12_0 rm cy J68_a3), (wi_rm56_0_9_0 rm cy g_now), (wi_rm62_3_300_0 rm cy g_isGreen), (wi_rm68_3_12_0 rm cy (upd J2_a6 (Int32.toNatClampNeg J2_l3) (vp_nar .boolean 1)))] H := hP
          replace hD := k_D hP hD
          generalize ef4 : upd J2_a6 (Int32.toNatClampNeg J2_l3) (vp_nar .boolean 1) = f4 at hP hD
          have Ef4 := lf_st (lf_nb ef4 (ib_w 0 1 (ib_c 1 1 1 rfl) rfl)) (lf_ra J2_a6) (lf_rf J2_l3) (lf_lc 1 (1 : Int) rfl)
          exact jn80 J68_a3 1 f4 H locs ls (ib_w 0 11 hK68_J2_l3 rfl) (ib_w 1 12 hJ68_a1_3 rfl) (ib_w 0 1 (ib_c 1 1 1 rfl) rfl) (by try simp only [show (1 : Int32).toInt = (1 : Int) from rfl]; rw [lf_ua Ef4]; exact hq) hP hD hS (lv_sub hl [0, 1, 2, 3] rfl)
        refine lv_iload_n hx hb dX10_arrive_2 rfl (lv_at hl 3 rfl) ?_
        refine lv_aload_n hx hb dX10_arrive_3 rfl (lv_at hl 0 rfl) ?_
        refine k_jim hP hD hS hA [0, 1] [false, false, true, true, true, true, true] rfl rfl rfl 0 0 (Nat.le_of_ble_eq_true rfl) (Nat.le_of_ble_eq_true rfl) (fun hPc hDc => k_runV (As := []) (rest := [.int J2_l3]) C0 hZ hS hA (s_X10_walkerMany l dC dI cy sq a_this rm x_taped x_at x_end x_ended x_bad x_badPlace x_fault x_faultPlace x_namePlace x_awayTold x_away x_coded x_statements x_isCrossing x_textKind x_askSecond x_redMany J2_c0_70 x_lastGreen x_greenTo x_isCycleGreen x_stillGreen x_rowMany x_fitMany x_fitRules x_fitGreen x_undoable x_newest x_seeded x_qCoded x_qWaits x_qOpened x_qBase x_qPiled x_qAnswer x_qIsNew x_octets g_many ) mV_X10_433 hPc hDc rfl rfl rfl hl rfl rfl (Nat.le_of_ble_eq_true rfl) ⟨(Nat.le_of_ble_eq_true rfl), (Nat.le_of_ble_eq_true rfl)⟩ ⟨(Nat.le_of_ble_eq_true rfl), (Nat.le_of_ble_eq_true rfl)⟩ dX10_arrive_4) (fun r5 u6 H locs hw hP hD hS => ?_)
        try dsimp only at hP hD hw
        replace hP : va_P (dC, dI) vwCl [(wi_rm46_0_48_0 rm cy g_walkers), (wi_rm63_3_12_0 rm cy J2_a3), (wi_rm56_0_9_0 rm cy g_now), (wi_rm62_3_300_0 rm cy g_isGreen), (wi_rm68_3_12_0 rm cy J2_a6), (a_this, .inr (10, mfs rm x_taped x_at x_end x_ended x_bad x_badPlace x_fault x_faultPlace x_namePlace x_awayTold x_away x_coded x_statements x_isCrossing x_textKind x_askSecond x_redMany J2_c0_70 x_lastGreen x_greenTo x_isCycleGreen x_stillGreen x_rowMany x_fitMany x_fitRules x_fitGreen x_undoable x_newest x_seeded x_qCoded x_qWaits x_qOpened x_qBase x_qPiled x_qAnswer x_qIsNew x_octets)), (wi_rm41_0_4_0 rm cy g_many)] H := hP
        replace hD := k_D hP hD
        obtain ⟨h7, h8⟩ := hw
        subst h7
        replace hq := lf_b1 hq h8
        refine lv_icmp_ge (tgt := 86) hx hb dX10_arrive_7 rfl (fun c9 => ?_) (fun c9 => ?_)
        · replace hq := lf_pos hq (lf_le (lf_pt (lf_ra g_many) 3) (lf_rf J2_l3) c9)
          have h10 := ib_le hg_many_3 hJ2_l3 c9
          subst hQ; exact k_vret hx hb hr hlk ((J2_c0_70, J2_a3, J2_a6)) hS ⟨ib_w 0 1 hJ2_c0_70 rfl, (hO.symm.trans (by exact hq))⟩ (hP.sub [5, 6, 0, 1, 2, 3, 4] rfl) (hD.sub [5, 6, 0, 1, 2, 3, 4] rfl rfl) (Nat.le_of_ble_eq_true rfl) (Nat.le_of_ble_eq_true rfl) dX10_arrive_86
        · as_aux_lemma =>
            replace hq := lf_neg hq (lf_nle (lf_pt (lf_ra g_many) 3) (lf_rf J2_l3) c9)
            have h11 := ib_nle hg_many_3 hJ2_l3 c9
            have h12 : ib (g_many 3) 1 12 := ib_w 1 12 h11.1 rfl
            have h13 : ib J2_l3 0 11 := ib_w 0 11 h11.2 rfl
            refine lv_aload_n hx hb dX10_arrive_10 rfl (lv_at hl 0 rfl) ?_
            refine lv_iload_n hx hb dX10_arrive_11 rfl (lv_at hl 3 rfl) ?_
            refine k_jim hP hD hS hA [5, 0] [false, true, true, true, true, false, true] rfl rfl rfl 0 0 (Nat.le_of_ble_eq_true rfl) (Nat.le_of_ble_eq_true rfl) (fun hPc hDc => k_runV (As := [.int J2_l3]) (rest := []) C0 hZ hS hA (s_X10_secondOf l dC dI cy sq a_this rm x_taped x_at x_end x_ended x_bad x_badPlace x_fault x_faultPlace x_namePlace x_awayTold x_away x_coded x_statements x_isCrossing x_textKind x_askSecond x_redMany J2_c0_70 x_lastGreen x_greenTo x_isCycleGreen x_stillGreen x_rowMany x_fitMany x_fitRules x_fitGreen x_undoable x_newest x_seeded x_qCoded x_qWaits x_qOpened x_qBase x_qPiled x_qAnswer x_qIsNew x_octets g_walkers J2_l3 hpg_walkers (ib_w 0 11 h13 rfl)) mV_X10_460 hPc hDc rfl rfl rfl hl rfl rfl (Nat.le_of_ble_eq_true rfl) ⟨(Nat.le_of_ble_eq_true rfl), (Nat.le_of_ble_eq_true rfl)⟩ ⟨(Nat.le_of_ble_eq_true rfl), (Nat.le_of_ble_eq_true rfl)⟩ dX10_arrive_12) (fun r14 u15 H locs hw hP hD hS => ?_)
            try dsimp only at hP hD hw
            replace hP : va_P (dC, dI) vwCl [(wi_rm63_3_12_0 rm cy J2_a3), (wi_rm56_0_9_0 rm cy g_now), (wi_rm62_3_300_0 rm cy g_isGreen), (wi_rm68_3_12_0 rm cy J2_a6), (wi_rm41_0_4_0 rm cy g_many), (a_this, .inr (10, mfs rm x_taped x_at x_end x_ended x_bad x_badPlace x_fault x_faultPlace x_namePlace x_awayTold x_away x_coded x_statements x_isCrossing x_textKind x_askSecond x_redMany J2_c0_70 x_lastGreen x_greenTo x_isCycleGreen x_stillGreen x_rowMany x_fitMany x_fitRules x_fitGreen x_undoable x_newest x_seeded x_qCoded x_qWaits x_qOpened x_qBase x_qPiled x_qAnswer x_qIsNew x_octets)), (wi_rm46_0_48_0 rm cy g_walkers)] H := hP
            replace hD := k_D hP hD
            have h16 := hw
            replace hq := lf_b1 hq h16
            refine lv_iload_n hx hb dX10_arrive_15 rfl (lv_at hl 1 rfl) ?_
            refine lv_icmp_ne (tgt := 80) hx hb dX10_arrive_16 rfl (fun c17 => ?_) (fun c17 => ?_)
            · replace hq := lf_neg hq (lf_ne (lf_rf r14) (lf_rf p0) c17)
              exact jn80 J2_a3 J2_c0_70 J2_a6 H locs ls (ib_w 0 11 h13 rfl) (ib_w 1 12 h12 rfl) (ib_w 0 1 hJ2_c0_70 rfl) (by exact hq) (hP.sub [5, 4, 6, 0, 1, 2, 3] rfl) (hD.sub [5, 4, 6, 0, 1, 2, 3] rfl rfl) hS (lv_sub hl [0, 1, 2, 3] rfl)
            · as_aux_lemma =>
                replace hq := lf_pos hq (lf_eq (lf_rf r14) (lf_rf p0) c17)
                have h18 := ib_eq (ib_any r14) hp0 c17
                have h19 : ib r14 0 299 := ib_w 0 299 h18.1 rfl
                refine lv_iload_n hx hb dX10_arrive_19 rfl (lv_at hl 2 rfl) ?_
                refine lv_iload_n hx hb dX10_arrive_20 rfl (lv_at hl 3 rfl) ?_
                refine lv_ishr hx hb dX10_arrive_21 ?_
                refine lv_topi (fun z20 ez20 => ?_)
                have Ez20 := lf_op lf_ishr ez20 (lf_rf p1) (lf_rf J2_l3)
                refine lv_iconst (v := 1) hx hb dX10_arrive_22 rfl ?_
                refine lv_iand hx hb dX10_arrive_23 ?_
                refine lv_topi (fun z21 ez21 => ?_)
                have h22 : ib z21 0 1 := by rw [ez21]; exact ib_and 1 (by decide) (by decide) 1 (by decide)
                have Ez21 := lf_op lf_iand ez21 Ez20 (lf_lc 1 (1 : Int) rfl)
                refine lv_iconst (v := 1) hx hb dX10_arrive_24 rfl ?_
                refine lv_icmp_ne (tgt := 31) hx hb dX10_arrive_25 rfl (fun c23 => ?_) (fun c23 => ?_)
                · as_aux_lemma =>
                    replace hq := lf_neg hq (lf_ne Ez21 (lf_lc 1 (1 : Int) rfl) c23)
                    have h24 : ib z21 0 0 := ib_w 0 0 (ib_ne_hi 1 h22 rfl c23) rfl
                    refine lv_aload_n hx hb dX10_arrive_31 rfl (lv_at hl 0 rfl) ?_
                    refine k_get C0 fg_X10_155 hP 5 rfl rfl dX10_arrive_32 ?_
                    refine lv_iload_n hx hb dX10_arrive_35 rfl (lv_at hl 3 rfl) ?_
                    refine lv_iconst (v := 1) hx hb dX10_arrive_36 rfl ?_
                    refine va_zast hx hb C0.2.2.2.2.2.1 hP hD hS 0 3 rfl rfl (ib_in 12 h13 rfl) dX10_arrive_37 (fun H locs hP hD hS => ?_)
                    replace hP : va_P (dC, dI) vwCl [(wi_rm63_3_12_0 rm cy (upd J2_a3 (Int32.toNatClampNeg J2_l3) (vp_nar .boolean 1))), (wi_rm56_0_9_0 rm cy g_now), (wi_rm62_3_300_0 rm cy g_isGreen), (wi_rm68_3_12_0 rm cy J2_a6), (wi_rm41_0_4_0 rm cy g_many), (a_this, .inr (10, mfs rm x_taped x_at x_end x_ended x_bad x_badPlace x_fault x_faultPlace x_namePlace x_awayTold x_away x_coded x_statements x_isCrossing x_textKind x_askSecond x_redMany J2_c0_70 x_lastGreen x_greenTo x_isCycleGreen x_stillGreen x_rowMany x_fitMany x_fitRules x_fitGreen x_undoable x_newest x_seeded x_qCoded x_qWaits x_qOpened x_qBase x_qPiled x_qAnswer x_qIsNew x_octets)), (wi_rm46_0_48_0 rm cy g_walkers)] H := hP
                    replace hD := k_D hP hD
                    generalize ef25 : upd J2_a3 (Int32.toNatClampNeg J2_l3) (vp_nar .boolean 1) = f25 at hP hD
                    have Ef25 := lf_st (lf_nb ef25 (ib_w 0 1 (ib_c 1 1 1 rfl) rfl)) (lf_ra J2_a3) (lf_rf J2_l3) (lf_lc 1 (1 : Int) rfl)
                    refine lv_aload_n hx hb dX10_arrive_38 rfl (lv_at hl 0 rfl) ?_
                    refine lv_aload_n hx hb dX10_arrive_39 rfl (lv_at hl 0 rfl) ?_
                    refine lv_iload_n hx hb dX10_arrive_40 rfl (lv_at hl 3 rfl) ?_
                    refine k_jim hP hD hS hA [5, 6] [true, true, true, true, true] rfl rfl rfl 0 0 (Nat.le_of_ble_eq_true rfl) (Nat.le_of_ble_eq_true rfl) (fun hPc hDc => k_runV (As := [.int J2_l3]) (rest := [.ref a_this]) C0 hZ hS hA (s_X10_kindOf l dC dI cy sq a_this rm x_taped x_at x_end x_ended x_bad x_badPlace x_fault x_faultPlace x_namePlace x_awayTold x_away x_coded x_statements x_isCrossing x_textKind x_askSecond x_redMany J2_c0_70 x_lastGreen x_greenTo x_isCycleGreen x_stillGreen x_rowMany x_fitMany x_fitRules x_fitGreen x_undoable x_newest x_seeded x_qCoded x_qWaits x_qOpened x_qBase x_qPiled x_qAnswer x_qIsNew x_octets g_walkers J2_l3 hpg_walkers (ib_w 0 11 h13 rfl)) mV_X10_436 hPc hDc rfl rfl rfl hl rfl rfl (Nat.le_of_ble_eq_true rfl) ⟨(Nat.le_of_ble_eq_true rfl), (Nat.le_of_ble_eq_true rfl)⟩ ⟨(Nat.le_of_ble_eq_true rfl), (Nat.le_of_ble_eq_true rfl)⟩ dX10_arrive_41) (fun r26 u27 H locs hw hP hD hS => ?_)
                    try dsimp only at hP hD hw
                    replace hP : va_P (dC, dI) vwCl [(wi_rm63_3_12_0 rm cy f25), (wi_rm56_0_9_0 rm cy g_now), (wi_rm62_3_300_0 rm cy g_isGreen), (wi_rm68_3_12_0 rm cy J2_a6), (wi_rm41_0_4_0 rm cy g_many), (a_this, .inr (10, mfs rm x_taped x_at x_end x_ended x_bad x_badPlace x_fault x_faultPlace x_namePlace x_awayTold x_away x_coded x_statements x_isCrossing x_textKind x_askSecond x_redMany J2_c0_70 x_lastGreen x_greenTo x_isCycleGreen x_stillGreen x_rowMany x_fitMany x_fitRules x_fitGreen x_undoable x_newest x_seeded x_qCoded x_qWaits x_qOpened x_qBase x_qPiled x_qAnswer x_qIsNew x_octets)), (wi_rm46_0_48_0 rm cy g_walkers)] H := hP
                    replace hD := k_D hP hD
                    obtain ⟨h28, h29⟩ := hw
                    replace hq := lf_b1 hq h29
                    refine k_jim hP hD hS hA [5, 1] [true, false, true, true, true, false, true] rfl rfl rfl 0 0 (Nat.le_of_ble_eq_true rfl) (Nat.le_of_ble_eq_true rfl) (fun hPc hDc => k_runV (As := [.int r26]) (rest := []) C0 hZ hS hA (s_X10_trustsOf l dC dI cy sq a_this rm x_taped x_at x_end x_ended x_bad x_badPlace x_fault x_faultPlace x_namePlace x_awayTold x_away x_coded x_statements x_isCrossing x_textKind x_askSecond x_redMany J2_c0_70 x_lastGreen x_greenTo x_isCycleGreen x_stillGreen x_rowMany x_fitMany x_fitRules x_fitGreen x_undoable x_newest x_seeded x_qCoded x_qWaits x_qOpened x_qBase x_qPiled x_qAnswer x_qIsNew x_octets g_now r26 (ib_w 0 5 h28 rfl)) mV_X10_463 hPc hDc rfl rfl rfl hl rfl rfl (Nat.le_of_ble_eq_true rfl) ⟨(Nat.le_of_ble_eq_true rfl), (Nat.le_of_ble_eq_true rfl)⟩ ⟨(Nat.le_of_ble_eq_true rfl), (Nat.le_of_ble_eq_true rfl)⟩ dX10_arrive_44) (fun r30 u31 H locs hw hP hD hS => ?_)
                    try dsimp only at hP hD hw
                    replace hP : va_P (dC, dI) vwCl [(wi_rm63_3_12_0 rm cy f25), (wi_rm62_3_300_0 rm cy g_isGreen), (wi_rm68_3_12_0 rm cy J2_a6), (wi_rm41_0_4_0 rm cy g_many), (wi_rm46_0_48_0 rm cy g_walkers), (a_this, .inr (10, mfs rm x_taped x_at x_end x_ended x_bad x_badPlace x_fault x_faultPlace x_namePlace x_awayTold x_away x_coded x_statements x_isCrossing x_textKind x_askSecond x_redMany J2_c0_70 x_lastGreen x_greenTo x_isCycleGreen x_stillGreen x_rowMany x_fitMany x_fitRules x_fitGreen x_undoable x_newest x_seeded x_qCoded x_qWaits x_qOpened x_qBase x_qPiled x_qAnswer x_qIsNew x_octets)), (wi_rm56_0_9_0 rm cy g_now)] H := hP
                    replace hD := k_D hP hD
                    have h32 := hw
                    replace hq := lf_b1 hq h32
                    refine lv_if_eq (tgt := 80) hx hb dX10_arrive_47 rfl (fun c33 => ?_) (fun c33 => ?_)
                    · replace hq := lf_pos hq (lf_eq (lf_rf r30) (lf_lc 0 (0 : Int) rfl) c33)
                      have h34 := ib_eq (ib_any r30) (ib_c 0 0 0 rfl) c33
                      have h35 : ib r30 0 0 := ib_w 0 0 h34.1 rfl
                      exact jn80 f25 J2_c0_70 J2_a6 H locs ls (ib_w 0 11 h13 rfl) (ib_w 1 12 h12 rfl) (ib_w 0 1 hJ2_c0_70 rfl) (by rw [lf_ua Ef25]; exact hq) (hP.sub [5, 3, 4, 0, 6, 1, 2] rfl) (hD.sub [5, 3, 4, 0, 6, 1, 2] rfl rfl) hS (lv_sub hl [0, 1, 2, 3] rfl)
                    · as_aux_lemma =>
                        replace hq := lf_neg hq (lf_ne (lf_rf r30) (lf_lc 0 (0 : Int) rfl) c33)
                        refine lv_iload_n hx hb dX10_arrive_50 rfl (lv_at hl 1 rfl) ?_
                        refine lv_if_le (tgt := 68) hx hb dX10_arrive_51 rfl (fun c36 => ?_) (fun c36 => ?_)
                        · replace hq := lf_pos hq (lf_le (lf_rf p0) (lf_lc 0 (0 : Int) rfl) c36)
                          have h37 := ib_le hp0 (ib_c 0 0 0 rfl) c36
                          have h38 : ib p0 0 0 := ib_w 0 0 h37.1 rfl
                          exact jn68 f25 H locs ls (ib_w 0 11 h13 rfl) (ib_w 0 1 hJ2_c0_70 rfl) (ib_w 1 12 h12 rfl) (by rw [lf_ua Ef25]; exact hq) (hP.sub [5, 3, 4, 0, 6, 1, 2] rfl) (hD.sub [5, 3, 4, 0, 6, 1, 2] rfl rfl) hS (lv_sub hl [0, 1, 2, 3] rfl)
                        · as_aux_lemma =>
                            replace hq := lf_neg hq (lf_nle (lf_rf p0) (lf_lc 0 (0 : Int) rfl) c36)
                            have h39 := ib_nle hp0 (ib_c 0 0 0 rfl) c36
                            have h40 : ib p0 1 299 := ib_w 1 299 h39.1 rfl
                            refine lv_aload_n hx hb dX10_arrive_54 rfl (lv_at hl 0 rfl) ?_
                            refine k_get C0 fg_X10_152 hP 5 rfl rfl dX10_arrive_55 ?_
                            refine lv_iload_n hx hb dX10_arrive_58 rfl (lv_at hl 1 rfl) ?_
                            refine lv_iconst (v := 1) hx hb dX10_arrive_59 rfl ?_
                            refine lv_isub hx hb dX10_arrive_60 ?_
                            refine lv_topi (fun z41 ez41 => ?_)
                            have h42 := ib_sub h40 (ib_c 1 1 1 rfl) rfl
                            rw [← ez41] at h42
                            have h43 : ib z41 0 298 := ib_w 0 298 h42.1 rfl
                            have Ez41 := lf_sub h42.2 (lf_rf p0) (lf_lc 1 (1 : Int) rfl)
                            refine va_zald hx hb C0.2.2.2.2.2.1 hP 1 3 rfl rfl (ib_in 300 h43 rfl) dX10_arrive_61 ?_
                            refine lv_topi (fun z44 ez44 => ?_)
                            have Ez44 := lf_ld ez44 (lf_ra g_isGreen) Ez41
                            refine lv_if_eq (tgt := 68) hx hb dX10_arrive_62 rfl (fun c45 => ?_) (fun c45 => ?_)
                            · replace hq := lf_pos hq (lf_eq Ez44 (lf_lc 0 (0 : Int) rfl) c45)
                              have h46 := ib_eq (ib_any z44) (ib_c 0 0 0 rfl) c45
                              have h47 : ib z44 0 0 := ib_w 0 0 h46.1 rfl
                              exact jn68 f25 H locs ls (ib_w 0 11 h13 rfl) (ib_w 0 1 hJ2_c0_70 rfl) (ib_w 1 12 h12 rfl) (by rw [lf_ua Ef25]; exact hq) (hP.sub [5, 3, 4, 0, 6, 1, 2] rfl) (hD.sub [5, 3, 4, 0, 6, 1, 2] rfl rfl) hS (lv_sub hl [0, 1, 2, 3] rfl)
                            · replace hq := lf_neg hq (lf_ne Ez44 (lf_lc 0 (0 : Int) rfl) c45)
                              refine lv_goto (tgt := 80) hx hb dX10_arrive_65 rfl ?_
                              exact jn80 f25 J2_c0_70 J2_a6 H locs ls (ib_w 0 11 h13 rfl) (ib_w 1 12 h12 rfl) (ib_w 0 1 hJ2_c0_70 rfl) (by rw [lf_ua Ef25]; exact hq) (hP.sub [5, 3, 4, 0, 6, 1, 2] rfl) (hD.sub [5, 3, 4, 0, 6, 1, 2] rfl rfl) hS (lv_sub hl [0, 1, 2, 3] rfl)
                · replace hq := lf_pos hq (lf_eq Ez21 (lf_lc 1 (1 : Int) rfl) c23)
                  have h48 := ib_eq h22 (ib_c 1 1 1 rfl) c23
                  have h49 : ib z21 1 1 := ib_w 1 1 h48.1 rfl
                  refine lv_goto (tgt := 80) hx hb dX10_arrive_28 rfl ?_
                  exact jn80 J2_a3 J2_c0_70 J2_a6 H locs ls (ib_w 0 11 h13 rfl) (ib_w 1 12 h12 rfl) (ib_w 0 1 hJ2_c0_70 rfl) (by exact hq) (hP.sub [5, 4, 6, 0, 1, 2, 3] rfl) (hD.sub [5, 4, 6, 0, 1, 2, 3] rfl rfl) hS (lv_sub hl [0, 1, 2, 3] rfl)
  refine lv_iconst (v := 0) hx hb dX10_arrive_0 rfl ?_
  refine lv_istore_n (lv' := [(3, .int 0), (0, .ref a_this), (1, .int p0), (2, .int p1)]) hx hb dX10_arrive_1 rfl hl (Nat.le_of_ble_eq_true rfl) rfl (fun ls hl => ?_)
  exact jn2 14 0 x_isOpen g_isHere g_presses H locs ls (ib_w 0 12 (ib_c 0 0 0 rfl) rfl) (ib_w 0 1 hx_isOpen rfl) (by try simp only [show (0 : Int32).toInt = (0 : Int) from rfl]; exact hq) (by have := (ib_c 0 0 0 rfl); unfold ib at this; omega) hP hD hS (lv_sub hl [1, 2, 3, 0] rfl)
set_option maxHeartbeats 4000000 in
set_option maxRecDepth 100000 in
theorem s_X10_look (l : Launch) (dC : Nat → ClassId) (dI : Nat → Nat → Nat) (cy : Nat → ClassId) (sq : Nat → Nat) (a_this : Nat) (rm : Nat → Nat) (x_taped : Int32) (x_at : Int32) (x_end : Int32) (x_ended : Int32) (x_bad : Int32) (x_badPlace : Int32) (x_fault : Int32) (x_faultPlace : Int32) (x_namePlace : Int32) (x_awayTold : Int32) (x_away : Int32) (x_coded : Int32) (x_statements : Int32) (x_isCrossing : Int32) (x_textKind : Int32) (x_askSecond : Int32) (x_redMany : Int32) (x_isOpen : Int32) (x_lastGreen : Int32) (x_greenTo : Int32) (x_isCycleGreen : Int32) (x_stillGreen : Int32) (x_rowMany : Int32) (x_fitMany : Int32) (x_fitRules : Int32) (x_fitGreen : Int32) (x_undoable : Int32) (x_newest : Int32) (x_seeded : Int64) (x_qCoded : Int32) (x_qWaits : Int32) (x_qOpened : Int32) (x_qBase : Int32) (x_qPiled : Int32) (x_qAnswer : Int64) (x_qIsNew : Int32) (x_octets : Int32) (g_tape : Nat → Int32) (hx_at : ib x_at 0 1600) (hx_end : ib x_end 0 1600) (hg_tape : ia g_tape 1600 0 255) : k_Met l yX10_look cX10_look 1 (some .int) { frames := 0, cells := 0, slots := 0, locals := 0 } dC dI cy sq [.ref a_this] [(a_this, .inr (10, mfs rm x_taped x_at x_end x_ended x_bad x_badPlace x_fault x_faultPlace x_namePlace x_awayTold x_away x_coded x_statements x_isCrossing x_textKind x_askSecond x_redMany x_isOpen x_lastGreen x_greenTo x_isCycleGreen x_stillGreen x_rowMany x_fitMany x_fitRules x_fitGreen x_undoable x_newest x_seeded x_qCoded x_qWaits x_qOpened x_qBase x_qPiled x_qAnswer x_qIsNew x_octets)), (wi_rm0_0_1600_0 rm cy g_tape)] (k_Qi dC dI (fun (r : Int32) (n0 : Int32) => ib n0 0 1600 ∧ ib r (-1) 255 ∧ (¬ r = (-1) → ib n0 0 1599) ∧ (¬ r = (-1) → ib x_at 0 1599) ∧ (¬ r = (-1) → ib x_end 1 1600) ∧ (1 * x_at.toInt + (-1) * n0.toInt ≤ 0) ∧ (¬ r = (-1) → g_tape (Int32.toNatClampNeg n0) = r ∧ n0.toInt < x_end.toInt) ∧ (NB g_tape x_at x_end → n0 = x_at) ∧ NB g_tape n0 x_end ∧ (F_X10_look (Int32.toInt x_at) (Int32.toInt x_end) (lf_A g_tape) = ((Int32.toInt r), (Int32.toInt n0)))) (fun n0 : Int32 => [(a_this, .inr (10, mfs rm x_taped n0 x_end x_ended x_bad x_badPlace x_fault x_faultPlace x_namePlace x_awayTold x_away x_coded x_statements x_isCrossing x_textKind x_askSecond x_redMany x_isOpen x_lastGreen x_greenTo x_isCycleGreen x_stillGreen x_rowMany x_fitMany x_fitRules x_fitGreen x_undoable x_newest x_seeded x_qCoded x_qWaits x_qOpened x_qBase x_qPiled x_qAnswer x_qIsNew x_octets)), (wi_rm0_0_1600_0 rm cy g_tape)])) := by
  refine k_ofW2 (by decide +kernel) (Nat.le_of_ble_eq_true rfl) ?_
  intro p e s m below meth c A ls H locs args Q hQ C0 hZ hr hlk hin hP hD hA hS hl
  have C0 : k_cx p s m args c cX10_look 1 RX10 dC dI cy sq := C0
  have hx := C0.1
  have hb := C0.2.1
  have hl : lv_has ls 1 [(0, .ref a_this)] := hl
  obtain ⟨O, hO⟩ : ∃ o, o = F_X10_look (Int32.toInt x_at) (Int32.toInt x_end) (lf_A g_tape) := ⟨_, rfl⟩
  have hq := hO
  unfold F_X10_look at hq
  have jn0 : ∀ (n : Nat) (J0_c0_2 : Int32) (H : Heap) (locs : List Loc) (ls : Array Slot), ib J0_c0_2 0 1600 → (1 * x_at.toInt + (-1) * J0_c0_2.toInt ≤ 0) → (NB g_tape x_at x_end → J0_c0_2 = x_at) → (O = F_X10_look_0 (Int32.toInt x_end) (lf_A g_tape) n (Int32.toInt J0_c0_2)) → 1601 ≤ J0_c0_2.toInt + (n : Int) → va_P (dC, dI) vwCl [(a_this, .inr (10, mfs rm x_taped J0_c0_2 x_end x_ended x_bad x_badPlace x_fault x_faultPlace x_namePlace x_awayTold x_away x_coded x_statements x_isCrossing x_textKind x_askSecond x_redMany x_isOpen x_lastGreen x_greenTo x_isCycleGreen x_stillGreen x_rowMany x_fitMany x_fitRules x_fitGreen x_undoable x_newest x_seeded x_qCoded x_qWaits x_qOpened x_qBase x_qPiled x_qAnswer x_qIsNew x_octets)), (wi_rm0_0_1600_0 rm cy g_tape)] H → va_D A [(a_this, .inr (10, mfs rm x_taped J0_c0_2 x_end x_ended x_bad x_badPlace x_fault x_faultPlace x_namePlace x_awayTold x_away x_coded x_statements x_isCrossing x_textKind x_askSecond x_redMany x_isOpen x_lastGreen x_greenTo x_isCycleGreen x_stillGreen x_rowMany x_fitMany x_fitRules x_fitGreen x_undoable x_newest x_seeded x_qCoded x_qWaits x_qOpened x_qBase x_qPiled x_qAnswer x_qIsNew x_octets)), (wi_rm0_0_1600_0 rm cy g_tape)] → va_S A s.heap H locs → lv_has ls 1 [(0, .ref a_this)] → W p l e { frames := 0, cells := 0, slots := 0, locals := 0 } s m args below meth c H locs 0 0 Q (F0 m 0 ls []) := by
    as_aux_lemma =>
      intro n
      induction n with
      | zero =>
        intro J0_c0_2 H locs ls hJ0_c0_2 hJ0_lin0 hJ0_nb hq hm
        exact absurd hm (by have := hJ0_c0_2; unfold ib at this; omega)
      | succ n ih =>
        intro J0_c0_2 H locs ls hJ0_c0_2 hJ0_lin0 hJ0_nb hq hm0 hP hD hS hl
        have ih0 := ih
        obtain ⟨K0, hK0⟩ : ∃ K, K = F_X10_look_0 (Int32.toInt x_end) (lf_A g_tape) n := ⟨_, rfl⟩
        have hq : O = F_X10_look_0b (Int32.toInt x_end) (lf_A g_tape) K0 (Int32.toInt J0_c0_2) := by rw [hK0]; exact hq
        unfold F_X10_look_0b at hq
        refine lv_aload_n hx hb dX10_look_0 rfl (lv_at hl 0 rfl) ?_
        refine k_get C0 fg_X10_285 hP 0 rfl rfl dX10_look_1 ?_
        refine lv_aload_n hx hb dX10_look_4 rfl (lv_at hl 0 rfl) ?_
        refine k_get C0 fg_X10_288 hP 0 rfl rfl dX10_look_5 ?_
        refine lv_icmp_ge (tgt := 52) hx hb dX10_look_8 rfl (fun c1 => ?_) (fun c1 => ?_)
        · as_aux_lemma =>
            replace hq := lf_pos hq (lf_le (lf_rf x_end) (lf_rf J0_c0_2) c1)
            have h2 := ib_le hx_end hJ0_c0_2 c1
            refine lv_aload_n hx hb dX10_look_52 rfl (lv_at hl 0 rfl) ?_
            refine k_get C0 fg_X10_285 hP 0 rfl rfl dX10_look_53 ?_
            refine lv_aload_n hx hb dX10_look_56 rfl (lv_at hl 0 rfl) ?_
            refine k_get C0 fg_X10_288 hP 0 rfl rfl dX10_look_57 ?_
            refine lv_icmp_ge (tgt := 75) hx hb dX10_look_60 rfl (fun c3 => ?_) (fun c3 => ?_)
            · replace hq := lf_pos hq (lf_le (lf_rf x_end) (lf_rf J0_c0_2) c3)
              have h4 := ib_le hx_end hJ0_c0_2 c3
              refine lv_iconst (v := (-1)) hx hb dX10_look_75 rfl ?_
              subst hQ; exact k_iret hx hb hr hlk rfl J0_c0_2 hS ⟨ib_w 0 1600 hJ0_c0_2 rfl, ib_w (-1) 255 (ib_c (-1) (-1) (-1) rfl) rfl, fun hq9 => absurd rfl hq9, fun hq9 => absurd rfl hq9, fun hq9 => absurd rfl hq9, (by have := hJ0_lin0; omega), fun q => absurd rfl q, fun q9 => (by have e0n : J0_c0_2 = x_at := hJ0_nb q9; exact e0n), Or.inl (by have := (hx_end).1; have := (hx_end).2; have := (hJ0_c0_2).1; have := (hJ0_c0_2).2; have := hJ0_lin0; have := (hx_at).1; have := (hx_at).2; have := Int32.le_iff_toInt_le.mp c1; have := Int32.le_iff_toInt_le.mp c3; omega), (hO.symm.trans (by try simp only [show ((-1) : Int32).toInt = (-1 : Int) from rfl]; exact hq))⟩ hP hD (Nat.le_of_ble_eq_true rfl) (Nat.le_of_ble_eq_true rfl) dX10_look_76
            · replace hq := lf_neg hq (lf_nle (lf_rf x_end) (lf_rf J0_c0_2) c3)
              have h5 := ib_nle hx_end hJ0_c0_2 c3
              have h6 : ib x_end 1 1600 := ib_w 1 1600 h5.1 rfl
              have h7 : ib J0_c0_2 0 1599 := ib_w 0 1599 h5.2 rfl
              have h8 : ib x_at 0 1599 := ⟨(hx_at).1, by have := (hx_at).2; have := hJ0_lin0; have := (h7).2; omega⟩
              refine lv_aload_n hx hb dX10_look_63 rfl (lv_at hl 0 rfl) ?_
              refine k_get C0 fg_X10_7 hP 0 rfl rfl dX10_look_64 ?_
              refine lv_aload_n hx hb dX10_look_67 rfl (lv_at hl 0 rfl) ?_
              refine k_get C0 fg_X10_285 hP 0 rfl rfl dX10_look_68 ?_
              refine va_iald hx hb C0.2.2.2.2.2.1 hP 1 0 rfl rfl (ib_in 1600 h7 rfl) dX10_look_71 ?_
              refine lv_topi (fun z9 ez9 => ?_)
              have h10 : ib z9 0 255 := by rw [ez9]; exact ia_at hg_tape (ib_in 1600 h7 rfl)
              have Ez9 := lf_ld ez9 (lf_ra g_tape) (lf_rf J0_c0_2)
              refine lv_goto (tgt := 76) hx hb dX10_look_72 rfl ?_
              subst hQ; exact k_iret hx hb hr hlk rfl J0_c0_2 hS ⟨ib_w 0 1600 h7 rfl, ib_w (-1) 255 h10 rfl, fun _ => ib_w 0 1599 h7 rfl, fun _ => ib_w 0 1599 h8 rfl, fun _ => ib_w 1 1600 h6 rfl, (by have := hJ0_lin0; omega), fun _ => ⟨ez9.symm, by have := (h6).1; have := (h6).2; have := (h7).1; have := (h7).2; have := hJ0_lin0; have := (h8).1; have := (h8).2; have := Int32.le_iff_toInt_le.mp c1; have := mt Int32.le_iff_toInt_le.mpr c3; omega⟩, fun q9 => (by have e0n : J0_c0_2 = x_at := hJ0_nb q9; exact e0n), Or.inl (by have := (h6).1; have := (h6).2; have := (h7).1; have := (h7).2; have := hJ0_lin0; have := (h8).1; have := (h8).2; have := Int32.le_iff_toInt_le.mp c1; have := mt Int32.le_iff_toInt_le.mpr c3; omega), (hO.symm.trans (by rw [lf_u Ez9]; exact hq))⟩ hP hD (Nat.le_of_ble_eq_true rfl) (Nat.le_of_ble_eq_true rfl) dX10_look_76
        · as_aux_lemma =>
            replace hq := lf_neg hq (lf_nle (lf_rf x_end) (lf_rf J0_c0_2) c1)
            have h11 := ib_nle hx_end hJ0_c0_2 c1
            have h12 : ib x_end 1 1600 := ib_w 1 1600 h11.1 rfl
            have h13 : ib J0_c0_2 0 1599 := ib_w 0 1599 h11.2 rfl
            have h14 : ib x_at 0 1599 := ⟨(hx_at).1, by have := (hx_at).2; have := hJ0_lin0; have := (h13).2; omega⟩
            refine lv_aload_n hx hb dX10_look_11 rfl (lv_at hl 0 rfl) ?_
            refine k_get C0 fg_X10_7 hP 0 rfl rfl dX10_look_12 ?_
            refine lv_aload_n hx hb dX10_look_15 rfl (lv_at hl 0 rfl) ?_
            refine k_get C0 fg_X10_285 hP 0 rfl rfl dX10_look_16 ?_
            refine va_iald hx hb C0.2.2.2.2.2.1 hP 1 0 rfl rfl (ib_in 1600 h13 rfl) dX10_look_19 ?_
            refine lv_topi (fun z15 ez15 => ?_)
            have h16 : ib z15 0 255 := by rw [ez15]; exact ia_at hg_tape (ib_in 1600 h13 rfl)
            have Ez15 := lf_ld ez15 (lf_ra g_tape) (lf_rf J0_c0_2)
            refine lv_bipush (v := 10) hx hb dX10_look_20 rfl ?_
            refine lv_icmp_eq (tgt := 39) hx hb dX10_look_22 rfl (fun c17 => ?_) (fun c17 => ?_)
            · replace hq := lf_pos hq (lf_eq Ez15 (lf_lc 10 (10 : Int) rfl) c17)
              have h18 := ib_eq h16 (ib_c 10 10 10 rfl) c17
              have h19 : ib z15 10 10 := ib_w 10 10 h18.1 rfl
              refine lv_aload_n hx hb dX10_look_39 rfl (lv_at hl 0 rfl) ?_
              refine lv_dup hx hb dX10_look_40 rfl ?_
              refine k_get C0 fg_X10_285 hP 0 rfl rfl dX10_look_41 ?_
              refine lv_iconst (v := 1) hx hb dX10_look_44 rfl ?_
              refine lv_iadd hx hb dX10_look_45 ?_
              refine lv_topi (fun z20 ez20 => ?_)
              have h21 := ib_add h13 (ib_c 1 1 1 rfl) rfl
              rw [← ez20] at h21
              have h22 : ib z20 1 1600 := ib_w 1 1600 h21.1 rfl
              have Ez20 := lf_add h21.2 (lf_rf J0_c0_2) (lf_lc 1 (1 : Int) rfl)
              refine k_put C0 fp_X10_285 hP hD hS 0 rfl rfl rfl (Nat.le_of_ble_eq_true rfl) dX10_look_46 (fun H locs hP hD hS => ?_)
              replace hP : va_P (dC, dI) vwCl [(a_this, .inr (10, mfs rm x_taped z20 x_end x_ended x_bad x_badPlace x_fault x_faultPlace x_namePlace x_awayTold x_away x_coded x_statements x_isCrossing x_textKind x_askSecond x_redMany x_isOpen x_lastGreen x_greenTo x_isCycleGreen x_stillGreen x_rowMany x_fitMany x_fitRules x_fitGreen x_undoable x_newest x_seeded x_qCoded x_qWaits x_qOpened x_qBase x_qPiled x_qAnswer x_qIsNew x_octets)), (wi_rm0_0_1600_0 rm cy g_tape)] H := hP
              replace hD := k_D hP hD
              refine lv_goto (tgt := 0) hx hb dX10_look_49 rfl ?_
              exact ih0 z20 H locs ls (ib_w 0 1600 h22 rfl) (by have := h21.2; have : (1 : Int32).toInt = 1 := rfl; have := hJ0_lin0; omega) (fun q9 => (by have q8 := hJ0_nb q9; rw [← q8] at q9; rcases q9 with q7 | q7; exact absurd q7 (by have := (h12).1; have := (h12).2; have := (h13).1; have := (h13).2; have := hJ0_lin0; have := (h14).1; have := (h14).2; have := mt Int32.le_iff_toInt_le.mpr c1; omega); exact absurd (show g_tape (Int32.toNatClampNeg J0_c0_2) = 10 by rw [← ez15]; exact ib_one h19 rfl) q7.1)) (by rw [← hK0]; rw [lf_u Ez20]; exact hq) (by have := h21.2; have : (1 : Int32).toInt = 1 := rfl; omega) hP hD hS (lv_sub hl [0] rfl)
            · as_aux_lemma =>
                replace hq := lf_neg hq (lf_ne Ez15 (lf_lc 10 (10 : Int) rfl) c17)
                refine lv_aload_n hx hb dX10_look_25 rfl (lv_at hl 0 rfl) ?_
                refine k_get C0 fg_X10_7 hP 0 rfl rfl dX10_look_26 ?_
                refine lv_aload_n hx hb dX10_look_29 rfl (lv_at hl 0 rfl) ?_
                refine k_get C0 fg_X10_285 hP 0 rfl rfl dX10_look_30 ?_
                refine va_iald hx hb C0.2.2.2.2.2.1 hP 1 0 rfl rfl (ib_in 1600 h13 rfl) dX10_look_33 ?_
                refine lv_topi (fun z23 ez23 => ?_)
                obtain rfl : z15 = z23 := ez15.trans ez23.symm
                refine lv_bipush (v := 32) hx hb dX10_look_34 rfl ?_
                refine lv_icmp_ne (tgt := 52) hx hb dX10_look_36 rfl (fun c24 => ?_) (fun c24 => ?_)
                · as_aux_lemma =>
                    replace hq := lf_neg hq (lf_ne Ez15 (lf_lc 32 (32 : Int) rfl) c24)
                    refine lv_aload_n hx hb dX10_look_52 rfl (lv_at hl 0 rfl) ?_
                    refine k_get C0 fg_X10_285 hP 0 rfl rfl dX10_look_53 ?_
                    refine lv_aload_n hx hb dX10_look_56 rfl (lv_at hl 0 rfl) ?_
                    refine k_get C0 fg_X10_288 hP 0 rfl rfl dX10_look_57 ?_
                    refine lv_icmp_ge (tgt := 75) hx hb dX10_look_60 rfl (fun c25 => ?_) (fun c25 => ?_)
                    · replace hq := lf_pos hq (lf_le (lf_rf x_end) (lf_rf J0_c0_2) c25)
                      have h26 := ib_le h12 h13 c25
                      have h27 : ib x_end 1 1599 := ib_w 1 1599 h26.1 rfl
                      have h28 : ib J0_c0_2 1 1599 := ib_w 1 1599 h26.2 rfl
                      refine lv_iconst (v := (-1)) hx hb dX10_look_75 rfl ?_
                      subst hQ; exact k_iret hx hb hr hlk rfl J0_c0_2 hS ⟨ib_w 0 1600 h28 rfl, ib_w (-1) 255 (ib_c (-1) (-1) (-1) rfl) rfl, fun hq9 => absurd rfl hq9, fun hq9 => absurd rfl hq9, fun hq9 => absurd rfl hq9, (by have := hJ0_lin0; omega), fun q => absurd rfl q, fun q9 => (by have e0n : J0_c0_2 = x_at := hJ0_nb q9; exact e0n), Or.inr ⟨by rw [← ez15]; exact c17, by rw [← ez15]; exact c24⟩, (hO.symm.trans (by try simp only [show ((-1) : Int32).toInt = (-1 : Int) from rfl]; exact hq))⟩ hP hD (Nat.le_of_ble_eq_true rfl) (Nat.le_of_ble_eq_true rfl) dX10_look_76
                    · replace hq := lf_neg hq (lf_nle (lf_rf x_end) (lf_rf J0_c0_2) c25)
                      have h29 := ib_nle h12 h13 c25
                      refine lv_aload_n hx hb dX10_look_63 rfl (lv_at hl 0 rfl) ?_
                      refine k_get C0 fg_X10_7 hP 0 rfl rfl dX10_look_64 ?_
                      refine lv_aload_n hx hb dX10_look_67 rfl (lv_at hl 0 rfl) ?_
                      refine k_get C0 fg_X10_285 hP 0 rfl rfl dX10_look_68 ?_
                      refine va_iald hx hb C0.2.2.2.2.2.1 hP 1 0 rfl rfl (ib_in 1600 h13 rfl) dX10_look_71 ?_
                      refine lv_topi (fun z30 ez30 => ?_)
                      obtain rfl : z15 = z30 := ez15.trans ez30.symm
                      refine lv_goto (tgt := 76) hx hb dX10_look_72 rfl ?_
                      subst hQ; exact k_iret hx hb hr hlk rfl J0_c0_2 hS ⟨ib_w 0 1600 h13 rfl, ib_w (-1) 255 h16 rfl, fun _ => ib_w 0 1599 h13 rfl, fun _ => ib_w 0 1599 h14 rfl, fun _ => ib_w 1 1600 h12 rfl, (by have := hJ0_lin0; omega), fun _ => ⟨ez15.symm, by have := (h12).1; have := (h12).2; have := (h13).1; have := (h13).2; have := hJ0_lin0; have := (h14).1; have := (h14).2; have := mt Int32.le_iff_toInt_le.mpr c1; have := mt Int32.le_iff_toInt_le.mpr c25; omega⟩, fun q9 => (by have e0n : J0_c0_2 = x_at := hJ0_nb q9; exact e0n), Or.inr ⟨by rw [← ez15]; exact c17, by rw [← ez15]; exact c24⟩, (hO.symm.trans (by rw [lf_u Ez15]; exact hq))⟩ hP hD (Nat.le_of_ble_eq_true rfl) (Nat.le_of_ble_eq_true rfl) dX10_look_76
                · replace hq := lf_pos hq (lf_eq Ez15 (lf_lc 32 (32 : Int) rfl) c24)
                  have h31 := ib_eq h16 (ib_c 32 32 32 rfl) c24
                  have h32 : ib z15 32 32 := ib_w 32 32 h31.1 rfl
                  refine lv_aload_n hx hb dX10_look_39 rfl (lv_at hl 0 rfl) ?_
                  refine lv_dup hx hb dX10_look_40 rfl ?_
                  refine k_get C0 fg_X10_285 hP 0 rfl rfl dX10_look_41 ?_
                  refine lv_iconst (v := 1) hx hb dX10_look_44 rfl ?_
                  refine lv_iadd hx hb dX10_look_45 ?_
                  refine lv_topi (fun z33 ez33 => ?_)
                  have h34 := ib_add h13 (ib_c 1 1 1 rfl) rfl
                  rw [← ez33] at h34
                  have h35 : ib z33 1 1600 := ib_w 1 1600 h34.1 rfl
                  have Ez33 := lf_add h34.2 (lf_rf J0_c0_2) (lf_lc 1 (1 : Int) rfl)
                  refine k_put C0 fp_X10_285 hP hD hS 0 rfl rfl rfl (Nat.le_of_ble_eq_true rfl) dX10_look_46 (fun H locs hP hD hS => ?_)
                  replace hP : va_P (dC, dI) vwCl [(a_this, .inr (10, mfs rm x_taped z33 x_end x_ended x_bad x_badPlace x_fault x_faultPlace x_namePlace x_awayTold x_away x_coded x_statements x_isCrossing x_textKind x_askSecond x_redMany x_isOpen x_lastGreen x_greenTo x_isCycleGreen x_stillGreen x_rowMany x_fitMany x_fitRules x_fitGreen x_undoable x_newest x_seeded x_qCoded x_qWaits x_qOpened x_qBase x_qPiled x_qAnswer x_qIsNew x_octets)), (wi_rm0_0_1600_0 rm cy g_tape)] H := hP
                  replace hD := k_D hP hD
                  refine lv_goto (tgt := 0) hx hb dX10_look_49 rfl ?_
                  exact ih0 z33 H locs ls (ib_w 0 1600 h35 rfl) (by have := h34.2; have : (1 : Int32).toInt = 1 := rfl; have := hJ0_lin0; omega) (fun q9 => (by have q8 := hJ0_nb q9; rw [← q8] at q9; rcases q9 with q7 | q7; exact absurd q7 (by have := (h12).1; have := (h12).2; have := (h13).1; have := (h13).2; have := hJ0_lin0; have := (h14).1; have := (h14).2; have := mt Int32.le_iff_toInt_le.mpr c1; omega); exact absurd (show g_tape (Int32.toNatClampNeg J0_c0_2) = 32 by rw [← ez15]; exact ib_one h32 rfl) q7.2)) (by rw [← hK0]; rw [lf_u Ez33]; exact hq) (by have := h34.2; have : (1 : Int32).toInt = 1 := rfl; omega) hP hD hS (lv_sub hl [0] rfl)
  exact jn0 1602 x_at H locs ls (ib_w 0 1600 hx_at rfl) (by omega) (fun _ => rfl) (by exact hq) (by have := hx_at; unfold ib at this; omega) hP hD hS (lv_sub hl [0] rfl)
set_option maxHeartbeats 4000000 in
set_option maxRecDepth 100000 in
theorem s_X10_isLetter (l : Launch) (dC : Nat → ClassId) (dI : Nat → Nat → Nat) (cy : Nat → ClassId) (sq : Nat → Nat) (p0 : Int32)  : k_Met l yX10_isLetter cX10_isLetter 1 (some .boolean) { frames := 0, cells := 0, slots := 0, locals := 0 } dC dI cy sq [.int p0] [] (k_Qi dC dI (fun (r : Int32) (_ : Unit) => ib r 0 1 ∧ (¬ r = 0 → ib p0 97 122) ∧ (F_X10_isLetter (Int32.toInt p0) = ((Int32.toInt r)))) (fun _ : Unit => [])) := by
  refine k_ofW2 (by decide +kernel) (Nat.le_of_ble_eq_true rfl) ?_
  intro p e s m below meth c A ls H locs args Q hQ C0 hZ hr hlk hin hP hD hA hS hl
  have C0 : k_cx p s m args c cX10_isLetter 1 RX10 dC dI cy sq := C0
  have hx := C0.1
  have hb := C0.2.1
  have hl : lv_has ls 1 [(0, .int p0)] := hl
  obtain ⟨O, hO⟩ : ∃ o, o = F_X10_isLetter (Int32.toInt p0) := ⟨_, rfl⟩
  have hq := hO
  unfold F_X10_isLetter at hq
  have jn16 : ∀  (H : Heap) (locs : List Loc) (ls : Array Slot), (O = F_X10_isLetter_16 ) → va_P (dC, dI) vwCl [] H → va_D A [] → va_S A s.heap H locs → lv_has ls 1 [(0, .int p0)] → W p l e { frames := 0, cells := 0, slots := 0, locals := 0 } s m args below meth c H locs 0 0 Q (F0 m 16 ls []) := by
    intro H locs ls hq hP hD hS hl
    unfold F_X10_isLetter_16 at hq
    refine lv_iconst (v := 0) hx hb dX10_isLetter_16 rfl ?_
    subst hQ; exact k_iret hx hb hr hlk (k_nb 0 rfl) () hS ⟨ib_w 0 1 (ib_c 0 0 0 rfl) rfl, fun hq9 => absurd rfl hq9, (hO.symm.trans (by try simp only [show (0 : Int32).toInt = (0 : Int) from rfl]; exact hq))⟩ hP hD (Nat.le_of_ble_eq_true rfl) (Nat.le_of_ble_eq_true rfl) dX10_isLetter_17
  refine lv_iload_n hx hb dX10_isLetter_0 rfl (lv_at hl 0 rfl) ?_
  refine lv_bipush (v := 97) hx hb dX10_isLetter_1 rfl ?_
  refine lv_icmp_lt (tgt := 16) hx hb dX10_isLetter_3 rfl (fun c1 => ?_) (fun c1 => ?_)
  · replace hq := lf_pos hq (lf_lt (lf_rf p0) (lf_lc 97 (97 : Int) rfl) c1)
    have h2 := ib_lt (ib_any p0) (ib_c 97 97 97 rfl) c1
    have h3 : ib p0 (-2147483648) 96 := ib_w (-2147483648) 96 h2.1 rfl
    exact jn16  H locs ls (by exact hq) hP hD hS (lv_sub hl [0] rfl)
  · replace hq := lf_neg hq (lf_nlt (lf_rf p0) (lf_lc 97 (97 : Int) rfl) c1)
    have h4 := ib_nlt (ib_any p0) (ib_c 97 97 97 rfl) c1
    have h5 : ib p0 97 2147483647 := ib_w 97 2147483647 h4.1 rfl
    refine lv_iload_n hx hb dX10_isLetter_6 rfl (lv_at hl 0 rfl) ?_
    refine lv_bipush (v := 122) hx hb dX10_isLetter_7 rfl ?_
    refine lv_icmp_gt (tgt := 16) hx hb dX10_isLetter_9 rfl (fun c6 => ?_) (fun c6 => ?_)
    · replace hq := lf_pos hq (lf_lt (lf_lc 122 (122 : Int) rfl) (lf_rf p0) c6)
      have h7 := ib_lt (ib_c 122 122 122 rfl) h5 c6
      have h8 : ib p0 123 2147483647 := ib_w 123 2147483647 h7.2 rfl
      exact jn16  H locs ls (by exact hq) hP hD hS (lv_sub hl [0] rfl)
    · replace hq := lf_neg hq (lf_nlt (lf_lc 122 (122 : Int) rfl) (lf_rf p0) c6)
      have h9 := ib_nlt (ib_c 122 122 122 rfl) h5 c6
      have h10 : ib p0 97 122 := ib_w 97 122 h9.2 rfl
      refine lv_iconst (v := 1) hx hb dX10_isLetter_12 rfl ?_
      refine lv_goto (tgt := 17) hx hb dX10_isLetter_13 rfl ?_
      subst hQ; exact k_iret hx hb hr hlk (k_nb 1 rfl) () hS ⟨ib_w 0 1 (ib_c 1 1 1 rfl) rfl, fun _ => ib_w 97 122 h10 rfl, (hO.symm.trans (by try simp only [show (1 : Int32).toInt = (1 : Int) from rfl]; exact hq))⟩ hP hD (Nat.le_of_ble_eq_true rfl) (Nat.le_of_ble_eq_true rfl) dX10_isLetter_17
set_option maxHeartbeats 4000000 in
set_option maxRecDepth 100000 in
theorem s_X10_isHere_r5 (l : Launch) (dC : Nat → ClassId) (dI : Nat → Nat → Nat) (cy : Nat → ClassId) (sq : Nat → Nat) (a_this : Nat) (rm : Nat → Nat) (x_taped : Int32) (x_at : Int32) (x_end : Int32) (x_ended : Int32) (x_bad : Int32) (x_badPlace : Int32) (x_fault : Int32) (x_faultPlace : Int32) (x_namePlace : Int32) (x_awayTold : Int32) (x_away : Int32) (x_coded : Int32) (x_statements : Int32) (x_isCrossing : Int32) (x_textKind : Int32) (x_askSecond : Int32) (x_redMany : Int32) (x_isOpen : Int32) (x_lastGreen : Int32) (x_greenTo : Int32) (x_isCycleGreen : Int32) (x_stillGreen : Int32) (x_rowMany : Int32) (x_fitMany : Int32) (x_fitRules : Int32) (x_fitGreen : Int32) (x_undoable : Int32) (x_newest : Int32) (x_seeded : Int64) (x_qCoded : Int32) (x_qWaits : Int32) (x_qOpened : Int32) (x_qBase : Int32) (x_qPiled : Int32) (x_qAnswer : Int64) (x_qIsNew : Int32) (x_octets : Int32) (g_tape : Nat → Int32) (a_arg0 : Nat) (g_arg0 : Nat → Int32) (hx_at : ib x_at 0 1600) (hx_end : ib x_end 0 1600) (hg_tape : ia g_tape 1600 0 255) : k_Met l yX10_isHere cX10_isHere 4 (some .boolean) { frames := 1, cells := 0, slots := 0, locals := 20 } dC dI cy sq [.ref a_this, .ref a_arg0] [(a_this, .inr (10, mfs rm x_taped x_at x_end x_ended x_bad x_badPlace x_fault x_faultPlace x_namePlace x_awayTold x_away x_coded x_statements x_isCrossing x_textKind x_askSecond x_redMany x_isOpen x_lastGreen x_greenTo x_isCycleGreen x_stillGreen x_rowMany x_fitMany x_fitRules x_fitGreen x_undoable x_newest x_seeded x_qCoded x_qWaits x_qOpened x_qBase x_qPiled x_qAnswer x_qIsNew x_octets)), (wi_rm0_0_1600_0 rm cy g_tape), (wi_2_5_0 a_arg0 cy g_arg0)] (k_Qi dC dI (fun (r : Int32) (n0 : Int32) => ib n0 0 1600 ∧ ib r 0 1 ∧ (¬ r = 0 → ib n0 0 1595) ∧ (¬ r = 0 → ib x_at 0 1595) ∧ (¬ r = 0 → ib x_end 1 1600) ∧ (¬ r = 0 → ib x_bad 0 0) ∧ (1 * x_at.toInt + (-1) * n0.toInt ≤ 0) ∧ (NB g_tape x_at x_end → n0 = x_at) ∧ (F_X10_isHere_r5 (Int32.toInt x_at) (Int32.toInt x_end) (Int32.toInt x_ended) (Int32.toInt x_bad) (lf_A g_tape) (lf_A g_arg0) = ((Int32.toInt r), (Int32.toInt n0)))) (fun n0 : Int32 => [(a_this, .inr (10, mfs rm x_taped n0 x_end x_ended x_bad x_badPlace x_fault x_faultPlace x_namePlace x_awayTold x_away x_coded x_statements x_isCrossing x_textKind x_askSecond x_redMany x_isOpen x_lastGreen x_greenTo x_isCycleGreen x_stillGreen x_rowMany x_fitMany x_fitRules x_fitGreen x_undoable x_newest x_seeded x_qCoded x_qWaits x_qOpened x_qBase x_qPiled x_qAnswer x_qIsNew x_octets)), (wi_rm0_0_1600_0 rm cy g_tape), (wi_2_5_0 a_arg0 cy g_arg0)])) := by
  refine k_ofW2 (by decide +kernel) (Nat.le_of_ble_eq_true rfl) ?_
  intro p e s m below meth c A ls H locs args Q hQ C0 hZ hr hlk hin hP hD hA hS hl
  have C0 : k_cx p s m args c cX10_isHere 4 RX10 dC dI cy sq := C0
  have hx := C0.1
  have hb := C0.2.1
  have hl : lv_has ls 4 [(0, .ref a_this), (1, .ref a_arg0)] := hl
  obtain ⟨O, hO⟩ : ∃ o, o = F_X10_isHere_r5 (Int32.toInt x_at) (Int32.toInt x_end) (Int32.toInt x_ended) (Int32.toInt x_bad) (lf_A g_tape) (lf_A g_arg0) := ⟨_, rfl⟩
  have hq := hO
  unfold F_X10_isHere_r5 at hq
  have jn76 : ∀ (n : Nat) (J76_l2 : Int32) (J76_c0_2 : Int32) (J76_l3 : Int32) (H : Heap) (locs : List Loc) (ls : Array Slot), ib J76_l2 5 1600 → ib J76_c0_2 0 1595 → ib x_end 1 1600 → ib x_bad 0 0 → ib J76_l3 0 5 → (1 * x_at.toInt + (-1) * J76_c0_2.toInt ≤ 0) → (NB g_tape x_at x_end → J76_c0_2 = x_at) → (O = F_X10_isHere_r5_76 (lf_A g_tape) (lf_A g_arg0) n (Int32.toInt J76_l2) (Int32.toInt J76_c0_2) (Int32.toInt J76_l3)) → 6 ≤ J76_l3.toInt + (n : Int) → va_P (dC, dI) vwCl [(a_this, .inr (10, mfs rm x_taped J76_c0_2 x_end x_ended x_bad x_badPlace x_fault x_faultPlace x_namePlace x_awayTold x_away x_coded x_statements x_isCrossing x_textKind x_askSecond x_redMany x_isOpen x_lastGreen x_greenTo x_isCycleGreen x_stillGreen x_rowMany x_fitMany x_fitRules x_fitGreen x_undoable x_newest x_seeded x_qCoded x_qWaits x_qOpened x_qBase x_qPiled x_qAnswer x_qIsNew x_octets)), (wi_rm0_0_1600_0 rm cy g_tape), (wi_2_5_0 a_arg0 cy g_arg0)] H → va_D A [(a_this, .inr (10, mfs rm x_taped J76_c0_2 x_end x_ended x_bad x_badPlace x_fault x_faultPlace x_namePlace x_awayTold x_away x_coded x_statements x_isCrossing x_textKind x_askSecond x_redMany x_isOpen x_lastGreen x_greenTo x_isCycleGreen x_stillGreen x_rowMany x_fitMany x_fitRules x_fitGreen x_undoable x_newest x_seeded x_qCoded x_qWaits x_qOpened x_qBase x_qPiled x_qAnswer x_qIsNew x_octets)), (wi_rm0_0_1600_0 rm cy g_tape), (wi_2_5_0 a_arg0 cy g_arg0)] → va_S A s.heap H locs → lv_has ls 4 [(0, .ref a_this), (1, .ref a_arg0), (2, .int J76_l2), (3, .int J76_l3)] → W p l e { frames := 1, cells := 0, slots := 0, locals := 20 } s m args below meth c H locs 0 0 Q (F0 m 76 ls []) := by
    as_aux_lemma =>
      intro n
      induction n with
      | zero =>
        intro J76_l2 J76_c0_2 J76_l3 H locs ls hJ76_l2 hJ76_c0_2 hK76_x_end hK76_x_bad hJ76_l3 hJ76_lin0 hJ76_nb hq hm
        exact absurd hm (by have := hJ76_l3; unfold ib at this; omega)
      | succ n ih =>
        intro J76_l2 J76_c0_2 J76_l3 H locs ls hJ76_l2 hJ76_c0_2 hK76_x_end hK76_x_bad hJ76_l3 hJ76_lin0 hJ76_nb hq hm76 hP hD hS hl
        have ih76 := ih
        obtain ⟨K76, hK76⟩ : ∃ K, K = F_X10_isHere_r5_76 (lf_A g_tape) (lf_A g_arg0) n := ⟨_, rfl⟩
        have hq : O = F_X10_isHere_r5_76b (lf_A g_tape) (lf_A g_arg0) K76 (Int32.toInt J76_l2) (Int32.toInt J76_c0_2) (Int32.toInt J76_l3) := by rw [hK76]; exact hq
        unfold F_X10_isHere_r5_76b at hq
        refine lv_iload_n hx hb dX10_isHere_76 rfl (lv_at hl 3 rfl) ?_
        refine lv_aload_n hx hb dX10_isHere_77 rfl (lv_at hl 1 rfl) ?_
        refine va_alen hx hb C0.2.2.2.2.2.1 hP 2 2 rfl rfl (v := 5) (show Int32.ofNat 5 = 5 by decide) dX10_isHere_78 ?_
        refine lv_icmp_ge (tgt := 107) hx hb dX10_isHere_79 rfl (fun c1 => ?_) (fun c1 => ?_)
        · replace hq := lf_pos hq (lf_le (lf_lc 5 (5 : Int) rfl) (lf_rf J76_l3) c1)
          have h2 := ib_le (ib_c 5 5 5 rfl) hJ76_l3 c1
          have h3 : ib J76_l3 5 5 := ib_w 5 5 h2.2 rfl
          have h4 : ib x_at 0 1595 := ⟨(hx_at).1, by have := (hx_at).2; have := hJ76_lin0; have := (hJ76_c0_2).2; omega⟩
          refine lv_iconst (v := 1) hx hb dX10_isHere_107 rfl ?_
          subst hQ; exact k_iret hx hb hr hlk (k_nb 1 rfl) J76_c0_2 hS ⟨ib_w 0 1600 hJ76_c0_2 rfl, ib_w 0 1 (ib_c 1 1 1 rfl) rfl, fun _ => ib_w 0 1595 hJ76_c0_2 rfl, fun _ => ib_w 0 1595 h4 rfl, fun _ => ib_w 1 1600 hK76_x_end rfl, fun _ => ib_w 0 0 hK76_x_bad rfl, (by have := hJ76_lin0; omega), fun q9 => (by have e0n : J76_c0_2 = x_at := hJ76_nb q9; exact e0n), (hO.symm.trans (by try simp only [show (1 : Int32).toInt = (1 : Int) from rfl]; exact hq))⟩ hP hD (Nat.le_of_ble_eq_true rfl) (Nat.le_of_ble_eq_true rfl) dX10_isHere_108
        · as_aux_lemma =>
            replace hq := lf_neg hq (lf_nle (lf_lc 5 (5 : Int) rfl) (lf_rf J76_l3) c1)
            have h5 := ib_nle (ib_c 5 5 5 rfl) hJ76_l3 c1
            have h6 : ib J76_l3 0 4 := ib_w 0 4 h5.2 rfl
            have h7 : ib x_at 0 1595 := ⟨(hx_at).1, by have := (hx_at).2; have := hJ76_lin0; have := (hJ76_c0_2).2; omega⟩
            refine lv_aload_n hx hb dX10_isHere_82 rfl (lv_at hl 0 rfl) ?_
            refine k_get C0 fg_X10_7 hP 0 rfl rfl dX10_isHere_83 ?_
            refine lv_aload_n hx hb dX10_isHere_86 rfl (lv_at hl 0 rfl) ?_
            refine k_get C0 fg_X10_285 hP 0 rfl rfl dX10_isHere_87 ?_
            refine lv_iload_n hx hb dX10_isHere_90 rfl (lv_at hl 3 rfl) ?_
            refine lv_iadd hx hb dX10_isHere_91 ?_
            refine lv_topi (fun z8 ez8 => ?_)
            have h9 := ib_add hJ76_c0_2 h6 rfl
            rw [← ez8] at h9
            have h10 : ib z8 0 1599 := ib_w 0 1599 h9.1 rfl
            have Ez8 := lf_add h9.2 (lf_rf J76_c0_2) (lf_rf J76_l3)
            refine va_iald hx hb C0.2.2.2.2.2.1 hP 1 0 rfl rfl (ib_in 1600 h10 rfl) dX10_isHere_92 ?_
            refine lv_topi (fun z11 ez11 => ?_)
            have h12 : ib z11 0 255 := by rw [ez11]; exact ia_at hg_tape (ib_in 1600 h10 rfl)
            have Ez11 := lf_ld ez11 (lf_ra g_tape) Ez8
            refine lv_aload_n hx hb dX10_isHere_93 rfl (lv_at hl 1 rfl) ?_
            refine lv_iload_n hx hb dX10_isHere_94 rfl (lv_at hl 3 rfl) ?_
            refine va_cald hx hb C0.2.2.2.2.2.1 hP 2 2 rfl rfl (ib_in 5 h6 rfl) dX10_isHere_95 ?_
            refine lv_topi (fun z13 ez13 => ?_)
            have Ez13 := lf_ld ez13 (lf_ra g_arg0) (lf_rf J76_l3)
            refine lv_icmp_eq (tgt := 101) hx hb dX10_isHere_96 rfl (fun c14 => ?_) (fun c14 => ?_)
            · replace hq := lf_pos hq (lf_eq Ez11 Ez13 c14)
              have h15 := ib_eq h12 (ib_any z13) c14
              have h16 : ib z13 0 255 := ib_w 0 255 h15.2 rfl
              obtain ⟨z17, ez17⟩ : ∃ y : Int32, y = J76_l3 + 1 := ⟨_, rfl⟩
              refine lv_iinc (v := z17) (lv' := [(3, .int z17), (0, .ref a_this), (1, .ref a_arg0), (2, .int J76_l2)]) hx hb dX10_isHere_101 hl (k := 3) rfl (by rw [ez17]; rfl) (Nat.le_of_ble_eq_true rfl) rfl (fun ls hl => ?_)
              have h18 := ib_add h6 (ib_c 1 1 1 rfl) rfl
              rw [← ez17] at h18
              have h19 : ib z17 1 5 := ib_w 1 5 h18.1 rfl
              have Ez17 := lf_add h18.2 (lf_rf J76_l3) (lf_lc 1 (1 : Int) rfl)
              refine lv_goto (tgt := 76) hx hb dX10_isHere_104 rfl ?_
              exact ih76 J76_l2 J76_c0_2 z17 H locs ls (ib_w 5 1600 hJ76_l2 rfl) (ib_w 0 1595 hJ76_c0_2 rfl) (ib_w 1 1600 hK76_x_end rfl) (ib_w 0 0 hK76_x_bad rfl) (ib_w 0 5 h19 rfl) (by have := hJ76_lin0; omega) (fun q9 => (by have e0n : J76_c0_2 = x_at := hJ76_nb q9; exact e0n)) (by rw [← hK76]; rw [lf_u Ez17]; exact hq) (by have := h18.2; have : (1 : Int32).toInt = 1 := rfl; omega) hP hD hS (lv_sub hl [1, 2, 3, 0] rfl)
            · replace hq := lf_neg hq (lf_ne Ez11 Ez13 c14)
              refine lv_iconst (v := 0) hx hb dX10_isHere_99 rfl ?_
              subst hQ; exact k_iret hx hb hr hlk (k_nb 0 rfl) J76_c0_2 hS ⟨ib_w 0 1600 hJ76_c0_2 rfl, ib_w 0 1 (ib_c 0 0 0 rfl) rfl, fun hq9 => absurd rfl hq9, fun hq9 => absurd rfl hq9, fun hq9 => absurd rfl hq9, fun hq9 => absurd rfl hq9, (by have := hJ76_lin0; omega), fun q9 => (by have e0n : J76_c0_2 = x_at := hJ76_nb q9; exact e0n), (hO.symm.trans (by try simp only [show (0 : Int32).toInt = (0 : Int) from rfl]; exact hq))⟩ hP hD (Nat.le_of_ble_eq_true rfl) (Nat.le_of_ble_eq_true rfl) dX10_isHere_100
  have jn61 : ∀ (J61_l2 : Int32) (J61_c0_2 : Int32) (H : Heap) (locs : List Loc) (ls : Array Slot), ib J61_l2 0 1600 → ib J61_c0_2 0 1599 → ib x_end 1 1600 → ib x_bad 0 0 → (1 * x_at.toInt + (-1) * J61_c0_2.toInt ≤ 0) → (NB g_tape x_at x_end → J61_c0_2 = x_at) → (O = F_X10_isHere_r5_61 (lf_A g_tape) (lf_A g_arg0) (Int32.toInt J61_l2) (Int32.toInt J61_c0_2)) → va_P (dC, dI) vwCl [(a_this, .inr (10, mfs rm x_taped J61_c0_2 x_end x_ended x_bad x_badPlace x_fault x_faultPlace x_namePlace x_awayTold x_away x_coded x_statements x_isCrossing x_textKind x_askSecond x_redMany x_isOpen x_lastGreen x_greenTo x_isCycleGreen x_stillGreen x_rowMany x_fitMany x_fitRules x_fitGreen x_undoable x_newest x_seeded x_qCoded x_qWaits x_qOpened x_qBase x_qPiled x_qAnswer x_qIsNew x_octets)), (wi_rm0_0_1600_0 rm cy g_tape), (wi_2_5_0 a_arg0 cy g_arg0)] H → va_D A [(a_this, .inr (10, mfs rm x_taped J61_c0_2 x_end x_ended x_bad x_badPlace x_fault x_faultPlace x_namePlace x_awayTold x_away x_coded x_statements x_isCrossing x_textKind x_askSecond x_redMany x_isOpen x_lastGreen x_greenTo x_isCycleGreen x_stillGreen x_rowMany x_fitMany x_fitRules x_fitGreen x_undoable x_newest x_seeded x_qCoded x_qWaits x_qOpened x_qBase x_qPiled x_qAnswer x_qIsNew x_octets)), (wi_rm0_0_1600_0 rm cy g_tape), (wi_2_5_0 a_arg0 cy g_arg0)] → va_S A s.heap H locs → lv_has ls 4 [(0, .ref a_this), (1, .ref a_arg0), (2, .int J61_l2)] → W p l e { frames := 1, cells := 0, slots := 0, locals := 20 } s m args below meth c H locs 0 0 Q (F0 m 61 ls []) := by
    as_aux_lemma =>
      intro J61_l2 J61_c0_2 H locs ls hJ61_l2 hJ61_c0_2 hK61_x_end hK61_x_bad hJ61_lin0 hJ61_nb hq hP hD hS hl
      unfold F_X10_isHere_r5_61 at hq
      refine lv_iload_n hx hb dX10_isHere_61 rfl (lv_at hl 2 rfl) ?_
      refine lv_aload_n hx hb dX10_isHere_62 rfl (lv_at hl 0 rfl) ?_
      refine k_get C0 fg_X10_285 hP 0 rfl rfl dX10_isHere_63 ?_
      refine lv_isub hx hb dX10_isHere_66 ?_
      refine lv_topi (fun z20 ez20 => ?_)
      have h21 := ib_sub hJ61_l2 hJ61_c0_2 rfl
      rw [← ez20] at h21
      have h22 : ib z20 (-1599) 1600 := ib_w (-1599) 1600 h21.1 rfl
      have Ez20 := lf_sub h21.2 (lf_rf J61_l2) (lf_rf J61_c0_2)
      refine lv_aload_n hx hb dX10_isHere_67 rfl (lv_at hl 1 rfl) ?_
      refine va_alen hx hb C0.2.2.2.2.2.1 hP 2 2 rfl rfl (v := 5) (show Int32.ofNat 5 = 5 by decide) dX10_isHere_68 ?_
      refine lv_icmp_eq (tgt := 74) hx hb dX10_isHere_69 rfl (fun c23 => ?_) (fun c23 => ?_)
      · replace hq := lf_pos hq (lf_eq Ez20 (lf_lc 5 (5 : Int) rfl) c23)
        have h24 := ib_eq h22 (ib_c 5 5 5 rfl) c23
        have h25 : ib z20 5 5 := ib_w 5 5 h24.1 rfl
        have h26 : ib J61_l2 5 1600 := ⟨by have := h21.2; have := (h25).1; have := (h25).2; have := (hJ61_l2).1; have := (hJ61_l2).2; have := (hJ61_c0_2).1; have := (hJ61_c0_2).2; omega, by have := h21.2; have := (h25).1; have := (h25).2; have := (hJ61_l2).1; have := (hJ61_l2).2; have := (hJ61_c0_2).1; have := (hJ61_c0_2).2; omega⟩
        have h27 : ib J61_c0_2 0 1595 := ⟨by have := h21.2; have := (h25).1; have := (h25).2; have := (hJ61_l2).1; have := (hJ61_l2).2; have := (hJ61_c0_2).1; have := (hJ61_c0_2).2; omega, by have := h21.2; have := (h25).1; have := (h25).2; have := (hJ61_l2).1; have := (hJ61_l2).2; have := (hJ61_c0_2).1; have := (hJ61_c0_2).2; omega⟩
        have h28 : ib x_at 0 1595 := ⟨(hx_at).1, by have := (hx_at).2; have := hJ61_lin0; have := (h27).2; omega⟩
        refine lv_iconst (v := 0) hx hb dX10_isHere_74 rfl ?_
        refine lv_istore_n (lv' := [(3, .int 0), (0, .ref a_this), (1, .ref a_arg0), (2, .int J61_l2)]) hx hb dX10_isHere_75 rfl hl (Nat.le_of_ble_eq_true rfl) rfl (fun ls hl => ?_)
        exact jn76 7 J61_l2 J61_c0_2 0 H locs ls (ib_w 5 1600 h26 rfl) (ib_w 0 1595 h27 rfl) (ib_w 1 1600 hK61_x_end rfl) (ib_w 0 0 hK61_x_bad rfl) (ib_w 0 5 (ib_c 0 0 0 rfl) rfl) (by have := hJ61_lin0; omega) (fun q9 => (by have e0n : J61_c0_2 = x_at := hJ61_nb q9; exact e0n)) (by try simp only [show (0 : Int32).toInt = (0 : Int) from rfl]; exact hq) (by have := (ib_c 0 0 0 rfl); unfold ib at this; omega) hP hD hS (lv_sub hl [1, 2, 3, 0] rfl)
      · replace hq := lf_neg hq (lf_ne Ez20 (lf_lc 5 (5 : Int) rfl) c23)
        have h29 : ib x_at 0 1599 := ⟨(hx_at).1, by have := (hx_at).2; have := hJ61_lin0; have := (hJ61_c0_2).2; omega⟩
        refine lv_iconst (v := 0) hx hb dX10_isHere_72 rfl ?_
        subst hQ; exact k_iret hx hb hr hlk (k_nb 0 rfl) J61_c0_2 hS ⟨ib_w 0 1600 hJ61_c0_2 rfl, ib_w 0 1 (ib_c 0 0 0 rfl) rfl, fun hq9 => absurd rfl hq9, fun hq9 => absurd rfl hq9, fun hq9 => absurd rfl hq9, fun hq9 => absurd rfl hq9, (by have := hJ61_lin0; omega), fun q9 => (by have e0n : J61_c0_2 = x_at := hJ61_nb q9; exact e0n), (hO.symm.trans (by try simp only [show (0 : Int32).toInt = (0 : Int) from rfl]; exact hq))⟩ hP hD (Nat.le_of_ble_eq_true rfl) (Nat.le_of_ble_eq_true rfl) dX10_isHere_73
  have jn35 : ∀ (n : Nat) (J35_l2 : Int32) (J35_c0_2 : Int32) (H : Heap) (locs : List Loc) (ls : Array Slot), ib J35_l2 0 1600 → ib J35_c0_2 0 1599 → ib x_end 1 1600 → ib x_bad 0 0 → (1 * x_at.toInt + (-1) * J35_c0_2.toInt ≤ 0) → (NB g_tape x_at x_end → J35_c0_2 = x_at) → (O = F_X10_isHere_r5_35 (Int32.toInt x_end) (lf_A g_tape) (lf_A g_arg0) n (Int32.toInt J35_l2) (Int32.toInt J35_c0_2)) → 1601 ≤ J35_l2.toInt + (n : Int) → va_P (dC, dI) vwCl [(a_this, .inr (10, mfs rm x_taped J35_c0_2 x_end x_ended x_bad x_badPlace x_fault x_faultPlace x_namePlace x_awayTold x_away x_coded x_statements x_isCrossing x_textKind x_askSecond x_redMany x_isOpen x_lastGreen x_greenTo x_isCycleGreen x_stillGreen x_rowMany x_fitMany x_fitRules x_fitGreen x_undoable x_newest x_seeded x_qCoded x_qWaits x_qOpened x_qBase x_qPiled x_qAnswer x_qIsNew x_octets)), (wi_rm0_0_1600_0 rm cy g_tape), (wi_2_5_0 a_arg0 cy g_arg0)] H → va_D A [(a_this, .inr (10, mfs rm x_taped J35_c0_2 x_end x_ended x_bad x_badPlace x_fault x_faultPlace x_namePlace x_awayTold x_away x_coded x_statements x_isCrossing x_textKind x_askSecond x_redMany x_isOpen x_lastGreen x_greenTo x_isCycleGreen x_stillGreen x_rowMany x_fitMany x_fitRules x_fitGreen x_undoable x_newest x_seeded x_qCoded x_qWaits x_qOpened x_qBase x_qPiled x_qAnswer x_qIsNew x_octets)), (wi_rm0_0_1600_0 rm cy g_tape), (wi_2_5_0 a_arg0 cy g_arg0)] → va_S A s.heap H locs → lv_has ls 4 [(0, .ref a_this), (1, .ref a_arg0), (2, .int J35_l2)] → W p l e { frames := 1, cells := 0, slots := 0, locals := 20 } s m args below meth c H locs 0 0 Q (F0 m 35 ls []) := by
    as_aux_lemma =>
      intro n
      induction n with
      | zero =>
        intro J35_l2 J35_c0_2 H locs ls hJ35_l2 hJ35_c0_2 hK35_x_end hK35_x_bad hJ35_lin0 hJ35_nb hq hm
        exact absurd hm (by have := hJ35_l2; unfold ib at this; omega)
      | succ n ih =>
        intro J35_l2 J35_c0_2 H locs ls hJ35_l2 hJ35_c0_2 hK35_x_end hK35_x_bad hJ35_lin0 hJ35_nb hq hm35 hP hD hS hl
        have ih35 := ih
        obtain ⟨K35, hK35⟩ : ∃ K, K = F_X10_isHere_r5_35 (Int32.toInt x_end) (lf_A g_tape) (lf_A g_arg0) n := ⟨_, rfl⟩
        have hq : O = F_X10_isHere_r5_35b (Int32.toInt x_end) (lf_A g_tape) (lf_A g_arg0) K35 (Int32.toInt J35_l2) (Int32.toInt J35_c0_2) := by rw [hK35]; exact hq
        unfold F_X10_isHere_r5_35b at hq
        refine lv_iload_n hx hb dX10_isHere_35 rfl (lv_at hl 2 rfl) ?_
        refine lv_aload_n hx hb dX10_isHere_36 rfl (lv_at hl 0 rfl) ?_
        refine k_get C0 fg_X10_288 hP 0 rfl rfl dX10_isHere_37 ?_
        refine lv_icmp_ge (tgt := 61) hx hb dX10_isHere_40 rfl (fun c30 => ?_) (fun c30 => ?_)
        · replace hq := lf_pos hq (lf_le (lf_rf x_end) (lf_rf J35_l2) c30)
          have h31 := ib_le hK35_x_end hJ35_l2 c30
          have h32 : ib J35_l2 1 1600 := ib_w 1 1600 h31.2 rfl
          have h33 : ib x_at 0 1599 := ⟨(hx_at).1, by have := (hx_at).2; have := hJ35_lin0; have := (hJ35_c0_2).2; omega⟩
          exact jn61 J35_l2 J35_c0_2 H locs ls (ib_w 0 1600 h32 rfl) (ib_w 0 1599 hJ35_c0_2 rfl) (ib_w 1 1600 hK35_x_end rfl) (ib_w 0 0 hK35_x_bad rfl) (by have := hJ35_lin0; omega) (fun q9 => (by have e0n : J35_c0_2 = x_at := hJ35_nb q9; exact e0n)) (by exact hq) hP hD hS (lv_sub hl [0, 1, 2] rfl)
        · as_aux_lemma =>
            replace hq := lf_neg hq (lf_nle (lf_rf x_end) (lf_rf J35_l2) c30)
            have h34 := ib_nle hK35_x_end hJ35_l2 c30
            have h35 : ib J35_l2 0 1599 := ib_w 0 1599 h34.2 rfl
            have h36 : ib x_at 0 1599 := ⟨(hx_at).1, by have := (hx_at).2; have := hJ35_lin0; have := (hJ35_c0_2).2; omega⟩
            refine lv_aload_n hx hb dX10_isHere_43 rfl (lv_at hl 0 rfl) ?_
            refine k_get C0 fg_X10_7 hP 0 rfl rfl dX10_isHere_44 ?_
            refine lv_iload_n hx hb dX10_isHere_47 rfl (lv_at hl 2 rfl) ?_
            refine va_iald hx hb C0.2.2.2.2.2.1 hP 1 0 rfl rfl (ib_in 1600 h35 rfl) dX10_isHere_48 ?_
            refine lv_topi (fun z37 ez37 => ?_)
            have h38 : ib z37 0 255 := by rw [ez37]; exact ia_at hg_tape (ib_in 1600 h35 rfl)
            have Ez37 := lf_ld ez37 (lf_ra g_tape) (lf_rf J35_l2)
            refine k_jim hP hD hS hA [] [true, true, true] rfl rfl rfl 0 0 (Nat.le_of_ble_eq_true rfl) (Nat.le_of_ble_eq_true rfl) (fun hPc hDc => k_runS (As := [.int z37]) (rest := []) C0 hZ hS hA (s_X10_isLetter l dC dI cy sq z37 ) mS_X10_295 hPc hDc hl rfl rfl (Nat.le_of_ble_eq_true rfl) ⟨(Nat.le_of_ble_eq_true rfl), (Nat.le_of_ble_eq_true rfl)⟩ ⟨(Nat.le_of_ble_eq_true rfl), (Nat.le_of_ble_eq_true rfl)⟩ dX10_isHere_49) (fun r39 u40 H locs hw hP hD hS => ?_)
            try dsimp only at hP hD hw
            replace hP : va_P (dC, dI) vwCl [(a_this, .inr (10, mfs rm x_taped J35_c0_2 x_end x_ended x_bad x_badPlace x_fault x_faultPlace x_namePlace x_awayTold x_away x_coded x_statements x_isCrossing x_textKind x_askSecond x_redMany x_isOpen x_lastGreen x_greenTo x_isCycleGreen x_stillGreen x_rowMany x_fitMany x_fitRules x_fitGreen x_undoable x_newest x_seeded x_qCoded x_qWaits x_qOpened x_qBase x_qPiled x_qAnswer x_qIsNew x_octets)), (wi_rm0_0_1600_0 rm cy g_tape), (wi_2_5_0 a_arg0 cy g_arg0)] H := hP
            replace hD := k_D hP hD
            obtain ⟨h41, h42, h43⟩ := hw
            have h43 := by have h9 := h43; rw [lf_u Ez37] at h9; exact h9
            replace hq := lf_b1 hq h43
            refine lv_if_eq (tgt := 61) hx hb dX10_isHere_52 rfl (fun c44 => ?_) (fun c44 => ?_)
            · replace hq := lf_pos hq (lf_eq (lf_rf r39) (lf_lc 0 (0 : Int) rfl) c44)
              have h45 := ib_eq h41 (ib_c 0 0 0 rfl) c44
              have h46 : ib r39 0 0 := ib_w 0 0 h45.1 rfl
              exact jn61 J35_l2 J35_c0_2 H locs ls (ib_w 0 1600 h35 rfl) (ib_w 0 1599 hJ35_c0_2 rfl) (ib_w 1 1600 hK35_x_end rfl) (ib_w 0 0 hK35_x_bad rfl) (by have := hJ35_lin0; omega) (fun q9 => (by have e0n : J35_c0_2 = x_at := hJ35_nb q9; exact e0n)) (by exact hq) hP hD hS (lv_sub hl [0, 1, 2] rfl)
            · replace hq := lf_neg hq (lf_ne (lf_rf r39) (lf_lc 0 (0 : Int) rfl) c44)
              have h47 : ib r39 1 1 := ib_w 1 1 (ib_ne_lo 0 h41 rfl c44) rfl
              have h48 : ib z37 97 122 := ib_w 97 122 (ib_two h38 (h42 (ib_nz h47 rfl))) rfl
              obtain ⟨z49, ez49⟩ : ∃ y : Int32, y = J35_l2 + 1 := ⟨_, rfl⟩
              refine lv_iinc (v := z49) (lv' := [(2, .int z49), (0, .ref a_this), (1, .ref a_arg0)]) hx hb dX10_isHere_55 hl (k := 2) rfl (by rw [ez49]; rfl) (Nat.le_of_ble_eq_true rfl) rfl (fun ls hl => ?_)
              have h50 := ib_add h35 (ib_c 1 1 1 rfl) rfl
              rw [← ez49] at h50
              have h51 : ib z49 1 1600 := ib_w 1 1600 h50.1 rfl
              have Ez49 := lf_add h50.2 (lf_rf J35_l2) (lf_lc 1 (1 : Int) rfl)
              refine lv_goto (tgt := 35) hx hb dX10_isHere_58 rfl ?_
              exact ih35 z49 J35_c0_2 H locs ls (ib_w 0 1600 h51 rfl) (ib_w 0 1599 hJ35_c0_2 rfl) (ib_w 1 1600 hK35_x_end rfl) (ib_w 0 0 hK35_x_bad rfl) (by have := hJ35_lin0; omega) (fun q9 => (by have e0n : J35_c0_2 = x_at := hJ35_nb q9; exact e0n)) (by rw [← hK35]; rw [lf_u Ez49]; exact hq) (by have := h50.2; have : (1 : Int32).toInt = 1 := rfl; omega) hP hD hS (lv_sub hl [1, 2, 0] rfl)
  have jn28 : ∀ (J28_c0_2 : Int32) (H : Heap) (locs : List Loc) (ls : Array Slot), ib J28_c0_2 0 1600 → (1 * x_at.toInt + (-1) * J28_c0_2.toInt ≤ 0) → (NB g_tape x_at x_end → J28_c0_2 = x_at) → (O = F_X10_isHere_r5_28 (Int32.toInt J28_c0_2)) → va_P (dC, dI) vwCl [(a_this, .inr (10, mfs rm x_taped J28_c0_2 x_end x_ended x_bad x_badPlace x_fault x_faultPlace x_namePlace x_awayTold x_away x_coded x_statements x_isCrossing x_textKind x_askSecond x_redMany x_isOpen x_lastGreen x_greenTo x_isCycleGreen x_stillGreen x_rowMany x_fitMany x_fitRules x_fitGreen x_undoable x_newest x_seeded x_qCoded x_qWaits x_qOpened x_qBase x_qPiled x_qAnswer x_qIsNew x_octets)), (wi_rm0_0_1600_0 rm cy g_tape), (wi_2_5_0 a_arg0 cy g_arg0)] H → va_D A [(a_this, .inr (10, mfs rm x_taped J28_c0_2 x_end x_ended x_bad x_badPlace x_fault x_faultPlace x_namePlace x_awayTold x_away x_coded x_statements x_isCrossing x_textKind x_askSecond x_redMany x_isOpen x_lastGreen x_greenTo x_isCycleGreen x_stillGreen x_rowMany x_fitMany x_fitRules x_fitGreen x_undoable x_newest x_seeded x_qCoded x_qWaits x_qOpened x_qBase x_qPiled x_qAnswer x_qIsNew x_octets)), (wi_rm0_0_1600_0 rm cy g_tape), (wi_2_5_0 a_arg0 cy g_arg0)] → va_S A s.heap H locs → lv_has ls 4 [(0, .ref a_this), (1, .ref a_arg0)] → W p l e { frames := 1, cells := 0, slots := 0, locals := 20 } s m args below meth c H locs 0 0 Q (F0 m 28 ls []) := by
    intro J28_c0_2 H locs ls hJ28_c0_2 hJ28_lin0 hJ28_nb hq hP hD hS hl
    unfold F_X10_isHere_r5_28 at hq
    refine lv_iconst (v := 0) hx hb dX10_isHere_28 rfl ?_
    subst hQ; exact k_iret hx hb hr hlk (k_nb 0 rfl) J28_c0_2 hS ⟨ib_w 0 1600 hJ28_c0_2 rfl, ib_w 0 1 (ib_c 0 0 0 rfl) rfl, fun hq9 => absurd rfl hq9, fun hq9 => absurd rfl hq9, fun hq9 => absurd rfl hq9, fun hq9 => absurd rfl hq9, (by have := hJ28_lin0; omega), fun q9 => (by have e0n : J28_c0_2 = x_at := hJ28_nb q9; exact e0n), (hO.symm.trans (by try simp only [show (0 : Int32).toInt = (0 : Int) from rfl]; exact hq))⟩ hP hD (Nat.le_of_ble_eq_true rfl) (Nat.le_of_ble_eq_true rfl) dX10_isHere_29
  refine lv_aload_n hx hb dX10_isHere_0 rfl (lv_at hl 0 rfl) ?_
  refine k_get C0 fg_X10_279 hP 0 rfl rfl dX10_isHere_1 ?_
  refine lv_if_ne (tgt := 28) hx hb dX10_isHere_4 rfl (fun c52 => ?_) (fun c52 => ?_)
  · replace hq := lf_neg hq (lf_ne (lf_rf x_bad) (lf_lc 0 (0 : Int) rfl) c52)
    exact jn28 x_at H locs ls (ib_w 0 1600 hx_at rfl) (by omega) (fun _ => rfl) (by exact hq) hP hD hS (lv_sub hl [0, 1] rfl)
  · as_aux_lemma =>
      replace hq := lf_pos hq (lf_eq (lf_rf x_bad) (lf_lc 0 (0 : Int) rfl) c52)
      have h53 := ib_eq (ib_any x_bad) (ib_c 0 0 0 rfl) c52
      have h54 : ib x_bad 0 0 := ib_w 0 0 h53.1 rfl
      refine lv_aload_n hx hb dX10_isHere_7 rfl (lv_at hl 0 rfl) ?_
      refine k_jim hP hD hS hA [0, 1] [false, false, true] rfl rfl rfl 0 0 (Nat.le_of_ble_eq_true rfl) (Nat.le_of_ble_eq_true rfl) (fun hPc hDc => k_runV (As := []) (rest := []) C0 hZ hS hA (s_X10_look l dC dI cy sq a_this rm x_taped x_at x_end x_ended x_bad x_badPlace x_fault x_faultPlace x_namePlace x_awayTold x_away x_coded x_statements x_isCrossing x_textKind x_askSecond x_redMany x_isOpen x_lastGreen x_greenTo x_isCycleGreen x_stillGreen x_rowMany x_fitMany x_fitRules x_fitGreen x_undoable x_newest x_seeded x_qCoded x_qWaits x_qOpened x_qBase x_qPiled x_qAnswer x_qIsNew x_octets g_tape (ib_w 0 1600 hx_at rfl) (ib_w 0 1600 hx_end rfl) hg_tape) mV_X10_291 hPc hDc rfl rfl rfl hl rfl rfl (Nat.le_of_ble_eq_true rfl) ⟨(Nat.le_of_ble_eq_true rfl), (Nat.le_of_ble_eq_true rfl)⟩ ⟨(Nat.le_of_ble_eq_true rfl), (Nat.le_of_ble_eq_true rfl)⟩ dX10_isHere_8) (fun r55 u56 H locs hw hP hD hS => ?_)
      obtain ⟨v57, ev57⟩ : ∃ z, z = u56 := ⟨_, rfl⟩; subst ev57
      try dsimp only at hP hD hw
      replace hP : va_P (dC, dI) vwCl [(wi_2_5_0 a_arg0 cy g_arg0), (a_this, .inr (10, mfs rm x_taped v57 x_end x_ended x_bad x_badPlace x_fault x_faultPlace x_namePlace x_awayTold x_away x_coded x_statements x_isCrossing x_textKind x_askSecond x_redMany x_isOpen x_lastGreen x_greenTo x_isCycleGreen x_stillGreen x_rowMany x_fitMany x_fitRules x_fitGreen x_undoable x_newest x_seeded x_qCoded x_qWaits x_qOpened x_qBase x_qPiled x_qAnswer x_qIsNew x_octets)), (wi_rm0_0_1600_0 rm cy g_tape)] H := hP
      replace hD := k_D hP hD
      obtain ⟨h58, h59, h60, h61, h62, h63, h64, h65, h66, h67⟩ := hw
      replace hq := lf_p1 hq h67
      refine k_jim hP hD hS hA [] [true, true, true] rfl rfl rfl 0 0 (Nat.le_of_ble_eq_true rfl) (Nat.le_of_ble_eq_true rfl) (fun hPc hDc => k_runS (As := [.int r55]) (rest := []) C0 hZ hS hA (s_X10_isLetter l dC dI cy sq r55 ) mS_X10_295 hPc hDc hl rfl rfl (Nat.le_of_ble_eq_true rfl) ⟨(Nat.le_of_ble_eq_true rfl), (Nat.le_of_ble_eq_true rfl)⟩ ⟨(Nat.le_of_ble_eq_true rfl), (Nat.le_of_ble_eq_true rfl)⟩ dX10_isHere_11) (fun r68 u69 H locs hw hP hD hS => ?_)
      try dsimp only at hP hD hw
      replace hP : va_P (dC, dI) vwCl [(wi_2_5_0 a_arg0 cy g_arg0), (a_this, .inr (10, mfs rm x_taped v57 x_end x_ended x_bad x_badPlace x_fault x_faultPlace x_namePlace x_awayTold x_away x_coded x_statements x_isCrossing x_textKind x_askSecond x_redMany x_isOpen x_lastGreen x_greenTo x_isCycleGreen x_stillGreen x_rowMany x_fitMany x_fitRules x_fitGreen x_undoable x_newest x_seeded x_qCoded x_qWaits x_qOpened x_qBase x_qPiled x_qAnswer x_qIsNew x_octets)), (wi_rm0_0_1600_0 rm cy g_tape)] H := hP
      replace hD := k_D hP hD
      obtain ⟨h70, h71, h72⟩ := hw
      replace hq := lf_b1 hq h72
      refine lv_if_eq (tgt := 28) hx hb dX10_isHere_14 rfl (fun c73 => ?_) (fun c73 => ?_)
      · replace hq := lf_pos hq (lf_eq (lf_rf r68) (lf_lc 0 (0 : Int) rfl) c73)
        have h74 := ib_eq h70 (ib_c 0 0 0 rfl) c73
        have h75 : ib r68 0 0 := ib_w 0 0 h74.1 rfl
        exact jn28 v57 H locs ls (ib_w 0 1600 h58 rfl) (by have := h63; omega) (fun q9 => (by have e0n : v57 = x_at := h65 q9; exact e0n)) (by exact hq) (hP.sub [1, 2, 0] rfl) (hD.sub [1, 2, 0] rfl rfl) hS (lv_sub hl [0, 1] rfl)
      · as_aux_lemma =>
          replace hq := lf_neg hq (lf_ne (lf_rf r68) (lf_lc 0 (0 : Int) rfl) c73)
          have h76 : ib r68 1 1 := ib_w 1 1 (ib_ne_lo 0 h70 rfl c73) rfl
          have h77 : ib r55 97 122 := ib_w 97 122 (ib_two h59 (h71 (ib_nz h76 rfl))) rfl
          have h78 : ib v57 0 1599 := ib_w 0 1599 (ib_two h58 (h60 (ib_nc (-1) h77 rfl))) rfl
          have h79 : ib x_at 0 1599 := ib_w 0 1599 (ib_two hx_at (h61 (ib_nc (-1) h77 rfl))) rfl
          have h80 : ib x_end 1 1600 := ib_w 1 1600 (ib_two hx_end (h62 (ib_nc (-1) h77 rfl))) rfl
          refine lv_aload_n hx hb dX10_isHere_17 rfl (lv_at hl 0 rfl) ?_
          refine k_get C0 fg_X10_285 hP 1 rfl rfl dX10_isHere_18 ?_
          refine lv_aload_n hx hb dX10_isHere_21 rfl (lv_at hl 0 rfl) ?_
          refine k_get C0 fg_X10_299 hP 1 rfl rfl dX10_isHere_22 ?_
          refine lv_icmp_ne (tgt := 30) hx hb dX10_isHere_25 rfl (fun c81 => ?_) (fun c81 => ?_)
          · replace hq := lf_neg hq (lf_ne (lf_rf v57) (lf_rf x_ended) c81)
            refine lv_aload_n hx hb dX10_isHere_30 rfl (lv_at hl 0 rfl) ?_
            refine k_get C0 fg_X10_285 hP 1 rfl rfl dX10_isHere_31 ?_
            refine lv_istore_n (lv' := [(2, .int v57), (0, .ref a_this), (1, .ref a_arg0)]) hx hb dX10_isHere_34 rfl hl (Nat.le_of_ble_eq_true rfl) rfl (fun ls hl => ?_)
            exact jn35 1602 v57 v57 H locs ls (ib_w 0 1600 h78 rfl) (ib_w 0 1599 h78 rfl) (ib_w 1 1600 h80 rfl) (ib_w 0 0 h54 rfl) (by have := h63; omega) (fun q9 => (by have e0n : v57 = x_at := h65 q9; exact e0n)) (by exact hq) (by have := h78; unfold ib at this; omega) (hP.sub [1, 2, 0] rfl) (hD.sub [1, 2, 0] rfl rfl) hS (lv_sub hl [1, 2, 0] rfl)
          · replace hq := lf_pos hq (lf_eq (lf_rf v57) (lf_rf x_ended) c81)
            have h82 := ib_eq h78 (ib_any x_ended) c81
            have h83 : ib x_ended 0 1599 := ib_w 0 1599 h82.2 rfl
            exact jn28 v57 H locs ls (ib_w 0 1600 h78 rfl) (by have := h63; omega) (fun q9 => (by have e0n : v57 = x_at := h65 q9; exact e0n)) (by exact hq) (hP.sub [1, 2, 0] rfl) (hD.sub [1, 2, 0] rfl rfl) hS (lv_sub hl [0, 1] rfl)
set_option maxHeartbeats 4000000 in
set_option maxRecDepth 100000 in
theorem s_X10_takes_r5 (l : Launch) (dC : Nat → ClassId) (dI : Nat → Nat → Nat) (cy : Nat → ClassId) (sq : Nat → Nat) (a_this : Nat) (rm : Nat → Nat) (x_taped : Int32) (x_at : Int32) (x_end : Int32) (x_ended : Int32) (x_bad : Int32) (x_badPlace : Int32) (x_fault : Int32) (x_faultPlace : Int32) (x_namePlace : Int32) (x_awayTold : Int32) (x_away : Int32) (x_coded : Int32) (x_statements : Int32) (x_isCrossing : Int32) (x_textKind : Int32) (x_askSecond : Int32) (x_redMany : Int32) (x_isOpen : Int32) (x_lastGreen : Int32) (x_greenTo : Int32) (x_isCycleGreen : Int32) (x_stillGreen : Int32) (x_rowMany : Int32) (x_fitMany : Int32) (x_fitRules : Int32) (x_fitGreen : Int32) (x_undoable : Int32) (x_newest : Int32) (x_seeded : Int64) (x_qCoded : Int32) (x_qWaits : Int32) (x_qOpened : Int32) (x_qBase : Int32) (x_qPiled : Int32) (x_qAnswer : Int64) (x_qIsNew : Int32) (x_octets : Int32) (g_tape : Nat → Int32) (a_arg0 : Nat) (g_arg0 : Nat → Int32) (hx_at : ib x_at 0 1600) (hx_end : ib x_end 0 1600) (hg_tape : ia g_tape 1600 0 255) : k_Met l yX10_takes cX10_takes 2 (some .boolean) { frames := 2, cells := 0, slots := 0, locals := 43 } dC dI cy sq [.ref a_this, .ref a_arg0] [(a_this, .inr (10, mfs rm x_taped x_at x_end x_ended x_bad x_badPlace x_fault x_faultPlace x_namePlace x_awayTold x_away x_coded x_statements x_isCrossing x_textKind x_askSecond x_redMany x_isOpen x_lastGreen x_greenTo x_isCycleGreen x_stillGreen x_rowMany x_fitMany x_fitRules x_fitGreen x_undoable x_newest x_seeded x_qCoded x_qWaits x_qOpened x_qBase x_qPiled x_qAnswer x_qIsNew x_octets)), (wi_rm0_0_1600_0 rm cy g_tape), (wi_2_5_0 a_arg0 cy g_arg0)] (k_Qi dC dI (fun (r : Int32) (u : Int32 × Int32) => match u with | (n0, n1) => ib n0 0 1600 ∧ ib r 0 1 ∧ (¬ r = 0 → ib n0 5 1600) ∧ (¬ r = 0 → ib n1 5 1600) ∧ (¬ r = 0 → ib x_at 0 1595) ∧ (¬ r = 0 → ib x_end 1 1600) ∧ (¬ r = 0 → ib x_bad 0 0) ∧ (1 * x_at.toInt + (-1) * n0.toInt ≤ 0) ∧ (¬ r = 0 → 1 * x_at.toInt + (-1) * n0.toInt ≤ (-5)) ∧ (F_X10_takes_r5 (Int32.toInt x_at) (Int32.toInt x_end) (Int32.toInt x_ended) (Int32.toInt x_bad) (lf_A g_tape) (lf_A g_arg0) = ((Int32.toInt r), (Int32.toInt n0), (Int32.toInt n1)))) (fun u : Int32 × Int32 => match u with | (n0, n1) => [(a_this, .inr (10, mfs rm x_taped n0 x_end n1 x_bad x_badPlace x_fault x_faultPlace x_namePlace x_awayTold x_away x_coded x_statements x_isCrossing x_textKind x_askSecond x_redMany x_isOpen x_lastGreen x_greenTo x_isCycleGreen x_stillGreen x_rowMany x_fitMany x_fitRules x_fitGreen x_undoable x_newest x_seeded x_qCoded x_qWaits x_qOpened x_qBase x_qPiled x_qAnswer x_qIsNew x_octets)), (wi_rm0_0_1600_0 rm cy g_tape), (wi_2_5_0 a_arg0 cy g_arg0)])) := by
  refine k_ofW2 (by decide +kernel) (Nat.le_of_ble_eq_true rfl) ?_
  intro p e s m below meth c A ls H locs args Q hQ C0 hZ hr hlk hin hP hD hA hS hl
  have C0 : k_cx p s m args c cX10_takes 2 RX10 dC dI cy sq := C0
  have hx := C0.1
  have hb := C0.2.1
  have hl : lv_has ls 2 [(0, .ref a_this), (1, .ref a_arg0)] := hl
  obtain ⟨O, hO⟩ : ∃ o, o = F_X10_takes_r5 (Int32.toInt x_at) (Int32.toInt x_end) (Int32.toInt x_ended) (Int32.toInt x_bad) (lf_A g_tape) (lf_A g_arg0) := ⟨_, rfl⟩
  have hq := hO
  unfold F_X10_takes_r5 at hq
  refine lv_aload_n hx hb dX10_takes_0 rfl (lv_at hl 0 rfl) ?_
  refine lv_aload_n hx hb dX10_takes_1 rfl (lv_at hl 1 rfl) ?_
  refine k_jim hP hD hS hA [0, 1, 2] [] rfl rfl rfl 0 0 (Nat.le_of_ble_eq_true rfl) (Nat.le_of_ble_eq_true rfl) (fun hPc hDc => k_runV (As := [.ref a_arg0]) (rest := []) C0 hZ hS hA (s_X10_isHere_r5 l dC dI cy sq a_this rm x_taped x_at x_end x_ended x_bad x_badPlace x_fault x_faultPlace x_namePlace x_awayTold x_away x_coded x_statements x_isCrossing x_textKind x_askSecond x_redMany x_isOpen x_lastGreen x_greenTo x_isCycleGreen x_stillGreen x_rowMany x_fitMany x_fitRules x_fitGreen x_undoable x_newest x_seeded x_qCoded x_qWaits x_qOpened x_qBase x_qPiled x_qAnswer x_qIsNew x_octets g_tape a_arg0 g_arg0 (ib_w 0 1600 hx_at rfl) (ib_w 0 1600 hx_end rfl) hg_tape) mV_X10_302 hPc hDc rfl rfl rfl hl rfl rfl (Nat.le_of_ble_eq_true rfl) ⟨(Nat.le_of_ble_eq_true rfl), (Nat.le_of_ble_eq_true rfl)⟩ ⟨(Nat.le_of_ble_eq_true rfl), (Nat.le_of_ble_eq_true rfl)⟩ dX10_takes_2) (fun r1 u2 H locs hw hP hD hS => ?_)
  obtain ⟨v3, ev3⟩ : ∃ z, z = u2 := ⟨_, rfl⟩; subst ev3
  try dsimp only at hP hD hw
  replace hP : va_P (dC, dI) vwCl [(a_this, .inr (10, mfs rm x_taped v3 x_end x_ended x_bad x_badPlace x_fault x_faultPlace x_namePlace x_awayTold x_away x_coded x_statements x_isCrossing x_textKind x_askSecond x_redMany x_isOpen x_lastGreen x_greenTo x_isCycleGreen x_stillGreen x_rowMany x_fitMany x_fitRules x_fitGreen x_undoable x_newest x_seeded x_qCoded x_qWaits x_qOpened x_qBase x_qPiled x_qAnswer x_qIsNew x_octets)), (wi_rm0_0_1600_0 rm cy g_tape), (wi_2_5_0 a_arg0 cy g_arg0)] H := hP
  replace hD := k_D hP hD
  obtain ⟨h4, h5, h6, h7, h8, h9, h10, h11, h12⟩ := hw
  replace hq := lf_p1 hq h12
  refine lv_if_ne (tgt := 10) hx hb dX10_takes_5 rfl (fun c13 => ?_) (fun c13 => ?_)
  · replace hq := lf_neg hq (lf_ne (lf_rf r1) (lf_lc 0 (0 : Int) rfl) c13)
    have h14 : ib r1 1 1 := ib_w 1 1 (ib_ne_lo 0 h5 rfl c13) rfl
    have h15 : ib v3 0 1595 := ib_w 0 1595 (ib_two h4 (h6 (ib_nz h14 rfl))) rfl
    have h16 : ib x_at 0 1595 := ib_w 0 1595 (ib_two hx_at (h7 (ib_nz h14 rfl))) rfl
    have h17 : ib x_end 1 1600 := ib_w 1 1600 (ib_two hx_end (h8 (ib_nz h14 rfl))) rfl
    have h18 : ib x_bad 0 0 := ib_w 0 0 (ib_two (ib_any x_bad) (h9 (ib_nz h14 rfl))) rfl
    refine lv_aload_n hx hb dX10_takes_10 rfl (lv_at hl 0 rfl) ?_
    refine lv_dup hx hb dX10_takes_11 rfl ?_
    refine k_get C0 fg_X10_285 hP 0 rfl rfl dX10_takes_12 ?_
    refine lv_aload_n hx hb dX10_takes_15 rfl (lv_at hl 1 rfl) ?_
    refine va_alen hx hb C0.2.2.2.2.2.1 hP 2 2 rfl rfl (v := 5) (show Int32.ofNat 5 = 5 by decide) dX10_takes_16 ?_
    refine lv_iadd hx hb dX10_takes_17 ?_
    refine lv_topi (fun z19 ez19 => ?_)
    have h20 := ib_add h15 (ib_c 5 5 5 rfl) rfl
    rw [← ez19] at h20
    have h21 : ib z19 5 1600 := ib_w 5 1600 h20.1 rfl
    have Ez19 := lf_add h20.2 (lf_rf v3) (lf_lc 5 (5 : Int) rfl)
    refine k_put C0 fp_X10_285 hP hD hS 0 rfl rfl rfl (Nat.le_of_ble_eq_true rfl) dX10_takes_18 (fun H locs hP hD hS => ?_)
    replace hP : va_P (dC, dI) vwCl [(a_this, .inr (10, mfs rm x_taped z19 x_end x_ended x_bad x_badPlace x_fault x_faultPlace x_namePlace x_awayTold x_away x_coded x_statements x_isCrossing x_textKind x_askSecond x_redMany x_isOpen x_lastGreen x_greenTo x_isCycleGreen x_stillGreen x_rowMany x_fitMany x_fitRules x_fitGreen x_undoable x_newest x_seeded x_qCoded x_qWaits x_qOpened x_qBase x_qPiled x_qAnswer x_qIsNew x_octets)), (wi_rm0_0_1600_0 rm cy g_tape), (wi_2_5_0 a_arg0 cy g_arg0)] H := hP
    replace hD := k_D hP hD
    refine lv_aload_n hx hb dX10_takes_21 rfl (lv_at hl 0 rfl) ?_
    refine lv_aload_n hx hb dX10_takes_22 rfl (lv_at hl 0 rfl) ?_
    refine k_get C0 fg_X10_285 hP 0 rfl rfl dX10_takes_23 ?_
    refine k_put C0 fp_X10_299 hP hD hS 0 rfl rfl rfl (Nat.le_of_ble_eq_true rfl) dX10_takes_26 (fun H locs hP hD hS => ?_)
    replace hP : va_P (dC, dI) vwCl [(a_this, .inr (10, mfs rm x_taped z19 x_end z19 x_bad x_badPlace x_fault x_faultPlace x_namePlace x_awayTold x_away x_coded x_statements x_isCrossing x_textKind x_askSecond x_redMany x_isOpen x_lastGreen x_greenTo x_isCycleGreen x_stillGreen x_rowMany x_fitMany x_fitRules x_fitGreen x_undoable x_newest x_seeded x_qCoded x_qWaits x_qOpened x_qBase x_qPiled x_qAnswer x_qIsNew x_octets)), (wi_rm0_0_1600_0 rm cy g_tape), (wi_2_5_0 a_arg0 cy g_arg0)] H := hP
    replace hD := k_D hP hD
    refine lv_iconst (v := 1) hx hb dX10_takes_29 rfl ?_
    subst hQ; exact k_iret hx hb hr hlk (k_nb 1 rfl) ((z19, z19)) hS ⟨ib_w 0 1600 h21 rfl, ib_w 0 1 (ib_c 1 1 1 rfl) rfl, fun _ => ib_w 5 1600 h21 rfl, fun _ => ib_w 5 1600 h21 rfl, fun _ => ib_w 0 1595 h16 rfl, fun _ => ib_w 1 1600 h17 rfl, fun _ => ib_w 0 0 h18 rfl, (by have := h20.2; have : (5 : Int32).toInt = 5 := rfl; have := h10; omega), fun _ => (by have := h20.2; have : (5 : Int32).toInt = 5 := rfl; have := h10; omega), (hO.symm.trans (by try simp only [show (1 : Int32).toInt = (1 : Int) from rfl]; rw [lf_u Ez19]; exact hq))⟩ hP hD (Nat.le_of_ble_eq_true rfl) (Nat.le_of_ble_eq_true rfl) dX10_takes_30
  · replace hq := lf_pos hq (lf_eq (lf_rf r1) (lf_lc 0 (0 : Int) rfl) c13)
    have h22 := ib_eq h5 (ib_c 0 0 0 rfl) c13
    have h23 : ib r1 0 0 := ib_w 0 0 h22.1 rfl
    refine lv_iconst (v := 0) hx hb dX10_takes_8 rfl ?_
    subst hQ; exact k_iret hx hb hr hlk (k_nb 0 rfl) ((v3, x_ended)) hS ⟨ib_w 0 1600 h4 rfl, ib_w 0 1 (ib_c 0 0 0 rfl) rfl, fun hq9 => absurd rfl hq9, fun hq9 => absurd rfl hq9, fun hq9 => absurd rfl hq9, fun hq9 => absurd rfl hq9, fun hq9 => absurd rfl hq9, (by have := h10; omega), fun hq9 => absurd rfl hq9, (hO.symm.trans (by try simp only [show (0 : Int32).toInt = (0 : Int) from rfl]; exact hq))⟩ hP hD (Nat.le_of_ble_eq_true rfl) (Nat.le_of_ble_eq_true rfl) dX10_takes_9
set_option maxHeartbeats 4000000 in
set_option maxRecDepth 100000 in
theorem s_X10_isHere_r4 (l : Launch) (dC : Nat → ClassId) (dI : Nat → Nat → Nat) (cy : Nat → ClassId) (sq : Nat → Nat) (a_this : Nat) (rm : Nat → Nat) (x_taped : Int32) (x_at : Int32) (x_end : Int32) (x_ended : Int32) (x_bad : Int32) (x_badPlace : Int32) (x_fault : Int32) (x_faultPlace : Int32) (x_namePlace : Int32) (x_awayTold : Int32) (x_away : Int32) (x_coded : Int32) (x_statements : Int32) (x_isCrossing : Int32) (x_textKind : Int32) (x_askSecond : Int32) (x_redMany : Int32) (x_isOpen : Int32) (x_lastGreen : Int32) (x_greenTo : Int32) (x_isCycleGreen : Int32) (x_stillGreen : Int32) (x_rowMany : Int32) (x_fitMany : Int32) (x_fitRules : Int32) (x_fitGreen : Int32) (x_undoable : Int32) (x_newest : Int32) (x_seeded : Int64) (x_qCoded : Int32) (x_qWaits : Int32) (x_qOpened : Int32) (x_qBase : Int32) (x_qPiled : Int32) (x_qAnswer : Int64) (x_qIsNew : Int32) (x_octets : Int32) (g_tape : Nat → Int32) (a_arg0 : Nat) (g_arg0 : Nat → Int32) (hx_at : ib x_at 0 1600) (hx_end : ib x_end 0 1600) (hg_tape : ia g_tape 1600 0 255) : k_Met l yX10_isHere cX10_isHere 4 (some .boolean) { frames := 1, cells := 0, slots := 0, locals := 20 } dC dI cy sq [.ref a_this, .ref a_arg0] [(a_this, .inr (10, mfs rm x_taped x_at x_end x_ended x_bad x_badPlace x_fault x_faultPlace x_namePlace x_awayTold x_away x_coded x_statements x_isCrossing x_textKind x_askSecond x_redMany x_isOpen x_lastGreen x_greenTo x_isCycleGreen x_stillGreen x_rowMany x_fitMany x_fitRules x_fitGreen x_undoable x_newest x_seeded x_qCoded x_qWaits x_qOpened x_qBase x_qPiled x_qAnswer x_qIsNew x_octets)), (wi_rm0_0_1600_0 rm cy g_tape), (wi_2_4_0 a_arg0 cy g_arg0)] (k_Qi dC dI (fun (r : Int32) (n0 : Int32) => ib n0 0 1600 ∧ ib r 0 1 ∧ (¬ r = 0 → ib n0 0 1596) ∧ (¬ r = 0 → ib x_at 0 1596) ∧ (¬ r = 0 → ib x_end 1 1600) ∧ (¬ r = 0 → ib x_bad 0 0) ∧ (1 * x_at.toInt + (-1) * n0.toInt ≤ 0) ∧ (NB g_tape x_at x_end → n0 = x_at) ∧ (F_X10_isHere_r4 (Int32.toInt x_at) (Int32.toInt x_end) (Int32.toInt x_ended) (Int32.toInt x_bad) (lf_A g_tape) (lf_A g_arg0) = ((Int32.toInt r), (Int32.toInt n0)))) (fun n0 : Int32 => [(a_this, .inr (10, mfs rm x_taped n0 x_end x_ended x_bad x_badPlace x_fault x_faultPlace x_namePlace x_awayTold x_away x_coded x_statements x_isCrossing x_textKind x_askSecond x_redMany x_isOpen x_lastGreen x_greenTo x_isCycleGreen x_stillGreen x_rowMany x_fitMany x_fitRules x_fitGreen x_undoable x_newest x_seeded x_qCoded x_qWaits x_qOpened x_qBase x_qPiled x_qAnswer x_qIsNew x_octets)), (wi_rm0_0_1600_0 rm cy g_tape), (wi_2_4_0 a_arg0 cy g_arg0)])) := by
  refine k_ofW2 (by decide +kernel) (Nat.le_of_ble_eq_true rfl) ?_
  intro p e s m below meth c A ls H locs args Q hQ C0 hZ hr hlk hin hP hD hA hS hl
  have C0 : k_cx p s m args c cX10_isHere 4 RX10 dC dI cy sq := C0
  have hx := C0.1
  have hb := C0.2.1
  have hl : lv_has ls 4 [(0, .ref a_this), (1, .ref a_arg0)] := hl
  obtain ⟨O, hO⟩ : ∃ o, o = F_X10_isHere_r4 (Int32.toInt x_at) (Int32.toInt x_end) (Int32.toInt x_ended) (Int32.toInt x_bad) (lf_A g_tape) (lf_A g_arg0) := ⟨_, rfl⟩
  have hq := hO
  unfold F_X10_isHere_r4 at hq
  have jn76 : ∀ (n : Nat) (J76_l2 : Int32) (J76_c0_2 : Int32) (J76_l3 : Int32) (H : Heap) (locs : List Loc) (ls : Array Slot), ib J76_l2 4 1600 → ib J76_c0_2 0 1596 → ib x_end 1 1600 → ib x_bad 0 0 → ib J76_l3 0 4 → (1 * x_at.toInt + (-1) * J76_c0_2.toInt ≤ 0) → (NB g_tape x_at x_end → J76_c0_2 = x_at) → (O = F_X10_isHere_r4_76 (lf_A g_tape) (lf_A g_arg0) n (Int32.toInt J76_l2) (Int32.toInt J76_c0_2) (Int32.toInt J76_l3)) → 5 ≤ J76_l3.toInt + (n : Int) → va_P (dC, dI) vwCl [(a_this, .inr (10, mfs rm x_taped J76_c0_2 x_end x_ended x_bad x_badPlace x_fault x_faultPlace x_namePlace x_awayTold x_away x_coded x_statements x_isCrossing x_textKind x_askSecond x_redMany x_isOpen x_lastGreen x_greenTo x_isCycleGreen x_stillGreen x_rowMany x_fitMany x_fitRules x_fitGreen x_undoable x_newest x_seeded x_qCoded x_qWaits x_qOpened x_qBase x_qPiled x_qAnswer x_qIsNew x_octets)), (wi_rm0_0_1600_0 rm cy g_tape), (wi_2_4_0 a_arg0 cy g_arg0)] H → va_D A [(a_this, .inr (10, mfs rm x_taped J76_c0_2 x_end x_ended x_bad x_badPlace x_fault x_faultPlace x_namePlace x_awayTold x_away x_coded x_statements x_isCrossing x_textKind x_askSecond x_redMany x_isOpen x_lastGreen x_greenTo x_isCycleGreen x_stillGreen x_rowMany x_fitMany x_fitRules x_fitGreen x_undoable x_newest x_seeded x_qCoded x_qWaits x_qOpened x_qBase x_qPiled x_qAnswer x_qIsNew x_octets)), (wi_rm0_0_1600_0 rm cy g_tape), (wi_2_4_0 a_arg0 cy g_arg0)] → va_S A s.heap H locs → lv_has ls 4 [(0, .ref a_this), (1, .ref a_arg0), (2, .int J76_l2), (3, .int J76_l3)] → W p l e { frames := 1, cells := 0, slots := 0, locals := 20 } s m args below meth c H locs 0 0 Q (F0 m 76 ls []) := by
    as_aux_lemma =>
      intro n
      induction n with
      | zero =>
        intro J76_l2 J76_c0_2 J76_l3 H locs ls hJ76_l2 hJ76_c0_2 hK76_x_end hK76_x_bad hJ76_l3 hJ76_lin0 hJ76_nb hq hm
        exact absurd hm (by have := hJ76_l3; unfold ib at this; omega)
      | succ n ih =>
        intro J76_l2 J76_c0_2 J76_l3 H locs ls hJ76_l2 hJ76_c0_2 hK76_x_end hK76_x_bad hJ76_l3 hJ76_lin0 hJ76_nb hq hm76 hP hD hS hl
        have ih76 := ih
        obtain ⟨K76, hK76⟩ : ∃ K, K = F_X10_isHere_r4_76 (lf_A g_tape) (lf_A g_arg0) n := ⟨_, rfl⟩
        have hq : O = F_X10_isHere_r4_76b (lf_A g_tape) (lf_A g_arg0) K76 (Int32.toInt J76_l2) (Int32.toInt J76_c0_2) (Int32.toInt J76_l3) := by rw [hK76]; exact hq
        unfold F_X10_isHere_r4_76b at hq
        refine lv_iload_n hx hb dX10_isHere_76 rfl (lv_at hl 3 rfl) ?_
        refine lv_aload_n hx hb dX10_isHere_77 rfl (lv_at hl 1 rfl) ?_
        refine va_alen hx hb C0.2.2.2.2.2.1 hP 2 2 rfl rfl (v := 4) (show Int32.ofNat 4 = 4 by decide) dX10_isHere_78 ?_
        refine lv_icmp_ge (tgt := 107) hx hb dX10_isHere_79 rfl (fun c1 => ?_) (fun c1 => ?_)
        · replace hq := lf_pos hq (lf_le (lf_lc 4 (4 : Int) rfl) (lf_rf J76_l3) c1)
          have h2 := ib_le (ib_c 4 4 4 rfl) hJ76_l3 c1
          have h3 : ib J76_l3 4 4 := ib_w 4 4 h2.2 rfl
          have h4 : ib x_at 0 1596 := ⟨(hx_at).1, by have := (hx_at).2; have := hJ76_lin0; have := (hJ76_c0_2).2; omega⟩
          refine lv_iconst (v := 1) hx hb dX10_isHere_107 rfl ?_
          subst hQ; exact k_iret hx hb hr hlk (k_nb 1 rfl) J76_c0_2 hS ⟨ib_w 0 1600 hJ76_c0_2 rfl, ib_w 0 1 (ib_c 1 1 1 rfl) rfl, fun _ => ib_w 0 1596 hJ76_c0_2 rfl, fun _ => ib_w 0 1596 h4 rfl, fun _ => ib_w 1 1600 hK76_x_end rfl, fun _ => ib_w 0 0 hK76_x_bad rfl, (by have := hJ76_lin0; omega), fun q9 => (by have e0n : J76_c0_2 = x_at := hJ76_nb q9; exact e0n), (hO.symm.trans (by try simp only [show (1 : Int32).toInt = (1 : Int) from rfl]; exact hq))⟩ hP hD (Nat.le_of_ble_eq_true rfl) (Nat.le_of_ble_eq_true rfl) dX10_isHere_108
        · as_aux_lemma =>
            replace hq := lf_neg hq (lf_nle (lf_lc 4 (4 : Int) rfl) (lf_rf J76_l3) c1)
            have h5 := ib_nle (ib_c 4 4 4 rfl) hJ76_l3 c1
            have h6 : ib J76_l3 0 3 := ib_w 0 3 h5.2 rfl
            have h7 : ib x_at 0 1596 := ⟨(hx_at).1, by have := (hx_at).2; have := hJ76_lin0; have := (hJ76_c0_2).2; omega⟩
            refine lv_aload_n hx hb dX10_isHere_82 rfl (lv_at hl 0 rfl) ?_
            refine k_get C0 fg_X10_7 hP 0 rfl rfl dX10_isHere_83 ?_
            refine lv_aload_n hx hb dX10_isHere_86 rfl (lv_at hl 0 rfl) ?_
            refine k_get C0 fg_X10_285 hP 0 rfl rfl dX10_isHere_87 ?_
            refine lv_iload_n hx hb dX10_isHere_90 rfl (lv_at hl 3 rfl) ?_
            refine lv_iadd hx hb dX10_isHere_91 ?_
            refine lv_topi (fun z8 ez8 => ?_)
            have h9 := ib_add hJ76_c0_2 h6 rfl
            rw [← ez8] at h9
            have h10 : ib z8 0 1599 := ib_w 0 1599 h9.1 rfl
            have Ez8 := lf_add h9.2 (lf_rf J76_c0_2) (lf_rf J76_l3)
            refine va_iald hx hb C0.2.2.2.2.2.1 hP 1 0 rfl rfl (ib_in 1600 h10 rfl) dX10_isHere_92 ?_
            refine lv_topi (fun z11 ez11 => ?_)
            have h12 : ib z11 0 255 := by rw [ez11]; exact ia_at hg_tape (ib_in 1600 h10 rfl)
            have Ez11 := lf_ld ez11 (lf_ra g_tape) Ez8
            refine lv_aload_n hx hb dX10_isHere_93 rfl (lv_at hl 1 rfl) ?_
            refine lv_iload_n hx hb dX10_isHere_94 rfl (lv_at hl 3 rfl) ?_
            refine va_cald hx hb C0.2.2.2.2.2.1 hP 2 2 rfl rfl (ib_in 4 h6 rfl) dX10_isHere_95 ?_
            refine lv_topi (fun z13 ez13 => ?_)
            have Ez13 := lf_ld ez13 (lf_ra g_arg0) (lf_rf J76_l3)
            refine lv_icmp_eq (tgt := 101) hx hb dX10_isHere_96 rfl (fun c14 => ?_) (fun c14 => ?_)
            · replace hq := lf_pos hq (lf_eq Ez11 Ez13 c14)
              have h15 := ib_eq h12 (ib_any z13) c14
              have h16 : ib z13 0 255 := ib_w 0 255 h15.2 rfl
              obtain ⟨z17, ez17⟩ : ∃ y : Int32, y = J76_l3 + 1 := ⟨_, rfl⟩
              refine lv_iinc (v := z17) (lv' := [(3, .int z17), (0, .ref a_this), (1, .ref a_arg0), (2, .int J76_l2)]) hx hb dX10_isHere_101 hl (k := 3) rfl (by rw [ez17]; rfl) (Nat.le_of_ble_eq_true rfl) rfl (fun ls hl => ?_)
              have h18 := ib_add h6 (ib_c 1 1 1 rfl) rfl
              rw [← ez17] at h18
              have h19 : ib z17 1 4 := ib_w 1 4 h18.1 rfl
              have Ez17 := lf_add h18.2 (lf_rf J76_l3) (lf_lc 1 (1 : Int) rfl)
              refine lv_goto (tgt := 76) hx hb dX10_isHere_104 rfl ?_
              exact ih76 J76_l2 J76_c0_2 z17 H locs ls (ib_w 4 1600 hJ76_l2 rfl) (ib_w 0 1596 hJ76_c0_2 rfl) (ib_w 1 1600 hK76_x_end rfl) (ib_w 0 0 hK76_x_bad rfl) (ib_w 0 4 h19 rfl) (by have := hJ76_lin0; omega) (fun q9 => (by have e0n : J76_c0_2 = x_at := hJ76_nb q9; exact e0n)) (by rw [← hK76]; rw [lf_u Ez17]; exact hq) (by have := h18.2; have : (1 : Int32).toInt = 1 := rfl; omega) hP hD hS (lv_sub hl [1, 2, 3, 0] rfl)
            · replace hq := lf_neg hq (lf_ne Ez11 Ez13 c14)
              refine lv_iconst (v := 0) hx hb dX10_isHere_99 rfl ?_
              subst hQ; exact k_iret hx hb hr hlk (k_nb 0 rfl) J76_c0_2 hS ⟨ib_w 0 1600 hJ76_c0_2 rfl, ib_w 0 1 (ib_c 0 0 0 rfl) rfl, fun hq9 => absurd rfl hq9, fun hq9 => absurd rfl hq9, fun hq9 => absurd rfl hq9, fun hq9 => absurd rfl hq9, (by have := hJ76_lin0; omega), fun q9 => (by have e0n : J76_c0_2 = x_at := hJ76_nb q9; exact e0n), (hO.symm.trans (by try simp only [show (0 : Int32).toInt = (0 : Int) from rfl]; exact hq))⟩ hP hD (Nat.le_of_ble_eq_true rfl) (Nat.le_of_ble_eq_true rfl) dX10_isHere_100
  have jn61 : ∀ (J61_l2 : Int32) (J61_c0_2 : Int32) (H : Heap) (locs : List Loc) (ls : Array Slot), ib J61_l2 0 1600 → ib J61_c0_2 0 1599 → ib x_end 1 1600 → ib x_bad 0 0 → (1 * x_at.toInt + (-1) * J61_c0_2.toInt ≤ 0) → (NB g_tape x_at x_end → J61_c0_2 = x_at) → (O = F_X10_isHere_r4_61 (lf_A g_tape) (lf_A g_arg0) (Int32.toInt J61_l2) (Int32.toInt J61_c0_2)) → va_P (dC, dI) vwCl [(a_this, .inr (10, mfs rm x_taped J61_c0_2 x_end x_ended x_bad x_badPlace x_fault x_faultPlace x_namePlace x_awayTold x_away x_coded x_statements x_isCrossing x_textKind x_askSecond x_redMany x_isOpen x_lastGreen x_greenTo x_isCycleGreen x_stillGreen x_rowMany x_fitMany x_fitRules x_fitGreen x_undoable x_newest x_seeded x_qCoded x_qWaits x_qOpened x_qBase x_qPiled x_qAnswer x_qIsNew x_octets)), (wi_rm0_0_1600_0 rm cy g_tape), (wi_2_4_0 a_arg0 cy g_arg0)] H → va_D A [(a_this, .inr (10, mfs rm x_taped J61_c0_2 x_end x_ended x_bad x_badPlace x_fault x_faultPlace x_namePlace x_awayTold x_away x_coded x_statements x_isCrossing x_textKind x_askSecond x_redMany x_isOpen x_lastGreen x_greenTo x_isCycleGreen x_stillGreen x_rowMany x_fitMany x_fitRules x_fitGreen x_undoable x_newest x_seeded x_qCoded x_qWaits x_qOpened x_qBase x_qPiled x_qAnswer x_qIsNew x_octets)), (wi_rm0_0_1600_0 rm cy g_tape), (wi_2_4_0 a_arg0 cy g_arg0)] → va_S A s.heap H locs → lv_has ls 4 [(0, .ref a_this), (1, .ref a_arg0), (2, .int J61_l2)] → W p l e { frames := 1, cells := 0, slots := 0, locals := 20 } s m args below meth c H locs 0 0 Q (F0 m 61 ls []) := by
    as_aux_lemma =>
      intro J61_l2 J61_c0_2 H locs ls hJ61_l2 hJ61_c0_2 hK61_x_end hK61_x_bad hJ61_lin0 hJ61_nb hq hP hD hS hl
      unfold F_X10_isHere_r4_61 at hq
      refine lv_iload_n hx hb dX10_isHere_61 rfl (lv_at hl 2 rfl) ?_
      refine lv_aload_n hx hb dX10_isHere_62 rfl (lv_at hl 0 rfl) ?_
      refine k_get C0 fg_X10_285 hP 0 rfl rfl dX10_isHere_63 ?_
      refine lv_isub hx hb dX10_isHere_66 ?_
      refine lv_topi (fun z20 ez20 => ?_)
      have h21 := ib_sub hJ61_l2 hJ61_c0_2 rfl
      rw [← ez20] at h21
      have h22 : ib z20 (-1599) 1600 := ib_w (-1599) 1600 h21.1 rfl
      have Ez20 := lf_sub h21.2 (lf_rf J61_l2) (lf_rf J61_c0_2)
      refine lv_aload_n hx hb dX10_isHere_67 rfl (lv_at hl 1 rfl) ?_
      refine va_alen hx hb C0.2.2.2.2.2.1 hP 2 2 rfl rfl (v := 4) (show Int32.ofNat 4 = 4 by decide) dX10_isHere_68 ?_
      refine lv_icmp_eq (tgt := 74) hx hb dX10_isHere_69 rfl (fun c23 => ?_) (fun c23 => ?_)
      · replace hq := lf_pos hq (lf_eq Ez20 (lf_lc 4 (4 : Int) rfl) c23)
        have h24 := ib_eq h22 (ib_c 4 4 4 rfl) c23
        have h25 : ib z20 4 4 := ib_w 4 4 h24.1 rfl
        have h26 : ib J61_l2 4 1600 := ⟨by have := h21.2; have := (h25).1; have := (h25).2; have := (hJ61_l2).1; have := (hJ61_l2).2; have := (hJ61_c0_2).1; have := (hJ61_c0_2).2; omega, by have := h21.2; have := (h25).1; have := (h25).2; have := (hJ61_l2).1; have := (hJ61_l2).2; have := (hJ61_c0_2).1; have := (hJ61_c0_2).2; omega⟩
        have h27 : ib J61_c0_2 0 1596 := ⟨by have := h21.2; have := (h25).1; have := (h25).2; have := (hJ61_l2).1; have := (hJ61_l2).2; have := (hJ61_c0_2).1; have := (hJ61_c0_2).2; omega, by have := h21.2; have := (h25).1; have := (h25).2; have := (hJ61_l2).1; have := (hJ61_l2).2; have := (hJ61_c0_2).1; have := (hJ61_c0_2).2; omega⟩
        have h28 : ib x_at 0 1596 := ⟨(hx_at).1, by have := (hx_at).2; have := hJ61_lin0; have := (h27).2; omega⟩
        refine lv_iconst (v := 0) hx hb dX10_isHere_74 rfl ?_
        refine lv_istore_n (lv' := [(3, .int 0), (0, .ref a_this), (1, .ref a_arg0), (2, .int J61_l2)]) hx hb dX10_isHere_75 rfl hl (Nat.le_of_ble_eq_true rfl) rfl (fun ls hl => ?_)
        exact jn76 6 J61_l2 J61_c0_2 0 H locs ls (ib_w 4 1600 h26 rfl) (ib_w 0 1596 h27 rfl) (ib_w 1 1600 hK61_x_end rfl) (ib_w 0 0 hK61_x_bad rfl) (ib_w 0 4 (ib_c 0 0 0 rfl) rfl) (by have := hJ61_lin0; omega) (fun q9 => (by have e0n : J61_c0_2 = x_at := hJ61_nb q9; exact e0n)) (by try simp only [show (0 : Int32).toInt = (0 : Int) from rfl]; exact hq) (by have := (ib_c 0 0 0 rfl); unfold ib at this; omega) hP hD hS (lv_sub hl [1, 2, 3, 0] rfl)
      · replace hq := lf_neg hq (lf_ne Ez20 (lf_lc 4 (4 : Int) rfl) c23)
        have h29 : ib x_at 0 1599 := ⟨(hx_at).1, by have := (hx_at).2; have := hJ61_lin0; have := (hJ61_c0_2).2; omega⟩
        refine lv_iconst (v := 0) hx hb dX10_isHere_72 rfl ?_
        subst hQ; exact k_iret hx hb hr hlk (k_nb 0 rfl) J61_c0_2 hS ⟨ib_w 0 1600 hJ61_c0_2 rfl, ib_w 0 1 (ib_c 0 0 0 rfl) rfl, fun hq9 => absurd rfl hq9, fun hq9 => absurd rfl hq9, fun hq9 => absurd rfl hq9, fun hq9 => absurd rfl hq9, (by have := hJ61_lin0; omega), fun q9 => (by have e0n : J61_c0_2 = x_at := hJ61_nb q9; exact e0n), (hO.symm.trans (by try simp only [show (0 : Int32).toInt = (0 : Int) from rfl]; exact hq))⟩ hP hD (Nat.le_of_ble_eq_true rfl) (Nat.le_of_ble_eq_true rfl) dX10_isHere_73
  have jn35 : ∀ (n : Nat) (J35_l2 : Int32) (J35_c0_2 : Int32) (H : Heap) (locs : List Loc) (ls : Array Slot), ib J35_l2 0 1600 → ib J35_c0_2 0 1599 → ib x_end 1 1600 → ib x_bad 0 0 → (1 * x_at.toInt + (-1) * J35_c0_2.toInt ≤ 0) → (NB g_tape x_at x_end → J35_c0_2 = x_at) → (O = F_X10_isHere_r4_35 (Int32.toInt x_end) (lf_A g_tape) (lf_A g_arg0) n (Int32.toInt J35_l2) (Int32.toInt J35_c0_2)) → 1601 ≤ J35_l2.toInt + (n : Int) → va_P (dC, dI) vwCl [(a_this, .inr (10, mfs rm x_taped J35_c0_2 x_end x_ended x_bad x_badPlace x_fault x_faultPlace x_namePlace x_awayTold x_away x_coded x_statements x_isCrossing x_textKind x_askSecond x_redMany x_isOpen x_lastGreen x_greenTo x_isCycleGreen x_stillGreen x_rowMany x_fitMany x_fitRules x_fitGreen x_undoable x_newest x_seeded x_qCoded x_qWaits x_qOpened x_qBase x_qPiled x_qAnswer x_qIsNew x_octets)), (wi_rm0_0_1600_0 rm cy g_tape), (wi_2_4_0 a_arg0 cy g_arg0)] H → va_D A [(a_this, .inr (10, mfs rm x_taped J35_c0_2 x_end x_ended x_bad x_badPlace x_fault x_faultPlace x_namePlace x_awayTold x_away x_coded x_statements x_isCrossing x_textKind x_askSecond x_redMany x_isOpen x_lastGreen x_greenTo x_isCycleGreen x_stillGreen x_rowMany x_fitMany x_fitRules x_fitGreen x_undoable x_newest x_seeded x_qCoded x_qWaits x_qOpened x_qBase x_qPiled x_qAnswer x_qIsNew x_octets)), (wi_rm0_0_1600_0 rm cy g_tape), (wi_2_4_0 a_arg0 cy g_arg0)] → va_S A s.heap H locs → lv_has ls 4 [(0, .ref a_this), (1, .ref a_arg0), (2, .int J35_l2)] → W p l e { frames := 1, cells := 0, slots := 0, locals := 20 } s m args below meth c H locs 0 0 Q (F0 m 35 ls []) := by
    as_aux_lemma =>
      intro n
      induction n with
      | zero =>
        intro J35_l2 J35_c0_2 H locs ls hJ35_l2 hJ35_c0_2 hK35_x_end hK35_x_bad hJ35_lin0 hJ35_nb hq hm
        exact absurd hm (by have := hJ35_l2; unfold ib at this; omega)
      | succ n ih =>
        intro J35_l2 J35_c0_2 H locs ls hJ35_l2 hJ35_c0_2 hK35_x_end hK35_x_bad hJ35_lin0 hJ35_nb hq hm35 hP hD hS hl
        have ih35 := ih
        obtain ⟨K35, hK35⟩ : ∃ K, K = F_X10_isHere_r4_35 (Int32.toInt x_end) (lf_A g_tape) (lf_A g_arg0) n := ⟨_, rfl⟩
        have hq : O = F_X10_isHere_r4_35b (Int32.toInt x_end) (lf_A g_tape) (lf_A g_arg0) K35 (Int32.toInt J35_l2) (Int32.toInt J35_c0_2) := by rw [hK35]; exact hq
        unfold F_X10_isHere_r4_35b at hq
        refine lv_iload_n hx hb dX10_isHere_35 rfl (lv_at hl 2 rfl) ?_
        refine lv_aload_n hx hb dX10_isHere_36 rfl (lv_at hl 0 rfl) ?_
        refine k_get C0 fg_X10_288 hP 0 rfl rfl dX10_isHere_37 ?_
        refine lv_icmp_ge (tgt := 61) hx hb dX10_isHere_40 rfl (fun c30 => ?_) (fun c30 => ?_)
        · replace hq := lf_pos hq (lf_le (lf_rf x_end) (lf_rf J35_l2) c30)
          have h31 := ib_le hK35_x_end hJ35_l2 c30
          have h32 : ib J35_l2 1 1600 := ib_w 1 1600 h31.2 rfl
          have h33 : ib x_at 0 1599 := ⟨(hx_at).1, by have := (hx_at).2; have := hJ35_lin0; have := (hJ35_c0_2).2; omega⟩
          exact jn61 J35_l2 J35_c0_2 H locs ls (ib_w 0 1600 h32 rfl) (ib_w 0 1599 hJ35_c0_2 rfl) (ib_w 1 1600 hK35_x_end rfl) (ib_w 0 0 hK35_x_bad rfl) (by have := hJ35_lin0; omega) (fun q9 => (by have e0n : J35_c0_2 = x_at := hJ35_nb q9; exact e0n)) (by exact hq) hP hD hS (lv_sub hl [0, 1, 2] rfl)
        · as_aux_lemma =>
            replace hq := lf_neg hq (lf_nle (lf_rf x_end) (lf_rf J35_l2) c30)
            have h34 := ib_nle hK35_x_end hJ35_l2 c30
            have h35 : ib J35_l2 0 1599 := ib_w 0 1599 h34.2 rfl
            have h36 : ib x_at 0 1599 := ⟨(hx_at).1, by have := (hx_at).2; have := hJ35_lin0; have := (hJ35_c0_2).2; omega⟩
            refine lv_aload_n hx hb dX10_isHere_43 rfl (lv_at hl 0 rfl) ?_
            refine k_get C0 fg_X10_7 hP 0 rfl rfl dX10_isHere_44 ?_
            refine lv_iload_n hx hb dX10_isHere_47 rfl (lv_at hl 2 rfl) ?_
            refine va_iald hx hb C0.2.2.2.2.2.1 hP 1 0 rfl rfl (ib_in 1600 h35 rfl) dX10_isHere_48 ?_
            refine lv_topi (fun z37 ez37 => ?_)
            have h38 : ib z37 0 255 := by rw [ez37]; exact ia_at hg_tape (ib_in 1600 h35 rfl)
            have Ez37 := lf_ld ez37 (lf_ra g_tape) (lf_rf J35_l2)
            refine k_jim hP hD hS hA [] [true, true, true] rfl rfl rfl 0 0 (Nat.le_of_ble_eq_true rfl) (Nat.le_of_ble_eq_true rfl) (fun hPc hDc => k_runS (As := [.int z37]) (rest := []) C0 hZ hS hA (s_X10_isLetter l dC dI cy sq z37 ) mS_X10_295 hPc hDc hl rfl rfl (Nat.le_of_ble_eq_true rfl) ⟨(Nat.le_of_ble_eq_true rfl), (Nat.le_of_ble_eq_true rfl)⟩ ⟨(Nat.le_of_ble_eq_true rfl), (Nat.le_of_ble_eq_true rfl)⟩ dX10_isHere_49) (fun r39 u40 H locs hw hP hD hS => ?_)
            try dsimp only at hP hD hw
            replace hP : va_P (dC, dI) vwCl [(a_this, .inr (10, mfs rm x_taped J35_c0_2 x_end x_ended x_bad x_badPlace x_fault x_faultPlace x_namePlace x_awayTold x_away x_coded x_statements x_isCrossing x_textKind x_askSecond x_redMany x_isOpen x_lastGreen x_greenTo x_isCycleGreen x_stillGreen x_rowMany x_fitMany x_fitRules x_fitGreen x_undoable x_newest x_seeded x_qCoded x_qWaits x_qOpened x_qBase x_qPiled x_qAnswer x_qIsNew x_octets)), (wi_rm0_0_1600_0 rm cy g_tape), (wi_2_4_0 a_arg0 cy g_arg0)] H := hP
            replace hD := k_D hP hD
            obtain ⟨h41, h42, h43⟩ := hw
            have h43 := by have h9 := h43; rw [lf_u Ez37] at h9; exact h9
            replace hq := lf_b1 hq h43
            refine lv_if_eq (tgt := 61) hx hb dX10_isHere_52 rfl (fun c44 => ?_) (fun c44 => ?_)
            · replace hq := lf_pos hq (lf_eq (lf_rf r39) (lf_lc 0 (0 : Int) rfl) c44)
              have h45 := ib_eq h41 (ib_c 0 0 0 rfl) c44
              have h46 : ib r39 0 0 := ib_w 0 0 h45.1 rfl
              exact jn61 J35_l2 J35_c0_2 H locs ls (ib_w 0 1600 h35 rfl) (ib_w 0 1599 hJ35_c0_2 rfl) (ib_w 1 1600 hK35_x_end rfl) (ib_w 0 0 hK35_x_bad rfl) (by have := hJ35_lin0; omega) (fun q9 => (by have e0n : J35_c0_2 = x_at := hJ35_nb q9; exact e0n)) (by exact hq) hP hD hS (lv_sub hl [0, 1, 2] rfl)
            · replace hq := lf_neg hq (lf_ne (lf_rf r39) (lf_lc 0 (0 : Int) rfl) c44)
              have h47 : ib r39 1 1 := ib_w 1 1 (ib_ne_lo 0 h41 rfl c44) rfl
              have h48 : ib z37 97 122 := ib_w 97 122 (ib_two h38 (h42 (ib_nz h47 rfl))) rfl
              obtain ⟨z49, ez49⟩ : ∃ y : Int32, y = J35_l2 + 1 := ⟨_, rfl⟩
              refine lv_iinc (v := z49) (lv' := [(2, .int z49), (0, .ref a_this), (1, .ref a_arg0)]) hx hb dX10_isHere_55 hl (k := 2) rfl (by rw [ez49]; rfl) (Nat.le_of_ble_eq_true rfl) rfl (fun ls hl => ?_)
              have h50 := ib_add h35 (ib_c 1 1 1 rfl) rfl
              rw [← ez49] at h50
              have h51 : ib z49 1 1600 := ib_w 1 1600 h50.1 rfl
              have Ez49 := lf_add h50.2 (lf_rf J35_l2) (lf_lc 1 (1 : Int) rfl)
              refine lv_goto (tgt := 35) hx hb dX10_isHere_58 rfl ?_
              exact ih35 z49 J35_c0_2 H locs ls (ib_w 0 1600 h51 rfl) (ib_w 0 1599 hJ35_c0_2 rfl) (ib_w 1 1600 hK35_x_end rfl) (ib_w 0 0 hK35_x_bad rfl) (by have := hJ35_lin0; omega) (fun q9 => (by have e0n : J35_c0_2 = x_at := hJ35_nb q9; exact e0n)) (by rw [← hK35]; rw [lf_u Ez49]; exact hq) (by have := h50.2; have : (1 : Int32).toInt = 1 := rfl; omega) hP hD hS (lv_sub hl [1, 2, 0] rfl)
  have jn28 : ∀ (J28_c0_2 : Int32) (H : Heap) (locs : List Loc) (ls : Array Slot), ib J28_c0_2 0 1600 → (1 * x_at.toInt + (-1) * J28_c0_2.toInt ≤ 0) → (NB g_tape x_at x_end → J28_c0_2 = x_at) → (O = F_X10_isHere_r4_28 (Int32.toInt J28_c0_2)) → va_P (dC, dI) vwCl [(a_this, .inr (10, mfs rm x_taped J28_c0_2 x_end x_ended x_bad x_badPlace x_fault x_faultPlace x_namePlace x_awayTold x_away x_coded x_statements x_isCrossing x_textKind x_askSecond x_redMany x_isOpen x_lastGreen x_greenTo x_isCycleGreen x_stillGreen x_rowMany x_fitMany x_fitRules x_fitGreen x_undoable x_newest x_seeded x_qCoded x_qWaits x_qOpened x_qBase x_qPiled x_qAnswer x_qIsNew x_octets)), (wi_rm0_0_1600_0 rm cy g_tape), (wi_2_4_0 a_arg0 cy g_arg0)] H → va_D A [(a_this, .inr (10, mfs rm x_taped J28_c0_2 x_end x_ended x_bad x_badPlace x_fault x_faultPlace x_namePlace x_awayTold x_away x_coded x_statements x_isCrossing x_textKind x_askSecond x_redMany x_isOpen x_lastGreen x_greenTo x_isCycleGreen x_stillGreen x_rowMany x_fitMany x_fitRules x_fitGreen x_undoable x_newest x_seeded x_qCoded x_qWaits x_qOpened x_qBase x_qPiled x_qAnswer x_qIsNew x_octets)), (wi_rm0_0_1600_0 rm cy g_tape), (wi_2_4_0 a_arg0 cy g_arg0)] → va_S A s.heap H locs → lv_has ls 4 [(0, .ref a_this), (1, .ref a_arg0)] → W p l e { frames := 1, cells := 0, slots := 0, locals := 20 } s m args below meth c H locs 0 0 Q (F0 m 28 ls []) := by
    intro J28_c0_2 H locs ls hJ28_c0_2 hJ28_lin0 hJ28_nb hq hP hD hS hl
    unfold F_X10_isHere_r4_28 at hq
    refine lv_iconst (v := 0) hx hb dX10_isHere_28 rfl ?_
    subst hQ; exact k_iret hx hb hr hlk (k_nb 0 rfl) J28_c0_2 hS ⟨ib_w 0 1600 hJ28_c0_2 rfl, ib_w 0 1 (ib_c 0 0 0 rfl) rfl, fun hq9 => absurd rfl hq9, fun hq9 => absurd rfl hq9, fun hq9 => absurd rfl hq9, fun hq9 => absurd rfl hq9, (by have := hJ28_lin0; omega), fun q9 => (by have e0n : J28_c0_2 = x_at := hJ28_nb q9; exact e0n), (hO.symm.trans (by try simp only [show (0 : Int32).toInt = (0 : Int) from rfl]; exact hq))⟩ hP hD (Nat.le_of_ble_eq_true rfl) (Nat.le_of_ble_eq_true rfl) dX10_isHere_29
  refine lv_aload_n hx hb dX10_isHere_0 rfl (lv_at hl 0 rfl) ?_
  refine k_get C0 fg_X10_279 hP 0 rfl rfl dX10_isHere_1 ?_
  refine lv_if_ne (tgt := 28) hx hb dX10_isHere_4 rfl (fun c52 => ?_) (fun c52 => ?_)
  · replace hq := lf_neg hq (lf_ne (lf_rf x_bad) (lf_lc 0 (0 : Int) rfl) c52)
    exact jn28 x_at H locs ls (ib_w 0 1600 hx_at rfl) (by omega) (fun _ => rfl) (by exact hq) hP hD hS (lv_sub hl [0, 1] rfl)
  · as_aux_lemma =>
      replace hq := lf_pos hq (lf_eq (lf_rf x_bad) (lf_lc 0 (0 : Int) rfl) c52)
      have h53 := ib_eq (ib_any x_bad) (ib_c 0 0 0 rfl) c52
      have h54 : ib x_bad 0 0 := ib_w 0 0 h53.1 rfl
      refine lv_aload_n hx hb dX10_isHere_7 rfl (lv_at hl 0 rfl) ?_
      refine k_jim hP hD hS hA [0, 1] [false, false, true] rfl rfl rfl 0 0 (Nat.le_of_ble_eq_true rfl) (Nat.le_of_ble_eq_true rfl) (fun hPc hDc => k_runV (As := []) (rest := []) C0 hZ hS hA (s_X10_look l dC dI cy sq a_this rm x_taped x_at x_end x_ended x_bad x_badPlace x_fault x_faultPlace x_namePlace x_awayTold x_away x_coded x_statements x_isCrossing x_textKind x_askSecond x_redMany x_isOpen x_lastGreen x_greenTo x_isCycleGreen x_stillGreen x_rowMany x_fitMany x_fitRules x_fitGreen x_undoable x_newest x_seeded x_qCoded x_qWaits x_qOpened x_qBase x_qPiled x_qAnswer x_qIsNew x_octets g_tape (ib_w 0 1600 hx_at rfl) (ib_w 0 1600 hx_end rfl) hg_tape) mV_X10_291 hPc hDc rfl rfl rfl hl rfl rfl (Nat.le_of_ble_eq_true rfl) ⟨(Nat.le_of_ble_eq_true rfl), (Nat.le_of_ble_eq_true rfl)⟩ ⟨(Nat.le_of_ble_eq_true rfl), (Nat.le_of_ble_eq_true rfl)⟩ dX10_isHere_8) (fun r55 u56 H locs hw hP hD hS => ?_)
      obtain ⟨v57, ev57⟩ : ∃ z, z = u56 := ⟨_, rfl⟩; subst ev57
      try dsimp only at hP hD hw
      replace hP : va_P (dC, dI) vwCl [(wi_2_4_0 a_arg0 cy g_arg0), (a_this, .inr (10, mfs rm x_taped v57 x_end x_ended x_bad x_badPlace x_fault x_faultPlace x_namePlace x_awayTold x_away x_coded x_statements x_isCrossing x_textKind x_askSecond x_redMany x_isOpen x_lastGreen x_greenTo x_isCycleGreen x_stillGreen x_rowMany x_fitMany x_fitRules x_fitGreen x_undoable x_newest x_seeded x_qCoded x_qWaits x_qOpened x_qBase x_qPiled x_qAnswer x_qIsNew x_octets)), (wi_rm0_0_1600_0 rm cy g_tape)] H := hP
      replace hD := k_D hP hD
      obtain ⟨h58, h59, h60, h61, h62, h63, h64, h65, h66, h67⟩ := hw
      replace hq := lf_p1 hq h67
      refine k_jim hP hD hS hA [] [true, true, true] rfl rfl rfl 0 0 (Nat.le_of_ble_eq_true rfl) (Nat.le_of_ble_eq_true rfl) (fun hPc hDc => k_runS (As := [.int r55]) (rest := []) C0 hZ hS hA (s_X10_isLetter l dC dI cy sq r55 ) mS_X10_295 hPc hDc hl rfl rfl (Nat.le_of_ble_eq_true rfl) ⟨(Nat.le_of_ble_eq_true rfl), (Nat.le_of_ble_eq_true rfl)⟩ ⟨(Nat.le_of_ble_eq_true rfl), (Nat.le_of_ble_eq_true rfl)⟩ dX10_isHere_11) (fun r68 u69 H locs hw hP hD hS => ?_)
      try dsimp only at hP hD hw
      replace hP : va_P (dC, dI) vwCl [(wi_2_4_0 a_arg0 cy g_arg0), (a_this, .inr (10, mfs rm x_taped v57 x_end x_ended x_bad x_badPlace x_fault x_faultPlace x_namePlace x_awayTold x_away x_coded x_statements x_isCrossing x_textKind x_askSecond x_redMany x_isOpen x_lastGreen x_greenTo x_isCycleGreen x_stillGreen x_rowMany x_fitMany x_fitRules x_fitGreen x_undoable x_newest x_seeded x_qCoded x_qWaits x_qOpened x_qBase x_qPiled x_qAnswer x_qIsNew x_octets)), (wi_rm0_0_1600_0 rm cy g_tape)] H := hP
      replace hD := k_D hP hD
      obtain ⟨h70, h71, h72⟩ := hw
      replace hq := lf_b1 hq h72
      refine lv_if_eq (tgt := 28) hx hb dX10_isHere_14 rfl (fun c73 => ?_) (fun c73 => ?_)
      · replace hq := lf_pos hq (lf_eq (lf_rf r68) (lf_lc 0 (0 : Int) rfl) c73)
        have h74 := ib_eq h70 (ib_c 0 0 0 rfl) c73
        have h75 : ib r68 0 0 := ib_w 0 0 h74.1 rfl
        exact jn28 v57 H locs ls (ib_w 0 1600 h58 rfl) (by have := h63; omega) (fun q9 => (by have e0n : v57 = x_at := h65 q9; exact e0n)) (by exact hq) (hP.sub [1, 2, 0] rfl) (hD.sub [1, 2, 0] rfl rfl) hS (lv_sub hl [0, 1] rfl)
      · as_aux_lemma =>
          replace hq := lf_neg hq (lf_ne (lf_rf r68) (lf_lc 0 (0 : Int) rfl) c73)
          have h76 : ib r68 1 1 := ib_w 1 1 (ib_ne_lo 0 h70 rfl c73) rfl
          have h77 : ib r55 97 122 := ib_w 97 122 (ib_two h59 (h71 (ib_nz h76 rfl))) rfl
          have h78 : ib v57 0 1599 := ib_w 0 1599 (ib_two h58 (h60 (ib_nc (-1) h77 rfl))) rfl
          have h79 : ib x_at 0 1599 := ib_w 0 1599 (ib_two hx_at (h61 (ib_nc (-1) h77 rfl))) rfl
          have h80 : ib x_end 1 1600 := ib_w 1 1600 (ib_two hx_end (h62 (ib_nc (-1) h77 rfl))) rfl
          refine lv_aload_n hx hb dX10_isHere_17 rfl (lv_at hl 0 rfl) ?_
          refine k_get C0 fg_X10_285 hP 1 rfl rfl dX10_isHere_18 ?_
          refine lv_aload_n hx hb dX10_isHere_21 rfl (lv_at hl 0 rfl) ?_
          refine k_get C0 fg_X10_299 hP 1 rfl rfl dX10_isHere_22 ?_
          refine lv_icmp_ne (tgt := 30) hx hb dX10_isHere_25 rfl (fun c81 => ?_) (fun c81 => ?_)
          · replace hq := lf_neg hq (lf_ne (lf_rf v57) (lf_rf x_ended) c81)
            refine lv_aload_n hx hb dX10_isHere_30 rfl (lv_at hl 0 rfl) ?_
            refine k_get C0 fg_X10_285 hP 1 rfl rfl dX10_isHere_31 ?_
            refine lv_istore_n (lv' := [(2, .int v57), (0, .ref a_this), (1, .ref a_arg0)]) hx hb dX10_isHere_34 rfl hl (Nat.le_of_ble_eq_true rfl) rfl (fun ls hl => ?_)
            exact jn35 1602 v57 v57 H locs ls (ib_w 0 1600 h78 rfl) (ib_w 0 1599 h78 rfl) (ib_w 1 1600 h80 rfl) (ib_w 0 0 h54 rfl) (by have := h63; omega) (fun q9 => (by have e0n : v57 = x_at := h65 q9; exact e0n)) (by exact hq) (by have := h78; unfold ib at this; omega) (hP.sub [1, 2, 0] rfl) (hD.sub [1, 2, 0] rfl rfl) hS (lv_sub hl [1, 2, 0] rfl)
          · replace hq := lf_pos hq (lf_eq (lf_rf v57) (lf_rf x_ended) c81)
            have h82 := ib_eq h78 (ib_any x_ended) c81
            have h83 : ib x_ended 0 1599 := ib_w 0 1599 h82.2 rfl
            exact jn28 v57 H locs ls (ib_w 0 1600 h78 rfl) (by have := h63; omega) (fun q9 => (by have e0n : v57 = x_at := h65 q9; exact e0n)) (by exact hq) (hP.sub [1, 2, 0] rfl) (hD.sub [1, 2, 0] rfl rfl) hS (lv_sub hl [0, 1] rfl)
set_option maxHeartbeats 4000000 in
set_option maxRecDepth 100000 in
theorem s_X10_takes_r4 (l : Launch) (dC : Nat → ClassId) (dI : Nat → Nat → Nat) (cy : Nat → ClassId) (sq : Nat → Nat) (a_this : Nat) (rm : Nat → Nat) (x_taped : Int32) (x_at : Int32) (x_end : Int32) (x_ended : Int32) (x_bad : Int32) (x_badPlace : Int32) (x_fault : Int32) (x_faultPlace : Int32) (x_namePlace : Int32) (x_awayTold : Int32) (x_away : Int32) (x_coded : Int32) (x_statements : Int32) (x_isCrossing : Int32) (x_textKind : Int32) (x_askSecond : Int32) (x_redMany : Int32) (x_isOpen : Int32) (x_lastGreen : Int32) (x_greenTo : Int32) (x_isCycleGreen : Int32) (x_stillGreen : Int32) (x_rowMany : Int32) (x_fitMany : Int32) (x_fitRules : Int32) (x_fitGreen : Int32) (x_undoable : Int32) (x_newest : Int32) (x_seeded : Int64) (x_qCoded : Int32) (x_qWaits : Int32) (x_qOpened : Int32) (x_qBase : Int32) (x_qPiled : Int32) (x_qAnswer : Int64) (x_qIsNew : Int32) (x_octets : Int32) (g_tape : Nat → Int32) (a_arg0 : Nat) (g_arg0 : Nat → Int32) (hx_at : ib x_at 0 1600) (hx_end : ib x_end 0 1600) (hg_tape : ia g_tape 1600 0 255) : k_Met l yX10_takes cX10_takes 2 (some .boolean) { frames := 2, cells := 0, slots := 0, locals := 43 } dC dI cy sq [.ref a_this, .ref a_arg0] [(a_this, .inr (10, mfs rm x_taped x_at x_end x_ended x_bad x_badPlace x_fault x_faultPlace x_namePlace x_awayTold x_away x_coded x_statements x_isCrossing x_textKind x_askSecond x_redMany x_isOpen x_lastGreen x_greenTo x_isCycleGreen x_stillGreen x_rowMany x_fitMany x_fitRules x_fitGreen x_undoable x_newest x_seeded x_qCoded x_qWaits x_qOpened x_qBase x_qPiled x_qAnswer x_qIsNew x_octets)), (wi_rm0_0_1600_0 rm cy g_tape), (wi_2_4_0 a_arg0 cy g_arg0)] (k_Qi dC dI (fun (r : Int32) (u : Int32 × Int32) => match u with | (n0, n1) => ib n0 0 1600 ∧ ib r 0 1 ∧ (¬ r = 0 → ib n0 4 1600) ∧ (¬ r = 0 → ib n1 4 1600) ∧ (¬ r = 0 → ib x_at 0 1596) ∧ (¬ r = 0 → ib x_end 1 1600) ∧ (¬ r = 0 → ib x_bad 0 0) ∧ (1 * x_at.toInt + (-1) * n0.toInt ≤ 0) ∧ (¬ r = 0 → 1 * x_at.toInt + (-1) * n0.toInt ≤ (-4)) ∧ (F_X10_takes_r4 (Int32.toInt x_at) (Int32.toInt x_end) (Int32.toInt x_ended) (Int32.toInt x_bad) (lf_A g_tape) (lf_A g_arg0) = ((Int32.toInt r), (Int32.toInt n0), (Int32.toInt n1)))) (fun u : Int32 × Int32 => match u with | (n0, n1) => [(a_this, .inr (10, mfs rm x_taped n0 x_end n1 x_bad x_badPlace x_fault x_faultPlace x_namePlace x_awayTold x_away x_coded x_statements x_isCrossing x_textKind x_askSecond x_redMany x_isOpen x_lastGreen x_greenTo x_isCycleGreen x_stillGreen x_rowMany x_fitMany x_fitRules x_fitGreen x_undoable x_newest x_seeded x_qCoded x_qWaits x_qOpened x_qBase x_qPiled x_qAnswer x_qIsNew x_octets)), (wi_rm0_0_1600_0 rm cy g_tape), (wi_2_4_0 a_arg0 cy g_arg0)])) := by
  refine k_ofW2 (by decide +kernel) (Nat.le_of_ble_eq_true rfl) ?_
  intro p e s m below meth c A ls H locs args Q hQ C0 hZ hr hlk hin hP hD hA hS hl
  have C0 : k_cx p s m args c cX10_takes 2 RX10 dC dI cy sq := C0
  have hx := C0.1
  have hb := C0.2.1
  have hl : lv_has ls 2 [(0, .ref a_this), (1, .ref a_arg0)] := hl
  obtain ⟨O, hO⟩ : ∃ o, o = F_X10_takes_r4 (Int32.toInt x_at) (Int32.toInt x_end) (Int32.toInt x_ended) (Int32.toInt x_bad) (lf_A g_tape) (lf_A g_arg0) := ⟨_, rfl⟩
  have hq := hO
  unfold F_X10_takes_r4 at hq
  refine lv_aload_n hx hb dX10_takes_0 rfl (lv_at hl 0 rfl) ?_
  refine lv_aload_n hx hb dX10_takes_1 rfl (lv_at hl 1 rfl) ?_
  refine k_jim hP hD hS hA [0, 1, 2] [] rfl rfl rfl 0 0 (Nat.le_of_ble_eq_true rfl) (Nat.le_of_ble_eq_true rfl) (fun hPc hDc => k_runV (As := [.ref a_arg0]) (rest := []) C0 hZ hS hA (s_X10_isHere_r4 l dC dI cy sq a_this rm x_taped x_at x_end x_ended x_bad x_badPlace x_fault x_faultPlace x_namePlace x_awayTold x_away x_coded x_statements x_isCrossing x_textKind x_askSecond x_redMany x_isOpen x_lastGreen x_greenTo x_isCycleGreen x_stillGreen x_rowMany x_fitMany x_fitRules x_fitGreen x_undoable x_newest x_seeded x_qCoded x_qWaits x_qOpened x_qBase x_qPiled x_qAnswer x_qIsNew x_octets g_tape a_arg0 g_arg0 (ib_w 0 1600 hx_at rfl) (ib_w 0 1600 hx_end rfl) hg_tape) mV_X10_302 hPc hDc rfl rfl rfl hl rfl rfl (Nat.le_of_ble_eq_true rfl) ⟨(Nat.le_of_ble_eq_true rfl), (Nat.le_of_ble_eq_true rfl)⟩ ⟨(Nat.le_of_ble_eq_true rfl), (Nat.le_of_ble_eq_true rfl)⟩ dX10_takes_2) (fun r1 u2 H locs hw hP hD hS => ?_)
  obtain ⟨v3, ev3⟩ : ∃ z, z = u2 := ⟨_, rfl⟩; subst ev3
  try dsimp only at hP hD hw
  replace hP : va_P (dC, dI) vwCl [(a_this, .inr (10, mfs rm x_taped v3 x_end x_ended x_bad x_badPlace x_fault x_faultPlace x_namePlace x_awayTold x_away x_coded x_statements x_isCrossing x_textKind x_askSecond x_redMany x_isOpen x_lastGreen x_greenTo x_isCycleGreen x_stillGreen x_rowMany x_fitMany x_fitRules x_fitGreen x_undoable x_newest x_seeded x_qCoded x_qWaits x_qOpened x_qBase x_qPiled x_qAnswer x_qIsNew x_octets)), (wi_rm0_0_1600_0 rm cy g_tape), (wi_2_4_0 a_arg0 cy g_arg0)] H := hP
  replace hD := k_D hP hD
  obtain ⟨h4, h5, h6, h7, h8, h9, h10, h11, h12⟩ := hw
  replace hq := lf_p1 hq h12
  refine lv_if_ne (tgt := 10) hx hb dX10_takes_5 rfl (fun c13 => ?_) (fun c13 => ?_)
  · replace hq := lf_neg hq (lf_ne (lf_rf r1) (lf_lc 0 (0 : Int) rfl) c13)
    have h14 : ib r1 1 1 := ib_w 1 1 (ib_ne_lo 0 h5 rfl c13) rfl
    have h15 : ib v3 0 1596 := ib_w 0 1596 (ib_two h4 (h6 (ib_nz h14 rfl))) rfl
    have h16 : ib x_at 0 1596 := ib_w 0 1596 (ib_two hx_at (h7 (ib_nz h14 rfl))) rfl
    have h17 : ib x_end 1 1600 := ib_w 1 1600 (ib_two hx_end (h8 (ib_nz h14 rfl))) rfl
    have h18 : ib x_bad 0 0 := ib_w 0 0 (ib_two (ib_any x_bad) (h9 (ib_nz h14 rfl))) rfl
    refine lv_aload_n hx hb dX10_takes_10 rfl (lv_at hl 0 rfl) ?_
    refine lv_dup hx hb dX10_takes_11 rfl ?_
    refine k_get C0 fg_X10_285 hP 0 rfl rfl dX10_takes_12 ?_
    refine lv_aload_n hx hb dX10_takes_15 rfl (lv_at hl 1 rfl) ?_
    refine va_alen hx hb C0.2.2.2.2.2.1 hP 2 2 rfl rfl (v := 4) (show Int32.ofNat 4 = 4 by decide) dX10_takes_16 ?_
    refine lv_iadd hx hb dX10_takes_17 ?_
    refine lv_topi (fun z19 ez19 => ?_)
    have h20 := ib_add h15 (ib_c 4 4 4 rfl) rfl
    rw [← ez19] at h20
    have h21 : ib z19 4 1600 := ib_w 4 1600 h20.1 rfl
    have Ez19 := lf_add h20.2 (lf_rf v3) (lf_lc 4 (4 : Int) rfl)
    refine k_put C0 fp_X10_285 hP hD hS 0 rfl rfl rfl (Nat.le_of_ble_eq_true rfl) dX10_takes_18 (fun H locs hP hD hS => ?_)
    replace hP : va_P (dC, dI) vwCl [(a_this, .inr (10, mfs rm x_taped z19 x_end x_ended x_bad x_badPlace x_fault x_faultPlace x_namePlace x_awayTold x_away x_coded x_statements x_isCrossing x_textKind x_askSecond x_redMany x_isOpen x_lastGreen x_greenTo x_isCycleGreen x_stillGreen x_rowMany x_fitMany x_fitRules x_fitGreen x_undoable x_newest x_seeded x_qCoded x_qWaits x_qOpened x_qBase x_qPiled x_qAnswer x_qIsNew x_octets)), (wi_rm0_0_1600_0 rm cy g_tape), (wi_2_4_0 a_arg0 cy g_arg0)] H := hP
    replace hD := k_D hP hD
    refine lv_aload_n hx hb dX10_takes_21 rfl (lv_at hl 0 rfl) ?_
    refine lv_aload_n hx hb dX10_takes_22 rfl (lv_at hl 0 rfl) ?_
    refine k_get C0 fg_X10_285 hP 0 rfl rfl dX10_takes_23 ?_
    refine k_put C0 fp_X10_299 hP hD hS 0 rfl rfl rfl (Nat.le_of_ble_eq_true rfl) dX10_takes_26 (fun H locs hP hD hS => ?_)
    replace hP : va_P (dC, dI) vwCl [(a_this, .inr (10, mfs rm x_taped z19 x_end z19 x_bad x_badPlace x_fault x_faultPlace x_namePlace x_awayTold x_away x_coded x_statements x_isCrossing x_textKind x_askSecond x_redMany x_isOpen x_lastGreen x_greenTo x_isCycleGreen x_stillGreen x_rowMany x_fitMany x_fitRules x_fitGreen x_undoable x_newest x_seeded x_qCoded x_qWaits x_qOpened x_qBase x_qPiled x_qAnswer x_qIsNew x_octets)), (wi_rm0_0_1600_0 rm cy g_tape), (wi_2_4_0 a_arg0 cy g_arg0)] H := hP
    replace hD := k_D hP hD
    refine lv_iconst (v := 1) hx hb dX10_takes_29 rfl ?_
    subst hQ; exact k_iret hx hb hr hlk (k_nb 1 rfl) ((z19, z19)) hS ⟨ib_w 0 1600 h21 rfl, ib_w 0 1 (ib_c 1 1 1 rfl) rfl, fun _ => ib_w 4 1600 h21 rfl, fun _ => ib_w 4 1600 h21 rfl, fun _ => ib_w 0 1596 h16 rfl, fun _ => ib_w 1 1600 h17 rfl, fun _ => ib_w 0 0 h18 rfl, (by have := h20.2; have : (4 : Int32).toInt = 4 := rfl; have := h10; omega), fun _ => (by have := h20.2; have : (4 : Int32).toInt = 4 := rfl; have := h10; omega), (hO.symm.trans (by try simp only [show (1 : Int32).toInt = (1 : Int) from rfl]; rw [lf_u Ez19]; exact hq))⟩ hP hD (Nat.le_of_ble_eq_true rfl) (Nat.le_of_ble_eq_true rfl) dX10_takes_30
  · replace hq := lf_pos hq (lf_eq (lf_rf r1) (lf_lc 0 (0 : Int) rfl) c13)
    have h22 := ib_eq h5 (ib_c 0 0 0 rfl) c13
    have h23 : ib r1 0 0 := ib_w 0 0 h22.1 rfl
    refine lv_iconst (v := 0) hx hb dX10_takes_8 rfl ?_
    subst hQ; exact k_iret hx hb hr hlk (k_nb 0 rfl) ((v3, x_ended)) hS ⟨ib_w 0 1600 h4 rfl, ib_w 0 1 (ib_c 0 0 0 rfl) rfl, fun hq9 => absurd rfl hq9, fun hq9 => absurd rfl hq9, fun hq9 => absurd rfl hq9, fun hq9 => absurd rfl hq9, fun hq9 => absurd rfl hq9, (by have := h10; omega), fun hq9 => absurd rfl hq9, (hO.symm.trans (by try simp only [show (0 : Int32).toInt = (0 : Int) from rfl]; exact hq))⟩ hP hD (Nat.le_of_ble_eq_true rfl) (Nat.le_of_ble_eq_true rfl) dX10_takes_9
set_option maxHeartbeats 4000000 in
set_option maxRecDepth 100000 in
theorem s_X10_fail_a0_1_f_bad_0_0 (l : Launch) (dC : Nat → ClassId) (dI : Nat → Nat → Nat) (cy : Nat → ClassId) (sq : Nat → Nat) (a_this : Nat) (rm : Nat → Nat) (x_taped : Int32) (x_at : Int32) (x_end : Int32) (x_ended : Int32) (x_bad : Int32) (x_badPlace : Int32) (x_fault : Int32) (x_faultPlace : Int32) (x_namePlace : Int32) (x_awayTold : Int32) (x_away : Int32) (x_coded : Int32) (x_statements : Int32) (x_isCrossing : Int32) (x_textKind : Int32) (x_askSecond : Int32) (x_redMany : Int32) (x_isOpen : Int32) (x_lastGreen : Int32) (x_greenTo : Int32) (x_isCycleGreen : Int32) (x_stillGreen : Int32) (x_rowMany : Int32) (x_fitMany : Int32) (x_fitRules : Int32) (x_fitGreen : Int32) (x_undoable : Int32) (x_newest : Int32) (x_seeded : Int64) (x_qCoded : Int32) (x_qWaits : Int32) (x_qOpened : Int32) (x_qBase : Int32) (x_qPiled : Int32) (x_qAnswer : Int64) (x_qIsNew : Int32) (x_octets : Int32) (p1 : Int32) (hx_bad : ib x_bad 0 0) : k_Met l yX10_fail cX10_fail 3 none { frames := 0, cells := 0, slots := 0, locals := 0 } dC dI cy sq [.ref a_this, .int 1, .int p1] [(a_this, .inr (10, mfs rm x_taped x_at x_end x_ended x_bad x_badPlace x_fault x_faultPlace x_namePlace x_awayTold x_away x_coded x_statements x_isCrossing x_textKind x_askSecond x_redMany x_isOpen x_lastGreen x_greenTo x_isCycleGreen x_stillGreen x_rowMany x_fitMany x_fitRules x_fitGreen x_undoable x_newest x_seeded x_qCoded x_qWaits x_qOpened x_qBase x_qPiled x_qAnswer x_qIsNew x_octets))] (k_Qv dC dI (fun (_ : Unit) => True) (fun _ : Unit => [(a_this, .inr (10, mfs rm x_taped x_at x_end x_ended 1 p1 x_fault x_faultPlace x_namePlace x_awayTold x_away x_coded x_statements x_isCrossing x_textKind x_askSecond x_redMany x_isOpen x_lastGreen x_greenTo x_isCycleGreen x_stillGreen x_rowMany x_fitMany x_fitRules x_fitGreen x_undoable x_newest x_seeded x_qCoded x_qWaits x_qOpened x_qBase x_qPiled x_qAnswer x_qIsNew x_octets))])) := by
  refine k_ofW2 (by decide +kernel) (Nat.le_of_ble_eq_true rfl) ?_
  intro p e s m below meth c A ls H locs args Q hQ C0 hZ hr hlk hin hP hD hA hS hl
  have C0 : k_cx p s m args c cX10_fail 3 RX10 dC dI cy sq := C0
  have hx := C0.1
  have hb := C0.2.1
  have hl : lv_has ls 3 [(0, .ref a_this), (1, .int 1), (2, .int p1)] := hl
  refine lv_aload_n hx hb dX10_fail_0 rfl (lv_at hl 0 rfl) ?_
  refine k_get C0 fg_X10_279 hP 0 rfl rfl dX10_fail_1 ?_
  refine lv_if_eq (tgt := 8) hx hb dX10_fail_4 rfl (fun c1 => ?_) (fun c1 => ?_)
  · have h2 := ib_eq hx_bad (ib_c 0 0 0 rfl) c1
    refine lv_aload_n hx hb dX10_fail_8 rfl (lv_at hl 0 rfl) ?_
    refine lv_iload_n hx hb dX10_fail_9 rfl (lv_at hl 1 rfl) ?_
    refine k_put C0 fp_X10_279 hP hD hS 0 rfl rfl rfl (Nat.le_of_ble_eq_true rfl) dX10_fail_10 (fun H locs hP hD hS => ?_)
    replace hP : va_P (dC, dI) vwCl [(a_this, .inr (10, mfs rm x_taped x_at x_end x_ended 1 x_badPlace x_fault x_faultPlace x_namePlace x_awayTold x_away x_coded x_statements x_isCrossing x_textKind x_askSecond x_redMany x_isOpen x_lastGreen x_greenTo x_isCycleGreen x_stillGreen x_rowMany x_fitMany x_fitRules x_fitGreen x_undoable x_newest x_seeded x_qCoded x_qWaits x_qOpened x_qBase x_qPiled x_qAnswer x_qIsNew x_octets))] H := hP
    replace hD := k_D hP hD
    refine lv_aload_n hx hb dX10_fail_13 rfl (lv_at hl 0 rfl) ?_
    refine lv_iload_n hx hb dX10_fail_14 rfl (lv_at hl 2 rfl) ?_
    refine k_put C0 fp_X10_282 hP hD hS 0 rfl rfl rfl (Nat.le_of_ble_eq_true rfl) dX10_fail_15 (fun H locs hP hD hS => ?_)
    replace hP : va_P (dC, dI) vwCl [(a_this, .inr (10, mfs rm x_taped x_at x_end x_ended 1 p1 x_fault x_faultPlace x_namePlace x_awayTold x_away x_coded x_statements x_isCrossing x_textKind x_askSecond x_redMany x_isOpen x_lastGreen x_greenTo x_isCycleGreen x_stillGreen x_rowMany x_fitMany x_fitRules x_fitGreen x_undoable x_newest x_seeded x_qCoded x_qWaits x_qOpened x_qBase x_qPiled x_qAnswer x_qIsNew x_octets))] H := hP
    replace hD := k_D hP hD
    subst hQ; exact k_vret hx hb hr hlk () hS True.intro hP hD (Nat.le_of_ble_eq_true rfl) (Nat.le_of_ble_eq_true rfl) dX10_fail_18
  · exact absurd (ib_one hx_bad rfl) c1
set_option maxHeartbeats 4000000 in
set_option maxRecDepth 100000 in
theorem s_X10_asks_r5 (l : Launch) (dC : Nat → ClassId) (dI : Nat → Nat → Nat) (cy : Nat → ClassId) (sq : Nat → Nat) (a_this : Nat) (rm : Nat → Nat) (x_taped : Int32) (x_at : Int32) (x_end : Int32) (x_ended : Int32) (x_bad : Int32) (x_badPlace : Int32) (x_fault : Int32) (x_faultPlace : Int32) (x_namePlace : Int32) (x_awayTold : Int32) (x_away : Int32) (x_coded : Int32) (x_statements : Int32) (x_isCrossing : Int32) (x_textKind : Int32) (x_askSecond : Int32) (x_redMany : Int32) (x_isOpen : Int32) (x_lastGreen : Int32) (x_greenTo : Int32) (x_isCycleGreen : Int32) (x_stillGreen : Int32) (x_rowMany : Int32) (x_fitMany : Int32) (x_fitRules : Int32) (x_fitGreen : Int32) (x_undoable : Int32) (x_newest : Int32) (x_seeded : Int64) (x_qCoded : Int32) (x_qWaits : Int32) (x_qOpened : Int32) (x_qBase : Int32) (x_qPiled : Int32) (x_qAnswer : Int64) (x_qIsNew : Int32) (x_octets : Int32) (g_tape : Nat → Int32) (a_arg0 : Nat) (g_arg0 : Nat → Int32) (hx_at : ib x_at 0 1600) (hx_end : ib x_end 0 1600) (hg_tape : ia g_tape 1600 0 255) : k_Met l yX10_asks cX10_asks 2 none { frames := 3, cells := 0, slots := 0, locals := 64 } dC dI cy sq [.ref a_this, .ref a_arg0] [(a_this, .inr (10, mfs rm x_taped x_at x_end x_ended x_bad x_badPlace x_fault x_faultPlace x_namePlace x_awayTold x_away x_coded x_statements x_isCrossing x_textKind x_askSecond x_redMany x_isOpen x_lastGreen x_greenTo x_isCycleGreen x_stillGreen x_rowMany x_fitMany x_fitRules x_fitGreen x_undoable x_newest x_seeded x_qCoded x_qWaits x_qOpened x_qBase x_qPiled x_qAnswer x_qIsNew x_octets)), (wi_rm0_0_1600_0 rm cy g_tape), (wi_2_5_0 a_arg0 cy g_arg0)] (k_Qv dC dI (fun (u : Int32 × Int32 × Int32 × Int32) => match u with | (n0, n1, n2, n3) => ib n0 0 1600 ∧ (n2 = 0 → x_bad = 0) ∧ (1 * x_at.toInt + (-1) * n0.toInt ≤ 0) ∧ (n2 = 0 → 1 * x_at.toInt + (-1) * n0.toInt ≤ (-5)) ∧ (F_X10_asks_r5 (Int32.toInt x_at) (Int32.toInt x_end) (Int32.toInt x_ended) (Int32.toInt x_bad) (Int32.toInt x_badPlace) (lf_A g_tape) (lf_A g_arg0) = ((Int32.toInt n0), (Int32.toInt n1), (Int32.toInt n2), (Int32.toInt n3)))) (fun u : Int32 × Int32 × Int32 × Int32 => match u with | (n0, n1, n2, n3) => [(a_this, .inr (10, mfs rm x_taped n0 x_end n1 n2 n3 x_fault x_faultPlace x_namePlace x_awayTold x_away x_coded x_statements x_isCrossing x_textKind x_askSecond x_redMany x_isOpen x_lastGreen x_greenTo x_isCycleGreen x_stillGreen x_rowMany x_fitMany x_fitRules x_fitGreen x_undoable x_newest x_seeded x_qCoded x_qWaits x_qOpened x_qBase x_qPiled x_qAnswer x_qIsNew x_octets)), (wi_rm0_0_1600_0 rm cy g_tape), (wi_2_5_0 a_arg0 cy g_arg0)])) := by
  refine k_ofW2 (by decide +kernel) (Nat.le_of_ble_eq_true rfl) ?_
  intro p e s m below meth c A ls H locs args Q hQ C0 hZ hr hlk hin hP hD hA hS hl
  have C0 : k_cx p s m args c cX10_asks 2 RX10 dC dI cy sq := C0
  have hx := C0.1
  have hb := C0.2.1
  have hl : lv_has ls 2 [(0, .ref a_this), (1, .ref a_arg0)] := hl
  obtain ⟨O, hO⟩ : ∃ o, o = F_X10_asks_r5 (Int32.toInt x_at) (Int32.toInt x_end) (Int32.toInt x_ended) (Int32.toInt x_bad) (Int32.toInt x_badPlace) (lf_A g_tape) (lf_A g_arg0) := ⟨_, rfl⟩
  have hq := hO
  unfold F_X10_asks_r5 at hq
  refine lv_aload_n hx hb dX10_asks_0 rfl (lv_at hl 0 rfl) ?_
  refine k_get C0 fg_X10_279 hP 0 rfl rfl dX10_asks_1 ?_
  refine lv_if_ne (tgt := 24) hx hb dX10_asks_4 rfl (fun c1 => ?_) (fun c1 => ?_)
  · replace hq := lf_neg hq (lf_ne (lf_rf x_bad) (lf_lc 0 (0 : Int) rfl) c1)
    subst hQ; exact k_vret hx hb hr hlk ((x_at, x_ended, x_bad, x_badPlace)) hS ⟨ib_w 0 1600 hx_at rfl, fun q => q, (by omega), fun q => absurd q c1, (hO.symm.trans (by exact hq))⟩ hP hD (Nat.le_of_ble_eq_true rfl) (Nat.le_of_ble_eq_true rfl) dX10_asks_24
  · replace hq := lf_pos hq (lf_eq (lf_rf x_bad) (lf_lc 0 (0 : Int) rfl) c1)
    have h2 := ib_eq (ib_any x_bad) (ib_c 0 0 0 rfl) c1
    have h3 : ib x_bad 0 0 := ib_w 0 0 h2.1 rfl
    refine lv_aload_n hx hb dX10_asks_7 rfl (lv_at hl 0 rfl) ?_
    refine lv_aload_n hx hb dX10_asks_8 rfl (lv_at hl 1 rfl) ?_
    refine k_jim hP hD hS hA [0, 1, 2] [] rfl rfl rfl 0 0 (Nat.le_of_ble_eq_true rfl) (Nat.le_of_ble_eq_true rfl) (fun hPc hDc => k_runV (As := [.ref a_arg0]) (rest := []) C0 hZ hS hA (s_X10_takes_r5 l dC dI cy sq a_this rm x_taped x_at x_end x_ended x_bad x_badPlace x_fault x_faultPlace x_namePlace x_awayTold x_away x_coded x_statements x_isCrossing x_textKind x_askSecond x_redMany x_isOpen x_lastGreen x_greenTo x_isCycleGreen x_stillGreen x_rowMany x_fitMany x_fitRules x_fitGreen x_undoable x_newest x_seeded x_qCoded x_qWaits x_qOpened x_qBase x_qPiled x_qAnswer x_qIsNew x_octets g_tape a_arg0 g_arg0 (ib_w 0 1600 hx_at rfl) (ib_w 0 1600 hx_end rfl) hg_tape) mV_X10_305 hPc hDc rfl rfl rfl hl rfl rfl (Nat.le_of_ble_eq_true rfl) ⟨(Nat.le_of_ble_eq_true rfl), (Nat.le_of_ble_eq_true rfl)⟩ ⟨(Nat.le_of_ble_eq_true rfl), (Nat.le_of_ble_eq_true rfl)⟩ dX10_asks_9) (fun r4 u5 H locs hw hP hD hS => ?_)
    obtain ⟨v6, v7⟩ := u5
    try dsimp only at hP hD hw
    replace hP : va_P (dC, dI) vwCl [(a_this, .inr (10, mfs rm x_taped v6 x_end v7 x_bad x_badPlace x_fault x_faultPlace x_namePlace x_awayTold x_away x_coded x_statements x_isCrossing x_textKind x_askSecond x_redMany x_isOpen x_lastGreen x_greenTo x_isCycleGreen x_stillGreen x_rowMany x_fitMany x_fitRules x_fitGreen x_undoable x_newest x_seeded x_qCoded x_qWaits x_qOpened x_qBase x_qPiled x_qAnswer x_qIsNew x_octets)), (wi_rm0_0_1600_0 rm cy g_tape), (wi_2_5_0 a_arg0 cy g_arg0)] H := hP
    replace hD := k_D hP hD
    obtain ⟨h8, h9, h10, h11, h12, h13, h14, h15, h16, h17⟩ := hw
    replace hq := lf_p1 hq h17
    replace hq := lf_p1 hq rfl
    refine lv_if_ne (tgt := 24) hx hb dX10_asks_12 rfl (fun c18 => ?_) (fun c18 => ?_)
    · replace hq := lf_neg hq (lf_ne (lf_rf r4) (lf_lc 0 (0 : Int) rfl) c18)
      have h19 : ib r4 1 1 := ib_w 1 1 (ib_ne_lo 0 h9 rfl c18) rfl
      have h20 := h16 (ib_nz h19 rfl)
      have h21 : ib x_at 0 1595 := ⟨(hx_at).1, by have := (hx_at).2; have := h20; have := (h8).2; omega⟩
      have h22 : ib v6 5 1600 := ⟨by have := (h8).1; have := h20; have := (h21).1; omega, (h8).2⟩
      have h23 : ib v7 5 1600 := ib_w 5 1600 (ib_two (ib_any v7) (h11 (ib_nz h19 rfl))) rfl
      have h24 : ib x_end 1 1600 := ib_w 1 1600 (ib_two hx_end (h13 (ib_nz h19 rfl))) rfl
      subst hQ; exact k_vret hx hb hr hlk ((v6, v7, x_bad, x_badPlace)) hS ⟨ib_w 0 1600 h22 rfl, fun q => q, (by have := h20; omega), fun hq9 => (by have := h20; omega), (hO.symm.trans (by exact hq))⟩ hP hD (Nat.le_of_ble_eq_true rfl) (Nat.le_of_ble_eq_true rfl) dX10_asks_24
    · replace hq := lf_pos hq (lf_eq (lf_rf r4) (lf_lc 0 (0 : Int) rfl) c18)
      have h25 := ib_eq h9 (ib_c 0 0 0 rfl) c18
      have h26 : ib r4 0 0 := ib_w 0 0 h25.1 rfl
      refine lv_aload_n hx hb dX10_asks_15 rfl (lv_at hl 0 rfl) ?_
      refine lv_iconst (v := 1) hx hb dX10_asks_16 rfl ?_
      refine lv_aload_n hx hb dX10_asks_17 rfl (lv_at hl 0 rfl) ?_
      refine k_get C0 fg_X10_285 hP 0 rfl rfl dX10_asks_18 ?_
      refine k_jvm hP hD hS hA [0] [false, true, true] rfl rfl rfl 0 0 (Nat.le_of_ble_eq_true rfl) (Nat.le_of_ble_eq_true rfl) (fun hPc hDc => k_runV (As := [.int 1, .int v6]) (rest := []) C0 hZ hS hA (s_X10_fail_a0_1_f_bad_0_0 l dC dI cy sq a_this rm x_taped v6 x_end v7 x_bad x_badPlace x_fault x_faultPlace x_namePlace x_awayTold x_away x_coded x_statements x_isCrossing x_textKind x_askSecond x_redMany x_isOpen x_lastGreen x_greenTo x_isCycleGreen x_stillGreen x_rowMany x_fitMany x_fitRules x_fitGreen x_undoable x_newest x_seeded x_qCoded x_qWaits x_qOpened x_qBase x_qPiled x_qAnswer x_qIsNew x_octets v6 (ib_w 0 0 h3 rfl)) mV_X10_308 hPc hDc rfl rfl rfl hl rfl rfl (Nat.le_of_ble_eq_true rfl) ⟨(Nat.le_of_ble_eq_true rfl), (Nat.le_of_ble_eq_true rfl)⟩ ⟨(Nat.le_of_ble_eq_true rfl), (Nat.le_of_ble_eq_true rfl)⟩ dX10_asks_21) (fun u28 H locs hw hP hD hS => ?_)
      try dsimp only at hP hD hw
      replace hP : va_P (dC, dI) vwCl [(wi_rm0_0_1600_0 rm cy g_tape), (wi_2_5_0 a_arg0 cy g_arg0), (a_this, .inr (10, mfs rm x_taped v6 x_end v7 1 v6 x_fault x_faultPlace x_namePlace x_awayTold x_away x_coded x_statements x_isCrossing x_textKind x_askSecond x_redMany x_isOpen x_lastGreen x_greenTo x_isCycleGreen x_stillGreen x_rowMany x_fitMany x_fitRules x_fitGreen x_undoable x_newest x_seeded x_qCoded x_qWaits x_qOpened x_qBase x_qPiled x_qAnswer x_qIsNew x_octets))] H := hP
      replace hD := k_D hP hD
      subst hQ; exact k_vret hx hb hr hlk ((v6, v7, 1, v6)) hS ⟨ib_w 0 1600 h8 rfl, fun q => absurd q (by decide), (by have := h15; omega), fun q => absurd q (by decide), (hO.symm.trans (by try simp only [show (1 : Int32).toInt = (1 : Int) from rfl]; exact hq))⟩ (hP.sub [2, 0, 1] rfl) (hD.sub [2, 0, 1] rfl rfl) (Nat.le_of_ble_eq_true rfl) (Nat.le_of_ble_eq_true rfl) dX10_asks_24
