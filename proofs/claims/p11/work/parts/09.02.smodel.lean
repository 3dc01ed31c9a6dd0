set_option maxHeartbeats 4000000 in
set_option maxRecDepth 100000 in
theorem s_X10_qOpens (l : Launch) (dC : Nat → ClassId) (dI : Nat → Nat → Nat) (cy : Nat → ClassId) (sq : Nat → Nat) (a_this : Nat) (rm : Nat → Nat) (x_taped : Int32) (x_at : Int32) (x_end : Int32) (x_ended : Int32) (x_bad : Int32) (x_badPlace : Int32) (x_fault : Int32) (x_faultPlace : Int32) (x_namePlace : Int32) (x_awayTold : Int32) (x_away : Int32) (x_coded : Int32) (x_statements : Int32) (x_isCrossing : Int32) (x_textKind : Int32) (x_askSecond : Int32) (x_redMany : Int32) (x_isOpen : Int32) (x_lastGreen : Int32) (x_greenTo : Int32) (x_isCycleGreen : Int32) (x_stillGreen : Int32) (x_rowMany : Int32) (x_fitMany : Int32) (x_fitRules : Int32) (x_fitGreen : Int32) (x_undoable : Int32) (x_newest : Int32) (x_seeded : Int64) (x_qCoded : Int32) (x_qWaits : Int32) (x_qOpened : Int32) (x_qBase : Int32) (x_qPiled : Int32) (x_qAnswer : Int64) (x_qIsNew : Int32) (x_octets : Int32) (g_qWait : Nat → Int32) (p0 : Int32) (p1 : Int32) (hx_qWaits : ib x_qWaits 0 1699) : k_Met l yX10_qOpens cX10_qOpens 3 none { frames := 1, cells := 0, slots := 0, locals := 22 } dC dI cy sq [.ref a_this, .int p0, .int p1] [(a_this, .inr (10, mfs rm x_taped x_at x_end x_ended x_bad x_badPlace x_fault x_faultPlace x_namePlace x_awayTold x_away x_coded x_statements x_isCrossing x_textKind x_askSecond x_redMany x_isOpen x_lastGreen x_greenTo x_isCycleGreen x_stillGreen x_rowMany x_fitMany x_fitRules x_fitGreen x_undoable x_newest x_seeded x_qCoded x_qWaits x_qOpened x_qBase x_qPiled x_qAnswer x_qIsNew x_octets)), (wi_rm112_0_1700_0 rm cy g_qWait)] (k_Qv dC dI (fun (u : Int32 × Int32 × Int32 × Int32 × (Nat → Int32)) => match u with | (n0, n1, n2, n3, n4) => ib n2 0 1700 ∧ (n0 = 0 → x_bad = 0) ∧ (1 * n2.toInt + (-1) * x_qWaits.toInt ≤ 1) ∧ (1 * x_qWaits.toInt + (-1) * n2.toInt ≤ 0) ∧ (n0 = 0 → n4 = upd g_qWait (Int32.toNatClampNeg x_qWaits) p0 ∧ n2.toInt = x_qWaits.toInt + 1) ∧ (F_X10_qOpens (Int32.toInt x_bad) (Int32.toInt x_badPlace) (Int32.toInt x_qWaits) (Int32.toInt x_qOpened) (lf_A g_qWait) (Int32.toInt p0) (Int32.toInt p1) = ((Int32.toInt n0), (Int32.toInt n1), (Int32.toInt n2), (Int32.toInt n3), (lf_A n4)))) (fun u : Int32 × Int32 × Int32 × Int32 × (Nat → Int32) => match u with | (n0, n1, n2, n3, n4) => [(a_this, .inr (10, mfs rm x_taped x_at x_end x_ended n0 n1 x_fault x_faultPlace x_namePlace x_awayTold x_away x_coded x_statements x_isCrossing x_textKind x_askSecond x_redMany x_isOpen x_lastGreen x_greenTo x_isCycleGreen x_stillGreen x_rowMany x_fitMany x_fitRules x_fitGreen x_undoable x_newest x_seeded x_qCoded n2 n3 x_qBase x_qPiled x_qAnswer x_qIsNew x_octets)), (wi_rm112_0_1700_0 rm cy n4)])) := by
  refine k_ofW2 (by decide +kernel) (Nat.le_of_ble_eq_true rfl) ?_
  intro p e s m below meth c A ls H locs args Q hQ C0 hZ hr hlk hin hP hD hA hS hl
  have C0 : k_cx p s m args c cX10_qOpens 3 RX10 dC dI cy sq := C0
  have hx := C0.1
  have hb := C0.2.1
  have hl : lv_has ls 3 [(0, .ref a_this), (1, .int p0), (2, .int p1)] := hl
  obtain ⟨O, hO⟩ : ∃ o, o = F_X10_qOpens (Int32.toInt x_bad) (Int32.toInt x_badPlace) (Int32.toInt x_qWaits) (Int32.toInt x_qOpened) (lf_A g_qWait) (Int32.toInt p0) (Int32.toInt p1) := ⟨_, rfl⟩
  have hq := hO
  unfold F_X10_qOpens at hq
  refine lv_aload_n hx hb dX10_qOpens_0 rfl (lv_at hl 0 rfl) ?_
  refine k_get C0 fg_X10_279 hP 0 rfl rfl dX10_qOpens_1 ?_
  refine lv_if_eq (tgt := 8) hx hb dX10_qOpens_4 rfl (fun c1 => ?_) (fun c1 => ?_)
  · as_aux_lemma =>
      replace hq := lf_pos hq (lf_eq (lf_rf x_bad) (lf_lc 0 (0 : Int) rfl) c1)
      have h2 := ib_eq (ib_any x_bad) (ib_c 0 0 0 rfl) c1
      have h3 : ib x_bad 0 0 := ib_w 0 0 h2.1 rfl
      refine lv_aload_n hx hb dX10_qOpens_8 rfl (lv_at hl 0 rfl) ?_
      refine k_get C0 fg_X10_375 hP 0 rfl rfl dX10_qOpens_9 ?_
      refine lv_bipush (v := 6) hx hb dX10_qOpens_12 rfl ?_
      refine lv_icmp_ne (tgt := 24) hx hb dX10_qOpens_14 rfl (fun c4 => ?_) (fun c4 => ?_)
      · as_aux_lemma =>
          replace hq := lf_neg hq (lf_ne (lf_rf x_qOpened) (lf_lc 6 (6 : Int) rfl) c4)
          refine lv_aload_n hx hb dX10_qOpens_24 rfl (lv_at hl 0 rfl) ?_
          refine lv_dup hx hb dX10_qOpens_25 rfl ?_
          refine k_get C0 fg_X10_375 hP 0 rfl rfl dX10_qOpens_26 ?_
          refine lv_iconst (v := 1) hx hb dX10_qOpens_29 rfl ?_
          refine lv_iadd hx hb dX10_qOpens_30 ?_
          refine lv_topi (fun z5 ez5 => ?_)
          have Ez5 := lf_op lf_iadd ez5 (lf_rf x_qOpened) (lf_lc 1 (1 : Int) rfl)
          refine k_put C0 fp_X10_375 hP hD hS 0 rfl rfl rfl (Nat.le_of_ble_eq_true rfl) dX10_qOpens_31 (fun H locs hP hD hS => ?_)
          replace hP : va_P (dC, dI) vwCl [(a_this, .inr (10, mfs rm x_taped x_at x_end x_ended x_bad x_badPlace x_fault x_faultPlace x_namePlace x_awayTold x_away x_coded x_statements x_isCrossing x_textKind x_askSecond x_redMany x_isOpen x_lastGreen x_greenTo x_isCycleGreen x_stillGreen x_rowMany x_fitMany x_fitRules x_fitGreen x_undoable x_newest x_seeded x_qCoded x_qWaits z5 x_qBase x_qPiled x_qAnswer x_qIsNew x_octets)), (wi_rm112_0_1700_0 rm cy g_qWait)] H := hP
          replace hD := k_D hP hD
          refine lv_aload_n hx hb dX10_qOpens_34 rfl (lv_at hl 0 rfl) ?_
          refine k_get C0 fg_X10_267 hP 0 rfl rfl dX10_qOpens_35 ?_
          refine lv_aload_n hx hb dX10_qOpens_38 rfl (lv_at hl 0 rfl) ?_
          refine k_get C0 fg_X10_372 hP 0 rfl rfl dX10_qOpens_39 ?_
          refine lv_iload_n hx hb dX10_qOpens_42 rfl (lv_at hl 1 rfl) ?_
          refine va_iast hx hb C0.2.2.2.2.2.1 hP hD hS 1 0 rfl rfl (ib_in 1700 hx_qWaits rfl) dX10_qOpens_43 (fun H locs hP hD hS => ?_)
          replace hP : va_P (dC, dI) vwCl [(a_this, .inr (10, mfs rm x_taped x_at x_end x_ended x_bad x_badPlace x_fault x_faultPlace x_namePlace x_awayTold x_away x_coded x_statements x_isCrossing x_textKind x_askSecond x_redMany x_isOpen x_lastGreen x_greenTo x_isCycleGreen x_stillGreen x_rowMany x_fitMany x_fitRules x_fitGreen x_undoable x_newest x_seeded x_qCoded x_qWaits z5 x_qBase x_qPiled x_qAnswer x_qIsNew x_octets)), (wi_rm112_0_1700_0 rm cy (upd g_qWait (Int32.toNatClampNeg x_qWaits) p0))] H := hP
          replace hD := k_D hP hD
          generalize h7E : upd g_qWait (Int32.toNatClampNeg x_qWaits) p0 = f6 at hP hD
          have ef6 := h7E
          have Ef6 := lf_st ef6 (lf_ra g_qWait) (lf_rf x_qWaits) (lf_rf p0)
          refine lv_aload_n hx hb dX10_qOpens_44 rfl (lv_at hl 0 rfl) ?_
          refine lv_dup hx hb dX10_qOpens_45 rfl ?_
          refine k_get C0 fg_X10_372 hP 0 rfl rfl dX10_qOpens_46 ?_
          refine lv_iconst (v := 1) hx hb dX10_qOpens_49 rfl ?_
          refine lv_iadd hx hb dX10_qOpens_50 ?_
          refine lv_topi (fun z8 ez8 => ?_)
          have h9 := ib_add hx_qWaits (ib_c 1 1 1 rfl) rfl
          rw [← ez8] at h9
          have h10 : ib z8 1 1700 := ib_w 1 1700 h9.1 rfl
          have Ez8 := lf_add h9.2 (lf_rf x_qWaits) (lf_lc 1 (1 : Int) rfl)
          refine k_put C0 fp_X10_372 hP hD hS 0 rfl rfl rfl (Nat.le_of_ble_eq_true rfl) dX10_qOpens_51 (fun H locs hP hD hS => ?_)
          replace hP : va_P (dC, dI) vwCl [(a_this, .inr (10, mfs rm x_taped x_at x_end x_ended x_bad x_badPlace x_fault x_faultPlace x_namePlace x_awayTold x_away x_coded x_statements x_isCrossing x_textKind x_askSecond x_redMany x_isOpen x_lastGreen x_greenTo x_isCycleGreen x_stillGreen x_rowMany x_fitMany x_fitRules x_fitGreen x_undoable x_newest x_seeded x_qCoded z8 z5 x_qBase x_qPiled x_qAnswer x_qIsNew x_octets)), (wi_rm112_0_1700_0 rm cy f6)] H := hP
          replace hD := k_D hP hD
          subst hQ; exact k_vret hx hb hr hlk ((x_bad, x_badPlace, z8, z5, f6)) hS ⟨ib_w 0 1700 h10 rfl, fun q => q, (by have := h9.2; have : (1 : Int32).toInt = 1 := rfl; omega), (by have := h9.2; have : (1 : Int32).toInt = 1 := rfl; omega), fun _ => ⟨h7E.symm, by have := (hx_qWaits).1; have := (hx_qWaits).2; have := (h10).1; have := (h10).2; have := h9.2; have : (1 : Int32).toInt = 1 := rfl; omega⟩, (hO.symm.trans (by rw [lf_u Ez8]; rw [lf_u Ez5]; rw [lf_ua Ef6]; exact hq))⟩ hP hD (Nat.le_of_ble_eq_true rfl) (Nat.le_of_ble_eq_true rfl) dX10_qOpens_54
      · replace hq := lf_pos hq (lf_eq (lf_rf x_qOpened) (lf_lc 6 (6 : Int) rfl) c4)
        have h11 := ib_eq (ib_any x_qOpened) (ib_c 6 6 6 rfl) c4
        have h12 : ib x_qOpened 6 6 := ib_w 6 6 h11.1 rfl
        refine lv_aload_n hx hb dX10_qOpens_17 rfl (lv_at hl 0 rfl) ?_
        refine lv_iconst (v := 4) hx hb dX10_qOpens_18 rfl ?_
        refine lv_iload_n hx hb dX10_qOpens_19 rfl (lv_at hl 2 rfl) ?_
        refine k_jvm hP hD hS hA [0] [false, true] rfl rfl rfl 0 0 (Nat.le_of_ble_eq_true rfl) (Nat.le_of_ble_eq_true rfl) (fun hPc hDc => k_runV (As := [.int 4, .int p1]) (rest := []) C0 hZ hS hA (s_X10_fail_a0_4_f_bad_0_0 l dC dI cy sq a_this rm x_taped x_at x_end x_ended x_bad x_badPlace x_fault x_faultPlace x_namePlace x_awayTold x_away x_coded x_statements x_isCrossing x_textKind x_askSecond x_redMany x_isOpen x_lastGreen x_greenTo x_isCycleGreen x_stillGreen x_rowMany x_fitMany x_fitRules x_fitGreen x_undoable x_newest x_seeded x_qCoded x_qWaits x_qOpened x_qBase x_qPiled x_qAnswer x_qIsNew x_octets p1 (ib_w 0 0 h3 rfl)) mV_X10_308 hPc hDc rfl rfl rfl hl rfl rfl (Nat.le_of_ble_eq_true rfl) ⟨(Nat.le_of_ble_eq_true rfl), (Nat.le_of_ble_eq_true rfl)⟩ ⟨(Nat.le_of_ble_eq_true rfl), (Nat.le_of_ble_eq_true rfl)⟩ dX10_qOpens_20) (fun u14 H locs hw hP hD hS => ?_)
        try dsimp only at hP hD hw
        replace hP : va_P (dC, dI) vwCl [(wi_rm112_0_1700_0 rm cy g_qWait), (a_this, .inr (10, mfs rm x_taped x_at x_end x_ended 4 p1 x_fault x_faultPlace x_namePlace x_awayTold x_away x_coded x_statements x_isCrossing x_textKind x_askSecond x_redMany x_isOpen x_lastGreen x_greenTo x_isCycleGreen x_stillGreen x_rowMany x_fitMany x_fitRules x_fitGreen x_undoable x_newest x_seeded x_qCoded x_qWaits x_qOpened x_qBase x_qPiled x_qAnswer x_qIsNew x_octets))] H := hP
        replace hD := k_D hP hD
        subst hQ; exact k_vret hx hb hr hlk ((4, p1, x_qWaits, x_qOpened, g_qWait)) hS ⟨ib_w 0 1700 hx_qWaits rfl, fun q => absurd q (by decide), (by omega), (by omega), fun q => absurd q (by decide), (hO.symm.trans (by try simp only [show (4 : Int32).toInt = (4 : Int) from rfl]; exact hq))⟩ (hP.sub [1, 0] rfl) (hD.sub [1, 0] rfl rfl) (Nat.le_of_ble_eq_true rfl) (Nat.le_of_ble_eq_true rfl) dX10_qOpens_23
  · replace hq := lf_neg hq (lf_ne (lf_rf x_bad) (lf_lc 0 (0 : Int) rfl) c1)
    subst hQ; exact k_vret hx hb hr hlk ((x_bad, x_badPlace, x_qWaits, x_qOpened, g_qWait)) hS ⟨ib_w 0 1700 hx_qWaits rfl, fun q => q, (by omega), (by omega), fun q => absurd q c1, (hO.symm.trans (by exact hq))⟩ hP hD (Nat.le_of_ble_eq_true rfl) (Nat.le_of_ble_eq_true rfl) dX10_qOpens_7
set_option maxHeartbeats 4000000 in
set_option maxRecDepth 100000 in
theorem s_X10_qOpens_a0_20 (l : Launch) (dC : Nat → ClassId) (dI : Nat → Nat → Nat) (cy : Nat → ClassId) (sq : Nat → Nat) (a_this : Nat) (rm : Nat → Nat) (x_taped : Int32) (x_at : Int32) (x_end : Int32) (x_ended : Int32) (x_bad : Int32) (x_badPlace : Int32) (x_fault : Int32) (x_faultPlace : Int32) (x_namePlace : Int32) (x_awayTold : Int32) (x_away : Int32) (x_coded : Int32) (x_statements : Int32) (x_isCrossing : Int32) (x_textKind : Int32) (x_askSecond : Int32) (x_redMany : Int32) (x_isOpen : Int32) (x_lastGreen : Int32) (x_greenTo : Int32) (x_isCycleGreen : Int32) (x_stillGreen : Int32) (x_rowMany : Int32) (x_fitMany : Int32) (x_fitRules : Int32) (x_fitGreen : Int32) (x_undoable : Int32) (x_newest : Int32) (x_seeded : Int64) (x_qCoded : Int32) (x_qWaits : Int32) (x_qOpened : Int32) (x_qBase : Int32) (x_qPiled : Int32) (x_qAnswer : Int64) (x_qIsNew : Int32) (x_octets : Int32) (g_qWait : Nat → Int32) (p1 : Int32) (hx_qWaits : ib x_qWaits 0 1699) : k_Met l yX10_qOpens cX10_qOpens 3 none { frames := 1, cells := 0, slots := 0, locals := 22 } dC dI cy sq [.ref a_this, .int 20, .int p1] [(a_this, .inr (10, mfs rm x_taped x_at x_end x_ended x_bad x_badPlace x_fault x_faultPlace x_namePlace x_awayTold x_away x_coded x_statements x_isCrossing x_textKind x_askSecond x_redMany x_isOpen x_lastGreen x_greenTo x_isCycleGreen x_stillGreen x_rowMany x_fitMany x_fitRules x_fitGreen x_undoable x_newest x_seeded x_qCoded x_qWaits x_qOpened x_qBase x_qPiled x_qAnswer x_qIsNew x_octets)), (wi_rm112_0_1700_0 rm cy g_qWait)] (k_Qv dC dI (fun (u : Int32 × Int32 × Int32 × Int32 × (Nat → Int32)) => match u with | (n0, n1, n2, n3, n4) => ib n2 0 1700 ∧ (n0 = 0 → x_bad = 0) ∧ (1 * n2.toInt + (-1) * x_qWaits.toInt ≤ 1) ∧ (1 * x_qWaits.toInt + (-1) * n2.toInt ≤ 0) ∧ (n0 = 0 → n4 = upd g_qWait (Int32.toNatClampNeg x_qWaits) 20 ∧ n2.toInt = x_qWaits.toInt + 1) ∧ (F_X10_qOpens_a0_20 (Int32.toInt x_bad) (Int32.toInt x_badPlace) (Int32.toInt x_qWaits) (Int32.toInt x_qOpened) (lf_A g_qWait) (Int32.toInt p1) = ((Int32.toInt n0), (Int32.toInt n1), (Int32.toInt n2), (Int32.toInt n3), (lf_A n4)))) (fun u : Int32 × Int32 × Int32 × Int32 × (Nat → Int32) => match u with | (n0, n1, n2, n3, n4) => [(a_this, .inr (10, mfs rm x_taped x_at x_end x_ended n0 n1 x_fault x_faultPlace x_namePlace x_awayTold x_away x_coded x_statements x_isCrossing x_textKind x_askSecond x_redMany x_isOpen x_lastGreen x_greenTo x_isCycleGreen x_stillGreen x_rowMany x_fitMany x_fitRules x_fitGreen x_undoable x_newest x_seeded x_qCoded n2 n3 x_qBase x_qPiled x_qAnswer x_qIsNew x_octets)), (wi_rm112_0_1700_0 rm cy n4)])) := by
  refine k_ofW2 (by decide +kernel) (Nat.le_of_ble_eq_true rfl) ?_
  intro p e s m below meth c A ls H locs args Q hQ C0 hZ hr hlk hin hP hD hA hS hl
  have C0 : k_cx p s m args c cX10_qOpens 3 RX10 dC dI cy sq := C0
  have hx := C0.1
  have hb := C0.2.1
  have hl : lv_has ls 3 [(0, .ref a_this), (1, .int 20), (2, .int p1)] := hl
  obtain ⟨O, hO⟩ : ∃ o, o = F_X10_qOpens_a0_20 (Int32.toInt x_bad) (Int32.toInt x_badPlace) (Int32.toInt x_qWaits) (Int32.toInt x_qOpened) (lf_A g_qWait) (Int32.toInt p1) := ⟨_, rfl⟩
  have hq := hO
  unfold F_X10_qOpens_a0_20 at hq
  refine lv_aload_n hx hb dX10_qOpens_0 rfl (lv_at hl 0 rfl) ?_
  refine k_get C0 fg_X10_279 hP 0 rfl rfl dX10_qOpens_1 ?_
  refine lv_if_eq (tgt := 8) hx hb dX10_qOpens_4 rfl (fun c1 => ?_) (fun c1 => ?_)
  · as_aux_lemma =>
      replace hq := lf_pos hq (lf_eq (lf_rf x_bad) (lf_lc 0 (0 : Int) rfl) c1)
      have h2 := ib_eq (ib_any x_bad) (ib_c 0 0 0 rfl) c1
      have h3 : ib x_bad 0 0 := ib_w 0 0 h2.1 rfl
      refine lv_aload_n hx hb dX10_qOpens_8 rfl (lv_at hl 0 rfl) ?_
      refine k_get C0 fg_X10_375 hP 0 rfl rfl dX10_qOpens_9 ?_
      refine lv_bipush (v := 6) hx hb dX10_qOpens_12 rfl ?_
      refine lv_icmp_ne (tgt := 24) hx hb dX10_qOpens_14 rfl (fun c4 => ?_) (fun c4 => ?_)
      · as_aux_lemma =>
          replace hq := lf_neg hq (lf_ne (lf_rf x_qOpened) (lf_lc 6 (6 : Int) rfl) c4)
          refine lv_aload_n hx hb dX10_qOpens_24 rfl (lv_at hl 0 rfl) ?_
          refine lv_dup hx hb dX10_qOpens_25 rfl ?_
          refine k_get C0 fg_X10_375 hP 0 rfl rfl dX10_qOpens_26 ?_
          refine lv_iconst (v := 1) hx hb dX10_qOpens_29 rfl ?_
          refine lv_iadd hx hb dX10_qOpens_30 ?_
          refine lv_topi (fun z5 ez5 => ?_)
          have Ez5 := lf_op lf_iadd ez5 (lf_rf x_qOpened) (lf_lc 1 (1 : Int) rfl)
          refine k_put C0 fp_X10_375 hP hD hS 0 rfl rfl rfl (Nat.le_of_ble_eq_true rfl) dX10_qOpens_31 (fun H locs hP hD hS => ?_)
          replace hP : va_P (dC, dI) vwCl [(a_this, .inr (10, mfs rm x_taped x_at x_end x_ended x_bad x_badPlace x_fault x_faultPlace x_namePlace x_awayTold x_away x_coded x_statements x_isCrossing x_textKind x_askSecond x_redMany x_isOpen x_lastGreen x_greenTo x_isCycleGreen x_stillGreen x_rowMany x_fitMany x_fitRules x_fitGreen x_undoable x_newest x_seeded x_qCoded x_qWaits z5 x_qBase x_qPiled x_qAnswer x_qIsNew x_octets)), (wi_rm112_0_1700_0 rm cy g_qWait)] H := hP
          replace hD := k_D hP hD
          refine lv_aload_n hx hb dX10_qOpens_34 rfl (lv_at hl 0 rfl) ?_
          refine k_get C0 fg_X10_267 hP 0 rfl rfl dX10_qOpens_35 ?_
          refine lv_aload_n hx hb dX10_qOpens_38 rfl (lv_at hl 0 rfl) ?_
          refine k_get C0 fg_X10_372 hP 0 rfl rfl dX10_qOpens_39 ?_
          refine lv_iload_n hx hb dX10_qOpens_42 rfl (lv_at hl 1 rfl) ?_
          refine va_iast hx hb C0.2.2.2.2.2.1 hP hD hS 1 0 rfl rfl (ib_in 1700 hx_qWaits rfl) dX10_qOpens_43 (fun H locs hP hD hS => ?_)
          replace hP : va_P (dC, dI) vwCl [(a_this, .inr (10, mfs rm x_taped x_at x_end x_ended x_bad x_badPlace x_fault x_faultPlace x_namePlace x_awayTold x_away x_coded x_statements x_isCrossing x_textKind x_askSecond x_redMany x_isOpen x_lastGreen x_greenTo x_isCycleGreen x_stillGreen x_rowMany x_fitMany x_fitRules x_fitGreen x_undoable x_newest x_seeded x_qCoded x_qWaits z5 x_qBase x_qPiled x_qAnswer x_qIsNew x_octets)), (wi_rm112_0_1700_0 rm cy (upd g_qWait (Int32.toNatClampNeg x_qWaits) 20))] H := hP
          replace hD := k_D hP hD
          generalize h7E : upd g_qWait (Int32.toNatClampNeg x_qWaits) 20 = f6 at hP hD
          have ef6 := h7E
          have Ef6 := lf_st ef6 (lf_ra g_qWait) (lf_rf x_qWaits) (lf_lc 20 (20 : Int) rfl)
          refine lv_aload_n hx hb dX10_qOpens_44 rfl (lv_at hl 0 rfl) ?_
          refine lv_dup hx hb dX10_qOpens_45 rfl ?_
          refine k_get C0 fg_X10_372 hP 0 rfl rfl dX10_qOpens_46 ?_
          refine lv_iconst (v := 1) hx hb dX10_qOpens_49 rfl ?_
          refine lv_iadd hx hb dX10_qOpens_50 ?_
          refine lv_topi (fun z8 ez8 => ?_)
          have h9 := ib_add hx_qWaits (ib_c 1 1 1 rfl) rfl
          rw [← ez8] at h9
          have h10 : ib z8 1 1700 := ib_w 1 1700 h9.1 rfl
          have Ez8 := lf_add h9.2 (lf_rf x_qWaits) (lf_lc 1 (1 : Int) rfl)
          refine k_put C0 fp_X10_372 hP hD hS 0 rfl rfl rfl (Nat.le_of_ble_eq_true rfl) dX10_qOpens_51 (fun H locs hP hD hS => ?_)
          replace hP : va_P (dC, dI) vwCl [(a_this, .inr (10, mfs rm x_taped x_at x_end x_ended x_bad x_badPlace x_fault x_faultPlace x_namePlace x_awayTold x_away x_coded x_statements x_isCrossing x_textKind x_askSecond x_redMany x_isOpen x_lastGreen x_greenTo x_isCycleGreen x_stillGreen x_rowMany x_fitMany x_fitRules x_fitGreen x_undoable x_newest x_seeded x_qCoded z8 z5 x_qBase x_qPiled x_qAnswer x_qIsNew x_octets)), (wi_rm112_0_1700_0 rm cy f6)] H := hP
          replace hD := k_D hP hD
          subst hQ; exact k_vret hx hb hr hlk ((x_bad, x_badPlace, z8, z5, f6)) hS ⟨ib_w 0 1700 h10 rfl, fun q => q, (by have := h9.2; have : (1 : Int32).toInt = 1 := rfl; omega), (by have := h9.2; have : (1 : Int32).toInt = 1 := rfl; omega), fun _ => ⟨h7E.symm, by have := (hx_qWaits).1; have := (hx_qWaits).2; have := (h10).1; have := (h10).2; have := h9.2; have : (1 : Int32).toInt = 1 := rfl; omega⟩, (hO.symm.trans (by rw [lf_u Ez8]; rw [lf_u Ez5]; rw [lf_ua Ef6]; exact hq))⟩ hP hD (Nat.le_of_ble_eq_true rfl) (Nat.le_of_ble_eq_true rfl) dX10_qOpens_54
      · replace hq := lf_pos hq (lf_eq (lf_rf x_qOpened) (lf_lc 6 (6 : Int) rfl) c4)
        have h11 := ib_eq (ib_any x_qOpened) (ib_c 6 6 6 rfl) c4
        have h12 : ib x_qOpened 6 6 := ib_w 6 6 h11.1 rfl
        refine lv_aload_n hx hb dX10_qOpens_17 rfl (lv_at hl 0 rfl) ?_
        refine lv_iconst (v := 4) hx hb dX10_qOpens_18 rfl ?_
        refine lv_iload_n hx hb dX10_qOpens_19 rfl (lv_at hl 2 rfl) ?_
        refine k_jvm hP hD hS hA [0] [false, true] rfl rfl rfl 0 0 (Nat.le_of_ble_eq_true rfl) (Nat.le_of_ble_eq_true rfl) (fun hPc hDc => k_runV (As := [.int 4, .int p1]) (rest := []) C0 hZ hS hA (s_X10_fail_a0_4_f_bad_0_0 l dC dI cy sq a_this rm x_taped x_at x_end x_ended x_bad x_badPlace x_fault x_faultPlace x_namePlace x_awayTold x_away x_coded x_statements x_isCrossing x_textKind x_askSecond x_redMany x_isOpen x_lastGreen x_greenTo x_isCycleGreen x_stillGreen x_rowMany x_fitMany x_fitRules x_fitGreen x_undoable x_newest x_seeded x_qCoded x_qWaits x_qOpened x_qBase x_qPiled x_qAnswer x_qIsNew x_octets p1 (ib_w 0 0 h3 rfl)) mV_X10_308 hPc hDc rfl rfl rfl hl rfl rfl (Nat.le_of_ble_eq_true rfl) ⟨(Nat.le_of_ble_eq_true rfl), (Nat.le_of_ble_eq_true rfl)⟩ ⟨(Nat.le_of_ble_eq_true rfl), (Nat.le_of_ble_eq_true rfl)⟩ dX10_qOpens_20) (fun u14 H locs hw hP hD hS => ?_)
        try dsimp only at hP hD hw
        replace hP : va_P (dC, dI) vwCl [(wi_rm112_0_1700_0 rm cy g_qWait), (a_this, .inr (10, mfs rm x_taped x_at x_end x_ended 4 p1 x_fault x_faultPlace x_namePlace x_awayTold x_away x_coded x_statements x_isCrossing x_textKind x_askSecond x_redMany x_isOpen x_lastGreen x_greenTo x_isCycleGreen x_stillGreen x_rowMany x_fitMany x_fitRules x_fitGreen x_undoable x_newest x_seeded x_qCoded x_qWaits x_qOpened x_qBase x_qPiled x_qAnswer x_qIsNew x_octets))] H := hP
        replace hD := k_D hP hD
        subst hQ; exact k_vret hx hb hr hlk ((4, p1, x_qWaits, x_qOpened, g_qWait)) hS ⟨ib_w 0 1700 hx_qWaits rfl, fun q => absurd q (by decide), (by omega), (by omega), fun q => absurd q (by decide), (hO.symm.trans (by try simp only [show (4 : Int32).toInt = (4 : Int) from rfl]; exact hq))⟩ (hP.sub [1, 0] rfl) (hD.sub [1, 0] rfl rfl) (Nat.le_of_ble_eq_true rfl) (Nat.le_of_ble_eq_true rfl) dX10_qOpens_23
  · replace hq := lf_neg hq (lf_ne (lf_rf x_bad) (lf_lc 0 (0 : Int) rfl) c1)
    subst hQ; exact k_vret hx hb hr hlk ((x_bad, x_badPlace, x_qWaits, x_qOpened, g_qWait)) hS ⟨ib_w 0 1700 hx_qWaits rfl, fun q => q, (by omega), (by omega), fun q => absurd q c1, (hO.symm.trans (by exact hq))⟩ hP hD (Nat.le_of_ble_eq_true rfl) (Nat.le_of_ble_eq_true rfl) dX10_qOpens_7
set_option maxHeartbeats 4000000 in
set_option maxRecDepth 100000 in
theorem s_X10_qPartTold (l : Launch) (dC : Nat → ClassId) (dI : Nat → Nat → Nat) (cy : Nat → ClassId) (sq : Nat → Nat) (a_this : Nat) (rm : Nat → Nat) (x_taped : Int32) (x_at : Int32) (x_end : Int32) (x_ended : Int32) (x_bad : Int32) (x_badPlace : Int32) (x_fault : Int32) (x_faultPlace : Int32) (x_namePlace : Int32) (x_awayTold : Int32) (x_away : Int32) (x_coded : Int32) (x_statements : Int32) (x_isCrossing : Int32) (x_textKind : Int32) (x_askSecond : Int32) (x_redMany : Int32) (x_isOpen : Int32) (x_lastGreen : Int32) (x_greenTo : Int32) (x_isCycleGreen : Int32) (x_stillGreen : Int32) (x_rowMany : Int32) (x_fitMany : Int32) (x_fitRules : Int32) (x_fitGreen : Int32) (x_undoable : Int32) (x_newest : Int32) (x_seeded : Int64) (x_qCoded : Int32) (x_qWaits : Int32) (x_qOpened : Int32) (x_qBase : Int32) (x_qPiled : Int32) (x_qAnswer : Int64) (x_qIsNew : Int32) (x_octets : Int32) (g_tape : Nat → Int32) (g_minAsked : Nat → Int32) (g_maxAsked : Nat → Int32) (g_secondAsked : Nat → Int32) (g_dayAsked : Nat → Int32) (g_phaseAsked : Nat → Int32) (g_waitedAsked : Nat → Int32) (g_calmAsked : Nat → Int32) (g_paceAsked : Nat → Int32) (g_trustsAsked : Nat → Int32) (g_gapAsked : Nat → Int32) (g_redsAsked : Nat → Int32) (g_numberAsked : Nat → Int32) (g_wentAsked : Nat → Int32) (g_harmAsked : Nat → Int32) (g_kindofAsked : Nat → Int32) (g_qCodes : Nat → Int32) (g_qWait : Nat → Int32) (cc : Nat) (hx_at : ib x_at 0 1600) (hx_end : ib x_end 0 1600) (hx_bad : ib x_bad 0 0) (hx_qCoded : ib x_qCoded 0 1700) (hx_qWaits : ib x_qWaits 0 1700) (hx_qBase : ib x_qBase 0 1700) (hg_tape : ia g_tape 1600 0 255) (hL0 : 1 * x_qCoded.toInt + 1 * x_qWaits.toInt + (-1) * x_at.toInt ≤ 20) (hL1 : 1 * x_qBase.toInt + (-1) * x_qWaits.toInt ≤ 0) (hGS : x_bad = 0 → GS g_qCodes x_qCoded g_qWait x_qWaits x_qBase x_textKind cc) : k_Met l yX10_qPartTold cX10_qPartTold 6 none { frames := 5, cells := 0, slots := 0, locals := 106 } dC dI cy sq [.ref a_this] [(a_this, .inr (10, mfs rm x_taped x_at x_end x_ended x_bad x_badPlace x_fault x_faultPlace x_namePlace x_awayTold x_away x_coded x_statements x_isCrossing x_textKind x_askSecond x_redMany x_isOpen x_lastGreen x_greenTo x_isCycleGreen x_stillGreen x_rowMany x_fitMany x_fitRules x_fitGreen x_undoable x_newest x_seeded x_qCoded x_qWaits x_qOpened x_qBase x_qPiled x_qAnswer x_qIsNew x_octets)), (wi_rm0_0_1600_0 rm cy g_tape), (wi_rm97_2_6_0 rm cy g_secondAsked), (wi_rm98_2_3_0 rm cy g_dayAsked), (wi_rm99_2_5_0 rm cy g_phaseAsked), (wi_rm100_2_6_0 rm cy g_waitedAsked), (wi_rm101_2_4_0 rm cy g_calmAsked), (wi_rm102_2_4_0 rm cy g_paceAsked), (wi_rm103_2_6_0 rm cy g_trustsAsked), (wi_rm104_2_3_0 rm cy g_gapAsked), (wi_rm105_2_4_0 rm cy g_redsAsked), (wi_rm106_2_6_0 rm cy g_numberAsked), (wi_rm107_2_4_0 rm cy g_wentAsked), (wi_rm108_2_4_0 rm cy g_harmAsked), (wi_rm109_2_4_0 rm cy g_kindofAsked), (wi_rm95_2_3_0 rm cy g_minAsked), (wi_rm112_0_1700_0 rm cy g_qWait), (wi_rm96_2_3_0 rm cy g_maxAsked), (wi_rm110_0_1700_0 rm cy g_qCodes)] (k_Qv dC dI (fun (u : Int32 × Int32 × Int32 × Int32 × Int32 × Int32 × Int32 × (Nat → Int32) × (Nat → Int32)) => match u with | (n0, n1, n2, n3, n4, n5, n6, n7, n8) => ib n0 0 1600 ∧ ib n4 0 1700 ∧ ib n5 0 1700 ∧ (n2 = 0 → x_bad = 0) ∧ (1 * n4.toInt + 1 * n5.toInt + (-1) * n0.toInt + (-1) * x_qCoded.toInt + (-1) * x_qWaits.toInt + 1 * x_at.toInt ≤ 3) ∧ (n2 = 0 → 1 * n4.toInt + 1 * n5.toInt + (-1) * n0.toInt + (-1) * x_qCoded.toInt + (-1) * x_qWaits.toInt + 1 * x_at.toInt ≤ 0) ∧ (1 * x_at.toInt + (-1) * n0.toInt ≤ 0) ∧ (n2 = 0 → 1 * x_at.toInt + (-1) * n0.toInt ≤ (-1)) ∧ (1 * x_qBase.toInt + (-1) * n5.toInt ≤ 0) ∧ (n2 = 0 → GS n8 n4 n7 n5 x_qBase x_textKind (cc + 1)) ∧ (F_X10_qPartTold (Int32.toInt x_at) (Int32.toInt x_end) (Int32.toInt x_ended) (Int32.toInt x_bad) (Int32.toInt x_badPlace) (Int32.toInt x_textKind) (Int32.toInt x_qCoded) (Int32.toInt x_qWaits) (Int32.toInt x_qOpened) (Int32.toInt x_qBase) (lf_A g_tape) (lf_A g_minAsked) (lf_A g_maxAsked) (lf_A g_secondAsked) (lf_A g_dayAsked) (lf_A g_phaseAsked) (lf_A g_waitedAsked) (lf_A g_calmAsked) (lf_A g_paceAsked) (lf_A g_trustsAsked) (lf_A g_gapAsked) (lf_A g_redsAsked) (lf_A g_numberAsked) (lf_A g_wentAsked) (lf_A g_harmAsked) (lf_A g_kindofAsked) (lf_A g_qCodes) (lf_A g_qWait) = ((Int32.toInt n0), (Int32.toInt n1), (Int32.toInt n2), (Int32.toInt n3), (Int32.toInt n4), (Int32.toInt n5), (Int32.toInt n6), (lf_A n7), (lf_A n8)))) (fun u : Int32 × Int32 × Int32 × Int32 × Int32 × Int32 × Int32 × (Nat → Int32) × (Nat → Int32) => match u with | (n0, n1, n2, n3, n4, n5, n6, n7, n8) => [(a_this, .inr (10, mfs rm x_taped n0 x_end n1 n2 n3 x_fault x_faultPlace x_namePlace x_awayTold x_away x_coded x_statements x_isCrossing x_textKind x_askSecond x_redMany x_isOpen x_lastGreen x_greenTo x_isCycleGreen x_stillGreen x_rowMany x_fitMany x_fitRules x_fitGreen x_undoable x_newest x_seeded n4 n5 n6 x_qBase x_qPiled x_qAnswer x_qIsNew x_octets)), (wi_rm0_0_1600_0 rm cy g_tape), (wi_rm97_2_6_0 rm cy g_secondAsked), (wi_rm98_2_3_0 rm cy g_dayAsked), (wi_rm99_2_5_0 rm cy g_phaseAsked), (wi_rm100_2_6_0 rm cy g_waitedAsked), (wi_rm101_2_4_0 rm cy g_calmAsked), (wi_rm102_2_4_0 rm cy g_paceAsked), (wi_rm103_2_6_0 rm cy g_trustsAsked), (wi_rm104_2_3_0 rm cy g_gapAsked), (wi_rm105_2_4_0 rm cy g_redsAsked), (wi_rm106_2_6_0 rm cy g_numberAsked), (wi_rm107_2_4_0 rm cy g_wentAsked), (wi_rm108_2_4_0 rm cy g_harmAsked), (wi_rm109_2_4_0 rm cy g_kindofAsked), (wi_rm95_2_3_0 rm cy g_minAsked), (wi_rm112_0_1700_0 rm cy n7), (wi_rm96_2_3_0 rm cy g_maxAsked), (wi_rm110_0_1700_0 rm cy n8)])) := by
  refine k_ofW2 (by decide +kernel) (Nat.le_of_ble_eq_true rfl) ?_
  intro p e s m below meth c A ls H locs args Q hQ C0 hZ hr hlk hin hP hD hA hS hl
  have C0 : k_cx p s m args c cX10_qPartTold 6 RX10 dC dI cy sq := C0
  have hx := C0.1
  have hb := C0.2.1
  have hl : lv_has ls 6 [(0, .ref a_this)] := hl
  obtain ⟨O, hO⟩ : ∃ o, o = F_X10_qPartTold (Int32.toInt x_at) (Int32.toInt x_end) (Int32.toInt x_ended) (Int32.toInt x_bad) (Int32.toInt x_badPlace) (Int32.toInt x_textKind) (Int32.toInt x_qCoded) (Int32.toInt x_qWaits) (Int32.toInt x_qOpened) (Int32.toInt x_qBase) (lf_A g_tape) (lf_A g_minAsked) (lf_A g_maxAsked) (lf_A g_secondAsked) (lf_A g_dayAsked) (lf_A g_phaseAsked) (lf_A g_waitedAsked) (lf_A g_calmAsked) (lf_A g_paceAsked) (lf_A g_trustsAsked) (lf_A g_gapAsked) (lf_A g_redsAsked) (lf_A g_numberAsked) (lf_A g_wentAsked) (lf_A g_harmAsked) (lf_A g_kindofAsked) (lf_A g_qCodes) (lf_A g_qWait) := ⟨_, rfl⟩
  have hq := hO
  unfold F_X10_qPartTold at hq
  have jn2 : ∀ (n : Nat) (J2_c0_2 : Int32) (J2_c0_4 : Int32) (J2_c0_5 : Int32) (J2_c0_6 : Int32) (J2_c0_113 : Int32) (J2_c0_114 : Int32) (J2_a16 : Nat → Int32) (J2_l1 : Int32) (H : Heap) (locs : List Loc) (ls : Array Slot), ib x_qCoded 0 1621 → ib x_qBase 0 1621 → ib J2_c0_2 0 1600 → ib J2_c0_113 0 1621 → ib J2_l1 0 1 → (1 * x_qCoded.toInt + 1 * J2_c0_113.toInt + (-1) * J2_c0_2.toInt + (-1) * x_qCoded.toInt + (-1) * x_qWaits.toInt + 1 * x_at.toInt ≤ 1) → (1 * x_qBase.toInt + (-1) * J2_c0_113.toInt ≤ 0) → (1 * x_qCoded.toInt + 1 * J2_c0_113.toInt + (-1) * J2_c0_2.toInt ≤ 21) → (1 * x_at.toInt + (-1) * J2_c0_2.toInt ≤ 0) → (J2_c0_5 = 0 → x_bad = 0) → ((J2_c0_5 = 0 → GS g_qCodes x_qCoded J2_a16 J2_c0_113 x_qBase x_textKind cc) ∧ (J2_c0_5 = 0 → 1 * x_qCoded.toInt + 1 * J2_c0_113.toInt + (-1) * J2_c0_2.toInt + (-1) * x_qCoded.toInt + (-1) * x_qWaits.toInt + 1 * x_at.toInt ≤ 0)) → (O = F_X10_qPartTold_2 (Int32.toInt x_end) (Int32.toInt x_textKind) (Int32.toInt x_qCoded) (Int32.toInt x_qBase) (lf_A g_tape) (lf_A g_minAsked) (lf_A g_maxAsked) (lf_A g_secondAsked) (lf_A g_dayAsked) (lf_A g_phaseAsked) (lf_A g_waitedAsked) (lf_A g_calmAsked) (lf_A g_paceAsked) (lf_A g_trustsAsked) (lf_A g_gapAsked) (lf_A g_redsAsked) (lf_A g_numberAsked) (lf_A g_wentAsked) (lf_A g_harmAsked) (lf_A g_kindofAsked) (lf_A g_qCodes) n (Int32.toInt J2_c0_2) (Int32.toInt J2_c0_4) (Int32.toInt J2_c0_5) (Int32.toInt J2_c0_6) (Int32.toInt J2_c0_113) (Int32.toInt J2_c0_114) (lf_A J2_a16) (Int32.toInt J2_l1)) → 3202 ≤ 2 * J2_c0_2.toInt + stq J2_l1 J2_c0_5 + (n : Int) → va_P (dC, dI) vwCl [(a_this, .inr (10, mfs rm x_taped J2_c0_2 x_end J2_c0_4 J2_c0_5 J2_c0_6 x_fault x_faultPlace x_namePlace x_awayTold x_away x_coded x_statements x_isCrossing x_textKind x_askSecond x_redMany x_isOpen x_lastGreen x_greenTo x_isCycleGreen x_stillGreen x_rowMany x_fitMany x_fitRules x_fitGreen x_undoable x_newest x_seeded x_qCoded J2_c0_113 J2_c0_114 x_qBase x_qPiled x_qAnswer x_qIsNew x_octets)), (wi_rm0_0_1600_0 rm cy g_tape), (wi_rm97_2_6_0 rm cy g_secondAsked), (wi_rm98_2_3_0 rm cy g_dayAsked), (wi_rm99_2_5_0 rm cy g_phaseAsked), (wi_rm100_2_6_0 rm cy g_waitedAsked), (wi_rm101_2_4_0 rm cy g_calmAsked), (wi_rm102_2_4_0 rm cy g_paceAsked), (wi_rm103_2_6_0 rm cy g_trustsAsked), (wi_rm104_2_3_0 rm cy g_gapAsked), (wi_rm105_2_4_0 rm cy g_redsAsked), (wi_rm106_2_6_0 rm cy g_numberAsked), (wi_rm107_2_4_0 rm cy g_wentAsked), (wi_rm108_2_4_0 rm cy g_harmAsked), (wi_rm109_2_4_0 rm cy g_kindofAsked), (wi_rm95_2_3_0 rm cy g_minAsked), (wi_rm112_0_1700_0 rm cy J2_a16), (wi_rm96_2_3_0 rm cy g_maxAsked), (wi_rm110_0_1700_0 rm cy g_qCodes)] H → va_D A [(a_this, .inr (10, mfs rm x_taped J2_c0_2 x_end J2_c0_4 J2_c0_5 J2_c0_6 x_fault x_faultPlace x_namePlace x_awayTold x_away x_coded x_statements x_isCrossing x_textKind x_askSecond x_redMany x_isOpen x_lastGreen x_greenTo x_isCycleGreen x_stillGreen x_rowMany x_fitMany x_fitRules x_fitGreen x_undoable x_newest x_seeded x_qCoded J2_c0_113 J2_c0_114 x_qBase x_qPiled x_qAnswer x_qIsNew x_octets)), (wi_rm0_0_1600_0 rm cy g_tape), (wi_rm97_2_6_0 rm cy g_secondAsked), (wi_rm98_2_3_0 rm cy g_dayAsked), (wi_rm99_2_5_0 rm cy g_phaseAsked), (wi_rm100_2_6_0 rm cy g_waitedAsked), (wi_rm101_2_4_0 rm cy g_calmAsked), (wi_rm102_2_4_0 rm cy g_paceAsked), (wi_rm103_2_6_0 rm cy g_trustsAsked), (wi_rm104_2_3_0 rm cy g_gapAsked), (wi_rm105_2_4_0 rm cy g_redsAsked), (wi_rm106_2_6_0 rm cy g_numberAsked), (wi_rm107_2_4_0 rm cy g_wentAsked), (wi_rm108_2_4_0 rm cy g_harmAsked), (wi_rm109_2_4_0 rm cy g_kindofAsked), (wi_rm95_2_3_0 rm cy g_minAsked), (wi_rm112_0_1700_0 rm cy J2_a16), (wi_rm96_2_3_0 rm cy g_maxAsked), (wi_rm110_0_1700_0 rm cy g_qCodes)] → va_S A s.heap H locs → lv_has ls 6 [(0, .ref a_this), (1, .int J2_l1)] → W p l e { frames := 5, cells := 0, slots := 0, locals := 106 } s m args below meth c H locs 0 0 Q (F0 m 2 ls []) := by
    as_aux_lemma =>
      intro n
      induction n with
      | zero =>
        intro J2_c0_2 J2_c0_4 J2_c0_5 J2_c0_6 J2_c0_113 J2_c0_114 J2_a16 J2_l1 H locs ls hK2_x_qCoded hK2_x_qBase hJ2_c0_2 hJ2_c0_113 hJ2_l1 hJ2_lin0 hJ2_lin1 hJ2_lin2 hJ2_lin3 hJ2_zm hJ2_go hq hm
        exact absurd hm (by have q1 := (hJ2_c0_2).2; have q2 := (stq_le J2_l1 J2_c0_5).2; omega)
      | succ n ih =>
        intro J2_c0_2 J2_c0_4 J2_c0_5 J2_c0_6 J2_c0_113 J2_c0_114 J2_a16 J2_l1 H locs ls hK2_x_qCoded hK2_x_qBase hJ2_c0_2 hJ2_c0_113 hJ2_l1 hJ2_lin0 hJ2_lin1 hJ2_lin2 hJ2_lin3 hJ2_zm hJ2_go hq hm2 hP hD hS hl
        have ih2 := ih
        obtain ⟨K2, hK2⟩ : ∃ K, K = F_X10_qPartTold_2 (Int32.toInt x_end) (Int32.toInt x_textKind) (Int32.toInt x_qCoded) (Int32.toInt x_qBase) (lf_A g_tape) (lf_A g_minAsked) (lf_A g_maxAsked) (lf_A g_secondAsked) (lf_A g_dayAsked) (lf_A g_phaseAsked) (lf_A g_waitedAsked) (lf_A g_calmAsked) (lf_A g_paceAsked) (lf_A g_trustsAsked) (lf_A g_gapAsked) (lf_A g_redsAsked) (lf_A g_numberAsked) (lf_A g_wentAsked) (lf_A g_harmAsked) (lf_A g_kindofAsked) (lf_A g_qCodes) n := ⟨_, rfl⟩
        have hq : O = F_X10_qPartTold_2b (Int32.toInt x_end) (Int32.toInt x_textKind) (Int32.toInt x_qCoded) (Int32.toInt x_qBase) (lf_A g_tape) (lf_A g_minAsked) (lf_A g_maxAsked) (lf_A g_secondAsked) (lf_A g_dayAsked) (lf_A g_phaseAsked) (lf_A g_waitedAsked) (lf_A g_calmAsked) (lf_A g_paceAsked) (lf_A g_trustsAsked) (lf_A g_gapAsked) (lf_A g_redsAsked) (lf_A g_numberAsked) (lf_A g_wentAsked) (lf_A g_harmAsked) (lf_A g_kindofAsked) (lf_A g_qCodes) K2 (Int32.toInt J2_c0_2) (Int32.toInt J2_c0_4) (Int32.toInt J2_c0_5) (Int32.toInt J2_c0_6) (Int32.toInt J2_c0_113) (Int32.toInt J2_c0_114) (lf_A J2_a16) (Int32.toInt J2_l1) := by rw [hK2]; exact hq
        unfold F_X10_qPartTold_2b at hq
        refine lv_iload_n hx hb dX10_qPartTold_2 rfl (lv_at hl 1 rfl) ?_
        refine lv_if_eq (tgt := 186) hx hb dX10_qPartTold_3 rfl (fun c1 => ?_) (fun c1 => ?_)
        · as_aux_lemma =>
            replace hq := lf_pos hq (lf_eq (lf_rf J2_l1) (lf_lc 0 (0 : Int) rfl) c1)
            have h2 := ib_eq hJ2_l1 (ib_c 0 0 0 rfl) c1
            have h3 : ib J2_l1 0 0 := ib_w 0 0 h2.1 rfl
            have h4 : ib x_qCoded 0 1620 := ⟨(hK2_x_qCoded).1, by have := (hK2_x_qCoded).2; have := hL0; have := (hx_at).2; have := (hx_qWaits).1; omega⟩
            have h5 : ib x_qWaits 0 1620 := ⟨(hx_qWaits).1, by have := (hx_qWaits).2; have := hL0; have := (hx_at).2; have := (h4).1; omega⟩
            have h6 : ib x_qBase 0 1620 := ⟨(hK2_x_qBase).1, by have := (hK2_x_qBase).2; have := hL1; have := (h5).2; omega⟩
            refine lv_aload_n hx hb dX10_qPartTold_186 rfl (lv_at hl 0 rfl) ?_
            refine k_get C0 fg_X10_279 hP 0 rfl rfl dX10_qPartTold_187 ?_
            refine lv_if_eq (tgt := 194) hx hb dX10_qPartTold_190 rfl (fun c7 => ?_) (fun c7 => ?_)
            · as_aux_lemma =>
                replace hq := lf_pos hq (lf_eq (lf_rf J2_c0_5) (lf_lc 0 (0 : Int) rfl) c7)
                have h8 := ib_eq (ib_any J2_c0_5) (ib_c 0 0 0 rfl) c7
                have h9 : ib J2_c0_5 0 0 := ib_w 0 0 h8.1 rfl
                have h10 := hJ2_go.2 (ib_one h9 rfl)
                refine lv_aload_n hx hb dX10_qPartTold_194 rfl (lv_at hl 0 rfl) ?_
                refine lv_iconst (v := 0) hx hb dX10_qPartTold_195 rfl ?_
                refine lv_bipush (v := 12) hx hb dX10_qPartTold_196 rfl ?_
                refine k_jim hP hD hS hA [0, 1, 2, 3, 4, 5, 6, 7, 8, 9, 10, 11, 12, 13, 14] [false, false, false, false, false, false, false, false, false, false, false, false, false, false, false, true, true, true, true] rfl rfl (by decide +kernel) 0 0 (Nat.le_of_ble_eq_true rfl) (Nat.le_of_ble_eq_true rfl) (fun hPc hDc => k_runV (As := [.int 0, .int 12]) (rest := []) C0 hZ hS hA (s_X10_qWordOf_a0_0_a1_12 l dC dI cy sq a_this rm x_taped J2_c0_2 x_end J2_c0_4 J2_c0_5 J2_c0_6 x_fault x_faultPlace x_namePlace x_awayTold x_away x_coded x_statements x_isCrossing x_textKind x_askSecond x_redMany x_isOpen x_lastGreen x_greenTo x_isCycleGreen x_stillGreen x_rowMany x_fitMany x_fitRules x_fitGreen x_undoable x_newest x_seeded x_qCoded J2_c0_113 J2_c0_114 x_qBase x_qPiled x_qAnswer x_qIsNew x_octets g_tape g_secondAsked g_dayAsked g_phaseAsked g_waitedAsked g_calmAsked g_paceAsked g_trustsAsked g_gapAsked g_redsAsked g_numberAsked g_wentAsked g_harmAsked g_kindofAsked (ib_w 0 1600 hJ2_c0_2 rfl) (ib_w 0 1600 hx_end rfl) hg_tape) mV_X10_623 hPc hDc rfl rfl rfl hl rfl rfl (Nat.le_of_ble_eq_true rfl) ⟨(Nat.le_of_ble_eq_true rfl), (Nat.le_of_ble_eq_true rfl)⟩ ⟨(Nat.le_of_ble_eq_true rfl), (Nat.le_of_ble_eq_true rfl)⟩ dX10_qPartTold_198) (fun r11 u12 H locs hw hP hD hS => ?_)
                obtain ⟨v13, ev13⟩ : ∃ z, z = u12 := ⟨_, rfl⟩; subst ev13
                try dsimp only at hP hD hw
                replace hP : va_P (dC, dI) vwCl [(wi_rm95_2_3_0 rm cy g_minAsked), (wi_rm112_0_1700_0 rm cy J2_a16), (wi_rm96_2_3_0 rm cy g_maxAsked), (wi_rm110_0_1700_0 rm cy g_qCodes), (a_this, .inr (10, mfs rm x_taped v13 x_end J2_c0_4 J2_c0_5 J2_c0_6 x_fault x_faultPlace x_namePlace x_awayTold x_away x_coded x_statements x_isCrossing x_textKind x_askSecond x_redMany x_isOpen x_lastGreen x_greenTo x_isCycleGreen x_stillGreen x_rowMany x_fitMany x_fitRules x_fitGreen x_undoable x_newest x_seeded x_qCoded J2_c0_113 J2_c0_114 x_qBase x_qPiled x_qAnswer x_qIsNew x_octets)), (wi_rm0_0_1600_0 rm cy g_tape), (wi_rm97_2_6_0 rm cy g_secondAsked), (wi_rm98_2_3_0 rm cy g_dayAsked), (wi_rm99_2_5_0 rm cy g_phaseAsked), (wi_rm100_2_6_0 rm cy g_waitedAsked), (wi_rm101_2_4_0 rm cy g_calmAsked), (wi_rm102_2_4_0 rm cy g_paceAsked), (wi_rm103_2_6_0 rm cy g_trustsAsked), (wi_rm104_2_3_0 rm cy g_gapAsked), (wi_rm105_2_4_0 rm cy g_redsAsked), (wi_rm106_2_6_0 rm cy g_numberAsked), (wi_rm107_2_4_0 rm cy g_wentAsked), (wi_rm108_2_4_0 rm cy g_harmAsked), (wi_rm109_2_4_0 rm cy g_kindofAsked)] H := hP
                replace hD := k_D hP hD
                obtain ⟨h14, h15, h16, h17, h18, h19, h20⟩ := hw
                replace hq := lf_p1 hq h20
                refine lv_istore_n (lv' := [(2, .int r11), (0, .ref a_this), (1, .int J2_l1)]) hx hb dX10_qPartTold_201 rfl hl (Nat.le_of_ble_eq_true rfl) rfl (fun ls hl => ?_)
                refine lv_iload_n hx hb dX10_qPartTold_202 rfl (lv_at hl 0 rfl) ?_
                refine lv_iconst (v := (-1)) hx hb dX10_qPartTold_203 rfl ?_
                refine lv_icmp_eq (tgt := 212) hx hb dX10_qPartTold_204 rfl (fun c21 => ?_) (fun c21 => ?_)
                · as_aux_lemma =>
                    replace hq := lf_pos hq (lf_eq (lf_rf r11) (lf_lc (-1) (-1 : Int) rfl) c21)
                    have h22 := ib_eq h15 (ib_c (-1) (-1) (-1) rfl) c21
                    have h23 : ib r11 (-1) (-1) := ib_w (-1) (-1) h22.1 rfl
                    refine lv_aload_n hx hb dX10_qPartTold_212 rfl (lv_at hl 1 rfl) ?_
                    refine lv_iload_n hx hb dX10_qPartTold_213 rfl (lv_at hl 0 rfl) ?_
                    refine lv_iconst (v := (-1)) hx hb dX10_qPartTold_214 rfl ?_
                    refine lv_icmp_eq (tgt := 225) hx hb dX10_qPartTold_215 rfl (fun c24 => ?_) (fun c24 => ?_)
                    · as_aux_lemma =>
                        skip
                        have h25 := ib_eq h23 (ib_c (-1) (-1) (-1) rfl) c24
                        refine lv_sipush (v := 1000) hx hb dX10_qPartTold_225 rfl ?_
                        refine lv_aload_n hx hb dX10_qPartTold_228 rfl (lv_at hl 1 rfl) ?_
                        refine lv_iconst (v := 0) hx hb dX10_qPartTold_229 rfl ?_
                        refine lv_sipush (v := 9999) hx hb dX10_qPartTold_230 rfl ?_
                        refine k_jim hP hD hS hA [4, 5] [true, true, true, true, false, false, true, true, true, true, true, true, true, true, true, true, true, true, true] rfl rfl (by decide +kernel) 0 0 (Nat.le_of_ble_eq_true rfl) (Nat.le_of_ble_eq_true rfl) (fun hPc hDc => k_runV (As := [.int 0, .int 9999]) (rest := [.int 1000, .ref a_this]) C0 hZ hS hA (s_X10_number_a0_0_a1_9999 l dC dI cy sq a_this rm x_taped v13 x_end J2_c0_4 J2_c0_5 J2_c0_6 x_fault x_faultPlace x_namePlace x_awayTold x_away x_coded x_statements x_isCrossing x_textKind x_askSecond x_redMany x_isOpen x_lastGreen x_greenTo x_isCycleGreen x_stillGreen x_rowMany x_fitMany x_fitRules x_fitGreen x_undoable x_newest x_seeded x_qCoded J2_c0_113 J2_c0_114 x_qBase x_qPiled x_qAnswer x_qIsNew x_octets g_tape (ib_w 0 1600 h14 rfl) (ib_w 0 1600 hx_end rfl) hg_tape) mV_X10_354 hPc hDc rfl rfl rfl hl rfl rfl (Nat.le_of_ble_eq_true rfl) ⟨(Nat.le_of_ble_eq_true rfl), (Nat.le_of_ble_eq_true rfl)⟩ ⟨(Nat.le_of_ble_eq_true rfl), (Nat.le_of_ble_eq_true rfl)⟩ dX10_qPartTold_233) (fun r26 u27 H locs hw hP hD hS => ?_)
                        obtain ⟨v28, v29, v30, v31⟩ := u27
                        try dsimp only at hP hD hw
                        replace hP : va_P (dC, dI) vwCl [(wi_rm95_2_3_0 rm cy g_minAsked), (wi_rm112_0_1700_0 rm cy J2_a16), (wi_rm96_2_3_0 rm cy g_maxAsked), (wi_rm110_0_1700_0 rm cy g_qCodes), (wi_rm97_2_6_0 rm cy g_secondAsked), (wi_rm98_2_3_0 rm cy g_dayAsked), (wi_rm99_2_5_0 rm cy g_phaseAsked), (wi_rm100_2_6_0 rm cy g_waitedAsked), (wi_rm101_2_4_0 rm cy g_calmAsked), (wi_rm102_2_4_0 rm cy g_paceAsked), (wi_rm103_2_6_0 rm cy g_trustsAsked), (wi_rm104_2_3_0 rm cy g_gapAsked), (wi_rm105_2_4_0 rm cy g_redsAsked), (wi_rm106_2_6_0 rm cy g_numberAsked), (wi_rm107_2_4_0 rm cy g_wentAsked), (wi_rm108_2_4_0 rm cy g_harmAsked), (wi_rm109_2_4_0 rm cy g_kindofAsked), (a_this, .inr (10, mfs rm x_taped v28 x_end v29 v30 v31 x_fault x_faultPlace x_namePlace x_awayTold x_away x_coded x_statements x_isCrossing x_textKind x_askSecond x_redMany x_isOpen x_lastGreen x_greenTo x_isCycleGreen x_stillGreen x_rowMany x_fitMany x_fitRules x_fitGreen x_undoable x_newest x_seeded x_qCoded J2_c0_113 J2_c0_114 x_qBase x_qPiled x_qAnswer x_qIsNew x_octets)), (wi_rm0_0_1600_0 rm cy g_tape)] H := hP
                        replace hD := k_D hP hD
                        obtain ⟨h32, h33, h34, h35, h36, h37⟩ := hw
                        replace hq := lf_p1 hq h37
                        replace hq := lf_p1 hq rfl
                        replace hq := lf_p1 hq rfl
                        replace hq := lf_p1 hq rfl
                        refine lv_iadd hx hb dX10_qPartTold_236 ?_
                        refine lv_topi (fun z38 ez38 => ?_)
                        have Ez38 := lf_op lf_iadd ez38 (lf_lc 1000 (1000 : Int) rfl) (lf_rf r26)
                        refine k_jvm hP hD hS hA [17, 3] [true, true, true, false, true, true, true, true, true, true, true, true, true, true, true, true, true, false, true] rfl rfl (by decide +kernel) 0 0 (Nat.le_of_ble_eq_true rfl) (Nat.le_of_ble_eq_true rfl) (fun hPc hDc => k_runV (As := [.int z38]) (rest := []) C0 hZ hS hA (s_X10_qCode l dC dI cy sq a_this rm x_taped v28 x_end v29 v30 v31 x_fault x_faultPlace x_namePlace x_awayTold x_away x_coded x_statements x_isCrossing x_textKind x_askSecond x_redMany x_isOpen x_lastGreen x_greenTo x_isCycleGreen x_stillGreen x_rowMany x_fitMany x_fitRules x_fitGreen x_undoable x_newest x_seeded x_qCoded J2_c0_113 J2_c0_114 x_qBase x_qPiled x_qAnswer x_qIsNew x_octets g_qCodes z38 (ib_w 0 1699 h4 rfl)) mV_X10_608 hPc hDc rfl rfl rfl hl rfl rfl (Nat.le_of_ble_eq_true rfl) ⟨(Nat.le_of_ble_eq_true rfl), (Nat.le_of_ble_eq_true rfl)⟩ ⟨(Nat.le_of_ble_eq_true rfl), (Nat.le_of_ble_eq_true rfl)⟩ dX10_qPartTold_237) (fun u40 H locs hw hP hD hS => ?_)
                        obtain ⟨v41, f42⟩ := u40
                        try dsimp only at hP hD hw
                        replace hP : va_P (dC, dI) vwCl [(wi_rm95_2_3_0 rm cy g_minAsked), (wi_rm112_0_1700_0 rm cy J2_a16), (wi_rm96_2_3_0 rm cy g_maxAsked), (wi_rm97_2_6_0 rm cy g_secondAsked), (wi_rm98_2_3_0 rm cy g_dayAsked), (wi_rm99_2_5_0 rm cy g_phaseAsked), (wi_rm100_2_6_0 rm cy g_waitedAsked), (wi_rm101_2_4_0 rm cy g_calmAsked), (wi_rm102_2_4_0 rm cy g_paceAsked), (wi_rm103_2_6_0 rm cy g_trustsAsked), (wi_rm104_2_3_0 rm cy g_gapAsked), (wi_rm105_2_4_0 rm cy g_redsAsked), (wi_rm106_2_6_0 rm cy g_numberAsked), (wi_rm107_2_4_0 rm cy g_wentAsked), (wi_rm108_2_4_0 rm cy g_harmAsked), (wi_rm109_2_4_0 rm cy g_kindofAsked), (wi_rm0_0_1600_0 rm cy g_tape), (a_this, .inr (10, mfs rm x_taped v28 x_end v29 v30 v31 x_fault x_faultPlace x_namePlace x_awayTold x_away x_coded x_statements x_isCrossing x_textKind x_askSecond x_redMany x_isOpen x_lastGreen x_greenTo x_isCycleGreen x_stillGreen x_rowMany x_fitMany x_fitRules x_fitGreen x_undoable x_newest x_seeded v41 J2_c0_113 J2_c0_114 x_qBase x_qPiled x_qAnswer x_qIsNew x_octets)), (wi_rm110_0_1700_0 rm cy f42)] H := hP
                        replace hD := k_D hP hD
                        obtain ⟨h43, h44, h45, h46⟩ := hw
                        have h47 : v41.toInt = (x_qCoded : Int32).toInt + (1 : Int32).toInt := by have q1 := h44; have q2 : (1 : Int32).toInt = 1 := rfl; omega
                        have h48 : ib v41 1 1621 := ⟨by have q1 := h44; have := (h4).1; have := (h43).1; omega, by have q1 := h44; have := (h4).2; have := (h43).2; omega⟩
                        have h46 := by have h9 := h46; rw [lf_u Ez38] at h9; exact h9
                        replace hq := lf_p1 hq h46
                        have h49 : v30 = 0 → GS f42 v41 J2_a16 J2_c0_113 x_qBase x_textKind (cc + 1) := fun q => (by rw [h45]; exact GS_code (hJ2_go.1 (h33 q)) (by have := (h4).1; have := (h4).2; have := hL0; have := hJ2_lin0; have := hJ2_lin2; have := h10; have := (hx_at).1; have := (hx_at).2; have := hJ2_lin3; have := (h5).1; have := (h5).2; have := hL1; have := (hJ2_c0_2).1; have := (hJ2_c0_2).2; have := h16; have := (h14).1; have := (h14).2; have := h35; have := (h32).1; have := (h32).2; have := (hJ2_c0_113).1; have := (hJ2_c0_113).2; have := hJ2_lin1; have := (h6).1; have := (h6).2; have := (h48).1; have := (h48).2; have := h47; have : (1 : Int32).toInt = 1 := rfl; omega) (Or.inr (Or.inl (add_1000 ez38 (h34 q)))) (fun _ => ne47 (by have := add_1000 ez38 (h34 q); omega)))
                        refine lv_aload_n hx hb dX10_qPartTold_240 rfl (lv_at hl 1 rfl) ?_
                        refine k_jvm hP hD hS hA [17, 1, 18] [true, false, true, true, true, true, true, true, true, true, true, true, true, true, true, true, true] rfl rfl (by decide +kernel) 0 0 (Nat.le_of_ble_eq_true rfl) (Nat.le_of_ble_eq_true rfl) (fun hPc hDc => k_runV (As := []) (rest := []) C0 hZ hS hA (s_X10_qEndsPart l dC dI cy sq a_this rm x_taped v28 x_end v29 v30 v31 x_fault x_faultPlace x_namePlace x_awayTold x_away x_coded x_statements x_isCrossing x_textKind x_askSecond x_redMany x_isOpen x_lastGreen x_greenTo x_isCycleGreen x_stillGreen x_rowMany x_fitMany x_fitRules x_fitGreen x_undoable x_newest x_seeded v41 J2_c0_113 J2_c0_114 x_qBase x_qPiled x_qAnswer x_qIsNew x_octets f42 J2_a16 cc (ib_w 0 1700 h48 rfl) (ib_w 0 1700 hJ2_c0_113 rfl) (ib_w 0 1700 h6 rfl) (by have := (hJ2_c0_113).2; have := hJ2_lin2; have := (hJ2_c0_2).2; have := (h48).2; have := h47; have : (1 : Int32).toInt = 1 := rfl; omega) (by have := hJ2_lin1; omega) (fun q => (h49 q))) mV_X10_632 hPc hDc rfl rfl rfl hl rfl rfl (Nat.le_of_ble_eq_true rfl) ⟨(Nat.le_of_ble_eq_true rfl), (Nat.le_of_ble_eq_true rfl)⟩ ⟨(Nat.le_of_ble_eq_true rfl), (Nat.le_of_ble_eq_true rfl)⟩ dX10_qPartTold_241) (fun u51 H locs hw hP hD hS => ?_)
                        obtain ⟨v52, v53, v54, f55⟩ := u51
                        try dsimp only at hP hD hw
                        replace hP : va_P (dC, dI) vwCl [(wi_rm95_2_3_0 rm cy g_minAsked), (wi_rm96_2_3_0 rm cy g_maxAsked), (wi_rm97_2_6_0 rm cy g_secondAsked), (wi_rm98_2_3_0 rm cy g_dayAsked), (wi_rm99_2_5_0 rm cy g_phaseAsked), (wi_rm100_2_6_0 rm cy g_waitedAsked), (wi_rm101_2_4_0 rm cy g_calmAsked), (wi_rm102_2_4_0 rm cy g_paceAsked), (wi_rm103_2_6_0 rm cy g_trustsAsked), (wi_rm104_2_3_0 rm cy g_gapAsked), (wi_rm105_2_4_0 rm cy g_redsAsked), (wi_rm106_2_6_0 rm cy g_numberAsked), (wi_rm107_2_4_0 rm cy g_wentAsked), (wi_rm108_2_4_0 rm cy g_harmAsked), (wi_rm109_2_4_0 rm cy g_kindofAsked), (wi_rm0_0_1600_0 rm cy g_tape), (a_this, .inr (10, mfs rm x_taped v28 x_end v29 v30 v31 x_fault x_faultPlace x_namePlace x_awayTold x_away x_coded x_statements x_isCrossing x_textKind x_askSecond x_redMany x_isOpen x_lastGreen x_greenTo x_isCycleGreen x_stillGreen x_rowMany x_fitMany x_fitRules x_fitGreen x_undoable x_newest x_seeded v52 v53 v54 x_qBase x_qPiled x_qAnswer x_qIsNew x_octets)), (wi_rm112_0_1700_0 rm cy J2_a16), (wi_rm110_0_1700_0 rm cy f55)] H := hP
                        replace hD := k_D hP hD
                        obtain ⟨h56, h57, h58, h59, h60, h61, h62, h63⟩ := hw
                        replace hq := lf_p1 hq h63
                        replace hq := lf_p1 hq rfl
                        replace hq := lf_p1 hq rfl
                        subst hQ; exact k_vret hx hb hr hlk ((v28, v29, v30, v31, v52, v53, v54, J2_a16, f55)) hS ⟨ib_w 0 1600 h32 rfl, ib_w 0 1700 h56 rfl, ib_w 0 1700 h57 rfl, fun _ => ib_one hx_bad rfl, (by have := hJ2_lin0; have := h16; have := h35; have := h58; have := h47; have : (1 : Int32).toInt = 1 := rfl; omega), fun hq9 => (by have := hJ2_lin0; have := h10; have := h16; have := h58; have := h47; have : (1 : Int32).toInt = 1 := rfl; have := (h36 hq9); omega), (by have := (h32).1; have := h35; have := h16; have := hJ2_lin3; have := (hx_at).2; omega), fun hq9 => (by have := (h32).1; have := (h36 hq9); have := h16; have := hJ2_lin3; have := (hx_at).2; omega), (by have := h61; omega), fun q => (h62 q), (hO.symm.trans (by exact hq))⟩ (hP.sub [16, 15, 2, 3, 4, 5, 6, 7, 8, 9, 10, 11, 12, 13, 14, 0, 17, 1, 18] rfl) (hD.sub [16, 15, 2, 3, 4, 5, 6, 7, 8, 9, 10, 11, 12, 13, 14, 0, 17, 1, 18] (by decide +kernel) rfl) (Nat.le_of_ble_eq_true rfl) (Nat.le_of_ble_eq_true rfl) dX10_qPartTold_244
                    · skip
                      exact absurd (ib_one h23 rfl) c24
                · as_aux_lemma =>
                    replace hq := lf_neg hq (lf_ne (lf_rf r11) (lf_lc (-1) (-1 : Int) rfl) c21)
                    have h64 : ib r11 0 11 := ib_w 0 11 (ib_ne_lo (-1) h15 rfl c21) rfl
                    refine lv_aload_n hx hb dX10_qPartTold_207 rfl (lv_at hl 1 rfl) ?_
                    refine lv_iload_n hx hb dX10_qPartTold_208 rfl (lv_at hl 0 rfl) ?_
                    refine k_jvm hP hD hS hA [4, 5, 6, 7, 8, 9, 10, 11, 12, 13, 14, 15, 16, 17, 18] [true, true, true, true] rfl rfl (by decide +kernel) 0 0 (Nat.le_of_ble_eq_true rfl) (Nat.le_of_ble_eq_true rfl) (fun hPc hDc => k_runV (As := [.int r11]) (rest := []) C0 hZ hS hA (s_X10_qAsksWord l dC dI cy sq a_this rm x_taped v13 x_end J2_c0_4 J2_c0_5 J2_c0_6 x_fault x_faultPlace x_namePlace x_awayTold x_away x_coded x_statements x_isCrossing x_textKind x_askSecond x_redMany x_isOpen x_lastGreen x_greenTo x_isCycleGreen x_stillGreen x_rowMany x_fitMany x_fitRules x_fitGreen x_undoable x_newest x_seeded x_qCoded J2_c0_113 J2_c0_114 x_qBase x_qPiled x_qAnswer x_qIsNew x_octets g_tape g_secondAsked g_dayAsked g_phaseAsked g_waitedAsked g_calmAsked g_paceAsked g_trustsAsked g_gapAsked g_redsAsked g_numberAsked g_wentAsked g_harmAsked g_kindofAsked r11 (ib_w 0 1600 h14 rfl) (ib_w 0 1600 hx_end rfl) hg_tape) mV_X10_629 hPc hDc rfl rfl rfl hl rfl rfl (Nat.le_of_ble_eq_true rfl) ⟨(Nat.le_of_ble_eq_true rfl), (Nat.le_of_ble_eq_true rfl)⟩ ⟨(Nat.le_of_ble_eq_true rfl), (Nat.le_of_ble_eq_true rfl)⟩ dX10_qPartTold_209) (fun u66 H locs hw hP hD hS => ?_)
                    obtain ⟨v67, v68, v69, v70⟩ := u66
                    try dsimp only at hP hD hw
                    replace hP : va_P (dC, dI) vwCl [(wi_rm95_2_3_0 rm cy g_minAsked), (wi_rm112_0_1700_0 rm cy J2_a16), (wi_rm96_2_3_0 rm cy g_maxAsked), (wi_rm110_0_1700_0 rm cy g_qCodes), (a_this, .inr (10, mfs rm x_taped v67 x_end v68 v69 v70 x_fault x_faultPlace x_namePlace x_awayTold x_away x_coded x_statements x_isCrossing x_textKind x_askSecond x_redMany x_isOpen x_lastGreen x_greenTo x_isCycleGreen x_stillGreen x_rowMany x_fitMany x_fitRules x_fitGreen x_undoable x_newest x_seeded x_qCoded J2_c0_113 J2_c0_114 x_qBase x_qPiled x_qAnswer x_qIsNew x_octets)), (wi_rm0_0_1600_0 rm cy g_tape), (wi_rm97_2_6_0 rm cy g_secondAsked), (wi_rm98_2_3_0 rm cy g_dayAsked), (wi_rm99_2_5_0 rm cy g_phaseAsked), (wi_rm100_2_6_0 rm cy g_waitedAsked), (wi_rm101_2_4_0 rm cy g_calmAsked), (wi_rm102_2_4_0 rm cy g_paceAsked), (wi_rm103_2_6_0 rm cy g_trustsAsked), (wi_rm104_2_3_0 rm cy g_gapAsked), (wi_rm105_2_4_0 rm cy g_redsAsked), (wi_rm106_2_6_0 rm cy g_numberAsked), (wi_rm107_2_4_0 rm cy g_wentAsked), (wi_rm108_2_4_0 rm cy g_harmAsked), (wi_rm109_2_4_0 rm cy g_kindofAsked)] H := hP
                    replace hD := k_D hP hD
                    obtain ⟨h71, h72, h73, h74, h75⟩ := hw
                    replace hq := lf_p1 hq h75
                    replace hq := lf_p1 hq rfl
                    replace hq := lf_p1 hq rfl
                    refine lv_aload_n hx hb dX10_qPartTold_212 rfl (lv_at hl 1 rfl) ?_
                    refine lv_iload_n hx hb dX10_qPartTold_213 rfl (lv_at hl 0 rfl) ?_
                    refine lv_iconst (v := (-1)) hx hb dX10_qPartTold_214 rfl ?_
                    refine lv_icmp_eq (tgt := 225) hx hb dX10_qPartTold_215 rfl (fun c76 => ?_) (fun c76 => ?_)
                    · skip
                      exact absurd c76 c21
                    · as_aux_lemma =>
                        skip
                        refine lv_bipush (v := 40) hx hb dX10_qPartTold_218 rfl ?_
                        refine lv_iload_n hx hb dX10_qPartTold_220 rfl (lv_at hl 0 rfl) ?_
                        refine lv_iadd hx hb dX10_qPartTold_221 ?_
                        refine lv_topi (fun z77 ez77 => ?_)
                        have h78 := ib_add (ib_c 40 40 40 rfl) h64 rfl
                        rw [← ez77] at h78
                        have h79 : ib z77 40 51 := ib_w 40 51 h78.1 rfl
                        have Ez77 := lf_add h78.2 (lf_lc 40 (40 : Int) rfl) (lf_rf r11)
                        refine lv_goto (tgt := 237) hx hb dX10_qPartTold_222 rfl ?_
                        refine k_jvm hP hD hS hA [4, 3] [true, true, true, false, false, true, true, true, true, true, true, true, true, true, true, true, true, true, true] rfl rfl (by decide +kernel) 0 0 (Nat.le_of_ble_eq_true rfl) (Nat.le_of_ble_eq_true rfl) (fun hPc hDc => k_runV (As := [.int z77]) (rest := []) C0 hZ hS hA (s_X10_qCode l dC dI cy sq a_this rm x_taped v67 x_end v68 v69 v70 x_fault x_faultPlace x_namePlace x_awayTold x_away x_coded x_statements x_isCrossing x_textKind x_askSecond x_redMany x_isOpen x_lastGreen x_greenTo x_isCycleGreen x_stillGreen x_rowMany x_fitMany x_fitRules x_fitGreen x_undoable x_newest x_seeded x_qCoded J2_c0_113 J2_c0_114 x_qBase x_qPiled x_qAnswer x_qIsNew x_octets g_qCodes z77 (ib_w 0 1699 h4 rfl)) mV_X10_608 hPc hDc rfl rfl rfl hl rfl rfl (Nat.le_of_ble_eq_true rfl) ⟨(Nat.le_of_ble_eq_true rfl), (Nat.le_of_ble_eq_true rfl)⟩ ⟨(Nat.le_of_ble_eq_true rfl), (Nat.le_of_ble_eq_true rfl)⟩ dX10_qPartTold_237) (fun u81 H locs hw hP hD hS => ?_)
                        obtain ⟨v82, f83⟩ := u81
                        try dsimp only at hP hD hw
                        replace hP : va_P (dC, dI) vwCl [(wi_rm95_2_3_0 rm cy g_minAsked), (wi_rm112_0_1700_0 rm cy J2_a16), (wi_rm96_2_3_0 rm cy g_maxAsked), (wi_rm0_0_1600_0 rm cy g_tape), (wi_rm97_2_6_0 rm cy g_secondAsked), (wi_rm98_2_3_0 rm cy g_dayAsked), (wi_rm99_2_5_0 rm cy g_phaseAsked), (wi_rm100_2_6_0 rm cy g_waitedAsked), (wi_rm101_2_4_0 rm cy g_calmAsked), (wi_rm102_2_4_0 rm cy g_paceAsked), (wi_rm103_2_6_0 rm cy g_trustsAsked), (wi_rm104_2_3_0 rm cy g_gapAsked), (wi_rm105_2_4_0 rm cy g_redsAsked), (wi_rm106_2_6_0 rm cy g_numberAsked), (wi_rm107_2_4_0 rm cy g_wentAsked), (wi_rm108_2_4_0 rm cy g_harmAsked), (wi_rm109_2_4_0 rm cy g_kindofAsked), (a_this, .inr (10, mfs rm x_taped v67 x_end v68 v69 v70 x_fault x_faultPlace x_namePlace x_awayTold x_away x_coded x_statements x_isCrossing x_textKind x_askSecond x_redMany x_isOpen x_lastGreen x_greenTo x_isCycleGreen x_stillGreen x_rowMany x_fitMany x_fitRules x_fitGreen x_undoable x_newest x_seeded v82 J2_c0_113 J2_c0_114 x_qBase x_qPiled x_qAnswer x_qIsNew x_octets)), (wi_rm110_0_1700_0 rm cy f83)] H := hP
                        replace hD := k_D hP hD
                        obtain ⟨h84, h85, h86, h87⟩ := hw
                        have h88 : v82.toInt = (x_qCoded : Int32).toInt + (1 : Int32).toInt := by have q1 := h85; have q2 : (1 : Int32).toInt = 1 := rfl; omega
                        have h89 : ib v82 1 1621 := ⟨by have q1 := h85; have := (h4).1; have := (h84).1; omega, by have q1 := h85; have := (h4).2; have := (h84).2; omega⟩
                        have h87 := by have h9 := h87; rw [lf_u Ez77] at h9; exact h9
                        replace hq := lf_p1 hq h87
                        have h90 : v69 = 0 → GS f83 v82 J2_a16 J2_c0_113 x_qBase x_textKind (cc + 1) := fun q => (by rw [h86]; exact GS_code (hJ2_go.1 (h72 q)) (by have := (h4).1; have := (h4).2; have := hL0; have := hJ2_lin0; have := hJ2_lin2; have := h10; have := (hx_at).1; have := (hx_at).2; have := hJ2_lin3; have := (h5).1; have := (h5).2; have := hL1; have := (hJ2_c0_2).1; have := (hJ2_c0_2).2; have := h16; have := (h14).1; have := (h14).2; have := h73; have := (h71).1; have := (h71).2; have := (hJ2_c0_113).1; have := (hJ2_c0_113).2; have := hJ2_lin1; have := (h6).1; have := (h6).2; have := (h89).1; have := (h89).2; have := h88; have : (1 : Int32).toInt = 1 := rfl; omega) (Or.inl ⟨by have := (h79).1; omega, by have := (h79).2; omega⟩) (fun ht e9 => h17 (ib_nc (-1) h64 rfl) ht (cn (by have q1 := h78.2; have q2 : (40 : Int32).toInt = 40 := rfl; have q3 := congrArg Int32.toInt e9; have q4 : (47 : Int32).toInt = 47 := rfl; have q5 : (7 : Int32).toInt = 7 := rfl; omega))))
                        refine lv_aload_n hx hb dX10_qPartTold_240 rfl (lv_at hl 1 rfl) ?_
                        refine k_jvm hP hD hS hA [17, 1, 18] [true, false, true, true, true, true, true, true, true, true, true, true, true, true, true, true, true] rfl rfl (by decide +kernel) 0 0 (Nat.le_of_ble_eq_true rfl) (Nat.le_of_ble_eq_true rfl) (fun hPc hDc => k_runV (As := []) (rest := []) C0 hZ hS hA (s_X10_qEndsPart l dC dI cy sq a_this rm x_taped v67 x_end v68 v69 v70 x_fault x_faultPlace x_namePlace x_awayTold x_away x_coded x_statements x_isCrossing x_textKind x_askSecond x_redMany x_isOpen x_lastGreen x_greenTo x_isCycleGreen x_stillGreen x_rowMany x_fitMany x_fitRules x_fitGreen x_undoable x_newest x_seeded v82 J2_c0_113 J2_c0_114 x_qBase x_qPiled x_qAnswer x_qIsNew x_octets f83 J2_a16 cc (ib_w 0 1700 h89 rfl) (ib_w 0 1700 hJ2_c0_113 rfl) (ib_w 0 1700 h6 rfl) (by have := (hJ2_c0_113).2; have := hJ2_lin2; have := (hJ2_c0_2).2; have := (h89).2; have := h88; have : (1 : Int32).toInt = 1 := rfl; omega) (by have := hJ2_lin1; omega) (fun q => (h90 q))) mV_X10_632 hPc hDc rfl rfl rfl hl rfl rfl (Nat.le_of_ble_eq_true rfl) ⟨(Nat.le_of_ble_eq_true rfl), (Nat.le_of_ble_eq_true rfl)⟩ ⟨(Nat.le_of_ble_eq_true rfl), (Nat.le_of_ble_eq_true rfl)⟩ dX10_qPartTold_241) (fun u92 H locs hw hP hD hS => ?_)
                        obtain ⟨v93, v94, v95, f96⟩ := u92
                        try dsimp only at hP hD hw
                        replace hP : va_P (dC, dI) vwCl [(wi_rm95_2_3_0 rm cy g_minAsked), (wi_rm96_2_3_0 rm cy g_maxAsked), (wi_rm0_0_1600_0 rm cy g_tape), (wi_rm97_2_6_0 rm cy g_secondAsked), (wi_rm98_2_3_0 rm cy g_dayAsked), (wi_rm99_2_5_0 rm cy g_phaseAsked), (wi_rm100_2_6_0 rm cy g_waitedAsked), (wi_rm101_2_4_0 rm cy g_calmAsked), (wi_rm102_2_4_0 rm cy g_paceAsked), (wi_rm103_2_6_0 rm cy g_trustsAsked), (wi_rm104_2_3_0 rm cy g_gapAsked), (wi_rm105_2_4_0 rm cy g_redsAsked), (wi_rm106_2_6_0 rm cy g_numberAsked), (wi_rm107_2_4_0 rm cy g_wentAsked), (wi_rm108_2_4_0 rm cy g_harmAsked), (wi_rm109_2_4_0 rm cy g_kindofAsked), (a_this, .inr (10, mfs rm x_taped v67 x_end v68 v69 v70 x_fault x_faultPlace x_namePlace x_awayTold x_away x_coded x_statements x_isCrossing x_textKind x_askSecond x_redMany x_isOpen x_lastGreen x_greenTo x_isCycleGreen x_stillGreen x_rowMany x_fitMany x_fitRules x_fitGreen x_undoable x_newest x_seeded v93 v94 v95 x_qBase x_qPiled x_qAnswer x_qIsNew x_octets)), (wi_rm112_0_1700_0 rm cy J2_a16), (wi_rm110_0_1700_0 rm cy f96)] H := hP
                        replace hD := k_D hP hD
                        obtain ⟨h97, h98, h99, h100, h101, h102, h103, h104⟩ := hw
                        replace hq := lf_p1 hq h104
                        replace hq := lf_p1 hq rfl
                        replace hq := lf_p1 hq rfl
                        subst hQ; exact k_vret hx hb hr hlk ((v67, v68, v69, v70, v93, v94, v95, J2_a16, f96)) hS ⟨ib_w 0 1600 h71 rfl, ib_w 0 1700 h97 rfl, ib_w 0 1700 h98 rfl, fun _ => ib_one hx_bad rfl, (by have := hJ2_lin0; have := h16; have := h73; have := h99; have := h88; have : (1 : Int32).toInt = 1 := rfl; omega), fun hq9 => (by have := hJ2_lin0; have := h10; have := h16; have := h99; have := h88; have : (1 : Int32).toInt = 1 := rfl; have := (h74 hq9); omega), (by have := (h71).1; have := h73; have := h16; have := hJ2_lin3; have := (hx_at).2; omega), fun hq9 => (by have := (h71).1; have := (h74 hq9); have := h16; have := hJ2_lin3; have := (hx_at).2; omega), (by have := h102; omega), fun q => (h103 q), (hO.symm.trans (by exact hq))⟩ (hP.sub [16, 2, 3, 4, 5, 6, 7, 8, 9, 10, 11, 12, 13, 14, 15, 0, 17, 1, 18] rfl) (hD.sub [16, 2, 3, 4, 5, 6, 7, 8, 9, 10, 11, 12, 13, 14, 15, 0, 17, 1, 18] (by decide +kernel) rfl) (Nat.le_of_ble_eq_true rfl) (Nat.le_of_ble_eq_true rfl) dX10_qPartTold_244
            · replace hq := lf_neg hq (lf_ne (lf_rf J2_c0_5) (lf_lc 0 (0 : Int) rfl) c7)
              subst hQ; exact k_vret hx hb hr hlk ((J2_c0_2, J2_c0_4, J2_c0_5, J2_c0_6, x_qCoded, J2_c0_113, J2_c0_114, J2_a16, g_qCodes)) hS ⟨ib_w 0 1600 hJ2_c0_2 rfl, ib_w 0 1700 h4 rfl, ib_w 0 1700 hJ2_c0_113 rfl, fun _ => ib_one hx_bad rfl, (by have := hJ2_lin0; omega), fun q => absurd q c7, (by have := hJ2_lin3; omega), fun q => absurd q c7, (by have := hJ2_lin1; omega), fun q => absurd q c7, (hO.symm.trans (by exact hq))⟩ hP hD (Nat.le_of_ble_eq_true rfl) (Nat.le_of_ble_eq_true rfl) dX10_qPartTold_193
        · as_aux_lemma =>
            replace hq := lf_neg hq (lf_ne (lf_rf J2_l1) (lf_lc 0 (0 : Int) rfl) c1)
            have h105 : ib J2_l1 1 1 := ib_w 1 1 (ib_ne_lo 0 hJ2_l1 rfl c1) rfl
            have h106 : ib x_qCoded 0 1620 := ⟨(hK2_x_qCoded).1, by have := (hK2_x_qCoded).2; have := hL0; have := (hx_at).2; have := (hx_qWaits).1; omega⟩
            have h107 : ib x_qWaits 0 1620 := ⟨(hx_qWaits).1, by have := (hx_qWaits).2; have := hL0; have := (hx_at).2; have := (h106).1; omega⟩
            have h108 : ib x_qBase 0 1620 := ⟨(hK2_x_qBase).1, by have := (hK2_x_qBase).2; have := hL1; have := (h107).2; omega⟩
            refine lv_aload_n hx hb dX10_qPartTold_6 rfl (lv_at hl 0 rfl) ?_
            refine k_get C0 fg_X10_279 hP 0 rfl rfl dX10_qPartTold_7 ?_
            refine lv_if_ne (tgt := 186) hx hb dX10_qPartTold_10 rfl (fun c109 => ?_) (fun c109 => ?_)
            · replace hq := lf_neg hq (lf_ne (lf_rf J2_c0_5) (lf_lc 0 (0 : Int) rfl) c109)
              refine lv_aload_n hx hb dX10_qPartTold_186 rfl (lv_at hl 0 rfl) ?_
              refine k_get C0 fg_X10_279 hP 0 rfl rfl dX10_qPartTold_187 ?_
              refine lv_if_eq (tgt := 194) hx hb dX10_qPartTold_190 rfl (fun c110 => ?_) (fun c110 => ?_)
              · skip
                exact absurd c110 c109
              · skip
                subst hQ; exact k_vret hx hb hr hlk ((J2_c0_2, J2_c0_4, J2_c0_5, J2_c0_6, x_qCoded, J2_c0_113, J2_c0_114, J2_a16, g_qCodes)) hS ⟨ib_w 0 1600 hJ2_c0_2 rfl, ib_w 0 1700 h106 rfl, ib_w 0 1700 hJ2_c0_113 rfl, fun _ => ib_one hx_bad rfl, (by have := hJ2_lin0; omega), fun q => absurd q c110, (by have := hJ2_lin3; omega), fun q => absurd q c110, (by have := hJ2_lin1; omega), fun q => absurd q c110, (hO.symm.trans (by exact hq))⟩ hP hD (Nat.le_of_ble_eq_true rfl) (Nat.le_of_ble_eq_true rfl) dX10_qPartTold_193
            · as_aux_lemma =>
                replace hq := lf_pos hq (lf_eq (lf_rf J2_c0_5) (lf_lc 0 (0 : Int) rfl) c109)
                have h111 := ib_eq (ib_any J2_c0_5) (ib_c 0 0 0 rfl) c109
                have h112 : ib J2_c0_5 0 0 := ib_w 0 0 h111.1 rfl
                have h113 := hJ2_go.2 (ib_one h112 rfl)
                refine lv_aload_n hx hb dX10_qPartTold_13 rfl (lv_at hl 0 rfl) ?_
                refine k_jim hP hD hS hA [0, 1] [false, false, true, true, true, true, true, true, true, true, true, true, true, true, true, true, true, true, true] rfl rfl (by decide +kernel) 0 0 (Nat.le_of_ble_eq_true rfl) (Nat.le_of_ble_eq_true rfl) (fun hPc hDc => k_runV (As := []) (rest := []) C0 hZ hS hA (s_X10_look l dC dI cy sq a_this rm x_taped J2_c0_2 x_end J2_c0_4 J2_c0_5 J2_c0_6 x_fault x_faultPlace x_namePlace x_awayTold x_away x_coded x_statements x_isCrossing x_textKind x_askSecond x_redMany x_isOpen x_lastGreen x_greenTo x_isCycleGreen x_stillGreen x_rowMany x_fitMany x_fitRules x_fitGreen x_undoable x_newest x_seeded x_qCoded J2_c0_113 J2_c0_114 x_qBase x_qPiled x_qAnswer x_qIsNew x_octets g_tape (ib_w 0 1600 hJ2_c0_2 rfl) (ib_w 0 1600 hx_end rfl) hg_tape) mV_X10_291 hPc hDc rfl rfl rfl hl rfl rfl (Nat.le_of_ble_eq_true rfl) ⟨(Nat.le_of_ble_eq_true rfl), (Nat.le_of_ble_eq_true rfl)⟩ ⟨(Nat.le_of_ble_eq_true rfl), (Nat.le_of_ble_eq_true rfl)⟩ dX10_qPartTold_14) (fun r114 u115 H locs hw hP hD hS => ?_)
                obtain ⟨v116, ev116⟩ : ∃ z, z = u115 := ⟨_, rfl⟩; subst ev116
                try dsimp only at hP hD hw
                replace hP : va_P (dC, dI) vwCl [(wi_rm97_2_6_0 rm cy g_secondAsked), (wi_rm98_2_3_0 rm cy g_dayAsked), (wi_rm99_2_5_0 rm cy g_phaseAsked), (wi_rm100_2_6_0 rm cy g_waitedAsked), (wi_rm101_2_4_0 rm cy g_calmAsked), (wi_rm102_2_4_0 rm cy g_paceAsked), (wi_rm103_2_6_0 rm cy g_trustsAsked), (wi_rm104_2_3_0 rm cy g_gapAsked), (wi_rm105_2_4_0 rm cy g_redsAsked), (wi_rm106_2_6_0 rm cy g_numberAsked), (wi_rm107_2_4_0 rm cy g_wentAsked), (wi_rm108_2_4_0 rm cy g_harmAsked), (wi_rm109_2_4_0 rm cy g_kindofAsked), (wi_rm95_2_3_0 rm cy g_minAsked), (wi_rm112_0_1700_0 rm cy J2_a16), (wi_rm96_2_3_0 rm cy g_maxAsked), (wi_rm110_0_1700_0 rm cy g_qCodes), (a_this, .inr (10, mfs rm x_taped v116 x_end J2_c0_4 J2_c0_5 J2_c0_6 x_fault x_faultPlace x_namePlace x_awayTold x_away x_coded x_statements x_isCrossing x_textKind x_askSecond x_redMany x_isOpen x_lastGreen x_greenTo x_isCycleGreen x_stillGreen x_rowMany x_fitMany x_fitRules x_fitGreen x_undoable x_newest x_seeded x_qCoded J2_c0_113 J2_c0_114 x_qBase x_qPiled x_qAnswer x_qIsNew x_octets)), (wi_rm0_0_1600_0 rm cy g_tape)] H := hP
                replace hD := k_D hP hD
                obtain ⟨h117, h118, h119, h120, h121, h122, h123, h124, h125, h126⟩ := hw
                replace hq := lf_p1 hq h126
                refine lv_istore_n (lv' := [(2, .int r114), (0, .ref a_this), (1, .int J2_l1)]) hx hb dX10_qPartTold_17 rfl hl (Nat.le_of_ble_eq_true rfl) rfl (fun ls hl => ?_)
                refine lv_aload_n hx hb dX10_qPartTold_18 rfl (lv_at hl 1 rfl) ?_
                refine lv_bipush (v := 12) hx hb dX10_qPartTold_19 rfl ?_
                refine lv_bipush (v := 13) hx hb dX10_qPartTold_21 rfl ?_
                refine k_jim hP hD hS hA [17, 18, 0, 1, 2, 3, 4, 5, 6, 7, 8, 9, 10, 11, 12] [false, false, false, false, false, false, false, false, false, false, false, false, false, true, true, true, true] rfl rfl (by decide +kernel) 0 0 (Nat.le_of_ble_eq_true rfl) (Nat.le_of_ble_eq_true rfl) (fun hPc hDc => k_runV (As := [.int 12, .int 13]) (rest := []) C0 hZ hS hA (s_X10_qWordOf_a0_12_a1_13 l dC dI cy sq a_this rm x_taped v116 x_end J2_c0_4 J2_c0_5 J2_c0_6 x_fault x_faultPlace x_namePlace x_awayTold x_away x_coded x_statements x_isCrossing x_textKind x_askSecond x_redMany x_isOpen x_lastGreen x_greenTo x_isCycleGreen x_stillGreen x_rowMany x_fitMany x_fitRules x_fitGreen x_undoable x_newest x_seeded x_qCoded J2_c0_113 J2_c0_114 x_qBase x_qPiled x_qAnswer x_qIsNew x_octets g_tape g_secondAsked g_dayAsked g_phaseAsked g_waitedAsked g_calmAsked g_paceAsked g_trustsAsked g_gapAsked g_redsAsked g_numberAsked g_wentAsked g_harmAsked g_kindofAsked (ib_w 0 1600 h117 rfl) (ib_w 0 1600 hx_end rfl) hg_tape) mV_X10_623 hPc hDc rfl rfl rfl hl rfl rfl (Nat.le_of_ble_eq_true rfl) ⟨(Nat.le_of_ble_eq_true rfl), (Nat.le_of_ble_eq_true rfl)⟩ ⟨(Nat.le_of_ble_eq_true rfl), (Nat.le_of_ble_eq_true rfl)⟩ dX10_qPartTold_23) (fun r127 u128 H locs hw hP hD hS => ?_)
                obtain ⟨v129, ev129⟩ : ∃ z, z = u128 := ⟨_, rfl⟩; subst ev129
                try dsimp only at hP hD hw
                replace hP : va_P (dC, dI) vwCl [(wi_rm95_2_3_0 rm cy g_minAsked), (wi_rm112_0_1700_0 rm cy J2_a16), (wi_rm96_2_3_0 rm cy g_maxAsked), (wi_rm110_0_1700_0 rm cy g_qCodes), (a_this, .inr (10, mfs rm x_taped v129 x_end J2_c0_4 J2_c0_5 J2_c0_6 x_fault x_faultPlace x_namePlace x_awayTold x_away x_coded x_statements x_isCrossing x_textKind x_askSecond x_redMany x_isOpen x_lastGreen x_greenTo x_isCycleGreen x_stillGreen x_rowMany x_fitMany x_fitRules x_fitGreen x_undoable x_newest x_seeded x_qCoded J2_c0_113 J2_c0_114 x_qBase x_qPiled x_qAnswer x_qIsNew x_octets)), (wi_rm0_0_1600_0 rm cy g_tape), (wi_rm97_2_6_0 rm cy g_secondAsked), (wi_rm98_2_3_0 rm cy g_dayAsked), (wi_rm99_2_5_0 rm cy g_phaseAsked), (wi_rm100_2_6_0 rm cy g_waitedAsked), (wi_rm101_2_4_0 rm cy g_calmAsked), (wi_rm102_2_4_0 rm cy g_paceAsked), (wi_rm103_2_6_0 rm cy g_trustsAsked), (wi_rm104_2_3_0 rm cy g_gapAsked), (wi_rm105_2_4_0 rm cy g_redsAsked), (wi_rm106_2_6_0 rm cy g_numberAsked), (wi_rm107_2_4_0 rm cy g_wentAsked), (wi_rm108_2_4_0 rm cy g_harmAsked), (wi_rm109_2_4_0 rm cy g_kindofAsked)] H := hP
                replace hD := k_D hP hD
                obtain ⟨h130, h131, h132, h133, h134, h135, h136⟩ := hw
                replace hq := lf_p1 hq h136
                have h137 := h134 h125
                have h138 := h125
                rw [← h137] at h138
                have h139 : 1 * v129.toInt + (-1) * v116.toInt ≤ 0 := by rw [h137]; omega
                refine lv_istore_n (lv' := [(3, .int r127), (2, .int r114), (0, .ref a_this), (1, .int J2_l1)]) hx hb dX10_qPartTold_26 rfl hl (Nat.le_of_ble_eq_true rfl) rfl (fun ls hl => ?_)
                refine lv_iload_n hx hb dX10_qPartTold_27 rfl (lv_at hl 1 rfl) ?_
                refine lv_bipush (v := 40) hx hb dX10_qPartTold_28 rfl ?_
                as_aux_lemma =>
                  refine lv_icmp_ne (tgt := 56) hx hb dX10_qPartTold_30 rfl (fun c141 => ?_) (fun c141 => ?_)
                  · as_aux_lemma =>
                      replace hq := lf_neg hq (lf_ne (lf_rf r114) (lf_lc 40 (40 : Int) rfl) c141)
                      refine lv_aload_n hx hb dX10_qPartTold_56 rfl (lv_at hl 2 rfl) ?_
                      refine lv_aload_n hx hb dX10_qPartTold_57 rfl (lv_at hl 2 rfl) ?_
                      refine k_get C0 fg_X10_219 hP 4 rfl rfl dX10_qPartTold_58 ?_
                      refine k_jim hP hD hS hA [4, 5, 0] [false, true, true, true, false, false, true, true, true, true, true, true, true, true, true, true, true, true, true] rfl rfl (by decide +kernel) 0 0 (Nat.le_of_ble_eq_true rfl) (Nat.le_of_ble_eq_true rfl) (fun hPc hDc => k_runV (As := [.ref (rm 95)]) (rest := []) C0 hZ hS hA (s_X10_isHere l dC dI cy sq a_this rm x_taped v129 x_end J2_c0_4 J2_c0_5 J2_c0_6 x_fault x_faultPlace x_namePlace x_awayTold x_away x_coded x_statements x_isCrossing x_textKind x_askSecond x_redMany x_isOpen x_lastGreen x_greenTo x_isCycleGreen x_stillGreen x_rowMany x_fitMany x_fitRules x_fitGreen x_undoable x_newest x_seeded x_qCoded J2_c0_113 J2_c0_114 x_qBase x_qPiled x_qAnswer x_qIsNew x_octets g_tape (rm 95) g_minAsked (ib_w 0 1600 h130 rfl) (ib_w 0 1600 hx_end rfl) hg_tape) mV_X10_302 hPc hDc rfl rfl rfl hl rfl rfl (Nat.le_of_ble_eq_true rfl) ⟨(Nat.le_of_ble_eq_true rfl), (Nat.le_of_ble_eq_true rfl)⟩ ⟨(Nat.le_of_ble_eq_true rfl), (Nat.le_of_ble_eq_true rfl)⟩ dX10_qPartTold_61) (fun r142 u143 H locs hw hP hD hS => ?_)
                      obtain ⟨v144, ev144⟩ : ∃ z, z = u143 := ⟨_, rfl⟩; subst ev144
                      try dsimp only at hP hD hw
                      replace hP : va_P (dC, dI) vwCl [(wi_rm112_0_1700_0 rm cy J2_a16), (wi_rm96_2_3_0 rm cy g_maxAsked), (wi_rm110_0_1700_0 rm cy g_qCodes), (wi_rm97_2_6_0 rm cy g_secondAsked), (wi_rm98_2_3_0 rm cy g_dayAsked), (wi_rm99_2_5_0 rm cy g_phaseAsked), (wi_rm100_2_6_0 rm cy g_waitedAsked), (wi_rm101_2_4_0 rm cy g_calmAsked), (wi_rm102_2_4_0 rm cy g_paceAsked), (wi_rm103_2_6_0 rm cy g_trustsAsked), (wi_rm104_2_3_0 rm cy g_gapAsked), (wi_rm105_2_4_0 rm cy g_redsAsked), (wi_rm106_2_6_0 rm cy g_numberAsked), (wi_rm107_2_4_0 rm cy g_wentAsked), (wi_rm108_2_4_0 rm cy g_harmAsked), (wi_rm109_2_4_0 rm cy g_kindofAsked), (a_this, .inr (10, mfs rm x_taped v144 x_end J2_c0_4 J2_c0_5 J2_c0_6 x_fault x_faultPlace x_namePlace x_awayTold x_away x_coded x_statements x_isCrossing x_textKind x_askSecond x_redMany x_isOpen x_lastGreen x_greenTo x_isCycleGreen x_stillGreen x_rowMany x_fitMany x_fitRules x_fitGreen x_undoable x_newest x_seeded x_qCoded J2_c0_113 J2_c0_114 x_qBase x_qPiled x_qAnswer x_qIsNew x_octets)), (wi_rm0_0_1600_0 rm cy g_tape), (wi_rm95_2_3_0 rm cy g_minAsked)] H := hP
                      replace hD := k_D hP hD
                      obtain ⟨h145, h146, h147, h148, h149, h150, h151, h152, h153⟩ := hw
                      replace hq := lf_p1 hq h153
                      have h154 := h152 h138
                      have h155 := h138
                      rw [← h154] at h155
                      have h156 : 1 * v144.toInt + (-1) * v129.toInt ≤ 0 := by rw [h154]; omega
                      refine lv_if_ne (tgt := 78) hx hb dX10_qPartTold_64 rfl (fun c158 => ?_) (fun c158 => ?_)
                      · as_aux_lemma =>
                          replace hq := lf_neg hq (lf_ne (lf_rf r142) (lf_lc 0 (0 : Int) rfl) c158)
                          have h159 : ib r142 1 1 := ib_w 1 1 (ib_ne_lo 0 h146 rfl c158) rfl
                          have h160 : ib v144 0 1597 := ib_w 0 1597 (ib_two h145 (h147 (ib_nz h159 rfl))) rfl
                          have h161 : ib v129 0 1597 := ib_w 0 1597 (ib_two h130 (h148 (ib_nz h159 rfl))) rfl
                          have h162 : ib x_end 1 1600 := ib_w 1 1600 (ib_two hx_end (h149 (ib_nz h159 rfl))) rfl
                          have h163 : ib v116 0 1597 := ⟨(h117).1, by have := (h117).2; have := h132; have := (h161).2; omega⟩
                          refine lv_aload_n hx hb dX10_qPartTold_78 rfl (lv_at hl 2 rfl) ?_
                          refine lv_aload_n hx hb dX10_qPartTold_79 rfl (lv_at hl 2 rfl) ?_
                          refine k_get C0 fg_X10_219 hP 16 rfl rfl dX10_qPartTold_80 ?_
                          refine k_jim hP hD hS hA [16, 17, 18] [true, true, true, true, true, true, true, true, true, true, true, true, true, true, true, true] rfl rfl (by decide +kernel) 0 0 (Nat.le_of_ble_eq_true rfl) (Nat.le_of_ble_eq_true rfl) (fun hPc hDc => k_runV (As := [.ref (rm 95)]) (rest := []) C0 hZ hS hA (s_X10_takes l dC dI cy sq a_this rm x_taped v144 x_end J2_c0_4 J2_c0_5 J2_c0_6 x_fault x_faultPlace x_namePlace x_awayTold x_away x_coded x_statements x_isCrossing x_textKind x_askSecond x_redMany x_isOpen x_lastGreen x_greenTo x_isCycleGreen x_stillGreen x_rowMany x_fitMany x_fitRules x_fitGreen x_undoable x_newest x_seeded x_qCoded J2_c0_113 J2_c0_114 x_qBase x_qPiled x_qAnswer x_qIsNew x_octets g_tape (rm 95) g_minAsked (ib_w 0 1600 h160 rfl) (ib_w 0 1600 h162 rfl) hg_tape) mV_X10_305 hPc hDc rfl rfl rfl hl rfl rfl (Nat.le_of_ble_eq_true rfl) ⟨(Nat.le_of_ble_eq_true rfl), (Nat.le_of_ble_eq_true rfl)⟩ ⟨(Nat.le_of_ble_eq_true rfl), (Nat.le_of_ble_eq_true rfl)⟩ dX10_qPartTold_83) (fun r164 u165 H locs hw hP hD hS => ?_)
                          obtain ⟨v166, v167⟩ := u165
                          try dsimp only at hP hD hw
                          replace hP : va_P (dC, dI) vwCl [(wi_rm112_0_1700_0 rm cy J2_a16), (wi_rm96_2_3_0 rm cy g_maxAsked), (wi_rm110_0_1700_0 rm cy g_qCodes), (wi_rm97_2_6_0 rm cy g_secondAsked), (wi_rm98_2_3_0 rm cy g_dayAsked), (wi_rm99_2_5_0 rm cy g_phaseAsked), (wi_rm100_2_6_0 rm cy g_waitedAsked), (wi_rm101_2_4_0 rm cy g_calmAsked), (wi_rm102_2_4_0 rm cy g_paceAsked), (wi_rm103_2_6_0 rm cy g_trustsAsked), (wi_rm104_2_3_0 rm cy g_gapAsked), (wi_rm105_2_4_0 rm cy g_redsAsked), (wi_rm106_2_6_0 rm cy g_numberAsked), (wi_rm107_2_4_0 rm cy g_wentAsked), (wi_rm108_2_4_0 rm cy g_harmAsked), (wi_rm109_2_4_0 rm cy g_kindofAsked), (a_this, .inr (10, mfs rm x_taped v166 x_end v167 J2_c0_5 J2_c0_6 x_fault x_faultPlace x_namePlace x_awayTold x_away x_coded x_statements x_isCrossing x_textKind x_askSecond x_redMany x_isOpen x_lastGreen x_greenTo x_isCycleGreen x_stillGreen x_rowMany x_fitMany x_fitRules x_fitGreen x_undoable x_newest x_seeded x_qCoded J2_c0_113 J2_c0_114 x_qBase x_qPiled x_qAnswer x_qIsNew x_octets)), (wi_rm0_0_1600_0 rm cy g_tape), (wi_rm95_2_3_0 rm cy g_minAsked)] H := hP
                          replace hD := k_D hP hD
                          obtain ⟨h168, h169, h170, h171, h172, h173, h174, h175, h176, h177⟩ := hw
                          replace hq := lf_p1 hq h177
                          replace hq := lf_p1 hq rfl
                          refine lv_istore (lv' := [(4, .int r164), (3, .int r127), (2, .int r114), (0, .ref a_this), (1, .int J2_l1)]) hx hb dX10_qPartTold_86 hl (Nat.le_of_ble_eq_true rfl) rfl (fun ls hl => ?_)
                          refine lv_iload hx hb dX10_qPartTold_88 (lv_at hl 0 rfl) ?_
                          refine lv_if_ne (tgt := 101) hx hb dX10_qPartTold_90 rfl (fun c178 => ?_) (fun c178 => ?_)
                          · as_aux_lemma =>
                              replace hq := lf_neg hq (lf_ne (lf_rf r164) (lf_lc 0 (0 : Int) rfl) c178)
                              have h179 : ib r164 1 1 := ib_w 1 1 (ib_ne_lo 0 h169 rfl c178) rfl
                              have h180 := h176 (ib_nz h179 rfl)
                              have h181 : ib J2_c0_2 0 1597 := ⟨(hJ2_c0_2).1, by have := (hJ2_c0_2).2; have := h122; have := (h163).2; omega⟩
                              have h182 : ib v166 3 1600 := ⟨by have := (h168).1; have := h180; have := (h160).1; omega, (h168).2⟩
                              have h183 : ib v167 3 1600 := ib_w 3 1600 (ib_two (ib_any v167) (h171 (ib_nz h179 rfl))) rfl
                              have h184 : ib x_qCoded 0 1618 := ⟨(h106).1, by have := (h106).2; have := hJ2_lin2; have := (h181).2; have := (hJ2_c0_113).1; omega⟩
                              have h185 : ib J2_c0_113 0 1618 := ⟨(hJ2_c0_113).1, by have := (hJ2_c0_113).2; have := hJ2_lin2; have := (h184).1; have := (h181).2; omega⟩
                              have h186 : ib x_at 0 1597 := ⟨(hx_at).1, by have := (hx_at).2; have := hJ2_lin3; have := (h181).2; omega⟩
                              refine lv_aload_n hx hb dX10_qPartTold_101 rfl (lv_at hl 3 rfl) ?_
                              refine k_jim hP hD hS hA [16, 17] [true, true, true, true, true, true, true, true, true, true, true, true, true, true, true, true, false, false, true] rfl rfl (by decide +kernel) 0 0 (Nat.le_of_ble_eq_true rfl) (Nat.le_of_ble_eq_true rfl) (fun hPc hDc => k_runV (As := []) (rest := []) C0 hZ hS hA (s_X10_look l dC dI cy sq a_this rm x_taped v166 x_end v167 J2_c0_5 J2_c0_6 x_fault x_faultPlace x_namePlace x_awayTold x_away x_coded x_statements x_isCrossing x_textKind x_askSecond x_redMany x_isOpen x_lastGreen x_greenTo x_isCycleGreen x_stillGreen x_rowMany x_fitMany x_fitRules x_fitGreen x_undoable x_newest x_seeded x_qCoded J2_c0_113 J2_c0_114 x_qBase x_qPiled x_qAnswer x_qIsNew x_octets g_tape (ib_w 0 1600 h182 rfl) (ib_w 0 1600 h162 rfl) hg_tape) mV_X10_291 hPc hDc rfl rfl rfl hl rfl rfl (Nat.le_of_ble_eq_true rfl) ⟨(Nat.le_of_ble_eq_true rfl), (Nat.le_of_ble_eq_true rfl)⟩ ⟨(Nat.le_of_ble_eq_true rfl), (Nat.le_of_ble_eq_true rfl)⟩ dX10_qPartTold_102) (fun r187 u188 H locs hw hP hD hS => ?_)
                              obtain ⟨v189, ev189⟩ : ∃ z, z = u188 := ⟨_, rfl⟩; subst ev189
                              try dsimp only at hP hD hw
                              replace hP : va_P (dC, dI) vwCl [(wi_rm112_0_1700_0 rm cy J2_a16), (wi_rm96_2_3_0 rm cy g_maxAsked), (wi_rm110_0_1700_0 rm cy g_qCodes), (wi_rm97_2_6_0 rm cy g_secondAsked), (wi_rm98_2_3_0 rm cy g_dayAsked), (wi_rm99_2_5_0 rm cy g_phaseAsked), (wi_rm100_2_6_0 rm cy g_waitedAsked), (wi_rm101_2_4_0 rm cy g_calmAsked), (wi_rm102_2_4_0 rm cy g_paceAsked), (wi_rm103_2_6_0 rm cy g_trustsAsked), (wi_rm104_2_3_0 rm cy g_gapAsked), (wi_rm105_2_4_0 rm cy g_redsAsked), (wi_rm106_2_6_0 rm cy g_numberAsked), (wi_rm107_2_4_0 rm cy g_wentAsked), (wi_rm108_2_4_0 rm cy g_harmAsked), (wi_rm109_2_4_0 rm cy g_kindofAsked), (wi_rm95_2_3_0 rm cy g_minAsked), (a_this, .inr (10, mfs rm x_taped v189 x_end v167 J2_c0_5 J2_c0_6 x_fault x_faultPlace x_namePlace x_awayTold x_away x_coded x_statements x_isCrossing x_textKind x_askSecond x_redMany x_isOpen x_lastGreen x_greenTo x_isCycleGreen x_stillGreen x_rowMany x_fitMany x_fitRules x_fitGreen x_undoable x_newest x_seeded x_qCoded J2_c0_113 J2_c0_114 x_qBase x_qPiled x_qAnswer x_qIsNew x_octets)), (wi_rm0_0_1600_0 rm cy g_tape)] H := hP
                              replace hD := k_D hP hD
                              obtain ⟨h190, h191, h192, h193, h194, h195, h196, h197, h198, h199⟩ := hw
                              replace hq := lf_p1 hq h199
                              refine lv_bipush (v := 40) hx hb dX10_qPartTold_105 rfl ?_
                              refine lv_icmp_ne (tgt := 117) hx hb dX10_qPartTold_107 rfl (fun c200 => ?_) (fun c200 => ?_)
                              · as_aux_lemma =>
                                  replace hq := lf_neg hq (lf_ne (lf_rf r187) (lf_lc 40 (40 : Int) rfl) c200)
                                  have h201 : ib x_qCoded 0 1617 := ⟨(h184).1, by have := (h184).2; have := hL0; have := (h186).2; have := (h107).1; omega⟩
                                  have h202 : ib x_qWaits 0 1617 := ⟨(h107).1, by have := (h107).2; have := hL0; have := (h186).2; have := (h201).1; omega⟩
                                  have h203 : ib x_qBase 0 1617 := ⟨(h108).1, by have := (h108).2; have := hL1; have := (h202).2; omega⟩
                                  have h204 : ib v189 3 1600 := ⟨by have := (h190).1; have := h195; have := (h182).1; omega, (h190).2⟩
                                  refine lv_iconst (v := (-1)) hx hb dX10_qPartTold_117 rfl ?_
                                  refine lv_istore (lv' := [(5, .int (-1)), (4, .int r164), (3, .int r127), (2, .int r114), (0, .ref a_this), (1, .int J2_l1)]) hx hb dX10_qPartTold_118 hl (Nat.le_of_ble_eq_true rfl) rfl (fun ls hl => ?_)
                                  refine lv_iload hx hb dX10_qPartTold_120 (lv_at hl 0 rfl) ?_
                                  refine lv_iconst (v := (-1)) hx hb dX10_qPartTold_122 rfl ?_
                                  refine lv_icmp_eq (tgt := 144) hx hb dX10_qPartTold_123 rfl (fun _ => ?_) (fun h9 => absurd (by decide) h9)
                                  refine lv_aload_n hx hb dX10_qPartTold_144 rfl (lv_at hl 4 rfl) ?_
                                  refine lv_bipush (v := 40) hx hb dX10_qPartTold_145 rfl ?_
                                  refine k_jvm hP hD hS hA [17, 18] [true, true, true, true, true, true, true, true, true, true, true, true, true, true, true, true, true] rfl rfl (by decide +kernel) 0 0 (Nat.le_of_ble_eq_true rfl) (Nat.le_of_ble_eq_true rfl) (fun hPc hDc => k_runV (As := [.int 40]) (rest := []) C0 hZ hS hA (s_X10_asksSign_a0_40 l dC dI cy sq a_this rm x_taped v189 x_end v167 J2_c0_5 J2_c0_6 x_fault x_faultPlace x_namePlace x_awayTold x_away x_coded x_statements x_isCrossing x_textKind x_askSecond x_redMany x_isOpen x_lastGreen x_greenTo x_isCycleGreen x_stillGreen x_rowMany x_fitMany x_fitRules x_fitGreen x_undoable x_newest x_seeded x_qCoded J2_c0_113 J2_c0_114 x_qBase x_qPiled x_qAnswer x_qIsNew x_octets g_tape (ib_w 0 1600 h204 rfl) (ib_w 0 1600 h162 rfl) hg_tape) mV_X10_358 hPc hDc rfl rfl rfl hl rfl rfl (Nat.le_of_ble_eq_true rfl) ⟨(Nat.le_of_ble_eq_true rfl), (Nat.le_of_ble_eq_true rfl)⟩ ⟨(Nat.le_of_ble_eq_true rfl), (Nat.le_of_ble_eq_true rfl)⟩ dX10_qPartTold_147) (fun u206 H locs hw hP hD hS => ?_)
                                  obtain ⟨v207, v208, v209⟩ := u206
                                  try dsimp only at hP hD hw
                                  replace hP : va_P (dC, dI) vwCl [(wi_rm112_0_1700_0 rm cy J2_a16), (wi_rm96_2_3_0 rm cy g_maxAsked), (wi_rm110_0_1700_0 rm cy g_qCodes), (wi_rm97_2_6_0 rm cy g_secondAsked), (wi_rm98_2_3_0 rm cy g_dayAsked), (wi_rm99_2_5_0 rm cy g_phaseAsked), (wi_rm100_2_6_0 rm cy g_waitedAsked), (wi_rm101_2_4_0 rm cy g_calmAsked), (wi_rm102_2_4_0 rm cy g_paceAsked), (wi_rm103_2_6_0 rm cy g_trustsAsked), (wi_rm104_2_3_0 rm cy g_gapAsked), (wi_rm105_2_4_0 rm cy g_redsAsked), (wi_rm106_2_6_0 rm cy g_numberAsked), (wi_rm107_2_4_0 rm cy g_wentAsked), (wi_rm108_2_4_0 rm cy g_harmAsked), (wi_rm109_2_4_0 rm cy g_kindofAsked), (wi_rm95_2_3_0 rm cy g_minAsked), (a_this, .inr (10, mfs rm x_taped v207 x_end v167 v208 v209 x_fault x_faultPlace x_namePlace x_awayTold x_away x_coded x_statements x_isCrossing x_textKind x_askSecond x_redMany x_isOpen x_lastGreen x_greenTo x_isCycleGreen x_stillGreen x_rowMany x_fitMany x_fitRules x_fitGreen x_undoable x_newest x_seeded x_qCoded J2_c0_113 J2_c0_114 x_qBase x_qPiled x_qAnswer x_qIsNew x_octets)), (wi_rm0_0_1600_0 rm cy g_tape)] H := hP
                                  replace hD := k_D hP hD
                                  obtain ⟨h210, h211, h212, h213, h214⟩ := hw
                                  replace hq := lf_p1 hq h214
                                  replace hq := lf_p1 hq rfl
                                  refine lv_goto (tgt := 183) hx hb dX10_qPartTold_150 rfl ?_
                                  refine lv_goto (tgt := 2) hx hb dX10_qPartTold_183 rfl ?_
                                  exact ih2 v207 v167 v208 v209 J2_c0_113 J2_c0_114 J2_a16 J2_l1 H locs ls (ib_w 0 1621 h201 rfl) (ib_w 0 1621 h203 rfl) (ib_w 0 1600 h210 rfl) (ib_w 0 1621 h185 rfl) (ib_w 0 1 h105 rfl) (by have := h113; have := (h181).2; have := h122; have := h132; have := h151; have := h180; have := h195; have := h212; have := (h210).1; omega) (by have := hJ2_lin1; omega) (by have := (h210).1; have := h212; have := h195; have := h180; have := h151; have := h132; have := h122; have := (h181).2; have := hJ2_lin2; omega) (by have := (h210).1; have := h212; have := h195; have := h180; have := h151; have := h132; have := h122; have := hJ2_lin3; have := (h186).2; omega) (fun _ => ib_one hx_bad rfl) (⟨fun q => (hJ2_go.1 (h211 q)), fun q9 => (by have := h113; have := (h181).2; have := h122; have := h132; have := h151; have := h180; have := h195; have := (h213 q9); have := (h210).1; omega)⟩) (by rw [← hK2]; exact hq) (by have z0 := stq_0 (a := J2_l1) (b := J2_c0_5) (ib_nz h105 rfl) (ib_one h112 rfl); by_cases q8 : v208 = 0; exact (by have z1 := stq_le J2_l1 v208; have := (h181).2; have := h122; have := h132; have := h151; have := h180; have := h195; have := (h213 q8); have := (h210).1; omega); exact (by have z2 := stq_1 (a := J2_l1) (b := v208) (Or.inr q8); have := (h181).2; have := h122; have := h132; have := h151; have := h180; have := h195; have := h212; have := (h210).1; omega)) (hP.sub [17, 18, 3, 4, 5, 6, 7, 8, 9, 10, 11, 12, 13, 14, 15, 16, 0, 1, 2] rfl) (hD.sub [17, 18, 3, 4, 5, 6, 7, 8, 9, 10, 11, 12, 13, 14, 15, 16, 0, 1, 2] (by decide +kernel) rfl) hS (lv_sub hl [4, 5] rfl)
                              · as_aux_lemma =>
                                  replace hq := lf_pos hq (lf_eq (lf_rf r187) (lf_lc 40 (40 : Int) rfl) c200)
                                  have h215 := ib_eq h191 (ib_c 40 40 40 rfl) c200
                                  have h216 : ib r187 40 40 := ib_w 40 40 h215.1 rfl
                                  have h217 : ib x_qCoded 0 1617 := ⟨(h184).1, by have := (h184).2; have := hL0; have := (h186).2; have := (h107).1; omega⟩
                                  have h218 : ib x_qWaits 0 1617 := ⟨(h107).1, by have := (h107).2; have := hL0; have := (h186).2; have := (h217).1; omega⟩
                                  have h219 : ib x_qBase 0 1617 := ⟨(h108).1, by have := (h108).2; have := hL1; have := (h218).2; omega⟩
                                  have h220 : ib v189 3 1600 := ⟨by have := (h190).1; have := h195; have := (h182).1; omega, (h190).2⟩
                                  have h221 : ib v189 3 1599 := ib_w 3 1599 (ib_two h220 (h192 (ib_nc (-1) h216 rfl))) rfl
                                  have h222 : ib v166 3 1599 := ib_w 3 1599 (ib_two h182 (h193 (ib_nc (-1) h216 rfl))) rfl
                                  have h223 : ib v144 0 1596 := ⟨(h160).1, by have := (h160).2; have := h180; have := (h222).2; omega⟩
                                  refine lv_aload_n hx hb dX10_qPartTold_110 rfl (lv_at hl 3 rfl) ?_
                                  refine k_get C0 fg_X10_285 hP 17 rfl rfl dX10_qPartTold_111 ?_
                                  refine lv_goto (tgt := 118) hx hb dX10_qPartTold_114 rfl ?_
                                  refine lv_istore (lv' := [(5, .int v189), (4, .int r164), (3, .int r127), (2, .int r114), (0, .ref a_this), (1, .int J2_l1)]) hx hb dX10_qPartTold_118 hl (Nat.le_of_ble_eq_true rfl) rfl (fun ls hl => ?_)
                                  refine lv_iload hx hb dX10_qPartTold_120 (lv_at hl 0 rfl) ?_
                                  refine lv_iconst (v := (-1)) hx hb dX10_qPartTold_122 rfl ?_
                                  refine lv_icmp_eq (tgt := 144) hx hb dX10_qPartTold_123 rfl (fun c224 => ?_) (fun c224 => ?_)
                                  · skip
                                    have h225 := ib_eq h221 (ib_c (-1) (-1) (-1) rfl) c224
                                    exact ib_no (ib_w 3 (-1) h225.1 rfl) rfl
                                  · as_aux_lemma =>
                                      skip
                                      have h226 : ib v129 0 1596 := ⟨(h161).1, by have := (h161).2; have := h151; have := (h223).2; omega⟩
                                      refine lv_aload_n hx hb dX10_qPartTold_126 rfl (lv_at hl 4 rfl) ?_
                                      refine lv_iload hx hb dX10_qPartTold_127 (lv_at hl 1 rfl) ?_
                                      refine lv_if_eq (tgt := 137) hx hb dX10_qPartTold_129 rfl (fun c227 => ?_) (fun c227 => ?_)
                                      · skip
                                        exact absurd c227 c178
                                      · as_aux_lemma =>
                                          skip
                                          have h228 := h176 (ib_nz h179 rfl)
                                          have h229 : ib v116 0 1596 := ⟨(h163).1, by have := (h163).2; have := h132; have := (h226).2; omega⟩
                                          have h230 : ib J2_c0_2 0 1596 := ⟨(h181).1, by have := (h181).2; have := h122; have := (h229).2; omega⟩
                                          refine lv_bipush (v := 21) hx hb dX10_qPartTold_132 rfl ?_
                                          refine lv_goto (tgt := 139) hx hb dX10_qPartTold_134 rfl ?_
                                          refine lv_iload hx hb dX10_qPartTold_139 (lv_at hl 0 rfl) ?_
                                          refine k_jvm hP hD hS hA [17, 0] [false, true, true, true, true, true, true, true, true, true, true, true, true, true, true, true, true, false, true] rfl rfl (by decide +kernel) 0 0 (Nat.le_of_ble_eq_true rfl) (Nat.le_of_ble_eq_true rfl) (fun hPc hDc => k_runV (As := [.int 21, .int v189]) (rest := []) C0 hZ hS hA (s_X10_qOpens_a0_21 l dC dI cy sq a_this rm x_taped v189 x_end v167 J2_c0_5 J2_c0_6 x_fault x_faultPlace x_namePlace x_awayTold x_away x_coded x_statements x_isCrossing x_textKind x_askSecond x_redMany x_isOpen x_lastGreen x_greenTo x_isCycleGreen x_stillGreen x_rowMany x_fitMany x_fitRules x_fitGreen x_undoable x_newest x_seeded x_qCoded J2_c0_113 J2_c0_114 x_qBase x_qPiled x_qAnswer x_qIsNew x_octets J2_a16 v189 (ib_w 0 1699 h185 rfl)) mV_X10_626 hPc hDc rfl rfl rfl hl rfl rfl (Nat.le_of_ble_eq_true rfl) ⟨(Nat.le_of_ble_eq_true rfl), (Nat.le_of_ble_eq_true rfl)⟩ ⟨(Nat.le_of_ble_eq_true rfl), (Nat.le_of_ble_eq_true rfl)⟩ dX10_qPartTold_141) (fun u232 H locs hw hP hD hS => ?_)
                                          obtain ⟨v233, v234, v235, v236, f237⟩ := u232
                                          try dsimp only at hP hD hw
                                          replace hP : va_P (dC, dI) vwCl [(wi_rm96_2_3_0 rm cy g_maxAsked), (wi_rm110_0_1700_0 rm cy g_qCodes), (wi_rm97_2_6_0 rm cy g_secondAsked), (wi_rm98_2_3_0 rm cy g_dayAsked), (wi_rm99_2_5_0 rm cy g_phaseAsked), (wi_rm100_2_6_0 rm cy g_waitedAsked), (wi_rm101_2_4_0 rm cy g_calmAsked), (wi_rm102_2_4_0 rm cy g_paceAsked), (wi_rm103_2_6_0 rm cy g_trustsAsked), (wi_rm104_2_3_0 rm cy g_gapAsked), (wi_rm105_2_4_0 rm cy g_redsAsked), (wi_rm106_2_6_0 rm cy g_numberAsked), (wi_rm107_2_4_0 rm cy g_wentAsked), (wi_rm108_2_4_0 rm cy g_harmAsked), (wi_rm109_2_4_0 rm cy g_kindofAsked), (wi_rm95_2_3_0 rm cy g_minAsked), (wi_rm0_0_1600_0 rm cy g_tape), (a_this, .inr (10, mfs rm x_taped v189 x_end v167 v233 v234 x_fault x_faultPlace x_namePlace x_awayTold x_away x_coded x_statements x_isCrossing x_textKind x_askSecond x_redMany x_isOpen x_lastGreen x_greenTo x_isCycleGreen x_stillGreen x_rowMany x_fitMany x_fitRules x_fitGreen x_undoable x_newest x_seeded x_qCoded v235 v236 x_qBase x_qPiled x_qAnswer x_qIsNew x_octets)), (wi_rm112_0_1700_0 rm cy f237)] H := hP
                                          replace hD := k_D hP hD
                                          obtain ⟨h238, h239, h240, h241, h242, h243⟩ := hw
                                          replace hq := lf_p1 hq h243
                                          replace hq := lf_p1 hq rfl
                                          replace hq := lf_p1 hq rfl
                                          replace hq := lf_p1 hq rfl
                                          have h244 : v233 = 0 → GS g_qCodes x_qCoded f237 v235 x_qBase x_textKind cc := fun q => (by rw [(h242 q).1]; exact GS_open (hJ2_go.1 (h239 q)) (by have := (h242 q).2; omega) (by decide))
                                          refine lv_aload_n hx hb dX10_qPartTold_144 rfl (lv_at hl 4 rfl) ?_
                                          refine lv_bipush (v := 40) hx hb dX10_qPartTold_145 rfl ?_
                                          refine k_jvm hP hD hS hA [17, 16] [true, true, true, true, true, true, true, true, true, true, true, true, true, true, true, true, false, false, true] rfl rfl (by decide +kernel) 0 0 (Nat.le_of_ble_eq_true rfl) (Nat.le_of_ble_eq_true rfl) (fun hPc hDc => k_runV (As := [.int 40]) (rest := []) C0 hZ hS hA (s_X10_asksSign_a0_40 l dC dI cy sq a_this rm x_taped v189 x_end v167 v233 v234 x_fault x_faultPlace x_namePlace x_awayTold x_away x_coded x_statements x_isCrossing x_textKind x_askSecond x_redMany x_isOpen x_lastGreen x_greenTo x_isCycleGreen x_stillGreen x_rowMany x_fitMany x_fitRules x_fitGreen x_undoable x_newest x_seeded x_qCoded v235 v236 x_qBase x_qPiled x_qAnswer x_qIsNew x_octets g_tape (ib_w 0 1600 h221 rfl) (ib_w 0 1600 h162 rfl) hg_tape) mV_X10_358 hPc hDc rfl rfl rfl hl rfl rfl (Nat.le_of_ble_eq_true rfl) ⟨(Nat.le_of_ble_eq_true rfl), (Nat.le_of_ble_eq_true rfl)⟩ ⟨(Nat.le_of_ble_eq_true rfl), (Nat.le_of_ble_eq_true rfl)⟩ dX10_qPartTold_147) (fun u246 H locs hw hP hD hS => ?_)
                                          obtain ⟨v247, v248, v249⟩ := u246
                                          try dsimp only at hP hD hw
                                          replace hP : va_P (dC, dI) vwCl [(wi_rm96_2_3_0 rm cy g_maxAsked), (wi_rm110_0_1700_0 rm cy g_qCodes), (wi_rm97_2_6_0 rm cy g_secondAsked), (wi_rm98_2_3_0 rm cy g_dayAsked), (wi_rm99_2_5_0 rm cy g_phaseAsked), (wi_rm100_2_6_0 rm cy g_waitedAsked), (wi_rm101_2_4_0 rm cy g_calmAsked), (wi_rm102_2_4_0 rm cy g_paceAsked), (wi_rm103_2_6_0 rm cy g_trustsAsked), (wi_rm104_2_3_0 rm cy g_gapAsked), (wi_rm105_2_4_0 rm cy g_redsAsked), (wi_rm106_2_6_0 rm cy g_numberAsked), (wi_rm107_2_4_0 rm cy g_wentAsked), (wi_rm108_2_4_0 rm cy g_harmAsked), (wi_rm109_2_4_0 rm cy g_kindofAsked), (wi_rm95_2_3_0 rm cy g_minAsked), (wi_rm112_0_1700_0 rm cy f237), (a_this, .inr (10, mfs rm x_taped v247 x_end v167 v248 v249 x_fault x_faultPlace x_namePlace x_awayTold x_away x_coded x_statements x_isCrossing x_textKind x_askSecond x_redMany x_isOpen x_lastGreen x_greenTo x_isCycleGreen x_stillGreen x_rowMany x_fitMany x_fitRules x_fitGreen x_undoable x_newest x_seeded x_qCoded v235 v236 x_qBase x_qPiled x_qAnswer x_qIsNew x_octets)), (wi_rm0_0_1600_0 rm cy g_tape)] H := hP
                                          replace hD := k_D hP hD
                                          obtain ⟨h250, h251, h252, h253, h254⟩ := hw
                                          replace hq := lf_p1 hq h254
                                          replace hq := lf_p1 hq rfl
                                          refine lv_goto (tgt := 183) hx hb dX10_qPartTold_150 rfl ?_
                                          refine lv_goto (tgt := 2) hx hb dX10_qPartTold_183 rfl ?_
                                          exact ih2 v247 v167 v248 v249 v235 v236 f237 J2_l1 H locs ls (ib_w 0 1621 h217 rfl) (ib_w 0 1621 h219 rfl) (ib_w 0 1600 h250 rfl) ⟨by have := (h238).1; omega, by have := (h185).2; have := h240; have := (h238).2; omega⟩ (ib_w 0 1 h105 rfl) (by have := h113; have := (h230).2; have := h122; have := h132; have := h151; have := h180; have := h195; have := h252; have := (h250).1; have := h240; omega) (by have := h241; have := hJ2_lin1; omega) (by have := (h250).1; have := h252; have := h195; have := h180; have := h151; have := h132; have := h122; have := (h230).2; have := hJ2_lin2; have := h240; omega) (by have := (h250).1; have := h252; have := h195; have := h180; have := h151; have := h132; have := h122; have := hJ2_lin3; have := (h186).2; omega) (fun _ => ib_one hx_bad rfl) (⟨fun q => (h244 (h251 q)), fun q9 => (by have := h113; have := (h230).2; have := h122; have := h240; have := h132; have := h151; have := h180; have := h195; have := (h253 q9); have := (h250).1; omega)⟩) (by rw [← hK2]; exact hq) (by have z0 := stq_0 (a := J2_l1) (b := J2_c0_5) (ib_nz h105 rfl) (ib_one h112 rfl); by_cases q8 : v248 = 0; exact (by have z1 := stq_le J2_l1 v248; have := (h230).2; have := h122; have := h132; have := h151; have := h180; have := h195; have := (h253 q8); have := (h250).1; omega); exact (by have z2 := stq_1 (a := J2_l1) (b := v248) (Or.inr q8); have := (h230).2; have := h122; have := h132; have := h151; have := h180; have := h195; have := h252; have := (h250).1; omega)) (hP.sub [17, 18, 2, 3, 4, 5, 6, 7, 8, 9, 10, 11, 12, 13, 14, 15, 16, 0, 1] rfl) (hD.sub [17, 18, 2, 3, 4, 5, 6, 7, 8, 9, 10, 11, 12, 13, 14, 15, 16, 0, 1] (by decide +kernel) rfl) hS (lv_sub hl [4, 5] rfl)
                          · as_aux_lemma =>
                              replace hq := lf_pos hq (lf_eq (lf_rf r164) (lf_lc 0 (0 : Int) rfl) c178)
                              have h255 := ib_eq h169 (ib_c 0 0 0 rfl) c178
                              have h256 : ib r164 0 0 := ib_w 0 0 h255.1 rfl
                              have h257 : ib J2_c0_2 0 1597 := ⟨(hJ2_c0_2).1, by have := (hJ2_c0_2).2; have := h122; have := (h163).2; omega⟩
                              have h258 : ib x_qCoded 0 1618 := ⟨(h106).1, by have := (h106).2; have := hJ2_lin2; have := (h257).2; have := (hJ2_c0_113).1; omega⟩
                              have h259 : ib J2_c0_113 0 1618 := ⟨(hJ2_c0_113).1, by have := (hJ2_c0_113).2; have := hJ2_lin2; have := (h258).1; have := (h257).2; omega⟩
                              have h260 : ib x_at 0 1597 := ⟨(hx_at).1, by have := (hx_at).2; have := hJ2_lin3; have := (h257).2; omega⟩
                              refine lv_aload_n hx hb dX10_qPartTold_93 rfl (lv_at hl 3 rfl) ?_
                              refine lv_aload_n hx hb dX10_qPartTold_94 rfl (lv_at hl 3 rfl) ?_
                              refine k_get C0 fg_X10_222 hP 16 rfl rfl dX10_qPartTold_95 ?_
                              refine k_jvm hP hD hS hA [16, 17, 1] [true, false, true, true, true, true, true, true, true, true, true, true, true, true, true, true, false, false, true] rfl rfl (by decide +kernel) 0 0 (Nat.le_of_ble_eq_true rfl) (Nat.le_of_ble_eq_true rfl) (fun hPc hDc => k_runV (As := [.ref (rm 96)]) (rest := []) C0 hZ hS hA (s_X10_asks l dC dI cy sq a_this rm x_taped v166 x_end v167 J2_c0_5 J2_c0_6 x_fault x_faultPlace x_namePlace x_awayTold x_away x_coded x_statements x_isCrossing x_textKind x_askSecond x_redMany x_isOpen x_lastGreen x_greenTo x_isCycleGreen x_stillGreen x_rowMany x_fitMany x_fitRules x_fitGreen x_undoable x_newest x_seeded x_qCoded J2_c0_113 J2_c0_114 x_qBase x_qPiled x_qAnswer x_qIsNew x_octets g_tape (rm 96) g_maxAsked (ib_w 0 1600 h168 rfl) (ib_w 0 1600 h162 rfl) hg_tape) mV_X10_350 hPc hDc rfl rfl rfl hl rfl rfl (Nat.le_of_ble_eq_true rfl) ⟨(Nat.le_of_ble_eq_true rfl), (Nat.le_of_ble_eq_true rfl)⟩ ⟨(Nat.le_of_ble_eq_true rfl), (Nat.le_of_ble_eq_true rfl)⟩ dX10_qPartTold_98) (fun u262 H locs hw hP hD hS => ?_)
                              obtain ⟨v263, v264, v265, v266⟩ := u262
                              try dsimp only at hP hD hw
                              replace hP : va_P (dC, dI) vwCl [(wi_rm112_0_1700_0 rm cy J2_a16), (wi_rm110_0_1700_0 rm cy g_qCodes), (wi_rm97_2_6_0 rm cy g_secondAsked), (wi_rm98_2_3_0 rm cy g_dayAsked), (wi_rm99_2_5_0 rm cy g_phaseAsked), (wi_rm100_2_6_0 rm cy g_waitedAsked), (wi_rm101_2_4_0 rm cy g_calmAsked), (wi_rm102_2_4_0 rm cy g_paceAsked), (wi_rm103_2_6_0 rm cy g_trustsAsked), (wi_rm104_2_3_0 rm cy g_gapAsked), (wi_rm105_2_4_0 rm cy g_redsAsked), (wi_rm106_2_6_0 rm cy g_numberAsked), (wi_rm107_2_4_0 rm cy g_wentAsked), (wi_rm108_2_4_0 rm cy g_harmAsked), (wi_rm109_2_4_0 rm cy g_kindofAsked), (wi_rm95_2_3_0 rm cy g_minAsked), (a_this, .inr (10, mfs rm x_taped v263 x_end v264 v265 v266 x_fault x_faultPlace x_namePlace x_awayTold x_away x_coded x_statements x_isCrossing x_textKind x_askSecond x_redMany x_isOpen x_lastGreen x_greenTo x_isCycleGreen x_stillGreen x_rowMany x_fitMany x_fitRules x_fitGreen x_undoable x_newest x_seeded x_qCoded J2_c0_113 J2_c0_114 x_qBase x_qPiled x_qAnswer x_qIsNew x_octets)), (wi_rm0_0_1600_0 rm cy g_tape), (wi_rm96_2_3_0 rm cy g_maxAsked)] H := hP
                              replace hD := k_D hP hD
                              obtain ⟨h267, h268, h269, h270, h271⟩ := hw
                              replace hq := lf_p1 hq h271
                              replace hq := lf_p1 hq rfl
                              replace hq := lf_p1 hq rfl
                              refine lv_aload_n hx hb dX10_qPartTold_101 rfl (lv_at hl 3 rfl) ?_
                              refine k_jim hP hD hS hA [16, 17] [true, true, true, true, true, true, true, true, true, true, true, true, true, true, true, true, false, false, true] rfl rfl (by decide +kernel) 0 0 (Nat.le_of_ble_eq_true rfl) (Nat.le_of_ble_eq_true rfl) (fun hPc hDc => k_runV (As := []) (rest := []) C0 hZ hS hA (s_X10_look l dC dI cy sq a_this rm x_taped v263 x_end v264 v265 v266 x_fault x_faultPlace x_namePlace x_awayTold x_away x_coded x_statements x_isCrossing x_textKind x_askSecond x_redMany x_isOpen x_lastGreen x_greenTo x_isCycleGreen x_stillGreen x_rowMany x_fitMany x_fitRules x_fitGreen x_undoable x_newest x_seeded x_qCoded J2_c0_113 J2_c0_114 x_qBase x_qPiled x_qAnswer x_qIsNew x_octets g_tape (ib_w 0 1600 h267 rfl) (ib_w 0 1600 h162 rfl) hg_tape) mV_X10_291 hPc hDc rfl rfl rfl hl rfl rfl (Nat.le_of_ble_eq_true rfl) ⟨(Nat.le_of_ble_eq_true rfl), (Nat.le_of_ble_eq_true rfl)⟩ ⟨(Nat.le_of_ble_eq_true rfl), (Nat.le_of_ble_eq_true rfl)⟩ dX10_qPartTold_102) (fun r272 u273 H locs hw hP hD hS => ?_)
                              obtain ⟨v274, ev274⟩ : ∃ z, z = u273 := ⟨_, rfl⟩; subst ev274
                              try dsimp only at hP hD hw
                              replace hP : va_P (dC, dI) vwCl [(wi_rm112_0_1700_0 rm cy J2_a16), (wi_rm110_0_1700_0 rm cy g_qCodes), (wi_rm97_2_6_0 rm cy g_secondAsked), (wi_rm98_2_3_0 rm cy g_dayAsked), (wi_rm99_2_5_0 rm cy g_phaseAsked), (wi_rm100_2_6_0 rm cy g_waitedAsked), (wi_rm101_2_4_0 rm cy g_calmAsked), (wi_rm102_2_4_0 rm cy g_paceAsked), (wi_rm103_2_6_0 rm cy g_trustsAsked), (wi_rm104_2_3_0 rm cy g_gapAsked), (wi_rm105_2_4_0 rm cy g_redsAsked), (wi_rm106_2_6_0 rm cy g_numberAsked), (wi_rm107_2_4_0 rm cy g_wentAsked), (wi_rm108_2_4_0 rm cy g_harmAsked), (wi_rm109_2_4_0 rm cy g_kindofAsked), (wi_rm95_2_3_0 rm cy g_minAsked), (wi_rm96_2_3_0 rm cy g_maxAsked), (a_this, .inr (10, mfs rm x_taped v274 x_end v264 v265 v266 x_fault x_faultPlace x_namePlace x_awayTold x_away x_coded x_statements x_isCrossing x_textKind x_askSecond x_redMany x_isOpen x_lastGreen x_greenTo x_isCycleGreen x_stillGreen x_rowMany x_fitMany x_fitRules x_fitGreen x_undoable x_newest x_seeded x_qCoded J2_c0_113 J2_c0_114 x_qBase x_qPiled x_qAnswer x_qIsNew x_octets)), (wi_rm0_0_1600_0 rm cy g_tape)] H := hP
                              replace hD := k_D hP hD
                              obtain ⟨h275, h276, h277, h278, h279, h280, h281, h282, h283, h284⟩ := hw
                              replace hq := lf_p1 hq h284
                              refine lv_bipush (v := 40) hx hb dX10_qPartTold_105 rfl ?_
                              refine lv_icmp_ne (tgt := 117) hx hb dX10_qPartTold_107 rfl (fun c285 => ?_) (fun c285 => ?_)
                              · as_aux_lemma =>
                                  replace hq := lf_neg hq (lf_ne (lf_rf r272) (lf_lc 40 (40 : Int) rfl) c285)
                                  have h286 : ib x_qCoded 0 1617 := ⟨(h258).1, by have := (h258).2; have := hL0; have := (h260).2; have := (h107).1; omega⟩
                                  have h287 : ib x_qWaits 0 1617 := ⟨(h107).1, by have := (h107).2; have := hL0; have := (h260).2; have := (h286).1; omega⟩
                                  have h288 : ib x_qBase 0 1617 := ⟨(h108).1, by have := (h108).2; have := hL1; have := (h287).2; omega⟩
                                  refine lv_iconst (v := (-1)) hx hb dX10_qPartTold_117 rfl ?_
                                  refine lv_istore (lv' := [(5, .int (-1)), (4, .int r164), (3, .int r127), (2, .int r114), (0, .ref a_this), (1, .int J2_l1)]) hx hb dX10_qPartTold_118 hl (Nat.le_of_ble_eq_true rfl) rfl (fun ls hl => ?_)
                                  refine lv_iload hx hb dX10_qPartTold_120 (lv_at hl 0 rfl) ?_
                                  refine lv_iconst (v := (-1)) hx hb dX10_qPartTold_122 rfl ?_
                                  refine lv_icmp_eq (tgt := 144) hx hb dX10_qPartTold_123 rfl (fun _ => ?_) (fun h9 => absurd (by decide) h9)
                                  refine lv_aload_n hx hb dX10_qPartTold_144 rfl (lv_at hl 4 rfl) ?_
                                  refine lv_bipush (v := 40) hx hb dX10_qPartTold_145 rfl ?_
                                  refine k_jvm hP hD hS hA [17, 18] [true, true, true, true, true, true, true, true, true, true, true, true, true, true, true, true, true] rfl rfl (by decide +kernel) 0 0 (Nat.le_of_ble_eq_true rfl) (Nat.le_of_ble_eq_true rfl) (fun hPc hDc => k_runV (As := [.int 40]) (rest := []) C0 hZ hS hA (s_X10_asksSign_a0_40 l dC dI cy sq a_this rm x_taped v274 x_end v264 v265 v266 x_fault x_faultPlace x_namePlace x_awayTold x_away x_coded x_statements x_isCrossing x_textKind x_askSecond x_redMany x_isOpen x_lastGreen x_greenTo x_isCycleGreen x_stillGreen x_rowMany x_fitMany x_fitRules x_fitGreen x_undoable x_newest x_seeded x_qCoded J2_c0_113 J2_c0_114 x_qBase x_qPiled x_qAnswer x_qIsNew x_octets g_tape (ib_w 0 1600 h275 rfl) (ib_w 0 1600 h162 rfl) hg_tape) mV_X10_358 hPc hDc rfl rfl rfl hl rfl rfl (Nat.le_of_ble_eq_true rfl) ⟨(Nat.le_of_ble_eq_true rfl), (Nat.le_of_ble_eq_true rfl)⟩ ⟨(Nat.le_of_ble_eq_true rfl), (Nat.le_of_ble_eq_true rfl)⟩ dX10_qPartTold_147) (fun u290 H locs hw hP hD hS => ?_)
                                  obtain ⟨v291, v292, v293⟩ := u290
                                  try dsimp only at hP hD hw
                                  replace hP : va_P (dC, dI) vwCl [(wi_rm112_0_1700_0 rm cy J2_a16), (wi_rm110_0_1700_0 rm cy g_qCodes), (wi_rm97_2_6_0 rm cy g_secondAsked), (wi_rm98_2_3_0 rm cy g_dayAsked), (wi_rm99_2_5_0 rm cy g_phaseAsked), (wi_rm100_2_6_0 rm cy g_waitedAsked), (wi_rm101_2_4_0 rm cy g_calmAsked), (wi_rm102_2_4_0 rm cy g_paceAsked), (wi_rm103_2_6_0 rm cy g_trustsAsked), (wi_rm104_2_3_0 rm cy g_gapAsked), (wi_rm105_2_4_0 rm cy g_redsAsked), (wi_rm106_2_6_0 rm cy g_numberAsked), (wi_rm107_2_4_0 rm cy g_wentAsked), (wi_rm108_2_4_0 rm cy g_harmAsked), (wi_rm109_2_4_0 rm cy g_kindofAsked), (wi_rm95_2_3_0 rm cy g_minAsked), (wi_rm96_2_3_0 rm cy g_maxAsked), (a_this, .inr (10, mfs rm x_taped v291 x_end v264 v292 v293 x_fault x_faultPlace x_namePlace x_awayTold x_away x_coded x_statements x_isCrossing x_textKind x_askSecond x_redMany x_isOpen x_lastGreen x_greenTo x_isCycleGreen x_stillGreen x_rowMany x_fitMany x_fitRules x_fitGreen x_undoable x_newest x_seeded x_qCoded J2_c0_113 J2_c0_114 x_qBase x_qPiled x_qAnswer x_qIsNew x_octets)), (wi_rm0_0_1600_0 rm cy g_tape)] H := hP
                                  replace hD := k_D hP hD
                                  obtain ⟨h294, h295, h296, h297, h298⟩ := hw
                                  replace hq := lf_p1 hq h298
                                  replace hq := lf_p1 hq rfl
                                  refine lv_goto (tgt := 183) hx hb dX10_qPartTold_150 rfl ?_
                                  refine lv_goto (tgt := 2) hx hb dX10_qPartTold_183 rfl ?_
                                  exact ih2 v291 v264 v292 v293 J2_c0_113 J2_c0_114 J2_a16 J2_l1 H locs ls (ib_w 0 1621 h286 rfl) (ib_w 0 1621 h288 rfl) (ib_w 0 1600 h294 rfl) (ib_w 0 1621 h259 rfl) (ib_w 0 1 h105 rfl) (by have := h113; have := (h257).2; have := h122; have := h132; have := h151; have := h175; have := h269; have := h280; have := h296; have := (h294).1; omega) (by have := hJ2_lin1; omega) (by have := (h294).1; have := h296; have := h280; have := h269; have := h175; have := h151; have := h132; have := h122; have := (h257).2; have := hJ2_lin2; omega) (by have := (h294).1; have := h296; have := h280; have := h269; have := h175; have := h151; have := h132; have := h122; have := hJ2_lin3; have := (h260).2; omega) (fun _ => ib_one hx_bad rfl) (⟨fun q => (hJ2_go.1 (h268 (h295 q))), fun q9 => (by have := h113; have := (h257).2; have := h122; have := h132; have := h151; have := h175; have := (h270 (h295 q9)); have := h280; have := (h297 q9); have := (h294).1; omega)⟩) (by rw [← hK2]; exact hq) (by have z0 := stq_0 (a := J2_l1) (b := J2_c0_5) (ib_nz h105 rfl) (ib_one h112 rfl); by_cases q8 : v292 = 0; exact (by have z1 := stq_le J2_l1 v292; have := (h257).2; have := h122; have := h132; have := h151; have := h175; have := (h270 (h295 q8)); have := h280; have := (h297 q8); have := (h294).1; omega); exact (by have z2 := stq_1 (a := J2_l1) (b := v292) (Or.inr q8); have := (h257).2; have := h122; have := h132; have := h151; have := h175; have := h269; have := h280; have := h296; have := (h294).1; omega)) (hP.sub [17, 18, 2, 3, 4, 5, 6, 7, 8, 9, 10, 11, 12, 13, 14, 15, 0, 16, 1] rfl) (hD.sub [17, 18, 2, 3, 4, 5, 6, 7, 8, 9, 10, 11, 12, 13, 14, 15, 0, 16, 1] (by decide +kernel) rfl) hS (lv_sub hl [4, 5] rfl)
                              · as_aux_lemma =>
                                  replace hq := lf_pos hq (lf_eq (lf_rf r272) (lf_lc 40 (40 : Int) rfl) c285)
                                  have h299 := ib_eq h276 (ib_c 40 40 40 rfl) c285
                                  have h300 : ib r272 40 40 := ib_w 40 40 h299.1 rfl
                                  have h301 : ib x_qCoded 0 1617 := ⟨(h258).1, by have := (h258).2; have := hL0; have := (h260).2; have := (h107).1; omega⟩
                                  have h302 : ib x_qWaits 0 1617 := ⟨(h107).1, by have := (h107).2; have := hL0; have := (h260).2; have := (h301).1; omega⟩
                                  have h303 : ib x_qBase 0 1617 := ⟨(h108).1, by have := (h108).2; have := hL1; have := (h302).2; omega⟩
                                  have h304 : ib v274 0 1599 := ib_w 0 1599 (ib_two h275 (h277 (ib_nc (-1) h300 rfl))) rfl
                                  have h305 : ib v263 0 1599 := ib_w 0 1599 (ib_two h267 (h278 (ib_nc (-1) h300 rfl))) rfl
                                  have h306 : ib v166 0 1599 := ⟨(h168).1, by have := (h168).2; have := h269; have := (h305).2; omega⟩
                                  refine lv_aload_n hx hb dX10_qPartTold_110 rfl (lv_at hl 3 rfl) ?_
                                  refine k_get C0 fg_X10_285 hP 17 rfl rfl dX10_qPartTold_111 ?_
                                  refine lv_goto (tgt := 118) hx hb dX10_qPartTold_114 rfl ?_
                                  refine lv_istore (lv' := [(5, .int v274), (4, .int r164), (3, .int r127), (2, .int r114), (0, .ref a_this), (1, .int J2_l1)]) hx hb dX10_qPartTold_118 hl (Nat.le_of_ble_eq_true rfl) rfl (fun ls hl => ?_)
                                  refine lv_iload hx hb dX10_qPartTold_120 (lv_at hl 0 rfl) ?_
                                  refine lv_iconst (v := (-1)) hx hb dX10_qPartTold_122 rfl ?_
                                  refine lv_icmp_eq (tgt := 144) hx hb dX10_qPartTold_123 rfl (fun c307 => ?_) (fun c307 => ?_)
                                  · skip
                                    have h308 := ib_eq h304 (ib_c (-1) (-1) (-1) rfl) c307
                                    exact ib_no (ib_w 0 (-1) h308.1 rfl) rfl
                                  · as_aux_lemma =>
                                      skip
                                      refine lv_aload_n hx hb dX10_qPartTold_126 rfl (lv_at hl 4 rfl) ?_
                                      refine lv_iload hx hb dX10_qPartTold_127 (lv_at hl 1 rfl) ?_
                                      refine lv_if_eq (tgt := 137) hx hb dX10_qPartTold_129 rfl (fun c309 => ?_) (fun c309 => ?_)
                                      · as_aux_lemma =>
                                          skip
                                          have h310 := ib_eq h256 (ib_c 0 0 0 rfl) c309
                                          refine lv_bipush (v := 22) hx hb dX10_qPartTold_137 rfl ?_
                                          refine lv_iload hx hb dX10_qPartTold_139 (lv_at hl 0 rfl) ?_
                                          refine k_jvm hP hD hS hA [17, 0] [false, true, true, true, true, true, true, true, true, true, true, true, true, true, true, true, true, false, true] rfl rfl (by decide +kernel) 0 0 (Nat.le_of_ble_eq_true rfl) (Nat.le_of_ble_eq_true rfl) (fun hPc hDc => k_runV (As := [.int 22, .int v274]) (rest := []) C0 hZ hS hA (s_X10_qOpens_a0_22 l dC dI cy sq a_this rm x_taped v274 x_end v264 v265 v266 x_fault x_faultPlace x_namePlace x_awayTold x_away x_coded x_statements x_isCrossing x_textKind x_askSecond x_redMany x_isOpen x_lastGreen x_greenTo x_isCycleGreen x_stillGreen x_rowMany x_fitMany x_fitRules x_fitGreen x_undoable x_newest x_seeded x_qCoded J2_c0_113 J2_c0_114 x_qBase x_qPiled x_qAnswer x_qIsNew x_octets J2_a16 v274 (ib_w 0 1699 h259 rfl)) mV_X10_626 hPc hDc rfl rfl rfl hl rfl rfl (Nat.le_of_ble_eq_true rfl) ⟨(Nat.le_of_ble_eq_true rfl), (Nat.le_of_ble_eq_true rfl)⟩ ⟨(Nat.le_of_ble_eq_true rfl), (Nat.le_of_ble_eq_true rfl)⟩ dX10_qPartTold_141) (fun u312 H locs hw hP hD hS => ?_)
                                          obtain ⟨v313, v314, v315, v316, f317⟩ := u312
                                          try dsimp only at hP hD hw
                                          replace hP : va_P (dC, dI) vwCl [(wi_rm110_0_1700_0 rm cy g_qCodes), (wi_rm97_2_6_0 rm cy g_secondAsked), (wi_rm98_2_3_0 rm cy g_dayAsked), (wi_rm99_2_5_0 rm cy g_phaseAsked), (wi_rm100_2_6_0 rm cy g_waitedAsked), (wi_rm101_2_4_0 rm cy g_calmAsked), (wi_rm102_2_4_0 rm cy g_paceAsked), (wi_rm103_2_6_0 rm cy g_trustsAsked), (wi_rm104_2_3_0 rm cy g_gapAsked), (wi_rm105_2_4_0 rm cy g_redsAsked), (wi_rm106_2_6_0 rm cy g_numberAsked), (wi_rm107_2_4_0 rm cy g_wentAsked), (wi_rm108_2_4_0 rm cy g_harmAsked), (wi_rm109_2_4_0 rm cy g_kindofAsked), (wi_rm95_2_3_0 rm cy g_minAsked), (wi_rm96_2_3_0 rm cy g_maxAsked), (wi_rm0_0_1600_0 rm cy g_tape), (a_this, .inr (10, mfs rm x_taped v274 x_end v264 v313 v314 x_fault x_faultPlace x_namePlace x_awayTold x_away x_coded x_statements x_isCrossing x_textKind x_askSecond x_redMany x_isOpen x_lastGreen x_greenTo x_isCycleGreen x_stillGreen x_rowMany x_fitMany x_fitRules x_fitGreen x_undoable x_newest x_seeded x_qCoded v315 v316 x_qBase x_qPiled x_qAnswer x_qIsNew x_octets)), (wi_rm112_0_1700_0 rm cy f317)] H := hP
                                          replace hD := k_D hP hD
                                          obtain ⟨h318, h319, h320, h321, h322, h323⟩ := hw
                                          replace hq := lf_p1 hq h323
                                          replace hq := lf_p1 hq rfl
                                          replace hq := lf_p1 hq rfl
                                          replace hq := lf_p1 hq rfl
                                          have h324 : v313 = 0 → GS g_qCodes x_qCoded f317 v315 x_qBase x_textKind cc := fun q => (by rw [(h322 q).1]; exact GS_open (hJ2_go.1 (h268 (h319 q))) (by have := (h322 q).2; omega) (by decide))
                                          refine lv_aload_n hx hb dX10_qPartTold_144 rfl (lv_at hl 4 rfl) ?_
                                          refine lv_bipush (v := 40) hx hb dX10_qPartTold_145 rfl ?_
                                          refine k_jvm hP hD hS hA [17, 16] [true, true, true, true, true, true, true, true, true, true, true, true, true, true, true, true, false, false, true] rfl rfl (by decide +kernel) 0 0 (Nat.le_of_ble_eq_true rfl) (Nat.le_of_ble_eq_true rfl) (fun hPc hDc => k_runV (As := [.int 40]) (rest := []) C0 hZ hS hA (s_X10_asksSign_a0_40 l dC dI cy sq a_this rm x_taped v274 x_end v264 v313 v314 x_fault x_faultPlace x_namePlace x_awayTold x_away x_coded x_statements x_isCrossing x_textKind x_askSecond x_redMany x_isOpen x_lastGreen x_greenTo x_isCycleGreen x_stillGreen x_rowMany x_fitMany x_fitRules x_fitGreen x_undoable x_newest x_seeded x_qCoded v315 v316 x_qBase x_qPiled x_qAnswer x_qIsNew x_octets g_tape (ib_w 0 1600 h304 rfl) (ib_w 0 1600 h162 rfl) hg_tape) mV_X10_358 hPc hDc rfl rfl rfl hl rfl rfl (Nat.le_of_ble_eq_true rfl) ⟨(Nat.le_of_ble_eq_true rfl), (Nat.le_of_ble_eq_true rfl)⟩ ⟨(Nat.le_of_ble_eq_true rfl), (Nat.le_of_ble_eq_true rfl)⟩ dX10_qPartTold_147) (fun u326 H locs hw hP hD hS => ?_)
                                          obtain ⟨v327, v328, v329⟩ := u326
                                          try dsimp only at hP hD hw
                                          replace hP : va_P (dC, dI) vwCl [(wi_rm110_0_1700_0 rm cy g_qCodes), (wi_rm97_2_6_0 rm cy g_secondAsked), (wi_rm98_2_3_0 rm cy g_dayAsked), (wi_rm99_2_5_0 rm cy g_phaseAsked), (wi_rm100_2_6_0 rm cy g_waitedAsked), (wi_rm101_2_4_0 rm cy g_calmAsked), (wi_rm102_2_4_0 rm cy g_paceAsked), (wi_rm103_2_6_0 rm cy g_trustsAsked), (wi_rm104_2_3_0 rm cy g_gapAsked), (wi_rm105_2_4_0 rm cy g_redsAsked), (wi_rm106_2_6_0 rm cy g_numberAsked), (wi_rm107_2_4_0 rm cy g_wentAsked), (wi_rm108_2_4_0 rm cy g_harmAsked), (wi_rm109_2_4_0 rm cy g_kindofAsked), (wi_rm95_2_3_0 rm cy g_minAsked), (wi_rm96_2_3_0 rm cy g_maxAsked), (wi_rm112_0_1700_0 rm cy f317), (a_this, .inr (10, mfs rm x_taped v327 x_end v264 v328 v329 x_fault x_faultPlace x_namePlace x_awayTold x_away x_coded x_statements x_isCrossing x_textKind x_askSecond x_redMany x_isOpen x_lastGreen x_greenTo x_isCycleGreen x_stillGreen x_rowMany x_fitMany x_fitRules x_fitGreen x_undoable x_newest x_seeded x_qCoded v315 v316 x_qBase x_qPiled x_qAnswer x_qIsNew x_octets)), (wi_rm0_0_1600_0 rm cy g_tape)] H := hP
                                          replace hD := k_D hP hD
                                          obtain ⟨h330, h331, h332, h333, h334⟩ := hw
                                          replace hq := lf_p1 hq h334
                                          replace hq := lf_p1 hq rfl
                                          refine lv_goto (tgt := 183) hx hb dX10_qPartTold_150 rfl ?_
                                          refine lv_goto (tgt := 2) hx hb dX10_qPartTold_183 rfl ?_
                                          exact ih2 v327 v264 v328 v329 v315 v316 f317 J2_l1 H locs ls (ib_w 0 1621 h301 rfl) (ib_w 0 1621 h303 rfl) (ib_w 0 1600 h330 rfl) ⟨by have := (h318).1; omega, by have := (h259).2; have := h320; have := (h318).2; omega⟩ (ib_w 0 1 h105 rfl) (by have := h113; have := (h257).2; have := h122; have := h132; have := h151; have := h175; have := h269; have := h280; have := h332; have := (h330).1; have := h320; omega) (by have := h321; have := hJ2_lin1; omega) (by have := h332; have := h280; have := h269; have := h175; have := h151; have := h132; have := h122; have := hJ2_lin2; have := h113; have := hL0; have := h320; omega) (by have := (h330).1; have := h332; have := h280; have := h269; have := h175; have := h151; have := h132; have := h122; have := hJ2_lin3; have := (h260).2; omega) (fun _ => ib_one hx_bad rfl) (⟨fun q => (h324 (h331 q)), fun q9 => (by have := h113; have := (h257).2; have := h122; have := h320; have := h132; have := h151; have := h175; have := (h270 (h319 (h331 q9))); have := h280; have := (h333 q9); have := (h330).1; omega)⟩) (by rw [← hK2]; exact hq) (by have z0 := stq_0 (a := J2_l1) (b := J2_c0_5) (ib_nz h105 rfl) (ib_one h112 rfl); by_cases q8 : v328 = 0; exact (by have z1 := stq_le J2_l1 v328; have := (h257).2; have := h122; have := h132; have := h151; have := h175; have := (h270 (h319 (h331 q8))); have := h280; have := (h333 q8); have := (h330).1; omega); exact (by have z2 := stq_1 (a := J2_l1) (b := v328) (Or.inr q8); have := (h257).2; have := h122; have := h132; have := h151; have := h175; have := h269; have := h280; have := h332; have := (h330).1; omega)) (hP.sub [17, 18, 1, 2, 3, 4, 5, 6, 7, 8, 9, 10, 11, 12, 13, 14, 16, 15, 0] rfl) (hD.sub [17, 18, 1, 2, 3, 4, 5, 6, 7, 8, 9, 10, 11, 12, 13, 14, 16, 15, 0] (by decide +kernel) rfl) hS (lv_sub hl [4, 5] rfl)
                                      · skip
                                        exact absurd (ib_one h256 rfl) c309
                      · as_aux_lemma =>
                          replace hq := lf_pos hq (lf_eq (lf_rf r142) (lf_lc 0 (0 : Int) rfl) c158)
                          have h335 := ib_eq h146 (ib_c 0 0 0 rfl) c158
                          have h336 : ib r142 0 0 := ib_w 0 0 h335.1 rfl
                          refine lv_aload_n hx hb dX10_qPartTold_67 rfl (lv_at hl 2 rfl) ?_
                          refine lv_aload_n hx hb dX10_qPartTold_68 rfl (lv_at hl 2 rfl) ?_
                          refine k_get C0 fg_X10_222 hP 16 rfl rfl dX10_qPartTold_69 ?_
                          refine k_jim hP hD hS hA [16, 17, 1] [true, false, true, true, true, true, true, true, true, true, true, true, true, true, true, true, false, false, true] rfl rfl (by decide +kernel) 0 0 (Nat.le_of_ble_eq_true rfl) (Nat.le_of_ble_eq_true rfl) (fun hPc hDc => k_runV (As := [.ref (rm 96)]) (rest := []) C0 hZ hS hA (s_X10_isHere l dC dI cy sq a_this rm x_taped v144 x_end J2_c0_4 J2_c0_5 J2_c0_6 x_fault x_faultPlace x_namePlace x_awayTold x_away x_coded x_statements x_isCrossing x_textKind x_askSecond x_redMany x_isOpen x_lastGreen x_greenTo x_isCycleGreen x_stillGreen x_rowMany x_fitMany x_fitRules x_fitGreen x_undoable x_newest x_seeded x_qCoded J2_c0_113 J2_c0_114 x_qBase x_qPiled x_qAnswer x_qIsNew x_octets g_tape (rm 96) g_maxAsked (ib_w 0 1600 h145 rfl) (ib_w 0 1600 hx_end rfl) hg_tape) mV_X10_302 hPc hDc rfl rfl rfl hl rfl rfl (Nat.le_of_ble_eq_true rfl) ⟨(Nat.le_of_ble_eq_true rfl), (Nat.le_of_ble_eq_true rfl)⟩ ⟨(Nat.le_of_ble_eq_true rfl), (Nat.le_of_ble_eq_true rfl)⟩ dX10_qPartTold_72) (fun r337 u338 H locs hw hP hD hS => ?_)
                          obtain ⟨v339, ev339⟩ : ∃ z, z = u338 := ⟨_, rfl⟩; subst ev339
                          try dsimp only at hP hD hw
                          replace hP : va_P (dC, dI) vwCl [(wi_rm112_0_1700_0 rm cy J2_a16), (wi_rm110_0_1700_0 rm cy g_qCodes), (wi_rm97_2_6_0 rm cy g_secondAsked), (wi_rm98_2_3_0 rm cy g_dayAsked), (wi_rm99_2_5_0 rm cy g_phaseAsked), (wi_rm100_2_6_0 rm cy g_waitedAsked), (wi_rm101_2_4_0 rm cy g_calmAsked), (wi_rm102_2_4_0 rm cy g_paceAsked), (wi_rm103_2_6_0 rm cy g_trustsAsked), (wi_rm104_2_3_0 rm cy g_gapAsked), (wi_rm105_2_4_0 rm cy g_redsAsked), (wi_rm106_2_6_0 rm cy g_numberAsked), (wi_rm107_2_4_0 rm cy g_wentAsked), (wi_rm108_2_4_0 rm cy g_harmAsked), (wi_rm109_2_4_0 rm cy g_kindofAsked), (wi_rm95_2_3_0 rm cy g_minAsked), (a_this, .inr (10, mfs rm x_taped v339 x_end J2_c0_4 J2_c0_5 J2_c0_6 x_fault x_faultPlace x_namePlace x_awayTold x_away x_coded x_statements x_isCrossing x_textKind x_askSecond x_redMany x_isOpen x_lastGreen x_greenTo x_isCycleGreen x_stillGreen x_rowMany x_fitMany x_fitRules x_fitGreen x_undoable x_newest x_seeded x_qCoded J2_c0_113 J2_c0_114 x_qBase x_qPiled x_qAnswer x_qIsNew x_octets)), (wi_rm0_0_1600_0 rm cy g_tape), (wi_rm96_2_3_0 rm cy g_maxAsked)] H := hP
                          replace hD := k_D hP hD
                          obtain ⟨h340, h341, h342, h343, h344, h345, h346, h347, h348⟩ := hw
                          replace hq := lf_p1 hq h348
                          have h349 := h347 h155
                          have h350 := h155
                          rw [← h349] at h350
                          have h351 : 1 * v339.toInt + (-1) * v144.toInt ≤ 0 := by rw [h349]; omega
                          refine lv_if_eq (tgt := 153) hx hb dX10_qPartTold_75 rfl (fun c353 => ?_) (fun c353 => ?_)
                          · as_aux_lemma =>
                              replace hq := lf_pos hq (lf_eq (lf_rf r337) (lf_lc 0 (0 : Int) rfl) c353)
                              have h354 := ib_eq h341 (ib_c 0 0 0 rfl) c353
                              have h355 : ib r337 0 0 := ib_w 0 0 h354.1 rfl
                              refine lv_iload_n hx hb dX10_qPartTold_153 rfl (lv_at hl 0 rfl) ?_
                              refine lv_iconst (v := (-1)) hx hb dX10_qPartTold_154 rfl ?_
                              refine lv_icmp_eq (tgt := 181) hx hb dX10_qPartTold_155 rfl (fun c356 => ?_) (fun c356 => ?_)
                              · replace hq := lf_pos hq (lf_eq (lf_rf r127) (lf_lc (-1) (-1 : Int) rfl) c356)
                                have h357 := ib_eq h131 (ib_c (-1) (-1) (-1) rfl) c356
                                have h358 : ib r127 (-1) (-1) := ib_w (-1) (-1) h357.1 rfl
                                refine lv_iconst (v := 0) hx hb dX10_qPartTold_181 rfl ?_
                                refine lv_istore_n (lv' := [(1, .int 0), (3, .int r127), (2, .int r114), (0, .ref a_this)]) hx hb dX10_qPartTold_182 rfl hl (Nat.le_of_ble_eq_true rfl) rfl (fun ls hl => ?_)
                                refine lv_goto (tgt := 2) hx hb dX10_qPartTold_183 rfl ?_
                                exact ih2 v339 J2_c0_4 J2_c0_5 J2_c0_6 J2_c0_113 J2_c0_114 J2_a16 0 H locs ls (ib_w 0 1621 h106 rfl) (ib_w 0 1621 h108 rfl) (ib_w 0 1600 h340 rfl) (ib_w 0 1621 hJ2_c0_113 rfl) (ib_w 0 1 (ib_c 0 0 0 rfl) rfl) (by have := h113; have := (hJ2_c0_2).2; have := h122; have := h132; have := h151; have := h346; have := (h340).1; omega) (by have := hJ2_lin1; omega) (by have := (h340).1; have := h346; have := h151; have := h132; have := h122; have := (hJ2_c0_2).2; have := hJ2_lin2; omega) (by have := (h340).1; have := h346; have := h151; have := h132; have := h122; have := hJ2_lin3; have := (hx_at).2; omega) (fun _ => ib_one hx_bad rfl) (⟨fun q => (hJ2_go.1 q), fun q9 => (by have := h113; have := (hJ2_c0_2).2; have := h122; have := h132; have := h151; have := h346; have := (h340).1; omega)⟩) (by rw [← hK2]; try simp only [show (0 : Int32).toInt = (0 : Int) from rfl]; exact hq) (by have z0 := stq_0 (a := J2_l1) (b := J2_c0_5) (ib_nz h105 rfl) (ib_one h112 rfl); have z2 := stq_1 (a := 0) (b := J2_c0_5) (Or.inl rfl); have := (hJ2_c0_2).2; have := h122; have := h132; have := h151; have := h346; have := (h340).1; omega) (hP.sub [16, 17, 2, 3, 4, 5, 6, 7, 8, 9, 10, 11, 12, 13, 14, 15, 0, 18, 1] rfl) (hD.sub [16, 17, 2, 3, 4, 5, 6, 7, 8, 9, 10, 11, 12, 13, 14, 15, 0, 18, 1] (by decide +kernel) rfl) hS (lv_sub hl [3, 0] rfl)
                              · as_aux_lemma =>
                                  replace hq := lf_neg hq (lf_ne (lf_rf r127) (lf_lc (-1) (-1 : Int) rfl) c356)
                                  have h359 : ib r127 0 12 := ib_w 0 12 (ib_ne_lo (-1) h131 rfl c356) rfl
                                  have h360 : ib r127 12 12 := ib_w 12 12 (ib_two h359 (h135 (ib_nc (-1) h359 rfl))) rfl
                                  refine lv_aload_n hx hb dX10_qPartTold_158 rfl (lv_at hl 2 rfl) ?_
                                  refine lv_bipush (v := 60) hx hb dX10_qPartTold_159 rfl ?_
                                  refine lv_iload_n hx hb dX10_qPartTold_161 rfl (lv_at hl 0 rfl) ?_
                                  refine lv_iadd hx hb dX10_qPartTold_162 ?_
                                  refine lv_topi (fun z361 ez361 => ?_)
                                  have h362 := ib_add (ib_c 60 60 60 rfl) h360 rfl
                                  rw [← ez361] at h362
                                  have h363 : ib z361 72 72 := ib_w 72 72 h362.1 rfl
                                  have Ez361 := lf_add h362.2 (lf_lc 60 (60 : Int) rfl) (lf_rf r127)
                                  refine lv_bipush (v := 12) hx hb dX10_qPartTold_163 rfl ?_
                                  refine lv_isub hx hb dX10_qPartTold_165 ?_
                                  refine lv_topi (fun z364 ez364 => ?_)
                                  have h365 := ib_sub h363 (ib_c 12 12 12 rfl) rfl
                                  rw [← ez364] at h365
                                  have h366 : ib z364 60 60 := ib_w 60 60 h365.1 rfl
                                  have Ez364 := lf_sub h365.2 Ez361 (lf_lc 12 (12 : Int) rfl)
                                  refine lv_aload_n hx hb dX10_qPartTold_166 rfl (lv_at hl 2 rfl) ?_
                                  refine k_get C0 fg_X10_285 hP 16 rfl rfl dX10_qPartTold_167 ?_
                                  refine k_jvm hP hD hS hA [16, 0] [false, true, true, true, true, true, true, true, true, true, true, true, true, true, true, true, false, true, true] rfl rfl (by decide +kernel) 0 0 (Nat.le_of_ble_eq_true rfl) (Nat.le_of_ble_eq_true rfl) (fun hPc hDc => k_runV (As := [.int z364, .int v339]) (rest := []) C0 hZ hS hA (s_X10_qOpens l dC dI cy sq a_this rm x_taped v339 x_end J2_c0_4 J2_c0_5 J2_c0_6 x_fault x_faultPlace x_namePlace x_awayTold x_away x_coded x_statements x_isCrossing x_textKind x_askSecond x_redMany x_isOpen x_lastGreen x_greenTo x_isCycleGreen x_stillGreen x_rowMany x_fitMany x_fitRules x_fitGreen x_undoable x_newest x_seeded x_qCoded J2_c0_113 J2_c0_114 x_qBase x_qPiled x_qAnswer x_qIsNew x_octets J2_a16 z364 v339 (ib_w 0 1699 hJ2_c0_113 rfl)) mV_X10_626 hPc hDc rfl rfl rfl hl rfl rfl (Nat.le_of_ble_eq_true rfl) ⟨(Nat.le_of_ble_eq_true rfl), (Nat.le_of_ble_eq_true rfl)⟩ ⟨(Nat.le_of_ble_eq_true rfl), (Nat.le_of_ble_eq_true rfl)⟩ dX10_qPartTold_170) (fun u368 H locs hw hP hD hS => ?_)
                                  obtain ⟨v369, v370, v371, v372, f373⟩ := u368
                                  try dsimp only at hP hD hw
                                  replace hP : va_P (dC, dI) vwCl [(wi_rm110_0_1700_0 rm cy g_qCodes), (wi_rm97_2_6_0 rm cy g_secondAsked), (wi_rm98_2_3_0 rm cy g_dayAsked), (wi_rm99_2_5_0 rm cy g_phaseAsked), (wi_rm100_2_6_0 rm cy g_waitedAsked), (wi_rm101_2_4_0 rm cy g_calmAsked), (wi_rm102_2_4_0 rm cy g_paceAsked), (wi_rm103_2_6_0 rm cy g_trustsAsked), (wi_rm104_2_3_0 rm cy g_gapAsked), (wi_rm105_2_4_0 rm cy g_redsAsked), (wi_rm106_2_6_0 rm cy g_numberAsked), (wi_rm107_2_4_0 rm cy g_wentAsked), (wi_rm108_2_4_0 rm cy g_harmAsked), (wi_rm109_2_4_0 rm cy g_kindofAsked), (wi_rm95_2_3_0 rm cy g_minAsked), (wi_rm0_0_1600_0 rm cy g_tape), (wi_rm96_2_3_0 rm cy g_maxAsked), (a_this, .inr (10, mfs rm x_taped v339 x_end J2_c0_4 v369 v370 x_fault x_faultPlace x_namePlace x_awayTold x_away x_coded x_statements x_isCrossing x_textKind x_askSecond x_redMany x_isOpen x_lastGreen x_greenTo x_isCycleGreen x_stillGreen x_rowMany x_fitMany x_fitRules x_fitGreen x_undoable x_newest x_seeded x_qCoded v371 v372 x_qBase x_qPiled x_qAnswer x_qIsNew x_octets)), (wi_rm112_0_1700_0 rm cy f373)] H := hP
                                  replace hD := k_D hP hD
                                  obtain ⟨h374, h375, h376, h377, h378, h379⟩ := hw
                                  have h379 := by have h9 := h379; rw [lf_u Ez364] at h9; exact h9
                                  replace hq := lf_p1 hq h379
                                  replace hq := lf_p1 hq rfl
                                  replace hq := lf_p1 hq rfl
                                  replace hq := lf_p1 hq rfl
                                  have h380 : v369 = 0 → GS g_qCodes x_qCoded f373 v371 x_qBase x_textKind cc := fun q => (by rw [(h378 q).1]; exact GS_open (hJ2_go.1 (h375 q)) (by have := (h378 q).2; omega) (Or.inr (by have := (h366).1; have := (h366).2; omega)))
                                  refine lv_aload_n hx hb dX10_qPartTold_173 rfl (lv_at hl 2 rfl) ?_
                                  refine lv_iload_n hx hb dX10_qPartTold_174 rfl (lv_at hl 0 rfl) ?_
                                  refine k_jvm hP hD hS hA [17, 15, 1, 2, 3, 4, 5, 6, 7, 8, 9, 10, 11, 12, 13] [true, false, false, false, false, false, false, false, false, false, false, false, false, false, true, false, true, false, true] rfl rfl (by decide +kernel) 0 0 (Nat.le_of_ble_eq_true rfl) (Nat.le_of_ble_eq_true rfl) (fun hPc hDc => k_runV (As := [.int r127]) (rest := []) C0 hZ hS hA (s_X10_qAsksWord l dC dI cy sq a_this rm x_taped v339 x_end J2_c0_4 v369 v370 x_fault x_faultPlace x_namePlace x_awayTold x_away x_coded x_statements x_isCrossing x_textKind x_askSecond x_redMany x_isOpen x_lastGreen x_greenTo x_isCycleGreen x_stillGreen x_rowMany x_fitMany x_fitRules x_fitGreen x_undoable x_newest x_seeded x_qCoded v371 v372 x_qBase x_qPiled x_qAnswer x_qIsNew x_octets g_tape g_secondAsked g_dayAsked g_phaseAsked g_waitedAsked g_calmAsked g_paceAsked g_trustsAsked g_gapAsked g_redsAsked g_numberAsked g_wentAsked g_harmAsked g_kindofAsked r127 (ib_w 0 1600 h340 rfl) (ib_w 0 1600 hx_end rfl) hg_tape) mV_X10_629 hPc hDc rfl rfl rfl hl rfl rfl (Nat.le_of_ble_eq_true rfl) ⟨(Nat.le_of_ble_eq_true rfl), (Nat.le_of_ble_eq_true rfl)⟩ ⟨(Nat.le_of_ble_eq_true rfl), (Nat.le_of_ble_eq_true rfl)⟩ dX10_qPartTold_175) (fun u382 H locs hw hP hD hS => ?_)
                                  obtain ⟨v383, v384, v385, v386⟩ := u382
                                  try dsimp only at hP hD hw
                                  replace hP : va_P (dC, dI) vwCl [(wi_rm110_0_1700_0 rm cy g_qCodes), (wi_rm95_2_3_0 rm cy g_minAsked), (wi_rm96_2_3_0 rm cy g_maxAsked), (wi_rm112_0_1700_0 rm cy f373), (a_this, .inr (10, mfs rm x_taped v383 x_end v384 v385 v386 x_fault x_faultPlace x_namePlace x_awayTold x_away x_coded x_statements x_isCrossing x_textKind x_askSecond x_redMany x_isOpen x_lastGreen x_greenTo x_isCycleGreen x_stillGreen x_rowMany x_fitMany x_fitRules x_fitGreen x_undoable x_newest x_seeded x_qCoded v371 v372 x_qBase x_qPiled x_qAnswer x_qIsNew x_octets)), (wi_rm0_0_1600_0 rm cy g_tape), (wi_rm97_2_6_0 rm cy g_secondAsked), (wi_rm98_2_3_0 rm cy g_dayAsked), (wi_rm99_2_5_0 rm cy g_phaseAsked), (wi_rm100_2_6_0 rm cy g_waitedAsked), (wi_rm101_2_4_0 rm cy g_calmAsked), (wi_rm102_2_4_0 rm cy g_paceAsked), (wi_rm103_2_6_0 rm cy g_trustsAsked), (wi_rm104_2_3_0 rm cy g_gapAsked), (wi_rm105_2_4_0 rm cy g_redsAsked), (wi_rm106_2_6_0 rm cy g_numberAsked), (wi_rm107_2_4_0 rm cy g_wentAsked), (wi_rm108_2_4_0 rm cy g_harmAsked), (wi_rm109_2_4_0 rm cy g_kindofAsked)] H := hP
                                  replace hD := k_D hP hD
                                  obtain ⟨h387, h388, h389, h390, h391⟩ := hw
                                  replace hq := lf_p1 hq h391
                                  replace hq := lf_p1 hq rfl
                                  replace hq := lf_p1 hq rfl
                                  refine lv_goto (tgt := 183) hx hb dX10_qPartTold_178 rfl ?_
                                  refine lv_goto (tgt := 2) hx hb dX10_qPartTold_183 rfl ?_
                                  exact ih2 v383 v384 v385 v386 v371 v372 f373 J2_l1 H locs ls (ib_w 0 1621 h106 rfl) (ib_w 0 1621 h108 rfl) (ib_w 0 1600 h387 rfl) ⟨by have := (h374).1; omega, by have := (hJ2_c0_2).2; have := h113; have := hL0; have := (h106).1; have := (hJ2_c0_113).2; have := h376; omega⟩ (ib_w 0 1 h105 rfl) (by have := h113; have := (hJ2_c0_2).2; have := h122; have := h132; have := h151; have := h346; have := h389; have := (h387).1; have := h376; omega) (by have := h377; have := hJ2_lin1; omega) (by have := h389; have := h346; have := h151; have := h132; have := h122; have := hJ2_lin2; have := h113; have := hL0; have := h376; omega) (by have := (h387).1; have := h389; have := h346; have := h151; have := h132; have := h122; have := hJ2_lin3; have := (hx_at).2; omega) (fun _ => ib_one hx_bad rfl) (⟨fun q => (h380 (h388 q)), fun q9 => (by have := h113; have := (hJ2_c0_2).2; have := h122; have := h376; have := h132; have := h151; have := h346; have := (h390 q9); have := (h387).1; omega)⟩) (by rw [← hK2]; exact hq) (by have z0 := stq_0 (a := J2_l1) (b := J2_c0_5) (ib_nz h105 rfl) (ib_one h112 rfl); by_cases q8 : v385 = 0; exact (by have z1 := stq_le J2_l1 v385; have := (hJ2_c0_2).2; have := h122; have := h132; have := h151; have := h346; have := (h390 q8); have := (h387).1; omega); exact (by have z2 := stq_1 (a := J2_l1) (b := v385) (Or.inr q8); have := (hJ2_c0_2).2; have := h122; have := h132; have := h151; have := h346; have := h389; have := (h387).1; omega)) (hP.sub [4, 5, 6, 7, 8, 9, 10, 11, 12, 13, 14, 15, 16, 17, 18, 1, 3, 2, 0] rfl) (hD.sub [4, 5, 6, 7, 8, 9, 10, 11, 12, 13, 14, 15, 16, 17, 18, 1, 3, 2, 0] (by decide +kernel) rfl) hS (lv_sub hl [2, 3] rfl)
                          · as_aux_lemma =>
                              replace hq := lf_neg hq (lf_ne (lf_rf r337) (lf_lc 0 (0 : Int) rfl) c353)
                              have h392 : ib r337 1 1 := ib_w 1 1 (ib_ne_lo 0 h341 rfl c353) rfl
                              have h393 : ib v339 0 1597 := ib_w 0 1597 (ib_two h340 (h342 (ib_nz h392 rfl))) rfl
                              have h394 : ib v144 0 1597 := ib_w 0 1597 (ib_two h145 (h343 (ib_nz h392 rfl))) rfl
                              have h395 : ib x_end 1 1600 := ib_w 1 1600 (ib_two hx_end (h344 (ib_nz h392 rfl))) rfl
                              have h396 : ib v129 0 1597 := ⟨(h130).1, by have := (h130).2; have := h151; have := (h394).2; omega⟩
                              refine lv_aload_n hx hb dX10_qPartTold_78 rfl (lv_at hl 2 rfl) ?_
                              refine lv_aload_n hx hb dX10_qPartTold_79 rfl (lv_at hl 2 rfl) ?_
                              refine k_get C0 fg_X10_219 hP 16 rfl rfl dX10_qPartTold_80 ?_
                              refine k_jim hP hD hS hA [16, 17, 15] [true, true, true, true, true, true, true, true, true, true, true, true, true, true, true, false, false, false, true] rfl rfl (by decide +kernel) 0 0 (Nat.le_of_ble_eq_true rfl) (Nat.le_of_ble_eq_true rfl) (fun hPc hDc => k_runV (As := [.ref (rm 95)]) (rest := []) C0 hZ hS hA (s_X10_takes l dC dI cy sq a_this rm x_taped v339 x_end J2_c0_4 J2_c0_5 J2_c0_6 x_fault x_faultPlace x_namePlace x_awayTold x_away x_coded x_statements x_isCrossing x_textKind x_askSecond x_redMany x_isOpen x_lastGreen x_greenTo x_isCycleGreen x_stillGreen x_rowMany x_fitMany x_fitRules x_fitGreen x_undoable x_newest x_seeded x_qCoded J2_c0_113 J2_c0_114 x_qBase x_qPiled x_qAnswer x_qIsNew x_octets g_tape (rm 95) g_minAsked (ib_w 0 1600 h393 rfl) (ib_w 0 1600 h395 rfl) hg_tape) mV_X10_305 hPc hDc rfl rfl rfl hl rfl rfl (Nat.le_of_ble_eq_true rfl) ⟨(Nat.le_of_ble_eq_true rfl), (Nat.le_of_ble_eq_true rfl)⟩ ⟨(Nat.le_of_ble_eq_true rfl), (Nat.le_of_ble_eq_true rfl)⟩ dX10_qPartTold_83) (fun r397 u398 H locs hw hP hD hS => ?_)
                              obtain ⟨v399, v400⟩ := u398
                              try dsimp only at hP hD hw
                              replace hP : va_P (dC, dI) vwCl [(wi_rm112_0_1700_0 rm cy J2_a16), (wi_rm110_0_1700_0 rm cy g_qCodes), (wi_rm97_2_6_0 rm cy g_secondAsked), (wi_rm98_2_3_0 rm cy g_dayAsked), (wi_rm99_2_5_0 rm cy g_phaseAsked), (wi_rm100_2_6_0 rm cy g_waitedAsked), (wi_rm101_2_4_0 rm cy g_calmAsked), (wi_rm102_2_4_0 rm cy g_paceAsked), (wi_rm103_2_6_0 rm cy g_trustsAsked), (wi_rm104_2_3_0 rm cy g_gapAsked), (wi_rm105_2_4_0 rm cy g_redsAsked), (wi_rm106_2_6_0 rm cy g_numberAsked), (wi_rm107_2_4_0 rm cy g_wentAsked), (wi_rm108_2_4_0 rm cy g_harmAsked), (wi_rm109_2_4_0 rm cy g_kindofAsked), (wi_rm96_2_3_0 rm cy g_maxAsked), (a_this, .inr (10, mfs rm x_taped v399 x_end v400 J2_c0_5 J2_c0_6 x_fault x_faultPlace x_namePlace x_awayTold x_away x_coded x_statements x_isCrossing x_textKind x_askSecond x_redMany x_isOpen x_lastGreen x_greenTo x_isCycleGreen x_stillGreen x_rowMany x_fitMany x_fitRules x_fitGreen x_undoable x_newest x_seeded x_qCoded J2_c0_113 J2_c0_114 x_qBase x_qPiled x_qAnswer x_qIsNew x_octets)), (wi_rm0_0_1600_0 rm cy g_tape), (wi_rm95_2_3_0 rm cy g_minAsked)] H := hP
                              replace hD := k_D hP hD
                              obtain ⟨h401, h402, h403, h404, h405, h406, h407, h408, h409, h410⟩ := hw
                              replace hq := lf_p1 hq h410
                              replace hq := lf_p1 hq rfl
                              refine lv_istore (lv' := [(4, .int r397), (3, .int r127), (2, .int r114), (0, .ref a_this), (1, .int J2_l1)]) hx hb dX10_qPartTold_86 hl (Nat.le_of_ble_eq_true rfl) rfl (fun ls hl => ?_)
                              refine lv_iload hx hb dX10_qPartTold_88 (lv_at hl 0 rfl) ?_
                              refine lv_if_ne (tgt := 101) hx hb dX10_qPartTold_90 rfl (fun c411 => ?_) (fun c411 => ?_)
                              · as_aux_lemma =>
                                  replace hq := lf_neg hq (lf_ne (lf_rf r397) (lf_lc 0 (0 : Int) rfl) c411)
                                  have h412 : ib r397 1 1 := ib_w 1 1 (ib_ne_lo 0 h402 rfl c411) rfl
                                  have h413 := h409 (ib_nz h412 rfl)
                                  have h414 : ib v116 0 1597 := ⟨(h117).1, by have := (h117).2; have := h132; have := (h396).2; omega⟩
                                  have h415 : ib v399 3 1600 := ⟨by have := (h401).1; have := h413; have := (h393).1; omega, (h401).2⟩
                                  have h416 : ib v400 3 1600 := ib_w 3 1600 (ib_two (ib_any v400) (h404 (ib_nz h412 rfl))) rfl
                                  have h417 : ib J2_c0_2 0 1597 := ⟨(hJ2_c0_2).1, by have := (hJ2_c0_2).2; have := h122; have := (h414).2; omega⟩
                                  refine lv_aload_n hx hb dX10_qPartTold_101 rfl (lv_at hl 3 rfl) ?_
                                  refine k_jim hP hD hS hA [16, 17] [true, true, true, true, true, true, true, true, true, true, true, true, true, true, true, true, false, false, true] rfl rfl (by decide +kernel) 0 0 (Nat.le_of_ble_eq_true rfl) (Nat.le_of_ble_eq_true rfl) (fun hPc hDc => k_runV (As := []) (rest := []) C0 hZ hS hA (s_X10_look l dC dI cy sq a_this rm x_taped v399 x_end v400 J2_c0_5 J2_c0_6 x_fault x_faultPlace x_namePlace x_awayTold x_away x_coded x_statements x_isCrossing x_textKind x_askSecond x_redMany x_isOpen x_lastGreen x_greenTo x_isCycleGreen x_stillGreen x_rowMany x_fitMany x_fitRules x_fitGreen x_undoable x_newest x_seeded x_qCoded J2_c0_113 J2_c0_114 x_qBase x_qPiled x_qAnswer x_qIsNew x_octets g_tape (ib_w 0 1600 h415 rfl) (ib_w 0 1600 h395 rfl) hg_tape) mV_X10_291 hPc hDc rfl rfl rfl hl rfl rfl (Nat.le_of_ble_eq_true rfl) ⟨(Nat.le_of_ble_eq_true rfl), (Nat.le_of_ble_eq_true rfl)⟩ ⟨(Nat.le_of_ble_eq_true rfl), (Nat.le_of_ble_eq_true rfl)⟩ dX10_qPartTold_102) (fun r418 u419 H locs hw hP hD hS => ?_)
                                  obtain ⟨v420, ev420⟩ : ∃ z, z = u419 := ⟨_, rfl⟩; subst ev420
                                  try dsimp only at hP hD hw
                                  replace hP : va_P (dC, dI) vwCl [(wi_rm112_0_1700_0 rm cy J2_a16), (wi_rm110_0_1700_0 rm cy g_qCodes), (wi_rm97_2_6_0 rm cy g_secondAsked), (wi_rm98_2_3_0 rm cy g_dayAsked), (wi_rm99_2_5_0 rm cy g_phaseAsked), (wi_rm100_2_6_0 rm cy g_waitedAsked), (wi_rm101_2_4_0 rm cy g_calmAsked), (wi_rm102_2_4_0 rm cy g_paceAsked), (wi_rm103_2_6_0 rm cy g_trustsAsked), (wi_rm104_2_3_0 rm cy g_gapAsked), (wi_rm105_2_4_0 rm cy g_redsAsked), (wi_rm106_2_6_0 rm cy g_numberAsked), (wi_rm107_2_4_0 rm cy g_wentAsked), (wi_rm108_2_4_0 rm cy g_harmAsked), (wi_rm109_2_4_0 rm cy g_kindofAsked), (wi_rm96_2_3_0 rm cy g_maxAsked), (wi_rm95_2_3_0 rm cy g_minAsked), (a_this, .inr (10, mfs rm x_taped v420 x_end v400 J2_c0_5 J2_c0_6 x_fault x_faultPlace x_namePlace x_awayTold x_away x_coded x_statements x_isCrossing x_textKind x_askSecond x_redMany x_isOpen x_lastGreen x_greenTo x_isCycleGreen x_stillGreen x_rowMany x_fitMany x_fitRules x_fitGreen x_undoable x_newest x_seeded x_qCoded J2_c0_113 J2_c0_114 x_qBase x_qPiled x_qAnswer x_qIsNew x_octets)), (wi_rm0_0_1600_0 rm cy g_tape)] H := hP
                                  replace hD := k_D hP hD
                                  obtain ⟨h421, h422, h423, h424, h425, h426, h427, h428, h429, h430⟩ := hw
                                  replace hq := lf_p1 hq h430
                                  refine lv_bipush (v := 40) hx hb dX10_qPartTold_105 rfl ?_
                                  refine lv_icmp_ne (tgt := 117) hx hb dX10_qPartTold_107 rfl (fun c431 => ?_) (fun c431 => ?_)
                                  · as_aux_lemma =>
                                      replace hq := lf_neg hq (lf_ne (lf_rf r418) (lf_lc 40 (40 : Int) rfl) c431)
                                      have h432 : ib x_qCoded 0 1618 := ⟨(h106).1, by have := (h106).2; have := hJ2_lin2; have := (h417).2; have := (hJ2_c0_113).1; omega⟩
                                      have h433 : ib J2_c0_113 0 1618 := ⟨(hJ2_c0_113).1, by have := (hJ2_c0_113).2; have := hJ2_lin2; have := (h432).1; have := (h417).2; omega⟩
                                      have h434 : ib x_at 0 1597 := ⟨(hx_at).1, by have := (hx_at).2; have := hJ2_lin3; have := (h417).2; omega⟩
                                      have h435 : ib v420 3 1600 := ⟨by have := (h421).1; have := h426; have := (h415).1; omega, (h421).2⟩
                                      refine lv_iconst (v := (-1)) hx hb dX10_qPartTold_117 rfl ?_
                                      refine lv_istore (lv' := [(5, .int (-1)), (4, .int r397), (3, .int r127), (2, .int r114), (0, .ref a_this), (1, .int J2_l1)]) hx hb dX10_qPartTold_118 hl (Nat.le_of_ble_eq_true rfl) rfl (fun ls hl => ?_)
                                      refine lv_iload hx hb dX10_qPartTold_120 (lv_at hl 0 rfl) ?_
                                      refine lv_iconst (v := (-1)) hx hb dX10_qPartTold_122 rfl ?_
                                      refine lv_icmp_eq (tgt := 144) hx hb dX10_qPartTold_123 rfl (fun _ => ?_) (fun h9 => absurd (by decide) h9)
                                      refine lv_aload_n hx hb dX10_qPartTold_144 rfl (lv_at hl 4 rfl) ?_
                                      refine lv_bipush (v := 40) hx hb dX10_qPartTold_145 rfl ?_
                                      refine k_jvm hP hD hS hA [17, 18] [true, true, true, true, true, true, true, true, true, true, true, true, true, true, true, true, true] rfl rfl (by decide +kernel) 0 0 (Nat.le_of_ble_eq_true rfl) (Nat.le_of_ble_eq_true rfl) (fun hPc hDc => k_runV (As := [.int 40]) (rest := []) C0 hZ hS hA (s_X10_asksSign_a0_40 l dC dI cy sq a_this rm x_taped v420 x_end v400 J2_c0_5 J2_c0_6 x_fault x_faultPlace x_namePlace x_awayTold x_away x_coded x_statements x_isCrossing x_textKind x_askSecond x_redMany x_isOpen x_lastGreen x_greenTo x_isCycleGreen x_stillGreen x_rowMany x_fitMany x_fitRules x_fitGreen x_undoable x_newest x_seeded x_qCoded J2_c0_113 J2_c0_114 x_qBase x_qPiled x_qAnswer x_qIsNew x_octets g_tape (ib_w 0 1600 h435 rfl) (ib_w 0 1600 h395 rfl) hg_tape) mV_X10_358 hPc hDc rfl rfl rfl hl rfl rfl (Nat.le_of_ble_eq_true rfl) ⟨(Nat.le_of_ble_eq_true rfl), (Nat.le_of_ble_eq_true rfl)⟩ ⟨(Nat.le_of_ble_eq_true rfl), (Nat.le_of_ble_eq_true rfl)⟩ dX10_qPartTold_147) (fun u437 H locs hw hP hD hS => ?_)
                                      obtain ⟨v438, v439, v440⟩ := u437
                                      try dsimp only at hP hD hw
                                      replace hP : va_P (dC, dI) vwCl [(wi_rm112_0_1700_0 rm cy J2_a16), (wi_rm110_0_1700_0 rm cy g_qCodes), (wi_rm97_2_6_0 rm cy g_secondAsked), (wi_rm98_2_3_0 rm cy g_dayAsked), (wi_rm99_2_5_0 rm cy g_phaseAsked), (wi_rm100_2_6_0 rm cy g_waitedAsked), (wi_rm101_2_4_0 rm cy g_calmAsked), (wi_rm102_2_4_0 rm cy g_paceAsked), (wi_rm103_2_6_0 rm cy g_trustsAsked), (wi_rm104_2_3_0 rm cy g_gapAsked), (wi_rm105_2_4_0 rm cy g_redsAsked), (wi_rm106_2_6_0 rm cy g_numberAsked), (wi_rm107_2_4_0 rm cy g_wentAsked), (wi_rm108_2_4_0 rm cy g_harmAsked), (wi_rm109_2_4_0 rm cy g_kindofAsked), (wi_rm96_2_3_0 rm cy g_maxAsked), (wi_rm95_2_3_0 rm cy g_minAsked), (a_this, .inr (10, mfs rm x_taped v438 x_end v400 v439 v440 x_fault x_faultPlace x_namePlace x_awayTold x_away x_coded x_statements x_isCrossing x_textKind x_askSecond x_redMany x_isOpen x_lastGreen x_greenTo x_isCycleGreen x_stillGreen x_rowMany x_fitMany x_fitRules x_fitGreen x_undoable x_newest x_seeded x_qCoded J2_c0_113 J2_c0_114 x_qBase x_qPiled x_qAnswer x_qIsNew x_octets)), (wi_rm0_0_1600_0 rm cy g_tape)] H := hP
                                      replace hD := k_D hP hD
                                      obtain ⟨h441, h442, h443, h444, h445⟩ := hw
                                      replace hq := lf_p1 hq h445
                                      replace hq := lf_p1 hq rfl
                                      refine lv_goto (tgt := 183) hx hb dX10_qPartTold_150 rfl ?_
                                      refine lv_goto (tgt := 2) hx hb dX10_qPartTold_183 rfl ?_
                                      exact ih2 v438 v400 v439 v440 J2_c0_113 J2_c0_114 J2_a16 J2_l1 H locs ls (ib_w 0 1621 h432 rfl) (ib_w 0 1621 h108 rfl) (ib_w 0 1600 h441 rfl) (ib_w 0 1621 h433 rfl) (ib_w 0 1 h105 rfl) (by have := h113; have := (h417).2; have := h122; have := h132; have := h151; have := h346; have := h413; have := h426; have := h443; have := (h441).1; omega) (by have := hJ2_lin1; omega) (by have := (h441).1; have := h443; have := h426; have := h413; have := h346; have := h151; have := h132; have := h122; have := (h417).2; have := hJ2_lin2; omega) (by have := (h441).1; have := h443; have := h426; have := h413; have := h346; have := h151; have := h132; have := h122; have := hJ2_lin3; have := (h434).2; omega) (fun _ => ib_one hx_bad rfl) (⟨fun q => (hJ2_go.1 (h442 q)), fun q9 => (by have := h113; have := (h417).2; have := h122; have := h132; have := h151; have := h346; have := h413; have := h426; have := (h444 q9); have := (h441).1; omega)⟩) (by rw [← hK2]; exact hq) (by have z0 := stq_0 (a := J2_l1) (b := J2_c0_5) (ib_nz h105 rfl) (ib_one h112 rfl); by_cases q8 : v439 = 0; exact (by have z1 := stq_le J2_l1 v439; have := (h417).2; have := h122; have := h132; have := h151; have := h346; have := h413; have := h426; have := (h444 q8); have := (h441).1; omega); exact (by have z2 := stq_1 (a := J2_l1) (b := v439) (Or.inr q8); have := (h417).2; have := h122; have := h132; have := h151; have := h346; have := h413; have := h426; have := h443; have := (h441).1; omega)) (hP.sub [17, 18, 2, 3, 4, 5, 6, 7, 8, 9, 10, 11, 12, 13, 14, 16, 0, 15, 1] rfl) (hD.sub [17, 18, 2, 3, 4, 5, 6, 7, 8, 9, 10, 11, 12, 13, 14, 16, 0, 15, 1] (by decide +kernel) rfl) hS (lv_sub hl [4, 5] rfl)
                                  · as_aux_lemma =>
                                      replace hq := lf_pos hq (lf_eq (lf_rf r418) (lf_lc 40 (40 : Int) rfl) c431)
                                      have h446 := ib_eq h422 (ib_c 40 40 40 rfl) c431
                                      have h447 : ib r418 40 40 := ib_w 40 40 h446.1 rfl
                                      have h448 : ib x_qCoded 0 1618 := ⟨(h106).1, by have := (h106).2; have := hJ2_lin2; have := (h417).2; have := (hJ2_c0_113).1; omega⟩
                                      have h449 : ib J2_c0_113 0 1618 := ⟨(hJ2_c0_113).1, by have := (hJ2_c0_113).2; have := hJ2_lin2; have := (h448).1; have := (h417).2; omega⟩
                                      have h450 : ib x_at 0 1597 := ⟨(hx_at).1, by have := (hx_at).2; have := hJ2_lin3; have := (h417).2; omega⟩
                                      have h451 : ib v420 3 1600 := ⟨by have := (h421).1; have := h426; have := (h415).1; omega, (h421).2⟩
                                      have h452 : ib v420 3 1599 := ib_w 3 1599 (ib_two h451 (h423 (ib_nc (-1) h447 rfl))) rfl
                                      have h453 : ib v399 3 1599 := ib_w 3 1599 (ib_two h415 (h424 (ib_nc (-1) h447 rfl))) rfl
                                      have h454 : ib x_qCoded 0 1617 := ⟨(h448).1, by have := (h448).2; have := hL0; have := (h450).2; have := (h107).1; omega⟩
                                      have h455 : ib x_qWaits 0 1617 := ⟨(h107).1, by have := (h107).2; have := hL0; have := (h450).2; have := (h454).1; omega⟩
                                      have h456 : ib x_qBase 0 1617 := ⟨(h108).1, by have := (h108).2; have := hL1; have := (h455).2; omega⟩
                                      have h457 : ib v339 0 1596 := ⟨(h393).1, by have := (h393).2; have := h413; have := (h453).2; omega⟩
                                      refine lv_aload_n hx hb dX10_qPartTold_110 rfl (lv_at hl 3 rfl) ?_
                                      refine k_get C0 fg_X10_285 hP 17 rfl rfl dX10_qPartTold_111 ?_
                                      refine lv_goto (tgt := 118) hx hb dX10_qPartTold_114 rfl ?_
                                      refine lv_istore (lv' := [(5, .int v420), (4, .int r397), (3, .int r127), (2, .int r114), (0, .ref a_this), (1, .int J2_l1)]) hx hb dX10_qPartTold_118 hl (Nat.le_of_ble_eq_true rfl) rfl (fun ls hl => ?_)
                                      refine lv_iload hx hb dX10_qPartTold_120 (lv_at hl 0 rfl) ?_
                                      refine lv_iconst (v := (-1)) hx hb dX10_qPartTold_122 rfl ?_
                                      refine lv_icmp_eq (tgt := 144) hx hb dX10_qPartTold_123 rfl (fun c458 => ?_) (fun c458 => ?_)
                                      · skip
                                        have h459 := ib_eq h452 (ib_c (-1) (-1) (-1) rfl) c458
                                        exact ib_no (ib_w 3 (-1) h459.1 rfl) rfl
                                      · as_aux_lemma =>
                                          skip
                                          have h460 : ib v144 0 1596 := ⟨(h394).1, by have := (h394).2; have := h346; have := (h457).2; omega⟩
                                          refine lv_aload_n hx hb dX10_qPartTold_126 rfl (lv_at hl 4 rfl) ?_
                                          refine lv_iload hx hb dX10_qPartTold_127 (lv_at hl 1 rfl) ?_
                                          refine lv_if_eq (tgt := 137) hx hb dX10_qPartTold_129 rfl (fun c461 => ?_) (fun c461 => ?_)
                                          · skip
                                            exact absurd c461 c411
                                          · as_aux_lemma =>
                                              skip
                                              have h462 := h409 (ib_nz h412 rfl)
                                              have h463 : ib v129 0 1596 := ⟨(h396).1, by have := (h396).2; have := h151; have := (h460).2; omega⟩
                                              have h464 : ib v116 0 1596 := ⟨(h414).1, by have := (h414).2; have := h132; have := (h463).2; omega⟩
                                              refine lv_bipush (v := 21) hx hb dX10_qPartTold_132 rfl ?_
                                              refine lv_goto (tgt := 139) hx hb dX10_qPartTold_134 rfl ?_
                                              refine lv_iload hx hb dX10_qPartTold_139 (lv_at hl 0 rfl) ?_
                                              refine k_jvm hP hD hS hA [17, 0] [false, true, true, true, true, true, true, true, true, true, true, true, true, true, true, true, true, false, true] rfl rfl (by decide +kernel) 0 0 (Nat.le_of_ble_eq_true rfl) (Nat.le_of_ble_eq_true rfl) (fun hPc hDc => k_runV (As := [.int 21, .int v420]) (rest := []) C0 hZ hS hA (s_X10_qOpens_a0_21 l dC dI cy sq a_this rm x_taped v420 x_end v400 J2_c0_5 J2_c0_6 x_fault x_faultPlace x_namePlace x_awayTold x_away x_coded x_statements x_isCrossing x_textKind x_askSecond x_redMany x_isOpen x_lastGreen x_greenTo x_isCycleGreen x_stillGreen x_rowMany x_fitMany x_fitRules x_fitGreen x_undoable x_newest x_seeded x_qCoded J2_c0_113 J2_c0_114 x_qBase x_qPiled x_qAnswer x_qIsNew x_octets J2_a16 v420 (ib_w 0 1699 h449 rfl)) mV_X10_626 hPc hDc rfl rfl rfl hl rfl rfl (Nat.le_of_ble_eq_true rfl) ⟨(Nat.le_of_ble_eq_true rfl), (Nat.le_of_ble_eq_true rfl)⟩ ⟨(Nat.le_of_ble_eq_true rfl), (Nat.le_of_ble_eq_true rfl)⟩ dX10_qPartTold_141) (fun u466 H locs hw hP hD hS => ?_)
                                              obtain ⟨v467, v468, v469, v470, f471⟩ := u466
                                              try dsimp only at hP hD hw
                                              replace hP : va_P (dC, dI) vwCl [(wi_rm110_0_1700_0 rm cy g_qCodes), (wi_rm97_2_6_0 rm cy g_secondAsked), (wi_rm98_2_3_0 rm cy g_dayAsked), (wi_rm99_2_5_0 rm cy g_phaseAsked), (wi_rm100_2_6_0 rm cy g_waitedAsked), (wi_rm101_2_4_0 rm cy g_calmAsked), (wi_rm102_2_4_0 rm cy g_paceAsked), (wi_rm103_2_6_0 rm cy g_trustsAsked), (wi_rm104_2_3_0 rm cy g_gapAsked), (wi_rm105_2_4_0 rm cy g_redsAsked), (wi_rm106_2_6_0 rm cy g_numberAsked), (wi_rm107_2_4_0 rm cy g_wentAsked), (wi_rm108_2_4_0 rm cy g_harmAsked), (wi_rm109_2_4_0 rm cy g_kindofAsked), (wi_rm96_2_3_0 rm cy g_maxAsked), (wi_rm95_2_3_0 rm cy g_minAsked), (wi_rm0_0_1600_0 rm cy g_tape), (a_this, .inr (10, mfs rm x_taped v420 x_end v400 v467 v468 x_fault x_faultPlace x_namePlace x_awayTold x_away x_coded x_statements x_isCrossing x_textKind x_askSecond x_redMany x_isOpen x_lastGreen x_greenTo x_isCycleGreen x_stillGreen x_rowMany x_fitMany x_fitRules x_fitGreen x_undoable x_newest x_seeded x_qCoded v469 v470 x_qBase x_qPiled x_qAnswer x_qIsNew x_octets)), (wi_rm112_0_1700_0 rm cy f471)] H := hP
                                              replace hD := k_D hP hD
                                              obtain ⟨h472, h473, h474, h475, h476, h477⟩ := hw
                                              replace hq := lf_p1 hq h477
                                              replace hq := lf_p1 hq rfl
                                              replace hq := lf_p1 hq rfl
                                              replace hq := lf_p1 hq rfl
                                              have h478 : v467 = 0 → GS g_qCodes x_qCoded f471 v469 x_qBase x_textKind cc := fun q => (by rw [(h476 q).1]; exact GS_open (hJ2_go.1 (h473 q)) (by have := (h476 q).2; omega) (by decide))
                                              refine lv_aload_n hx hb dX10_qPartTold_144 rfl (lv_at hl 4 rfl) ?_
                                              refine lv_bipush (v := 40) hx hb dX10_qPartTold_145 rfl ?_
                                              refine k_jvm hP hD hS hA [17, 16] [true, true, true, true, true, true, true, true, true, true, true, true, true, true, true, true, false, false, true] rfl rfl (by decide +kernel) 0 0 (Nat.le_of_ble_eq_true rfl) (Nat.le_of_ble_eq_true rfl) (fun hPc hDc => k_runV (As := [.int 40]) (rest := []) C0 hZ hS hA (s_X10_asksSign_a0_40 l dC dI cy sq a_this rm x_taped v420 x_end v400 v467 v468 x_fault x_faultPlace x_namePlace x_awayTold x_away x_coded x_statements x_isCrossing x_textKind x_askSecond x_redMany x_isOpen x_lastGreen x_greenTo x_isCycleGreen x_stillGreen x_rowMany x_fitMany x_fitRules x_fitGreen x_undoable x_newest x_seeded x_qCoded v469 v470 x_qBase x_qPiled x_qAnswer x_qIsNew x_octets g_tape (ib_w 0 1600 h452 rfl) (ib_w 0 1600 h395 rfl) hg_tape) mV_X10_358 hPc hDc rfl rfl rfl hl rfl rfl (Nat.le_of_ble_eq_true rfl) ⟨(Nat.le_of_ble_eq_true rfl), (Nat.le_of_ble_eq_true rfl)⟩ ⟨(Nat.le_of_ble_eq_true rfl), (Nat.le_of_ble_eq_true rfl)⟩ dX10_qPartTold_147) (fun u480 H locs hw hP hD hS => ?_)
                                              obtain ⟨v481, v482, v483⟩ := u480
                                              try dsimp only at hP hD hw
                                              replace hP : va_P (dC, dI) vwCl [(wi_rm110_0_1700_0 rm cy g_qCodes), (wi_rm97_2_6_0 rm cy g_secondAsked), (wi_rm98_2_3_0 rm cy g_dayAsked), (wi_rm99_2_5_0 rm cy g_phaseAsked), (wi_rm100_2_6_0 rm cy g_waitedAsked), (wi_rm101_2_4_0 rm cy g_calmAsked), (wi_rm102_2_4_0 rm cy g_paceAsked), (wi_rm103_2_6_0 rm cy g_trustsAsked), (wi_rm104_2_3_0 rm cy g_gapAsked), (wi_rm105_2_4_0 rm cy g_redsAsked), (wi_rm106_2_6_0 rm cy g_numberAsked), (wi_rm107_2_4_0 rm cy g_wentAsked), (wi_rm108_2_4_0 rm cy g_harmAsked), (wi_rm109_2_4_0 rm cy g_kindofAsked), (wi_rm96_2_3_0 rm cy g_maxAsked), (wi_rm95_2_3_0 rm cy g_minAsked), (wi_rm112_0_1700_0 rm cy f471), (a_this, .inr (10, mfs rm x_taped v481 x_end v400 v482 v483 x_fault x_faultPlace x_namePlace x_awayTold x_away x_coded x_statements x_isCrossing x_textKind x_askSecond x_redMany x_isOpen x_lastGreen x_greenTo x_isCycleGreen x_stillGreen x_rowMany x_fitMany x_fitRules x_fitGreen x_undoable x_newest x_seeded x_qCoded v469 v470 x_qBase x_qPiled x_qAnswer x_qIsNew x_octets)), (wi_rm0_0_1600_0 rm cy g_tape)] H := hP
                                              replace hD := k_D hP hD
                                              obtain ⟨h484, h485, h486, h487, h488⟩ := hw
                                              replace hq := lf_p1 hq h488
                                              replace hq := lf_p1 hq rfl
                                              refine lv_goto (tgt := 183) hx hb dX10_qPartTold_150 rfl ?_
                                              refine lv_goto (tgt := 2) hx hb dX10_qPartTold_183 rfl ?_
                                              exact ih2 v481 v400 v482 v483 v469 v470 f471 J2_l1 H locs ls (ib_w 0 1621 h454 rfl) (ib_w 0 1621 h456 rfl) (ib_w 0 1600 h484 rfl) ⟨by have := (h472).1; omega, by have := (h449).2; have := h474; have := (h472).2; omega⟩ (ib_w 0 1 h105 rfl) (by have := h113; have := (h417).2; have := h122; have := h132; have := h151; have := h346; have := h413; have := h426; have := h486; have := (h484).1; have := h474; omega) (by have := h475; have := hJ2_lin1; omega) (by have := (h484).1; have := h486; have := h426; have := h413; have := h346; have := h151; have := h132; have := h122; have := (h417).2; have := hJ2_lin2; have := h474; omega) (by have := (h484).1; have := h486; have := h426; have := h413; have := h346; have := h151; have := h132; have := h122; have := hJ2_lin3; have := (h450).2; omega) (fun _ => ib_one hx_bad rfl) (⟨fun q => (h478 (h485 q)), fun q9 => (by have := h113; have := (h417).2; have := h122; have := h474; have := h132; have := h151; have := h346; have := h413; have := h426; have := (h487 q9); have := (h484).1; omega)⟩) (by rw [← hK2]; exact hq) (by have z0 := stq_0 (a := J2_l1) (b := J2_c0_5) (ib_nz h105 rfl) (ib_one h112 rfl); by_cases q8 : v482 = 0; exact (by have z1 := stq_le J2_l1 v482; have := (h417).2; have := h122; have := h132; have := h151; have := h346; have := h413; have := h426; have := (h487 q8); have := (h484).1; omega); exact (by have z2 := stq_1 (a := J2_l1) (b := v482) (Or.inr q8); have := (h417).2; have := h122; have := h132; have := h151; have := h346; have := h413; have := h426; have := h486; have := (h484).1; omega)) (hP.sub [17, 18, 1, 2, 3, 4, 5, 6, 7, 8, 9, 10, 11, 12, 13, 15, 16, 14, 0] rfl) (hD.sub [17, 18, 1, 2, 3, 4, 5, 6, 7, 8, 9, 10, 11, 12, 13, 15, 16, 14, 0] (by decide +kernel) rfl) hS (lv_sub hl [4, 5] rfl)
                              · as_aux_lemma =>
                                  replace hq := lf_pos hq (lf_eq (lf_rf r397) (lf_lc 0 (0 : Int) rfl) c411)
                                  have h489 := ib_eq h402 (ib_c 0 0 0 rfl) c411
                                  have h490 : ib r397 0 0 := ib_w 0 0 h489.1 rfl
                                  have h491 : ib v116 0 1597 := ⟨(h117).1, by have := (h117).2; have := h132; have := (h396).2; omega⟩
                                  have h492 : ib J2_c0_2 0 1597 := ⟨(hJ2_c0_2).1, by have := (hJ2_c0_2).2; have := h122; have := (h491).2; omega⟩
                                  refine lv_aload_n hx hb dX10_qPartTold_93 rfl (lv_at hl 3 rfl) ?_
                                  refine lv_aload_n hx hb dX10_qPartTold_94 rfl (lv_at hl 3 rfl) ?_
                                  refine k_get C0 fg_X10_222 hP 16 rfl rfl dX10_qPartTold_95 ?_
                                  refine k_jvm hP hD hS hA [16, 17, 15] [true, true, true, true, true, true, true, true, true, true, true, true, true, true, true, false, false, false, true] rfl rfl (by decide +kernel) 0 0 (Nat.le_of_ble_eq_true rfl) (Nat.le_of_ble_eq_true rfl) (fun hPc hDc => k_runV (As := [.ref (rm 96)]) (rest := []) C0 hZ hS hA (s_X10_asks l dC dI cy sq a_this rm x_taped v399 x_end v400 J2_c0_5 J2_c0_6 x_fault x_faultPlace x_namePlace x_awayTold x_away x_coded x_statements x_isCrossing x_textKind x_askSecond x_redMany x_isOpen x_lastGreen x_greenTo x_isCycleGreen x_stillGreen x_rowMany x_fitMany x_fitRules x_fitGreen x_undoable x_newest x_seeded x_qCoded J2_c0_113 J2_c0_114 x_qBase x_qPiled x_qAnswer x_qIsNew x_octets g_tape (rm 96) g_maxAsked (ib_w 0 1600 h401 rfl) (ib_w 0 1600 h395 rfl) hg_tape) mV_X10_350 hPc hDc rfl rfl rfl hl rfl rfl (Nat.le_of_ble_eq_true rfl) ⟨(Nat.le_of_ble_eq_true rfl), (Nat.le_of_ble_eq_true rfl)⟩ ⟨(Nat.le_of_ble_eq_true rfl), (Nat.le_of_ble_eq_true rfl)⟩ dX10_qPartTold_98) (fun u494 H locs hw hP hD hS => ?_)
                                  obtain ⟨v495, v496, v497, v498⟩ := u494
                                  try dsimp only at hP hD hw
                                  replace hP : va_P (dC, dI) vwCl [(wi_rm112_0_1700_0 rm cy J2_a16), (wi_rm110_0_1700_0 rm cy g_qCodes), (wi_rm97_2_6_0 rm cy g_secondAsked), (wi_rm98_2_3_0 rm cy g_dayAsked), (wi_rm99_2_5_0 rm cy g_phaseAsked), (wi_rm100_2_6_0 rm cy g_waitedAsked), (wi_rm101_2_4_0 rm cy g_calmAsked), (wi_rm102_2_4_0 rm cy g_paceAsked), (wi_rm103_2_6_0 rm cy g_trustsAsked), (wi_rm104_2_3_0 rm cy g_gapAsked), (wi_rm105_2_4_0 rm cy g_redsAsked), (wi_rm106_2_6_0 rm cy g_numberAsked), (wi_rm107_2_4_0 rm cy g_wentAsked), (wi_rm108_2_4_0 rm cy g_harmAsked), (wi_rm109_2_4_0 rm cy g_kindofAsked), (wi_rm95_2_3_0 rm cy g_minAsked), (a_this, .inr (10, mfs rm x_taped v495 x_end v496 v497 v498 x_fault x_faultPlace x_namePlace x_awayTold x_away x_coded x_statements x_isCrossing x_textKind x_askSecond x_redMany x_isOpen x_lastGreen x_greenTo x_isCycleGreen x_stillGreen x_rowMany x_fitMany x_fitRules x_fitGreen x_undoable x_newest x_seeded x_qCoded J2_c0_113 J2_c0_114 x_qBase x_qPiled x_qAnswer x_qIsNew x_octets)), (wi_rm0_0_1600_0 rm cy g_tape), (wi_rm96_2_3_0 rm cy g_maxAsked)] H := hP
                                  replace hD := k_D hP hD
                                  obtain ⟨h499, h500, h501, h502, h503⟩ := hw
                                  replace hq := lf_p1 hq h503
                                  replace hq := lf_p1 hq rfl
                                  replace hq := lf_p1 hq rfl
                                  refine lv_aload_n hx hb dX10_qPartTold_101 rfl (lv_at hl 3 rfl) ?_
                                  refine k_jim hP hD hS hA [16, 17] [true, true, true, true, true, true, true, true, true, true, true, true, true, true, true, true, false, false, true] rfl rfl (by decide +kernel) 0 0 (Nat.le_of_ble_eq_true rfl) (Nat.le_of_ble_eq_true rfl) (fun hPc hDc => k_runV (As := []) (rest := []) C0 hZ hS hA (s_X10_look l dC dI cy sq a_this rm x_taped v495 x_end v496 v497 v498 x_fault x_faultPlace x_namePlace x_awayTold x_away x_coded x_statements x_isCrossing x_textKind x_askSecond x_redMany x_isOpen x_lastGreen x_greenTo x_isCycleGreen x_stillGreen x_rowMany x_fitMany x_fitRules x_fitGreen x_undoable x_newest x_seeded x_qCoded J2_c0_113 J2_c0_114 x_qBase x_qPiled x_qAnswer x_qIsNew x_octets g_tape (ib_w 0 1600 h499 rfl) (ib_w 0 1600 h395 rfl) hg_tape) mV_X10_291 hPc hDc rfl rfl rfl hl rfl rfl (Nat.le_of_ble_eq_true rfl) ⟨(Nat.le_of_ble_eq_true rfl), (Nat.le_of_ble_eq_true rfl)⟩ ⟨(Nat.le_of_ble_eq_true rfl), (Nat.le_of_ble_eq_true rfl)⟩ dX10_qPartTold_102) (fun r504 u505 H locs hw hP hD hS => ?_)
                                  obtain ⟨v506, ev506⟩ : ∃ z, z = u505 := ⟨_, rfl⟩; subst ev506
                                  try dsimp only at hP hD hw
                                  replace hP : va_P (dC, dI) vwCl [(wi_rm112_0_1700_0 rm cy J2_a16), (wi_rm110_0_1700_0 rm cy g_qCodes), (wi_rm97_2_6_0 rm cy g_secondAsked), (wi_rm98_2_3_0 rm cy g_dayAsked), (wi_rm99_2_5_0 rm cy g_phaseAsked), (wi_rm100_2_6_0 rm cy g_waitedAsked), (wi_rm101_2_4_0 rm cy g_calmAsked), (wi_rm102_2_4_0 rm cy g_paceAsked), (wi_rm103_2_6_0 rm cy g_trustsAsked), (wi_rm104_2_3_0 rm cy g_gapAsked), (wi_rm105_2_4_0 rm cy g_redsAsked), (wi_rm106_2_6_0 rm cy g_numberAsked), (wi_rm107_2_4_0 rm cy g_wentAsked), (wi_rm108_2_4_0 rm cy g_harmAsked), (wi_rm109_2_4_0 rm cy g_kindofAsked), (wi_rm95_2_3_0 rm cy g_minAsked), (wi_rm96_2_3_0 rm cy g_maxAsked), (a_this, .inr (10, mfs rm x_taped v506 x_end v496 v497 v498 x_fault x_faultPlace x_namePlace x_awayTold x_away x_coded x_statements x_isCrossing x_textKind x_askSecond x_redMany x_isOpen x_lastGreen x_greenTo x_isCycleGreen x_stillGreen x_rowMany x_fitMany x_fitRules x_fitGreen x_undoable x_newest x_seeded x_qCoded J2_c0_113 J2_c0_114 x_qBase x_qPiled x_qAnswer x_qIsNew x_octets)), (wi_rm0_0_1600_0 rm cy g_tape)] H := hP
                                  replace hD := k_D hP hD
                                  obtain ⟨h507, h508, h509, h510, h511, h512, h513, h514, h515, h516⟩ := hw
                                  replace hq := lf_p1 hq h516
                                  refine lv_bipush (v := 40) hx hb dX10_qPartTold_105 rfl ?_
                                  refine lv_icmp_ne (tgt := 117) hx hb dX10_qPartTold_107 rfl (fun c517 => ?_) (fun c517 => ?_)
                                  · as_aux_lemma =>
                                      replace hq := lf_neg hq (lf_ne (lf_rf r504) (lf_lc 40 (40 : Int) rfl) c517)
                                      have h518 : ib x_qCoded 0 1618 := ⟨(h106).1, by have := (h106).2; have := hJ2_lin2; have := (h492).2; have := (hJ2_c0_113).1; omega⟩
                                      have h519 : ib J2_c0_113 0 1618 := ⟨(hJ2_c0_113).1, by have := (hJ2_c0_113).2; have := hJ2_lin2; have := (h518).1; have := (h492).2; omega⟩
                                      have h520 : ib x_at 0 1597 := ⟨(hx_at).1, by have := (hx_at).2; have := hJ2_lin3; have := (h492).2; omega⟩
                                      refine lv_iconst (v := (-1)) hx hb dX10_qPartTold_117 rfl ?_
                                      refine lv_istore (lv' := [(5, .int (-1)), (4, .int r397), (3, .int r127), (2, .int r114), (0, .ref a_this), (1, .int J2_l1)]) hx hb dX10_qPartTold_118 hl (Nat.le_of_ble_eq_true rfl) rfl (fun ls hl => ?_)
                                      refine lv_iload hx hb dX10_qPartTold_120 (lv_at hl 0 rfl) ?_
                                      refine lv_iconst (v := (-1)) hx hb dX10_qPartTold_122 rfl ?_
                                      refine lv_icmp_eq (tgt := 144) hx hb dX10_qPartTold_123 rfl (fun _ => ?_) (fun h9 => absurd (by decide) h9)
                                      refine lv_aload_n hx hb dX10_qPartTold_144 rfl (lv_at hl 4 rfl) ?_
                                      refine lv_bipush (v := 40) hx hb dX10_qPartTold_145 rfl ?_
                                      refine k_jvm hP hD hS hA [17, 18] [true, true, true, true, true, true, true, true, true, true, true, true, true, true, true, true, true] rfl rfl (by decide +kernel) 0 0 (Nat.le_of_ble_eq_true rfl) (Nat.le_of_ble_eq_true rfl) (fun hPc hDc => k_runV (As := [.int 40]) (rest := []) C0 hZ hS hA (s_X10_asksSign_a0_40 l dC dI cy sq a_this rm x_taped v506 x_end v496 v497 v498 x_fault x_faultPlace x_namePlace x_awayTold x_away x_coded x_statements x_isCrossing x_textKind x_askSecond x_redMany x_isOpen x_lastGreen x_greenTo x_isCycleGreen x_stillGreen x_rowMany x_fitMany x_fitRules x_fitGreen x_undoable x_newest x_seeded x_qCoded J2_c0_113 J2_c0_114 x_qBase x_qPiled x_qAnswer x_qIsNew x_octets g_tape (ib_w 0 1600 h507 rfl) (ib_w 0 1600 h395 rfl) hg_tape) mV_X10_358 hPc hDc rfl rfl rfl hl rfl rfl (Nat.le_of_ble_eq_true rfl) ⟨(Nat.le_of_ble_eq_true rfl), (Nat.le_of_ble_eq_true rfl)⟩ ⟨(Nat.le_of_ble_eq_true rfl), (Nat.le_of_ble_eq_true rfl)⟩ dX10_qPartTold_147) (fun u522 H locs hw hP hD hS => ?_)
                                      obtain ⟨v523, v524, v525⟩ := u522
                                      try dsimp only at hP hD hw
                                      replace hP : va_P (dC, dI) vwCl [(wi_rm112_0_1700_0 rm cy J2_a16), (wi_rm110_0_1700_0 rm cy g_qCodes), (wi_rm97_2_6_0 rm cy g_secondAsked), (wi_rm98_2_3_0 rm cy g_dayAsked), (wi_rm99_2_5_0 rm cy g_phaseAsked), (wi_rm100_2_6_0 rm cy g_waitedAsked), (wi_rm101_2_4_0 rm cy g_calmAsked), (wi_rm102_2_4_0 rm cy g_paceAsked), (wi_rm103_2_6_0 rm cy g_trustsAsked), (wi_rm104_2_3_0 rm cy g_gapAsked), (wi_rm105_2_4_0 rm cy g_redsAsked), (wi_rm106_2_6_0 rm cy g_numberAsked), (wi_rm107_2_4_0 rm cy g_wentAsked), (wi_rm108_2_4_0 rm cy g_harmAsked), (wi_rm109_2_4_0 rm cy g_kindofAsked), (wi_rm95_2_3_0 rm cy g_minAsked), (wi_rm96_2_3_0 rm cy g_maxAsked), (a_this, .inr (10, mfs rm x_taped v523 x_end v496 v524 v525 x_fault x_faultPlace x_namePlace x_awayTold x_away x_coded x_statements x_isCrossing x_textKind x_askSecond x_redMany x_isOpen x_lastGreen x_greenTo x_isCycleGreen x_stillGreen x_rowMany x_fitMany x_fitRules x_fitGreen x_undoable x_newest x_seeded x_qCoded J2_c0_113 J2_c0_114 x_qBase x_qPiled x_qAnswer x_qIsNew x_octets)), (wi_rm0_0_1600_0 rm cy g_tape)] H := hP
                                      replace hD := k_D hP hD
                                      obtain ⟨h526, h527, h528, h529, h530⟩ := hw
                                      replace hq := lf_p1 hq h530
                                      replace hq := lf_p1 hq rfl
                                      refine lv_goto (tgt := 183) hx hb dX10_qPartTold_150 rfl ?_
                                      refine lv_goto (tgt := 2) hx hb dX10_qPartTold_183 rfl ?_
                                      exact ih2 v523 v496 v524 v525 J2_c0_113 J2_c0_114 J2_a16 J2_l1 H locs ls (ib_w 0 1621 h518 rfl) (ib_w 0 1621 h108 rfl) (ib_w 0 1600 h526 rfl) (ib_w 0 1621 h519 rfl) (ib_w 0 1 h105 rfl) (by have := h113; have := (h492).2; have := h122; have := h132; have := h151; have := h346; have := h408; have := h501; have := h512; have := h528; have := (h526).1; omega) (by have := hJ2_lin1; omega) (by have := (h526).1; have := h528; have := h512; have := h501; have := h408; have := h346; have := h151; have := h132; have := h122; have := (h492).2; have := hJ2_lin2; omega) (by have := (h526).1; have := h528; have := h512; have := h501; have := h408; have := h346; have := h151; have := h132; have := h122; have := hJ2_lin3; have := (h520).2; omega) (fun _ => ib_one hx_bad rfl) (⟨fun q => (hJ2_go.1 (h500 (h527 q))), fun q9 => (by have := h113; have := (h492).2; have := h122; have := h132; have := h151; have := h346; have := h408; have := (h502 (h527 q9)); have := h512; have := (h529 q9); have := (h526).1; omega)⟩) (by rw [← hK2]; exact hq) (by have z0 := stq_0 (a := J2_l1) (b := J2_c0_5) (ib_nz h105 rfl) (ib_one h112 rfl); by_cases q8 : v524 = 0; exact (by have z1 := stq_le J2_l1 v524; have := (h492).2; have := h122; have := h132; have := h151; have := h346; have := h408; have := (h502 (h527 q8)); have := h512; have := (h529 q8); have := (h526).1; omega); exact (by have z2 := stq_1 (a := J2_l1) (b := v524) (Or.inr q8); have := (h492).2; have := h122; have := h132; have := h151; have := h346; have := h408; have := h501; have := h512; have := h528; have := (h526).1; omega)) (hP.sub [17, 18, 2, 3, 4, 5, 6, 7, 8, 9, 10, 11, 12, 13, 14, 15, 0, 16, 1] rfl) (hD.sub [17, 18, 2, 3, 4, 5, 6, 7, 8, 9, 10, 11, 12, 13, 14, 15, 0, 16, 1] (by decide +kernel) rfl) hS (lv_sub hl [4, 5] rfl)
                                  · as_aux_lemma =>
                                      replace hq := lf_pos hq (lf_eq (lf_rf r504) (lf_lc 40 (40 : Int) rfl) c517)
                                      have h531 := ib_eq h508 (ib_c 40 40 40 rfl) c517
                                      have h532 : ib r504 40 40 := ib_w 40 40 h531.1 rfl
                                      have h533 : ib x_qCoded 0 1618 := ⟨(h106).1, by have := (h106).2; have := hJ2_lin2; have := (h492).2; have := (hJ2_c0_113).1; omega⟩
                                      have h534 : ib J2_c0_113 0 1618 := ⟨(hJ2_c0_113).1, by have := (hJ2_c0_113).2; have := hJ2_lin2; have := (h533).1; have := (h492).2; omega⟩
                                      have h535 : ib x_at 0 1597 := ⟨(hx_at).1, by have := (hx_at).2; have := hJ2_lin3; have := (h492).2; omega⟩
                                      have h536 : ib v506 0 1599 := ib_w 0 1599 (ib_two h507 (h509 (ib_nc (-1) h532 rfl))) rfl
                                      have h537 : ib v495 0 1599 := ib_w 0 1599 (ib_two h499 (h510 (ib_nc (-1) h532 rfl))) rfl
                                      have h538 : ib x_qCoded 0 1617 := ⟨(h533).1, by have := (h533).2; have := hL0; have := (h535).2; have := (h107).1; omega⟩
                                      have h539 : ib x_qWaits 0 1617 := ⟨(h107).1, by have := (h107).2; have := hL0; have := (h535).2; have := (h538).1; omega⟩
                                      have h540 : ib x_qBase 0 1617 := ⟨(h108).1, by have := (h108).2; have := hL1; have := (h539).2; omega⟩
                                      have h541 : ib v399 0 1599 := ⟨(h401).1, by have := (h401).2; have := h501; have := (h537).2; omega⟩
                                      refine lv_aload_n hx hb dX10_qPartTold_110 rfl (lv_at hl 3 rfl) ?_
                                      refine k_get C0 fg_X10_285 hP 17 rfl rfl dX10_qPartTold_111 ?_
                                      refine lv_goto (tgt := 118) hx hb dX10_qPartTold_114 rfl ?_
                                      refine lv_istore (lv' := [(5, .int v506), (4, .int r397), (3, .int r127), (2, .int r114), (0, .ref a_this), (1, .int J2_l1)]) hx hb dX10_qPartTold_118 hl (Nat.le_of_ble_eq_true rfl) rfl (fun ls hl => ?_)
                                      refine lv_iload hx hb dX10_qPartTold_120 (lv_at hl 0 rfl) ?_
                                      refine lv_iconst (v := (-1)) hx hb dX10_qPartTold_122 rfl ?_
                                      refine lv_icmp_eq (tgt := 144) hx hb dX10_qPartTold_123 rfl (fun c542 => ?_) (fun c542 => ?_)
                                      · skip
                                        have h543 := ib_eq h536 (ib_c (-1) (-1) (-1) rfl) c542
                                        exact ib_no (ib_w 0 (-1) h543.1 rfl) rfl
                                      · as_aux_lemma =>
                                          skip
                                          refine lv_aload_n hx hb dX10_qPartTold_126 rfl (lv_at hl 4 rfl) ?_
                                          refine lv_iload hx hb dX10_qPartTold_127 (lv_at hl 1 rfl) ?_
                                          refine lv_if_eq (tgt := 137) hx hb dX10_qPartTold_129 rfl (fun c544 => ?_) (fun c544 => ?_)
                                          · as_aux_lemma =>
                                              skip
                                              have h545 := ib_eq h490 (ib_c 0 0 0 rfl) c544
                                              refine lv_bipush (v := 22) hx hb dX10_qPartTold_137 rfl ?_
                                              refine lv_iload hx hb dX10_qPartTold_139 (lv_at hl 0 rfl) ?_
                                              refine k_jvm hP hD hS hA [17, 0] [false, true, true, true, true, true, true, true, true, true, true, true, true, true, true, true, true, false, true] rfl rfl (by decide +kernel) 0 0 (Nat.le_of_ble_eq_true rfl) (Nat.le_of_ble_eq_true rfl) (fun hPc hDc => k_runV (As := [.int 22, .int v506]) (rest := []) C0 hZ hS hA (s_X10_qOpens_a0_22 l dC dI cy sq a_this rm x_taped v506 x_end v496 v497 v498 x_fault x_faultPlace x_namePlace x_awayTold x_away x_coded x_statements x_isCrossing x_textKind x_askSecond x_redMany x_isOpen x_lastGreen x_greenTo x_isCycleGreen x_stillGreen x_rowMany x_fitMany x_fitRules x_fitGreen x_undoable x_newest x_seeded x_qCoded J2_c0_113 J2_c0_114 x_qBase x_qPiled x_qAnswer x_qIsNew x_octets J2_a16 v506 (ib_w 0 1699 h534 rfl)) mV_X10_626 hPc hDc rfl rfl rfl hl rfl rfl (Nat.le_of_ble_eq_true rfl) ⟨(Nat.le_of_ble_eq_true rfl), (Nat.le_of_ble_eq_true rfl)⟩ ⟨(Nat.le_of_ble_eq_true rfl), (Nat.le_of_ble_eq_true rfl)⟩ dX10_qPartTold_141) (fun u547 H locs hw hP hD hS => ?_)
                                              obtain ⟨v548, v549, v550, v551, f552⟩ := u547
                                              try dsimp only at hP hD hw
                                              replace hP : va_P (dC, dI) vwCl [(wi_rm110_0_1700_0 rm cy g_qCodes), (wi_rm97_2_6_0 rm cy g_secondAsked), (wi_rm98_2_3_0 rm cy g_dayAsked), (wi_rm99_2_5_0 rm cy g_phaseAsked), (wi_rm100_2_6_0 rm cy g_waitedAsked), (wi_rm101_2_4_0 rm cy g_calmAsked), (wi_rm102_2_4_0 rm cy g_paceAsked), (wi_rm103_2_6_0 rm cy g_trustsAsked), (wi_rm104_2_3_0 rm cy g_gapAsked), (wi_rm105_2_4_0 rm cy g_redsAsked), (wi_rm106_2_6_0 rm cy g_numberAsked), (wi_rm107_2_4_0 rm cy g_wentAsked), (wi_rm108_2_4_0 rm cy g_harmAsked), (wi_rm109_2_4_0 rm cy g_kindofAsked), (wi_rm95_2_3_0 rm cy g_minAsked), (wi_rm96_2_3_0 rm cy g_maxAsked), (wi_rm0_0_1600_0 rm cy g_tape), (a_this, .inr (10, mfs rm x_taped v506 x_end v496 v548 v549 x_fault x_faultPlace x_namePlace x_awayTold x_away x_coded x_statements x_isCrossing x_textKind x_askSecond x_redMany x_isOpen x_lastGreen x_greenTo x_isCycleGreen x_stillGreen x_rowMany x_fitMany x_fitRules x_fitGreen x_undoable x_newest x_seeded x_qCoded v550 v551 x_qBase x_qPiled x_qAnswer x_qIsNew x_octets)), (wi_rm112_0_1700_0 rm cy f552)] H := hP
                                              replace hD := k_D hP hD
                                              obtain ⟨h553, h554, h555, h556, h557, h558⟩ := hw
                                              replace hq := lf_p1 hq h558
                                              replace hq := lf_p1 hq rfl
                                              replace hq := lf_p1 hq rfl
                                              replace hq := lf_p1 hq rfl
                                              have h559 : v548 = 0 → GS g_qCodes x_qCoded f552 v550 x_qBase x_textKind cc := fun q => (by rw [(h557 q).1]; exact GS_open (hJ2_go.1 (h500 (h554 q))) (by have := (h557 q).2; omega) (by decide))
                                              refine lv_aload_n hx hb dX10_qPartTold_144 rfl (lv_at hl 4 rfl) ?_
                                              refine lv_bipush (v := 40) hx hb dX10_qPartTold_145 rfl ?_
                                              refine k_jvm hP hD hS hA [17, 16] [true, true, true, true, true, true, true, true, true, true, true, true, true, true, true, true, false, false, true] rfl rfl (by decide +kernel) 0 0 (Nat.le_of_ble_eq_true rfl) (Nat.le_of_ble_eq_true rfl) (fun hPc hDc => k_runV (As := [.int 40]) (rest := []) C0 hZ hS hA (s_X10_asksSign_a0_40 l dC dI cy sq a_this rm x_taped v506 x_end v496 v548 v549 x_fault x_faultPlace x_namePlace x_awayTold x_away x_coded x_statements x_isCrossing x_textKind x_askSecond x_redMany x_isOpen x_lastGreen x_greenTo x_isCycleGreen x_stillGreen x_rowMany x_fitMany x_fitRules x_fitGreen x_undoable x_newest x_seeded x_qCoded v550 v551 x_qBase x_qPiled x_qAnswer x_qIsNew x_octets g_tape (ib_w 0 1600 h536 rfl) (ib_w 0 1600 h395 rfl) hg_tape) mV_X10_358 hPc hDc rfl rfl rfl hl rfl rfl (Nat.le_of_ble_eq_true rfl) ⟨(Nat.le_of_ble_eq_true rfl), (Nat.le_of_ble_eq_true rfl)⟩ ⟨(Nat.le_of_ble_eq_true rfl), (Nat.le_of_ble_eq_true rfl)⟩ dX10_qPartTold_147) (fun u561 H locs hw hP hD hS => ?_)
                                              obtain ⟨v562, v563, v564⟩ := u561
                                              try dsimp only at hP hD hw
                                              replace hP : va_P (dC, dI) vwCl [(wi_rm110_0_1700_0 rm cy g_qCodes), (wi_rm97_2_6_0 rm cy g_secondAsked), (wi_rm98_2_3_0 rm cy g_dayAsked), (wi_rm99_2_5_0 rm cy g_phaseAsked), (wi_rm100_2_6_0 rm cy g_waitedAsked), (wi_rm101_2_4_0 rm cy g_calmAsked), (wi_rm102_2_4_0 rm cy g_paceAsked), (wi_rm103_2_6_0 rm cy g_trustsAsked), (wi_rm104_2_3_0 rm cy g_gapAsked), (wi_rm105_2_4_0 rm cy g_redsAsked), (wi_rm106_2_6_0 rm cy g_numberAsked), (wi_rm107_2_4_0 rm cy g_wentAsked), (wi_rm108_2_4_0 rm cy g_harmAsked), (wi_rm109_2_4_0 rm cy g_kindofAsked), (wi_rm95_2_3_0 rm cy g_minAsked), (wi_rm96_2_3_0 rm cy g_maxAsked), (wi_rm112_0_1700_0 rm cy f552), (a_this, .inr (10, mfs rm x_taped v562 x_end v496 v563 v564 x_fault x_faultPlace x_namePlace x_awayTold x_away x_coded x_statements x_isCrossing x_textKind x_askSecond x_redMany x_isOpen x_lastGreen x_greenTo x_isCycleGreen x_stillGreen x_rowMany x_fitMany x_fitRules x_fitGreen x_undoable x_newest x_seeded x_qCoded v550 v551 x_qBase x_qPiled x_qAnswer x_qIsNew x_octets)), (wi_rm0_0_1600_0 rm cy g_tape)] H := hP
                                              replace hD := k_D hP hD
                                              obtain ⟨h565, h566, h567, h568, h569⟩ := hw
                                              replace hq := lf_p1 hq h569
                                              replace hq := lf_p1 hq rfl
                                              refine lv_goto (tgt := 183) hx hb dX10_qPartTold_150 rfl ?_
                                              refine lv_goto (tgt := 2) hx hb dX10_qPartTold_183 rfl ?_
                                              exact ih2 v562 v496 v563 v564 v550 v551 f552 J2_l1 H locs ls (ib_w 0 1621 h538 rfl) (ib_w 0 1621 h540 rfl) (ib_w 0 1600 h565 rfl) ⟨by have := (h553).1; omega, by have := (h534).2; have := h555; have := (h553).2; omega⟩ (ib_w 0 1 h105 rfl) (by have := h113; have := (h492).2; have := h122; have := h132; have := h151; have := h346; have := h408; have := h501; have := h512; have := h567; have := (h565).1; have := h555; omega) (by have := h556; have := hJ2_lin1; omega) (by have := h567; have := h512; have := h501; have := h408; have := h346; have := h151; have := h132; have := h122; have := hJ2_lin2; have := h113; have := hL0; have := h555; omega) (by have := (h565).1; have := h567; have := h512; have := h501; have := h408; have := h346; have := h151; have := h132; have := h122; have := hJ2_lin3; have := (h535).2; omega) (fun _ => ib_one hx_bad rfl) (⟨fun q => (h559 (h566 q)), fun q9 => (by have := h113; have := (h492).2; have := h122; have := h555; have := h132; have := h151; have := h346; have := h408; have := (h502 (h554 (h566 q9))); have := h512; have := (h568 q9); have := (h565).1; omega)⟩) (by rw [← hK2]; exact hq) (by have z0 := stq_0 (a := J2_l1) (b := J2_c0_5) (ib_nz h105 rfl) (ib_one h112 rfl); by_cases q8 : v563 = 0; exact (by have z1 := stq_le J2_l1 v563; have := (h492).2; have := h122; have := h132; have := h151; have := h346; have := h408; have := (h502 (h554 (h566 q8))); have := h512; have := (h568 q8); have := (h565).1; omega); exact (by have z2 := stq_1 (a := J2_l1) (b := v563) (Or.inr q8); have := (h492).2; have := h122; have := h132; have := h151; have := h346; have := h408; have := h501; have := h512; have := h567; have := (h565).1; omega)) (hP.sub [17, 18, 1, 2, 3, 4, 5, 6, 7, 8, 9, 10, 11, 12, 13, 14, 16, 15, 0] rfl) (hD.sub [17, 18, 1, 2, 3, 4, 5, 6, 7, 8, 9, 10, 11, 12, 13, 14, 16, 15, 0] (by decide +kernel) rfl) hS (lv_sub hl [4, 5] rfl)
                                          · skip
                                            exact absurd (ib_one h490 rfl) c544
                  · as_aux_lemma =>
                      replace hq := lf_pos hq (lf_eq (lf_rf r114) (lf_lc 40 (40 : Int) rfl) c141)
                      have h570 := ib_eq h118 (ib_c 40 40 40 rfl) c141
                      have h571 : ib r114 40 40 := ib_w 40 40 h570.1 rfl
                      have h572 : ib v116 0 1599 := ib_w 0 1599 (ib_two h117 (h119 (ib_nc (-1) h571 rfl))) rfl
                      have h573 : ib J2_c0_2 0 1599 := ib_w 0 1599 (ib_two hJ2_c0_2 (h120 (ib_nc (-1) h571 rfl))) rfl
                      have h574 : ib x_end 1 1600 := ib_w 1 1600 (ib_two hx_end (h121 (ib_nc (-1) h571 rfl))) rfl
                      have h575 : ib J2_c0_113 0 1620 := ⟨(hJ2_c0_113).1, by have := (hJ2_c0_113).2; have := h113; have := hL0; have := (h106).1; have := (h573).2; omega⟩
                      have h576 : ib x_at 0 1599 := ⟨(hx_at).1, by have := (hx_at).2; have := hJ2_lin3; have := (h573).2; omega⟩
                      have h577 : ib v129 0 1599 := ⟨(h130).1, by have := (h130).2; have := h139; have := (h572).2; omega⟩
                      refine lv_aload_n hx hb dX10_qPartTold_33 rfl (lv_at hl 2 rfl) ?_
                      refine lv_bipush (v := 20) hx hb dX10_qPartTold_34 rfl ?_
                      refine lv_aload_n hx hb dX10_qPartTold_36 rfl (lv_at hl 2 rfl) ?_
                      refine k_get C0 fg_X10_285 hP 4 rfl rfl dX10_qPartTold_37 ?_
                      refine k_jvm hP hD hS hA [4, 1] [true, false, true, true, false, true, true, true, true, true, true, true, true, true, true, true, true, true, true] rfl rfl (by decide +kernel) 0 0 (Nat.le_of_ble_eq_true rfl) (Nat.le_of_ble_eq_true rfl) (fun hPc hDc => k_runV (As := [.int 20, .int v129]) (rest := []) C0 hZ hS hA (s_X10_qOpens_a0_20 l dC dI cy sq a_this rm x_taped v129 x_end J2_c0_4 J2_c0_5 J2_c0_6 x_fault x_faultPlace x_namePlace x_awayTold x_away x_coded x_statements x_isCrossing x_textKind x_askSecond x_redMany x_isOpen x_lastGreen x_greenTo x_isCycleGreen x_stillGreen x_rowMany x_fitMany x_fitRules x_fitGreen x_undoable x_newest x_seeded x_qCoded J2_c0_113 J2_c0_114 x_qBase x_qPiled x_qAnswer x_qIsNew x_octets J2_a16 v129 (ib_w 0 1699 h575 rfl)) mV_X10_626 hPc hDc rfl rfl rfl hl rfl rfl (Nat.le_of_ble_eq_true rfl) ⟨(Nat.le_of_ble_eq_true rfl), (Nat.le_of_ble_eq_true rfl)⟩ ⟨(Nat.le_of_ble_eq_true rfl), (Nat.le_of_ble_eq_true rfl)⟩ dX10_qPartTold_40) (fun u579 H locs hw hP hD hS => ?_)
                      obtain ⟨v580, v581, v582, v583, f584⟩ := u579
                      try dsimp only at hP hD hw
                      replace hP : va_P (dC, dI) vwCl [(wi_rm95_2_3_0 rm cy g_minAsked), (wi_rm96_2_3_0 rm cy g_maxAsked), (wi_rm110_0_1700_0 rm cy g_qCodes), (wi_rm0_0_1600_0 rm cy g_tape), (wi_rm97_2_6_0 rm cy g_secondAsked), (wi_rm98_2_3_0 rm cy g_dayAsked), (wi_rm99_2_5_0 rm cy g_phaseAsked), (wi_rm100_2_6_0 rm cy g_waitedAsked), (wi_rm101_2_4_0 rm cy g_calmAsked), (wi_rm102_2_4_0 rm cy g_paceAsked), (wi_rm103_2_6_0 rm cy g_trustsAsked), (wi_rm104_2_3_0 rm cy g_gapAsked), (wi_rm105_2_4_0 rm cy g_redsAsked), (wi_rm106_2_6_0 rm cy g_numberAsked), (wi_rm107_2_4_0 rm cy g_wentAsked), (wi_rm108_2_4_0 rm cy g_harmAsked), (wi_rm109_2_4_0 rm cy g_kindofAsked), (a_this, .inr (10, mfs rm x_taped v129 x_end J2_c0_4 v580 v581 x_fault x_faultPlace x_namePlace x_awayTold x_away x_coded x_statements x_isCrossing x_textKind x_askSecond x_redMany x_isOpen x_lastGreen x_greenTo x_isCycleGreen x_stillGreen x_rowMany x_fitMany x_fitRules x_fitGreen x_undoable x_newest x_seeded x_qCoded v582 v583 x_qBase x_qPiled x_qAnswer x_qIsNew x_octets)), (wi_rm112_0_1700_0 rm cy f584)] H := hP
                      replace hD := k_D hP hD
                      obtain ⟨h585, h586, h587, h588, h589, h590⟩ := hw
                      replace hq := lf_p1 hq h590
                      replace hq := lf_p1 hq rfl
                      replace hq := lf_p1 hq rfl
                      replace hq := lf_p1 hq rfl
                      have h591 : v580 = 0 → GS g_qCodes x_qCoded f584 v582 x_qBase x_textKind cc := fun q => (by rw [(h589 q).1]; exact GS_open (hJ2_go.1 (h586 q)) (by have := (h589 q).2; omega) (by decide))
                      refine lv_aload_n hx hb dX10_qPartTold_43 rfl (lv_at hl 2 rfl) ?_
                      refine lv_dup hx hb dX10_qPartTold_44 rfl ?_
                      refine k_get C0 fg_X10_285 hP 17 rfl rfl dX10_qPartTold_45 ?_
                      refine lv_iconst (v := 1) hx hb dX10_qPartTold_48 rfl ?_
                      refine lv_iadd hx hb dX10_qPartTold_49 ?_
                      refine lv_topi (fun z592 ez592 => ?_)
                      have h593 := ib_add h577 (ib_c 1 1 1 rfl) rfl
                      rw [← ez592] at h593
                      have h594 : ib z592 1 1600 := ib_w 1 1600 h593.1 rfl
                      have Ez592 := lf_add h593.2 (lf_rf v129) (lf_lc 1 (1 : Int) rfl)
                      refine k_put C0 fp_X10_285 hP hD hS 17 rfl rfl rfl (Nat.le_of_ble_eq_true rfl) dX10_qPartTold_50 (fun H locs hP hD hS => ?_)
                      replace hP : va_P (dC, dI) vwCl [(wi_rm95_2_3_0 rm cy g_minAsked), (wi_rm96_2_3_0 rm cy g_maxAsked), (wi_rm110_0_1700_0 rm cy g_qCodes), (wi_rm0_0_1600_0 rm cy g_tape), (wi_rm97_2_6_0 rm cy g_secondAsked), (wi_rm98_2_3_0 rm cy g_dayAsked), (wi_rm99_2_5_0 rm cy g_phaseAsked), (wi_rm100_2_6_0 rm cy g_waitedAsked), (wi_rm101_2_4_0 rm cy g_calmAsked), (wi_rm102_2_4_0 rm cy g_paceAsked), (wi_rm103_2_6_0 rm cy g_trustsAsked), (wi_rm104_2_3_0 rm cy g_gapAsked), (wi_rm105_2_4_0 rm cy g_redsAsked), (wi_rm106_2_6_0 rm cy g_numberAsked), (wi_rm107_2_4_0 rm cy g_wentAsked), (wi_rm108_2_4_0 rm cy g_harmAsked), (wi_rm109_2_4_0 rm cy g_kindofAsked), (a_this, .inr (10, mfs rm x_taped z592 x_end J2_c0_4 v580 v581 x_fault x_faultPlace x_namePlace x_awayTold x_away x_coded x_statements x_isCrossing x_textKind x_askSecond x_redMany x_isOpen x_lastGreen x_greenTo x_isCycleGreen x_stillGreen x_rowMany x_fitMany x_fitRules x_fitGreen x_undoable x_newest x_seeded x_qCoded v582 v583 x_qBase x_qPiled x_qAnswer x_qIsNew x_octets)), (wi_rm112_0_1700_0 rm cy f584)] H := hP
                      replace hD := k_D hP hD
                      refine lv_goto (tgt := 183) hx hb dX10_qPartTold_53 rfl ?_
                      refine lv_goto (tgt := 2) hx hb dX10_qPartTold_183 rfl ?_
                      exact ih2 z592 J2_c0_4 v580 v581 v582 v583 f584 J2_l1 H locs ls (ib_w 0 1621 h106 rfl) (ib_w 0 1621 h108 rfl) (ib_w 0 1600 h594 rfl) ⟨by have := (h585).1; omega, by have := (h575).2; have := h587; have := (h585).2; omega⟩ (ib_w 0 1 h105 rfl) (by have := h113; have := (h573).2; have := h122; have := h132; have := h587; have := (h594).1; have := h593.2; have : (1 : Int32).toInt = 1 := rfl; omega) (by have := h588; have := hJ2_lin1; omega) (by have := (h594).1; have := h593.2; have : (1 : Int32).toInt = 1 := rfl; have := h132; have := h122; have := (h573).2; have := hJ2_lin2; have := h587; omega) (by have := (h594).1; have := h593.2; have : (1 : Int32).toInt = 1 := rfl; have := h132; have := h122; have := hJ2_lin3; have := (h576).2; omega) (fun _ => ib_one hx_bad rfl) (⟨fun q => (h591 q), fun q9 => (by have := h113; have := (h573).2; have := h122; have := h587; have := h132; have := (h594).1; have := h593.2; have : (1 : Int32).toInt = 1 := rfl; omega)⟩) (by rw [← hK2]; rw [lf_u Ez592]; exact hq) (by have z0 := stq_0 (a := J2_l1) (b := J2_c0_5) (ib_nz h105 rfl) (ib_one h112 rfl); by_cases q8 : v580 = 0; exact (by have z1 := stq_le J2_l1 v580; have := (h573).2; have := h122; have := h132; have := (h594).1; have := h593.2; have : (1 : Int32).toInt = 1 := rfl; omega); exact (by have z2 := stq_1 (a := J2_l1) (b := v580) (Or.inr q8); have := (h573).2; have := h122; have := h132; have := (h594).1; have := h593.2; have : (1 : Int32).toInt = 1 := rfl; omega)) (hP.sub [17, 3, 4, 5, 6, 7, 8, 9, 10, 11, 12, 13, 14, 15, 16, 0, 18, 1, 2] rfl) (hD.sub [17, 3, 4, 5, 6, 7, 8, 9, 10, 11, 12, 13, 14, 15, 16, 0, 18, 1, 2] (by decide +kernel) rfl) hS (lv_sub hl [2, 3] rfl)
  refine lv_iconst (v := 1) hx hb dX10_qPartTold_0 rfl ?_
  refine lv_istore_n (lv' := [(1, .int 1), (0, .ref a_this)]) hx hb dX10_qPartTold_1 rfl hl (Nat.le_of_ble_eq_true rfl) rfl (fun ls hl => ?_)
  exact jn2 3203 x_at x_ended x_bad x_badPlace x_qWaits x_qOpened g_qWait 1 H locs ls ⟨by have := (hx_qCoded).1; omega, by have := (hx_at).2; have := hL0; have := (hx_qWaits).1; have := (hx_qCoded).2; omega⟩ ⟨by have := (hx_qBase).1; omega, by have := (hx_at).2; have := hL0; have := hL1; have := (hx_qBase).2; have := (hx_qCoded).1; omega⟩ (ib_w 0 1600 hx_at rfl) ⟨by have := (hx_qWaits).1; omega, by have := (hx_at).2; have := hL0; have := (hx_qWaits).2; have := (hx_qCoded).1; omega⟩ (ib_w 0 1 (ib_c 1 1 1 rfl) rfl) (by omega) (by have := hL1; omega) (by have := hL0; omega) (by omega) (fun q => q) (⟨fun q => (hGS q), fun q9 => (by omega)⟩) (by try simp only [show (1 : Int32).toInt = (1 : Int) from rfl]; exact hq) (by have q1 := (hx_at).1; have q2 := (stq_le 1 x_bad).1; omega) hP hD hS (lv_sub hl [1, 0] rfl)
set_option maxHeartbeats 4000000 in
set_option maxRecDepth 100000 in
theorem s_X10_takesSign_a0_42 (l : Launch) (dC : Nat → ClassId) (dI : Nat → Nat → Nat) (cy : Nat → ClassId) (sq : Nat → Nat) (a_this : Nat) (rm : Nat → Nat) (x_taped : Int32) (x_at : Int32) (x_end : Int32) (x_ended : Int32) (x_bad : Int32) (x_badPlace : Int32) (x_fault : Int32) (x_faultPlace : Int32) (x_namePlace : Int32) (x_awayTold : Int32) (x_away : Int32) (x_coded : Int32) (x_statements : Int32) (x_isCrossing : Int32) (x_textKind : Int32) (x_askSecond : Int32) (x_redMany : Int32) (x_isOpen : Int32) (x_lastGreen : Int32) (x_greenTo : Int32) (x_isCycleGreen : Int32) (x_stillGreen : Int32) (x_rowMany : Int32) (x_fitMany : Int32) (x_fitRules : Int32) (x_fitGreen : Int32) (x_undoable : Int32) (x_newest : Int32) (x_seeded : Int64) (x_qCoded : Int32) (x_qWaits : Int32) (x_qOpened : Int32) (x_qBase : Int32) (x_qPiled : Int32) (x_qAnswer : Int64) (x_qIsNew : Int32) (x_octets : Int32) (g_tape : Nat → Int32) (hx_at : ib x_at 0 1600) (hx_end : ib x_end 0 1600) (hg_tape : ia g_tape 1600 0 255) : k_Met l yX10_takesSign cX10_takesSign 2 (some .boolean) { frames := 1, cells := 0, slots := 0, locals := 20 } dC dI cy sq [.ref a_this, .int 42] [(a_this, .inr (10, mfs rm x_taped x_at x_end x_ended x_bad x_badPlace x_fault x_faultPlace x_namePlace x_awayTold x_away x_coded x_statements x_isCrossing x_textKind x_askSecond x_redMany x_isOpen x_lastGreen x_greenTo x_isCycleGreen x_stillGreen x_rowMany x_fitMany x_fitRules x_fitGreen x_undoable x_newest x_seeded x_qCoded x_qWaits x_qOpened x_qBase x_qPiled x_qAnswer x_qIsNew x_octets)), (wi_rm0_0_1600_0 rm cy g_tape)] (k_Qi dC dI (fun (r : Int32) (n0 : Int32) => ib n0 0 1600 ∧ ib r 0 1 ∧ (¬ r = 0 → ib n0 1 1600) ∧ (¬ r = 0 → ib x_at 0 1599) ∧ (¬ r = 0 → ib x_end 1 1600) ∧ (¬ r = 0 → ib x_bad 0 0) ∧ (1 * x_at.toInt + (-1) * n0.toInt ≤ 0) ∧ (¬ r = 0 → 1 * x_at.toInt + (-1) * n0.toInt ≤ (-1)) ∧ (F_X10_takesSign_a0_42 (Int32.toInt x_at) (Int32.toInt x_end) (Int32.toInt x_bad) (lf_A g_tape) = ((Int32.toInt r), (Int32.toInt n0)))) (fun n0 : Int32 => [(a_this, .inr (10, mfs rm x_taped n0 x_end x_ended x_bad x_badPlace x_fault x_faultPlace x_namePlace x_awayTold x_away x_coded x_statements x_isCrossing x_textKind x_askSecond x_redMany x_isOpen x_lastGreen x_greenTo x_isCycleGreen x_stillGreen x_rowMany x_fitMany x_fitRules x_fitGreen x_undoable x_newest x_seeded x_qCoded x_qWaits x_qOpened x_qBase x_qPiled x_qAnswer x_qIsNew x_octets)), (wi_rm0_0_1600_0 rm cy g_tape)])) := by
  refine k_ofW2 (by decide +kernel) (Nat.le_of_ble_eq_true rfl) ?_
  intro p e s m below meth c A ls H locs args Q hQ C0 hZ hr hlk hin hP hD hA hS hl
  have C0 : k_cx p s m args c cX10_takesSign 2 RX10 dC dI cy sq := C0
  have hx := C0.1
  have hb := C0.2.1
  have hl : lv_has ls 2 [(0, .ref a_this), (1, .int 42)] := hl
  obtain ⟨O, hO⟩ : ∃ o, o = F_X10_takesSign_a0_42 (Int32.toInt x_at) (Int32.toInt x_end) (Int32.toInt x_bad) (lf_A g_tape) := ⟨_, rfl⟩
  have hq := hO
  unfold F_X10_takesSign_a0_42 at hq
  refine lv_aload_n hx hb dX10_takesSign_0 rfl (lv_at hl 0 rfl) ?_
  refine k_get C0 fg_X10_279 hP 0 rfl rfl dX10_takesSign_1 ?_
  refine lv_if_ne (tgt := 15) hx hb dX10_takesSign_4 rfl (fun c1 => ?_) (fun c1 => ?_)
  · replace hq := lf_neg hq (lf_ne (lf_rf x_bad) (lf_lc 0 (0 : Int) rfl) c1)
    refine lv_iconst (v := 0) hx hb dX10_takesSign_15 rfl ?_
    subst hQ; exact k_iret hx hb hr hlk (k_nb 0 rfl) x_at hS ⟨ib_w 0 1600 hx_at rfl, ib_w 0 1 (ib_c 0 0 0 rfl) rfl, fun hq9 => absurd rfl hq9, fun hq9 => absurd rfl hq9, fun hq9 => absurd rfl hq9, fun hq9 => absurd rfl hq9, (by omega), fun hq9 => absurd rfl hq9, (hO.symm.trans (by try simp only [show (0 : Int32).toInt = (0 : Int) from rfl]; exact hq))⟩ hP hD (Nat.le_of_ble_eq_true rfl) (Nat.le_of_ble_eq_true rfl) dX10_takesSign_16
  · replace hq := lf_pos hq (lf_eq (lf_rf x_bad) (lf_lc 0 (0 : Int) rfl) c1)
    have h2 := ib_eq (ib_any x_bad) (ib_c 0 0 0 rfl) c1
    have h3 : ib x_bad 0 0 := ib_w 0 0 h2.1 rfl
    refine lv_aload_n hx hb dX10_takesSign_7 rfl (lv_at hl 0 rfl) ?_
    refine k_jim hP hD hS hA [0, 1] [] rfl rfl rfl 0 0 (Nat.le_of_ble_eq_true rfl) (Nat.le_of_ble_eq_true rfl) (fun hPc hDc => k_runV (As := []) (rest := []) C0 hZ hS hA (s_X10_look l dC dI cy sq a_this rm x_taped x_at x_end x_ended x_bad x_badPlace x_fault x_faultPlace x_namePlace x_awayTold x_away x_coded x_statements x_isCrossing x_textKind x_askSecond x_redMany x_isOpen x_lastGreen x_greenTo x_isCycleGreen x_stillGreen x_rowMany x_fitMany x_fitRules x_fitGreen x_undoable x_newest x_seeded x_qCoded x_qWaits x_qOpened x_qBase x_qPiled x_qAnswer x_qIsNew x_octets g_tape (ib_w 0 1600 hx_at rfl) (ib_w 0 1600 hx_end rfl) hg_tape) mV_X10_291 hPc hDc rfl rfl rfl hl rfl rfl (Nat.le_of_ble_eq_true rfl) ⟨(Nat.le_of_ble_eq_true rfl), (Nat.le_of_ble_eq_true rfl)⟩ ⟨(Nat.le_of_ble_eq_true rfl), (Nat.le_of_ble_eq_true rfl)⟩ dX10_takesSign_8) (fun r4 u5 H locs hw hP hD hS => ?_)
    obtain ⟨v6, ev6⟩ : ∃ z, z = u5 := ⟨_, rfl⟩; subst ev6
    try dsimp only at hP hD hw
    replace hP : va_P (dC, dI) vwCl [(a_this, .inr (10, mfs rm x_taped v6 x_end x_ended x_bad x_badPlace x_fault x_faultPlace x_namePlace x_awayTold x_away x_coded x_statements x_isCrossing x_textKind x_askSecond x_redMany x_isOpen x_lastGreen x_greenTo x_isCycleGreen x_stillGreen x_rowMany x_fitMany x_fitRules x_fitGreen x_undoable x_newest x_seeded x_qCoded x_qWaits x_qOpened x_qBase x_qPiled x_qAnswer x_qIsNew x_octets)), (wi_rm0_0_1600_0 rm cy g_tape)] H := hP
    replace hD := k_D hP hD
    obtain ⟨h7, h8, h9, h10, h11, h12, h13, h14, h15, h16⟩ := hw
    replace hq := lf_p1 hq h16
    refine lv_iload_n hx hb dX10_takesSign_11 rfl (lv_at hl 1 rfl) ?_
    refine lv_icmp_eq (tgt := 17) hx hb dX10_takesSign_12 rfl (fun c17 => ?_) (fun c17 => ?_)
    · replace hq := lf_pos hq (lf_eq (lf_rf r4) (lf_lc 42 (42 : Int) rfl) c17)
      have h18 := ib_eq h8 (ib_c 42 42 42 rfl) c17
      have h19 : ib r4 42 42 := ib_w 42 42 h18.1 rfl
      have h20 : ib v6 0 1599 := ib_w 0 1599 (ib_two h7 (h9 (ib_nc (-1) h19 rfl))) rfl
      have h21 : ib x_at 0 1599 := ib_w 0 1599 (ib_two hx_at (h10 (ib_nc (-1) h19 rfl))) rfl
      have h22 : ib x_end 1 1600 := ib_w 1 1600 (ib_two hx_end (h11 (ib_nc (-1) h19 rfl))) rfl
      refine lv_aload_n hx hb dX10_takesSign_17 rfl (lv_at hl 0 rfl) ?_
      refine lv_dup hx hb dX10_takesSign_18 rfl ?_
      refine k_get C0 fg_X10_285 hP 0 rfl rfl dX10_takesSign_19 ?_
      refine lv_iconst (v := 1) hx hb dX10_takesSign_22 rfl ?_
      refine lv_iadd hx hb dX10_takesSign_23 ?_
      refine lv_topi (fun z23 ez23 => ?_)
      have h24 := ib_add h20 (ib_c 1 1 1 rfl) rfl
      rw [← ez23] at h24
      have h25 : ib z23 1 1600 := ib_w 1 1600 h24.1 rfl
      have Ez23 := lf_add h24.2 (lf_rf v6) (lf_lc 1 (1 : Int) rfl)
      refine k_put C0 fp_X10_285 hP hD hS 0 rfl rfl rfl (Nat.le_of_ble_eq_true rfl) dX10_takesSign_24 (fun H locs hP hD hS => ?_)
      replace hP : va_P (dC, dI) vwCl [(a_this, .inr (10, mfs rm x_taped z23 x_end x_ended x_bad x_badPlace x_fault x_faultPlace x_namePlace x_awayTold x_away x_coded x_statements x_isCrossing x_textKind x_askSecond x_redMany x_isOpen x_lastGreen x_greenTo x_isCycleGreen x_stillGreen x_rowMany x_fitMany x_fitRules x_fitGreen x_undoable x_newest x_seeded x_qCoded x_qWaits x_qOpened x_qBase x_qPiled x_qAnswer x_qIsNew x_octets)), (wi_rm0_0_1600_0 rm cy g_tape)] H := hP
      replace hD := k_D hP hD
      refine lv_iconst (v := 1) hx hb dX10_takesSign_27 rfl ?_
      subst hQ; exact k_iret hx hb hr hlk (k_nb 1 rfl) z23 hS ⟨ib_w 0 1600 h25 rfl, ib_w 0 1 (ib_c 1 1 1 rfl) rfl, fun _ => ib_w 1 1600 h25 rfl, fun _ => ib_w 0 1599 h21 rfl, fun _ => ib_w 1 1600 h22 rfl, fun _ => ib_w 0 0 h3 rfl, (by have := h24.2; have : (1 : Int32).toInt = 1 := rfl; have := h12; omega), fun _ => (by have := h24.2; have : (1 : Int32).toInt = 1 := rfl; have := h12; omega), (hO.symm.trans (by try simp only [show (1 : Int32).toInt = (1 : Int) from rfl]; rw [lf_u Ez23]; exact hq))⟩ hP hD (Nat.le_of_ble_eq_true rfl) (Nat.le_of_ble_eq_true rfl) dX10_takesSign_28
    · replace hq := lf_neg hq (lf_ne (lf_rf r4) (lf_lc 42 (42 : Int) rfl) c17)
      refine lv_iconst (v := 0) hx hb dX10_takesSign_15 rfl ?_
      subst hQ; exact k_iret hx hb hr hlk (k_nb 0 rfl) v6 hS ⟨ib_w 0 1600 h7 rfl, ib_w 0 1 (ib_c 0 0 0 rfl) rfl, fun hq9 => absurd rfl hq9, fun hq9 => absurd rfl hq9, fun hq9 => absurd rfl hq9, fun hq9 => absurd rfl hq9, (by have := h12; omega), fun hq9 => absurd rfl hq9, (hO.symm.trans (by try simp only [show (0 : Int32).toInt = (0 : Int) from rfl]; exact hq))⟩ hP hD (Nat.le_of_ble_eq_true rfl) (Nat.le_of_ble_eq_true rfl) dX10_takesSign_16
set_option maxHeartbeats 4000000 in
set_option maxRecDepth 100000 in
theorem s_X10_takesSign_a0_47 (l : Launch) (dC : Nat → ClassId) (dI : Nat → Nat → Nat) (cy : Nat → ClassId) (sq : Nat → Nat) (a_this : Nat) (rm : Nat → Nat) (x_taped : Int32) (x_at : Int32) (x_end : Int32) (x_ended : Int32) (x_bad : Int32) (x_badPlace : Int32) (x_fault : Int32) (x_faultPlace : Int32) (x_namePlace : Int32) (x_awayTold : Int32) (x_away : Int32) (x_coded : Int32) (x_statements : Int32) (x_isCrossing : Int32) (x_textKind : Int32) (x_askSecond : Int32) (x_redMany : Int32) (x_isOpen : Int32) (x_lastGreen : Int32) (x_greenTo : Int32) (x_isCycleGreen : Int32) (x_stillGreen : Int32) (x_rowMany : Int32) (x_fitMany : Int32) (x_fitRules : Int32) (x_fitGreen : Int32) (x_undoable : Int32) (x_newest : Int32) (x_seeded : Int64) (x_qCoded : Int32) (x_qWaits : Int32) (x_qOpened : Int32) (x_qBase : Int32) (x_qPiled : Int32) (x_qAnswer : Int64) (x_qIsNew : Int32) (x_octets : Int32) (g_tape : Nat → Int32) (hx_at : ib x_at 0 1600) (hx_end : ib x_end 0 1600) (hg_tape : ia g_tape 1600 0 255) : k_Met l yX10_takesSign cX10_takesSign 2 (some .boolean) { frames := 1, cells := 0, slots := 0, locals := 20 } dC dI cy sq [.ref a_this, .int 47] [(a_this, .inr (10, mfs rm x_taped x_at x_end x_ended x_bad x_badPlace x_fault x_faultPlace x_namePlace x_awayTold x_away x_coded x_statements x_isCrossing x_textKind x_askSecond x_redMany x_isOpen x_lastGreen x_greenTo x_isCycleGreen x_stillGreen x_rowMany x_fitMany x_fitRules x_fitGreen x_undoable x_newest x_seeded x_qCoded x_qWaits x_qOpened x_qBase x_qPiled x_qAnswer x_qIsNew x_octets)), (wi_rm0_0_1600_0 rm cy g_tape)] (k_Qi dC dI (fun (r : Int32) (n0 : Int32) => ib n0 0 1600 ∧ ib r 0 1 ∧ (¬ r = 0 → ib n0 1 1600) ∧ (¬ r = 0 → ib x_at 0 1599) ∧ (¬ r = 0 → ib x_end 1 1600) ∧ (¬ r = 0 → ib x_bad 0 0) ∧ (1 * x_at.toInt + (-1) * n0.toInt ≤ 0) ∧ (¬ r = 0 → 1 * x_at.toInt + (-1) * n0.toInt ≤ (-1)) ∧ (F_X10_takesSign_a0_47 (Int32.toInt x_at) (Int32.toInt x_end) (Int32.toInt x_bad) (lf_A g_tape) = ((Int32.toInt r), (Int32.toInt n0)))) (fun n0 : Int32 => [(a_this, .inr (10, mfs rm x_taped n0 x_end x_ended x_bad x_badPlace x_fault x_faultPlace x_namePlace x_awayTold x_away x_coded x_statements x_isCrossing x_textKind x_askSecond x_redMany x_isOpen x_lastGreen x_greenTo x_isCycleGreen x_stillGreen x_rowMany x_fitMany x_fitRules x_fitGreen x_undoable x_newest x_seeded x_qCoded x_qWaits x_qOpened x_qBase x_qPiled x_qAnswer x_qIsNew x_octets)), (wi_rm0_0_1600_0 rm cy g_tape)])) := by
  refine k_ofW2 (by decide +kernel) (Nat.le_of_ble_eq_true rfl) ?_
  intro p e s m below meth c A ls H locs args Q hQ C0 hZ hr hlk hin hP hD hA hS hl
  have C0 : k_cx p s m args c cX10_takesSign 2 RX10 dC dI cy sq := C0
  have hx := C0.1
  have hb := C0.2.1
  have hl : lv_has ls 2 [(0, .ref a_this), (1, .int 47)] := hl
  obtain ⟨O, hO⟩ : ∃ o, o = F_X10_takesSign_a0_47 (Int32.toInt x_at) (Int32.toInt x_end) (Int32.toInt x_bad) (lf_A g_tape) := ⟨_, rfl⟩
  have hq := hO
  unfold F_X10_takesSign_a0_47 at hq
  refine lv_aload_n hx hb dX10_takesSign_0 rfl (lv_at hl 0 rfl) ?_
  refine k_get C0 fg_X10_279 hP 0 rfl rfl dX10_takesSign_1 ?_
  refine lv_if_ne (tgt := 15) hx hb dX10_takesSign_4 rfl (fun c1 => ?_) (fun c1 => ?_)
  · replace hq := lf_neg hq (lf_ne (lf_rf x_bad) (lf_lc 0 (0 : Int) rfl) c1)
    refine lv_iconst (v := 0) hx hb dX10_takesSign_15 rfl ?_
    subst hQ; exact k_iret hx hb hr hlk (k_nb 0 rfl) x_at hS ⟨ib_w 0 1600 hx_at rfl, ib_w 0 1 (ib_c 0 0 0 rfl) rfl, fun hq9 => absurd rfl hq9, fun hq9 => absurd rfl hq9, fun hq9 => absurd rfl hq9, fun hq9 => absurd rfl hq9, (by omega), fun hq9 => absurd rfl hq9, (hO.symm.trans (by try simp only [show (0 : Int32).toInt = (0 : Int) from rfl]; exact hq))⟩ hP hD (Nat.le_of_ble_eq_true rfl) (Nat.le_of_ble_eq_true rfl) dX10_takesSign_16
  · replace hq := lf_pos hq (lf_eq (lf_rf x_bad) (lf_lc 0 (0 : Int) rfl) c1)
    have h2 := ib_eq (ib_any x_bad) (ib_c 0 0 0 rfl) c1
    have h3 : ib x_bad 0 0 := ib_w 0 0 h2.1 rfl
    refine lv_aload_n hx hb dX10_takesSign_7 rfl (lv_at hl 0 rfl) ?_
    refine k_jim hP hD hS hA [0, 1] [] rfl rfl rfl 0 0 (Nat.le_of_ble_eq_true rfl) (Nat.le_of_ble_eq_true rfl) (fun hPc hDc => k_runV (As := []) (rest := []) C0 hZ hS hA (s_X10_look l dC dI cy sq a_this rm x_taped x_at x_end x_ended x_bad x_badPlace x_fault x_faultPlace x_namePlace x_awayTold x_away x_coded x_statements x_isCrossing x_textKind x_askSecond x_redMany x_isOpen x_lastGreen x_greenTo x_isCycleGreen x_stillGreen x_rowMany x_fitMany x_fitRules x_fitGreen x_undoable x_newest x_seeded x_qCoded x_qWaits x_qOpened x_qBase x_qPiled x_qAnswer x_qIsNew x_octets g_tape (ib_w 0 1600 hx_at rfl) (ib_w 0 1600 hx_end rfl) hg_tape) mV_X10_291 hPc hDc rfl rfl rfl hl rfl rfl (Nat.le_of_ble_eq_true rfl) ⟨(Nat.le_of_ble_eq_true rfl), (Nat.le_of_ble_eq_true rfl)⟩ ⟨(Nat.le_of_ble_eq_true rfl), (Nat.le_of_ble_eq_true rfl)⟩ dX10_takesSign_8) (fun r4 u5 H locs hw hP hD hS => ?_)
    obtain ⟨v6, ev6⟩ : ∃ z, z = u5 := ⟨_, rfl⟩; subst ev6
    try dsimp only at hP hD hw
    replace hP : va_P (dC, dI) vwCl [(a_this, .inr (10, mfs rm x_taped v6 x_end x_ended x_bad x_badPlace x_fault x_faultPlace x_namePlace x_awayTold x_away x_coded x_statements x_isCrossing x_textKind x_askSecond x_redMany x_isOpen x_lastGreen x_greenTo x_isCycleGreen x_stillGreen x_rowMany x_fitMany x_fitRules x_fitGreen x_undoable x_newest x_seeded x_qCoded x_qWaits x_qOpened x_qBase x_qPiled x_qAnswer x_qIsNew x_octets)), (wi_rm0_0_1600_0 rm cy g_tape)] H := hP
    replace hD := k_D hP hD
    obtain ⟨h7, h8, h9, h10, h11, h12, h13, h14, h15, h16⟩ := hw
    replace hq := lf_p1 hq h16
    refine lv_iload_n hx hb dX10_takesSign_11 rfl (lv_at hl 1 rfl) ?_
    refine lv_icmp_eq (tgt := 17) hx hb dX10_takesSign_12 rfl (fun c17 => ?_) (fun c17 => ?_)
    · replace hq := lf_pos hq (lf_eq (lf_rf r4) (lf_lc 47 (47 : Int) rfl) c17)
      have h18 := ib_eq h8 (ib_c 47 47 47 rfl) c17
      have h19 : ib r4 47 47 := ib_w 47 47 h18.1 rfl
      have h20 : ib v6 0 1599 := ib_w 0 1599 (ib_two h7 (h9 (ib_nc (-1) h19 rfl))) rfl
      have h21 : ib x_at 0 1599 := ib_w 0 1599 (ib_two hx_at (h10 (ib_nc (-1) h19 rfl))) rfl
      have h22 : ib x_end 1 1600 := ib_w 1 1600 (ib_two hx_end (h11 (ib_nc (-1) h19 rfl))) rfl
      refine lv_aload_n hx hb dX10_takesSign_17 rfl (lv_at hl 0 rfl) ?_
      refine lv_dup hx hb dX10_takesSign_18 rfl ?_
      refine k_get C0 fg_X10_285 hP 0 rfl rfl dX10_takesSign_19 ?_
      refine lv_iconst (v := 1) hx hb dX10_takesSign_22 rfl ?_
      refine lv_iadd hx hb dX10_takesSign_23 ?_
      refine lv_topi (fun z23 ez23 => ?_)
      have h24 := ib_add h20 (ib_c 1 1 1 rfl) rfl
      rw [← ez23] at h24
      have h25 : ib z23 1 1600 := ib_w 1 1600 h24.1 rfl
      have Ez23 := lf_add h24.2 (lf_rf v6) (lf_lc 1 (1 : Int) rfl)
      refine k_put C0 fp_X10_285 hP hD hS 0 rfl rfl rfl (Nat.le_of_ble_eq_true rfl) dX10_takesSign_24 (fun H locs hP hD hS => ?_)
      replace hP : va_P (dC, dI) vwCl [(a_this, .inr (10, mfs rm x_taped z23 x_end x_ended x_bad x_badPlace x_fault x_faultPlace x_namePlace x_awayTold x_away x_coded x_statements x_isCrossing x_textKind x_askSecond x_redMany x_isOpen x_lastGreen x_greenTo x_isCycleGreen x_stillGreen x_rowMany x_fitMany x_fitRules x_fitGreen x_undoable x_newest x_seeded x_qCoded x_qWaits x_qOpened x_qBase x_qPiled x_qAnswer x_qIsNew x_octets)), (wi_rm0_0_1600_0 rm cy g_tape)] H := hP
      replace hD := k_D hP hD
      refine lv_iconst (v := 1) hx hb dX10_takesSign_27 rfl ?_
      subst hQ; exact k_iret hx hb hr hlk (k_nb 1 rfl) z23 hS ⟨ib_w 0 1600 h25 rfl, ib_w 0 1 (ib_c 1 1 1 rfl) rfl, fun _ => ib_w 1 1600 h25 rfl, fun _ => ib_w 0 1599 h21 rfl, fun _ => ib_w 1 1600 h22 rfl, fun _ => ib_w 0 0 h3 rfl, (by have := h24.2; have : (1 : Int32).toInt = 1 := rfl; have := h12; omega), fun _ => (by have := h24.2; have : (1 : Int32).toInt = 1 := rfl; have := h12; omega), (hO.symm.trans (by try simp only [show (1 : Int32).toInt = (1 : Int) from rfl]; rw [lf_u Ez23]; exact hq))⟩ hP hD (Nat.le_of_ble_eq_true rfl) (Nat.le_of_ble_eq_true rfl) dX10_takesSign_28
    · replace hq := lf_neg hq (lf_ne (lf_rf r4) (lf_lc 47 (47 : Int) rfl) c17)
      refine lv_iconst (v := 0) hx hb dX10_takesSign_15 rfl ?_
      subst hQ; exact k_iret hx hb hr hlk (k_nb 0 rfl) v6 hS ⟨ib_w 0 1600 h7 rfl, ib_w 0 1 (ib_c 0 0 0 rfl) rfl, fun hq9 => absurd rfl hq9, fun hq9 => absurd rfl hq9, fun hq9 => absurd rfl hq9, fun hq9 => absurd rfl hq9, (by have := h12; omega), fun hq9 => absurd rfl hq9, (hO.symm.trans (by try simp only [show (0 : Int32).toInt = (0 : Int) from rfl]; exact hq))⟩ hP hD (Nat.le_of_ble_eq_true rfl) (Nat.le_of_ble_eq_true rfl) dX10_takesSign_16
set_option maxHeartbeats 4000000 in
set_option maxRecDepth 100000 in
theorem s_X10_takesSign_a0_43 (l : Launch) (dC : Nat → ClassId) (dI : Nat → Nat → Nat) (cy : Nat → ClassId) (sq : Nat → Nat) (a_this : Nat) (rm : Nat → Nat) (x_taped : Int32) (x_at : Int32) (x_end : Int32) (x_ended : Int32) (x_bad : Int32) (x_badPlace : Int32) (x_fault : Int32) (x_faultPlace : Int32) (x_namePlace : Int32) (x_awayTold : Int32) (x_away : Int32) (x_coded : Int32) (x_statements : Int32) (x_isCrossing : Int32) (x_textKind : Int32) (x_askSecond : Int32) (x_redMany : Int32) (x_isOpen : Int32) (x_lastGreen : Int32) (x_greenTo : Int32) (x_isCycleGreen : Int32) (x_stillGreen : Int32) (x_rowMany : Int32) (x_fitMany : Int32) (x_fitRules : Int32) (x_fitGreen : Int32) (x_undoable : Int32) (x_newest : Int32) (x_seeded : Int64) (x_qCoded : Int32) (x_qWaits : Int32) (x_qOpened : Int32) (x_qBase : Int32) (x_qPiled : Int32) (x_qAnswer : Int64) (x_qIsNew : Int32) (x_octets : Int32) (g_tape : Nat → Int32) (hx_at : ib x_at 0 1600) (hx_end : ib x_end 0 1600) (hg_tape : ia g_tape 1600 0 255) : k_Met l yX10_takesSign cX10_takesSign 2 (some .boolean) { frames := 1, cells := 0, slots := 0, locals := 20 } dC dI cy sq [.ref a_this, .int 43] [(a_this, .inr (10, mfs rm x_taped x_at x_end x_ended x_bad x_badPlace x_fault x_faultPlace x_namePlace x_awayTold x_away x_coded x_statements x_isCrossing x_textKind x_askSecond x_redMany x_isOpen x_lastGreen x_greenTo x_isCycleGreen x_stillGreen x_rowMany x_fitMany x_fitRules x_fitGreen x_undoable x_newest x_seeded x_qCoded x_qWaits x_qOpened x_qBase x_qPiled x_qAnswer x_qIsNew x_octets)), (wi_rm0_0_1600_0 rm cy g_tape)] (k_Qi dC dI (fun (r : Int32) (n0 : Int32) => ib n0 0 1600 ∧ ib r 0 1 ∧ (¬ r = 0 → ib n0 1 1600) ∧ (¬ r = 0 → ib x_at 0 1599) ∧ (¬ r = 0 → ib x_end 1 1600) ∧ (¬ r = 0 → ib x_bad 0 0) ∧ (1 * x_at.toInt + (-1) * n0.toInt ≤ 0) ∧ (¬ r = 0 → 1 * x_at.toInt + (-1) * n0.toInt ≤ (-1)) ∧ (F_X10_takesSign_a0_43 (Int32.toInt x_at) (Int32.toInt x_end) (Int32.toInt x_bad) (lf_A g_tape) = ((Int32.toInt r), (Int32.toInt n0)))) (fun n0 : Int32 => [(a_this, .inr (10, mfs rm x_taped n0 x_end x_ended x_bad x_badPlace x_fault x_faultPlace x_namePlace x_awayTold x_away x_coded x_statements x_isCrossing x_textKind x_askSecond x_redMany x_isOpen x_lastGreen x_greenTo x_isCycleGreen x_stillGreen x_rowMany x_fitMany x_fitRules x_fitGreen x_undoable x_newest x_seeded x_qCoded x_qWaits x_qOpened x_qBase x_qPiled x_qAnswer x_qIsNew x_octets)), (wi_rm0_0_1600_0 rm cy g_tape)])) := by
  refine k_ofW2 (by decide +kernel) (Nat.le_of_ble_eq_true rfl) ?_
  intro p e s m below meth c A ls H locs args Q hQ C0 hZ hr hlk hin hP hD hA hS hl
  have C0 : k_cx p s m args c cX10_takesSign 2 RX10 dC dI cy sq := C0
  have hx := C0.1
  have hb := C0.2.1
  have hl : lv_has ls 2 [(0, .ref a_this), (1, .int 43)] := hl
  obtain ⟨O, hO⟩ : ∃ o, o = F_X10_takesSign_a0_43 (Int32.toInt x_at) (Int32.toInt x_end) (Int32.toInt x_bad) (lf_A g_tape) := ⟨_, rfl⟩
  have hq := hO
  unfold F_X10_takesSign_a0_43 at hq
  refine lv_aload_n hx hb dX10_takesSign_0 rfl (lv_at hl 0 rfl) ?_
  refine k_get C0 fg_X10_279 hP 0 rfl rfl dX10_takesSign_1 ?_
  refine lv_if_ne (tgt := 15) hx hb dX10_takesSign_4 rfl (fun c1 => ?_) (fun c1 => ?_)
  · replace hq := lf_neg hq (lf_ne (lf_rf x_bad) (lf_lc 0 (0 : Int) rfl) c1)
    refine lv_iconst (v := 0) hx hb dX10_takesSign_15 rfl ?_
    subst hQ; exact k_iret hx hb hr hlk (k_nb 0 rfl) x_at hS ⟨ib_w 0 1600 hx_at rfl, ib_w 0 1 (ib_c 0 0 0 rfl) rfl, fun hq9 => absurd rfl hq9, fun hq9 => absurd rfl hq9, fun hq9 => absurd rfl hq9, fun hq9 => absurd rfl hq9, (by omega), fun hq9 => absurd rfl hq9, (hO.symm.trans (by try simp only [show (0 : Int32).toInt = (0 : Int) from rfl]; exact hq))⟩ hP hD (Nat.le_of_ble_eq_true rfl) (Nat.le_of_ble_eq_true rfl) dX10_takesSign_16
  · replace hq := lf_pos hq (lf_eq (lf_rf x_bad) (lf_lc 0 (0 : Int) rfl) c1)
    have h2 := ib_eq (ib_any x_bad) (ib_c 0 0 0 rfl) c1
    have h3 : ib x_bad 0 0 := ib_w 0 0 h2.1 rfl
    refine lv_aload_n hx hb dX10_takesSign_7 rfl (lv_at hl 0 rfl) ?_
    refine k_jim hP hD hS hA [0, 1] [] rfl rfl rfl 0 0 (Nat.le_of_ble_eq_true rfl) (Nat.le_of_ble_eq_true rfl) (fun hPc hDc => k_runV (As := []) (rest := []) C0 hZ hS hA (s_X10_look l dC dI cy sq a_this rm x_taped x_at x_end x_ended x_bad x_badPlace x_fault x_faultPlace x_namePlace x_awayTold x_away x_coded x_statements x_isCrossing x_textKind x_askSecond x_redMany x_isOpen x_lastGreen x_greenTo x_isCycleGreen x_stillGreen x_rowMany x_fitMany x_fitRules x_fitGreen x_undoable x_newest x_seeded x_qCoded x_qWaits x_qOpened x_qBase x_qPiled x_qAnswer x_qIsNew x_octets g_tape (ib_w 0 1600 hx_at rfl) (ib_w 0 1600 hx_end rfl) hg_tape) mV_X10_291 hPc hDc rfl rfl rfl hl rfl rfl (Nat.le_of_ble_eq_true rfl) ⟨(Nat.le_of_ble_eq_true rfl), (Nat.le_of_ble_eq_true rfl)⟩ ⟨(Nat.le_of_ble_eq_true rfl), (Nat.le_of_ble_eq_true rfl)⟩ dX10_takesSign_8) (fun r4 u5 H locs hw hP hD hS => ?_)
    obtain ⟨v6, ev6⟩ : ∃ z, z = u5 := ⟨_, rfl⟩; subst ev6
    try dsimp only at hP hD hw
    replace hP : va_P (dC, dI) vwCl [(a_this, .inr (10, mfs rm x_taped v6 x_end x_ended x_bad x_badPlace x_fault x_faultPlace x_namePlace x_awayTold x_away x_coded x_statements x_isCrossing x_textKind x_askSecond x_redMany x_isOpen x_lastGreen x_greenTo x_isCycleGreen x_stillGreen x_rowMany x_fitMany x_fitRules x_fitGreen x_undoable x_newest x_seeded x_qCoded x_qWaits x_qOpened x_qBase x_qPiled x_qAnswer x_qIsNew x_octets)), (wi_rm0_0_1600_0 rm cy g_tape)] H := hP
    replace hD := k_D hP hD
    obtain ⟨h7, h8, h9, h10, h11, h12, h13, h14, h15, h16⟩ := hw
    replace hq := lf_p1 hq h16
    refine lv_iload_n hx hb dX10_takesSign_11 rfl (lv_at hl 1 rfl) ?_
    refine lv_icmp_eq (tgt := 17) hx hb dX10_takesSign_12 rfl (fun c17 => ?_) (fun c17 => ?_)
    · replace hq := lf_pos hq (lf_eq (lf_rf r4) (lf_lc 43 (43 : Int) rfl) c17)
      have h18 := ib_eq h8 (ib_c 43 43 43 rfl) c17
      have h19 : ib r4 43 43 := ib_w 43 43 h18.1 rfl
      have h20 : ib v6 0 1599 := ib_w 0 1599 (ib_two h7 (h9 (ib_nc (-1) h19 rfl))) rfl
      have h21 : ib x_at 0 1599 := ib_w 0 1599 (ib_two hx_at (h10 (ib_nc (-1) h19 rfl))) rfl
      have h22 : ib x_end 1 1600 := ib_w 1 1600 (ib_two hx_end (h11 (ib_nc (-1) h19 rfl))) rfl
      refine lv_aload_n hx hb dX10_takesSign_17 rfl (lv_at hl 0 rfl) ?_
      refine lv_dup hx hb dX10_takesSign_18 rfl ?_
      refine k_get C0 fg_X10_285 hP 0 rfl rfl dX10_takesSign_19 ?_
      refine lv_iconst (v := 1) hx hb dX10_takesSign_22 rfl ?_
      refine lv_iadd hx hb dX10_takesSign_23 ?_
      refine lv_topi (fun z23 ez23 => ?_)
      have h24 := ib_add h20 (ib_c 1 1 1 rfl) rfl
      rw [← ez23] at h24
      have h25 : ib z23 1 1600 := ib_w 1 1600 h24.1 rfl
      have Ez23 := lf_add h24.2 (lf_rf v6) (lf_lc 1 (1 : Int) rfl)
      refine k_put C0 fp_X10_285 hP hD hS 0 rfl rfl rfl (Nat.le_of_ble_eq_true rfl) dX10_takesSign_24 (fun H locs hP hD hS => ?_)
      replace hP : va_P (dC, dI) vwCl [(a_this, .inr (10, mfs rm x_taped z23 x_end x_ended x_bad x_badPlace x_fault x_faultPlace x_namePlace x_awayTold x_away x_coded x_statements x_isCrossing x_textKind x_askSecond x_redMany x_isOpen x_lastGreen x_greenTo x_isCycleGreen x_stillGreen x_rowMany x_fitMany x_fitRules x_fitGreen x_undoable x_newest x_seeded x_qCoded x_qWaits x_qOpened x_qBase x_qPiled x_qAnswer x_qIsNew x_octets)), (wi_rm0_0_1600_0 rm cy g_tape)] H := hP
      replace hD := k_D hP hD
      refine lv_iconst (v := 1) hx hb dX10_takesSign_27 rfl ?_
      subst hQ; exact k_iret hx hb hr hlk (k_nb 1 rfl) z23 hS ⟨ib_w 0 1600 h25 rfl, ib_w 0 1 (ib_c 1 1 1 rfl) rfl, fun _ => ib_w 1 1600 h25 rfl, fun _ => ib_w 0 1599 h21 rfl, fun _ => ib_w 1 1600 h22 rfl, fun _ => ib_w 0 0 h3 rfl, (by have := h24.2; have : (1 : Int32).toInt = 1 := rfl; have := h12; omega), fun _ => (by have := h24.2; have : (1 : Int32).toInt = 1 := rfl; have := h12; omega), (hO.symm.trans (by try simp only [show (1 : Int32).toInt = (1 : Int) from rfl]; rw [lf_u Ez23]; exact hq))⟩ hP hD (Nat.le_of_ble_eq_true rfl) (Nat.le_of_ble_eq_true rfl) dX10_takesSign_28
    · replace hq := lf_neg hq (lf_ne (lf_rf r4) (lf_lc 43 (43 : Int) rfl) c17)
      refine lv_iconst (v := 0) hx hb dX10_takesSign_15 rfl ?_
      subst hQ; exact k_iret hx hb hr hlk (k_nb 0 rfl) v6 hS ⟨ib_w 0 1600 h7 rfl, ib_w 0 1 (ib_c 0 0 0 rfl) rfl, fun hq9 => absurd rfl hq9, fun hq9 => absurd rfl hq9, fun hq9 => absurd rfl hq9, fun hq9 => absurd rfl hq9, (by have := h12; omega), fun hq9 => absurd rfl hq9, (hO.symm.trans (by try simp only [show (0 : Int32).toInt = (0 : Int) from rfl]; exact hq))⟩ hP hD (Nat.le_of_ble_eq_true rfl) (Nat.le_of_ble_eq_true rfl) dX10_takesSign_16
set_option maxHeartbeats 4000000 in
set_option maxRecDepth 100000 in
theorem s_X10_takesSign_a0_45 (l : Launch) (dC : Nat → ClassId) (dI : Nat → Nat → Nat) (cy : Nat → ClassId) (sq : Nat → Nat) (a_this : Nat) (rm : Nat → Nat) (x_taped : Int32) (x_at : Int32) (x_end : Int32) (x_ended : Int32) (x_bad : Int32) (x_badPlace : Int32) (x_fault : Int32) (x_faultPlace : Int32) (x_namePlace : Int32) (x_awayTold : Int32) (x_away : Int32) (x_coded : Int32) (x_statements : Int32) (x_isCrossing : Int32) (x_textKind : Int32) (x_askSecond : Int32) (x_redMany : Int32) (x_isOpen : Int32) (x_lastGreen : Int32) (x_greenTo : Int32) (x_isCycleGreen : Int32) (x_stillGreen : Int32) (x_rowMany : Int32) (x_fitMany : Int32) (x_fitRules : Int32) (x_fitGreen : Int32) (x_undoable : Int32) (x_newest : Int32) (x_seeded : Int64) (x_qCoded : Int32) (x_qWaits : Int32) (x_qOpened : Int32) (x_qBase : Int32) (x_qPiled : Int32) (x_qAnswer : Int64) (x_qIsNew : Int32) (x_octets : Int32) (g_tape : Nat → Int32) (hx_at : ib x_at 0 1600) (hx_end : ib x_end 0 1600) (hg_tape : ia g_tape 1600 0 255) : k_Met l yX10_takesSign cX10_takesSign 2 (some .boolean) { frames := 1, cells := 0, slots := 0, locals := 20 } dC dI cy sq [.ref a_this, .int 45] [(a_this, .inr (10, mfs rm x_taped x_at x_end x_ended x_bad x_badPlace x_fault x_faultPlace x_namePlace x_awayTold x_away x_coded x_statements x_isCrossing x_textKind x_askSecond x_redMany x_isOpen x_lastGreen x_greenTo x_isCycleGreen x_stillGreen x_rowMany x_fitMany x_fitRules x_fitGreen x_undoable x_newest x_seeded x_qCoded x_qWaits x_qOpened x_qBase x_qPiled x_qAnswer x_qIsNew x_octets)), (wi_rm0_0_1600_0 rm cy g_tape)] (k_Qi dC dI (fun (r : Int32) (n0 : Int32) => ib n0 0 1600 ∧ ib r 0 1 ∧ (¬ r = 0 → ib n0 1 1600) ∧ (¬ r = 0 → ib x_at 0 1599) ∧ (¬ r = 0 → ib x_end 1 1600) ∧ (¬ r = 0 → ib x_bad 0 0) ∧ (1 * x_at.toInt + (-1) * n0.toInt ≤ 0) ∧ (¬ r = 0 → 1 * x_at.toInt + (-1) * n0.toInt ≤ (-1)) ∧ (F_X10_takesSign_a0_45 (Int32.toInt x_at) (Int32.toInt x_end) (Int32.toInt x_bad) (lf_A g_tape) = ((Int32.toInt r), (Int32.toInt n0)))) (fun n0 : Int32 => [(a_this, .inr (10, mfs rm x_taped n0 x_end x_ended x_bad x_badPlace x_fault x_faultPlace x_namePlace x_awayTold x_away x_coded x_statements x_isCrossing x_textKind x_askSecond x_redMany x_isOpen x_lastGreen x_greenTo x_isCycleGreen x_stillGreen x_rowMany x_fitMany x_fitRules x_fitGreen x_undoable x_newest x_seeded x_qCoded x_qWaits x_qOpened x_qBase x_qPiled x_qAnswer x_qIsNew x_octets)), (wi_rm0_0_1600_0 rm cy g_tape)])) := by
  refine k_ofW2 (by decide +kernel) (Nat.le_of_ble_eq_true rfl) ?_
  intro p e s m below meth c A ls H locs args Q hQ C0 hZ hr hlk hin hP hD hA hS hl
  have C0 : k_cx p s m args c cX10_takesSign 2 RX10 dC dI cy sq := C0
  have hx := C0.1
  have hb := C0.2.1
  have hl : lv_has ls 2 [(0, .ref a_this), (1, .int 45)] := hl
  obtain ⟨O, hO⟩ : ∃ o, o = F_X10_takesSign_a0_45 (Int32.toInt x_at) (Int32.toInt x_end) (Int32.toInt x_bad) (lf_A g_tape) := ⟨_, rfl⟩
  have hq := hO
  unfold F_X10_takesSign_a0_45 at hq
  refine lv_aload_n hx hb dX10_takesSign_0 rfl (lv_at hl 0 rfl) ?_
  refine k_get C0 fg_X10_279 hP 0 rfl rfl dX10_takesSign_1 ?_
  refine lv_if_ne (tgt := 15) hx hb dX10_takesSign_4 rfl (fun c1 => ?_) (fun c1 => ?_)
  · replace hq := lf_neg hq (lf_ne (lf_rf x_bad) (lf_lc 0 (0 : Int) rfl) c1)
    refine lv_iconst (v := 0) hx hb dX10_takesSign_15 rfl ?_
    subst hQ; exact k_iret hx hb hr hlk (k_nb 0 rfl) x_at hS ⟨ib_w 0 1600 hx_at rfl, ib_w 0 1 (ib_c 0 0 0 rfl) rfl, fun hq9 => absurd rfl hq9, fun hq9 => absurd rfl hq9, fun hq9 => absurd rfl hq9, fun hq9 => absurd rfl hq9, (by omega), fun hq9 => absurd rfl hq9, (hO.symm.trans (by try simp only [show (0 : Int32).toInt = (0 : Int) from rfl]; exact hq))⟩ hP hD (Nat.le_of_ble_eq_true rfl) (Nat.le_of_ble_eq_true rfl) dX10_takesSign_16
  · replace hq := lf_pos hq (lf_eq (lf_rf x_bad) (lf_lc 0 (0 : Int) rfl) c1)
    have h2 := ib_eq (ib_any x_bad) (ib_c 0 0 0 rfl) c1
    have h3 : ib x_bad 0 0 := ib_w 0 0 h2.1 rfl
    refine lv_aload_n hx hb dX10_takesSign_7 rfl (lv_at hl 0 rfl) ?_
    refine k_jim hP hD hS hA [0, 1] [] rfl rfl rfl 0 0 (Nat.le_of_ble_eq_true rfl) (Nat.le_of_ble_eq_true rfl) (fun hPc hDc => k_runV (As := []) (rest := []) C0 hZ hS hA (s_X10_look l dC dI cy sq a_this rm x_taped x_at x_end x_ended x_bad x_badPlace x_fault x_faultPlace x_namePlace x_awayTold x_away x_coded x_statements x_isCrossing x_textKind x_askSecond x_redMany x_isOpen x_lastGreen x_greenTo x_isCycleGreen x_stillGreen x_rowMany x_fitMany x_fitRules x_fitGreen x_undoable x_newest x_seeded x_qCoded x_qWaits x_qOpened x_qBase x_qPiled x_qAnswer x_qIsNew x_octets g_tape (ib_w 0 1600 hx_at rfl) (ib_w 0 1600 hx_end rfl) hg_tape) mV_X10_291 hPc hDc rfl rfl rfl hl rfl rfl (Nat.le_of_ble_eq_true rfl) ⟨(Nat.le_of_ble_eq_true rfl), (Nat.le_of_ble_eq_true rfl)⟩ ⟨(Nat.le_of_ble_eq_true rfl), (Nat.le_of_ble_eq_true rfl)⟩ dX10_takesSign_8) (fun r4 u5 H locs hw hP hD hS => ?_)
    obtain ⟨v6, ev6⟩ : ∃ z, z = u5 := ⟨_, rfl⟩; subst ev6
    try dsimp only at hP hD hw
    replace hP : va_P (dC, dI) vwCl [(a_this, .inr (10, mfs rm x_taped v6 x_end x_ended x_bad x_badPlace x_fault x_faultPlace x_namePlace x_awayTold x_away x_coded x_statements x_isCrossing x_textKind x_askSecond x_redMany x_isOpen x_lastGreen x_greenTo x_isCycleGreen x_stillGreen x_rowMany x_fitMany x_fitRules x_fitGreen x_undoable x_newest x_seeded x_qCoded x_qWaits x_qOpened x_qBase x_qPiled x_qAnswer x_qIsNew x_octets)), (wi_rm0_0_1600_0 rm cy g_tape)] H := hP
    replace hD := k_D hP hD
    obtain ⟨h7, h8, h9, h10, h11, h12, h13, h14, h15, h16⟩ := hw
    replace hq := lf_p1 hq h16
    refine lv_iload_n hx hb dX10_takesSign_11 rfl (lv_at hl 1 rfl) ?_
    refine lv_icmp_eq (tgt := 17) hx hb dX10_takesSign_12 rfl (fun c17 => ?_) (fun c17 => ?_)
    · replace hq := lf_pos hq (lf_eq (lf_rf r4) (lf_lc 45 (45 : Int) rfl) c17)
      have h18 := ib_eq h8 (ib_c 45 45 45 rfl) c17
      have h19 : ib r4 45 45 := ib_w 45 45 h18.1 rfl
      have h20 : ib v6 0 1599 := ib_w 0 1599 (ib_two h7 (h9 (ib_nc (-1) h19 rfl))) rfl
      have h21 : ib x_at 0 1599 := ib_w 0 1599 (ib_two hx_at (h10 (ib_nc (-1) h19 rfl))) rfl
      have h22 : ib x_end 1 1600 := ib_w 1 1600 (ib_two hx_end (h11 (ib_nc (-1) h19 rfl))) rfl
      refine lv_aload_n hx hb dX10_takesSign_17 rfl (lv_at hl 0 rfl) ?_
      refine lv_dup hx hb dX10_takesSign_18 rfl ?_
      refine k_get C0 fg_X10_285 hP 0 rfl rfl dX10_takesSign_19 ?_
      refine lv_iconst (v := 1) hx hb dX10_takesSign_22 rfl ?_
      refine lv_iadd hx hb dX10_takesSign_23 ?_
      refine lv_topi (fun z23 ez23 => ?_)
      have h24 := ib_add h20 (ib_c 1 1 1 rfl) rfl
      rw [← ez23] at h24
      have h25 : ib z23 1 1600 := ib_w 1 1600 h24.1 rfl
      have Ez23 := lf_add h24.2 (lf_rf v6) (lf_lc 1 (1 : Int) rfl)
      refine k_put C0 fp_X10_285 hP hD hS 0 rfl rfl rfl (Nat.le_of_ble_eq_true rfl) dX10_takesSign_24 (fun H locs hP hD hS => ?_)
      replace hP : va_P (dC, dI) vwCl [(a_this, .inr (10, mfs rm x_taped z23 x_end x_ended x_bad x_badPlace x_fault x_faultPlace x_namePlace x_awayTold x_away x_coded x_statements x_isCrossing x_textKind x_askSecond x_redMany x_isOpen x_lastGreen x_greenTo x_isCycleGreen x_stillGreen x_rowMany x_fitMany x_fitRules x_fitGreen x_undoable x_newest x_seeded x_qCoded x_qWaits x_qOpened x_qBase x_qPiled x_qAnswer x_qIsNew x_octets)), (wi_rm0_0_1600_0 rm cy g_tape)] H := hP
      replace hD := k_D hP hD
      refine lv_iconst (v := 1) hx hb dX10_takesSign_27 rfl ?_
      subst hQ; exact k_iret hx hb hr hlk (k_nb 1 rfl) z23 hS ⟨ib_w 0 1600 h25 rfl, ib_w 0 1 (ib_c 1 1 1 rfl) rfl, fun _ => ib_w 1 1600 h25 rfl, fun _ => ib_w 0 1599 h21 rfl, fun _ => ib_w 1 1600 h22 rfl, fun _ => ib_w 0 0 h3 rfl, (by have := h24.2; have : (1 : Int32).toInt = 1 := rfl; have := h12; omega), fun _ => (by have := h24.2; have : (1 : Int32).toInt = 1 := rfl; have := h12; omega), (hO.symm.trans (by try simp only [show (1 : Int32).toInt = (1 : Int) from rfl]; rw [lf_u Ez23]; exact hq))⟩ hP hD (Nat.le_of_ble_eq_true rfl) (Nat.le_of_ble_eq_true rfl) dX10_takesSign_28
    · replace hq := lf_neg hq (lf_ne (lf_rf r4) (lf_lc 45 (45 : Int) rfl) c17)
      refine lv_iconst (v := 0) hx hb dX10_takesSign_15 rfl ?_
      subst hQ; exact k_iret hx hb hr hlk (k_nb 0 rfl) v6 hS ⟨ib_w 0 1600 h7 rfl, ib_w 0 1 (ib_c 0 0 0 rfl) rfl, fun hq9 => absurd rfl hq9, fun hq9 => absurd rfl hq9, fun hq9 => absurd rfl hq9, fun hq9 => absurd rfl hq9, (by have := h12; omega), fun hq9 => absurd rfl hq9, (hO.symm.trans (by try simp only [show (0 : Int32).toInt = (0 : Int) from rfl]; exact hq))⟩ hP hD (Nat.le_of_ble_eq_true rfl) (Nat.le_of_ble_eq_true rfl) dX10_takesSign_16
set_option maxHeartbeats 4000000 in
set_option maxRecDepth 100000 in
theorem s_X10_qIsBracket (l : Launch) (dC : Nat → ClassId) (dI : Nat → Nat → Nat) (cy : Nat → ClassId) (sq : Nat → Nat) (p0 : Int32)  : k_Met l yX10_qIsBracket cX10_qIsBracket 1 (some .boolean) { frames := 0, cells := 0, slots := 0, locals := 0 } dC dI cy sq [.int p0] [] (k_Qi dC dI (fun (r : Int32) (_ : Unit) => ib r 0 1 ∧ (¬ r = 0 → ib p0 20 24) ∧ (r = 0 → ¬ brk p0) ∧ (F_X10_qIsBracket (Int32.toInt p0) = ((Int32.toInt r)))) (fun _ : Unit => [])) := by
  refine k_ofW2 (by decide +kernel) (Nat.le_of_ble_eq_true rfl) ?_
  intro p e s m below meth c A ls H locs args Q hQ C0 hZ hr hlk hin hP hD hA hS hl
  have C0 : k_cx p s m args c cX10_qIsBracket 1 RX10 dC dI cy sq := C0
  have hx := C0.1
  have hb := C0.2.1
  have hl : lv_has ls 1 [(0, .int p0)] := hl
  obtain ⟨O, hO⟩ : ∃ o, o = F_X10_qIsBracket (Int32.toInt p0) := ⟨_, rfl⟩
  have hq := hO
  unfold F_X10_qIsBracket at hq
  refine lv_iload_n hx hb dX10_qIsBracket_0 rfl (lv_at hl 0 rfl) ?_
  refine lv_bipush (v := 20) hx hb dX10_qIsBracket_1 rfl ?_
  refine lv_icmp_lt (tgt := 16) hx hb dX10_qIsBracket_3 rfl (fun c1 => ?_) (fun c1 => ?_)
  · replace hq := lf_pos hq (lf_lt (lf_rf p0) (lf_lc 20 (20 : Int) rfl) c1)
    have h2 := ib_lt (ib_any p0) (ib_c 20 20 20 rfl) c1
    have h3 : ib p0 (-2147483648) 19 := ib_w (-2147483648) 19 h2.1 rfl
    refine lv_iconst (v := 0) hx hb dX10_qIsBracket_16 rfl ?_
    subst hQ; exact k_iret hx hb hr hlk (k_nb 0 rfl) () hS ⟨ib_w 0 1 (ib_c 0 0 0 rfl) rfl, fun hq9 => absurd rfl hq9, fun _ q => (by have := (h3).1; have := (h3).2; have := q.1; have := q.2; omega), (hO.symm.trans (by try simp only [show (0 : Int32).toInt = (0 : Int) from rfl]; exact hq))⟩ hP hD (Nat.le_of_ble_eq_true rfl) (Nat.le_of_ble_eq_true rfl) dX10_qIsBracket_17
  · replace hq := lf_neg hq (lf_nlt (lf_rf p0) (lf_lc 20 (20 : Int) rfl) c1)
    have h4 := ib_nlt (ib_any p0) (ib_c 20 20 20 rfl) c1
    have h5 : ib p0 20 2147483647 := ib_w 20 2147483647 h4.1 rfl
    refine lv_iload_n hx hb dX10_qIsBracket_6 rfl (lv_at hl 0 rfl) ?_
    refine lv_bipush (v := 24) hx hb dX10_qIsBracket_7 rfl ?_
    refine lv_icmp_gt (tgt := 16) hx hb dX10_qIsBracket_9 rfl (fun c6 => ?_) (fun c6 => ?_)
    · replace hq := lf_pos hq (lf_lt (lf_lc 24 (24 : Int) rfl) (lf_rf p0) c6)
      have h7 := ib_lt (ib_c 24 24 24 rfl) h5 c6
      have h8 : ib p0 25 2147483647 := ib_w 25 2147483647 h7.2 rfl
      refine lv_iconst (v := 0) hx hb dX10_qIsBracket_16 rfl ?_
      subst hQ; exact k_iret hx hb hr hlk (k_nb 0 rfl) () hS ⟨ib_w 0 1 (ib_c 0 0 0 rfl) rfl, fun hq9 => absurd rfl hq9, fun _ q => (by have := (h8).1; have := (h8).2; have := q.1; have := q.2; omega), (hO.symm.trans (by try simp only [show (0 : Int32).toInt = (0 : Int) from rfl]; exact hq))⟩ hP hD (Nat.le_of_ble_eq_true rfl) (Nat.le_of_ble_eq_true rfl) dX10_qIsBracket_17
    · replace hq := lf_neg hq (lf_nlt (lf_lc 24 (24 : Int) rfl) (lf_rf p0) c6)
      have h9 := ib_nlt (ib_c 24 24 24 rfl) h5 c6
      have h10 : ib p0 20 24 := ib_w 20 24 h9.2 rfl
      refine lv_iconst (v := 1) hx hb dX10_qIsBracket_12 rfl ?_
      refine lv_goto (tgt := 17) hx hb dX10_qIsBracket_13 rfl ?_
      subst hQ; exact k_iret hx hb hr hlk (k_nb 1 rfl) () hS ⟨ib_w 0 1 (ib_c 1 1 1 rfl) rfl, fun _ => ib_w 20 24 h10 rfl, fun q => absurd q (by decide), (hO.symm.trans (by try simp only [show (1 : Int32).toInt = (1 : Int) from rfl]; exact hq))⟩ hP hD (Nat.le_of_ble_eq_true rfl) (Nat.le_of_ble_eq_true rfl) dX10_qIsBracket_17
set_option maxHeartbeats 4000000 in
set_option maxRecDepth 100000 in
theorem s_X10_qBracket (l : Launch) (dC : Nat → ClassId) (dI : Nat → Nat → Nat) (cy : Nat → ClassId) (sq : Nat → Nat) (a_this : Nat) (rm : Nat → Nat) (x_taped : Int32) (x_at : Int32) (x_end : Int32) (x_ended : Int32) (x_bad : Int32) (x_badPlace : Int32) (x_fault : Int32) (x_faultPlace : Int32) (x_namePlace : Int32) (x_awayTold : Int32) (x_away : Int32) (x_coded : Int32) (x_statements : Int32) (x_isCrossing : Int32) (x_textKind : Int32) (x_askSecond : Int32) (x_redMany : Int32) (x_isOpen : Int32) (x_lastGreen : Int32) (x_greenTo : Int32) (x_isCycleGreen : Int32) (x_stillGreen : Int32) (x_rowMany : Int32) (x_fitMany : Int32) (x_fitRules : Int32) (x_fitGreen : Int32) (x_undoable : Int32) (x_newest : Int32) (x_seeded : Int64) (x_qCoded : Int32) (x_qWaits : Int32) (x_qOpened : Int32) (x_qBase : Int32) (x_qPiled : Int32) (x_qAnswer : Int64) (x_qIsNew : Int32) (x_octets : Int32) (g_qWait : Nat → Int32) (hx_qWaits : ib x_qWaits 0 1700) (hx_qBase : ib x_qBase 0 1700) : k_Met l yX10_qBracket cX10_qBracket 2 (some .int) { frames := 1, cells := 0, slots := 0, locals := 20 } dC dI cy sq [.ref a_this] [(a_this, .inr (10, mfs rm x_taped x_at x_end x_ended x_bad x_badPlace x_fault x_faultPlace x_namePlace x_awayTold x_away x_coded x_statements x_isCrossing x_textKind x_askSecond x_redMany x_isOpen x_lastGreen x_greenTo x_isCycleGreen x_stillGreen x_rowMany x_fitMany x_fitRules x_fitGreen x_undoable x_newest x_seeded x_qCoded x_qWaits x_qOpened x_qBase x_qPiled x_qAnswer x_qIsNew x_octets)), (wi_rm112_0_1700_0 rm cy g_qWait)] (k_Qi dC dI (fun (r : Int32) (_ : Unit) => BR g_qWait x_qWaits x_qBase r ∧ (F_X10_qBracket (Int32.toInt x_qWaits) (Int32.toInt x_qBase) (lf_A g_qWait) = ((Int32.toInt r)))) (fun _ : Unit => [(a_this, .inr (10, mfs rm x_taped x_at x_end x_ended x_bad x_badPlace x_fault x_faultPlace x_namePlace x_awayTold x_away x_coded x_statements x_isCrossing x_textKind x_askSecond x_redMany x_isOpen x_lastGreen x_greenTo x_isCycleGreen x_stillGreen x_rowMany x_fitMany x_fitRules x_fitGreen x_undoable x_newest x_seeded x_qCoded x_qWaits x_qOpened x_qBase x_qPiled x_qAnswer x_qIsNew x_octets)), (wi_rm112_0_1700_0 rm cy g_qWait)])) := by
  refine k_ofW2 (by decide +kernel) (Nat.le_of_ble_eq_true rfl) ?_
  intro p e s m below meth c A ls H locs args Q hQ C0 hZ hr hlk hin hP hD hA hS hl
  have C0 : k_cx p s m args c cX10_qBracket 2 RX10 dC dI cy sq := C0
  have hx := C0.1
  have hb := C0.2.1
  have hl : lv_has ls 2 [(0, .ref a_this)] := hl
  obtain ⟨O, hO⟩ : ∃ o, o = F_X10_qBracket (Int32.toInt x_qWaits) (Int32.toInt x_qBase) (lf_A g_qWait) := ⟨_, rfl⟩
  have hq := hO
  unfold F_X10_qBracket at hq
  have jn7 : ∀ (n : Nat) (J7_l1 : Int32) (H : Heap) (locs : List Loc) (ls : Array Slot), ib J7_l1 (-1) 1699 → (1 * J7_l1.toInt + (-1) * x_qWaits.toInt ≤ (-1)) → (O = F_X10_qBracket_7 (Int32.toInt x_qBase) (lf_A g_qWait) n (Int32.toInt J7_l1)) → (∀ j : Nat, J7_l1.toInt < (j : Int) → j < x_qWaits.toInt.toNat → ¬ brk (g_qWait j)) → J7_l1.toInt - (-2) ≤ (n : Int) → va_P (dC, dI) vwCl [(a_this, .inr (10, mfs rm x_taped x_at x_end x_ended x_bad x_badPlace x_fault x_faultPlace x_namePlace x_awayTold x_away x_coded x_statements x_isCrossing x_textKind x_askSecond x_redMany x_isOpen x_lastGreen x_greenTo x_isCycleGreen x_stillGreen x_rowMany x_fitMany x_fitRules x_fitGreen x_undoable x_newest x_seeded x_qCoded x_qWaits x_qOpened x_qBase x_qPiled x_qAnswer x_qIsNew x_octets)), (wi_rm112_0_1700_0 rm cy g_qWait)] H → va_D A [(a_this, .inr (10, mfs rm x_taped x_at x_end x_ended x_bad x_badPlace x_fault x_faultPlace x_namePlace x_awayTold x_away x_coded x_statements x_isCrossing x_textKind x_askSecond x_redMany x_isOpen x_lastGreen x_greenTo x_isCycleGreen x_stillGreen x_rowMany x_fitMany x_fitRules x_fitGreen x_undoable x_newest x_seeded x_qCoded x_qWaits x_qOpened x_qBase x_qPiled x_qAnswer x_qIsNew x_octets)), (wi_rm112_0_1700_0 rm cy g_qWait)] → va_S A s.heap H locs → lv_has ls 2 [(0, .ref a_this), (1, .int J7_l1)] → W p l e { frames := 1, cells := 0, slots := 0, locals := 20 } s m args below meth c H locs 0 0 Q (F0 m 7 ls []) := by
    as_aux_lemma =>
      intro n
      induction n with
      | zero =>
        intro J7_l1 H locs ls hJ7_l1 hJ7_lin0 hq hJ7_gh hm
        exact absurd hm (by have := hJ7_l1; unfold ib at this; omega)
      | succ n ih =>
        intro J7_l1 H locs ls hJ7_l1 hJ7_lin0 hq hJ7_gh hm7 hP hD hS hl
        have ih7 := ih
        obtain ⟨K7, hK7⟩ : ∃ K, K = F_X10_qBracket_7 (Int32.toInt x_qBase) (lf_A g_qWait) n := ⟨_, rfl⟩
        have hq : O = F_X10_qBracket_7b (Int32.toInt x_qBase) (lf_A g_qWait) K7 (Int32.toInt J7_l1) := by rw [hK7]; exact hq
        unfold F_X10_qBracket_7b at hq
        refine lv_iload_n hx hb dX10_qBracket_7 rfl (lv_at hl 1 rfl) ?_
        refine lv_aload_n hx hb dX10_qBracket_8 rfl (lv_at hl 0 rfl) ?_
        refine k_get C0 fg_X10_378 hP 0 rfl rfl dX10_qBracket_9 ?_
        refine lv_icmp_lt (tgt := 33) hx hb dX10_qBracket_12 rfl (fun c1 => ?_) (fun c1 => ?_)
        · as_aux_lemma =>
            replace hq := lf_pos hq (lf_lt (lf_rf J7_l1) (lf_rf x_qBase) c1)
            have h2 := ib_lt hJ7_l1 hx_qBase c1
            refine lv_iload_n hx hb dX10_qBracket_33 rfl (lv_at hl 1 rfl) ?_
            refine lv_aload_n hx hb dX10_qBracket_34 rfl (lv_at hl 0 rfl) ?_
            refine k_get C0 fg_X10_378 hP 0 rfl rfl dX10_qBracket_35 ?_
            refine lv_icmp_lt (tgt := 50) hx hb dX10_qBracket_38 rfl (fun c3 => ?_) (fun c3 => ?_)
            · replace hq := lf_pos hq (lf_lt (lf_rf J7_l1) (lf_rf x_qBase) c3)
              have h4 := ib_lt hJ7_l1 hx_qBase c3
              refine lv_iconst (v := (-1)) hx hb dX10_qBracket_50 rfl ?_
              subst hQ; exact k_iret hx hb hr hlk rfl () hS ⟨Or.inl ⟨rfl, fun i h1 h2 => hJ7_gh i (by have := (hx_qBase).1; have := (hx_qBase).2; have := (hx_qWaits).1; have := (hx_qWaits).2; have := hJ7_lin0; have := (hJ7_l1).1; have := (hJ7_l1).2; have := Int32.lt_iff_toInt_lt.mp c1; have := Int32.lt_iff_toInt_lt.mp c3; omega) h2⟩, (hO.symm.trans (by try simp only [show ((-1) : Int32).toInt = (-1 : Int) from rfl]; exact hq))⟩ hP hD (Nat.le_of_ble_eq_true rfl) (Nat.le_of_ble_eq_true rfl) dX10_qBracket_51
            · replace hq := lf_neg hq (lf_nlt (lf_rf J7_l1) (lf_rf x_qBase) c3)
              have h5 := ib_nlt hJ7_l1 hx_qBase c3
              have h6 : ib J7_l1 0 1699 := ib_w 0 1699 h5.1 rfl
              have h7 : ib x_qBase 0 1699 := ib_w 0 1699 h5.2 rfl
              have h8 : ib x_qWaits 1 1700 := ⟨by have := (hx_qWaits).1; have := hJ7_lin0; have := (h6).1; omega, (hx_qWaits).2⟩
              refine lv_aload_n hx hb dX10_qBracket_41 rfl (lv_at hl 0 rfl) ?_
              refine k_get C0 fg_X10_267 hP 0 rfl rfl dX10_qBracket_42 ?_
              refine lv_iload_n hx hb dX10_qBracket_45 rfl (lv_at hl 1 rfl) ?_
              refine va_iald hx hb C0.2.2.2.2.2.1 hP 1 0 rfl rfl (ib_in 1700 h6 rfl) dX10_qBracket_46 ?_
              refine lv_topi (fun z9 ez9 => ?_)
              have Ez9 := lf_ld ez9 (lf_ra g_qWait) (lf_rf J7_l1)
              refine lv_goto (tgt := 51) hx hb dX10_qBracket_47 rfl ?_
              subst hQ; exact k_iret hx hb hr hlk rfl () hS ⟨(by exfalso; have := (h7).1; have := (h7).2; have := (h8).1; have := (h8).2; have := hJ7_lin0; have := (h6).1; have := (h6).2; have := Int32.lt_iff_toInt_lt.mp c1; have := mt Int32.lt_iff_toInt_lt.mpr c3; omega), (hO.symm.trans (by rw [lf_u Ez9]; exact hq))⟩ hP hD (Nat.le_of_ble_eq_true rfl) (Nat.le_of_ble_eq_true rfl) dX10_qBracket_51
        · as_aux_lemma =>
            replace hq := lf_neg hq (lf_nlt (lf_rf J7_l1) (lf_rf x_qBase) c1)
            have h10 := ib_nlt hJ7_l1 hx_qBase c1
            have h11 : ib J7_l1 0 1699 := ib_w 0 1699 h10.1 rfl
            have h12 : ib x_qBase 0 1699 := ib_w 0 1699 h10.2 rfl
            have h13 : ib x_qWaits 1 1700 := ⟨by have := (hx_qWaits).1; have := hJ7_lin0; have := (h11).1; omega, (hx_qWaits).2⟩
            refine lv_aload_n hx hb dX10_qBracket_15 rfl (lv_at hl 0 rfl) ?_
            refine k_get C0 fg_X10_267 hP 0 rfl rfl dX10_qBracket_16 ?_
            refine lv_iload_n hx hb dX10_qBracket_19 rfl (lv_at hl 1 rfl) ?_
            refine va_iald hx hb C0.2.2.2.2.2.1 hP 1 0 rfl rfl (ib_in 1700 h11 rfl) dX10_qBracket_20 ?_
            refine lv_topi (fun z14 ez14 => ?_)
            have Ez14 := lf_ld ez14 (lf_ra g_qWait) (lf_rf J7_l1)
            refine k_jim hP hD hS hA [] [true, true] rfl rfl rfl 0 0 (Nat.le_of_ble_eq_true rfl) (Nat.le_of_ble_eq_true rfl) (fun hPc hDc => k_runS (As := [.int z14]) (rest := []) C0 hZ hS hA (s_X10_qIsBracket l dC dI cy sq z14 ) mS_X10_611 hPc hDc hl rfl rfl (Nat.le_of_ble_eq_true rfl) ⟨(Nat.le_of_ble_eq_true rfl), (Nat.le_of_ble_eq_true rfl)⟩ ⟨(Nat.le_of_ble_eq_true rfl), (Nat.le_of_ble_eq_true rfl)⟩ dX10_qBracket_21) (fun r15 u16 H locs hw hP hD hS => ?_)
            try dsimp only at hP hD hw
            replace hP : va_P (dC, dI) vwCl [(a_this, .inr (10, mfs rm x_taped x_at x_end x_ended x_bad x_badPlace x_fault x_faultPlace x_namePlace x_awayTold x_away x_coded x_statements x_isCrossing x_textKind x_askSecond x_redMany x_isOpen x_lastGreen x_greenTo x_isCycleGreen x_stillGreen x_rowMany x_fitMany x_fitRules x_fitGreen x_undoable x_newest x_seeded x_qCoded x_qWaits x_qOpened x_qBase x_qPiled x_qAnswer x_qIsNew x_octets)), (wi_rm112_0_1700_0 rm cy g_qWait)] H := hP
            replace hD := k_D hP hD
            obtain ⟨h17, h18, h19, h20⟩ := hw
            have h20 := by have h9 := h20; rw [lf_u Ez14] at h9; exact h9
            replace hq := lf_b1 hq h20
            refine lv_if_ne (tgt := 33) hx hb dX10_qBracket_24 rfl (fun c21 => ?_) (fun c21 => ?_)
            · as_aux_lemma =>
                replace hq := lf_neg hq (lf_ne (lf_rf r15) (lf_lc 0 (0 : Int) rfl) c21)
                have h22 : ib r15 1 1 := ib_w 1 1 (ib_ne_lo 0 h17 rfl c21) rfl
                have h23 : ib z14 20 24 := ib_w 20 24 (ib_two (ib_any z14) (h18 (ib_nz h22 rfl))) rfl
                refine lv_iload_n hx hb dX10_qBracket_33 rfl (lv_at hl 1 rfl) ?_
                refine lv_aload_n hx hb dX10_qBracket_34 rfl (lv_at hl 0 rfl) ?_
                refine k_get C0 fg_X10_378 hP 0 rfl rfl dX10_qBracket_35 ?_
                refine lv_icmp_lt (tgt := 50) hx hb dX10_qBracket_38 rfl (fun c24 => ?_) (fun c24 => ?_)
                · replace hq := lf_pos hq (lf_lt (lf_rf J7_l1) (lf_rf x_qBase) c24)
                  have h25 := ib_lt h11 h12 c24
                  have h26 : ib J7_l1 0 1698 := ib_w 0 1698 h25.1 rfl
                  have h27 : ib x_qBase 1 1699 := ib_w 1 1699 h25.2 rfl
                  refine lv_iconst (v := (-1)) hx hb dX10_qBracket_50 rfl ?_
                  subst hQ; exact k_iret hx hb hr hlk rfl () hS ⟨Or.inl ⟨rfl, fun i h1 h2 => hJ7_gh i (by have := (h27).1; have := (h27).2; have := (h13).1; have := (h13).2; have := hJ7_lin0; have := (h26).1; have := (h26).2; have := mt Int32.lt_iff_toInt_lt.mpr c1; have := Int32.lt_iff_toInt_lt.mp c24; omega) h2⟩, (hO.symm.trans (by try simp only [show ((-1) : Int32).toInt = (-1 : Int) from rfl]; exact hq))⟩ hP hD (Nat.le_of_ble_eq_true rfl) (Nat.le_of_ble_eq_true rfl) dX10_qBracket_51
                · replace hq := lf_neg hq (lf_nlt (lf_rf J7_l1) (lf_rf x_qBase) c24)
                  have h28 := ib_nlt h11 h12 c24
                  refine lv_aload_n hx hb dX10_qBracket_41 rfl (lv_at hl 0 rfl) ?_
                  refine k_get C0 fg_X10_267 hP 0 rfl rfl dX10_qBracket_42 ?_
                  refine lv_iload_n hx hb dX10_qBracket_45 rfl (lv_at hl 1 rfl) ?_
                  refine va_iald hx hb C0.2.2.2.2.2.1 hP 1 0 rfl rfl (ib_in 1700 h11 rfl) dX10_qBracket_46 ?_
                  refine lv_topi (fun z29 ez29 => ?_)
                  obtain rfl : z14 = z29 := ez14.trans ez29.symm
                  refine lv_goto (tgt := 51) hx hb dX10_qBracket_47 rfl ?_
                  subst hQ; exact k_iret hx hb hr hlk rfl () hS ⟨Or.inr ⟨Int32.toNatClampNeg J7_l1, by show _ ≤ (Int32.toInt J7_l1).toNat; have := (h12).1; have := (h12).2; have := (h13).1; have := (h13).2; have := hJ7_lin0; have := (h11).1; have := (h11).2; have := mt Int32.lt_iff_toInt_lt.mpr c1; have := mt Int32.lt_iff_toInt_lt.mpr c24; omega, by show (Int32.toInt J7_l1).toNat < _; have := (h12).1; have := (h12).2; have := (h13).1; have := (h13).2; have := hJ7_lin0; have := (h11).1; have := (h11).2; have := mt Int32.lt_iff_toInt_lt.mpr c1; have := mt Int32.lt_iff_toInt_lt.mpr c24; omega, ez14.symm, ⟨by have := (h23).1; omega, by have := (h23).2; omega⟩, fun j h1 h2 => hJ7_gh j (by have h1 : (Int32.toInt J7_l1).toNat < j := h1; have := (h12).1; have := (h12).2; have := (h13).1; have := (h13).2; have := hJ7_lin0; have := (h11).1; have := (h11).2; have := mt Int32.lt_iff_toInt_lt.mpr c1; have := mt Int32.lt_iff_toInt_lt.mpr c24; omega) h2⟩, (hO.symm.trans (by rw [lf_u Ez14]; exact hq))⟩ hP hD (Nat.le_of_ble_eq_true rfl) (Nat.le_of_ble_eq_true rfl) dX10_qBracket_51
            · replace hq := lf_pos hq (lf_eq (lf_rf r15) (lf_lc 0 (0 : Int) rfl) c21)
              have h30 := ib_eq h17 (ib_c 0 0 0 rfl) c21
              have h31 : ib r15 0 0 := ib_w 0 0 h30.1 rfl
              obtain ⟨z32, ez32⟩ : ∃ y : Int32, y = J7_l1 + (-1) := ⟨_, rfl⟩
              refine lv_iinc (v := z32) (lv' := [(1, .int z32), (0, .ref a_this)]) hx hb dX10_qBracket_27 hl (k := 1) rfl (by rw [ez32]; rfl) (Nat.le_of_ble_eq_true rfl) rfl (fun ls hl => ?_)
              have h33 := ib_add h11 (ib_c (-1) (-1) (-1) rfl) rfl
              rw [← ez32] at h33
              have h34 : ib z32 (-1) 1698 := ib_w (-1) 1698 h33.1 rfl
              have Ez32 := lf_add h33.2 (lf_rf J7_l1) (lf_lc (-1) (-1 : Int) rfl)
              refine lv_goto (tgt := 7) hx hb dX10_qBracket_30 rfl ?_
              exact ih7 z32 H locs ls (ib_w (-1) 1699 h34 rfl) (by have := hJ7_lin0; have := h33.2; have : ((-1) : Int32).toInt = (-1) := rfl; omega) (by rw [← hK7]; rw [lf_u Ez32]; exact hq) (fun j h1 h2 => if e9 : (j : Int) = J7_l1.toInt then (by have e2 : j = Int32.toNatClampNeg J7_l1 := (by show j = (Int32.toInt J7_l1).toNat; omega); rw [e2, ← ez14]; exact h19 (ib_one h31 rfl)) else hJ7_gh j (by have := (h11).1; have := (h11).2; have := hJ7_lin0; have := (h13).1; have := (h13).2; have := (h34).1; have := (h34).2; have := h33.2; have : ((-1) : Int32).toInt = (-1) := rfl; omega) h2) (by have := h33.2; have : ((-1) : Int32).toInt = (-1) := rfl; omega) hP hD hS (lv_sub hl [1, 0] rfl)
  refine lv_aload_n hx hb dX10_qBracket_0 rfl (lv_at hl 0 rfl) ?_
  refine k_get C0 fg_X10_372 hP 0 rfl rfl dX10_qBracket_1 ?_
  refine lv_iconst (v := 1) hx hb dX10_qBracket_4 rfl ?_
  refine lv_isub hx hb dX10_qBracket_5 ?_
  refine lv_topi (fun z35 ez35 => ?_)
  have h36 := ib_sub hx_qWaits (ib_c 1 1 1 rfl) rfl
  rw [← ez35] at h36
  have h37 : ib z35 (-1) 1699 := ib_w (-1) 1699 h36.1 rfl
  have Ez35 := lf_sub h36.2 (lf_rf x_qWaits) (lf_lc 1 (1 : Int) rfl)
  refine lv_istore_n (lv' := [(1, .int z35), (0, .ref a_this)]) hx hb dX10_qBracket_6 rfl hl (Nat.le_of_ble_eq_true rfl) rfl (fun ls hl => ?_)
  exact jn7 1702 z35 H locs ls (ib_w (-1) 1699 h37 rfl) (by have := h36.2; have : (1 : Int32).toInt = 1 := rfl; omega) (by rw [lf_u Ez35]; exact hq) (fun j h1 h2 => absurd h2 (by have := (hx_qWaits).1; have := (hx_qWaits).2; have := (h37).1; have := (h37).2; have := h36.2; have : (1 : Int32).toInt = 1 := rfl; omega)) (by have := h37; unfold ib at this; omega) hP hD hS (lv_sub hl [1, 0] rfl)
set_option maxHeartbeats 4000000 in
set_option maxRecDepth 100000 in
theorem s_X10_takesSign_a0_44 (l : Launch) (dC : Nat → ClassId) (dI : Nat → Nat → Nat) (cy : Nat → ClassId) (sq : Nat → Nat) (a_this : Nat) (rm : Nat → Nat) (x_taped : Int32) (x_at : Int32) (x_end : Int32) (x_ended : Int32) (x_bad : Int32) (x_badPlace : Int32) (x_fault : Int32) (x_faultPlace : Int32) (x_namePlace : Int32) (x_awayTold : Int32) (x_away : Int32) (x_coded : Int32) (x_statements : Int32) (x_isCrossing : Int32) (x_textKind : Int32) (x_askSecond : Int32) (x_redMany : Int32) (x_isOpen : Int32) (x_lastGreen : Int32) (x_greenTo : Int32) (x_isCycleGreen : Int32) (x_stillGreen : Int32) (x_rowMany : Int32) (x_fitMany : Int32) (x_fitRules : Int32) (x_fitGreen : Int32) (x_undoable : Int32) (x_newest : Int32) (x_seeded : Int64) (x_qCoded : Int32) (x_qWaits : Int32) (x_qOpened : Int32) (x_qBase : Int32) (x_qPiled : Int32) (x_qAnswer : Int64) (x_qIsNew : Int32) (x_octets : Int32) (g_tape : Nat → Int32) (hx_at : ib x_at 0 1600) (hx_end : ib x_end 0 1600) (hg_tape : ia g_tape 1600 0 255) : k_Met l yX10_takesSign cX10_takesSign 2 (some .boolean) { frames := 1, cells := 0, slots := 0, locals := 20 } dC dI cy sq [.ref a_this, .int 44] [(a_this, .inr (10, mfs rm x_taped x_at x_end x_ended x_bad x_badPlace x_fault x_faultPlace x_namePlace x_awayTold x_away x_coded x_statements x_isCrossing x_textKind x_askSecond x_redMany x_isOpen x_lastGreen x_greenTo x_isCycleGreen x_stillGreen x_rowMany x_fitMany x_fitRules x_fitGreen x_undoable x_newest x_seeded x_qCoded x_qWaits x_qOpened x_qBase x_qPiled x_qAnswer x_qIsNew x_octets)), (wi_rm0_0_1600_0 rm cy g_tape)] (k_Qi dC dI (fun (r : Int32) (n0 : Int32) => ib n0 0 1600 ∧ ib r 0 1 ∧ (¬ r = 0 → ib n0 1 1600) ∧ (¬ r = 0 → ib x_at 0 1599) ∧ (¬ r = 0 → ib x_end 1 1600) ∧ (¬ r = 0 → ib x_bad 0 0) ∧ (1 * x_at.toInt + (-1) * n0.toInt ≤ 0) ∧ (¬ r = 0 → 1 * x_at.toInt + (-1) * n0.toInt ≤ (-1)) ∧ (F_X10_takesSign_a0_44 (Int32.toInt x_at) (Int32.toInt x_end) (Int32.toInt x_bad) (lf_A g_tape) = ((Int32.toInt r), (Int32.toInt n0)))) (fun n0 : Int32 => [(a_this, .inr (10, mfs rm x_taped n0 x_end x_ended x_bad x_badPlace x_fault x_faultPlace x_namePlace x_awayTold x_away x_coded x_statements x_isCrossing x_textKind x_askSecond x_redMany x_isOpen x_lastGreen x_greenTo x_isCycleGreen x_stillGreen x_rowMany x_fitMany x_fitRules x_fitGreen x_undoable x_newest x_seeded x_qCoded x_qWaits x_qOpened x_qBase x_qPiled x_qAnswer x_qIsNew x_octets)), (wi_rm0_0_1600_0 rm cy g_tape)])) := by
  refine k_ofW2 (by decide +kernel) (Nat.le_of_ble_eq_true rfl) ?_
  intro p e s m below meth c A ls H locs args Q hQ C0 hZ hr hlk hin hP hD hA hS hl
  have C0 : k_cx p s m args c cX10_takesSign 2 RX10 dC dI cy sq := C0
  have hx := C0.1
  have hb := C0.2.1
  have hl : lv_has ls 2 [(0, .ref a_this), (1, .int 44)] := hl
  obtain ⟨O, hO⟩ : ∃ o, o = F_X10_takesSign_a0_44 (Int32.toInt x_at) (Int32.toInt x_end) (Int32.toInt x_bad) (lf_A g_tape) := ⟨_, rfl⟩
  have hq := hO
  unfold F_X10_takesSign_a0_44 at hq
  refine lv_aload_n hx hb dX10_takesSign_0 rfl (lv_at hl 0 rfl) ?_
  refine k_get C0 fg_X10_279 hP 0 rfl rfl dX10_takesSign_1 ?_
  refine lv_if_ne (tgt := 15) hx hb dX10_takesSign_4 rfl (fun c1 => ?_) (fun c1 => ?_)
  · replace hq := lf_neg hq (lf_ne (lf_rf x_bad) (lf_lc 0 (0 : Int) rfl) c1)
    refine lv_iconst (v := 0) hx hb dX10_takesSign_15 rfl ?_
    subst hQ; exact k_iret hx hb hr hlk (k_nb 0 rfl) x_at hS ⟨ib_w 0 1600 hx_at rfl, ib_w 0 1 (ib_c 0 0 0 rfl) rfl, fun hq9 => absurd rfl hq9, fun hq9 => absurd rfl hq9, fun hq9 => absurd rfl hq9, fun hq9 => absurd rfl hq9, (by omega), fun hq9 => absurd rfl hq9, (hO.symm.trans (by try simp only [show (0 : Int32).toInt = (0 : Int) from rfl]; exact hq))⟩ hP hD (Nat.le_of_ble_eq_true rfl) (Nat.le_of_ble_eq_true rfl) dX10_takesSign_16
  · replace hq := lf_pos hq (lf_eq (lf_rf x_bad) (lf_lc 0 (0 : Int) rfl) c1)
    have h2 := ib_eq (ib_any x_bad) (ib_c 0 0 0 rfl) c1
    have h3 : ib x_bad 0 0 := ib_w 0 0 h2.1 rfl
    refine lv_aload_n hx hb dX10_takesSign_7 rfl (lv_at hl 0 rfl) ?_
    refine k_jim hP hD hS hA [0, 1] [] rfl rfl rfl 0 0 (Nat.le_of_ble_eq_true rfl) (Nat.le_of_ble_eq_true rfl) (fun hPc hDc => k_runV (As := []) (rest := []) C0 hZ hS hA (s_X10_look l dC dI cy sq a_this rm x_taped x_at x_end x_ended x_bad x_badPlace x_fault x_faultPlace x_namePlace x_awayTold x_away x_coded x_statements x_isCrossing x_textKind x_askSecond x_redMany x_isOpen x_lastGreen x_greenTo x_isCycleGreen x_stillGreen x_rowMany x_fitMany x_fitRules x_fitGreen x_undoable x_newest x_seeded x_qCoded x_qWaits x_qOpened x_qBase x_qPiled x_qAnswer x_qIsNew x_octets g_tape (ib_w 0 1600 hx_at rfl) (ib_w 0 1600 hx_end rfl) hg_tape) mV_X10_291 hPc hDc rfl rfl rfl hl rfl rfl (Nat.le_of_ble_eq_true rfl) ⟨(Nat.le_of_ble_eq_true rfl), (Nat.le_of_ble_eq_true rfl)⟩ ⟨(Nat.le_of_ble_eq_true rfl), (Nat.le_of_ble_eq_true rfl)⟩ dX10_takesSign_8) (fun r4 u5 H locs hw hP hD hS => ?_)
    obtain ⟨v6, ev6⟩ : ∃ z, z = u5 := ⟨_, rfl⟩; subst ev6
    try dsimp only at hP hD hw
    replace hP : va_P (dC, dI) vwCl [(a_this, .inr (10, mfs rm x_taped v6 x_end x_ended x_bad x_badPlace x_fault x_faultPlace x_namePlace x_awayTold x_away x_coded x_statements x_isCrossing x_textKind x_askSecond x_redMany x_isOpen x_lastGreen x_greenTo x_isCycleGreen x_stillGreen x_rowMany x_fitMany x_fitRules x_fitGreen x_undoable x_newest x_seeded x_qCoded x_qWaits x_qOpened x_qBase x_qPiled x_qAnswer x_qIsNew x_octets)), (wi_rm0_0_1600_0 rm cy g_tape)] H := hP
    replace hD := k_D hP hD
    obtain ⟨h7, h8, h9, h10, h11, h12, h13, h14, h15, h16⟩ := hw
    replace hq := lf_p1 hq h16
    refine lv_iload_n hx hb dX10_takesSign_11 rfl (lv_at hl 1 rfl) ?_
    refine lv_icmp_eq (tgt := 17) hx hb dX10_takesSign_12 rfl (fun c17 => ?_) (fun c17 => ?_)
    · replace hq := lf_pos hq (lf_eq (lf_rf r4) (lf_lc 44 (44 : Int) rfl) c17)
      have h18 := ib_eq h8 (ib_c 44 44 44 rfl) c17
      have h19 : ib r4 44 44 := ib_w 44 44 h18.1 rfl
      have h20 : ib v6 0 1599 := ib_w 0 1599 (ib_two h7 (h9 (ib_nc (-1) h19 rfl))) rfl
      have h21 : ib x_at 0 1599 := ib_w 0 1599 (ib_two hx_at (h10 (ib_nc (-1) h19 rfl))) rfl
      have h22 : ib x_end 1 1600 := ib_w 1 1600 (ib_two hx_end (h11 (ib_nc (-1) h19 rfl))) rfl
      refine lv_aload_n hx hb dX10_takesSign_17 rfl (lv_at hl 0 rfl) ?_
      refine lv_dup hx hb dX10_takesSign_18 rfl ?_
      refine k_get C0 fg_X10_285 hP 0 rfl rfl dX10_takesSign_19 ?_
      refine lv_iconst (v := 1) hx hb dX10_takesSign_22 rfl ?_
      refine lv_iadd hx hb dX10_takesSign_23 ?_
      refine lv_topi (fun z23 ez23 => ?_)
      have h24 := ib_add h20 (ib_c 1 1 1 rfl) rfl
      rw [← ez23] at h24
      have h25 : ib z23 1 1600 := ib_w 1 1600 h24.1 rfl
      have Ez23 := lf_add h24.2 (lf_rf v6) (lf_lc 1 (1 : Int) rfl)
      refine k_put C0 fp_X10_285 hP hD hS 0 rfl rfl rfl (Nat.le_of_ble_eq_true rfl) dX10_takesSign_24 (fun H locs hP hD hS => ?_)
      replace hP : va_P (dC, dI) vwCl [(a_this, .inr (10, mfs rm x_taped z23 x_end x_ended x_bad x_badPlace x_fault x_faultPlace x_namePlace x_awayTold x_away x_coded x_statements x_isCrossing x_textKind x_askSecond x_redMany x_isOpen x_lastGreen x_greenTo x_isCycleGreen x_stillGreen x_rowMany x_fitMany x_fitRules x_fitGreen x_undoable x_newest x_seeded x_qCoded x_qWaits x_qOpened x_qBase x_qPiled x_qAnswer x_qIsNew x_octets)), (wi_rm0_0_1600_0 rm cy g_tape)] H := hP
      replace hD := k_D hP hD
      refine lv_iconst (v := 1) hx hb dX10_takesSign_27 rfl ?_
      subst hQ; exact k_iret hx hb hr hlk (k_nb 1 rfl) z23 hS ⟨ib_w 0 1600 h25 rfl, ib_w 0 1 (ib_c 1 1 1 rfl) rfl, fun _ => ib_w 1 1600 h25 rfl, fun _ => ib_w 0 1599 h21 rfl, fun _ => ib_w 1 1600 h22 rfl, fun _ => ib_w 0 0 h3 rfl, (by have := h24.2; have : (1 : Int32).toInt = 1 := rfl; have := h12; omega), fun _ => (by have := h24.2; have : (1 : Int32).toInt = 1 := rfl; have := h12; omega), (hO.symm.trans (by try simp only [show (1 : Int32).toInt = (1 : Int) from rfl]; rw [lf_u Ez23]; exact hq))⟩ hP hD (Nat.le_of_ble_eq_true rfl) (Nat.le_of_ble_eq_true rfl) dX10_takesSign_28
    · replace hq := lf_neg hq (lf_ne (lf_rf r4) (lf_lc 44 (44 : Int) rfl) c17)
      refine lv_iconst (v := 0) hx hb dX10_takesSign_15 rfl ?_
      subst hQ; exact k_iret hx hb hr hlk (k_nb 0 rfl) v6 hS ⟨ib_w 0 1600 h7 rfl, ib_w 0 1 (ib_c 0 0 0 rfl) rfl, fun hq9 => absurd rfl hq9, fun hq9 => absurd rfl hq9, fun hq9 => absurd rfl hq9, fun hq9 => absurd rfl hq9, (by have := h12; omega), fun hq9 => absurd rfl hq9, (hO.symm.trans (by try simp only [show (0 : Int32).toInt = (0 : Int) from rfl]; exact hq))⟩ hP hD (Nat.le_of_ble_eq_true rfl) (Nat.le_of_ble_eq_true rfl) dX10_takesSign_16
set_option maxHeartbeats 4000000 in
set_option maxRecDepth 100000 in
theorem s_X10_asksSign_a0_44 (l : Launch) (dC : Nat → ClassId) (dI : Nat → Nat → Nat) (cy : Nat → ClassId) (sq : Nat → Nat) (a_this : Nat) (rm : Nat → Nat) (x_taped : Int32) (x_at : Int32) (x_end : Int32) (x_ended : Int32) (x_bad : Int32) (x_badPlace : Int32) (x_fault : Int32) (x_faultPlace : Int32) (x_namePlace : Int32) (x_awayTold : Int32) (x_away : Int32) (x_coded : Int32) (x_statements : Int32) (x_isCrossing : Int32) (x_textKind : Int32) (x_askSecond : Int32) (x_redMany : Int32) (x_isOpen : Int32) (x_lastGreen : Int32) (x_greenTo : Int32) (x_isCycleGreen : Int32) (x_stillGreen : Int32) (x_rowMany : Int32) (x_fitMany : Int32) (x_fitRules : Int32) (x_fitGreen : Int32) (x_undoable : Int32) (x_newest : Int32) (x_seeded : Int64) (x_qCoded : Int32) (x_qWaits : Int32) (x_qOpened : Int32) (x_qBase : Int32) (x_qPiled : Int32) (x_qAnswer : Int64) (x_qIsNew : Int32) (x_octets : Int32) (g_tape : Nat → Int32) (hx_at : ib x_at 0 1600) (hx_end : ib x_end 0 1600) (hg_tape : ia g_tape 1600 0 255) : k_Met l yX10_asksSign cX10_asksSign 2 none { frames := 2, cells := 0, slots := 0, locals := 41 } dC dI cy sq [.ref a_this, .int 44] [(a_this, .inr (10, mfs rm x_taped x_at x_end x_ended x_bad x_badPlace x_fault x_faultPlace x_namePlace x_awayTold x_away x_coded x_statements x_isCrossing x_textKind x_askSecond x_redMany x_isOpen x_lastGreen x_greenTo x_isCycleGreen x_stillGreen x_rowMany x_fitMany x_fitRules x_fitGreen x_undoable x_newest x_seeded x_qCoded x_qWaits x_qOpened x_qBase x_qPiled x_qAnswer x_qIsNew x_octets)), (wi_rm0_0_1600_0 rm cy g_tape)] (k_Qv dC dI (fun (u : Int32 × Int32 × Int32) => match u with | (n0, n1, n2) => ib n0 0 1600 ∧ (n1 = 0 → x_bad = 0) ∧ (1 * x_at.toInt + (-1) * n0.toInt ≤ 0) ∧ (n1 = 0 → 1 * x_at.toInt + (-1) * n0.toInt ≤ (-1)) ∧ (F_X10_asksSign_a0_44 (Int32.toInt x_at) (Int32.toInt x_end) (Int32.toInt x_bad) (Int32.toInt x_badPlace) (lf_A g_tape) = ((Int32.toInt n0), (Int32.toInt n1), (Int32.toInt n2)))) (fun u : Int32 × Int32 × Int32 => match u with | (n0, n1, n2) => [(a_this, .inr (10, mfs rm x_taped n0 x_end x_ended n1 n2 x_fault x_faultPlace x_namePlace x_awayTold x_away x_coded x_statements x_isCrossing x_textKind x_askSecond x_redMany x_isOpen x_lastGreen x_greenTo x_isCycleGreen x_stillGreen x_rowMany x_fitMany x_fitRules x_fitGreen x_undoable x_newest x_seeded x_qCoded x_qWaits x_qOpened x_qBase x_qPiled x_qAnswer x_qIsNew x_octets)), (wi_rm0_0_1600_0 rm cy g_tape)])) := by
  refine k_ofW2 (by decide +kernel) (Nat.le_of_ble_eq_true rfl) ?_
  intro p e s m below meth c A ls H locs args Q hQ C0 hZ hr hlk hin hP hD hA hS hl
  have C0 : k_cx p s m args c cX10_asksSign 2 RX10 dC dI cy sq := C0
  have hx := C0.1
  have hb := C0.2.1
  have hl : lv_has ls 2 [(0, .ref a_this), (1, .int 44)] := hl
  obtain ⟨O, hO⟩ : ∃ o, o = F_X10_asksSign_a0_44 (Int32.toInt x_at) (Int32.toInt x_end) (Int32.toInt x_bad) (Int32.toInt x_badPlace) (lf_A g_tape) := ⟨_, rfl⟩
  have hq := hO
  unfold F_X10_asksSign_a0_44 at hq
  refine lv_aload_n hx hb dX10_asksSign_0 rfl (lv_at hl 0 rfl) ?_
  refine k_get C0 fg_X10_279 hP 0 rfl rfl dX10_asksSign_1 ?_
  refine lv_if_ne (tgt := 24) hx hb dX10_asksSign_4 rfl (fun c1 => ?_) (fun c1 => ?_)
  · replace hq := lf_neg hq (lf_ne (lf_rf x_bad) (lf_lc 0 (0 : Int) rfl) c1)
    subst hQ; exact k_vret hx hb hr hlk ((x_at, x_bad, x_badPlace)) hS ⟨ib_w 0 1600 hx_at rfl, fun q => q, (by omega), fun q => absurd q c1, (hO.symm.trans (by exact hq))⟩ hP hD (Nat.le_of_ble_eq_true rfl) (Nat.le_of_ble_eq_true rfl) dX10_asksSign_24
  · replace hq := lf_pos hq (lf_eq (lf_rf x_bad) (lf_lc 0 (0 : Int) rfl) c1)
    have h2 := ib_eq (ib_any x_bad) (ib_c 0 0 0 rfl) c1
    have h3 : ib x_bad 0 0 := ib_w 0 0 h2.1 rfl
    refine lv_aload_n hx hb dX10_asksSign_7 rfl (lv_at hl 0 rfl) ?_
    refine lv_iload_n hx hb dX10_asksSign_8 rfl (lv_at hl 1 rfl) ?_
    refine k_jim hP hD hS hA [0, 1] [] rfl rfl rfl 0 0 (Nat.le_of_ble_eq_true rfl) (Nat.le_of_ble_eq_true rfl) (fun hPc hDc => k_runV (As := [.int 44]) (rest := []) C0 hZ hS hA (s_X10_takesSign_a0_44 l dC dI cy sq a_this rm x_taped x_at x_end x_ended x_bad x_badPlace x_fault x_faultPlace x_namePlace x_awayTold x_away x_coded x_statements x_isCrossing x_textKind x_askSecond x_redMany x_isOpen x_lastGreen x_greenTo x_isCycleGreen x_stillGreen x_rowMany x_fitMany x_fitRules x_fitGreen x_undoable x_newest x_seeded x_qCoded x_qWaits x_qOpened x_qBase x_qPiled x_qAnswer x_qIsNew x_octets g_tape (ib_w 0 1600 hx_at rfl) (ib_w 0 1600 hx_end rfl) hg_tape) mV_X10_312 hPc hDc rfl rfl rfl hl rfl rfl (Nat.le_of_ble_eq_true rfl) ⟨(Nat.le_of_ble_eq_true rfl), (Nat.le_of_ble_eq_true rfl)⟩ ⟨(Nat.le_of_ble_eq_true rfl), (Nat.le_of_ble_eq_true rfl)⟩ dX10_asksSign_9) (fun r4 u5 H locs hw hP hD hS => ?_)
    obtain ⟨v6, ev6⟩ : ∃ z, z = u5 := ⟨_, rfl⟩; subst ev6
    try dsimp only at hP hD hw
    replace hP : va_P (dC, dI) vwCl [(a_this, .inr (10, mfs rm x_taped v6 x_end x_ended x_bad x_badPlace x_fault x_faultPlace x_namePlace x_awayTold x_away x_coded x_statements x_isCrossing x_textKind x_askSecond x_redMany x_isOpen x_lastGreen x_greenTo x_isCycleGreen x_stillGreen x_rowMany x_fitMany x_fitRules x_fitGreen x_undoable x_newest x_seeded x_qCoded x_qWaits x_qOpened x_qBase x_qPiled x_qAnswer x_qIsNew x_octets)), (wi_rm0_0_1600_0 rm cy g_tape)] H := hP
    replace hD := k_D hP hD
    obtain ⟨h7, h8, h9, h10, h11, h12, h13, h14, h15⟩ := hw
    replace hq := lf_p1 hq h15
    refine lv_if_ne (tgt := 24) hx hb dX10_asksSign_12 rfl (fun c16 => ?_) (fun c16 => ?_)
    · replace hq := lf_neg hq (lf_ne (lf_rf r4) (lf_lc 0 (0 : Int) rfl) c16)
      have h17 : ib r4 1 1 := ib_w 1 1 (ib_ne_lo 0 h8 rfl c16) rfl
      have h18 := h14 (ib_nz h17 rfl)
      have h19 : ib x_at 0 1599 := ⟨(hx_at).1, by have := (hx_at).2; have := h18; have := (h7).2; omega⟩
      have h20 : ib v6 1 1600 := ⟨by have := (h7).1; have := h18; have := (h19).1; omega, (h7).2⟩
      have h21 : ib x_end 1 1600 := ib_w 1 1600 (ib_two hx_end (h11 (ib_nz h17 rfl))) rfl
      subst hQ; exact k_vret hx hb hr hlk ((v6, x_bad, x_badPlace)) hS ⟨ib_w 0 1600 h20 rfl, fun q => q, (by have := h18; omega), fun hq9 => (by have := h18; omega), (hO.symm.trans (by exact hq))⟩ hP hD (Nat.le_of_ble_eq_true rfl) (Nat.le_of_ble_eq_true rfl) dX10_asksSign_24
    · replace hq := lf_pos hq (lf_eq (lf_rf r4) (lf_lc 0 (0 : Int) rfl) c16)
      have h22 := ib_eq h8 (ib_c 0 0 0 rfl) c16
      have h23 : ib r4 0 0 := ib_w 0 0 h22.1 rfl
      refine lv_aload_n hx hb dX10_asksSign_15 rfl (lv_at hl 0 rfl) ?_
      refine lv_iconst (v := 1) hx hb dX10_asksSign_16 rfl ?_
      refine lv_aload_n hx hb dX10_asksSign_17 rfl (lv_at hl 0 rfl) ?_
      refine k_get C0 fg_X10_285 hP 0 rfl rfl dX10_asksSign_18 ?_
      refine k_jvm hP hD hS hA [0] [false, true] rfl rfl rfl 0 0 (Nat.le_of_ble_eq_true rfl) (Nat.le_of_ble_eq_true rfl) (fun hPc hDc => k_runV (As := [.int 1, .int v6]) (rest := []) C0 hZ hS hA (s_X10_fail_a0_1_f_bad_0_0 l dC dI cy sq a_this rm x_taped v6 x_end x_ended x_bad x_badPlace x_fault x_faultPlace x_namePlace x_awayTold x_away x_coded x_statements x_isCrossing x_textKind x_askSecond x_redMany x_isOpen x_lastGreen x_greenTo x_isCycleGreen x_stillGreen x_rowMany x_fitMany x_fitRules x_fitGreen x_undoable x_newest x_seeded x_qCoded x_qWaits x_qOpened x_qBase x_qPiled x_qAnswer x_qIsNew x_octets v6 (ib_w 0 0 h3 rfl)) mV_X10_308 hPc hDc rfl rfl rfl hl rfl rfl (Nat.le_of_ble_eq_true rfl) ⟨(Nat.le_of_ble_eq_true rfl), (Nat.le_of_ble_eq_true rfl)⟩ ⟨(Nat.le_of_ble_eq_true rfl), (Nat.le_of_ble_eq_true rfl)⟩ dX10_asksSign_21) (fun u25 H locs hw hP hD hS => ?_)
      try dsimp only at hP hD hw
      replace hP : va_P (dC, dI) vwCl [(wi_rm0_0_1600_0 rm cy g_tape), (a_this, .inr (10, mfs rm x_taped v6 x_end x_ended 1 v6 x_fault x_faultPlace x_namePlace x_awayTold x_away x_coded x_statements x_isCrossing x_textKind x_askSecond x_redMany x_isOpen x_lastGreen x_greenTo x_isCycleGreen x_stillGreen x_rowMany x_fitMany x_fitRules x_fitGreen x_undoable x_newest x_seeded x_qCoded x_qWaits x_qOpened x_qBase x_qPiled x_qAnswer x_qIsNew x_octets))] H := hP
      replace hD := k_D hP hD
      subst hQ; exact k_vret hx hb hr hlk ((v6, 1, v6)) hS ⟨ib_w 0 1600 h7 rfl, fun q => absurd q (by decide), (by have := h13; omega), fun q => absurd q (by decide), (hO.symm.trans (by try simp only [show (1 : Int32).toInt = (1 : Int) from rfl]; exact hq))⟩ (hP.sub [1, 0] rfl) (hD.sub [1, 0] rfl rfl) (Nat.le_of_ble_eq_true rfl) (Nat.le_of_ble_eq_true rfl) dX10_asksSign_24
set_option maxHeartbeats 4000000 in
set_option maxRecDepth 100000 in
theorem s_X10_qDropsToBracket (l : Launch) (dC : Nat → ClassId) (dI : Nat → Nat → Nat) (cy : Nat → ClassId) (sq : Nat → Nat) (a_this : Nat) (rm : Nat → Nat) (x_taped : Int32) (x_at : Int32) (x_end : Int32) (x_ended : Int32) (x_bad : Int32) (x_badPlace : Int32) (x_fault : Int32) (x_faultPlace : Int32) (x_namePlace : Int32) (x_awayTold : Int32) (x_away : Int32) (x_coded : Int32) (x_statements : Int32) (x_isCrossing : Int32) (x_textKind : Int32) (x_askSecond : Int32) (x_redMany : Int32) (x_isOpen : Int32) (x_lastGreen : Int32) (x_greenTo : Int32) (x_isCycleGreen : Int32) (x_stillGreen : Int32) (x_rowMany : Int32) (x_fitMany : Int32) (x_fitRules : Int32) (x_fitGreen : Int32) (x_undoable : Int32) (x_newest : Int32) (x_seeded : Int64) (x_qCoded : Int32) (x_qWaits : Int32) (x_qOpened : Int32) (x_qBase : Int32) (x_qPiled : Int32) (x_qAnswer : Int64) (x_qIsNew : Int32) (x_octets : Int32) (g_qCodes : Nat → Int32) (g_qWait : Nat → Int32) (cc : Nat) (hx_bad : ib x_bad 0 0) (hx_qCoded : ib x_qCoded 0 1700) (hx_qWaits : ib x_qWaits 0 1700) (hx_qBase : ib x_qBase 0 1700) (hL0 : 1 * x_qCoded.toInt + 1 * x_qWaits.toInt ≤ 1700) (hL1 : 1 * x_qBase.toInt + (-1) * x_qWaits.toInt ≤ 0) (hGS : x_bad = 0 → GS g_qCodes x_qCoded g_qWait x_qWaits x_qBase x_textKind (cc + 1)) : k_Met l yX10_qDropsToBracket cX10_qDropsToBracket 1 none { frames := 2, cells := 0, slots := 0, locals := 41 } dC dI cy sq [.ref a_this] [(a_this, .inr (10, mfs rm x_taped x_at x_end x_ended x_bad x_badPlace x_fault x_faultPlace x_namePlace x_awayTold x_away x_coded x_statements x_isCrossing x_textKind x_askSecond x_redMany x_isOpen x_lastGreen x_greenTo x_isCycleGreen x_stillGreen x_rowMany x_fitMany x_fitRules x_fitGreen x_undoable x_newest x_seeded x_qCoded x_qWaits x_qOpened x_qBase x_qPiled x_qAnswer x_qIsNew x_octets)), (wi_rm112_0_1700_0 rm cy g_qWait), (wi_rm110_0_1700_0 rm cy g_qCodes)] (k_Qv dC dI (fun (u : Int32 × Int32 × (Nat → Int32)) => match u with | (n0, n1, n2) => ib n0 0 1700 ∧ ib n1 0 1700 ∧ (1 * n0.toInt + 1 * n1.toInt + (-1) * x_qCoded.toInt + (-1) * x_qWaits.toInt ≤ 0) ∧ ((-1) * n0.toInt + (-1) * n1.toInt + 1 * x_qCoded.toInt + 1 * x_qWaits.toInt ≤ 0) ∧ (1 * n1.toInt + (-1) * x_qWaits.toInt ≤ 0) ∧ (1 * x_qBase.toInt + (-1) * n1.toInt ≤ 0) ∧ (x_bad = 0 → GS n2 n0 g_qWait n1 x_qBase x_textKind (cc + 1)) ∧ DB g_qWait x_qWaits x_qBase n1 ∧ (F_X10_qDropsToBracket (Int32.toInt x_qCoded) (Int32.toInt x_qWaits) (Int32.toInt x_qBase) (lf_A g_qCodes) (lf_A g_qWait) = ((Int32.toInt n0), (Int32.toInt n1), (lf_A n2)))) (fun u : Int32 × Int32 × (Nat → Int32) => match u with | (n0, n1, n2) => [(a_this, .inr (10, mfs rm x_taped x_at x_end x_ended x_bad x_badPlace x_fault x_faultPlace x_namePlace x_awayTold x_away x_coded x_statements x_isCrossing x_textKind x_askSecond x_redMany x_isOpen x_lastGreen x_greenTo x_isCycleGreen x_stillGreen x_rowMany x_fitMany x_fitRules x_fitGreen x_undoable x_newest x_seeded n0 n1 x_qOpened x_qBase x_qPiled x_qAnswer x_qIsNew x_octets)), (wi_rm112_0_1700_0 rm cy g_qWait), (wi_rm110_0_1700_0 rm cy n2)])) := by
  refine k_ofW2 (by decide +kernel) (Nat.le_of_ble_eq_true rfl) ?_
  intro p e s m below meth c A ls H locs args Q hQ C0 hZ hr hlk hin hP hD hA hS hl
  have C0 : k_cx p s m args c cX10_qDropsToBracket 1 RX10 dC dI cy sq := C0
  have hx := C0.1
  have hb := C0.2.1
  have hl : lv_has ls 1 [(0, .ref a_this)] := hl
  obtain ⟨O, hO⟩ : ∃ o, o = F_X10_qDropsToBracket (Int32.toInt x_qCoded) (Int32.toInt x_qWaits) (Int32.toInt x_qBase) (lf_A g_qCodes) (lf_A g_qWait) := ⟨_, rfl⟩
  have hq := hO
  unfold F_X10_qDropsToBracket at hq
  have jn0 : ∀ (n : Nat) (J0_c0_111 : Int32) (J0_c0_113 : Int32) (J0_a2 : Nat → Int32) (H : Heap) (locs : List Loc) (ls : Array Slot), ib J0_c0_111 0 1700 → ib J0_c0_113 0 1700 → (1 * J0_c0_111.toInt + 1 * J0_c0_113.toInt ≤ 1700) → (1 * J0_c0_111.toInt + 1 * J0_c0_113.toInt + (-1) * x_qCoded.toInt + (-1) * x_qWaits.toInt ≤ 0) → ((-1) * J0_c0_111.toInt + (-1) * J0_c0_113.toInt + 1 * x_qCoded.toInt + 1 * x_qWaits.toInt ≤ 0) → (1 * J0_c0_113.toInt + (-1) * x_qWaits.toInt ≤ 0) → (1 * x_qBase.toInt + (-1) * J0_c0_113.toInt ≤ 0) → (x_bad = 0 → GS J0_a2 J0_c0_111 g_qWait J0_c0_113 x_qBase x_textKind (cc + 1)) → (O = F_X10_qDropsToBracket_0 (Int32.toInt x_qBase) (lf_A g_qWait) n (Int32.toInt J0_c0_111) (Int32.toInt J0_c0_113) (lf_A J0_a2)) → (∀ i : Nat, J0_c0_113.toInt ≤ (i : Int) → (i : Int) < x_qWaits.toInt → ¬ brk (g_qWait i)) → 1701 ≤ J0_c0_111.toInt + (n : Int) → va_P (dC, dI) vwCl [(a_this, .inr (10, mfs rm x_taped x_at x_end x_ended x_bad x_badPlace x_fault x_faultPlace x_namePlace x_awayTold x_away x_coded x_statements x_isCrossing x_textKind x_askSecond x_redMany x_isOpen x_lastGreen x_greenTo x_isCycleGreen x_stillGreen x_rowMany x_fitMany x_fitRules x_fitGreen x_undoable x_newest x_seeded J0_c0_111 J0_c0_113 x_qOpened x_qBase x_qPiled x_qAnswer x_qIsNew x_octets)), (wi_rm112_0_1700_0 rm cy g_qWait), (wi_rm110_0_1700_0 rm cy J0_a2)] H → va_D A [(a_this, .inr (10, mfs rm x_taped x_at x_end x_ended x_bad x_badPlace x_fault x_faultPlace x_namePlace x_awayTold x_away x_coded x_statements x_isCrossing x_textKind x_askSecond x_redMany x_isOpen x_lastGreen x_greenTo x_isCycleGreen x_stillGreen x_rowMany x_fitMany x_fitRules x_fitGreen x_undoable x_newest x_seeded J0_c0_111 J0_c0_113 x_qOpened x_qBase x_qPiled x_qAnswer x_qIsNew x_octets)), (wi_rm112_0_1700_0 rm cy g_qWait), (wi_rm110_0_1700_0 rm cy J0_a2)] → va_S A s.heap H locs → lv_has ls 1 [(0, .ref a_this)] → W p l e { frames := 2, cells := 0, slots := 0, locals := 41 } s m args below meth c H locs 0 0 Q (F0 m 0 ls []) := by
    as_aux_lemma =>
      intro n
      induction n with
      | zero =>
        intro J0_c0_111 J0_c0_113 J0_a2 H locs ls hJ0_c0_111 hJ0_c0_113 hJ0_lin0 hJ0_lin1 hJ0_lin2 hJ0_lin3 hJ0_lin4 hJ0_go hq hJ0_gh hm
        exact absurd hm (by have := hJ0_c0_111; unfold ib at this; omega)
      | succ n ih =>
        intro J0_c0_111 J0_c0_113 J0_a2 H locs ls hJ0_c0_111 hJ0_c0_113 hJ0_lin0 hJ0_lin1 hJ0_lin2 hJ0_lin3 hJ0_lin4 hJ0_go hq hJ0_gh hm0 hP hD hS hl
        have ih0 := ih
        obtain ⟨K0, hK0⟩ : ∃ K, K = F_X10_qDropsToBracket_0 (Int32.toInt x_qBase) (lf_A g_qWait) n := ⟨_, rfl⟩
        have hq : O = F_X10_qDropsToBracket_0b (Int32.toInt x_qBase) (lf_A g_qWait) K0 (Int32.toInt J0_c0_111) (Int32.toInt J0_c0_113) (lf_A J0_a2) := by rw [hK0]; exact hq
        unfold F_X10_qDropsToBracket_0b at hq
        refine lv_aload_n hx hb dX10_qDropsToBracket_0 rfl (lv_at hl 0 rfl) ?_
        refine k_get C0 fg_X10_372 hP 0 rfl rfl dX10_qDropsToBracket_1 ?_
        refine lv_aload_n hx hb dX10_qDropsToBracket_4 rfl (lv_at hl 0 rfl) ?_
        refine k_get C0 fg_X10_378 hP 0 rfl rfl dX10_qDropsToBracket_5 ?_
        refine lv_icmp_le (tgt := 35) hx hb dX10_qDropsToBracket_8 rfl (fun c1 => ?_) (fun c1 => ?_)
        · replace hq := lf_pos hq (lf_le (lf_rf J0_c0_113) (lf_rf x_qBase) c1)
          have h2 := ib_le hJ0_c0_113 hx_qBase c1
          subst hQ; exact k_vret hx hb hr hlk ((J0_c0_111, J0_c0_113, J0_a2)) hS ⟨ib_w 0 1700 hJ0_c0_111 rfl, ib_w 0 1700 hJ0_c0_113 rfl, (by have := hJ0_lin1; omega), (by have := hJ0_lin2; omega), (by have := hJ0_lin3; omega), (by have := hJ0_lin4; omega), fun q => (hJ0_go q), DB_end hJ0_gh (by have := (hx_qWaits).1; have := (hx_qWaits).2; have := hL0; have := hL1; have := hJ0_lin1; have := hJ0_lin2; have := hJ0_lin3; have := (hJ0_c0_113).1; have := (hJ0_c0_113).2; have := hJ0_lin0; have := hJ0_lin4; have := (hx_qBase).1; have := (hx_qBase).2; have := (hx_qCoded).1; have := (hx_qCoded).2; have := (hJ0_c0_111).1; have := (hJ0_c0_111).2; have := Int32.le_iff_toInt_le.mp c1; omega) (by have := (hx_qWaits).1; have := (hx_qWaits).2; have := hL0; have := hL1; have := hJ0_lin1; have := hJ0_lin2; have := hJ0_lin3; have := (hJ0_c0_113).1; have := (hJ0_c0_113).2; have := hJ0_lin0; have := hJ0_lin4; have := (hx_qBase).1; have := (hx_qBase).2; have := (hx_qCoded).1; have := (hx_qCoded).2; have := (hJ0_c0_111).1; have := (hJ0_c0_111).2; have := Int32.le_iff_toInt_le.mp c1; omega) (by have := (hx_qWaits).1; have := (hx_qWaits).2; have := hL0; have := hL1; have := hJ0_lin1; have := hJ0_lin2; have := hJ0_lin3; have := (hJ0_c0_113).1; have := (hJ0_c0_113).2; have := hJ0_lin0; have := hJ0_lin4; have := (hx_qBase).1; have := (hx_qBase).2; have := (hx_qCoded).1; have := (hx_qCoded).2; have := (hJ0_c0_111).1; have := (hJ0_c0_111).2; have := Int32.le_iff_toInt_le.mp c1; omega) (Or.inl (by have := (hx_qWaits).1; have := (hx_qWaits).2; have := hL0; have := hL1; have := hJ0_lin1; have := hJ0_lin2; have := hJ0_lin3; have := (hJ0_c0_113).1; have := (hJ0_c0_113).2; have := hJ0_lin0; have := hJ0_lin4; have := (hx_qBase).1; have := (hx_qBase).2; have := (hx_qCoded).1; have := (hx_qCoded).2; have := (hJ0_c0_111).1; have := (hJ0_c0_111).2; have := Int32.le_iff_toInt_le.mp c1; omega)), (hO.symm.trans (by exact hq))⟩ hP hD (Nat.le_of_ble_eq_true rfl) (Nat.le_of_ble_eq_true rfl) dX10_qDropsToBracket_35
        · as_aux_lemma =>
            replace hq := lf_neg hq (lf_nle (lf_rf J0_c0_113) (lf_rf x_qBase) c1)
            have h3 := ib_nle hJ0_c0_113 hx_qBase c1
            have h4 : ib J0_c0_113 1 1700 := ib_w 1 1700 h3.1 rfl
            have h5 : ib x_qBase 0 1699 := ib_w 0 1699 h3.2 rfl
            have h6 : ib J0_c0_111 0 1699 := ⟨(hJ0_c0_111).1, by have := (hJ0_c0_111).2; have := hJ0_lin0; have := (h4).1; omega⟩
            have h7 : ib x_qWaits 1 1700 := ⟨by have := (hx_qWaits).1; have := hJ0_lin3; have := (h4).1; omega, (hx_qWaits).2⟩
            have h8 : ib x_qCoded 0 1699 := ⟨(hx_qCoded).1, by have := (hx_qCoded).2; have := hL0; have := (h7).1; omega⟩
            refine lv_aload_n hx hb dX10_qDropsToBracket_11 rfl (lv_at hl 0 rfl) ?_
            refine k_get C0 fg_X10_267 hP 0 rfl rfl dX10_qDropsToBracket_12 ?_
            refine lv_aload_n hx hb dX10_qDropsToBracket_15 rfl (lv_at hl 0 rfl) ?_
            refine k_get C0 fg_X10_372 hP 0 rfl rfl dX10_qDropsToBracket_16 ?_
            refine lv_iconst (v := 1) hx hb dX10_qDropsToBracket_19 rfl ?_
            refine lv_isub hx hb dX10_qDropsToBracket_20 ?_
            refine lv_topi (fun z9 ez9 => ?_)
            have h10 := ib_sub h4 (ib_c 1 1 1 rfl) rfl
            rw [← ez9] at h10
            have h11 : ib z9 0 1699 := ib_w 0 1699 h10.1 rfl
            have Ez9 := lf_sub h10.2 (lf_rf J0_c0_113) (lf_lc 1 (1 : Int) rfl)
            refine va_iald hx hb C0.2.2.2.2.2.1 hP 1 0 rfl rfl (ib_in 1700 h11 rfl) dX10_qDropsToBracket_21 ?_
            refine lv_topi (fun z12 ez12 => ?_)
            have Ez12 := lf_ld ez12 (lf_ra g_qWait) Ez9
            refine k_jim hP hD hS hA [] [true, true, true] rfl rfl rfl 0 0 (Nat.le_of_ble_eq_true rfl) (Nat.le_of_ble_eq_true rfl) (fun hPc hDc => k_runS (As := [.int z12]) (rest := []) C0 hZ hS hA (s_X10_qIsBracket l dC dI cy sq z12 ) mS_X10_611 hPc hDc hl rfl rfl (Nat.le_of_ble_eq_true rfl) ⟨(Nat.le_of_ble_eq_true rfl), (Nat.le_of_ble_eq_true rfl)⟩ ⟨(Nat.le_of_ble_eq_true rfl), (Nat.le_of_ble_eq_true rfl)⟩ dX10_qDropsToBracket_22) (fun r13 u14 H locs hw hP hD hS => ?_)
            try dsimp only at hP hD hw
            replace hP : va_P (dC, dI) vwCl [(a_this, .inr (10, mfs rm x_taped x_at x_end x_ended x_bad x_badPlace x_fault x_faultPlace x_namePlace x_awayTold x_away x_coded x_statements x_isCrossing x_textKind x_askSecond x_redMany x_isOpen x_lastGreen x_greenTo x_isCycleGreen x_stillGreen x_rowMany x_fitMany x_fitRules x_fitGreen x_undoable x_newest x_seeded J0_c0_111 J0_c0_113 x_qOpened x_qBase x_qPiled x_qAnswer x_qIsNew x_octets)), (wi_rm112_0_1700_0 rm cy g_qWait), (wi_rm110_0_1700_0 rm cy J0_a2)] H := hP
            replace hD := k_D hP hD
            obtain ⟨h15, h16, h17, h18⟩ := hw
            have h18 := by have h9 := h18; rw [lf_u Ez12] at h9; exact h9
            replace hq := lf_b1 hq h18
            refine lv_if_ne (tgt := 35) hx hb dX10_qDropsToBracket_25 rfl (fun c19 => ?_) (fun c19 => ?_)
            · replace hq := lf_neg hq (lf_ne (lf_rf r13) (lf_lc 0 (0 : Int) rfl) c19)
              have h20 : ib r13 1 1 := ib_w 1 1 (ib_ne_lo 0 h15 rfl c19) rfl
              have h21 : ib z12 20 24 := ib_w 20 24 (ib_two (ib_any z12) (h16 (ib_nz h20 rfl))) rfl
              subst hQ; exact k_vret hx hb hr hlk ((J0_c0_111, J0_c0_113, J0_a2)) hS ⟨ib_w 0 1700 h6 rfl, ib_w 0 1700 h4 rfl, (by have := hJ0_lin1; omega), (by have := hJ0_lin2; omega), (by have := hJ0_lin3; omega), (by have := mt Int32.le_iff_toInt_le.mpr c1; omega), fun q => (hJ0_go q), DB_end hJ0_gh (by have := (h7).1; have := (h7).2; have := hL0; have := hL1; have := hJ0_lin1; have := hJ0_lin2; have := hJ0_lin3; have := (h4).1; have := (h4).2; have := hJ0_lin0; have := hJ0_lin4; have := (h5).1; have := (h5).2; have := (h8).1; have := (h8).2; have := (h6).1; have := (h6).2; have := mt Int32.le_iff_toInt_le.mpr c1; omega) (by have := (h7).1; have := (h7).2; have := hL0; have := hL1; have := hJ0_lin1; have := hJ0_lin2; have := hJ0_lin3; have := (h4).1; have := (h4).2; have := hJ0_lin0; have := hJ0_lin4; have := (h5).1; have := (h5).2; have := (h8).1; have := (h8).2; have := (h6).1; have := (h6).2; have := mt Int32.le_iff_toInt_le.mpr c1; omega) (by have := (h7).1; have := (h7).2; have := hL0; have := hL1; have := hJ0_lin1; have := hJ0_lin2; have := hJ0_lin3; have := (h4).1; have := (h4).2; have := hJ0_lin0; have := hJ0_lin4; have := (h5).1; have := (h5).2; have := (h8).1; have := (h8).2; have := (h6).1; have := (h6).2; have := mt Int32.le_iff_toInt_le.mpr c1; omega) (Or.inr ⟨by have := (h7).1; have := (h7).2; have := hL0; have := hL1; have := hJ0_lin1; have := hJ0_lin2; have := hJ0_lin3; have := (h4).1; have := (h4).2; have := hJ0_lin0; have := hJ0_lin4; have := (h5).1; have := (h5).2; have := (h8).1; have := (h8).2; have := (h6).1; have := (h6).2; have := mt Int32.le_iff_toInt_le.mpr c1; omega, by rw [show (J0_c0_113.toInt.toNat - 1) = Int32.toNatClampNeg z9 from by show _ = (Int32.toInt z9).toNat; have := (h11).1; have := (h11).2; have := h10.2; have : (1 : Int32).toInt = 1 := rfl; have := (h4).1; have := (h4).2; have := hJ0_lin0; have := hJ0_lin1; have := hJ0_lin2; have := hJ0_lin3; have := hJ0_lin4; have := (h5).1; have := (h5).2; have := hL1; have := (h7).1; have := (h7).2; have := hL0; have := (h8).1; have := (h8).2; have := (h6).1; have := (h6).2; have := mt Int32.le_iff_toInt_le.mpr c1; omega, ← ez12]; exact ⟨by have := (h21).1; omega, by have := (h21).2; omega⟩⟩), (hO.symm.trans (by exact hq))⟩ hP hD (Nat.le_of_ble_eq_true rfl) (Nat.le_of_ble_eq_true rfl) dX10_qDropsToBracket_35
            · replace hq := lf_pos hq (lf_eq (lf_rf r13) (lf_lc 0 (0 : Int) rfl) c19)
              have h22 := ib_eq h15 (ib_c 0 0 0 rfl) c19
              have h23 : ib r13 0 0 := ib_w 0 0 h22.1 rfl
              refine lv_aload_n hx hb dX10_qDropsToBracket_28 rfl (lv_at hl 0 rfl) ?_
              refine k_jvm hP hD hS hA [0, 1, 2] [] rfl rfl rfl 0 0 (Nat.le_of_ble_eq_true rfl) (Nat.le_of_ble_eq_true rfl) (fun hPc hDc => k_runV (As := []) (rest := []) C0 hZ hS hA (s_X10_qDrops l dC dI cy sq a_this rm x_taped x_at x_end x_ended x_bad x_badPlace x_fault x_faultPlace x_namePlace x_awayTold x_away x_coded x_statements x_isCrossing x_textKind x_askSecond x_redMany x_isOpen x_lastGreen x_greenTo x_isCycleGreen x_stillGreen x_rowMany x_fitMany x_fitRules x_fitGreen x_undoable x_newest x_seeded J0_c0_111 J0_c0_113 x_qOpened x_qBase x_qPiled x_qAnswer x_qIsNew x_octets J0_a2 g_qWait (ib_w 0 1699 h6 rfl) (ib_w 1 1700 h4 rfl)) mV_X10_614 hPc hDc rfl rfl rfl hl rfl rfl (Nat.le_of_ble_eq_true rfl) ⟨(Nat.le_of_ble_eq_true rfl), (Nat.le_of_ble_eq_true rfl)⟩ ⟨(Nat.le_of_ble_eq_true rfl), (Nat.le_of_ble_eq_true rfl)⟩ dX10_qDropsToBracket_29) (fun u25 H locs hw hP hD hS => ?_)
              obtain ⟨v26, v27, f28⟩ := u25
              try dsimp only at hP hD hw
              replace hP : va_P (dC, dI) vwCl [(a_this, .inr (10, mfs rm x_taped x_at x_end x_ended x_bad x_badPlace x_fault x_faultPlace x_namePlace x_awayTold x_away x_coded x_statements x_isCrossing x_textKind x_askSecond x_redMany x_isOpen x_lastGreen x_greenTo x_isCycleGreen x_stillGreen x_rowMany x_fitMany x_fitRules x_fitGreen x_undoable x_newest x_seeded v26 v27 x_qOpened x_qBase x_qPiled x_qAnswer x_qIsNew x_octets)), (wi_rm112_0_1700_0 rm cy g_qWait), (wi_rm110_0_1700_0 rm cy f28)] H := hP
              replace hD := k_D hP hD
              obtain ⟨h29, h30, h31, h32, h33, h34⟩ := hw
              have h35 : v26.toInt = (J0_c0_111 : Int32).toInt + (1 : Int32).toInt := by have q1 := h30; have q2 : (1 : Int32).toInt = 1 := rfl; omega
              have h36 : v27.toInt = (J0_c0_113 : Int32).toInt + ((-1) : Int32).toInt := by have q1 := h32; have q2 : ((-1) : Int32).toInt = (-1) := rfl; omega
              replace hq := lf_p1 hq h34
              replace hq := lf_p1 hq rfl
              have h37 : x_bad = 0 → GS f28 v26 g_qWait v27 x_qBase x_textKind (cc + 1) := fun _ => (by rw [h33]; exact GS_dropS (hJ0_go (ib_one hx_bad rfl)) (by have := h35; have : (1 : Int32).toInt = 1 := rfl; omega) (by have := h36; have : ((-1) : Int32).toInt = (-1) := rfl; omega) (by have := h36; have : ((-1) : Int32).toInt = (-1) := rfl; have := mt Int32.le_iff_toInt_le.mpr c1; omega) rfl (by rw [show v27 = z9 from cn (by have := h10.2; have : (1 : Int32).toInt = 1 := rfl; have := h36; have : ((-1) : Int32).toInt = (-1) := rfl; omega), ← ez12]; exact h17 (ib_one h23 rfl)))
              refine lv_goto (tgt := 0) hx hb dX10_qDropsToBracket_32 rfl ?_
              exact ih0 v26 v27 f28 H locs ls (ib_w 0 1700 h29 rfl) (ib_w 0 1700 h31 rfl) (by have := (h31).2; have := h36; have : ((-1) : Int32).toInt = (-1) := rfl; have := hJ0_lin0; have := (h29).2; have := h35; have : (1 : Int32).toInt = 1 := rfl; omega) (by have := hJ0_lin1; have := h36; have : ((-1) : Int32).toInt = (-1) := rfl; have := h35; have : (1 : Int32).toInt = 1 := rfl; omega) (by have := hJ0_lin2; have := h36; have : ((-1) : Int32).toInt = (-1) := rfl; have := h35; have : (1 : Int32).toInt = 1 := rfl; omega) (by have := hJ0_lin3; have := h36; have : ((-1) : Int32).toInt = (-1) := rfl; omega) (by have := h36; have : ((-1) : Int32).toInt = (-1) := rfl; have := mt Int32.le_iff_toInt_le.mpr c1; omega) (fun q => (h37 q)) (by rw [← hK0]; exact hq) (fun i h1 h2 => if e9 : (i : Int) = v27.toInt then (by have e2 : i = Int32.toNatClampNeg v27 := (by show i = (Int32.toInt v27).toNat; omega); rw [e2]; exact (by rw [show v27 = z9 from cn (by have := h10.2; have : (1 : Int32).toInt = 1 := rfl; have := h36; have : ((-1) : Int32).toInt = (-1) := rfl; omega), ← ez12]; exact h17 (ib_one h23 rfl))) else hJ0_gh i (by have := (h4).1; have := (h4).2; have := hJ0_lin0; have := hJ0_lin1; have := hJ0_lin2; have := hJ0_lin3; have := hJ0_lin4; have := (h5).1; have := (h5).2; have := hL1; have := (h7).1; have := (h7).2; have := hL0; have := (h8).1; have := (h8).2; have := (h6).1; have := (h6).2; have := (h31).1; have := (h31).2; have := h36; have : ((-1) : Int32).toInt = (-1) := rfl; have := mt Int32.le_iff_toInt_le.mpr c1; omega) h2) (by have := h35; have : (1 : Int32).toInt = 1 := rfl; omega) hP hD hS (lv_sub hl [0] rfl)
  exact jn0 1702 x_qCoded x_qWaits g_qCodes H locs ls (ib_w 0 1700 hx_qCoded rfl) (ib_w 0 1700 hx_qWaits rfl) (by have := hL0; omega) (by omega) (by omega) (by omega) (by have := hL1; omega) (fun q => (hGS q)) (by exact hq) (fun i h1 h2 => absurd h2 (by omega)) (by have := hx_qCoded; unfold ib at this; omega) hP hD hS (lv_sub hl [0] rfl)
set_option maxHeartbeats 4000000 in
set_option maxRecDepth 100000 in
theorem s_X10_qIsOn_a0_3 (l : Launch) (dC : Nat → ClassId) (dI : Nat → Nat → Nat) (cy : Nat → ClassId) (sq : Nat → Nat) (a_this : Nat) (rm : Nat → Nat) (x_taped : Int32) (x_at : Int32) (x_end : Int32) (x_ended : Int32) (x_bad : Int32) (x_badPlace : Int32) (x_fault : Int32) (x_faultPlace : Int32) (x_namePlace : Int32) (x_awayTold : Int32) (x_away : Int32) (x_coded : Int32) (x_statements : Int32) (x_isCrossing : Int32) (x_textKind : Int32) (x_askSecond : Int32) (x_redMany : Int32) (x_isOpen : Int32) (x_lastGreen : Int32) (x_greenTo : Int32) (x_isCycleGreen : Int32) (x_stillGreen : Int32) (x_rowMany : Int32) (x_fitMany : Int32) (x_fitRules : Int32) (x_fitGreen : Int32) (x_undoable : Int32) (x_newest : Int32) (x_seeded : Int64) (x_qCoded : Int32) (x_qWaits : Int32) (x_qOpened : Int32) (x_qBase : Int32) (x_qPiled : Int32) (x_qAnswer : Int64) (x_qIsNew : Int32) (x_octets : Int32) (g_qWait : Nat → Int32) (hx_qWaits : ib x_qWaits 0 1700) : k_Met l yX10_qIsOn cX10_qIsOn 2 (some .boolean) { frames := 0, cells := 0, slots := 0, locals := 0 } dC dI cy sq [.ref a_this, .int 3] [(a_this, .inr (10, mfs rm x_taped x_at x_end x_ended x_bad x_badPlace x_fault x_faultPlace x_namePlace x_awayTold x_away x_coded x_statements x_isCrossing x_textKind x_askSecond x_redMany x_isOpen x_lastGreen x_greenTo x_isCycleGreen x_stillGreen x_rowMany x_fitMany x_fitRules x_fitGreen x_undoable x_newest x_seeded x_qCoded x_qWaits x_qOpened x_qBase x_qPiled x_qAnswer x_qIsNew x_octets)), (wi_rm112_0_1700_0 rm cy g_qWait)] (k_Qi dC dI (fun (r : Int32) (_ : Unit) => ib r 0 1 ∧ (¬ r = 0 → ib x_qWaits 1 1700) ∧ ((¬ r = 0 → 1 ≤ x_qWaits.toInt ∧ g_qWait (x_qWaits.toInt - 1).toNat = 3) ∧ (r = 0 → x_qWaits.toInt ≤ 0 ∨ ¬ g_qWait (x_qWaits.toInt - 1).toNat = 3)) ∧ (F_X10_qIsOn_a0_3 (Int32.toInt x_qWaits) (lf_A g_qWait) = ((Int32.toInt r)))) (fun _ : Unit => [(a_this, .inr (10, mfs rm x_taped x_at x_end x_ended x_bad x_badPlace x_fault x_faultPlace x_namePlace x_awayTold x_away x_coded x_statements x_isCrossing x_textKind x_askSecond x_redMany x_isOpen x_lastGreen x_greenTo x_isCycleGreen x_stillGreen x_rowMany x_fitMany x_fitRules x_fitGreen x_undoable x_newest x_seeded x_qCoded x_qWaits x_qOpened x_qBase x_qPiled x_qAnswer x_qIsNew x_octets)), (wi_rm112_0_1700_0 rm cy g_qWait)])) := by
  refine k_ofW2 (by decide +kernel) (Nat.le_of_ble_eq_true rfl) ?_
  intro p e s m below meth c A ls H locs args Q hQ C0 hZ hr hlk hin hP hD hA hS hl
  have C0 : k_cx p s m args c cX10_qIsOn 2 RX10 dC dI cy sq := C0
  have hx := C0.1
  have hb := C0.2.1
  have hl : lv_has ls 2 [(0, .ref a_this), (1, .int 3)] := hl
  obtain ⟨O, hO⟩ : ∃ o, o = F_X10_qIsOn_a0_3 (Int32.toInt x_qWaits) (lf_A g_qWait) := ⟨_, rfl⟩
  have hq := hO
  unfold F_X10_qIsOn_a0_3 at hq
  refine lv_aload_n hx hb dX10_qIsOn_0 rfl (lv_at hl 0 rfl) ?_
  refine k_get C0 fg_X10_372 hP 0 rfl rfl dX10_qIsOn_1 ?_
  refine lv_if_le (tgt := 26) hx hb dX10_qIsOn_4 rfl (fun c1 => ?_) (fun c1 => ?_)
  · replace hq := lf_pos hq (lf_le (lf_rf x_qWaits) (lf_lc 0 (0 : Int) rfl) c1)
    have h2 := ib_le hx_qWaits (ib_c 0 0 0 rfl) c1
    have h3 : ib x_qWaits 0 0 := ib_w 0 0 h2.1 rfl
    refine lv_iconst (v := 0) hx hb dX10_qIsOn_26 rfl ?_
    subst hQ; exact k_iret hx hb hr hlk (k_nb 0 rfl) () hS ⟨ib_w 0 1 (ib_c 0 0 0 rfl) rfl, fun hq9 => absurd rfl hq9, ⟨fun q => absurd rfl q, fun _ => Or.inl (by have := (h3).1; have := (h3).2; omega)⟩, (hO.symm.trans (by try simp only [show (0 : Int32).toInt = (0 : Int) from rfl]; exact hq))⟩ hP hD (Nat.le_of_ble_eq_true rfl) (Nat.le_of_ble_eq_true rfl) dX10_qIsOn_27
  · replace hq := lf_neg hq (lf_nle (lf_rf x_qWaits) (lf_lc 0 (0 : Int) rfl) c1)
    have h4 := ib_nle hx_qWaits (ib_c 0 0 0 rfl) c1
    have h5 : ib x_qWaits 1 1700 := ib_w 1 1700 h4.1 rfl
    refine lv_aload_n hx hb dX10_qIsOn_7 rfl (lv_at hl 0 rfl) ?_
    refine k_get C0 fg_X10_267 hP 0 rfl rfl dX10_qIsOn_8 ?_
    refine lv_aload_n hx hb dX10_qIsOn_11 rfl (lv_at hl 0 rfl) ?_
    refine k_get C0 fg_X10_372 hP 0 rfl rfl dX10_qIsOn_12 ?_
    refine lv_iconst (v := 1) hx hb dX10_qIsOn_15 rfl ?_
    refine lv_isub hx hb dX10_qIsOn_16 ?_
    refine lv_topi (fun z6 ez6 => ?_)
    have h7 := ib_sub h5 (ib_c 1 1 1 rfl) rfl
    rw [← ez6] at h7
    have h8 : ib z6 0 1699 := ib_w 0 1699 h7.1 rfl
    have Ez6 := lf_sub h7.2 (lf_rf x_qWaits) (lf_lc 1 (1 : Int) rfl)
    refine va_iald hx hb C0.2.2.2.2.2.1 hP 1 0 rfl rfl (ib_in 1700 h8 rfl) dX10_qIsOn_17 ?_
    refine lv_topi (fun z9 ez9 => ?_)
    have Ez9 := lf_ld ez9 (lf_ra g_qWait) Ez6
    refine lv_iload_n hx hb dX10_qIsOn_18 rfl (lv_at hl 1 rfl) ?_
    refine lv_icmp_ne (tgt := 26) hx hb dX10_qIsOn_19 rfl (fun c10 => ?_) (fun c10 => ?_)
    · replace hq := lf_neg hq (lf_ne Ez9 (lf_lc 3 (3 : Int) rfl) c10)
      refine lv_iconst (v := 0) hx hb dX10_qIsOn_26 rfl ?_
      subst hQ; exact k_iret hx hb hr hlk (k_nb 0 rfl) () hS ⟨ib_w 0 1 (ib_c 0 0 0 rfl) rfl, fun hq9 => absurd rfl hq9, ⟨fun q => absurd rfl q, fun _ => Or.inr (by rw [show (x_qWaits.toInt - 1).toNat = Int32.toNatClampNeg z6 from by show _ = (Int32.toInt z6).toNat; have := (h5).1; have := (h5).2; have := (h8).1; have := (h8).2; have := h7.2; have : (1 : Int32).toInt = 1 := rfl; omega, ← ez9]; exact c10)⟩, (hO.symm.trans (by try simp only [show (0 : Int32).toInt = (0 : Int) from rfl]; exact hq))⟩ hP hD (Nat.le_of_ble_eq_true rfl) (Nat.le_of_ble_eq_true rfl) dX10_qIsOn_27
    · replace hq := lf_pos hq (lf_eq Ez9 (lf_lc 3 (3 : Int) rfl) c10)
      have h11 := ib_eq (ib_any z9) (ib_c 3 3 3 rfl) c10
      have h12 : ib z9 3 3 := ib_w 3 3 h11.1 rfl
      refine lv_iconst (v := 1) hx hb dX10_qIsOn_22 rfl ?_
      refine lv_goto (tgt := 27) hx hb dX10_qIsOn_23 rfl ?_
      subst hQ; exact k_iret hx hb hr hlk (k_nb 1 rfl) () hS ⟨ib_w 0 1 (ib_c 1 1 1 rfl) rfl, fun _ => ib_w 1 1700 h5 rfl, ⟨fun _ => ⟨by have := (h5).1; have := (h5).2; have := (h8).1; have := (h8).2; have := h7.2; have : (1 : Int32).toInt = 1 := rfl; omega, by rw [show (x_qWaits.toInt - 1).toNat = Int32.toNatClampNeg z6 from by show _ = (Int32.toInt z6).toNat; have := (h5).1; have := (h5).2; have := (h8).1; have := (h8).2; have := h7.2; have : (1 : Int32).toInt = 1 := rfl; omega, ← ez9]; exact ib_one h12 rfl⟩, fun q => absurd q (by decide)⟩, (hO.symm.trans (by try simp only [show (1 : Int32).toInt = (1 : Int) from rfl]; exact hq))⟩ hP hD (Nat.le_of_ble_eq_true rfl) (Nat.le_of_ble_eq_true rfl) dX10_qIsOn_27
set_option maxHeartbeats 4000000 in
set_option maxRecDepth 100000 in
theorem s_X10_qIsOn_a0_4 (l : Launch) (dC : Nat → ClassId) (dI : Nat → Nat → Nat) (cy : Nat → ClassId) (sq : Nat → Nat) (a_this : Nat) (rm : Nat → Nat) (x_taped : Int32) (x_at : Int32) (x_end : Int32) (x_ended : Int32) (x_bad : Int32) (x_badPlace : Int32) (x_fault : Int32) (x_faultPlace : Int32) (x_namePlace : Int32) (x_awayTold : Int32) (x_away : Int32) (x_coded : Int32) (x_statements : Int32) (x_isCrossing : Int32) (x_textKind : Int32) (x_askSecond : Int32) (x_redMany : Int32) (x_isOpen : Int32) (x_lastGreen : Int32) (x_greenTo : Int32) (x_isCycleGreen : Int32) (x_stillGreen : Int32) (x_rowMany : Int32) (x_fitMany : Int32) (x_fitRules : Int32) (x_fitGreen : Int32) (x_undoable : Int32) (x_newest : Int32) (x_seeded : Int64) (x_qCoded : Int32) (x_qWaits : Int32) (x_qOpened : Int32) (x_qBase : Int32) (x_qPiled : Int32) (x_qAnswer : Int64) (x_qIsNew : Int32) (x_octets : Int32) (g_qWait : Nat → Int32) (hx_qWaits : ib x_qWaits 0 1700) : k_Met l yX10_qIsOn cX10_qIsOn 2 (some .boolean) { frames := 0, cells := 0, slots := 0, locals := 0 } dC dI cy sq [.ref a_this, .int 4] [(a_this, .inr (10, mfs rm x_taped x_at x_end x_ended x_bad x_badPlace x_fault x_faultPlace x_namePlace x_awayTold x_away x_coded x_statements x_isCrossing x_textKind x_askSecond x_redMany x_isOpen x_lastGreen x_greenTo x_isCycleGreen x_stillGreen x_rowMany x_fitMany x_fitRules x_fitGreen x_undoable x_newest x_seeded x_qCoded x_qWaits x_qOpened x_qBase x_qPiled x_qAnswer x_qIsNew x_octets)), (wi_rm112_0_1700_0 rm cy g_qWait)] (k_Qi dC dI (fun (r : Int32) (_ : Unit) => ib r 0 1 ∧ (¬ r = 0 → ib x_qWaits 1 1700) ∧ ((¬ r = 0 → 1 ≤ x_qWaits.toInt ∧ g_qWait (x_qWaits.toInt - 1).toNat = 4) ∧ (r = 0 → x_qWaits.toInt ≤ 0 ∨ ¬ g_qWait (x_qWaits.toInt - 1).toNat = 4)) ∧ (F_X10_qIsOn_a0_4 (Int32.toInt x_qWaits) (lf_A g_qWait) = ((Int32.toInt r)))) (fun _ : Unit => [(a_this, .inr (10, mfs rm x_taped x_at x_end x_ended x_bad x_badPlace x_fault x_faultPlace x_namePlace x_awayTold x_away x_coded x_statements x_isCrossing x_textKind x_askSecond x_redMany x_isOpen x_lastGreen x_greenTo x_isCycleGreen x_stillGreen x_rowMany x_fitMany x_fitRules x_fitGreen x_undoable x_newest x_seeded x_qCoded x_qWaits x_qOpened x_qBase x_qPiled x_qAnswer x_qIsNew x_octets)), (wi_rm112_0_1700_0 rm cy g_qWait)])) := by
  refine k_ofW2 (by decide +kernel) (Nat.le_of_ble_eq_true rfl) ?_
  intro p e s m below meth c A ls H locs args Q hQ C0 hZ hr hlk hin hP hD hA hS hl
  have C0 : k_cx p s m args c cX10_qIsOn 2 RX10 dC dI cy sq := C0
  have hx := C0.1
  have hb := C0.2.1
  have hl : lv_has ls 2 [(0, .ref a_this), (1, .int 4)] := hl
  obtain ⟨O, hO⟩ : ∃ o, o = F_X10_qIsOn_a0_4 (Int32.toInt x_qWaits) (lf_A g_qWait) := ⟨_, rfl⟩
  have hq := hO
  unfold F_X10_qIsOn_a0_4 at hq
  refine lv_aload_n hx hb dX10_qIsOn_0 rfl (lv_at hl 0 rfl) ?_
  refine k_get C0 fg_X10_372 hP 0 rfl rfl dX10_qIsOn_1 ?_
  refine lv_if_le (tgt := 26) hx hb dX10_qIsOn_4 rfl (fun c1 => ?_) (fun c1 => ?_)
  · replace hq := lf_pos hq (lf_le (lf_rf x_qWaits) (lf_lc 0 (0 : Int) rfl) c1)
    have h2 := ib_le hx_qWaits (ib_c 0 0 0 rfl) c1
    have h3 : ib x_qWaits 0 0 := ib_w 0 0 h2.1 rfl
    refine lv_iconst (v := 0) hx hb dX10_qIsOn_26 rfl ?_
    subst hQ; exact k_iret hx hb hr hlk (k_nb 0 rfl) () hS ⟨ib_w 0 1 (ib_c 0 0 0 rfl) rfl, fun hq9 => absurd rfl hq9, ⟨fun q => absurd rfl q, fun _ => Or.inl (by have := (h3).1; have := (h3).2; omega)⟩, (hO.symm.trans (by try simp only [show (0 : Int32).toInt = (0 : Int) from rfl]; exact hq))⟩ hP hD (Nat.le_of_ble_eq_true rfl) (Nat.le_of_ble_eq_true rfl) dX10_qIsOn_27
  · replace hq := lf_neg hq (lf_nle (lf_rf x_qWaits) (lf_lc 0 (0 : Int) rfl) c1)
    have h4 := ib_nle hx_qWaits (ib_c 0 0 0 rfl) c1
    have h5 : ib x_qWaits 1 1700 := ib_w 1 1700 h4.1 rfl
    refine lv_aload_n hx hb dX10_qIsOn_7 rfl (lv_at hl 0 rfl) ?_
    refine k_get C0 fg_X10_267 hP 0 rfl rfl dX10_qIsOn_8 ?_
    refine lv_aload_n hx hb dX10_qIsOn_11 rfl (lv_at hl 0 rfl) ?_
    refine k_get C0 fg_X10_372 hP 0 rfl rfl dX10_qIsOn_12 ?_
    refine lv_iconst (v := 1) hx hb dX10_qIsOn_15 rfl ?_
    refine lv_isub hx hb dX10_qIsOn_16 ?_
    refine lv_topi (fun z6 ez6 => ?_)
    have h7 := ib_sub h5 (ib_c 1 1 1 rfl) rfl
    rw [← ez6] at h7
    have h8 : ib z6 0 1699 := ib_w 0 1699 h7.1 rfl
    have Ez6 := lf_sub h7.2 (lf_rf x_qWaits) (lf_lc 1 (1 : Int) rfl)
    refine va_iald hx hb C0.2.2.2.2.2.1 hP 1 0 rfl rfl (ib_in 1700 h8 rfl) dX10_qIsOn_17 ?_
    refine lv_topi (fun z9 ez9 => ?_)
    have Ez9 := lf_ld ez9 (lf_ra g_qWait) Ez6
    refine lv_iload_n hx hb dX10_qIsOn_18 rfl (lv_at hl 1 rfl) ?_
    refine lv_icmp_ne (tgt := 26) hx hb dX10_qIsOn_19 rfl (fun c10 => ?_) (fun c10 => ?_)
    · replace hq := lf_neg hq (lf_ne Ez9 (lf_lc 4 (4 : Int) rfl) c10)
      refine lv_iconst (v := 0) hx hb dX10_qIsOn_26 rfl ?_
      subst hQ; exact k_iret hx hb hr hlk (k_nb 0 rfl) () hS ⟨ib_w 0 1 (ib_c 0 0 0 rfl) rfl, fun hq9 => absurd rfl hq9, ⟨fun q => absurd rfl q, fun _ => Or.inr (by rw [show (x_qWaits.toInt - 1).toNat = Int32.toNatClampNeg z6 from by show _ = (Int32.toInt z6).toNat; have := (h5).1; have := (h5).2; have := (h8).1; have := (h8).2; have := h7.2; have : (1 : Int32).toInt = 1 := rfl; omega, ← ez9]; exact c10)⟩, (hO.symm.trans (by try simp only [show (0 : Int32).toInt = (0 : Int) from rfl]; exact hq))⟩ hP hD (Nat.le_of_ble_eq_true rfl) (Nat.le_of_ble_eq_true rfl) dX10_qIsOn_27
    · replace hq := lf_pos hq (lf_eq Ez9 (lf_lc 4 (4 : Int) rfl) c10)
      have h11 := ib_eq (ib_any z9) (ib_c 4 4 4 rfl) c10
      have h12 : ib z9 4 4 := ib_w 4 4 h11.1 rfl
      refine lv_iconst (v := 1) hx hb dX10_qIsOn_22 rfl ?_
      refine lv_goto (tgt := 27) hx hb dX10_qIsOn_23 rfl ?_
      subst hQ; exact k_iret hx hb hr hlk (k_nb 1 rfl) () hS ⟨ib_w 0 1 (ib_c 1 1 1 rfl) rfl, fun _ => ib_w 1 1700 h5 rfl, ⟨fun _ => ⟨by have := (h5).1; have := (h5).2; have := (h8).1; have := (h8).2; have := h7.2; have : (1 : Int32).toInt = 1 := rfl; omega, by rw [show (x_qWaits.toInt - 1).toNat = Int32.toNatClampNeg z6 from by show _ = (Int32.toInt z6).toNat; have := (h5).1; have := (h5).2; have := (h8).1; have := (h8).2; have := h7.2; have : (1 : Int32).toInt = 1 := rfl; omega, ← ez9]; exact ib_one h12 rfl⟩, fun q => absurd q (by decide)⟩, (hO.symm.trans (by try simp only [show (1 : Int32).toInt = (1 : Int) from rfl]; exact hq))⟩ hP hD (Nat.le_of_ble_eq_true rfl) (Nat.le_of_ble_eq_true rfl) dX10_qIsOn_27
set_option maxHeartbeats 4000000 in
set_option maxRecDepth 100000 in
theorem s_X10_qIsOn_a0_1 (l : Launch) (dC : Nat → ClassId) (dI : Nat → Nat → Nat) (cy : Nat → ClassId) (sq : Nat → Nat) (a_this : Nat) (rm : Nat → Nat) (x_taped : Int32) (x_at : Int32) (x_end : Int32) (x_ended : Int32) (x_bad : Int32) (x_badPlace : Int32) (x_fault : Int32) (x_faultPlace : Int32) (x_namePlace : Int32) (x_awayTold : Int32) (x_away : Int32) (x_coded : Int32) (x_statements : Int32) (x_isCrossing : Int32) (x_textKind : Int32) (x_askSecond : Int32) (x_redMany : Int32) (x_isOpen : Int32) (x_lastGreen : Int32) (x_greenTo : Int32) (x_isCycleGreen : Int32) (x_stillGreen : Int32) (x_rowMany : Int32) (x_fitMany : Int32) (x_fitRules : Int32) (x_fitGreen : Int32) (x_undoable : Int32) (x_newest : Int32) (x_seeded : Int64) (x_qCoded : Int32) (x_qWaits : Int32) (x_qOpened : Int32) (x_qBase : Int32) (x_qPiled : Int32) (x_qAnswer : Int64) (x_qIsNew : Int32) (x_octets : Int32) (g_qWait : Nat → Int32) (hx_qWaits : ib x_qWaits 0 1700) : k_Met l yX10_qIsOn cX10_qIsOn 2 (some .boolean) { frames := 0, cells := 0, slots := 0, locals := 0 } dC dI cy sq [.ref a_this, .int 1] [(a_this, .inr (10, mfs rm x_taped x_at x_end x_ended x_bad x_badPlace x_fault x_faultPlace x_namePlace x_awayTold x_away x_coded x_statements x_isCrossing x_textKind x_askSecond x_redMany x_isOpen x_lastGreen x_greenTo x_isCycleGreen x_stillGreen x_rowMany x_fitMany x_fitRules x_fitGreen x_undoable x_newest x_seeded x_qCoded x_qWaits x_qOpened x_qBase x_qPiled x_qAnswer x_qIsNew x_octets)), (wi_rm112_0_1700_0 rm cy g_qWait)] (k_Qi dC dI (fun (r : Int32) (_ : Unit) => ib r 0 1 ∧ (¬ r = 0 → ib x_qWaits 1 1700) ∧ ((¬ r = 0 → 1 ≤ x_qWaits.toInt ∧ g_qWait (x_qWaits.toInt - 1).toNat = 1) ∧ (r = 0 → x_qWaits.toInt ≤ 0 ∨ ¬ g_qWait (x_qWaits.toInt - 1).toNat = 1)) ∧ (F_X10_qIsOn_a0_1 (Int32.toInt x_qWaits) (lf_A g_qWait) = ((Int32.toInt r)))) (fun _ : Unit => [(a_this, .inr (10, mfs rm x_taped x_at x_end x_ended x_bad x_badPlace x_fault x_faultPlace x_namePlace x_awayTold x_away x_coded x_statements x_isCrossing x_textKind x_askSecond x_redMany x_isOpen x_lastGreen x_greenTo x_isCycleGreen x_stillGreen x_rowMany x_fitMany x_fitRules x_fitGreen x_undoable x_newest x_seeded x_qCoded x_qWaits x_qOpened x_qBase x_qPiled x_qAnswer x_qIsNew x_octets)), (wi_rm112_0_1700_0 rm cy g_qWait)])) := by
  refine k_ofW2 (by decide +kernel) (Nat.le_of_ble_eq_true rfl) ?_
  intro p e s m below meth c A ls H locs args Q hQ C0 hZ hr hlk hin hP hD hA hS hl
  have C0 : k_cx p s m args c cX10_qIsOn 2 RX10 dC dI cy sq := C0
  have hx := C0.1
  have hb := C0.2.1
  have hl : lv_has ls 2 [(0, .ref a_this), (1, .int 1)] := hl
  obtain ⟨O, hO⟩ : ∃ o, o = F_X10_qIsOn_a0_1 (Int32.toInt x_qWaits) (lf_A g_qWait) := ⟨_, rfl⟩
  have hq := hO
  unfold F_X10_qIsOn_a0_1 at hq
  refine lv_aload_n hx hb dX10_qIsOn_0 rfl (lv_at hl 0 rfl) ?_
  refine k_get C0 fg_X10_372 hP 0 rfl rfl dX10_qIsOn_1 ?_
  refine lv_if_le (tgt := 26) hx hb dX10_qIsOn_4 rfl (fun c1 => ?_) (fun c1 => ?_)
  · replace hq := lf_pos hq (lf_le (lf_rf x_qWaits) (lf_lc 0 (0 : Int) rfl) c1)
    have h2 := ib_le hx_qWaits (ib_c 0 0 0 rfl) c1
    have h3 : ib x_qWaits 0 0 := ib_w 0 0 h2.1 rfl
    refine lv_iconst (v := 0) hx hb dX10_qIsOn_26 rfl ?_
    subst hQ; exact k_iret hx hb hr hlk (k_nb 0 rfl) () hS ⟨ib_w 0 1 (ib_c 0 0 0 rfl) rfl, fun hq9 => absurd rfl hq9, ⟨fun q => absurd rfl q, fun _ => Or.inl (by have := (h3).1; have := (h3).2; omega)⟩, (hO.symm.trans (by try simp only [show (0 : Int32).toInt = (0 : Int) from rfl]; exact hq))⟩ hP hD (Nat.le_of_ble_eq_true rfl) (Nat.le_of_ble_eq_true rfl) dX10_qIsOn_27
  · replace hq := lf_neg hq (lf_nle (lf_rf x_qWaits) (lf_lc 0 (0 : Int) rfl) c1)
    have h4 := ib_nle hx_qWaits (ib_c 0 0 0 rfl) c1
    have h5 : ib x_qWaits 1 1700 := ib_w 1 1700 h4.1 rfl
    refine lv_aload_n hx hb dX10_qIsOn_7 rfl (lv_at hl 0 rfl) ?_
    refine k_get C0 fg_X10_267 hP 0 rfl rfl dX10_qIsOn_8 ?_
    refine lv_aload_n hx hb dX10_qIsOn_11 rfl (lv_at hl 0 rfl) ?_
    refine k_get C0 fg_X10_372 hP 0 rfl rfl dX10_qIsOn_12 ?_
    refine lv_iconst (v := 1) hx hb dX10_qIsOn_15 rfl ?_
    refine lv_isub hx hb dX10_qIsOn_16 ?_
    refine lv_topi (fun z6 ez6 => ?_)
    have h7 := ib_sub h5 (ib_c 1 1 1 rfl) rfl
    rw [← ez6] at h7
    have h8 : ib z6 0 1699 := ib_w 0 1699 h7.1 rfl
    have Ez6 := lf_sub h7.2 (lf_rf x_qWaits) (lf_lc 1 (1 : Int) rfl)
    refine va_iald hx hb C0.2.2.2.2.2.1 hP 1 0 rfl rfl (ib_in 1700 h8 rfl) dX10_qIsOn_17 ?_
    refine lv_topi (fun z9 ez9 => ?_)
    have Ez9 := lf_ld ez9 (lf_ra g_qWait) Ez6
    refine lv_iload_n hx hb dX10_qIsOn_18 rfl (lv_at hl 1 rfl) ?_
    refine lv_icmp_ne (tgt := 26) hx hb dX10_qIsOn_19 rfl (fun c10 => ?_) (fun c10 => ?_)
    · replace hq := lf_neg hq (lf_ne Ez9 (lf_lc 1 (1 : Int) rfl) c10)
      refine lv_iconst (v := 0) hx hb dX10_qIsOn_26 rfl ?_
      subst hQ; exact k_iret hx hb hr hlk (k_nb 0 rfl) () hS ⟨ib_w 0 1 (ib_c 0 0 0 rfl) rfl, fun hq9 => absurd rfl hq9, ⟨fun q => absurd rfl q, fun _ => Or.inr (by rw [show (x_qWaits.toInt - 1).toNat = Int32.toNatClampNeg z6 from by show _ = (Int32.toInt z6).toNat; have := (h5).1; have := (h5).2; have := (h8).1; have := (h8).2; have := h7.2; have : (1 : Int32).toInt = 1 := rfl; omega, ← ez9]; exact c10)⟩, (hO.symm.trans (by try simp only [show (0 : Int32).toInt = (0 : Int) from rfl]; exact hq))⟩ hP hD (Nat.le_of_ble_eq_true rfl) (Nat.le_of_ble_eq_true rfl) dX10_qIsOn_27
    · replace hq := lf_pos hq (lf_eq Ez9 (lf_lc 1 (1 : Int) rfl) c10)
      have h11 := ib_eq (ib_any z9) (ib_c 1 1 1 rfl) c10
      have h12 : ib z9 1 1 := ib_w 1 1 h11.1 rfl
      refine lv_iconst (v := 1) hx hb dX10_qIsOn_22 rfl ?_
      refine lv_goto (tgt := 27) hx hb dX10_qIsOn_23 rfl ?_
      subst hQ; exact k_iret hx hb hr hlk (k_nb 1 rfl) () hS ⟨ib_w 0 1 (ib_c 1 1 1 rfl) rfl, fun _ => ib_w 1 1700 h5 rfl, ⟨fun _ => ⟨by have := (h5).1; have := (h5).2; have := (h8).1; have := (h8).2; have := h7.2; have : (1 : Int32).toInt = 1 := rfl; omega, by rw [show (x_qWaits.toInt - 1).toNat = Int32.toNatClampNeg z6 from by show _ = (Int32.toInt z6).toNat; have := (h5).1; have := (h5).2; have := (h8).1; have := (h8).2; have := h7.2; have : (1 : Int32).toInt = 1 := rfl; omega, ← ez9]; exact ib_one h12 rfl⟩, fun q => absurd q (by decide)⟩, (hO.symm.trans (by try simp only [show (1 : Int32).toInt = (1 : Int) from rfl]; exact hq))⟩ hP hD (Nat.le_of_ble_eq_true rfl) (Nat.le_of_ble_eq_true rfl) dX10_qIsOn_27
set_option maxHeartbeats 4000000 in
set_option maxRecDepth 100000 in
theorem s_X10_qIsOn_a0_2 (l : Launch) (dC : Nat → ClassId) (dI : Nat → Nat → Nat) (cy : Nat → ClassId) (sq : Nat → Nat) (a_this : Nat) (rm : Nat → Nat) (x_taped : Int32) (x_at : Int32) (x_end : Int32) (x_ended : Int32) (x_bad : Int32) (x_badPlace : Int32) (x_fault : Int32) (x_faultPlace : Int32) (x_namePlace : Int32) (x_awayTold : Int32) (x_away : Int32) (x_coded : Int32) (x_statements : Int32) (x_isCrossing : Int32) (x_textKind : Int32) (x_askSecond : Int32) (x_redMany : Int32) (x_isOpen : Int32) (x_lastGreen : Int32) (x_greenTo : Int32) (x_isCycleGreen : Int32) (x_stillGreen : Int32) (x_rowMany : Int32) (x_fitMany : Int32) (x_fitRules : Int32) (x_fitGreen : Int32) (x_undoable : Int32) (x_newest : Int32) (x_seeded : Int64) (x_qCoded : Int32) (x_qWaits : Int32) (x_qOpened : Int32) (x_qBase : Int32) (x_qPiled : Int32) (x_qAnswer : Int64) (x_qIsNew : Int32) (x_octets : Int32) (g_qWait : Nat → Int32) (hx_qWaits : ib x_qWaits 0 1700) : k_Met l yX10_qIsOn cX10_qIsOn 2 (some .boolean) { frames := 0, cells := 0, slots := 0, locals := 0 } dC dI cy sq [.ref a_this, .int 2] [(a_this, .inr (10, mfs rm x_taped x_at x_end x_ended x_bad x_badPlace x_fault x_faultPlace x_namePlace x_awayTold x_away x_coded x_statements x_isCrossing x_textKind x_askSecond x_redMany x_isOpen x_lastGreen x_greenTo x_isCycleGreen x_stillGreen x_rowMany x_fitMany x_fitRules x_fitGreen x_undoable x_newest x_seeded x_qCoded x_qWaits x_qOpened x_qBase x_qPiled x_qAnswer x_qIsNew x_octets)), (wi_rm112_0_1700_0 rm cy g_qWait)] (k_Qi dC dI (fun (r : Int32) (_ : Unit) => ib r 0 1 ∧ (¬ r = 0 → ib x_qWaits 1 1700) ∧ ((¬ r = 0 → 1 ≤ x_qWaits.toInt ∧ g_qWait (x_qWaits.toInt - 1).toNat = 2) ∧ (r = 0 → x_qWaits.toInt ≤ 0 ∨ ¬ g_qWait (x_qWaits.toInt - 1).toNat = 2)) ∧ (F_X10_qIsOn_a0_2 (Int32.toInt x_qWaits) (lf_A g_qWait) = ((Int32.toInt r)))) (fun _ : Unit => [(a_this, .inr (10, mfs rm x_taped x_at x_end x_ended x_bad x_badPlace x_fault x_faultPlace x_namePlace x_awayTold x_away x_coded x_statements x_isCrossing x_textKind x_askSecond x_redMany x_isOpen x_lastGreen x_greenTo x_isCycleGreen x_stillGreen x_rowMany x_fitMany x_fitRules x_fitGreen x_undoable x_newest x_seeded x_qCoded x_qWaits x_qOpened x_qBase x_qPiled x_qAnswer x_qIsNew x_octets)), (wi_rm112_0_1700_0 rm cy g_qWait)])) := by
  refine k_ofW2 (by decide +kernel) (Nat.le_of_ble_eq_true rfl) ?_
  intro p e s m below meth c A ls H locs args Q hQ C0 hZ hr hlk hin hP hD hA hS hl
  have C0 : k_cx p s m args c cX10_qIsOn 2 RX10 dC dI cy sq := C0
  have hx := C0.1
  have hb := C0.2.1
  have hl : lv_has ls 2 [(0, .ref a_this), (1, .int 2)] := hl
  obtain ⟨O, hO⟩ : ∃ o, o = F_X10_qIsOn_a0_2 (Int32.toInt x_qWaits) (lf_A g_qWait) := ⟨_, rfl⟩
  have hq := hO
  unfold F_X10_qIsOn_a0_2 at hq
  refine lv_aload_n hx hb dX10_qIsOn_0 rfl (lv_at hl 0 rfl) ?_
  refine k_get C0 fg_X10_372 hP 0 rfl rfl dX10_qIsOn_1 ?_
  refine lv_if_le (tgt := 26) hx hb dX10_qIsOn_4 rfl (fun c1 => ?_) (fun c1 => ?_)
  · replace hq := lf_pos hq (lf_le (lf_rf x_qWaits) (lf_lc 0 (0 : Int) rfl) c1)
    have h2 := ib_le hx_qWaits (ib_c 0 0 0 rfl) c1
    have h3 : ib x_qWaits 0 0 := ib_w 0 0 h2.1 rfl
    refine lv_iconst (v := 0) hx hb dX10_qIsOn_26 rfl ?_
    subst hQ; exact k_iret hx hb hr hlk (k_nb 0 rfl) () hS ⟨ib_w 0 1 (ib_c 0 0 0 rfl) rfl, fun hq9 => absurd rfl hq9, ⟨fun q => absurd rfl q, fun _ => Or.inl (by have := (h3).1; have := (h3).2; omega)⟩, (hO.symm.trans (by try simp only [show (0 : Int32).toInt = (0 : Int) from rfl]; exact hq))⟩ hP hD (Nat.le_of_ble_eq_true rfl) (Nat.le_of_ble_eq_true rfl) dX10_qIsOn_27
  · replace hq := lf_neg hq (lf_nle (lf_rf x_qWaits) (lf_lc 0 (0 : Int) rfl) c1)
    have h4 := ib_nle hx_qWaits (ib_c 0 0 0 rfl) c1
    have h5 : ib x_qWaits 1 1700 := ib_w 1 1700 h4.1 rfl
    refine lv_aload_n hx hb dX10_qIsOn_7 rfl (lv_at hl 0 rfl) ?_
    refine k_get C0 fg_X10_267 hP 0 rfl rfl dX10_qIsOn_8 ?_
    refine lv_aload_n hx hb dX10_qIsOn_11 rfl (lv_at hl 0 rfl) ?_
    refine k_get C0 fg_X10_372 hP 0 rfl rfl dX10_qIsOn_12 ?_
    refine lv_iconst (v := 1) hx hb dX10_qIsOn_15 rfl ?_
    refine lv_isub hx hb dX10_qIsOn_16 ?_
    refine lv_topi (fun z6 ez6 => ?_)
    have h7 := ib_sub h5 (ib_c 1 1 1 rfl) rfl
    rw [← ez6] at h7
    have h8 : ib z6 0 1699 := ib_w 0 1699 h7.1 rfl
    have Ez6 := lf_sub h7.2 (lf_rf x_qWaits) (lf_lc 1 (1 : Int) rfl)
    refine va_iald hx hb C0.2.2.2.2.2.1 hP 1 0 rfl rfl (ib_in 1700 h8 rfl) dX10_qIsOn_17 ?_
    refine lv_topi (fun z9 ez9 => ?_)
    have Ez9 := lf_ld ez9 (lf_ra g_qWait) Ez6
    refine lv_iload_n hx hb dX10_qIsOn_18 rfl (lv_at hl 1 rfl) ?_
    refine lv_icmp_ne (tgt := 26) hx hb dX10_qIsOn_19 rfl (fun c10 => ?_) (fun c10 => ?_)
    · replace hq := lf_neg hq (lf_ne Ez9 (lf_lc 2 (2 : Int) rfl) c10)
      refine lv_iconst (v := 0) hx hb dX10_qIsOn_26 rfl ?_
      subst hQ; exact k_iret hx hb hr hlk (k_nb 0 rfl) () hS ⟨ib_w 0 1 (ib_c 0 0 0 rfl) rfl, fun hq9 => absurd rfl hq9, ⟨fun q => absurd rfl q, fun _ => Or.inr (by rw [show (x_qWaits.toInt - 1).toNat = Int32.toNatClampNeg z6 from by show _ = (Int32.toInt z6).toNat; have := (h5).1; have := (h5).2; have := (h8).1; have := (h8).2; have := h7.2; have : (1 : Int32).toInt = 1 := rfl; omega, ← ez9]; exact c10)⟩, (hO.symm.trans (by try simp only [show (0 : Int32).toInt = (0 : Int) from rfl]; exact hq))⟩ hP hD (Nat.le_of_ble_eq_true rfl) (Nat.le_of_ble_eq_true rfl) dX10_qIsOn_27
    · replace hq := lf_pos hq (lf_eq Ez9 (lf_lc 2 (2 : Int) rfl) c10)
      have h11 := ib_eq (ib_any z9) (ib_c 2 2 2 rfl) c10
      have h12 : ib z9 2 2 := ib_w 2 2 h11.1 rfl
      refine lv_iconst (v := 1) hx hb dX10_qIsOn_22 rfl ?_
      refine lv_goto (tgt := 27) hx hb dX10_qIsOn_23 rfl ?_
      subst hQ; exact k_iret hx hb hr hlk (k_nb 1 rfl) () hS ⟨ib_w 0 1 (ib_c 1 1 1 rfl) rfl, fun _ => ib_w 1 1700 h5 rfl, ⟨fun _ => ⟨by have := (h5).1; have := (h5).2; have := (h8).1; have := (h8).2; have := h7.2; have : (1 : Int32).toInt = 1 := rfl; omega, by rw [show (x_qWaits.toInt - 1).toNat = Int32.toNatClampNeg z6 from by show _ = (Int32.toInt z6).toNat; have := (h5).1; have := (h5).2; have := (h8).1; have := (h8).2; have := h7.2; have : (1 : Int32).toInt = 1 := rfl; omega, ← ez9]; exact ib_one h12 rfl⟩, fun q => absurd q (by decide)⟩, (hO.symm.trans (by try simp only [show (1 : Int32).toInt = (1 : Int) from rfl]; exact hq))⟩ hP hD (Nat.le_of_ble_eq_true rfl) (Nat.le_of_ble_eq_true rfl) dX10_qIsOn_27
set_option maxHeartbeats 4000000 in
set_option maxRecDepth 100000 in
theorem s_X10_qGoesOn (l : Launch) (dC : Nat → ClassId) (dI : Nat → Nat → Nat) (cy : Nat → ClassId) (sq : Nat → Nat) (a_this : Nat) (rm : Nat → Nat) (x_taped : Int32) (x_at : Int32) (x_end : Int32) (x_ended : Int32) (x_bad : Int32) (x_badPlace : Int32) (x_fault : Int32) (x_faultPlace : Int32) (x_namePlace : Int32) (x_awayTold : Int32) (x_away : Int32) (x_coded : Int32) (x_statements : Int32) (x_isCrossing : Int32) (x_textKind : Int32) (x_askSecond : Int32) (x_redMany : Int32) (x_isOpen : Int32) (x_lastGreen : Int32) (x_greenTo : Int32) (x_isCycleGreen : Int32) (x_stillGreen : Int32) (x_rowMany : Int32) (x_fitMany : Int32) (x_fitRules : Int32) (x_fitGreen : Int32) (x_undoable : Int32) (x_newest : Int32) (x_seeded : Int64) (x_qCoded : Int32) (x_qWaits : Int32) (x_qOpened : Int32) (x_qBase : Int32) (x_qPiled : Int32) (x_qAnswer : Int64) (x_qIsNew : Int32) (x_octets : Int32) (g_tape : Nat → Int32) (g_qCodes : Nat → Int32) (g_qWait : Nat → Int32) (cc : Nat) (hx_at : ib x_at 0 1600) (hx_end : ib x_end 0 1600) (hx_bad : ib x_bad 0 0) (hx_qCoded : ib x_qCoded 0 1700) (hx_qWaits : ib x_qWaits 0 1700) (hx_qBase : ib x_qBase 0 1700) (hg_tape : ia g_tape 1600 0 255) (hL0 : 1 * x_qCoded.toInt + 1 * x_qWaits.toInt + (-1) * x_at.toInt ≤ 20) (hL1 : 1 * x_qBase.toInt + (-1) * x_qWaits.toInt ≤ 0) (hGS : x_bad = 0 → GS g_qCodes x_qCoded g_qWait x_qWaits x_qBase x_textKind (cc + 1)) : k_Met l yX10_qGoesOn cX10_qGoesOn 2 (some .boolean) { frames := 3, cells := 0, slots := 0, locals := 62 } dC dI cy sq [.ref a_this] [(a_this, .inr (10, mfs rm x_taped x_at x_end x_ended x_bad x_badPlace x_fault x_faultPlace x_namePlace x_awayTold x_away x_coded x_statements x_isCrossing x_textKind x_askSecond x_redMany x_isOpen x_lastGreen x_greenTo x_isCycleGreen x_stillGreen x_rowMany x_fitMany x_fitRules x_fitGreen x_undoable x_newest x_seeded x_qCoded x_qWaits x_qOpened x_qBase x_qPiled x_qAnswer x_qIsNew x_octets)), (wi_rm0_0_1600_0 rm cy g_tape), (wi_rm112_0_1700_0 rm cy g_qWait), (wi_rm110_0_1700_0 rm cy g_qCodes)] (k_Qi dC dI (fun (r : Int32) (u : Int32 × Int32 × Int32 × Int32 × Int32 × Int32 × (Nat → Int32) × (Nat → Int32)) => match u with | (n0, n1, n2, n3, n4, n5, n6, n7) => ib n0 0 1600 ∧ ib n3 0 1700 ∧ ib n4 0 1622 ∧ ib r 0 1 ∧ (¬ r = 0 → ib n0 1 1600) ∧ (¬ r = 0 → ib n1 0 0) ∧ (¬ r = 0 → ib n4 1 1622) ∧ (¬ r = 0 → ib x_qCoded 0 1620) ∧ (¬ r = 0 → ib x_qWaits 0 1620) ∧ (¬ r = 0 → ib x_qBase 0 1620) ∧ (n1 = 0 → x_bad = 0) ∧ (1 * n3.toInt + 1 * n4.toInt + (-1) * n0.toInt + (-1) * x_qCoded.toInt + (-1) * x_qWaits.toInt + 1 * x_at.toInt ≤ 3) ∧ (n1 = 0 → 1 * n3.toInt + 1 * n4.toInt + (-1) * n0.toInt + (-1) * x_qCoded.toInt + (-1) * x_qWaits.toInt + 1 * x_at.toInt ≤ 0) ∧ (1 * x_at.toInt + (-1) * n0.toInt ≤ 0) ∧ (1 * x_qBase.toInt + (-1) * n4.toInt ≤ 0) ∧ (¬ r = 0 → n1 = 0 → GS n7 n3 n6 n4 x_qBase x_textKind cc) ∧ (r = 0 → n1 = 0 → GS n7 n3 n6 n4 x_qBase x_textKind (cc + 1) ∧ (∀ i : Nat, x_qBase.toInt.toNat ≤ i → i < n4.toInt.toNat → ¬ brk (n6 i))) ∧ (F_X10_qGoesOn (Int32.toInt x_at) (Int32.toInt x_end) (Int32.toInt x_bad) (Int32.toInt x_badPlace) (Int32.toInt x_qCoded) (Int32.toInt x_qWaits) (Int32.toInt x_qOpened) (Int32.toInt x_qBase) (lf_A g_tape) (lf_A g_qCodes) (lf_A g_qWait) = ((Int32.toInt r), (Int32.toInt n0), (Int32.toInt n1), (Int32.toInt n2), (Int32.toInt n3), (Int32.toInt n4), (Int32.toInt n5), (lf_A n6), (lf_A n7)))) (fun u : Int32 × Int32 × Int32 × Int32 × Int32 × Int32 × (Nat → Int32) × (Nat → Int32) => match u with | (n0, n1, n2, n3, n4, n5, n6, n7) => [(a_this, .inr (10, mfs rm x_taped n0 x_end x_ended n1 n2 x_fault x_faultPlace x_namePlace x_awayTold x_away x_coded x_statements x_isCrossing x_textKind x_askSecond x_redMany x_isOpen x_lastGreen x_greenTo x_isCycleGreen x_stillGreen x_rowMany x_fitMany x_fitRules x_fitGreen x_undoable x_newest x_seeded n3 n4 n5 x_qBase x_qPiled x_qAnswer x_qIsNew x_octets)), (wi_rm0_0_1600_0 rm cy g_tape), (wi_rm112_0_1700_0 rm cy n6), (wi_rm110_0_1700_0 rm cy n7)])) := by
  refine k_ofW2 (by decide +kernel) (Nat.le_of_ble_eq_true rfl) ?_
  intro p e s m below meth c A ls H locs args Q hQ C0 hZ hr hlk hin hP hD hA hS hl
  have C0 : k_cx p s m args c cX10_qGoesOn 2 RX10 dC dI cy sq := C0
  have hx := C0.1
  have hb := C0.2.1
  have hl : lv_has ls 2 [(0, .ref a_this)] := hl
  obtain ⟨O, hO⟩ : ∃ o, o = F_X10_qGoesOn (Int32.toInt x_at) (Int32.toInt x_end) (Int32.toInt x_bad) (Int32.toInt x_badPlace) (Int32.toInt x_qCoded) (Int32.toInt x_qWaits) (Int32.toInt x_qOpened) (Int32.toInt x_qBase) (lf_A g_tape) (lf_A g_qCodes) (lf_A g_qWait) := ⟨_, rfl⟩
  have hq := hO
  unfold F_X10_qGoesOn at hq
  have jn247 : ∀ (n : Nat) (J247_c0_2 : Int32) (J247_l1 : Int32) (J247_c0_111 : Int32) (J247_c0_113 : Int32) (J247_c0_114 : Int32) (J247_a3 : Nat → Int32) (H : Heap) (locs : List Loc) (ls : Array Slot), ib J247_c0_2 1 1600 → ib x_end 1 1600 → ib x_qBase 0 1620 → ib J247_l1 1 2 → ib J247_c0_111 0 1621 → ib J247_c0_113 0 1621 → (1 * J247_c0_111.toInt + 1 * J247_c0_113.toInt + (-1) * J247_c0_2.toInt + (-1) * x_qCoded.toInt + (-1) * x_qWaits.toInt + 1 * x_at.toInt ≤ 1) → (1 * x_qBase.toInt + (-1) * J247_c0_113.toInt ≤ 0) → (1 * J247_c0_111.toInt + 1 * J247_c0_113.toInt + (-1) * J247_c0_2.toInt ≤ 21) → (1 * x_at.toInt + (-1) * J247_c0_2.toInt ≤ 0) → ((x_bad = 0 → GS J247_a3 J247_c0_111 g_qWait J247_c0_113 x_qBase x_textKind (cc + 1)) ∧ (x_bad = 0 → 1 * J247_c0_111.toInt + 1 * J247_c0_113.toInt + (-1) * J247_c0_2.toInt + (-1) * x_qCoded.toInt + (-1) * x_qWaits.toInt + 1 * x_at.toInt ≤ (-1))) → (O = F_X10_qGoesOn_247 (Int32.toInt x_bad) (Int32.toInt x_badPlace) (lf_A g_qWait) n (Int32.toInt J247_c0_2) (Int32.toInt J247_l1) (Int32.toInt J247_c0_111) (Int32.toInt J247_c0_113) (Int32.toInt J247_c0_114) (lf_A J247_a3)) → 1622 ≤ J247_c0_111.toInt + (n : Int) → va_P (dC, dI) vwCl [(a_this, .inr (10, mfs rm x_taped J247_c0_2 x_end x_ended x_bad x_badPlace x_fault x_faultPlace x_namePlace x_awayTold x_away x_coded x_statements x_isCrossing x_textKind x_askSecond x_redMany x_isOpen x_lastGreen x_greenTo x_isCycleGreen x_stillGreen x_rowMany x_fitMany x_fitRules x_fitGreen x_undoable x_newest x_seeded J247_c0_111 J247_c0_113 J247_c0_114 x_qBase x_qPiled x_qAnswer x_qIsNew x_octets)), (wi_rm0_0_1600_0 rm cy g_tape), (wi_rm112_0_1700_0 rm cy g_qWait), (wi_rm110_0_1700_0 rm cy J247_a3)] H → va_D A [(a_this, .inr (10, mfs rm x_taped J247_c0_2 x_end x_ended x_bad x_badPlace x_fault x_faultPlace x_namePlace x_awayTold x_away x_coded x_statements x_isCrossing x_textKind x_askSecond x_redMany x_isOpen x_lastGreen x_greenTo x_isCycleGreen x_stillGreen x_rowMany x_fitMany x_fitRules x_fitGreen x_undoable x_newest x_seeded J247_c0_111 J247_c0_113 J247_c0_114 x_qBase x_qPiled x_qAnswer x_qIsNew x_octets)), (wi_rm0_0_1600_0 rm cy g_tape), (wi_rm112_0_1700_0 rm cy g_qWait), (wi_rm110_0_1700_0 rm cy J247_a3)] → va_S A s.heap H locs → lv_has ls 2 [(0, .ref a_this), (1, .int J247_l1)] → W p l e { frames := 3, cells := 0, slots := 0, locals := 62 } s m args below meth c H locs 0 0 Q (F0 m 247 ls []) := by
    as_aux_lemma =>
      intro n
      induction n with
      | zero =>
        intro J247_c0_2 J247_l1 J247_c0_111 J247_c0_113 J247_c0_114 J247_a3 H locs ls hJ247_c0_2 hK247_x_end hK247_x_qBase hJ247_l1 hJ247_c0_111 hJ247_c0_113 hJ247_lin0 hJ247_lin1 hJ247_lin2 hJ247_lin3 hJ247_go hq hm
        exact absurd hm (by have := hJ247_c0_111; unfold ib at this; omega)
      | succ n ih =>
        intro J247_c0_2 J247_l1 J247_c0_111 J247_c0_113 J247_c0_114 J247_a3 H locs ls hJ247_c0_2 hK247_x_end hK247_x_qBase hJ247_l1 hJ247_c0_111 hJ247_c0_113 hJ247_lin0 hJ247_lin1 hJ247_lin2 hJ247_lin3 hJ247_go hq hm247 hP hD hS hl
        have ih247 := ih
        obtain ⟨K247, hK247⟩ : ∃ K, K = F_X10_qGoesOn_247 (Int32.toInt x_bad) (Int32.toInt x_badPlace) (lf_A g_qWait) n := ⟨_, rfl⟩
        have hq : O = F_X10_qGoesOn_247b (Int32.toInt x_bad) (Int32.toInt x_badPlace) (lf_A g_qWait) K247 (Int32.toInt J247_c0_2) (Int32.toInt J247_l1) (Int32.toInt J247_c0_111) (Int32.toInt J247_c0_113) (Int32.toInt J247_c0_114) (lf_A J247_a3) := by rw [hK247]; exact hq
        unfold F_X10_qGoesOn_247b at hq
        refine lv_aload_n hx hb dX10_qGoesOn_247 rfl (lv_at hl 0 rfl) ?_
        refine lv_iconst (v := 3) hx hb dX10_qGoesOn_248 rfl ?_
        refine k_jim hP hD hS hA [0, 2] [false, true, false, true] rfl rfl rfl 0 0 (Nat.le_of_ble_eq_true rfl) (Nat.le_of_ble_eq_true rfl) (fun hPc hDc => k_runV (As := [.int 3]) (rest := []) C0 hZ hS hA (s_X10_qIsOn_a0_3 l dC dI cy sq a_this rm x_taped J247_c0_2 x_end x_ended x_bad x_badPlace x_fault x_faultPlace x_namePlace x_awayTold x_away x_coded x_statements x_isCrossing x_textKind x_askSecond x_redMany x_isOpen x_lastGreen x_greenTo x_isCycleGreen x_stillGreen x_rowMany x_fitMany x_fitRules x_fitGreen x_undoable x_newest x_seeded J247_c0_111 J247_c0_113 J247_c0_114 x_qBase x_qPiled x_qAnswer x_qIsNew x_octets g_qWait (ib_w 0 1700 hJ247_c0_113 rfl)) mV_X10_641 hPc hDc rfl rfl rfl hl rfl rfl (Nat.le_of_ble_eq_true rfl) ⟨(Nat.le_of_ble_eq_true rfl), (Nat.le_of_ble_eq_true rfl)⟩ ⟨(Nat.le_of_ble_eq_true rfl), (Nat.le_of_ble_eq_true rfl)⟩ dX10_qGoesOn_249) (fun r1 u2 H locs hw hP hD hS => ?_)
        try dsimp only at hP hD hw
        replace hP : va_P (dC, dI) vwCl [(wi_rm0_0_1600_0 rm cy g_tape), (wi_rm110_0_1700_0 rm cy J247_a3), (a_this, .inr (10, mfs rm x_taped J247_c0_2 x_end x_ended x_bad x_badPlace x_fault x_faultPlace x_namePlace x_awayTold x_away x_coded x_statements x_isCrossing x_textKind x_askSecond x_redMany x_isOpen x_lastGreen x_greenTo x_isCycleGreen x_stillGreen x_rowMany x_fitMany x_fitRules x_fitGreen x_undoable x_newest x_seeded J247_c0_111 J247_c0_113 J247_c0_114 x_qBase x_qPiled x_qAnswer x_qIsNew x_octets)), (wi_rm112_0_1700_0 rm cy g_qWait)] H := hP
        replace hD := k_D hP hD
        obtain ⟨h3, h4, h5, h6⟩ := hw
        replace hq := lf_b1 hq h6
        refine lv_if_ne (tgt := 279) hx hb dX10_qGoesOn_252 rfl (fun c7 => ?_) (fun c7 => ?_)
        · as_aux_lemma =>
            replace hq := lf_neg hq (lf_ne (lf_rf r1) (lf_lc 0 (0 : Int) rfl) c7)
            have h8 : ib r1 1 1 := ib_w 1 1 (ib_ne_lo 0 h3 rfl c7) rfl
            have h9 : ib J247_c0_113 1 1621 := ib_w 1 1621 (ib_two hJ247_c0_113 (h4 (ib_nz h8 rfl))) rfl
            have h10 : ib x_qCoded 0 1620 := ⟨(hx_qCoded).1, by have := (hx_qCoded).2; have := hL0; have := (hx_at).2; have := (hx_qWaits).1; omega⟩
            have h11 : ib x_qWaits 0 1620 := ⟨(hx_qWaits).1, by have := (hx_qWaits).2; have := hL0; have := (hx_at).2; have := (h10).1; omega⟩
            have h12 : ib J247_c0_111 0 1620 := ⟨(hJ247_c0_111).1, by have := (hJ247_c0_111).2; have := hJ247_lin2; have := (hJ247_c0_2).2; have := (h9).1; omega⟩
            have h13 : 1 * x_qBase.toInt + (-1) * J247_c0_113.toInt ≤ (-1) := by have q1 := GS_base (hJ247_go.1 (ib_one hx_bad rfl)) (h5.1 c7).1 (by rw [(h5.1 c7).2]; unfold inT; decide); omega
            refine lv_aload_n hx hb dX10_qGoesOn_279 rfl (lv_at hl 0 rfl) ?_
            refine k_jvm hP hD hS hA [2, 3, 1] [true] rfl rfl rfl 0 0 (Nat.le_of_ble_eq_true rfl) (Nat.le_of_ble_eq_true rfl) (fun hPc hDc => k_runV (As := []) (rest := []) C0 hZ hS hA (s_X10_qDrops l dC dI cy sq a_this rm x_taped J247_c0_2 x_end x_ended x_bad x_badPlace x_fault x_faultPlace x_namePlace x_awayTold x_away x_coded x_statements x_isCrossing x_textKind x_askSecond x_redMany x_isOpen x_lastGreen x_greenTo x_isCycleGreen x_stillGreen x_rowMany x_fitMany x_fitRules x_fitGreen x_undoable x_newest x_seeded J247_c0_111 J247_c0_113 J247_c0_114 x_qBase x_qPiled x_qAnswer x_qIsNew x_octets J247_a3 g_qWait (ib_w 0 1699 h12 rfl) (ib_w 1 1700 h9 rfl)) mV_X10_614 hPc hDc rfl rfl rfl hl rfl rfl (Nat.le_of_ble_eq_true rfl) ⟨(Nat.le_of_ble_eq_true rfl), (Nat.le_of_ble_eq_true rfl)⟩ ⟨(Nat.le_of_ble_eq_true rfl), (Nat.le_of_ble_eq_true rfl)⟩ dX10_qGoesOn_280) (fun u15 H locs hw hP hD hS => ?_)
            obtain ⟨v16, v17, f18⟩ := u15
            try dsimp only at hP hD hw
            replace hP : va_P (dC, dI) vwCl [(wi_rm0_0_1600_0 rm cy g_tape), (a_this, .inr (10, mfs rm x_taped J247_c0_2 x_end x_ended x_bad x_badPlace x_fault x_faultPlace x_namePlace x_awayTold x_away x_coded x_statements x_isCrossing x_textKind x_askSecond x_redMany x_isOpen x_lastGreen x_greenTo x_isCycleGreen x_stillGreen x_rowMany x_fitMany x_fitRules x_fitGreen x_undoable x_newest x_seeded v16 v17 J247_c0_114 x_qBase x_qPiled x_qAnswer x_qIsNew x_octets)), (wi_rm112_0_1700_0 rm cy g_qWait), (wi_rm110_0_1700_0 rm cy f18)] H := hP
            replace hD := k_D hP hD
            obtain ⟨h19, h20, h21, h22, h23, h24⟩ := hw
            have h25 : v16.toInt = (J247_c0_111 : Int32).toInt + (1 : Int32).toInt := by have q1 := h20; have q2 : (1 : Int32).toInt = 1 := rfl; omega
            have h26 : ib v16 1 1621 := ⟨by have q1 := h20; have := (h12).1; have := (h19).1; omega, by have q1 := h20; have := (h12).2; have := (h19).2; omega⟩
            have h27 : v17.toInt = (J247_c0_113 : Int32).toInt + ((-1) : Int32).toInt := by have q1 := h22; have q2 : ((-1) : Int32).toInt = (-1) := rfl; omega
            have h28 : ib v17 0 1620 := ⟨by have q1 := h22; have := (h9).1; have := (h21).1; omega, by have q1 := h22; have := (h9).2; have := (h21).2; omega⟩
            replace hq := lf_p1 hq h24
            replace hq := lf_p1 hq rfl
            have h29 : x_bad = 0 → GS f18 v16 g_qWait v17 x_qBase x_textKind (cc + 1) := fun _ => (by rw [h23]; exact GS_dropS (hJ247_go.1 (ib_one hx_bad rfl)) (by have := h25; have : (1 : Int32).toInt = 1 := rfl; omega) (by have := h27; have : ((-1) : Int32).toInt = (-1) := rfl; omega) (by have := h13; have := h27; have : ((-1) : Int32).toInt = (-1) := rfl; omega) rfl (by have q1 := (h5.1 c7).2; rw [show (J247_c0_113.toInt - 1).toNat = Int32.toNatClampNeg v17 from by show _ = (Int32.toInt v17).toNat; have := h27; have : ((-1) : Int32).toInt = (-1) := rfl; omega] at q1; rw [q1]; unfold brk; decide))
            refine lv_goto (tgt := 247) hx hb dX10_qGoesOn_283 rfl ?_
            exact ih247 J247_c0_2 J247_l1 v16 v17 J247_c0_114 f18 H locs ls (ib_w 1 1600 hJ247_c0_2 rfl) (ib_w 1 1600 hK247_x_end rfl) (ib_w 0 1620 hK247_x_qBase rfl) (ib_w 1 2 hJ247_l1 rfl) (ib_w 0 1621 h26 rfl) (ib_w 0 1621 h28 rfl) (by have := hJ247_lin0; have := h27; have : ((-1) : Int32).toInt = (-1) := rfl; have := h25; have : (1 : Int32).toInt = 1 := rfl; omega) (by have := h27; have : ((-1) : Int32).toInt = (-1) := rfl; have := h13; omega) (by have := hJ247_lin2; have := h27; have : ((-1) : Int32).toInt = (-1) := rfl; have := h25; have : (1 : Int32).toInt = 1 := rfl; omega) (by have := hJ247_lin3; omega) (⟨fun q => (h29 q), fun q9 => (by have := (hJ247_go.2 q9); have := h27; have : ((-1) : Int32).toInt = (-1) := rfl; have := h25; have : (1 : Int32).toInt = 1 := rfl; omega)⟩) (by rw [← hK247]; exact hq) (by have := h25; have : (1 : Int32).toInt = 1 := rfl; omega) (hP.sub [1, 0, 2, 3] rfl) (hD.sub [1, 0, 2, 3] rfl rfl) hS (lv_sub hl [0, 1] rfl)
        · as_aux_lemma =>
            replace hq := lf_pos hq (lf_eq (lf_rf r1) (lf_lc 0 (0 : Int) rfl) c7)
            have h30 := ib_eq h3 (ib_c 0 0 0 rfl) c7
            have h31 : ib r1 0 0 := ib_w 0 0 h30.1 rfl
            have h32 : ib x_qCoded 0 1620 := ⟨(hx_qCoded).1, by have := (hx_qCoded).2; have := hL0; have := (hx_at).2; have := (hx_qWaits).1; omega⟩
            have h33 : ib x_qWaits 0 1620 := ⟨(hx_qWaits).1, by have := (hx_qWaits).2; have := hL0; have := (hx_at).2; have := (h32).1; omega⟩
            refine lv_aload_n hx hb dX10_qGoesOn_255 rfl (lv_at hl 0 rfl) ?_
            refine lv_iconst (v := 4) hx hb dX10_qGoesOn_256 rfl ?_
            refine k_jim hP hD hS hA [2, 3] [true, true] rfl rfl rfl 0 0 (Nat.le_of_ble_eq_true rfl) (Nat.le_of_ble_eq_true rfl) (fun hPc hDc => k_runV (As := [.int 4]) (rest := []) C0 hZ hS hA (s_X10_qIsOn_a0_4 l dC dI cy sq a_this rm x_taped J247_c0_2 x_end x_ended x_bad x_badPlace x_fault x_faultPlace x_namePlace x_awayTold x_away x_coded x_statements x_isCrossing x_textKind x_askSecond x_redMany x_isOpen x_lastGreen x_greenTo x_isCycleGreen x_stillGreen x_rowMany x_fitMany x_fitRules x_fitGreen x_undoable x_newest x_seeded J247_c0_111 J247_c0_113 J247_c0_114 x_qBase x_qPiled x_qAnswer x_qIsNew x_octets g_qWait (ib_w 0 1700 hJ247_c0_113 rfl)) mV_X10_641 hPc hDc rfl rfl rfl hl rfl rfl (Nat.le_of_ble_eq_true rfl) ⟨(Nat.le_of_ble_eq_true rfl), (Nat.le_of_ble_eq_true rfl)⟩ ⟨(Nat.le_of_ble_eq_true rfl), (Nat.le_of_ble_eq_true rfl)⟩ dX10_qGoesOn_257) (fun r34 u35 H locs hw hP hD hS => ?_)
            try dsimp only at hP hD hw
            replace hP : va_P (dC, dI) vwCl [(wi_rm0_0_1600_0 rm cy g_tape), (wi_rm110_0_1700_0 rm cy J247_a3), (a_this, .inr (10, mfs rm x_taped J247_c0_2 x_end x_ended x_bad x_badPlace x_fault x_faultPlace x_namePlace x_awayTold x_away x_coded x_statements x_isCrossing x_textKind x_askSecond x_redMany x_isOpen x_lastGreen x_greenTo x_isCycleGreen x_stillGreen x_rowMany x_fitMany x_fitRules x_fitGreen x_undoable x_newest x_seeded J247_c0_111 J247_c0_113 J247_c0_114 x_qBase x_qPiled x_qAnswer x_qIsNew x_octets)), (wi_rm112_0_1700_0 rm cy g_qWait)] H := hP
            replace hD := k_D hP hD
            obtain ⟨h36, h37, h38, h39⟩ := hw
            replace hq := lf_b1 hq h39
            refine lv_if_ne (tgt := 279) hx hb dX10_qGoesOn_260 rfl (fun c40 => ?_) (fun c40 => ?_)
            · as_aux_lemma =>
                replace hq := lf_neg hq (lf_ne (lf_rf r34) (lf_lc 0 (0 : Int) rfl) c40)
                have h41 : ib r34 1 1 := ib_w 1 1 (ib_ne_lo 0 h36 rfl c40) rfl
                have h42 : ib J247_c0_113 1 1621 := ib_w 1 1621 (ib_two hJ247_c0_113 (h37 (ib_nz h41 rfl))) rfl
                have h43 : ib J247_c0_111 0 1620 := ⟨(hJ247_c0_111).1, by have := (hJ247_c0_111).2; have := hJ247_lin2; have := (hJ247_c0_2).2; have := (h42).1; omega⟩
                have h44 : 1 * x_qBase.toInt + (-1) * J247_c0_113.toInt ≤ (-1) := by have q1 := GS_base (hJ247_go.1 (ib_one hx_bad rfl)) (h38.1 c40).1 (by rw [(h38.1 c40).2]; unfold inT; decide); omega
                refine lv_aload_n hx hb dX10_qGoesOn_279 rfl (lv_at hl 0 rfl) ?_
                refine k_jvm hP hD hS hA [2, 3, 1] [true] rfl rfl rfl 0 0 (Nat.le_of_ble_eq_true rfl) (Nat.le_of_ble_eq_true rfl) (fun hPc hDc => k_runV (As := []) (rest := []) C0 hZ hS hA (s_X10_qDrops l dC dI cy sq a_this rm x_taped J247_c0_2 x_end x_ended x_bad x_badPlace x_fault x_faultPlace x_namePlace x_awayTold x_away x_coded x_statements x_isCrossing x_textKind x_askSecond x_redMany x_isOpen x_lastGreen x_greenTo x_isCycleGreen x_stillGreen x_rowMany x_fitMany x_fitRules x_fitGreen x_undoable x_newest x_seeded J247_c0_111 J247_c0_113 J247_c0_114 x_qBase x_qPiled x_qAnswer x_qIsNew x_octets J247_a3 g_qWait (ib_w 0 1699 h43 rfl) (ib_w 1 1700 h42 rfl)) mV_X10_614 hPc hDc rfl rfl rfl hl rfl rfl (Nat.le_of_ble_eq_true rfl) ⟨(Nat.le_of_ble_eq_true rfl), (Nat.le_of_ble_eq_true rfl)⟩ ⟨(Nat.le_of_ble_eq_true rfl), (Nat.le_of_ble_eq_true rfl)⟩ dX10_qGoesOn_280) (fun u46 H locs hw hP hD hS => ?_)
                obtain ⟨v47, v48, f49⟩ := u46
                try dsimp only at hP hD hw
                replace hP : va_P (dC, dI) vwCl [(wi_rm0_0_1600_0 rm cy g_tape), (a_this, .inr (10, mfs rm x_taped J247_c0_2 x_end x_ended x_bad x_badPlace x_fault x_faultPlace x_namePlace x_awayTold x_away x_coded x_statements x_isCrossing x_textKind x_askSecond x_redMany x_isOpen x_lastGreen x_greenTo x_isCycleGreen x_stillGreen x_rowMany x_fitMany x_fitRules x_fitGreen x_undoable x_newest x_seeded v47 v48 J247_c0_114 x_qBase x_qPiled x_qAnswer x_qIsNew x_octets)), (wi_rm112_0_1700_0 rm cy g_qWait), (wi_rm110_0_1700_0 rm cy f49)] H := hP
                replace hD := k_D hP hD
                obtain ⟨h50, h51, h52, h53, h54, h55⟩ := hw
                have h56 : v47.toInt = (J247_c0_111 : Int32).toInt + (1 : Int32).toInt := by have q1 := h51; have q2 : (1 : Int32).toInt = 1 := rfl; omega
                have h57 : ib v47 1 1621 := ⟨by have q1 := h51; have := (h43).1; have := (h50).1; omega, by have q1 := h51; have := (h43).2; have := (h50).2; omega⟩
                have h58 : v48.toInt = (J247_c0_113 : Int32).toInt + ((-1) : Int32).toInt := by have q1 := h53; have q2 : ((-1) : Int32).toInt = (-1) := rfl; omega
                have h59 : ib v48 0 1620 := ⟨by have q1 := h53; have := (h42).1; have := (h52).1; omega, by have q1 := h53; have := (h42).2; have := (h52).2; omega⟩
                replace hq := lf_p1 hq h55
                replace hq := lf_p1 hq rfl
                have h60 : x_bad = 0 → GS f49 v47 g_qWait v48 x_qBase x_textKind (cc + 1) := fun _ => (by rw [h54]; exact GS_dropS (hJ247_go.1 (ib_one hx_bad rfl)) (by have := h56; have : (1 : Int32).toInt = 1 := rfl; omega) (by have := h58; have : ((-1) : Int32).toInt = (-1) := rfl; omega) (by have := h44; have := h58; have : ((-1) : Int32).toInt = (-1) := rfl; omega) rfl (by have q1 := (h38.1 c40).2; rw [show (J247_c0_113.toInt - 1).toNat = Int32.toNatClampNeg v48 from by show _ = (Int32.toInt v48).toNat; have := h58; have : ((-1) : Int32).toInt = (-1) := rfl; omega] at q1; rw [q1]; unfold brk; decide))
                refine lv_goto (tgt := 247) hx hb dX10_qGoesOn_283 rfl ?_
                exact ih247 J247_c0_2 J247_l1 v47 v48 J247_c0_114 f49 H locs ls (ib_w 1 1600 hJ247_c0_2 rfl) (ib_w 1 1600 hK247_x_end rfl) (ib_w 0 1620 hK247_x_qBase rfl) (ib_w 1 2 hJ247_l1 rfl) (ib_w 0 1621 h57 rfl) (ib_w 0 1621 h59 rfl) (by have := hJ247_lin0; have := h58; have : ((-1) : Int32).toInt = (-1) := rfl; have := h56; have : (1 : Int32).toInt = 1 := rfl; omega) (by have := h58; have : ((-1) : Int32).toInt = (-1) := rfl; have := h44; omega) (by have := hJ247_lin2; have := h58; have : ((-1) : Int32).toInt = (-1) := rfl; have := h56; have : (1 : Int32).toInt = 1 := rfl; omega) (by have := hJ247_lin3; omega) (⟨fun q => (h60 q), fun q9 => (by have := (hJ247_go.2 q9); have := h58; have : ((-1) : Int32).toInt = (-1) := rfl; have := h56; have : (1 : Int32).toInt = 1 := rfl; omega)⟩) (by rw [← hK247]; exact hq) (by have := h56; have : (1 : Int32).toInt = 1 := rfl; omega) (hP.sub [1, 0, 2, 3] rfl) (hD.sub [1, 0, 2, 3] rfl rfl) hS (lv_sub hl [0, 1] rfl)
            · as_aux_lemma =>
                replace hq := lf_pos hq (lf_eq (lf_rf r34) (lf_lc 0 (0 : Int) rfl) c40)
                have h61 := ib_eq h36 (ib_c 0 0 0 rfl) c40
                have h62 : ib r34 0 0 := ib_w 0 0 h61.1 rfl
                refine lv_aload_n hx hb dX10_qGoesOn_263 rfl (lv_at hl 0 rfl) ?_
                refine lv_iconst (v := 1) hx hb dX10_qGoesOn_264 rfl ?_
                refine k_jim hP hD hS hA [2, 3] [true, true] rfl rfl rfl 0 0 (Nat.le_of_ble_eq_true rfl) (Nat.le_of_ble_eq_true rfl) (fun hPc hDc => k_runV (As := [.int 1]) (rest := []) C0 hZ hS hA (s_X10_qIsOn_a0_1 l dC dI cy sq a_this rm x_taped J247_c0_2 x_end x_ended x_bad x_badPlace x_fault x_faultPlace x_namePlace x_awayTold x_away x_coded x_statements x_isCrossing x_textKind x_askSecond x_redMany x_isOpen x_lastGreen x_greenTo x_isCycleGreen x_stillGreen x_rowMany x_fitMany x_fitRules x_fitGreen x_undoable x_newest x_seeded J247_c0_111 J247_c0_113 J247_c0_114 x_qBase x_qPiled x_qAnswer x_qIsNew x_octets g_qWait (ib_w 0 1700 hJ247_c0_113 rfl)) mV_X10_641 hPc hDc rfl rfl rfl hl rfl rfl (Nat.le_of_ble_eq_true rfl) ⟨(Nat.le_of_ble_eq_true rfl), (Nat.le_of_ble_eq_true rfl)⟩ ⟨(Nat.le_of_ble_eq_true rfl), (Nat.le_of_ble_eq_true rfl)⟩ dX10_qGoesOn_265) (fun r63 u64 H locs hw hP hD hS => ?_)
                try dsimp only at hP hD hw
                replace hP : va_P (dC, dI) vwCl [(wi_rm0_0_1600_0 rm cy g_tape), (wi_rm110_0_1700_0 rm cy J247_a3), (a_this, .inr (10, mfs rm x_taped J247_c0_2 x_end x_ended x_bad x_badPlace x_fault x_faultPlace x_namePlace x_awayTold x_away x_coded x_statements x_isCrossing x_textKind x_askSecond x_redMany x_isOpen x_lastGreen x_greenTo x_isCycleGreen x_stillGreen x_rowMany x_fitMany x_fitRules x_fitGreen x_undoable x_newest x_seeded J247_c0_111 J247_c0_113 J247_c0_114 x_qBase x_qPiled x_qAnswer x_qIsNew x_octets)), (wi_rm112_0_1700_0 rm cy g_qWait)] H := hP
                replace hD := k_D hP hD
                obtain ⟨h65, h66, h67, h68⟩ := hw
                replace hq := lf_b1 hq h68
                refine lv_if_ne (tgt := 279) hx hb dX10_qGoesOn_268 rfl (fun c69 => ?_) (fun c69 => ?_)
                · as_aux_lemma =>
                    replace hq := lf_neg hq (lf_ne (lf_rf r63) (lf_lc 0 (0 : Int) rfl) c69)
                    have h70 : ib r63 1 1 := ib_w 1 1 (ib_ne_lo 0 h65 rfl c69) rfl
                    have h71 : ib J247_c0_113 1 1621 := ib_w 1 1621 (ib_two hJ247_c0_113 (h66 (ib_nz h70 rfl))) rfl
                    have h72 : ib J247_c0_111 0 1620 := ⟨(hJ247_c0_111).1, by have := (hJ247_c0_111).2; have := hJ247_lin2; have := (hJ247_c0_2).2; have := (h71).1; omega⟩
                    have h73 : 1 * x_qBase.toInt + (-1) * J247_c0_113.toInt ≤ (-1) := by have q1 := GS_base (hJ247_go.1 (ib_one hx_bad rfl)) (h67.1 c69).1 (by rw [(h67.1 c69).2]; unfold inT; decide); omega
                    refine lv_aload_n hx hb dX10_qGoesOn_279 rfl (lv_at hl 0 rfl) ?_
                    refine k_jvm hP hD hS hA [2, 3, 1] [true] rfl rfl rfl 0 0 (Nat.le_of_ble_eq_true rfl) (Nat.le_of_ble_eq_true rfl) (fun hPc hDc => k_runV (As := []) (rest := []) C0 hZ hS hA (s_X10_qDrops l dC dI cy sq a_this rm x_taped J247_c0_2 x_end x_ended x_bad x_badPlace x_fault x_faultPlace x_namePlace x_awayTold x_away x_coded x_statements x_isCrossing x_textKind x_askSecond x_redMany x_isOpen x_lastGreen x_greenTo x_isCycleGreen x_stillGreen x_rowMany x_fitMany x_fitRules x_fitGreen x_undoable x_newest x_seeded J247_c0_111 J247_c0_113 J247_c0_114 x_qBase x_qPiled x_qAnswer x_qIsNew x_octets J247_a3 g_qWait (ib_w 0 1699 h72 rfl) (ib_w 1 1700 h71 rfl)) mV_X10_614 hPc hDc rfl rfl rfl hl rfl rfl (Nat.le_of_ble_eq_true rfl) ⟨(Nat.le_of_ble_eq_true rfl), (Nat.le_of_ble_eq_true rfl)⟩ ⟨(Nat.le_of_ble_eq_true rfl), (Nat.le_of_ble_eq_true rfl)⟩ dX10_qGoesOn_280) (fun u75 H locs hw hP hD hS => ?_)
                    obtain ⟨v76, v77, f78⟩ := u75
                    try dsimp only at hP hD hw
                    replace hP : va_P (dC, dI) vwCl [(wi_rm0_0_1600_0 rm cy g_tape), (a_this, .inr (10, mfs rm x_taped J247_c0_2 x_end x_ended x_bad x_badPlace x_fault x_faultPlace x_namePlace x_awayTold x_away x_coded x_statements x_isCrossing x_textKind x_askSecond x_redMany x_isOpen x_lastGreen x_greenTo x_isCycleGreen x_stillGreen x_rowMany x_fitMany x_fitRules x_fitGreen x_undoable x_newest x_seeded v76 v77 J247_c0_114 x_qBase x_qPiled x_qAnswer x_qIsNew x_octets)), (wi_rm112_0_1700_0 rm cy g_qWait), (wi_rm110_0_1700_0 rm cy f78)] H := hP
                    replace hD := k_D hP hD
                    obtain ⟨h79, h80, h81, h82, h83, h84⟩ := hw
                    have h85 : v76.toInt = (J247_c0_111 : Int32).toInt + (1 : Int32).toInt := by have q1 := h80; have q2 : (1 : Int32).toInt = 1 := rfl; omega
                    have h86 : ib v76 1 1621 := ⟨by have q1 := h80; have := (h72).1; have := (h79).1; omega, by have q1 := h80; have := (h72).2; have := (h79).2; omega⟩
                    have h87 : v77.toInt = (J247_c0_113 : Int32).toInt + ((-1) : Int32).toInt := by have q1 := h82; have q2 : ((-1) : Int32).toInt = (-1) := rfl; omega
                    have h88 : ib v77 0 1620 := ⟨by have q1 := h82; have := (h71).1; have := (h81).1; omega, by have q1 := h82; have := (h71).2; have := (h81).2; omega⟩
                    replace hq := lf_p1 hq h84
                    replace hq := lf_p1 hq rfl
                    have h89 : x_bad = 0 → GS f78 v76 g_qWait v77 x_qBase x_textKind (cc + 1) := fun _ => (by rw [h83]; exact GS_dropS (hJ247_go.1 (ib_one hx_bad rfl)) (by have := h85; have : (1 : Int32).toInt = 1 := rfl; omega) (by have := h87; have : ((-1) : Int32).toInt = (-1) := rfl; omega) (by have := h73; have := h87; have : ((-1) : Int32).toInt = (-1) := rfl; omega) rfl (by have q1 := (h67.1 c69).2; rw [show (J247_c0_113.toInt - 1).toNat = Int32.toNatClampNeg v77 from by show _ = (Int32.toInt v77).toNat; have := h87; have : ((-1) : Int32).toInt = (-1) := rfl; omega] at q1; rw [q1]; unfold brk; decide))
                    refine lv_goto (tgt := 247) hx hb dX10_qGoesOn_283 rfl ?_
                    exact ih247 J247_c0_2 J247_l1 v76 v77 J247_c0_114 f78 H locs ls (ib_w 1 1600 hJ247_c0_2 rfl) (ib_w 1 1600 hK247_x_end rfl) (ib_w 0 1620 hK247_x_qBase rfl) (ib_w 1 2 hJ247_l1 rfl) (ib_w 0 1621 h86 rfl) (ib_w 0 1621 h88 rfl) (by have := hJ247_lin0; have := h87; have : ((-1) : Int32).toInt = (-1) := rfl; have := h85; have : (1 : Int32).toInt = 1 := rfl; omega) (by have := h87; have : ((-1) : Int32).toInt = (-1) := rfl; have := h73; omega) (by have := hJ247_lin2; have := h87; have : ((-1) : Int32).toInt = (-1) := rfl; have := h85; have : (1 : Int32).toInt = 1 := rfl; omega) (by have := hJ247_lin3; omega) (⟨fun q => (h89 q), fun q9 => (by have := (hJ247_go.2 q9); have := h87; have : ((-1) : Int32).toInt = (-1) := rfl; have := h85; have : (1 : Int32).toInt = 1 := rfl; omega)⟩) (by rw [← hK247]; exact hq) (by have := h85; have : (1 : Int32).toInt = 1 := rfl; omega) (hP.sub [1, 0, 2, 3] rfl) (hD.sub [1, 0, 2, 3] rfl rfl) hS (lv_sub hl [0, 1] rfl)
                · as_aux_lemma =>
                    replace hq := lf_pos hq (lf_eq (lf_rf r63) (lf_lc 0 (0 : Int) rfl) c69)
                    have h90 := ib_eq h65 (ib_c 0 0 0 rfl) c69
                    have h91 : ib r63 0 0 := ib_w 0 0 h90.1 rfl
                    refine lv_aload_n hx hb dX10_qGoesOn_271 rfl (lv_at hl 0 rfl) ?_
                    refine lv_iconst (v := 2) hx hb dX10_qGoesOn_272 rfl ?_
                    refine k_jim hP hD hS hA [2, 3] [true, true] rfl rfl rfl 0 0 (Nat.le_of_ble_eq_true rfl) (Nat.le_of_ble_eq_true rfl) (fun hPc hDc => k_runV (As := [.int 2]) (rest := []) C0 hZ hS hA (s_X10_qIsOn_a0_2 l dC dI cy sq a_this rm x_taped J247_c0_2 x_end x_ended x_bad x_badPlace x_fault x_faultPlace x_namePlace x_awayTold x_away x_coded x_statements x_isCrossing x_textKind x_askSecond x_redMany x_isOpen x_lastGreen x_greenTo x_isCycleGreen x_stillGreen x_rowMany x_fitMany x_fitRules x_fitGreen x_undoable x_newest x_seeded J247_c0_111 J247_c0_113 J247_c0_114 x_qBase x_qPiled x_qAnswer x_qIsNew x_octets g_qWait (ib_w 0 1700 hJ247_c0_113 rfl)) mV_X10_641 hPc hDc rfl rfl rfl hl rfl rfl (Nat.le_of_ble_eq_true rfl) ⟨(Nat.le_of_ble_eq_true rfl), (Nat.le_of_ble_eq_true rfl)⟩ ⟨(Nat.le_of_ble_eq_true rfl), (Nat.le_of_ble_eq_true rfl)⟩ dX10_qGoesOn_273) (fun r92 u93 H locs hw hP hD hS => ?_)
                    try dsimp only at hP hD hw
                    replace hP : va_P (dC, dI) vwCl [(wi_rm0_0_1600_0 rm cy g_tape), (wi_rm110_0_1700_0 rm cy J247_a3), (a_this, .inr (10, mfs rm x_taped J247_c0_2 x_end x_ended x_bad x_badPlace x_fault x_faultPlace x_namePlace x_awayTold x_away x_coded x_statements x_isCrossing x_textKind x_askSecond x_redMany x_isOpen x_lastGreen x_greenTo x_isCycleGreen x_stillGreen x_rowMany x_fitMany x_fitRules x_fitGreen x_undoable x_newest x_seeded J247_c0_111 J247_c0_113 J247_c0_114 x_qBase x_qPiled x_qAnswer x_qIsNew x_octets)), (wi_rm112_0_1700_0 rm cy g_qWait)] H := hP
                    replace hD := k_D hP hD
                    obtain ⟨h94, h95, h96, h97⟩ := hw
                    replace hq := lf_b1 hq h97
                    refine lv_if_eq (tgt := 286) hx hb dX10_qGoesOn_276 rfl (fun c98 => ?_) (fun c98 => ?_)
                    · as_aux_lemma =>
                        replace hq := lf_pos hq (lf_eq (lf_rf r92) (lf_lc 0 (0 : Int) rfl) c98)
                        have h99 := ib_eq h94 (ib_c 0 0 0 rfl) c98
                        have h100 : ib r92 0 0 := ib_w 0 0 h99.1 rfl
                        refine lv_aload_n hx hb dX10_qGoesOn_286 rfl (lv_at hl 0 rfl) ?_
                        refine k_get C0 fg_X10_267 hP 2 rfl rfl dX10_qGoesOn_287 ?_
                        refine lv_aload_n hx hb dX10_qGoesOn_290 rfl (lv_at hl 0 rfl) ?_
                        refine k_get C0 fg_X10_372 hP 2 rfl rfl dX10_qGoesOn_291 ?_
                        refine lv_iload_n hx hb dX10_qGoesOn_294 rfl (lv_at hl 1 rfl) ?_
                        refine va_iast hx hb C0.2.2.2.2.2.1 hP hD hS 3 0 rfl rfl (ib_in 1700 hJ247_c0_113 rfl) dX10_qGoesOn_295 (fun H locs hP hD hS => ?_)
                        have h102 : (upd g_qWait (Int32.toNatClampNeg J247_c0_113) J247_l1) (Int32.toNatClampNeg J247_c0_113) = J247_l1 := pk_us
                        replace hP : va_P (dC, dI) vwCl [(wi_rm0_0_1600_0 rm cy g_tape), (wi_rm110_0_1700_0 rm cy J247_a3), (a_this, .inr (10, mfs rm x_taped J247_c0_2 x_end x_ended x_bad x_badPlace x_fault x_faultPlace x_namePlace x_awayTold x_away x_coded x_statements x_isCrossing x_textKind x_askSecond x_redMany x_isOpen x_lastGreen x_greenTo x_isCycleGreen x_stillGreen x_rowMany x_fitMany x_fitRules x_fitGreen x_undoable x_newest x_seeded J247_c0_111 J247_c0_113 J247_c0_114 x_qBase x_qPiled x_qAnswer x_qIsNew x_octets)), (wi_rm112_0_1700_0 rm cy (upd g_qWait (Int32.toNatClampNeg J247_c0_113) J247_l1))] H := hP
                        replace hD := k_D hP hD
                        generalize h103E : upd g_qWait (Int32.toNatClampNeg J247_c0_113) J247_l1 = f101 at hP hD h102
                        have ef101 := h103E
                        have Ef101 := lf_st ef101 (lf_ra g_qWait) (lf_rf J247_c0_113) (lf_rf J247_l1)
                        refine lv_aload_n hx hb dX10_qGoesOn_296 rfl (lv_at hl 0 rfl) ?_
                        refine lv_dup hx hb dX10_qGoesOn_297 rfl ?_
                        refine k_get C0 fg_X10_372 hP 2 rfl rfl dX10_qGoesOn_298 ?_
                        refine lv_iconst (v := 1) hx hb dX10_qGoesOn_301 rfl ?_
                        refine lv_iadd hx hb dX10_qGoesOn_302 ?_
                        refine lv_topi (fun z104 ez104 => ?_)
                        have h105 := ib_add hJ247_c0_113 (ib_c 1 1 1 rfl) rfl
                        rw [← ez104] at h105
                        have h106 : ib z104 1 1622 := ib_w 1 1622 h105.1 rfl
                        have Ez104 := lf_add h105.2 (lf_rf J247_c0_113) (lf_lc 1 (1 : Int) rfl)
                        refine k_put C0 fp_X10_372 hP hD hS 2 rfl rfl rfl (Nat.le_of_ble_eq_true rfl) dX10_qGoesOn_303 (fun H locs hP hD hS => ?_)
                        replace hP : va_P (dC, dI) vwCl [(wi_rm0_0_1600_0 rm cy g_tape), (wi_rm110_0_1700_0 rm cy J247_a3), (a_this, .inr (10, mfs rm x_taped J247_c0_2 x_end x_ended x_bad x_badPlace x_fault x_faultPlace x_namePlace x_awayTold x_away x_coded x_statements x_isCrossing x_textKind x_askSecond x_redMany x_isOpen x_lastGreen x_greenTo x_isCycleGreen x_stillGreen x_rowMany x_fitMany x_fitRules x_fitGreen x_undoable x_newest x_seeded J247_c0_111 z104 J247_c0_114 x_qBase x_qPiled x_qAnswer x_qIsNew x_octets)), (wi_rm112_0_1700_0 rm cy f101)] H := hP
                        replace hD := k_D hP hD
                        have h107 : x_bad = 0 → GS J247_a3 J247_c0_111 f101 z104 x_qBase x_textKind cc := fun q => (by rw [h103E.symm]; exact GS_op (hJ247_go.1 q) (by have := (hJ247_c0_113).1; have := (hJ247_c0_113).2; have := hJ247_lin0; have := hJ247_lin1; have := hJ247_lin2; have := (hJ247_c0_2).1; have := (hJ247_c0_2).2; have := hJ247_lin3; have := (hx_at).1; have := (hx_at).2; have := hL0; have := (h33).1; have := (h33).2; have := hL1; have := (h32).1; have := (h32).2; have := (hJ247_c0_111).1; have := (hJ247_c0_111).2; have := (hK247_x_qBase).1; have := (hK247_x_qBase).2; have := (h106).1; have := (h106).2; have := h105.2; have : (1 : Int32).toInt = 1 := rfl; omega) ⟨by have := (hJ247_l1).1; omega, by have := (hJ247_l1).2; omega⟩)
                        refine lv_iconst (v := 1) hx hb dX10_qGoesOn_306 rfl ?_
                        subst hQ; exact k_iret hx hb hr hlk (k_nb 1 rfl) ((J247_c0_2, x_bad, x_badPlace, J247_c0_111, z104, J247_c0_114, f101, J247_a3)) hS ⟨ib_w 0 1600 hJ247_c0_2 rfl, ib_w 0 1700 hJ247_c0_111 rfl, ib_w 0 1622 h106 rfl, ib_w 0 1 (ib_c 1 1 1 rfl) rfl, fun _ => ib_w 1 1600 hJ247_c0_2 rfl, fun _ => ib_w 0 0 hx_bad rfl, fun _ => ib_w 1 1622 h106 rfl, fun _ => ib_w 0 1620 h32 rfl, fun _ => ib_w 0 1620 h33 rfl, fun _ => ib_w 0 1620 hK247_x_qBase rfl, fun q => q, (by have := hJ247_lin0; have := h105.2; have : (1 : Int32).toInt = 1 := rfl; omega), fun hq9 => (by have := hJ247_lin0; have := (hJ247_go.2 hq9); have := h105.2; have : (1 : Int32).toInt = 1 := rfl; omega), (by have := hJ247_lin3; omega), (by have := h105.2; have : (1 : Int32).toInt = 1 := rfl; have := hJ247_lin1; omega), fun hq8 => fun q => (h107 q), fun hq8 => absurd hq8 (by decide), (hO.symm.trans (by try simp only [show (1 : Int32).toInt = (1 : Int) from rfl]; rw [lf_u Ez104]; rw [lf_ua Ef101]; exact hq))⟩ (hP.sub [2, 0, 3, 1] rfl) (hD.sub [2, 0, 3, 1] rfl rfl) (Nat.le_of_ble_eq_true rfl) (Nat.le_of_ble_eq_true rfl) dX10_qGoesOn_307
                    · as_aux_lemma =>
                        replace hq := lf_neg hq (lf_ne (lf_rf r92) (lf_lc 0 (0 : Int) rfl) c98)
                        have h108 : ib r92 1 1 := ib_w 1 1 (ib_ne_lo 0 h94 rfl c98) rfl
                        have h109 : ib J247_c0_113 1 1621 := ib_w 1 1621 (ib_two hJ247_c0_113 (h95 (ib_nz h108 rfl))) rfl
                        have h110 : ib J247_c0_111 0 1620 := ⟨(hJ247_c0_111).1, by have := (hJ247_c0_111).2; have := hJ247_lin2; have := (hJ247_c0_2).2; have := (h109).1; omega⟩
                        have h111 : 1 * x_qBase.toInt + (-1) * J247_c0_113.toInt ≤ (-1) := by have q1 := GS_base (hJ247_go.1 (ib_one hx_bad rfl)) (h96.1 c98).1 (by rw [(h96.1 c98).2]; unfold inT; decide); omega
                        refine lv_aload_n hx hb dX10_qGoesOn_279 rfl (lv_at hl 0 rfl) ?_
                        refine k_jvm hP hD hS hA [2, 3, 1] [true] rfl rfl rfl 0 0 (Nat.le_of_ble_eq_true rfl) (Nat.le_of_ble_eq_true rfl) (fun hPc hDc => k_runV (As := []) (rest := []) C0 hZ hS hA (s_X10_qDrops l dC dI cy sq a_this rm x_taped J247_c0_2 x_end x_ended x_bad x_badPlace x_fault x_faultPlace x_namePlace x_awayTold x_away x_coded x_statements x_isCrossing x_textKind x_askSecond x_redMany x_isOpen x_lastGreen x_greenTo x_isCycleGreen x_stillGreen x_rowMany x_fitMany x_fitRules x_fitGreen x_undoable x_newest x_seeded J247_c0_111 J247_c0_113 J247_c0_114 x_qBase x_qPiled x_qAnswer x_qIsNew x_octets J247_a3 g_qWait (ib_w 0 1699 h110 rfl) (ib_w 1 1700 h109 rfl)) mV_X10_614 hPc hDc rfl rfl rfl hl rfl rfl (Nat.le_of_ble_eq_true rfl) ⟨(Nat.le_of_ble_eq_true rfl), (Nat.le_of_ble_eq_true rfl)⟩ ⟨(Nat.le_of_ble_eq_true rfl), (Nat.le_of_ble_eq_true rfl)⟩ dX10_qGoesOn_280) (fun u113 H locs hw hP hD hS => ?_)
                        obtain ⟨v114, v115, f116⟩ := u113
                        try dsimp only at hP hD hw
                        replace hP : va_P (dC, dI) vwCl [(wi_rm0_0_1600_0 rm cy g_tape), (a_this, .inr (10, mfs rm x_taped J247_c0_2 x_end x_ended x_bad x_badPlace x_fault x_faultPlace x_namePlace x_awayTold x_away x_coded x_statements x_isCrossing x_textKind x_askSecond x_redMany x_isOpen x_lastGreen x_greenTo x_isCycleGreen x_stillGreen x_rowMany x_fitMany x_fitRules x_fitGreen x_undoable x_newest x_seeded v114 v115 J247_c0_114 x_qBase x_qPiled x_qAnswer x_qIsNew x_octets)), (wi_rm112_0_1700_0 rm cy g_qWait), (wi_rm110_0_1700_0 rm cy f116)] H := hP
                        replace hD := k_D hP hD
                        obtain ⟨h117, h118, h119, h120, h121, h122⟩ := hw
                        have h123 : v114.toInt = (J247_c0_111 : Int32).toInt + (1 : Int32).toInt := by have q1 := h118; have q2 : (1 : Int32).toInt = 1 := rfl; omega
                        have h124 : ib v114 1 1621 := ⟨by have q1 := h118; have := (h110).1; have := (h117).1; omega, by have q1 := h118; have := (h110).2; have := (h117).2; omega⟩
                        have h125 : v115.toInt = (J247_c0_113 : Int32).toInt + ((-1) : Int32).toInt := by have q1 := h120; have q2 : ((-1) : Int32).toInt = (-1) := rfl; omega
                        have h126 : ib v115 0 1620 := ⟨by have q1 := h120; have := (h109).1; have := (h119).1; omega, by have q1 := h120; have := (h109).2; have := (h119).2; omega⟩
                        replace hq := lf_p1 hq h122
                        replace hq := lf_p1 hq rfl
                        have h127 : x_bad = 0 → GS f116 v114 g_qWait v115 x_qBase x_textKind (cc + 1) := fun _ => (by rw [h121]; exact GS_dropS (hJ247_go.1 (ib_one hx_bad rfl)) (by have := h123; have : (1 : Int32).toInt = 1 := rfl; omega) (by have := h125; have : ((-1) : Int32).toInt = (-1) := rfl; omega) (by have := h111; have := h125; have : ((-1) : Int32).toInt = (-1) := rfl; omega) rfl (by have q1 := (h96.1 c98).2; rw [show (J247_c0_113.toInt - 1).toNat = Int32.toNatClampNeg v115 from by show _ = (Int32.toInt v115).toNat; have := h125; have : ((-1) : Int32).toInt = (-1) := rfl; omega] at q1; rw [q1]; unfold brk; decide))
                        refine lv_goto (tgt := 247) hx hb dX10_qGoesOn_283 rfl ?_
                        exact ih247 J247_c0_2 J247_l1 v114 v115 J247_c0_114 f116 H locs ls (ib_w 1 1600 hJ247_c0_2 rfl) (ib_w 1 1600 hK247_x_end rfl) (ib_w 0 1620 hK247_x_qBase rfl) (ib_w 1 2 hJ247_l1 rfl) (ib_w 0 1621 h124 rfl) (ib_w 0 1621 h126 rfl) (by have := hJ247_lin0; have := h125; have : ((-1) : Int32).toInt = (-1) := rfl; have := h123; have : (1 : Int32).toInt = 1 := rfl; omega) (by have := h125; have : ((-1) : Int32).toInt = (-1) := rfl; have := h111; omega) (by have := hJ247_lin2; have := h125; have : ((-1) : Int32).toInt = (-1) := rfl; have := h123; have : (1 : Int32).toInt = 1 := rfl; omega) (by have := hJ247_lin3; omega) (⟨fun q => (h127 q), fun q9 => (by have := (hJ247_go.2 q9); have := h125; have : ((-1) : Int32).toInt = (-1) := rfl; have := h123; have : (1 : Int32).toInt = 1 := rfl; omega)⟩) (by rw [← hK247]; exact hq) (by have := h123; have : (1 : Int32).toInt = 1 := rfl; omega) (hP.sub [1, 0, 2, 3] rfl) (hD.sub [1, 0, 2, 3] rfl rfl) hS (lv_sub hl [0, 1] rfl)
  have jn162 : ∀ (n : Nat) (J162_c0_2 : Int32) (J162_l1 : Int32) (J162_c0_111 : Int32) (J162_c0_113 : Int32) (J162_c0_114 : Int32) (J162_a3 : Nat → Int32) (H : Heap) (locs : List Loc) (ls : Array Slot), ib J162_c0_2 1 1600 → ib x_end 1 1600 → ib x_qBase 0 1620 → ib J162_l1 3 4 → ib J162_c0_111 0 1621 → ib J162_c0_113 0 1621 → (1 * J162_c0_111.toInt + 1 * J162_c0_113.toInt + (-1) * J162_c0_2.toInt + (-1) * x_qCoded.toInt + (-1) * x_qWaits.toInt + 1 * x_at.toInt ≤ 1) → (1 * x_qBase.toInt + (-1) * J162_c0_113.toInt ≤ 0) → (1 * J162_c0_111.toInt + 1 * J162_c0_113.toInt + (-1) * J162_c0_2.toInt ≤ 21) → (1 * x_at.toInt + (-1) * J162_c0_2.toInt ≤ 0) → ((x_bad = 0 → GS J162_a3 J162_c0_111 g_qWait J162_c0_113 x_qBase x_textKind (cc + 1)) ∧ (x_bad = 0 → 1 * J162_c0_111.toInt + 1 * J162_c0_113.toInt + (-1) * J162_c0_2.toInt + (-1) * x_qCoded.toInt + (-1) * x_qWaits.toInt + 1 * x_at.toInt ≤ (-1))) → (O = F_X10_qGoesOn_162 (Int32.toInt x_bad) (Int32.toInt x_badPlace) (lf_A g_qWait) n (Int32.toInt J162_c0_2) (Int32.toInt J162_l1) (Int32.toInt J162_c0_111) (Int32.toInt J162_c0_113) (Int32.toInt J162_c0_114) (lf_A J162_a3)) → 1622 ≤ J162_c0_111.toInt + (n : Int) → va_P (dC, dI) vwCl [(a_this, .inr (10, mfs rm x_taped J162_c0_2 x_end x_ended x_bad x_badPlace x_fault x_faultPlace x_namePlace x_awayTold x_away x_coded x_statements x_isCrossing x_textKind x_askSecond x_redMany x_isOpen x_lastGreen x_greenTo x_isCycleGreen x_stillGreen x_rowMany x_fitMany x_fitRules x_fitGreen x_undoable x_newest x_seeded J162_c0_111 J162_c0_113 J162_c0_114 x_qBase x_qPiled x_qAnswer x_qIsNew x_octets)), (wi_rm0_0_1600_0 rm cy g_tape), (wi_rm112_0_1700_0 rm cy g_qWait), (wi_rm110_0_1700_0 rm cy J162_a3)] H → va_D A [(a_this, .inr (10, mfs rm x_taped J162_c0_2 x_end x_ended x_bad x_badPlace x_fault x_faultPlace x_namePlace x_awayTold x_away x_coded x_statements x_isCrossing x_textKind x_askSecond x_redMany x_isOpen x_lastGreen x_greenTo x_isCycleGreen x_stillGreen x_rowMany x_fitMany x_fitRules x_fitGreen x_undoable x_newest x_seeded J162_c0_111 J162_c0_113 J162_c0_114 x_qBase x_qPiled x_qAnswer x_qIsNew x_octets)), (wi_rm0_0_1600_0 rm cy g_tape), (wi_rm112_0_1700_0 rm cy g_qWait), (wi_rm110_0_1700_0 rm cy J162_a3)] → va_S A s.heap H locs → lv_has ls 2 [(0, .ref a_this), (1, .int J162_l1)] → W p l e { frames := 3, cells := 0, slots := 0, locals := 62 } s m args below meth c H locs 0 0 Q (F0 m 162 ls []) := by
    as_aux_lemma =>
      intro n
      induction n with
      | zero =>
        intro J162_c0_2 J162_l1 J162_c0_111 J162_c0_113 J162_c0_114 J162_a3 H locs ls hJ162_c0_2 hK162_x_end hK162_x_qBase hJ162_l1 hJ162_c0_111 hJ162_c0_113 hJ162_lin0 hJ162_lin1 hJ162_lin2 hJ162_lin3 hJ162_go hq hm
        exact absurd hm (by have := hJ162_c0_111; unfold ib at this; omega)
      | succ n ih =>
        intro J162_c0_2 J162_l1 J162_c0_111 J162_c0_113 J162_c0_114 J162_a3 H locs ls hJ162_c0_2 hK162_x_end hK162_x_qBase hJ162_l1 hJ162_c0_111 hJ162_c0_113 hJ162_lin0 hJ162_lin1 hJ162_lin2 hJ162_lin3 hJ162_go hq hm162 hP hD hS hl
        have ih162 := ih
        obtain ⟨K162, hK162⟩ : ∃ K, K = F_X10_qGoesOn_162 (Int32.toInt x_bad) (Int32.toInt x_badPlace) (lf_A g_qWait) n := ⟨_, rfl⟩
        have hq : O = F_X10_qGoesOn_162b (Int32.toInt x_bad) (Int32.toInt x_badPlace) (lf_A g_qWait) K162 (Int32.toInt J162_c0_2) (Int32.toInt J162_l1) (Int32.toInt J162_c0_111) (Int32.toInt J162_c0_113) (Int32.toInt J162_c0_114) (lf_A J162_a3) := by rw [hK162]; exact hq
        unfold F_X10_qGoesOn_162b at hq
        refine lv_aload_n hx hb dX10_qGoesOn_162 rfl (lv_at hl 0 rfl) ?_
        refine lv_iconst (v := 3) hx hb dX10_qGoesOn_163 rfl ?_
        refine k_jim hP hD hS hA [0, 2] [false, true, false, true] rfl rfl rfl 0 0 (Nat.le_of_ble_eq_true rfl) (Nat.le_of_ble_eq_true rfl) (fun hPc hDc => k_runV (As := [.int 3]) (rest := []) C0 hZ hS hA (s_X10_qIsOn_a0_3 l dC dI cy sq a_this rm x_taped J162_c0_2 x_end x_ended x_bad x_badPlace x_fault x_faultPlace x_namePlace x_awayTold x_away x_coded x_statements x_isCrossing x_textKind x_askSecond x_redMany x_isOpen x_lastGreen x_greenTo x_isCycleGreen x_stillGreen x_rowMany x_fitMany x_fitRules x_fitGreen x_undoable x_newest x_seeded J162_c0_111 J162_c0_113 J162_c0_114 x_qBase x_qPiled x_qAnswer x_qIsNew x_octets g_qWait (ib_w 0 1700 hJ162_c0_113 rfl)) mV_X10_641 hPc hDc rfl rfl rfl hl rfl rfl (Nat.le_of_ble_eq_true rfl) ⟨(Nat.le_of_ble_eq_true rfl), (Nat.le_of_ble_eq_true rfl)⟩ ⟨(Nat.le_of_ble_eq_true rfl), (Nat.le_of_ble_eq_true rfl)⟩ dX10_qGoesOn_164) (fun r128 u129 H locs hw hP hD hS => ?_)
        try dsimp only at hP hD hw
        replace hP : va_P (dC, dI) vwCl [(wi_rm0_0_1600_0 rm cy g_tape), (wi_rm110_0_1700_0 rm cy J162_a3), (a_this, .inr (10, mfs rm x_taped J162_c0_2 x_end x_ended x_bad x_badPlace x_fault x_faultPlace x_namePlace x_awayTold x_away x_coded x_statements x_isCrossing x_textKind x_askSecond x_redMany x_isOpen x_lastGreen x_greenTo x_isCycleGreen x_stillGreen x_rowMany x_fitMany x_fitRules x_fitGreen x_undoable x_newest x_seeded J162_c0_111 J162_c0_113 J162_c0_114 x_qBase x_qPiled x_qAnswer x_qIsNew x_octets)), (wi_rm112_0_1700_0 rm cy g_qWait)] H := hP
        replace hD := k_D hP hD
        obtain ⟨h130, h131, h132, h133⟩ := hw
        replace hq := lf_b1 hq h133
        refine lv_if_ne (tgt := 178) hx hb dX10_qGoesOn_167 rfl (fun c134 => ?_) (fun c134 => ?_)
        · as_aux_lemma =>
            replace hq := lf_neg hq (lf_ne (lf_rf r128) (lf_lc 0 (0 : Int) rfl) c134)
            have h135 : ib r128 1 1 := ib_w 1 1 (ib_ne_lo 0 h130 rfl c134) rfl
            have h136 : ib J162_c0_113 1 1621 := ib_w 1 1621 (ib_two hJ162_c0_113 (h131 (ib_nz h135 rfl))) rfl
            have h137 : ib x_qCoded 0 1620 := ⟨(hx_qCoded).1, by have := (hx_qCoded).2; have := hL0; have := (hx_at).2; have := (hx_qWaits).1; omega⟩
            have h138 : ib x_qWaits 0 1620 := ⟨(hx_qWaits).1, by have := (hx_qWaits).2; have := hL0; have := (hx_at).2; have := (h137).1; omega⟩
            have h139 : ib J162_c0_111 0 1620 := ⟨(hJ162_c0_111).1, by have := (hJ162_c0_111).2; have := hJ162_lin2; have := (hJ162_c0_2).2; have := (h136).1; omega⟩
            have h140 : 1 * x_qBase.toInt + (-1) * J162_c0_113.toInt ≤ (-1) := by have q1 := GS_base (hJ162_go.1 (ib_one hx_bad rfl)) (h132.1 c134).1 (by rw [(h132.1 c134).2]; unfold inT; decide); omega
            refine lv_aload_n hx hb dX10_qGoesOn_178 rfl (lv_at hl 0 rfl) ?_
            refine k_jvm hP hD hS hA [2, 3, 1] [true] rfl rfl rfl 0 0 (Nat.le_of_ble_eq_true rfl) (Nat.le_of_ble_eq_true rfl) (fun hPc hDc => k_runV (As := []) (rest := []) C0 hZ hS hA (s_X10_qDrops l dC dI cy sq a_this rm x_taped J162_c0_2 x_end x_ended x_bad x_badPlace x_fault x_faultPlace x_namePlace x_awayTold x_away x_coded x_statements x_isCrossing x_textKind x_askSecond x_redMany x_isOpen x_lastGreen x_greenTo x_isCycleGreen x_stillGreen x_rowMany x_fitMany x_fitRules x_fitGreen x_undoable x_newest x_seeded J162_c0_111 J162_c0_113 J162_c0_114 x_qBase x_qPiled x_qAnswer x_qIsNew x_octets J162_a3 g_qWait (ib_w 0 1699 h139 rfl) (ib_w 1 1700 h136 rfl)) mV_X10_614 hPc hDc rfl rfl rfl hl rfl rfl (Nat.le_of_ble_eq_true rfl) ⟨(Nat.le_of_ble_eq_true rfl), (Nat.le_of_ble_eq_true rfl)⟩ ⟨(Nat.le_of_ble_eq_true rfl), (Nat.le_of_ble_eq_true rfl)⟩ dX10_qGoesOn_179) (fun u142 H locs hw hP hD hS => ?_)
            obtain ⟨v143, v144, f145⟩ := u142
            try dsimp only at hP hD hw
            replace hP : va_P (dC, dI) vwCl [(wi_rm0_0_1600_0 rm cy g_tape), (a_this, .inr (10, mfs rm x_taped J162_c0_2 x_end x_ended x_bad x_badPlace x_fault x_faultPlace x_namePlace x_awayTold x_away x_coded x_statements x_isCrossing x_textKind x_askSecond x_redMany x_isOpen x_lastGreen x_greenTo x_isCycleGreen x_stillGreen x_rowMany x_fitMany x_fitRules x_fitGreen x_undoable x_newest x_seeded v143 v144 J162_c0_114 x_qBase x_qPiled x_qAnswer x_qIsNew x_octets)), (wi_rm112_0_1700_0 rm cy g_qWait), (wi_rm110_0_1700_0 rm cy f145)] H := hP
            replace hD := k_D hP hD
            obtain ⟨h146, h147, h148, h149, h150, h151⟩ := hw
            have h152 : v143.toInt = (J162_c0_111 : Int32).toInt + (1 : Int32).toInt := by have q1 := h147; have q2 : (1 : Int32).toInt = 1 := rfl; omega
            have h153 : ib v143 1 1621 := ⟨by have q1 := h147; have := (h139).1; have := (h146).1; omega, by have q1 := h147; have := (h139).2; have := (h146).2; omega⟩
            have h154 : v144.toInt = (J162_c0_113 : Int32).toInt + ((-1) : Int32).toInt := by have q1 := h149; have q2 : ((-1) : Int32).toInt = (-1) := rfl; omega
            have h155 : ib v144 0 1620 := ⟨by have q1 := h149; have := (h136).1; have := (h148).1; omega, by have q1 := h149; have := (h136).2; have := (h148).2; omega⟩
            replace hq := lf_p1 hq h151
            replace hq := lf_p1 hq rfl
            have h156 : x_bad = 0 → GS f145 v143 g_qWait v144 x_qBase x_textKind (cc + 1) := fun _ => (by rw [h150]; exact GS_dropS (hJ162_go.1 (ib_one hx_bad rfl)) (by have := h152; have : (1 : Int32).toInt = 1 := rfl; omega) (by have := h154; have : ((-1) : Int32).toInt = (-1) := rfl; omega) (by have := h140; have := h154; have : ((-1) : Int32).toInt = (-1) := rfl; omega) rfl (by have q1 := (h132.1 c134).2; rw [show (J162_c0_113.toInt - 1).toNat = Int32.toNatClampNeg v144 from by show _ = (Int32.toInt v144).toNat; have := h154; have : ((-1) : Int32).toInt = (-1) := rfl; omega] at q1; rw [q1]; unfold brk; decide))
            refine lv_goto (tgt := 162) hx hb dX10_qGoesOn_182 rfl ?_
            exact ih162 J162_c0_2 J162_l1 v143 v144 J162_c0_114 f145 H locs ls (ib_w 1 1600 hJ162_c0_2 rfl) (ib_w 1 1600 hK162_x_end rfl) (ib_w 0 1620 hK162_x_qBase rfl) (ib_w 3 4 hJ162_l1 rfl) (ib_w 0 1621 h153 rfl) (ib_w 0 1621 h155 rfl) (by have := hJ162_lin0; have := h154; have : ((-1) : Int32).toInt = (-1) := rfl; have := h152; have : (1 : Int32).toInt = 1 := rfl; omega) (by have := h154; have : ((-1) : Int32).toInt = (-1) := rfl; have := h140; omega) (by have := hJ162_lin2; have := h154; have : ((-1) : Int32).toInt = (-1) := rfl; have := h152; have : (1 : Int32).toInt = 1 := rfl; omega) (by have := hJ162_lin3; omega) (⟨fun q => (h156 q), fun q9 => (by have := (hJ162_go.2 q9); have := h154; have : ((-1) : Int32).toInt = (-1) := rfl; have := h152; have : (1 : Int32).toInt = 1 := rfl; omega)⟩) (by rw [← hK162]; exact hq) (by have := h152; have : (1 : Int32).toInt = 1 := rfl; omega) (hP.sub [1, 0, 2, 3] rfl) (hD.sub [1, 0, 2, 3] rfl rfl) hS (lv_sub hl [0, 1] rfl)
        · as_aux_lemma =>
            replace hq := lf_pos hq (lf_eq (lf_rf r128) (lf_lc 0 (0 : Int) rfl) c134)
            have h157 := ib_eq h130 (ib_c 0 0 0 rfl) c134
            have h158 : ib r128 0 0 := ib_w 0 0 h157.1 rfl
            have h159 : ib x_qCoded 0 1620 := ⟨(hx_qCoded).1, by have := (hx_qCoded).2; have := hL0; have := (hx_at).2; have := (hx_qWaits).1; omega⟩
            have h160 : ib x_qWaits 0 1620 := ⟨(hx_qWaits).1, by have := (hx_qWaits).2; have := hL0; have := (hx_at).2; have := (h159).1; omega⟩
            refine lv_aload_n hx hb dX10_qGoesOn_170 rfl (lv_at hl 0 rfl) ?_
            refine lv_iconst (v := 4) hx hb dX10_qGoesOn_171 rfl ?_
            refine k_jim hP hD hS hA [2, 3] [true, true] rfl rfl rfl 0 0 (Nat.le_of_ble_eq_true rfl) (Nat.le_of_ble_eq_true rfl) (fun hPc hDc => k_runV (As := [.int 4]) (rest := []) C0 hZ hS hA (s_X10_qIsOn_a0_4 l dC dI cy sq a_this rm x_taped J162_c0_2 x_end x_ended x_bad x_badPlace x_fault x_faultPlace x_namePlace x_awayTold x_away x_coded x_statements x_isCrossing x_textKind x_askSecond x_redMany x_isOpen x_lastGreen x_greenTo x_isCycleGreen x_stillGreen x_rowMany x_fitMany x_fitRules x_fitGreen x_undoable x_newest x_seeded J162_c0_111 J162_c0_113 J162_c0_114 x_qBase x_qPiled x_qAnswer x_qIsNew x_octets g_qWait (ib_w 0 1700 hJ162_c0_113 rfl)) mV_X10_641 hPc hDc rfl rfl rfl hl rfl rfl (Nat.le_of_ble_eq_true rfl) ⟨(Nat.le_of_ble_eq_true rfl), (Nat.le_of_ble_eq_true rfl)⟩ ⟨(Nat.le_of_ble_eq_true rfl), (Nat.le_of_ble_eq_true rfl)⟩ dX10_qGoesOn_172) (fun r161 u162 H locs hw hP hD hS => ?_)
            try dsimp only at hP hD hw
            replace hP : va_P (dC, dI) vwCl [(wi_rm0_0_1600_0 rm cy g_tape), (wi_rm110_0_1700_0 rm cy J162_a3), (a_this, .inr (10, mfs rm x_taped J162_c0_2 x_end x_ended x_bad x_badPlace x_fault x_faultPlace x_namePlace x_awayTold x_away x_coded x_statements x_isCrossing x_textKind x_askSecond x_redMany x_isOpen x_lastGreen x_greenTo x_isCycleGreen x_stillGreen x_rowMany x_fitMany x_fitRules x_fitGreen x_undoable x_newest x_seeded J162_c0_111 J162_c0_113 J162_c0_114 x_qBase x_qPiled x_qAnswer x_qIsNew x_octets)), (wi_rm112_0_1700_0 rm cy g_qWait)] H := hP
            replace hD := k_D hP hD
            obtain ⟨h163, h164, h165, h166⟩ := hw
            replace hq := lf_b1 hq h166
            refine lv_if_eq (tgt := 185) hx hb dX10_qGoesOn_175 rfl (fun c167 => ?_) (fun c167 => ?_)
            · as_aux_lemma =>
                replace hq := lf_pos hq (lf_eq (lf_rf r161) (lf_lc 0 (0 : Int) rfl) c167)
                have h168 := ib_eq h163 (ib_c 0 0 0 rfl) c167
                have h169 : ib r161 0 0 := ib_w 0 0 h168.1 rfl
                refine lv_aload_n hx hb dX10_qGoesOn_185 rfl (lv_at hl 0 rfl) ?_
                refine k_get C0 fg_X10_267 hP 2 rfl rfl dX10_qGoesOn_186 ?_
                refine lv_aload_n hx hb dX10_qGoesOn_189 rfl (lv_at hl 0 rfl) ?_
                refine k_get C0 fg_X10_372 hP 2 rfl rfl dX10_qGoesOn_190 ?_
                refine lv_iload_n hx hb dX10_qGoesOn_193 rfl (lv_at hl 1 rfl) ?_
                refine va_iast hx hb C0.2.2.2.2.2.1 hP hD hS 3 0 rfl rfl (ib_in 1700 hJ162_c0_113 rfl) dX10_qGoesOn_194 (fun H locs hP hD hS => ?_)
                have h171 : (upd g_qWait (Int32.toNatClampNeg J162_c0_113) J162_l1) (Int32.toNatClampNeg J162_c0_113) = J162_l1 := pk_us
                replace hP : va_P (dC, dI) vwCl [(wi_rm0_0_1600_0 rm cy g_tape), (wi_rm110_0_1700_0 rm cy J162_a3), (a_this, .inr (10, mfs rm x_taped J162_c0_2 x_end x_ended x_bad x_badPlace x_fault x_faultPlace x_namePlace x_awayTold x_away x_coded x_statements x_isCrossing x_textKind x_askSecond x_redMany x_isOpen x_lastGreen x_greenTo x_isCycleGreen x_stillGreen x_rowMany x_fitMany x_fitRules x_fitGreen x_undoable x_newest x_seeded J162_c0_111 J162_c0_113 J162_c0_114 x_qBase x_qPiled x_qAnswer x_qIsNew x_octets)), (wi_rm112_0_1700_0 rm cy (upd g_qWait (Int32.toNatClampNeg J162_c0_113) J162_l1))] H := hP
                replace hD := k_D hP hD
                generalize h172E : upd g_qWait (Int32.toNatClampNeg J162_c0_113) J162_l1 = f170 at hP hD h171
                have ef170 := h172E
                have Ef170 := lf_st ef170 (lf_ra g_qWait) (lf_rf J162_c0_113) (lf_rf J162_l1)
                refine lv_aload_n hx hb dX10_qGoesOn_195 rfl (lv_at hl 0 rfl) ?_
                refine lv_dup hx hb dX10_qGoesOn_196 rfl ?_
                refine k_get C0 fg_X10_372 hP 2 rfl rfl dX10_qGoesOn_197 ?_
                refine lv_iconst (v := 1) hx hb dX10_qGoesOn_200 rfl ?_
                refine lv_iadd hx hb dX10_qGoesOn_201 ?_
                refine lv_topi (fun z173 ez173 => ?_)
                have h174 := ib_add hJ162_c0_113 (ib_c 1 1 1 rfl) rfl
                rw [← ez173] at h174
                have h175 : ib z173 1 1622 := ib_w 1 1622 h174.1 rfl
                have Ez173 := lf_add h174.2 (lf_rf J162_c0_113) (lf_lc 1 (1 : Int) rfl)
                refine k_put C0 fp_X10_372 hP hD hS 2 rfl rfl rfl (Nat.le_of_ble_eq_true rfl) dX10_qGoesOn_202 (fun H locs hP hD hS => ?_)
                replace hP : va_P (dC, dI) vwCl [(wi_rm0_0_1600_0 rm cy g_tape), (wi_rm110_0_1700_0 rm cy J162_a3), (a_this, .inr (10, mfs rm x_taped J162_c0_2 x_end x_ended x_bad x_badPlace x_fault x_faultPlace x_namePlace x_awayTold x_away x_coded x_statements x_isCrossing x_textKind x_askSecond x_redMany x_isOpen x_lastGreen x_greenTo x_isCycleGreen x_stillGreen x_rowMany x_fitMany x_fitRules x_fitGreen x_undoable x_newest x_seeded J162_c0_111 z173 J162_c0_114 x_qBase x_qPiled x_qAnswer x_qIsNew x_octets)), (wi_rm112_0_1700_0 rm cy f170)] H := hP
                replace hD := k_D hP hD
                have h176 : x_bad = 0 → GS J162_a3 J162_c0_111 f170 z173 x_qBase x_textKind cc := fun q => (by rw [h172E.symm]; exact GS_op (hJ162_go.1 q) (by have := (hJ162_c0_113).1; have := (hJ162_c0_113).2; have := hJ162_lin0; have := hJ162_lin1; have := hJ162_lin2; have := (hJ162_c0_2).1; have := (hJ162_c0_2).2; have := hJ162_lin3; have := (hx_at).1; have := (hx_at).2; have := hL0; have := (h160).1; have := (h160).2; have := hL1; have := (h159).1; have := (h159).2; have := (hJ162_c0_111).1; have := (hJ162_c0_111).2; have := (hK162_x_qBase).1; have := (hK162_x_qBase).2; have := (h175).1; have := (h175).2; have := h174.2; have : (1 : Int32).toInt = 1 := rfl; omega) ⟨by have := (hJ162_l1).1; omega, by have := (hJ162_l1).2; omega⟩)
                refine lv_iconst (v := 1) hx hb dX10_qGoesOn_205 rfl ?_
                subst hQ; exact k_iret hx hb hr hlk (k_nb 1 rfl) ((J162_c0_2, x_bad, x_badPlace, J162_c0_111, z173, J162_c0_114, f170, J162_a3)) hS ⟨ib_w 0 1600 hJ162_c0_2 rfl, ib_w 0 1700 hJ162_c0_111 rfl, ib_w 0 1622 h175 rfl, ib_w 0 1 (ib_c 1 1 1 rfl) rfl, fun _ => ib_w 1 1600 hJ162_c0_2 rfl, fun _ => ib_w 0 0 hx_bad rfl, fun _ => ib_w 1 1622 h175 rfl, fun _ => ib_w 0 1620 h159 rfl, fun _ => ib_w 0 1620 h160 rfl, fun _ => ib_w 0 1620 hK162_x_qBase rfl, fun q => q, (by have := hJ162_lin0; have := h174.2; have : (1 : Int32).toInt = 1 := rfl; omega), fun hq9 => (by have := hJ162_lin0; have := (hJ162_go.2 hq9); have := h174.2; have : (1 : Int32).toInt = 1 := rfl; omega), (by have := hJ162_lin3; omega), (by have := h174.2; have : (1 : Int32).toInt = 1 := rfl; have := hJ162_lin1; omega), fun hq8 => fun q => (h176 q), fun hq8 => absurd hq8 (by decide), (hO.symm.trans (by try simp only [show (1 : Int32).toInt = (1 : Int) from rfl]; rw [lf_u Ez173]; rw [lf_ua Ef170]; exact hq))⟩ (hP.sub [2, 0, 3, 1] rfl) (hD.sub [2, 0, 3, 1] rfl rfl) (Nat.le_of_ble_eq_true rfl) (Nat.le_of_ble_eq_true rfl) dX10_qGoesOn_206
            · as_aux_lemma =>
                replace hq := lf_neg hq (lf_ne (lf_rf r161) (lf_lc 0 (0 : Int) rfl) c167)
                have h177 : ib r161 1 1 := ib_w 1 1 (ib_ne_lo 0 h163 rfl c167) rfl
                have h178 : ib J162_c0_113 1 1621 := ib_w 1 1621 (ib_two hJ162_c0_113 (h164 (ib_nz h177 rfl))) rfl
                have h179 : ib J162_c0_111 0 1620 := ⟨(hJ162_c0_111).1, by have := (hJ162_c0_111).2; have := hJ162_lin2; have := (hJ162_c0_2).2; have := (h178).1; omega⟩
                have h180 : 1 * x_qBase.toInt + (-1) * J162_c0_113.toInt ≤ (-1) := by have q1 := GS_base (hJ162_go.1 (ib_one hx_bad rfl)) (h165.1 c167).1 (by rw [(h165.1 c167).2]; unfold inT; decide); omega
                refine lv_aload_n hx hb dX10_qGoesOn_178 rfl (lv_at hl 0 rfl) ?_
                refine k_jvm hP hD hS hA [2, 3, 1] [true] rfl rfl rfl 0 0 (Nat.le_of_ble_eq_true rfl) (Nat.le_of_ble_eq_true rfl) (fun hPc hDc => k_runV (As := []) (rest := []) C0 hZ hS hA (s_X10_qDrops l dC dI cy sq a_this rm x_taped J162_c0_2 x_end x_ended x_bad x_badPlace x_fault x_faultPlace x_namePlace x_awayTold x_away x_coded x_statements x_isCrossing x_textKind x_askSecond x_redMany x_isOpen x_lastGreen x_greenTo x_isCycleGreen x_stillGreen x_rowMany x_fitMany x_fitRules x_fitGreen x_undoable x_newest x_seeded J162_c0_111 J162_c0_113 J162_c0_114 x_qBase x_qPiled x_qAnswer x_qIsNew x_octets J162_a3 g_qWait (ib_w 0 1699 h179 rfl) (ib_w 1 1700 h178 rfl)) mV_X10_614 hPc hDc rfl rfl rfl hl rfl rfl (Nat.le_of_ble_eq_true rfl) ⟨(Nat.le_of_ble_eq_true rfl), (Nat.le_of_ble_eq_true rfl)⟩ ⟨(Nat.le_of_ble_eq_true rfl), (Nat.le_of_ble_eq_true rfl)⟩ dX10_qGoesOn_179) (fun u182 H locs hw hP hD hS => ?_)
                obtain ⟨v183, v184, f185⟩ := u182
                try dsimp only at hP hD hw
                replace hP : va_P (dC, dI) vwCl [(wi_rm0_0_1600_0 rm cy g_tape), (a_this, .inr (10, mfs rm x_taped J162_c0_2 x_end x_ended x_bad x_badPlace x_fault x_faultPlace x_namePlace x_awayTold x_away x_coded x_statements x_isCrossing x_textKind x_askSecond x_redMany x_isOpen x_lastGreen x_greenTo x_isCycleGreen x_stillGreen x_rowMany x_fitMany x_fitRules x_fitGreen x_undoable x_newest x_seeded v183 v184 J162_c0_114 x_qBase x_qPiled x_qAnswer x_qIsNew x_octets)), (wi_rm112_0_1700_0 rm cy g_qWait), (wi_rm110_0_1700_0 rm cy f185)] H := hP
                replace hD := k_D hP hD
                obtain ⟨h186, h187, h188, h189, h190, h191⟩ := hw
                have h192 : v183.toInt = (J162_c0_111 : Int32).toInt + (1 : Int32).toInt := by have q1 := h187; have q2 : (1 : Int32).toInt = 1 := rfl; omega
                have h193 : ib v183 1 1621 := ⟨by have q1 := h187; have := (h179).1; have := (h186).1; omega, by have q1 := h187; have := (h179).2; have := (h186).2; omega⟩
                have h194 : v184.toInt = (J162_c0_113 : Int32).toInt + ((-1) : Int32).toInt := by have q1 := h189; have q2 : ((-1) : Int32).toInt = (-1) := rfl; omega
                have h195 : ib v184 0 1620 := ⟨by have q1 := h189; have := (h178).1; have := (h188).1; omega, by have q1 := h189; have := (h178).2; have := (h188).2; omega⟩
                replace hq := lf_p1 hq h191
                replace hq := lf_p1 hq rfl
                have h196 : x_bad = 0 → GS f185 v183 g_qWait v184 x_qBase x_textKind (cc + 1) := fun _ => (by rw [h190]; exact GS_dropS (hJ162_go.1 (ib_one hx_bad rfl)) (by have := h192; have : (1 : Int32).toInt = 1 := rfl; omega) (by have := h194; have : ((-1) : Int32).toInt = (-1) := rfl; omega) (by have := h180; have := h194; have : ((-1) : Int32).toInt = (-1) := rfl; omega) rfl (by have q1 := (h165.1 c167).2; rw [show (J162_c0_113.toInt - 1).toNat = Int32.toNatClampNeg v184 from by show _ = (Int32.toInt v184).toNat; have := h194; have : ((-1) : Int32).toInt = (-1) := rfl; omega] at q1; rw [q1]; unfold brk; decide))
                refine lv_goto (tgt := 162) hx hb dX10_qGoesOn_182 rfl ?_
                exact ih162 J162_c0_2 J162_l1 v183 v184 J162_c0_114 f185 H locs ls (ib_w 1 1600 hJ162_c0_2 rfl) (ib_w 1 1600 hK162_x_end rfl) (ib_w 0 1620 hK162_x_qBase rfl) (ib_w 3 4 hJ162_l1 rfl) (ib_w 0 1621 h193 rfl) (ib_w 0 1621 h195 rfl) (by have := hJ162_lin0; have := h194; have : ((-1) : Int32).toInt = (-1) := rfl; have := h192; have : (1 : Int32).toInt = 1 := rfl; omega) (by have := h194; have : ((-1) : Int32).toInt = (-1) := rfl; have := h180; omega) (by have := hJ162_lin2; have := h194; have : ((-1) : Int32).toInt = (-1) := rfl; have := h192; have : (1 : Int32).toInt = 1 := rfl; omega) (by have := hJ162_lin3; omega) (⟨fun q => (h196 q), fun q9 => (by have := (hJ162_go.2 q9); have := h194; have : ((-1) : Int32).toInt = (-1) := rfl; have := h192; have : (1 : Int32).toInt = 1 := rfl; omega)⟩) (by rw [← hK162]; exact hq) (by have := h192; have : (1 : Int32).toInt = 1 := rfl; omega) (hP.sub [1, 0, 2, 3] rfl) (hD.sub [1, 0, 2, 3] rfl rfl) hS (lv_sub hl [0, 1] rfl)
  have jn0 : ∀ (n : Nat) (J0_c0_2 : Int32) (J0_c0_111 : Int32) (J0_c0_113 : Int32) (J0_c0_114 : Int32) (J0_a3 : Nat → Int32) (H : Heap) (locs : List Loc) (ls : Array Slot), ib J0_c0_2 0 1600 → ib J0_c0_111 0 1621 → ib J0_c0_113 0 1621 → (1 * J0_c0_111.toInt + 1 * J0_c0_113.toInt + (-1) * J0_c0_2.toInt + (-1) * x_qCoded.toInt + (-1) * x_qWaits.toInt + 1 * x_at.toInt ≤ 1) → (1 * x_qBase.toInt + (-1) * J0_c0_113.toInt ≤ 0) → (1 * J0_c0_111.toInt + 1 * J0_c0_113.toInt + (-1) * J0_c0_2.toInt ≤ 21) → (1 * x_at.toInt + (-1) * J0_c0_2.toInt ≤ 0) → ((x_bad = 0 → GS J0_a3 J0_c0_111 g_qWait J0_c0_113 x_qBase x_textKind (cc + 1)) ∧ (x_bad = 0 → 1 * J0_c0_111.toInt + 1 * J0_c0_113.toInt + (-1) * J0_c0_2.toInt + (-1) * x_qCoded.toInt + (-1) * x_qWaits.toInt + 1 * x_at.toInt ≤ 0)) → (O = F_X10_qGoesOn_0 (Int32.toInt x_end) (Int32.toInt x_bad) (Int32.toInt x_badPlace) (Int32.toInt x_qBase) (lf_A g_tape) (lf_A g_qWait) n (Int32.toInt J0_c0_2) (Int32.toInt J0_c0_111) (Int32.toInt J0_c0_113) (Int32.toInt J0_c0_114) (lf_A J0_a3)) → 1601 ≤ J0_c0_2.toInt + (n : Int) → va_P (dC, dI) vwCl [(a_this, .inr (10, mfs rm x_taped J0_c0_2 x_end x_ended x_bad x_badPlace x_fault x_faultPlace x_namePlace x_awayTold x_away x_coded x_statements x_isCrossing x_textKind x_askSecond x_redMany x_isOpen x_lastGreen x_greenTo x_isCycleGreen x_stillGreen x_rowMany x_fitMany x_fitRules x_fitGreen x_undoable x_newest x_seeded J0_c0_111 J0_c0_113 J0_c0_114 x_qBase x_qPiled x_qAnswer x_qIsNew x_octets)), (wi_rm0_0_1600_0 rm cy g_tape), (wi_rm112_0_1700_0 rm cy g_qWait), (wi_rm110_0_1700_0 rm cy J0_a3)] H → va_D A [(a_this, .inr (10, mfs rm x_taped J0_c0_2 x_end x_ended x_bad x_badPlace x_fault x_faultPlace x_namePlace x_awayTold x_away x_coded x_statements x_isCrossing x_textKind x_askSecond x_redMany x_isOpen x_lastGreen x_greenTo x_isCycleGreen x_stillGreen x_rowMany x_fitMany x_fitRules x_fitGreen x_undoable x_newest x_seeded J0_c0_111 J0_c0_113 J0_c0_114 x_qBase x_qPiled x_qAnswer x_qIsNew x_octets)), (wi_rm0_0_1600_0 rm cy g_tape), (wi_rm112_0_1700_0 rm cy g_qWait), (wi_rm110_0_1700_0 rm cy J0_a3)] → va_S A s.heap H locs → lv_has ls 2 [(0, .ref a_this)] → W p l e { frames := 3, cells := 0, slots := 0, locals := 62 } s m args below meth c H locs 0 0 Q (F0 m 0 ls []) := by
    as_aux_lemma =>
      intro n
      induction n with
      | zero =>
        intro J0_c0_2 J0_c0_111 J0_c0_113 J0_c0_114 J0_a3 H locs ls hJ0_c0_2 hJ0_c0_111 hJ0_c0_113 hJ0_lin0 hJ0_lin1 hJ0_lin2 hJ0_lin3 hJ0_go hq hm
        exact absurd hm (by have q1 := (hJ0_c0_2).2; omega)
      | succ n ih =>
        intro J0_c0_2 J0_c0_111 J0_c0_113 J0_c0_114 J0_a3 H locs ls hJ0_c0_2 hJ0_c0_111 hJ0_c0_113 hJ0_lin0 hJ0_lin1 hJ0_lin2 hJ0_lin3 hJ0_go hq hm0 hP hD hS hl
        have ih0 := ih
        obtain ⟨K0, hK0⟩ : ∃ K, K = F_X10_qGoesOn_0 (Int32.toInt x_end) (Int32.toInt x_bad) (Int32.toInt x_badPlace) (Int32.toInt x_qBase) (lf_A g_tape) (lf_A g_qWait) n := ⟨_, rfl⟩
        have hq : O = F_X10_qGoesOn_0b (Int32.toInt x_end) (Int32.toInt x_bad) (Int32.toInt x_badPlace) (Int32.toInt x_qBase) (lf_A g_tape) (lf_A g_qWait) K0 (Int32.toInt J0_c0_2) (Int32.toInt J0_c0_111) (Int32.toInt J0_c0_113) (Int32.toInt J0_c0_114) (lf_A J0_a3) := by rw [hK0]; exact hq
        unfold F_X10_qGoesOn_0b at hq
        refine lv_aload_n hx hb dX10_qGoesOn_0 rfl (lv_at hl 0 rfl) ?_
        refine k_get C0 fg_X10_279 hP 0 rfl rfl dX10_qGoesOn_1 ?_
        refine lv_if_ne (tgt := 122) hx hb dX10_qGoesOn_4 rfl (fun c197 => ?_) (fun c197 => ?_)
        · skip
          exact absurd (ib_one hx_bad rfl) c197
        · as_aux_lemma =>
            skip
            have h198 := ib_eq hx_bad (ib_c 0 0 0 rfl) c197
            have h199 : ib x_qCoded 0 1620 := ⟨(hx_qCoded).1, by have := (hx_qCoded).2; have := hL0; have := (hx_at).2; have := (hx_qWaits).1; omega⟩
            have h200 : ib x_qWaits 0 1620 := ⟨(hx_qWaits).1, by have := (hx_qWaits).2; have := hL0; have := (hx_at).2; have := (h199).1; omega⟩
            have h201 : ib x_qBase 0 1620 := ⟨(hx_qBase).1, by have := (hx_qBase).2; have := hL1; have := (h200).2; omega⟩
            have h202 := hJ0_go.2 (ib_one hx_bad rfl)
            refine lv_aload_n hx hb dX10_qGoesOn_7 rfl (lv_at hl 0 rfl) ?_
            refine k_jim hP hD hS hA [0, 1] [false, false, true, true] rfl rfl rfl 0 0 (Nat.le_of_ble_eq_true rfl) (Nat.le_of_ble_eq_true rfl) (fun hPc hDc => k_runV (As := []) (rest := []) C0 hZ hS hA (s_X10_look l dC dI cy sq a_this rm x_taped J0_c0_2 x_end x_ended x_bad x_badPlace x_fault x_faultPlace x_namePlace x_awayTold x_away x_coded x_statements x_isCrossing x_textKind x_askSecond x_redMany x_isOpen x_lastGreen x_greenTo x_isCycleGreen x_stillGreen x_rowMany x_fitMany x_fitRules x_fitGreen x_undoable x_newest x_seeded J0_c0_111 J0_c0_113 J0_c0_114 x_qBase x_qPiled x_qAnswer x_qIsNew x_octets g_tape (ib_w 0 1600 hJ0_c0_2 rfl) (ib_w 0 1600 hx_end rfl) hg_tape) mV_X10_291 hPc hDc rfl rfl rfl hl rfl rfl (Nat.le_of_ble_eq_true rfl) ⟨(Nat.le_of_ble_eq_true rfl), (Nat.le_of_ble_eq_true rfl)⟩ ⟨(Nat.le_of_ble_eq_true rfl), (Nat.le_of_ble_eq_true rfl)⟩ dX10_qGoesOn_8) (fun r203 u204 H locs hw hP hD hS => ?_)
            obtain ⟨v205, ev205⟩ : ∃ z, z = u204 := ⟨_, rfl⟩; subst ev205
            try dsimp only at hP hD hw
            replace hP : va_P (dC, dI) vwCl [(wi_rm112_0_1700_0 rm cy g_qWait), (wi_rm110_0_1700_0 rm cy J0_a3), (a_this, .inr (10, mfs rm x_taped v205 x_end x_ended x_bad x_badPlace x_fault x_faultPlace x_namePlace x_awayTold x_away x_coded x_statements x_isCrossing x_textKind x_askSecond x_redMany x_isOpen x_lastGreen x_greenTo x_isCycleGreen x_stillGreen x_rowMany x_fitMany x_fitRules x_fitGreen x_undoable x_newest x_seeded J0_c0_111 J0_c0_113 J0_c0_114 x_qBase x_qPiled x_qAnswer x_qIsNew x_octets)), (wi_rm0_0_1600_0 rm cy g_tape)] H := hP
            replace hD := k_D hP hD
            obtain ⟨h206, h207, h208, h209, h210, h211, h212, h213, h214, h215⟩ := hw
            replace hq := lf_p1 hq h215
            refine lv_bipush (v := 41) hx hb dX10_qGoesOn_11 rfl ?_
            refine lv_icmp_ne (tgt := 122) hx hb dX10_qGoesOn_13 rfl (fun c216 => ?_) (fun c216 => ?_)
            · as_aux_lemma =>
                replace hq := lf_neg hq (lf_ne (lf_rf r203) (lf_lc 41 (41 : Int) rfl) c216)
                refine lv_aload_n hx hb dX10_qGoesOn_122 rfl (lv_at hl 0 rfl) ?_
                refine lv_bipush (v := 42) hx hb dX10_qGoesOn_123 rfl ?_
                refine k_jim hP hD hS hA [2, 3] [true, true] rfl rfl rfl 0 0 (Nat.le_of_ble_eq_true rfl) (Nat.le_of_ble_eq_true rfl) (fun hPc hDc => k_runV (As := [.int 42]) (rest := []) C0 hZ hS hA (s_X10_takesSign_a0_42 l dC dI cy sq a_this rm x_taped v205 x_end x_ended x_bad x_badPlace x_fault x_faultPlace x_namePlace x_awayTold x_away x_coded x_statements x_isCrossing x_textKind x_askSecond x_redMany x_isOpen x_lastGreen x_greenTo x_isCycleGreen x_stillGreen x_rowMany x_fitMany x_fitRules x_fitGreen x_undoable x_newest x_seeded J0_c0_111 J0_c0_113 J0_c0_114 x_qBase x_qPiled x_qAnswer x_qIsNew x_octets g_tape (ib_w 0 1600 h206 rfl) (ib_w 0 1600 hx_end rfl) hg_tape) mV_X10_312 hPc hDc rfl rfl rfl hl rfl rfl (Nat.le_of_ble_eq_true rfl) ⟨(Nat.le_of_ble_eq_true rfl), (Nat.le_of_ble_eq_true rfl)⟩ ⟨(Nat.le_of_ble_eq_true rfl), (Nat.le_of_ble_eq_true rfl)⟩ dX10_qGoesOn_125) (fun r217 u218 H locs hw hP hD hS => ?_)
                obtain ⟨v219, ev219⟩ : ∃ z, z = u218 := ⟨_, rfl⟩; subst ev219
                try dsimp only at hP hD hw
                replace hP : va_P (dC, dI) vwCl [(wi_rm112_0_1700_0 rm cy g_qWait), (wi_rm110_0_1700_0 rm cy J0_a3), (a_this, .inr (10, mfs rm x_taped v219 x_end x_ended x_bad x_badPlace x_fault x_faultPlace x_namePlace x_awayTold x_away x_coded x_statements x_isCrossing x_textKind x_askSecond x_redMany x_isOpen x_lastGreen x_greenTo x_isCycleGreen x_stillGreen x_rowMany x_fitMany x_fitRules x_fitGreen x_undoable x_newest x_seeded J0_c0_111 J0_c0_113 J0_c0_114 x_qBase x_qPiled x_qAnswer x_qIsNew x_octets)), (wi_rm0_0_1600_0 rm cy g_tape)] H := hP
                replace hD := k_D hP hD
                obtain ⟨h220, h221, h222, h223, h224, h225, h226, h227, h228⟩ := hw
                replace hq := lf_p1 hq h228
                refine lv_if_ne (tgt := 140) hx hb dX10_qGoesOn_128 rfl (fun c229 => ?_) (fun c229 => ?_)
                · as_aux_lemma =>
                    replace hq := lf_neg hq (lf_ne (lf_rf r217) (lf_lc 0 (0 : Int) rfl) c229)
                    have h230 : ib r217 1 1 := ib_w 1 1 (ib_ne_lo 0 h221 rfl c229) rfl
                    have h231 := h227 (ib_nz h230 rfl)
                    have h232 : ib v205 0 1599 := ⟨(h206).1, by have := (h206).2; have := h231; have := (h220).2; omega⟩
                    have h233 : ib v219 1 1600 := ⟨by have := (h220).1; have := h231; have := (h232).1; omega, (h220).2⟩
                    have h234 : ib x_end 1 1600 := ib_w 1 1600 (ib_two hx_end (h224 (ib_nz h230 rfl))) rfl
                    have h235 : ib J0_c0_2 0 1599 := ⟨(hJ0_c0_2).1, by have := (hJ0_c0_2).2; have := h211; have := (h232).2; omega⟩
                    refine lv_aload_n hx hb dX10_qGoesOn_140 rfl (lv_at hl 0 rfl) ?_
                    refine k_get C0 fg_X10_7 hP 2 rfl rfl dX10_qGoesOn_141 ?_
                    refine lv_aload_n hx hb dX10_qGoesOn_144 rfl (lv_at hl 0 rfl) ?_
                    refine k_get C0 fg_X10_285 hP 2 rfl rfl dX10_qGoesOn_145 ?_
                    refine lv_iconst (v := 1) hx hb dX10_qGoesOn_148 rfl ?_
                    refine lv_isub hx hb dX10_qGoesOn_149 ?_
                    refine lv_topi (fun z236 ez236 => ?_)
                    have h237 := ib_sub h233 (ib_c 1 1 1 rfl) rfl
                    rw [← ez236] at h237
                    have h238 : ib z236 0 1599 := ib_w 0 1599 h237.1 rfl
                    have Ez236 := lf_sub h237.2 (lf_rf v219) (lf_lc 1 (1 : Int) rfl)
                    refine va_iald hx hb C0.2.2.2.2.2.1 hP 3 0 rfl rfl (ib_in 1600 h238 rfl) dX10_qGoesOn_150 ?_
                    refine lv_topi (fun z239 ez239 => ?_)
                    have h240 : ib z239 0 255 := by rw [ez239]; exact ia_at hg_tape (ib_in 1600 h238 rfl)
                    have Ez239 := lf_ld ez239 (lf_ra g_tape) Ez236
                    refine lv_bipush (v := 42) hx hb dX10_qGoesOn_151 rfl ?_
                    refine lv_icmp_ne (tgt := 160) hx hb dX10_qGoesOn_153 rfl (fun c241 => ?_) (fun c241 => ?_)
                    · replace hq := lf_neg hq (lf_ne Ez239 (lf_lc 42 (42 : Int) rfl) c241)
                      have h242 : ib J0_c0_111 0 1620 := ⟨(hJ0_c0_111).1, by have := (hJ0_c0_111).2; have := h202; have := hL0; have := (h235).2; have := (hJ0_c0_113).1; omega⟩
                      have h243 : ib J0_c0_113 0 1620 := ⟨(hJ0_c0_113).1, by have := (hJ0_c0_113).2; have := h202; have := hL0; have := (h235).2; have := (h242).1; omega⟩
                      have h244 : ib x_at 0 1599 := ⟨(hx_at).1, by have := (hx_at).2; have := hJ0_lin3; have := (h235).2; omega⟩
                      refine lv_iconst (v := 4) hx hb dX10_qGoesOn_160 rfl ?_
                      refine lv_istore_n (lv' := [(1, .int 4), (0, .ref a_this)]) hx hb dX10_qGoesOn_161 rfl hl (Nat.le_of_ble_eq_true rfl) rfl (fun ls hl => ?_)
                      exact jn162 1623 v219 4 J0_c0_111 J0_c0_113 J0_c0_114 J0_a3 H locs ls (ib_w 1 1600 h233 rfl) (ib_w 1 1600 h234 rfl) (ib_w 0 1620 h201 rfl) (ib_w 3 4 (ib_c 4 4 4 rfl) rfl) (ib_w 0 1621 h242 rfl) (ib_w 0 1621 h243 rfl) (by have := hJ0_lin0; have := h211; have := h231; omega) (by have := hJ0_lin1; omega) (by have := h231; have := h211; have := hJ0_lin2; omega) (by have := (h233).1; have := h231; have := h211; have := hJ0_lin3; have := (h244).2; omega) (⟨fun q => (hJ0_go.1 q), fun q9 => (by have := hJ0_lin0; have := h202; have := h211; have := h231; omega)⟩) (by try simp only [show (4 : Int32).toInt = (4 : Int) from rfl]; exact hq) (by have := h242; unfold ib at this; omega) (hP.sub [2, 3, 0, 1] rfl) (hD.sub [2, 3, 0, 1] rfl rfl) hS (lv_sub hl [1, 0] rfl)
                    · replace hq := lf_pos hq (lf_eq Ez239 (lf_lc 42 (42 : Int) rfl) c241)
                      have h245 := ib_eq h240 (ib_c 42 42 42 rfl) c241
                      have h246 : ib z239 42 42 := ib_w 42 42 h245.1 rfl
                      have h247 : ib J0_c0_111 0 1620 := ⟨(hJ0_c0_111).1, by have := (hJ0_c0_111).2; have := h202; have := hL0; have := (h235).2; have := (hJ0_c0_113).1; omega⟩
                      have h248 : ib J0_c0_113 0 1620 := ⟨(hJ0_c0_113).1, by have := (hJ0_c0_113).2; have := h202; have := hL0; have := (h235).2; have := (h247).1; omega⟩
                      have h249 : ib x_at 0 1599 := ⟨(hx_at).1, by have := (hx_at).2; have := hJ0_lin3; have := (h235).2; omega⟩
                      have h250 : ib x_qCoded 0 1619 := ⟨(h199).1, by have := (h199).2; have := hL0; have := (h249).2; have := (h200).1; omega⟩
                      have h251 : ib x_qWaits 0 1619 := ⟨(h200).1, by have := (h200).2; have := hL0; have := (h249).2; have := (h250).1; omega⟩
                      have h252 : ib x_qBase 0 1619 := ⟨(h201).1, by have := (h201).2; have := hL1; have := (h251).2; omega⟩
                      refine lv_iconst (v := 3) hx hb dX10_qGoesOn_156 rfl ?_
                      refine lv_goto (tgt := 161) hx hb dX10_qGoesOn_157 rfl ?_
                      refine lv_istore_n (lv' := [(1, .int 3), (0, .ref a_this)]) hx hb dX10_qGoesOn_161 rfl hl (Nat.le_of_ble_eq_true rfl) rfl (fun ls hl => ?_)
                      exact jn162 1623 v219 3 J0_c0_111 J0_c0_113 J0_c0_114 J0_a3 H locs ls (ib_w 1 1600 h233 rfl) (ib_w 1 1600 h234 rfl) (ib_w 0 1620 h252 rfl) (ib_w 3 4 (ib_c 3 3 3 rfl) rfl) (ib_w 0 1621 h247 rfl) (ib_w 0 1621 h248 rfl) (by have := hJ0_lin0; have := h211; have := h231; omega) (by have := hJ0_lin1; omega) (by have := h231; have := h211; have := hJ0_lin2; omega) (by have := (h233).1; have := h231; have := h211; have := hJ0_lin3; have := (h249).2; omega) (⟨fun q => (hJ0_go.1 q), fun q9 => (by have := hJ0_lin0; have := h202; have := h211; have := h231; omega)⟩) (by try simp only [show (3 : Int32).toInt = (3 : Int) from rfl]; exact hq) (by have := h247; unfold ib at this; omega) (hP.sub [2, 3, 0, 1] rfl) (hD.sub [2, 3, 0, 1] rfl rfl) hS (lv_sub hl [1, 0] rfl)
                · as_aux_lemma =>
                    replace hq := lf_pos hq (lf_eq (lf_rf r217) (lf_lc 0 (0 : Int) rfl) c229)
                    have h253 := ib_eq h221 (ib_c 0 0 0 rfl) c229
                    have h254 : ib r217 0 0 := ib_w 0 0 h253.1 rfl
                    refine lv_aload_n hx hb dX10_qGoesOn_131 rfl (lv_at hl 0 rfl) ?_
                    refine lv_bipush (v := 47) hx hb dX10_qGoesOn_132 rfl ?_
                    refine k_jim hP hD hS hA [2, 3] [true, true] rfl rfl rfl 0 0 (Nat.le_of_ble_eq_true rfl) (Nat.le_of_ble_eq_true rfl) (fun hPc hDc => k_runV (As := [.int 47]) (rest := []) C0 hZ hS hA (s_X10_takesSign_a0_47 l dC dI cy sq a_this rm x_taped v219 x_end x_ended x_bad x_badPlace x_fault x_faultPlace x_namePlace x_awayTold x_away x_coded x_statements x_isCrossing x_textKind x_askSecond x_redMany x_isOpen x_lastGreen x_greenTo x_isCycleGreen x_stillGreen x_rowMany x_fitMany x_fitRules x_fitGreen x_undoable x_newest x_seeded J0_c0_111 J0_c0_113 J0_c0_114 x_qBase x_qPiled x_qAnswer x_qIsNew x_octets g_tape (ib_w 0 1600 h220 rfl) (ib_w 0 1600 hx_end rfl) hg_tape) mV_X10_312 hPc hDc rfl rfl rfl hl rfl rfl (Nat.le_of_ble_eq_true rfl) ⟨(Nat.le_of_ble_eq_true rfl), (Nat.le_of_ble_eq_true rfl)⟩ ⟨(Nat.le_of_ble_eq_true rfl), (Nat.le_of_ble_eq_true rfl)⟩ dX10_qGoesOn_134) (fun r255 u256 H locs hw hP hD hS => ?_)
                    obtain ⟨v257, ev257⟩ : ∃ z, z = u256 := ⟨_, rfl⟩; subst ev257
                    try dsimp only at hP hD hw
                    replace hP : va_P (dC, dI) vwCl [(wi_rm112_0_1700_0 rm cy g_qWait), (wi_rm110_0_1700_0 rm cy J0_a3), (a_this, .inr (10, mfs rm x_taped v257 x_end x_ended x_bad x_badPlace x_fault x_faultPlace x_namePlace x_awayTold x_away x_coded x_statements x_isCrossing x_textKind x_askSecond x_redMany x_isOpen x_lastGreen x_greenTo x_isCycleGreen x_stillGreen x_rowMany x_fitMany x_fitRules x_fitGreen x_undoable x_newest x_seeded J0_c0_111 J0_c0_113 J0_c0_114 x_qBase x_qPiled x_qAnswer x_qIsNew x_octets)), (wi_rm0_0_1600_0 rm cy g_tape)] H := hP
                    replace hD := k_D hP hD
                    obtain ⟨h258, h259, h260, h261, h262, h263, h264, h265, h266⟩ := hw
                    replace hq := lf_p1 hq h266
                    refine lv_if_eq (tgt := 207) hx hb dX10_qGoesOn_137 rfl (fun c267 => ?_) (fun c267 => ?_)
                    · as_aux_lemma =>
                        replace hq := lf_pos hq (lf_eq (lf_rf r255) (lf_lc 0 (0 : Int) rfl) c267)
                        have h268 := ib_eq h259 (ib_c 0 0 0 rfl) c267
                        have h269 : ib r255 0 0 := ib_w 0 0 h268.1 rfl
                        refine lv_aload_n hx hb dX10_qGoesOn_207 rfl (lv_at hl 0 rfl) ?_
                        refine lv_bipush (v := 43) hx hb dX10_qGoesOn_208 rfl ?_
                        refine k_jim hP hD hS hA [2, 3] [true, true] rfl rfl rfl 0 0 (Nat.le_of_ble_eq_true rfl) (Nat.le_of_ble_eq_true rfl) (fun hPc hDc => k_runV (As := [.int 43]) (rest := []) C0 hZ hS hA (s_X10_takesSign_a0_43 l dC dI cy sq a_this rm x_taped v257 x_end x_ended x_bad x_badPlace x_fault x_faultPlace x_namePlace x_awayTold x_away x_coded x_statements x_isCrossing x_textKind x_askSecond x_redMany x_isOpen x_lastGreen x_greenTo x_isCycleGreen x_stillGreen x_rowMany x_fitMany x_fitRules x_fitGreen x_undoable x_newest x_seeded J0_c0_111 J0_c0_113 J0_c0_114 x_qBase x_qPiled x_qAnswer x_qIsNew x_octets g_tape (ib_w 0 1600 h258 rfl) (ib_w 0 1600 hx_end rfl) hg_tape) mV_X10_312 hPc hDc rfl rfl rfl hl rfl rfl (Nat.le_of_ble_eq_true rfl) ⟨(Nat.le_of_ble_eq_true rfl), (Nat.le_of_ble_eq_true rfl)⟩ ⟨(Nat.le_of_ble_eq_true rfl), (Nat.le_of_ble_eq_true rfl)⟩ dX10_qGoesOn_210) (fun r270 u271 H locs hw hP hD hS => ?_)
                        obtain ⟨v272, ev272⟩ : ∃ z, z = u271 := ⟨_, rfl⟩; subst ev272
                        try dsimp only at hP hD hw
                        replace hP : va_P (dC, dI) vwCl [(wi_rm112_0_1700_0 rm cy g_qWait), (wi_rm110_0_1700_0 rm cy J0_a3), (a_this, .inr (10, mfs rm x_taped v272 x_end x_ended x_bad x_badPlace x_fault x_faultPlace x_namePlace x_awayTold x_away x_coded x_statements x_isCrossing x_textKind x_askSecond x_redMany x_isOpen x_lastGreen x_greenTo x_isCycleGreen x_stillGreen x_rowMany x_fitMany x_fitRules x_fitGreen x_undoable x_newest x_seeded J0_c0_111 J0_c0_113 J0_c0_114 x_qBase x_qPiled x_qAnswer x_qIsNew x_octets)), (wi_rm0_0_1600_0 rm cy g_tape)] H := hP
                        replace hD := k_D hP hD
                        obtain ⟨h273, h274, h275, h276, h277, h278, h279, h280, h281⟩ := hw
                        replace hq := lf_p1 hq h281
                        refine lv_if_ne (tgt := 225) hx hb dX10_qGoesOn_213 rfl (fun c282 => ?_) (fun c282 => ?_)
                        · as_aux_lemma =>
                            replace hq := lf_neg hq (lf_ne (lf_rf r270) (lf_lc 0 (0 : Int) rfl) c282)
                            have h283 : ib r270 1 1 := ib_w 1 1 (ib_ne_lo 0 h274 rfl c282) rfl
                            have h284 := h280 (ib_nz h283 rfl)
                            have h285 : ib v257 0 1599 := ⟨(h258).1, by have := (h258).2; have := h284; have := (h273).2; omega⟩
                            have h286 : ib v272 1 1600 := ⟨by have := (h273).1; have := h284; have := (h285).1; omega, (h273).2⟩
                            have h287 : ib x_end 1 1600 := ib_w 1 1600 (ib_two hx_end (h277 (ib_nz h283 rfl))) rfl
                            have h288 : ib v219 0 1599 := ⟨(h220).1, by have := (h220).2; have := h264; have := (h285).2; omega⟩
                            refine lv_aload_n hx hb dX10_qGoesOn_225 rfl (lv_at hl 0 rfl) ?_
                            refine k_get C0 fg_X10_7 hP 2 rfl rfl dX10_qGoesOn_226 ?_
                            refine lv_aload_n hx hb dX10_qGoesOn_229 rfl (lv_at hl 0 rfl) ?_
                            refine k_get C0 fg_X10_285 hP 2 rfl rfl dX10_qGoesOn_230 ?_
                            refine lv_iconst (v := 1) hx hb dX10_qGoesOn_233 rfl ?_
                            refine lv_isub hx hb dX10_qGoesOn_234 ?_
                            refine lv_topi (fun z289 ez289 => ?_)
                            have h290 := ib_sub h286 (ib_c 1 1 1 rfl) rfl
                            rw [← ez289] at h290
                            have h291 : ib z289 0 1599 := ib_w 0 1599 h290.1 rfl
                            have Ez289 := lf_sub h290.2 (lf_rf v272) (lf_lc 1 (1 : Int) rfl)
                            refine va_iald hx hb C0.2.2.2.2.2.1 hP 3 0 rfl rfl (ib_in 1600 h291 rfl) dX10_qGoesOn_235 ?_
                            refine lv_topi (fun z292 ez292 => ?_)
                            have h293 : ib z292 0 255 := by rw [ez292]; exact ia_at hg_tape (ib_in 1600 h291 rfl)
                            have Ez292 := lf_ld ez292 (lf_ra g_tape) Ez289
                            refine lv_bipush (v := 43) hx hb dX10_qGoesOn_236 rfl ?_
                            refine lv_icmp_ne (tgt := 245) hx hb dX10_qGoesOn_238 rfl (fun c294 => ?_) (fun c294 => ?_)
                            · replace hq := lf_neg hq (lf_ne Ez292 (lf_lc 43 (43 : Int) rfl) c294)
                              have h295 : ib v205 0 1599 := ⟨(h206).1, by have := (h206).2; have := h226; have := (h288).2; omega⟩
                              refine lv_iconst (v := 2) hx hb dX10_qGoesOn_245 rfl ?_
                              refine lv_istore_n (lv' := [(1, .int 2), (0, .ref a_this)]) hx hb dX10_qGoesOn_246 rfl hl (Nat.le_of_ble_eq_true rfl) rfl (fun ls hl => ?_)
                              exact jn247 1623 v272 2 J0_c0_111 J0_c0_113 J0_c0_114 J0_a3 H locs ls (ib_w 1 1600 h286 rfl) (ib_w 1 1600 h287 rfl) (ib_w 0 1620 h201 rfl) (ib_w 1 2 (ib_c 2 2 2 rfl) rfl) (ib_w 0 1621 hJ0_c0_111 rfl) (ib_w 0 1621 hJ0_c0_113 rfl) (by have := h202; have := (hJ0_c0_2).2; have := h211; have := h226; have := h264; have := h284; have := (h286).1; omega) (by have := hJ0_lin1; omega) (by have := (h286).1; have := h284; have := h264; have := h226; have := h211; have := (hJ0_c0_2).2; have := hJ0_lin2; omega) (by have := (h286).1; have := h284; have := h264; have := h226; have := h211; have := hJ0_lin3; have := (hx_at).2; omega) (⟨fun q => (hJ0_go.1 q), fun q9 => (by have := h202; have := (hJ0_c0_2).2; have := h211; have := h226; have := h264; have := h284; have := (h286).1; omega)⟩) (by try simp only [show (2 : Int32).toInt = (2 : Int) from rfl]; exact hq) (by have := hJ0_c0_111; unfold ib at this; omega) (hP.sub [2, 3, 0, 1] rfl) (hD.sub [2, 3, 0, 1] rfl rfl) hS (lv_sub hl [1, 0] rfl)
                            · replace hq := lf_pos hq (lf_eq Ez292 (lf_lc 43 (43 : Int) rfl) c294)
                              have h296 := ib_eq h293 (ib_c 43 43 43 rfl) c294
                              have h297 : ib z292 43 43 := ib_w 43 43 h296.1 rfl
                              have h298 : ib v205 0 1599 := ⟨(h206).1, by have := (h206).2; have := h226; have := (h288).2; omega⟩
                              have h299 : ib J0_c0_2 0 1599 := ⟨(hJ0_c0_2).1, by have := (hJ0_c0_2).2; have := h211; have := (h298).2; omega⟩
                              refine lv_iconst (v := 1) hx hb dX10_qGoesOn_241 rfl ?_
                              refine lv_goto (tgt := 246) hx hb dX10_qGoesOn_242 rfl ?_
                              refine lv_istore_n (lv' := [(1, .int 1), (0, .ref a_this)]) hx hb dX10_qGoesOn_246 rfl hl (Nat.le_of_ble_eq_true rfl) rfl (fun ls hl => ?_)
                              exact jn247 1623 v272 1 J0_c0_111 J0_c0_113 J0_c0_114 J0_a3 H locs ls (ib_w 1 1600 h286 rfl) (ib_w 1 1600 h287 rfl) (ib_w 0 1620 h201 rfl) (ib_w 1 2 (ib_c 1 1 1 rfl) rfl) (ib_w 0 1621 hJ0_c0_111 rfl) (ib_w 0 1621 hJ0_c0_113 rfl) (by have := h202; have := (h299).2; have := h211; have := h226; have := h264; have := h284; have := (h286).1; omega) (by have := hJ0_lin1; omega) (by have := (h286).1; have := h284; have := h264; have := h226; have := h211; have := (h299).2; have := hJ0_lin2; omega) (by have := (h286).1; have := h284; have := h264; have := h226; have := h211; have := hJ0_lin3; have := (hx_at).2; omega) (⟨fun q => (hJ0_go.1 q), fun q9 => (by have := h202; have := (h299).2; have := h211; have := h226; have := h264; have := h284; have := (h286).1; omega)⟩) (by try simp only [show (1 : Int32).toInt = (1 : Int) from rfl]; exact hq) (by have := hJ0_c0_111; unfold ib at this; omega) (hP.sub [2, 3, 0, 1] rfl) (hD.sub [2, 3, 0, 1] rfl rfl) hS (lv_sub hl [1, 0] rfl)
                        · as_aux_lemma =>
                            replace hq := lf_pos hq (lf_eq (lf_rf r270) (lf_lc 0 (0 : Int) rfl) c282)
                            have h300 := ib_eq h274 (ib_c 0 0 0 rfl) c282
                            have h301 : ib r270 0 0 := ib_w 0 0 h300.1 rfl
                            refine lv_aload_n hx hb dX10_qGoesOn_216 rfl (lv_at hl 0 rfl) ?_
                            refine lv_bipush (v := 45) hx hb dX10_qGoesOn_217 rfl ?_
                            refine k_jim hP hD hS hA [2, 3] [true, true] rfl rfl rfl 0 0 (Nat.le_of_ble_eq_true rfl) (Nat.le_of_ble_eq_true rfl) (fun hPc hDc => k_runV (As := [.int 45]) (rest := []) C0 hZ hS hA (s_X10_takesSign_a0_45 l dC dI cy sq a_this rm x_taped v272 x_end x_ended x_bad x_badPlace x_fault x_faultPlace x_namePlace x_awayTold x_away x_coded x_statements x_isCrossing x_textKind x_askSecond x_redMany x_isOpen x_lastGreen x_greenTo x_isCycleGreen x_stillGreen x_rowMany x_fitMany x_fitRules x_fitGreen x_undoable x_newest x_seeded J0_c0_111 J0_c0_113 J0_c0_114 x_qBase x_qPiled x_qAnswer x_qIsNew x_octets g_tape (ib_w 0 1600 h273 rfl) (ib_w 0 1600 hx_end rfl) hg_tape) mV_X10_312 hPc hDc rfl rfl rfl hl rfl rfl (Nat.le_of_ble_eq_true rfl) ⟨(Nat.le_of_ble_eq_true rfl), (Nat.le_of_ble_eq_true rfl)⟩ ⟨(Nat.le_of_ble_eq_true rfl), (Nat.le_of_ble_eq_true rfl)⟩ dX10_qGoesOn_219) (fun r302 u303 H locs hw hP hD hS => ?_)
                            obtain ⟨v304, ev304⟩ : ∃ z, z = u303 := ⟨_, rfl⟩; subst ev304
                            try dsimp only at hP hD hw
                            replace hP : va_P (dC, dI) vwCl [(wi_rm112_0_1700_0 rm cy g_qWait), (wi_rm110_0_1700_0 rm cy J0_a3), (a_this, .inr (10, mfs rm x_taped v304 x_end x_ended x_bad x_badPlace x_fault x_faultPlace x_namePlace x_awayTold x_away x_coded x_statements x_isCrossing x_textKind x_askSecond x_redMany x_isOpen x_lastGreen x_greenTo x_isCycleGreen x_stillGreen x_rowMany x_fitMany x_fitRules x_fitGreen x_undoable x_newest x_seeded J0_c0_111 J0_c0_113 J0_c0_114 x_qBase x_qPiled x_qAnswer x_qIsNew x_octets)), (wi_rm0_0_1600_0 rm cy g_tape)] H := hP
                            replace hD := k_D hP hD
                            obtain ⟨h305, h306, h307, h308, h309, h310, h311, h312, h313⟩ := hw
                            replace hq := lf_p1 hq h313
                            refine lv_if_eq (tgt := 308) hx hb dX10_qGoesOn_222 rfl (fun c314 => ?_) (fun c314 => ?_)
                            · as_aux_lemma =>
                                replace hq := lf_pos hq (lf_eq (lf_rf r302) (lf_lc 0 (0 : Int) rfl) c314)
                                have h315 := ib_eq h306 (ib_c 0 0 0 rfl) c314
                                have h316 : ib r302 0 0 := ib_w 0 0 h315.1 rfl
                                refine lv_aload_n hx hb dX10_qGoesOn_308 rfl (lv_at hl 0 rfl) ?_
                                refine k_jim hP hD hS hA [2, 0] [false, true, false, true] rfl rfl rfl 0 0 (Nat.le_of_ble_eq_true rfl) (Nat.le_of_ble_eq_true rfl) (fun hPc hDc => k_runV (As := []) (rest := []) C0 hZ hS hA (s_X10_qBracket l dC dI cy sq a_this rm x_taped v304 x_end x_ended x_bad x_badPlace x_fault x_faultPlace x_namePlace x_awayTold x_away x_coded x_statements x_isCrossing x_textKind x_askSecond x_redMany x_isOpen x_lastGreen x_greenTo x_isCycleGreen x_stillGreen x_rowMany x_fitMany x_fitRules x_fitGreen x_undoable x_newest x_seeded J0_c0_111 J0_c0_113 J0_c0_114 x_qBase x_qPiled x_qAnswer x_qIsNew x_octets g_qWait (ib_w 0 1700 hJ0_c0_113 rfl) (ib_w 0 1700 h201 rfl)) mV_X10_635 hPc hDc rfl rfl rfl hl rfl rfl (Nat.le_of_ble_eq_true rfl) ⟨(Nat.le_of_ble_eq_true rfl), (Nat.le_of_ble_eq_true rfl)⟩ ⟨(Nat.le_of_ble_eq_true rfl), (Nat.le_of_ble_eq_true rfl)⟩ dX10_qGoesOn_309) (fun r317 u318 H locs hw hP hD hS => ?_)
                                try dsimp only at hP hD hw
                                replace hP : va_P (dC, dI) vwCl [(wi_rm110_0_1700_0 rm cy J0_a3), (wi_rm0_0_1600_0 rm cy g_tape), (a_this, .inr (10, mfs rm x_taped v304 x_end x_ended x_bad x_badPlace x_fault x_faultPlace x_namePlace x_awayTold x_away x_coded x_statements x_isCrossing x_textKind x_askSecond x_redMany x_isOpen x_lastGreen x_greenTo x_isCycleGreen x_stillGreen x_rowMany x_fitMany x_fitRules x_fitGreen x_undoable x_newest x_seeded J0_c0_111 J0_c0_113 J0_c0_114 x_qBase x_qPiled x_qAnswer x_qIsNew x_octets)), (wi_rm112_0_1700_0 rm cy g_qWait)] H := hP
                                replace hD := k_D hP hD
                                obtain ⟨h319, h320⟩ := hw
                                replace hq := lf_b1 hq h320
                                refine lv_bipush (v := 21) hx hb dX10_qGoesOn_312 rfl ?_
                                refine lv_icmp_eq (tgt := 326) hx hb dX10_qGoesOn_314 rfl (fun c321 => ?_) (fun c321 => ?_)
                                · as_aux_lemma =>
                                    replace hq := lf_pos hq (lf_eq (lf_rf r317) (lf_lc 21 (21 : Int) rfl) c321)
                                    have h322 := ib_eq (ib_any r317) (ib_c 21 21 21 rfl) c321
                                    have h323 : ib r317 21 21 := ib_w 21 21 h322.1 rfl
                                    refine lv_aload_n hx hb dX10_qGoesOn_326 rfl (lv_at hl 0 rfl) ?_
                                    refine lv_bipush (v := 44) hx hb dX10_qGoesOn_327 rfl ?_
                                    refine k_jvm hP hD hS hA [2, 1] [true, false, false, true] rfl rfl rfl 0 0 (Nat.le_of_ble_eq_true rfl) (Nat.le_of_ble_eq_true rfl) (fun hPc hDc => k_runV (As := [.int 44]) (rest := []) C0 hZ hS hA (s_X10_asksSign_a0_44 l dC dI cy sq a_this rm x_taped v304 x_end x_ended x_bad x_badPlace x_fault x_faultPlace x_namePlace x_awayTold x_away x_coded x_statements x_isCrossing x_textKind x_askSecond x_redMany x_isOpen x_lastGreen x_greenTo x_isCycleGreen x_stillGreen x_rowMany x_fitMany x_fitRules x_fitGreen x_undoable x_newest x_seeded J0_c0_111 J0_c0_113 J0_c0_114 x_qBase x_qPiled x_qAnswer x_qIsNew x_octets g_tape (ib_w 0 1600 h305 rfl) (ib_w 0 1600 hx_end rfl) hg_tape) mV_X10_358 hPc hDc rfl rfl rfl hl rfl rfl (Nat.le_of_ble_eq_true rfl) ⟨(Nat.le_of_ble_eq_true rfl), (Nat.le_of_ble_eq_true rfl)⟩ ⟨(Nat.le_of_ble_eq_true rfl), (Nat.le_of_ble_eq_true rfl)⟩ dX10_qGoesOn_329) (fun u325 H locs hw hP hD hS => ?_)
                                    obtain ⟨v326, v327, v328⟩ := u325
                                    try dsimp only at hP hD hw
                                    replace hP : va_P (dC, dI) vwCl [(wi_rm110_0_1700_0 rm cy J0_a3), (wi_rm112_0_1700_0 rm cy g_qWait), (a_this, .inr (10, mfs rm x_taped v326 x_end x_ended v327 v328 x_fault x_faultPlace x_namePlace x_awayTold x_away x_coded x_statements x_isCrossing x_textKind x_askSecond x_redMany x_isOpen x_lastGreen x_greenTo x_isCycleGreen x_stillGreen x_rowMany x_fitMany x_fitRules x_fitGreen x_undoable x_newest x_seeded J0_c0_111 J0_c0_113 J0_c0_114 x_qBase x_qPiled x_qAnswer x_qIsNew x_octets)), (wi_rm0_0_1600_0 rm cy g_tape)] H := hP
                                    replace hD := k_D hP hD
                                    obtain ⟨h329, h330, h331, h332, h333⟩ := hw
                                    replace hq := lf_p1 hq h333
                                    replace hq := lf_p1 hq rfl
                                    refine lv_aload_n hx hb dX10_qGoesOn_332 rfl (lv_at hl 0 rfl) ?_
                                    refine k_get C0 fg_X10_279 hP 2 rfl rfl dX10_qGoesOn_333 ?_
                                    refine lv_if_eq (tgt := 341) hx hb dX10_qGoesOn_336 rfl (fun c334 => ?_) (fun c334 => ?_)
                                    · as_aux_lemma =>
                                        replace hq := lf_pos hq (lf_eq (lf_rf v327) (lf_lc 0 (0 : Int) rfl) c334)
                                        have h335 := ib_eq (ib_any v327) (ib_c 0 0 0 rfl) c334
                                        have h336 : ib v327 0 0 := ib_w 0 0 h335.1 rfl
                                        have h337 := h332 (ib_one h336 rfl)
                                        have h338 : ib v304 0 1599 := ⟨(h305).1, by have := (h305).2; have := h337; have := (h329).2; omega⟩
                                        have h339 : ib v326 1 1600 := ⟨by have := (h329).1; have := h337; have := (h338).1; omega, (h329).2⟩
                                        have h340 : ib v272 0 1599 := ⟨(h273).1, by have := (h273).2; have := h311; have := (h338).2; omega⟩
                                        refine lv_aload_n hx hb dX10_qGoesOn_341 rfl (lv_at hl 0 rfl) ?_
                                        refine k_jvm hP hD hS hA [2, 1, 0] [false, false, false, true] rfl rfl rfl 0 0 (Nat.le_of_ble_eq_true rfl) (Nat.le_of_ble_eq_true rfl) (fun hPc hDc => k_runV (As := []) (rest := []) C0 hZ hS hA (s_X10_qDropsToBracket l dC dI cy sq a_this rm x_taped v326 x_end x_ended v327 v328 x_fault x_faultPlace x_namePlace x_awayTold x_away x_coded x_statements x_isCrossing x_textKind x_askSecond x_redMany x_isOpen x_lastGreen x_greenTo x_isCycleGreen x_stillGreen x_rowMany x_fitMany x_fitRules x_fitGreen x_undoable x_newest x_seeded J0_c0_111 J0_c0_113 J0_c0_114 x_qBase x_qPiled x_qAnswer x_qIsNew x_octets J0_a3 g_qWait cc (ib_w 0 0 h336 rfl) (ib_w 0 1700 hJ0_c0_111 rfl) (ib_w 0 1700 hJ0_c0_113 rfl) (ib_w 0 1700 h201 rfl) (by have := hJ0_lin2; have := (hJ0_c0_2).2; omega) (by have := hJ0_lin1; omega) (fun q => (hJ0_go.1 (h330 q)))) mV_X10_638 hPc hDc rfl rfl rfl hl rfl rfl (Nat.le_of_ble_eq_true rfl) ⟨(Nat.le_of_ble_eq_true rfl), (Nat.le_of_ble_eq_true rfl)⟩ ⟨(Nat.le_of_ble_eq_true rfl), (Nat.le_of_ble_eq_true rfl)⟩ dX10_qGoesOn_342) (fun u342 H locs hw hP hD hS => ?_)
                                        obtain ⟨v343, v344, f345⟩ := u342
                                        try dsimp only at hP hD hw
                                        replace hP : va_P (dC, dI) vwCl [(wi_rm0_0_1600_0 rm cy g_tape), (a_this, .inr (10, mfs rm x_taped v326 x_end x_ended v327 v328 x_fault x_faultPlace x_namePlace x_awayTold x_away x_coded x_statements x_isCrossing x_textKind x_askSecond x_redMany x_isOpen x_lastGreen x_greenTo x_isCycleGreen x_stillGreen x_rowMany x_fitMany x_fitRules x_fitGreen x_undoable x_newest x_seeded v343 v344 J0_c0_114 x_qBase x_qPiled x_qAnswer x_qIsNew x_octets)), (wi_rm112_0_1700_0 rm cy g_qWait), (wi_rm110_0_1700_0 rm cy f345)] H := hP
                                        replace hD := k_D hP hD
                                        obtain ⟨h346, h347, h348, h349, h350, h351, h352, h353, h354⟩ := hw
                                        replace hq := lf_p1 hq h354
                                        replace hq := lf_p1 hq rfl
                                        have h355 := BR_DB h319 h353 (ib_nc (-1) h323 rfl)
                                        have h356 : 1 * x_qBase.toInt + (-1) * v344.toInt ≤ (-1) := by have q1 := h355.2; have q2 := (h201).1; omega
                                        have h357 : ib v257 0 1599 := ⟨(h258).1, by have := (h258).2; have := h279; have := (h340).2; omega⟩
                                        have h358 : ib v344 0 1621 := ⟨(h347).1, by have := (h347).2; have := h350; have := (hJ0_c0_113).2; omega⟩
                                        have h359 : ib v344 1 1621 := ⟨by have := (h358).1; have := h356; have := (h201).1; omega, (h358).2⟩
                                        refine lv_aload_n hx hb dX10_qGoesOn_345 rfl (lv_at hl 0 rfl) ?_
                                        refine k_get C0 fg_X10_267 hP 1 rfl rfl dX10_qGoesOn_346 ?_
                                        refine lv_aload_n hx hb dX10_qGoesOn_349 rfl (lv_at hl 0 rfl) ?_
                                        refine k_get C0 fg_X10_372 hP 1 rfl rfl dX10_qGoesOn_350 ?_
                                        refine lv_iconst (v := 1) hx hb dX10_qGoesOn_353 rfl ?_
                                        refine lv_isub hx hb dX10_qGoesOn_354 ?_
                                        refine lv_topi (fun z360 ez360 => ?_)
                                        have h361 := ib_sub h359 (ib_c 1 1 1 rfl) rfl
                                        rw [← ez360] at h361
                                        as_aux_lemma =>
                                          have h362 : ib z360 0 1620 := ib_w 0 1620 h361.1 rfl
                                          have Ez360 := lf_sub h361.2 (lf_rf v344) (lf_lc 1 (1 : Int) rfl)
                                          refine lv_dup2_11 hx hb dX10_qGoesOn_355 rfl rfl ?_
                                          refine va_iald hx hb C0.2.2.2.2.2.1 hP 2 0 rfl rfl (ib_in 1700 h362 rfl) dX10_qGoesOn_356 ?_
                                          refine lv_topi (fun z363 ez363 => ?_)
                                          have Ez363 := lf_ld ez363 (lf_ra g_qWait) Ez360
                                          have h364 : ib z363 21 21 := by rw [ez363, show Int32.toNatClampNeg z360 = v344.toInt.toNat - 1 from by show (Int32.toInt z360).toNat = _; have := (h359).1; have := (h359).2; have := h348; have := h349; have := h350; have := h351; have := h356; have := (h201).1; have := (h201).2; have := hL1; have := hJ0_lin1; have := (hJ0_c0_113).1; have := (hJ0_c0_113).2; have := hJ0_lin0; have := hJ0_lin2; have := h202; have := (hJ0_c0_111).1; have := (hJ0_c0_111).2; have := (h346).1; have := (h346).2; have := (hx_at).1; have := (hx_at).2; have := hL0; have := hJ0_lin3; have := (h200).1; have := (h200).2; have := (h199).1; have := (h199).2; have := (hJ0_c0_2).1; have := (hJ0_c0_2).2; have := h211; have := (h206).1; have := (h206).2; have := h226; have := (h220).1; have := (h220).2; have := h264; have := (h357).1; have := (h357).2; have := h279; have := (h340).1; have := (h340).2; have := h311; have := (h338).1; have := (h338).2; have := h331; have := h337; have := (h339).1; have := (h339).2; have := (h362).1; have := (h362).2; have := h361.2; have : (1 : Int32).toInt = 1 := rfl; omega, h355.1]; exact h323
                                          refine lv_iconst (v := 2) hx hb dX10_qGoesOn_357 rfl ?_
                                          refine lv_iadd hx hb dX10_qGoesOn_358 ?_
                                          refine lv_topi (fun z365 ez365 => ?_)
                                          have h366 := ib_add h364 (ib_c 2 2 2 rfl) rfl
                                          rw [← ez365] at h366
                                          have h367 : ib z365 23 23 := ib_w 23 23 h366.1 rfl
                                          have Ez365 := lf_add h366.2 Ez363 (lf_lc 2 (2 : Int) rfl)
                                          refine va_iast hx hb C0.2.2.2.2.2.1 hP hD hS 2 0 rfl rfl (ib_in 1700 h362 rfl) dX10_qGoesOn_359 (fun H locs hP hD hS => ?_)
                                          have h369 : (upd g_qWait (Int32.toNatClampNeg z360) z365) (Int32.toNatClampNeg z360) = z365 := pk_us
                                          replace hP : va_P (dC, dI) vwCl [(wi_rm0_0_1600_0 rm cy g_tape), (a_this, .inr (10, mfs rm x_taped v326 x_end x_ended v327 v328 x_fault x_faultPlace x_namePlace x_awayTold x_away x_coded x_statements x_isCrossing x_textKind x_askSecond x_redMany x_isOpen x_lastGreen x_greenTo x_isCycleGreen x_stillGreen x_rowMany x_fitMany x_fitRules x_fitGreen x_undoable x_newest x_seeded v343 v344 J0_c0_114 x_qBase x_qPiled x_qAnswer x_qIsNew x_octets)), (wi_rm112_0_1700_0 rm cy (upd g_qWait (Int32.toNatClampNeg z360) z365)), (wi_rm110_0_1700_0 rm cy f345)] H := hP
                                          replace hD := k_D hP hD
                                          generalize h370E : upd g_qWait (Int32.toNatClampNeg z360) z365 = f368 at hP hD h369
                                          have ef368 := h370E
                                          have Ef368 := lf_st ef368 (lf_ra g_qWait) Ez360 Ez365
                                          have h371 : v327 = 0 → GS f345 v343 f368 v344 x_qBase x_textKind cc := fun q => (by rw [h370E.symm]; exact GS_comma (h352 q) (by have := (h201).1; have := (h201).2; have := hL1; have := hJ0_lin1; have := h351; have := h356; have := (h359).1; have := (h359).2; have := h348; have := h349; have := h350; have := (hJ0_c0_113).1; have := (hJ0_c0_113).2; have := hJ0_lin0; have := hJ0_lin2; have := h202; have := (hJ0_c0_111).1; have := (hJ0_c0_111).2; have := (h346).1; have := (h346).2; have := (hx_at).1; have := (hx_at).2; have := hL0; have := hJ0_lin3; have := (h200).1; have := (h200).2; have := (h199).1; have := (h199).2; have := (hJ0_c0_2).1; have := (hJ0_c0_2).2; have := h211; have := (h206).1; have := (h206).2; have := h226; have := (h220).1; have := (h220).2; have := h264; have := (h357).1; have := (h357).2; have := h279; have := (h340).1; have := (h340).2; have := h311; have := (h338).1; have := (h338).2; have := h331; have := h337; have := (h339).1; have := (h339).2; have := (h362).1; have := (h362).2; have := h361.2; have : (1 : Int32).toInt = 1 := rfl; omega) (by have := (h201).1; have := (h201).2; have := hL1; have := hJ0_lin1; have := h351; have := h356; have := (h359).1; have := (h359).2; have := h348; have := h349; have := h350; have := (hJ0_c0_113).1; have := (hJ0_c0_113).2; have := hJ0_lin0; have := hJ0_lin2; have := h202; have := (hJ0_c0_111).1; have := (hJ0_c0_111).2; have := (h346).1; have := (h346).2; have := (hx_at).1; have := (hx_at).2; have := hL0; have := hJ0_lin3; have := (h200).1; have := (h200).2; have := (h199).1; have := (h199).2; have := (hJ0_c0_2).1; have := (hJ0_c0_2).2; have := h211; have := (h206).1; have := (h206).2; have := h226; have := (h220).1; have := (h220).2; have := h264; have := (h357).1; have := (h357).2; have := h279; have := (h340).1; have := (h340).2; have := h311; have := (h338).1; have := (h338).2; have := h331; have := h337; have := (h339).1; have := (h339).2; have := (h362).1; have := (h362).2; have := h361.2; have : (1 : Int32).toInt = 1 := rfl; omega) (by rw [← ez363]; have := (h364).1; have := (h364).2; omega) ⟨by have := (h367).1; omega, by have := (h367).2; omega⟩)
                                          refine lv_iconst (v := 1) hx hb dX10_qGoesOn_360 rfl ?_
                                          subst hQ; exact k_iret hx hb hr hlk (k_nb 1 rfl) ((v326, v327, v328, v343, v344, J0_c0_114, f368, f345)) hS ⟨ib_w 0 1600 h339 rfl, ib_w 0 1700 h346 rfl, ib_w 0 1622 h359 rfl, ib_w 0 1 (ib_c 1 1 1 rfl) rfl, fun _ => ib_w 1 1600 h339 rfl, fun _ => ib_w 0 0 h336 rfl, fun _ => ib_w 1 1622 h359 rfl, fun _ => ib_w 0 1620 h199 rfl, fun _ => ib_w 0 1620 h200 rfl, fun _ => ib_w 0 1620 h201 rfl, fun _ => ib_one hx_bad rfl, (by have := h202; have := (hJ0_c0_2).2; have := h211; have := h226; have := h264; have := h279; have := h311; have := h337; have := (h339).1; have := h348; omega), fun hq9 => (by have := h202; have := (hJ0_c0_2).2; have := h211; have := h348; have := h226; have := h264; have := h279; have := h311; have := h337; have := (h339).1; omega), (by have := (h339).1; have := h337; have := h311; have := h279; have := h264; have := h226; have := h211; have := hJ0_lin3; have := (hx_at).2; omega), (by have := h356; omega), fun hq8 => fun q => (h371 q), fun hq8 => absurd hq8 (by decide), (hO.symm.trans (by try simp only [show (1 : Int32).toInt = (1 : Int) from rfl]; rw [lf_ua Ef368]; exact hq))⟩ (hP.sub [1, 0, 2, 3] rfl) (hD.sub [1, 0, 2, 3] rfl rfl) (Nat.le_of_ble_eq_true rfl) (Nat.le_of_ble_eq_true rfl) dX10_qGoesOn_361
                                    · replace hq := lf_neg hq (lf_ne (lf_rf v327) (lf_lc 0 (0 : Int) rfl) c334)
                                      refine lv_iconst (v := 0) hx hb dX10_qGoesOn_339 rfl ?_
                                      subst hQ; exact k_iret hx hb hr hlk (k_nb 0 rfl) ((v326, v327, v328, J0_c0_111, J0_c0_113, J0_c0_114, g_qWait, J0_a3)) hS ⟨ib_w 0 1600 h329 rfl, ib_w 0 1700 hJ0_c0_111 rfl, ib_w 0 1622 hJ0_c0_113 rfl, ib_w 0 1 (ib_c 0 0 0 rfl) rfl, fun hq9 => absurd rfl hq9, fun hq9 => absurd rfl hq9, fun hq9 => absurd rfl hq9, fun hq9 => absurd rfl hq9, fun hq9 => absurd rfl hq9, fun hq9 => absurd rfl hq9, fun _ => ib_one hx_bad rfl, (by have := h202; have := (hJ0_c0_2).2; have := h211; have := h226; have := h264; have := h279; have := h311; have := h331; have := (h329).1; omega), fun q => absurd q c334, (by have := (h329).1; have := h331; have := h311; have := h279; have := h264; have := h226; have := h211; have := hJ0_lin3; have := (hx_at).2; omega), (by have := hJ0_lin1; omega), fun hq8 => absurd rfl hq8, fun hq8 => fun q => absurd q c334, (hO.symm.trans (by try simp only [show (0 : Int32).toInt = (0 : Int) from rfl]; exact hq))⟩ (hP.sub [2, 3, 1, 0] rfl) (hD.sub [2, 3, 1, 0] rfl rfl) (Nat.le_of_ble_eq_true rfl) (Nat.le_of_ble_eq_true rfl) dX10_qGoesOn_340
                                · as_aux_lemma =>
                                    replace hq := lf_neg hq (lf_ne (lf_rf r317) (lf_lc 21 (21 : Int) rfl) c321)
                                    refine lv_aload_n hx hb dX10_qGoesOn_317 rfl (lv_at hl 0 rfl) ?_
                                    refine k_jim hP hD hS hA [2, 3] [true, true] rfl rfl rfl 0 0 (Nat.le_of_ble_eq_true rfl) (Nat.le_of_ble_eq_true rfl) (fun hPc hDc => k_runV (As := []) (rest := []) C0 hZ hS hA (s_X10_qBracket l dC dI cy sq a_this rm x_taped v304 x_end x_ended x_bad x_badPlace x_fault x_faultPlace x_namePlace x_awayTold x_away x_coded x_statements x_isCrossing x_textKind x_askSecond x_redMany x_isOpen x_lastGreen x_greenTo x_isCycleGreen x_stillGreen x_rowMany x_fitMany x_fitRules x_fitGreen x_undoable x_newest x_seeded J0_c0_111 J0_c0_113 J0_c0_114 x_qBase x_qPiled x_qAnswer x_qIsNew x_octets g_qWait (ib_w 0 1700 hJ0_c0_113 rfl) (ib_w 0 1700 h201 rfl)) mV_X10_635 hPc hDc rfl rfl rfl hl rfl rfl (Nat.le_of_ble_eq_true rfl) ⟨(Nat.le_of_ble_eq_true rfl), (Nat.le_of_ble_eq_true rfl)⟩ ⟨(Nat.le_of_ble_eq_true rfl), (Nat.le_of_ble_eq_true rfl)⟩ dX10_qGoesOn_318) (fun r372 u373 H locs hw hP hD hS => ?_)
                                    try dsimp only at hP hD hw
                                    replace hP : va_P (dC, dI) vwCl [(wi_rm110_0_1700_0 rm cy J0_a3), (wi_rm0_0_1600_0 rm cy g_tape), (a_this, .inr (10, mfs rm x_taped v304 x_end x_ended x_bad x_badPlace x_fault x_faultPlace x_namePlace x_awayTold x_away x_coded x_statements x_isCrossing x_textKind x_askSecond x_redMany x_isOpen x_lastGreen x_greenTo x_isCycleGreen x_stillGreen x_rowMany x_fitMany x_fitRules x_fitGreen x_undoable x_newest x_seeded J0_c0_111 J0_c0_113 J0_c0_114 x_qBase x_qPiled x_qAnswer x_qIsNew x_octets)), (wi_rm112_0_1700_0 rm cy g_qWait)] H := hP
                                    replace hD := k_D hP hD
                                    obtain ⟨h374, h375⟩ := hw
                                    replace hq := lf_b1 hq h375
                                    refine lv_bipush (v := 22) hx hb dX10_qGoesOn_321 rfl ?_
                                    refine lv_icmp_ne (tgt := 362) hx hb dX10_qGoesOn_323 rfl (fun c376 => ?_) (fun c376 => ?_)
                                    · as_aux_lemma =>
                                        replace hq := lf_neg hq (lf_ne (lf_rf r372) (lf_lc 22 (22 : Int) rfl) c376)
                                        refine lv_aload_n hx hb dX10_qGoesOn_362 rfl (lv_at hl 0 rfl) ?_
                                        refine k_jim hP hD hS hA [2, 3] [true, true] rfl rfl rfl 0 0 (Nat.le_of_ble_eq_true rfl) (Nat.le_of_ble_eq_true rfl) (fun hPc hDc => k_runV (As := []) (rest := []) C0 hZ hS hA (s_X10_qBracket l dC dI cy sq a_this rm x_taped v304 x_end x_ended x_bad x_badPlace x_fault x_faultPlace x_namePlace x_awayTold x_away x_coded x_statements x_isCrossing x_textKind x_askSecond x_redMany x_isOpen x_lastGreen x_greenTo x_isCycleGreen x_stillGreen x_rowMany x_fitMany x_fitRules x_fitGreen x_undoable x_newest x_seeded J0_c0_111 J0_c0_113 J0_c0_114 x_qBase x_qPiled x_qAnswer x_qIsNew x_octets g_qWait (ib_w 0 1700 hJ0_c0_113 rfl) (ib_w 0 1700 h201 rfl)) mV_X10_635 hPc hDc rfl rfl rfl hl rfl rfl (Nat.le_of_ble_eq_true rfl) ⟨(Nat.le_of_ble_eq_true rfl), (Nat.le_of_ble_eq_true rfl)⟩ ⟨(Nat.le_of_ble_eq_true rfl), (Nat.le_of_ble_eq_true rfl)⟩ dX10_qGoesOn_363) (fun r377 u378 H locs hw hP hD hS => ?_)
                                        try dsimp only at hP hD hw
                                        replace hP : va_P (dC, dI) vwCl [(wi_rm110_0_1700_0 rm cy J0_a3), (wi_rm0_0_1600_0 rm cy g_tape), (a_this, .inr (10, mfs rm x_taped v304 x_end x_ended x_bad x_badPlace x_fault x_faultPlace x_namePlace x_awayTold x_away x_coded x_statements x_isCrossing x_textKind x_askSecond x_redMany x_isOpen x_lastGreen x_greenTo x_isCycleGreen x_stillGreen x_rowMany x_fitMany x_fitRules x_fitGreen x_undoable x_newest x_seeded J0_c0_111 J0_c0_113 J0_c0_114 x_qBase x_qPiled x_qAnswer x_qIsNew x_octets)), (wi_rm112_0_1700_0 rm cy g_qWait)] H := hP
                                        replace hD := k_D hP hD
                                        obtain ⟨h379, h380⟩ := hw
                                        replace hq := lf_b1 hq h380
                                        refine lv_iconst (v := (-1)) hx hb dX10_qGoesOn_366 rfl ?_
                                        refine lv_icmp_eq (tgt := 386) hx hb dX10_qGoesOn_367 rfl (fun c381 => ?_) (fun c381 => ?_)
                                        · replace hq := lf_pos hq (lf_eq (lf_rf r377) (lf_lc (-1) (-1 : Int) rfl) c381)
                                          have h382 := ib_eq (ib_any r377) (ib_c (-1) (-1) (-1) rfl) c381
                                          have h383 : ib r377 (-1) (-1) := ib_w (-1) (-1) h382.1 rfl
                                          refine lv_iconst (v := 0) hx hb dX10_qGoesOn_386 rfl ?_
                                          subst hQ; exact k_iret hx hb hr hlk (k_nb 0 rfl) ((v304, x_bad, x_badPlace, J0_c0_111, J0_c0_113, J0_c0_114, g_qWait, J0_a3)) hS ⟨ib_w 0 1600 h305 rfl, ib_w 0 1700 hJ0_c0_111 rfl, ib_w 0 1622 hJ0_c0_113 rfl, ib_w 0 1 (ib_c 0 0 0 rfl) rfl, fun hq9 => absurd rfl hq9, fun hq9 => absurd rfl hq9, fun hq9 => absurd rfl hq9, fun hq9 => absurd rfl hq9, fun hq9 => absurd rfl hq9, fun hq9 => absurd rfl hq9, fun q => q, (by have := h202; have := (hJ0_c0_2).2; have := h211; have := h226; have := h264; have := h279; have := h311; have := (h305).1; omega), fun hq9 => (by have := h202; have := (hJ0_c0_2).2; have := h211; have := h226; have := h264; have := h279; have := h311; have := (h305).1; omega), (by have := (h305).1; have := h311; have := h279; have := h264; have := h226; have := h211; have := hJ0_lin3; have := (hx_at).2; omega), (by have := hJ0_lin1; omega), fun hq8 => absurd rfl hq8, fun hq8 => fun q => ⟨(hJ0_go.1 q), BR_none h379 (ib_one h383 rfl)⟩, (hO.symm.trans (by try simp only [show (0 : Int32).toInt = (0 : Int) from rfl]; exact hq))⟩ (hP.sub [2, 1, 3, 0] rfl) (hD.sub [2, 1, 3, 0] rfl rfl) (Nat.le_of_ble_eq_true rfl) (Nat.le_of_ble_eq_true rfl) dX10_qGoesOn_387
                                        · replace hq := lf_neg hq (lf_ne (lf_rf r377) (lf_lc (-1) (-1 : Int) rfl) c381)
                                          refine lv_aload_n hx hb dX10_qGoesOn_370 rfl (lv_at hl 0 rfl) ?_
                                          refine k_get C0 fg_X10_279 hP 2 rfl rfl dX10_qGoesOn_371 ?_
                                          refine lv_if_ne (tgt := 386) hx hb dX10_qGoesOn_374 rfl (fun c384 => ?_) (fun c384 => ?_)
                                          · skip
                                            exact absurd (ib_one hx_bad rfl) c384
                                          · skip
                                            have h385 := ib_eq hx_bad (ib_c 0 0 0 rfl) c384
                                            have h386 := hJ0_go.2 (ib_one hx_bad rfl)
                                            refine lv_aload_n hx hb dX10_qGoesOn_377 rfl (lv_at hl 0 rfl) ?_
                                            refine lv_iconst (v := 1) hx hb dX10_qGoesOn_378 rfl ?_
                                            refine lv_aload_n hx hb dX10_qGoesOn_379 rfl (lv_at hl 0 rfl) ?_
                                            refine k_get C0 fg_X10_285 hP 2 rfl rfl dX10_qGoesOn_380 ?_
                                            refine k_jvm hP hD hS hA [2] [true, true, false, true] rfl rfl rfl 0 0 (Nat.le_of_ble_eq_true rfl) (Nat.le_of_ble_eq_true rfl) (fun hPc hDc => k_runV (As := [.int 1, .int v304]) (rest := []) C0 hZ hS hA (s_X10_fail_a0_1_f_bad_0_0 l dC dI cy sq a_this rm x_taped v304 x_end x_ended x_bad x_badPlace x_fault x_faultPlace x_namePlace x_awayTold x_away x_coded x_statements x_isCrossing x_textKind x_askSecond x_redMany x_isOpen x_lastGreen x_greenTo x_isCycleGreen x_stillGreen x_rowMany x_fitMany x_fitRules x_fitGreen x_undoable x_newest x_seeded J0_c0_111 J0_c0_113 J0_c0_114 x_qBase x_qPiled x_qAnswer x_qIsNew x_octets v304 (ib_w 0 0 hx_bad rfl)) mV_X10_308 hPc hDc rfl rfl rfl hl rfl rfl (Nat.le_of_ble_eq_true rfl) ⟨(Nat.le_of_ble_eq_true rfl), (Nat.le_of_ble_eq_true rfl)⟩ ⟨(Nat.le_of_ble_eq_true rfl), (Nat.le_of_ble_eq_true rfl)⟩ dX10_qGoesOn_383) (fun u388 H locs hw hP hD hS => ?_)
                                            try dsimp only at hP hD hw
                                            replace hP : va_P (dC, dI) vwCl [(wi_rm110_0_1700_0 rm cy J0_a3), (wi_rm0_0_1600_0 rm cy g_tape), (wi_rm112_0_1700_0 rm cy g_qWait), (a_this, .inr (10, mfs rm x_taped v304 x_end x_ended 1 v304 x_fault x_faultPlace x_namePlace x_awayTold x_away x_coded x_statements x_isCrossing x_textKind x_askSecond x_redMany x_isOpen x_lastGreen x_greenTo x_isCycleGreen x_stillGreen x_rowMany x_fitMany x_fitRules x_fitGreen x_undoable x_newest x_seeded J0_c0_111 J0_c0_113 J0_c0_114 x_qBase x_qPiled x_qAnswer x_qIsNew x_octets))] H := hP
                                            replace hD := k_D hP hD
                                            refine lv_iconst (v := 0) hx hb dX10_qGoesOn_386 rfl ?_
                                            subst hQ; exact k_iret hx hb hr hlk (k_nb 0 rfl) ((v304, 1, v304, J0_c0_111, J0_c0_113, J0_c0_114, g_qWait, J0_a3)) hS ⟨ib_w 0 1600 h305 rfl, ib_w 0 1700 hJ0_c0_111 rfl, ib_w 0 1622 hJ0_c0_113 rfl, ib_w 0 1 (ib_c 0 0 0 rfl) rfl, fun hq9 => absurd rfl hq9, fun hq9 => absurd rfl hq9, fun hq9 => absurd rfl hq9, fun hq9 => absurd rfl hq9, fun hq9 => absurd rfl hq9, fun hq9 => absurd rfl hq9, fun q => absurd q (by decide), (by have := h202; have := (hJ0_c0_2).2; have := h211; have := h226; have := h264; have := h279; have := h311; have := (h305).1; omega), fun q => absurd q (by decide), (by have := (h305).1; have := h311; have := h279; have := h264; have := h226; have := h211; have := hJ0_lin3; have := (hx_at).2; omega), (by have := hJ0_lin1; omega), fun hq8 => absurd rfl hq8, fun hq8 => fun q => absurd q (by decide), (hO.symm.trans (by try simp only [show (0 : Int32).toInt = (0 : Int) from rfl]; try simp only [show (1 : Int32).toInt = (1 : Int) from rfl]; exact hq))⟩ (hP.sub [3, 1, 2, 0] rfl) (hD.sub [3, 1, 2, 0] rfl rfl) (Nat.le_of_ble_eq_true rfl) (Nat.le_of_ble_eq_true rfl) dX10_qGoesOn_387
                                    · as_aux_lemma =>
                                        replace hq := lf_pos hq (lf_eq (lf_rf r372) (lf_lc 22 (22 : Int) rfl) c376)
                                        have h389 := ib_eq (ib_any r372) (ib_c 22 22 22 rfl) c376
                                        have h390 : ib r372 22 22 := ib_w 22 22 h389.1 rfl
                                        refine lv_aload_n hx hb dX10_qGoesOn_326 rfl (lv_at hl 0 rfl) ?_
                                        refine lv_bipush (v := 44) hx hb dX10_qGoesOn_327 rfl ?_
                                        refine k_jvm hP hD hS hA [2, 1] [true, false, false, true] rfl rfl rfl 0 0 (Nat.le_of_ble_eq_true rfl) (Nat.le_of_ble_eq_true rfl) (fun hPc hDc => k_runV (As := [.int 44]) (rest := []) C0 hZ hS hA (s_X10_asksSign_a0_44 l dC dI cy sq a_this rm x_taped v304 x_end x_ended x_bad x_badPlace x_fault x_faultPlace x_namePlace x_awayTold x_away x_coded x_statements x_isCrossing x_textKind x_askSecond x_redMany x_isOpen x_lastGreen x_greenTo x_isCycleGreen x_stillGreen x_rowMany x_fitMany x_fitRules x_fitGreen x_undoable x_newest x_seeded J0_c0_111 J0_c0_113 J0_c0_114 x_qBase x_qPiled x_qAnswer x_qIsNew x_octets g_tape (ib_w 0 1600 h305 rfl) (ib_w 0 1600 hx_end rfl) hg_tape) mV_X10_358 hPc hDc rfl rfl rfl hl rfl rfl (Nat.le_of_ble_eq_true rfl) ⟨(Nat.le_of_ble_eq_true rfl), (Nat.le_of_ble_eq_true rfl)⟩ ⟨(Nat.le_of_ble_eq_true rfl), (Nat.le_of_ble_eq_true rfl)⟩ dX10_qGoesOn_329) (fun u392 H locs hw hP hD hS => ?_)
                                        obtain ⟨v393, v394, v395⟩ := u392
                                        try dsimp only at hP hD hw
                                        replace hP : va_P (dC, dI) vwCl [(wi_rm110_0_1700_0 rm cy J0_a3), (wi_rm112_0_1700_0 rm cy g_qWait), (a_this, .inr (10, mfs rm x_taped v393 x_end x_ended v394 v395 x_fault x_faultPlace x_namePlace x_awayTold x_away x_coded x_statements x_isCrossing x_textKind x_askSecond x_redMany x_isOpen x_lastGreen x_greenTo x_isCycleGreen x_stillGreen x_rowMany x_fitMany x_fitRules x_fitGreen x_undoable x_newest x_seeded J0_c0_111 J0_c0_113 J0_c0_114 x_qBase x_qPiled x_qAnswer x_qIsNew x_octets)), (wi_rm0_0_1600_0 rm cy g_tape)] H := hP
                                        replace hD := k_D hP hD
                                        obtain ⟨h396, h397, h398, h399, h400⟩ := hw
                                        replace hq := lf_p1 hq h400
                                        replace hq := lf_p1 hq rfl
                                        refine lv_aload_n hx hb dX10_qGoesOn_332 rfl (lv_at hl 0 rfl) ?_
                                        refine k_get C0 fg_X10_279 hP 2 rfl rfl dX10_qGoesOn_333 ?_
                                        refine lv_if_eq (tgt := 341) hx hb dX10_qGoesOn_336 rfl (fun c401 => ?_) (fun c401 => ?_)
                                        · as_aux_lemma =>
                                            replace hq := lf_pos hq (lf_eq (lf_rf v394) (lf_lc 0 (0 : Int) rfl) c401)
                                            have h402 := ib_eq (ib_any v394) (ib_c 0 0 0 rfl) c401
                                            have h403 : ib v394 0 0 := ib_w 0 0 h402.1 rfl
                                            have h404 := h399 (ib_one h403 rfl)
                                            have h405 : ib v304 0 1599 := ⟨(h305).1, by have := (h305).2; have := h404; have := (h396).2; omega⟩
                                            have h406 : ib v393 1 1600 := ⟨by have := (h396).1; have := h404; have := (h405).1; omega, (h396).2⟩
                                            have h407 : ib v272 0 1599 := ⟨(h273).1, by have := (h273).2; have := h311; have := (h405).2; omega⟩
                                            refine lv_aload_n hx hb dX10_qGoesOn_341 rfl (lv_at hl 0 rfl) ?_
                                            refine k_jvm hP hD hS hA [2, 1, 0] [false, false, false, true] rfl rfl rfl 0 0 (Nat.le_of_ble_eq_true rfl) (Nat.le_of_ble_eq_true rfl) (fun hPc hDc => k_runV (As := []) (rest := []) C0 hZ hS hA (s_X10_qDropsToBracket l dC dI cy sq a_this rm x_taped v393 x_end x_ended v394 v395 x_fault x_faultPlace x_namePlace x_awayTold x_away x_coded x_statements x_isCrossing x_textKind x_askSecond x_redMany x_isOpen x_lastGreen x_greenTo x_isCycleGreen x_stillGreen x_rowMany x_fitMany x_fitRules x_fitGreen x_undoable x_newest x_seeded J0_c0_111 J0_c0_113 J0_c0_114 x_qBase x_qPiled x_qAnswer x_qIsNew x_octets J0_a3 g_qWait cc (ib_w 0 0 h403 rfl) (ib_w 0 1700 hJ0_c0_111 rfl) (ib_w 0 1700 hJ0_c0_113 rfl) (ib_w 0 1700 h201 rfl) (by have := hJ0_lin2; have := (hJ0_c0_2).2; omega) (by have := hJ0_lin1; omega) (fun q => (hJ0_go.1 (h397 q)))) mV_X10_638 hPc hDc rfl rfl rfl hl rfl rfl (Nat.le_of_ble_eq_true rfl) ⟨(Nat.le_of_ble_eq_true rfl), (Nat.le_of_ble_eq_true rfl)⟩ ⟨(Nat.le_of_ble_eq_true rfl), (Nat.le_of_ble_eq_true rfl)⟩ dX10_qGoesOn_342) (fun u409 H locs hw hP hD hS => ?_)
                                            obtain ⟨v410, v411, f412⟩ := u409
                                            try dsimp only at hP hD hw
                                            replace hP : va_P (dC, dI) vwCl [(wi_rm0_0_1600_0 rm cy g_tape), (a_this, .inr (10, mfs rm x_taped v393 x_end x_ended v394 v395 x_fault x_faultPlace x_namePlace x_awayTold x_away x_coded x_statements x_isCrossing x_textKind x_askSecond x_redMany x_isOpen x_lastGreen x_greenTo x_isCycleGreen x_stillGreen x_rowMany x_fitMany x_fitRules x_fitGreen x_undoable x_newest x_seeded v410 v411 J0_c0_114 x_qBase x_qPiled x_qAnswer x_qIsNew x_octets)), (wi_rm112_0_1700_0 rm cy g_qWait), (wi_rm110_0_1700_0 rm cy f412)] H := hP
                                            replace hD := k_D hP hD
                                            obtain ⟨h413, h414, h415, h416, h417, h418, h419, h420, h421⟩ := hw
                                            replace hq := lf_p1 hq h421
                                            replace hq := lf_p1 hq rfl
                                            have h422 := BR_DB h374 h420 (ib_nc (-1) h390 rfl)
                                            have h423 : 1 * x_qBase.toInt + (-1) * v411.toInt ≤ (-1) := by have q1 := h422.2; have q2 := (h201).1; omega
                                            have h424 : ib v257 0 1599 := ⟨(h258).1, by have := (h258).2; have := h279; have := (h407).2; omega⟩
                                            have h425 : ib v411 0 1621 := ⟨(h414).1, by have := (h414).2; have := h417; have := (hJ0_c0_113).2; omega⟩
                                            have h426 : ib v411 1 1621 := ⟨by have := (h425).1; have := h423; have := (h201).1; omega, (h425).2⟩
                                            refine lv_aload_n hx hb dX10_qGoesOn_345 rfl (lv_at hl 0 rfl) ?_
                                            refine k_get C0 fg_X10_267 hP 1 rfl rfl dX10_qGoesOn_346 ?_
                                            refine lv_aload_n hx hb dX10_qGoesOn_349 rfl (lv_at hl 0 rfl) ?_
                                            refine k_get C0 fg_X10_372 hP 1 rfl rfl dX10_qGoesOn_350 ?_
                                            refine lv_iconst (v := 1) hx hb dX10_qGoesOn_353 rfl ?_
                                            refine lv_isub hx hb dX10_qGoesOn_354 ?_
                                            refine lv_topi (fun z427 ez427 => ?_)
                                            have h428 := ib_sub h426 (ib_c 1 1 1 rfl) rfl
                                            rw [← ez427] at h428
                                            as_aux_lemma =>
                                              have h429 : ib z427 0 1620 := ib_w 0 1620 h428.1 rfl
                                              have Ez427 := lf_sub h428.2 (lf_rf v411) (lf_lc 1 (1 : Int) rfl)
                                              refine lv_dup2_11 hx hb dX10_qGoesOn_355 rfl rfl ?_
                                              refine va_iald hx hb C0.2.2.2.2.2.1 hP 2 0 rfl rfl (ib_in 1700 h429 rfl) dX10_qGoesOn_356 ?_
                                              refine lv_topi (fun z430 ez430 => ?_)
                                              have Ez430 := lf_ld ez430 (lf_ra g_qWait) Ez427
                                              have h431 : ib z430 22 22 := by rw [ez430, show Int32.toNatClampNeg z427 = v411.toInt.toNat - 1 from by show (Int32.toInt z427).toNat = _; have := (h426).1; have := (h426).2; have := h415; have := h416; have := h417; have := h418; have := h423; have := (h201).1; have := (h201).2; have := hL1; have := hJ0_lin1; have := (hJ0_c0_113).1; have := (hJ0_c0_113).2; have := hJ0_lin0; have := hJ0_lin2; have := h202; have := (hJ0_c0_111).1; have := (hJ0_c0_111).2; have := (h413).1; have := (h413).2; have := (hx_at).1; have := (hx_at).2; have := hL0; have := hJ0_lin3; have := (h200).1; have := (h200).2; have := (h199).1; have := (h199).2; have := (hJ0_c0_2).1; have := (hJ0_c0_2).2; have := h211; have := (h206).1; have := (h206).2; have := h226; have := (h220).1; have := (h220).2; have := h264; have := (h424).1; have := (h424).2; have := h279; have := (h407).1; have := (h407).2; have := h311; have := (h405).1; have := (h405).2; have := h398; have := h404; have := (h406).1; have := (h406).2; have := (h429).1; have := (h429).2; have := h428.2; have : (1 : Int32).toInt = 1 := rfl; omega, h422.1]; exact h390
                                              refine lv_iconst (v := 2) hx hb dX10_qGoesOn_357 rfl ?_
                                              refine lv_iadd hx hb dX10_qGoesOn_358 ?_
                                              refine lv_topi (fun z432 ez432 => ?_)
                                              have h433 := ib_add h431 (ib_c 2 2 2 rfl) rfl
                                              rw [← ez432] at h433
                                              have h434 : ib z432 24 24 := ib_w 24 24 h433.1 rfl
                                              have Ez432 := lf_add h433.2 Ez430 (lf_lc 2 (2 : Int) rfl)
                                              refine va_iast hx hb C0.2.2.2.2.2.1 hP hD hS 2 0 rfl rfl (ib_in 1700 h429 rfl) dX10_qGoesOn_359 (fun H locs hP hD hS => ?_)
                                              have h436 : (upd g_qWait (Int32.toNatClampNeg z427) z432) (Int32.toNatClampNeg z427) = z432 := pk_us
                                              replace hP : va_P (dC, dI) vwCl [(wi_rm0_0_1600_0 rm cy g_tape), (a_this, .inr (10, mfs rm x_taped v393 x_end x_ended v394 v395 x_fault x_faultPlace x_namePlace x_awayTold x_away x_coded x_statements x_isCrossing x_textKind x_askSecond x_redMany x_isOpen x_lastGreen x_greenTo x_isCycleGreen x_stillGreen x_rowMany x_fitMany x_fitRules x_fitGreen x_undoable x_newest x_seeded v410 v411 J0_c0_114 x_qBase x_qPiled x_qAnswer x_qIsNew x_octets)), (wi_rm112_0_1700_0 rm cy (upd g_qWait (Int32.toNatClampNeg z427) z432)), (wi_rm110_0_1700_0 rm cy f412)] H := hP
                                              replace hD := k_D hP hD
                                              generalize h437E : upd g_qWait (Int32.toNatClampNeg z427) z432 = f435 at hP hD h436
                                              have ef435 := h437E
                                              have Ef435 := lf_st ef435 (lf_ra g_qWait) Ez427 Ez432
                                              have h438 : v394 = 0 → GS f412 v410 f435 v411 x_qBase x_textKind cc := fun q => (by rw [h437E.symm]; exact GS_comma (h419 q) (by have := (h201).1; have := (h201).2; have := hL1; have := hJ0_lin1; have := h418; have := h423; have := (h426).1; have := (h426).2; have := h415; have := h416; have := h417; have := (hJ0_c0_113).1; have := (hJ0_c0_113).2; have := hJ0_lin0; have := hJ0_lin2; have := h202; have := (hJ0_c0_111).1; have := (hJ0_c0_111).2; have := (h413).1; have := (h413).2; have := (hx_at).1; have := (hx_at).2; have := hL0; have := hJ0_lin3; have := (h200).1; have := (h200).2; have := (h199).1; have := (h199).2; have := (hJ0_c0_2).1; have := (hJ0_c0_2).2; have := h211; have := (h206).1; have := (h206).2; have := h226; have := (h220).1; have := (h220).2; have := h264; have := (h424).1; have := (h424).2; have := h279; have := (h407).1; have := (h407).2; have := h311; have := (h405).1; have := (h405).2; have := h398; have := h404; have := (h406).1; have := (h406).2; have := (h429).1; have := (h429).2; have := h428.2; have : (1 : Int32).toInt = 1 := rfl; omega) (by have := (h201).1; have := (h201).2; have := hL1; have := hJ0_lin1; have := h418; have := h423; have := (h426).1; have := (h426).2; have := h415; have := h416; have := h417; have := (hJ0_c0_113).1; have := (hJ0_c0_113).2; have := hJ0_lin0; have := hJ0_lin2; have := h202; have := (hJ0_c0_111).1; have := (hJ0_c0_111).2; have := (h413).1; have := (h413).2; have := (hx_at).1; have := (hx_at).2; have := hL0; have := hJ0_lin3; have := (h200).1; have := (h200).2; have := (h199).1; have := (h199).2; have := (hJ0_c0_2).1; have := (hJ0_c0_2).2; have := h211; have := (h206).1; have := (h206).2; have := h226; have := (h220).1; have := (h220).2; have := h264; have := (h424).1; have := (h424).2; have := h279; have := (h407).1; have := (h407).2; have := h311; have := (h405).1; have := (h405).2; have := h398; have := h404; have := (h406).1; have := (h406).2; have := (h429).1; have := (h429).2; have := h428.2; have : (1 : Int32).toInt = 1 := rfl; omega) (by rw [← ez430]; have := (h431).1; have := (h431).2; omega) ⟨by have := (h434).1; omega, by have := (h434).2; omega⟩)
                                              refine lv_iconst (v := 1) hx hb dX10_qGoesOn_360 rfl ?_
                                              subst hQ; exact k_iret hx hb hr hlk (k_nb 1 rfl) ((v393, v394, v395, v410, v411, J0_c0_114, f435, f412)) hS ⟨ib_w 0 1600 h406 rfl, ib_w 0 1700 h413 rfl, ib_w 0 1622 h426 rfl, ib_w 0 1 (ib_c 1 1 1 rfl) rfl, fun _ => ib_w 1 1600 h406 rfl, fun _ => ib_w 0 0 h403 rfl, fun _ => ib_w 1 1622 h426 rfl, fun _ => ib_w 0 1620 h199 rfl, fun _ => ib_w 0 1620 h200 rfl, fun _ => ib_w 0 1620 h201 rfl, fun _ => ib_one hx_bad rfl, (by have := h202; have := (hJ0_c0_2).2; have := h211; have := h226; have := h264; have := h279; have := h311; have := h404; have := (h406).1; have := h415; omega), fun hq9 => (by have := h202; have := (hJ0_c0_2).2; have := h211; have := h415; have := h226; have := h264; have := h279; have := h311; have := h404; have := (h406).1; omega), (by have := (h406).1; have := h404; have := h311; have := h279; have := h264; have := h226; have := h211; have := hJ0_lin3; have := (hx_at).2; omega), (by have := h423; omega), fun hq8 => fun q => (h438 q), fun hq8 => absurd hq8 (by decide), (hO.symm.trans (by try simp only [show (1 : Int32).toInt = (1 : Int) from rfl]; rw [lf_ua Ef435]; exact hq))⟩ (hP.sub [1, 0, 2, 3] rfl) (hD.sub [1, 0, 2, 3] rfl rfl) (Nat.le_of_ble_eq_true rfl) (Nat.le_of_ble_eq_true rfl) dX10_qGoesOn_361
                                        · replace hq := lf_neg hq (lf_ne (lf_rf v394) (lf_lc 0 (0 : Int) rfl) c401)
                                          refine lv_iconst (v := 0) hx hb dX10_qGoesOn_339 rfl ?_
                                          subst hQ; exact k_iret hx hb hr hlk (k_nb 0 rfl) ((v393, v394, v395, J0_c0_111, J0_c0_113, J0_c0_114, g_qWait, J0_a3)) hS ⟨ib_w 0 1600 h396 rfl, ib_w 0 1700 hJ0_c0_111 rfl, ib_w 0 1622 hJ0_c0_113 rfl, ib_w 0 1 (ib_c 0 0 0 rfl) rfl, fun hq9 => absurd rfl hq9, fun hq9 => absurd rfl hq9, fun hq9 => absurd rfl hq9, fun hq9 => absurd rfl hq9, fun hq9 => absurd rfl hq9, fun hq9 => absurd rfl hq9, fun _ => ib_one hx_bad rfl, (by have := h202; have := (hJ0_c0_2).2; have := h211; have := h226; have := h264; have := h279; have := h311; have := h398; have := (h396).1; omega), fun q => absurd q c401, (by have := (h396).1; have := h398; have := h311; have := h279; have := h264; have := h226; have := h211; have := hJ0_lin3; have := (hx_at).2; omega), (by have := hJ0_lin1; omega), fun hq8 => absurd rfl hq8, fun hq8 => fun q => absurd q c401, (hO.symm.trans (by try simp only [show (0 : Int32).toInt = (0 : Int) from rfl]; exact hq))⟩ (hP.sub [2, 3, 1, 0] rfl) (hD.sub [2, 3, 1, 0] rfl rfl) (Nat.le_of_ble_eq_true rfl) (Nat.le_of_ble_eq_true rfl) dX10_qGoesOn_340
                            · as_aux_lemma =>
                                replace hq := lf_neg hq (lf_ne (lf_rf r302) (lf_lc 0 (0 : Int) rfl) c314)
                                have h439 : ib r302 1 1 := ib_w 1 1 (ib_ne_lo 0 h306 rfl c314) rfl
                                have h440 := h312 (ib_nz h439 rfl)
                                have h441 : ib v272 0 1599 := ⟨(h273).1, by have := (h273).2; have := h440; have := (h305).2; omega⟩
                                have h442 : ib v304 1 1600 := ⟨by have := (h305).1; have := h440; have := (h441).1; omega, (h305).2⟩
                                have h443 : ib x_end 1 1600 := ib_w 1 1600 (ib_two hx_end (h309 (ib_nz h439 rfl))) rfl
                                have h444 : ib v257 0 1599 := ⟨(h258).1, by have := (h258).2; have := h279; have := (h441).2; omega⟩
                                refine lv_aload_n hx hb dX10_qGoesOn_225 rfl (lv_at hl 0 rfl) ?_
                                refine k_get C0 fg_X10_7 hP 2 rfl rfl dX10_qGoesOn_226 ?_
                                refine lv_aload_n hx hb dX10_qGoesOn_229 rfl (lv_at hl 0 rfl) ?_
                                refine k_get C0 fg_X10_285 hP 2 rfl rfl dX10_qGoesOn_230 ?_
                                refine lv_iconst (v := 1) hx hb dX10_qGoesOn_233 rfl ?_
                                refine lv_isub hx hb dX10_qGoesOn_234 ?_
                                refine lv_topi (fun z445 ez445 => ?_)
                                have h446 := ib_sub h442 (ib_c 1 1 1 rfl) rfl
                                rw [← ez445] at h446
                                have h447 : ib z445 0 1599 := ib_w 0 1599 h446.1 rfl
                                have Ez445 := lf_sub h446.2 (lf_rf v304) (lf_lc 1 (1 : Int) rfl)
                                refine va_iald hx hb C0.2.2.2.2.2.1 hP 3 0 rfl rfl (ib_in 1600 h447 rfl) dX10_qGoesOn_235 ?_
                                refine lv_topi (fun z448 ez448 => ?_)
                                have h449 : ib z448 0 255 := by rw [ez448]; exact ia_at hg_tape (ib_in 1600 h447 rfl)
                                have Ez448 := lf_ld ez448 (lf_ra g_tape) Ez445
                                refine lv_bipush (v := 43) hx hb dX10_qGoesOn_236 rfl ?_
                                refine lv_icmp_ne (tgt := 245) hx hb dX10_qGoesOn_238 rfl (fun c450 => ?_) (fun c450 => ?_)
                                · replace hq := lf_neg hq (lf_ne Ez448 (lf_lc 43 (43 : Int) rfl) c450)
                                  have h451 : ib v219 0 1599 := ⟨(h220).1, by have := (h220).2; have := h264; have := (h444).2; omega⟩
                                  refine lv_iconst (v := 2) hx hb dX10_qGoesOn_245 rfl ?_
                                  refine lv_istore_n (lv' := [(1, .int 2), (0, .ref a_this)]) hx hb dX10_qGoesOn_246 rfl hl (Nat.le_of_ble_eq_true rfl) rfl (fun ls hl => ?_)
                                  exact jn247 1623 v304 2 J0_c0_111 J0_c0_113 J0_c0_114 J0_a3 H locs ls (ib_w 1 1600 h442 rfl) (ib_w 1 1600 h443 rfl) (ib_w 0 1620 h201 rfl) (ib_w 1 2 (ib_c 2 2 2 rfl) rfl) (ib_w 0 1621 hJ0_c0_111 rfl) (ib_w 0 1621 hJ0_c0_113 rfl) (by have := h202; have := (hJ0_c0_2).2; have := h211; have := h226; have := h264; have := h279; have := h440; have := (h442).1; omega) (by have := hJ0_lin1; omega) (by have := (h442).1; have := h440; have := h279; have := h264; have := h226; have := h211; have := (hJ0_c0_2).2; have := hJ0_lin2; omega) (by have := (h442).1; have := h440; have := h279; have := h264; have := h226; have := h211; have := hJ0_lin3; have := (hx_at).2; omega) (⟨fun q => (hJ0_go.1 q), fun q9 => (by have := h202; have := (hJ0_c0_2).2; have := h211; have := h226; have := h264; have := h279; have := h440; have := (h442).1; omega)⟩) (by try simp only [show (2 : Int32).toInt = (2 : Int) from rfl]; exact hq) (by have := hJ0_c0_111; unfold ib at this; omega) (hP.sub [2, 3, 0, 1] rfl) (hD.sub [2, 3, 0, 1] rfl rfl) hS (lv_sub hl [1, 0] rfl)
                                · replace hq := lf_pos hq (lf_eq Ez448 (lf_lc 43 (43 : Int) rfl) c450)
                                  have h452 := ib_eq h449 (ib_c 43 43 43 rfl) c450
                                  have h453 : ib z448 43 43 := ib_w 43 43 h452.1 rfl
                                  have h454 : ib v219 0 1599 := ⟨(h220).1, by have := (h220).2; have := h264; have := (h444).2; omega⟩
                                  have h455 : ib v205 0 1599 := ⟨(h206).1, by have := (h206).2; have := h226; have := (h454).2; omega⟩
                                  refine lv_iconst (v := 1) hx hb dX10_qGoesOn_241 rfl ?_
                                  refine lv_goto (tgt := 246) hx hb dX10_qGoesOn_242 rfl ?_
                                  refine lv_istore_n (lv' := [(1, .int 1), (0, .ref a_this)]) hx hb dX10_qGoesOn_246 rfl hl (Nat.le_of_ble_eq_true rfl) rfl (fun ls hl => ?_)
                                  exact jn247 1623 v304 1 J0_c0_111 J0_c0_113 J0_c0_114 J0_a3 H locs ls (ib_w 1 1600 h442 rfl) (ib_w 1 1600 h443 rfl) (ib_w 0 1620 h201 rfl) (ib_w 1 2 (ib_c 1 1 1 rfl) rfl) (ib_w 0 1621 hJ0_c0_111 rfl) (ib_w 0 1621 hJ0_c0_113 rfl) (by have := h202; have := (hJ0_c0_2).2; have := h211; have := h226; have := h264; have := h279; have := h440; have := (h442).1; omega) (by have := hJ0_lin1; omega) (by have := (h442).1; have := h440; have := h279; have := h264; have := h226; have := h211; have := (hJ0_c0_2).2; have := hJ0_lin2; omega) (by have := (h442).1; have := h440; have := h279; have := h264; have := h226; have := h211; have := hJ0_lin3; have := (hx_at).2; omega) (⟨fun q => (hJ0_go.1 q), fun q9 => (by have := h202; have := (hJ0_c0_2).2; have := h211; have := h226; have := h264; have := h279; have := h440; have := (h442).1; omega)⟩) (by try simp only [show (1 : Int32).toInt = (1 : Int) from rfl]; exact hq) (by have := hJ0_c0_111; unfold ib at this; omega) (hP.sub [2, 3, 0, 1] rfl) (hD.sub [2, 3, 0, 1] rfl rfl) hS (lv_sub hl [1, 0] rfl)
                    · as_aux_lemma =>
                        replace hq := lf_neg hq (lf_ne (lf_rf r255) (lf_lc 0 (0 : Int) rfl) c267)
                        have h456 : ib r255 1 1 := ib_w 1 1 (ib_ne_lo 0 h259 rfl c267) rfl
                        have h457 := h265 (ib_nz h456 rfl)
                        have h458 : ib v219 0 1599 := ⟨(h220).1, by have := (h220).2; have := h457; have := (h258).2; omega⟩
                        have h459 : ib v257 1 1600 := ⟨by have := (h258).1; have := h457; have := (h458).1; omega, (h258).2⟩
                        have h460 : ib x_end 1 1600 := ib_w 1 1600 (ib_two hx_end (h262 (ib_nz h456 rfl))) rfl
                        have h461 : ib v205 0 1599 := ⟨(h206).1, by have := (h206).2; have := h226; have := (h458).2; omega⟩
                        refine lv_aload_n hx hb dX10_qGoesOn_140 rfl (lv_at hl 0 rfl) ?_
                        refine k_get C0 fg_X10_7 hP 2 rfl rfl dX10_qGoesOn_141 ?_
                        refine lv_aload_n hx hb dX10_qGoesOn_144 rfl (lv_at hl 0 rfl) ?_
                        refine k_get C0 fg_X10_285 hP 2 rfl rfl dX10_qGoesOn_145 ?_
                        refine lv_iconst (v := 1) hx hb dX10_qGoesOn_148 rfl ?_
                        refine lv_isub hx hb dX10_qGoesOn_149 ?_
                        refine lv_topi (fun z462 ez462 => ?_)
                        have h463 := ib_sub h459 (ib_c 1 1 1 rfl) rfl
                        rw [← ez462] at h463
                        have h464 : ib z462 0 1599 := ib_w 0 1599 h463.1 rfl
                        have Ez462 := lf_sub h463.2 (lf_rf v257) (lf_lc 1 (1 : Int) rfl)
                        refine va_iald hx hb C0.2.2.2.2.2.1 hP 3 0 rfl rfl (ib_in 1600 h464 rfl) dX10_qGoesOn_150 ?_
                        refine lv_topi (fun z465 ez465 => ?_)
                        have h466 : ib z465 0 255 := by rw [ez465]; exact ia_at hg_tape (ib_in 1600 h464 rfl)
                        have Ez465 := lf_ld ez465 (lf_ra g_tape) Ez462
                        refine lv_bipush (v := 42) hx hb dX10_qGoesOn_151 rfl ?_
                        refine lv_icmp_ne (tgt := 160) hx hb dX10_qGoesOn_153 rfl (fun c467 => ?_) (fun c467 => ?_)
                        · replace hq := lf_neg hq (lf_ne Ez465 (lf_lc 42 (42 : Int) rfl) c467)
                          have h468 : ib J0_c0_2 0 1599 := ⟨(hJ0_c0_2).1, by have := (hJ0_c0_2).2; have := h211; have := (h461).2; omega⟩
                          refine lv_iconst (v := 4) hx hb dX10_qGoesOn_160 rfl ?_
                          refine lv_istore_n (lv' := [(1, .int 4), (0, .ref a_this)]) hx hb dX10_qGoesOn_161 rfl hl (Nat.le_of_ble_eq_true rfl) rfl (fun ls hl => ?_)
                          exact jn162 1623 v257 4 J0_c0_111 J0_c0_113 J0_c0_114 J0_a3 H locs ls (ib_w 1 1600 h459 rfl) (ib_w 1 1600 h460 rfl) (ib_w 0 1620 h201 rfl) (ib_w 3 4 (ib_c 4 4 4 rfl) rfl) (ib_w 0 1621 hJ0_c0_111 rfl) (ib_w 0 1621 hJ0_c0_113 rfl) (by have := h202; have := (h468).2; have := h211; have := h226; have := h457; have := (h459).1; omega) (by have := hJ0_lin1; omega) (by have := (h459).1; have := h457; have := h226; have := h211; have := (h468).2; have := hJ0_lin2; omega) (by have := (h459).1; have := h457; have := h226; have := h211; have := hJ0_lin3; have := (hx_at).2; omega) (⟨fun q => (hJ0_go.1 q), fun q9 => (by have := h202; have := (h468).2; have := h211; have := h226; have := h457; have := (h459).1; omega)⟩) (by try simp only [show (4 : Int32).toInt = (4 : Int) from rfl]; exact hq) (by have := hJ0_c0_111; unfold ib at this; omega) (hP.sub [2, 3, 0, 1] rfl) (hD.sub [2, 3, 0, 1] rfl rfl) hS (lv_sub hl [1, 0] rfl)
                        · replace hq := lf_pos hq (lf_eq Ez465 (lf_lc 42 (42 : Int) rfl) c467)
                          have h469 := ib_eq h466 (ib_c 42 42 42 rfl) c467
                          have h470 : ib z465 42 42 := ib_w 42 42 h469.1 rfl
                          have h471 : ib J0_c0_2 0 1599 := ⟨(hJ0_c0_2).1, by have := (hJ0_c0_2).2; have := h211; have := (h461).2; omega⟩
                          have h472 : ib J0_c0_111 0 1620 := ⟨(hJ0_c0_111).1, by have := (hJ0_c0_111).2; have := h202; have := hL0; have := (h471).2; have := (hJ0_c0_113).1; omega⟩
                          have h473 : ib J0_c0_113 0 1620 := ⟨(hJ0_c0_113).1, by have := (hJ0_c0_113).2; have := h202; have := hL0; have := (h471).2; have := (h472).1; omega⟩
                          have h474 : ib x_at 0 1599 := ⟨(hx_at).1, by have := (hx_at).2; have := hJ0_lin3; have := (h471).2; omega⟩
                          refine lv_iconst (v := 3) hx hb dX10_qGoesOn_156 rfl ?_
                          refine lv_goto (tgt := 161) hx hb dX10_qGoesOn_157 rfl ?_
                          refine lv_istore_n (lv' := [(1, .int 3), (0, .ref a_this)]) hx hb dX10_qGoesOn_161 rfl hl (Nat.le_of_ble_eq_true rfl) rfl (fun ls hl => ?_)
                          exact jn162 1623 v257 3 J0_c0_111 J0_c0_113 J0_c0_114 J0_a3 H locs ls (ib_w 1 1600 h459 rfl) (ib_w 1 1600 h460 rfl) (ib_w 0 1620 h201 rfl) (ib_w 3 4 (ib_c 3 3 3 rfl) rfl) (ib_w 0 1621 h472 rfl) (ib_w 0 1621 h473 rfl) (by have := h202; have := (h471).2; have := h211; have := h226; have := h457; have := (h459).1; omega) (by have := hJ0_lin1; omega) (by have := (h459).1; have := h457; have := h226; have := h211; have := (h471).2; have := hJ0_lin2; omega) (by have := (h459).1; have := h457; have := h226; have := h211; have := hJ0_lin3; have := (h474).2; omega) (⟨fun q => (hJ0_go.1 q), fun q9 => (by have := h202; have := (h471).2; have := h211; have := h226; have := h457; have := (h459).1; omega)⟩) (by try simp only [show (3 : Int32).toInt = (3 : Int) from rfl]; exact hq) (by have := h472; unfold ib at this; omega) (hP.sub [2, 3, 0, 1] rfl) (hD.sub [2, 3, 0, 1] rfl rfl) hS (lv_sub hl [1, 0] rfl)
            · as_aux_lemma =>
                replace hq := lf_pos hq (lf_eq (lf_rf r203) (lf_lc 41 (41 : Int) rfl) c216)
                have h475 := ib_eq h207 (ib_c 41 41 41 rfl) c216
                have h476 : ib r203 41 41 := ib_w 41 41 h475.1 rfl
                have h477 : ib v205 0 1599 := ib_w 0 1599 (ib_two h206 (h208 (ib_nc (-1) h476 rfl))) rfl
                have h478 : ib J0_c0_2 0 1599 := ib_w 0 1599 (ib_two hJ0_c0_2 (h209 (ib_nc (-1) h476 rfl))) rfl
                have h479 : ib x_end 1 1600 := ib_w 1 1600 (ib_two hx_end (h210 (ib_nc (-1) h476 rfl))) rfl
                have h480 : ib J0_c0_111 0 1620 := ⟨(hJ0_c0_111).1, by have := (hJ0_c0_111).2; have := h202; have := hL0; have := (h478).2; have := (hJ0_c0_113).1; omega⟩
                have h481 : ib J0_c0_113 0 1620 := ⟨(hJ0_c0_113).1, by have := (hJ0_c0_113).2; have := h202; have := hL0; have := (h478).2; have := (h480).1; omega⟩
                have h482 : ib x_at 0 1599 := ⟨(hx_at).1, by have := (hx_at).2; have := hJ0_lin3; have := (h478).2; omega⟩
                refine lv_aload_n hx hb dX10_qGoesOn_16 rfl (lv_at hl 0 rfl) ?_
                refine k_jim hP hD hS hA [2, 0] [false, true, false, true] rfl rfl rfl 0 0 (Nat.le_of_ble_eq_true rfl) (Nat.le_of_ble_eq_true rfl) (fun hPc hDc => k_runV (As := []) (rest := []) C0 hZ hS hA (s_X10_qBracket l dC dI cy sq a_this rm x_taped v205 x_end x_ended x_bad x_badPlace x_fault x_faultPlace x_namePlace x_awayTold x_away x_coded x_statements x_isCrossing x_textKind x_askSecond x_redMany x_isOpen x_lastGreen x_greenTo x_isCycleGreen x_stillGreen x_rowMany x_fitMany x_fitRules x_fitGreen x_undoable x_newest x_seeded J0_c0_111 J0_c0_113 J0_c0_114 x_qBase x_qPiled x_qAnswer x_qIsNew x_octets g_qWait (ib_w 0 1700 h481 rfl) (ib_w 0 1700 h201 rfl)) mV_X10_635 hPc hDc rfl rfl rfl hl rfl rfl (Nat.le_of_ble_eq_true rfl) ⟨(Nat.le_of_ble_eq_true rfl), (Nat.le_of_ble_eq_true rfl)⟩ ⟨(Nat.le_of_ble_eq_true rfl), (Nat.le_of_ble_eq_true rfl)⟩ dX10_qGoesOn_17) (fun r483 u484 H locs hw hP hD hS => ?_)
                try dsimp only at hP hD hw
                replace hP : va_P (dC, dI) vwCl [(wi_rm110_0_1700_0 rm cy J0_a3), (wi_rm0_0_1600_0 rm cy g_tape), (a_this, .inr (10, mfs rm x_taped v205 x_end x_ended x_bad x_badPlace x_fault x_faultPlace x_namePlace x_awayTold x_away x_coded x_statements x_isCrossing x_textKind x_askSecond x_redMany x_isOpen x_lastGreen x_greenTo x_isCycleGreen x_stillGreen x_rowMany x_fitMany x_fitRules x_fitGreen x_undoable x_newest x_seeded J0_c0_111 J0_c0_113 J0_c0_114 x_qBase x_qPiled x_qAnswer x_qIsNew x_octets)), (wi_rm112_0_1700_0 rm cy g_qWait)] H := hP
                replace hD := k_D hP hD
                obtain ⟨h485, h486⟩ := hw
                replace hq := lf_b1 hq h486
                refine lv_bipush (v := 20) hx hb dX10_qGoesOn_20 rfl ?_
                refine lv_icmp_eq (tgt := 43) hx hb dX10_qGoesOn_22 rfl (fun c487 => ?_) (fun c487 => ?_)
                · as_aux_lemma =>
                    replace hq := lf_pos hq (lf_eq (lf_rf r483) (lf_lc 20 (20 : Int) rfl) c487)
                    have h488 := ib_eq (ib_any r483) (ib_c 20 20 20 rfl) c487
                    have h489 : ib r483 20 20 := ib_w 20 20 h488.1 rfl
                    have h490 : ib x_qCoded 0 1619 := ⟨(h199).1, by have := (h199).2; have := hL0; have := (h482).2; have := (h200).1; omega⟩
                    have h491 : ib x_qWaits 0 1619 := ⟨(h200).1, by have := (h200).2; have := hL0; have := (h482).2; have := (h490).1; omega⟩
                    have h492 : ib x_qBase 0 1619 := ⟨(h201).1, by have := (h201).2; have := hL1; have := (h491).2; omega⟩
                    refine lv_aload_n hx hb dX10_qGoesOn_43 rfl (lv_at hl 0 rfl) ?_
                    refine lv_dup hx hb dX10_qGoesOn_44 rfl ?_
                    refine k_get C0 fg_X10_285 hP 2 rfl rfl dX10_qGoesOn_45 ?_
                    refine lv_iconst (v := 1) hx hb dX10_qGoesOn_48 rfl ?_
                    refine lv_iadd hx hb dX10_qGoesOn_49 ?_
                    refine lv_topi (fun z493 ez493 => ?_)
                    have h494 := ib_add h477 (ib_c 1 1 1 rfl) rfl
                    rw [← ez493] at h494
                    have h495 : ib z493 1 1600 := ib_w 1 1600 h494.1 rfl
                    have Ez493 := lf_add h494.2 (lf_rf v205) (lf_lc 1 (1 : Int) rfl)
                    refine k_put C0 fp_X10_285 hP hD hS 2 rfl rfl rfl (Nat.le_of_ble_eq_true rfl) dX10_qGoesOn_50 (fun H locs hP hD hS => ?_)
                    replace hP : va_P (dC, dI) vwCl [(wi_rm110_0_1700_0 rm cy J0_a3), (wi_rm0_0_1600_0 rm cy g_tape), (a_this, .inr (10, mfs rm x_taped z493 x_end x_ended x_bad x_badPlace x_fault x_faultPlace x_namePlace x_awayTold x_away x_coded x_statements x_isCrossing x_textKind x_askSecond x_redMany x_isOpen x_lastGreen x_greenTo x_isCycleGreen x_stillGreen x_rowMany x_fitMany x_fitRules x_fitGreen x_undoable x_newest x_seeded J0_c0_111 J0_c0_113 J0_c0_114 x_qBase x_qPiled x_qAnswer x_qIsNew x_octets)), (wi_rm112_0_1700_0 rm cy g_qWait)] H := hP
                    replace hD := k_D hP hD
                    refine lv_aload_n hx hb dX10_qGoesOn_53 rfl (lv_at hl 0 rfl) ?_
                    refine k_jvm hP hD hS hA [2, 3, 0] [false, true] rfl rfl rfl 0 0 (Nat.le_of_ble_eq_true rfl) (Nat.le_of_ble_eq_true rfl) (fun hPc hDc => k_runV (As := []) (rest := []) C0 hZ hS hA (s_X10_qDropsToBracket l dC dI cy sq a_this rm x_taped z493 x_end x_ended x_bad x_badPlace x_fault x_faultPlace x_namePlace x_awayTold x_away x_coded x_statements x_isCrossing x_textKind x_askSecond x_redMany x_isOpen x_lastGreen x_greenTo x_isCycleGreen x_stillGreen x_rowMany x_fitMany x_fitRules x_fitGreen x_undoable x_newest x_seeded J0_c0_111 J0_c0_113 J0_c0_114 x_qBase x_qPiled x_qAnswer x_qIsNew x_octets J0_a3 g_qWait cc (ib_w 0 0 hx_bad rfl) (ib_w 0 1700 h480 rfl) (ib_w 0 1700 h481 rfl) (ib_w 0 1700 h492 rfl) (by have := hJ0_lin2; have := (h478).2; omega) (by have := hJ0_lin1; omega) (fun q => (hJ0_go.1 q))) mV_X10_638 hPc hDc rfl rfl rfl hl rfl rfl (Nat.le_of_ble_eq_true rfl) ⟨(Nat.le_of_ble_eq_true rfl), (Nat.le_of_ble_eq_true rfl)⟩ ⟨(Nat.le_of_ble_eq_true rfl), (Nat.le_of_ble_eq_true rfl)⟩ dX10_qGoesOn_54) (fun u497 H locs hw hP hD hS => ?_)
                    obtain ⟨v498, v499, f500⟩ := u497
                    try dsimp only at hP hD hw
                    replace hP : va_P (dC, dI) vwCl [(wi_rm0_0_1600_0 rm cy g_tape), (a_this, .inr (10, mfs rm x_taped z493 x_end x_ended x_bad x_badPlace x_fault x_faultPlace x_namePlace x_awayTold x_away x_coded x_statements x_isCrossing x_textKind x_askSecond x_redMany x_isOpen x_lastGreen x_greenTo x_isCycleGreen x_stillGreen x_rowMany x_fitMany x_fitRules x_fitGreen x_undoable x_newest x_seeded v498 v499 J0_c0_114 x_qBase x_qPiled x_qAnswer x_qIsNew x_octets)), (wi_rm112_0_1700_0 rm cy g_qWait), (wi_rm110_0_1700_0 rm cy f500)] H := hP
                    replace hD := k_D hP hD
                    obtain ⟨h501, h502, h503, h504, h505, h506, h507, h508, h509⟩ := hw
                    replace hq := lf_p1 hq h509
                    replace hq := lf_p1 hq rfl
                    have h510 := BR_DB h485 h508 (ib_nc (-1) h489 rfl)
                    have h511 : 1 * x_qBase.toInt + (-1) * v499.toInt ≤ (-1) := by have q1 := h510.2; have q2 := (h492).1; omega
                    as_aux_lemma =>
                      have h512 : ib v499 0 1620 := ⟨(h502).1, by have := (h502).2; have := h505; have := (h481).2; omega⟩
                      have h513 : ib v499 1 1620 := ⟨by have := (h512).1; have := h511; have := (h492).1; omega, (h512).2⟩
                      refine lv_aload_n hx hb dX10_qGoesOn_57 rfl (lv_at hl 0 rfl) ?_
                      refine lv_dup hx hb dX10_qGoesOn_58 rfl ?_
                      refine k_get C0 fg_X10_372 hP 1 rfl rfl dX10_qGoesOn_59 ?_
                      refine lv_iconst (v := 1) hx hb dX10_qGoesOn_62 rfl ?_
                      refine lv_isub hx hb dX10_qGoesOn_63 ?_
                      refine lv_topi (fun z514 ez514 => ?_)
                      have h515 := ib_sub h513 (ib_c 1 1 1 rfl) rfl
                      rw [← ez514] at h515
                      have h516 : ib z514 0 1619 := ib_w 0 1619 h515.1 rfl
                      have Ez514 := lf_sub h515.2 (lf_rf v499) (lf_lc 1 (1 : Int) rfl)
                      refine k_put C0 fp_X10_372 hP hD hS 1 rfl rfl rfl (Nat.le_of_ble_eq_true rfl) dX10_qGoesOn_64 (fun H locs hP hD hS => ?_)
                      replace hP : va_P (dC, dI) vwCl [(wi_rm0_0_1600_0 rm cy g_tape), (a_this, .inr (10, mfs rm x_taped z493 x_end x_ended x_bad x_badPlace x_fault x_faultPlace x_namePlace x_awayTold x_away x_coded x_statements x_isCrossing x_textKind x_askSecond x_redMany x_isOpen x_lastGreen x_greenTo x_isCycleGreen x_stillGreen x_rowMany x_fitMany x_fitRules x_fitGreen x_undoable x_newest x_seeded v498 z514 J0_c0_114 x_qBase x_qPiled x_qAnswer x_qIsNew x_octets)), (wi_rm112_0_1700_0 rm cy g_qWait), (wi_rm110_0_1700_0 rm cy f500)] H := hP
                      replace hD := k_D hP hD
                      refine lv_aload_n hx hb dX10_qGoesOn_67 rfl (lv_at hl 0 rfl) ?_
                      refine lv_dup hx hb dX10_qGoesOn_68 rfl ?_
                      refine k_get C0 fg_X10_375 hP 1 rfl rfl dX10_qGoesOn_69 ?_
                      refine lv_iconst (v := 1) hx hb dX10_qGoesOn_72 rfl ?_
                      refine lv_isub hx hb dX10_qGoesOn_73 ?_
                      refine lv_topi (fun z517 ez517 => ?_)
                      have Ez517 := lf_op lf_isub ez517 (lf_rf J0_c0_114) (lf_lc 1 (1 : Int) rfl)
                      refine k_put C0 fp_X10_375 hP hD hS 1 rfl rfl rfl (Nat.le_of_ble_eq_true rfl) dX10_qGoesOn_74 (fun H locs hP hD hS => ?_)
                      replace hP : va_P (dC, dI) vwCl [(wi_rm0_0_1600_0 rm cy g_tape), (a_this, .inr (10, mfs rm x_taped z493 x_end x_ended x_bad x_badPlace x_fault x_faultPlace x_namePlace x_awayTold x_away x_coded x_statements x_isCrossing x_textKind x_askSecond x_redMany x_isOpen x_lastGreen x_greenTo x_isCycleGreen x_stillGreen x_rowMany x_fitMany x_fitRules x_fitGreen x_undoable x_newest x_seeded v498 z514 z517 x_qBase x_qPiled x_qAnswer x_qIsNew x_octets)), (wi_rm112_0_1700_0 rm cy g_qWait), (wi_rm110_0_1700_0 rm cy f500)] H := hP
                      replace hD := k_D hP hD
                      refine lv_aload_n hx hb dX10_qGoesOn_77 rfl (lv_at hl 0 rfl) ?_
                      refine k_get C0 fg_X10_267 hP 1 rfl rfl dX10_qGoesOn_78 ?_
                      refine lv_aload_n hx hb dX10_qGoesOn_81 rfl (lv_at hl 0 rfl) ?_
                      refine k_get C0 fg_X10_372 hP 1 rfl rfl dX10_qGoesOn_82 ?_
                      refine va_iald hx hb C0.2.2.2.2.2.1 hP 2 0 rfl rfl (ib_in 1700 h516 rfl) dX10_qGoesOn_85 ?_
                      as_aux_lemma =>
                        refine lv_topi (fun z518 ez518 => ?_)
                        have Ez518 := lf_ld ez518 (lf_ra g_qWait) Ez514
                        have h519 : ib z518 20 20 := by rw [ez518, show Int32.toNatClampNeg z514 = v499.toInt.toNat - 1 from by show (Int32.toInt z514).toNat = _; have := (h513).1; have := (h513).2; have := h503; have := h504; have := h505; have := h506; have := h511; have := (h492).1; have := (h492).2; have := hL1; have := hJ0_lin1; have := (h481).1; have := (h481).2; have := hJ0_lin0; have := hJ0_lin2; have := h202; have := (h480).1; have := (h480).2; have := (h501).1; have := (h501).2; have := (h482).1; have := (h482).2; have := hL0; have := hJ0_lin3; have := (h491).1; have := (h491).2; have := (h490).1; have := (h490).2; have := (h478).1; have := (h478).2; have := h211; have := (h477).1; have := (h477).2; have := (h516).1; have := (h516).2; have := h515.2; have : (1 : Int32).toInt = 1 := rfl; omega, h510.1]; exact h489
                        refine lv_bipush (v := 20) hx hb dX10_qGoesOn_86 rfl ?_
                        refine lv_icmp_eq (tgt := 115) hx hb dX10_qGoesOn_88 rfl (fun c520 => ?_) (fun c520 => ?_)
                        · skip
                          have h521 := ib_eq h519 (ib_c 20 20 20 rfl) c520
                          have h522 : ib J0_c0_113 1 1620 := ⟨by have := (h481).1; have := h505; have := (h513).1; omega, (h481).2⟩
                          have h523 : ib J0_c0_111 0 1619 := ⟨(h480).1, by have := (h480).2; have := h202; have := (h522).1; have := hL0; have := (h478).2; omega⟩
                          have h524 : x_bad = 0 → GS f500 v498 g_qWait z514 x_qBase x_textKind (cc + 1) := fun q => GS_pop (h507 q) (by have := (h492).1; have := (h492).2; have := hL1; have := hJ0_lin1; have := h506; have := h511; have := (h513).1; have := (h513).2; have := h503; have := h504; have := h505; have := (h522).1; have := (h522).2; have := hJ0_lin0; have := hJ0_lin2; have := h202; have := (h523).1; have := (h523).2; have := (h501).1; have := (h501).2; have := (h482).1; have := (h482).2; have := hL0; have := hJ0_lin3; have := (h491).1; have := (h491).2; have := (h490).1; have := (h490).2; have := (h478).1; have := (h478).2; have := h211; have := (h477).1; have := (h477).2; have := (h516).1; have := (h516).2; have := h515.2; have : (1 : Int32).toInt = 1 := rfl; omega) (by have := (h492).1; have := (h492).2; have := hL1; have := hJ0_lin1; have := h506; have := h511; have := (h513).1; have := (h513).2; have := h503; have := h504; have := h505; have := (h522).1; have := (h522).2; have := hJ0_lin0; have := hJ0_lin2; have := h202; have := (h523).1; have := (h523).2; have := (h501).1; have := (h501).2; have := (h482).1; have := (h482).2; have := hL0; have := hJ0_lin3; have := (h491).1; have := (h491).2; have := (h490).1; have := (h490).2; have := (h478).1; have := (h478).2; have := h211; have := (h477).1; have := (h477).2; have := (h516).1; have := (h516).2; have := h515.2; have : (1 : Int32).toInt = 1 := rfl; omega) (by rw [← ez518]; have := (h519).1; have := (h519).2; omega)
                          refine lv_aload_n hx hb dX10_qGoesOn_115 rfl (lv_at hl 0 rfl) ?_
                          refine k_jvm hP hD hS hA [1, 2, 3] [true] rfl rfl rfl 0 0 (Nat.le_of_ble_eq_true rfl) (Nat.le_of_ble_eq_true rfl) (fun hPc hDc => k_runV (As := []) (rest := []) C0 hZ hS hA (s_X10_qEndsPart l dC dI cy sq a_this rm x_taped z493 x_end x_ended x_bad x_badPlace x_fault x_faultPlace x_namePlace x_awayTold x_away x_coded x_statements x_isCrossing x_textKind x_askSecond x_redMany x_isOpen x_lastGreen x_greenTo x_isCycleGreen x_stillGreen x_rowMany x_fitMany x_fitRules x_fitGreen x_undoable x_newest x_seeded v498 z514 z517 x_qBase x_qPiled x_qAnswer x_qIsNew x_octets f500 g_qWait cc (ib_w 0 1700 h501 rfl) (ib_w 0 1700 h516 rfl) (ib_w 0 1700 h492 rfl) (by have := (h516).2; have := h515.2; have : (1 : Int32).toInt = 1 := rfl; have := h503; have := hJ0_lin2; have := (h501).2; have := (h478).2; omega) (by have := h515.2; have : (1 : Int32).toInt = 1 := rfl; have := h511; omega) (fun q => (h524 q))) mV_X10_632 hPc hDc rfl rfl rfl hl rfl rfl (Nat.le_of_ble_eq_true rfl) ⟨(Nat.le_of_ble_eq_true rfl), (Nat.le_of_ble_eq_true rfl)⟩ ⟨(Nat.le_of_ble_eq_true rfl), (Nat.le_of_ble_eq_true rfl)⟩ dX10_qGoesOn_116) (fun u526 H locs hw hP hD hS => ?_)
                          obtain ⟨v527, v528, v529, f530⟩ := u526
                          try dsimp only at hP hD hw
                          replace hP : va_P (dC, dI) vwCl [(wi_rm0_0_1600_0 rm cy g_tape), (a_this, .inr (10, mfs rm x_taped z493 x_end x_ended x_bad x_badPlace x_fault x_faultPlace x_namePlace x_awayTold x_away x_coded x_statements x_isCrossing x_textKind x_askSecond x_redMany x_isOpen x_lastGreen x_greenTo x_isCycleGreen x_stillGreen x_rowMany x_fitMany x_fitRules x_fitGreen x_undoable x_newest x_seeded v527 v528 v529 x_qBase x_qPiled x_qAnswer x_qIsNew x_octets)), (wi_rm112_0_1700_0 rm cy g_qWait), (wi_rm110_0_1700_0 rm cy f530)] H := hP
                          replace hD := k_D hP hD
                          obtain ⟨h531, h532, h533, h534, h535, h536, h537, h538⟩ := hw
                          have h538 := by have h9 := h538; rw [lf_u Ez514] at h9; rw [lf_u Ez517] at h9; exact h9
                          replace hq := lf_p1 hq h538
                          replace hq := lf_p1 hq rfl
                          replace hq := lf_p1 hq rfl
                          refine lv_goto (tgt := 0) hx hb dX10_qGoesOn_119 rfl ?_
                          exact ih0 z493 v527 v528 v529 f530 H locs ls (ib_w 0 1600 h495 rfl) ⟨by have := (h531).1; omega, by have := (h478).2; have := hJ0_lin2; have := h503; have := (h532).1; have := h533; have := h515.2; have : (1 : Int32).toInt = 1 := rfl; have := (h531).2; omega⟩ ⟨by have := (h532).1; omega, by have := (h532).2; have := h535; have := (h516).2; omega⟩ (by have := hJ0_lin0; have := (h478).2; have := h211; have := h503; have := h533; have := h515.2; have : (1 : Int32).toInt = 1 := rfl; have := (h495).1; have := h494.2; omega) (by have := h536; omega) (by have := (h495).1; have := h494.2; have : (1 : Int32).toInt = 1 := rfl; have := h211; have := hJ0_lin2; have := h503; have := (h532).2; have := h533; have := h515.2; have := (h531).2; omega) (by have := (h495).1; have := h494.2; have : (1 : Int32).toInt = 1 := rfl; have := h211; have := hJ0_lin3; have := (h482).2; omega) (⟨fun q => (h537 q), fun q9 => (by have := hJ0_lin0; have := (h478).2; have := h211; have := h503; have := h533; have := h515.2; have : (1 : Int32).toInt = 1 := rfl; have := (h495).1; have := h494.2; omega)⟩) (by rw [← hK0]; rw [lf_u Ez493]; exact hq) (by have := (h478).1; have := (h478).2; have := hJ0_lin0; have := hJ0_lin2; have := hJ0_lin3; have := h202; have := h211; have := (h477).1; have := (h477).2; have := (h482).1; have := (h482).2; have := hL0; have := (h491).1; have := (h491).2; have := hL1; have := (h490).1; have := (h490).2; have := (h522).1; have := (h522).2; have := hJ0_lin1; have := h503; have := h504; have := h505; have := (h513).1; have := (h513).2; have := h506; have := h511; have := (h492).1; have := (h492).2; have := h536; have := (h532).1; have := (h532).2; have := h533; have := h534; have := h535; have := (h516).1; have := (h516).2; have := h515.2; have : (1 : Int32).toInt = 1 := rfl; have := (h501).1; have := (h501).2; have := (h531).1; have := (h531).2; have := (h523).1; have := (h523).2; have := (h495).1; have := (h495).2; have := h494.2; omega) (hP.sub [1, 0, 2, 3] rfl) (hD.sub [1, 0, 2, 3] rfl rfl) hS (lv_sub hl [0] rfl)
                        · skip
                          exact absurd (ib_one h519 rfl) c520
                · as_aux_lemma =>
                    replace hq := lf_neg hq (lf_ne (lf_rf r483) (lf_lc 20 (20 : Int) rfl) c487)
                    have h539 : ib x_qCoded 0 1619 := ⟨(h199).1, by have := (h199).2; have := hL0; have := (h482).2; have := (h200).1; omega⟩
                    have h540 : ib x_qWaits 0 1619 := ⟨(h200).1, by have := (h200).2; have := hL0; have := (h482).2; have := (h539).1; omega⟩
                    have h541 : ib x_qBase 0 1619 := ⟨(h201).1, by have := (h201).2; have := hL1; have := (h540).2; omega⟩
                    refine lv_aload_n hx hb dX10_qGoesOn_25 rfl (lv_at hl 0 rfl) ?_
                    refine k_jim hP hD hS hA [2, 3] [true, true] rfl rfl rfl 0 0 (Nat.le_of_ble_eq_true rfl) (Nat.le_of_ble_eq_true rfl) (fun hPc hDc => k_runV (As := []) (rest := []) C0 hZ hS hA (s_X10_qBracket l dC dI cy sq a_this rm x_taped v205 x_end x_ended x_bad x_badPlace x_fault x_faultPlace x_namePlace x_awayTold x_away x_coded x_statements x_isCrossing x_textKind x_askSecond x_redMany x_isOpen x_lastGreen x_greenTo x_isCycleGreen x_stillGreen x_rowMany x_fitMany x_fitRules x_fitGreen x_undoable x_newest x_seeded J0_c0_111 J0_c0_113 J0_c0_114 x_qBase x_qPiled x_qAnswer x_qIsNew x_octets g_qWait (ib_w 0 1700 h481 rfl) (ib_w 0 1700 h541 rfl)) mV_X10_635 hPc hDc rfl rfl rfl hl rfl rfl (Nat.le_of_ble_eq_true rfl) ⟨(Nat.le_of_ble_eq_true rfl), (Nat.le_of_ble_eq_true rfl)⟩ ⟨(Nat.le_of_ble_eq_true rfl), (Nat.le_of_ble_eq_true rfl)⟩ dX10_qGoesOn_26) (fun r542 u543 H locs hw hP hD hS => ?_)
                    try dsimp only at hP hD hw
                    replace hP : va_P (dC, dI) vwCl [(wi_rm110_0_1700_0 rm cy J0_a3), (wi_rm0_0_1600_0 rm cy g_tape), (a_this, .inr (10, mfs rm x_taped v205 x_end x_ended x_bad x_badPlace x_fault x_faultPlace x_namePlace x_awayTold x_away x_coded x_statements x_isCrossing x_textKind x_askSecond x_redMany x_isOpen x_lastGreen x_greenTo x_isCycleGreen x_stillGreen x_rowMany x_fitMany x_fitRules x_fitGreen x_undoable x_newest x_seeded J0_c0_111 J0_c0_113 J0_c0_114 x_qBase x_qPiled x_qAnswer x_qIsNew x_octets)), (wi_rm112_0_1700_0 rm cy g_qWait)] H := hP
                    replace hD := k_D hP hD
                    obtain ⟨h544, h545⟩ := hw
                    replace hq := lf_b1 hq h545
                    refine lv_bipush (v := 23) hx hb dX10_qGoesOn_29 rfl ?_
                    refine lv_icmp_eq (tgt := 43) hx hb dX10_qGoesOn_31 rfl (fun c546 => ?_) (fun c546 => ?_)
                    · as_aux_lemma =>
                        replace hq := lf_pos hq (lf_eq (lf_rf r542) (lf_lc 23 (23 : Int) rfl) c546)
                        have h547 := ib_eq (ib_any r542) (ib_c 23 23 23 rfl) c546
                        have h548 : ib r542 23 23 := ib_w 23 23 h547.1 rfl
                        refine lv_aload_n hx hb dX10_qGoesOn_43 rfl (lv_at hl 0 rfl) ?_
                        refine lv_dup hx hb dX10_qGoesOn_44 rfl ?_
                        refine k_get C0 fg_X10_285 hP 2 rfl rfl dX10_qGoesOn_45 ?_
                        refine lv_iconst (v := 1) hx hb dX10_qGoesOn_48 rfl ?_
                        refine lv_iadd hx hb dX10_qGoesOn_49 ?_
                        refine lv_topi (fun z549 ez549 => ?_)
                        have h550 := ib_add h477 (ib_c 1 1 1 rfl) rfl
                        rw [← ez549] at h550
                        have h551 : ib z549 1 1600 := ib_w 1 1600 h550.1 rfl
                        have Ez549 := lf_add h550.2 (lf_rf v205) (lf_lc 1 (1 : Int) rfl)
                        refine k_put C0 fp_X10_285 hP hD hS 2 rfl rfl rfl (Nat.le_of_ble_eq_true rfl) dX10_qGoesOn_50 (fun H locs hP hD hS => ?_)
                        replace hP : va_P (dC, dI) vwCl [(wi_rm110_0_1700_0 rm cy J0_a3), (wi_rm0_0_1600_0 rm cy g_tape), (a_this, .inr (10, mfs rm x_taped z549 x_end x_ended x_bad x_badPlace x_fault x_faultPlace x_namePlace x_awayTold x_away x_coded x_statements x_isCrossing x_textKind x_askSecond x_redMany x_isOpen x_lastGreen x_greenTo x_isCycleGreen x_stillGreen x_rowMany x_fitMany x_fitRules x_fitGreen x_undoable x_newest x_seeded J0_c0_111 J0_c0_113 J0_c0_114 x_qBase x_qPiled x_qAnswer x_qIsNew x_octets)), (wi_rm112_0_1700_0 rm cy g_qWait)] H := hP
                        replace hD := k_D hP hD
                        refine lv_aload_n hx hb dX10_qGoesOn_53 rfl (lv_at hl 0 rfl) ?_
                        refine k_jvm hP hD hS hA [2, 3, 0] [false, true] rfl rfl rfl 0 0 (Nat.le_of_ble_eq_true rfl) (Nat.le_of_ble_eq_true rfl) (fun hPc hDc => k_runV (As := []) (rest := []) C0 hZ hS hA (s_X10_qDropsToBracket l dC dI cy sq a_this rm x_taped z549 x_end x_ended x_bad x_badPlace x_fault x_faultPlace x_namePlace x_awayTold x_away x_coded x_statements x_isCrossing x_textKind x_askSecond x_redMany x_isOpen x_lastGreen x_greenTo x_isCycleGreen x_stillGreen x_rowMany x_fitMany x_fitRules x_fitGreen x_undoable x_newest x_seeded J0_c0_111 J0_c0_113 J0_c0_114 x_qBase x_qPiled x_qAnswer x_qIsNew x_octets J0_a3 g_qWait cc (ib_w 0 0 hx_bad rfl) (ib_w 0 1700 h480 rfl) (ib_w 0 1700 h481 rfl) (ib_w 0 1700 h541 rfl) (by have := hJ0_lin2; have := (h478).2; omega) (by have := hJ0_lin1; omega) (fun q => (hJ0_go.1 q))) mV_X10_638 hPc hDc rfl rfl rfl hl rfl rfl (Nat.le_of_ble_eq_true rfl) ⟨(Nat.le_of_ble_eq_true rfl), (Nat.le_of_ble_eq_true rfl)⟩ ⟨(Nat.le_of_ble_eq_true rfl), (Nat.le_of_ble_eq_true rfl)⟩ dX10_qGoesOn_54) (fun u553 H locs hw hP hD hS => ?_)
                        obtain ⟨v554, v555, f556⟩ := u553
                        try dsimp only at hP hD hw
                        replace hP : va_P (dC, dI) vwCl [(wi_rm0_0_1600_0 rm cy g_tape), (a_this, .inr (10, mfs rm x_taped z549 x_end x_ended x_bad x_badPlace x_fault x_faultPlace x_namePlace x_awayTold x_away x_coded x_statements x_isCrossing x_textKind x_askSecond x_redMany x_isOpen x_lastGreen x_greenTo x_isCycleGreen x_stillGreen x_rowMany x_fitMany x_fitRules x_fitGreen x_undoable x_newest x_seeded v554 v555 J0_c0_114 x_qBase x_qPiled x_qAnswer x_qIsNew x_octets)), (wi_rm112_0_1700_0 rm cy g_qWait), (wi_rm110_0_1700_0 rm cy f556)] H := hP
                        replace hD := k_D hP hD
                        obtain ⟨h557, h558, h559, h560, h561, h562, h563, h564, h565⟩ := hw
                        replace hq := lf_p1 hq h565
                        replace hq := lf_p1 hq rfl
                        have h566 := BR_DB h544 h564 (ib_nc (-1) h548 rfl)
                        have h567 : 1 * x_qBase.toInt + (-1) * v555.toInt ≤ (-1) := by have q1 := h566.2; have q2 := (h541).1; omega
                        have h568 : ib v555 0 1620 := ⟨(h558).1, by have := (h558).2; have := h561; have := (h481).2; omega⟩
                        have h569 : ib v555 1 1620 := ⟨by have := (h568).1; have := h567; have := (h541).1; omega, (h568).2⟩
                        refine lv_aload_n hx hb dX10_qGoesOn_57 rfl (lv_at hl 0 rfl) ?_
                        as_aux_lemma =>
                          refine lv_dup hx hb dX10_qGoesOn_58 rfl ?_
                          refine k_get C0 fg_X10_372 hP 1 rfl rfl dX10_qGoesOn_59 ?_
                          refine lv_iconst (v := 1) hx hb dX10_qGoesOn_62 rfl ?_
                          refine lv_isub hx hb dX10_qGoesOn_63 ?_
                          refine lv_topi (fun z570 ez570 => ?_)
                          have h571 := ib_sub h569 (ib_c 1 1 1 rfl) rfl
                          rw [← ez570] at h571
                          have h572 : ib z570 0 1619 := ib_w 0 1619 h571.1 rfl
                          have Ez570 := lf_sub h571.2 (lf_rf v555) (lf_lc 1 (1 : Int) rfl)
                          refine k_put C0 fp_X10_372 hP hD hS 1 rfl rfl rfl (Nat.le_of_ble_eq_true rfl) dX10_qGoesOn_64 (fun H locs hP hD hS => ?_)
                          replace hP : va_P (dC, dI) vwCl [(wi_rm0_0_1600_0 rm cy g_tape), (a_this, .inr (10, mfs rm x_taped z549 x_end x_ended x_bad x_badPlace x_fault x_faultPlace x_namePlace x_awayTold x_away x_coded x_statements x_isCrossing x_textKind x_askSecond x_redMany x_isOpen x_lastGreen x_greenTo x_isCycleGreen x_stillGreen x_rowMany x_fitMany x_fitRules x_fitGreen x_undoable x_newest x_seeded v554 z570 J0_c0_114 x_qBase x_qPiled x_qAnswer x_qIsNew x_octets)), (wi_rm112_0_1700_0 rm cy g_qWait), (wi_rm110_0_1700_0 rm cy f556)] H := hP
                          replace hD := k_D hP hD
                          refine lv_aload_n hx hb dX10_qGoesOn_67 rfl (lv_at hl 0 rfl) ?_
                          refine lv_dup hx hb dX10_qGoesOn_68 rfl ?_
                          refine k_get C0 fg_X10_375 hP 1 rfl rfl dX10_qGoesOn_69 ?_
                          refine lv_iconst (v := 1) hx hb dX10_qGoesOn_72 rfl ?_
                          refine lv_isub hx hb dX10_qGoesOn_73 ?_
                          refine lv_topi (fun z573 ez573 => ?_)
                          have Ez573 := lf_op lf_isub ez573 (lf_rf J0_c0_114) (lf_lc 1 (1 : Int) rfl)
                          refine k_put C0 fp_X10_375 hP hD hS 1 rfl rfl rfl (Nat.le_of_ble_eq_true rfl) dX10_qGoesOn_74 (fun H locs hP hD hS => ?_)
                          replace hP : va_P (dC, dI) vwCl [(wi_rm0_0_1600_0 rm cy g_tape), (a_this, .inr (10, mfs rm x_taped z549 x_end x_ended x_bad x_badPlace x_fault x_faultPlace x_namePlace x_awayTold x_away x_coded x_statements x_isCrossing x_textKind x_askSecond x_redMany x_isOpen x_lastGreen x_greenTo x_isCycleGreen x_stillGreen x_rowMany x_fitMany x_fitRules x_fitGreen x_undoable x_newest x_seeded v554 z570 z573 x_qBase x_qPiled x_qAnswer x_qIsNew x_octets)), (wi_rm112_0_1700_0 rm cy g_qWait), (wi_rm110_0_1700_0 rm cy f556)] H := hP
                          replace hD := k_D hP hD
                          refine lv_aload_n hx hb dX10_qGoesOn_77 rfl (lv_at hl 0 rfl) ?_
                          refine k_get C0 fg_X10_267 hP 1 rfl rfl dX10_qGoesOn_78 ?_
                          refine lv_aload_n hx hb dX10_qGoesOn_81 rfl (lv_at hl 0 rfl) ?_
                          refine k_get C0 fg_X10_372 hP 1 rfl rfl dX10_qGoesOn_82 ?_
                          refine va_iald hx hb C0.2.2.2.2.2.1 hP 2 0 rfl rfl (ib_in 1700 h572 rfl) dX10_qGoesOn_85 ?_
                          refine lv_topi (fun z574 ez574 => ?_)
                          have Ez574 := lf_ld ez574 (lf_ra g_qWait) Ez570
                          have h575 : ib z574 23 23 := by rw [ez574, show Int32.toNatClampNeg z570 = v555.toInt.toNat - 1 from by show (Int32.toInt z570).toNat = _; have := (h569).1; have := (h569).2; have := h559; have := h560; have := h561; have := h562; have := h567; have := (h541).1; have := (h541).2; have := hL1; have := hJ0_lin1; have := (h481).1; have := (h481).2; have := hJ0_lin0; have := hJ0_lin2; have := h202; have := (h480).1; have := (h480).2; have := (h557).1; have := (h557).2; have := (h482).1; have := (h482).2; have := hL0; have := hJ0_lin3; have := (h540).1; have := (h540).2; have := (h539).1; have := (h539).2; have := (h478).1; have := (h478).2; have := h211; have := (h477).1; have := (h477).2; have := (h572).1; have := (h572).2; have := h571.2; have : (1 : Int32).toInt = 1 := rfl; omega, h566.1]; exact h548
                          as_aux_lemma =>
                            refine lv_bipush (v := 20) hx hb dX10_qGoesOn_86 rfl ?_
                            refine lv_icmp_eq (tgt := 115) hx hb dX10_qGoesOn_88 rfl (fun c576 => ?_) (fun c576 => ?_)
                            · skip
                              have h577 := ib_eq h575 (ib_c 20 20 20 rfl) c576
                              exact ib_no (ib_w 23 20 h577.1 rfl) rfl
                            · as_aux_lemma =>
                                skip
                                have h578 : ib J0_c0_113 1 1620 := ⟨by have := (h481).1; have := h561; have := (h569).1; omega, (h481).2⟩
                                refine lv_aload_n hx hb dX10_qGoesOn_91 rfl (lv_at hl 0 rfl) ?_
                                refine lv_aload_n hx hb dX10_qGoesOn_92 rfl (lv_at hl 0 rfl) ?_
                                refine k_get C0 fg_X10_267 hP 1 rfl rfl dX10_qGoesOn_93 ?_
                                refine lv_aload_n hx hb dX10_qGoesOn_96 rfl (lv_at hl 0 rfl) ?_
                                refine k_get C0 fg_X10_372 hP 1 rfl rfl dX10_qGoesOn_97 ?_
                                refine va_iald hx hb C0.2.2.2.2.2.1 hP 2 0 rfl rfl (ib_in 1700 h572 rfl) dX10_qGoesOn_100 ?_
                                refine lv_topi (fun z579 ez579 => ?_)
                                obtain rfl : z574 = z579 := ez574.trans ez579.symm
                                refine lv_bipush (v := 23) hx hb dX10_qGoesOn_101 rfl ?_
                                refine lv_icmp_ne (tgt := 110) hx hb dX10_qGoesOn_103 rfl (fun c580 => ?_) (fun c580 => ?_)
                                · skip
                                  exact absurd (ib_one h575 rfl) c580
                                · as_aux_lemma =>
                                    skip
                                    have h581 := ib_eq h575 (ib_c 23 23 23 rfl) c580
                                    have h582 : ib J0_c0_111 0 1619 := ⟨(h480).1, by have := (h480).2; have := h202; have := (h578).1; have := hL0; have := (h478).2; omega⟩
                                    refine lv_iconst (v := 5) hx hb dX10_qGoesOn_106 rfl ?_
                                    refine lv_goto (tgt := 112) hx hb dX10_qGoesOn_107 rfl ?_
                                    refine k_jvm hP hD hS hA [1, 3] [true, false, true] rfl rfl rfl 0 0 (Nat.le_of_ble_eq_true rfl) (Nat.le_of_ble_eq_true rfl) (fun hPc hDc => k_runV (As := [.int 5]) (rest := []) C0 hZ hS hA (s_X10_qCode l dC dI cy sq a_this rm x_taped z549 x_end x_ended x_bad x_badPlace x_fault x_faultPlace x_namePlace x_awayTold x_away x_coded x_statements x_isCrossing x_textKind x_askSecond x_redMany x_isOpen x_lastGreen x_greenTo x_isCycleGreen x_stillGreen x_rowMany x_fitMany x_fitRules x_fitGreen x_undoable x_newest x_seeded v554 z570 z573 x_qBase x_qPiled x_qAnswer x_qIsNew x_octets f556 5 ⟨by have := (h557).1; have := (h557).2; have := h559; have := h560; have := (h578).1; have := (h578).2; have := hJ0_lin0; have := hJ0_lin1; have := hJ0_lin2; have := h202; have := h561; have := (h569).1; have := (h569).2; have := h562; have := h567; have := (h541).1; have := (h541).2; have := hL1; have := (h540).1; have := (h540).2; have := hL0; have := (h482).1; have := (h482).2; have := hJ0_lin3; have := (h539).1; have := (h539).2; have := (h478).1; have := (h478).2; have := h211; have := (h477).1; have := (h477).2; have := (h582).1; have := (h582).2; omega, by have := (h557).1; have := (h557).2; have := h559; have := h560; have := (h578).1; have := (h578).2; have := hJ0_lin0; have := hJ0_lin1; have := hJ0_lin2; have := h202; have := h561; have := (h569).1; have := (h569).2; have := h562; have := h567; have := (h541).1; have := (h541).2; have := hL1; have := (h540).1; have := (h540).2; have := hL0; have := (h482).1; have := (h482).2; have := hJ0_lin3; have := (h539).1; have := (h539).2; have := (h478).1; have := (h478).2; have := h211; have := (h477).1; have := (h477).2; have := (h582).1; have := (h582).2; omega⟩) mV_X10_608 hPc hDc rfl rfl rfl hl rfl rfl (Nat.le_of_ble_eq_true rfl) ⟨(Nat.le_of_ble_eq_true rfl), (Nat.le_of_ble_eq_true rfl)⟩ ⟨(Nat.le_of_ble_eq_true rfl), (Nat.le_of_ble_eq_true rfl)⟩ dX10_qGoesOn_112) (fun u584 H locs hw hP hD hS => ?_)
                                    obtain ⟨v585, f586⟩ := u584
                                    try dsimp only at hP hD hw
                                    replace hP : va_P (dC, dI) vwCl [(wi_rm0_0_1600_0 rm cy g_tape), (wi_rm112_0_1700_0 rm cy g_qWait), (a_this, .inr (10, mfs rm x_taped z549 x_end x_ended x_bad x_badPlace x_fault x_faultPlace x_namePlace x_awayTold x_away x_coded x_statements x_isCrossing x_textKind x_askSecond x_redMany x_isOpen x_lastGreen x_greenTo x_isCycleGreen x_stillGreen x_rowMany x_fitMany x_fitRules x_fitGreen x_undoable x_newest x_seeded v585 z570 z573 x_qBase x_qPiled x_qAnswer x_qIsNew x_octets)), (wi_rm110_0_1700_0 rm cy f586)] H := hP
                                    replace hD := k_D hP hD
                                    obtain ⟨h587, h588, h589, h590⟩ := hw
                                    have h591 : v585.toInt = (v554 : Int32).toInt + (1 : Int32).toInt := by have q1 := h588; have q2 : (1 : Int32).toInt = 1 := rfl; omega
                                    have h590 := by have h9 := h590; try simp only [show (5 : Int32).toInt = (5 : Int) from rfl] at h9; exact h9
                                    replace hq := lf_p1 hq h590
                                    have h592 : x_bad = 0 → GS f586 v585 g_qWait z570 x_qBase x_textKind (cc + 1) := fun q => (by rw [h589]; exact GS_mm (h563 q) (by have := (h541).1; have := (h541).2; have := hL1; have := hJ0_lin1; have := h562; have := h567; have := (h569).1; have := (h569).2; have := h559; have := h560; have := h561; have := (h578).1; have := (h578).2; have := hJ0_lin0; have := hJ0_lin2; have := h202; have := (h582).1; have := (h582).2; have := (h557).1; have := (h557).2; have := (h482).1; have := (h482).2; have := hL0; have := hJ0_lin3; have := (h540).1; have := (h540).2; have := (h539).1; have := (h539).2; have := (h478).1; have := (h478).2; have := h211; have := (h477).1; have := (h477).2; have := (h572).1; have := (h572).2; have := h571.2; have : (1 : Int32).toInt = 1 := rfl; omega) (by have := (h541).1; have := (h541).2; have := hL1; have := hJ0_lin1; have := h562; have := h567; have := (h569).1; have := (h569).2; have := h559; have := h560; have := h561; have := (h578).1; have := (h578).2; have := hJ0_lin0; have := hJ0_lin2; have := h202; have := (h582).1; have := (h582).2; have := (h557).1; have := (h557).2; have := (h482).1; have := (h482).2; have := hL0; have := hJ0_lin3; have := (h540).1; have := (h540).2; have := (h539).1; have := (h539).2; have := (h478).1; have := (h478).2; have := h211; have := (h477).1; have := (h477).2; have := (h572).1; have := (h572).2; have := h571.2; have : (1 : Int32).toInt = 1 := rfl; omega) (by rw [← ez574]; have := (h575).1; have := (h575).2; omega) (by have := (h557).1; have := (h557).2; have := h559; have := h560; have := (h578).1; have := (h578).2; have := hJ0_lin0; have := hJ0_lin1; have := hJ0_lin2; have := h202; have := h561; have := (h569).1; have := (h569).2; have := h562; have := h567; have := (h541).1; have := (h541).2; have := hL1; have := (h540).1; have := (h540).2; have := hL0; have := (h482).1; have := (h482).2; have := hJ0_lin3; have := (h539).1; have := (h539).2; have := (h478).1; have := (h478).2; have := h211; have := (h477).1; have := (h477).2; have := (h582).1; have := (h582).2; have := (h587).1; have := (h587).2; have := h591; have : (1 : Int32).toInt = 1 := rfl; omega) (by decide))
                                    refine lv_aload_n hx hb dX10_qGoesOn_115 rfl (lv_at hl 0 rfl) ?_
                                    refine k_jvm hP hD hS hA [2, 1, 3] [true] rfl rfl rfl 0 0 (Nat.le_of_ble_eq_true rfl) (Nat.le_of_ble_eq_true rfl) (fun hPc hDc => k_runV (As := []) (rest := []) C0 hZ hS hA (s_X10_qEndsPart l dC dI cy sq a_this rm x_taped z549 x_end x_ended x_bad x_badPlace x_fault x_faultPlace x_namePlace x_awayTold x_away x_coded x_statements x_isCrossing x_textKind x_askSecond x_redMany x_isOpen x_lastGreen x_greenTo x_isCycleGreen x_stillGreen x_rowMany x_fitMany x_fitRules x_fitGreen x_undoable x_newest x_seeded v585 z570 z573 x_qBase x_qPiled x_qAnswer x_qIsNew x_octets f586 g_qWait cc (ib_w 0 1700 h587 rfl) (ib_w 0 1700 h572 rfl) (ib_w 0 1700 h541 rfl) (by have := (h572).2; have := h571.2; have : (1 : Int32).toInt = 1 := rfl; have := h559; have := hJ0_lin2; have := (h478).2; have := (h587).2; have := h591; omega) (by have := h571.2; have : (1 : Int32).toInt = 1 := rfl; have := h567; omega) (fun q => (h592 q))) mV_X10_632 hPc hDc rfl rfl rfl hl rfl rfl (Nat.le_of_ble_eq_true rfl) ⟨(Nat.le_of_ble_eq_true rfl), (Nat.le_of_ble_eq_true rfl)⟩ ⟨(Nat.le_of_ble_eq_true rfl), (Nat.le_of_ble_eq_true rfl)⟩ dX10_qGoesOn_116) (fun u594 H locs hw hP hD hS => ?_)
                                    obtain ⟨v595, v596, v597, f598⟩ := u594
                                    try dsimp only at hP hD hw
                                    replace hP : va_P (dC, dI) vwCl [(wi_rm0_0_1600_0 rm cy g_tape), (a_this, .inr (10, mfs rm x_taped z549 x_end x_ended x_bad x_badPlace x_fault x_faultPlace x_namePlace x_awayTold x_away x_coded x_statements x_isCrossing x_textKind x_askSecond x_redMany x_isOpen x_lastGreen x_greenTo x_isCycleGreen x_stillGreen x_rowMany x_fitMany x_fitRules x_fitGreen x_undoable x_newest x_seeded v595 v596 v597 x_qBase x_qPiled x_qAnswer x_qIsNew x_octets)), (wi_rm112_0_1700_0 rm cy g_qWait), (wi_rm110_0_1700_0 rm cy f598)] H := hP
                                    replace hD := k_D hP hD
                                    obtain ⟨h599, h600, h601, h602, h603, h604, h605, h606⟩ := hw
                                    have h606 := by have h9 := h606; rw [lf_u Ez570] at h9; rw [lf_u Ez573] at h9; exact h9
                                    replace hq := lf_p1 hq h606
                                    replace hq := lf_p1 hq rfl
                                    replace hq := lf_p1 hq rfl
                                    refine lv_goto (tgt := 0) hx hb dX10_qGoesOn_119 rfl ?_
                                    exact ih0 z549 v595 v596 v597 f598 H locs ls (ib_w 0 1600 h551 rfl) ⟨by have := (h599).1; omega, by have := (h478).2; have := hJ0_lin2; have := h559; have := (h600).1; have := h601; have := h571.2; have : (1 : Int32).toInt = 1 := rfl; have := h591; have := (h599).2; omega⟩ ⟨by have := (h600).1; omega, by have := (h600).2; have := h603; have := (h572).2; omega⟩ (by have := (h482).2; have := h202; have := (h540).1; have := (h539).1; have := h211; have := h559; have := (h600).2; have := h601; have := h571.2; have : (1 : Int32).toInt = 1 := rfl; have := h591; have := (h599).2; have := (h551).1; have := h550.2; omega) (by have := h604; omega) (by have := (h551).1; have := h550.2; have : (1 : Int32).toInt = 1 := rfl; have := h211; have := hJ0_lin2; have := h559; have := (h600).2; have := h601; have := h571.2; have := h591; have := (h599).2; omega) (by have := (h551).1; have := h550.2; have : (1 : Int32).toInt = 1 := rfl; have := h211; have := hJ0_lin3; have := (h482).2; omega) (⟨fun q => (h605 q), fun q9 => (by have := (h482).2; have := h202; have := (h540).1; have := (h539).1; have := h211; have := h559; have := (h600).2; have := h601; have := h571.2; have : (1 : Int32).toInt = 1 := rfl; have := h591; have := (h599).2; have := (h551).1; have := h550.2; omega)⟩) (by rw [← hK0]; rw [lf_u Ez549]; exact hq) (by have := (h478).1; have := (h478).2; have := hJ0_lin0; have := hJ0_lin2; have := hJ0_lin3; have := h202; have := h211; have := (h477).1; have := (h477).2; have := (h482).1; have := (h482).2; have := hL0; have := (h540).1; have := (h540).2; have := hL1; have := (h539).1; have := (h539).2; have := (h578).1; have := (h578).2; have := hJ0_lin1; have := h559; have := h560; have := h561; have := (h569).1; have := (h569).2; have := h562; have := h567; have := (h541).1; have := (h541).2; have := h604; have := (h600).1; have := (h600).2; have := h601; have := h602; have := h603; have := (h572).1; have := (h572).2; have := h571.2; have : (1 : Int32).toInt = 1 := rfl; have := (h587).1; have := (h587).2; have := h591; have := (h599).1; have := (h599).2; have := (h557).1; have := (h557).2; have := (h582).1; have := (h582).2; have := (h551).1; have := (h551).2; have := h550.2; omega) (hP.sub [1, 0, 2, 3] rfl) (hD.sub [1, 0, 2, 3] rfl rfl) hS (lv_sub hl [0] rfl)
                    · as_aux_lemma =>
                        replace hq := lf_neg hq (lf_ne (lf_rf r542) (lf_lc 23 (23 : Int) rfl) c546)
                        refine lv_aload_n hx hb dX10_qGoesOn_34 rfl (lv_at hl 0 rfl) ?_
                        refine k_jim hP hD hS hA [2, 3] [true, true] rfl rfl rfl 0 0 (Nat.le_of_ble_eq_true rfl) (Nat.le_of_ble_eq_true rfl) (fun hPc hDc => k_runV (As := []) (rest := []) C0 hZ hS hA (s_X10_qBracket l dC dI cy sq a_this rm x_taped v205 x_end x_ended x_bad x_badPlace x_fault x_faultPlace x_namePlace x_awayTold x_away x_coded x_statements x_isCrossing x_textKind x_askSecond x_redMany x_isOpen x_lastGreen x_greenTo x_isCycleGreen x_stillGreen x_rowMany x_fitMany x_fitRules x_fitGreen x_undoable x_newest x_seeded J0_c0_111 J0_c0_113 J0_c0_114 x_qBase x_qPiled x_qAnswer x_qIsNew x_octets g_qWait (ib_w 0 1700 h481 rfl) (ib_w 0 1700 h541 rfl)) mV_X10_635 hPc hDc rfl rfl rfl hl rfl rfl (Nat.le_of_ble_eq_true rfl) ⟨(Nat.le_of_ble_eq_true rfl), (Nat.le_of_ble_eq_true rfl)⟩ ⟨(Nat.le_of_ble_eq_true rfl), (Nat.le_of_ble_eq_true rfl)⟩ dX10_qGoesOn_35) (fun r607 u608 H locs hw hP hD hS => ?_)
                        try dsimp only at hP hD hw
                        replace hP : va_P (dC, dI) vwCl [(wi_rm110_0_1700_0 rm cy J0_a3), (wi_rm0_0_1600_0 rm cy g_tape), (a_this, .inr (10, mfs rm x_taped v205 x_end x_ended x_bad x_badPlace x_fault x_faultPlace x_namePlace x_awayTold x_away x_coded x_statements x_isCrossing x_textKind x_askSecond x_redMany x_isOpen x_lastGreen x_greenTo x_isCycleGreen x_stillGreen x_rowMany x_fitMany x_fitRules x_fitGreen x_undoable x_newest x_seeded J0_c0_111 J0_c0_113 J0_c0_114 x_qBase x_qPiled x_qAnswer x_qIsNew x_octets)), (wi_rm112_0_1700_0 rm cy g_qWait)] H := hP
                        replace hD := k_D hP hD
                        obtain ⟨h609, h610⟩ := hw
                        replace hq := lf_b1 hq h610
                        refine lv_bipush (v := 24) hx hb dX10_qGoesOn_38 rfl ?_
                        refine lv_icmp_ne (tgt := 122) hx hb dX10_qGoesOn_40 rfl (fun c611 => ?_) (fun c611 => ?_)
                        · as_aux_lemma =>
                            replace hq := lf_neg hq (lf_ne (lf_rf r607) (lf_lc 24 (24 : Int) rfl) c611)
                            refine lv_aload_n hx hb dX10_qGoesOn_122 rfl (lv_at hl 0 rfl) ?_
                            refine lv_bipush (v := 42) hx hb dX10_qGoesOn_123 rfl ?_
                            refine k_jim hP hD hS hA [2, 1] [true, false, false, true] rfl rfl rfl 0 0 (Nat.le_of_ble_eq_true rfl) (Nat.le_of_ble_eq_true rfl) (fun hPc hDc => k_runV (As := [.int 42]) (rest := []) C0 hZ hS hA (s_X10_takesSign_a0_42 l dC dI cy sq a_this rm x_taped v205 x_end x_ended x_bad x_badPlace x_fault x_faultPlace x_namePlace x_awayTold x_away x_coded x_statements x_isCrossing x_textKind x_askSecond x_redMany x_isOpen x_lastGreen x_greenTo x_isCycleGreen x_stillGreen x_rowMany x_fitMany x_fitRules x_fitGreen x_undoable x_newest x_seeded J0_c0_111 J0_c0_113 J0_c0_114 x_qBase x_qPiled x_qAnswer x_qIsNew x_octets g_tape (ib_w 0 1600 h477 rfl) (ib_w 0 1600 h479 rfl) hg_tape) mV_X10_312 hPc hDc rfl rfl rfl hl rfl rfl (Nat.le_of_ble_eq_true rfl) ⟨(Nat.le_of_ble_eq_true rfl), (Nat.le_of_ble_eq_true rfl)⟩ ⟨(Nat.le_of_ble_eq_true rfl), (Nat.le_of_ble_eq_true rfl)⟩ dX10_qGoesOn_125) (fun r612 u613 H locs hw hP hD hS => ?_)
                            obtain ⟨v614, ev614⟩ : ∃ z, z = u613 := ⟨_, rfl⟩; subst ev614
                            try dsimp only at hP hD hw
                            replace hP : va_P (dC, dI) vwCl [(wi_rm110_0_1700_0 rm cy J0_a3), (wi_rm112_0_1700_0 rm cy g_qWait), (a_this, .inr (10, mfs rm x_taped v614 x_end x_ended x_bad x_badPlace x_fault x_faultPlace x_namePlace x_awayTold x_away x_coded x_statements x_isCrossing x_textKind x_askSecond x_redMany x_isOpen x_lastGreen x_greenTo x_isCycleGreen x_stillGreen x_rowMany x_fitMany x_fitRules x_fitGreen x_undoable x_newest x_seeded J0_c0_111 J0_c0_113 J0_c0_114 x_qBase x_qPiled x_qAnswer x_qIsNew x_octets)), (wi_rm0_0_1600_0 rm cy g_tape)] H := hP
                            replace hD := k_D hP hD
                            obtain ⟨h615, h616, h617, h618, h619, h620, h621, h622, h623⟩ := hw
                            replace hq := lf_p1 hq h623
                            refine lv_if_ne (tgt := 140) hx hb dX10_qGoesOn_128 rfl (fun c624 => ?_) (fun c624 => ?_)
                            · as_aux_lemma =>
                                replace hq := lf_neg hq (lf_ne (lf_rf r612) (lf_lc 0 (0 : Int) rfl) c624)
                                have h625 : ib r612 1 1 := ib_w 1 1 (ib_ne_lo 0 h616 rfl c624) rfl
                                have h626 := h622 (ib_nz h625 rfl)
                                have h627 : ib v614 1 1600 := ⟨by have := (h615).1; have := h626; have := (h477).1; omega, (h615).2⟩
                                refine lv_aload_n hx hb dX10_qGoesOn_140 rfl (lv_at hl 0 rfl) ?_
                                refine k_get C0 fg_X10_7 hP 2 rfl rfl dX10_qGoesOn_141 ?_
                                refine lv_aload_n hx hb dX10_qGoesOn_144 rfl (lv_at hl 0 rfl) ?_
                                refine k_get C0 fg_X10_285 hP 2 rfl rfl dX10_qGoesOn_145 ?_
                                refine lv_iconst (v := 1) hx hb dX10_qGoesOn_148 rfl ?_
                                refine lv_isub hx hb dX10_qGoesOn_149 ?_
                                refine lv_topi (fun z628 ez628 => ?_)
                                have h629 := ib_sub h627 (ib_c 1 1 1 rfl) rfl
                                rw [← ez628] at h629
                                have h630 : ib z628 0 1599 := ib_w 0 1599 h629.1 rfl
                                have Ez628 := lf_sub h629.2 (lf_rf v614) (lf_lc 1 (1 : Int) rfl)
                                refine va_iald hx hb C0.2.2.2.2.2.1 hP 3 0 rfl rfl (ib_in 1600 h630 rfl) dX10_qGoesOn_150 ?_
                                refine lv_topi (fun z631 ez631 => ?_)
                                have h632 : ib z631 0 255 := by rw [ez631]; exact ia_at hg_tape (ib_in 1600 h630 rfl)
                                have Ez631 := lf_ld ez631 (lf_ra g_tape) Ez628
                                refine lv_bipush (v := 42) hx hb dX10_qGoesOn_151 rfl ?_
                                refine lv_icmp_ne (tgt := 160) hx hb dX10_qGoesOn_153 rfl (fun c633 => ?_) (fun c633 => ?_)
                                · replace hq := lf_neg hq (lf_ne Ez631 (lf_lc 42 (42 : Int) rfl) c633)
                                  refine lv_iconst (v := 4) hx hb dX10_qGoesOn_160 rfl ?_
                                  refine lv_istore_n (lv' := [(1, .int 4), (0, .ref a_this)]) hx hb dX10_qGoesOn_161 rfl hl (Nat.le_of_ble_eq_true rfl) rfl (fun ls hl => ?_)
                                  exact jn162 1623 v614 4 J0_c0_111 J0_c0_113 J0_c0_114 J0_a3 H locs ls (ib_w 1 1600 h627 rfl) (ib_w 1 1600 h479 rfl) (ib_w 0 1620 h541 rfl) (ib_w 3 4 (ib_c 4 4 4 rfl) rfl) (ib_w 0 1621 h480 rfl) (ib_w 0 1621 h481 rfl) (by have := hJ0_lin0; have := h211; have := h626; omega) (by have := hJ0_lin1; omega) (by have := h626; have := h211; have := hJ0_lin2; omega) (by have := (h627).1; have := h626; have := h211; have := hJ0_lin3; have := (h482).2; omega) (⟨fun q => (hJ0_go.1 q), fun q9 => (by have := hJ0_lin0; have := h202; have := h211; have := h626; omega)⟩) (by try simp only [show (4 : Int32).toInt = (4 : Int) from rfl]; exact hq) (by have := h480; unfold ib at this; omega) (hP.sub [2, 3, 1, 0] rfl) (hD.sub [2, 3, 1, 0] rfl rfl) hS (lv_sub hl [1, 0] rfl)
                                · replace hq := lf_pos hq (lf_eq Ez631 (lf_lc 42 (42 : Int) rfl) c633)
                                  have h634 := ib_eq h632 (ib_c 42 42 42 rfl) c633
                                  have h635 : ib z631 42 42 := ib_w 42 42 h634.1 rfl
                                  refine lv_iconst (v := 3) hx hb dX10_qGoesOn_156 rfl ?_
                                  refine lv_goto (tgt := 161) hx hb dX10_qGoesOn_157 rfl ?_
                                  refine lv_istore_n (lv' := [(1, .int 3), (0, .ref a_this)]) hx hb dX10_qGoesOn_161 rfl hl (Nat.le_of_ble_eq_true rfl) rfl (fun ls hl => ?_)
                                  exact jn162 1623 v614 3 J0_c0_111 J0_c0_113 J0_c0_114 J0_a3 H locs ls (ib_w 1 1600 h627 rfl) (ib_w 1 1600 h479 rfl) (ib_w 0 1620 h541 rfl) (ib_w 3 4 (ib_c 3 3 3 rfl) rfl) (ib_w 0 1621 h480 rfl) (ib_w 0 1621 h481 rfl) (by have := hJ0_lin0; have := h211; have := h626; omega) (by have := hJ0_lin1; omega) (by have := h626; have := h211; have := hJ0_lin2; omega) (by have := (h627).1; have := h626; have := h211; have := hJ0_lin3; have := (h482).2; omega) (⟨fun q => (hJ0_go.1 q), fun q9 => (by have := hJ0_lin0; have := h202; have := h211; have := h626; omega)⟩) (by try simp only [show (3 : Int32).toInt = (3 : Int) from rfl]; exact hq) (by have := h480; unfold ib at this; omega) (hP.sub [2, 3, 1, 0] rfl) (hD.sub [2, 3, 1, 0] rfl rfl) hS (lv_sub hl [1, 0] rfl)
                            · as_aux_lemma =>
                                replace hq := lf_pos hq (lf_eq (lf_rf r612) (lf_lc 0 (0 : Int) rfl) c624)
                                have h636 := ib_eq h616 (ib_c 0 0 0 rfl) c624
                                have h637 : ib r612 0 0 := ib_w 0 0 h636.1 rfl
                                refine lv_aload_n hx hb dX10_qGoesOn_131 rfl (lv_at hl 0 rfl) ?_
                                refine lv_bipush (v := 47) hx hb dX10_qGoesOn_132 rfl ?_
                                refine k_jim hP hD hS hA [2, 3] [true, true] rfl rfl rfl 0 0 (Nat.le_of_ble_eq_true rfl) (Nat.le_of_ble_eq_true rfl) (fun hPc hDc => k_runV (As := [.int 47]) (rest := []) C0 hZ hS hA (s_X10_takesSign_a0_47 l dC dI cy sq a_this rm x_taped v614 x_end x_ended x_bad x_badPlace x_fault x_faultPlace x_namePlace x_awayTold x_away x_coded x_statements x_isCrossing x_textKind x_askSecond x_redMany x_isOpen x_lastGreen x_greenTo x_isCycleGreen x_stillGreen x_rowMany x_fitMany x_fitRules x_fitGreen x_undoable x_newest x_seeded J0_c0_111 J0_c0_113 J0_c0_114 x_qBase x_qPiled x_qAnswer x_qIsNew x_octets g_tape (ib_w 0 1600 h615 rfl) (ib_w 0 1600 h479 rfl) hg_tape) mV_X10_312 hPc hDc rfl rfl rfl hl rfl rfl (Nat.le_of_ble_eq_true rfl) ⟨(Nat.le_of_ble_eq_true rfl), (Nat.le_of_ble_eq_true rfl)⟩ ⟨(Nat.le_of_ble_eq_true rfl), (Nat.le_of_ble_eq_true rfl)⟩ dX10_qGoesOn_134) (fun r638 u639 H locs hw hP hD hS => ?_)
                                obtain ⟨v640, ev640⟩ : ∃ z, z = u639 := ⟨_, rfl⟩; subst ev640
                                try dsimp only at hP hD hw
                                replace hP : va_P (dC, dI) vwCl [(wi_rm110_0_1700_0 rm cy J0_a3), (wi_rm112_0_1700_0 rm cy g_qWait), (a_this, .inr (10, mfs rm x_taped v640 x_end x_ended x_bad x_badPlace x_fault x_faultPlace x_namePlace x_awayTold x_away x_coded x_statements x_isCrossing x_textKind x_askSecond x_redMany x_isOpen x_lastGreen x_greenTo x_isCycleGreen x_stillGreen x_rowMany x_fitMany x_fitRules x_fitGreen x_undoable x_newest x_seeded J0_c0_111 J0_c0_113 J0_c0_114 x_qBase x_qPiled x_qAnswer x_qIsNew x_octets)), (wi_rm0_0_1600_0 rm cy g_tape)] H := hP
                                replace hD := k_D hP hD
                                obtain ⟨h641, h642, h643, h644, h645, h646, h647, h648, h649⟩ := hw
                                replace hq := lf_p1 hq h649
                                refine lv_if_eq (tgt := 207) hx hb dX10_qGoesOn_137 rfl (fun c650 => ?_) (fun c650 => ?_)
                                · as_aux_lemma =>
                                    replace hq := lf_pos hq (lf_eq (lf_rf r638) (lf_lc 0 (0 : Int) rfl) c650)
                                    have h651 := ib_eq h642 (ib_c 0 0 0 rfl) c650
                                    have h652 : ib r638 0 0 := ib_w 0 0 h651.1 rfl
                                    refine lv_aload_n hx hb dX10_qGoesOn_207 rfl (lv_at hl 0 rfl) ?_
                                    refine lv_bipush (v := 43) hx hb dX10_qGoesOn_208 rfl ?_
                                    refine k_jim hP hD hS hA [2, 3] [true, true] rfl rfl rfl 0 0 (Nat.le_of_ble_eq_true rfl) (Nat.le_of_ble_eq_true rfl) (fun hPc hDc => k_runV (As := [.int 43]) (rest := []) C0 hZ hS hA (s_X10_takesSign_a0_43 l dC dI cy sq a_this rm x_taped v640 x_end x_ended x_bad x_badPlace x_fault x_faultPlace x_namePlace x_awayTold x_away x_coded x_statements x_isCrossing x_textKind x_askSecond x_redMany x_isOpen x_lastGreen x_greenTo x_isCycleGreen x_stillGreen x_rowMany x_fitMany x_fitRules x_fitGreen x_undoable x_newest x_seeded J0_c0_111 J0_c0_113 J0_c0_114 x_qBase x_qPiled x_qAnswer x_qIsNew x_octets g_tape (ib_w 0 1600 h641 rfl) (ib_w 0 1600 h479 rfl) hg_tape) mV_X10_312 hPc hDc rfl rfl rfl hl rfl rfl (Nat.le_of_ble_eq_true rfl) ⟨(Nat.le_of_ble_eq_true rfl), (Nat.le_of_ble_eq_true rfl)⟩ ⟨(Nat.le_of_ble_eq_true rfl), (Nat.le_of_ble_eq_true rfl)⟩ dX10_qGoesOn_210) (fun r653 u654 H locs hw hP hD hS => ?_)
                                    obtain ⟨v655, ev655⟩ : ∃ z, z = u654 := ⟨_, rfl⟩; subst ev655
                                    try dsimp only at hP hD hw
                                    replace hP : va_P (dC, dI) vwCl [(wi_rm110_0_1700_0 rm cy J0_a3), (wi_rm112_0_1700_0 rm cy g_qWait), (a_this, .inr (10, mfs rm x_taped v655 x_end x_ended x_bad x_badPlace x_fault x_faultPlace x_namePlace x_awayTold x_away x_coded x_statements x_isCrossing x_textKind x_askSecond x_redMany x_isOpen x_lastGreen x_greenTo x_isCycleGreen x_stillGreen x_rowMany x_fitMany x_fitRules x_fitGreen x_undoable x_newest x_seeded J0_c0_111 J0_c0_113 J0_c0_114 x_qBase x_qPiled x_qAnswer x_qIsNew x_octets)), (wi_rm0_0_1600_0 rm cy g_tape)] H := hP
                                    replace hD := k_D hP hD
                                    obtain ⟨h656, h657, h658, h659, h660, h661, h662, h663, h664⟩ := hw
                                    replace hq := lf_p1 hq h664
                                    refine lv_if_ne (tgt := 225) hx hb dX10_qGoesOn_213 rfl (fun c665 => ?_) (fun c665 => ?_)
                                    · as_aux_lemma =>
                                        replace hq := lf_neg hq (lf_ne (lf_rf r653) (lf_lc 0 (0 : Int) rfl) c665)
                                        have h666 : ib r653 1 1 := ib_w 1 1 (ib_ne_lo 0 h657 rfl c665) rfl
                                        have h667 := h663 (ib_nz h666 rfl)
                                        have h668 : ib v640 0 1599 := ⟨(h641).1, by have := (h641).2; have := h667; have := (h656).2; omega⟩
                                        have h669 : ib v655 1 1600 := ⟨by have := (h656).1; have := h667; have := (h668).1; omega, (h656).2⟩
                                        have h670 : ib v614 0 1599 := ⟨(h615).1, by have := (h615).2; have := h647; have := (h668).2; omega⟩
                                        refine lv_aload_n hx hb dX10_qGoesOn_225 rfl (lv_at hl 0 rfl) ?_
                                        refine k_get C0 fg_X10_7 hP 2 rfl rfl dX10_qGoesOn_226 ?_
                                        refine lv_aload_n hx hb dX10_qGoesOn_229 rfl (lv_at hl 0 rfl) ?_
                                        refine k_get C0 fg_X10_285 hP 2 rfl rfl dX10_qGoesOn_230 ?_
                                        refine lv_iconst (v := 1) hx hb dX10_qGoesOn_233 rfl ?_
                                        refine lv_isub hx hb dX10_qGoesOn_234 ?_
                                        refine lv_topi (fun z671 ez671 => ?_)
                                        have h672 := ib_sub h669 (ib_c 1 1 1 rfl) rfl
                                        rw [← ez671] at h672
                                        have h673 : ib z671 0 1599 := ib_w 0 1599 h672.1 rfl
                                        have Ez671 := lf_sub h672.2 (lf_rf v655) (lf_lc 1 (1 : Int) rfl)
                                        refine va_iald hx hb C0.2.2.2.2.2.1 hP 3 0 rfl rfl (ib_in 1600 h673 rfl) dX10_qGoesOn_235 ?_
                                        refine lv_topi (fun z674 ez674 => ?_)
                                        have h675 : ib z674 0 255 := by rw [ez674]; exact ia_at hg_tape (ib_in 1600 h673 rfl)
                                        have Ez674 := lf_ld ez674 (lf_ra g_tape) Ez671
                                        refine lv_bipush (v := 43) hx hb dX10_qGoesOn_236 rfl ?_
                                        refine lv_icmp_ne (tgt := 245) hx hb dX10_qGoesOn_238 rfl (fun c676 => ?_) (fun c676 => ?_)
                                        · replace hq := lf_neg hq (lf_ne Ez674 (lf_lc 43 (43 : Int) rfl) c676)
                                          refine lv_iconst (v := 2) hx hb dX10_qGoesOn_245 rfl ?_
                                          refine lv_istore_n (lv' := [(1, .int 2), (0, .ref a_this)]) hx hb dX10_qGoesOn_246 rfl hl (Nat.le_of_ble_eq_true rfl) rfl (fun ls hl => ?_)
                                          exact jn247 1623 v655 2 J0_c0_111 J0_c0_113 J0_c0_114 J0_a3 H locs ls (ib_w 1 1600 h669 rfl) (ib_w 1 1600 h479 rfl) (ib_w 0 1620 h541 rfl) (ib_w 1 2 (ib_c 2 2 2 rfl) rfl) (ib_w 0 1621 h480 rfl) (ib_w 0 1621 h481 rfl) (by have := h202; have := (h478).2; have := h211; have := h621; have := h647; have := h667; have := (h669).1; omega) (by have := hJ0_lin1; omega) (by have := (h669).1; have := h667; have := h647; have := h621; have := h211; have := (h478).2; have := hJ0_lin2; omega) (by have := (h669).1; have := h667; have := h647; have := h621; have := h211; have := hJ0_lin3; have := (h482).2; omega) (⟨fun q => (hJ0_go.1 q), fun q9 => (by have := h202; have := (h478).2; have := h211; have := h621; have := h647; have := h667; have := (h669).1; omega)⟩) (by try simp only [show (2 : Int32).toInt = (2 : Int) from rfl]; exact hq) (by have := h480; unfold ib at this; omega) (hP.sub [2, 3, 1, 0] rfl) (hD.sub [2, 3, 1, 0] rfl rfl) hS (lv_sub hl [1, 0] rfl)
                                        · replace hq := lf_pos hq (lf_eq Ez674 (lf_lc 43 (43 : Int) rfl) c676)
                                          have h677 := ib_eq h675 (ib_c 43 43 43 rfl) c676
                                          have h678 : ib z674 43 43 := ib_w 43 43 h677.1 rfl
                                          refine lv_iconst (v := 1) hx hb dX10_qGoesOn_241 rfl ?_
                                          refine lv_goto (tgt := 246) hx hb dX10_qGoesOn_242 rfl ?_
                                          refine lv_istore_n (lv' := [(1, .int 1), (0, .ref a_this)]) hx hb dX10_qGoesOn_246 rfl hl (Nat.le_of_ble_eq_true rfl) rfl (fun ls hl => ?_)
                                          exact jn247 1623 v655 1 J0_c0_111 J0_c0_113 J0_c0_114 J0_a3 H locs ls (ib_w 1 1600 h669 rfl) (ib_w 1 1600 h479 rfl) (ib_w 0 1620 h541 rfl) (ib_w 1 2 (ib_c 1 1 1 rfl) rfl) (ib_w 0 1621 h480 rfl) (ib_w 0 1621 h481 rfl) (by have := h202; have := (h478).2; have := h211; have := h621; have := h647; have := h667; have := (h669).1; omega) (by have := hJ0_lin1; omega) (by have := (h669).1; have := h667; have := h647; have := h621; have := h211; have := (h478).2; have := hJ0_lin2; omega) (by have := (h669).1; have := h667; have := h647; have := h621; have := h211; have := hJ0_lin3; have := (h482).2; omega) (⟨fun q => (hJ0_go.1 q), fun q9 => (by have := h202; have := (h478).2; have := h211; have := h621; have := h647; have := h667; have := (h669).1; omega)⟩) (by try simp only [show (1 : Int32).toInt = (1 : Int) from rfl]; exact hq) (by have := h480; unfold ib at this; omega) (hP.sub [2, 3, 1, 0] rfl) (hD.sub [2, 3, 1, 0] rfl rfl) hS (lv_sub hl [1, 0] rfl)
                                    · as_aux_lemma =>
                                        replace hq := lf_pos hq (lf_eq (lf_rf r653) (lf_lc 0 (0 : Int) rfl) c665)
                                        have h679 := ib_eq h657 (ib_c 0 0 0 rfl) c665
                                        have h680 : ib r653 0 0 := ib_w 0 0 h679.1 rfl
                                        refine lv_aload_n hx hb dX10_qGoesOn_216 rfl (lv_at hl 0 rfl) ?_
                                        refine lv_bipush (v := 45) hx hb dX10_qGoesOn_217 rfl ?_
                                        refine k_jim hP hD hS hA [2, 3] [true, true] rfl rfl rfl 0 0 (Nat.le_of_ble_eq_true rfl) (Nat.le_of_ble_eq_true rfl) (fun hPc hDc => k_runV (As := [.int 45]) (rest := []) C0 hZ hS hA (s_X10_takesSign_a0_45 l dC dI cy sq a_this rm x_taped v655 x_end x_ended x_bad x_badPlace x_fault x_faultPlace x_namePlace x_awayTold x_away x_coded x_statements x_isCrossing x_textKind x_askSecond x_redMany x_isOpen x_lastGreen x_greenTo x_isCycleGreen x_stillGreen x_rowMany x_fitMany x_fitRules x_fitGreen x_undoable x_newest x_seeded J0_c0_111 J0_c0_113 J0_c0_114 x_qBase x_qPiled x_qAnswer x_qIsNew x_octets g_tape (ib_w 0 1600 h656 rfl) (ib_w 0 1600 h479 rfl) hg_tape) mV_X10_312 hPc hDc rfl rfl rfl hl rfl rfl (Nat.le_of_ble_eq_true rfl) ⟨(Nat.le_of_ble_eq_true rfl), (Nat.le_of_ble_eq_true rfl)⟩ ⟨(Nat.le_of_ble_eq_true rfl), (Nat.le_of_ble_eq_true rfl)⟩ dX10_qGoesOn_219) (fun r681 u682 H locs hw hP hD hS => ?_)
                                        obtain ⟨v683, ev683⟩ : ∃ z, z = u682 := ⟨_, rfl⟩; subst ev683
                                        try dsimp only at hP hD hw
                                        replace hP : va_P (dC, dI) vwCl [(wi_rm110_0_1700_0 rm cy J0_a3), (wi_rm112_0_1700_0 rm cy g_qWait), (a_this, .inr (10, mfs rm x_taped v683 x_end x_ended x_bad x_badPlace x_fault x_faultPlace x_namePlace x_awayTold x_away x_coded x_statements x_isCrossing x_textKind x_askSecond x_redMany x_isOpen x_lastGreen x_greenTo x_isCycleGreen x_stillGreen x_rowMany x_fitMany x_fitRules x_fitGreen x_undoable x_newest x_seeded J0_c0_111 J0_c0_113 J0_c0_114 x_qBase x_qPiled x_qAnswer x_qIsNew x_octets)), (wi_rm0_0_1600_0 rm cy g_tape)] H := hP
                                        replace hD := k_D hP hD
                                        obtain ⟨h684, h685, h686, h687, h688, h689, h690, h691, h692⟩ := hw
                                        replace hq := lf_p1 hq h692
                                        refine lv_if_eq (tgt := 308) hx hb dX10_qGoesOn_222 rfl (fun c693 => ?_) (fun c693 => ?_)
                                        · as_aux_lemma =>
                                            replace hq := lf_pos hq (lf_eq (lf_rf r681) (lf_lc 0 (0 : Int) rfl) c693)
                                            have h694 := ib_eq h685 (ib_c 0 0 0 rfl) c693
                                            have h695 : ib r681 0 0 := ib_w 0 0 h694.1 rfl
                                            refine lv_aload_n hx hb dX10_qGoesOn_308 rfl (lv_at hl 0 rfl) ?_
                                            refine k_jim hP hD hS hA [2, 1] [true, false, false, true] rfl rfl rfl 0 0 (Nat.le_of_ble_eq_true rfl) (Nat.le_of_ble_eq_true rfl) (fun hPc hDc => k_runV (As := []) (rest := []) C0 hZ hS hA (s_X10_qBracket l dC dI cy sq a_this rm x_taped v683 x_end x_ended x_bad x_badPlace x_fault x_faultPlace x_namePlace x_awayTold x_away x_coded x_statements x_isCrossing x_textKind x_askSecond x_redMany x_isOpen x_lastGreen x_greenTo x_isCycleGreen x_stillGreen x_rowMany x_fitMany x_fitRules x_fitGreen x_undoable x_newest x_seeded J0_c0_111 J0_c0_113 J0_c0_114 x_qBase x_qPiled x_qAnswer x_qIsNew x_octets g_qWait (ib_w 0 1700 h481 rfl) (ib_w 0 1700 h541 rfl)) mV_X10_635 hPc hDc rfl rfl rfl hl rfl rfl (Nat.le_of_ble_eq_true rfl) ⟨(Nat.le_of_ble_eq_true rfl), (Nat.le_of_ble_eq_true rfl)⟩ ⟨(Nat.le_of_ble_eq_true rfl), (Nat.le_of_ble_eq_true rfl)⟩ dX10_qGoesOn_309) (fun r696 u697 H locs hw hP hD hS => ?_)
                                            try dsimp only at hP hD hw
                                            replace hP : va_P (dC, dI) vwCl [(wi_rm110_0_1700_0 rm cy J0_a3), (wi_rm0_0_1600_0 rm cy g_tape), (a_this, .inr (10, mfs rm x_taped v683 x_end x_ended x_bad x_badPlace x_fault x_faultPlace x_namePlace x_awayTold x_away x_coded x_statements x_isCrossing x_textKind x_askSecond x_redMany x_isOpen x_lastGreen x_greenTo x_isCycleGreen x_stillGreen x_rowMany x_fitMany x_fitRules x_fitGreen x_undoable x_newest x_seeded J0_c0_111 J0_c0_113 J0_c0_114 x_qBase x_qPiled x_qAnswer x_qIsNew x_octets)), (wi_rm112_0_1700_0 rm cy g_qWait)] H := hP
                                            replace hD := k_D hP hD
                                            obtain ⟨h698, h699⟩ := hw
                                            replace hq := lf_b1 hq h699
                                            refine lv_bipush (v := 21) hx hb dX10_qGoesOn_312 rfl ?_
                                            refine lv_icmp_eq (tgt := 326) hx hb dX10_qGoesOn_314 rfl (fun c700 => ?_) (fun c700 => ?_)
                                            · as_aux_lemma =>
                                                replace hq := lf_pos hq (lf_eq (lf_rf r696) (lf_lc 21 (21 : Int) rfl) c700)
                                                have h701 := ib_eq (ib_any r696) (ib_c 21 21 21 rfl) c700
                                                have h702 : ib r696 21 21 := ib_w 21 21 h701.1 rfl
                                                refine lv_aload_n hx hb dX10_qGoesOn_326 rfl (lv_at hl 0 rfl) ?_
                                                refine lv_bipush (v := 44) hx hb dX10_qGoesOn_327 rfl ?_
                                                refine k_jvm hP hD hS hA [2, 1] [true, false, false, true] rfl rfl rfl 0 0 (Nat.le_of_ble_eq_true rfl) (Nat.le_of_ble_eq_true rfl) (fun hPc hDc => k_runV (As := [.int 44]) (rest := []) C0 hZ hS hA (s_X10_asksSign_a0_44 l dC dI cy sq a_this rm x_taped v683 x_end x_ended x_bad x_badPlace x_fault x_faultPlace x_namePlace x_awayTold x_away x_coded x_statements x_isCrossing x_textKind x_askSecond x_redMany x_isOpen x_lastGreen x_greenTo x_isCycleGreen x_stillGreen x_rowMany x_fitMany x_fitRules x_fitGreen x_undoable x_newest x_seeded J0_c0_111 J0_c0_113 J0_c0_114 x_qBase x_qPiled x_qAnswer x_qIsNew x_octets g_tape (ib_w 0 1600 h684 rfl) (ib_w 0 1600 h479 rfl) hg_tape) mV_X10_358 hPc hDc rfl rfl rfl hl rfl rfl (Nat.le_of_ble_eq_true rfl) ⟨(Nat.le_of_ble_eq_true rfl), (Nat.le_of_ble_eq_true rfl)⟩ ⟨(Nat.le_of_ble_eq_true rfl), (Nat.le_of_ble_eq_true rfl)⟩ dX10_qGoesOn_329) (fun u704 H locs hw hP hD hS => ?_)
                                                obtain ⟨v705, v706, v707⟩ := u704
                                                try dsimp only at hP hD hw
                                                replace hP : va_P (dC, dI) vwCl [(wi_rm110_0_1700_0 rm cy J0_a3), (wi_rm112_0_1700_0 rm cy g_qWait), (a_this, .inr (10, mfs rm x_taped v705 x_end x_ended v706 v707 x_fault x_faultPlace x_namePlace x_awayTold x_away x_coded x_statements x_isCrossing x_textKind x_askSecond x_redMany x_isOpen x_lastGreen x_greenTo x_isCycleGreen x_stillGreen x_rowMany x_fitMany x_fitRules x_fitGreen x_undoable x_newest x_seeded J0_c0_111 J0_c0_113 J0_c0_114 x_qBase x_qPiled x_qAnswer x_qIsNew x_octets)), (wi_rm0_0_1600_0 rm cy g_tape)] H := hP
                                                replace hD := k_D hP hD
                                                obtain ⟨h708, h709, h710, h711, h712⟩ := hw
                                                replace hq := lf_p1 hq h712
                                                replace hq := lf_p1 hq rfl
                                                refine lv_aload_n hx hb dX10_qGoesOn_332 rfl (lv_at hl 0 rfl) ?_
                                                refine k_get C0 fg_X10_279 hP 2 rfl rfl dX10_qGoesOn_333 ?_
                                                refine lv_if_eq (tgt := 341) hx hb dX10_qGoesOn_336 rfl (fun c713 => ?_) (fun c713 => ?_)
                                                · as_aux_lemma =>
                                                    replace hq := lf_pos hq (lf_eq (lf_rf v706) (lf_lc 0 (0 : Int) rfl) c713)
                                                    have h714 := ib_eq (ib_any v706) (ib_c 0 0 0 rfl) c713
                                                    have h715 : ib v706 0 0 := ib_w 0 0 h714.1 rfl
                                                    have h716 := h711 (ib_one h715 rfl)
                                                    have h717 : ib v683 0 1599 := ⟨(h684).1, by have := (h684).2; have := h716; have := (h708).2; omega⟩
                                                    have h718 : ib v705 1 1600 := ⟨by have := (h708).1; have := h716; have := (h717).1; omega, (h708).2⟩
                                                    have h719 : ib v655 0 1599 := ⟨(h656).1, by have := (h656).2; have := h690; have := (h717).2; omega⟩
                                                    refine lv_aload_n hx hb dX10_qGoesOn_341 rfl (lv_at hl 0 rfl) ?_
                                                    refine k_jvm hP hD hS hA [2, 1, 0] [false, false, false, true] rfl rfl rfl 0 0 (Nat.le_of_ble_eq_true rfl) (Nat.le_of_ble_eq_true rfl) (fun hPc hDc => k_runV (As := []) (rest := []) C0 hZ hS hA (s_X10_qDropsToBracket l dC dI cy sq a_this rm x_taped v705 x_end x_ended v706 v707 x_fault x_faultPlace x_namePlace x_awayTold x_away x_coded x_statements x_isCrossing x_textKind x_askSecond x_redMany x_isOpen x_lastGreen x_greenTo x_isCycleGreen x_stillGreen x_rowMany x_fitMany x_fitRules x_fitGreen x_undoable x_newest x_seeded J0_c0_111 J0_c0_113 J0_c0_114 x_qBase x_qPiled x_qAnswer x_qIsNew x_octets J0_a3 g_qWait cc (ib_w 0 0 h715 rfl) (ib_w 0 1700 h480 rfl) (ib_w 0 1700 h481 rfl) (ib_w 0 1700 h541 rfl) (by have := hJ0_lin2; have := (h478).2; omega) (by have := hJ0_lin1; omega) (fun q => (hJ0_go.1 (h709 q)))) mV_X10_638 hPc hDc rfl rfl rfl hl rfl rfl (Nat.le_of_ble_eq_true rfl) ⟨(Nat.le_of_ble_eq_true rfl), (Nat.le_of_ble_eq_true rfl)⟩ ⟨(Nat.le_of_ble_eq_true rfl), (Nat.le_of_ble_eq_true rfl)⟩ dX10_qGoesOn_342) (fun u721 H locs hw hP hD hS => ?_)
                                                    obtain ⟨v722, v723, f724⟩ := u721
                                                    try dsimp only at hP hD hw
                                                    replace hP : va_P (dC, dI) vwCl [(wi_rm0_0_1600_0 rm cy g_tape), (a_this, .inr (10, mfs rm x_taped v705 x_end x_ended v706 v707 x_fault x_faultPlace x_namePlace x_awayTold x_away x_coded x_statements x_isCrossing x_textKind x_askSecond x_redMany x_isOpen x_lastGreen x_greenTo x_isCycleGreen x_stillGreen x_rowMany x_fitMany x_fitRules x_fitGreen x_undoable x_newest x_seeded v722 v723 J0_c0_114 x_qBase x_qPiled x_qAnswer x_qIsNew x_octets)), (wi_rm112_0_1700_0 rm cy g_qWait), (wi_rm110_0_1700_0 rm cy f724)] H := hP
                                                    replace hD := k_D hP hD
                                                    obtain ⟨h725, h726, h727, h728, h729, h730, h731, h732, h733⟩ := hw
                                                    replace hq := lf_p1 hq h733
                                                    replace hq := lf_p1 hq rfl
                                                    have h734 := BR_DB h698 h732 (ib_nc (-1) h702 rfl)
                                                    have h735 : 1 * x_qBase.toInt + (-1) * v723.toInt ≤ (-1) := by have q1 := h734.2; have q2 := (h541).1; omega
                                                    have h736 : ib v640 0 1599 := ⟨(h641).1, by have := (h641).2; have := h662; have := (h719).2; omega⟩
                                                    have h737 : ib v723 0 1620 := ⟨(h726).1, by have := (h726).2; have := h729; have := (h481).2; omega⟩
                                                    have h738 : ib v723 1 1620 := ⟨by have := (h737).1; have := h735; have := (h541).1; omega, (h737).2⟩
                                                    refine lv_aload_n hx hb dX10_qGoesOn_345 rfl (lv_at hl 0 rfl) ?_
                                                    refine k_get C0 fg_X10_267 hP 1 rfl rfl dX10_qGoesOn_346 ?_
                                                    refine lv_aload_n hx hb dX10_qGoesOn_349 rfl (lv_at hl 0 rfl) ?_
                                                    refine k_get C0 fg_X10_372 hP 1 rfl rfl dX10_qGoesOn_350 ?_
                                                    refine lv_iconst (v := 1) hx hb dX10_qGoesOn_353 rfl ?_
                                                    refine lv_isub hx hb dX10_qGoesOn_354 ?_
                                                    refine lv_topi (fun z739 ez739 => ?_)
                                                    have h740 := ib_sub h738 (ib_c 1 1 1 rfl) rfl
                                                    rw [← ez739] at h740
                                                    as_aux_lemma =>
                                                      have h741 : ib z739 0 1619 := ib_w 0 1619 h740.1 rfl
                                                      have Ez739 := lf_sub h740.2 (lf_rf v723) (lf_lc 1 (1 : Int) rfl)
                                                      refine lv_dup2_11 hx hb dX10_qGoesOn_355 rfl rfl ?_
                                                      refine va_iald hx hb C0.2.2.2.2.2.1 hP 2 0 rfl rfl (ib_in 1700 h741 rfl) dX10_qGoesOn_356 ?_
                                                      refine lv_topi (fun z742 ez742 => ?_)
                                                      have Ez742 := lf_ld ez742 (lf_ra g_qWait) Ez739
                                                      have h743 : ib z742 21 21 := by rw [ez742, show Int32.toNatClampNeg z739 = v723.toInt.toNat - 1 from by show (Int32.toInt z739).toNat = _; have := (h738).1; have := (h738).2; have := h727; have := h728; have := h729; have := h730; have := h735; have := (h541).1; have := (h541).2; have := hL1; have := hJ0_lin1; have := (h481).1; have := (h481).2; have := hJ0_lin0; have := hJ0_lin2; have := h202; have := (h480).1; have := (h480).2; have := (h725).1; have := (h725).2; have := (h482).1; have := (h482).2; have := hL0; have := hJ0_lin3; have := (h540).1; have := (h540).2; have := (h539).1; have := (h539).2; have := (h478).1; have := (h478).2; have := h211; have := (h477).1; have := (h477).2; have := h621; have := (h615).1; have := (h615).2; have := h647; have := (h736).1; have := (h736).2; have := h662; have := (h719).1; have := (h719).2; have := h690; have := (h717).1; have := (h717).2; have := h710; have := h716; have := (h718).1; have := (h718).2; have := (h741).1; have := (h741).2; have := h740.2; have : (1 : Int32).toInt = 1 := rfl; omega, h734.1]; exact h702
                                                      refine lv_iconst (v := 2) hx hb dX10_qGoesOn_357 rfl ?_
                                                      refine lv_iadd hx hb dX10_qGoesOn_358 ?_
                                                      refine lv_topi (fun z744 ez744 => ?_)
                                                      have h745 := ib_add h743 (ib_c 2 2 2 rfl) rfl
                                                      rw [← ez744] at h745
                                                      have h746 : ib z744 23 23 := ib_w 23 23 h745.1 rfl
                                                      have Ez744 := lf_add h745.2 Ez742 (lf_lc 2 (2 : Int) rfl)
                                                      refine va_iast hx hb C0.2.2.2.2.2.1 hP hD hS 2 0 rfl rfl (ib_in 1700 h741 rfl) dX10_qGoesOn_359 (fun H locs hP hD hS => ?_)
                                                      have h748 : (upd g_qWait (Int32.toNatClampNeg z739) z744) (Int32.toNatClampNeg z739) = z744 := pk_us
                                                      replace hP : va_P (dC, dI) vwCl [(wi_rm0_0_1600_0 rm cy g_tape), (a_this, .inr (10, mfs rm x_taped v705 x_end x_ended v706 v707 x_fault x_faultPlace x_namePlace x_awayTold x_away x_coded x_statements x_isCrossing x_textKind x_askSecond x_redMany x_isOpen x_lastGreen x_greenTo x_isCycleGreen x_stillGreen x_rowMany x_fitMany x_fitRules x_fitGreen x_undoable x_newest x_seeded v722 v723 J0_c0_114 x_qBase x_qPiled x_qAnswer x_qIsNew x_octets)), (wi_rm112_0_1700_0 rm cy (upd g_qWait (Int32.toNatClampNeg z739) z744)), (wi_rm110_0_1700_0 rm cy f724)] H := hP
                                                      replace hD := k_D hP hD
                                                      generalize h749E : upd g_qWait (Int32.toNatClampNeg z739) z744 = f747 at hP hD h748
                                                      have ef747 := h749E
                                                      have Ef747 := lf_st ef747 (lf_ra g_qWait) Ez739 Ez744
                                                      have h750 : v706 = 0 → GS f724 v722 f747 v723 x_qBase x_textKind cc := fun q => (by rw [h749E.symm]; exact GS_comma (h731 q) (by have := (h541).1; have := (h541).2; have := hL1; have := hJ0_lin1; have := h730; have := h735; have := (h738).1; have := (h738).2; have := h727; have := h728; have := h729; have := (h481).1; have := (h481).2; have := hJ0_lin0; have := hJ0_lin2; have := h202; have := (h480).1; have := (h480).2; have := (h725).1; have := (h725).2; have := (h482).1; have := (h482).2; have := hL0; have := hJ0_lin3; have := (h540).1; have := (h540).2; have := (h539).1; have := (h539).2; have := (h478).1; have := (h478).2; have := h211; have := (h477).1; have := (h477).2; have := h621; have := (h615).1; have := (h615).2; have := h647; have := (h736).1; have := (h736).2; have := h662; have := (h719).1; have := (h719).2; have := h690; have := (h717).1; have := (h717).2; have := h710; have := h716; have := (h718).1; have := (h718).2; have := (h741).1; have := (h741).2; have := h740.2; have : (1 : Int32).toInt = 1 := rfl; omega) (by have := (h541).1; have := (h541).2; have := hL1; have := hJ0_lin1; have := h730; have := h735; have := (h738).1; have := (h738).2; have := h727; have := h728; have := h729; have := (h481).1; have := (h481).2; have := hJ0_lin0; have := hJ0_lin2; have := h202; have := (h480).1; have := (h480).2; have := (h725).1; have := (h725).2; have := (h482).1; have := (h482).2; have := hL0; have := hJ0_lin3; have := (h540).1; have := (h540).2; have := (h539).1; have := (h539).2; have := (h478).1; have := (h478).2; have := h211; have := (h477).1; have := (h477).2; have := h621; have := (h615).1; have := (h615).2; have := h647; have := (h736).1; have := (h736).2; have := h662; have := (h719).1; have := (h719).2; have := h690; have := (h717).1; have := (h717).2; have := h710; have := h716; have := (h718).1; have := (h718).2; have := (h741).1; have := (h741).2; have := h740.2; have : (1 : Int32).toInt = 1 := rfl; omega) (by rw [← ez742]; have := (h743).1; have := (h743).2; omega) ⟨by have := (h746).1; omega, by have := (h746).2; omega⟩)
                                                      refine lv_iconst (v := 1) hx hb dX10_qGoesOn_360 rfl ?_
                                                      subst hQ; exact k_iret hx hb hr hlk (k_nb 1 rfl) ((v705, v706, v707, v722, v723, J0_c0_114, f747, f724)) hS ⟨ib_w 0 1600 h718 rfl, ib_w 0 1700 h725 rfl, ib_w 0 1622 h738 rfl, ib_w 0 1 (ib_c 1 1 1 rfl) rfl, fun _ => ib_w 1 1600 h718 rfl, fun _ => ib_w 0 0 h715 rfl, fun _ => ib_w 1 1622 h738 rfl, fun _ => ib_w 0 1620 h539 rfl, fun _ => ib_w 0 1620 h540 rfl, fun _ => ib_w 0 1620 h541 rfl, fun _ => ib_one hx_bad rfl, (by have := h202; have := (h478).2; have := h211; have := h621; have := h647; have := h662; have := h690; have := h716; have := (h718).1; have := h727; omega), fun hq9 => (by have := h202; have := (h478).2; have := h211; have := h727; have := h621; have := h647; have := h662; have := h690; have := h716; have := (h718).1; omega), (by have := (h718).1; have := h716; have := h690; have := h662; have := h647; have := h621; have := h211; have := hJ0_lin3; have := (h482).2; omega), (by have := h735; omega), fun hq8 => fun q => (h750 q), fun hq8 => absurd hq8 (by decide), (hO.symm.trans (by try simp only [show (1 : Int32).toInt = (1 : Int) from rfl]; rw [lf_ua Ef747]; exact hq))⟩ (hP.sub [1, 0, 2, 3] rfl) (hD.sub [1, 0, 2, 3] rfl rfl) (Nat.le_of_ble_eq_true rfl) (Nat.le_of_ble_eq_true rfl) dX10_qGoesOn_361
                                                · replace hq := lf_neg hq (lf_ne (lf_rf v706) (lf_lc 0 (0 : Int) rfl) c713)
                                                  refine lv_iconst (v := 0) hx hb dX10_qGoesOn_339 rfl ?_
                                                  subst hQ; exact k_iret hx hb hr hlk (k_nb 0 rfl) ((v705, v706, v707, J0_c0_111, J0_c0_113, J0_c0_114, g_qWait, J0_a3)) hS ⟨ib_w 0 1600 h708 rfl, ib_w 0 1700 h480 rfl, ib_w 0 1622 h481 rfl, ib_w 0 1 (ib_c 0 0 0 rfl) rfl, fun hq9 => absurd rfl hq9, fun hq9 => absurd rfl hq9, fun hq9 => absurd rfl hq9, fun hq9 => absurd rfl hq9, fun hq9 => absurd rfl hq9, fun hq9 => absurd rfl hq9, fun _ => ib_one hx_bad rfl, (by have := h202; have := (h478).2; have := h211; have := h621; have := h647; have := h662; have := h690; have := h710; have := (h708).1; omega), fun q => absurd q c713, (by have := (h708).1; have := h710; have := h690; have := h662; have := h647; have := h621; have := h211; have := hJ0_lin3; have := (h482).2; omega), (by have := hJ0_lin1; omega), fun hq8 => absurd rfl hq8, fun hq8 => fun q => absurd q c713, (hO.symm.trans (by try simp only [show (0 : Int32).toInt = (0 : Int) from rfl]; exact hq))⟩ (hP.sub [2, 3, 1, 0] rfl) (hD.sub [2, 3, 1, 0] rfl rfl) (Nat.le_of_ble_eq_true rfl) (Nat.le_of_ble_eq_true rfl) dX10_qGoesOn_340
                                            · as_aux_lemma =>
                                                replace hq := lf_neg hq (lf_ne (lf_rf r696) (lf_lc 21 (21 : Int) rfl) c700)
                                                refine lv_aload_n hx hb dX10_qGoesOn_317 rfl (lv_at hl 0 rfl) ?_
                                                refine k_jim hP hD hS hA [2, 3] [true, true] rfl rfl rfl 0 0 (Nat.le_of_ble_eq_true rfl) (Nat.le_of_ble_eq_true rfl) (fun hPc hDc => k_runV (As := []) (rest := []) C0 hZ hS hA (s_X10_qBracket l dC dI cy sq a_this rm x_taped v683 x_end x_ended x_bad x_badPlace x_fault x_faultPlace x_namePlace x_awayTold x_away x_coded x_statements x_isCrossing x_textKind x_askSecond x_redMany x_isOpen x_lastGreen x_greenTo x_isCycleGreen x_stillGreen x_rowMany x_fitMany x_fitRules x_fitGreen x_undoable x_newest x_seeded J0_c0_111 J0_c0_113 J0_c0_114 x_qBase x_qPiled x_qAnswer x_qIsNew x_octets g_qWait (ib_w 0 1700 h481 rfl) (ib_w 0 1700 h541 rfl)) mV_X10_635 hPc hDc rfl rfl rfl hl rfl rfl (Nat.le_of_ble_eq_true rfl) ⟨(Nat.le_of_ble_eq_true rfl), (Nat.le_of_ble_eq_true rfl)⟩ ⟨(Nat.le_of_ble_eq_true rfl), (Nat.le_of_ble_eq_true rfl)⟩ dX10_qGoesOn_318) (fun r751 u752 H locs hw hP hD hS => ?_)
                                                try dsimp only at hP hD hw
                                                replace hP : va_P (dC, dI) vwCl [(wi_rm110_0_1700_0 rm cy J0_a3), (wi_rm0_0_1600_0 rm cy g_tape), (a_this, .inr (10, mfs rm x_taped v683 x_end x_ended x_bad x_badPlace x_fault x_faultPlace x_namePlace x_awayTold x_away x_coded x_statements x_isCrossing x_textKind x_askSecond x_redMany x_isOpen x_lastGreen x_greenTo x_isCycleGreen x_stillGreen x_rowMany x_fitMany x_fitRules x_fitGreen x_undoable x_newest x_seeded J0_c0_111 J0_c0_113 J0_c0_114 x_qBase x_qPiled x_qAnswer x_qIsNew x_octets)), (wi_rm112_0_1700_0 rm cy g_qWait)] H := hP
                                                replace hD := k_D hP hD
                                                obtain ⟨h753, h754⟩ := hw
                                                replace hq := lf_b1 hq h754
                                                refine lv_bipush (v := 22) hx hb dX10_qGoesOn_321 rfl ?_
                                                refine lv_icmp_ne (tgt := 362) hx hb dX10_qGoesOn_323 rfl (fun c755 => ?_) (fun c755 => ?_)
                                                · as_aux_lemma =>
                                                    replace hq := lf_neg hq (lf_ne (lf_rf r751) (lf_lc 22 (22 : Int) rfl) c755)
                                                    refine lv_aload_n hx hb dX10_qGoesOn_362 rfl (lv_at hl 0 rfl) ?_
                                                    refine k_jim hP hD hS hA [2, 3] [true, true] rfl rfl rfl 0 0 (Nat.le_of_ble_eq_true rfl) (Nat.le_of_ble_eq_true rfl) (fun hPc hDc => k_runV (As := []) (rest := []) C0 hZ hS hA (s_X10_qBracket l dC dI cy sq a_this rm x_taped v683 x_end x_ended x_bad x_badPlace x_fault x_faultPlace x_namePlace x_awayTold x_away x_coded x_statements x_isCrossing x_textKind x_askSecond x_redMany x_isOpen x_lastGreen x_greenTo x_isCycleGreen x_stillGreen x_rowMany x_fitMany x_fitRules x_fitGreen x_undoable x_newest x_seeded J0_c0_111 J0_c0_113 J0_c0_114 x_qBase x_qPiled x_qAnswer x_qIsNew x_octets g_qWait (ib_w 0 1700 h481 rfl) (ib_w 0 1700 h541 rfl)) mV_X10_635 hPc hDc rfl rfl rfl hl rfl rfl (Nat.le_of_ble_eq_true rfl) ⟨(Nat.le_of_ble_eq_true rfl), (Nat.le_of_ble_eq_true rfl)⟩ ⟨(Nat.le_of_ble_eq_true rfl), (Nat.le_of_ble_eq_true rfl)⟩ dX10_qGoesOn_363) (fun r756 u757 H locs hw hP hD hS => ?_)
                                                    try dsimp only at hP hD hw
                                                    replace hP : va_P (dC, dI) vwCl [(wi_rm110_0_1700_0 rm cy J0_a3), (wi_rm0_0_1600_0 rm cy g_tape), (a_this, .inr (10, mfs rm x_taped v683 x_end x_ended x_bad x_badPlace x_fault x_faultPlace x_namePlace x_awayTold x_away x_coded x_statements x_isCrossing x_textKind x_askSecond x_redMany x_isOpen x_lastGreen x_greenTo x_isCycleGreen x_stillGreen x_rowMany x_fitMany x_fitRules x_fitGreen x_undoable x_newest x_seeded J0_c0_111 J0_c0_113 J0_c0_114 x_qBase x_qPiled x_qAnswer x_qIsNew x_octets)), (wi_rm112_0_1700_0 rm cy g_qWait)] H := hP
                                                    replace hD := k_D hP hD
                                                    obtain ⟨h758, h759⟩ := hw
                                                    replace hq := lf_b1 hq h759
                                                    refine lv_iconst (v := (-1)) hx hb dX10_qGoesOn_366 rfl ?_
                                                    refine lv_icmp_eq (tgt := 386) hx hb dX10_qGoesOn_367 rfl (fun c760 => ?_) (fun c760 => ?_)
                                                    · replace hq := lf_pos hq (lf_eq (lf_rf r756) (lf_lc (-1) (-1 : Int) rfl) c760)
                                                      have h761 := ib_eq (ib_any r756) (ib_c (-1) (-1) (-1) rfl) c760
                                                      have h762 : ib r756 (-1) (-1) := ib_w (-1) (-1) h761.1 rfl
                                                      refine lv_iconst (v := 0) hx hb dX10_qGoesOn_386 rfl ?_
                                                      subst hQ; exact k_iret hx hb hr hlk (k_nb 0 rfl) ((v683, x_bad, x_badPlace, J0_c0_111, J0_c0_113, J0_c0_114, g_qWait, J0_a3)) hS ⟨ib_w 0 1600 h684 rfl, ib_w 0 1700 h480 rfl, ib_w 0 1622 h481 rfl, ib_w 0 1 (ib_c 0 0 0 rfl) rfl, fun hq9 => absurd rfl hq9, fun hq9 => absurd rfl hq9, fun hq9 => absurd rfl hq9, fun hq9 => absurd rfl hq9, fun hq9 => absurd rfl hq9, fun hq9 => absurd rfl hq9, fun q => q, (by have := h202; have := (h478).2; have := h211; have := h621; have := h647; have := h662; have := h690; have := (h684).1; omega), fun hq9 => (by have := h202; have := (h478).2; have := h211; have := h621; have := h647; have := h662; have := h690; have := (h684).1; omega), (by have := (h684).1; have := h690; have := h662; have := h647; have := h621; have := h211; have := hJ0_lin3; have := (h482).2; omega), (by have := hJ0_lin1; omega), fun hq8 => absurd rfl hq8, fun hq8 => fun q => ⟨(hJ0_go.1 q), BR_none h758 (ib_one h762 rfl)⟩, (hO.symm.trans (by try simp only [show (0 : Int32).toInt = (0 : Int) from rfl]; exact hq))⟩ (hP.sub [2, 1, 3, 0] rfl) (hD.sub [2, 1, 3, 0] rfl rfl) (Nat.le_of_ble_eq_true rfl) (Nat.le_of_ble_eq_true rfl) dX10_qGoesOn_387
                                                    · replace hq := lf_neg hq (lf_ne (lf_rf r756) (lf_lc (-1) (-1 : Int) rfl) c760)
                                                      refine lv_aload_n hx hb dX10_qGoesOn_370 rfl (lv_at hl 0 rfl) ?_
                                                      refine k_get C0 fg_X10_279 hP 2 rfl rfl dX10_qGoesOn_371 ?_
                                                      refine lv_if_ne (tgt := 386) hx hb dX10_qGoesOn_374 rfl (fun c763 => ?_) (fun c763 => ?_)
                                                      · skip
                                                        exact absurd (ib_one hx_bad rfl) c763
                                                      · skip
                                                        have h764 := ib_eq hx_bad (ib_c 0 0 0 rfl) c763
                                                        have h765 := hJ0_go.2 (ib_one hx_bad rfl)
                                                        refine lv_aload_n hx hb dX10_qGoesOn_377 rfl (lv_at hl 0 rfl) ?_
                                                        refine lv_iconst (v := 1) hx hb dX10_qGoesOn_378 rfl ?_
                                                        refine lv_aload_n hx hb dX10_qGoesOn_379 rfl (lv_at hl 0 rfl) ?_
                                                        refine k_get C0 fg_X10_285 hP 2 rfl rfl dX10_qGoesOn_380 ?_
                                                        refine k_jvm hP hD hS hA [2] [true, true, false, true] rfl rfl rfl 0 0 (Nat.le_of_ble_eq_true rfl) (Nat.le_of_ble_eq_true rfl) (fun hPc hDc => k_runV (As := [.int 1, .int v683]) (rest := []) C0 hZ hS hA (s_X10_fail_a0_1_f_bad_0_0 l dC dI cy sq a_this rm x_taped v683 x_end x_ended x_bad x_badPlace x_fault x_faultPlace x_namePlace x_awayTold x_away x_coded x_statements x_isCrossing x_textKind x_askSecond x_redMany x_isOpen x_lastGreen x_greenTo x_isCycleGreen x_stillGreen x_rowMany x_fitMany x_fitRules x_fitGreen x_undoable x_newest x_seeded J0_c0_111 J0_c0_113 J0_c0_114 x_qBase x_qPiled x_qAnswer x_qIsNew x_octets v683 (ib_w 0 0 hx_bad rfl)) mV_X10_308 hPc hDc rfl rfl rfl hl rfl rfl (Nat.le_of_ble_eq_true rfl) ⟨(Nat.le_of_ble_eq_true rfl), (Nat.le_of_ble_eq_true rfl)⟩ ⟨(Nat.le_of_ble_eq_true rfl), (Nat.le_of_ble_eq_true rfl)⟩ dX10_qGoesOn_383) (fun u767 H locs hw hP hD hS => ?_)
                                                        try dsimp only at hP hD hw
                                                        replace hP : va_P (dC, dI) vwCl [(wi_rm110_0_1700_0 rm cy J0_a3), (wi_rm0_0_1600_0 rm cy g_tape), (wi_rm112_0_1700_0 rm cy g_qWait), (a_this, .inr (10, mfs rm x_taped v683 x_end x_ended 1 v683 x_fault x_faultPlace x_namePlace x_awayTold x_away x_coded x_statements x_isCrossing x_textKind x_askSecond x_redMany x_isOpen x_lastGreen x_greenTo x_isCycleGreen x_stillGreen x_rowMany x_fitMany x_fitRules x_fitGreen x_undoable x_newest x_seeded J0_c0_111 J0_c0_113 J0_c0_114 x_qBase x_qPiled x_qAnswer x_qIsNew x_octets))] H := hP
                                                        replace hD := k_D hP hD
                                                        refine lv_iconst (v := 0) hx hb dX10_qGoesOn_386 rfl ?_
                                                        subst hQ; exact k_iret hx hb hr hlk (k_nb 0 rfl) ((v683, 1, v683, J0_c0_111, J0_c0_113, J0_c0_114, g_qWait, J0_a3)) hS ⟨ib_w 0 1600 h684 rfl, ib_w 0 1700 h480 rfl, ib_w 0 1622 h481 rfl, ib_w 0 1 (ib_c 0 0 0 rfl) rfl, fun hq9 => absurd rfl hq9, fun hq9 => absurd rfl hq9, fun hq9 => absurd rfl hq9, fun hq9 => absurd rfl hq9, fun hq9 => absurd rfl hq9, fun hq9 => absurd rfl hq9, fun q => absurd q (by decide), (by have := h202; have := (h478).2; have := h211; have := h621; have := h647; have := h662; have := h690; have := (h684).1; omega), fun q => absurd q (by decide), (by have := (h684).1; have := h690; have := h662; have := h647; have := h621; have := h211; have := hJ0_lin3; have := (h482).2; omega), (by have := hJ0_lin1; omega), fun hq8 => absurd rfl hq8, fun hq8 => fun q => absurd q (by decide), (hO.symm.trans (by try simp only [show (0 : Int32).toInt = (0 : Int) from rfl]; try simp only [show (1 : Int32).toInt = (1 : Int) from rfl]; exact hq))⟩ (hP.sub [3, 1, 2, 0] rfl) (hD.sub [3, 1, 2, 0] rfl rfl) (Nat.le_of_ble_eq_true rfl) (Nat.le_of_ble_eq_true rfl) dX10_qGoesOn_387
                                                · as_aux_lemma =>
                                                    replace hq := lf_pos hq (lf_eq (lf_rf r751) (lf_lc 22 (22 : Int) rfl) c755)
                                                    have h768 := ib_eq (ib_any r751) (ib_c 22 22 22 rfl) c755
                                                    have h769 : ib r751 22 22 := ib_w 22 22 h768.1 rfl
                                                    refine lv_aload_n hx hb dX10_qGoesOn_326 rfl (lv_at hl 0 rfl) ?_
                                                    refine lv_bipush (v := 44) hx hb dX10_qGoesOn_327 rfl ?_
                                                    refine k_jvm hP hD hS hA [2, 1] [true, false, false, true] rfl rfl rfl 0 0 (Nat.le_of_ble_eq_true rfl) (Nat.le_of_ble_eq_true rfl) (fun hPc hDc => k_runV (As := [.int 44]) (rest := []) C0 hZ hS hA (s_X10_asksSign_a0_44 l dC dI cy sq a_this rm x_taped v683 x_end x_ended x_bad x_badPlace x_fault x_faultPlace x_namePlace x_awayTold x_away x_coded x_statements x_isCrossing x_textKind x_askSecond x_redMany x_isOpen x_lastGreen x_greenTo x_isCycleGreen x_stillGreen x_rowMany x_fitMany x_fitRules x_fitGreen x_undoable x_newest x_seeded J0_c0_111 J0_c0_113 J0_c0_114 x_qBase x_qPiled x_qAnswer x_qIsNew x_octets g_tape (ib_w 0 1600 h684 rfl) (ib_w 0 1600 h479 rfl) hg_tape) mV_X10_358 hPc hDc rfl rfl rfl hl rfl rfl (Nat.le_of_ble_eq_true rfl) ⟨(Nat.le_of_ble_eq_true rfl), (Nat.le_of_ble_eq_true rfl)⟩ ⟨(Nat.le_of_ble_eq_true rfl), (Nat.le_of_ble_eq_true rfl)⟩ dX10_qGoesOn_329) (fun u771 H locs hw hP hD hS => ?_)
                                                    obtain ⟨v772, v773, v774⟩ := u771
                                                    try dsimp only at hP hD hw
                                                    replace hP : va_P (dC, dI) vwCl [(wi_rm110_0_1700_0 rm cy J0_a3), (wi_rm112_0_1700_0 rm cy g_qWait), (a_this, .inr (10, mfs rm x_taped v772 x_end x_ended v773 v774 x_fault x_faultPlace x_namePlace x_awayTold x_away x_coded x_statements x_isCrossing x_textKind x_askSecond x_redMany x_isOpen x_lastGreen x_greenTo x_isCycleGreen x_stillGreen x_rowMany x_fitMany x_fitRules x_fitGreen x_undoable x_newest x_seeded J0_c0_111 J0_c0_113 J0_c0_114 x_qBase x_qPiled x_qAnswer x_qIsNew x_octets)), (wi_rm0_0_1600_0 rm cy g_tape)] H := hP
                                                    replace hD := k_D hP hD
                                                    obtain ⟨h775, h776, h777, h778, h779⟩ := hw
                                                    replace hq := lf_p1 hq h779
                                                    replace hq := lf_p1 hq rfl
                                                    refine lv_aload_n hx hb dX10_qGoesOn_332 rfl (lv_at hl 0 rfl) ?_
                                                    refine k_get C0 fg_X10_279 hP 2 rfl rfl dX10_qGoesOn_333 ?_
                                                    refine lv_if_eq (tgt := 341) hx hb dX10_qGoesOn_336 rfl (fun c780 => ?_) (fun c780 => ?_)
                                                    · as_aux_lemma =>
                                                        replace hq := lf_pos hq (lf_eq (lf_rf v773) (lf_lc 0 (0 : Int) rfl) c780)
                                                        have h781 := ib_eq (ib_any v773) (ib_c 0 0 0 rfl) c780
                                                        have h782 : ib v773 0 0 := ib_w 0 0 h781.1 rfl
                                                        have h783 := h778 (ib_one h782 rfl)
                                                        have h784 : ib v683 0 1599 := ⟨(h684).1, by have := (h684).2; have := h783; have := (h775).2; omega⟩
                                                        have h785 : ib v772 1 1600 := ⟨by have := (h775).1; have := h783; have := (h784).1; omega, (h775).2⟩
                                                        have h786 : ib v655 0 1599 := ⟨(h656).1, by have := (h656).2; have := h690; have := (h784).2; omega⟩
                                                        refine lv_aload_n hx hb dX10_qGoesOn_341 rfl (lv_at hl 0 rfl) ?_
                                                        refine k_jvm hP hD hS hA [2, 1, 0] [false, false, false, true] rfl rfl rfl 0 0 (Nat.le_of_ble_eq_true rfl) (Nat.le_of_ble_eq_true rfl) (fun hPc hDc => k_runV (As := []) (rest := []) C0 hZ hS hA (s_X10_qDropsToBracket l dC dI cy sq a_this rm x_taped v772 x_end x_ended v773 v774 x_fault x_faultPlace x_namePlace x_awayTold x_away x_coded x_statements x_isCrossing x_textKind x_askSecond x_redMany x_isOpen x_lastGreen x_greenTo x_isCycleGreen x_stillGreen x_rowMany x_fitMany x_fitRules x_fitGreen x_undoable x_newest x_seeded J0_c0_111 J0_c0_113 J0_c0_114 x_qBase x_qPiled x_qAnswer x_qIsNew x_octets J0_a3 g_qWait cc (ib_w 0 0 h782 rfl) (ib_w 0 1700 h480 rfl) (ib_w 0 1700 h481 rfl) (ib_w 0 1700 h541 rfl) (by have := hJ0_lin2; have := (h478).2; omega) (by have := hJ0_lin1; omega) (fun q => (hJ0_go.1 (h776 q)))) mV_X10_638 hPc hDc rfl rfl rfl hl rfl rfl (Nat.le_of_ble_eq_true rfl) ⟨(Nat.le_of_ble_eq_true rfl), (Nat.le_of_ble_eq_true rfl)⟩ ⟨(Nat.le_of_ble_eq_true rfl), (Nat.le_of_ble_eq_true rfl)⟩ dX10_qGoesOn_342) (fun u788 H locs hw hP hD hS => ?_)
                                                        obtain ⟨v789, v790, f791⟩ := u788
                                                        try dsimp only at hP hD hw
                                                        replace hP : va_P (dC, dI) vwCl [(wi_rm0_0_1600_0 rm cy g_tape), (a_this, .inr (10, mfs rm x_taped v772 x_end x_ended v773 v774 x_fault x_faultPlace x_namePlace x_awayTold x_away x_coded x_statements x_isCrossing x_textKind x_askSecond x_redMany x_isOpen x_lastGreen x_greenTo x_isCycleGreen x_stillGreen x_rowMany x_fitMany x_fitRules x_fitGreen x_undoable x_newest x_seeded v789 v790 J0_c0_114 x_qBase x_qPiled x_qAnswer x_qIsNew x_octets)), (wi_rm112_0_1700_0 rm cy g_qWait), (wi_rm110_0_1700_0 rm cy f791)] H := hP
                                                        replace hD := k_D hP hD
                                                        obtain ⟨h792, h793, h794, h795, h796, h797, h798, h799, h800⟩ := hw
                                                        replace hq := lf_p1 hq h800
                                                        replace hq := lf_p1 hq rfl
                                                        have h801 := BR_DB h753 h799 (ib_nc (-1) h769 rfl)
                                                        have h802 : 1 * x_qBase.toInt + (-1) * v790.toInt ≤ (-1) := by have q1 := h801.2; have q2 := (h541).1; omega
                                                        have h803 : ib v640 0 1599 := ⟨(h641).1, by have := (h641).2; have := h662; have := (h786).2; omega⟩
                                                        have h804 : ib v790 0 1620 := ⟨(h793).1, by have := (h793).2; have := h796; have := (h481).2; omega⟩
                                                        have h805 : ib v790 1 1620 := ⟨by have := (h804).1; have := h802; have := (h541).1; omega, (h804).2⟩
                                                        refine lv_aload_n hx hb dX10_qGoesOn_345 rfl (lv_at hl 0 rfl) ?_
                                                        refine k_get C0 fg_X10_267 hP 1 rfl rfl dX10_qGoesOn_346 ?_
                                                        refine lv_aload_n hx hb dX10_qGoesOn_349 rfl (lv_at hl 0 rfl) ?_
                                                        refine k_get C0 fg_X10_372 hP 1 rfl rfl dX10_qGoesOn_350 ?_
                                                        refine lv_iconst (v := 1) hx hb dX10_qGoesOn_353 rfl ?_
                                                        refine lv_isub hx hb dX10_qGoesOn_354 ?_
                                                        refine lv_topi (fun z806 ez806 => ?_)
                                                        have h807 := ib_sub h805 (ib_c 1 1 1 rfl) rfl
                                                        rw [← ez806] at h807
                                                        as_aux_lemma =>
                                                          have h808 : ib z806 0 1619 := ib_w 0 1619 h807.1 rfl
                                                          have Ez806 := lf_sub h807.2 (lf_rf v790) (lf_lc 1 (1 : Int) rfl)
                                                          refine lv_dup2_11 hx hb dX10_qGoesOn_355 rfl rfl ?_
                                                          refine va_iald hx hb C0.2.2.2.2.2.1 hP 2 0 rfl rfl (ib_in 1700 h808 rfl) dX10_qGoesOn_356 ?_
                                                          refine lv_topi (fun z809 ez809 => ?_)
                                                          have Ez809 := lf_ld ez809 (lf_ra g_qWait) Ez806
                                                          have h810 : ib z809 22 22 := by rw [ez809, show Int32.toNatClampNeg z806 = v790.toInt.toNat - 1 from by show (Int32.toInt z806).toNat = _; have := (h805).1; have := (h805).2; have := h794; have := h795; have := h796; have := h797; have := h802; have := (h541).1; have := (h541).2; have := hL1; have := hJ0_lin1; have := (h481).1; have := (h481).2; have := hJ0_lin0; have := hJ0_lin2; have := h202; have := (h480).1; have := (h480).2; have := (h792).1; have := (h792).2; have := (h482).1; have := (h482).2; have := hL0; have := hJ0_lin3; have := (h540).1; have := (h540).2; have := (h539).1; have := (h539).2; have := (h478).1; have := (h478).2; have := h211; have := (h477).1; have := (h477).2; have := h621; have := (h615).1; have := (h615).2; have := h647; have := (h803).1; have := (h803).2; have := h662; have := (h786).1; have := (h786).2; have := h690; have := (h784).1; have := (h784).2; have := h777; have := h783; have := (h785).1; have := (h785).2; have := (h808).1; have := (h808).2; have := h807.2; have : (1 : Int32).toInt = 1 := rfl; omega, h801.1]; exact h769
                                                          refine lv_iconst (v := 2) hx hb dX10_qGoesOn_357 rfl ?_
                                                          refine lv_iadd hx hb dX10_qGoesOn_358 ?_
                                                          refine lv_topi (fun z811 ez811 => ?_)
                                                          have h812 := ib_add h810 (ib_c 2 2 2 rfl) rfl
                                                          rw [← ez811] at h812
                                                          have h813 : ib z811 24 24 := ib_w 24 24 h812.1 rfl
                                                          have Ez811 := lf_add h812.2 Ez809 (lf_lc 2 (2 : Int) rfl)
                                                          refine va_iast hx hb C0.2.2.2.2.2.1 hP hD hS 2 0 rfl rfl (ib_in 1700 h808 rfl) dX10_qGoesOn_359 (fun H locs hP hD hS => ?_)
                                                          have h815 : (upd g_qWait (Int32.toNatClampNeg z806) z811) (Int32.toNatClampNeg z806) = z811 := pk_us
                                                          replace hP : va_P (dC, dI) vwCl [(wi_rm0_0_1600_0 rm cy g_tape), (a_this, .inr (10, mfs rm x_taped v772 x_end x_ended v773 v774 x_fault x_faultPlace x_namePlace x_awayTold x_away x_coded x_statements x_isCrossing x_textKind x_askSecond x_redMany x_isOpen x_lastGreen x_greenTo x_isCycleGreen x_stillGreen x_rowMany x_fitMany x_fitRules x_fitGreen x_undoable x_newest x_seeded v789 v790 J0_c0_114 x_qBase x_qPiled x_qAnswer x_qIsNew x_octets)), (wi_rm112_0_1700_0 rm cy (upd g_qWait (Int32.toNatClampNeg z806) z811)), (wi_rm110_0_1700_0 rm cy f791)] H := hP
                                                          replace hD := k_D hP hD
                                                          generalize h816E : upd g_qWait (Int32.toNatClampNeg z806) z811 = f814 at hP hD h815
                                                          have ef814 := h816E
                                                          have Ef814 := lf_st ef814 (lf_ra g_qWait) Ez806 Ez811
                                                          have h817 : v773 = 0 → GS f791 v789 f814 v790 x_qBase x_textKind cc := fun q => (by rw [h816E.symm]; exact GS_comma (h798 q) (by have := (h541).1; have := (h541).2; have := hL1; have := hJ0_lin1; have := h797; have := h802; have := (h805).1; have := (h805).2; have := h794; have := h795; have := h796; have := (h481).1; have := (h481).2; have := hJ0_lin0; have := hJ0_lin2; have := h202; have := (h480).1; have := (h480).2; have := (h792).1; have := (h792).2; have := (h482).1; have := (h482).2; have := hL0; have := hJ0_lin3; have := (h540).1; have := (h540).2; have := (h539).1; have := (h539).2; have := (h478).1; have := (h478).2; have := h211; have := (h477).1; have := (h477).2; have := h621; have := (h615).1; have := (h615).2; have := h647; have := (h803).1; have := (h803).2; have := h662; have := (h786).1; have := (h786).2; have := h690; have := (h784).1; have := (h784).2; have := h777; have := h783; have := (h785).1; have := (h785).2; have := (h808).1; have := (h808).2; have := h807.2; have : (1 : Int32).toInt = 1 := rfl; omega) (by have := (h541).1; have := (h541).2; have := hL1; have := hJ0_lin1; have := h797; have := h802; have := (h805).1; have := (h805).2; have := h794; have := h795; have := h796; have := (h481).1; have := (h481).2; have := hJ0_lin0; have := hJ0_lin2; have := h202; have := (h480).1; have := (h480).2; have := (h792).1; have := (h792).2; have := (h482).1; have := (h482).2; have := hL0; have := hJ0_lin3; have := (h540).1; have := (h540).2; have := (h539).1; have := (h539).2; have := (h478).1; have := (h478).2; have := h211; have := (h477).1; have := (h477).2; have := h621; have := (h615).1; have := (h615).2; have := h647; have := (h803).1; have := (h803).2; have := h662; have := (h786).1; have := (h786).2; have := h690; have := (h784).1; have := (h784).2; have := h777; have := h783; have := (h785).1; have := (h785).2; have := (h808).1; have := (h808).2; have := h807.2; have : (1 : Int32).toInt = 1 := rfl; omega) (by rw [← ez809]; have := (h810).1; have := (h810).2; omega) ⟨by have := (h813).1; omega, by have := (h813).2; omega⟩)
                                                          refine lv_iconst (v := 1) hx hb dX10_qGoesOn_360 rfl ?_
                                                          subst hQ; exact k_iret hx hb hr hlk (k_nb 1 rfl) ((v772, v773, v774, v789, v790, J0_c0_114, f814, f791)) hS ⟨ib_w 0 1600 h785 rfl, ib_w 0 1700 h792 rfl, ib_w 0 1622 h805 rfl, ib_w 0 1 (ib_c 1 1 1 rfl) rfl, fun _ => ib_w 1 1600 h785 rfl, fun _ => ib_w 0 0 h782 rfl, fun _ => ib_w 1 1622 h805 rfl, fun _ => ib_w 0 1620 h539 rfl, fun _ => ib_w 0 1620 h540 rfl, fun _ => ib_w 0 1620 h541 rfl, fun _ => ib_one hx_bad rfl, (by have := h202; have := (h478).2; have := h211; have := h621; have := h647; have := h662; have := h690; have := h783; have := (h785).1; have := h794; omega), fun hq9 => (by have := h202; have := (h478).2; have := h211; have := h794; have := h621; have := h647; have := h662; have := h690; have := h783; have := (h785).1; omega), (by have := (h785).1; have := h783; have := h690; have := h662; have := h647; have := h621; have := h211; have := hJ0_lin3; have := (h482).2; omega), (by have := h802; omega), fun hq8 => fun q => (h817 q), fun hq8 => absurd hq8 (by decide), (hO.symm.trans (by try simp only [show (1 : Int32).toInt = (1 : Int) from rfl]; rw [lf_ua Ef814]; exact hq))⟩ (hP.sub [1, 0, 2, 3] rfl) (hD.sub [1, 0, 2, 3] rfl rfl) (Nat.le_of_ble_eq_true rfl) (Nat.le_of_ble_eq_true rfl) dX10_qGoesOn_361
                                                    · replace hq := lf_neg hq (lf_ne (lf_rf v773) (lf_lc 0 (0 : Int) rfl) c780)
                                                      refine lv_iconst (v := 0) hx hb dX10_qGoesOn_339 rfl ?_
                                                      subst hQ; exact k_iret hx hb hr hlk (k_nb 0 rfl) ((v772, v773, v774, J0_c0_111, J0_c0_113, J0_c0_114, g_qWait, J0_a3)) hS ⟨ib_w 0 1600 h775 rfl, ib_w 0 1700 h480 rfl, ib_w 0 1622 h481 rfl, ib_w 0 1 (ib_c 0 0 0 rfl) rfl, fun hq9 => absurd rfl hq9, fun hq9 => absurd rfl hq9, fun hq9 => absurd rfl hq9, fun hq9 => absurd rfl hq9, fun hq9 => absurd rfl hq9, fun hq9 => absurd rfl hq9, fun _ => ib_one hx_bad rfl, (by have := h202; have := (h478).2; have := h211; have := h621; have := h647; have := h662; have := h690; have := h777; have := (h775).1; omega), fun q => absurd q c780, (by have := (h775).1; have := h777; have := h690; have := h662; have := h647; have := h621; have := h211; have := hJ0_lin3; have := (h482).2; omega), (by have := hJ0_lin1; omega), fun hq8 => absurd rfl hq8, fun hq8 => fun q => absurd q c780, (hO.symm.trans (by try simp only [show (0 : Int32).toInt = (0 : Int) from rfl]; exact hq))⟩ (hP.sub [2, 3, 1, 0] rfl) (hD.sub [2, 3, 1, 0] rfl rfl) (Nat.le_of_ble_eq_true rfl) (Nat.le_of_ble_eq_true rfl) dX10_qGoesOn_340
                                        · as_aux_lemma =>
                                            replace hq := lf_neg hq (lf_ne (lf_rf r681) (lf_lc 0 (0 : Int) rfl) c693)
                                            have h818 : ib r681 1 1 := ib_w 1 1 (ib_ne_lo 0 h685 rfl c693) rfl
                                            have h819 := h691 (ib_nz h818 rfl)
                                            have h820 : ib v655 0 1599 := ⟨(h656).1, by have := (h656).2; have := h819; have := (h684).2; omega⟩
                                            have h821 : ib v683 1 1600 := ⟨by have := (h684).1; have := h819; have := (h820).1; omega, (h684).2⟩
                                            have h822 : ib v640 0 1599 := ⟨(h641).1, by have := (h641).2; have := h662; have := (h820).2; omega⟩
                                            refine lv_aload_n hx hb dX10_qGoesOn_225 rfl (lv_at hl 0 rfl) ?_
                                            refine k_get C0 fg_X10_7 hP 2 rfl rfl dX10_qGoesOn_226 ?_
                                            refine lv_aload_n hx hb dX10_qGoesOn_229 rfl (lv_at hl 0 rfl) ?_
                                            refine k_get C0 fg_X10_285 hP 2 rfl rfl dX10_qGoesOn_230 ?_
                                            refine lv_iconst (v := 1) hx hb dX10_qGoesOn_233 rfl ?_
                                            refine lv_isub hx hb dX10_qGoesOn_234 ?_
                                            refine lv_topi (fun z823 ez823 => ?_)
                                            have h824 := ib_sub h821 (ib_c 1 1 1 rfl) rfl
                                            rw [← ez823] at h824
                                            have h825 : ib z823 0 1599 := ib_w 0 1599 h824.1 rfl
                                            have Ez823 := lf_sub h824.2 (lf_rf v683) (lf_lc 1 (1 : Int) rfl)
                                            refine va_iald hx hb C0.2.2.2.2.2.1 hP 3 0 rfl rfl (ib_in 1600 h825 rfl) dX10_qGoesOn_235 ?_
                                            refine lv_topi (fun z826 ez826 => ?_)
                                            have h827 : ib z826 0 255 := by rw [ez826]; exact ia_at hg_tape (ib_in 1600 h825 rfl)
                                            have Ez826 := lf_ld ez826 (lf_ra g_tape) Ez823
                                            refine lv_bipush (v := 43) hx hb dX10_qGoesOn_236 rfl ?_
                                            refine lv_icmp_ne (tgt := 245) hx hb dX10_qGoesOn_238 rfl (fun c828 => ?_) (fun c828 => ?_)
                                            · replace hq := lf_neg hq (lf_ne Ez826 (lf_lc 43 (43 : Int) rfl) c828)
                                              have h829 : ib v614 0 1599 := ⟨(h615).1, by have := (h615).2; have := h647; have := (h822).2; omega⟩
                                              refine lv_iconst (v := 2) hx hb dX10_qGoesOn_245 rfl ?_
                                              refine lv_istore_n (lv' := [(1, .int 2), (0, .ref a_this)]) hx hb dX10_qGoesOn_246 rfl hl (Nat.le_of_ble_eq_true rfl) rfl (fun ls hl => ?_)
                                              exact jn247 1623 v683 2 J0_c0_111 J0_c0_113 J0_c0_114 J0_a3 H locs ls (ib_w 1 1600 h821 rfl) (ib_w 1 1600 h479 rfl) (ib_w 0 1620 h541 rfl) (ib_w 1 2 (ib_c 2 2 2 rfl) rfl) (ib_w 0 1621 h480 rfl) (ib_w 0 1621 h481 rfl) (by have := h202; have := (h478).2; have := h211; have := h621; have := h647; have := h662; have := h819; have := (h821).1; omega) (by have := hJ0_lin1; omega) (by have := (h821).1; have := h819; have := h662; have := h647; have := h621; have := h211; have := (h478).2; have := hJ0_lin2; omega) (by have := (h821).1; have := h819; have := h662; have := h647; have := h621; have := h211; have := hJ0_lin3; have := (h482).2; omega) (⟨fun q => (hJ0_go.1 q), fun q9 => (by have := h202; have := (h478).2; have := h211; have := h621; have := h647; have := h662; have := h819; have := (h821).1; omega)⟩) (by try simp only [show (2 : Int32).toInt = (2 : Int) from rfl]; exact hq) (by have := h480; unfold ib at this; omega) (hP.sub [2, 3, 1, 0] rfl) (hD.sub [2, 3, 1, 0] rfl rfl) hS (lv_sub hl [1, 0] rfl)
                                            · replace hq := lf_pos hq (lf_eq Ez826 (lf_lc 43 (43 : Int) rfl) c828)
                                              have h830 := ib_eq h827 (ib_c 43 43 43 rfl) c828
                                              have h831 : ib z826 43 43 := ib_w 43 43 h830.1 rfl
                                              have h832 : ib v614 0 1599 := ⟨(h615).1, by have := (h615).2; have := h647; have := (h822).2; omega⟩
                                              refine lv_iconst (v := 1) hx hb dX10_qGoesOn_241 rfl ?_
                                              refine lv_goto (tgt := 246) hx hb dX10_qGoesOn_242 rfl ?_
                                              refine lv_istore_n (lv' := [(1, .int 1), (0, .ref a_this)]) hx hb dX10_qGoesOn_246 rfl hl (Nat.le_of_ble_eq_true rfl) rfl (fun ls hl => ?_)
                                              exact jn247 1623 v683 1 J0_c0_111 J0_c0_113 J0_c0_114 J0_a3 H locs ls (ib_w 1 1600 h821 rfl) (ib_w 1 1600 h479 rfl) (ib_w 0 1620 h541 rfl) (ib_w 1 2 (ib_c 1 1 1 rfl) rfl) (ib_w 0 1621 h480 rfl) (ib_w 0 1621 h481 rfl) (by have := h202; have := (h478).2; have := h211; have := h621; have := h647; have := h662; have := h819; have := (h821).1; omega) (by have := hJ0_lin1; omega) (by have := (h821).1; have := h819; have := h662; have := h647; have := h621; have := h211; have := (h478).2; have := hJ0_lin2; omega) (by have := (h821).1; have := h819; have := h662; have := h647; have := h621; have := h211; have := hJ0_lin3; have := (h482).2; omega) (⟨fun q => (hJ0_go.1 q), fun q9 => (by have := h202; have := (h478).2; have := h211; have := h621; have := h647; have := h662; have := h819; have := (h821).1; omega)⟩) (by try simp only [show (1 : Int32).toInt = (1 : Int) from rfl]; exact hq) (by have := h480; unfold ib at this; omega) (hP.sub [2, 3, 1, 0] rfl) (hD.sub [2, 3, 1, 0] rfl rfl) hS (lv_sub hl [1, 0] rfl)
                                · as_aux_lemma =>
                                    replace hq := lf_neg hq (lf_ne (lf_rf r638) (lf_lc 0 (0 : Int) rfl) c650)
                                    have h833 : ib r638 1 1 := ib_w 1 1 (ib_ne_lo 0 h642 rfl c650) rfl
                                    have h834 := h648 (ib_nz h833 rfl)
                                    have h835 : ib v614 0 1599 := ⟨(h615).1, by have := (h615).2; have := h834; have := (h641).2; omega⟩
                                    have h836 : ib v640 1 1600 := ⟨by have := (h641).1; have := h834; have := (h835).1; omega, (h641).2⟩
                                    refine lv_aload_n hx hb dX10_qGoesOn_140 rfl (lv_at hl 0 rfl) ?_
                                    refine k_get C0 fg_X10_7 hP 2 rfl rfl dX10_qGoesOn_141 ?_
                                    refine lv_aload_n hx hb dX10_qGoesOn_144 rfl (lv_at hl 0 rfl) ?_
                                    refine k_get C0 fg_X10_285 hP 2 rfl rfl dX10_qGoesOn_145 ?_
                                    refine lv_iconst (v := 1) hx hb dX10_qGoesOn_148 rfl ?_
                                    refine lv_isub hx hb dX10_qGoesOn_149 ?_
                                    refine lv_topi (fun z837 ez837 => ?_)
                                    have h838 := ib_sub h836 (ib_c 1 1 1 rfl) rfl
                                    rw [← ez837] at h838
                                    have h839 : ib z837 0 1599 := ib_w 0 1599 h838.1 rfl
                                    have Ez837 := lf_sub h838.2 (lf_rf v640) (lf_lc 1 (1 : Int) rfl)
                                    refine va_iald hx hb C0.2.2.2.2.2.1 hP 3 0 rfl rfl (ib_in 1600 h839 rfl) dX10_qGoesOn_150 ?_
                                    refine lv_topi (fun z840 ez840 => ?_)
                                    have h841 : ib z840 0 255 := by rw [ez840]; exact ia_at hg_tape (ib_in 1600 h839 rfl)
                                    have Ez840 := lf_ld ez840 (lf_ra g_tape) Ez837
                                    refine lv_bipush (v := 42) hx hb dX10_qGoesOn_151 rfl ?_
                                    refine lv_icmp_ne (tgt := 160) hx hb dX10_qGoesOn_153 rfl (fun c842 => ?_) (fun c842 => ?_)
                                    · replace hq := lf_neg hq (lf_ne Ez840 (lf_lc 42 (42 : Int) rfl) c842)
                                      refine lv_iconst (v := 4) hx hb dX10_qGoesOn_160 rfl ?_
                                      refine lv_istore_n (lv' := [(1, .int 4), (0, .ref a_this)]) hx hb dX10_qGoesOn_161 rfl hl (Nat.le_of_ble_eq_true rfl) rfl (fun ls hl => ?_)
                                      exact jn162 1623 v640 4 J0_c0_111 J0_c0_113 J0_c0_114 J0_a3 H locs ls (ib_w 1 1600 h836 rfl) (ib_w 1 1600 h479 rfl) (ib_w 0 1620 h541 rfl) (ib_w 3 4 (ib_c 4 4 4 rfl) rfl) (ib_w 0 1621 h480 rfl) (ib_w 0 1621 h481 rfl) (by have := h202; have := (h478).2; have := h211; have := h621; have := h834; have := (h836).1; omega) (by have := hJ0_lin1; omega) (by have := (h836).1; have := h834; have := h621; have := h211; have := (h478).2; have := hJ0_lin2; omega) (by have := (h836).1; have := h834; have := h621; have := h211; have := hJ0_lin3; have := (h482).2; omega) (⟨fun q => (hJ0_go.1 q), fun q9 => (by have := h202; have := (h478).2; have := h211; have := h621; have := h834; have := (h836).1; omega)⟩) (by try simp only [show (4 : Int32).toInt = (4 : Int) from rfl]; exact hq) (by have := h480; unfold ib at this; omega) (hP.sub [2, 3, 1, 0] rfl) (hD.sub [2, 3, 1, 0] rfl rfl) hS (lv_sub hl [1, 0] rfl)
                                    · replace hq := lf_pos hq (lf_eq Ez840 (lf_lc 42 (42 : Int) rfl) c842)
                                      have h843 := ib_eq h841 (ib_c 42 42 42 rfl) c842
                                      have h844 : ib z840 42 42 := ib_w 42 42 h843.1 rfl
                                      refine lv_iconst (v := 3) hx hb dX10_qGoesOn_156 rfl ?_
                                      refine lv_goto (tgt := 161) hx hb dX10_qGoesOn_157 rfl ?_
                                      refine lv_istore_n (lv' := [(1, .int 3), (0, .ref a_this)]) hx hb dX10_qGoesOn_161 rfl hl (Nat.le_of_ble_eq_true rfl) rfl (fun ls hl => ?_)
                                      exact jn162 1623 v640 3 J0_c0_111 J0_c0_113 J0_c0_114 J0_a3 H locs ls (ib_w 1 1600 h836 rfl) (ib_w 1 1600 h479 rfl) (ib_w 0 1620 h541 rfl) (ib_w 3 4 (ib_c 3 3 3 rfl) rfl) (ib_w 0 1621 h480 rfl) (ib_w 0 1621 h481 rfl) (by have := h202; have := (h478).2; have := h211; have := h621; have := h834; have := (h836).1; omega) (by have := hJ0_lin1; omega) (by have := (h836).1; have := h834; have := h621; have := h211; have := (h478).2; have := hJ0_lin2; omega) (by have := (h836).1; have := h834; have := h621; have := h211; have := hJ0_lin3; have := (h482).2; omega) (⟨fun q => (hJ0_go.1 q), fun q9 => (by have := h202; have := (h478).2; have := h211; have := h621; have := h834; have := (h836).1; omega)⟩) (by try simp only [show (3 : Int32).toInt = (3 : Int) from rfl]; exact hq) (by have := h480; unfold ib at this; omega) (hP.sub [2, 3, 1, 0] rfl) (hD.sub [2, 3, 1, 0] rfl rfl) hS (lv_sub hl [1, 0] rfl)
                        · as_aux_lemma =>
                            replace hq := lf_pos hq (lf_eq (lf_rf r607) (lf_lc 24 (24 : Int) rfl) c611)
                            have h845 := ib_eq (ib_any r607) (ib_c 24 24 24 rfl) c611
                            have h846 : ib r607 24 24 := ib_w 24 24 h845.1 rfl
                            refine lv_aload_n hx hb dX10_qGoesOn_43 rfl (lv_at hl 0 rfl) ?_
                            refine lv_dup hx hb dX10_qGoesOn_44 rfl ?_
                            refine k_get C0 fg_X10_285 hP 2 rfl rfl dX10_qGoesOn_45 ?_
                            refine lv_iconst (v := 1) hx hb dX10_qGoesOn_48 rfl ?_
                            refine lv_iadd hx hb dX10_qGoesOn_49 ?_
                            refine lv_topi (fun z847 ez847 => ?_)
                            have h848 := ib_add h477 (ib_c 1 1 1 rfl) rfl
                            rw [← ez847] at h848
                            have h849 : ib z847 1 1600 := ib_w 1 1600 h848.1 rfl
                            have Ez847 := lf_add h848.2 (lf_rf v205) (lf_lc 1 (1 : Int) rfl)
                            refine k_put C0 fp_X10_285 hP hD hS 2 rfl rfl rfl (Nat.le_of_ble_eq_true rfl) dX10_qGoesOn_50 (fun H locs hP hD hS => ?_)
                            replace hP : va_P (dC, dI) vwCl [(wi_rm110_0_1700_0 rm cy J0_a3), (wi_rm0_0_1600_0 rm cy g_tape), (a_this, .inr (10, mfs rm x_taped z847 x_end x_ended x_bad x_badPlace x_fault x_faultPlace x_namePlace x_awayTold x_away x_coded x_statements x_isCrossing x_textKind x_askSecond x_redMany x_isOpen x_lastGreen x_greenTo x_isCycleGreen x_stillGreen x_rowMany x_fitMany x_fitRules x_fitGreen x_undoable x_newest x_seeded J0_c0_111 J0_c0_113 J0_c0_114 x_qBase x_qPiled x_qAnswer x_qIsNew x_octets)), (wi_rm112_0_1700_0 rm cy g_qWait)] H := hP
                            replace hD := k_D hP hD
                            refine lv_aload_n hx hb dX10_qGoesOn_53 rfl (lv_at hl 0 rfl) ?_
                            refine k_jvm hP hD hS hA [2, 3, 0] [false, true] rfl rfl rfl 0 0 (Nat.le_of_ble_eq_true rfl) (Nat.le_of_ble_eq_true rfl) (fun hPc hDc => k_runV (As := []) (rest := []) C0 hZ hS hA (s_X10_qDropsToBracket l dC dI cy sq a_this rm x_taped z847 x_end x_ended x_bad x_badPlace x_fault x_faultPlace x_namePlace x_awayTold x_away x_coded x_statements x_isCrossing x_textKind x_askSecond x_redMany x_isOpen x_lastGreen x_greenTo x_isCycleGreen x_stillGreen x_rowMany x_fitMany x_fitRules x_fitGreen x_undoable x_newest x_seeded J0_c0_111 J0_c0_113 J0_c0_114 x_qBase x_qPiled x_qAnswer x_qIsNew x_octets J0_a3 g_qWait cc (ib_w 0 0 hx_bad rfl) (ib_w 0 1700 h480 rfl) (ib_w 0 1700 h481 rfl) (ib_w 0 1700 h541 rfl) (by have := hJ0_lin2; have := (h478).2; omega) (by have := hJ0_lin1; omega) (fun q => (hJ0_go.1 q))) mV_X10_638 hPc hDc rfl rfl rfl hl rfl rfl (Nat.le_of_ble_eq_true rfl) ⟨(Nat.le_of_ble_eq_true rfl), (Nat.le_of_ble_eq_true rfl)⟩ ⟨(Nat.le_of_ble_eq_true rfl), (Nat.le_of_ble_eq_true rfl)⟩ dX10_qGoesOn_54) (fun u851 H locs hw hP hD hS => ?_)
                            obtain ⟨v852, v853, f854⟩ := u851
                            try dsimp only at hP hD hw
                            replace hP : va_P (dC, dI) vwCl [(wi_rm0_0_1600_0 rm cy g_tape), (a_this, .inr (10, mfs rm x_taped z847 x_end x_ended x_bad x_badPlace x_fault x_faultPlace x_namePlace x_awayTold x_away x_coded x_statements x_isCrossing x_textKind x_askSecond x_redMany x_isOpen x_lastGreen x_greenTo x_isCycleGreen x_stillGreen x_rowMany x_fitMany x_fitRules x_fitGreen x_undoable x_newest x_seeded v852 v853 J0_c0_114 x_qBase x_qPiled x_qAnswer x_qIsNew x_octets)), (wi_rm112_0_1700_0 rm cy g_qWait), (wi_rm110_0_1700_0 rm cy f854)] H := hP
                            replace hD := k_D hP hD
                            obtain ⟨h855, h856, h857, h858, h859, h860, h861, h862, h863⟩ := hw
                            replace hq := lf_p1 hq h863
                            replace hq := lf_p1 hq rfl
                            have h864 := BR_DB h609 h862 (ib_nc (-1) h846 rfl)
                            have h865 : 1 * x_qBase.toInt + (-1) * v853.toInt ≤ (-1) := by have q1 := h864.2; have q2 := (h541).1; omega
                            have h866 : ib v853 0 1620 := ⟨(h856).1, by have := (h856).2; have := h859; have := (h481).2; omega⟩
                            have h867 : ib v853 1 1620 := ⟨by have := (h866).1; have := h865; have := (h541).1; omega, (h866).2⟩
                            refine lv_aload_n hx hb dX10_qGoesOn_57 rfl (lv_at hl 0 rfl) ?_
                            as_aux_lemma =>
                              refine lv_dup hx hb dX10_qGoesOn_58 rfl ?_
                              refine k_get C0 fg_X10_372 hP 1 rfl rfl dX10_qGoesOn_59 ?_
                              refine lv_iconst (v := 1) hx hb dX10_qGoesOn_62 rfl ?_
                              refine lv_isub hx hb dX10_qGoesOn_63 ?_
                              refine lv_topi (fun z868 ez868 => ?_)
                              have h869 := ib_sub h867 (ib_c 1 1 1 rfl) rfl
                              rw [← ez868] at h869
                              have h870 : ib z868 0 1619 := ib_w 0 1619 h869.1 rfl
                              have Ez868 := lf_sub h869.2 (lf_rf v853) (lf_lc 1 (1 : Int) rfl)
                              refine k_put C0 fp_X10_372 hP hD hS 1 rfl rfl rfl (Nat.le_of_ble_eq_true rfl) dX10_qGoesOn_64 (fun H locs hP hD hS => ?_)
                              replace hP : va_P (dC, dI) vwCl [(wi_rm0_0_1600_0 rm cy g_tape), (a_this, .inr (10, mfs rm x_taped z847 x_end x_ended x_bad x_badPlace x_fault x_faultPlace x_namePlace x_awayTold x_away x_coded x_statements x_isCrossing x_textKind x_askSecond x_redMany x_isOpen x_lastGreen x_greenTo x_isCycleGreen x_stillGreen x_rowMany x_fitMany x_fitRules x_fitGreen x_undoable x_newest x_seeded v852 z868 J0_c0_114 x_qBase x_qPiled x_qAnswer x_qIsNew x_octets)), (wi_rm112_0_1700_0 rm cy g_qWait), (wi_rm110_0_1700_0 rm cy f854)] H := hP
                              replace hD := k_D hP hD
                              refine lv_aload_n hx hb dX10_qGoesOn_67 rfl (lv_at hl 0 rfl) ?_
                              refine lv_dup hx hb dX10_qGoesOn_68 rfl ?_
                              refine k_get C0 fg_X10_375 hP 1 rfl rfl dX10_qGoesOn_69 ?_
                              refine lv_iconst (v := 1) hx hb dX10_qGoesOn_72 rfl ?_
                              refine lv_isub hx hb dX10_qGoesOn_73 ?_
                              refine lv_topi (fun z871 ez871 => ?_)
                              have Ez871 := lf_op lf_isub ez871 (lf_rf J0_c0_114) (lf_lc 1 (1 : Int) rfl)
                              refine k_put C0 fp_X10_375 hP hD hS 1 rfl rfl rfl (Nat.le_of_ble_eq_true rfl) dX10_qGoesOn_74 (fun H locs hP hD hS => ?_)
                              replace hP : va_P (dC, dI) vwCl [(wi_rm0_0_1600_0 rm cy g_tape), (a_this, .inr (10, mfs rm x_taped z847 x_end x_ended x_bad x_badPlace x_fault x_faultPlace x_namePlace x_awayTold x_away x_coded x_statements x_isCrossing x_textKind x_askSecond x_redMany x_isOpen x_lastGreen x_greenTo x_isCycleGreen x_stillGreen x_rowMany x_fitMany x_fitRules x_fitGreen x_undoable x_newest x_seeded v852 z868 z871 x_qBase x_qPiled x_qAnswer x_qIsNew x_octets)), (wi_rm112_0_1700_0 rm cy g_qWait), (wi_rm110_0_1700_0 rm cy f854)] H := hP
                              replace hD := k_D hP hD
                              refine lv_aload_n hx hb dX10_qGoesOn_77 rfl (lv_at hl 0 rfl) ?_
                              refine k_get C0 fg_X10_267 hP 1 rfl rfl dX10_qGoesOn_78 ?_
                              refine lv_aload_n hx hb dX10_qGoesOn_81 rfl (lv_at hl 0 rfl) ?_
                              refine k_get C0 fg_X10_372 hP 1 rfl rfl dX10_qGoesOn_82 ?_
                              refine va_iald hx hb C0.2.2.2.2.2.1 hP 2 0 rfl rfl (ib_in 1700 h870 rfl) dX10_qGoesOn_85 ?_
                              refine lv_topi (fun z872 ez872 => ?_)
                              have Ez872 := lf_ld ez872 (lf_ra g_qWait) Ez868
                              have h873 : ib z872 24 24 := by rw [ez872, show Int32.toNatClampNeg z868 = v853.toInt.toNat - 1 from by show (Int32.toInt z868).toNat = _; have := (h867).1; have := (h867).2; have := h857; have := h858; have := h859; have := h860; have := h865; have := (h541).1; have := (h541).2; have := hL1; have := hJ0_lin1; have := (h481).1; have := (h481).2; have := hJ0_lin0; have := hJ0_lin2; have := h202; have := (h480).1; have := (h480).2; have := (h855).1; have := (h855).2; have := (h482).1; have := (h482).2; have := hL0; have := hJ0_lin3; have := (h540).1; have := (h540).2; have := (h539).1; have := (h539).2; have := (h478).1; have := (h478).2; have := h211; have := (h477).1; have := (h477).2; have := (h870).1; have := (h870).2; have := h869.2; have : (1 : Int32).toInt = 1 := rfl; omega, h864.1]; exact h846
                              as_aux_lemma =>
                                refine lv_bipush (v := 20) hx hb dX10_qGoesOn_86 rfl ?_
                                refine lv_icmp_eq (tgt := 115) hx hb dX10_qGoesOn_88 rfl (fun c874 => ?_) (fun c874 => ?_)
                                · skip
                                  have h875 := ib_eq h873 (ib_c 20 20 20 rfl) c874
                                  exact ib_no (ib_w 24 20 h875.1 rfl) rfl
                                · as_aux_lemma =>
                                    skip
                                    have h876 : ib J0_c0_113 1 1620 := ⟨by have := (h481).1; have := h859; have := (h867).1; omega, (h481).2⟩
                                    refine lv_aload_n hx hb dX10_qGoesOn_91 rfl (lv_at hl 0 rfl) ?_
                                    refine lv_aload_n hx hb dX10_qGoesOn_92 rfl (lv_at hl 0 rfl) ?_
                                    refine k_get C0 fg_X10_267 hP 1 rfl rfl dX10_qGoesOn_93 ?_
                                    refine lv_aload_n hx hb dX10_qGoesOn_96 rfl (lv_at hl 0 rfl) ?_
                                    refine k_get C0 fg_X10_372 hP 1 rfl rfl dX10_qGoesOn_97 ?_
                                    refine va_iald hx hb C0.2.2.2.2.2.1 hP 2 0 rfl rfl (ib_in 1700 h870 rfl) dX10_qGoesOn_100 ?_
                                    refine lv_topi (fun z877 ez877 => ?_)
                                    obtain rfl : z872 = z877 := ez872.trans ez877.symm
                                    refine lv_bipush (v := 23) hx hb dX10_qGoesOn_101 rfl ?_
                                    refine lv_icmp_ne (tgt := 110) hx hb dX10_qGoesOn_103 rfl (fun c878 => ?_) (fun c878 => ?_)
                                    · as_aux_lemma =>
                                        skip
                                        have h879 : ib J0_c0_111 0 1619 := ⟨(h480).1, by have := (h480).2; have := h202; have := (h876).1; have := hL0; have := (h478).2; omega⟩
                                        refine lv_bipush (v := 6) hx hb dX10_qGoesOn_110 rfl ?_
                                        refine k_jvm hP hD hS hA [1, 3] [true, false, true] rfl rfl rfl 0 0 (Nat.le_of_ble_eq_true rfl) (Nat.le_of_ble_eq_true rfl) (fun hPc hDc => k_runV (As := [.int 6]) (rest := []) C0 hZ hS hA (s_X10_qCode l dC dI cy sq a_this rm x_taped z847 x_end x_ended x_bad x_badPlace x_fault x_faultPlace x_namePlace x_awayTold x_away x_coded x_statements x_isCrossing x_textKind x_askSecond x_redMany x_isOpen x_lastGreen x_greenTo x_isCycleGreen x_stillGreen x_rowMany x_fitMany x_fitRules x_fitGreen x_undoable x_newest x_seeded v852 z868 z871 x_qBase x_qPiled x_qAnswer x_qIsNew x_octets f854 6 ⟨by have := (h855).1; have := (h855).2; have := h857; have := h858; have := (h876).1; have := (h876).2; have := hJ0_lin0; have := hJ0_lin1; have := hJ0_lin2; have := h202; have := h859; have := (h867).1; have := (h867).2; have := h860; have := h865; have := (h541).1; have := (h541).2; have := hL1; have := (h540).1; have := (h540).2; have := hL0; have := (h482).1; have := (h482).2; have := hJ0_lin3; have := (h539).1; have := (h539).2; have := (h478).1; have := (h478).2; have := h211; have := (h477).1; have := (h477).2; have := (h879).1; have := (h879).2; omega, by have := (h855).1; have := (h855).2; have := h857; have := h858; have := (h876).1; have := (h876).2; have := hJ0_lin0; have := hJ0_lin1; have := hJ0_lin2; have := h202; have := h859; have := (h867).1; have := (h867).2; have := h860; have := h865; have := (h541).1; have := (h541).2; have := hL1; have := (h540).1; have := (h540).2; have := hL0; have := (h482).1; have := (h482).2; have := hJ0_lin3; have := (h539).1; have := (h539).2; have := (h478).1; have := (h478).2; have := h211; have := (h477).1; have := (h477).2; have := (h879).1; have := (h879).2; omega⟩) mV_X10_608 hPc hDc rfl rfl rfl hl rfl rfl (Nat.le_of_ble_eq_true rfl) ⟨(Nat.le_of_ble_eq_true rfl), (Nat.le_of_ble_eq_true rfl)⟩ ⟨(Nat.le_of_ble_eq_true rfl), (Nat.le_of_ble_eq_true rfl)⟩ dX10_qGoesOn_112) (fun u881 H locs hw hP hD hS => ?_)
                                        obtain ⟨v882, f883⟩ := u881
                                        try dsimp only at hP hD hw
                                        replace hP : va_P (dC, dI) vwCl [(wi_rm0_0_1600_0 rm cy g_tape), (wi_rm112_0_1700_0 rm cy g_qWait), (a_this, .inr (10, mfs rm x_taped z847 x_end x_ended x_bad x_badPlace x_fault x_faultPlace x_namePlace x_awayTold x_away x_coded x_statements x_isCrossing x_textKind x_askSecond x_redMany x_isOpen x_lastGreen x_greenTo x_isCycleGreen x_stillGreen x_rowMany x_fitMany x_fitRules x_fitGreen x_undoable x_newest x_seeded v882 z868 z871 x_qBase x_qPiled x_qAnswer x_qIsNew x_octets)), (wi_rm110_0_1700_0 rm cy f883)] H := hP
                                        replace hD := k_D hP hD
                                        obtain ⟨h884, h885, h886, h887⟩ := hw
                                        have h888 : v882.toInt = (v852 : Int32).toInt + (1 : Int32).toInt := by have q1 := h885; have q2 : (1 : Int32).toInt = 1 := rfl; omega
                                        have h887 := by have h9 := h887; try simp only [show (6 : Int32).toInt = (6 : Int) from rfl] at h9; exact h9
                                        replace hq := lf_p1 hq h887
                                        have h889 : x_bad = 0 → GS f883 v882 g_qWait z868 x_qBase x_textKind (cc + 1) := fun q => (by rw [h886]; exact GS_mm (h861 q) (by have := (h541).1; have := (h541).2; have := hL1; have := hJ0_lin1; have := h860; have := h865; have := (h867).1; have := (h867).2; have := h857; have := h858; have := h859; have := (h876).1; have := (h876).2; have := hJ0_lin0; have := hJ0_lin2; have := h202; have := (h879).1; have := (h879).2; have := (h855).1; have := (h855).2; have := (h482).1; have := (h482).2; have := hL0; have := hJ0_lin3; have := (h540).1; have := (h540).2; have := (h539).1; have := (h539).2; have := (h478).1; have := (h478).2; have := h211; have := (h477).1; have := (h477).2; have := (h870).1; have := (h870).2; have := h869.2; have : (1 : Int32).toInt = 1 := rfl; omega) (by have := (h541).1; have := (h541).2; have := hL1; have := hJ0_lin1; have := h860; have := h865; have := (h867).1; have := (h867).2; have := h857; have := h858; have := h859; have := (h876).1; have := (h876).2; have := hJ0_lin0; have := hJ0_lin2; have := h202; have := (h879).1; have := (h879).2; have := (h855).1; have := (h855).2; have := (h482).1; have := (h482).2; have := hL0; have := hJ0_lin3; have := (h540).1; have := (h540).2; have := (h539).1; have := (h539).2; have := (h478).1; have := (h478).2; have := h211; have := (h477).1; have := (h477).2; have := (h870).1; have := (h870).2; have := h869.2; have : (1 : Int32).toInt = 1 := rfl; omega) (by rw [← ez872]; have := (h873).1; have := (h873).2; omega) (by have := (h855).1; have := (h855).2; have := h857; have := h858; have := (h876).1; have := (h876).2; have := hJ0_lin0; have := hJ0_lin1; have := hJ0_lin2; have := h202; have := h859; have := (h867).1; have := (h867).2; have := h860; have := h865; have := (h541).1; have := (h541).2; have := hL1; have := (h540).1; have := (h540).2; have := hL0; have := (h482).1; have := (h482).2; have := hJ0_lin3; have := (h539).1; have := (h539).2; have := (h478).1; have := (h478).2; have := h211; have := (h477).1; have := (h477).2; have := (h879).1; have := (h879).2; have := (h884).1; have := (h884).2; have := h888; have : (1 : Int32).toInt = 1 := rfl; omega) (by decide))
                                        refine lv_aload_n hx hb dX10_qGoesOn_115 rfl (lv_at hl 0 rfl) ?_
                                        refine k_jvm hP hD hS hA [2, 1, 3] [true] rfl rfl rfl 0 0 (Nat.le_of_ble_eq_true rfl) (Nat.le_of_ble_eq_true rfl) (fun hPc hDc => k_runV (As := []) (rest := []) C0 hZ hS hA (s_X10_qEndsPart l dC dI cy sq a_this rm x_taped z847 x_end x_ended x_bad x_badPlace x_fault x_faultPlace x_namePlace x_awayTold x_away x_coded x_statements x_isCrossing x_textKind x_askSecond x_redMany x_isOpen x_lastGreen x_greenTo x_isCycleGreen x_stillGreen x_rowMany x_fitMany x_fitRules x_fitGreen x_undoable x_newest x_seeded v882 z868 z871 x_qBase x_qPiled x_qAnswer x_qIsNew x_octets f883 g_qWait cc (ib_w 0 1700 h884 rfl) (ib_w 0 1700 h870 rfl) (ib_w 0 1700 h541 rfl) (by have := (h870).2; have := h869.2; have : (1 : Int32).toInt = 1 := rfl; have := h857; have := hJ0_lin2; have := (h478).2; have := (h884).2; have := h888; omega) (by have := h869.2; have : (1 : Int32).toInt = 1 := rfl; have := h865; omega) (fun q => (h889 q))) mV_X10_632 hPc hDc rfl rfl rfl hl rfl rfl (Nat.le_of_ble_eq_true rfl) ⟨(Nat.le_of_ble_eq_true rfl), (Nat.le_of_ble_eq_true rfl)⟩ ⟨(Nat.le_of_ble_eq_true rfl), (Nat.le_of_ble_eq_true rfl)⟩ dX10_qGoesOn_116) (fun u891 H locs hw hP hD hS => ?_)
                                        obtain ⟨v892, v893, v894, f895⟩ := u891
                                        try dsimp only at hP hD hw
                                        replace hP : va_P (dC, dI) vwCl [(wi_rm0_0_1600_0 rm cy g_tape), (a_this, .inr (10, mfs rm x_taped z847 x_end x_ended x_bad x_badPlace x_fault x_faultPlace x_namePlace x_awayTold x_away x_coded x_statements x_isCrossing x_textKind x_askSecond x_redMany x_isOpen x_lastGreen x_greenTo x_isCycleGreen x_stillGreen x_rowMany x_fitMany x_fitRules x_fitGreen x_undoable x_newest x_seeded v892 v893 v894 x_qBase x_qPiled x_qAnswer x_qIsNew x_octets)), (wi_rm112_0_1700_0 rm cy g_qWait), (wi_rm110_0_1700_0 rm cy f895)] H := hP
                                        replace hD := k_D hP hD
                                        obtain ⟨h896, h897, h898, h899, h900, h901, h902, h903⟩ := hw
                                        have h903 := by have h9 := h903; rw [lf_u Ez868] at h9; rw [lf_u Ez871] at h9; exact h9
                                        replace hq := lf_p1 hq h903
                                        replace hq := lf_p1 hq rfl
                                        replace hq := lf_p1 hq rfl
                                        refine lv_goto (tgt := 0) hx hb dX10_qGoesOn_119 rfl ?_
                                        exact ih0 z847 v892 v893 v894 f895 H locs ls (ib_w 0 1600 h849 rfl) ⟨by have := (h896).1; omega, by have := (h478).2; have := hJ0_lin2; have := h857; have := (h897).1; have := h898; have := h869.2; have : (1 : Int32).toInt = 1 := rfl; have := h888; have := (h896).2; omega⟩ ⟨by have := (h897).1; omega, by have := (h897).2; have := h900; have := (h870).2; omega⟩ (by have := (h482).2; have := h202; have := (h540).1; have := (h539).1; have := h211; have := h857; have := (h897).2; have := h898; have := h869.2; have : (1 : Int32).toInt = 1 := rfl; have := h888; have := (h896).2; have := (h849).1; have := h848.2; omega) (by have := h901; omega) (by have := (h849).1; have := h848.2; have : (1 : Int32).toInt = 1 := rfl; have := h211; have := hJ0_lin2; have := h857; have := (h897).2; have := h898; have := h869.2; have := h888; have := (h896).2; omega) (by have := (h849).1; have := h848.2; have : (1 : Int32).toInt = 1 := rfl; have := h211; have := hJ0_lin3; have := (h482).2; omega) (⟨fun q => (h902 q), fun q9 => (by have := (h482).2; have := h202; have := (h540).1; have := (h539).1; have := h211; have := h857; have := (h897).2; have := h898; have := h869.2; have : (1 : Int32).toInt = 1 := rfl; have := h888; have := (h896).2; have := (h849).1; have := h848.2; omega)⟩) (by rw [← hK0]; rw [lf_u Ez847]; exact hq) (by have := (h478).1; have := (h478).2; have := hJ0_lin0; have := hJ0_lin2; have := hJ0_lin3; have := h202; have := h211; have := (h477).1; have := (h477).2; have := (h482).1; have := (h482).2; have := hL0; have := (h540).1; have := (h540).2; have := hL1; have := (h539).1; have := (h539).2; have := (h876).1; have := (h876).2; have := hJ0_lin1; have := h857; have := h858; have := h859; have := (h867).1; have := (h867).2; have := h860; have := h865; have := (h541).1; have := (h541).2; have := h901; have := (h897).1; have := (h897).2; have := h898; have := h899; have := h900; have := (h870).1; have := (h870).2; have := h869.2; have : (1 : Int32).toInt = 1 := rfl; have := (h884).1; have := (h884).2; have := h888; have := (h896).1; have := (h896).2; have := (h855).1; have := (h855).2; have := (h879).1; have := (h879).2; have := (h849).1; have := (h849).2; have := h848.2; omega) (hP.sub [1, 0, 2, 3] rfl) (hD.sub [1, 0, 2, 3] rfl rfl) hS (lv_sub hl [0] rfl)
                                    · skip
                                      have h904 := ib_eq h873 (ib_c 23 23 23 rfl) c878
                                      exact ib_no (ib_w 24 23 h904.1 rfl) rfl
  exact jn0 1602 x_at x_qCoded x_qWaits x_qOpened g_qCodes H locs ls (ib_w 0 1600 hx_at rfl) ⟨by have := (hx_qCoded).1; omega, by have := (hx_at).2; have := hL0; have := (hx_qWaits).1; have := (hx_qCoded).2; omega⟩ ⟨by have := (hx_qWaits).1; omega, by have := (hx_at).2; have := hL0; have := (hx_qWaits).2; have := (hx_qCoded).1; omega⟩ (by omega) (by have := hL1; omega) (by have := hL0; omega) (by omega) (⟨fun q => (hGS q), fun q9 => (by omega)⟩) (by exact hq) (by have q1 := (hx_at).1; omega) hP hD hS (lv_sub hl [0] rfl)
