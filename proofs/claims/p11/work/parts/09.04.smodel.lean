set_option maxHeartbeats 4000000 in
set_option maxRecDepth 100000 in
theorem s_X10_qOpens_a0_12 (l : Launch) (dC : Nat → ClassId) (dI : Nat → Nat → Nat) (cy : Nat → ClassId) (sq : Nat → Nat) (a_this : Nat) (rm : Nat → Nat) (x_taped : Int32) (x_at : Int32) (x_end : Int32) (x_ended : Int32) (x_bad : Int32) (x_badPlace : Int32) (x_fault : Int32) (x_faultPlace : Int32) (x_namePlace : Int32) (x_awayTold : Int32) (x_away : Int32) (x_coded : Int32) (x_statements : Int32) (x_isCrossing : Int32) (x_textKind : Int32) (x_askSecond : Int32) (x_redMany : Int32) (x_isOpen : Int32) (x_lastGreen : Int32) (x_greenTo : Int32) (x_isCycleGreen : Int32) (x_stillGreen : Int32) (x_rowMany : Int32) (x_fitMany : Int32) (x_fitRules : Int32) (x_fitGreen : Int32) (x_undoable : Int32) (x_newest : Int32) (x_seeded : Int64) (x_qCoded : Int32) (x_qWaits : Int32) (x_qOpened : Int32) (x_qBase : Int32) (x_qPiled : Int32) (x_qAnswer : Int64) (x_qIsNew : Int32) (x_octets : Int32) (g_qWait : Nat → Int32) (p1 : Int32) (hx_qWaits : ib x_qWaits 0 1699) : k_Met l yX10_qOpens cX10_qOpens 3 none { frames := 1, cells := 0, slots := 0, locals := 22 } dC dI cy sq [.ref a_this, .int 12, .int p1] [(a_this, .inr (10, mfs rm x_taped x_at x_end x_ended x_bad x_badPlace x_fault x_faultPlace x_namePlace x_awayTold x_away x_coded x_statements x_isCrossing x_textKind x_askSecond x_redMany x_isOpen x_lastGreen x_greenTo x_isCycleGreen x_stillGreen x_rowMany x_fitMany x_fitRules x_fitGreen x_undoable x_newest x_seeded x_qCoded x_qWaits x_qOpened x_qBase x_qPiled x_qAnswer x_qIsNew x_octets)), (wi_rm112_0_1700_0 rm cy g_qWait)] (k_Qv dC dI (fun (u : Int32 × Int32 × Int32 × Int32 × (Nat → Int32)) => match u with | (n0, n1, n2, n3, n4) => ib n2 0 1700 ∧ (n0 = 0 → x_bad = 0) ∧ (1 * n2.toInt + (-1) * x_qWaits.toInt ≤ 1) ∧ (1 * x_qWaits.toInt + (-1) * n2.toInt ≤ 0) ∧ (n0 = 0 → n4 = upd g_qWait (Int32.toNatClampNeg x_qWaits) 12 ∧ n2.toInt = x_qWaits.toInt + 1) ∧ (F_X10_qOpens_a0_12 (Int32.toInt x_bad) (Int32.toInt x_badPlace) (Int32.toInt x_qWaits) (Int32.toInt x_qOpened) (lf_A g_qWait) (Int32.toInt p1) = ((Int32.toInt n0), (Int32.toInt n1), (Int32.toInt n2), (Int32.toInt n3), (lf_A n4)))) (fun u : Int32 × Int32 × Int32 × Int32 × (Nat → Int32) => match u with | (n0, n1, n2, n3, n4) => [(a_this, .inr (10, mfs rm x_taped x_at x_end x_ended n0 n1 x_fault x_faultPlace x_namePlace x_awayTold x_away x_coded x_statements x_isCrossing x_textKind x_askSecond x_redMany x_isOpen x_lastGreen x_greenTo x_isCycleGreen x_stillGreen x_rowMany x_fitMany x_fitRules x_fitGreen x_undoable x_newest x_seeded x_qCoded n2 n3 x_qBase x_qPiled x_qAnswer x_qIsNew x_octets)), (wi_rm112_0_1700_0 rm cy n4)])) := by
  refine k_ofW2 (by decide +kernel) (Nat.le_of_ble_eq_true rfl) ?_
  intro p e s m below meth c A ls H locs args Q hQ C0 hZ hr hlk hin hP hD hA hS hl
  have C0 : k_cx p s m args c cX10_qOpens 3 RX10 dC dI cy sq := C0
  have hx := C0.1
  have hb := C0.2.1
  have hl : lv_has ls 3 [(0, .ref a_this), (1, .int 12), (2, .int p1)] := hl
  obtain ⟨O, hO⟩ : ∃ o, o = F_X10_qOpens_a0_12 (Int32.toInt x_bad) (Int32.toInt x_badPlace) (Int32.toInt x_qWaits) (Int32.toInt x_qOpened) (lf_A g_qWait) (Int32.toInt p1) := ⟨_, rfl⟩
  have hq := hO
  unfold F_X10_qOpens_a0_12 at hq
  refine lv_aload_n hx hb dX10_qOpens_0 rfl (lv_at hl 0 rfl) ?_
  refine k_get C0 fg_X10_279 hP 0 rfl rfl dX10_qOpens_1 ?_
  refine lv_if_eq (tgt := 8) hx hb dX10_qOpens_4 rfl (fun c1 => ?_) (fun c1 => ?_)
  · as_aux_lemma =>
      replace hq := lf_pos hq (lf_eq (lf_rf x_bad) (lf_lc 0 (0 : Int) rfl) c1)
      have h2 := ib_eq (ib_any x_bad) (ib_c 0 0 0 rfl) c1
      have h3 : ib x_bad 0 0 := ib_w 0 0 h2.1 rfl
      refine lv_aload_n hx hb dX10_qOpens_8 rfl (lv_at hl 0 rfl) ?_
      refine k_get C0 fg_X10_375 hP 0 rfl rfl dX10_qOpens_9 ?_
      refine lv_bipush (v := 6) hx hb dX10_qOpens_12 rfl ?_
      refine lv_icmp_ne (tgt := 24) hx hb dX10_qOpens_14 rfl (fun c4 => ?_) (fun c4 => ?_)
      · as_aux_lemma =>
          replace hq := lf_neg hq (lf_ne (lf_rf x_qOpened) (lf_lc 6 (6 : Int) rfl) c4)
          refine lv_aload_n hx hb dX10_qOpens_24 rfl (lv_at hl 0 rfl) ?_
          refine lv_dup hx hb dX10_qOpens_25 rfl ?_
          refine k_get C0 fg_X10_375 hP 0 rfl rfl dX10_qOpens_26 ?_
          refine lv_iconst (v := 1) hx hb dX10_qOpens_29 rfl ?_
          refine lv_iadd hx hb dX10_qOpens_30 ?_
          refine lv_topi (fun z5 ez5 => ?_)
          have Ez5 := lf_op lf_iadd ez5 (lf_rf x_qOpened) (lf_lc 1 (1 : Int) rfl)
          refine k_put C0 fp_X10_375 hP hD hS 0 rfl rfl rfl (Nat.le_of_ble_eq_true rfl) dX10_qOpens_31 (fun H locs hP hD hS => ?_)
          replace hP : va_P (dC, dI) vwCl [(a_this, .inr (10, mfs rm x_taped x_at x_end x_ended x_bad x_badPlace x_fault x_faultPlace x_namePlace x_awayTold x_away x_coded x_statements x_isCrossing x_textKind x_askSecond x_redMany x_isOpen x_lastGreen x_greenTo x_isCycleGreen x_stillGreen x_rowMany x_fitMany x_fitRules x_fitGreen x_undoable x_newest x_seeded x_qCoded x_qWaits z5 x_qBase x_qPiled x_qAnswer x_qIsNew x_octets)), (wi_rm112_0_1700_0 rm cy g_qWait)] H := hP
          replace hD := k_D hP hD
          refine lv_aload_n hx hb dX10_qOpens_34 rfl (lv_at hl 0 rfl) ?_
          refine k_get C0 fg_X10_267 hP 0 rfl rfl dX10_qOpens_35 ?_
          refine lv_aload_n hx hb dX10_qOpens_38 rfl (lv_at hl 0 rfl) ?_
          refine k_get C0 fg_X10_372 hP 0 rfl rfl dX10_qOpens_39 ?_
          refine lv_iload_n hx hb dX10_qOpens_42 rfl (lv_at hl 1 rfl) ?_
          refine va_iast hx hb C0.2.2.2.2.2.1 hP hD hS 1 0 rfl rfl (ib_in 1700 hx_qWaits rfl) dX10_qOpens_43 (fun H locs hP hD hS => ?_)
          replace hP : va_P (dC, dI) vwCl [(a_this, .inr (10, mfs rm x_taped x_at x_end x_ended x_bad x_badPlace x_fault x_faultPlace x_namePlace x_awayTold x_away x_coded x_statements x_isCrossing x_textKind x_askSecond x_redMany x_isOpen x_lastGreen x_greenTo x_isCycleGreen x_stillGreen x_rowMany x_fitMany x_fitRules x_fitGreen x_undoable x_newest x_seeded x_qCoded x_qWaits z5 x_qBase x_qPiled x_qAnswer x_qIsNew x_octets)), (wi_rm112_0_1700_0 rm cy (upd g_qWait (Int32.toNatClampNeg x_qWaits) 12))] H := hP
          replace hD := k_D hP hD
          generalize h7E : upd g_qWait (Int32.toNatClampNeg x_qWaits) 12 = f6 at hP hD
          have ef6 := h7E
          have Ef6 := lf_st ef6 (lf_ra g_qWait) (lf_rf x_qWaits) (lf_lc 12 (12 : Int) rfl)
          refine lv_aload_n hx hb dX10_qOpens_44 rfl (lv_at hl 0 rfl) ?_
          refine lv_dup hx hb dX10_qOpens_45 rfl ?_
          refine k_get C0 fg_X10_372 hP 0 rfl rfl dX10_qOpens_46 ?_
          refine lv_iconst (v := 1) hx hb dX10_qOpens_49 rfl ?_
          refine lv_iadd hx hb dX10_qOpens_50 ?_
          refine lv_topi (fun z8 ez8 => ?_)
          have h9 := ib_add hx_qWaits (ib_c 1 1 1 rfl) rfl
          rw [← ez8] at h9
          have h10 : ib z8 1 1700 := ib_w 1 1700 h9.1 rfl
          have Ez8 := lf_add h9.2 (lf_rf x_qWaits) (lf_lc 1 (1 : Int) rfl)
          refine k_put C0 fp_X10_372 hP hD hS 0 rfl rfl rfl (Nat.le_of_ble_eq_true rfl) dX10_qOpens_51 (fun H locs hP hD hS => ?_)
          replace hP : va_P (dC, dI) vwCl [(a_this, .inr (10, mfs rm x_taped x_at x_end x_ended x_bad x_badPlace x_fault x_faultPlace x_namePlace x_awayTold x_away x_coded x_statements x_isCrossing x_textKind x_askSecond x_redMany x_isOpen x_lastGreen x_greenTo x_isCycleGreen x_stillGreen x_rowMany x_fitMany x_fitRules x_fitGreen x_undoable x_newest x_seeded x_qCoded z8 z5 x_qBase x_qPiled x_qAnswer x_qIsNew x_octets)), (wi_rm112_0_1700_0 rm cy f6)] H := hP
          replace hD := k_D hP hD
          subst hQ; exact k_vret hx hb hr hlk ((x_bad, x_badPlace, z8, z5, f6)) hS ⟨ib_w 0 1700 h10 rfl, fun q => q, (by have := h9.2; have : (1 : Int32).toInt = 1 := rfl; omega), (by have := h9.2; have : (1 : Int32).toInt = 1 := rfl; omega), fun _ => ⟨h7E.symm, by have := (hx_qWaits).1; have := (hx_qWaits).2; have := (h10).1; have := (h10).2; have := h9.2; have : (1 : Int32).toInt = 1 := rfl; omega⟩, (hO.symm.trans (by rw [lf_u Ez8]; rw [lf_u Ez5]; rw [lf_ua Ef6]; exact hq))⟩ hP hD (Nat.le_of_ble_eq_true rfl) (Nat.le_of_ble_eq_true rfl) dX10_qOpens_54
      · replace hq := lf_pos hq (lf_eq (lf_rf x_qOpened) (lf_lc 6 (6 : Int) rfl) c4)
        have h11 := ib_eq (ib_any x_qOpened) (ib_c 6 6 6 rfl) c4
        have h12 : ib x_qOpened 6 6 := ib_w 6 6 h11.1 rfl
        refine lv_aload_n hx hb dX10_qOpens_17 rfl (lv_at hl 0 rfl) ?_
        refine lv_iconst (v := 4) hx hb dX10_qOpens_18 rfl ?_
        refine lv_iload_n hx hb dX10_qOpens_19 rfl (lv_at hl 2 rfl) ?_
        refine k_jvm hP hD hS hA [0] [false, true] rfl rfl rfl 0 0 (Nat.le_of_ble_eq_true rfl) (Nat.le_of_ble_eq_true rfl) (fun hPc hDc => k_runV (As := [.int 4, .int p1]) (rest := []) C0 hZ hS hA (s_X10_fail_a0_4_f_bad_0_0 l dC dI cy sq a_this rm x_taped x_at x_end x_ended x_bad x_badPlace x_fault x_faultPlace x_namePlace x_awayTold x_away x_coded x_statements x_isCrossing x_textKind x_askSecond x_redMany x_isOpen x_lastGreen x_greenTo x_isCycleGreen x_stillGreen x_rowMany x_fitMany x_fitRules x_fitGreen x_undoable x_newest x_seeded x_qCoded x_qWaits x_qOpened x_qBase x_qPiled x_qAnswer x_qIsNew x_octets p1 (ib_w 0 0 h3 rfl)) mV_X10_308 hPc hDc rfl rfl rfl hl rfl rfl (Nat.le_of_ble_eq_true rfl) ⟨(Nat.le_of_ble_eq_true rfl), (Nat.le_of_ble_eq_true rfl)⟩ ⟨(Nat.le_of_ble_eq_true rfl), (Nat.le_of_ble_eq_true rfl)⟩ dX10_qOpens_20) (fun u14 H locs hw hP hD hS => ?_)
        try dsimp only at hP hD hw
        replace hP : va_P (dC, dI) vwCl [(wi_rm112_0_1700_0 rm cy g_qWait), (a_this, .inr (10, mfs rm x_taped x_at x_end x_ended 4 p1 x_fault x_faultPlace x_namePlace x_awayTold x_away x_coded x_statements x_isCrossing x_textKind x_askSecond x_redMany x_isOpen x_lastGreen x_greenTo x_isCycleGreen x_stillGreen x_rowMany x_fitMany x_fitRules x_fitGreen x_undoable x_newest x_seeded x_qCoded x_qWaits x_qOpened x_qBase x_qPiled x_qAnswer x_qIsNew x_octets))] H := hP
        replace hD := k_D hP hD
        subst hQ; exact k_vret hx hb hr hlk ((4, p1, x_qWaits, x_qOpened, g_qWait)) hS ⟨ib_w 0 1700 hx_qWaits rfl, fun q => absurd q (by decide), (by omega), (by omega), fun q => absurd q (by decide), (hO.symm.trans (by try simp only [show (4 : Int32).toInt = (4 : Int) from rfl]; exact hq))⟩ (hP.sub [1, 0] rfl) (hD.sub [1, 0] rfl rfl) (Nat.le_of_ble_eq_true rfl) (Nat.le_of_ble_eq_true rfl) dX10_qOpens_23
  · replace hq := lf_neg hq (lf_ne (lf_rf x_bad) (lf_lc 0 (0 : Int) rfl) c1)
    subst hQ; exact k_vret hx hb hr hlk ((x_bad, x_badPlace, x_qWaits, x_qOpened, g_qWait)) hS ⟨ib_w 0 1700 hx_qWaits rfl, fun q => q, (by omega), (by omega), fun q => absurd q c1, (hO.symm.trans (by exact hq))⟩ hP hD (Nat.le_of_ble_eq_true rfl) (Nat.le_of_ble_eq_true rfl) dX10_qOpens_7
set_option maxHeartbeats 4000000 in
set_option maxRecDepth 100000 in
theorem s_X10_qOpens_a0_25 (l : Launch) (dC : Nat → ClassId) (dI : Nat → Nat → Nat) (cy : Nat → ClassId) (sq : Nat → Nat) (a_this : Nat) (rm : Nat → Nat) (x_taped : Int32) (x_at : Int32) (x_end : Int32) (x_ended : Int32) (x_bad : Int32) (x_badPlace : Int32) (x_fault : Int32) (x_faultPlace : Int32) (x_namePlace : Int32) (x_awayTold : Int32) (x_away : Int32) (x_coded : Int32) (x_statements : Int32) (x_isCrossing : Int32) (x_textKind : Int32) (x_askSecond : Int32) (x_redMany : Int32) (x_isOpen : Int32) (x_lastGreen : Int32) (x_greenTo : Int32) (x_isCycleGreen : Int32) (x_stillGreen : Int32) (x_rowMany : Int32) (x_fitMany : Int32) (x_fitRules : Int32) (x_fitGreen : Int32) (x_undoable : Int32) (x_newest : Int32) (x_seeded : Int64) (x_qCoded : Int32) (x_qWaits : Int32) (x_qOpened : Int32) (x_qBase : Int32) (x_qPiled : Int32) (x_qAnswer : Int64) (x_qIsNew : Int32) (x_octets : Int32) (g_qWait : Nat → Int32) (p1 : Int32) (hx_qWaits : ib x_qWaits 0 1699) : k_Met l yX10_qOpens cX10_qOpens 3 none { frames := 1, cells := 0, slots := 0, locals := 22 } dC dI cy sq [.ref a_this, .int 25, .int p1] [(a_this, .inr (10, mfs rm x_taped x_at x_end x_ended x_bad x_badPlace x_fault x_faultPlace x_namePlace x_awayTold x_away x_coded x_statements x_isCrossing x_textKind x_askSecond x_redMany x_isOpen x_lastGreen x_greenTo x_isCycleGreen x_stillGreen x_rowMany x_fitMany x_fitRules x_fitGreen x_undoable x_newest x_seeded x_qCoded x_qWaits x_qOpened x_qBase x_qPiled x_qAnswer x_qIsNew x_octets)), (wi_rm112_0_1700_0 rm cy g_qWait)] (k_Qv dC dI (fun (u : Int32 × Int32 × Int32 × Int32 × (Nat → Int32)) => match u with | (n0, n1, n2, n3, n4) => ib n2 0 1700 ∧ (n0 = 0 → x_bad = 0) ∧ (1 * n2.toInt + (-1) * x_qWaits.toInt ≤ 1) ∧ (1 * x_qWaits.toInt + (-1) * n2.toInt ≤ 0) ∧ (n0 = 0 → n4 = upd g_qWait (Int32.toNatClampNeg x_qWaits) 25 ∧ n2.toInt = x_qWaits.toInt + 1) ∧ (F_X10_qOpens_a0_25 (Int32.toInt x_bad) (Int32.toInt x_badPlace) (Int32.toInt x_qWaits) (Int32.toInt x_qOpened) (lf_A g_qWait) (Int32.toInt p1) = ((Int32.toInt n0), (Int32.toInt n1), (Int32.toInt n2), (Int32.toInt n3), (lf_A n4)))) (fun u : Int32 × Int32 × Int32 × Int32 × (Nat → Int32) => match u with | (n0, n1, n2, n3, n4) => [(a_this, .inr (10, mfs rm x_taped x_at x_end x_ended n0 n1 x_fault x_faultPlace x_namePlace x_awayTold x_away x_coded x_statements x_isCrossing x_textKind x_askSecond x_redMany x_isOpen x_lastGreen x_greenTo x_isCycleGreen x_stillGreen x_rowMany x_fitMany x_fitRules x_fitGreen x_undoable x_newest x_seeded x_qCoded n2 n3 x_qBase x_qPiled x_qAnswer x_qIsNew x_octets)), (wi_rm112_0_1700_0 rm cy n4)])) := by
  refine k_ofW2 (by decide +kernel) (Nat.le_of_ble_eq_true rfl) ?_
  intro p e s m below meth c A ls H locs args Q hQ C0 hZ hr hlk hin hP hD hA hS hl
  have C0 : k_cx p s m args c cX10_qOpens 3 RX10 dC dI cy sq := C0
  have hx := C0.1
  have hb := C0.2.1
  have hl : lv_has ls 3 [(0, .ref a_this), (1, .int 25), (2, .int p1)] := hl
  obtain ⟨O, hO⟩ : ∃ o, o = F_X10_qOpens_a0_25 (Int32.toInt x_bad) (Int32.toInt x_badPlace) (Int32.toInt x_qWaits) (Int32.toInt x_qOpened) (lf_A g_qWait) (Int32.toInt p1) := ⟨_, rfl⟩
  have hq := hO
  unfold F_X10_qOpens_a0_25 at hq
  refine lv_aload_n hx hb dX10_qOpens_0 rfl (lv_at hl 0 rfl) ?_
  refine k_get C0 fg_X10_279 hP 0 rfl rfl dX10_qOpens_1 ?_
  refine lv_if_eq (tgt := 8) hx hb dX10_qOpens_4 rfl (fun c1 => ?_) (fun c1 => ?_)
  · as_aux_lemma =>
      replace hq := lf_pos hq (lf_eq (lf_rf x_bad) (lf_lc 0 (0 : Int) rfl) c1)
      have h2 := ib_eq (ib_any x_bad) (ib_c 0 0 0 rfl) c1
      have h3 : ib x_bad 0 0 := ib_w 0 0 h2.1 rfl
      refine lv_aload_n hx hb dX10_qOpens_8 rfl (lv_at hl 0 rfl) ?_
      refine k_get C0 fg_X10_375 hP 0 rfl rfl dX10_qOpens_9 ?_
      refine lv_bipush (v := 6) hx hb dX10_qOpens_12 rfl ?_
      refine lv_icmp_ne (tgt := 24) hx hb dX10_qOpens_14 rfl (fun c4 => ?_) (fun c4 => ?_)
      · as_aux_lemma =>
          replace hq := lf_neg hq (lf_ne (lf_rf x_qOpened) (lf_lc 6 (6 : Int) rfl) c4)
          refine lv_aload_n hx hb dX10_qOpens_24 rfl (lv_at hl 0 rfl) ?_
          refine lv_dup hx hb dX10_qOpens_25 rfl ?_
          refine k_get C0 fg_X10_375 hP 0 rfl rfl dX10_qOpens_26 ?_
          refine lv_iconst (v := 1) hx hb dX10_qOpens_29 rfl ?_
          refine lv_iadd hx hb dX10_qOpens_30 ?_
          refine lv_topi (fun z5 ez5 => ?_)
          have Ez5 := lf_op lf_iadd ez5 (lf_rf x_qOpened) (lf_lc 1 (1 : Int) rfl)
          refine k_put C0 fp_X10_375 hP hD hS 0 rfl rfl rfl (Nat.le_of_ble_eq_true rfl) dX10_qOpens_31 (fun H locs hP hD hS => ?_)
          replace hP : va_P (dC, dI) vwCl [(a_this, .inr (10, mfs rm x_taped x_at x_end x_ended x_bad x_badPlace x_fault x_faultPlace x_namePlace x_awayTold x_away x_coded x_statements x_isCrossing x_textKind x_askSecond x_redMany x_isOpen x_lastGreen x_greenTo x_isCycleGreen x_stillGreen x_rowMany x_fitMany x_fitRules x_fitGreen x_undoable x_newest x_seeded x_qCoded x_qWaits z5 x_qBase x_qPiled x_qAnswer x_qIsNew x_octets)), (wi_rm112_0_1700_0 rm cy g_qWait)] H := hP
          replace hD := k_D hP hD
          refine lv_aload_n hx hb dX10_qOpens_34 rfl (lv_at hl 0 rfl) ?_
          refine k_get C0 fg_X10_267 hP 0 rfl rfl dX10_qOpens_35 ?_
          refine lv_aload_n hx hb dX10_qOpens_38 rfl (lv_at hl 0 rfl) ?_
          refine k_get C0 fg_X10_372 hP 0 rfl rfl dX10_qOpens_39 ?_
          refine lv_iload_n hx hb dX10_qOpens_42 rfl (lv_at hl 1 rfl) ?_
          refine va_iast hx hb C0.2.2.2.2.2.1 hP hD hS 1 0 rfl rfl (ib_in 1700 hx_qWaits rfl) dX10_qOpens_43 (fun H locs hP hD hS => ?_)
          replace hP : va_P (dC, dI) vwCl [(a_this, .inr (10, mfs rm x_taped x_at x_end x_ended x_bad x_badPlace x_fault x_faultPlace x_namePlace x_awayTold x_away x_coded x_statements x_isCrossing x_textKind x_askSecond x_redMany x_isOpen x_lastGreen x_greenTo x_isCycleGreen x_stillGreen x_rowMany x_fitMany x_fitRules x_fitGreen x_undoable x_newest x_seeded x_qCoded x_qWaits z5 x_qBase x_qPiled x_qAnswer x_qIsNew x_octets)), (wi_rm112_0_1700_0 rm cy (upd g_qWait (Int32.toNatClampNeg x_qWaits) 25))] H := hP
          replace hD := k_D hP hD
          generalize h7E : upd g_qWait (Int32.toNatClampNeg x_qWaits) 25 = f6 at hP hD
          have ef6 := h7E
          have Ef6 := lf_st ef6 (lf_ra g_qWait) (lf_rf x_qWaits) (lf_lc 25 (25 : Int) rfl)
          refine lv_aload_n hx hb dX10_qOpens_44 rfl (lv_at hl 0 rfl) ?_
          refine lv_dup hx hb dX10_qOpens_45 rfl ?_
          refine k_get C0 fg_X10_372 hP 0 rfl rfl dX10_qOpens_46 ?_
          refine lv_iconst (v := 1) hx hb dX10_qOpens_49 rfl ?_
          refine lv_iadd hx hb dX10_qOpens_50 ?_
          refine lv_topi (fun z8 ez8 => ?_)
          have h9 := ib_add hx_qWaits (ib_c 1 1 1 rfl) rfl
          rw [← ez8] at h9
          have h10 : ib z8 1 1700 := ib_w 1 1700 h9.1 rfl
          have Ez8 := lf_add h9.2 (lf_rf x_qWaits) (lf_lc 1 (1 : Int) rfl)
          refine k_put C0 fp_X10_372 hP hD hS 0 rfl rfl rfl (Nat.le_of_ble_eq_true rfl) dX10_qOpens_51 (fun H locs hP hD hS => ?_)
          replace hP : va_P (dC, dI) vwCl [(a_this, .inr (10, mfs rm x_taped x_at x_end x_ended x_bad x_badPlace x_fault x_faultPlace x_namePlace x_awayTold x_away x_coded x_statements x_isCrossing x_textKind x_askSecond x_redMany x_isOpen x_lastGreen x_greenTo x_isCycleGreen x_stillGreen x_rowMany x_fitMany x_fitRules x_fitGreen x_undoable x_newest x_seeded x_qCoded z8 z5 x_qBase x_qPiled x_qAnswer x_qIsNew x_octets)), (wi_rm112_0_1700_0 rm cy f6)] H := hP
          replace hD := k_D hP hD
          subst hQ; exact k_vret hx hb hr hlk ((x_bad, x_badPlace, z8, z5, f6)) hS ⟨ib_w 0 1700 h10 rfl, fun q => q, (by have := h9.2; have : (1 : Int32).toInt = 1 := rfl; omega), (by have := h9.2; have : (1 : Int32).toInt = 1 := rfl; omega), fun _ => ⟨h7E.symm, by have := (hx_qWaits).1; have := (hx_qWaits).2; have := (h10).1; have := (h10).2; have := h9.2; have : (1 : Int32).toInt = 1 := rfl; omega⟩, (hO.symm.trans (by rw [lf_u Ez8]; rw [lf_u Ez5]; rw [lf_ua Ef6]; exact hq))⟩ hP hD (Nat.le_of_ble_eq_true rfl) (Nat.le_of_ble_eq_true rfl) dX10_qOpens_54
      · replace hq := lf_pos hq (lf_eq (lf_rf x_qOpened) (lf_lc 6 (6 : Int) rfl) c4)
        have h11 := ib_eq (ib_any x_qOpened) (ib_c 6 6 6 rfl) c4
        have h12 : ib x_qOpened 6 6 := ib_w 6 6 h11.1 rfl
        refine lv_aload_n hx hb dX10_qOpens_17 rfl (lv_at hl 0 rfl) ?_
        refine lv_iconst (v := 4) hx hb dX10_qOpens_18 rfl ?_
        refine lv_iload_n hx hb dX10_qOpens_19 rfl (lv_at hl 2 rfl) ?_
        refine k_jvm hP hD hS hA [0] [false, true] rfl rfl rfl 0 0 (Nat.le_of_ble_eq_true rfl) (Nat.le_of_ble_eq_true rfl) (fun hPc hDc => k_runV (As := [.int 4, .int p1]) (rest := []) C0 hZ hS hA (s_X10_fail_a0_4_f_bad_0_0 l dC dI cy sq a_this rm x_taped x_at x_end x_ended x_bad x_badPlace x_fault x_faultPlace x_namePlace x_awayTold x_away x_coded x_statements x_isCrossing x_textKind x_askSecond x_redMany x_isOpen x_lastGreen x_greenTo x_isCycleGreen x_stillGreen x_rowMany x_fitMany x_fitRules x_fitGreen x_undoable x_newest x_seeded x_qCoded x_qWaits x_qOpened x_qBase x_qPiled x_qAnswer x_qIsNew x_octets p1 (ib_w 0 0 h3 rfl)) mV_X10_308 hPc hDc rfl rfl rfl hl rfl rfl (Nat.le_of_ble_eq_true rfl) ⟨(Nat.le_of_ble_eq_true rfl), (Nat.le_of_ble_eq_true rfl)⟩ ⟨(Nat.le_of_ble_eq_true rfl), (Nat.le_of_ble_eq_true rfl)⟩ dX10_qOpens_20) (fun u14 H locs hw hP hD hS => ?_)
        try dsimp only at hP hD hw
        replace hP : va_P (dC, dI) vwCl [(wi_rm112_0_1700_0 rm cy g_qWait), (a_this, .inr (10, mfs rm x_taped x_at x_end x_ended 4 p1 x_fault x_faultPlace x_namePlace x_awayTold x_away x_coded x_statements x_isCrossing x_textKind x_askSecond x_redMany x_isOpen x_lastGreen x_greenTo x_isCycleGreen x_stillGreen x_rowMany x_fitMany x_fitRules x_fitGreen x_undoable x_newest x_seeded x_qCoded x_qWaits x_qOpened x_qBase x_qPiled x_qAnswer x_qIsNew x_octets))] H := hP
        replace hD := k_D hP hD
        subst hQ; exact k_vret hx hb hr hlk ((4, p1, x_qWaits, x_qOpened, g_qWait)) hS ⟨ib_w 0 1700 hx_qWaits rfl, fun q => absurd q (by decide), (by omega), (by omega), fun q => absurd q (by decide), (hO.symm.trans (by try simp only [show (4 : Int32).toInt = (4 : Int) from rfl]; exact hq))⟩ (hP.sub [1, 0] rfl) (hD.sub [1, 0] rfl rfl) (Nat.le_of_ble_eq_true rfl) (Nat.le_of_ble_eq_true rfl) dX10_qOpens_23
  · replace hq := lf_neg hq (lf_ne (lf_rf x_bad) (lf_lc 0 (0 : Int) rfl) c1)
    subst hQ; exact k_vret hx hb hr hlk ((x_bad, x_badPlace, x_qWaits, x_qOpened, g_qWait)) hS ⟨ib_w 0 1700 hx_qWaits rfl, fun q => q, (by omega), (by omega), fun q => absurd q c1, (hO.symm.trans (by exact hq))⟩ hP hD (Nat.le_of_ble_eq_true rfl) (Nat.le_of_ble_eq_true rfl) dX10_qOpens_7
set_option maxHeartbeats 4000000 in
set_option maxRecDepth 100000 in
theorem s_X10_qTest (l : Launch) (dC : Nat → ClassId) (dI : Nat → Nat → Nat) (cy : Nat → ClassId) (sq : Nat → Nat) (a_this : Nat) (rm : Nat → Nat) (x_taped : Int32) (x_at : Int32) (x_end : Int32) (x_ended : Int32) (x_bad : Int32) (x_badPlace : Int32) (x_fault : Int32) (x_faultPlace : Int32) (x_namePlace : Int32) (x_awayTold : Int32) (x_away : Int32) (x_coded : Int32) (x_statements : Int32) (x_isCrossing : Int32) (x_textKind : Int32) (x_askSecond : Int32) (x_redMany : Int32) (x_isOpen : Int32) (x_lastGreen : Int32) (x_greenTo : Int32) (x_isCycleGreen : Int32) (x_stillGreen : Int32) (x_rowMany : Int32) (x_fitMany : Int32) (x_fitRules : Int32) (x_fitGreen : Int32) (x_undoable : Int32) (x_newest : Int32) (x_seeded : Int64) (x_qCoded : Int32) (x_qWaits : Int32) (x_qOpened : Int32) (x_qBase : Int32) (x_qPiled : Int32) (x_qAnswer : Int64) (x_qIsNew : Int32) (x_octets : Int32) (g_tape : Nat → Int32) (g_notAsked : Nat → Int32) (g_andAsked : Nat → Int32) (g_orAsked : Nat → Int32) (g_allAsked : Nat → Int32) (g_minAsked : Nat → Int32) (g_maxAsked : Nat → Int32) (g_secondAsked : Nat → Int32) (g_dayAsked : Nat → Int32) (g_phaseAsked : Nat → Int32) (g_waitedAsked : Nat → Int32) (g_calmAsked : Nat → Int32) (g_paceAsked : Nat → Int32) (g_trustsAsked : Nat → Int32) (g_gapAsked : Nat → Int32) (g_redsAsked : Nat → Int32) (g_numberAsked : Nat → Int32) (g_wentAsked : Nat → Int32) (g_harmAsked : Nat → Int32) (g_kindofAsked : Nat → Int32) (g_qCodes : Nat → Int32) (g_qWait : Nat → Int32) (cc : Nat) (hx_at : ib x_at 0 1600) (hx_end : ib x_end 0 1600) (hx_bad : ib x_bad 0 0) (hx_qCoded : ib x_qCoded 0 1700) (hx_qWaits : ib x_qWaits 0 1700) (hg_tape : ia g_tape 1600 0 255) (hL0 : 1 * x_qCoded.toInt + 1 * x_qWaits.toInt + (-1) * x_at.toInt ≤ 20) (hGS : x_bad = 0 → GS g_qCodes x_qCoded g_qWait x_qWaits x_qWaits x_textKind cc) : k_Met l yX10_qTest cX10_qTest 3 none { frames := 8, cells := 0, slots := 0, locals := 174 } dC dI cy sq [.ref a_this] [(a_this, .inr (10, mfs rm x_taped x_at x_end x_ended x_bad x_badPlace x_fault x_faultPlace x_namePlace x_awayTold x_away x_coded x_statements x_isCrossing x_textKind x_askSecond x_redMany x_isOpen x_lastGreen x_greenTo x_isCycleGreen x_stillGreen x_rowMany x_fitMany x_fitRules x_fitGreen x_undoable x_newest x_seeded x_qCoded x_qWaits x_qOpened x_qBase x_qPiled x_qAnswer x_qIsNew x_octets)), (wi_rm0_0_1600_0 rm cy g_tape), (wi_rm91_2_3_0 rm cy g_notAsked), (wi_rm94_2_3_0 rm cy g_allAsked), (wi_rm97_2_6_0 rm cy g_secondAsked), (wi_rm98_2_3_0 rm cy g_dayAsked), (wi_rm99_2_5_0 rm cy g_phaseAsked), (wi_rm100_2_6_0 rm cy g_waitedAsked), (wi_rm101_2_4_0 rm cy g_calmAsked), (wi_rm102_2_4_0 rm cy g_paceAsked), (wi_rm103_2_6_0 rm cy g_trustsAsked), (wi_rm104_2_3_0 rm cy g_gapAsked), (wi_rm105_2_4_0 rm cy g_redsAsked), (wi_rm106_2_6_0 rm cy g_numberAsked), (wi_rm107_2_4_0 rm cy g_wentAsked), (wi_rm108_2_4_0 rm cy g_harmAsked), (wi_rm109_2_4_0 rm cy g_kindofAsked), (wi_rm95_2_3_0 rm cy g_minAsked), (wi_rm112_0_1700_0 rm cy g_qWait), (wi_rm96_2_3_0 rm cy g_maxAsked), (wi_rm110_0_1700_0 rm cy g_qCodes), (wi_rm92_2_3_0 rm cy g_andAsked), (wi_rm93_2_2_0 rm cy g_orAsked)] (k_Qv dC dI (fun (u : Int32 × Int32 × Int32 × Int32 × Int32 × Int32 × Int32 × (Nat → Int32) × (Nat → Int32)) => match u with | (n0, n1, n2, n3, n4, n5, n6, n7, n8) => ib n0 0 1600 ∧ ib n4 0 1625 ∧ ib n5 0 1625 ∧ (n2 = 0 → x_bad = 0) ∧ (1 * n4.toInt + 1 * n5.toInt + (-1) * n0.toInt + (-1) * x_qCoded.toInt + (-1) * x_qWaits.toInt + 1 * x_at.toInt ≤ 5) ∧ (n2 = 0 → 1 * n4.toInt + 1 * n5.toInt + (-1) * n0.toInt + (-1) * x_qCoded.toInt + (-1) * x_qWaits.toInt + 1 * x_at.toInt ≤ 0) ∧ (1 * x_at.toInt + (-1) * n0.toInt ≤ 0) ∧ (n2 = 0 → 1 * n5.toInt ≤ 0) ∧ (n2 = 0 → GS n8 n4 n7 n5 n5 x_textKind (cc + 1)) ∧ (F_X10_qTest (Int32.toInt x_at) (Int32.toInt x_end) (Int32.toInt x_ended) (Int32.toInt x_bad) (Int32.toInt x_badPlace) (Int32.toInt x_textKind) (Int32.toInt x_qCoded) (Int32.toInt x_qWaits) (Int32.toInt x_qOpened) (lf_A g_tape) (lf_A g_notAsked) (lf_A g_andAsked) (lf_A g_orAsked) (lf_A g_allAsked) (lf_A g_minAsked) (lf_A g_maxAsked) (lf_A g_secondAsked) (lf_A g_dayAsked) (lf_A g_phaseAsked) (lf_A g_waitedAsked) (lf_A g_calmAsked) (lf_A g_paceAsked) (lf_A g_trustsAsked) (lf_A g_gapAsked) (lf_A g_redsAsked) (lf_A g_numberAsked) (lf_A g_wentAsked) (lf_A g_harmAsked) (lf_A g_kindofAsked) (lf_A g_qCodes) (lf_A g_qWait) = ((Int32.toInt n0), (Int32.toInt n1), (Int32.toInt n2), (Int32.toInt n3), (Int32.toInt n4), (Int32.toInt n5), (Int32.toInt n6), (lf_A n7), (lf_A n8)))) (fun u : Int32 × Int32 × Int32 × Int32 × Int32 × Int32 × Int32 × (Nat → Int32) × (Nat → Int32) => match u with | (n0, n1, n2, n3, n4, n5, n6, n7, n8) => [(a_this, .inr (10, mfs rm x_taped n0 x_end n1 n2 n3 x_fault x_faultPlace x_namePlace x_awayTold x_away x_coded x_statements x_isCrossing x_textKind x_askSecond x_redMany x_isOpen x_lastGreen x_greenTo x_isCycleGreen x_stillGreen x_rowMany x_fitMany x_fitRules x_fitGreen x_undoable x_newest x_seeded n4 n5 n6 x_qBase x_qPiled x_qAnswer x_qIsNew x_octets)), (wi_rm0_0_1600_0 rm cy g_tape), (wi_rm91_2_3_0 rm cy g_notAsked), (wi_rm94_2_3_0 rm cy g_allAsked), (wi_rm97_2_6_0 rm cy g_secondAsked), (wi_rm98_2_3_0 rm cy g_dayAsked), (wi_rm99_2_5_0 rm cy g_phaseAsked), (wi_rm100_2_6_0 rm cy g_waitedAsked), (wi_rm101_2_4_0 rm cy g_calmAsked), (wi_rm102_2_4_0 rm cy g_paceAsked), (wi_rm103_2_6_0 rm cy g_trustsAsked), (wi_rm104_2_3_0 rm cy g_gapAsked), (wi_rm105_2_4_0 rm cy g_redsAsked), (wi_rm106_2_6_0 rm cy g_numberAsked), (wi_rm107_2_4_0 rm cy g_wentAsked), (wi_rm108_2_4_0 rm cy g_harmAsked), (wi_rm109_2_4_0 rm cy g_kindofAsked), (wi_rm95_2_3_0 rm cy g_minAsked), (wi_rm112_0_1700_0 rm cy n7), (wi_rm96_2_3_0 rm cy g_maxAsked), (wi_rm110_0_1700_0 rm cy n8), (wi_rm92_2_3_0 rm cy g_andAsked), (wi_rm93_2_2_0 rm cy g_orAsked)])) := by
  refine k_ofW2 (by decide +kernel) (Nat.le_of_ble_eq_true rfl) ?_
  intro p e s m below meth c A ls H locs args Q hQ C0 hZ hr hlk hin hP hD hA hS hl
  have C0 : k_cx p s m args c cX10_qTest 3 RX10 dC dI cy sq := C0
  have hx := C0.1
  have hb := C0.2.1
  have hl : lv_has ls 3 [(0, .ref a_this)] := hl
  obtain ⟨O, hO⟩ : ∃ o, o = F_X10_qTest (Int32.toInt x_at) (Int32.toInt x_end) (Int32.toInt x_ended) (Int32.toInt x_bad) (Int32.toInt x_badPlace) (Int32.toInt x_textKind) (Int32.toInt x_qCoded) (Int32.toInt x_qWaits) (Int32.toInt x_qOpened) (lf_A g_tape) (lf_A g_notAsked) (lf_A g_andAsked) (lf_A g_orAsked) (lf_A g_allAsked) (lf_A g_minAsked) (lf_A g_maxAsked) (lf_A g_secondAsked) (lf_A g_dayAsked) (lf_A g_phaseAsked) (lf_A g_waitedAsked) (lf_A g_calmAsked) (lf_A g_paceAsked) (lf_A g_trustsAsked) (lf_A g_gapAsked) (lf_A g_redsAsked) (lf_A g_numberAsked) (lf_A g_wentAsked) (lf_A g_harmAsked) (lf_A g_kindofAsked) (lf_A g_qCodes) (lf_A g_qWait) := ⟨_, rfl⟩
  have hq := hO
  unfold F_X10_qTest at hq
  have jn110 : ∀ (n : Nat) (J110_l1 : Int32) (J110_c0_2 : Int32) (J110_c0_4 : Int32) (J110_c0_5 : Int32) (J110_c0_6 : Int32) (J110_c0_111 : Int32) (J110_c0_113 : Int32) (J110_c0_114 : Int32) (J110_a18 : Nat → Int32) (J110_a20 : Nat → Int32) (H : Heap) (locs : List Loc) (ls : Array Slot), ib J110_l1 0 1 → ib J110_c0_2 0 1600 → ib J110_c0_111 0 1625 → ib J110_c0_113 0 1625 → (1 * J110_c0_111.toInt + 1 * J110_c0_113.toInt + (-1) * J110_c0_2.toInt + (-1) * x_qCoded.toInt + (-1) * x_qWaits.toInt + 1 * x_at.toInt ≤ 5) → (1 * J110_c0_111.toInt + 1 * J110_c0_113.toInt + (-1) * J110_c0_2.toInt ≤ 25) → (1 * x_at.toInt + (-1) * J110_c0_2.toInt ≤ 0) → (J110_c0_5 = 0 → x_bad = 0) → ((J110_c0_5 = 0 → GS J110_a20 J110_c0_111 J110_a18 J110_c0_113 J110_c0_113 x_textKind (cc + 1) ∧ (∀ i : Nat, i < J110_c0_113.toInt.toNat → ¬ J110_a18 i = 25)) ∧ (J110_c0_5 = 0 → 1 * J110_c0_111.toInt + 1 * J110_c0_113.toInt + (-1) * J110_c0_2.toInt + (-1) * x_qCoded.toInt + (-1) * x_qWaits.toInt + 1 * x_at.toInt ≤ 0)) → (O = F_X10_qTest_110 n (Int32.toInt J110_l1) (Int32.toInt J110_c0_2) (Int32.toInt J110_c0_4) (Int32.toInt J110_c0_5) (Int32.toInt J110_c0_6) (Int32.toInt J110_c0_111) (Int32.toInt J110_c0_113) (Int32.toInt J110_c0_114) (lf_A J110_a18) (lf_A J110_a20)) → 1626 ≤ J110_c0_111.toInt + (n : Int) → va_P (dC, dI) vwCl [(a_this, .inr (10, mfs rm x_taped J110_c0_2 x_end J110_c0_4 J110_c0_5 J110_c0_6 x_fault x_faultPlace x_namePlace x_awayTold x_away x_coded x_statements x_isCrossing x_textKind x_askSecond x_redMany x_isOpen x_lastGreen x_greenTo x_isCycleGreen x_stillGreen x_rowMany x_fitMany x_fitRules x_fitGreen x_undoable x_newest x_seeded J110_c0_111 J110_c0_113 J110_c0_114 x_qBase x_qPiled x_qAnswer x_qIsNew x_octets)), (wi_rm0_0_1600_0 rm cy g_tape), (wi_rm91_2_3_0 rm cy g_notAsked), (wi_rm94_2_3_0 rm cy g_allAsked), (wi_rm97_2_6_0 rm cy g_secondAsked), (wi_rm98_2_3_0 rm cy g_dayAsked), (wi_rm99_2_5_0 rm cy g_phaseAsked), (wi_rm100_2_6_0 rm cy g_waitedAsked), (wi_rm101_2_4_0 rm cy g_calmAsked), (wi_rm102_2_4_0 rm cy g_paceAsked), (wi_rm103_2_6_0 rm cy g_trustsAsked), (wi_rm104_2_3_0 rm cy g_gapAsked), (wi_rm105_2_4_0 rm cy g_redsAsked), (wi_rm106_2_6_0 rm cy g_numberAsked), (wi_rm107_2_4_0 rm cy g_wentAsked), (wi_rm108_2_4_0 rm cy g_harmAsked), (wi_rm109_2_4_0 rm cy g_kindofAsked), (wi_rm95_2_3_0 rm cy g_minAsked), (wi_rm112_0_1700_0 rm cy J110_a18), (wi_rm96_2_3_0 rm cy g_maxAsked), (wi_rm110_0_1700_0 rm cy J110_a20), (wi_rm92_2_3_0 rm cy g_andAsked), (wi_rm93_2_2_0 rm cy g_orAsked)] H → va_D A [(a_this, .inr (10, mfs rm x_taped J110_c0_2 x_end J110_c0_4 J110_c0_5 J110_c0_6 x_fault x_faultPlace x_namePlace x_awayTold x_away x_coded x_statements x_isCrossing x_textKind x_askSecond x_redMany x_isOpen x_lastGreen x_greenTo x_isCycleGreen x_stillGreen x_rowMany x_fitMany x_fitRules x_fitGreen x_undoable x_newest x_seeded J110_c0_111 J110_c0_113 J110_c0_114 x_qBase x_qPiled x_qAnswer x_qIsNew x_octets)), (wi_rm0_0_1600_0 rm cy g_tape), (wi_rm91_2_3_0 rm cy g_notAsked), (wi_rm94_2_3_0 rm cy g_allAsked), (wi_rm97_2_6_0 rm cy g_secondAsked), (wi_rm98_2_3_0 rm cy g_dayAsked), (wi_rm99_2_5_0 rm cy g_phaseAsked), (wi_rm100_2_6_0 rm cy g_waitedAsked), (wi_rm101_2_4_0 rm cy g_calmAsked), (wi_rm102_2_4_0 rm cy g_paceAsked), (wi_rm103_2_6_0 rm cy g_trustsAsked), (wi_rm104_2_3_0 rm cy g_gapAsked), (wi_rm105_2_4_0 rm cy g_redsAsked), (wi_rm106_2_6_0 rm cy g_numberAsked), (wi_rm107_2_4_0 rm cy g_wentAsked), (wi_rm108_2_4_0 rm cy g_harmAsked), (wi_rm109_2_4_0 rm cy g_kindofAsked), (wi_rm95_2_3_0 rm cy g_minAsked), (wi_rm112_0_1700_0 rm cy J110_a18), (wi_rm96_2_3_0 rm cy g_maxAsked), (wi_rm110_0_1700_0 rm cy J110_a20), (wi_rm92_2_3_0 rm cy g_andAsked), (wi_rm93_2_2_0 rm cy g_orAsked)] → va_S A s.heap H locs → lv_has ls 3 [(0, .ref a_this), (1, .int J110_l1)] → W p l e { frames := 8, cells := 0, slots := 0, locals := 174 } s m args below meth c H locs 0 0 Q (F0 m 110 ls []) := by
    as_aux_lemma =>
      intro n
      induction n with
      | zero =>
        intro J110_l1 J110_c0_2 J110_c0_4 J110_c0_5 J110_c0_6 J110_c0_111 J110_c0_113 J110_c0_114 J110_a18 J110_a20 H locs ls hJ110_l1 hJ110_c0_2 hJ110_c0_111 hJ110_c0_113 hJ110_lin0 hJ110_lin1 hJ110_lin2 hJ110_zm hJ110_go hq hm
        exact absurd hm (by have := hJ110_c0_111; unfold ib at this; omega)
      | succ n ih =>
        intro J110_l1 J110_c0_2 J110_c0_4 J110_c0_5 J110_c0_6 J110_c0_111 J110_c0_113 J110_c0_114 J110_a18 J110_a20 H locs ls hJ110_l1 hJ110_c0_2 hJ110_c0_111 hJ110_c0_113 hJ110_lin0 hJ110_lin1 hJ110_lin2 hJ110_zm hJ110_go hq hm110 hP hD hS hl
        have ih110 := ih
        obtain ⟨K110, hK110⟩ : ∃ K, K = F_X10_qTest_110 n := ⟨_, rfl⟩
        have hq : O = F_X10_qTest_110b K110 (Int32.toInt J110_l1) (Int32.toInt J110_c0_2) (Int32.toInt J110_c0_4) (Int32.toInt J110_c0_5) (Int32.toInt J110_c0_6) (Int32.toInt J110_c0_111) (Int32.toInt J110_c0_113) (Int32.toInt J110_c0_114) (lf_A J110_a18) (lf_A J110_a20) := by rw [hK110]; exact hq
        unfold F_X10_qTest_110b at hq
        refine lv_aload_n hx hb dX10_qTest_110 rfl (lv_at hl 0 rfl) ?_
        refine k_get C0 fg_X10_279 hP 0 rfl rfl dX10_qTest_111 ?_
        refine lv_if_ne (tgt := 131) hx hb dX10_qTest_114 rfl (fun c1 => ?_) (fun c1 => ?_)
        · replace hq := lf_neg hq (lf_ne (lf_rf J110_c0_5) (lf_lc 0 (0 : Int) rfl) c1)
          have h2 : ib x_qCoded 0 1620 := ⟨(hx_qCoded).1, by have := (hx_qCoded).2; have := hL0; have := (hx_at).2; have := (hx_qWaits).1; omega⟩
          have h3 : ib x_qWaits 0 1620 := ⟨(hx_qWaits).1, by have := (hx_qWaits).2; have := hL0; have := (hx_at).2; have := (h2).1; omega⟩
          subst hQ; exact k_vret hx hb hr hlk ((J110_c0_2, J110_c0_4, J110_c0_5, J110_c0_6, J110_c0_111, J110_c0_113, J110_c0_114, J110_a18, J110_a20)) hS ⟨ib_w 0 1600 hJ110_c0_2 rfl, ib_w 0 1625 hJ110_c0_111 rfl, ib_w 0 1625 hJ110_c0_113 rfl, fun _ => ib_one hx_bad rfl, (by have := hJ110_lin0; omega), fun q => absurd q c1, (by have := hJ110_lin2; omega), fun q => absurd q c1, fun q => absurd q c1, (hO.symm.trans (by exact hq))⟩ hP hD (Nat.le_of_ble_eq_true rfl) (Nat.le_of_ble_eq_true rfl) dX10_qTest_131
        · as_aux_lemma =>
            replace hq := lf_pos hq (lf_eq (lf_rf J110_c0_5) (lf_lc 0 (0 : Int) rfl) c1)
            have h4 := ib_eq (ib_any J110_c0_5) (ib_c 0 0 0 rfl) c1
            have h5 : ib J110_c0_5 0 0 := ib_w 0 0 h4.1 rfl
            have h6 : ib x_qCoded 0 1620 := ⟨(hx_qCoded).1, by have := (hx_qCoded).2; have := hL0; have := (hx_at).2; have := (hx_qWaits).1; omega⟩
            have h7 : ib x_qWaits 0 1620 := ⟨(hx_qWaits).1, by have := (hx_qWaits).2; have := hL0; have := (hx_at).2; have := (h6).1; omega⟩
            have h8 := hJ110_go.2 (ib_one h5 rfl)
            refine lv_aload_n hx hb dX10_qTest_117 rfl (lv_at hl 0 rfl) ?_
            refine k_get C0 fg_X10_372 hP 0 rfl rfl dX10_qTest_118 ?_
            refine lv_if_le (tgt := 131) hx hb dX10_qTest_121 rfl (fun c9 => ?_) (fun c9 => ?_)
            · replace hq := lf_pos hq (lf_le (lf_rf J110_c0_113) (lf_lc 0 (0 : Int) rfl) c9)
              have h10 := ib_le hJ110_c0_113 (ib_c 0 0 0 rfl) c9
              have h11 : ib J110_c0_113 0 0 := ib_w 0 0 h10.1 rfl
              subst hQ; exact k_vret hx hb hr hlk ((J110_c0_2, J110_c0_4, J110_c0_5, J110_c0_6, J110_c0_111, J110_c0_113, J110_c0_114, J110_a18, J110_a20)) hS ⟨ib_w 0 1600 hJ110_c0_2 rfl, ib_w 0 1625 hJ110_c0_111 rfl, ib_w 0 1625 h11 rfl, fun _ => ib_one hx_bad rfl, (by have := hJ110_lin0; omega), fun hq9 => (by have := hJ110_lin0; have := h8; omega), (by have := hJ110_lin2; omega), fun hq9 => (by have := (h11).2; omega), fun q => ((fun q => (hJ110_go.1 q).1) q), (hO.symm.trans (by exact hq))⟩ hP hD (Nat.le_of_ble_eq_true rfl) (Nat.le_of_ble_eq_true rfl) dX10_qTest_131
            · as_aux_lemma =>
                replace hq := lf_neg hq (lf_nle (lf_rf J110_c0_113) (lf_lc 0 (0 : Int) rfl) c9)
                have h12 := ib_nle hJ110_c0_113 (ib_c 0 0 0 rfl) c9
                have h13 : ib J110_c0_113 1 1625 := ib_w 1 1625 h12.1 rfl
                have h14 : ib J110_c0_111 0 1624 := ⟨(hJ110_c0_111).1, by have := (hJ110_c0_111).2; have := h8; have := hL0; have := (hJ110_c0_2).2; have := (h13).1; omega⟩
                refine lv_aload_n hx hb dX10_qTest_124 rfl (lv_at hl 0 rfl) ?_
                refine k_jvm hP hD hS hA [0, 18, 20] [false, true, true, true, true, true, true, true, true, true, true, true, true, true, true, true, true, true, false, true, false, true, true] rfl rfl (by decide +kernel) 0 0 (Nat.le_of_ble_eq_true rfl) (Nat.le_of_ble_eq_true rfl) (fun hPc hDc => k_runV (As := []) (rest := []) C0 hZ hS hA (s_X10_qDrops l dC dI cy sq a_this rm x_taped J110_c0_2 x_end J110_c0_4 J110_c0_5 J110_c0_6 x_fault x_faultPlace x_namePlace x_awayTold x_away x_coded x_statements x_isCrossing x_textKind x_askSecond x_redMany x_isOpen x_lastGreen x_greenTo x_isCycleGreen x_stillGreen x_rowMany x_fitMany x_fitRules x_fitGreen x_undoable x_newest x_seeded J110_c0_111 J110_c0_113 J110_c0_114 x_qBase x_qPiled x_qAnswer x_qIsNew x_octets J110_a20 J110_a18 (ib_w 0 1699 h14 rfl) (ib_w 1 1700 h13 rfl)) mV_X10_614 hPc hDc rfl rfl rfl hl rfl rfl (Nat.le_of_ble_eq_true rfl) ⟨(Nat.le_of_ble_eq_true rfl), (Nat.le_of_ble_eq_true rfl)⟩ ⟨(Nat.le_of_ble_eq_true rfl), (Nat.le_of_ble_eq_true rfl)⟩ dX10_qTest_125) (fun u16 H locs hw hP hD hS => ?_)
                obtain ⟨v17, v18, f19⟩ := u16
                try dsimp only at hP hD hw
                replace hP : va_P (dC, dI) vwCl [(wi_rm0_0_1600_0 rm cy g_tape), (wi_rm91_2_3_0 rm cy g_notAsked), (wi_rm94_2_3_0 rm cy g_allAsked), (wi_rm97_2_6_0 rm cy g_secondAsked), (wi_rm98_2_3_0 rm cy g_dayAsked), (wi_rm99_2_5_0 rm cy g_phaseAsked), (wi_rm100_2_6_0 rm cy g_waitedAsked), (wi_rm101_2_4_0 rm cy g_calmAsked), (wi_rm102_2_4_0 rm cy g_paceAsked), (wi_rm103_2_6_0 rm cy g_trustsAsked), (wi_rm104_2_3_0 rm cy g_gapAsked), (wi_rm105_2_4_0 rm cy g_redsAsked), (wi_rm106_2_6_0 rm cy g_numberAsked), (wi_rm107_2_4_0 rm cy g_wentAsked), (wi_rm108_2_4_0 rm cy g_harmAsked), (wi_rm109_2_4_0 rm cy g_kindofAsked), (wi_rm95_2_3_0 rm cy g_minAsked), (wi_rm96_2_3_0 rm cy g_maxAsked), (wi_rm92_2_3_0 rm cy g_andAsked), (wi_rm93_2_2_0 rm cy g_orAsked), (a_this, .inr (10, mfs rm x_taped J110_c0_2 x_end J110_c0_4 J110_c0_5 J110_c0_6 x_fault x_faultPlace x_namePlace x_awayTold x_away x_coded x_statements x_isCrossing x_textKind x_askSecond x_redMany x_isOpen x_lastGreen x_greenTo x_isCycleGreen x_stillGreen x_rowMany x_fitMany x_fitRules x_fitGreen x_undoable x_newest x_seeded v17 v18 J110_c0_114 x_qBase x_qPiled x_qAnswer x_qIsNew x_octets)), (wi_rm112_0_1700_0 rm cy J110_a18), (wi_rm110_0_1700_0 rm cy f19)] H := hP
                replace hD := k_D hP hD
                obtain ⟨h20, h21, h22, h23, h24, h25⟩ := hw
                have h26 : v17.toInt = (J110_c0_111 : Int32).toInt + (1 : Int32).toInt := by have q1 := h21; have q2 : (1 : Int32).toInt = 1 := rfl; omega
                have h27 : ib v17 1 1625 := ⟨by have q1 := h21; have := (h14).1; have := (h20).1; omega, by have q1 := h21; have := (h14).2; have := (h20).2; omega⟩
                have h28 : v18.toInt = (J110_c0_113 : Int32).toInt + ((-1) : Int32).toInt := by have q1 := h23; have q2 : ((-1) : Int32).toInt = (-1) := rfl; omega
                have h29 : ib v18 0 1624 := ⟨by have q1 := h23; have := (h13).1; have := (h22).1; omega, by have q1 := h23; have := (h13).2; have := (h22).2; omega⟩
                replace hq := lf_p1 hq h25
                replace hq := lf_p1 hq rfl
                have h30 : J110_c0_5 = 0 → GS f19 v17 J110_a18 v18 v18 x_textKind (cc + 1) := fun _ => (by rw [h24]; exact GS_dropT ((fun q => (hJ110_go.1 q).1) (ib_one h5 rfl)) (by have := h26; have : (1 : Int32).toInt = 1 := rfl; omega) (by have := h28; have : ((-1) : Int32).toInt = (-1) := rfl; omega) (by have := (h29).1; omega) rfl (fun q => (((fun q => (hJ110_go.1 q).2) (ib_one h5 rfl)) (Int32.toNatClampNeg v18) (by show (Int32.toInt v18).toNat < _; have := (h13).1; have := (h13).2; have := hJ110_lin0; have := hJ110_lin1; have := h8; have := (hx_at).1; have := (hx_at).2; have := hL0; have := hJ110_lin2; have := (h7).1; have := (h7).2; have := (h6).1; have := (h6).2; have := (hJ110_c0_2).1; have := (hJ110_c0_2).2; have := (h14).1; have := (h14).2; have := (h29).1; have := (h29).2; have := h28; have : ((-1) : Int32).toInt = (-1) := rfl; omega)) (cn (q.trans (by decide)))))
                refine lv_goto (tgt := 110) hx hb dX10_qTest_128 rfl ?_
                exact ih110 J110_l1 J110_c0_2 J110_c0_4 J110_c0_5 J110_c0_6 v17 v18 J110_c0_114 J110_a18 f19 H locs ls (ib_w 0 1 hJ110_l1 rfl) (ib_w 0 1600 hJ110_c0_2 rfl) (ib_w 0 1625 h27 rfl) (ib_w 0 1625 h29 rfl) (by have := hJ110_lin0; have := h28; have : ((-1) : Int32).toInt = (-1) := rfl; have := h26; have : (1 : Int32).toInt = 1 := rfl; omega) (by have := hJ110_lin1; have := h28; have : ((-1) : Int32).toInt = (-1) := rfl; have := h26; have : (1 : Int32).toInt = 1 := rfl; omega) (by have := hJ110_lin2; omega) (fun _ => ib_one hx_bad rfl) (⟨fun q => ⟨(h30 q), (fun i h2 => ((fun q => (hJ110_go.1 q).2) q) i (by have := (h13).1; have := (h13).2; have := hJ110_lin0; have := hJ110_lin1; have := h8; have := (hx_at).1; have := (hx_at).2; have := hL0; have := hJ110_lin2; have := (h7).1; have := (h7).2; have := (h6).1; have := (h6).2; have := (hJ110_c0_2).1; have := (hJ110_c0_2).2; have := (h14).1; have := (h14).2; have := (h29).1; have := (h29).2; have := h28; have : ((-1) : Int32).toInt = (-1) := rfl; omega))⟩, fun q9 => (by have := hJ110_lin0; have := h8; have := h28; have : ((-1) : Int32).toInt = (-1) := rfl; have := h26; have : (1 : Int32).toInt = 1 := rfl; omega)⟩) (by rw [← hK110]; exact hq) (by have := h26; have : (1 : Int32).toInt = 1 := rfl; omega) (hP.sub [20, 0, 1, 2, 3, 4, 5, 6, 7, 8, 9, 10, 11, 12, 13, 14, 15, 16, 21, 17, 22, 18, 19] rfl) (hD.sub [20, 0, 1, 2, 3, 4, 5, 6, 7, 8, 9, 10, 11, 12, 13, 14, 15, 16, 21, 17, 22, 18, 19] (by decide +kernel) rfl) hS (lv_sub hl [0, 1] rfl)
  have jn2 : ∀ (n : Nat) (J2_l1 : Int32) (J2_c0_2 : Int32) (J2_c0_4 : Int32) (J2_c0_5 : Int32) (J2_c0_6 : Int32) (J2_c0_111 : Int32) (J2_c0_113 : Int32) (J2_c0_114 : Int32) (J2_a18 : Nat → Int32) (J2_a20 : Nat → Int32) (H : Heap) (locs : List Loc) (ls : Array Slot), ib J2_l1 0 1 → ib J2_c0_2 0 1600 → ib J2_c0_111 0 1625 → ib J2_c0_113 0 1625 → (1 * J2_c0_111.toInt + 1 * J2_c0_113.toInt + (-1) * J2_c0_2.toInt + (-1) * x_qCoded.toInt + (-1) * x_qWaits.toInt + 1 * x_at.toInt ≤ 5) → (1 * J2_c0_111.toInt + 1 * J2_c0_113.toInt + (-1) * J2_c0_2.toInt ≤ 25) → (1 * x_at.toInt + (-1) * J2_c0_2.toInt ≤ 0) → (J2_c0_5 = 0 → x_bad = 0) → (((J2_c0_5 = 0 → ¬ J2_l1 = 0 → GS J2_a20 J2_c0_111 J2_a18 J2_c0_113 J2_c0_113 x_textKind cc) ∧ (J2_c0_5 = 0 → J2_l1 = 0 → GS J2_a20 J2_c0_111 J2_a18 J2_c0_113 J2_c0_113 x_textKind (cc + 1) ∧ (∀ i : Nat, i < J2_c0_113.toInt.toNat → ¬ J2_a18 i = 25))) ∧ (J2_c0_5 = 0 → 1 * J2_c0_111.toInt + 1 * J2_c0_113.toInt + (-1) * J2_c0_2.toInt + (-1) * x_qCoded.toInt + (-1) * x_qWaits.toInt + 1 * x_at.toInt ≤ 0)) → (O = F_X10_qTest_2 (Int32.toInt x_end) (Int32.toInt x_textKind) (lf_A g_tape) (lf_A g_notAsked) (lf_A g_andAsked) (lf_A g_orAsked) (lf_A g_allAsked) (lf_A g_minAsked) (lf_A g_maxAsked) (lf_A g_secondAsked) (lf_A g_dayAsked) (lf_A g_phaseAsked) (lf_A g_waitedAsked) (lf_A g_calmAsked) (lf_A g_paceAsked) (lf_A g_trustsAsked) (lf_A g_gapAsked) (lf_A g_redsAsked) (lf_A g_numberAsked) (lf_A g_wentAsked) (lf_A g_harmAsked) (lf_A g_kindofAsked) n (Int32.toInt J2_l1) (Int32.toInt J2_c0_2) (Int32.toInt J2_c0_4) (Int32.toInt J2_c0_5) (Int32.toInt J2_c0_6) (Int32.toInt J2_c0_111) (Int32.toInt J2_c0_113) (Int32.toInt J2_c0_114) (lf_A J2_a18) (lf_A J2_a20)) → 3202 ≤ 2 * J2_c0_2.toInt + stq J2_l1 J2_c0_5 + (n : Int) → va_P (dC, dI) vwCl [(a_this, .inr (10, mfs rm x_taped J2_c0_2 x_end J2_c0_4 J2_c0_5 J2_c0_6 x_fault x_faultPlace x_namePlace x_awayTold x_away x_coded x_statements x_isCrossing x_textKind x_askSecond x_redMany x_isOpen x_lastGreen x_greenTo x_isCycleGreen x_stillGreen x_rowMany x_fitMany x_fitRules x_fitGreen x_undoable x_newest x_seeded J2_c0_111 J2_c0_113 J2_c0_114 x_qBase x_qPiled x_qAnswer x_qIsNew x_octets)), (wi_rm0_0_1600_0 rm cy g_tape), (wi_rm91_2_3_0 rm cy g_notAsked), (wi_rm94_2_3_0 rm cy g_allAsked), (wi_rm97_2_6_0 rm cy g_secondAsked), (wi_rm98_2_3_0 rm cy g_dayAsked), (wi_rm99_2_5_0 rm cy g_phaseAsked), (wi_rm100_2_6_0 rm cy g_waitedAsked), (wi_rm101_2_4_0 rm cy g_calmAsked), (wi_rm102_2_4_0 rm cy g_paceAsked), (wi_rm103_2_6_0 rm cy g_trustsAsked), (wi_rm104_2_3_0 rm cy g_gapAsked), (wi_rm105_2_4_0 rm cy g_redsAsked), (wi_rm106_2_6_0 rm cy g_numberAsked), (wi_rm107_2_4_0 rm cy g_wentAsked), (wi_rm108_2_4_0 rm cy g_harmAsked), (wi_rm109_2_4_0 rm cy g_kindofAsked), (wi_rm95_2_3_0 rm cy g_minAsked), (wi_rm112_0_1700_0 rm cy J2_a18), (wi_rm96_2_3_0 rm cy g_maxAsked), (wi_rm110_0_1700_0 rm cy J2_a20), (wi_rm92_2_3_0 rm cy g_andAsked), (wi_rm93_2_2_0 rm cy g_orAsked)] H → va_D A [(a_this, .inr (10, mfs rm x_taped J2_c0_2 x_end J2_c0_4 J2_c0_5 J2_c0_6 x_fault x_faultPlace x_namePlace x_awayTold x_away x_coded x_statements x_isCrossing x_textKind x_askSecond x_redMany x_isOpen x_lastGreen x_greenTo x_isCycleGreen x_stillGreen x_rowMany x_fitMany x_fitRules x_fitGreen x_undoable x_newest x_seeded J2_c0_111 J2_c0_113 J2_c0_114 x_qBase x_qPiled x_qAnswer x_qIsNew x_octets)), (wi_rm0_0_1600_0 rm cy g_tape), (wi_rm91_2_3_0 rm cy g_notAsked), (wi_rm94_2_3_0 rm cy g_allAsked), (wi_rm97_2_6_0 rm cy g_secondAsked), (wi_rm98_2_3_0 rm cy g_dayAsked), (wi_rm99_2_5_0 rm cy g_phaseAsked), (wi_rm100_2_6_0 rm cy g_waitedAsked), (wi_rm101_2_4_0 rm cy g_calmAsked), (wi_rm102_2_4_0 rm cy g_paceAsked), (wi_rm103_2_6_0 rm cy g_trustsAsked), (wi_rm104_2_3_0 rm cy g_gapAsked), (wi_rm105_2_4_0 rm cy g_redsAsked), (wi_rm106_2_6_0 rm cy g_numberAsked), (wi_rm107_2_4_0 rm cy g_wentAsked), (wi_rm108_2_4_0 rm cy g_harmAsked), (wi_rm109_2_4_0 rm cy g_kindofAsked), (wi_rm95_2_3_0 rm cy g_minAsked), (wi_rm112_0_1700_0 rm cy J2_a18), (wi_rm96_2_3_0 rm cy g_maxAsked), (wi_rm110_0_1700_0 rm cy J2_a20), (wi_rm92_2_3_0 rm cy g_andAsked), (wi_rm93_2_2_0 rm cy g_orAsked)] → va_S A s.heap H locs → lv_has ls 3 [(0, .ref a_this), (1, .int J2_l1)] → W p l e { frames := 8, cells := 0, slots := 0, locals := 174 } s m args below meth c H locs 0 0 Q (F0 m 2 ls []) := by
    as_aux_lemma =>
      intro n
      induction n with
      | zero =>
        intro J2_l1 J2_c0_2 J2_c0_4 J2_c0_5 J2_c0_6 J2_c0_111 J2_c0_113 J2_c0_114 J2_a18 J2_a20 H locs ls hJ2_l1 hJ2_c0_2 hJ2_c0_111 hJ2_c0_113 hJ2_lin0 hJ2_lin1 hJ2_lin2 hJ2_zm hJ2_go hq hm
        exact absurd hm (by have q1 := (hJ2_c0_2).2; have q2 := (stq_le J2_l1 J2_c0_5).2; omega)
      | succ n ih =>
        intro J2_l1 J2_c0_2 J2_c0_4 J2_c0_5 J2_c0_6 J2_c0_111 J2_c0_113 J2_c0_114 J2_a18 J2_a20 H locs ls hJ2_l1 hJ2_c0_2 hJ2_c0_111 hJ2_c0_113 hJ2_lin0 hJ2_lin1 hJ2_lin2 hJ2_zm hJ2_go hq hm2 hP hD hS hl
        have ih2 := ih
        obtain ⟨K2, hK2⟩ : ∃ K, K = F_X10_qTest_2 (Int32.toInt x_end) (Int32.toInt x_textKind) (lf_A g_tape) (lf_A g_notAsked) (lf_A g_andAsked) (lf_A g_orAsked) (lf_A g_allAsked) (lf_A g_minAsked) (lf_A g_maxAsked) (lf_A g_secondAsked) (lf_A g_dayAsked) (lf_A g_phaseAsked) (lf_A g_waitedAsked) (lf_A g_calmAsked) (lf_A g_paceAsked) (lf_A g_trustsAsked) (lf_A g_gapAsked) (lf_A g_redsAsked) (lf_A g_numberAsked) (lf_A g_wentAsked) (lf_A g_harmAsked) (lf_A g_kindofAsked) n := ⟨_, rfl⟩
        have hq : O = F_X10_qTest_2b (Int32.toInt x_end) (Int32.toInt x_textKind) (lf_A g_tape) (lf_A g_notAsked) (lf_A g_andAsked) (lf_A g_orAsked) (lf_A g_allAsked) (lf_A g_minAsked) (lf_A g_maxAsked) (lf_A g_secondAsked) (lf_A g_dayAsked) (lf_A g_phaseAsked) (lf_A g_waitedAsked) (lf_A g_calmAsked) (lf_A g_paceAsked) (lf_A g_trustsAsked) (lf_A g_gapAsked) (lf_A g_redsAsked) (lf_A g_numberAsked) (lf_A g_wentAsked) (lf_A g_harmAsked) (lf_A g_kindofAsked) K2 (Int32.toInt J2_l1) (Int32.toInt J2_c0_2) (Int32.toInt J2_c0_4) (Int32.toInt J2_c0_5) (Int32.toInt J2_c0_6) (Int32.toInt J2_c0_111) (Int32.toInt J2_c0_113) (Int32.toInt J2_c0_114) (lf_A J2_a18) (lf_A J2_a20) := by rw [hK2]; exact hq
        unfold F_X10_qTest_2b at hq
        refine lv_iload_n hx hb dX10_qTest_2 rfl (lv_at hl 1 rfl) ?_
        refine lv_if_eq (tgt := 110) hx hb dX10_qTest_3 rfl (fun c31 => ?_) (fun c31 => ?_)
        · replace hq := lf_pos hq (lf_eq (lf_rf J2_l1) (lf_lc 0 (0 : Int) rfl) c31)
          have h32 := ib_eq hJ2_l1 (ib_c 0 0 0 rfl) c31
          have h33 : ib J2_l1 0 0 := ib_w 0 0 h32.1 rfl
          have h34 : ib x_qCoded 0 1620 := ⟨(hx_qCoded).1, by have := (hx_qCoded).2; have := hL0; have := (hx_at).2; have := (hx_qWaits).1; omega⟩
          have h35 : ib x_qWaits 0 1620 := ⟨(hx_qWaits).1, by have := (hx_qWaits).2; have := hL0; have := (hx_at).2; have := (h34).1; omega⟩
          exact jn110 1627 J2_l1 J2_c0_2 J2_c0_4 J2_c0_5 J2_c0_6 J2_c0_111 J2_c0_113 J2_c0_114 J2_a18 J2_a20 H locs ls (ib_w 0 1 h33 rfl) (ib_w 0 1600 hJ2_c0_2 rfl) (ib_w 0 1625 hJ2_c0_111 rfl) (ib_w 0 1625 hJ2_c0_113 rfl) (by have := hJ2_lin0; omega) (by have := hJ2_lin1; omega) (by have := hJ2_lin2; omega) (fun _ => ib_one hx_bad rfl) (⟨fun q => hJ2_go.1.2 q (ib_one h33 rfl), fun q9 => (by have := hJ2_lin0; have := (hJ2_go.2 q9); omega)⟩) (by exact hq) (by have := hJ2_c0_111; unfold ib at this; omega) hP hD hS (lv_sub hl [0, 1] rfl)
        · as_aux_lemma =>
            replace hq := lf_neg hq (lf_ne (lf_rf J2_l1) (lf_lc 0 (0 : Int) rfl) c31)
            have h36 : ib J2_l1 1 1 := ib_w 1 1 (ib_ne_lo 0 hJ2_l1 rfl c31) rfl
            have h37 : ib x_qCoded 0 1620 := ⟨(hx_qCoded).1, by have := (hx_qCoded).2; have := hL0; have := (hx_at).2; have := (hx_qWaits).1; omega⟩
            have h38 : ib x_qWaits 0 1620 := ⟨(hx_qWaits).1, by have := (hx_qWaits).2; have := hL0; have := (hx_at).2; have := (h37).1; omega⟩
            refine lv_aload_n hx hb dX10_qTest_6 rfl (lv_at hl 0 rfl) ?_
            refine k_get C0 fg_X10_279 hP 0 rfl rfl dX10_qTest_7 ?_
            refine lv_if_ne (tgt := 110) hx hb dX10_qTest_10 rfl (fun c39 => ?_) (fun c39 => ?_)
            · replace hq := lf_neg hq (lf_ne (lf_rf J2_c0_5) (lf_lc 0 (0 : Int) rfl) c39)
              exact jn110 1627 J2_l1 J2_c0_2 J2_c0_4 J2_c0_5 J2_c0_6 J2_c0_111 J2_c0_113 J2_c0_114 J2_a18 J2_a20 H locs ls (ib_w 0 1 h36 rfl) (ib_w 0 1600 hJ2_c0_2 rfl) (ib_w 0 1625 hJ2_c0_111 rfl) (ib_w 0 1625 hJ2_c0_113 rfl) (by have := hJ2_lin0; omega) (by have := hJ2_lin1; omega) (by have := hJ2_lin2; omega) (fun _ => ib_one hx_bad rfl) (⟨fun q => absurd q c39, fun q => absurd q c39⟩) (by exact hq) (by have := hJ2_c0_111; unfold ib at this; omega) hP hD hS (lv_sub hl [0, 1] rfl)
            · as_aux_lemma =>
                replace hq := lf_pos hq (lf_eq (lf_rf J2_c0_5) (lf_lc 0 (0 : Int) rfl) c39)
                have h40 := ib_eq (ib_any J2_c0_5) (ib_c 0 0 0 rfl) c39
                have h41 : ib J2_c0_5 0 0 := ib_w 0 0 h40.1 rfl
                have h42 := hJ2_go.2 (ib_one h41 rfl)
                refine lv_aload_n hx hb dX10_qTest_13 rfl (lv_at hl 0 rfl) ?_
                refine k_jim hP hD hS hA [0, 1] [false, false, true, true, true, true, true, true, true, true, true, true, true, true, true, true, true, true, true, true, true, true, true] rfl rfl (by decide +kernel) 0 0 (Nat.le_of_ble_eq_true rfl) (Nat.le_of_ble_eq_true rfl) (fun hPc hDc => k_runV (As := []) (rest := []) C0 hZ hS hA (s_X10_look l dC dI cy sq a_this rm x_taped J2_c0_2 x_end J2_c0_4 J2_c0_5 J2_c0_6 x_fault x_faultPlace x_namePlace x_awayTold x_away x_coded x_statements x_isCrossing x_textKind x_askSecond x_redMany x_isOpen x_lastGreen x_greenTo x_isCycleGreen x_stillGreen x_rowMany x_fitMany x_fitRules x_fitGreen x_undoable x_newest x_seeded J2_c0_111 J2_c0_113 J2_c0_114 x_qBase x_qPiled x_qAnswer x_qIsNew x_octets g_tape (ib_w 0 1600 hJ2_c0_2 rfl) (ib_w 0 1600 hx_end rfl) hg_tape) mV_X10_291 hPc hDc rfl rfl rfl hl rfl rfl (Nat.le_of_ble_eq_true rfl) ⟨(Nat.le_of_ble_eq_true rfl), (Nat.le_of_ble_eq_true rfl)⟩ ⟨(Nat.le_of_ble_eq_true rfl), (Nat.le_of_ble_eq_true rfl)⟩ dX10_qTest_14) (fun r43 u44 H locs hw hP hD hS => ?_)
                obtain ⟨v45, ev45⟩ : ∃ z, z = u44 := ⟨_, rfl⟩; subst ev45
                try dsimp only at hP hD hw
                replace hP : va_P (dC, dI) vwCl [(wi_rm91_2_3_0 rm cy g_notAsked), (wi_rm94_2_3_0 rm cy g_allAsked), (wi_rm97_2_6_0 rm cy g_secondAsked), (wi_rm98_2_3_0 rm cy g_dayAsked), (wi_rm99_2_5_0 rm cy g_phaseAsked), (wi_rm100_2_6_0 rm cy g_waitedAsked), (wi_rm101_2_4_0 rm cy g_calmAsked), (wi_rm102_2_4_0 rm cy g_paceAsked), (wi_rm103_2_6_0 rm cy g_trustsAsked), (wi_rm104_2_3_0 rm cy g_gapAsked), (wi_rm105_2_4_0 rm cy g_redsAsked), (wi_rm106_2_6_0 rm cy g_numberAsked), (wi_rm107_2_4_0 rm cy g_wentAsked), (wi_rm108_2_4_0 rm cy g_harmAsked), (wi_rm109_2_4_0 rm cy g_kindofAsked), (wi_rm95_2_3_0 rm cy g_minAsked), (wi_rm112_0_1700_0 rm cy J2_a18), (wi_rm96_2_3_0 rm cy g_maxAsked), (wi_rm110_0_1700_0 rm cy J2_a20), (wi_rm92_2_3_0 rm cy g_andAsked), (wi_rm93_2_2_0 rm cy g_orAsked), (a_this, .inr (10, mfs rm x_taped v45 x_end J2_c0_4 J2_c0_5 J2_c0_6 x_fault x_faultPlace x_namePlace x_awayTold x_away x_coded x_statements x_isCrossing x_textKind x_askSecond x_redMany x_isOpen x_lastGreen x_greenTo x_isCycleGreen x_stillGreen x_rowMany x_fitMany x_fitRules x_fitGreen x_undoable x_newest x_seeded J2_c0_111 J2_c0_113 J2_c0_114 x_qBase x_qPiled x_qAnswer x_qIsNew x_octets)), (wi_rm0_0_1600_0 rm cy g_tape)] H := hP
                replace hD := k_D hP hD
                obtain ⟨h46, h47, h48, h49, h50, h51, h52, h53, h54, h55⟩ := hw
                replace hq := lf_p1 hq h55
                refine lv_istore_n (lv' := [(2, .int r43), (0, .ref a_this), (1, .int J2_l1)]) hx hb dX10_qTest_17 rfl hl (Nat.le_of_ble_eq_true rfl) rfl (fun ls hl => ?_)
                refine lv_iload_n hx hb dX10_qTest_18 rfl (lv_at hl 0 rfl) ?_
                refine lv_bipush (v := 91) hx hb dX10_qTest_19 rfl ?_
                refine lv_icmp_ne (tgt := 47) hx hb dX10_qTest_21 rfl (fun c56 => ?_) (fun c56 => ?_)
                · as_aux_lemma =>
                    replace hq := lf_neg hq (lf_ne (lf_rf r43) (lf_lc 91 (91 : Int) rfl) c56)
                    refine lv_aload_n hx hb dX10_qTest_47 rfl (lv_at hl 1 rfl) ?_
                    refine lv_aload_n hx hb dX10_qTest_48 rfl (lv_at hl 1 rfl) ?_
                    refine k_get C0 fg_X10_207 hP 21 rfl rfl dX10_qTest_49 ?_
                    refine k_jim hP hD hS hA [21, 22, 0] [false, true, true, true, true, true, true, true, true, true, true, true, true, true, true, true, true, true, true, true, true] rfl rfl (by decide +kernel) 0 0 (Nat.le_of_ble_eq_true rfl) (Nat.le_of_ble_eq_true rfl) (fun hPc hDc => k_runV (As := [.ref (rm 91)]) (rest := []) C0 hZ hS hA (s_X10_isHere l dC dI cy sq a_this rm x_taped v45 x_end J2_c0_4 J2_c0_5 J2_c0_6 x_fault x_faultPlace x_namePlace x_awayTold x_away x_coded x_statements x_isCrossing x_textKind x_askSecond x_redMany x_isOpen x_lastGreen x_greenTo x_isCycleGreen x_stillGreen x_rowMany x_fitMany x_fitRules x_fitGreen x_undoable x_newest x_seeded J2_c0_111 J2_c0_113 J2_c0_114 x_qBase x_qPiled x_qAnswer x_qIsNew x_octets g_tape (rm 91) g_notAsked (ib_w 0 1600 h46 rfl) (ib_w 0 1600 hx_end rfl) hg_tape) mV_X10_302 hPc hDc rfl rfl rfl hl rfl rfl (Nat.le_of_ble_eq_true rfl) ⟨(Nat.le_of_ble_eq_true rfl), (Nat.le_of_ble_eq_true rfl)⟩ ⟨(Nat.le_of_ble_eq_true rfl), (Nat.le_of_ble_eq_true rfl)⟩ dX10_qTest_52) (fun r57 u58 H locs hw hP hD hS => ?_)
                    obtain ⟨v59, ev59⟩ : ∃ z, z = u58 := ⟨_, rfl⟩; subst ev59
                    try dsimp only at hP hD hw
                    replace hP : va_P (dC, dI) vwCl [(wi_rm94_2_3_0 rm cy g_allAsked), (wi_rm97_2_6_0 rm cy g_secondAsked), (wi_rm98_2_3_0 rm cy g_dayAsked), (wi_rm99_2_5_0 rm cy g_phaseAsked), (wi_rm100_2_6_0 rm cy g_waitedAsked), (wi_rm101_2_4_0 rm cy g_calmAsked), (wi_rm102_2_4_0 rm cy g_paceAsked), (wi_rm103_2_6_0 rm cy g_trustsAsked), (wi_rm104_2_3_0 rm cy g_gapAsked), (wi_rm105_2_4_0 rm cy g_redsAsked), (wi_rm106_2_6_0 rm cy g_numberAsked), (wi_rm107_2_4_0 rm cy g_wentAsked), (wi_rm108_2_4_0 rm cy g_harmAsked), (wi_rm109_2_4_0 rm cy g_kindofAsked), (wi_rm95_2_3_0 rm cy g_minAsked), (wi_rm112_0_1700_0 rm cy J2_a18), (wi_rm96_2_3_0 rm cy g_maxAsked), (wi_rm110_0_1700_0 rm cy J2_a20), (wi_rm92_2_3_0 rm cy g_andAsked), (wi_rm93_2_2_0 rm cy g_orAsked), (a_this, .inr (10, mfs rm x_taped v59 x_end J2_c0_4 J2_c0_5 J2_c0_6 x_fault x_faultPlace x_namePlace x_awayTold x_away x_coded x_statements x_isCrossing x_textKind x_askSecond x_redMany x_isOpen x_lastGreen x_greenTo x_isCycleGreen x_stillGreen x_rowMany x_fitMany x_fitRules x_fitGreen x_undoable x_newest x_seeded J2_c0_111 J2_c0_113 J2_c0_114 x_qBase x_qPiled x_qAnswer x_qIsNew x_octets)), (wi_rm0_0_1600_0 rm cy g_tape), (wi_rm91_2_3_0 rm cy g_notAsked)] H := hP
                    replace hD := k_D hP hD
                    obtain ⟨h60, h61, h62, h63, h64, h65, h66, h67, h68⟩ := hw
                    replace hq := lf_p1 hq h68
                    have h69 := h67 h54
                    have h70 := h54
                    rw [← h69] at h70
                    have h71 : 1 * v59.toInt + (-1) * v45.toInt ≤ 0 := by rw [h69]; omega
                    refine lv_if_eq (tgt := 79) hx hb dX10_qTest_55 rfl (fun c73 => ?_) (fun c73 => ?_)
                    · as_aux_lemma =>
                        replace hq := lf_pos hq (lf_eq (lf_rf r57) (lf_lc 0 (0 : Int) rfl) c73)
                        have h74 := ib_eq h61 (ib_c 0 0 0 rfl) c73
                        have h75 : ib r57 0 0 := ib_w 0 0 h74.1 rfl
                        refine lv_aload_n hx hb dX10_qTest_79 rfl (lv_at hl 1 rfl) ?_
                        refine k_jvm hP hD hS hA [20, 21, 0, 1, 2, 3, 4, 5, 6, 7, 8, 9, 10, 11, 12, 13, 14, 15, 16, 17] [false, false, false, false, false, false, false, false, false, false, false, false, false, false, false, false, false, false, true, true, false, false, true] rfl rfl (by decide +kernel) 0 0 (Nat.le_of_ble_eq_true rfl) (Nat.le_of_ble_eq_true rfl) (fun hPc hDc => k_runV (As := []) (rest := []) C0 hZ hS hA (s_X10_qFact l dC dI cy sq a_this rm x_taped v59 x_end J2_c0_4 J2_c0_5 J2_c0_6 x_fault x_faultPlace x_namePlace x_awayTold x_away x_coded x_statements x_isCrossing x_textKind x_askSecond x_redMany x_isOpen x_lastGreen x_greenTo x_isCycleGreen x_stillGreen x_rowMany x_fitMany x_fitRules x_fitGreen x_undoable x_newest x_seeded J2_c0_111 J2_c0_113 J2_c0_114 x_qBase x_qPiled x_qAnswer x_qIsNew x_octets g_tape g_allAsked g_minAsked g_maxAsked g_secondAsked g_dayAsked g_phaseAsked g_waitedAsked g_calmAsked g_paceAsked g_trustsAsked g_gapAsked g_redsAsked g_numberAsked g_wentAsked g_harmAsked g_kindofAsked J2_a20 J2_a18 cc (ib_w 0 1600 h60 rfl) (ib_w 0 1600 hx_end rfl) (ib_w 0 0 h41 rfl) (ib_w 0 1700 hJ2_c0_111 rfl) (ib_w 0 1700 hJ2_c0_113 rfl) hg_tape (by have := h66; have := h51; have := hJ2_lin1; have := h42; have := hL0; omega) (fun q => ((fun q => hJ2_go.1.1 q c31) q))) mV_X10_650 hPc hDc rfl rfl rfl hl rfl rfl (Nat.le_of_ble_eq_true rfl) ⟨(Nat.le_of_ble_eq_true rfl), (Nat.le_of_ble_eq_true rfl)⟩ ⟨(Nat.le_of_ble_eq_true rfl), (Nat.le_of_ble_eq_true rfl)⟩ dX10_qTest_80) (fun u77 H locs hw hP hD hS => ?_)
                        obtain ⟨v78, v79, v80, v81, v82, v83, v84, f85, f86⟩ := u77
                        try dsimp only at hP hD hw
                        replace hP : va_P (dC, dI) vwCl [(wi_rm92_2_3_0 rm cy g_andAsked), (wi_rm93_2_2_0 rm cy g_orAsked), (wi_rm91_2_3_0 rm cy g_notAsked), (a_this, .inr (10, mfs rm x_taped v78 x_end v79 v80 v81 x_fault x_faultPlace x_namePlace x_awayTold x_away x_coded x_statements x_isCrossing x_textKind x_askSecond x_redMany x_isOpen x_lastGreen x_greenTo x_isCycleGreen x_stillGreen x_rowMany x_fitMany x_fitRules x_fitGreen x_undoable x_newest x_seeded v82 v83 v84 x_qBase x_qPiled x_qAnswer x_qIsNew x_octets)), (wi_rm0_0_1600_0 rm cy g_tape), (wi_rm94_2_3_0 rm cy g_allAsked), (wi_rm97_2_6_0 rm cy g_secondAsked), (wi_rm98_2_3_0 rm cy g_dayAsked), (wi_rm99_2_5_0 rm cy g_phaseAsked), (wi_rm100_2_6_0 rm cy g_waitedAsked), (wi_rm101_2_4_0 rm cy g_calmAsked), (wi_rm102_2_4_0 rm cy g_paceAsked), (wi_rm103_2_6_0 rm cy g_trustsAsked), (wi_rm104_2_3_0 rm cy g_gapAsked), (wi_rm105_2_4_0 rm cy g_redsAsked), (wi_rm106_2_6_0 rm cy g_numberAsked), (wi_rm107_2_4_0 rm cy g_wentAsked), (wi_rm108_2_4_0 rm cy g_harmAsked), (wi_rm109_2_4_0 rm cy g_kindofAsked), (wi_rm95_2_3_0 rm cy g_minAsked), (wi_rm112_0_1700_0 rm cy f85), (wi_rm96_2_3_0 rm cy g_maxAsked), (wi_rm110_0_1700_0 rm cy f86)] H := hP
                        replace hD := k_D hP hD
                        obtain ⟨h87, h88, h89, h90, h91, h92, h93, h94, h95, h96, h97, h98⟩ := hw
                        replace hq := lf_p1 hq h98
                        replace hq := lf_p1 hq rfl
                        replace hq := lf_p1 hq rfl
                        replace hq := lf_p1 hq rfl
                        replace hq := lf_p1 hq rfl
                        replace hq := lf_p1 hq rfl
                        replace hq := lf_p1 hq rfl
                        replace hq := lf_p1 hq rfl
                        refine lv_aload_n hx hb dX10_qTest_83 rfl (lv_at hl 1 rfl) ?_
                        refine k_jvm hP hD hS hA [3, 20, 22] [true, true, true, false, true, true, true, true, true, true, true, true, true, true, true, true, true, true, true, true, false, true] rfl rfl (by decide +kernel) 0 0 (Nat.le_of_ble_eq_true rfl) (Nat.le_of_ble_eq_true rfl) (fun hPc hDc => k_runV (As := []) (rest := []) C0 hZ hS hA (s_X10_qDropsNots l dC dI cy sq a_this rm x_taped v78 x_end v79 v80 v81 x_fault x_faultPlace x_namePlace x_awayTold x_away x_coded x_statements x_isCrossing x_textKind x_askSecond x_redMany x_isOpen x_lastGreen x_greenTo x_isCycleGreen x_stillGreen x_rowMany x_fitMany x_fitRules x_fitGreen x_undoable x_newest x_seeded v82 v83 v84 x_qBase x_qPiled x_qAnswer x_qIsNew x_octets f86 f85 cc (ib_w 0 1700 h88 rfl) (ib_w 0 1700 h89 rfl) (by have := (h89).2; have := h91; have := h66; have := (h87).2; have := hJ2_lin1; have := (h88).2; have := h51; omega) (fun q => (h97 q))) mV_X10_653 hPc hDc rfl rfl rfl hl rfl rfl (Nat.le_of_ble_eq_true rfl) ⟨(Nat.le_of_ble_eq_true rfl), (Nat.le_of_ble_eq_true rfl)⟩ ⟨(Nat.le_of_ble_eq_true rfl), (Nat.le_of_ble_eq_true rfl)⟩ dX10_qTest_84) (fun u100 H locs hw hP hD hS => ?_)
                        obtain ⟨v101, v102, v103, f104⟩ := u100
                        try dsimp only at hP hD hw
                        replace hP : va_P (dC, dI) vwCl [(wi_rm92_2_3_0 rm cy g_andAsked), (wi_rm93_2_2_0 rm cy g_orAsked), (wi_rm91_2_3_0 rm cy g_notAsked), (wi_rm0_0_1600_0 rm cy g_tape), (wi_rm94_2_3_0 rm cy g_allAsked), (wi_rm97_2_6_0 rm cy g_secondAsked), (wi_rm98_2_3_0 rm cy g_dayAsked), (wi_rm99_2_5_0 rm cy g_phaseAsked), (wi_rm100_2_6_0 rm cy g_waitedAsked), (wi_rm101_2_4_0 rm cy g_calmAsked), (wi_rm102_2_4_0 rm cy g_paceAsked), (wi_rm103_2_6_0 rm cy g_trustsAsked), (wi_rm104_2_3_0 rm cy g_gapAsked), (wi_rm105_2_4_0 rm cy g_redsAsked), (wi_rm106_2_6_0 rm cy g_numberAsked), (wi_rm107_2_4_0 rm cy g_wentAsked), (wi_rm108_2_4_0 rm cy g_harmAsked), (wi_rm109_2_4_0 rm cy g_kindofAsked), (wi_rm95_2_3_0 rm cy g_minAsked), (wi_rm96_2_3_0 rm cy g_maxAsked), (a_this, .inr (10, mfs rm x_taped v78 x_end v79 v80 v81 x_fault x_faultPlace x_namePlace x_awayTold x_away x_coded x_statements x_isCrossing x_textKind x_askSecond x_redMany x_isOpen x_lastGreen x_greenTo x_isCycleGreen x_stillGreen x_rowMany x_fitMany x_fitRules x_fitGreen x_undoable x_newest x_seeded v101 v102 v103 x_qBase x_qPiled x_qAnswer x_qIsNew x_octets)), (wi_rm112_0_1700_0 rm cy f85), (wi_rm110_0_1700_0 rm cy f104)] H := hP
                        replace hD := k_D hP hD
                        obtain ⟨h105, h106, h107, h108, h109, h110, h111⟩ := hw
                        replace hq := lf_p1 hq h111
                        replace hq := lf_p1 hq rfl
                        replace hq := lf_p1 hq rfl
                        refine lv_aload_n hx hb dX10_qTest_87 rfl (lv_at hl 1 rfl) ?_
                        refine k_get C0 fg_X10_279 hP 20 rfl rfl dX10_qTest_88 ?_
                        as_aux_lemma =>
                          refine lv_if_ne (tgt := 105) hx hb dX10_qTest_91 rfl (fun c112 => ?_) (fun c112 => ?_)
                          · replace hq := lf_neg hq (lf_ne (lf_rf v80) (lf_lc 0 (0 : Int) rfl) c112)
                            have h113 : ib v102 0 1623 := ⟨(h106).1, by have := (h106).2; have := h109; have := (h89).2; omega⟩
                            refine lv_iconst (v := 0) hx hb dX10_qTest_105 rfl ?_
                            refine lv_istore_n (lv' := [(1, .int 0), (2, .int r43), (0, .ref a_this)]) hx hb dX10_qTest_106 rfl hl (Nat.le_of_ble_eq_true rfl) rfl (fun ls hl => ?_)
                            refine lv_goto (tgt := 2) hx hb dX10_qTest_107 rfl ?_
                            exact ih2 0 v78 v79 v80 v81 v101 v102 v103 f85 f104 H locs ls (ib_w 0 1 (ib_c 0 0 0 rfl) rfl) (ib_w 0 1600 h87 rfl) ⟨by have := (h105).1; omega, by have := (h87).2; have := h91; have := h66; have := hJ2_lin1; have := h42; have := h107; have := (h113).1; have := hL0; have := h51; omega⟩ (ib_w 0 1625 h113 rfl) (by have := hJ2_lin0; have := h42; have := h51; have := h66; have := h91; have := h107; omega) (by have := h91; have := h66; have := hJ2_lin1; have := h42; have := h107; have := hL0; have := h51; omega) (by have := (h87).1; have := h93; have := h66; have := (hx_at).2; have := hJ2_lin2; have := h51; omega) (fun _ => ib_one hx_bad rfl) (⟨⟨fun q _ => absurd q c112, fun q _ => absurd q c112⟩, fun q => absurd q c112⟩) (by rw [← hK2]; try simp only [show (0 : Int32).toInt = (0 : Int) from rfl]; exact hq) (by have z0 := stq_0 (a := J2_l1) (b := J2_c0_5) (ib_nz h36 rfl) (ib_one h41 rfl); have z2 := stq_1 (a := 0) (b := v80) (Or.inl rfl); have := (hJ2_c0_2).2; have := h51; have := h66; have := h93; have := (h87).1; omega) (hP.sub [20, 3, 2, 4, 5, 6, 7, 8, 9, 10, 11, 12, 13, 14, 15, 16, 17, 18, 21, 19, 22, 0, 1] rfl) (hD.sub [20, 3, 2, 4, 5, 6, 7, 8, 9, 10, 11, 12, 13, 14, 15, 16, 17, 18, 21, 19, 22, 0, 1] (by decide +kernel) rfl) hS (lv_sub hl [2, 0] rfl)
                          · as_aux_lemma =>
                              replace hq := lf_pos hq (lf_eq (lf_rf v80) (lf_lc 0 (0 : Int) rfl) c112)
                              have h114 := ib_eq (ib_any v80) (ib_c 0 0 0 rfl) c112
                              have h115 : ib v80 0 0 := ib_w 0 0 h114.1 rfl
                              have h116 : ib v102 0 1623 := ⟨(h106).1, by have := (h106).2; have := h109; have := (h89).2; omega⟩
                              have h117 := h92 (ib_one h115 rfl)
                              have h118 := h94 (ib_one h115 rfl)
                              have h119 := h95 (ib_one h115 rfl)
                              have h120 := h96 (ib_one h115 rfl)
                              have h121 : ib v59 0 1599 := ⟨(h60).1, by have := (h60).2; have := h118; have := (h87).2; omega⟩
                              have h122 : ib v78 1 1600 := ⟨by have := (h87).1; have := h118; have := (h121).1; omega, (h87).2⟩
                              have h123 : ib J2_c0_113 0 1623 := ⟨(hJ2_c0_113).1, by have := (hJ2_c0_113).2; have := h120; have := (h89).2; omega⟩
                              have h124 : ib v45 0 1599 := ⟨(h46).1, by have := (h46).2; have := h66; have := (h121).2; omega⟩
                              refine lv_aload_n hx hb dX10_qTest_94 rfl (lv_at hl 1 rfl) ?_
                              refine k_jim hP hD hS hA [20, 3, 0, 1, 21, 22] [false, false, true, false, true, true, true, true, true, true, true, true, true, true, true, true, true, true, true, true] rfl rfl (by decide +kernel) 0 0 (Nat.le_of_ble_eq_true rfl) (Nat.le_of_ble_eq_true rfl) (fun hPc hDc => k_runV (As := []) (rest := []) C0 hZ hS hA (s_X10_qGoesOnTest l dC dI cy sq a_this rm x_taped v78 x_end v79 v80 v81 x_fault x_faultPlace x_namePlace x_awayTold x_away x_coded x_statements x_isCrossing x_textKind x_askSecond x_redMany x_isOpen x_lastGreen x_greenTo x_isCycleGreen x_stillGreen x_rowMany x_fitMany x_fitRules x_fitGreen x_undoable x_newest x_seeded v101 v102 v103 x_qBase x_qPiled x_qAnswer x_qIsNew x_octets g_tape g_andAsked g_orAsked f104 f85 cc (ib_w 0 1600 h122 rfl) (ib_w 0 1600 hx_end rfl) (ib_w 0 0 h115 rfl) (ib_w 0 1700 h105 rfl) (ib_w 0 1700 h116 rfl) hg_tape (by have := h117; have := h66; have := hJ2_lin1; have := h42; have := h107; have := hL0; have := h51; omega) (fun q => (h110 q))) mV_X10_656 hPc hDc rfl rfl rfl hl rfl rfl (Nat.le_of_ble_eq_true rfl) ⟨(Nat.le_of_ble_eq_true rfl), (Nat.le_of_ble_eq_true rfl)⟩ ⟨(Nat.le_of_ble_eq_true rfl), (Nat.le_of_ble_eq_true rfl)⟩ dX10_qTest_95) (fun r125 u126 H locs hw hP hD hS => ?_)
                              obtain ⟨v127, v128, v129, v130, v131, v132, v133, f134, f135⟩ := u126
                              try dsimp only at hP hD hw
                              replace hP : va_P (dC, dI) vwCl [(wi_rm91_2_3_0 rm cy g_notAsked), (wi_rm94_2_3_0 rm cy g_allAsked), (wi_rm97_2_6_0 rm cy g_secondAsked), (wi_rm98_2_3_0 rm cy g_dayAsked), (wi_rm99_2_5_0 rm cy g_phaseAsked), (wi_rm100_2_6_0 rm cy g_waitedAsked), (wi_rm101_2_4_0 rm cy g_calmAsked), (wi_rm102_2_4_0 rm cy g_paceAsked), (wi_rm103_2_6_0 rm cy g_trustsAsked), (wi_rm104_2_3_0 rm cy g_gapAsked), (wi_rm105_2_4_0 rm cy g_redsAsked), (wi_rm106_2_6_0 rm cy g_numberAsked), (wi_rm107_2_4_0 rm cy g_wentAsked), (wi_rm108_2_4_0 rm cy g_harmAsked), (wi_rm109_2_4_0 rm cy g_kindofAsked), (wi_rm95_2_3_0 rm cy g_minAsked), (wi_rm96_2_3_0 rm cy g_maxAsked), (a_this, .inr (10, mfs rm x_taped v127 x_end v128 v129 v130 x_fault x_faultPlace x_namePlace x_awayTold x_away x_coded x_statements x_isCrossing x_textKind x_askSecond x_redMany x_isOpen x_lastGreen x_greenTo x_isCycleGreen x_stillGreen x_rowMany x_fitMany x_fitRules x_fitGreen x_undoable x_newest x_seeded v131 v132 v133 x_qBase x_qPiled x_qAnswer x_qIsNew x_octets)), (wi_rm0_0_1600_0 rm cy g_tape), (wi_rm92_2_3_0 rm cy g_andAsked), (wi_rm93_2_2_0 rm cy g_orAsked), (wi_rm112_0_1700_0 rm cy f134), (wi_rm110_0_1700_0 rm cy f135)] H := hP
                              replace hD := k_D hP hD
                              obtain ⟨h136, h137, h138, h139, h140, h141, h142, h143, h144, h145, h146, h147, h148, h149, h150, h151, h152, h153, h154⟩ := hw
                              replace hq := lf_p1 hq h154
                              replace hq := lf_p1 hq rfl
                              replace hq := lf_p1 hq rfl
                              replace hq := lf_p1 hq rfl
                              replace hq := lf_p1 hq rfl
                              replace hq := lf_p1 hq rfl
                              replace hq := lf_p1 hq rfl
                              replace hq := lf_p1 hq rfl
                              replace hq := lf_p1 hq rfl
                              refine lv_if_eq (tgt := 105) hx hb dX10_qTest_98 rfl (fun c155 => ?_) (fun c155 => ?_)
                              · replace hq := lf_pos hq (lf_eq (lf_rf r125) (lf_lc 0 (0 : Int) rfl) c155)
                                have h156 := ib_eq h140 (ib_c 0 0 0 rfl) c155
                                have h157 : ib r125 0 0 := ib_w 0 0 h156.1 rfl
                                have h158 : ib J2_c0_2 0 1599 := ⟨(hJ2_c0_2).1, by have := (hJ2_c0_2).2; have := h51; have := (h124).2; omega⟩
                                have h159 : ib v127 1 1600 := ⟨by have := (h136).1; have := h151; have := (h122).1; omega, (h136).2⟩
                                have h160 : ib J2_c0_111 0 1624 := ⟨(hJ2_c0_111).1, by have := (hJ2_c0_111).2; have := h42; have := (h123).1; have := hL0; have := (h158).2; omega⟩
                                have h161 : ib x_at 0 1599 := ⟨(hx_at).1, by have := (hx_at).2; have := hJ2_lin2; have := (h158).2; omega⟩
                                refine lv_iconst (v := 0) hx hb dX10_qTest_105 rfl ?_
                                refine lv_istore_n (lv' := [(1, .int 0), (2, .int r43), (0, .ref a_this)]) hx hb dX10_qTest_106 rfl hl (Nat.le_of_ble_eq_true rfl) rfl (fun ls hl => ?_)
                                refine lv_goto (tgt := 2) hx hb dX10_qTest_107 rfl ?_
                                exact ih2 0 v127 v128 v129 v130 v131 v132 v133 f134 f135 H locs ls (ib_w 0 1 (ib_c 0 0 0 rfl) rfl) (ib_w 0 1600 h159 rfl) (ib_w 0 1625 h138 rfl) (ib_w 0 1625 h139 rfl) (by have := hJ2_lin0; have := h42; have := h51; have := h66; have := h117; have := h149; have := h107; omega) (by have := h149; have := h117; have := h107; have := hJ2_lin1; have := h42; have := h66; have := hL0; have := h51; omega) (by have := (h159).1; have := h151; have := h118; have := h66; have := (h161).2; have := hJ2_lin2; have := h51; omega) (fun _ => ib_one hx_bad rfl) (⟨⟨fun _ e => absurd rfl e, fun q _ => ⟨((fun q => (h153 (ib_one h157 rfl) q).1) q), ((fun q => (h153 (ib_one h157 rfl) q).2) q)⟩⟩, fun q9 => (by have := h42; have := h51; have := h117; have := h66; have := h149; have := (h150 q9); have := h107; omega)⟩) (by rw [← hK2]; try simp only [show (0 : Int32).toInt = (0 : Int) from rfl]; exact hq) (by have z0 := stq_0 (a := J2_l1) (b := J2_c0_5) (ib_nz h36 rfl) (ib_one h41 rfl); have z2 := stq_1 (a := 0) (b := v129) (Or.inl rfl); have := (h158).2; have := h51; have := h66; have := h118; have := h151; have := (h159).1; omega) (hP.sub [17, 18, 0, 1, 2, 3, 4, 5, 6, 7, 8, 9, 10, 11, 12, 13, 14, 15, 21, 16, 22, 19, 20] rfl) (hD.sub [17, 18, 0, 1, 2, 3, 4, 5, 6, 7, 8, 9, 10, 11, 12, 13, 14, 15, 21, 16, 22, 19, 20] (by decide +kernel) rfl) hS (lv_sub hl [2, 0] rfl)
                              · replace hq := lf_neg hq (lf_ne (lf_rf r125) (lf_lc 0 (0 : Int) rfl) c155)
                                have h162 : ib r125 1 1 := ib_w 1 1 (ib_ne_lo 0 h140 rfl c155) rfl
                                have h163 : ib v127 2 1600 := ib_w 2 1600 (ib_two h136 (h141 (ib_nz h162 rfl))) rfl
                                have h164 : ib v128 2 1600 := ib_w 2 1600 (ib_two (ib_any v128) (h142 (ib_nz h162 rfl))) rfl
                                have h165 : ib v129 0 0 := ib_w 0 0 (ib_two h137 (h143 (ib_nz h162 rfl))) rfl
                                have h166 := h150 (ib_one h165 rfl)
                                have h167 : ib J2_c0_2 0 1599 := ⟨(hJ2_c0_2).1, by have := (hJ2_c0_2).2; have := h51; have := (h124).2; omega⟩
                                have h168 : ib v132 1 1622 := ib_w 1 1622 (ib_two h139 (h144 (ib_nz h162 rfl))) rfl
                                have h169 : ib x_end 1 1600 := ib_w 1 1600 (ib_two hx_end (h145 (ib_nz h162 rfl))) rfl
                                have h170 : ib v101 0 1620 := ib_w 0 1620 (ib_two h105 (h146 (ib_nz h162 rfl))) rfl
                                have h171 : ib v102 0 1620 := ib_w 0 1620 (ib_two h116 (h147 (ib_nz h162 rfl))) rfl
                                have h172 : ib J2_c0_111 0 1624 := ⟨(hJ2_c0_111).1, by have := (hJ2_c0_111).2; have := h42; have := (h123).1; have := hL0; have := (h167).2; omega⟩
                                have h173 : ib x_at 0 1599 := ⟨(hx_at).1, by have := (hx_at).2; have := hJ2_lin2; have := (h167).2; omega⟩
                                refine lv_iconst (v := 1) hx hb dX10_qTest_101 rfl ?_
                                refine lv_goto (tgt := 106) hx hb dX10_qTest_102 rfl ?_
                                refine lv_istore_n (lv' := [(1, .int 1), (2, .int r43), (0, .ref a_this)]) hx hb dX10_qTest_106 rfl hl (Nat.le_of_ble_eq_true rfl) rfl (fun ls hl => ?_)
                                refine lv_goto (tgt := 2) hx hb dX10_qTest_107 rfl ?_
                                exact ih2 1 v127 v128 v129 v130 v131 v132 v133 f134 f135 H locs ls (ib_w 0 1 (ib_c 1 1 1 rfl) rfl) (ib_w 0 1600 h163 rfl) (ib_w 0 1625 h138 rfl) (ib_w 0 1625 h168 rfl) (by have := h42; have := h51; have := h66; have := h91; have := h117; have := h149; have := h107; omega) (by have := (h163).1; have := h166; have := h117; have := h107; have := (h168).2; have := (h138).2; have := hJ2_lin1; have := h66; have := h51; omega) (by have := (h163).1; have := h151; have := h118; have := h66; have := (h173).2; have := hJ2_lin2; have := h51; omega) (fun _ => ib_one hx_bad rfl) (⟨⟨fun q _ => ((fun q => h152 (ib_nz h162 rfl) q) q), fun _ e => absurd e (by decide)⟩, fun q9 => (by have := h42; have := h51; have := h117; have := h66; have := h149; have := h166; have := h107; omega)⟩) (by rw [← hK2]; try simp only [show (1 : Int32).toInt = (1 : Int) from rfl]; exact hq) (by have z0 := stq_0 (a := J2_l1) (b := J2_c0_5) (ib_nz h36 rfl) (ib_one h41 rfl); by_cases q8 : v129 = 0; exact (by have z1 := stq_le 1 v129; have := (h167).2; have := h51; have := h66; have := h118; have := h151; have := (h163).1; omega); exact (by have z2 := stq_1 (a := 1) (b := v129) (Or.inr q8); have := (h167).2; have := h51; have := h66; have := h118; have := h151; have := (h163).1; omega)) (hP.sub [17, 18, 0, 1, 2, 3, 4, 5, 6, 7, 8, 9, 10, 11, 12, 13, 14, 15, 21, 16, 22, 19, 20] rfl) (hD.sub [17, 18, 0, 1, 2, 3, 4, 5, 6, 7, 8, 9, 10, 11, 12, 13, 14, 15, 21, 16, 22, 19, 20] (by decide +kernel) rfl) hS (lv_sub hl [2, 0] rfl)
                    · as_aux_lemma =>
                        replace hq := lf_neg hq (lf_ne (lf_rf r57) (lf_lc 0 (0 : Int) rfl) c73)
                        have h174 : ib r57 1 1 := ib_w 1 1 (ib_ne_lo 0 h61 rfl c73) rfl
                        have h175 : ib v59 0 1597 := ib_w 0 1597 (ib_two h60 (h62 (ib_nz h174 rfl))) rfl
                        have h176 : ib v45 0 1597 := ib_w 0 1597 (ib_two h46 (h63 (ib_nz h174 rfl))) rfl
                        have h177 : ib x_end 1 1600 := ib_w 1 1600 (ib_two hx_end (h64 (ib_nz h174 rfl))) rfl
                        have h178 : ib J2_c0_2 0 1597 := ⟨(hJ2_c0_2).1, by have := (hJ2_c0_2).2; have := h51; have := (h176).2; omega⟩
                        refine lv_aload_n hx hb dX10_qTest_58 rfl (lv_at hl 1 rfl) ?_
                        refine lv_bipush (v := 12) hx hb dX10_qTest_59 rfl ?_
                        refine lv_aload_n hx hb dX10_qTest_61 rfl (lv_at hl 1 rfl) ?_
                        refine k_get C0 fg_X10_285 hP 20 rfl rfl dX10_qTest_62 ?_
                        refine k_jvm hP hD hS hA [20, 15] [true, true, true, true, true, true, true, true, true, true, true, true, true, true, true, false, true, true, true, true, false, true, true] rfl rfl (by decide +kernel) 0 0 (Nat.le_of_ble_eq_true rfl) (Nat.le_of_ble_eq_true rfl) (fun hPc hDc => k_runV (As := [.int 12, .int v59]) (rest := []) C0 hZ hS hA (s_X10_qOpens_a0_12 l dC dI cy sq a_this rm x_taped v59 x_end J2_c0_4 J2_c0_5 J2_c0_6 x_fault x_faultPlace x_namePlace x_awayTold x_away x_coded x_statements x_isCrossing x_textKind x_askSecond x_redMany x_isOpen x_lastGreen x_greenTo x_isCycleGreen x_stillGreen x_rowMany x_fitMany x_fitRules x_fitGreen x_undoable x_newest x_seeded J2_c0_111 J2_c0_113 J2_c0_114 x_qBase x_qPiled x_qAnswer x_qIsNew x_octets J2_a18 v59 (ib_w 0 1699 hJ2_c0_113 rfl)) mV_X10_626 hPc hDc rfl rfl rfl hl rfl rfl (Nat.le_of_ble_eq_true rfl) ⟨(Nat.le_of_ble_eq_true rfl), (Nat.le_of_ble_eq_true rfl)⟩ ⟨(Nat.le_of_ble_eq_true rfl), (Nat.le_of_ble_eq_true rfl)⟩ dX10_qTest_65) (fun u180 H locs hw hP hD hS => ?_)
                        obtain ⟨v181, v182, v183, v184, f185⟩ := u180
                        try dsimp only at hP hD hw
                        replace hP : va_P (dC, dI) vwCl [(wi_rm94_2_3_0 rm cy g_allAsked), (wi_rm97_2_6_0 rm cy g_secondAsked), (wi_rm98_2_3_0 rm cy g_dayAsked), (wi_rm99_2_5_0 rm cy g_phaseAsked), (wi_rm100_2_6_0 rm cy g_waitedAsked), (wi_rm101_2_4_0 rm cy g_calmAsked), (wi_rm102_2_4_0 rm cy g_paceAsked), (wi_rm103_2_6_0 rm cy g_trustsAsked), (wi_rm104_2_3_0 rm cy g_gapAsked), (wi_rm105_2_4_0 rm cy g_redsAsked), (wi_rm106_2_6_0 rm cy g_numberAsked), (wi_rm107_2_4_0 rm cy g_wentAsked), (wi_rm108_2_4_0 rm cy g_harmAsked), (wi_rm109_2_4_0 rm cy g_kindofAsked), (wi_rm95_2_3_0 rm cy g_minAsked), (wi_rm96_2_3_0 rm cy g_maxAsked), (wi_rm110_0_1700_0 rm cy J2_a20), (wi_rm92_2_3_0 rm cy g_andAsked), (wi_rm93_2_2_0 rm cy g_orAsked), (wi_rm0_0_1600_0 rm cy g_tape), (wi_rm91_2_3_0 rm cy g_notAsked), (a_this, .inr (10, mfs rm x_taped v59 x_end J2_c0_4 v181 v182 x_fault x_faultPlace x_namePlace x_awayTold x_away x_coded x_statements x_isCrossing x_textKind x_askSecond x_redMany x_isOpen x_lastGreen x_greenTo x_isCycleGreen x_stillGreen x_rowMany x_fitMany x_fitRules x_fitGreen x_undoable x_newest x_seeded J2_c0_111 v183 v184 x_qBase x_qPiled x_qAnswer x_qIsNew x_octets)), (wi_rm112_0_1700_0 rm cy f185)] H := hP
                        replace hD := k_D hP hD
                        obtain ⟨h186, h187, h188, h189, h190, h191⟩ := hw
                        replace hq := lf_p1 hq h191
                        replace hq := lf_p1 hq rfl
                        replace hq := lf_p1 hq rfl
                        replace hq := lf_p1 hq rfl
                        have h192 : v181 = 0 → GS J2_a20 J2_c0_111 f185 v183 v183 x_textKind cc := fun q => (by rw [(h190 q).1]; exact GS_openT ((fun q => hJ2_go.1.1 q c31) (h187 q)) (by have := (h190 q).2; omega) (by decide))
                        refine lv_aload_n hx hb dX10_qTest_68 rfl (lv_at hl 1 rfl) ?_
                        refine lv_aload_n hx hb dX10_qTest_69 rfl (lv_at hl 1 rfl) ?_
                        refine k_get C0 fg_X10_207 hP 21 rfl rfl dX10_qTest_70 ?_
                        refine k_jvm hP hD hS hA [21, 19, 20] [true, true, true, true, true, true, true, true, true, true, true, true, true, true, true, true, true, true, true, false, false, false, true] rfl rfl (by decide +kernel) 0 0 (Nat.le_of_ble_eq_true rfl) (Nat.le_of_ble_eq_true rfl) (fun hPc hDc => k_runV (As := [.ref (rm 91)]) (rest := []) C0 hZ hS hA (s_X10_asks l dC dI cy sq a_this rm x_taped v59 x_end J2_c0_4 v181 v182 x_fault x_faultPlace x_namePlace x_awayTold x_away x_coded x_statements x_isCrossing x_textKind x_askSecond x_redMany x_isOpen x_lastGreen x_greenTo x_isCycleGreen x_stillGreen x_rowMany x_fitMany x_fitRules x_fitGreen x_undoable x_newest x_seeded J2_c0_111 v183 v184 x_qBase x_qPiled x_qAnswer x_qIsNew x_octets g_tape (rm 91) g_notAsked (ib_w 0 1600 h175 rfl) (ib_w 0 1600 h177 rfl) hg_tape) mV_X10_350 hPc hDc rfl rfl rfl hl rfl rfl (Nat.le_of_ble_eq_true rfl) ⟨(Nat.le_of_ble_eq_true rfl), (Nat.le_of_ble_eq_true rfl)⟩ ⟨(Nat.le_of_ble_eq_true rfl), (Nat.le_of_ble_eq_true rfl)⟩ dX10_qTest_73) (fun u194 H locs hw hP hD hS => ?_)
                        obtain ⟨v195, v196, v197, v198⟩ := u194
                        try dsimp only at hP hD hw
                        replace hP : va_P (dC, dI) vwCl [(wi_rm94_2_3_0 rm cy g_allAsked), (wi_rm97_2_6_0 rm cy g_secondAsked), (wi_rm98_2_3_0 rm cy g_dayAsked), (wi_rm99_2_5_0 rm cy g_phaseAsked), (wi_rm100_2_6_0 rm cy g_waitedAsked), (wi_rm101_2_4_0 rm cy g_calmAsked), (wi_rm102_2_4_0 rm cy g_paceAsked), (wi_rm103_2_6_0 rm cy g_trustsAsked), (wi_rm104_2_3_0 rm cy g_gapAsked), (wi_rm105_2_4_0 rm cy g_redsAsked), (wi_rm106_2_6_0 rm cy g_numberAsked), (wi_rm107_2_4_0 rm cy g_wentAsked), (wi_rm108_2_4_0 rm cy g_harmAsked), (wi_rm109_2_4_0 rm cy g_kindofAsked), (wi_rm95_2_3_0 rm cy g_minAsked), (wi_rm96_2_3_0 rm cy g_maxAsked), (wi_rm110_0_1700_0 rm cy J2_a20), (wi_rm92_2_3_0 rm cy g_andAsked), (wi_rm93_2_2_0 rm cy g_orAsked), (wi_rm112_0_1700_0 rm cy f185), (a_this, .inr (10, mfs rm x_taped v195 x_end v196 v197 v198 x_fault x_faultPlace x_namePlace x_awayTold x_away x_coded x_statements x_isCrossing x_textKind x_askSecond x_redMany x_isOpen x_lastGreen x_greenTo x_isCycleGreen x_stillGreen x_rowMany x_fitMany x_fitRules x_fitGreen x_undoable x_newest x_seeded J2_c0_111 v183 v184 x_qBase x_qPiled x_qAnswer x_qIsNew x_octets)), (wi_rm0_0_1600_0 rm cy g_tape), (wi_rm91_2_3_0 rm cy g_notAsked)] H := hP
                        replace hD := k_D hP hD
                        obtain ⟨h199, h200, h201, h202, h203⟩ := hw
                        replace hq := lf_p1 hq h203
                        replace hq := lf_p1 hq rfl
                        replace hq := lf_p1 hq rfl
                        refine lv_goto (tgt := 2) hx hb dX10_qTest_76 rfl ?_
                        exact ih2 J2_l1 v195 v196 v197 v198 J2_c0_111 v183 v184 f185 J2_a20 H locs ls (ib_w 0 1 h36 rfl) (ib_w 0 1600 h199 rfl) (ib_w 0 1625 hJ2_c0_111 rfl) ⟨by have := (h186).1; omega, by have := (h178).2; have := h42; have := hL0; have := (hJ2_c0_113).2; have := h188; have := (hJ2_c0_111).1; omega⟩ (by have := h42; have := (h178).2; have := h51; have := h66; have := h201; have := (h199).1; have := h188; omega) (by have := h201; have := h66; have := h51; have := hJ2_lin1; have := h42; have := hL0; have := h188; omega) (by have := (h199).1; have := h201; have := h66; have := h51; have := hJ2_lin2; have := (hx_at).2; omega) (fun _ => ib_one hx_bad rfl) (⟨⟨fun q _ => (h192 (h200 q)), fun _ e => absurd e (ib_nz h36 rfl)⟩, fun q9 => (by have := h42; have := (h178).2; have := h51; have := h188; have := h66; have := (h202 q9); have := (h199).1; omega)⟩) (by rw [← hK2]; exact hq) (by have z0 := stq_0 (a := J2_l1) (b := J2_c0_5) (ib_nz h36 rfl) (ib_one h41 rfl); by_cases q8 : v197 = 0; exact (by have z1 := stq_le J2_l1 v197; have := (h178).2; have := h51; have := h66; have := (h202 q8); have := (h199).1; omega); exact (by have z2 := stq_1 (a := J2_l1) (b := v197) (Or.inr q8); have := (h178).2; have := h51; have := h66; have := h201; have := (h199).1; omega)) (hP.sub [20, 21, 22, 0, 1, 2, 3, 4, 5, 6, 7, 8, 9, 10, 11, 12, 13, 14, 19, 15, 16, 17, 18] rfl) (hD.sub [20, 21, 22, 0, 1, 2, 3, 4, 5, 6, 7, 8, 9, 10, 11, 12, 13, 14, 19, 15, 16, 17, 18] (by decide +kernel) rfl) hS (lv_sub hl [1, 2] rfl)
                · as_aux_lemma =>
                    replace hq := lf_pos hq (lf_eq (lf_rf r43) (lf_lc 91 (91 : Int) rfl) c56)
                    have h204 := ib_eq h47 (ib_c 91 91 91 rfl) c56
                    have h205 : ib r43 91 91 := ib_w 91 91 h204.1 rfl
                    have h206 : ib v45 0 1599 := ib_w 0 1599 (ib_two h46 (h48 (ib_nc (-1) h205 rfl))) rfl
                    have h207 : ib J2_c0_2 0 1599 := ib_w 0 1599 (ib_two hJ2_c0_2 (h49 (ib_nc (-1) h205 rfl))) rfl
                    have h208 : ib x_end 1 1600 := ib_w 1 1600 (ib_two hx_end (h50 (ib_nc (-1) h205 rfl))) rfl
                    have h209 : ib J2_c0_111 0 1624 := ⟨(hJ2_c0_111).1, by have := (hJ2_c0_111).2; have := h42; have := hL0; have := (h207).2; have := (hJ2_c0_113).1; omega⟩
                    have h210 : ib J2_c0_113 0 1624 := ⟨(hJ2_c0_113).1, by have := (hJ2_c0_113).2; have := h42; have := hL0; have := (h207).2; have := (h209).1; omega⟩
                    have h211 : ib x_at 0 1599 := ⟨(hx_at).1, by have := (hx_at).2; have := hJ2_lin2; have := (h207).2; omega⟩
                    refine lv_aload_n hx hb dX10_qTest_24 rfl (lv_at hl 1 rfl) ?_
                    refine lv_bipush (v := 25) hx hb dX10_qTest_25 rfl ?_
                    refine lv_aload_n hx hb dX10_qTest_27 rfl (lv_at hl 1 rfl) ?_
                    refine k_get C0 fg_X10_285 hP 21 rfl rfl dX10_qTest_28 ?_
                    refine k_jvm hP hD hS hA [21, 16] [true, true, true, true, true, true, true, true, true, true, true, true, true, true, true, true, false, true, true, true, true, false, true] rfl rfl (by decide +kernel) 0 0 (Nat.le_of_ble_eq_true rfl) (Nat.le_of_ble_eq_true rfl) (fun hPc hDc => k_runV (As := [.int 25, .int v45]) (rest := []) C0 hZ hS hA (s_X10_qOpens_a0_25 l dC dI cy sq a_this rm x_taped v45 x_end J2_c0_4 J2_c0_5 J2_c0_6 x_fault x_faultPlace x_namePlace x_awayTold x_away x_coded x_statements x_isCrossing x_textKind x_askSecond x_redMany x_isOpen x_lastGreen x_greenTo x_isCycleGreen x_stillGreen x_rowMany x_fitMany x_fitRules x_fitGreen x_undoable x_newest x_seeded J2_c0_111 J2_c0_113 J2_c0_114 x_qBase x_qPiled x_qAnswer x_qIsNew x_octets J2_a18 v45 (ib_w 0 1699 h210 rfl)) mV_X10_626 hPc hDc rfl rfl rfl hl rfl rfl (Nat.le_of_ble_eq_true rfl) ⟨(Nat.le_of_ble_eq_true rfl), (Nat.le_of_ble_eq_true rfl)⟩ ⟨(Nat.le_of_ble_eq_true rfl), (Nat.le_of_ble_eq_true rfl)⟩ dX10_qTest_31) (fun u213 H locs hw hP hD hS => ?_)
                    obtain ⟨v214, v215, v216, v217, f218⟩ := u213
                    try dsimp only at hP hD hw
                    replace hP : va_P (dC, dI) vwCl [(wi_rm91_2_3_0 rm cy g_notAsked), (wi_rm94_2_3_0 rm cy g_allAsked), (wi_rm97_2_6_0 rm cy g_secondAsked), (wi_rm98_2_3_0 rm cy g_dayAsked), (wi_rm99_2_5_0 rm cy g_phaseAsked), (wi_rm100_2_6_0 rm cy g_waitedAsked), (wi_rm101_2_4_0 rm cy g_calmAsked), (wi_rm102_2_4_0 rm cy g_paceAsked), (wi_rm103_2_6_0 rm cy g_trustsAsked), (wi_rm104_2_3_0 rm cy g_gapAsked), (wi_rm105_2_4_0 rm cy g_redsAsked), (wi_rm106_2_6_0 rm cy g_numberAsked), (wi_rm107_2_4_0 rm cy g_wentAsked), (wi_rm108_2_4_0 rm cy g_harmAsked), (wi_rm109_2_4_0 rm cy g_kindofAsked), (wi_rm95_2_3_0 rm cy g_minAsked), (wi_rm96_2_3_0 rm cy g_maxAsked), (wi_rm110_0_1700_0 rm cy J2_a20), (wi_rm92_2_3_0 rm cy g_andAsked), (wi_rm93_2_2_0 rm cy g_orAsked), (wi_rm0_0_1600_0 rm cy g_tape), (a_this, .inr (10, mfs rm x_taped v45 x_end J2_c0_4 v214 v215 x_fault x_faultPlace x_namePlace x_awayTold x_away x_coded x_statements x_isCrossing x_textKind x_askSecond x_redMany x_isOpen x_lastGreen x_greenTo x_isCycleGreen x_stillGreen x_rowMany x_fitMany x_fitRules x_fitGreen x_undoable x_newest x_seeded J2_c0_111 v216 v217 x_qBase x_qPiled x_qAnswer x_qIsNew x_octets)), (wi_rm112_0_1700_0 rm cy f218)] H := hP
                    replace hD := k_D hP hD
                    obtain ⟨h219, h220, h221, h222, h223, h224⟩ := hw
                    replace hq := lf_p1 hq h224
                    replace hq := lf_p1 hq rfl
                    replace hq := lf_p1 hq rfl
                    replace hq := lf_p1 hq rfl
                    have h225 : v214 = 0 → GS J2_a20 J2_c0_111 f218 v216 v216 x_textKind cc := fun q => (by rw [(h223 q).1]; exact GS_openT ((fun q => hJ2_go.1.1 q c31) (h220 q)) (by have := (h223 q).2; omega) (by decide))
                    refine lv_aload_n hx hb dX10_qTest_34 rfl (lv_at hl 1 rfl) ?_
                    refine lv_dup hx hb dX10_qTest_35 rfl ?_
                    refine k_get C0 fg_X10_285 hP 21 rfl rfl dX10_qTest_36 ?_
                    refine lv_iconst (v := 1) hx hb dX10_qTest_39 rfl ?_
                    refine lv_iadd hx hb dX10_qTest_40 ?_
                    refine lv_topi (fun z226 ez226 => ?_)
                    have h227 := ib_add h206 (ib_c 1 1 1 rfl) rfl
                    rw [← ez226] at h227
                    have h228 : ib z226 1 1600 := ib_w 1 1600 h227.1 rfl
                    have Ez226 := lf_add h227.2 (lf_rf v45) (lf_lc 1 (1 : Int) rfl)
                    refine k_put C0 fp_X10_285 hP hD hS 21 rfl rfl rfl (Nat.le_of_ble_eq_true rfl) dX10_qTest_41 (fun H locs hP hD hS => ?_)
                    replace hP : va_P (dC, dI) vwCl [(wi_rm91_2_3_0 rm cy g_notAsked), (wi_rm94_2_3_0 rm cy g_allAsked), (wi_rm97_2_6_0 rm cy g_secondAsked), (wi_rm98_2_3_0 rm cy g_dayAsked), (wi_rm99_2_5_0 rm cy g_phaseAsked), (wi_rm100_2_6_0 rm cy g_waitedAsked), (wi_rm101_2_4_0 rm cy g_calmAsked), (wi_rm102_2_4_0 rm cy g_paceAsked), (wi_rm103_2_6_0 rm cy g_trustsAsked), (wi_rm104_2_3_0 rm cy g_gapAsked), (wi_rm105_2_4_0 rm cy g_redsAsked), (wi_rm106_2_6_0 rm cy g_numberAsked), (wi_rm107_2_4_0 rm cy g_wentAsked), (wi_rm108_2_4_0 rm cy g_harmAsked), (wi_rm109_2_4_0 rm cy g_kindofAsked), (wi_rm95_2_3_0 rm cy g_minAsked), (wi_rm96_2_3_0 rm cy g_maxAsked), (wi_rm110_0_1700_0 rm cy J2_a20), (wi_rm92_2_3_0 rm cy g_andAsked), (wi_rm93_2_2_0 rm cy g_orAsked), (wi_rm0_0_1600_0 rm cy g_tape), (a_this, .inr (10, mfs rm x_taped z226 x_end J2_c0_4 v214 v215 x_fault x_faultPlace x_namePlace x_awayTold x_away x_coded x_statements x_isCrossing x_textKind x_askSecond x_redMany x_isOpen x_lastGreen x_greenTo x_isCycleGreen x_stillGreen x_rowMany x_fitMany x_fitRules x_fitGreen x_undoable x_newest x_seeded J2_c0_111 v216 v217 x_qBase x_qPiled x_qAnswer x_qIsNew x_octets)), (wi_rm112_0_1700_0 rm cy f218)] H := hP
                    replace hD := k_D hP hD
                    refine lv_goto (tgt := 2) hx hb dX10_qTest_44 rfl ?_
                    exact ih2 J2_l1 z226 J2_c0_4 v214 v215 J2_c0_111 v216 v217 f218 J2_a20 H locs ls (ib_w 0 1 h36 rfl) (ib_w 0 1600 h228 rfl) (ib_w 0 1625 h209 rfl) ⟨by have := (h219).1; omega, by have := (h210).2; have := h221; have := (h219).2; omega⟩ (by have := hJ2_lin0; have := h51; have := h221; have := h227.2; have : (1 : Int32).toInt = 1 := rfl; omega) (by have := (h228).1; have := h227.2; have : (1 : Int32).toInt = 1 := rfl; have := h51; have := hJ2_lin1; have := h221; have := (h219).2; have := (h209).2; omega) (by have := (h228).1; have := h227.2; have : (1 : Int32).toInt = 1 := rfl; have := h51; have := hJ2_lin2; have := (h211).2; omega) (fun _ => ib_one hx_bad rfl) (⟨⟨fun q _ => (h225 q), fun _ e => absurd e (ib_nz h36 rfl)⟩, fun q9 => (by have := hJ2_lin0; have := h42; have := h51; have := h221; have := h227.2; have : (1 : Int32).toInt = 1 := rfl; omega)⟩) (by rw [← hK2]; rw [lf_u Ez226]; exact hq) (by have z0 := stq_0 (a := J2_l1) (b := J2_c0_5) (ib_nz h36 rfl) (ib_one h41 rfl); by_cases q8 : v214 = 0; exact (by have z1 := stq_le J2_l1 v214; have := h51; have := h227.2; have : (1 : Int32).toInt = 1 := rfl; omega); exact (by have z2 := stq_1 (a := J2_l1) (b := v214) (Or.inr q8); have := h51; have := h227.2; have : (1 : Int32).toInt = 1 := rfl; omega)) (hP.sub [21, 20, 0, 1, 2, 3, 4, 5, 6, 7, 8, 9, 10, 11, 12, 13, 14, 15, 22, 16, 17, 18, 19] rfl) (hD.sub [21, 20, 0, 1, 2, 3, 4, 5, 6, 7, 8, 9, 10, 11, 12, 13, 14, 15, 22, 16, 17, 18, 19] (by decide +kernel) rfl) hS (lv_sub hl [1, 2] rfl)
  refine lv_iconst (v := 1) hx hb dX10_qTest_0 rfl ?_
  refine lv_istore_n (lv' := [(1, .int 1), (0, .ref a_this)]) hx hb dX10_qTest_1 rfl hl (Nat.le_of_ble_eq_true rfl) rfl (fun ls hl => ?_)
  exact jn2 3203 1 x_at x_ended x_bad x_badPlace x_qCoded x_qWaits x_qOpened g_qWait g_qCodes H locs ls (ib_w 0 1 (ib_c 1 1 1 rfl) rfl) (ib_w 0 1600 hx_at rfl) ⟨by have := (hx_qCoded).1; omega, by have := (hx_at).2; have := hL0; have := (hx_qWaits).1; have := (hx_qCoded).2; omega⟩ ⟨by have := (hx_qWaits).1; omega, by have := (hx_at).2; have := hL0; have := (hx_qWaits).2; have := (hx_qCoded).1; omega⟩ (by omega) (by have := hL0; omega) (by omega) (fun q => q) (⟨⟨fun q _ => (hGS q), fun _ e => absurd e (by decide)⟩, fun q9 => (by omega)⟩) (by try simp only [show (1 : Int32).toInt = (1 : Int) from rfl]; exact hq) (by have q1 := (hx_at).1; have q2 := (stq_le 1 x_bad).1; omega) hP hD hS (lv_sub hl [1, 0] rfl)
set_option maxHeartbeats 4000000 in
set_option maxRecDepth 100000 in
theorem s_X10_qOf (l : Launch) (dC : Nat → ClassId) (dI : Nat → Nat → Nat) (cy : Nat → ClassId) (sq : Nat → Nat) (a_this : Nat) (rm : Nat → Nat) (x_taped : Int32) (x_at : Int32) (x_end : Int32) (x_ended : Int32) (x_bad : Int32) (x_badPlace : Int32) (x_fault : Int32) (x_faultPlace : Int32) (x_namePlace : Int32) (x_awayTold : Int32) (x_away : Int32) (x_coded : Int32) (x_statements : Int32) (x_isCrossing : Int32) (x_textKind : Int32) (x_askSecond : Int32) (x_redMany : Int32) (x_isOpen : Int32) (x_lastGreen : Int32) (x_greenTo : Int32) (x_isCycleGreen : Int32) (x_stillGreen : Int32) (x_rowMany : Int32) (x_fitMany : Int32) (x_fitRules : Int32) (x_fitGreen : Int32) (x_undoable : Int32) (x_newest : Int32) (x_seeded : Int64) (x_qCoded : Int32) (x_qWaits : Int32) (x_qOpened : Int32) (x_qBase : Int32) (x_qPiled : Int32) (x_qAnswer : Int64) (x_qIsNew : Int32) (x_octets : Int32) (g_walkers : Nat → Int32) (p0 : Int32) (p1 : Int64) (p2 : Int32) (hpg_walkers : ip g_walkers 48 2 0 0 5) (hp2 : ib p2 0 11) : k_Met l yX10_qOf cX10_qOf 5 (some .long) { frames := 1, cells := 0, slots := 0, locals := 21 } dC dI cy sq [.ref a_this, .int p0, .long p1, .int p2] [(a_this, .inr (10, mfs rm x_taped x_at x_end x_ended x_bad x_badPlace x_fault x_faultPlace x_namePlace x_awayTold x_away x_coded x_statements x_isCrossing x_textKind x_askSecond x_redMany x_isOpen x_lastGreen x_greenTo x_isCycleGreen x_stillGreen x_rowMany x_fitMany x_fitRules x_fitGreen x_undoable x_newest x_seeded x_qCoded x_qWaits x_qOpened x_qBase x_qPiled x_qAnswer x_qIsNew x_octets)), (wi_rm46_0_48_0 rm cy g_walkers)] (k_Ql dC dI (fun (r : Int64) (_ : Unit) => (F_X10_qOf (lf_A g_walkers) (Int64.toInt p1) (Int32.toInt p2) = ((Int64.toInt r)))) (fun _ : Unit => [(a_this, .inr (10, mfs rm x_taped x_at x_end x_ended x_bad x_badPlace x_fault x_faultPlace x_namePlace x_awayTold x_away x_coded x_statements x_isCrossing x_textKind x_askSecond x_redMany x_isOpen x_lastGreen x_greenTo x_isCycleGreen x_stillGreen x_rowMany x_fitMany x_fitRules x_fitGreen x_undoable x_newest x_seeded x_qCoded x_qWaits x_qOpened x_qBase x_qPiled x_qAnswer x_qIsNew x_octets)), (wi_rm46_0_48_0 rm cy g_walkers)])) := by
  refine k_ofW2 (by decide +kernel) (Nat.le_of_ble_eq_true rfl) ?_
  intro p e s m below meth c A ls H locs args Q hQ C0 hZ hr hlk hin hP hD hA hS hl
  have C0 : k_cx p s m args c cX10_qOf 5 RX10 dC dI cy sq := C0
  have hx := C0.1
  have hb := C0.2.1
  have hl : lv_has ls 5 [(0, .ref a_this), (1, .int p0), (2, .long p1), (4, .int p2)] := hl
  obtain ⟨O, hO⟩ : ∃ o, o = F_X10_qOf (lf_A g_walkers) (Int64.toInt p1) (Int32.toInt p2) := ⟨_, rfl⟩
  have hq := hO
  unfold F_X10_qOf at hq
  refine lv_iload_n hx hb dX10_qOf_0 rfl (lv_at hl 1 rfl) ?_
  refine lv_lookup (tgt := 12) hx hb dX10_qOf_1 (by decide) (off := 11) rfl (by decide) ?_
  refine lv_aload_n hx hb dX10_qOf_12 rfl (lv_at hl 0 rfl) ?_
  refine lv_iload hx hb dX10_qOf_13 (lv_at hl 3 rfl) ?_
  refine k_jim hP hD hS hA [0, 1] [] rfl rfl rfl 0 0 (Nat.le_of_ble_eq_true rfl) (Nat.le_of_ble_eq_true rfl) (fun hPc hDc => k_runV (As := [.int p2]) (rest := []) C0 hZ hS hA (s_X10_kindOf l dC dI cy sq a_this rm x_taped x_at x_end x_ended x_bad x_badPlace x_fault x_faultPlace x_namePlace x_awayTold x_away x_coded x_statements x_isCrossing x_textKind x_askSecond x_redMany x_isOpen x_lastGreen x_greenTo x_isCycleGreen x_stillGreen x_rowMany x_fitMany x_fitRules x_fitGreen x_undoable x_newest x_seeded x_qCoded x_qWaits x_qOpened x_qBase x_qPiled x_qAnswer x_qIsNew x_octets g_walkers p2 hpg_walkers (ib_w 0 11 hp2 rfl)) mV_X10_436 hPc hDc rfl rfl rfl hl rfl rfl (Nat.le_of_ble_eq_true rfl) ⟨(Nat.le_of_ble_eq_true rfl), (Nat.le_of_ble_eq_true rfl)⟩ ⟨(Nat.le_of_ble_eq_true rfl), (Nat.le_of_ble_eq_true rfl)⟩ dX10_qOf_15) (fun r2 u3 H locs hw hP hD hS => ?_)
  try dsimp only at hP hD hw
  replace hP : va_P (dC, dI) vwCl [(a_this, .inr (10, mfs rm x_taped x_at x_end x_ended x_bad x_badPlace x_fault x_faultPlace x_namePlace x_awayTold x_away x_coded x_statements x_isCrossing x_textKind x_askSecond x_redMany x_isOpen x_lastGreen x_greenTo x_isCycleGreen x_stillGreen x_rowMany x_fitMany x_fitRules x_fitGreen x_undoable x_newest x_seeded x_qCoded x_qWaits x_qOpened x_qBase x_qPiled x_qAnswer x_qIsNew x_octets)), (wi_rm46_0_48_0 rm cy g_walkers)] H := hP
  replace hD := k_D hP hD
  obtain ⟨h4, h5⟩ := hw
  replace hq := lf_b1 hq h5
  refine lv_i2l (v := r2.toInt64) hx hb dX10_qOf_18 rfl ?_
  refine lv_lload_n hx hb dX10_qOf_19 rfl (lv_at hl 2 rfl) ?_
  refine W.lcmp hx hb dX10_qOf_20 ?_
  refine lv_topi (fun z6 ez6 => ?_)
  have h7 : ib z6 (-1) 1 := by rw [ez6]; exact ib_cmp _ _
  have Ez6 := lf_cmpe ez6 (lf_i2l (lf_rf r2)) (lf_rl p1)
  refine lv_if_ne (tgt := 28) hx hb dX10_qOf_21 rfl (fun c8 => ?_) (fun c8 => ?_)
  · replace hq := lf_neg hq (lf_ne Ez6 (lf_lc 0 (0 : Int) rfl) c8)
    refine lv_lconst (v := 0) hx hb dX10_qOf_28 (by decide) ?_
    subst hQ; exact k_lret hx hb hr hlk () hS ((hO.symm.trans (by try simp only [show (0 : Int64).toInt = (0 : Int) from rfl]; exact hq))) hP hD (Nat.le_of_ble_eq_true rfl) (Nat.le_of_ble_eq_true rfl) dX10_qOf_29
  · replace hq := lf_pos hq (lf_eq Ez6 (lf_lc 0 (0 : Int) rfl) c8)
    have h9 := ib_eq h7 (ib_c 0 0 0 rfl) c8
    have h10 : ib z6 0 0 := ib_w 0 0 h9.1 rfl
    refine lv_lconst (v := 1) hx hb dX10_qOf_24 (by decide) ?_
    refine lv_goto (tgt := 29) hx hb dX10_qOf_25 rfl ?_
    subst hQ; exact k_lret hx hb hr hlk () hS ((hO.symm.trans (by try simp only [show (1 : Int64).toInt = (1 : Int) from rfl]; exact hq))) hP hD (Nat.le_of_ble_eq_true rfl) (Nat.le_of_ble_eq_true rfl) dX10_qOf_29
set_option maxHeartbeats 4000000 in
set_option maxRecDepth 100000 in
theorem s_X10_qTold (l : Launch) (dC : Nat → ClassId) (dI : Nat → Nat → Nat) (cy : Nat → ClassId) (sq : Nat → Nat) (a_this : Nat) (rm : Nat → Nat) (x_taped : Int32) (x_at : Int32) (x_end : Int32) (x_ended : Int32) (x_bad : Int32) (x_badPlace : Int32) (x_fault : Int32) (x_faultPlace : Int32) (x_namePlace : Int32) (x_awayTold : Int32) (x_away : Int32) (x_coded : Int32) (x_statements : Int32) (x_isCrossing : Int32) (x_textKind : Int32) (x_askSecond : Int32) (x_redMany : Int32) (x_isOpen : Int32) (x_lastGreen : Int32) (x_greenTo : Int32) (x_isCycleGreen : Int32) (x_stillGreen : Int32) (x_rowMany : Int32) (x_fitMany : Int32) (x_fitRules : Int32) (x_fitGreen : Int32) (x_undoable : Int32) (x_newest : Int32) (x_seeded : Int64) (x_qCoded : Int32) (x_qWaits : Int32) (x_qOpened : Int32) (x_qBase : Int32) (x_qPiled : Int32) (x_qAnswer : Int64) (x_qIsNew : Int32) (x_octets : Int32) (g_bar : Nat → Int32) (g_kinds : Nat → Int32) (g_walkers : Nat → Int32) (g_now : Nat → Int32) (g_gaps : Nat → Int32) (g_waits : Nat → Int32) (g_goes : Nat → Int32) (g_harms : Nat → Int32) (g_qCodes : Nat → Int32) (g_qPile : Nat → Int64) (p0 : Int32) (hx_qCoded : ib x_qCoded 0 1700) (hg_bar_4 : ib (g_bar 4) 10 120) (hpg_walkers : ip g_walkers 48 2 0 0 5) (hg_gaps : ia g_gaps 300 0 20) (hQc : okc g_qCodes 0 false 0 x_qCoded) (hp0 : ib p0 0 11) : k_Met l yX10_qTold cX10_qTold 4 (some .long) { frames := 3, cells := 0, slots := 0, locals := 64 } dC dI cy sq [.ref a_this, .int p0] [(a_this, .inr (10, mfs rm x_taped x_at x_end x_ended x_bad x_badPlace x_fault x_faultPlace x_namePlace x_awayTold x_away x_coded x_statements x_isCrossing x_textKind x_askSecond x_redMany x_isOpen x_lastGreen x_greenTo x_isCycleGreen x_stillGreen x_rowMany x_fitMany x_fitRules x_fitGreen x_undoable x_newest x_seeded x_qCoded x_qWaits x_qOpened x_qBase x_qPiled x_qAnswer x_qIsNew x_octets)), (wi_rm116_1_1700_1 rm cy g_qPile), (wi_rm110_0_1700_0 rm cy g_qCodes), (wi_rm46_0_48_0 rm cy g_walkers), (wi_rm56_0_9_0 rm cy g_now), (wi_rm43_0_8_0 rm cy g_bar), (wi_rm65_0_12_0 rm cy g_waits), (wi_rm44_0_24_0 rm cy g_kinds), (wi_rm61_0_300_0 rm cy g_gaps), (wi_rm66_3_12_0 rm cy g_goes), (wi_rm67_3_12_0 rm cy g_harms)] (k_Ql dC dI (fun (r : Int64) (u : Int32 × (Nat → Int64)) => match u with | (n0, n1) => ib n0 0 1700 ∧ (F_X10_qTold (Int32.toInt x_textKind) (Int32.toInt x_askSecond) (Int32.toInt x_redMany) (Int32.toInt x_qCoded) (lf_A g_bar) (lf_A g_kinds) (lf_A g_walkers) (lf_A g_now) (lf_A g_gaps) (lf_A g_waits) (lf_A g_goes) (lf_A g_harms) (lf_A g_qCodes) (lf_L g_qPile) (Int32.toInt p0) = ((Int64.toInt r), (Int32.toInt n0), (lf_L n1)))) (fun u : Int32 × (Nat → Int64) => match u with | (n0, n1) => [(a_this, .inr (10, mfs rm x_taped x_at x_end x_ended x_bad x_badPlace x_fault x_faultPlace x_namePlace x_awayTold x_away x_coded x_statements x_isCrossing x_textKind x_askSecond x_redMany x_isOpen x_lastGreen x_greenTo x_isCycleGreen x_stillGreen x_rowMany x_fitMany x_fitRules x_fitGreen x_undoable x_newest x_seeded x_qCoded x_qWaits x_qOpened x_qBase n0 x_qAnswer x_qIsNew x_octets)), (wi_rm116_1_1700_1 rm cy n1), (wi_rm110_0_1700_0 rm cy g_qCodes), (wi_rm46_0_48_0 rm cy g_walkers), (wi_rm56_0_9_0 rm cy g_now), (wi_rm43_0_8_0 rm cy g_bar), (wi_rm65_0_12_0 rm cy g_waits), (wi_rm44_0_24_0 rm cy g_kinds), (wi_rm61_0_300_0 rm cy g_gaps), (wi_rm66_3_12_0 rm cy g_goes), (wi_rm67_3_12_0 rm cy g_harms)])) := by
  refine k_ofW2 (by decide +kernel) (Nat.le_of_ble_eq_true rfl) ?_
  intro p e s m below meth c A ls H locs args Q hQ C0 hZ hr hlk hin hP hD hA hS hl
  have C0 : k_cx p s m args c cX10_qTold 4 RX10 dC dI cy sq := C0
  have hx := C0.1
  have hb := C0.2.1
  have hl : lv_has ls 4 [(0, .ref a_this), (1, .int p0)] := hl
  obtain ⟨O, hO⟩ : ∃ o, o = F_X10_qTold (Int32.toInt x_textKind) (Int32.toInt x_askSecond) (Int32.toInt x_redMany) (Int32.toInt x_qCoded) (lf_A g_bar) (lf_A g_kinds) (lf_A g_walkers) (lf_A g_now) (lf_A g_gaps) (lf_A g_waits) (lf_A g_goes) (lf_A g_harms) (lf_A g_qCodes) (lf_L g_qPile) (Int32.toInt p0) := ⟨_, rfl⟩
  have hq := hO
  unfold F_X10_qTold at hq
  have jn7 : ∀ (n : Nat) (J7_l2 : Int32) (J7_c0_117 : Int32) (J7_a1 : Nat → Int64) (H : Heap) (locs : List Loc) (ls : Array Slot), ib J7_l2 0 1700 → ib J7_c0_117 0 1700 → (1 * J7_c0_117.toInt + (-1) * J7_l2.toInt ≤ 0) → (O = F_X10_qTold_7 (Int32.toInt x_textKind) (Int32.toInt x_askSecond) (Int32.toInt x_redMany) (Int32.toInt x_qCoded) (lf_A g_bar) (lf_A g_kinds) (lf_A g_walkers) (lf_A g_now) (lf_A g_gaps) (lf_A g_waits) (lf_A g_goes) (lf_A g_harms) (lf_A g_qCodes) (Int32.toInt p0) n (Int32.toInt J7_l2) (Int32.toInt J7_c0_117) (lf_L J7_a1)) → (cdl g_qCodes 0 0 J7_l2 J7_c0_117) → 1701 ≤ J7_l2.toInt + (n : Int) → va_P (dC, dI) vwCl [(a_this, .inr (10, mfs rm x_taped x_at x_end x_ended x_bad x_badPlace x_fault x_faultPlace x_namePlace x_awayTold x_away x_coded x_statements x_isCrossing x_textKind x_askSecond x_redMany x_isOpen x_lastGreen x_greenTo x_isCycleGreen x_stillGreen x_rowMany x_fitMany x_fitRules x_fitGreen x_undoable x_newest x_seeded x_qCoded x_qWaits x_qOpened x_qBase J7_c0_117 x_qAnswer x_qIsNew x_octets)), (wi_rm116_1_1700_1 rm cy J7_a1), (wi_rm110_0_1700_0 rm cy g_qCodes), (wi_rm46_0_48_0 rm cy g_walkers), (wi_rm56_0_9_0 rm cy g_now), (wi_rm43_0_8_0 rm cy g_bar), (wi_rm65_0_12_0 rm cy g_waits), (wi_rm44_0_24_0 rm cy g_kinds), (wi_rm61_0_300_0 rm cy g_gaps), (wi_rm66_3_12_0 rm cy g_goes), (wi_rm67_3_12_0 rm cy g_harms)] H → va_D A [(a_this, .inr (10, mfs rm x_taped x_at x_end x_ended x_bad x_badPlace x_fault x_faultPlace x_namePlace x_awayTold x_away x_coded x_statements x_isCrossing x_textKind x_askSecond x_redMany x_isOpen x_lastGreen x_greenTo x_isCycleGreen x_stillGreen x_rowMany x_fitMany x_fitRules x_fitGreen x_undoable x_newest x_seeded x_qCoded x_qWaits x_qOpened x_qBase J7_c0_117 x_qAnswer x_qIsNew x_octets)), (wi_rm116_1_1700_1 rm cy J7_a1), (wi_rm110_0_1700_0 rm cy g_qCodes), (wi_rm46_0_48_0 rm cy g_walkers), (wi_rm56_0_9_0 rm cy g_now), (wi_rm43_0_8_0 rm cy g_bar), (wi_rm65_0_12_0 rm cy g_waits), (wi_rm44_0_24_0 rm cy g_kinds), (wi_rm61_0_300_0 rm cy g_gaps), (wi_rm66_3_12_0 rm cy g_goes), (wi_rm67_3_12_0 rm cy g_harms)] → va_S A s.heap H locs → lv_has ls 4 [(0, .ref a_this), (1, .int p0), (2, .int J7_l2)] → W p l e { frames := 3, cells := 0, slots := 0, locals := 64 } s m args below meth c H locs 0 0 Q (F0 m 7 ls []) := by
    as_aux_lemma =>
      intro n
      induction n with
      | zero =>
        intro J7_l2 J7_c0_117 J7_a1 H locs ls hJ7_l2 hJ7_c0_117 hJ7_lin0 hq hJ7_gh hm
        exact absurd hm (by have := hJ7_l2; unfold ib at this; omega)
      | succ n ih =>
        intro J7_l2 J7_c0_117 J7_a1 H locs ls hJ7_l2 hJ7_c0_117 hJ7_lin0 hq hJ7_gh hm7 hP hD hS hl
        have ih7 := ih
        obtain ⟨K7, hK7⟩ : ∃ K, K = F_X10_qTold_7 (Int32.toInt x_textKind) (Int32.toInt x_askSecond) (Int32.toInt x_redMany) (Int32.toInt x_qCoded) (lf_A g_bar) (lf_A g_kinds) (lf_A g_walkers) (lf_A g_now) (lf_A g_gaps) (lf_A g_waits) (lf_A g_goes) (lf_A g_harms) (lf_A g_qCodes) (Int32.toInt p0) n := ⟨_, rfl⟩
        have hq : O = F_X10_qTold_7b (Int32.toInt x_textKind) (Int32.toInt x_askSecond) (Int32.toInt x_redMany) (Int32.toInt x_qCoded) (lf_A g_bar) (lf_A g_kinds) (lf_A g_walkers) (lf_A g_now) (lf_A g_gaps) (lf_A g_waits) (lf_A g_goes) (lf_A g_harms) (lf_A g_qCodes) (Int32.toInt p0) K7 (Int32.toInt J7_l2) (Int32.toInt J7_c0_117) (lf_L J7_a1) := by rw [hK7]; exact hq
        unfold F_X10_qTold_7b at hq
        have jn162 : ∀ (J162_l3 : Int32) (J162_c0_117 : Int32) (J162_a1 : Nat → Int64) (H : Heap) (locs : List Loc) (ls : Array Slot), ib J7_l2 0 1699 → ib x_qCoded 1 1700 → ib J162_c0_117 1 1700 → (1 * J162_c0_117.toInt + (-1) * J7_l2.toInt ≤ 1) → (O = F_X10_qTold_162 (Int32.toInt J7_l2) K7 (Int32.toInt J162_l3) (Int32.toInt J162_c0_117) (lf_L J162_a1)) → (cdm g_qCodes 0 0 J7_l2 J162_c0_117) → va_P (dC, dI) vwCl [(a_this, .inr (10, mfs rm x_taped x_at x_end x_ended x_bad x_badPlace x_fault x_faultPlace x_namePlace x_awayTold x_away x_coded x_statements x_isCrossing x_textKind x_askSecond x_redMany x_isOpen x_lastGreen x_greenTo x_isCycleGreen x_stillGreen x_rowMany x_fitMany x_fitRules x_fitGreen x_undoable x_newest x_seeded x_qCoded x_qWaits x_qOpened x_qBase J162_c0_117 x_qAnswer x_qIsNew x_octets)), (wi_rm116_1_1700_1 rm cy J162_a1), (wi_rm110_0_1700_0 rm cy g_qCodes), (wi_rm46_0_48_0 rm cy g_walkers), (wi_rm56_0_9_0 rm cy g_now), (wi_rm43_0_8_0 rm cy g_bar), (wi_rm65_0_12_0 rm cy g_waits), (wi_rm44_0_24_0 rm cy g_kinds), (wi_rm61_0_300_0 rm cy g_gaps), (wi_rm66_3_12_0 rm cy g_goes), (wi_rm67_3_12_0 rm cy g_harms)] H → va_D A [(a_this, .inr (10, mfs rm x_taped x_at x_end x_ended x_bad x_badPlace x_fault x_faultPlace x_namePlace x_awayTold x_away x_coded x_statements x_isCrossing x_textKind x_askSecond x_redMany x_isOpen x_lastGreen x_greenTo x_isCycleGreen x_stillGreen x_rowMany x_fitMany x_fitRules x_fitGreen x_undoable x_newest x_seeded x_qCoded x_qWaits x_qOpened x_qBase J162_c0_117 x_qAnswer x_qIsNew x_octets)), (wi_rm116_1_1700_1 rm cy J162_a1), (wi_rm110_0_1700_0 rm cy g_qCodes), (wi_rm46_0_48_0 rm cy g_walkers), (wi_rm56_0_9_0 rm cy g_now), (wi_rm43_0_8_0 rm cy g_bar), (wi_rm65_0_12_0 rm cy g_waits), (wi_rm44_0_24_0 rm cy g_kinds), (wi_rm61_0_300_0 rm cy g_gaps), (wi_rm66_3_12_0 rm cy g_goes), (wi_rm67_3_12_0 rm cy g_harms)] → va_S A s.heap H locs → lv_has ls 4 [(0, .ref a_this), (1, .int p0), (2, .int J7_l2), (3, .int J162_l3)] → W p l e { frames := 3, cells := 0, slots := 0, locals := 64 } s m args below meth c H locs 0 0 Q (F0 m 162 ls []) := by
          intro J162_l3 J162_c0_117 J162_a1 H locs ls hK162_J7_l2 hK162_x_qCoded hJ162_c0_117 hJ162_lin0 hq hJ162_gh hP hD hS hl
          unfold F_X10_qTold_162 at hq
          obtain ⟨z1, ez1⟩ : ∃ y : Int32, y = J7_l2 + 1 := ⟨_, rfl⟩
          refine lv_iinc (v := z1) (lv' := [(2, .int z1), (0, .ref a_this), (1, .int p0), (3, .int J162_l3)]) hx hb dX10_qTold_162 hl (k := 2) rfl (by rw [ez1]; rfl) (Nat.le_of_ble_eq_true rfl) rfl (fun ls hl => ?_)
          have h2 := ib_add hK162_J7_l2 (ib_c 1 1 1 rfl) rfl
          rw [← ez1] at h2
          have h3 : ib z1 1 1700 := ib_w 1 1700 h2.1 rfl
          have Ez1 := lf_add h2.2 (lf_rf J7_l2) (lf_lc 1 (1 : Int) rfl)
          refine lv_goto (tgt := 7) hx hb dX10_qTold_165 rfl ?_
          exact ih7 z1 J162_c0_117 J162_a1 H locs ls (ib_w 0 1700 h3 rfl) (ib_w 0 1700 hJ162_c0_117 rfl) (by have := h2.2; have : (1 : Int32).toInt = 1 := rfl; have := hJ162_lin0; omega) (by rw [← hK7]; rw [lf_u Ez1]; exact hq) (cdl_next hJ162_gh (by decide) h2.2) (by have := h2.2; have : (1 : Int32).toInt = 1 := rfl; omega) hP hD hS (lv_sub hl [1, 2, 0] rfl)
        refine lv_iload_n hx hb dX10_qTold_7 rfl (lv_at hl 2 rfl) ?_
        refine lv_aload_n hx hb dX10_qTold_8 rfl (lv_at hl 0 rfl) ?_
        refine k_get C0 fg_X10_369 hP 0 rfl rfl dX10_qTold_9 ?_
        refine lv_icmp_ge (tgt := 168) hx hb dX10_qTold_12 rfl (fun c4 => ?_) (fun c4 => ?_)
        · replace hq := lf_pos hq (lf_le (lf_rf x_qCoded) (lf_rf J7_l2) c4)
          have h5 := ib_le hx_qCoded hJ7_l2 c4
          refine lv_aload_n hx hb dX10_qTold_168 rfl (lv_at hl 0 rfl) ?_
          refine k_get C0 fg_X10_270 hP 0 rfl rfl dX10_qTold_169 ?_
          refine lv_iconst (v := 0) hx hb dX10_qTold_172 rfl ?_
          refine va_lald hx hb C0.2.2.2.2.2.1 hP 1 1 rfl rfl (k_in 0 1700 rfl) dX10_qTold_173 ?_
          refine lv_topl (fun z6 ez6 => ?_)
          have Ez6 := lf_ldl ez6 (lf_raL J7_a1) (lf_lc 0 (0 : Int) rfl)
          subst hQ; exact k_lret hx hb hr hlk ((J7_c0_117, J7_a1)) hS ⟨ib_w 0 1700 hJ7_c0_117 rfl, (hO.symm.trans (by rw [lf_ul Ez6]; exact hq))⟩ hP hD (Nat.le_of_ble_eq_true rfl) (Nat.le_of_ble_eq_true rfl) dX10_qTold_174
        · as_aux_lemma =>
            replace hq := lf_neg hq (lf_nle (lf_rf x_qCoded) (lf_rf J7_l2) c4)
            have h7 := ib_nle hx_qCoded hJ7_l2 c4
            have h8 : ib x_qCoded 1 1700 := ib_w 1 1700 h7.1 rfl
            have h9 : ib J7_l2 0 1699 := ib_w 0 1699 h7.2 rfl
            have h10 : ib J7_c0_117 0 1699 := ⟨(hJ7_c0_117).1, by have := (hJ7_c0_117).2; have := hJ7_lin0; have := (h9).2; omega⟩
            refine lv_aload_n hx hb dX10_qTold_15 rfl (lv_at hl 0 rfl) ?_
            refine k_get C0 fg_X10_264 hP 0 rfl rfl dX10_qTold_16 ?_
            refine lv_iload_n hx hb dX10_qTold_19 rfl (lv_at hl 2 rfl) ?_
            refine va_iald hx hb C0.2.2.2.2.2.1 hP 2 0 rfl rfl (ib_in 1700 h9 rfl) dX10_qTold_20 ?_
            refine lv_topi (fun z11 ez11 => ?_)
            have Ez11 := lf_ld ez11 (lf_ra g_qCodes) (lf_rf J7_l2)
            refine lv_istore_n (lv' := [(3, .int z11), (0, .ref a_this), (1, .int p0), (2, .int J7_l2)]) hx hb dX10_qTold_21 rfl hl (Nat.le_of_ble_eq_true rfl) rfl (fun ls hl => ?_)
            refine lv_iload_n hx hb dX10_qTold_22 rfl (lv_at hl 0 rfl) ?_
            refine lv_sipush (v := 1000) hx hb dX10_qTold_23 rfl ?_
            refine lv_icmp_lt (tgt := 42) hx hb dX10_qTold_26 rfl (fun c12 => ?_) (fun c12 => ?_)
            · as_aux_lemma =>
                replace hq := lf_pos hq (lf_lt Ez11 (lf_lc 1000 (1000 : Int) rfl) c12)
                have h13 := ib_lt (ib_any z11) (ib_c 1000 1000 1000 rfl) c12
                have h14 : ib z11 (-2147483648) 999 := ib_w (-2147483648) 999 h13.1 rfl
                refine lv_iload_n hx hb dX10_qTold_42 rfl (lv_at hl 0 rfl) ?_
                refine lv_bipush (v := 60) hx hb dX10_qTold_43 rfl ?_
                refine lv_icmp_lt (tgt := 85) hx hb dX10_qTold_45 rfl (fun c15 => ?_) (fun c15 => ?_)
                · as_aux_lemma =>
                    replace hq := lf_pos hq (lf_lt Ez11 (lf_lc 60 (60 : Int) rfl) c15)
                    have h16 := ib_lt h14 (ib_c 60 60 60 rfl) c15
                    have h17 : ib z11 (-2147483648) 59 := ib_w (-2147483648) 59 h16.1 rfl
                    refine lv_iload_n hx hb dX10_qTold_85 rfl (lv_at hl 0 rfl) ?_
                    refine lv_bipush (v := 40) hx hb dX10_qTold_86 rfl ?_
                    refine lv_icmp_lt (tgt := 110) hx hb dX10_qTold_88 rfl (fun c18 => ?_) (fun c18 => ?_)
                    · as_aux_lemma =>
                        replace hq := lf_pos hq (lf_lt Ez11 (lf_lc 40 (40 : Int) rfl) c18)
                        have h19 := ib_lt h17 (ib_c 40 40 40 rfl) c18
                        have h20 : ib z11 (-2147483648) 39 := ib_w (-2147483648) 39 h19.1 rfl
                        refine lv_iload_n hx hb dX10_qTold_110 rfl (lv_at hl 0 rfl) ?_
                        refine lv_bipush (v := 13) hx hb dX10_qTold_111 rfl ?_
                        refine lv_icmp_ne (tgt := 124) hx hb dX10_qTold_113 rfl (fun c21 => ?_) (fun c21 => ?_)
                        · as_aux_lemma =>
                            replace hq := lf_neg hq (lf_ne Ez11 (lf_lc 13 (13 : Int) rfl) c21)
                            refine lv_iload_n hx hb dX10_qTold_124 rfl (lv_at hl 0 rfl) ?_
                            refine lv_bipush (v := 12) hx hb dX10_qTold_125 rfl ?_
                            refine lv_icmp_ne (tgt := 157) hx hb dX10_qTold_127 rfl (fun c22 => ?_) (fun c22 => ?_)
                            · replace hq := lf_neg hq (lf_ne Ez11 (lf_lc 12 (12 : Int) rfl) c22)
                              have h23 : ib J7_c0_117 2 1699 := ⟨cdl_ge2 (z := z11) hQc hJ7_gh (by decide) (by have := (h8).1; have := (h8).2; have := (h9).1; have := (h9).2; have := hJ7_lin0; have := (h10).1; have := (h10).2; have := mt Int32.le_iff_toInt_le.mpr c4; omega) (by rw [ez11]; congr 1; show 0 + (Int32.toInt J7_l2).toNat = (Int32.toInt J7_l2).toNat; have := (h9).1; have := (h9).2; have := hJ7_lin0; have := (h10).1; have := (h10).2; omega) (by have := (h20).2; omega) c21 c22, (h10).2⟩
                              refine lv_aload_n hx hb dX10_qTold_157 rfl (lv_at hl 1 rfl) ?_
                              refine lv_iload_n hx hb dX10_qTold_158 rfl (lv_at hl 0 rfl) ?_
                              refine k_jvm hP hD hS hA [0, 1] [false, false, true, true, true, true, true, true, true, true, true] rfl rfl (by decide +kernel) 0 0 (Nat.le_of_ble_eq_true rfl) (Nat.le_of_ble_eq_true rfl) (fun hPc hDc => k_runV (As := [.int z11]) (rest := []) C0 hZ hS hA (s_X10_qJoins l dC dI cy sq a_this rm x_taped x_at x_end x_ended x_bad x_badPlace x_fault x_faultPlace x_namePlace x_awayTold x_away x_coded x_statements x_isCrossing x_textKind x_askSecond x_redMany x_isOpen x_lastGreen x_greenTo x_isCycleGreen x_stillGreen x_rowMany x_fitMany x_fitRules x_fitGreen x_undoable x_newest x_seeded x_qCoded x_qWaits x_qOpened x_qBase J7_c0_117 x_qAnswer x_qIsNew x_octets J7_a1 z11 (ib_w 2 1700 h23 rfl)) mV_X10_451 hPc hDc rfl rfl rfl hl rfl rfl (Nat.le_of_ble_eq_true rfl) ⟨(Nat.le_of_ble_eq_true rfl), (Nat.le_of_ble_eq_true rfl)⟩ ⟨(Nat.le_of_ble_eq_true rfl), (Nat.le_of_ble_eq_true rfl)⟩ dX10_qTold_159) (fun u25 H locs hw hP hD hS => ?_)
                              obtain ⟨v26, f27⟩ := u25
                              try dsimp only at hP hD hw
                              replace hP : va_P (dC, dI) vwCl [(wi_rm110_0_1700_0 rm cy g_qCodes), (wi_rm46_0_48_0 rm cy g_walkers), (wi_rm56_0_9_0 rm cy g_now), (wi_rm43_0_8_0 rm cy g_bar), (wi_rm65_0_12_0 rm cy g_waits), (wi_rm44_0_24_0 rm cy g_kinds), (wi_rm61_0_300_0 rm cy g_gaps), (wi_rm66_3_12_0 rm cy g_goes), (wi_rm67_3_12_0 rm cy g_harms), (a_this, .inr (10, mfs rm x_taped x_at x_end x_ended x_bad x_badPlace x_fault x_faultPlace x_namePlace x_awayTold x_away x_coded x_statements x_isCrossing x_textKind x_askSecond x_redMany x_isOpen x_lastGreen x_greenTo x_isCycleGreen x_stillGreen x_rowMany x_fitMany x_fitRules x_fitGreen x_undoable x_newest x_seeded x_qCoded x_qWaits x_qOpened x_qBase v26 x_qAnswer x_qIsNew x_octets)), (wi_rm116_1_1700_1 rm cy f27)] H := hP
                              replace hD := k_D hP hD
                              obtain ⟨h28, h29, h30⟩ := hw
                              have h31 : v26.toInt = (J7_c0_117 : Int32).toInt + ((-1) : Int32).toInt := by have q1 := h29; have q2 : ((-1) : Int32).toInt = (-1) := rfl; omega
                              have h32 : ib v26 1 1698 := ⟨by have q1 := h29; have := (h23).1; have := (h28).1; omega, by have q1 := h29; have := (h23).2; have := (h28).2; omega⟩
                              have h30 := by have h9 := h30; rw [lf_u Ez11] at h9; exact h9
                              replace hq := lf_p1 hq h30
                              exact jn162 z11 v26 f27 H locs ls (ib_w 0 1699 h9 rfl) (ib_w 1 1700 h8 rfl) (ib_w 1 1700 h32 rfl) (by have := hJ7_lin0; have := h31; have : ((-1) : Int32).toInt = (-1) := rfl; omega) (by rw [lf_u Ez11]; exact hq) (cdm_join (z := z11) hQc hJ7_gh (by decide) (by have := (h8).1; have := (h8).2; have := (h9).1; have := (h9).2; have := hJ7_lin0; have := (h23).1; have := (h23).2; have := mt Int32.le_iff_toInt_le.mpr c4; omega) (by rw [ez11]; congr 1; show 0 + (Int32.toInt J7_l2).toNat = (Int32.toInt J7_l2).toNat; have := (h9).1; have := (h9).2; have := hJ7_lin0; have := (h23).1; have := (h23).2; omega) (by have := (h20).2; omega) c21 c22 (by have := (h23).1; have := (h23).2; have := hJ7_lin0; have := (h9).1; have := (h9).2; have := (h32).1; have := (h32).2; have := h31; have : ((-1) : Int32).toInt = (-1) := rfl; omega)) (hP.sub [9, 10, 0, 1, 2, 3, 4, 5, 6, 7, 8] rfl) (hD.sub [9, 10, 0, 1, 2, 3, 4, 5, 6, 7, 8] (by decide +kernel) rfl) hS (lv_sub hl [1, 2, 3, 0] rfl)
                            · as_aux_lemma =>
                                replace hq := lf_pos hq (lf_eq Ez11 (lf_lc 12 (12 : Int) rfl) c22)
                                have h33 := ib_eq h20 (ib_c 12 12 12 rfl) c22
                                have h34 : ib z11 12 12 := ib_w 12 12 h33.1 rfl
                                have h35 : ib J7_c0_117 1 1699 := ⟨cdl_ge1 (z := z11) hQc hJ7_gh (by decide) (by have := (h8).1; have := (h8).2; have := (h9).1; have := (h9).2; have := hJ7_lin0; have := (h10).1; have := (h10).2; have := mt Int32.le_iff_toInt_le.mpr c4; omega) (by rw [ez11]; congr 1; show 0 + (Int32.toInt J7_l2).toNat = (Int32.toInt J7_l2).toNat; have := (h9).1; have := (h9).2; have := hJ7_lin0; have := (h10).1; have := (h10).2; omega) (Or.inl (ib_one h34 rfl)), (h10).2⟩
                                refine lv_aload_n hx hb dX10_qTold_130 rfl (lv_at hl 1 rfl) ?_
                                refine k_get C0 fg_X10_270 hP 0 rfl rfl dX10_qTold_131 ?_
                                refine lv_aload_n hx hb dX10_qTold_134 rfl (lv_at hl 1 rfl) ?_
                                refine k_get C0 fg_X10_440 hP 0 rfl rfl dX10_qTold_135 ?_
                                refine lv_iconst (v := 1) hx hb dX10_qTold_138 rfl ?_
                                refine lv_isub hx hb dX10_qTold_139 ?_
                                refine lv_topi (fun z36 ez36 => ?_)
                                have h37 := ib_sub h35 (ib_c 1 1 1 rfl) rfl
                                rw [← ez36] at h37
                                have h38 : ib z36 0 1698 := ib_w 0 1698 h37.1 rfl
                                have Ez36 := lf_sub h37.2 (lf_rf J7_c0_117) (lf_lc 1 (1 : Int) rfl)
                                refine lv_lconst (v := 1) hx hb dX10_qTold_140 (by decide) ?_
                                refine lv_aload_n hx hb dX10_qTold_141 rfl (lv_at hl 1 rfl) ?_
                                refine k_get C0 fg_X10_270 hP 0 rfl rfl dX10_qTold_142 ?_
                                refine lv_aload_n hx hb dX10_qTold_145 rfl (lv_at hl 1 rfl) ?_
                                refine k_get C0 fg_X10_440 hP 0 rfl rfl dX10_qTold_146 ?_
                                refine lv_iconst (v := 1) hx hb dX10_qTold_149 rfl ?_
                                refine lv_isub hx hb dX10_qTold_150 ?_
                                refine lv_topi (fun z39 ez39 => ?_)
                                obtain rfl : z36 = z39 := ez36.trans ez39.symm
                                refine va_lald hx hb C0.2.2.2.2.2.1 hP 1 1 rfl rfl (ib_in 1700 h38 rfl) dX10_qTold_151 ?_
                                refine lv_topl (fun z40 ez40 => ?_)
                                have Ez40 := lf_ldl ez40 (lf_raL J7_a1) Ez36
                                refine lv_lsub hx hb dX10_qTold_152 ?_
                                refine lv_topl (fun z41 ez41 => ?_)
                                have Ez41 := lf_opl lf_lsub ez41 (lf_ll 1 (1 : Int) rfl) Ez40
                                refine va_last hx hb C0.2.2.2.2.2.1 hP hD hS 1 1 rfl rfl (ib_in 1700 h38 rfl) dX10_qTold_153 (fun H locs hP hD hS => ?_)
                                replace hP : va_P (dC, dI) vwCl [(a_this, .inr (10, mfs rm x_taped x_at x_end x_ended x_bad x_badPlace x_fault x_faultPlace x_namePlace x_awayTold x_away x_coded x_statements x_isCrossing x_textKind x_askSecond x_redMany x_isOpen x_lastGreen x_greenTo x_isCycleGreen x_stillGreen x_rowMany x_fitMany x_fitRules x_fitGreen x_undoable x_newest x_seeded x_qCoded x_qWaits x_qOpened x_qBase J7_c0_117 x_qAnswer x_qIsNew x_octets)), (wi_rm116_1_1700_1 rm cy (vp_updL J7_a1 (Int32.toNatClampNeg z36) z41)), (wi_rm110_0_1700_0 rm cy g_qCodes), (wi_rm46_0_48_0 rm cy g_walkers), (wi_rm56_0_9_0 rm cy g_now), (wi_rm43_0_8_0 rm cy g_bar), (wi_rm65_0_12_0 rm cy g_waits), (wi_rm44_0_24_0 rm cy g_kinds), (wi_rm61_0_300_0 rm cy g_gaps), (wi_rm66_3_12_0 rm cy g_goes), (wi_rm67_3_12_0 rm cy g_harms)] H := hP
                                replace hD := k_D hP hD
                                generalize h43E : vp_updL J7_a1 (Int32.toNatClampNeg z36) z41 = f42 at hP hD
                                have ef42 := h43E
                                have Ef42 := lf_stL ef42 (lf_raL J7_a1) Ez36 Ez41
                                refine lv_goto (tgt := 162) hx hb dX10_qTold_154 rfl ?_
                                exact jn162 z11 J7_c0_117 f42 H locs ls (ib_w 0 1699 h9 rfl) (ib_w 1 1700 h8 rfl) (ib_w 1 1700 h35 rfl) (by have := hJ7_lin0; omega) (by rw [lf_u Ez11]; rw [lf_uaL Ef42]; exact hq) (cdm_same (z := z11) hQc hJ7_gh (by decide) (by have := (h8).1; have := (h8).2; have := (h9).1; have := (h9).2; have := hJ7_lin0; have := (h35).1; have := (h35).2; have := mt Int32.le_iff_toInt_le.mpr c4; omega) (by rw [ez11]; congr 1; show 0 + (Int32.toInt J7_l2).toNat = (Int32.toInt J7_l2).toNat; have := (h9).1; have := (h9).2; have := hJ7_lin0; have := (h35).1; have := (h35).2; omega) (Or.inl (ib_one h34 rfl))) hP hD hS (lv_sub hl [1, 2, 3, 0] rfl)
                        · replace hq := lf_pos hq (lf_eq Ez11 (lf_lc 13 (13 : Int) rfl) c21)
                          have h44 := ib_eq h20 (ib_c 13 13 13 rfl) c21
                          have h45 : ib z11 13 13 := ib_w 13 13 h44.1 rfl
                          refine lv_aload_n hx hb dX10_qTold_116 rfl (lv_at hl 1 rfl) ?_
                          refine lv_lconst (v := 1) hx hb dX10_qTold_117 (by decide) ?_
                          refine k_jvm hP hD hS hA [0, 1] [false, false, true, true, true, true, true, true, true, true, true] rfl rfl (by decide +kernel) 0 0 (Nat.le_of_ble_eq_true rfl) (Nat.le_of_ble_eq_true rfl) (fun hPc hDc => k_runV (As := [.long 1]) (rest := []) C0 hZ hS hA (s_X10_qPuts l dC dI cy sq a_this rm x_taped x_at x_end x_ended x_bad x_badPlace x_fault x_faultPlace x_namePlace x_awayTold x_away x_coded x_statements x_isCrossing x_textKind x_askSecond x_redMany x_isOpen x_lastGreen x_greenTo x_isCycleGreen x_stillGreen x_rowMany x_fitMany x_fitRules x_fitGreen x_undoable x_newest x_seeded x_qCoded x_qWaits x_qOpened x_qBase J7_c0_117 x_qAnswer x_qIsNew x_octets J7_a1 1 (ib_w 0 1699 h10 rfl)) mV_X10_443 hPc hDc rfl rfl rfl hl rfl rfl (Nat.le_of_ble_eq_true rfl) ⟨(Nat.le_of_ble_eq_true rfl), (Nat.le_of_ble_eq_true rfl)⟩ ⟨(Nat.le_of_ble_eq_true rfl), (Nat.le_of_ble_eq_true rfl)⟩ dX10_qTold_118) (fun u47 H locs hw hP hD hS => ?_)
                          obtain ⟨v48, f49⟩ := u47
                          try dsimp only at hP hD hw
                          replace hP : va_P (dC, dI) vwCl [(wi_rm110_0_1700_0 rm cy g_qCodes), (wi_rm46_0_48_0 rm cy g_walkers), (wi_rm56_0_9_0 rm cy g_now), (wi_rm43_0_8_0 rm cy g_bar), (wi_rm65_0_12_0 rm cy g_waits), (wi_rm44_0_24_0 rm cy g_kinds), (wi_rm61_0_300_0 rm cy g_gaps), (wi_rm66_3_12_0 rm cy g_goes), (wi_rm67_3_12_0 rm cy g_harms), (a_this, .inr (10, mfs rm x_taped x_at x_end x_ended x_bad x_badPlace x_fault x_faultPlace x_namePlace x_awayTold x_away x_coded x_statements x_isCrossing x_textKind x_askSecond x_redMany x_isOpen x_lastGreen x_greenTo x_isCycleGreen x_stillGreen x_rowMany x_fitMany x_fitRules x_fitGreen x_undoable x_newest x_seeded x_qCoded x_qWaits x_qOpened x_qBase v48 x_qAnswer x_qIsNew x_octets)), (wi_rm116_1_1700_1 rm cy f49)] H := hP
                          replace hD := k_D hP hD
                          obtain ⟨h50, h51, h52⟩ := hw
                          have h53 : v48.toInt = (J7_c0_117 : Int32).toInt + (1 : Int32).toInt := by have q1 := h51; have q2 : (1 : Int32).toInt = 1 := rfl; omega
                          have h52 := by have h9 := h52; try simp only [show (1 : Int64).toInt = (1 : Int) from rfl] at h9; exact h9
                          replace hq := lf_p1 hq h52
                          refine lv_goto (tgt := 162) hx hb dX10_qTold_121 rfl ?_
                          exact jn162 z11 v48 f49 H locs ls (ib_w 0 1699 h9 rfl) (ib_w 1 1700 h8 rfl) (ib_w 1 1700 h50 rfl) (by have := hJ7_lin0; have := h53; have : (1 : Int32).toInt = 1 := rfl; omega) (by rw [lf_u Ez11]; exact hq) (cdm_push (z := z11) hQc hJ7_gh (by decide) (by have := (h8).1; have := (h8).2; have := (h9).1; have := (h9).2; have := hJ7_lin0; have := (h10).1; have := (h10).2; have := mt Int32.le_iff_toInt_le.mpr c4; omega) (by rw [ez11]; congr 1; show 0 + (Int32.toInt J7_l2).toNat = (Int32.toInt J7_l2).toNat; have := (h9).1; have := (h9).2; have := hJ7_lin0; have := (h10).1; have := (h10).2; omega) (Or.inr (ib_one h45 rfl)) (by have := (h10).1; have := (h10).2; have := hJ7_lin0; have := (h9).1; have := (h9).2; have := (h50).1; have := (h50).2; have := h53; have : (1 : Int32).toInt = 1 := rfl; omega)) (hP.sub [9, 10, 0, 1, 2, 3, 4, 5, 6, 7, 8] rfl) (hD.sub [9, 10, 0, 1, 2, 3, 4, 5, 6, 7, 8] (by decide +kernel) rfl) hS (lv_sub hl [1, 2, 3, 0] rfl)
                    · as_aux_lemma =>
                        replace hq := lf_neg hq (lf_nlt Ez11 (lf_lc 40 (40 : Int) rfl) c18)
                        have h54 := ib_nlt h17 (ib_c 40 40 40 rfl) c18
                        have h55 : ib z11 40 59 := ib_w 40 59 h54.1 rfl
                        refine lv_aload_n hx hb dX10_qTold_91 rfl (lv_at hl 1 rfl) ?_
                        refine lv_aload_n hx hb dX10_qTold_92 rfl (lv_at hl 1 rfl) ?_
                        refine lv_iload_n hx hb dX10_qTold_93 rfl (lv_at hl 0 rfl) ?_
                        refine lv_bipush (v := 40) hx hb dX10_qTold_94 rfl ?_
                        refine lv_isub hx hb dX10_qTold_96 ?_
                        refine lv_topi (fun z56 ez56 => ?_)
                        have h57 := ib_sub h55 (ib_c 40 40 40 rfl) rfl
                        rw [← ez56] at h57
                        have h58 : ib z56 0 19 := ib_w 0 19 h57.1 rfl
                        have Ez56 := lf_sub h57.2 Ez11 (lf_lc 40 (40 : Int) rfl)
                        refine lv_iload_n hx hb dX10_qTold_97 rfl (lv_at hl 2 rfl) ?_
                        refine k_jlm hP hD hS hA [0, 3, 4, 5, 6, 7, 8, 9, 10] [false, true, true] rfl rfl (by decide +kernel) 0 0 (Nat.le_of_ble_eq_true rfl) (Nat.le_of_ble_eq_true rfl) (fun hPc hDc => k_runV (As := [.int z56, .int p0]) (rest := [.ref a_this]) C0 hZ hS hA (s_X10_qPartOf l dC dI cy sq a_this rm x_taped x_at x_end x_ended x_bad x_badPlace x_fault x_faultPlace x_namePlace x_awayTold x_away x_coded x_statements x_isCrossing x_textKind x_askSecond x_redMany x_isOpen x_lastGreen x_greenTo x_isCycleGreen x_stillGreen x_rowMany x_fitMany x_fitRules x_fitGreen x_undoable x_newest x_seeded x_qCoded x_qWaits x_qOpened x_qBase J7_c0_117 x_qAnswer x_qIsNew x_octets g_bar g_kinds g_walkers g_now g_gaps g_waits g_goes g_harms z56 p0 (ib_w 10 120 hg_bar_4 rfl) hpg_walkers hg_gaps (ib_w 0 11 hp0 rfl) (fun q9 => (okc_47 (z := z11) hQc hJ7_gh.1 (by decide) (by have := (h8).1; have := (h8).2; have := (h9).1; have := (h9).2; have := hJ7_lin0; have := (h10).1; have := (h10).2; have := mt Int32.le_iff_toInt_le.mpr c4; omega) (by rw [ez11]; congr 1; show 0 + (Int32.toInt J7_l2).toNat = (Int32.toInt J7_l2).toNat; have := (h9).1; have := (h9).2; have := hJ7_lin0; have := (h10).1; have := (h10).2; omega) h57.2 q9).elim)) mV_X10_447 hPc hDc rfl rfl rfl hl rfl rfl (Nat.le_of_ble_eq_true rfl) ⟨(Nat.le_of_ble_eq_true rfl), (Nat.le_of_ble_eq_true rfl)⟩ ⟨(Nat.le_of_ble_eq_true rfl), (Nat.le_of_ble_eq_true rfl)⟩ dX10_qTold_98) (fun r59 u60 H locs hw hP hD hS => ?_)
                        try dsimp only at hP hD hw
                        replace hP : va_P (dC, dI) vwCl [(wi_rm116_1_1700_1 rm cy J7_a1), (wi_rm110_0_1700_0 rm cy g_qCodes), (a_this, .inr (10, mfs rm x_taped x_at x_end x_ended x_bad x_badPlace x_fault x_faultPlace x_namePlace x_awayTold x_away x_coded x_statements x_isCrossing x_textKind x_askSecond x_redMany x_isOpen x_lastGreen x_greenTo x_isCycleGreen x_stillGreen x_rowMany x_fitMany x_fitRules x_fitGreen x_undoable x_newest x_seeded x_qCoded x_qWaits x_qOpened x_qBase J7_c0_117 x_qAnswer x_qIsNew x_octets)), (wi_rm46_0_48_0 rm cy g_walkers), (wi_rm56_0_9_0 rm cy g_now), (wi_rm43_0_8_0 rm cy g_bar), (wi_rm65_0_12_0 rm cy g_waits), (wi_rm44_0_24_0 rm cy g_kinds), (wi_rm61_0_300_0 rm cy g_gaps), (wi_rm66_3_12_0 rm cy g_goes), (wi_rm67_3_12_0 rm cy g_harms)] H := hP
                        replace hD := k_D hP hD
                        have h61 := hw
                        have h61 := by have h9 := h61; rw [lf_u Ez56] at h9; exact h9
                        replace hq := lf_b1 hq h61
                        refine k_jlm hP hD hS hA [] [true, true, true, true, true, true, true, true, true, true, true] rfl rfl (by decide +kernel) 0 0 (Nat.le_of_ble_eq_true rfl) (Nat.le_of_ble_eq_true rfl) (fun hPc hDc => k_runS (As := [.long r59]) (rest := [.ref a_this]) C0 hZ hS hA (s_X10_qClip l dC dI cy sq r59 ) mS_X10_666 hPc hDc hl rfl rfl (Nat.le_of_ble_eq_true rfl) ⟨(Nat.le_of_ble_eq_true rfl), (Nat.le_of_ble_eq_true rfl)⟩ ⟨(Nat.le_of_ble_eq_true rfl), (Nat.le_of_ble_eq_true rfl)⟩ dX10_qTold_101) (fun r62 u63 H locs hw hP hD hS => ?_)
                        try dsimp only at hP hD hw
                        replace hP : va_P (dC, dI) vwCl [(wi_rm116_1_1700_1 rm cy J7_a1), (wi_rm110_0_1700_0 rm cy g_qCodes), (a_this, .inr (10, mfs rm x_taped x_at x_end x_ended x_bad x_badPlace x_fault x_faultPlace x_namePlace x_awayTold x_away x_coded x_statements x_isCrossing x_textKind x_askSecond x_redMany x_isOpen x_lastGreen x_greenTo x_isCycleGreen x_stillGreen x_rowMany x_fitMany x_fitRules x_fitGreen x_undoable x_newest x_seeded x_qCoded x_qWaits x_qOpened x_qBase J7_c0_117 x_qAnswer x_qIsNew x_octets)), (wi_rm46_0_48_0 rm cy g_walkers), (wi_rm56_0_9_0 rm cy g_now), (wi_rm43_0_8_0 rm cy g_bar), (wi_rm65_0_12_0 rm cy g_waits), (wi_rm44_0_24_0 rm cy g_kinds), (wi_rm61_0_300_0 rm cy g_gaps), (wi_rm66_3_12_0 rm cy g_goes), (wi_rm67_3_12_0 rm cy g_harms)] H := hP
                        replace hD := k_D hP hD
                        have h64 := hw
                        replace hq := lf_b1 hq h64
                        refine k_jvm hP hD hS hA [2, 0] [false, true, false, true, true, true, true, true, true, true, true] rfl rfl (by decide +kernel) 0 0 (Nat.le_of_ble_eq_true rfl) (Nat.le_of_ble_eq_true rfl) (fun hPc hDc => k_runV (As := [.long r62]) (rest := []) C0 hZ hS hA (s_X10_qPuts l dC dI cy sq a_this rm x_taped x_at x_end x_ended x_bad x_badPlace x_fault x_faultPlace x_namePlace x_awayTold x_away x_coded x_statements x_isCrossing x_textKind x_askSecond x_redMany x_isOpen x_lastGreen x_greenTo x_isCycleGreen x_stillGreen x_rowMany x_fitMany x_fitRules x_fitGreen x_undoable x_newest x_seeded x_qCoded x_qWaits x_qOpened x_qBase J7_c0_117 x_qAnswer x_qIsNew x_octets J7_a1 r62 (ib_w 0 1699 h10 rfl)) mV_X10_443 hPc hDc rfl rfl rfl hl rfl rfl (Nat.le_of_ble_eq_true rfl) ⟨(Nat.le_of_ble_eq_true rfl), (Nat.le_of_ble_eq_true rfl)⟩ ⟨(Nat.le_of_ble_eq_true rfl), (Nat.le_of_ble_eq_true rfl)⟩ dX10_qTold_104) (fun u66 H locs hw hP hD hS => ?_)
                        obtain ⟨v67, f68⟩ := u66
                        try dsimp only at hP hD hw
                        replace hP : va_P (dC, dI) vwCl [(wi_rm110_0_1700_0 rm cy g_qCodes), (wi_rm46_0_48_0 rm cy g_walkers), (wi_rm56_0_9_0 rm cy g_now), (wi_rm43_0_8_0 rm cy g_bar), (wi_rm65_0_12_0 rm cy g_waits), (wi_rm44_0_24_0 rm cy g_kinds), (wi_rm61_0_300_0 rm cy g_gaps), (wi_rm66_3_12_0 rm cy g_goes), (wi_rm67_3_12_0 rm cy g_harms), (a_this, .inr (10, mfs rm x_taped x_at x_end x_ended x_bad x_badPlace x_fault x_faultPlace x_namePlace x_awayTold x_away x_coded x_statements x_isCrossing x_textKind x_askSecond x_redMany x_isOpen x_lastGreen x_greenTo x_isCycleGreen x_stillGreen x_rowMany x_fitMany x_fitRules x_fitGreen x_undoable x_newest x_seeded x_qCoded x_qWaits x_qOpened x_qBase v67 x_qAnswer x_qIsNew x_octets)), (wi_rm116_1_1700_1 rm cy f68)] H := hP
                        replace hD := k_D hP hD
                        obtain ⟨h69, h70, h71⟩ := hw
                        have h72 : v67.toInt = (J7_c0_117 : Int32).toInt + (1 : Int32).toInt := by have q1 := h70; have q2 : (1 : Int32).toInt = 1 := rfl; omega
                        replace hq := lf_p1 hq h71
                        refine lv_goto (tgt := 162) hx hb dX10_qTold_107 rfl ?_
                        exact jn162 z11 v67 f68 H locs ls (ib_w 0 1699 h9 rfl) (ib_w 1 1700 h8 rfl) (ib_w 1 1700 h69 rfl) (by have := hJ7_lin0; have := h72; have : (1 : Int32).toInt = 1 := rfl; omega) (by rw [lf_u Ez11]; exact hq) (cdm_push (z := z11) hQc hJ7_gh (by decide) (by have := (h8).1; have := (h8).2; have := (h9).1; have := (h9).2; have := hJ7_lin0; have := (h10).1; have := (h10).2; have := mt Int32.le_iff_toInt_le.mpr c4; omega) (by rw [ez11]; congr 1; show 0 + (Int32.toInt J7_l2).toNat = (Int32.toInt J7_l2).toNat; have := (h9).1; have := (h9).2; have := hJ7_lin0; have := (h10).1; have := (h10).2; omega) (Or.inl (by have := (h55).1; omega)) (by have := (h10).1; have := (h10).2; have := hJ7_lin0; have := (h9).1; have := (h9).2; have := (h69).1; have := (h69).2; have := h72; have : (1 : Int32).toInt = 1 := rfl; omega)) (hP.sub [9, 10, 0, 1, 2, 3, 4, 5, 6, 7, 8] rfl) (hD.sub [9, 10, 0, 1, 2, 3, 4, 5, 6, 7, 8] (by decide +kernel) rfl) hS (lv_sub hl [1, 2, 3, 0] rfl)
                · as_aux_lemma =>
                    replace hq := lf_neg hq (lf_nlt Ez11 (lf_lc 60 (60 : Int) rfl) c15)
                    have h73 := ib_nlt h14 (ib_c 60 60 60 rfl) c15
                    have h74 : ib z11 60 999 := ib_w 60 999 h73.1 rfl
                    have h75 : ib J7_c0_117 1 1699 := ⟨cdl_ge1 (z := z11) hQc hJ7_gh (by decide) (by have := (h8).1; have := (h8).2; have := (h9).1; have := (h9).2; have := hJ7_lin0; have := (h10).1; have := (h10).2; have := mt Int32.le_iff_toInt_le.mpr c4; omega) (by rw [ez11]; congr 1; show 0 + (Int32.toInt J7_l2).toNat = (Int32.toInt J7_l2).toNat; have := (h9).1; have := (h9).2; have := hJ7_lin0; have := (h10).1; have := (h10).2; omega) (Or.inr ⟨by have := (h74).2; omega, by have := (h74).1; omega⟩), (h10).2⟩
                    refine lv_aload_n hx hb dX10_qTold_48 rfl (lv_at hl 1 rfl) ?_
                    refine k_get C0 fg_X10_270 hP 0 rfl rfl dX10_qTold_49 ?_
                    refine lv_aload_n hx hb dX10_qTold_52 rfl (lv_at hl 1 rfl) ?_
                    refine k_get C0 fg_X10_440 hP 0 rfl rfl dX10_qTold_53 ?_
                    refine lv_iconst (v := 1) hx hb dX10_qTold_56 rfl ?_
                    refine lv_isub hx hb dX10_qTold_57 ?_
                    refine lv_topi (fun z76 ez76 => ?_)
                    have h77 := ib_sub h75 (ib_c 1 1 1 rfl) rfl
                    rw [← ez76] at h77
                    have h78 : ib z76 0 1698 := ib_w 0 1698 h77.1 rfl
                    have Ez76 := lf_sub h77.2 (lf_rf J7_c0_117) (lf_lc 1 (1 : Int) rfl)
                    refine lv_aload_n hx hb dX10_qTold_58 rfl (lv_at hl 1 rfl) ?_
                    refine lv_iload_n hx hb dX10_qTold_59 rfl (lv_at hl 0 rfl) ?_
                    refine lv_bipush (v := 60) hx hb dX10_qTold_60 rfl ?_
                    refine lv_isub hx hb dX10_qTold_62 ?_
                    refine lv_topi (fun z79 ez79 => ?_)
                    have h80 := ib_sub h74 (ib_c 60 60 60 rfl) rfl
                    rw [← ez79] at h80
                    have h81 : ib z79 0 939 := ib_w 0 939 h80.1 rfl
                    have Ez79 := lf_sub h80.2 Ez11 (lf_lc 60 (60 : Int) rfl)
                    refine lv_aload_n hx hb dX10_qTold_63 rfl (lv_at hl 1 rfl) ?_
                    refine k_get C0 fg_X10_270 hP 0 rfl rfl dX10_qTold_64 ?_
                    refine lv_aload_n hx hb dX10_qTold_67 rfl (lv_at hl 1 rfl) ?_
                    refine k_get C0 fg_X10_440 hP 0 rfl rfl dX10_qTold_68 ?_
                    refine lv_iconst (v := 1) hx hb dX10_qTold_71 rfl ?_
                    refine lv_isub hx hb dX10_qTold_72 ?_
                    as_aux_lemma =>
                      refine lv_topi (fun z82 ez82 => ?_)
                      obtain rfl : z76 = z82 := ez76.trans ez82.symm
                      refine va_lald hx hb C0.2.2.2.2.2.1 hP 1 1 rfl rfl (ib_in 1700 h78 rfl) dX10_qTold_73 ?_
                      refine lv_topl (fun z83 ez83 => ?_)
                      have Ez83 := lf_ldl ez83 (lf_raL J7_a1) Ez76
                      refine lv_iload_n hx hb dX10_qTold_74 rfl (lv_at hl 2 rfl) ?_
                      refine k_jlm hP hD hS hA [0, 3] [false, true, true, false, true, true, true, true, true, true, true] rfl rfl (by decide +kernel) 0 0 (Nat.le_of_ble_eq_true rfl) (Nat.le_of_ble_eq_true rfl) (fun hPc hDc => k_runV (As := [.int z79, .long z83, .int p0]) (rest := [.int z76, .ref (rm 116)]) C0 hZ hS hA (s_X10_qOf l dC dI cy sq a_this rm x_taped x_at x_end x_ended x_bad x_badPlace x_fault x_faultPlace x_namePlace x_awayTold x_away x_coded x_statements x_isCrossing x_textKind x_askSecond x_redMany x_isOpen x_lastGreen x_greenTo x_isCycleGreen x_stillGreen x_rowMany x_fitMany x_fitRules x_fitGreen x_undoable x_newest x_seeded x_qCoded x_qWaits x_qOpened x_qBase J7_c0_117 x_qAnswer x_qIsNew x_octets g_walkers z79 z83 p0 hpg_walkers (ib_w 0 11 hp0 rfl)) mV_X10_674 hPc hDc rfl rfl rfl hl rfl rfl (Nat.le_of_ble_eq_true rfl) ⟨(Nat.le_of_ble_eq_true rfl), (Nat.le_of_ble_eq_true rfl)⟩ ⟨(Nat.le_of_ble_eq_true rfl), (Nat.le_of_ble_eq_true rfl)⟩ dX10_qTold_75) (fun r84 u85 H locs hw hP hD hS => ?_)
                      try dsimp only at hP hD hw
                      replace hP : va_P (dC, dI) vwCl [(wi_rm116_1_1700_1 rm cy J7_a1), (wi_rm110_0_1700_0 rm cy g_qCodes), (wi_rm56_0_9_0 rm cy g_now), (wi_rm43_0_8_0 rm cy g_bar), (wi_rm65_0_12_0 rm cy g_waits), (wi_rm44_0_24_0 rm cy g_kinds), (wi_rm61_0_300_0 rm cy g_gaps), (wi_rm66_3_12_0 rm cy g_goes), (wi_rm67_3_12_0 rm cy g_harms), (a_this, .inr (10, mfs rm x_taped x_at x_end x_ended x_bad x_badPlace x_fault x_faultPlace x_namePlace x_awayTold x_away x_coded x_statements x_isCrossing x_textKind x_askSecond x_redMany x_isOpen x_lastGreen x_greenTo x_isCycleGreen x_stillGreen x_rowMany x_fitMany x_fitRules x_fitGreen x_undoable x_newest x_seeded x_qCoded x_qWaits x_qOpened x_qBase J7_c0_117 x_qAnswer x_qIsNew x_octets)), (wi_rm46_0_48_0 rm cy g_walkers)] H := hP
                      replace hD := k_D hP hD
                      have h86 := hw
                      have h86 := by have h9 := h86; rw [lf_ul Ez83] at h9; exact h9
                      replace hq := lf_b1 hq h86
                      refine k_jlm hP hD hS hA [] [true, true, true, true, true, true, true, true, true, true, true] rfl rfl (by decide +kernel) 0 0 (Nat.le_of_ble_eq_true rfl) (Nat.le_of_ble_eq_true rfl) (fun hPc hDc => k_runS (As := [.long r84]) (rest := [.int z76, .ref (rm 116)]) C0 hZ hS hA (s_X10_qClip l dC dI cy sq r84 ) mS_X10_666 hPc hDc hl rfl rfl (Nat.le_of_ble_eq_true rfl) ⟨(Nat.le_of_ble_eq_true rfl), (Nat.le_of_ble_eq_true rfl)⟩ ⟨(Nat.le_of_ble_eq_true rfl), (Nat.le_of_ble_eq_true rfl)⟩ dX10_qTold_78) (fun r87 u88 H locs hw hP hD hS => ?_)
                      try dsimp only at hP hD hw
                      replace hP : va_P (dC, dI) vwCl [(wi_rm116_1_1700_1 rm cy J7_a1), (wi_rm110_0_1700_0 rm cy g_qCodes), (wi_rm56_0_9_0 rm cy g_now), (wi_rm43_0_8_0 rm cy g_bar), (wi_rm65_0_12_0 rm cy g_waits), (wi_rm44_0_24_0 rm cy g_kinds), (wi_rm61_0_300_0 rm cy g_gaps), (wi_rm66_3_12_0 rm cy g_goes), (wi_rm67_3_12_0 rm cy g_harms), (a_this, .inr (10, mfs rm x_taped x_at x_end x_ended x_bad x_badPlace x_fault x_faultPlace x_namePlace x_awayTold x_away x_coded x_statements x_isCrossing x_textKind x_askSecond x_redMany x_isOpen x_lastGreen x_greenTo x_isCycleGreen x_stillGreen x_rowMany x_fitMany x_fitRules x_fitGreen x_undoable x_newest x_seeded x_qCoded x_qWaits x_qOpened x_qBase J7_c0_117 x_qAnswer x_qIsNew x_octets)), (wi_rm46_0_48_0 rm cy g_walkers)] H := hP
                      replace hD := k_D hP hD
                      have h89 := hw
                      replace hq := lf_b1 hq h89
                      refine va_last hx hb C0.2.2.2.2.2.1 hP hD hS 0 1 rfl rfl (ib_in 1700 h78 rfl) dX10_qTold_81 (fun H locs hP hD hS => ?_)
                      replace hP : va_P (dC, dI) vwCl [(wi_rm116_1_1700_1 rm cy (vp_updL J7_a1 (Int32.toNatClampNeg z76) r87)), (wi_rm110_0_1700_0 rm cy g_qCodes), (wi_rm56_0_9_0 rm cy g_now), (wi_rm43_0_8_0 rm cy g_bar), (wi_rm65_0_12_0 rm cy g_waits), (wi_rm44_0_24_0 rm cy g_kinds), (wi_rm61_0_300_0 rm cy g_gaps), (wi_rm66_3_12_0 rm cy g_goes), (wi_rm67_3_12_0 rm cy g_harms), (a_this, .inr (10, mfs rm x_taped x_at x_end x_ended x_bad x_badPlace x_fault x_faultPlace x_namePlace x_awayTold x_away x_coded x_statements x_isCrossing x_textKind x_askSecond x_redMany x_isOpen x_lastGreen x_greenTo x_isCycleGreen x_stillGreen x_rowMany x_fitMany x_fitRules x_fitGreen x_undoable x_newest x_seeded x_qCoded x_qWaits x_qOpened x_qBase J7_c0_117 x_qAnswer x_qIsNew x_octets)), (wi_rm46_0_48_0 rm cy g_walkers)] H := hP
                      replace hD := k_D hP hD
                      generalize h91E : vp_updL J7_a1 (Int32.toNatClampNeg z76) r87 = f90 at hP hD
                      have ef90 := h91E
                      have Ef90 := lf_stL ef90 (lf_raL J7_a1) Ez76 (lf_rl r87)
                      refine lv_goto (tgt := 162) hx hb dX10_qTold_82 rfl ?_
                      exact jn162 z11 J7_c0_117 f90 H locs ls (ib_w 0 1699 h9 rfl) (ib_w 1 1700 h8 rfl) (ib_w 1 1700 h75 rfl) (by have := hJ7_lin0; omega) (by rw [lf_u Ez11]; rw [lf_uaL Ef90]; exact hq) (cdm_same (z := z11) hQc hJ7_gh (by decide) (by have := (h8).1; have := (h8).2; have := (h9).1; have := (h9).2; have := hJ7_lin0; have := (h75).1; have := (h75).2; have := mt Int32.le_iff_toInt_le.mpr c4; omega) (by rw [ez11]; congr 1; show 0 + (Int32.toInt J7_l2).toNat = (Int32.toInt J7_l2).toNat; have := (h9).1; have := (h9).2; have := hJ7_lin0; have := (h75).1; have := (h75).2; omega) (Or.inr ⟨by have := (h74).2; omega, by have := (h74).1; omega⟩)) (hP.sub [9, 0, 1, 10, 2, 3, 4, 5, 6, 7, 8] rfl) (hD.sub [9, 0, 1, 10, 2, 3, 4, 5, 6, 7, 8] (by decide +kernel) rfl) hS (lv_sub hl [1, 2, 3, 0] rfl)
            · as_aux_lemma =>
                replace hq := lf_neg hq (lf_nlt Ez11 (lf_lc 1000 (1000 : Int) rfl) c12)
                have h92 := ib_nlt (ib_any z11) (ib_c 1000 1000 1000 rfl) c12
                have h93 : ib z11 1000 2147483647 := ib_w 1000 2147483647 h92.1 rfl
                refine lv_aload_n hx hb dX10_qTold_29 rfl (lv_at hl 1 rfl) ?_
                refine lv_iload_n hx hb dX10_qTold_30 rfl (lv_at hl 0 rfl) ?_
                refine lv_sipush (v := 1000) hx hb dX10_qTold_31 rfl ?_
                refine lv_isub hx hb dX10_qTold_34 ?_
                refine lv_topi (fun z94 ez94 => ?_)
                have h95 := ib_sub h93 (ib_c 1000 1000 1000 rfl) rfl
                rw [← ez94] at h95
                have h96 : ib z94 0 2147482647 := ib_w 0 2147482647 h95.1 rfl
                have Ez94 := lf_sub h95.2 Ez11 (lf_lc 1000 (1000 : Int) rfl)
                refine lv_i2l (v := z94.toInt64) hx hb dX10_qTold_35 rfl ?_
                refine k_jvm hP hD hS hA [0, 1] [false, false, true, true, true, true, true, true, true, true, true] rfl rfl (by decide +kernel) 0 0 (Nat.le_of_ble_eq_true rfl) (Nat.le_of_ble_eq_true rfl) (fun hPc hDc => k_runV (As := [.long z94.toInt64]) (rest := []) C0 hZ hS hA (s_X10_qPuts l dC dI cy sq a_this rm x_taped x_at x_end x_ended x_bad x_badPlace x_fault x_faultPlace x_namePlace x_awayTold x_away x_coded x_statements x_isCrossing x_textKind x_askSecond x_redMany x_isOpen x_lastGreen x_greenTo x_isCycleGreen x_stillGreen x_rowMany x_fitMany x_fitRules x_fitGreen x_undoable x_newest x_seeded x_qCoded x_qWaits x_qOpened x_qBase J7_c0_117 x_qAnswer x_qIsNew x_octets J7_a1 z94.toInt64 (ib_w 0 1699 h10 rfl)) mV_X10_443 hPc hDc rfl rfl rfl hl rfl rfl (Nat.le_of_ble_eq_true rfl) ⟨(Nat.le_of_ble_eq_true rfl), (Nat.le_of_ble_eq_true rfl)⟩ ⟨(Nat.le_of_ble_eq_true rfl), (Nat.le_of_ble_eq_true rfl)⟩ dX10_qTold_36) (fun u98 H locs hw hP hD hS => ?_)
                obtain ⟨v99, f100⟩ := u98
                try dsimp only at hP hD hw
                replace hP : va_P (dC, dI) vwCl [(wi_rm110_0_1700_0 rm cy g_qCodes), (wi_rm46_0_48_0 rm cy g_walkers), (wi_rm56_0_9_0 rm cy g_now), (wi_rm43_0_8_0 rm cy g_bar), (wi_rm65_0_12_0 rm cy g_waits), (wi_rm44_0_24_0 rm cy g_kinds), (wi_rm61_0_300_0 rm cy g_gaps), (wi_rm66_3_12_0 rm cy g_goes), (wi_rm67_3_12_0 rm cy g_harms), (a_this, .inr (10, mfs rm x_taped x_at x_end x_ended x_bad x_badPlace x_fault x_faultPlace x_namePlace x_awayTold x_away x_coded x_statements x_isCrossing x_textKind x_askSecond x_redMany x_isOpen x_lastGreen x_greenTo x_isCycleGreen x_stillGreen x_rowMany x_fitMany x_fitRules x_fitGreen x_undoable x_newest x_seeded x_qCoded x_qWaits x_qOpened x_qBase v99 x_qAnswer x_qIsNew x_octets)), (wi_rm116_1_1700_1 rm cy f100)] H := hP
                replace hD := k_D hP hD
                obtain ⟨h101, h102, h103⟩ := hw
                have h104 : v99.toInt = (J7_c0_117 : Int32).toInt + (1 : Int32).toInt := by have q1 := h102; have q2 : (1 : Int32).toInt = 1 := rfl; omega
                have h103 := by have h9 := h103; rw [lf_ul (lf_i2l Ez94)] at h9; exact h9
                replace hq := lf_p1 hq h103
                refine lv_goto (tgt := 162) hx hb dX10_qTold_39 rfl ?_
                exact jn162 z11 v99 f100 H locs ls (ib_w 0 1699 h9 rfl) (ib_w 1 1700 h8 rfl) (ib_w 1 1700 h101 rfl) (by have := hJ7_lin0; have := h104; have : (1 : Int32).toInt = 1 := rfl; omega) (by rw [lf_u Ez11]; exact hq) (cdm_push (z := z11) hQc hJ7_gh (by decide) (by have := (h8).1; have := (h8).2; have := (h9).1; have := (h9).2; have := hJ7_lin0; have := (h10).1; have := (h10).2; have := mt Int32.le_iff_toInt_le.mpr c4; omega) (by rw [ez11]; congr 1; show 0 + (Int32.toInt J7_l2).toNat = (Int32.toInt J7_l2).toNat; have := (h9).1; have := (h9).2; have := hJ7_lin0; have := (h10).1; have := (h10).2; omega) (Or.inl (by have := (h93).1; omega)) (by have := (h10).1; have := (h10).2; have := hJ7_lin0; have := (h9).1; have := (h9).2; have := (h101).1; have := (h101).2; have := h104; have : (1 : Int32).toInt = 1 := rfl; omega)) (hP.sub [9, 10, 0, 1, 2, 3, 4, 5, 6, 7, 8] rfl) (hD.sub [9, 10, 0, 1, 2, 3, 4, 5, 6, 7, 8] (by decide +kernel) rfl) hS (lv_sub hl [1, 2, 3, 0] rfl)
  refine lv_aload_n hx hb dX10_qTold_0 rfl (lv_at hl 0 rfl) ?_
  refine lv_iconst (v := 0) hx hb dX10_qTold_1 rfl ?_
  refine k_put C0 fp_X10_440 hP hD hS 0 rfl rfl rfl (Nat.le_of_ble_eq_true rfl) dX10_qTold_2 (fun H locs hP hD hS => ?_)
  replace hP : va_P (dC, dI) vwCl [(a_this, .inr (10, mfs rm x_taped x_at x_end x_ended x_bad x_badPlace x_fault x_faultPlace x_namePlace x_awayTold x_away x_coded x_statements x_isCrossing x_textKind x_askSecond x_redMany x_isOpen x_lastGreen x_greenTo x_isCycleGreen x_stillGreen x_rowMany x_fitMany x_fitRules x_fitGreen x_undoable x_newest x_seeded x_qCoded x_qWaits x_qOpened x_qBase 0 x_qAnswer x_qIsNew x_octets)), (wi_rm116_1_1700_1 rm cy g_qPile), (wi_rm110_0_1700_0 rm cy g_qCodes), (wi_rm46_0_48_0 rm cy g_walkers), (wi_rm56_0_9_0 rm cy g_now), (wi_rm43_0_8_0 rm cy g_bar), (wi_rm65_0_12_0 rm cy g_waits), (wi_rm44_0_24_0 rm cy g_kinds), (wi_rm61_0_300_0 rm cy g_gaps), (wi_rm66_3_12_0 rm cy g_goes), (wi_rm67_3_12_0 rm cy g_harms)] H := hP
  replace hD := k_D hP hD
  refine lv_iconst (v := 0) hx hb dX10_qTold_5 rfl ?_
  refine lv_istore_n (lv' := [(2, .int 0), (0, .ref a_this), (1, .int p0)]) hx hb dX10_qTold_6 rfl hl (Nat.le_of_ble_eq_true rfl) rfl (fun ls hl => ?_)
  exact jn7 1702 0 0 g_qPile H locs ls (ib_w 0 1700 (ib_c 0 0 0 rfl) rfl) (ib_w 0 1700 (ib_c 0 0 0 rfl) rfl) (by have : (0 : Int32).toInt = 0 := rfl; omega) (by try simp only [show (0 : Int32).toInt = (0 : Int) from rfl]; exact hq) (cdl_0 _ _ _) (by have := (ib_c 0 0 0 rfl); unfold ib at this; omega) hP hD hS (lv_sub hl [1, 2, 0] rfl)
set_option maxHeartbeats 4000000 in
set_option maxRecDepth 100000 in
theorem s_X10_qTakes (l : Launch) (dC : Nat → ClassId) (dI : Nat → Nat → Nat) (cy : Nat → ClassId) (sq : Nat → Nat) (a_this : Nat) (rm : Nat → Nat) (x_taped : Int32) (x_at : Int32) (x_end : Int32) (x_ended : Int32) (x_bad : Int32) (x_badPlace : Int32) (x_fault : Int32) (x_faultPlace : Int32) (x_namePlace : Int32) (x_awayTold : Int32) (x_away : Int32) (x_coded : Int32) (x_statements : Int32) (x_isCrossing : Int32) (x_textKind : Int32) (x_askSecond : Int32) (x_redMany : Int32) (x_isOpen : Int32) (x_lastGreen : Int32) (x_greenTo : Int32) (x_isCycleGreen : Int32) (x_stillGreen : Int32) (x_rowMany : Int32) (x_fitMany : Int32) (x_fitRules : Int32) (x_fitGreen : Int32) (x_undoable : Int32) (x_newest : Int32) (x_seeded : Int64) (x_qCoded : Int32) (x_qWaits : Int32) (x_qOpened : Int32) (x_qBase : Int32) (x_qPiled : Int32) (x_qAnswer : Int64) (x_qIsNew : Int32) (x_octets : Int32) (p0 : Int32) (p1 : Int64) (p2 : Int32) (hx_qIsNew : ib x_qIsNew 0 1) : k_Met l yX10_qTakes cX10_qTakes 6 none { frames := 0, cells := 0, slots := 0, locals := 0 } dC dI cy sq [.ref a_this, .int p0, .long p1, .int p2] [(a_this, .inr (10, mfs rm x_taped x_at x_end x_ended x_bad x_badPlace x_fault x_faultPlace x_namePlace x_awayTold x_away x_coded x_statements x_isCrossing x_textKind x_askSecond x_redMany x_isOpen x_lastGreen x_greenTo x_isCycleGreen x_stillGreen x_rowMany x_fitMany x_fitRules x_fitGreen x_undoable x_newest x_seeded x_qCoded x_qWaits x_qOpened x_qBase x_qPiled x_qAnswer x_qIsNew x_octets))] (k_Qv dC dI (fun (n0 : Int64) => (F_X10_qTakes (Int64.toInt x_qAnswer) (Int32.toInt x_qIsNew) (Int32.toInt p0) (Int64.toInt p1) (Int32.toInt p2) = ((Int64.toInt n0)))) (fun n0 : Int64 => [(a_this, .inr (10, mfs rm x_taped x_at x_end x_ended x_bad x_badPlace x_fault x_faultPlace x_namePlace x_awayTold x_away x_coded x_statements x_isCrossing x_textKind x_askSecond x_redMany x_isOpen x_lastGreen x_greenTo x_isCycleGreen x_stillGreen x_rowMany x_fitMany x_fitRules x_fitGreen x_undoable x_newest x_seeded x_qCoded x_qWaits x_qOpened x_qBase x_qPiled n0 0 x_octets))])) := by
  refine k_ofW2 (by decide +kernel) (Nat.le_of_ble_eq_true rfl) ?_
  intro p e s m below meth c A ls H locs args Q hQ C0 hZ hr hlk hin hP hD hA hS hl
  have C0 : k_cx p s m args c cX10_qTakes 6 RX10 dC dI cy sq := C0
  have hx := C0.1
  have hb := C0.2.1
  have hl : lv_has ls 6 [(0, .ref a_this), (1, .int p0), (2, .long p1), (4, .int p2)] := hl
  obtain ⟨O, hO⟩ : ∃ o, o = F_X10_qTakes (Int64.toInt x_qAnswer) (Int32.toInt x_qIsNew) (Int32.toInt p0) (Int64.toInt p1) (Int32.toInt p2) := ⟨_, rfl⟩
  have hq := hO
  unfold F_X10_qTakes at hq
  have jn133 : ∀ (J133_l5 : Int32) (J133_c0_118 : Int64) (H : Heap) (locs : List Loc) (ls : Array Slot), ib J133_l5 0 1 → (O = F_X10_qTakes_133 (Int32.toInt J133_l5) (Int64.toInt J133_c0_118)) → va_P (dC, dI) vwCl [(a_this, .inr (10, mfs rm x_taped x_at x_end x_ended x_bad x_badPlace x_fault x_faultPlace x_namePlace x_awayTold x_away x_coded x_statements x_isCrossing x_textKind x_askSecond x_redMany x_isOpen x_lastGreen x_greenTo x_isCycleGreen x_stillGreen x_rowMany x_fitMany x_fitRules x_fitGreen x_undoable x_newest x_seeded x_qCoded x_qWaits x_qOpened x_qBase x_qPiled J133_c0_118 x_qIsNew x_octets))] H → va_D A [(a_this, .inr (10, mfs rm x_taped x_at x_end x_ended x_bad x_badPlace x_fault x_faultPlace x_namePlace x_awayTold x_away x_coded x_statements x_isCrossing x_textKind x_askSecond x_redMany x_isOpen x_lastGreen x_greenTo x_isCycleGreen x_stillGreen x_rowMany x_fitMany x_fitRules x_fitGreen x_undoable x_newest x_seeded x_qCoded x_qWaits x_qOpened x_qBase x_qPiled J133_c0_118 x_qIsNew x_octets))] → va_S A s.heap H locs → lv_has ls 6 [(0, .ref a_this), (1, .int p0), (2, .long p1), (4, .int p2), (5, .int J133_l5)] → W p l e { frames := 0, cells := 0, slots := 0, locals := 0 } s m args below meth c H locs 0 0 Q (F0 m 133 ls []) := by
    intro J133_l5 J133_c0_118 H locs ls hJ133_l5 hq hP hD hS hl
    unfold F_X10_qTakes_133 at hq
    refine lv_aload_n hx hb dX10_qTakes_133 rfl (lv_at hl 0 rfl) ?_
    refine lv_iconst (v := 0) hx hb dX10_qTakes_134 rfl ?_
    refine k_put C0 fp_X10_683 hP hD hS 0 rfl (k_nb 0 rfl) (k_fb 0 (by decide)) (Nat.le_of_ble_eq_true rfl) dX10_qTakes_135 (fun H locs hP hD hS => ?_)
    replace hP : va_P (dC, dI) vwCl [(a_this, .inr (10, mfs rm x_taped x_at x_end x_ended x_bad x_badPlace x_fault x_faultPlace x_namePlace x_awayTold x_away x_coded x_statements x_isCrossing x_textKind x_askSecond x_redMany x_isOpen x_lastGreen x_greenTo x_isCycleGreen x_stillGreen x_rowMany x_fitMany x_fitRules x_fitGreen x_undoable x_newest x_seeded x_qCoded x_qWaits x_qOpened x_qBase x_qPiled J133_c0_118 0 x_octets))] H := hP
    replace hD := k_D hP hD
    subst hQ; exact k_vret hx hb hr hlk J133_c0_118 hS ((hO.symm.trans (by exact hq))) hP hD (Nat.le_of_ble_eq_true rfl) (Nat.le_of_ble_eq_true rfl) dX10_qTakes_138
  have jn128 : ∀ (J128_l5 : Int32) (J128_c0_118 : Int64) (H : Heap) (locs : List Loc) (ls : Array Slot), ib p0 4 2147483647 → ib J128_l5 0 1 → (O = F_X10_qTakes_128 (Int64.toInt p1) (Int32.toInt J128_l5) (Int64.toInt J128_c0_118)) → va_P (dC, dI) vwCl [(a_this, .inr (10, mfs rm x_taped x_at x_end x_ended x_bad x_badPlace x_fault x_faultPlace x_namePlace x_awayTold x_away x_coded x_statements x_isCrossing x_textKind x_askSecond x_redMany x_isOpen x_lastGreen x_greenTo x_isCycleGreen x_stillGreen x_rowMany x_fitMany x_fitRules x_fitGreen x_undoable x_newest x_seeded x_qCoded x_qWaits x_qOpened x_qBase x_qPiled J128_c0_118 x_qIsNew x_octets))] H → va_D A [(a_this, .inr (10, mfs rm x_taped x_at x_end x_ended x_bad x_badPlace x_fault x_faultPlace x_namePlace x_awayTold x_away x_coded x_statements x_isCrossing x_textKind x_askSecond x_redMany x_isOpen x_lastGreen x_greenTo x_isCycleGreen x_stillGreen x_rowMany x_fitMany x_fitRules x_fitGreen x_undoable x_newest x_seeded x_qCoded x_qWaits x_qOpened x_qBase x_qPiled J128_c0_118 x_qIsNew x_octets))] → va_S A s.heap H locs → lv_has ls 6 [(0, .ref a_this), (1, .int p0), (2, .long p1), (4, .int p2), (5, .int J128_l5)] → W p l e { frames := 0, cells := 0, slots := 0, locals := 0 } s m args below meth c H locs 0 0 Q (F0 m 128 ls []) := by
    intro J128_l5 J128_c0_118 H locs ls hK128_p0 hJ128_l5 hq hP hD hS hl
    unfold F_X10_qTakes_128 at hq
    refine lv_aload_n hx hb dX10_qTakes_128 rfl (lv_at hl 0 rfl) ?_
    refine lv_lload_n hx hb dX10_qTakes_129 rfl (lv_at hl 2 rfl) ?_
    refine k_put C0 fp_X10_678 hP hD hS 0 rfl rfl rfl (Nat.le_of_ble_eq_true rfl) dX10_qTakes_130 (fun H locs hP hD hS => ?_)
    replace hP : va_P (dC, dI) vwCl [(a_this, .inr (10, mfs rm x_taped x_at x_end x_ended x_bad x_badPlace x_fault x_faultPlace x_namePlace x_awayTold x_away x_coded x_statements x_isCrossing x_textKind x_askSecond x_redMany x_isOpen x_lastGreen x_greenTo x_isCycleGreen x_stillGreen x_rowMany x_fitMany x_fitRules x_fitGreen x_undoable x_newest x_seeded x_qCoded x_qWaits x_qOpened x_qBase x_qPiled p1 x_qIsNew x_octets))] H := hP
    replace hD := k_D hP hD
    exact jn133 J128_l5 p1 H locs ls (ib_w 0 1 hJ128_l5 rfl) (by exact hq) hP hD hS (lv_sub hl [0, 1, 2, 3, 4] rfl)
  have jn90 : ∀ (J90_l5 : Int32) (J90_c0_118 : Int64) (H : Heap) (locs : List Loc) (ls : Array Slot), ib J90_l5 0 1 → (O = F_X10_qTakes_90 (Int32.toInt x_qIsNew) (Int32.toInt p0) (Int64.toInt p1) (Int32.toInt J90_l5) (Int64.toInt J90_c0_118)) → va_P (dC, dI) vwCl [(a_this, .inr (10, mfs rm x_taped x_at x_end x_ended x_bad x_badPlace x_fault x_faultPlace x_namePlace x_awayTold x_away x_coded x_statements x_isCrossing x_textKind x_askSecond x_redMany x_isOpen x_lastGreen x_greenTo x_isCycleGreen x_stillGreen x_rowMany x_fitMany x_fitRules x_fitGreen x_undoable x_newest x_seeded x_qCoded x_qWaits x_qOpened x_qBase x_qPiled J90_c0_118 x_qIsNew x_octets))] H → va_D A [(a_this, .inr (10, mfs rm x_taped x_at x_end x_ended x_bad x_badPlace x_fault x_faultPlace x_namePlace x_awayTold x_away x_coded x_statements x_isCrossing x_textKind x_askSecond x_redMany x_isOpen x_lastGreen x_greenTo x_isCycleGreen x_stillGreen x_rowMany x_fitMany x_fitRules x_fitGreen x_undoable x_newest x_seeded x_qCoded x_qWaits x_qOpened x_qBase x_qPiled J90_c0_118 x_qIsNew x_octets))] → va_S A s.heap H locs → lv_has ls 6 [(0, .ref a_this), (1, .int p0), (2, .long p1), (4, .int p2), (5, .int J90_l5)] → W p l e { frames := 0, cells := 0, slots := 0, locals := 0 } s m args below meth c H locs 0 0 Q (F0 m 90 ls []) := by
    as_aux_lemma =>
      intro J90_l5 J90_c0_118 H locs ls hJ90_l5 hq hP hD hS hl
      unfold F_X10_qTakes_90 at hq
      refine lv_iload_n hx hb dX10_qTakes_90 rfl (lv_at hl 1 rfl) ?_
      refine lv_iconst (v := 3) hx hb dX10_qTakes_91 rfl ?_
      refine lv_icmp_le (tgt := 133) hx hb dX10_qTakes_92 rfl (fun c1 => ?_) (fun c1 => ?_)
      · replace hq := lf_pos hq (lf_le (lf_rf p0) (lf_lc 3 (3 : Int) rfl) c1)
        have h2 := ib_le (ib_any p0) (ib_c 3 3 3 rfl) c1
        have h3 : ib p0 (-2147483648) 3 := ib_w (-2147483648) 3 h2.1 rfl
        exact jn133 J90_l5 J90_c0_118 H locs ls (ib_w 0 1 hJ90_l5 rfl) (by exact hq) hP hD hS (lv_sub hl [0, 1, 2, 3, 4] rfl)
      · as_aux_lemma =>
          replace hq := lf_neg hq (lf_nle (lf_rf p0) (lf_lc 3 (3 : Int) rfl) c1)
          have h4 := ib_nle (ib_any p0) (ib_c 3 3 3 rfl) c1
          have h5 : ib p0 4 2147483647 := ib_w 4 2147483647 h4.1 rfl
          refine lv_aload_n hx hb dX10_qTakes_95 rfl (lv_at hl 0 rfl) ?_
          refine k_get C0 fg_X10_683 hP 0 rfl rfl dX10_qTakes_96 ?_
          refine lv_if_ne (tgt := 128) hx hb dX10_qTakes_99 rfl (fun c6 => ?_) (fun c6 => ?_)
          · replace hq := lf_neg hq (lf_ne (lf_rf x_qIsNew) (lf_lc 0 (0 : Int) rfl) c6)
            have h7 : ib x_qIsNew 1 1 := ib_w 1 1 (ib_ne_lo 0 hx_qIsNew rfl c6) rfl
            exact jn128 J90_l5 J90_c0_118 H locs ls (ib_w 4 2147483647 h5 rfl) (ib_w 0 1 hJ90_l5 rfl) (by exact hq) hP hD hS (lv_sub hl [0, 1, 2, 3, 4] rfl)
          · as_aux_lemma =>
              replace hq := lf_pos hq (lf_eq (lf_rf x_qIsNew) (lf_lc 0 (0 : Int) rfl) c6)
              have h8 := ib_eq hx_qIsNew (ib_c 0 0 0 rfl) c6
              have h9 : ib x_qIsNew 0 0 := ib_w 0 0 h8.1 rfl
              refine lv_iload_n hx hb dX10_qTakes_102 rfl (lv_at hl 1 rfl) ?_
              refine lv_iconst (v := 4) hx hb dX10_qTakes_103 rfl ?_
              refine lv_icmp_ne (tgt := 119) hx hb dX10_qTakes_104 rfl (fun c10 => ?_) (fun c10 => ?_)
              · replace hq := lf_neg hq (lf_ne (lf_rf p0) (lf_lc 4 (4 : Int) rfl) c10)
                have h11 : ib p0 5 2147483647 := ib_w 5 2147483647 (ib_ne_lo 4 h5 rfl c10) rfl
                refine lv_lload_n hx hb dX10_qTakes_119 rfl (lv_at hl 2 rfl) ?_
                refine lv_aload_n hx hb dX10_qTakes_120 rfl (lv_at hl 0 rfl) ?_
                refine k_get C0 fg_X10_678 hP 0 rfl rfl dX10_qTakes_121 ?_
                refine W.lcmp hx hb dX10_qTakes_124 ?_
                refine lv_topi (fun z12 ez12 => ?_)
                have h13 : ib z12 (-1) 1 := by rw [ez12]; exact ib_cmp _ _
                have Ez12 := lf_cmpe ez12 (lf_rl p1) (lf_rl J90_c0_118)
                refine lv_if_ge (tgt := 133) hx hb dX10_qTakes_125 rfl (fun c14 => ?_) (fun c14 => ?_)
                · replace hq := lf_pos hq (lf_le (lf_lc 0 (0 : Int) rfl) Ez12 c14)
                  have h15 := ib_le (ib_c 0 0 0 rfl) h13 c14
                  have h16 : ib z12 0 1 := ib_w 0 1 h15.2 rfl
                  exact jn133 J90_l5 J90_c0_118 H locs ls (ib_w 0 1 hJ90_l5 rfl) (by exact hq) hP hD hS (lv_sub hl [0, 1, 2, 3, 4] rfl)
                · replace hq := lf_neg hq (lf_nle (lf_lc 0 (0 : Int) rfl) Ez12 c14)
                  have h17 := ib_nle (ib_c 0 0 0 rfl) h13 c14
                  have h18 : ib z12 (-1) (-1) := ib_w (-1) (-1) h17.2 rfl
                  exact jn128 J90_l5 J90_c0_118 H locs ls (ib_w 4 2147483647 h11 rfl) (ib_w 0 1 hJ90_l5 rfl) (by exact hq) hP hD hS (lv_sub hl [0, 1, 2, 3, 4] rfl)
              · as_aux_lemma =>
                  replace hq := lf_pos hq (lf_eq (lf_rf p0) (lf_lc 4 (4 : Int) rfl) c10)
                  have h19 := ib_eq h5 (ib_c 4 4 4 rfl) c10
                  have h20 : ib p0 4 4 := ib_w 4 4 h19.1 rfl
                  refine lv_lload_n hx hb dX10_qTakes_107 rfl (lv_at hl 2 rfl) ?_
                  refine lv_aload_n hx hb dX10_qTakes_108 rfl (lv_at hl 0 rfl) ?_
                  refine k_get C0 fg_X10_678 hP 0 rfl rfl dX10_qTakes_109 ?_
                  refine W.lcmp hx hb dX10_qTakes_112 ?_
                  refine lv_topi (fun z21 ez21 => ?_)
                  have h22 : ib z21 (-1) 1 := by rw [ez21]; exact ib_cmp _ _
                  have Ez21 := lf_cmpe ez21 (lf_rl p1) (lf_rl J90_c0_118)
                  refine lv_if_le (tgt := 133) hx hb dX10_qTakes_113 rfl (fun c23 => ?_) (fun c23 => ?_)
                  · replace hq := lf_pos hq (lf_le Ez21 (lf_lc 0 (0 : Int) rfl) c23)
                    have h24 := ib_le h22 (ib_c 0 0 0 rfl) c23
                    have h25 : ib z21 (-1) 0 := ib_w (-1) 0 h24.1 rfl
                    exact jn133 J90_l5 J90_c0_118 H locs ls (ib_w 0 1 hJ90_l5 rfl) (by exact hq) hP hD hS (lv_sub hl [0, 1, 2, 3, 4] rfl)
                  · replace hq := lf_neg hq (lf_nle Ez21 (lf_lc 0 (0 : Int) rfl) c23)
                    have h26 := ib_nle h22 (ib_c 0 0 0 rfl) c23
                    have h27 : ib z21 1 1 := ib_w 1 1 h26.1 rfl
                    refine lv_goto (tgt := 128) hx hb dX10_qTakes_116 rfl ?_
                    exact jn128 J90_l5 J90_c0_118 H locs ls (ib_w 4 2147483647 h20 rfl) (ib_w 0 1 hJ90_l5 rfl) (by exact hq) hP hD hS (lv_sub hl [0, 1, 2, 3, 4] rfl)
  have jn75 : ∀ (J75_l5 : Int32) (J75_c0_118 : Int64) (H : Heap) (locs : List Loc) (ls : Array Slot), ib J75_l5 0 1 → (O = F_X10_qTakes_75 (Int32.toInt x_qIsNew) (Int32.toInt p0) (Int64.toInt p1) (Int32.toInt J75_l5) (Int64.toInt J75_c0_118)) → va_P (dC, dI) vwCl [(a_this, .inr (10, mfs rm x_taped x_at x_end x_ended x_bad x_badPlace x_fault x_faultPlace x_namePlace x_awayTold x_away x_coded x_statements x_isCrossing x_textKind x_askSecond x_redMany x_isOpen x_lastGreen x_greenTo x_isCycleGreen x_stillGreen x_rowMany x_fitMany x_fitRules x_fitGreen x_undoable x_newest x_seeded x_qCoded x_qWaits x_qOpened x_qBase x_qPiled J75_c0_118 x_qIsNew x_octets))] H → va_D A [(a_this, .inr (10, mfs rm x_taped x_at x_end x_ended x_bad x_badPlace x_fault x_faultPlace x_namePlace x_awayTold x_away x_coded x_statements x_isCrossing x_textKind x_askSecond x_redMany x_isOpen x_lastGreen x_greenTo x_isCycleGreen x_stillGreen x_rowMany x_fitMany x_fitRules x_fitGreen x_undoable x_newest x_seeded x_qCoded x_qWaits x_qOpened x_qBase x_qPiled J75_c0_118 x_qIsNew x_octets))] → va_S A s.heap H locs → lv_has ls 6 [(0, .ref a_this), (1, .int p0), (2, .long p1), (4, .int p2), (5, .int J75_l5)] → W p l e { frames := 0, cells := 0, slots := 0, locals := 0 } s m args below meth c H locs 0 0 Q (F0 m 75 ls []) := by
    as_aux_lemma =>
      intro J75_l5 J75_c0_118 H locs ls hJ75_l5 hq hP hD hS hl
      unfold F_X10_qTakes_75 at hq
      refine lv_iload_n hx hb dX10_qTakes_75 rfl (lv_at hl 1 rfl) ?_
      refine lv_iconst (v := 3) hx hb dX10_qTakes_76 rfl ?_
      refine lv_icmp_ne (tgt := 90) hx hb dX10_qTakes_77 rfl (fun c28 => ?_) (fun c28 => ?_)
      · replace hq := lf_neg hq (lf_ne (lf_rf p0) (lf_lc 3 (3 : Int) rfl) c28)
        exact jn90 J75_l5 J75_c0_118 H locs ls (ib_w 0 1 hJ75_l5 rfl) (by exact hq) hP hD hS (lv_sub hl [0, 1, 2, 3, 4] rfl)
      · replace hq := lf_pos hq (lf_eq (lf_rf p0) (lf_lc 3 (3 : Int) rfl) c28)
        have h29 := ib_eq (ib_any p0) (ib_c 3 3 3 rfl) c28
        have h30 : ib p0 3 3 := ib_w 3 3 h29.1 rfl
        refine lv_aload_n hx hb dX10_qTakes_80 rfl (lv_at hl 0 rfl) ?_
        refine lv_dup hx hb dX10_qTakes_81 rfl ?_
        refine k_get C0 fg_X10_678 hP 0 rfl rfl dX10_qTakes_82 ?_
        refine lv_lload_n hx hb dX10_qTakes_85 rfl (lv_at hl 2 rfl) ?_
        refine lv_ladd hx hb dX10_qTakes_86 ?_
        refine lv_topl (fun z31 ez31 => ?_)
        have Ez31 := lf_opl lf_ladd ez31 (lf_rl J75_c0_118) (lf_rl p1)
        refine k_put C0 fp_X10_678 hP hD hS 0 rfl rfl rfl (Nat.le_of_ble_eq_true rfl) dX10_qTakes_87 (fun H locs hP hD hS => ?_)
        replace hP : va_P (dC, dI) vwCl [(a_this, .inr (10, mfs rm x_taped x_at x_end x_ended x_bad x_badPlace x_fault x_faultPlace x_namePlace x_awayTold x_away x_coded x_statements x_isCrossing x_textKind x_askSecond x_redMany x_isOpen x_lastGreen x_greenTo x_isCycleGreen x_stillGreen x_rowMany x_fitMany x_fitRules x_fitGreen x_undoable x_newest x_seeded x_qCoded x_qWaits x_qOpened x_qBase x_qPiled z31 x_qIsNew x_octets))] H := hP
        replace hD := k_D hP hD
        exact jn90 J75_l5 z31 H locs ls (ib_w 0 1 hJ75_l5 rfl) (by rw [lf_ul Ez31]; exact hq) hP hD hS (lv_sub hl [0, 1, 2, 3, 4] rfl)
  have jn55 : ∀ (J55_l5 : Int32) (J55_c0_118 : Int64) (H : Heap) (locs : List Loc) (ls : Array Slot), ib J55_l5 0 1 → (O = F_X10_qTakes_55 (Int32.toInt x_qIsNew) (Int32.toInt p0) (Int64.toInt p1) (Int32.toInt J55_l5) (Int64.toInt J55_c0_118)) → va_P (dC, dI) vwCl [(a_this, .inr (10, mfs rm x_taped x_at x_end x_ended x_bad x_badPlace x_fault x_faultPlace x_namePlace x_awayTold x_away x_coded x_statements x_isCrossing x_textKind x_askSecond x_redMany x_isOpen x_lastGreen x_greenTo x_isCycleGreen x_stillGreen x_rowMany x_fitMany x_fitRules x_fitGreen x_undoable x_newest x_seeded x_qCoded x_qWaits x_qOpened x_qBase x_qPiled J55_c0_118 x_qIsNew x_octets))] H → va_D A [(a_this, .inr (10, mfs rm x_taped x_at x_end x_ended x_bad x_badPlace x_fault x_faultPlace x_namePlace x_awayTold x_away x_coded x_statements x_isCrossing x_textKind x_askSecond x_redMany x_isOpen x_lastGreen x_greenTo x_isCycleGreen x_stillGreen x_rowMany x_fitMany x_fitRules x_fitGreen x_undoable x_newest x_seeded x_qCoded x_qWaits x_qOpened x_qBase x_qPiled J55_c0_118 x_qIsNew x_octets))] → va_S A s.heap H locs → lv_has ls 6 [(0, .ref a_this), (1, .int p0), (2, .long p1), (4, .int p2), (5, .int J55_l5)] → W p l e { frames := 0, cells := 0, slots := 0, locals := 0 } s m args below meth c H locs 0 0 Q (F0 m 55 ls []) := by
    as_aux_lemma =>
      intro J55_l5 J55_c0_118 H locs ls hJ55_l5 hq hP hD hS hl
      unfold F_X10_qTakes_55 at hq
      refine lv_iload_n hx hb dX10_qTakes_55 rfl (lv_at hl 1 rfl) ?_
      refine lv_iconst (v := 2) hx hb dX10_qTakes_56 rfl ?_
      refine lv_icmp_ne (tgt := 75) hx hb dX10_qTakes_57 rfl (fun c32 => ?_) (fun c32 => ?_)
      · replace hq := lf_neg hq (lf_ne (lf_rf p0) (lf_lc 2 (2 : Int) rfl) c32)
        exact jn75 J55_l5 J55_c0_118 H locs ls (ib_w 0 1 hJ55_l5 rfl) (by exact hq) hP hD hS (lv_sub hl [0, 1, 2, 3, 4] rfl)
      · as_aux_lemma =>
          replace hq := lf_pos hq (lf_eq (lf_rf p0) (lf_lc 2 (2 : Int) rfl) c32)
          have h33 := ib_eq (ib_any p0) (ib_c 2 2 2 rfl) c32
          have h34 : ib p0 2 2 := ib_w 2 2 h33.1 rfl
          refine lv_iload hx hb dX10_qTakes_60 (lv_at hl 4 rfl) ?_
          refine lv_if_eq (tgt := 75) hx hb dX10_qTakes_62 rfl (fun c35 => ?_) (fun c35 => ?_)
          · replace hq := lf_pos hq (lf_eq (lf_rf J55_l5) (lf_lc 0 (0 : Int) rfl) c35)
            have h36 := ib_eq hJ55_l5 (ib_c 0 0 0 rfl) c35
            have h37 : ib J55_l5 0 0 := ib_w 0 0 h36.1 rfl
            exact jn75 J55_l5 J55_c0_118 H locs ls (ib_w 0 1 h37 rfl) (by exact hq) hP hD hS (lv_sub hl [0, 1, 2, 3, 4] rfl)
          · replace hq := lf_neg hq (lf_ne (lf_rf J55_l5) (lf_lc 0 (0 : Int) rfl) c35)
            have h38 : ib J55_l5 1 1 := ib_w 1 1 (ib_ne_lo 0 hJ55_l5 rfl c35) rfl
            refine lv_aload_n hx hb dX10_qTakes_65 rfl (lv_at hl 0 rfl) ?_
            refine lv_dup hx hb dX10_qTakes_66 rfl ?_
            refine k_get C0 fg_X10_678 hP 0 rfl rfl dX10_qTakes_67 ?_
            refine lv_lconst (v := 1) hx hb dX10_qTakes_70 (by decide) ?_
            refine lv_ladd hx hb dX10_qTakes_71 ?_
            refine lv_topl (fun z39 ez39 => ?_)
            have Ez39 := lf_opl lf_ladd ez39 (lf_rl J55_c0_118) (lf_ll 1 (1 : Int) rfl)
            refine k_put C0 fp_X10_678 hP hD hS 0 rfl rfl rfl (Nat.le_of_ble_eq_true rfl) dX10_qTakes_72 (fun H locs hP hD hS => ?_)
            replace hP : va_P (dC, dI) vwCl [(a_this, .inr (10, mfs rm x_taped x_at x_end x_ended x_bad x_badPlace x_fault x_faultPlace x_namePlace x_awayTold x_away x_coded x_statements x_isCrossing x_textKind x_askSecond x_redMany x_isOpen x_lastGreen x_greenTo x_isCycleGreen x_stillGreen x_rowMany x_fitMany x_fitRules x_fitGreen x_undoable x_newest x_seeded x_qCoded x_qWaits x_qOpened x_qBase x_qPiled z39 x_qIsNew x_octets))] H := hP
            replace hD := k_D hP hD
            exact jn75 J55_l5 z39 H locs ls (ib_w 0 1 h38 rfl) (by rw [lf_ul Ez39]; exact hq) hP hD hS (lv_sub hl [0, 1, 2, 3, 4] rfl)
  have jn48 : ∀ (J48_l5 : Int32) (H : Heap) (locs : List Loc) (ls : Array Slot), ib p0 0 1 → ib J48_l5 1 1 → (O = F_X10_qTakes_48 (Int32.toInt x_qIsNew) (Int32.toInt p0) (Int64.toInt p1) (Int32.toInt p2) (Int32.toInt J48_l5)) → va_P (dC, dI) vwCl [(a_this, .inr (10, mfs rm x_taped x_at x_end x_ended x_bad x_badPlace x_fault x_faultPlace x_namePlace x_awayTold x_away x_coded x_statements x_isCrossing x_textKind x_askSecond x_redMany x_isOpen x_lastGreen x_greenTo x_isCycleGreen x_stillGreen x_rowMany x_fitMany x_fitRules x_fitGreen x_undoable x_newest x_seeded x_qCoded x_qWaits x_qOpened x_qBase x_qPiled x_qAnswer x_qIsNew x_octets))] H → va_D A [(a_this, .inr (10, mfs rm x_taped x_at x_end x_ended x_bad x_badPlace x_fault x_faultPlace x_namePlace x_awayTold x_away x_coded x_statements x_isCrossing x_textKind x_askSecond x_redMany x_isOpen x_lastGreen x_greenTo x_isCycleGreen x_stillGreen x_rowMany x_fitMany x_fitRules x_fitGreen x_undoable x_newest x_seeded x_qCoded x_qWaits x_qOpened x_qBase x_qPiled x_qAnswer x_qIsNew x_octets))] → va_S A s.heap H locs → lv_has ls 6 [(0, .ref a_this), (1, .int p0), (2, .long p1), (4, .int p2), (5, .int J48_l5)] → W p l e { frames := 0, cells := 0, slots := 0, locals := 0 } s m args below meth c H locs 0 0 Q (F0 m 48 ls []) := by
    intro J48_l5 H locs ls hK48_p0 hJ48_l5 hq hP hD hS hl
    unfold F_X10_qTakes_48 at hq
    refine lv_aload_n hx hb dX10_qTakes_48 rfl (lv_at hl 0 rfl) ?_
    refine lv_iload hx hb dX10_qTakes_49 (lv_at hl 3 rfl) ?_
    refine lv_i2l (v := p2.toInt64) hx hb dX10_qTakes_51 rfl ?_
    refine k_put C0 fp_X10_678 hP hD hS 0 rfl rfl rfl (Nat.le_of_ble_eq_true rfl) dX10_qTakes_52 (fun H locs hP hD hS => ?_)
    replace hP : va_P (dC, dI) vwCl [(a_this, .inr (10, mfs rm x_taped x_at x_end x_ended x_bad x_badPlace x_fault x_faultPlace x_namePlace x_awayTold x_away x_coded x_statements x_isCrossing x_textKind x_askSecond x_redMany x_isOpen x_lastGreen x_greenTo x_isCycleGreen x_stillGreen x_rowMany x_fitMany x_fitRules x_fitGreen x_undoable x_newest x_seeded x_qCoded x_qWaits x_qOpened x_qBase x_qPiled p2.toInt64 x_qIsNew x_octets))] H := hP
    replace hD := k_D hP hD
    exact jn55 J48_l5 p2.toInt64 H locs ls (ib_w 0 1 hJ48_l5 rfl) (by rw [lf_ul (lf_i2l (lf_rf p2))]; exact hq) hP hD hS (lv_sub hl [0, 1, 2, 3, 4] rfl)
  have jn38 : ∀ (J38_l5 : Int32) (H : Heap) (locs : List Loc) (ls : Array Slot), ib J38_l5 0 1 → (O = F_X10_qTakes_38 (Int64.toInt x_qAnswer) (Int32.toInt x_qIsNew) (Int32.toInt p0) (Int64.toInt p1) (Int32.toInt p2) (Int32.toInt J38_l5)) → va_P (dC, dI) vwCl [(a_this, .inr (10, mfs rm x_taped x_at x_end x_ended x_bad x_badPlace x_fault x_faultPlace x_namePlace x_awayTold x_away x_coded x_statements x_isCrossing x_textKind x_askSecond x_redMany x_isOpen x_lastGreen x_greenTo x_isCycleGreen x_stillGreen x_rowMany x_fitMany x_fitRules x_fitGreen x_undoable x_newest x_seeded x_qCoded x_qWaits x_qOpened x_qBase x_qPiled x_qAnswer x_qIsNew x_octets))] H → va_D A [(a_this, .inr (10, mfs rm x_taped x_at x_end x_ended x_bad x_badPlace x_fault x_faultPlace x_namePlace x_awayTold x_away x_coded x_statements x_isCrossing x_textKind x_askSecond x_redMany x_isOpen x_lastGreen x_greenTo x_isCycleGreen x_stillGreen x_rowMany x_fitMany x_fitRules x_fitGreen x_undoable x_newest x_seeded x_qCoded x_qWaits x_qOpened x_qBase x_qPiled x_qAnswer x_qIsNew x_octets))] → va_S A s.heap H locs → lv_has ls 6 [(0, .ref a_this), (1, .int p0), (2, .long p1), (4, .int p2), (5, .int J38_l5)] → W p l e { frames := 0, cells := 0, slots := 0, locals := 0 } s m args below meth c H locs 0 0 Q (F0 m 38 ls []) := by
    intro J38_l5 H locs ls hJ38_l5 hq hP hD hS hl
    unfold F_X10_qTakes_38 at hq
    refine lv_iload_n hx hb dX10_qTakes_38 rfl (lv_at hl 1 rfl) ?_
    refine lv_iconst (v := 1) hx hb dX10_qTakes_39 rfl ?_
    refine lv_icmp_ne (tgt := 55) hx hb dX10_qTakes_40 rfl (fun c40 => ?_) (fun c40 => ?_)
    · replace hq := lf_neg hq (lf_ne (lf_rf p0) (lf_lc 1 (1 : Int) rfl) c40)
      exact jn55 J38_l5 x_qAnswer H locs ls (ib_w 0 1 hJ38_l5 rfl) (by exact hq) hP hD hS (lv_sub hl [0, 1, 2, 3, 4] rfl)
    · replace hq := lf_pos hq (lf_eq (lf_rf p0) (lf_lc 1 (1 : Int) rfl) c40)
      have h41 := ib_eq (ib_any p0) (ib_c 1 1 1 rfl) c40
      have h42 : ib p0 1 1 := ib_w 1 1 h41.1 rfl
      refine lv_iload hx hb dX10_qTakes_43 (lv_at hl 4 rfl) ?_
      refine lv_if_eq (tgt := 55) hx hb dX10_qTakes_45 rfl (fun c43 => ?_) (fun c43 => ?_)
      · replace hq := lf_pos hq (lf_eq (lf_rf J38_l5) (lf_lc 0 (0 : Int) rfl) c43)
        have h44 := ib_eq hJ38_l5 (ib_c 0 0 0 rfl) c43
        have h45 : ib J38_l5 0 0 := ib_w 0 0 h44.1 rfl
        exact jn55 J38_l5 x_qAnswer H locs ls (ib_w 0 1 h45 rfl) (by exact hq) hP hD hS (lv_sub hl [0, 1, 2, 3, 4] rfl)
      · replace hq := lf_neg hq (lf_ne (lf_rf J38_l5) (lf_lc 0 (0 : Int) rfl) c43)
        have h46 : ib J38_l5 1 1 := ib_w 1 1 (ib_ne_lo 0 hJ38_l5 rfl c43) rfl
        exact jn48 J38_l5 H locs ls (ib_w 0 1 h42 rfl) (ib_w 1 1 h46 rfl) (by exact hq) hP hD hS (lv_sub hl [0, 1, 2, 3, 4] rfl)
  have jn16 : ∀ (J16_s0 : Int32) (H : Heap) (locs : List Loc) (ls : Array Slot), ib J16_s0 0 1 → (O = F_X10_qTakes_16 (Int64.toInt x_qAnswer) (Int32.toInt x_qIsNew) (Int32.toInt p0) (Int64.toInt p1) (Int32.toInt p2) (Int32.toInt J16_s0)) → va_P (dC, dI) vwCl [(a_this, .inr (10, mfs rm x_taped x_at x_end x_ended x_bad x_badPlace x_fault x_faultPlace x_namePlace x_awayTold x_away x_coded x_statements x_isCrossing x_textKind x_askSecond x_redMany x_isOpen x_lastGreen x_greenTo x_isCycleGreen x_stillGreen x_rowMany x_fitMany x_fitRules x_fitGreen x_undoable x_newest x_seeded x_qCoded x_qWaits x_qOpened x_qBase x_qPiled x_qAnswer x_qIsNew x_octets))] H → va_D A [(a_this, .inr (10, mfs rm x_taped x_at x_end x_ended x_bad x_badPlace x_fault x_faultPlace x_namePlace x_awayTold x_away x_coded x_statements x_isCrossing x_textKind x_askSecond x_redMany x_isOpen x_lastGreen x_greenTo x_isCycleGreen x_stillGreen x_rowMany x_fitMany x_fitRules x_fitGreen x_undoable x_newest x_seeded x_qCoded x_qWaits x_qOpened x_qBase x_qPiled x_qAnswer x_qIsNew x_octets))] → va_S A s.heap H locs → lv_has ls 6 [(0, .ref a_this), (1, .int p0), (2, .long p1), (4, .int p2)] → W p l e { frames := 0, cells := 0, slots := 0, locals := 0 } s m args below meth c H locs 0 0 Q (F0 m 16 ls [.int J16_s0]) := by
    as_aux_lemma =>
      intro J16_s0 H locs ls hJ16_s0 hq hP hD hS hl
      unfold F_X10_qTakes_16 at hq
      refine lv_istore (lv' := [(5, .int J16_s0), (0, .ref a_this), (1, .int p0), (2, .long p1), (4, .int p2)]) hx hb dX10_qTakes_16 hl (Nat.le_of_ble_eq_true rfl) rfl (fun ls hl => ?_)
      refine lv_iload_n hx hb dX10_qTakes_18 rfl (lv_at hl 2 rfl) ?_
      refine lv_if_ne (tgt := 38) hx hb dX10_qTakes_19 rfl (fun c47 => ?_) (fun c47 => ?_)
      · replace hq := lf_neg hq (lf_ne (lf_rf p0) (lf_lc 0 (0 : Int) rfl) c47)
        exact jn38 J16_s0 H locs ls (ib_w 0 1 hJ16_s0 rfl) (by exact hq) hP hD hS (lv_sub hl [1, 2, 3, 4, 0] rfl)
      · as_aux_lemma =>
          replace hq := lf_pos hq (lf_eq (lf_rf p0) (lf_lc 0 (0 : Int) rfl) c47)
          have h48 := ib_eq (ib_any p0) (ib_c 0 0 0 rfl) c47
          have h49 : ib p0 0 0 := ib_w 0 0 h48.1 rfl
          refine lv_iload hx hb dX10_qTakes_22 (lv_at hl 0 rfl) ?_
          refine lv_if_eq (tgt := 38) hx hb dX10_qTakes_24 rfl (fun c50 => ?_) (fun c50 => ?_)
          · replace hq := lf_pos hq (lf_eq (lf_rf J16_s0) (lf_lc 0 (0 : Int) rfl) c50)
            have h51 := ib_eq hJ16_s0 (ib_c 0 0 0 rfl) c50
            have h52 : ib J16_s0 0 0 := ib_w 0 0 h51.1 rfl
            exact jn38 J16_s0 H locs ls (ib_w 0 1 h52 rfl) (by exact hq) hP hD hS (lv_sub hl [1, 2, 3, 4, 0] rfl)
          · replace hq := lf_neg hq (lf_ne (lf_rf J16_s0) (lf_lc 0 (0 : Int) rfl) c50)
            have h53 : ib J16_s0 1 1 := ib_w 1 1 (ib_ne_lo 0 hJ16_s0 rfl c50) rfl
            refine lv_aload_n hx hb dX10_qTakes_27 rfl (lv_at hl 1 rfl) ?_
            refine k_get C0 fg_X10_678 hP 0 rfl rfl dX10_qTakes_28 ?_
            refine lv_ldc2 hx hb C0.2.2.2.1 (C0.2.2.2.2.1 _ wd1405) dX10_qTakes_31 ?_
            refine W.lcmp hx hb dX10_qTakes_34 ?_
            refine lv_topi (fun z54 ez54 => ?_)
            have h55 : ib z54 (-1) 1 := by rw [ez54]; exact ib_cmp _ _
            have Ez54 := lf_cmpe ez54 (lf_rl x_qAnswer) (lf_ll (-1) (-1 : Int) rfl)
            refine lv_if_eq (tgt := 48) hx hb dX10_qTakes_35 rfl (fun c56 => ?_) (fun c56 => ?_)
            · replace hq := lf_pos hq (lf_eq Ez54 (lf_lc 0 (0 : Int) rfl) c56)
              have h57 := ib_eq h55 (ib_c 0 0 0 rfl) c56
              have h58 : ib z54 0 0 := ib_w 0 0 h57.1 rfl
              exact jn48 J16_s0 H locs ls (ib_w 0 1 h49 rfl) (ib_w 1 1 h53 rfl) (by exact hq) hP hD hS (lv_sub hl [1, 2, 3, 4, 0] rfl)
            · replace hq := lf_neg hq (lf_ne Ez54 (lf_lc 0 (0 : Int) rfl) c56)
              exact jn38 J16_s0 H locs ls (ib_w 0 1 h53 rfl) (by exact hq) hP hD hS (lv_sub hl [1, 2, 3, 4, 0] rfl)
  have jn15 : ∀  (H : Heap) (locs : List Loc) (ls : Array Slot), (O = F_X10_qTakes_15 (Int64.toInt x_qAnswer) (Int32.toInt x_qIsNew) (Int32.toInt p0) (Int64.toInt p1) (Int32.toInt p2) ) → va_P (dC, dI) vwCl [(a_this, .inr (10, mfs rm x_taped x_at x_end x_ended x_bad x_badPlace x_fault x_faultPlace x_namePlace x_awayTold x_away x_coded x_statements x_isCrossing x_textKind x_askSecond x_redMany x_isOpen x_lastGreen x_greenTo x_isCycleGreen x_stillGreen x_rowMany x_fitMany x_fitRules x_fitGreen x_undoable x_newest x_seeded x_qCoded x_qWaits x_qOpened x_qBase x_qPiled x_qAnswer x_qIsNew x_octets))] H → va_D A [(a_this, .inr (10, mfs rm x_taped x_at x_end x_ended x_bad x_badPlace x_fault x_faultPlace x_namePlace x_awayTold x_away x_coded x_statements x_isCrossing x_textKind x_askSecond x_redMany x_isOpen x_lastGreen x_greenTo x_isCycleGreen x_stillGreen x_rowMany x_fitMany x_fitRules x_fitGreen x_undoable x_newest x_seeded x_qCoded x_qWaits x_qOpened x_qBase x_qPiled x_qAnswer x_qIsNew x_octets))] → va_S A s.heap H locs → lv_has ls 6 [(0, .ref a_this), (1, .int p0), (2, .long p1), (4, .int p2)] → W p l e { frames := 0, cells := 0, slots := 0, locals := 0 } s m args below meth c H locs 0 0 Q (F0 m 15 ls []) := by
    intro H locs ls hq hP hD hS hl
    unfold F_X10_qTakes_15 at hq
    refine lv_iconst (v := 0) hx hb dX10_qTakes_15 rfl ?_
    exact jn16 0 H locs ls (ib_w 0 1 (ib_c 0 0 0 rfl) rfl) (by try simp only [show (0 : Int32).toInt = (0 : Int) from rfl]; exact hq) hP hD hS (lv_sub hl [0, 1, 2, 3] rfl)
  refine lv_iload_n hx hb dX10_qTakes_0 rfl (lv_at hl 1 rfl) ?_
  refine lv_iconst (v := 3) hx hb dX10_qTakes_1 rfl ?_
  refine lv_icmp_ge (tgt := 15) hx hb dX10_qTakes_2 rfl (fun c59 => ?_) (fun c59 => ?_)
  · replace hq := lf_pos hq (lf_le (lf_lc 3 (3 : Int) rfl) (lf_rf p0) c59)
    have h60 := ib_le (ib_c 3 3 3 rfl) (ib_any p0) c59
    have h61 : ib p0 3 2147483647 := ib_w 3 2147483647 h60.2 rfl
    exact jn15  H locs ls (by exact hq) hP hD hS (lv_sub hl [0, 1, 2, 3] rfl)
  · replace hq := lf_neg hq (lf_nle (lf_lc 3 (3 : Int) rfl) (lf_rf p0) c59)
    have h62 := ib_nle (ib_c 3 3 3 rfl) (ib_any p0) c59
    have h63 : ib p0 (-2147483648) 2 := ib_w (-2147483648) 2 h62.2 rfl
    refine lv_lload_n hx hb dX10_qTakes_5 rfl (lv_at hl 2 rfl) ?_
    refine lv_lconst (v := 1) hx hb dX10_qTakes_6 (by decide) ?_
    refine W.lcmp hx hb dX10_qTakes_7 ?_
    refine lv_topi (fun z64 ez64 => ?_)
    have h65 : ib z64 (-1) 1 := by rw [ez64]; exact ib_cmp _ _
    have Ez64 := lf_cmpe ez64 (lf_rl p1) (lf_ll 1 (1 : Int) rfl)
    refine lv_if_ne (tgt := 15) hx hb dX10_qTakes_8 rfl (fun c66 => ?_) (fun c66 => ?_)
    · replace hq := lf_neg hq (lf_ne Ez64 (lf_lc 0 (0 : Int) rfl) c66)
      exact jn15  H locs ls (by exact hq) hP hD hS (lv_sub hl [0, 1, 2, 3] rfl)
    · replace hq := lf_pos hq (lf_eq Ez64 (lf_lc 0 (0 : Int) rfl) c66)
      have h67 := ib_eq h65 (ib_c 0 0 0 rfl) c66
      have h68 : ib z64 0 0 := ib_w 0 0 h67.1 rfl
      refine lv_iconst (v := 1) hx hb dX10_qTakes_11 rfl ?_
      refine lv_goto (tgt := 16) hx hb dX10_qTakes_12 rfl ?_
      exact jn16 1 H locs ls (ib_w 0 1 (ib_c 1 1 1 rfl) rfl) (by try simp only [show (1 : Int32).toInt = (1 : Int) from rfl]; exact hq) hP hD hS (lv_sub hl [0, 1, 2, 3] rfl)
set_option maxHeartbeats 4000000 in
set_option maxRecDepth 100000 in
theorem s_X10_ask (l : Launch) (dC : Nat → ClassId) (dI : Nat → Nat → Nat) (cy : Nat → ClassId) (sq : Nat → Nat) (a_this : Nat) (rm : Nat → Nat) (x_taped : Int32) (x_at : Int32) (x_end : Int32) (x_ended : Int32) (x_bad : Int32) (x_badPlace : Int32) (x_fault : Int32) (x_faultPlace : Int32) (x_namePlace : Int32) (x_awayTold : Int32) (x_away : Int32) (x_coded : Int32) (x_statements : Int32) (x_isCrossing : Int32) (x_textKind : Int32) (x_askSecond : Int32) (x_redMany : Int32) (x_isOpen : Int32) (x_lastGreen : Int32) (x_greenTo : Int32) (x_isCycleGreen : Int32) (x_stillGreen : Int32) (x_rowMany : Int32) (x_fitMany : Int32) (x_fitRules : Int32) (x_fitGreen : Int32) (x_undoable : Int32) (x_newest : Int32) (x_seeded : Int64) (x_qCoded : Int32) (x_qWaits : Int32) (x_qOpened : Int32) (x_qBase : Int32) (x_qPiled : Int32) (x_qAnswer : Int64) (x_qIsNew : Int32) (x_octets : Int32) (g_tape : Nat → Int32) (g_many : Nat → Int32) (g_bar : Nat → Int32) (g_kinds : Nat → Int32) (g_walkers : Nat → Int32) (g_codeFrom : Nat → Int32) (g_codeEnd : Nat → Int32) (g_codes : Nat → Int32) (g_now : Nat → Int32) (g_isCar : Nat → Int32) (g_gaps : Nat → Int32) (g_isGreen : Nat → Int32) (g_isHere : Nat → Int32) (g_crosses : Nat → Int32) (g_waits : Nat → Int32) (g_goes : Nat → Int32) (g_harms : Nat → Int32) (g_presses : Nat → Int32) (g_crossedIn : Nat → Int32) (g_firstAsked : Nat → Int32) (g_lastAsked : Nat → Int32) (g_oftenAsked : Nat → Int32) (g_totalAsked : Nat → Int32) (g_mostAsked : Nat → Int32) (g_leastAsked : Nat → Int32) (g_notAsked : Nat → Int32) (g_andAsked : Nat → Int32) (g_orAsked : Nat → Int32) (g_allAsked : Nat → Int32) (g_minAsked : Nat → Int32) (g_maxAsked : Nat → Int32) (g_secondAsked : Nat → Int32) (g_dayAsked : Nat → Int32) (g_phaseAsked : Nat → Int32) (g_waitedAsked : Nat → Int32) (g_calmAsked : Nat → Int32) (g_paceAsked : Nat → Int32) (g_trustsAsked : Nat → Int32) (g_gapAsked : Nat → Int32) (g_redsAsked : Nat → Int32) (g_numberAsked : Nat → Int32) (g_wentAsked : Nat → Int32) (g_harmAsked : Nat → Int32) (g_kindofAsked : Nat → Int32) (g_qCodes : Nat → Int32) (g_qWait : Nat → Int32) (g_qPile : Nat → Int64) (hx_taped : ib x_taped 0 1600) (hx_at : ib x_at 0 1600) (hx_end : ib x_end 0 1600) (hx_isCrossing : ib x_isCrossing 0 1) (hx_isOpen : ib x_isOpen 0 1) (hx_isCycleGreen : ib x_isCycleGreen 0 1) (hx_qCoded : ib x_qCoded 0 1700) (hx_qWaits : ib x_qWaits 0 1700) (hx_qBase : ib x_qBase 0 1700) (hx_qPiled : ib x_qPiled 0 1700) (hx_qIsNew : ib x_qIsNew 0 1) (hg_tape : ia g_tape 1600 0 255) (hg_many_3 : ib (g_many 3) 0 12) (hg_bar_4 : ib (g_bar 4) 0 120) (hpg_walkers : ip g_walkers 48 2 0 0 5) (hg_codeFrom_3 : ib (g_codeFrom 3) (-1) 1600) (hg_codeFrom_4 : ib (g_codeFrom 4) (-1) 1600) (hg_codeEnd_3 : ib (g_codeEnd 3) 0 1600) (hg_codeEnd_4 : ib (g_codeEnd 4) 0 1600) (hg_gaps : ia g_gaps 300 0 20) (hG0 : ¬ g_codeFrom 3 = (-1) → okc g_codes 1600 false (g_codeFrom 3) (g_codeEnd 3)) (hG1 : ¬ g_codeFrom 4 = (-1) → okc g_codes 1600 true (g_codeFrom 4) (g_codeEnd 4)) (hc_cr : ¬ x_isCrossing = 0 → ib (g_bar 4) 10 120) : k_Met l yX10_ask cX10_ask 3 (some .long) { frames := 9, cells := 0, slots := 0, locals := 196 } dC dI cy sq [.ref a_this] [(a_this, .inr (10, mfs rm x_taped x_at x_end x_ended x_bad x_badPlace x_fault x_faultPlace x_namePlace x_awayTold x_away x_coded x_statements x_isCrossing x_textKind x_askSecond x_redMany x_isOpen x_lastGreen x_greenTo x_isCycleGreen x_stillGreen x_rowMany x_fitMany x_fitRules x_fitGreen x_undoable x_newest x_seeded x_qCoded x_qWaits x_qOpened x_qBase x_qPiled x_qAnswer x_qIsNew x_octets)), (wi_rm0_0_1600_0 rm cy g_tape), (wi_rm85_2_5_0 rm cy g_firstAsked), (wi_rm86_2_4_0 rm cy g_lastAsked), (wi_rm87_2_5_0 rm cy g_oftenAsked), (wi_rm88_2_5_0 rm cy g_totalAsked), (wi_rm89_2_4_0 rm cy g_mostAsked), (wi_rm90_2_5_0 rm cy g_leastAsked), (wi_rm97_2_6_0 rm cy g_secondAsked), (wi_rm98_2_3_0 rm cy g_dayAsked), (wi_rm99_2_5_0 rm cy g_phaseAsked), (wi_rm100_2_6_0 rm cy g_waitedAsked), (wi_rm101_2_4_0 rm cy g_calmAsked), (wi_rm102_2_4_0 rm cy g_paceAsked), (wi_rm103_2_6_0 rm cy g_trustsAsked), (wi_rm104_2_3_0 rm cy g_gapAsked), (wi_rm105_2_4_0 rm cy g_redsAsked), (wi_rm106_2_6_0 rm cy g_numberAsked), (wi_rm107_2_4_0 rm cy g_wentAsked), (wi_rm108_2_4_0 rm cy g_harmAsked), (wi_rm109_2_4_0 rm cy g_kindofAsked), (wi_rm95_2_3_0 rm cy g_minAsked), (wi_rm112_0_1700_0 rm cy g_qWait), (wi_rm96_2_3_0 rm cy g_maxAsked), (wi_rm110_0_1700_0 rm cy g_qCodes), (wi_rm49_0_6_0 rm cy g_codeFrom), (wi_rm50_0_6_0 rm cy g_codeEnd), (wi_rm116_1_1700_1 rm cy g_qPile), (wi_rm51_0_3200_0 rm cy g_codes), (wi_rm46_0_48_0 rm cy g_walkers), (wi_rm56_0_9_0 rm cy g_now), (wi_rm43_0_8_0 rm cy g_bar), (wi_rm65_0_12_0 rm cy g_waits), (wi_rm44_0_24_0 rm cy g_kinds), (wi_rm61_0_300_0 rm cy g_gaps), (wi_rm66_3_12_0 rm cy g_goes), (wi_rm67_3_12_0 rm cy g_harms), (wi_rm60_3_320_0 rm cy g_isCar), (wi_rm63_3_12_0 rm cy g_isHere), (wi_rm64_0_12_0 rm cy g_crosses), (wi_rm68_3_12_0 rm cy g_presses), (wi_rm69_3_300_0 rm cy g_crossedIn), (wi_rm41_0_4_0 rm cy g_many), (wi_rm62_3_300_0 rm cy g_isGreen), (wi_rm91_2_3_0 rm cy g_notAsked), (wi_rm94_2_3_0 rm cy g_allAsked), (wi_rm92_2_3_0 rm cy g_andAsked), (wi_rm93_2_2_0 rm cy g_orAsked)] (k_Ql dC dI (fun (r : Int64) (u : Int32 × Int32 × Int32 × Int32 × Int32 × Int32 × Int32 × Int32 × Int32 × Int32 × Int32 × Int32 × Int32 × Int32 × Int32 × Int32 × Int32 × Int32 × Int32 × Int32 × Int64 × Int32 × (Nat → Int32) × (Nat → Int32) × (Nat → Int64) × (Nat → Int32) × (Nat → Int32) × (Nat → Int32) × (Nat → Int32) × (Nat → Int32) × (Nat → Int32) × (Nat → Int32) × (Nat → Int32) × (Nat → Int32) × (Nat → Int32)) => match u with | (n0, n1, n2, n3, n4, n5, n6, n7, n8, n9, n10, n11, n12, n13, n14, n15, n16, n17, n18, n19, n20, n21, n22, n23, n24, n25, n26, n27, n28, n29, n30, n31, n32, n33, n34) => ib n0 0 1600 ∧ ib n1 0 1600 ∧ ib n10 0 1 ∧ ib n13 0 1 ∧ ib n15 0 1700 ∧ ib n16 0 1700 ∧ ib n18 0 1700 ∧ ib n19 0 1700 ∧ ib n21 0 1 ∧ ia n26 300 0 20 ∧ (F_X10_ask (Int32.toInt x_taped) (Int32.toInt x_at) (Int32.toInt x_end) (Int32.toInt x_ended) (Int32.toInt x_bad) (Int32.toInt x_badPlace) (Int32.toInt x_fault) (Int32.toInt x_faultPlace) (Int32.toInt x_isCrossing) (Int32.toInt x_textKind) (Int32.toInt x_askSecond) (Int32.toInt x_redMany) (Int32.toInt x_isOpen) (Int32.toInt x_lastGreen) (Int32.toInt x_greenTo) (Int32.toInt x_isCycleGreen) (Int32.toInt x_stillGreen) (Int32.toInt x_qCoded) (Int32.toInt x_qWaits) (Int32.toInt x_qOpened) (Int32.toInt x_qBase) (Int32.toInt x_qPiled) (Int64.toInt x_qAnswer) (Int32.toInt x_qIsNew) (lf_A g_tape) (lf_A g_many) (lf_A g_bar) (lf_A g_kinds) (lf_A g_walkers) (lf_A g_codeFrom) (lf_A g_codeEnd) (lf_A g_codes) (lf_A g_now) (lf_A g_isCar) (lf_A g_gaps) (lf_A g_isGreen) (lf_A g_isHere) (lf_A g_crosses) (lf_A g_waits) (lf_A g_goes) (lf_A g_harms) (lf_A g_presses) (lf_A g_crossedIn) (lf_A g_firstAsked) (lf_A g_lastAsked) (lf_A g_oftenAsked) (lf_A g_totalAsked) (lf_A g_mostAsked) (lf_A g_leastAsked) (lf_A g_notAsked) (lf_A g_andAsked) (lf_A g_orAsked) (lf_A g_allAsked) (lf_A g_minAsked) (lf_A g_maxAsked) (lf_A g_secondAsked) (lf_A g_dayAsked) (lf_A g_phaseAsked) (lf_A g_waitedAsked) (lf_A g_calmAsked) (lf_A g_paceAsked) (lf_A g_trustsAsked) (lf_A g_gapAsked) (lf_A g_redsAsked) (lf_A g_numberAsked) (lf_A g_wentAsked) (lf_A g_harmAsked) (lf_A g_kindofAsked) (lf_A g_qCodes) (lf_A g_qWait) (lf_L g_qPile) = ((Int64.toInt r), (Int32.toInt n0), (Int32.toInt n1), (Int32.toInt n2), (Int32.toInt n3), (Int32.toInt n4), (Int32.toInt n5), (Int32.toInt n6), (Int32.toInt n7), (Int32.toInt n8), (Int32.toInt n9), (Int32.toInt n10), (Int32.toInt n11), (Int32.toInt n12), (Int32.toInt n13), (Int32.toInt n14), (Int32.toInt n15), (Int32.toInt n16), (Int32.toInt n17), (Int32.toInt n18), (Int32.toInt n19), (Int64.toInt n20), (Int32.toInt n21), (lf_A n22), (lf_A n23), (lf_L n24), (lf_A n25), (lf_A n26), (lf_A n27), (lf_A n28), (lf_A n29), (lf_A n30), (lf_A n31), (lf_A n32), (lf_A n33), (lf_A n34)))) (fun u : Int32 × Int32 × Int32 × Int32 × Int32 × Int32 × Int32 × Int32 × Int32 × Int32 × Int32 × Int32 × Int32 × Int32 × Int32 × Int32 × Int32 × Int32 × Int32 × Int32 × Int64 × Int32 × (Nat → Int32) × (Nat → Int32) × (Nat → Int64) × (Nat → Int32) × (Nat → Int32) × (Nat → Int32) × (Nat → Int32) × (Nat → Int32) × (Nat → Int32) × (Nat → Int32) × (Nat → Int32) × (Nat → Int32) × (Nat → Int32) => match u with | (n0, n1, n2, n3, n4, n5, n6, n7, n8, n9, n10, n11, n12, n13, n14, n15, n16, n17, n18, n19, n20, n21, n22, n23, n24, n25, n26, n27, n28, n29, n30, n31, n32, n33, n34) => [(a_this, .inr (10, mfs rm 0 n0 n1 n2 n3 n4 n5 n6 x_namePlace x_awayTold x_away x_coded x_statements x_isCrossing n7 n8 n9 n10 n11 n12 n13 n14 x_rowMany x_fitMany x_fitRules x_fitGreen x_undoable x_newest x_seeded n15 n16 n17 n18 n19 n20 n21 x_octets)), (wi_rm0_0_1600_0 rm cy g_tape), (wi_rm85_2_5_0 rm cy g_firstAsked), (wi_rm86_2_4_0 rm cy g_lastAsked), (wi_rm87_2_5_0 rm cy g_oftenAsked), (wi_rm88_2_5_0 rm cy g_totalAsked), (wi_rm89_2_4_0 rm cy g_mostAsked), (wi_rm90_2_5_0 rm cy g_leastAsked), (wi_rm97_2_6_0 rm cy g_secondAsked), (wi_rm98_2_3_0 rm cy g_dayAsked), (wi_rm99_2_5_0 rm cy g_phaseAsked), (wi_rm100_2_6_0 rm cy g_waitedAsked), (wi_rm101_2_4_0 rm cy g_calmAsked), (wi_rm102_2_4_0 rm cy g_paceAsked), (wi_rm103_2_6_0 rm cy g_trustsAsked), (wi_rm104_2_3_0 rm cy g_gapAsked), (wi_rm105_2_4_0 rm cy g_redsAsked), (wi_rm106_2_6_0 rm cy g_numberAsked), (wi_rm107_2_4_0 rm cy g_wentAsked), (wi_rm108_2_4_0 rm cy g_harmAsked), (wi_rm109_2_4_0 rm cy g_kindofAsked), (wi_rm95_2_3_0 rm cy g_minAsked), (wi_rm112_0_1700_0 rm cy n22), (wi_rm96_2_3_0 rm cy g_maxAsked), (wi_rm110_0_1700_0 rm cy n23), (wi_rm49_0_6_0 rm cy g_codeFrom), (wi_rm50_0_6_0 rm cy g_codeEnd), (wi_rm116_1_1700_1 rm cy n24), (wi_rm51_0_3200_0 rm cy g_codes), (wi_rm46_0_48_0 rm cy g_walkers), (wi_rm56_0_9_0 rm cy g_now), (wi_rm43_0_8_0 rm cy g_bar), (wi_rm65_0_12_0 rm cy n25), (wi_rm44_0_24_0 rm cy g_kinds), (wi_rm61_0_300_0 rm cy n26), (wi_rm66_3_12_0 rm cy n27), (wi_rm67_3_12_0 rm cy n28), (wi_rm60_3_320_0 rm cy n29), (wi_rm63_3_12_0 rm cy n30), (wi_rm64_0_12_0 rm cy n31), (wi_rm68_3_12_0 rm cy n32), (wi_rm69_3_300_0 rm cy n33), (wi_rm41_0_4_0 rm cy g_many), (wi_rm62_3_300_0 rm cy n34), (wi_rm91_2_3_0 rm cy g_notAsked), (wi_rm94_2_3_0 rm cy g_allAsked), (wi_rm92_2_3_0 rm cy g_andAsked), (wi_rm93_2_2_0 rm cy g_orAsked)])) := by
  refine k_ofW2 (by decide +kernel) (Nat.le_of_ble_eq_true rfl) ?_
  intro p e s m below meth c A ls H locs args Q hQ C0 hZ hr hlk hin hP hD hA hS hl
  have C0 : k_cx p s m args c cX10_ask 3 RX10 dC dI cy sq := C0
  have hx := C0.1
  have hb := C0.2.1
  have hl : lv_has ls 3 [(0, .ref a_this)] := hl
  obtain ⟨O, hO⟩ : ∃ o, o = F_X10_ask (Int32.toInt x_taped) (Int32.toInt x_at) (Int32.toInt x_end) (Int32.toInt x_ended) (Int32.toInt x_bad) (Int32.toInt x_badPlace) (Int32.toInt x_fault) (Int32.toInt x_faultPlace) (Int32.toInt x_isCrossing) (Int32.toInt x_textKind) (Int32.toInt x_askSecond) (Int32.toInt x_redMany) (Int32.toInt x_isOpen) (Int32.toInt x_lastGreen) (Int32.toInt x_greenTo) (Int32.toInt x_isCycleGreen) (Int32.toInt x_stillGreen) (Int32.toInt x_qCoded) (Int32.toInt x_qWaits) (Int32.toInt x_qOpened) (Int32.toInt x_qBase) (Int32.toInt x_qPiled) (Int64.toInt x_qAnswer) (Int32.toInt x_qIsNew) (lf_A g_tape) (lf_A g_many) (lf_A g_bar) (lf_A g_kinds) (lf_A g_walkers) (lf_A g_codeFrom) (lf_A g_codeEnd) (lf_A g_codes) (lf_A g_now) (lf_A g_isCar) (lf_A g_gaps) (lf_A g_isGreen) (lf_A g_isHere) (lf_A g_crosses) (lf_A g_waits) (lf_A g_goes) (lf_A g_harms) (lf_A g_presses) (lf_A g_crossedIn) (lf_A g_firstAsked) (lf_A g_lastAsked) (lf_A g_oftenAsked) (lf_A g_totalAsked) (lf_A g_mostAsked) (lf_A g_leastAsked) (lf_A g_notAsked) (lf_A g_andAsked) (lf_A g_orAsked) (lf_A g_allAsked) (lf_A g_minAsked) (lf_A g_maxAsked) (lf_A g_secondAsked) (lf_A g_dayAsked) (lf_A g_phaseAsked) (lf_A g_waitedAsked) (lf_A g_calmAsked) (lf_A g_paceAsked) (lf_A g_trustsAsked) (lf_A g_gapAsked) (lf_A g_redsAsked) (lf_A g_numberAsked) (lf_A g_wentAsked) (lf_A g_harmAsked) (lf_A g_kindofAsked) (lf_A g_qCodes) (lf_A g_qWait) (lf_L g_qPile) := ⟨_, rfl⟩
  have hq := hO
  unfold F_X10_ask at hq
  have jn192 : ∀ (n : Nat) (J192_l1 : Int32) (J192_c0_2 : Int32) (J192_c0_4 : Int32) (J192_c0_5 : Int32) (J192_c0_6 : Int32) (J192_c0_7 : Int32) (J192_c0_8 : Int32) (J192_c0_58 : Int32) (J192_c0_59 : Int32) (J192_c0_70 : Int32) (J192_c0_71 : Int32) (J192_c0_72 : Int32) (J192_c0_73 : Int32) (J192_c0_74 : Int32) (J192_c0_111 : Int32) (J192_c0_113 : Int32) (J192_c0_114 : Int32) (J192_c0_117 : Int32) (J192_a22 : Nat → Int32) (J192_a24 : Nat → Int32) (J192_a27 : Nat → Int64) (J192_a32 : Nat → Int32) (J192_a34 : Nat → Int32) (J192_a35 : Nat → Int32) (J192_a36 : Nat → Int32) (J192_a37 : Nat → Int32) (J192_a38 : Nat → Int32) (J192_a39 : Nat → Int32) (J192_a40 : Nat → Int32) (J192_a41 : Nat → Int32) (J192_a43 : Nat → Int32) (J192_c0_118 : Int64) (J192_l2 : Int32) (J192_c0_119 : Int32) (H : Heap) (locs : List Loc) (ls : Array Slot), ib J192_l1 0 5 → ib J192_c0_2 0 1600 → ib J192_c0_5 0 0 → ib J192_c0_7 0 0 → ib x_isCrossing 1 1 → ib J192_c0_70 0 1 → ib J192_c0_73 0 1 → ib J192_c0_111 0 1600 → ib J192_c0_113 0 0 → ib J192_c0_117 0 1700 → ib (g_bar 4) 10 120 → ib J192_l2 0 12 → ib J192_c0_119 0 1 → ia J192_a34 300 0 20 → (okc J192_a24 0 false 0 J192_c0_111) → (O = F_X10_ask_192 (Int32.toInt x_taped) (lf_A g_many) (lf_A g_bar) (lf_A g_kinds) (lf_A g_walkers) (lf_A g_now) n (Int32.toInt J192_l1) (Int32.toInt J192_c0_2) (Int32.toInt J192_c0_4) (Int32.toInt J192_c0_5) (Int32.toInt J192_c0_6) (Int32.toInt J192_c0_7) (Int32.toInt J192_c0_8) (Int32.toInt J192_c0_58) (Int32.toInt J192_c0_59) (Int32.toInt J192_c0_70) (Int32.toInt J192_c0_71) (Int32.toInt J192_c0_72) (Int32.toInt J192_c0_73) (Int32.toInt J192_c0_74) (Int32.toInt J192_c0_111) (Int32.toInt J192_c0_113) (Int32.toInt J192_c0_114) (Int32.toInt J192_c0_117) (lf_A J192_a22) (lf_A J192_a24) (lf_L J192_a27) (lf_A J192_a32) (lf_A J192_a34) (lf_A J192_a35) (lf_A J192_a36) (lf_A J192_a37) (lf_A J192_a38) (lf_A J192_a39) (lf_A J192_a40) (lf_A J192_a41) (lf_A J192_a43) (Int64.toInt J192_c0_118) (Int32.toInt J192_l2) (Int32.toInt J192_c0_119)) → 13 ≤ J192_l2.toInt + (n : Int) → va_P (dC, dI) vwCl [(a_this, .inr (10, mfs rm 0 J192_c0_2 x_taped J192_c0_4 J192_c0_5 J192_c0_6 J192_c0_7 J192_c0_8 x_namePlace x_awayTold x_away x_coded x_statements x_isCrossing 3 J192_c0_58 J192_c0_59 J192_c0_70 J192_c0_71 J192_c0_72 J192_c0_73 J192_c0_74 x_rowMany x_fitMany x_fitRules x_fitGreen x_undoable x_newest x_seeded J192_c0_111 J192_c0_113 J192_c0_114 0 J192_c0_117 J192_c0_118 J192_c0_119 x_octets)), (wi_rm0_0_1600_0 rm cy g_tape), (wi_rm85_2_5_0 rm cy g_firstAsked), (wi_rm86_2_4_0 rm cy g_lastAsked), (wi_rm87_2_5_0 rm cy g_oftenAsked), (wi_rm88_2_5_0 rm cy g_totalAsked), (wi_rm89_2_4_0 rm cy g_mostAsked), (wi_rm90_2_5_0 rm cy g_leastAsked), (wi_rm97_2_6_0 rm cy g_secondAsked), (wi_rm98_2_3_0 rm cy g_dayAsked), (wi_rm99_2_5_0 rm cy g_phaseAsked), (wi_rm100_2_6_0 rm cy g_waitedAsked), (wi_rm101_2_4_0 rm cy g_calmAsked), (wi_rm102_2_4_0 rm cy g_paceAsked), (wi_rm103_2_6_0 rm cy g_trustsAsked), (wi_rm104_2_3_0 rm cy g_gapAsked), (wi_rm105_2_4_0 rm cy g_redsAsked), (wi_rm106_2_6_0 rm cy g_numberAsked), (wi_rm107_2_4_0 rm cy g_wentAsked), (wi_rm108_2_4_0 rm cy g_harmAsked), (wi_rm109_2_4_0 rm cy g_kindofAsked), (wi_rm95_2_3_0 rm cy g_minAsked), (wi_rm112_0_1700_0 rm cy J192_a22), (wi_rm96_2_3_0 rm cy g_maxAsked), (wi_rm110_0_1700_0 rm cy J192_a24), (wi_rm49_0_6_0 rm cy g_codeFrom), (wi_rm50_0_6_0 rm cy g_codeEnd), (wi_rm116_1_1700_1 rm cy J192_a27), (wi_rm51_0_3200_0 rm cy g_codes), (wi_rm46_0_48_0 rm cy g_walkers), (wi_rm56_0_9_0 rm cy g_now), (wi_rm43_0_8_0 rm cy g_bar), (wi_rm65_0_12_0 rm cy J192_a32), (wi_rm44_0_24_0 rm cy g_kinds), (wi_rm61_0_300_0 rm cy J192_a34), (wi_rm66_3_12_0 rm cy J192_a35), (wi_rm67_3_12_0 rm cy J192_a36), (wi_rm60_3_320_0 rm cy J192_a37), (wi_rm63_3_12_0 rm cy J192_a38), (wi_rm64_0_12_0 rm cy J192_a39), (wi_rm68_3_12_0 rm cy J192_a40), (wi_rm69_3_300_0 rm cy J192_a41), (wi_rm41_0_4_0 rm cy g_many), (wi_rm62_3_300_0 rm cy J192_a43), (wi_rm91_2_3_0 rm cy g_notAsked), (wi_rm94_2_3_0 rm cy g_allAsked), (wi_rm92_2_3_0 rm cy g_andAsked), (wi_rm93_2_2_0 rm cy g_orAsked)] H → va_D A [(a_this, .inr (10, mfs rm 0 J192_c0_2 x_taped J192_c0_4 J192_c0_5 J192_c0_6 J192_c0_7 J192_c0_8 x_namePlace x_awayTold x_away x_coded x_statements x_isCrossing 3 J192_c0_58 J192_c0_59 J192_c0_70 J192_c0_71 J192_c0_72 J192_c0_73 J192_c0_74 x_rowMany x_fitMany x_fitRules x_fitGreen x_undoable x_newest x_seeded J192_c0_111 J192_c0_113 J192_c0_114 0 J192_c0_117 J192_c0_118 J192_c0_119 x_octets)), (wi_rm0_0_1600_0 rm cy g_tape), (wi_rm85_2_5_0 rm cy g_firstAsked), (wi_rm86_2_4_0 rm cy g_lastAsked), (wi_rm87_2_5_0 rm cy g_oftenAsked), (wi_rm88_2_5_0 rm cy g_totalAsked), (wi_rm89_2_4_0 rm cy g_mostAsked), (wi_rm90_2_5_0 rm cy g_leastAsked), (wi_rm97_2_6_0 rm cy g_secondAsked), (wi_rm98_2_3_0 rm cy g_dayAsked), (wi_rm99_2_5_0 rm cy g_phaseAsked), (wi_rm100_2_6_0 rm cy g_waitedAsked), (wi_rm101_2_4_0 rm cy g_calmAsked), (wi_rm102_2_4_0 rm cy g_paceAsked), (wi_rm103_2_6_0 rm cy g_trustsAsked), (wi_rm104_2_3_0 rm cy g_gapAsked), (wi_rm105_2_4_0 rm cy g_redsAsked), (wi_rm106_2_6_0 rm cy g_numberAsked), (wi_rm107_2_4_0 rm cy g_wentAsked), (wi_rm108_2_4_0 rm cy g_harmAsked), (wi_rm109_2_4_0 rm cy g_kindofAsked), (wi_rm95_2_3_0 rm cy g_minAsked), (wi_rm112_0_1700_0 rm cy J192_a22), (wi_rm96_2_3_0 rm cy g_maxAsked), (wi_rm110_0_1700_0 rm cy J192_a24), (wi_rm49_0_6_0 rm cy g_codeFrom), (wi_rm50_0_6_0 rm cy g_codeEnd), (wi_rm116_1_1700_1 rm cy J192_a27), (wi_rm51_0_3200_0 rm cy g_codes), (wi_rm46_0_48_0 rm cy g_walkers), (wi_rm56_0_9_0 rm cy g_now), (wi_rm43_0_8_0 rm cy g_bar), (wi_rm65_0_12_0 rm cy J192_a32), (wi_rm44_0_24_0 rm cy g_kinds), (wi_rm61_0_300_0 rm cy J192_a34), (wi_rm66_3_12_0 rm cy J192_a35), (wi_rm67_3_12_0 rm cy J192_a36), (wi_rm60_3_320_0 rm cy J192_a37), (wi_rm63_3_12_0 rm cy J192_a38), (wi_rm64_0_12_0 rm cy J192_a39), (wi_rm68_3_12_0 rm cy J192_a40), (wi_rm69_3_300_0 rm cy J192_a41), (wi_rm41_0_4_0 rm cy g_many), (wi_rm62_3_300_0 rm cy J192_a43), (wi_rm91_2_3_0 rm cy g_notAsked), (wi_rm94_2_3_0 rm cy g_allAsked), (wi_rm92_2_3_0 rm cy g_andAsked), (wi_rm93_2_2_0 rm cy g_orAsked)] → va_S A s.heap H locs → lv_has ls 3 [(0, .ref a_this), (1, .int J192_l1), (2, .int J192_l2)] → W p l e { frames := 9, cells := 0, slots := 0, locals := 196 } s m args below meth c H locs 0 0 Q (F0 m 192 ls []) := by
    as_aux_lemma =>
      intro n
      induction n with
      | zero =>
        intro J192_l1 J192_c0_2 J192_c0_4 J192_c0_5 J192_c0_6 J192_c0_7 J192_c0_8 J192_c0_58 J192_c0_59 J192_c0_70 J192_c0_71 J192_c0_72 J192_c0_73 J192_c0_74 J192_c0_111 J192_c0_113 J192_c0_114 J192_c0_117 J192_a22 J192_a24 J192_a27 J192_a32 J192_a34 J192_a35 J192_a36 J192_a37 J192_a38 J192_a39 J192_a40 J192_a41 J192_a43 J192_c0_118 J192_l2 J192_c0_119 H locs ls hJ192_l1 hJ192_c0_2 hJ192_c0_5 hJ192_c0_7 hK192_x_isCrossing hJ192_c0_70 hJ192_c0_73 hJ192_c0_111 hJ192_c0_113 hJ192_c0_117 hJ192_a31_4 hJ192_l2 hJ192_c0_119 hJ192_a34 hJ192_go hq hm
        exact absurd hm (by have := hJ192_l2; unfold ib at this; omega)
      | succ n ih =>
        intro J192_l1 J192_c0_2 J192_c0_4 J192_c0_5 J192_c0_6 J192_c0_7 J192_c0_8 J192_c0_58 J192_c0_59 J192_c0_70 J192_c0_71 J192_c0_72 J192_c0_73 J192_c0_74 J192_c0_111 J192_c0_113 J192_c0_114 J192_c0_117 J192_a22 J192_a24 J192_a27 J192_a32 J192_a34 J192_a35 J192_a36 J192_a37 J192_a38 J192_a39 J192_a40 J192_a41 J192_a43 J192_c0_118 J192_l2 J192_c0_119 H locs ls hJ192_l1 hJ192_c0_2 hJ192_c0_5 hJ192_c0_7 hK192_x_isCrossing hJ192_c0_70 hJ192_c0_73 hJ192_c0_111 hJ192_c0_113 hJ192_c0_117 hJ192_a31_4 hJ192_l2 hJ192_c0_119 hJ192_a34 hJ192_go hq hm192 hP hD hS hl
        have ih192 := ih
        obtain ⟨K192, hK192⟩ : ∃ K, K = F_X10_ask_192 (Int32.toInt x_taped) (lf_A g_many) (lf_A g_bar) (lf_A g_kinds) (lf_A g_walkers) (lf_A g_now) n := ⟨_, rfl⟩
        have hq : O = F_X10_ask_192b (Int32.toInt x_taped) (lf_A g_many) (lf_A g_bar) (lf_A g_kinds) (lf_A g_walkers) (lf_A g_now) K192 (Int32.toInt J192_l1) (Int32.toInt J192_c0_2) (Int32.toInt J192_c0_4) (Int32.toInt J192_c0_5) (Int32.toInt J192_c0_6) (Int32.toInt J192_c0_7) (Int32.toInt J192_c0_8) (Int32.toInt J192_c0_58) (Int32.toInt J192_c0_59) (Int32.toInt J192_c0_70) (Int32.toInt J192_c0_71) (Int32.toInt J192_c0_72) (Int32.toInt J192_c0_73) (Int32.toInt J192_c0_74) (Int32.toInt J192_c0_111) (Int32.toInt J192_c0_113) (Int32.toInt J192_c0_114) (Int32.toInt J192_c0_117) (lf_A J192_a22) (lf_A J192_a24) (lf_L J192_a27) (lf_A J192_a32) (lf_A J192_a34) (lf_A J192_a35) (lf_A J192_a36) (lf_A J192_a37) (lf_A J192_a38) (lf_A J192_a39) (lf_A J192_a40) (lf_A J192_a41) (lf_A J192_a43) (Int64.toInt J192_c0_118) (Int32.toInt J192_l2) (Int32.toInt J192_c0_119) := by rw [hK192]; exact hq
        unfold F_X10_ask_192b at hq
        refine lv_iload_n hx hb dX10_ask_192 rfl (lv_at hl 2 rfl) ?_
        refine lv_aload_n hx hb dX10_ask_193 rfl (lv_at hl 0 rfl) ?_
        refine k_jim hP hD hS hA [0, 42] [false, true, true, true, true, true, true, true, true, true, true, true, true, true, true, true, true, true, true, true, true, true, true, true, true, true, true, true, true, true, true, true, true, true, true, true, true, true, true, true, true, true, false, true, true, true, true, true] rfl rfl (by decide +kernel) 0 0 (Nat.le_of_ble_eq_true rfl) (Nat.le_of_ble_eq_true rfl) (fun hPc hDc => k_runV (As := []) (rest := [.int J192_l2]) C0 hZ hS hA (s_X10_walkerMany l dC dI cy sq a_this rm 0 J192_c0_2 x_taped J192_c0_4 J192_c0_5 J192_c0_6 J192_c0_7 J192_c0_8 x_namePlace x_awayTold x_away x_coded x_statements x_isCrossing 3 J192_c0_58 J192_c0_59 J192_c0_70 J192_c0_71 J192_c0_72 J192_c0_73 J192_c0_74 x_rowMany x_fitMany x_fitRules x_fitGreen x_undoable x_newest x_seeded J192_c0_111 J192_c0_113 J192_c0_114 0 J192_c0_117 J192_c0_118 J192_c0_119 x_octets g_many ) mV_X10_433 hPc hDc rfl rfl rfl hl rfl rfl (Nat.le_of_ble_eq_true rfl) ⟨(Nat.le_of_ble_eq_true rfl), (Nat.le_of_ble_eq_true rfl)⟩ ⟨(Nat.le_of_ble_eq_true rfl), (Nat.le_of_ble_eq_true rfl)⟩ dX10_ask_194) (fun r1 u2 H locs hw hP hD hS => ?_)
        try dsimp only at hP hD hw
        replace hP : va_P (dC, dI) vwCl [(wi_rm0_0_1600_0 rm cy g_tape), (wi_rm85_2_5_0 rm cy g_firstAsked), (wi_rm86_2_4_0 rm cy g_lastAsked), (wi_rm87_2_5_0 rm cy g_oftenAsked), (wi_rm88_2_5_0 rm cy g_totalAsked), (wi_rm89_2_4_0 rm cy g_mostAsked), (wi_rm90_2_5_0 rm cy g_leastAsked), (wi_rm97_2_6_0 rm cy g_secondAsked), (wi_rm98_2_3_0 rm cy g_dayAsked), (wi_rm99_2_5_0 rm cy g_phaseAsked), (wi_rm100_2_6_0 rm cy g_waitedAsked), (wi_rm101_2_4_0 rm cy g_calmAsked), (wi_rm102_2_4_0 rm cy g_paceAsked), (wi_rm103_2_6_0 rm cy g_trustsAsked), (wi_rm104_2_3_0 rm cy g_gapAsked), (wi_rm105_2_4_0 rm cy g_redsAsked), (wi_rm106_2_6_0 rm cy g_numberAsked), (wi_rm107_2_4_0 rm cy g_wentAsked), (wi_rm108_2_4_0 rm cy g_harmAsked), (wi_rm109_2_4_0 rm cy g_kindofAsked), (wi_rm95_2_3_0 rm cy g_minAsked), (wi_rm112_0_1700_0 rm cy J192_a22), (wi_rm96_2_3_0 rm cy g_maxAsked), (wi_rm110_0_1700_0 rm cy J192_a24), (wi_rm49_0_6_0 rm cy g_codeFrom), (wi_rm50_0_6_0 rm cy g_codeEnd), (wi_rm116_1_1700_1 rm cy J192_a27), (wi_rm51_0_3200_0 rm cy g_codes), (wi_rm46_0_48_0 rm cy g_walkers), (wi_rm56_0_9_0 rm cy g_now), (wi_rm43_0_8_0 rm cy g_bar), (wi_rm65_0_12_0 rm cy J192_a32), (wi_rm44_0_24_0 rm cy g_kinds), (wi_rm61_0_300_0 rm cy J192_a34), (wi_rm66_3_12_0 rm cy J192_a35), (wi_rm67_3_12_0 rm cy J192_a36), (wi_rm60_3_320_0 rm cy J192_a37), (wi_rm63_3_12_0 rm cy J192_a38), (wi_rm64_0_12_0 rm cy J192_a39), (wi_rm68_3_12_0 rm cy J192_a40), (wi_rm69_3_300_0 rm cy J192_a41), (wi_rm62_3_300_0 rm cy J192_a43), (wi_rm91_2_3_0 rm cy g_notAsked), (wi_rm94_2_3_0 rm cy g_allAsked), (wi_rm92_2_3_0 rm cy g_andAsked), (wi_rm93_2_2_0 rm cy g_orAsked), (a_this, .inr (10, mfs rm 0 J192_c0_2 x_taped J192_c0_4 J192_c0_5 J192_c0_6 J192_c0_7 J192_c0_8 x_namePlace x_awayTold x_away x_coded x_statements x_isCrossing 3 J192_c0_58 J192_c0_59 J192_c0_70 J192_c0_71 J192_c0_72 J192_c0_73 J192_c0_74 x_rowMany x_fitMany x_fitRules x_fitGreen x_undoable x_newest x_seeded J192_c0_111 J192_c0_113 J192_c0_114 0 J192_c0_117 J192_c0_118 J192_c0_119 x_octets)), (wi_rm41_0_4_0 rm cy g_many)] H := hP
        replace hD := k_D hP hD
        obtain ⟨h3, h4⟩ := hw
        subst h3
        replace hq := lf_b1 hq h4
        refine lv_icmp_ge (tgt := 217) hx hb dX10_ask_197 rfl (fun c5 => ?_) (fun c5 => ?_)
        · replace hq := lf_pos hq (lf_le (lf_pt (lf_ra g_many) 3) (lf_rf J192_l2) c5)
          have h6 := ib_le hg_many_3 hJ192_l2 c5
          refine lv_aload_n hx hb dX10_ask_217 rfl (lv_at hl 0 rfl) ?_
          refine k_get C0 fg_X10_678 hP 46 rfl rfl dX10_ask_218 ?_
          subst hQ; exact k_lret hx hb hr hlk ((J192_c0_2, x_taped, J192_c0_4, J192_c0_5, J192_c0_6, J192_c0_7, J192_c0_8, 3, J192_c0_58, J192_c0_59, J192_c0_70, J192_c0_71, J192_c0_72, J192_c0_73, J192_c0_74, J192_c0_111, J192_c0_113, J192_c0_114, 0, J192_c0_117, J192_c0_118, J192_c0_119, J192_a22, J192_a24, J192_a27, J192_a32, J192_a34, J192_a35, J192_a36, J192_a37, J192_a38, J192_a39, J192_a40, J192_a41, J192_a43)) hS ⟨ib_w 0 1600 hJ192_c0_2 rfl, ib_w 0 1600 hx_taped rfl, ib_w 0 1 hJ192_c0_70 rfl, ib_w 0 1 hJ192_c0_73 rfl, ib_w 0 1700 hJ192_c0_111 rfl, ib_w 0 1700 hJ192_c0_113 rfl, ib_w 0 1700 (ib_c 0 0 0 rfl) rfl, ib_w 0 1700 hJ192_c0_117 rfl, ib_w 0 1 hJ192_c0_119 rfl, hJ192_a34, (hO.symm.trans (by try simp only [show (3 : Int32).toInt = (3 : Int) from rfl]; try simp only [show (0 : Int32).toInt = (0 : Int) from rfl]; exact hq))⟩ (hP.sub [46, 0, 1, 2, 3, 4, 5, 6, 7, 8, 9, 10, 11, 12, 13, 14, 15, 16, 17, 18, 19, 20, 21, 22, 23, 24, 25, 26, 27, 28, 29, 30, 31, 32, 33, 34, 35, 36, 37, 38, 39, 40, 47, 41, 42, 43, 44, 45] rfl) (hD.sub [46, 0, 1, 2, 3, 4, 5, 6, 7, 8, 9, 10, 11, 12, 13, 14, 15, 16, 17, 18, 19, 20, 21, 22, 23, 24, 25, 26, 27, 28, 29, 30, 31, 32, 33, 34, 35, 36, 37, 38, 39, 40, 47, 41, 42, 43, 44, 45] (by decide +kernel) rfl) (Nat.le_of_ble_eq_true rfl) (Nat.le_of_ble_eq_true rfl) dX10_ask_221
        · as_aux_lemma =>
            replace hq := lf_neg hq (lf_nle (lf_pt (lf_ra g_many) 3) (lf_rf J192_l2) c5)
            have h7 := ib_nle hg_many_3 hJ192_l2 c5
            have h8 : ib (g_many 3) 1 12 := ib_w 1 12 h7.1 rfl
            have h9 : ib J192_l2 0 11 := ib_w 0 11 h7.2 rfl
            refine lv_aload_n hx hb dX10_ask_200 rfl (lv_at hl 0 rfl) ?_
            refine lv_iload_n hx hb dX10_ask_201 rfl (lv_at hl 1 rfl) ?_
            refine lv_aload_n hx hb dX10_ask_202 rfl (lv_at hl 0 rfl) ?_
            refine lv_iload_n hx hb dX10_ask_203 rfl (lv_at hl 2 rfl) ?_
            refine k_jlm hP hD hS hA [46, 26, 23, 28, 29, 30, 31, 32, 33, 34, 35] [true, true, true, true, true, true, true, true, true, true, true, true, true, true, true, true, true, true, true, true, true, true, true, false, true, true, false, true, false, false, false, false, false, false, false, false, true, true, true, true, true, true, true, true, true, true, false, true] rfl rfl (by decide +kernel) 0 0 (Nat.le_of_ble_eq_true rfl) (Nat.le_of_ble_eq_true rfl) (fun hPc hDc => k_runV (As := [.int J192_l2]) (rest := [.int J192_l1, .ref a_this]) C0 hZ hS hA (s_X10_qTold l dC dI cy sq a_this rm 0 J192_c0_2 x_taped J192_c0_4 J192_c0_5 J192_c0_6 J192_c0_7 J192_c0_8 x_namePlace x_awayTold x_away x_coded x_statements x_isCrossing 3 J192_c0_58 J192_c0_59 J192_c0_70 J192_c0_71 J192_c0_72 J192_c0_73 J192_c0_74 x_rowMany x_fitMany x_fitRules x_fitGreen x_undoable x_newest x_seeded J192_c0_111 J192_c0_113 J192_c0_114 0 J192_c0_117 J192_c0_118 J192_c0_119 x_octets g_bar g_kinds g_walkers g_now J192_a34 J192_a32 J192_a35 J192_a36 J192_a24 J192_a27 J192_l2 (ib_w 0 1700 hJ192_c0_111 rfl) (ib_w 10 120 hJ192_a31_4 rfl) hpg_walkers hJ192_a34 hJ192_go (ib_w 0 11 h9 rfl)) mV_X10_691 hPc hDc rfl rfl rfl hl rfl rfl (Nat.le_of_ble_eq_true rfl) ⟨(Nat.le_of_ble_eq_true rfl), (Nat.le_of_ble_eq_true rfl)⟩ ⟨(Nat.le_of_ble_eq_true rfl), (Nat.le_of_ble_eq_true rfl)⟩ dX10_ask_204) (fun r10 u11 H locs hw hP hD hS => ?_)
            obtain ⟨v12, f13⟩ := u11
            try dsimp only at hP hD hw
            replace hP : va_P (dC, dI) vwCl [(wi_rm0_0_1600_0 rm cy g_tape), (wi_rm85_2_5_0 rm cy g_firstAsked), (wi_rm86_2_4_0 rm cy g_lastAsked), (wi_rm87_2_5_0 rm cy g_oftenAsked), (wi_rm88_2_5_0 rm cy g_totalAsked), (wi_rm89_2_4_0 rm cy g_mostAsked), (wi_rm90_2_5_0 rm cy g_leastAsked), (wi_rm97_2_6_0 rm cy g_secondAsked), (wi_rm98_2_3_0 rm cy g_dayAsked), (wi_rm99_2_5_0 rm cy g_phaseAsked), (wi_rm100_2_6_0 rm cy g_waitedAsked), (wi_rm101_2_4_0 rm cy g_calmAsked), (wi_rm102_2_4_0 rm cy g_paceAsked), (wi_rm103_2_6_0 rm cy g_trustsAsked), (wi_rm104_2_3_0 rm cy g_gapAsked), (wi_rm105_2_4_0 rm cy g_redsAsked), (wi_rm106_2_6_0 rm cy g_numberAsked), (wi_rm107_2_4_0 rm cy g_wentAsked), (wi_rm108_2_4_0 rm cy g_harmAsked), (wi_rm109_2_4_0 rm cy g_kindofAsked), (wi_rm95_2_3_0 rm cy g_minAsked), (wi_rm112_0_1700_0 rm cy J192_a22), (wi_rm96_2_3_0 rm cy g_maxAsked), (wi_rm49_0_6_0 rm cy g_codeFrom), (wi_rm50_0_6_0 rm cy g_codeEnd), (wi_rm51_0_3200_0 rm cy g_codes), (wi_rm60_3_320_0 rm cy J192_a37), (wi_rm63_3_12_0 rm cy J192_a38), (wi_rm64_0_12_0 rm cy J192_a39), (wi_rm68_3_12_0 rm cy J192_a40), (wi_rm69_3_300_0 rm cy J192_a41), (wi_rm62_3_300_0 rm cy J192_a43), (wi_rm91_2_3_0 rm cy g_notAsked), (wi_rm94_2_3_0 rm cy g_allAsked), (wi_rm92_2_3_0 rm cy g_andAsked), (wi_rm93_2_2_0 rm cy g_orAsked), (wi_rm41_0_4_0 rm cy g_many), (a_this, .inr (10, mfs rm 0 J192_c0_2 x_taped J192_c0_4 J192_c0_5 J192_c0_6 J192_c0_7 J192_c0_8 x_namePlace x_awayTold x_away x_coded x_statements x_isCrossing 3 J192_c0_58 J192_c0_59 J192_c0_70 J192_c0_71 J192_c0_72 J192_c0_73 J192_c0_74 x_rowMany x_fitMany x_fitRules x_fitGreen x_undoable x_newest x_seeded J192_c0_111 J192_c0_113 J192_c0_114 0 v12 J192_c0_118 J192_c0_119 x_octets)), (wi_rm116_1_1700_1 rm cy f13), (wi_rm110_0_1700_0 rm cy J192_a24), (wi_rm46_0_48_0 rm cy g_walkers), (wi_rm56_0_9_0 rm cy g_now), (wi_rm43_0_8_0 rm cy g_bar), (wi_rm65_0_12_0 rm cy J192_a32), (wi_rm44_0_24_0 rm cy g_kinds), (wi_rm61_0_300_0 rm cy J192_a34), (wi_rm66_3_12_0 rm cy J192_a35), (wi_rm67_3_12_0 rm cy J192_a36)] H := hP
            replace hD := k_D hP hD
            obtain ⟨h14, h15⟩ := hw
            have h15 := by have h9 := h15; try simp only [show (3 : Int32).toInt = (3 : Int) from rfl] at h9; exact h9
            replace hq := lf_p1 hq h15
            replace hq := lf_p1 hq rfl
            refine lv_iload_n hx hb dX10_ask_207 rfl (lv_at hl 2 rfl) ?_
            refine k_jvm hP hD hS hA [37] [true, true, true, true, true, true, true, true, true, true, true, true, true, true, true, true, true, true, true, true, true, true, true, true, true, true, true, true, true, true, true, true, true, true, true, true, true, false, true, true, true, true, true, true, true, true, true, true] rfl rfl (by decide +kernel) 0 0 (Nat.le_of_ble_eq_true rfl) (Nat.le_of_ble_eq_true rfl) (fun hPc hDc => k_runV (As := [.int J192_l1, .long r10, .int J192_l2]) (rest := []) C0 hZ hS hA (s_X10_qTakes l dC dI cy sq a_this rm 0 J192_c0_2 x_taped J192_c0_4 J192_c0_5 J192_c0_6 J192_c0_7 J192_c0_8 x_namePlace x_awayTold x_away x_coded x_statements x_isCrossing 3 J192_c0_58 J192_c0_59 J192_c0_70 J192_c0_71 J192_c0_72 J192_c0_73 J192_c0_74 x_rowMany x_fitMany x_fitRules x_fitGreen x_undoable x_newest x_seeded J192_c0_111 J192_c0_113 J192_c0_114 0 v12 J192_c0_118 J192_c0_119 x_octets J192_l1 r10 J192_l2 (ib_w 0 1 hJ192_c0_119 rfl)) mV_X10_695 hPc hDc rfl rfl rfl hl rfl rfl (Nat.le_of_ble_eq_true rfl) ⟨(Nat.le_of_ble_eq_true rfl), (Nat.le_of_ble_eq_true rfl)⟩ ⟨(Nat.le_of_ble_eq_true rfl), (Nat.le_of_ble_eq_true rfl)⟩ dX10_ask_208) (fun u17 H locs hw hP hD hS => ?_)
            obtain ⟨v18, ev18⟩ : ∃ z, z = u17 := ⟨_, rfl⟩; subst ev18
            try dsimp only at hP hD hw
            replace hP : va_P (dC, dI) vwCl [(wi_rm0_0_1600_0 rm cy g_tape), (wi_rm85_2_5_0 rm cy g_firstAsked), (wi_rm86_2_4_0 rm cy g_lastAsked), (wi_rm87_2_5_0 rm cy g_oftenAsked), (wi_rm88_2_5_0 rm cy g_totalAsked), (wi_rm89_2_4_0 rm cy g_mostAsked), (wi_rm90_2_5_0 rm cy g_leastAsked), (wi_rm97_2_6_0 rm cy g_secondAsked), (wi_rm98_2_3_0 rm cy g_dayAsked), (wi_rm99_2_5_0 rm cy g_phaseAsked), (wi_rm100_2_6_0 rm cy g_waitedAsked), (wi_rm101_2_4_0 rm cy g_calmAsked), (wi_rm102_2_4_0 rm cy g_paceAsked), (wi_rm103_2_6_0 rm cy g_trustsAsked), (wi_rm104_2_3_0 rm cy g_gapAsked), (wi_rm105_2_4_0 rm cy g_redsAsked), (wi_rm106_2_6_0 rm cy g_numberAsked), (wi_rm107_2_4_0 rm cy g_wentAsked), (wi_rm108_2_4_0 rm cy g_harmAsked), (wi_rm109_2_4_0 rm cy g_kindofAsked), (wi_rm95_2_3_0 rm cy g_minAsked), (wi_rm112_0_1700_0 rm cy J192_a22), (wi_rm96_2_3_0 rm cy g_maxAsked), (wi_rm49_0_6_0 rm cy g_codeFrom), (wi_rm50_0_6_0 rm cy g_codeEnd), (wi_rm51_0_3200_0 rm cy g_codes), (wi_rm60_3_320_0 rm cy J192_a37), (wi_rm63_3_12_0 rm cy J192_a38), (wi_rm64_0_12_0 rm cy J192_a39), (wi_rm68_3_12_0 rm cy J192_a40), (wi_rm69_3_300_0 rm cy J192_a41), (wi_rm62_3_300_0 rm cy J192_a43), (wi_rm91_2_3_0 rm cy g_notAsked), (wi_rm94_2_3_0 rm cy g_allAsked), (wi_rm92_2_3_0 rm cy g_andAsked), (wi_rm93_2_2_0 rm cy g_orAsked), (wi_rm41_0_4_0 rm cy g_many), (wi_rm116_1_1700_1 rm cy f13), (wi_rm110_0_1700_0 rm cy J192_a24), (wi_rm46_0_48_0 rm cy g_walkers), (wi_rm56_0_9_0 rm cy g_now), (wi_rm43_0_8_0 rm cy g_bar), (wi_rm65_0_12_0 rm cy J192_a32), (wi_rm44_0_24_0 rm cy g_kinds), (wi_rm61_0_300_0 rm cy J192_a34), (wi_rm66_3_12_0 rm cy J192_a35), (wi_rm67_3_12_0 rm cy J192_a36), (a_this, .inr (10, mfs rm 0 J192_c0_2 x_taped J192_c0_4 J192_c0_5 J192_c0_6 J192_c0_7 J192_c0_8 x_namePlace x_awayTold x_away x_coded x_statements x_isCrossing 3 J192_c0_58 J192_c0_59 J192_c0_70 J192_c0_71 J192_c0_72 J192_c0_73 J192_c0_74 x_rowMany x_fitMany x_fitRules x_fitGreen x_undoable x_newest x_seeded J192_c0_111 J192_c0_113 J192_c0_114 0 v12 v18 0 x_octets))] H := hP
            replace hD := k_D hP hD
            have h19 := hw
            replace hq := lf_b1 hq h19
            obtain ⟨z20, ez20⟩ : ∃ y : Int32, y = J192_l2 + 1 := ⟨_, rfl⟩
            refine lv_iinc (v := z20) (lv' := [(2, .int z20), (0, .ref a_this), (1, .int J192_l1)]) hx hb dX10_ask_211 hl (k := 2) rfl (by rw [ez20]; rfl) (Nat.le_of_ble_eq_true rfl) rfl (fun ls hl => ?_)
            have h21 := ib_add h9 (ib_c 1 1 1 rfl) rfl
            rw [← ez20] at h21
            have h22 : ib z20 1 12 := ib_w 1 12 h21.1 rfl
            have Ez20 := lf_add h21.2 (lf_rf J192_l2) (lf_lc 1 (1 : Int) rfl)
            refine lv_goto (tgt := 192) hx hb dX10_ask_214 rfl ?_
            exact ih192 J192_l1 J192_c0_2 J192_c0_4 J192_c0_5 J192_c0_6 J192_c0_7 J192_c0_8 J192_c0_58 J192_c0_59 J192_c0_70 J192_c0_71 J192_c0_72 J192_c0_73 J192_c0_74 J192_c0_111 J192_c0_113 J192_c0_114 v12 J192_a22 J192_a24 f13 J192_a32 J192_a34 J192_a35 J192_a36 J192_a37 J192_a38 J192_a39 J192_a40 J192_a41 J192_a43 v18 z20 0 H locs ls (ib_w 0 5 hJ192_l1 rfl) (ib_w 0 1600 hJ192_c0_2 rfl) (ib_w 0 0 hJ192_c0_5 rfl) (ib_w 0 0 hJ192_c0_7 rfl) (ib_w 1 1 hK192_x_isCrossing rfl) (ib_w 0 1 hJ192_c0_70 rfl) (ib_w 0 1 hJ192_c0_73 rfl) (ib_w 0 1600 hJ192_c0_111 rfl) (ib_w 0 0 hJ192_c0_113 rfl) (ib_w 0 1700 h14 rfl) (ib_w 10 120 hJ192_a31_4 rfl) (ib_w 0 12 h22 rfl) (ib_w 0 1 (ib_c 0 0 0 rfl) rfl) hJ192_a34 (hJ192_go) (by rw [← hK192]; rw [lf_u Ez20]; try simp only [show (0 : Int32).toInt = (0 : Int) from rfl]; exact hq) (by have := h21.2; have : (1 : Int32).toInt = 1 := rfl; omega) (hP.sub [47, 0, 1, 2, 3, 4, 5, 6, 7, 8, 9, 10, 11, 12, 13, 14, 15, 16, 17, 18, 19, 20, 21, 22, 38, 23, 24, 37, 25, 39, 40, 41, 42, 43, 44, 45, 46, 26, 27, 28, 29, 30, 36, 31, 32, 33, 34, 35] rfl) (hD.sub [47, 0, 1, 2, 3, 4, 5, 6, 7, 8, 9, 10, 11, 12, 13, 14, 15, 16, 17, 18, 19, 20, 21, 22, 38, 23, 24, 37, 25, 39, 40, 41, 42, 43, 44, 45, 46, 26, 27, 28, 29, 30, 36, 31, 32, 33, 34, 35] (by decide +kernel) rfl) hS (lv_sub hl [1, 2, 0] rfl)
  refine lv_aload_n hx hb dX10_ask_0 rfl (lv_at hl 0 rfl) ?_
  refine k_get C0 fg_X10_417 hP 0 rfl rfl dX10_ask_1 ?_
  refine lv_if_ne (tgt := 16) hx hb dX10_ask_4 rfl (fun c23 => ?_) (fun c23 => ?_)
  · as_aux_lemma =>
      replace hq := lf_neg hq (lf_ne (lf_rf x_isCrossing) (lf_lc 0 (0 : Int) rfl) c23)
      have h24 : ib x_isCrossing 1 1 := ib_w 1 1 (ib_ne_lo 0 hx_isCrossing rfl c23) rfl
      have h25 : ib (g_bar 4) 10 120 := ib_w 10 120 (ib_two hg_bar_4 (hc_cr (ib_nz h24 rfl))) rfl
      refine lv_aload_n hx hb dX10_ask_16 rfl (lv_at hl 0 rfl) ?_
      refine lv_aload_n hx hb dX10_ask_17 rfl (lv_at hl 0 rfl) ?_
      refine k_get C0 fg_X10_276 hP 0 rfl rfl dX10_ask_18 ?_
      refine k_put C0 fp_X10_288 hP hD hS 0 rfl rfl rfl (Nat.le_of_ble_eq_true rfl) dX10_ask_21 (fun H locs hP hD hS => ?_)
      replace hP : va_P (dC, dI) vwCl [(a_this, .inr (10, mfs rm x_taped x_at x_taped x_ended x_bad x_badPlace x_fault x_faultPlace x_namePlace x_awayTold x_away x_coded x_statements x_isCrossing x_textKind x_askSecond x_redMany x_isOpen x_lastGreen x_greenTo x_isCycleGreen x_stillGreen x_rowMany x_fitMany x_fitRules x_fitGreen x_undoable x_newest x_seeded x_qCoded x_qWaits x_qOpened x_qBase x_qPiled x_qAnswer x_qIsNew x_octets)), (wi_rm0_0_1600_0 rm cy g_tape), (wi_rm85_2_5_0 rm cy g_firstAsked), (wi_rm86_2_4_0 rm cy g_lastAsked), (wi_rm87_2_5_0 rm cy g_oftenAsked), (wi_rm88_2_5_0 rm cy g_totalAsked), (wi_rm89_2_4_0 rm cy g_mostAsked), (wi_rm90_2_5_0 rm cy g_leastAsked), (wi_rm97_2_6_0 rm cy g_secondAsked), (wi_rm98_2_3_0 rm cy g_dayAsked), (wi_rm99_2_5_0 rm cy g_phaseAsked), (wi_rm100_2_6_0 rm cy g_waitedAsked), (wi_rm101_2_4_0 rm cy g_calmAsked), (wi_rm102_2_4_0 rm cy g_paceAsked), (wi_rm103_2_6_0 rm cy g_trustsAsked), (wi_rm104_2_3_0 rm cy g_gapAsked), (wi_rm105_2_4_0 rm cy g_redsAsked), (wi_rm106_2_6_0 rm cy g_numberAsked), (wi_rm107_2_4_0 rm cy g_wentAsked), (wi_rm108_2_4_0 rm cy g_harmAsked), (wi_rm109_2_4_0 rm cy g_kindofAsked), (wi_rm95_2_3_0 rm cy g_minAsked), (wi_rm112_0_1700_0 rm cy g_qWait), (wi_rm96_2_3_0 rm cy g_maxAsked), (wi_rm110_0_1700_0 rm cy g_qCodes), (wi_rm49_0_6_0 rm cy g_codeFrom), (wi_rm50_0_6_0 rm cy g_codeEnd), (wi_rm116_1_1700_1 rm cy g_qPile), (wi_rm51_0_3200_0 rm cy g_codes), (wi_rm46_0_48_0 rm cy g_walkers), (wi_rm56_0_9_0 rm cy g_now), (wi_rm43_0_8_0 rm cy g_bar), (wi_rm65_0_12_0 rm cy g_waits), (wi_rm44_0_24_0 rm cy g_kinds), (wi_rm61_0_300_0 rm cy g_gaps), (wi_rm66_3_12_0 rm cy g_goes), (wi_rm67_3_12_0 rm cy g_harms), (wi_rm60_3_320_0 rm cy g_isCar), (wi_rm63_3_12_0 rm cy g_isHere), (wi_rm64_0_12_0 rm cy g_crosses), (wi_rm68_3_12_0 rm cy g_presses), (wi_rm69_3_300_0 rm cy g_crossedIn), (wi_rm41_0_4_0 rm cy g_many), (wi_rm62_3_300_0 rm cy g_isGreen), (wi_rm91_2_3_0 rm cy g_notAsked), (wi_rm94_2_3_0 rm cy g_allAsked), (wi_rm92_2_3_0 rm cy g_andAsked), (wi_rm93_2_2_0 rm cy g_orAsked)] H := hP
      replace hD := k_D hP hD
      refine lv_aload_n hx hb dX10_ask_24 rfl (lv_at hl 0 rfl) ?_
      refine lv_iconst (v := 0) hx hb dX10_ask_25 rfl ?_
      refine k_put C0 fp_X10_276 hP hD hS 0 rfl rfl rfl (Nat.le_of_ble_eq_true rfl) dX10_ask_26 (fun H locs hP hD hS => ?_)
      replace hP : va_P (dC, dI) vwCl [(a_this, .inr (10, mfs rm 0 x_at x_taped x_ended x_bad x_badPlace x_fault x_faultPlace x_namePlace x_awayTold x_away x_coded x_statements x_isCrossing x_textKind x_askSecond x_redMany x_isOpen x_lastGreen x_greenTo x_isCycleGreen x_stillGreen x_rowMany x_fitMany x_fitRules x_fitGreen x_undoable x_newest x_seeded x_qCoded x_qWaits x_qOpened x_qBase x_qPiled x_qAnswer x_qIsNew x_octets)), (wi_rm0_0_1600_0 rm cy g_tape), (wi_rm85_2_5_0 rm cy g_firstAsked), (wi_rm86_2_4_0 rm cy g_lastAsked), (wi_rm87_2_5_0 rm cy g_oftenAsked), (wi_rm88_2_5_0 rm cy g_totalAsked), (wi_rm89_2_4_0 rm cy g_mostAsked), (wi_rm90_2_5_0 rm cy g_leastAsked), (wi_rm97_2_6_0 rm cy g_secondAsked), (wi_rm98_2_3_0 rm cy g_dayAsked), (wi_rm99_2_5_0 rm cy g_phaseAsked), (wi_rm100_2_6_0 rm cy g_waitedAsked), (wi_rm101_2_4_0 rm cy g_calmAsked), (wi_rm102_2_4_0 rm cy g_paceAsked), (wi_rm103_2_6_0 rm cy g_trustsAsked), (wi_rm104_2_3_0 rm cy g_gapAsked), (wi_rm105_2_4_0 rm cy g_redsAsked), (wi_rm106_2_6_0 rm cy g_numberAsked), (wi_rm107_2_4_0 rm cy g_wentAsked), (wi_rm108_2_4_0 rm cy g_harmAsked), (wi_rm109_2_4_0 rm cy g_kindofAsked), (wi_rm95_2_3_0 rm cy g_minAsked), (wi_rm112_0_1700_0 rm cy g_qWait), (wi_rm96_2_3_0 rm cy g_maxAsked), (wi_rm110_0_1700_0 rm cy g_qCodes), (wi_rm49_0_6_0 rm cy g_codeFrom), (wi_rm50_0_6_0 rm cy g_codeEnd), (wi_rm116_1_1700_1 rm cy g_qPile), (wi_rm51_0_3200_0 rm cy g_codes), (wi_rm46_0_48_0 rm cy g_walkers), (wi_rm56_0_9_0 rm cy g_now), (wi_rm43_0_8_0 rm cy g_bar), (wi_rm65_0_12_0 rm cy g_waits), (wi_rm44_0_24_0 rm cy g_kinds), (wi_rm61_0_300_0 rm cy g_gaps), (wi_rm66_3_12_0 rm cy g_goes), (wi_rm67_3_12_0 rm cy g_harms), (wi_rm60_3_320_0 rm cy g_isCar), (wi_rm63_3_12_0 rm cy g_isHere), (wi_rm64_0_12_0 rm cy g_crosses), (wi_rm68_3_12_0 rm cy g_presses), (wi_rm69_3_300_0 rm cy g_crossedIn), (wi_rm41_0_4_0 rm cy g_many), (wi_rm62_3_300_0 rm cy g_isGreen), (wi_rm91_2_3_0 rm cy g_notAsked), (wi_rm94_2_3_0 rm cy g_allAsked), (wi_rm92_2_3_0 rm cy g_andAsked), (wi_rm93_2_2_0 rm cy g_orAsked)] H := hP
      replace hD := k_D hP hD
      refine lv_aload_n hx hb dX10_ask_29 rfl (lv_at hl 0 rfl) ?_
      refine lv_iconst (v := 0) hx hb dX10_ask_30 rfl ?_
      refine k_put C0 fp_X10_285 hP hD hS 0 rfl rfl rfl (Nat.le_of_ble_eq_true rfl) dX10_ask_31 (fun H locs hP hD hS => ?_)
      replace hP : va_P (dC, dI) vwCl [(a_this, .inr (10, mfs rm 0 0 x_taped x_ended x_bad x_badPlace x_fault x_faultPlace x_namePlace x_awayTold x_away x_coded x_statements x_isCrossing x_textKind x_askSecond x_redMany x_isOpen x_lastGreen x_greenTo x_isCycleGreen x_stillGreen x_rowMany x_fitMany x_fitRules x_fitGreen x_undoable x_newest x_seeded x_qCoded x_qWaits x_qOpened x_qBase x_qPiled x_qAnswer x_qIsNew x_octets)), (wi_rm0_0_1600_0 rm cy g_tape), (wi_rm85_2_5_0 rm cy g_firstAsked), (wi_rm86_2_4_0 rm cy g_lastAsked), (wi_rm87_2_5_0 rm cy g_oftenAsked), (wi_rm88_2_5_0 rm cy g_totalAsked), (wi_rm89_2_4_0 rm cy g_mostAsked), (wi_rm90_2_5_0 rm cy g_leastAsked), (wi_rm97_2_6_0 rm cy g_secondAsked), (wi_rm98_2_3_0 rm cy g_dayAsked), (wi_rm99_2_5_0 rm cy g_phaseAsked), (wi_rm100_2_6_0 rm cy g_waitedAsked), (wi_rm101_2_4_0 rm cy g_calmAsked), (wi_rm102_2_4_0 rm cy g_paceAsked), (wi_rm103_2_6_0 rm cy g_trustsAsked), (wi_rm104_2_3_0 rm cy g_gapAsked), (wi_rm105_2_4_0 rm cy g_redsAsked), (wi_rm106_2_6_0 rm cy g_numberAsked), (wi_rm107_2_4_0 rm cy g_wentAsked), (wi_rm108_2_4_0 rm cy g_harmAsked), (wi_rm109_2_4_0 rm cy g_kindofAsked), (wi_rm95_2_3_0 rm cy g_minAsked), (wi_rm112_0_1700_0 rm cy g_qWait), (wi_rm96_2_3_0 rm cy g_maxAsked), (wi_rm110_0_1700_0 rm cy g_qCodes), (wi_rm49_0_6_0 rm cy g_codeFrom), (wi_rm50_0_6_0 rm cy g_codeEnd), (wi_rm116_1_1700_1 rm cy g_qPile), (wi_rm51_0_3200_0 rm cy g_codes), (wi_rm46_0_48_0 rm cy g_walkers), (wi_rm56_0_9_0 rm cy g_now), (wi_rm43_0_8_0 rm cy g_bar), (wi_rm65_0_12_0 rm cy g_waits), (wi_rm44_0_24_0 rm cy g_kinds), (wi_rm61_0_300_0 rm cy g_gaps), (wi_rm66_3_12_0 rm cy g_goes), (wi_rm67_3_12_0 rm cy g_harms), (wi_rm60_3_320_0 rm cy g_isCar), (wi_rm63_3_12_0 rm cy g_isHere), (wi_rm64_0_12_0 rm cy g_crosses), (wi_rm68_3_12_0 rm cy g_presses), (wi_rm69_3_300_0 rm cy g_crossedIn), (wi_rm41_0_4_0 rm cy g_many), (wi_rm62_3_300_0 rm cy g_isGreen), (wi_rm91_2_3_0 rm cy g_notAsked), (wi_rm94_2_3_0 rm cy g_allAsked), (wi_rm92_2_3_0 rm cy g_andAsked), (wi_rm93_2_2_0 rm cy g_orAsked)] H := hP
      replace hD := k_D hP hD
      refine lv_aload_n hx hb dX10_ask_34 rfl (lv_at hl 0 rfl) ?_
      refine lv_iconst (v := (-1)) hx hb dX10_ask_35 rfl ?_
      refine k_put C0 fp_X10_299 hP hD hS 0 rfl rfl rfl (Nat.le_of_ble_eq_true rfl) dX10_ask_36 (fun H locs hP hD hS => ?_)
      replace hP : va_P (dC, dI) vwCl [(a_this, .inr (10, mfs rm 0 0 x_taped (-1) x_bad x_badPlace x_fault x_faultPlace x_namePlace x_awayTold x_away x_coded x_statements x_isCrossing x_textKind x_askSecond x_redMany x_isOpen x_lastGreen x_greenTo x_isCycleGreen x_stillGreen x_rowMany x_fitMany x_fitRules x_fitGreen x_undoable x_newest x_seeded x_qCoded x_qWaits x_qOpened x_qBase x_qPiled x_qAnswer x_qIsNew x_octets)), (wi_rm0_0_1600_0 rm cy g_tape), (wi_rm85_2_5_0 rm cy g_firstAsked), (wi_rm86_2_4_0 rm cy g_lastAsked), (wi_rm87_2_5_0 rm cy g_oftenAsked), (wi_rm88_2_5_0 rm cy g_totalAsked), (wi_rm89_2_4_0 rm cy g_mostAsked), (wi_rm90_2_5_0 rm cy g_leastAsked), (wi_rm97_2_6_0 rm cy g_secondAsked), (wi_rm98_2_3_0 rm cy g_dayAsked), (wi_rm99_2_5_0 rm cy g_phaseAsked), (wi_rm100_2_6_0 rm cy g_waitedAsked), (wi_rm101_2_4_0 rm cy g_calmAsked), (wi_rm102_2_4_0 rm cy g_paceAsked), (wi_rm103_2_6_0 rm cy g_trustsAsked), (wi_rm104_2_3_0 rm cy g_gapAsked), (wi_rm105_2_4_0 rm cy g_redsAsked), (wi_rm106_2_6_0 rm cy g_numberAsked), (wi_rm107_2_4_0 rm cy g_wentAsked), (wi_rm108_2_4_0 rm cy g_harmAsked), (wi_rm109_2_4_0 rm cy g_kindofAsked), (wi_rm95_2_3_0 rm cy g_minAsked), (wi_rm112_0_1700_0 rm cy g_qWait), (wi_rm96_2_3_0 rm cy g_maxAsked), (wi_rm110_0_1700_0 rm cy g_qCodes), (wi_rm49_0_6_0 rm cy g_codeFrom), (wi_rm50_0_6_0 rm cy g_codeEnd), (wi_rm116_1_1700_1 rm cy g_qPile), (wi_rm51_0_3200_0 rm cy g_codes), (wi_rm46_0_48_0 rm cy g_walkers), (wi_rm56_0_9_0 rm cy g_now), (wi_rm43_0_8_0 rm cy g_bar), (wi_rm65_0_12_0 rm cy g_waits), (wi_rm44_0_24_0 rm cy g_kinds), (wi_rm61_0_300_0 rm cy g_gaps), (wi_rm66_3_12_0 rm cy g_goes), (wi_rm67_3_12_0 rm cy g_harms), (wi_rm60_3_320_0 rm cy g_isCar), (wi_rm63_3_12_0 rm cy g_isHere), (wi_rm64_0_12_0 rm cy g_crosses), (wi_rm68_3_12_0 rm cy g_presses), (wi_rm69_3_300_0 rm cy g_crossedIn), (wi_rm41_0_4_0 rm cy g_many), (wi_rm62_3_300_0 rm cy g_isGreen), (wi_rm91_2_3_0 rm cy g_notAsked), (wi_rm94_2_3_0 rm cy g_allAsked), (wi_rm92_2_3_0 rm cy g_andAsked), (wi_rm93_2_2_0 rm cy g_orAsked)] H := hP
      replace hD := k_D hP hD
      refine lv_aload_n hx hb dX10_ask_39 rfl (lv_at hl 0 rfl) ?_
      refine lv_iconst (v := 0) hx hb dX10_ask_40 rfl ?_
      refine k_put C0 fp_X10_279 hP hD hS 0 rfl rfl rfl (Nat.le_of_ble_eq_true rfl) dX10_ask_41 (fun H locs hP hD hS => ?_)
      replace hP : va_P (dC, dI) vwCl [(a_this, .inr (10, mfs rm 0 0 x_taped (-1) 0 x_badPlace x_fault x_faultPlace x_namePlace x_awayTold x_away x_coded x_statements x_isCrossing x_textKind x_askSecond x_redMany x_isOpen x_lastGreen x_greenTo x_isCycleGreen x_stillGreen x_rowMany x_fitMany x_fitRules x_fitGreen x_undoable x_newest x_seeded x_qCoded x_qWaits x_qOpened x_qBase x_qPiled x_qAnswer x_qIsNew x_octets)), (wi_rm0_0_1600_0 rm cy g_tape), (wi_rm85_2_5_0 rm cy g_firstAsked), (wi_rm86_2_4_0 rm cy g_lastAsked), (wi_rm87_2_5_0 rm cy g_oftenAsked), (wi_rm88_2_5_0 rm cy g_totalAsked), (wi_rm89_2_4_0 rm cy g_mostAsked), (wi_rm90_2_5_0 rm cy g_leastAsked), (wi_rm97_2_6_0 rm cy g_secondAsked), (wi_rm98_2_3_0 rm cy g_dayAsked), (wi_rm99_2_5_0 rm cy g_phaseAsked), (wi_rm100_2_6_0 rm cy g_waitedAsked), (wi_rm101_2_4_0 rm cy g_calmAsked), (wi_rm102_2_4_0 rm cy g_paceAsked), (wi_rm103_2_6_0 rm cy g_trustsAsked), (wi_rm104_2_3_0 rm cy g_gapAsked), (wi_rm105_2_4_0 rm cy g_redsAsked), (wi_rm106_2_6_0 rm cy g_numberAsked), (wi_rm107_2_4_0 rm cy g_wentAsked), (wi_rm108_2_4_0 rm cy g_harmAsked), (wi_rm109_2_4_0 rm cy g_kindofAsked), (wi_rm95_2_3_0 rm cy g_minAsked), (wi_rm112_0_1700_0 rm cy g_qWait), (wi_rm96_2_3_0 rm cy g_maxAsked), (wi_rm110_0_1700_0 rm cy g_qCodes), (wi_rm49_0_6_0 rm cy g_codeFrom), (wi_rm50_0_6_0 rm cy g_codeEnd), (wi_rm116_1_1700_1 rm cy g_qPile), (wi_rm51_0_3200_0 rm cy g_codes), (wi_rm46_0_48_0 rm cy g_walkers), (wi_rm56_0_9_0 rm cy g_now), (wi_rm43_0_8_0 rm cy g_bar), (wi_rm65_0_12_0 rm cy g_waits), (wi_rm44_0_24_0 rm cy g_kinds), (wi_rm61_0_300_0 rm cy g_gaps), (wi_rm66_3_12_0 rm cy g_goes), (wi_rm67_3_12_0 rm cy g_harms), (wi_rm60_3_320_0 rm cy g_isCar), (wi_rm63_3_12_0 rm cy g_isHere), (wi_rm64_0_12_0 rm cy g_crosses), (wi_rm68_3_12_0 rm cy g_presses), (wi_rm69_3_300_0 rm cy g_crossedIn), (wi_rm41_0_4_0 rm cy g_many), (wi_rm62_3_300_0 rm cy g_isGreen), (wi_rm91_2_3_0 rm cy g_notAsked), (wi_rm94_2_3_0 rm cy g_allAsked), (wi_rm92_2_3_0 rm cy g_andAsked), (wi_rm93_2_2_0 rm cy g_orAsked)] H := hP
      replace hD := k_D hP hD
      refine lv_aload_n hx hb dX10_ask_44 rfl (lv_at hl 0 rfl) ?_
      as_aux_lemma =>
        refine lv_iconst (v := (-1)) hx hb dX10_ask_45 rfl ?_
        refine k_put C0 fp_X10_282 hP hD hS 0 rfl rfl rfl (Nat.le_of_ble_eq_true rfl) dX10_ask_46 (fun H locs hP hD hS => ?_)
        replace hP : va_P (dC, dI) vwCl [(a_this, .inr (10, mfs rm 0 0 x_taped (-1) 0 (-1) x_fault x_faultPlace x_namePlace x_awayTold x_away x_coded x_statements x_isCrossing x_textKind x_askSecond x_redMany x_isOpen x_lastGreen x_greenTo x_isCycleGreen x_stillGreen x_rowMany x_fitMany x_fitRules x_fitGreen x_undoable x_newest x_seeded x_qCoded x_qWaits x_qOpened x_qBase x_qPiled x_qAnswer x_qIsNew x_octets)), (wi_rm0_0_1600_0 rm cy g_tape), (wi_rm85_2_5_0 rm cy g_firstAsked), (wi_rm86_2_4_0 rm cy g_lastAsked), (wi_rm87_2_5_0 rm cy g_oftenAsked), (wi_rm88_2_5_0 rm cy g_totalAsked), (wi_rm89_2_4_0 rm cy g_mostAsked), (wi_rm90_2_5_0 rm cy g_leastAsked), (wi_rm97_2_6_0 rm cy g_secondAsked), (wi_rm98_2_3_0 rm cy g_dayAsked), (wi_rm99_2_5_0 rm cy g_phaseAsked), (wi_rm100_2_6_0 rm cy g_waitedAsked), (wi_rm101_2_4_0 rm cy g_calmAsked), (wi_rm102_2_4_0 rm cy g_paceAsked), (wi_rm103_2_6_0 rm cy g_trustsAsked), (wi_rm104_2_3_0 rm cy g_gapAsked), (wi_rm105_2_4_0 rm cy g_redsAsked), (wi_rm106_2_6_0 rm cy g_numberAsked), (wi_rm107_2_4_0 rm cy g_wentAsked), (wi_rm108_2_4_0 rm cy g_harmAsked), (wi_rm109_2_4_0 rm cy g_kindofAsked), (wi_rm95_2_3_0 rm cy g_minAsked), (wi_rm112_0_1700_0 rm cy g_qWait), (wi_rm96_2_3_0 rm cy g_maxAsked), (wi_rm110_0_1700_0 rm cy g_qCodes), (wi_rm49_0_6_0 rm cy g_codeFrom), (wi_rm50_0_6_0 rm cy g_codeEnd), (wi_rm116_1_1700_1 rm cy g_qPile), (wi_rm51_0_3200_0 rm cy g_codes), (wi_rm46_0_48_0 rm cy g_walkers), (wi_rm56_0_9_0 rm cy g_now), (wi_rm43_0_8_0 rm cy g_bar), (wi_rm65_0_12_0 rm cy g_waits), (wi_rm44_0_24_0 rm cy g_kinds), (wi_rm61_0_300_0 rm cy g_gaps), (wi_rm66_3_12_0 rm cy g_goes), (wi_rm67_3_12_0 rm cy g_harms), (wi_rm60_3_320_0 rm cy g_isCar), (wi_rm63_3_12_0 rm cy g_isHere), (wi_rm64_0_12_0 rm cy g_crosses), (wi_rm68_3_12_0 rm cy g_presses), (wi_rm69_3_300_0 rm cy g_crossedIn), (wi_rm41_0_4_0 rm cy g_many), (wi_rm62_3_300_0 rm cy g_isGreen), (wi_rm91_2_3_0 rm cy g_notAsked), (wi_rm94_2_3_0 rm cy g_allAsked), (wi_rm92_2_3_0 rm cy g_andAsked), (wi_rm93_2_2_0 rm cy g_orAsked)] H := hP
        replace hD := k_D hP hD
        refine lv_aload_n hx hb dX10_ask_49 rfl (lv_at hl 0 rfl) ?_
        refine lv_iconst (v := 3) hx hb dX10_ask_50 rfl ?_
        refine k_put C0 fp_X10_333 hP hD hS 0 rfl rfl rfl (Nat.le_of_ble_eq_true rfl) dX10_ask_51 (fun H locs hP hD hS => ?_)
        replace hP : va_P (dC, dI) vwCl [(a_this, .inr (10, mfs rm 0 0 x_taped (-1) 0 (-1) x_fault x_faultPlace x_namePlace x_awayTold x_away x_coded x_statements x_isCrossing 3 x_askSecond x_redMany x_isOpen x_lastGreen x_greenTo x_isCycleGreen x_stillGreen x_rowMany x_fitMany x_fitRules x_fitGreen x_undoable x_newest x_seeded x_qCoded x_qWaits x_qOpened x_qBase x_qPiled x_qAnswer x_qIsNew x_octets)), (wi_rm0_0_1600_0 rm cy g_tape), (wi_rm85_2_5_0 rm cy g_firstAsked), (wi_rm86_2_4_0 rm cy g_lastAsked), (wi_rm87_2_5_0 rm cy g_oftenAsked), (wi_rm88_2_5_0 rm cy g_totalAsked), (wi_rm89_2_4_0 rm cy g_mostAsked), (wi_rm90_2_5_0 rm cy g_leastAsked), (wi_rm97_2_6_0 rm cy g_secondAsked), (wi_rm98_2_3_0 rm cy g_dayAsked), (wi_rm99_2_5_0 rm cy g_phaseAsked), (wi_rm100_2_6_0 rm cy g_waitedAsked), (wi_rm101_2_4_0 rm cy g_calmAsked), (wi_rm102_2_4_0 rm cy g_paceAsked), (wi_rm103_2_6_0 rm cy g_trustsAsked), (wi_rm104_2_3_0 rm cy g_gapAsked), (wi_rm105_2_4_0 rm cy g_redsAsked), (wi_rm106_2_6_0 rm cy g_numberAsked), (wi_rm107_2_4_0 rm cy g_wentAsked), (wi_rm108_2_4_0 rm cy g_harmAsked), (wi_rm109_2_4_0 rm cy g_kindofAsked), (wi_rm95_2_3_0 rm cy g_minAsked), (wi_rm112_0_1700_0 rm cy g_qWait), (wi_rm96_2_3_0 rm cy g_maxAsked), (wi_rm110_0_1700_0 rm cy g_qCodes), (wi_rm49_0_6_0 rm cy g_codeFrom), (wi_rm50_0_6_0 rm cy g_codeEnd), (wi_rm116_1_1700_1 rm cy g_qPile), (wi_rm51_0_3200_0 rm cy g_codes), (wi_rm46_0_48_0 rm cy g_walkers), (wi_rm56_0_9_0 rm cy g_now), (wi_rm43_0_8_0 rm cy g_bar), (wi_rm65_0_12_0 rm cy g_waits), (wi_rm44_0_24_0 rm cy g_kinds), (wi_rm61_0_300_0 rm cy g_gaps), (wi_rm66_3_12_0 rm cy g_goes), (wi_rm67_3_12_0 rm cy g_harms), (wi_rm60_3_320_0 rm cy g_isCar), (wi_rm63_3_12_0 rm cy g_isHere), (wi_rm64_0_12_0 rm cy g_crosses), (wi_rm68_3_12_0 rm cy g_presses), (wi_rm69_3_300_0 rm cy g_crossedIn), (wi_rm41_0_4_0 rm cy g_many), (wi_rm62_3_300_0 rm cy g_isGreen), (wi_rm91_2_3_0 rm cy g_notAsked), (wi_rm94_2_3_0 rm cy g_allAsked), (wi_rm92_2_3_0 rm cy g_andAsked), (wi_rm93_2_2_0 rm cy g_orAsked)] H := hP
        replace hD := k_D hP hD
        refine lv_aload_n hx hb dX10_ask_54 rfl (lv_at hl 0 rfl) ?_
        refine lv_iconst (v := 0) hx hb dX10_ask_55 rfl ?_
        refine k_put C0 fp_X10_369 hP hD hS 0 rfl rfl rfl (Nat.le_of_ble_eq_true rfl) dX10_ask_56 (fun H locs hP hD hS => ?_)
        replace hP : va_P (dC, dI) vwCl [(a_this, .inr (10, mfs rm 0 0 x_taped (-1) 0 (-1) x_fault x_faultPlace x_namePlace x_awayTold x_away x_coded x_statements x_isCrossing 3 x_askSecond x_redMany x_isOpen x_lastGreen x_greenTo x_isCycleGreen x_stillGreen x_rowMany x_fitMany x_fitRules x_fitGreen x_undoable x_newest x_seeded 0 x_qWaits x_qOpened x_qBase x_qPiled x_qAnswer x_qIsNew x_octets)), (wi_rm0_0_1600_0 rm cy g_tape), (wi_rm85_2_5_0 rm cy g_firstAsked), (wi_rm86_2_4_0 rm cy g_lastAsked), (wi_rm87_2_5_0 rm cy g_oftenAsked), (wi_rm88_2_5_0 rm cy g_totalAsked), (wi_rm89_2_4_0 rm cy g_mostAsked), (wi_rm90_2_5_0 rm cy g_leastAsked), (wi_rm97_2_6_0 rm cy g_secondAsked), (wi_rm98_2_3_0 rm cy g_dayAsked), (wi_rm99_2_5_0 rm cy g_phaseAsked), (wi_rm100_2_6_0 rm cy g_waitedAsked), (wi_rm101_2_4_0 rm cy g_calmAsked), (wi_rm102_2_4_0 rm cy g_paceAsked), (wi_rm103_2_6_0 rm cy g_trustsAsked), (wi_rm104_2_3_0 rm cy g_gapAsked), (wi_rm105_2_4_0 rm cy g_redsAsked), (wi_rm106_2_6_0 rm cy g_numberAsked), (wi_rm107_2_4_0 rm cy g_wentAsked), (wi_rm108_2_4_0 rm cy g_harmAsked), (wi_rm109_2_4_0 rm cy g_kindofAsked), (wi_rm95_2_3_0 rm cy g_minAsked), (wi_rm112_0_1700_0 rm cy g_qWait), (wi_rm96_2_3_0 rm cy g_maxAsked), (wi_rm110_0_1700_0 rm cy g_qCodes), (wi_rm49_0_6_0 rm cy g_codeFrom), (wi_rm50_0_6_0 rm cy g_codeEnd), (wi_rm116_1_1700_1 rm cy g_qPile), (wi_rm51_0_3200_0 rm cy g_codes), (wi_rm46_0_48_0 rm cy g_walkers), (wi_rm56_0_9_0 rm cy g_now), (wi_rm43_0_8_0 rm cy g_bar), (wi_rm65_0_12_0 rm cy g_waits), (wi_rm44_0_24_0 rm cy g_kinds), (wi_rm61_0_300_0 rm cy g_gaps), (wi_rm66_3_12_0 rm cy g_goes), (wi_rm67_3_12_0 rm cy g_harms), (wi_rm60_3_320_0 rm cy g_isCar), (wi_rm63_3_12_0 rm cy g_isHere), (wi_rm64_0_12_0 rm cy g_crosses), (wi_rm68_3_12_0 rm cy g_presses), (wi_rm69_3_300_0 rm cy g_crossedIn), (wi_rm41_0_4_0 rm cy g_many), (wi_rm62_3_300_0 rm cy g_isGreen), (wi_rm91_2_3_0 rm cy g_notAsked), (wi_rm94_2_3_0 rm cy g_allAsked), (wi_rm92_2_3_0 rm cy g_andAsked), (wi_rm93_2_2_0 rm cy g_orAsked)] H := hP
        replace hD := k_D hP hD
        refine lv_aload_n hx hb dX10_ask_59 rfl (lv_at hl 0 rfl) ?_
        refine lv_iconst (v := 0) hx hb dX10_ask_60 rfl ?_
        refine k_put C0 fp_X10_372 hP hD hS 0 rfl rfl rfl (Nat.le_of_ble_eq_true rfl) dX10_ask_61 (fun H locs hP hD hS => ?_)
        replace hP : va_P (dC, dI) vwCl [(a_this, .inr (10, mfs rm 0 0 x_taped (-1) 0 (-1) x_fault x_faultPlace x_namePlace x_awayTold x_away x_coded x_statements x_isCrossing 3 x_askSecond x_redMany x_isOpen x_lastGreen x_greenTo x_isCycleGreen x_stillGreen x_rowMany x_fitMany x_fitRules x_fitGreen x_undoable x_newest x_seeded 0 0 x_qOpened x_qBase x_qPiled x_qAnswer x_qIsNew x_octets)), (wi_rm0_0_1600_0 rm cy g_tape), (wi_rm85_2_5_0 rm cy g_firstAsked), (wi_rm86_2_4_0 rm cy g_lastAsked), (wi_rm87_2_5_0 rm cy g_oftenAsked), (wi_rm88_2_5_0 rm cy g_totalAsked), (wi_rm89_2_4_0 rm cy g_mostAsked), (wi_rm90_2_5_0 rm cy g_leastAsked), (wi_rm97_2_6_0 rm cy g_secondAsked), (wi_rm98_2_3_0 rm cy g_dayAsked), (wi_rm99_2_5_0 rm cy g_phaseAsked), (wi_rm100_2_6_0 rm cy g_waitedAsked), (wi_rm101_2_4_0 rm cy g_calmAsked), (wi_rm102_2_4_0 rm cy g_paceAsked), (wi_rm103_2_6_0 rm cy g_trustsAsked), (wi_rm104_2_3_0 rm cy g_gapAsked), (wi_rm105_2_4_0 rm cy g_redsAsked), (wi_rm106_2_6_0 rm cy g_numberAsked), (wi_rm107_2_4_0 rm cy g_wentAsked), (wi_rm108_2_4_0 rm cy g_harmAsked), (wi_rm109_2_4_0 rm cy g_kindofAsked), (wi_rm95_2_3_0 rm cy g_minAsked), (wi_rm112_0_1700_0 rm cy g_qWait), (wi_rm96_2_3_0 rm cy g_maxAsked), (wi_rm110_0_1700_0 rm cy g_qCodes), (wi_rm49_0_6_0 rm cy g_codeFrom), (wi_rm50_0_6_0 rm cy g_codeEnd), (wi_rm116_1_1700_1 rm cy g_qPile), (wi_rm51_0_3200_0 rm cy g_codes), (wi_rm46_0_48_0 rm cy g_walkers), (wi_rm56_0_9_0 rm cy g_now), (wi_rm43_0_8_0 rm cy g_bar), (wi_rm65_0_12_0 rm cy g_waits), (wi_rm44_0_24_0 rm cy g_kinds), (wi_rm61_0_300_0 rm cy g_gaps), (wi_rm66_3_12_0 rm cy g_goes), (wi_rm67_3_12_0 rm cy g_harms), (wi_rm60_3_320_0 rm cy g_isCar), (wi_rm63_3_12_0 rm cy g_isHere), (wi_rm64_0_12_0 rm cy g_crosses), (wi_rm68_3_12_0 rm cy g_presses), (wi_rm69_3_300_0 rm cy g_crossedIn), (wi_rm41_0_4_0 rm cy g_many), (wi_rm62_3_300_0 rm cy g_isGreen), (wi_rm91_2_3_0 rm cy g_notAsked), (wi_rm94_2_3_0 rm cy g_allAsked), (wi_rm92_2_3_0 rm cy g_andAsked), (wi_rm93_2_2_0 rm cy g_orAsked)] H := hP
        replace hD := k_D hP hD
        refine lv_aload_n hx hb dX10_ask_64 rfl (lv_at hl 0 rfl) ?_
        refine lv_iconst (v := 0) hx hb dX10_ask_65 rfl ?_
        refine k_put C0 fp_X10_375 hP hD hS 0 rfl rfl rfl (Nat.le_of_ble_eq_true rfl) dX10_ask_66 (fun H locs hP hD hS => ?_)
        replace hP : va_P (dC, dI) vwCl [(a_this, .inr (10, mfs rm 0 0 x_taped (-1) 0 (-1) x_fault x_faultPlace x_namePlace x_awayTold x_away x_coded x_statements x_isCrossing 3 x_askSecond x_redMany x_isOpen x_lastGreen x_greenTo x_isCycleGreen x_stillGreen x_rowMany x_fitMany x_fitRules x_fitGreen x_undoable x_newest x_seeded 0 0 0 x_qBase x_qPiled x_qAnswer x_qIsNew x_octets)), (wi_rm0_0_1600_0 rm cy g_tape), (wi_rm85_2_5_0 rm cy g_firstAsked), (wi_rm86_2_4_0 rm cy g_lastAsked), (wi_rm87_2_5_0 rm cy g_oftenAsked), (wi_rm88_2_5_0 rm cy g_totalAsked), (wi_rm89_2_4_0 rm cy g_mostAsked), (wi_rm90_2_5_0 rm cy g_leastAsked), (wi_rm97_2_6_0 rm cy g_secondAsked), (wi_rm98_2_3_0 rm cy g_dayAsked), (wi_rm99_2_5_0 rm cy g_phaseAsked), (wi_rm100_2_6_0 rm cy g_waitedAsked), (wi_rm101_2_4_0 rm cy g_calmAsked), (wi_rm102_2_4_0 rm cy g_paceAsked), (wi_rm103_2_6_0 rm cy g_trustsAsked), (wi_rm104_2_3_0 rm cy g_gapAsked), (wi_rm105_2_4_0 rm cy g_redsAsked), (wi_rm106_2_6_0 rm cy g_numberAsked), (wi_rm107_2_4_0 rm cy g_wentAsked), (wi_rm108_2_4_0 rm cy g_harmAsked), (wi_rm109_2_4_0 rm cy g_kindofAsked), (wi_rm95_2_3_0 rm cy g_minAsked), (wi_rm112_0_1700_0 rm cy g_qWait), (wi_rm96_2_3_0 rm cy g_maxAsked), (wi_rm110_0_1700_0 rm cy g_qCodes), (wi_rm49_0_6_0 rm cy g_codeFrom), (wi_rm50_0_6_0 rm cy g_codeEnd), (wi_rm116_1_1700_1 rm cy g_qPile), (wi_rm51_0_3200_0 rm cy g_codes), (wi_rm46_0_48_0 rm cy g_walkers), (wi_rm56_0_9_0 rm cy g_now), (wi_rm43_0_8_0 rm cy g_bar), (wi_rm65_0_12_0 rm cy g_waits), (wi_rm44_0_24_0 rm cy g_kinds), (wi_rm61_0_300_0 rm cy g_gaps), (wi_rm66_3_12_0 rm cy g_goes), (wi_rm67_3_12_0 rm cy g_harms), (wi_rm60_3_320_0 rm cy g_isCar), (wi_rm63_3_12_0 rm cy g_isHere), (wi_rm64_0_12_0 rm cy g_crosses), (wi_rm68_3_12_0 rm cy g_presses), (wi_rm69_3_300_0 rm cy g_crossedIn), (wi_rm41_0_4_0 rm cy g_many), (wi_rm62_3_300_0 rm cy g_isGreen), (wi_rm91_2_3_0 rm cy g_notAsked), (wi_rm94_2_3_0 rm cy g_allAsked), (wi_rm92_2_3_0 rm cy g_andAsked), (wi_rm93_2_2_0 rm cy g_orAsked)] H := hP
        replace hD := k_D hP hD
        refine lv_aload_n hx hb dX10_ask_69 rfl (lv_at hl 0 rfl) ?_
        refine lv_iconst (v := 0) hx hb dX10_ask_70 rfl ?_
        refine k_put C0 fp_X10_378 hP hD hS 0 rfl rfl rfl (Nat.le_of_ble_eq_true rfl) dX10_ask_71 (fun H locs hP hD hS => ?_)
        replace hP : va_P (dC, dI) vwCl [(a_this, .inr (10, mfs rm 0 0 x_taped (-1) 0 (-1) x_fault x_faultPlace x_namePlace x_awayTold x_away x_coded x_statements x_isCrossing 3 x_askSecond x_redMany x_isOpen x_lastGreen x_greenTo x_isCycleGreen x_stillGreen x_rowMany x_fitMany x_fitRules x_fitGreen x_undoable x_newest x_seeded 0 0 0 0 x_qPiled x_qAnswer x_qIsNew x_octets)), (wi_rm0_0_1600_0 rm cy g_tape), (wi_rm85_2_5_0 rm cy g_firstAsked), (wi_rm86_2_4_0 rm cy g_lastAsked), (wi_rm87_2_5_0 rm cy g_oftenAsked), (wi_rm88_2_5_0 rm cy g_totalAsked), (wi_rm89_2_4_0 rm cy g_mostAsked), (wi_rm90_2_5_0 rm cy g_leastAsked), (wi_rm97_2_6_0 rm cy g_secondAsked), (wi_rm98_2_3_0 rm cy g_dayAsked), (wi_rm99_2_5_0 rm cy g_phaseAsked), (wi_rm100_2_6_0 rm cy g_waitedAsked), (wi_rm101_2_4_0 rm cy g_calmAsked), (wi_rm102_2_4_0 rm cy g_paceAsked), (wi_rm103_2_6_0 rm cy g_trustsAsked), (wi_rm104_2_3_0 rm cy g_gapAsked), (wi_rm105_2_4_0 rm cy g_redsAsked), (wi_rm106_2_6_0 rm cy g_numberAsked), (wi_rm107_2_4_0 rm cy g_wentAsked), (wi_rm108_2_4_0 rm cy g_harmAsked), (wi_rm109_2_4_0 rm cy g_kindofAsked), (wi_rm95_2_3_0 rm cy g_minAsked), (wi_rm112_0_1700_0 rm cy g_qWait), (wi_rm96_2_3_0 rm cy g_maxAsked), (wi_rm110_0_1700_0 rm cy g_qCodes), (wi_rm49_0_6_0 rm cy g_codeFrom), (wi_rm50_0_6_0 rm cy g_codeEnd), (wi_rm116_1_1700_1 rm cy g_qPile), (wi_rm51_0_3200_0 rm cy g_codes), (wi_rm46_0_48_0 rm cy g_walkers), (wi_rm56_0_9_0 rm cy g_now), (wi_rm43_0_8_0 rm cy g_bar), (wi_rm65_0_12_0 rm cy g_waits), (wi_rm44_0_24_0 rm cy g_kinds), (wi_rm61_0_300_0 rm cy g_gaps), (wi_rm66_3_12_0 rm cy g_goes), (wi_rm67_3_12_0 rm cy g_harms), (wi_rm60_3_320_0 rm cy g_isCar), (wi_rm63_3_12_0 rm cy g_isHere), (wi_rm64_0_12_0 rm cy g_crosses), (wi_rm68_3_12_0 rm cy g_presses), (wi_rm69_3_300_0 rm cy g_crossedIn), (wi_rm41_0_4_0 rm cy g_many), (wi_rm62_3_300_0 rm cy g_isGreen), (wi_rm91_2_3_0 rm cy g_notAsked), (wi_rm94_2_3_0 rm cy g_allAsked), (wi_rm92_2_3_0 rm cy g_andAsked), (wi_rm93_2_2_0 rm cy g_orAsked)] H := hP
        replace hD := k_D hP hD
        have h26 : (0 : Int32) = 0 → GS g_qCodes 0 g_qWait 0 0 3 0 := fun q => GS_0 _ _ _
        as_aux_lemma =>
          refine lv_aload_n hx hb dX10_ask_74 rfl (lv_at hl 0 rfl) ?_
          refine k_jim hP hD hS hA [0, 1, 2, 3, 4, 5, 6, 7] [false, false, false, false, false, false, false, false, true, true, true, true, true, true, true, true, true, true, true, true, true, true, true, true, true, true, true, true, true, true, true, true, true, true, true, true, true, true, true, true, true, true, true, true, true, true, true, true] rfl rfl (by decide +kernel) 0 0 (Nat.le_of_ble_eq_true rfl) (Nat.le_of_ble_eq_true rfl) (fun hPc hDc => k_runV (As := []) (rest := []) C0 hZ hS hA (s_X10_qKind l dC dI cy sq a_this rm 0 0 x_taped (-1) 0 (-1) x_fault x_faultPlace x_namePlace x_awayTold x_away x_coded x_statements x_isCrossing 3 x_askSecond x_redMany x_isOpen x_lastGreen x_greenTo x_isCycleGreen x_stillGreen x_rowMany x_fitMany x_fitRules x_fitGreen x_undoable x_newest x_seeded 0 0 0 0 x_qPiled x_qAnswer x_qIsNew x_octets g_tape g_firstAsked g_lastAsked g_oftenAsked g_totalAsked g_mostAsked g_leastAsked (ib_w 0 1600 (ib_c 0 0 0 rfl) rfl) (ib_w 0 1600 hx_taped rfl) hg_tape) mV_X10_688 hPc hDc rfl rfl rfl hl rfl rfl (Nat.le_of_ble_eq_true rfl) ⟨(Nat.le_of_ble_eq_true rfl), (Nat.le_of_ble_eq_true rfl)⟩ ⟨(Nat.le_of_ble_eq_true rfl), (Nat.le_of_ble_eq_true rfl)⟩ dX10_ask_75) (fun r27 u28 H locs hw hP hD hS => ?_)
          obtain ⟨v29, v30, v31, v32⟩ := u28
          try dsimp only at hP hD hw
          replace hP : va_P (dC, dI) vwCl [(wi_rm97_2_6_0 rm cy g_secondAsked), (wi_rm98_2_3_0 rm cy g_dayAsked), (wi_rm99_2_5_0 rm cy g_phaseAsked), (wi_rm100_2_6_0 rm cy g_waitedAsked), (wi_rm101_2_4_0 rm cy g_calmAsked), (wi_rm102_2_4_0 rm cy g_paceAsked), (wi_rm103_2_6_0 rm cy g_trustsAsked), (wi_rm104_2_3_0 rm cy g_gapAsked), (wi_rm105_2_4_0 rm cy g_redsAsked), (wi_rm106_2_6_0 rm cy g_numberAsked), (wi_rm107_2_4_0 rm cy g_wentAsked), (wi_rm108_2_4_0 rm cy g_harmAsked), (wi_rm109_2_4_0 rm cy g_kindofAsked), (wi_rm95_2_3_0 rm cy g_minAsked), (wi_rm112_0_1700_0 rm cy g_qWait), (wi_rm96_2_3_0 rm cy g_maxAsked), (wi_rm110_0_1700_0 rm cy g_qCodes), (wi_rm49_0_6_0 rm cy g_codeFrom), (wi_rm50_0_6_0 rm cy g_codeEnd), (wi_rm116_1_1700_1 rm cy g_qPile), (wi_rm51_0_3200_0 rm cy g_codes), (wi_rm46_0_48_0 rm cy g_walkers), (wi_rm56_0_9_0 rm cy g_now), (wi_rm43_0_8_0 rm cy g_bar), (wi_rm65_0_12_0 rm cy g_waits), (wi_rm44_0_24_0 rm cy g_kinds), (wi_rm61_0_300_0 rm cy g_gaps), (wi_rm66_3_12_0 rm cy g_goes), (wi_rm67_3_12_0 rm cy g_harms), (wi_rm60_3_320_0 rm cy g_isCar), (wi_rm63_3_12_0 rm cy g_isHere), (wi_rm64_0_12_0 rm cy g_crosses), (wi_rm68_3_12_0 rm cy g_presses), (wi_rm69_3_300_0 rm cy g_crossedIn), (wi_rm41_0_4_0 rm cy g_many), (wi_rm62_3_300_0 rm cy g_isGreen), (wi_rm91_2_3_0 rm cy g_notAsked), (wi_rm94_2_3_0 rm cy g_allAsked), (wi_rm92_2_3_0 rm cy g_andAsked), (wi_rm93_2_2_0 rm cy g_orAsked), (a_this, .inr (10, mfs rm 0 v29 x_taped v30 v31 v32 x_fault x_faultPlace x_namePlace x_awayTold x_away x_coded x_statements x_isCrossing 3 x_askSecond x_redMany x_isOpen x_lastGreen x_greenTo x_isCycleGreen x_stillGreen x_rowMany x_fitMany x_fitRules x_fitGreen x_undoable x_newest x_seeded 0 0 0 0 x_qPiled x_qAnswer x_qIsNew x_octets)), (wi_rm0_0_1600_0 rm cy g_tape), (wi_rm85_2_5_0 rm cy g_firstAsked), (wi_rm86_2_4_0 rm cy g_lastAsked), (wi_rm87_2_5_0 rm cy g_oftenAsked), (wi_rm88_2_5_0 rm cy g_totalAsked), (wi_rm89_2_4_0 rm cy g_mostAsked), (wi_rm90_2_5_0 rm cy g_leastAsked)] H := hP
          replace hD := k_D hP hD
          obtain ⟨h33, h34, h35, h36, h37⟩ := hw
          have h37 := by have h9 := h37; try simp only [show (0 : Int32).toInt = (0 : Int) from rfl] at h9; try simp only [show ((-1) : Int32).toInt = (-1 : Int) from rfl] at h9; exact h9
          replace hq := lf_p1 hq h37
          replace hq := lf_p1 hq rfl
          replace hq := lf_p1 hq rfl
          replace hq := lf_p1 hq rfl
          refine lv_istore_n (lv' := [(1, .int r27), (0, .ref a_this)]) hx hb dX10_ask_78 rfl hl (Nat.le_of_ble_eq_true rfl) rfl (fun ls hl => ?_)
          refine lv_aload_n hx hb dX10_ask_79 rfl (lv_at hl 1 rfl) ?_
          refine k_get C0 fg_X10_279 hP 40 rfl rfl dX10_ask_80 ?_
          refine lv_if_ne (tgt := 98) hx hb dX10_ask_83 rfl (fun c38 => ?_) (fun c38 => ?_)
          · as_aux_lemma =>
              replace hq := lf_neg hq (lf_ne (lf_rf v31) (lf_lc 0 (0 : Int) rfl) c38)
              refine lv_aload_n hx hb dX10_ask_98 rfl (lv_at hl 1 rfl) ?_
              refine k_get C0 fg_X10_279 hP 40 rfl rfl dX10_ask_99 ?_
              refine lv_if_ne (tgt := 109) hx hb dX10_ask_102 rfl (fun c39 => ?_) (fun c39 => ?_)
              · as_aux_lemma =>
                  skip
                  refine lv_aload_n hx hb dX10_ask_109 rfl (lv_at hl 1 rfl) ?_
                  refine k_get C0 fg_X10_279 hP 40 rfl rfl dX10_ask_110 ?_
                  refine lv_if_ne (tgt := 133) hx hb dX10_ask_113 rfl (fun c40 => ?_) (fun c40 => ?_)
                  · as_aux_lemma =>
                      skip
                      refine lv_aload_n hx hb dX10_ask_133 rfl (lv_at hl 1 rfl) ?_
                      refine lv_aload_n hx hb dX10_ask_134 rfl (lv_at hl 1 rfl) ?_
                      refine k_get C0 fg_X10_279 hP 40 rfl rfl dX10_ask_135 ?_
                      refine k_put C0 fp_X10_411 hP hD hS 40 rfl rfl rfl (Nat.le_of_ble_eq_true rfl) dX10_ask_138 (fun H locs hP hD hS => ?_)
                      replace hP : va_P (dC, dI) vwCl [(wi_rm97_2_6_0 rm cy g_secondAsked), (wi_rm98_2_3_0 rm cy g_dayAsked), (wi_rm99_2_5_0 rm cy g_phaseAsked), (wi_rm100_2_6_0 rm cy g_waitedAsked), (wi_rm101_2_4_0 rm cy g_calmAsked), (wi_rm102_2_4_0 rm cy g_paceAsked), (wi_rm103_2_6_0 rm cy g_trustsAsked), (wi_rm104_2_3_0 rm cy g_gapAsked), (wi_rm105_2_4_0 rm cy g_redsAsked), (wi_rm106_2_6_0 rm cy g_numberAsked), (wi_rm107_2_4_0 rm cy g_wentAsked), (wi_rm108_2_4_0 rm cy g_harmAsked), (wi_rm109_2_4_0 rm cy g_kindofAsked), (wi_rm95_2_3_0 rm cy g_minAsked), (wi_rm112_0_1700_0 rm cy g_qWait), (wi_rm96_2_3_0 rm cy g_maxAsked), (wi_rm110_0_1700_0 rm cy g_qCodes), (wi_rm49_0_6_0 rm cy g_codeFrom), (wi_rm50_0_6_0 rm cy g_codeEnd), (wi_rm116_1_1700_1 rm cy g_qPile), (wi_rm51_0_3200_0 rm cy g_codes), (wi_rm46_0_48_0 rm cy g_walkers), (wi_rm56_0_9_0 rm cy g_now), (wi_rm43_0_8_0 rm cy g_bar), (wi_rm65_0_12_0 rm cy g_waits), (wi_rm44_0_24_0 rm cy g_kinds), (wi_rm61_0_300_0 rm cy g_gaps), (wi_rm66_3_12_0 rm cy g_goes), (wi_rm67_3_12_0 rm cy g_harms), (wi_rm60_3_320_0 rm cy g_isCar), (wi_rm63_3_12_0 rm cy g_isHere), (wi_rm64_0_12_0 rm cy g_crosses), (wi_rm68_3_12_0 rm cy g_presses), (wi_rm69_3_300_0 rm cy g_crossedIn), (wi_rm41_0_4_0 rm cy g_many), (wi_rm62_3_300_0 rm cy g_isGreen), (wi_rm91_2_3_0 rm cy g_notAsked), (wi_rm94_2_3_0 rm cy g_allAsked), (wi_rm92_2_3_0 rm cy g_andAsked), (wi_rm93_2_2_0 rm cy g_orAsked), (a_this, .inr (10, mfs rm 0 v29 x_taped v30 v31 v32 v31 x_faultPlace x_namePlace x_awayTold x_away x_coded x_statements x_isCrossing 3 x_askSecond x_redMany x_isOpen x_lastGreen x_greenTo x_isCycleGreen x_stillGreen x_rowMany x_fitMany x_fitRules x_fitGreen x_undoable x_newest x_seeded 0 0 0 0 x_qPiled x_qAnswer x_qIsNew x_octets)), (wi_rm0_0_1600_0 rm cy g_tape), (wi_rm85_2_5_0 rm cy g_firstAsked), (wi_rm86_2_4_0 rm cy g_lastAsked), (wi_rm87_2_5_0 rm cy g_oftenAsked), (wi_rm88_2_5_0 rm cy g_totalAsked), (wi_rm89_2_4_0 rm cy g_mostAsked), (wi_rm90_2_5_0 rm cy g_leastAsked)] H := hP
                      replace hD := k_D hP hD
                      refine lv_aload_n hx hb dX10_ask_141 rfl (lv_at hl 1 rfl) ?_
                      refine lv_aload_n hx hb dX10_ask_142 rfl (lv_at hl 1 rfl) ?_
                      refine k_get C0 fg_X10_282 hP 40 rfl rfl dX10_ask_143 ?_
                      refine k_put C0 fp_X10_13 hP hD hS 40 rfl rfl rfl (Nat.le_of_ble_eq_true rfl) dX10_ask_146 (fun H locs hP hD hS => ?_)
                      replace hP : va_P (dC, dI) vwCl [(wi_rm97_2_6_0 rm cy g_secondAsked), (wi_rm98_2_3_0 rm cy g_dayAsked), (wi_rm99_2_5_0 rm cy g_phaseAsked), (wi_rm100_2_6_0 rm cy g_waitedAsked), (wi_rm101_2_4_0 rm cy g_calmAsked), (wi_rm102_2_4_0 rm cy g_paceAsked), (wi_rm103_2_6_0 rm cy g_trustsAsked), (wi_rm104_2_3_0 rm cy g_gapAsked), (wi_rm105_2_4_0 rm cy g_redsAsked), (wi_rm106_2_6_0 rm cy g_numberAsked), (wi_rm107_2_4_0 rm cy g_wentAsked), (wi_rm108_2_4_0 rm cy g_harmAsked), (wi_rm109_2_4_0 rm cy g_kindofAsked), (wi_rm95_2_3_0 rm cy g_minAsked), (wi_rm112_0_1700_0 rm cy g_qWait), (wi_rm96_2_3_0 rm cy g_maxAsked), (wi_rm110_0_1700_0 rm cy g_qCodes), (wi_rm49_0_6_0 rm cy g_codeFrom), (wi_rm50_0_6_0 rm cy g_codeEnd), (wi_rm116_1_1700_1 rm cy g_qPile), (wi_rm51_0_3200_0 rm cy g_codes), (wi_rm46_0_48_0 rm cy g_walkers), (wi_rm56_0_9_0 rm cy g_now), (wi_rm43_0_8_0 rm cy g_bar), (wi_rm65_0_12_0 rm cy g_waits), (wi_rm44_0_24_0 rm cy g_kinds), (wi_rm61_0_300_0 rm cy g_gaps), (wi_rm66_3_12_0 rm cy g_goes), (wi_rm67_3_12_0 rm cy g_harms), (wi_rm60_3_320_0 rm cy g_isCar), (wi_rm63_3_12_0 rm cy g_isHere), (wi_rm64_0_12_0 rm cy g_crosses), (wi_rm68_3_12_0 rm cy g_presses), (wi_rm69_3_300_0 rm cy g_crossedIn), (wi_rm41_0_4_0 rm cy g_many), (wi_rm62_3_300_0 rm cy g_isGreen), (wi_rm91_2_3_0 rm cy g_notAsked), (wi_rm94_2_3_0 rm cy g_allAsked), (wi_rm92_2_3_0 rm cy g_andAsked), (wi_rm93_2_2_0 rm cy g_orAsked), (a_this, .inr (10, mfs rm 0 v29 x_taped v30 v31 v32 v31 v32 x_namePlace x_awayTold x_away x_coded x_statements x_isCrossing 3 x_askSecond x_redMany x_isOpen x_lastGreen x_greenTo x_isCycleGreen x_stillGreen x_rowMany x_fitMany x_fitRules x_fitGreen x_undoable x_newest x_seeded 0 0 0 0 x_qPiled x_qAnswer x_qIsNew x_octets)), (wi_rm0_0_1600_0 rm cy g_tape), (wi_rm85_2_5_0 rm cy g_firstAsked), (wi_rm86_2_4_0 rm cy g_lastAsked), (wi_rm87_2_5_0 rm cy g_oftenAsked), (wi_rm88_2_5_0 rm cy g_totalAsked), (wi_rm89_2_4_0 rm cy g_mostAsked), (wi_rm90_2_5_0 rm cy g_leastAsked)] H := hP
                      replace hD := k_D hP hD
                      refine lv_aload_n hx hb dX10_ask_149 rfl (lv_at hl 1 rfl) ?_
                      refine k_get C0 fg_X10_279 hP 40 rfl rfl dX10_ask_150 ?_
                      refine lv_if_eq (tgt := 160) hx hb dX10_ask_153 rfl (fun c41 => ?_) (fun c41 => ?_)
                      · skip
                        exact absurd c41 c40
                      · skip
                        refine lv_ldc2 hx hb C0.2.2.2.1 (C0.2.2.2.2.1 _ wd1404) dX10_ask_156 ?_
                        subst hQ; exact k_lret hx hb hr hlk ((v29, x_taped, v30, v31, v32, v31, v32, 3, x_askSecond, x_redMany, x_isOpen, x_lastGreen, x_greenTo, x_isCycleGreen, x_stillGreen, 0, 0, 0, 0, x_qPiled, x_qAnswer, x_qIsNew, g_qWait, g_qCodes, g_qPile, g_waits, g_gaps, g_goes, g_harms, g_isCar, g_isHere, g_crosses, g_presses, g_crossedIn, g_isGreen)) hS ⟨ib_w 0 1600 h33 rfl, ib_w 0 1600 hx_taped rfl, ib_w 0 1 hx_isOpen rfl, ib_w 0 1 hx_isCycleGreen rfl, ib_w 0 1700 (ib_c 0 0 0 rfl) rfl, ib_w 0 1700 (ib_c 0 0 0 rfl) rfl, ib_w 0 1700 (ib_c 0 0 0 rfl) rfl, ib_w 0 1700 hx_qPiled rfl, ib_w 0 1 hx_qIsNew rfl, hg_gaps, (hO.symm.trans (by try simp only [show ((-1000000000000000) : Int64).toInt = (-1000000000000000 : Int) from rfl]; try simp only [show (3 : Int32).toInt = (3 : Int) from rfl]; try simp only [show (0 : Int32).toInt = (0 : Int) from rfl]; exact hq))⟩ (hP.sub [40, 41, 42, 43, 44, 45, 46, 47, 0, 1, 2, 3, 4, 5, 6, 7, 8, 9, 10, 11, 12, 13, 14, 15, 16, 17, 18, 19, 20, 21, 22, 23, 24, 25, 26, 27, 28, 29, 30, 31, 32, 33, 34, 35, 36, 37, 38, 39] rfl) (hD.sub [40, 41, 42, 43, 44, 45, 46, 47, 0, 1, 2, 3, 4, 5, 6, 7, 8, 9, 10, 11, 12, 13, 14, 15, 16, 17, 18, 19, 20, 21, 22, 23, 24, 25, 26, 27, 28, 29, 30, 31, 32, 33, 34, 35, 36, 37, 38, 39] (by decide +kernel) rfl) (Nat.le_of_ble_eq_true rfl) (Nat.le_of_ble_eq_true rfl) dX10_ask_159
                  · skip
                    exact absurd c40 c39
              · skip
                exact absurd c39 c38
          · as_aux_lemma =>
              replace hq := lf_pos hq (lf_eq (lf_rf v31) (lf_lc 0 (0 : Int) rfl) c38)
              have h42 := ib_eq (ib_any v31) (ib_c 0 0 0 rfl) c38
              have h43 : ib v31 0 0 := ib_w 0 0 h42.1 rfl
              refine lv_iload_n hx hb dX10_ask_86 rfl (lv_at hl 0 rfl) ?_
              refine lv_iconst (v := 3) hx hb dX10_ask_87 rfl ?_
              refine lv_icmp_ge (tgt := 98) hx hb dX10_ask_88 rfl (fun c44 => ?_) (fun c44 => ?_)
              · as_aux_lemma =>
                  replace hq := lf_pos hq (lf_le (lf_lc 3 (3 : Int) rfl) (lf_rf r27) c44)
                  have h45 := ib_le (ib_c 3 3 3 rfl) h34 c44
                  have h46 : ib r27 3 5 := ib_w 3 5 h45.2 rfl
                  refine lv_aload_n hx hb dX10_ask_98 rfl (lv_at hl 1 rfl) ?_
                  refine k_get C0 fg_X10_279 hP 40 rfl rfl dX10_ask_99 ?_
                  refine lv_if_ne (tgt := 109) hx hb dX10_ask_102 rfl (fun c47 => ?_) (fun c47 => ?_)
                  · skip
                    exact absurd (ib_one h43 rfl) c47
                  · as_aux_lemma =>
                      skip
                      have h48 := ib_eq h43 (ib_c 0 0 0 rfl) c47
                      refine lv_aload_n hx hb dX10_ask_105 rfl (lv_at hl 1 rfl) ?_
                      refine k_jvm hP hD hS hA [40, 41, 0, 1, 2, 3, 4, 5, 6, 7, 8, 9, 10, 11, 12, 13, 14, 15, 16] [false, false, false, false, false, false, false, false, false, false, false, false, false, false, false, false, false, true, true, true, true, true, true, true, true, true, true, true, true, true, true, true, true, true, true, true, true, true, true, true, false, false, true, true, true, true, true, true] rfl rfl (by decide +kernel) 0 0 (Nat.le_of_ble_eq_true rfl) (Nat.le_of_ble_eq_true rfl) (fun hPc hDc => k_runV (As := []) (rest := []) C0 hZ hS hA (s_X10_qSums l dC dI cy sq a_this rm 0 v29 x_taped v30 v31 v32 x_fault x_faultPlace x_namePlace x_awayTold x_away x_coded x_statements x_isCrossing 3 x_askSecond x_redMany x_isOpen x_lastGreen x_greenTo x_isCycleGreen x_stillGreen x_rowMany x_fitMany x_fitRules x_fitGreen x_undoable x_newest x_seeded 0 0 0 0 x_qPiled x_qAnswer x_qIsNew x_octets g_tape g_minAsked g_maxAsked g_secondAsked g_dayAsked g_phaseAsked g_waitedAsked g_calmAsked g_paceAsked g_trustsAsked g_gapAsked g_redsAsked g_numberAsked g_wentAsked g_harmAsked g_kindofAsked g_qCodes g_qWait 0 (ib_w 0 1600 h33 rfl) (ib_w 0 1600 hx_taped rfl) (ib_w 0 0 h43 rfl) (ib_w 0 1700 (ib_c 0 0 0 rfl) rfl) (ib_w 0 1700 (ib_c 0 0 0 rfl) rfl) hg_tape (by have : (0 : Int32).toInt = 0 := rfl; have := (h33).1; omega) (fun q => (h26 (h35 q)))) mV_X10_381 hPc hDc rfl rfl rfl hl rfl rfl (Nat.le_of_ble_eq_true rfl) ⟨(Nat.le_of_ble_eq_true rfl), (Nat.le_of_ble_eq_true rfl)⟩ ⟨(Nat.le_of_ble_eq_true rfl), (Nat.le_of_ble_eq_true rfl)⟩ dX10_ask_106) (fun u50 H locs hw hP hD hS => ?_)
                      obtain ⟨v51, v52, v53, v54, v55, v56, v57, f58, f59⟩ := u50
                      try dsimp only at hP hD hw
                      replace hP : va_P (dC, dI) vwCl [(wi_rm49_0_6_0 rm cy g_codeFrom), (wi_rm50_0_6_0 rm cy g_codeEnd), (wi_rm116_1_1700_1 rm cy g_qPile), (wi_rm51_0_3200_0 rm cy g_codes), (wi_rm46_0_48_0 rm cy g_walkers), (wi_rm56_0_9_0 rm cy g_now), (wi_rm43_0_8_0 rm cy g_bar), (wi_rm65_0_12_0 rm cy g_waits), (wi_rm44_0_24_0 rm cy g_kinds), (wi_rm61_0_300_0 rm cy g_gaps), (wi_rm66_3_12_0 rm cy g_goes), (wi_rm67_3_12_0 rm cy g_harms), (wi_rm60_3_320_0 rm cy g_isCar), (wi_rm63_3_12_0 rm cy g_isHere), (wi_rm64_0_12_0 rm cy g_crosses), (wi_rm68_3_12_0 rm cy g_presses), (wi_rm69_3_300_0 rm cy g_crossedIn), (wi_rm41_0_4_0 rm cy g_many), (wi_rm62_3_300_0 rm cy g_isGreen), (wi_rm91_2_3_0 rm cy g_notAsked), (wi_rm94_2_3_0 rm cy g_allAsked), (wi_rm92_2_3_0 rm cy g_andAsked), (wi_rm93_2_2_0 rm cy g_orAsked), (wi_rm85_2_5_0 rm cy g_firstAsked), (wi_rm86_2_4_0 rm cy g_lastAsked), (wi_rm87_2_5_0 rm cy g_oftenAsked), (wi_rm88_2_5_0 rm cy g_totalAsked), (wi_rm89_2_4_0 rm cy g_mostAsked), (wi_rm90_2_5_0 rm cy g_leastAsked), (a_this, .inr (10, mfs rm 0 v51 x_taped v52 v53 v54 x_fault x_faultPlace x_namePlace x_awayTold x_away x_coded x_statements x_isCrossing 3 x_askSecond x_redMany x_isOpen x_lastGreen x_greenTo x_isCycleGreen x_stillGreen x_rowMany x_fitMany x_fitRules x_fitGreen x_undoable x_newest x_seeded v55 v56 v57 0 x_qPiled x_qAnswer x_qIsNew x_octets)), (wi_rm0_0_1600_0 rm cy g_tape), (wi_rm97_2_6_0 rm cy g_secondAsked), (wi_rm98_2_3_0 rm cy g_dayAsked), (wi_rm99_2_5_0 rm cy g_phaseAsked), (wi_rm100_2_6_0 rm cy g_waitedAsked), (wi_rm101_2_4_0 rm cy g_calmAsked), (wi_rm102_2_4_0 rm cy g_paceAsked), (wi_rm103_2_6_0 rm cy g_trustsAsked), (wi_rm104_2_3_0 rm cy g_gapAsked), (wi_rm105_2_4_0 rm cy g_redsAsked), (wi_rm106_2_6_0 rm cy g_numberAsked), (wi_rm107_2_4_0 rm cy g_wentAsked), (wi_rm108_2_4_0 rm cy g_harmAsked), (wi_rm109_2_4_0 rm cy g_kindofAsked), (wi_rm95_2_3_0 rm cy g_minAsked), (wi_rm112_0_1700_0 rm cy f58), (wi_rm96_2_3_0 rm cy g_maxAsked), (wi_rm110_0_1700_0 rm cy f59)] H := hP
                      replace hD := k_D hP hD
                      obtain ⟨h60, h61, h62, h63, h64, h65, h66, h67, h68, h69, h70, h71⟩ := hw
                      have h71 := by have h9 := h71; try simp only [show (3 : Int32).toInt = (3 : Int) from rfl] at h9; try simp only [show (0 : Int32).toInt = (0 : Int) from rfl] at h9; exact h9
                      replace hq := lf_p1 hq h71
                      replace hq := lf_p1 hq rfl
                      replace hq := lf_p1 hq rfl
                      replace hq := lf_p1 hq rfl
                      replace hq := lf_p1 hq rfl
                      replace hq := lf_p1 hq rfl
                      replace hq := lf_p1 hq rfl
                      replace hq := lf_p1 hq rfl
                      refine lv_aload_n hx hb dX10_ask_109 rfl (lv_at hl 1 rfl) ?_
                      refine k_get C0 fg_X10_279 hP 29 rfl rfl dX10_ask_110 ?_
                      refine lv_if_ne (tgt := 133) hx hb dX10_ask_113 rfl (fun c72 => ?_) (fun c72 => ?_)
                      · as_aux_lemma =>
                          replace hq := lf_neg hq (lf_ne (lf_rf v53) (lf_lc 0 (0 : Int) rfl) c72)
                          have h73 : ib v55 0 1603 := ⟨(h61).1, by have := (h61).2; have := h64; have : (0 : Int32).toInt = 0 := rfl; have := (h33).1; have := (h60).2; have := (h62).1; omega⟩
                          have h74 : ib v56 0 1603 := ⟨(h62).1, by have := (h62).2; have := h64; have : (0 : Int32).toInt = 0 := rfl; have := (h33).1; have := (h60).2; have := (h73).1; omega⟩
                          refine lv_aload_n hx hb dX10_ask_133 rfl (lv_at hl 1 rfl) ?_
                          refine lv_aload_n hx hb dX10_ask_134 rfl (lv_at hl 1 rfl) ?_
                          refine k_get C0 fg_X10_279 hP 29 rfl rfl dX10_ask_135 ?_
                          refine k_put C0 fp_X10_411 hP hD hS 29 rfl rfl rfl (Nat.le_of_ble_eq_true rfl) dX10_ask_138 (fun H locs hP hD hS => ?_)
                          replace hP : va_P (dC, dI) vwCl [(wi_rm49_0_6_0 rm cy g_codeFrom), (wi_rm50_0_6_0 rm cy g_codeEnd), (wi_rm116_1_1700_1 rm cy g_qPile), (wi_rm51_0_3200_0 rm cy g_codes), (wi_rm46_0_48_0 rm cy g_walkers), (wi_rm56_0_9_0 rm cy g_now), (wi_rm43_0_8_0 rm cy g_bar), (wi_rm65_0_12_0 rm cy g_waits), (wi_rm44_0_24_0 rm cy g_kinds), (wi_rm61_0_300_0 rm cy g_gaps), (wi_rm66_3_12_0 rm cy g_goes), (wi_rm67_3_12_0 rm cy g_harms), (wi_rm60_3_320_0 rm cy g_isCar), (wi_rm63_3_12_0 rm cy g_isHere), (wi_rm64_0_12_0 rm cy g_crosses), (wi_rm68_3_12_0 rm cy g_presses), (wi_rm69_3_300_0 rm cy g_crossedIn), (wi_rm41_0_4_0 rm cy g_many), (wi_rm62_3_300_0 rm cy g_isGreen), (wi_rm91_2_3_0 rm cy g_notAsked), (wi_rm94_2_3_0 rm cy g_allAsked), (wi_rm92_2_3_0 rm cy g_andAsked), (wi_rm93_2_2_0 rm cy g_orAsked), (wi_rm85_2_5_0 rm cy g_firstAsked), (wi_rm86_2_4_0 rm cy g_lastAsked), (wi_rm87_2_5_0 rm cy g_oftenAsked), (wi_rm88_2_5_0 rm cy g_totalAsked), (wi_rm89_2_4_0 rm cy g_mostAsked), (wi_rm90_2_5_0 rm cy g_leastAsked), (a_this, .inr (10, mfs rm 0 v51 x_taped v52 v53 v54 v53 x_faultPlace x_namePlace x_awayTold x_away x_coded x_statements x_isCrossing 3 x_askSecond x_redMany x_isOpen x_lastGreen x_greenTo x_isCycleGreen x_stillGreen x_rowMany x_fitMany x_fitRules x_fitGreen x_undoable x_newest x_seeded v55 v56 v57 0 x_qPiled x_qAnswer x_qIsNew x_octets)), (wi_rm0_0_1600_0 rm cy g_tape), (wi_rm97_2_6_0 rm cy g_secondAsked), (wi_rm98_2_3_0 rm cy g_dayAsked), (wi_rm99_2_5_0 rm cy g_phaseAsked), (wi_rm100_2_6_0 rm cy g_waitedAsked), (wi_rm101_2_4_0 rm cy g_calmAsked), (wi_rm102_2_4_0 rm cy g_paceAsked), (wi_rm103_2_6_0 rm cy g_trustsAsked), (wi_rm104_2_3_0 rm cy g_gapAsked), (wi_rm105_2_4_0 rm cy g_redsAsked), (wi_rm106_2_6_0 rm cy g_numberAsked), (wi_rm107_2_4_0 rm cy g_wentAsked), (wi_rm108_2_4_0 rm cy g_harmAsked), (wi_rm109_2_4_0 rm cy g_kindofAsked), (wi_rm95_2_3_0 rm cy g_minAsked), (wi_rm112_0_1700_0 rm cy f58), (wi_rm96_2_3_0 rm cy g_maxAsked), (wi_rm110_0_1700_0 rm cy f59)] H := hP
                          replace hD := k_D hP hD
                          refine lv_aload_n hx hb dX10_ask_141 rfl (lv_at hl 1 rfl) ?_
                          refine lv_aload_n hx hb dX10_ask_142 rfl (lv_at hl 1 rfl) ?_
                          refine k_get C0 fg_X10_282 hP 29 rfl rfl dX10_ask_143 ?_
                          refine k_put C0 fp_X10_13 hP hD hS 29 rfl rfl rfl (Nat.le_of_ble_eq_true rfl) dX10_ask_146 (fun H locs hP hD hS => ?_)
                          replace hP : va_P (dC, dI) vwCl [(wi_rm49_0_6_0 rm cy g_codeFrom), (wi_rm50_0_6_0 rm cy g_codeEnd), (wi_rm116_1_1700_1 rm cy g_qPile), (wi_rm51_0_3200_0 rm cy g_codes), (wi_rm46_0_48_0 rm cy g_walkers), (wi_rm56_0_9_0 rm cy g_now), (wi_rm43_0_8_0 rm cy g_bar), (wi_rm65_0_12_0 rm cy g_waits), (wi_rm44_0_24_0 rm cy g_kinds), (wi_rm61_0_300_0 rm cy g_gaps), (wi_rm66_3_12_0 rm cy g_goes), (wi_rm67_3_12_0 rm cy g_harms), (wi_rm60_3_320_0 rm cy g_isCar), (wi_rm63_3_12_0 rm cy g_isHere), (wi_rm64_0_12_0 rm cy g_crosses), (wi_rm68_3_12_0 rm cy g_presses), (wi_rm69_3_300_0 rm cy g_crossedIn), (wi_rm41_0_4_0 rm cy g_many), (wi_rm62_3_300_0 rm cy g_isGreen), (wi_rm91_2_3_0 rm cy g_notAsked), (wi_rm94_2_3_0 rm cy g_allAsked), (wi_rm92_2_3_0 rm cy g_andAsked), (wi_rm93_2_2_0 rm cy g_orAsked), (wi_rm85_2_5_0 rm cy g_firstAsked), (wi_rm86_2_4_0 rm cy g_lastAsked), (wi_rm87_2_5_0 rm cy g_oftenAsked), (wi_rm88_2_5_0 rm cy g_totalAsked), (wi_rm89_2_4_0 rm cy g_mostAsked), (wi_rm90_2_5_0 rm cy g_leastAsked), (a_this, .inr (10, mfs rm 0 v51 x_taped v52 v53 v54 v53 v54 x_namePlace x_awayTold x_away x_coded x_statements x_isCrossing 3 x_askSecond x_redMany x_isOpen x_lastGreen x_greenTo x_isCycleGreen x_stillGreen x_rowMany x_fitMany x_fitRules x_fitGreen x_undoable x_newest x_seeded v55 v56 v57 0 x_qPiled x_qAnswer x_qIsNew x_octets)), (wi_rm0_0_1600_0 rm cy g_tape), (wi_rm97_2_6_0 rm cy g_secondAsked), (wi_rm98_2_3_0 rm cy g_dayAsked), (wi_rm99_2_5_0 rm cy g_phaseAsked), (wi_rm100_2_6_0 rm cy g_waitedAsked), (wi_rm101_2_4_0 rm cy g_calmAsked), (wi_rm102_2_4_0 rm cy g_paceAsked), (wi_rm103_2_6_0 rm cy g_trustsAsked), (wi_rm104_2_3_0 rm cy g_gapAsked), (wi_rm105_2_4_0 rm cy g_redsAsked), (wi_rm106_2_6_0 rm cy g_numberAsked), (wi_rm107_2_4_0 rm cy g_wentAsked), (wi_rm108_2_4_0 rm cy g_harmAsked), (wi_rm109_2_4_0 rm cy g_kindofAsked), (wi_rm95_2_3_0 rm cy g_minAsked), (wi_rm112_0_1700_0 rm cy f58), (wi_rm96_2_3_0 rm cy g_maxAsked), (wi_rm110_0_1700_0 rm cy f59)] H := hP
                          replace hD := k_D hP hD
                          refine lv_aload_n hx hb dX10_ask_149 rfl (lv_at hl 1 rfl) ?_
                          refine k_get C0 fg_X10_279 hP 29 rfl rfl dX10_ask_150 ?_
                          refine lv_if_eq (tgt := 160) hx hb dX10_ask_153 rfl (fun c75 => ?_) (fun c75 => ?_)
                          · skip
                            exact absurd c75 c72
                          · skip
                            refine lv_ldc2 hx hb C0.2.2.2.1 (C0.2.2.2.2.1 _ wd1404) dX10_ask_156 ?_
                            subst hQ; exact k_lret hx hb hr hlk ((v51, x_taped, v52, v53, v54, v53, v54, 3, x_askSecond, x_redMany, x_isOpen, x_lastGreen, x_greenTo, x_isCycleGreen, x_stillGreen, v55, v56, v57, 0, x_qPiled, x_qAnswer, x_qIsNew, f58, f59, g_qPile, g_waits, g_gaps, g_goes, g_harms, g_isCar, g_isHere, g_crosses, g_presses, g_crossedIn, g_isGreen)) hS ⟨ib_w 0 1600 h60 rfl, ib_w 0 1600 hx_taped rfl, ib_w 0 1 hx_isOpen rfl, ib_w 0 1 hx_isCycleGreen rfl, ib_w 0 1700 h73 rfl, ib_w 0 1700 h74 rfl, ib_w 0 1700 (ib_c 0 0 0 rfl) rfl, ib_w 0 1700 hx_qPiled rfl, ib_w 0 1 hx_qIsNew rfl, hg_gaps, (hO.symm.trans (by try simp only [show ((-1000000000000000) : Int64).toInt = (-1000000000000000 : Int) from rfl]; try simp only [show (3 : Int32).toInt = (3 : Int) from rfl]; try simp only [show (0 : Int32).toInt = (0 : Int) from rfl]; exact hq))⟩ (hP.sub [29, 30, 23, 24, 25, 26, 27, 28, 31, 32, 33, 34, 35, 36, 37, 38, 39, 40, 41, 42, 43, 44, 45, 46, 47, 0, 1, 2, 3, 4, 5, 6, 7, 8, 9, 10, 11, 12, 13, 14, 15, 16, 17, 18, 19, 20, 21, 22] rfl) (hD.sub [29, 30, 23, 24, 25, 26, 27, 28, 31, 32, 33, 34, 35, 36, 37, 38, 39, 40, 41, 42, 43, 44, 45, 46, 47, 0, 1, 2, 3, 4, 5, 6, 7, 8, 9, 10, 11, 12, 13, 14, 15, 16, 17, 18, 19, 20, 21, 22] (by decide +kernel) rfl) (Nat.le_of_ble_eq_true rfl) (Nat.le_of_ble_eq_true rfl) dX10_ask_159
                      · as_aux_lemma =>
                          replace hq := lf_pos hq (lf_eq (lf_rf v53) (lf_lc 0 (0 : Int) rfl) c72)
                          have h76 := ib_eq (ib_any v53) (ib_c 0 0 0 rfl) c72
                          have h77 : ib v53 0 0 := ib_w 0 0 h76.1 rfl
                          have h78 : ib v55 0 1603 := ⟨(h61).1, by have := (h61).2; have := h64; have : (0 : Int32).toInt = 0 := rfl; have := (h33).1; have := (h60).2; have := (h62).1; omega⟩
                          have h79 : ib v56 0 1603 := ⟨(h62).1, by have := (h62).2; have := h64; have : (0 : Int32).toInt = 0 := rfl; have := (h33).1; have := (h60).2; have := (h78).1; omega⟩
                          have h80 := h65 (ib_one h77 rfl)
                          have h81 := h67 (ib_one h77 rfl)
                          have h82 := h68 (ib_one h77 rfl)
                          have h83 := h69 (ib_one h77 rfl)
                          have h84 : ib v55 0 1600 := ⟨(h78).1, by have := (h78).2; have := h80; have : (0 : Int32).toInt = 0 := rfl; have := (h33).1; have := (h60).2; have := (h79).1; omega⟩
                          have h85 : ib v56 0 1600 := ⟨(h79).1, by have := h82; have : (0 : Int32).toInt = 0 := rfl; omega⟩
                          have h86 : ib v29 0 1599 := ⟨(h33).1, by have := (h33).2; have := h81; have := (h60).2; omega⟩
                          have h87 : ib v51 1 1600 := ⟨by have := (h60).1; have := h81; have := (h86).1; omega, (h60).2⟩
                          have h88 : ib v56 0 0 := ⟨(h85).1, by have := h82; have : (0 : Int32).toInt = 0 := rfl; omega⟩
                          refine lv_aload_n hx hb dX10_ask_116 rfl (lv_at hl 1 rfl) ?_
                          refine k_jim hP hD hS hA [29, 30] [true, true, true, true, true, true, true, true, true, true, true, true, true, true, true, true, true, true, true, true, true, true, true, true, true, true, true, true, true, false, false, true, true, true, true, true, true, true, true, true, true, true, true, true, true, true, true, true] rfl rfl (by decide +kernel) 0 0 (Nat.le_of_ble_eq_true rfl) (Nat.le_of_ble_eq_true rfl) (fun hPc hDc => k_runV (As := []) (rest := []) C0 hZ hS hA (s_X10_look l dC dI cy sq a_this rm 0 v51 x_taped v52 v53 v54 x_fault x_faultPlace x_namePlace x_awayTold x_away x_coded x_statements x_isCrossing 3 x_askSecond x_redMany x_isOpen x_lastGreen x_greenTo x_isCycleGreen x_stillGreen x_rowMany x_fitMany x_fitRules x_fitGreen x_undoable x_newest x_seeded v55 v56 v57 0 x_qPiled x_qAnswer x_qIsNew x_octets g_tape (ib_w 0 1600 h87 rfl) (ib_w 0 1600 hx_taped rfl) hg_tape) mV_X10_291 hPc hDc rfl rfl rfl hl rfl rfl (Nat.le_of_ble_eq_true rfl) ⟨(Nat.le_of_ble_eq_true rfl), (Nat.le_of_ble_eq_true rfl)⟩ ⟨(Nat.le_of_ble_eq_true rfl), (Nat.le_of_ble_eq_true rfl)⟩ dX10_ask_117) (fun r89 u90 H locs hw hP hD hS => ?_)
                          obtain ⟨v91, ev91⟩ : ∃ z, z = u90 := ⟨_, rfl⟩; subst ev91
                          try dsimp only at hP hD hw
                          replace hP : va_P (dC, dI) vwCl [(wi_rm49_0_6_0 rm cy g_codeFrom), (wi_rm50_0_6_0 rm cy g_codeEnd), (wi_rm116_1_1700_1 rm cy g_qPile), (wi_rm51_0_3200_0 rm cy g_codes), (wi_rm46_0_48_0 rm cy g_walkers), (wi_rm56_0_9_0 rm cy g_now), (wi_rm43_0_8_0 rm cy g_bar), (wi_rm65_0_12_0 rm cy g_waits), (wi_rm44_0_24_0 rm cy g_kinds), (wi_rm61_0_300_0 rm cy g_gaps), (wi_rm66_3_12_0 rm cy g_goes), (wi_rm67_3_12_0 rm cy g_harms), (wi_rm60_3_320_0 rm cy g_isCar), (wi_rm63_3_12_0 rm cy g_isHere), (wi_rm64_0_12_0 rm cy g_crosses), (wi_rm68_3_12_0 rm cy g_presses), (wi_rm69_3_300_0 rm cy g_crossedIn), (wi_rm41_0_4_0 rm cy g_many), (wi_rm62_3_300_0 rm cy g_isGreen), (wi_rm91_2_3_0 rm cy g_notAsked), (wi_rm94_2_3_0 rm cy g_allAsked), (wi_rm92_2_3_0 rm cy g_andAsked), (wi_rm93_2_2_0 rm cy g_orAsked), (wi_rm85_2_5_0 rm cy g_firstAsked), (wi_rm86_2_4_0 rm cy g_lastAsked), (wi_rm87_2_5_0 rm cy g_oftenAsked), (wi_rm88_2_5_0 rm cy g_totalAsked), (wi_rm89_2_4_0 rm cy g_mostAsked), (wi_rm90_2_5_0 rm cy g_leastAsked), (wi_rm97_2_6_0 rm cy g_secondAsked), (wi_rm98_2_3_0 rm cy g_dayAsked), (wi_rm99_2_5_0 rm cy g_phaseAsked), (wi_rm100_2_6_0 rm cy g_waitedAsked), (wi_rm101_2_4_0 rm cy g_calmAsked), (wi_rm102_2_4_0 rm cy g_paceAsked), (wi_rm103_2_6_0 rm cy g_trustsAsked), (wi_rm104_2_3_0 rm cy g_gapAsked), (wi_rm105_2_4_0 rm cy g_redsAsked), (wi_rm106_2_6_0 rm cy g_numberAsked), (wi_rm107_2_4_0 rm cy g_wentAsked), (wi_rm108_2_4_0 rm cy g_harmAsked), (wi_rm109_2_4_0 rm cy g_kindofAsked), (wi_rm95_2_3_0 rm cy g_minAsked), (wi_rm112_0_1700_0 rm cy f58), (wi_rm96_2_3_0 rm cy g_maxAsked), (wi_rm110_0_1700_0 rm cy f59), (a_this, .inr (10, mfs rm 0 v91 x_taped v52 v53 v54 x_fault x_faultPlace x_namePlace x_awayTold x_away x_coded x_statements x_isCrossing 3 x_askSecond x_redMany x_isOpen x_lastGreen x_greenTo x_isCycleGreen x_stillGreen x_rowMany x_fitMany x_fitRules x_fitGreen x_undoable x_newest x_seeded v55 v56 v57 0 x_qPiled x_qAnswer x_qIsNew x_octets)), (wi_rm0_0_1600_0 rm cy g_tape)] H := hP
                          replace hD := k_D hP hD
                          obtain ⟨h92, h93, h94, h95, h96, h97, h98, h99, h100, h101⟩ := hw
                          replace hq := lf_p1 hq h101
                          refine lv_iconst (v := (-1)) hx hb dX10_ask_120 rfl ?_
                          refine lv_icmp_eq (tgt := 133) hx hb dX10_ask_121 rfl (fun c102 => ?_) (fun c102 => ?_)
                          · as_aux_lemma =>
                              replace hq := lf_pos hq (lf_eq (lf_rf r89) (lf_lc (-1) (-1 : Int) rfl) c102)
                              have h103 := ib_eq h93 (ib_c (-1) (-1) (-1) rfl) c102
                              have h104 : ib r89 (-1) (-1) := ib_w (-1) (-1) h103.1 rfl
                              have h105 : ib v91 1 1600 := ⟨by have := (h92).1; have := h97; have := (h87).1; omega, (h92).2⟩
                              refine lv_aload_n hx hb dX10_ask_133 rfl (lv_at hl 1 rfl) ?_
                              refine lv_aload_n hx hb dX10_ask_134 rfl (lv_at hl 1 rfl) ?_
                              refine k_get C0 fg_X10_279 hP 46 rfl rfl dX10_ask_135 ?_
                              refine k_put C0 fp_X10_411 hP hD hS 46 rfl rfl rfl (Nat.le_of_ble_eq_true rfl) dX10_ask_138 (fun H locs hP hD hS => ?_)
                              replace hP : va_P (dC, dI) vwCl [(wi_rm49_0_6_0 rm cy g_codeFrom), (wi_rm50_0_6_0 rm cy g_codeEnd), (wi_rm116_1_1700_1 rm cy g_qPile), (wi_rm51_0_3200_0 rm cy g_codes), (wi_rm46_0_48_0 rm cy g_walkers), (wi_rm56_0_9_0 rm cy g_now), (wi_rm43_0_8_0 rm cy g_bar), (wi_rm65_0_12_0 rm cy g_waits), (wi_rm44_0_24_0 rm cy g_kinds), (wi_rm61_0_300_0 rm cy g_gaps), (wi_rm66_3_12_0 rm cy g_goes), (wi_rm67_3_12_0 rm cy g_harms), (wi_rm60_3_320_0 rm cy g_isCar), (wi_rm63_3_12_0 rm cy g_isHere), (wi_rm64_0_12_0 rm cy g_crosses), (wi_rm68_3_12_0 rm cy g_presses), (wi_rm69_3_300_0 rm cy g_crossedIn), (wi_rm41_0_4_0 rm cy g_many), (wi_rm62_3_300_0 rm cy g_isGreen), (wi_rm91_2_3_0 rm cy g_notAsked), (wi_rm94_2_3_0 rm cy g_allAsked), (wi_rm92_2_3_0 rm cy g_andAsked), (wi_rm93_2_2_0 rm cy g_orAsked), (wi_rm85_2_5_0 rm cy g_firstAsked), (wi_rm86_2_4_0 rm cy g_lastAsked), (wi_rm87_2_5_0 rm cy g_oftenAsked), (wi_rm88_2_5_0 rm cy g_totalAsked), (wi_rm89_2_4_0 rm cy g_mostAsked), (wi_rm90_2_5_0 rm cy g_leastAsked), (wi_rm97_2_6_0 rm cy g_secondAsked), (wi_rm98_2_3_0 rm cy g_dayAsked), (wi_rm99_2_5_0 rm cy g_phaseAsked), (wi_rm100_2_6_0 rm cy g_waitedAsked), (wi_rm101_2_4_0 rm cy g_calmAsked), (wi_rm102_2_4_0 rm cy g_paceAsked), (wi_rm103_2_6_0 rm cy g_trustsAsked), (wi_rm104_2_3_0 rm cy g_gapAsked), (wi_rm105_2_4_0 rm cy g_redsAsked), (wi_rm106_2_6_0 rm cy g_numberAsked), (wi_rm107_2_4_0 rm cy g_wentAsked), (wi_rm108_2_4_0 rm cy g_harmAsked), (wi_rm109_2_4_0 rm cy g_kindofAsked), (wi_rm95_2_3_0 rm cy g_minAsked), (wi_rm112_0_1700_0 rm cy f58), (wi_rm96_2_3_0 rm cy g_maxAsked), (wi_rm110_0_1700_0 rm cy f59), (a_this, .inr (10, mfs rm 0 v91 x_taped v52 v53 v54 v53 x_faultPlace x_namePlace x_awayTold x_away x_coded x_statements x_isCrossing 3 x_askSecond x_redMany x_isOpen x_lastGreen x_greenTo x_isCycleGreen x_stillGreen x_rowMany x_fitMany x_fitRules x_fitGreen x_undoable x_newest x_seeded v55 v56 v57 0 x_qPiled x_qAnswer x_qIsNew x_octets)), (wi_rm0_0_1600_0 rm cy g_tape)] H := hP
                              replace hD := k_D hP hD
                              refine lv_aload_n hx hb dX10_ask_141 rfl (lv_at hl 1 rfl) ?_
                              refine lv_aload_n hx hb dX10_ask_142 rfl (lv_at hl 1 rfl) ?_
                              refine k_get C0 fg_X10_282 hP 46 rfl rfl dX10_ask_143 ?_
                              refine k_put C0 fp_X10_13 hP hD hS 46 rfl rfl rfl (Nat.le_of_ble_eq_true rfl) dX10_ask_146 (fun H locs hP hD hS => ?_)
                              replace hP : va_P (dC, dI) vwCl [(wi_rm49_0_6_0 rm cy g_codeFrom), (wi_rm50_0_6_0 rm cy g_codeEnd), (wi_rm116_1_1700_1 rm cy g_qPile), (wi_rm51_0_3200_0 rm cy g_codes), (wi_rm46_0_48_0 rm cy g_walkers), (wi_rm56_0_9_0 rm cy g_now), (wi_rm43_0_8_0 rm cy g_bar), (wi_rm65_0_12_0 rm cy g_waits), (wi_rm44_0_24_0 rm cy g_kinds), (wi_rm61_0_300_0 rm cy g_gaps), (wi_rm66_3_12_0 rm cy g_goes), (wi_rm67_3_12_0 rm cy g_harms), (wi_rm60_3_320_0 rm cy g_isCar), (wi_rm63_3_12_0 rm cy g_isHere), (wi_rm64_0_12_0 rm cy g_crosses), (wi_rm68_3_12_0 rm cy g_presses), (wi_rm69_3_300_0 rm cy g_crossedIn), (wi_rm41_0_4_0 rm cy g_many), (wi_rm62_3_300_0 rm cy g_isGreen), (wi_rm91_2_3_0 rm cy g_notAsked), (wi_rm94_2_3_0 rm cy g_allAsked), (wi_rm92_2_3_0 rm cy g_andAsked), (wi_rm93_2_2_0 rm cy g_orAsked), (wi_rm85_2_5_0 rm cy g_firstAsked), (wi_rm86_2_4_0 rm cy g_lastAsked), (wi_rm87_2_5_0 rm cy g_oftenAsked), (wi_rm88_2_5_0 rm cy g_totalAsked), (wi_rm89_2_4_0 rm cy g_mostAsked), (wi_rm90_2_5_0 rm cy g_leastAsked), (wi_rm97_2_6_0 rm cy g_secondAsked), (wi_rm98_2_3_0 rm cy g_dayAsked), (wi_rm99_2_5_0 rm cy g_phaseAsked), (wi_rm100_2_6_0 rm cy g_waitedAsked), (wi_rm101_2_4_0 rm cy g_calmAsked), (wi_rm102_2_4_0 rm cy g_paceAsked), (wi_rm103_2_6_0 rm cy g_trustsAsked), (wi_rm104_2_3_0 rm cy g_gapAsked), (wi_rm105_2_4_0 rm cy g_redsAsked), (wi_rm106_2_6_0 rm cy g_numberAsked), (wi_rm107_2_4_0 rm cy g_wentAsked), (wi_rm108_2_4_0 rm cy g_harmAsked), (wi_rm109_2_4_0 rm cy g_kindofAsked), (wi_rm95_2_3_0 rm cy g_minAsked), (wi_rm112_0_1700_0 rm cy f58), (wi_rm96_2_3_0 rm cy g_maxAsked), (wi_rm110_0_1700_0 rm cy f59), (a_this, .inr (10, mfs rm 0 v91 x_taped v52 v53 v54 v53 v54 x_namePlace x_awayTold x_away x_coded x_statements x_isCrossing 3 x_askSecond x_redMany x_isOpen x_lastGreen x_greenTo x_isCycleGreen x_stillGreen x_rowMany x_fitMany x_fitRules x_fitGreen x_undoable x_newest x_seeded v55 v56 v57 0 x_qPiled x_qAnswer x_qIsNew x_octets)), (wi_rm0_0_1600_0 rm cy g_tape)] H := hP
                              replace hD := k_D hP hD
                              refine lv_aload_n hx hb dX10_ask_149 rfl (lv_at hl 1 rfl) ?_
                              refine k_get C0 fg_X10_279 hP 46 rfl rfl dX10_ask_150 ?_
                              refine lv_if_eq (tgt := 160) hx hb dX10_ask_153 rfl (fun c106 => ?_) (fun c106 => ?_)
                              · as_aux_lemma =>
                                  skip
                                  have h107 := ib_eq h77 (ib_c 0 0 0 rfl) c106
                                  have h108 := h65 (ib_one h77 rfl)
                                  have h109 := h67 (ib_one h77 rfl)
                                  have h110 := h68 (ib_one h77 rfl)
                                  have h111 := h69 (ib_one h77 rfl)
                                  have h112 : okc f59 0 false 0 v55 := okc_GS (h70 (ib_one h77 rfl)) (by decide)
                                  refine lv_aload_n hx hb dX10_ask_160 rfl (lv_at hl 1 rfl) ?_
                                  refine lv_iload_n hx hb dX10_ask_161 rfl (lv_at hl 0 rfl) ?_
                                  refine lv_iconst (v := 2) hx hb dX10_ask_162 rfl ?_
                                  refine lv_icmp_ge (tgt := 172) hx hb dX10_ask_163 rfl (fun c113 => ?_) (fun c113 => ?_)
                                  · as_aux_lemma =>
                                      skip
                                      have h114 := ib_le (ib_c 2 2 2 rfl) h46 c113
                                      refine lv_lconst (v := 0) hx hb dX10_ask_172 (by decide) ?_
                                      refine k_put C0 fp_X10_678 hP hD hS 46 rfl rfl rfl (Nat.le_of_ble_eq_true rfl) dX10_ask_173 (fun H locs hP hD hS => ?_)
                                      replace hP : va_P (dC, dI) vwCl [(wi_rm49_0_6_0 rm cy g_codeFrom), (wi_rm50_0_6_0 rm cy g_codeEnd), (wi_rm116_1_1700_1 rm cy g_qPile), (wi_rm51_0_3200_0 rm cy g_codes), (wi_rm46_0_48_0 rm cy g_walkers), (wi_rm56_0_9_0 rm cy g_now), (wi_rm43_0_8_0 rm cy g_bar), (wi_rm65_0_12_0 rm cy g_waits), (wi_rm44_0_24_0 rm cy g_kinds), (wi_rm61_0_300_0 rm cy g_gaps), (wi_rm66_3_12_0 rm cy g_goes), (wi_rm67_3_12_0 rm cy g_harms), (wi_rm60_3_320_0 rm cy g_isCar), (wi_rm63_3_12_0 rm cy g_isHere), (wi_rm64_0_12_0 rm cy g_crosses), (wi_rm68_3_12_0 rm cy g_presses), (wi_rm69_3_300_0 rm cy g_crossedIn), (wi_rm41_0_4_0 rm cy g_many), (wi_rm62_3_300_0 rm cy g_isGreen), (wi_rm91_2_3_0 rm cy g_notAsked), (wi_rm94_2_3_0 rm cy g_allAsked), (wi_rm92_2_3_0 rm cy g_andAsked), (wi_rm93_2_2_0 rm cy g_orAsked), (wi_rm85_2_5_0 rm cy g_firstAsked), (wi_rm86_2_4_0 rm cy g_lastAsked), (wi_rm87_2_5_0 rm cy g_oftenAsked), (wi_rm88_2_5_0 rm cy g_totalAsked), (wi_rm89_2_4_0 rm cy g_mostAsked), (wi_rm90_2_5_0 rm cy g_leastAsked), (wi_rm97_2_6_0 rm cy g_secondAsked), (wi_rm98_2_3_0 rm cy g_dayAsked), (wi_rm99_2_5_0 rm cy g_phaseAsked), (wi_rm100_2_6_0 rm cy g_waitedAsked), (wi_rm101_2_4_0 rm cy g_calmAsked), (wi_rm102_2_4_0 rm cy g_paceAsked), (wi_rm103_2_6_0 rm cy g_trustsAsked), (wi_rm104_2_3_0 rm cy g_gapAsked), (wi_rm105_2_4_0 rm cy g_redsAsked), (wi_rm106_2_6_0 rm cy g_numberAsked), (wi_rm107_2_4_0 rm cy g_wentAsked), (wi_rm108_2_4_0 rm cy g_harmAsked), (wi_rm109_2_4_0 rm cy g_kindofAsked), (wi_rm95_2_3_0 rm cy g_minAsked), (wi_rm112_0_1700_0 rm cy f58), (wi_rm96_2_3_0 rm cy g_maxAsked), (wi_rm110_0_1700_0 rm cy f59), (a_this, .inr (10, mfs rm 0 v91 x_taped v52 v53 v54 v53 v54 x_namePlace x_awayTold x_away x_coded x_statements x_isCrossing 3 x_askSecond x_redMany x_isOpen x_lastGreen x_greenTo x_isCycleGreen x_stillGreen x_rowMany x_fitMany x_fitRules x_fitGreen x_undoable x_newest x_seeded v55 v56 v57 0 x_qPiled 0 x_qIsNew x_octets)), (wi_rm0_0_1600_0 rm cy g_tape)] H := hP
                                      replace hD := k_D hP hD
                                      refine lv_aload_n hx hb dX10_ask_176 rfl (lv_at hl 1 rfl) ?_
                                      refine lv_iconst (v := 1) hx hb dX10_ask_177 rfl ?_
                                      refine k_put C0 fp_X10_683 hP hD hS 46 rfl (k_nb 1 rfl) (k_fb 1 (by decide)) (Nat.le_of_ble_eq_true rfl) dX10_ask_178 (fun H locs hP hD hS => ?_)
                                      replace hP : va_P (dC, dI) vwCl [(wi_rm49_0_6_0 rm cy g_codeFrom), (wi_rm50_0_6_0 rm cy g_codeEnd), (wi_rm116_1_1700_1 rm cy g_qPile), (wi_rm51_0_3200_0 rm cy g_codes), (wi_rm46_0_48_0 rm cy g_walkers), (wi_rm56_0_9_0 rm cy g_now), (wi_rm43_0_8_0 rm cy g_bar), (wi_rm65_0_12_0 rm cy g_waits), (wi_rm44_0_24_0 rm cy g_kinds), (wi_rm61_0_300_0 rm cy g_gaps), (wi_rm66_3_12_0 rm cy g_goes), (wi_rm67_3_12_0 rm cy g_harms), (wi_rm60_3_320_0 rm cy g_isCar), (wi_rm63_3_12_0 rm cy g_isHere), (wi_rm64_0_12_0 rm cy g_crosses), (wi_rm68_3_12_0 rm cy g_presses), (wi_rm69_3_300_0 rm cy g_crossedIn), (wi_rm41_0_4_0 rm cy g_many), (wi_rm62_3_300_0 rm cy g_isGreen), (wi_rm91_2_3_0 rm cy g_notAsked), (wi_rm94_2_3_0 rm cy g_allAsked), (wi_rm92_2_3_0 rm cy g_andAsked), (wi_rm93_2_2_0 rm cy g_orAsked), (wi_rm85_2_5_0 rm cy g_firstAsked), (wi_rm86_2_4_0 rm cy g_lastAsked), (wi_rm87_2_5_0 rm cy g_oftenAsked), (wi_rm88_2_5_0 rm cy g_totalAsked), (wi_rm89_2_4_0 rm cy g_mostAsked), (wi_rm90_2_5_0 rm cy g_leastAsked), (wi_rm97_2_6_0 rm cy g_secondAsked), (wi_rm98_2_3_0 rm cy g_dayAsked), (wi_rm99_2_5_0 rm cy g_phaseAsked), (wi_rm100_2_6_0 rm cy g_waitedAsked), (wi_rm101_2_4_0 rm cy g_calmAsked), (wi_rm102_2_4_0 rm cy g_paceAsked), (wi_rm103_2_6_0 rm cy g_trustsAsked), (wi_rm104_2_3_0 rm cy g_gapAsked), (wi_rm105_2_4_0 rm cy g_redsAsked), (wi_rm106_2_6_0 rm cy g_numberAsked), (wi_rm107_2_4_0 rm cy g_wentAsked), (wi_rm108_2_4_0 rm cy g_harmAsked), (wi_rm109_2_4_0 rm cy g_kindofAsked), (wi_rm95_2_3_0 rm cy g_minAsked), (wi_rm112_0_1700_0 rm cy f58), (wi_rm96_2_3_0 rm cy g_maxAsked), (wi_rm110_0_1700_0 rm cy f59), (a_this, .inr (10, mfs rm 0 v91 x_taped v52 v53 v54 v53 v54 x_namePlace x_awayTold x_away x_coded x_statements x_isCrossing 3 x_askSecond x_redMany x_isOpen x_lastGreen x_greenTo x_isCycleGreen x_stillGreen x_rowMany x_fitMany x_fitRules x_fitGreen x_undoable x_newest x_seeded v55 v56 v57 0 x_qPiled 0 1 x_octets)), (wi_rm0_0_1600_0 rm cy g_tape)] H := hP
                                      replace hD := k_D hP hD
                                      refine lv_aload_n hx hb dX10_ask_181 rfl (lv_at hl 1 rfl) ?_
                                      refine k_jvm hP hD hS hA [46, 0, 1, 2, 3, 4, 5, 6, 7, 8, 9, 10, 11, 12, 13, 14, 15, 16, 17, 18] [false, false, false, false, false, false, false, false, false, false, false, false, false, false, false, false, false, false, false, true, true, true, true, true, true, true, true, true, true, true, true, true, true, true, true, true, true, true, true, true, true, true, true, true, true, true, false, true] rfl rfl (by decide +kernel) 0 0 (Nat.le_of_ble_eq_true rfl) (Nat.le_of_ble_eq_true rfl) (fun hPc hDc => k_runV (As := []) (rest := []) C0 hZ hS hA (s_X10_dayNow l dC dI cy sq a_this rm 0 v91 x_taped v52 v53 v54 v53 v54 x_namePlace x_awayTold x_away x_coded x_statements x_isCrossing 3 x_askSecond x_redMany x_isOpen x_lastGreen x_greenTo x_isCycleGreen x_stillGreen x_rowMany x_fitMany x_fitRules x_fitGreen x_undoable x_newest x_seeded v55 v56 v57 0 x_qPiled 0 1 x_octets g_many g_bar g_kinds g_walkers g_codeFrom g_codeEnd g_codes g_now g_isCar g_gaps g_isGreen g_isHere g_crosses g_waits g_goes g_harms g_presses g_crossedIn g_qPile (ib_w 0 1700 hx_qPiled rfl) (ib_w 0 12 hg_many_3 rfl) (ib_w 10 120 h25 rfl) hpg_walkers (ib_w (-1) 1600 hg_codeFrom_3 rfl) (ib_w (-1) 1600 hg_codeFrom_4 rfl) (ib_w 0 1600 hg_codeEnd_3 rfl) (ib_w 0 1600 hg_codeEnd_4 rfl) hg_gaps hG0 hG1) mV_X10_534 hPc hDc rfl rfl rfl hl rfl rfl (Nat.le_of_ble_eq_true rfl) ⟨(Nat.le_of_ble_eq_true rfl), (Nat.le_of_ble_eq_true rfl)⟩ ⟨(Nat.le_of_ble_eq_true rfl), (Nat.le_of_ble_eq_true rfl)⟩ dX10_ask_182) (fun u116 H locs hw hP hD hS => ?_)
                                      obtain ⟨v117, v118, v119, v120, v121, v122, v123, v124, v125, f126, f127, f128, f129, f130, f131, f132, f133, f134, f135, f136⟩ := u116
                                      try dsimp only at hP hD hw
                                      replace hP : va_P (dC, dI) vwCl [(wi_rm91_2_3_0 rm cy g_notAsked), (wi_rm94_2_3_0 rm cy g_allAsked), (wi_rm92_2_3_0 rm cy g_andAsked), (wi_rm93_2_2_0 rm cy g_orAsked), (wi_rm85_2_5_0 rm cy g_firstAsked), (wi_rm86_2_4_0 rm cy g_lastAsked), (wi_rm87_2_5_0 rm cy g_oftenAsked), (wi_rm88_2_5_0 rm cy g_totalAsked), (wi_rm89_2_4_0 rm cy g_mostAsked), (wi_rm90_2_5_0 rm cy g_leastAsked), (wi_rm97_2_6_0 rm cy g_secondAsked), (wi_rm98_2_3_0 rm cy g_dayAsked), (wi_rm99_2_5_0 rm cy g_phaseAsked), (wi_rm100_2_6_0 rm cy g_waitedAsked), (wi_rm101_2_4_0 rm cy g_calmAsked), (wi_rm102_2_4_0 rm cy g_paceAsked), (wi_rm103_2_6_0 rm cy g_trustsAsked), (wi_rm104_2_3_0 rm cy g_gapAsked), (wi_rm105_2_4_0 rm cy g_redsAsked), (wi_rm106_2_6_0 rm cy g_numberAsked), (wi_rm107_2_4_0 rm cy g_wentAsked), (wi_rm108_2_4_0 rm cy g_harmAsked), (wi_rm109_2_4_0 rm cy g_kindofAsked), (wi_rm95_2_3_0 rm cy g_minAsked), (wi_rm112_0_1700_0 rm cy f58), (wi_rm96_2_3_0 rm cy g_maxAsked), (wi_rm110_0_1700_0 rm cy f59), (wi_rm0_0_1600_0 rm cy g_tape), (a_this, .inr (10, mfs rm 0 v91 x_taped v52 v53 v54 v53 v54 x_namePlace x_awayTold x_away x_coded x_statements x_isCrossing v117 v118 v119 v120 v121 v122 v123 v124 x_rowMany x_fitMany x_fitRules x_fitGreen x_undoable x_newest x_seeded v55 v56 v57 0 v125 0 1 x_octets)), (wi_rm49_0_6_0 rm cy g_codeFrom), (wi_rm50_0_6_0 rm cy g_codeEnd), (wi_rm116_1_1700_1 rm cy f126), (wi_rm51_0_3200_0 rm cy g_codes), (wi_rm46_0_48_0 rm cy g_walkers), (wi_rm56_0_9_0 rm cy g_now), (wi_rm43_0_8_0 rm cy g_bar), (wi_rm65_0_12_0 rm cy f127), (wi_rm44_0_24_0 rm cy g_kinds), (wi_rm61_0_300_0 rm cy f128), (wi_rm66_3_12_0 rm cy f129), (wi_rm67_3_12_0 rm cy f130), (wi_rm60_3_320_0 rm cy f131), (wi_rm63_3_12_0 rm cy f132), (wi_rm64_0_12_0 rm cy f133), (wi_rm68_3_12_0 rm cy f134), (wi_rm69_3_300_0 rm cy f135), (wi_rm41_0_4_0 rm cy g_many), (wi_rm62_3_300_0 rm cy f136)] H := hP
                                      replace hD := k_D hP hD
                                      obtain ⟨h137, h138, h139, h140, h141⟩ := hw
                                      have h141 := by have h9 := h141; try simp only [show (3 : Int32).toInt = (3 : Int) from rfl] at h9; exact h9
                                      replace hq := lf_p1 hq h141
                                      replace hq := lf_p1 hq rfl
                                      replace hq := lf_p1 hq rfl
                                      replace hq := lf_p1 hq rfl
                                      replace hq := lf_p1 hq rfl
                                      replace hq := lf_p1 hq rfl
                                      replace hq := lf_p1 hq rfl
                                      replace hq := lf_p1 hq rfl
                                      replace hq := lf_p1 hq rfl
                                      replace hq := lf_p1 hq rfl
                                      replace hq := lf_p1 hq rfl
                                      replace hq := lf_p1 hq rfl
                                      replace hq := lf_p1 hq rfl
                                      replace hq := lf_p1 hq rfl
                                      replace hq := lf_p1 hq rfl
                                      replace hq := lf_p1 hq rfl
                                      replace hq := lf_p1 hq rfl
                                      replace hq := lf_p1 hq rfl
                                      replace hq := lf_p1 hq rfl
                                      refine lv_aload_n hx hb dX10_ask_185 rfl (lv_at hl 1 rfl) ?_
                                      refine lv_iconst (v := 3) hx hb dX10_ask_186 rfl ?_
                                      refine k_put C0 fp_X10_333 hP hD hS 28 rfl rfl rfl (Nat.le_of_ble_eq_true rfl) dX10_ask_187 (fun H locs hP hD hS => ?_)
                                      replace hP : va_P (dC, dI) vwCl [(wi_rm91_2_3_0 rm cy g_notAsked), (wi_rm94_2_3_0 rm cy g_allAsked), (wi_rm92_2_3_0 rm cy g_andAsked), (wi_rm93_2_2_0 rm cy g_orAsked), (wi_rm85_2_5_0 rm cy g_firstAsked), (wi_rm86_2_4_0 rm cy g_lastAsked), (wi_rm87_2_5_0 rm cy g_oftenAsked), (wi_rm88_2_5_0 rm cy g_totalAsked), (wi_rm89_2_4_0 rm cy g_mostAsked), (wi_rm90_2_5_0 rm cy g_leastAsked), (wi_rm97_2_6_0 rm cy g_secondAsked), (wi_rm98_2_3_0 rm cy g_dayAsked), (wi_rm99_2_5_0 rm cy g_phaseAsked), (wi_rm100_2_6_0 rm cy g_waitedAsked), (wi_rm101_2_4_0 rm cy g_calmAsked), (wi_rm102_2_4_0 rm cy g_paceAsked), (wi_rm103_2_6_0 rm cy g_trustsAsked), (wi_rm104_2_3_0 rm cy g_gapAsked), (wi_rm105_2_4_0 rm cy g_redsAsked), (wi_rm106_2_6_0 rm cy g_numberAsked), (wi_rm107_2_4_0 rm cy g_wentAsked), (wi_rm108_2_4_0 rm cy g_harmAsked), (wi_rm109_2_4_0 rm cy g_kindofAsked), (wi_rm95_2_3_0 rm cy g_minAsked), (wi_rm112_0_1700_0 rm cy f58), (wi_rm96_2_3_0 rm cy g_maxAsked), (wi_rm110_0_1700_0 rm cy f59), (wi_rm0_0_1600_0 rm cy g_tape), (a_this, .inr (10, mfs rm 0 v91 x_taped v52 v53 v54 v53 v54 x_namePlace x_awayTold x_away x_coded x_statements x_isCrossing 3 v118 v119 v120 v121 v122 v123 v124 x_rowMany x_fitMany x_fitRules x_fitGreen x_undoable x_newest x_seeded v55 v56 v57 0 v125 0 1 x_octets)), (wi_rm49_0_6_0 rm cy g_codeFrom), (wi_rm50_0_6_0 rm cy g_codeEnd), (wi_rm116_1_1700_1 rm cy f126), (wi_rm51_0_3200_0 rm cy g_codes), (wi_rm46_0_48_0 rm cy g_walkers), (wi_rm56_0_9_0 rm cy g_now), (wi_rm43_0_8_0 rm cy g_bar), (wi_rm65_0_12_0 rm cy f127), (wi_rm44_0_24_0 rm cy g_kinds), (wi_rm61_0_300_0 rm cy f128), (wi_rm66_3_12_0 rm cy f129), (wi_rm67_3_12_0 rm cy f130), (wi_rm60_3_320_0 rm cy f131), (wi_rm63_3_12_0 rm cy f132), (wi_rm64_0_12_0 rm cy f133), (wi_rm68_3_12_0 rm cy f134), (wi_rm69_3_300_0 rm cy f135), (wi_rm41_0_4_0 rm cy g_many), (wi_rm62_3_300_0 rm cy f136)] H := hP
                                      replace hD := k_D hP hD
                                      refine lv_iconst (v := 0) hx hb dX10_ask_190 rfl ?_
                                      refine lv_istore_n (lv' := [(2, .int 0), (1, .int r27), (0, .ref a_this)]) hx hb dX10_ask_191 rfl hl (Nat.le_of_ble_eq_true rfl) rfl (fun ls hl => ?_)
                                      exact jn192 14 r27 v91 v52 v53 v54 v53 v54 v118 v119 v120 v121 v122 v123 v124 v55 v56 v57 v125 f58 f59 f126 f127 f128 f129 f130 f131 f132 f133 f134 f135 f136 0 0 1 H locs ls (ib_w 0 5 h46 rfl) (ib_w 0 1600 h105 rfl) (ib_w 0 0 h77 rfl) (ib_w 0 0 h77 rfl) (ib_w 1 1 h24 rfl) (ib_w 0 1 h137 rfl) (ib_w 0 1 h138 rfl) (ib_w 0 1600 h84 rfl) (ib_w 0 0 h88 rfl) (ib_w 0 1700 h139 rfl) (ib_w 10 120 h25 rfl) (ib_w 0 12 (ib_c 0 0 0 rfl) rfl) (ib_w 0 1 (ib_c 1 1 1 rfl) rfl) h140 (h112) (by try simp only [show (0 : Int64).toInt = (0 : Int) from rfl]; try simp only [show (0 : Int32).toInt = (0 : Int) from rfl]; try simp only [show (1 : Int32).toInt = (1 : Int) from rfl]; exact hq) (by have := (ib_c 0 0 0 rfl); unfold ib at this; omega) (hP.sub [28, 27, 4, 5, 6, 7, 8, 9, 10, 11, 12, 13, 14, 15, 16, 17, 18, 19, 20, 21, 22, 23, 24, 25, 26, 29, 30, 31, 32, 33, 34, 35, 36, 37, 38, 39, 40, 41, 42, 43, 44, 45, 46, 47, 0, 1, 2, 3] rfl) (hD.sub [28, 27, 4, 5, 6, 7, 8, 9, 10, 11, 12, 13, 14, 15, 16, 17, 18, 19, 20, 21, 22, 23, 24, 25, 26, 29, 30, 31, 32, 33, 34, 35, 36, 37, 38, 39, 40, 41, 42, 43, 44, 45, 46, 47, 0, 1, 2, 3] (by decide +kernel) rfl) hS (lv_sub hl [2, 1, 0] rfl)
                                  · skip
                                    have h142 := ib_nle (ib_c 2 2 2 rfl) h46 c113
                                    exact ib_no (ib_w 4 2 h142.1 rfl) rfl
                              · skip
                                exact absurd (ib_one h77 rfl) c106
                          · as_aux_lemma =>
                              replace hq := lf_neg hq (lf_ne (lf_rf r89) (lf_lc (-1) (-1 : Int) rfl) c102)
                              have h143 : ib r89 0 255 := ib_w 0 255 (ib_ne_lo (-1) h93 rfl c102) rfl
                              have h144 : ib v91 0 1599 := ib_w 0 1599 (ib_two h92 (h94 (ib_nc (-1) h143 rfl))) rfl
                              have h145 : ib v51 1 1599 := ib_w 1 1599 (ib_two h87 (h95 (ib_nc (-1) h143 rfl))) rfl
                              have h146 : ib x_taped 1 1600 := ib_w 1 1600 (ib_two hx_taped (h96 (ib_nc (-1) h143 rfl))) rfl
                              have h147 : ib v55 0 1599 := ⟨(h84).1, by have := (h84).2; have := h80; have : (0 : Int32).toInt = 0 := rfl; have := (h86).1; have := (h145).2; have := (h88).1; omega⟩
                              have h148 : ib v29 0 1598 := ⟨(h86).1, by have := (h86).2; have := h81; have := (h145).2; omega⟩
                              have h149 : ib v91 1 1599 := ⟨by have := (h144).1; have := h97; have := (h145).1; omega, (h144).2⟩
                              refine lv_aload_n hx hb dX10_ask_124 rfl (lv_at hl 1 rfl) ?_
                              refine lv_iconst (v := 1) hx hb dX10_ask_125 rfl ?_
                              refine lv_aload_n hx hb dX10_ask_126 rfl (lv_at hl 1 rfl) ?_
                              refine k_get C0 fg_X10_285 hP 46 rfl rfl dX10_ask_127 ?_
                              refine k_jvm hP hD hS hA [46] [true, true, true, true, true, true, true, true, true, true, true, true, true, true, true, true, true, true, true, true, true, true, true, true, true, true, true, true, true, true, true, true, true, true, true, true, true, true, true, true, true, true, true, true, true, true, false, true] rfl rfl (by decide +kernel) 0 0 (Nat.le_of_ble_eq_true rfl) (Nat.le_of_ble_eq_true rfl) (fun hPc hDc => k_runV (As := [.int 1, .int v91]) (rest := []) C0 hZ hS hA (s_X10_fail_a0_1_f_bad_0_0 l dC dI cy sq a_this rm 0 v91 x_taped v52 v53 v54 x_fault x_faultPlace x_namePlace x_awayTold x_away x_coded x_statements x_isCrossing 3 x_askSecond x_redMany x_isOpen x_lastGreen x_greenTo x_isCycleGreen x_stillGreen x_rowMany x_fitMany x_fitRules x_fitGreen x_undoable x_newest x_seeded v55 v56 v57 0 x_qPiled x_qAnswer x_qIsNew x_octets v91 (ib_w 0 0 h77 rfl)) mV_X10_308 hPc hDc rfl rfl rfl hl rfl rfl (Nat.le_of_ble_eq_true rfl) ⟨(Nat.le_of_ble_eq_true rfl), (Nat.le_of_ble_eq_true rfl)⟩ ⟨(Nat.le_of_ble_eq_true rfl), (Nat.le_of_ble_eq_true rfl)⟩ dX10_ask_130) (fun u151 H locs hw hP hD hS => ?_)
                              try dsimp only at hP hD hw
                              replace hP : va_P (dC, dI) vwCl [(wi_rm49_0_6_0 rm cy g_codeFrom), (wi_rm50_0_6_0 rm cy g_codeEnd), (wi_rm116_1_1700_1 rm cy g_qPile), (wi_rm51_0_3200_0 rm cy g_codes), (wi_rm46_0_48_0 rm cy g_walkers), (wi_rm56_0_9_0 rm cy g_now), (wi_rm43_0_8_0 rm cy g_bar), (wi_rm65_0_12_0 rm cy g_waits), (wi_rm44_0_24_0 rm cy g_kinds), (wi_rm61_0_300_0 rm cy g_gaps), (wi_rm66_3_12_0 rm cy g_goes), (wi_rm67_3_12_0 rm cy g_harms), (wi_rm60_3_320_0 rm cy g_isCar), (wi_rm63_3_12_0 rm cy g_isHere), (wi_rm64_0_12_0 rm cy g_crosses), (wi_rm68_3_12_0 rm cy g_presses), (wi_rm69_3_300_0 rm cy g_crossedIn), (wi_rm41_0_4_0 rm cy g_many), (wi_rm62_3_300_0 rm cy g_isGreen), (wi_rm91_2_3_0 rm cy g_notAsked), (wi_rm94_2_3_0 rm cy g_allAsked), (wi_rm92_2_3_0 rm cy g_andAsked), (wi_rm93_2_2_0 rm cy g_orAsked), (wi_rm85_2_5_0 rm cy g_firstAsked), (wi_rm86_2_4_0 rm cy g_lastAsked), (wi_rm87_2_5_0 rm cy g_oftenAsked), (wi_rm88_2_5_0 rm cy g_totalAsked), (wi_rm89_2_4_0 rm cy g_mostAsked), (wi_rm90_2_5_0 rm cy g_leastAsked), (wi_rm97_2_6_0 rm cy g_secondAsked), (wi_rm98_2_3_0 rm cy g_dayAsked), (wi_rm99_2_5_0 rm cy g_phaseAsked), (wi_rm100_2_6_0 rm cy g_waitedAsked), (wi_rm101_2_4_0 rm cy g_calmAsked), (wi_rm102_2_4_0 rm cy g_paceAsked), (wi_rm103_2_6_0 rm cy g_trustsAsked), (wi_rm104_2_3_0 rm cy g_gapAsked), (wi_rm105_2_4_0 rm cy g_redsAsked), (wi_rm106_2_6_0 rm cy g_numberAsked), (wi_rm107_2_4_0 rm cy g_wentAsked), (wi_rm108_2_4_0 rm cy g_harmAsked), (wi_rm109_2_4_0 rm cy g_kindofAsked), (wi_rm95_2_3_0 rm cy g_minAsked), (wi_rm112_0_1700_0 rm cy f58), (wi_rm96_2_3_0 rm cy g_maxAsked), (wi_rm110_0_1700_0 rm cy f59), (wi_rm0_0_1600_0 rm cy g_tape), (a_this, .inr (10, mfs rm 0 v91 x_taped v52 1 v91 x_fault x_faultPlace x_namePlace x_awayTold x_away x_coded x_statements x_isCrossing 3 x_askSecond x_redMany x_isOpen x_lastGreen x_greenTo x_isCycleGreen x_stillGreen x_rowMany x_fitMany x_fitRules x_fitGreen x_undoable x_newest x_seeded v55 v56 v57 0 x_qPiled x_qAnswer x_qIsNew x_octets))] H := hP
                              replace hD := k_D hP hD
                              refine lv_aload_n hx hb dX10_ask_133 rfl (lv_at hl 1 rfl) ?_
                              refine lv_aload_n hx hb dX10_ask_134 rfl (lv_at hl 1 rfl) ?_
                              refine k_get C0 fg_X10_279 hP 47 rfl rfl dX10_ask_135 ?_
                              refine k_put C0 fp_X10_411 hP hD hS 47 rfl rfl rfl (Nat.le_of_ble_eq_true rfl) dX10_ask_138 (fun H locs hP hD hS => ?_)
                              replace hP : va_P (dC, dI) vwCl [(wi_rm49_0_6_0 rm cy g_codeFrom), (wi_rm50_0_6_0 rm cy g_codeEnd), (wi_rm116_1_1700_1 rm cy g_qPile), (wi_rm51_0_3200_0 rm cy g_codes), (wi_rm46_0_48_0 rm cy g_walkers), (wi_rm56_0_9_0 rm cy g_now), (wi_rm43_0_8_0 rm cy g_bar), (wi_rm65_0_12_0 rm cy g_waits), (wi_rm44_0_24_0 rm cy g_kinds), (wi_rm61_0_300_0 rm cy g_gaps), (wi_rm66_3_12_0 rm cy g_goes), (wi_rm67_3_12_0 rm cy g_harms), (wi_rm60_3_320_0 rm cy g_isCar), (wi_rm63_3_12_0 rm cy g_isHere), (wi_rm64_0_12_0 rm cy g_crosses), (wi_rm68_3_12_0 rm cy g_presses), (wi_rm69_3_300_0 rm cy g_crossedIn), (wi_rm41_0_4_0 rm cy g_many), (wi_rm62_3_300_0 rm cy g_isGreen), (wi_rm91_2_3_0 rm cy g_notAsked), (wi_rm94_2_3_0 rm cy g_allAsked), (wi_rm92_2_3_0 rm cy g_andAsked), (wi_rm93_2_2_0 rm cy g_orAsked), (wi_rm85_2_5_0 rm cy g_firstAsked), (wi_rm86_2_4_0 rm cy g_lastAsked), (wi_rm87_2_5_0 rm cy g_oftenAsked), (wi_rm88_2_5_0 rm cy g_totalAsked), (wi_rm89_2_4_0 rm cy g_mostAsked), (wi_rm90_2_5_0 rm cy g_leastAsked), (wi_rm97_2_6_0 rm cy g_secondAsked), (wi_rm98_2_3_0 rm cy g_dayAsked), (wi_rm99_2_5_0 rm cy g_phaseAsked), (wi_rm100_2_6_0 rm cy g_waitedAsked), (wi_rm101_2_4_0 rm cy g_calmAsked), (wi_rm102_2_4_0 rm cy g_paceAsked), (wi_rm103_2_6_0 rm cy g_trustsAsked), (wi_rm104_2_3_0 rm cy g_gapAsked), (wi_rm105_2_4_0 rm cy g_redsAsked), (wi_rm106_2_6_0 rm cy g_numberAsked), (wi_rm107_2_4_0 rm cy g_wentAsked), (wi_rm108_2_4_0 rm cy g_harmAsked), (wi_rm109_2_4_0 rm cy g_kindofAsked), (wi_rm95_2_3_0 rm cy g_minAsked), (wi_rm112_0_1700_0 rm cy f58), (wi_rm96_2_3_0 rm cy g_maxAsked), (wi_rm110_0_1700_0 rm cy f59), (wi_rm0_0_1600_0 rm cy g_tape), (a_this, .inr (10, mfs rm 0 v91 x_taped v52 1 v91 1 x_faultPlace x_namePlace x_awayTold x_away x_coded x_statements x_isCrossing 3 x_askSecond x_redMany x_isOpen x_lastGreen x_greenTo x_isCycleGreen x_stillGreen x_rowMany x_fitMany x_fitRules x_fitGreen x_undoable x_newest x_seeded v55 v56 v57 0 x_qPiled x_qAnswer x_qIsNew x_octets))] H := hP
                              replace hD := k_D hP hD
                              refine lv_aload_n hx hb dX10_ask_141 rfl (lv_at hl 1 rfl) ?_
                              refine lv_aload_n hx hb dX10_ask_142 rfl (lv_at hl 1 rfl) ?_
                              refine k_get C0 fg_X10_282 hP 47 rfl rfl dX10_ask_143 ?_
                              refine k_put C0 fp_X10_13 hP hD hS 47 rfl rfl rfl (Nat.le_of_ble_eq_true rfl) dX10_ask_146 (fun H locs hP hD hS => ?_)
                              replace hP : va_P (dC, dI) vwCl [(wi_rm49_0_6_0 rm cy g_codeFrom), (wi_rm50_0_6_0 rm cy g_codeEnd), (wi_rm116_1_1700_1 rm cy g_qPile), (wi_rm51_0_3200_0 rm cy g_codes), (wi_rm46_0_48_0 rm cy g_walkers), (wi_rm56_0_9_0 rm cy g_now), (wi_rm43_0_8_0 rm cy g_bar), (wi_rm65_0_12_0 rm cy g_waits), (wi_rm44_0_24_0 rm cy g_kinds), (wi_rm61_0_300_0 rm cy g_gaps), (wi_rm66_3_12_0 rm cy g_goes), (wi_rm67_3_12_0 rm cy g_harms), (wi_rm60_3_320_0 rm cy g_isCar), (wi_rm63_3_12_0 rm cy g_isHere), (wi_rm64_0_12_0 rm cy g_crosses), (wi_rm68_3_12_0 rm cy g_presses), (wi_rm69_3_300_0 rm cy g_crossedIn), (wi_rm41_0_4_0 rm cy g_many), (wi_rm62_3_300_0 rm cy g_isGreen), (wi_rm91_2_3_0 rm cy g_notAsked), (wi_rm94_2_3_0 rm cy g_allAsked), (wi_rm92_2_3_0 rm cy g_andAsked), (wi_rm93_2_2_0 rm cy g_orAsked), (wi_rm85_2_5_0 rm cy g_firstAsked), (wi_rm86_2_4_0 rm cy g_lastAsked), (wi_rm87_2_5_0 rm cy g_oftenAsked), (wi_rm88_2_5_0 rm cy g_totalAsked), (wi_rm89_2_4_0 rm cy g_mostAsked), (wi_rm90_2_5_0 rm cy g_leastAsked), (wi_rm97_2_6_0 rm cy g_secondAsked), (wi_rm98_2_3_0 rm cy g_dayAsked), (wi_rm99_2_5_0 rm cy g_phaseAsked), (wi_rm100_2_6_0 rm cy g_waitedAsked), (wi_rm101_2_4_0 rm cy g_calmAsked), (wi_rm102_2_4_0 rm cy g_paceAsked), (wi_rm103_2_6_0 rm cy g_trustsAsked), (wi_rm104_2_3_0 rm cy g_gapAsked), (wi_rm105_2_4_0 rm cy g_redsAsked), (wi_rm106_2_6_0 rm cy g_numberAsked), (wi_rm107_2_4_0 rm cy g_wentAsked), (wi_rm108_2_4_0 rm cy g_harmAsked), (wi_rm109_2_4_0 rm cy g_kindofAsked), (wi_rm95_2_3_0 rm cy g_minAsked), (wi_rm112_0_1700_0 rm cy f58), (wi_rm96_2_3_0 rm cy g_maxAsked), (wi_rm110_0_1700_0 rm cy f59), (wi_rm0_0_1600_0 rm cy g_tape), (a_this, .inr (10, mfs rm 0 v91 x_taped v52 1 v91 1 v91 x_namePlace x_awayTold x_away x_coded x_statements x_isCrossing 3 x_askSecond x_redMany x_isOpen x_lastGreen x_greenTo x_isCycleGreen x_stillGreen x_rowMany x_fitMany x_fitRules x_fitGreen x_undoable x_newest x_seeded v55 v56 v57 0 x_qPiled x_qAnswer x_qIsNew x_octets))] H := hP
                              replace hD := k_D hP hD
                              refine lv_aload_n hx hb dX10_ask_149 rfl (lv_at hl 1 rfl) ?_
                              refine k_get C0 fg_X10_279 hP 47 rfl rfl dX10_ask_150 ?_
                              refine lv_if_eq (tgt := 160) hx hb dX10_ask_153 rfl (fun h9 => absurd h9 (by decide)) (fun _ => ?_)
                              refine lv_ldc2 hx hb C0.2.2.2.1 (C0.2.2.2.2.1 _ wd1404) dX10_ask_156 ?_
                              subst hQ; exact k_lret hx hb hr hlk ((v91, x_taped, v52, 1, v91, 1, v91, 3, x_askSecond, x_redMany, x_isOpen, x_lastGreen, x_greenTo, x_isCycleGreen, x_stillGreen, v55, v56, v57, 0, x_qPiled, x_qAnswer, x_qIsNew, f58, f59, g_qPile, g_waits, g_gaps, g_goes, g_harms, g_isCar, g_isHere, g_crosses, g_presses, g_crossedIn, g_isGreen)) hS ⟨ib_w 0 1600 h149 rfl, ib_w 0 1600 h146 rfl, ib_w 0 1 hx_isOpen rfl, ib_w 0 1 hx_isCycleGreen rfl, ib_w 0 1700 h147 rfl, ib_w 0 1700 h88 rfl, ib_w 0 1700 (ib_c 0 0 0 rfl) rfl, ib_w 0 1700 hx_qPiled rfl, ib_w 0 1 hx_qIsNew rfl, hg_gaps, (hO.symm.trans (by try simp only [show ((-1000000000000000) : Int64).toInt = (-1000000000000000 : Int) from rfl]; try simp only [show (1 : Int32).toInt = (1 : Int) from rfl]; try simp only [show (3 : Int32).toInt = (3 : Int) from rfl]; try simp only [show (0 : Int32).toInt = (0 : Int) from rfl]; exact hq))⟩ (hP.sub [47, 46, 23, 24, 25, 26, 27, 28, 29, 30, 31, 32, 33, 34, 35, 36, 37, 38, 39, 40, 41, 42, 43, 44, 45, 0, 1, 2, 3, 4, 5, 6, 7, 8, 9, 10, 11, 12, 13, 14, 15, 16, 17, 18, 19, 20, 21, 22] rfl) (hD.sub [47, 46, 23, 24, 25, 26, 27, 28, 29, 30, 31, 32, 33, 34, 35, 36, 37, 38, 39, 40, 41, 42, 43, 44, 45, 0, 1, 2, 3, 4, 5, 6, 7, 8, 9, 10, 11, 12, 13, 14, 15, 16, 17, 18, 19, 20, 21, 22] (by decide +kernel) rfl) (Nat.le_of_ble_eq_true rfl) (Nat.le_of_ble_eq_true rfl) dX10_ask_159
              · as_aux_lemma =>
                  replace hq := lf_neg hq (lf_nle (lf_lc 3 (3 : Int) rfl) (lf_rf r27) c44)
                  have h152 := ib_nle (ib_c 3 3 3 rfl) h34 c44
                  have h153 : ib r27 0 2 := ib_w 0 2 h152.2 rfl
                  refine lv_aload_n hx hb dX10_ask_91 rfl (lv_at hl 1 rfl) ?_
                  refine k_jvm hP hD hS hA [40, 41, 36, 37, 0, 1, 2, 3, 4, 5, 6, 7, 8, 9, 10, 11, 12, 13, 14, 15, 16, 38, 39] [false, false, false, false, false, false, false, false, false, false, false, false, false, false, false, false, false, true, true, true, true, true, true, true, true, true, true, true, true, true, true, true, true, true, true, true, false, false, false, false, false, false, true, true, true, true, true, true] rfl rfl (by decide +kernel) 0 0 (Nat.le_of_ble_eq_true rfl) (Nat.le_of_ble_eq_true rfl) (fun hPc hDc => k_runV (As := []) (rest := []) C0 hZ hS hA (s_X10_qTest l dC dI cy sq a_this rm 0 v29 x_taped v30 v31 v32 x_fault x_faultPlace x_namePlace x_awayTold x_away x_coded x_statements x_isCrossing 3 x_askSecond x_redMany x_isOpen x_lastGreen x_greenTo x_isCycleGreen x_stillGreen x_rowMany x_fitMany x_fitRules x_fitGreen x_undoable x_newest x_seeded 0 0 0 0 x_qPiled x_qAnswer x_qIsNew x_octets g_tape g_notAsked g_andAsked g_orAsked g_allAsked g_minAsked g_maxAsked g_secondAsked g_dayAsked g_phaseAsked g_waitedAsked g_calmAsked g_paceAsked g_trustsAsked g_gapAsked g_redsAsked g_numberAsked g_wentAsked g_harmAsked g_kindofAsked g_qCodes g_qWait 0 (ib_w 0 1600 h33 rfl) (ib_w 0 1600 hx_taped rfl) (ib_w 0 0 h43 rfl) (ib_w 0 1700 (ib_c 0 0 0 rfl) rfl) (ib_w 0 1700 (ib_c 0 0 0 rfl) rfl) hg_tape (by have : (0 : Int32).toInt = 0 := rfl; have := (h33).1; omega) (fun q => (h26 (h35 q)))) mV_X10_384 hPc hDc rfl rfl rfl hl rfl rfl (Nat.le_of_ble_eq_true rfl) ⟨(Nat.le_of_ble_eq_true rfl), (Nat.le_of_ble_eq_true rfl)⟩ ⟨(Nat.le_of_ble_eq_true rfl), (Nat.le_of_ble_eq_true rfl)⟩ dX10_ask_92) (fun u155 H locs hw hP hD hS => ?_)
                  obtain ⟨v156, v157, v158, v159, v160, v161, v162, f163, f164⟩ := u155
                  try dsimp only at hP hD hw
                  replace hP : va_P (dC, dI) vwCl [(wi_rm49_0_6_0 rm cy g_codeFrom), (wi_rm50_0_6_0 rm cy g_codeEnd), (wi_rm116_1_1700_1 rm cy g_qPile), (wi_rm51_0_3200_0 rm cy g_codes), (wi_rm46_0_48_0 rm cy g_walkers), (wi_rm56_0_9_0 rm cy g_now), (wi_rm43_0_8_0 rm cy g_bar), (wi_rm65_0_12_0 rm cy g_waits), (wi_rm44_0_24_0 rm cy g_kinds), (wi_rm61_0_300_0 rm cy g_gaps), (wi_rm66_3_12_0 rm cy g_goes), (wi_rm67_3_12_0 rm cy g_harms), (wi_rm60_3_320_0 rm cy g_isCar), (wi_rm63_3_12_0 rm cy g_isHere), (wi_rm64_0_12_0 rm cy g_crosses), (wi_rm68_3_12_0 rm cy g_presses), (wi_rm69_3_300_0 rm cy g_crossedIn), (wi_rm41_0_4_0 rm cy g_many), (wi_rm62_3_300_0 rm cy g_isGreen), (wi_rm85_2_5_0 rm cy g_firstAsked), (wi_rm86_2_4_0 rm cy g_lastAsked), (wi_rm87_2_5_0 rm cy g_oftenAsked), (wi_rm88_2_5_0 rm cy g_totalAsked), (wi_rm89_2_4_0 rm cy g_mostAsked), (wi_rm90_2_5_0 rm cy g_leastAsked), (a_this, .inr (10, mfs rm 0 v156 x_taped v157 v158 v159 x_fault x_faultPlace x_namePlace x_awayTold x_away x_coded x_statements x_isCrossing 3 x_askSecond x_redMany x_isOpen x_lastGreen x_greenTo x_isCycleGreen x_stillGreen x_rowMany x_fitMany x_fitRules x_fitGreen x_undoable x_newest x_seeded v160 v161 v162 0 x_qPiled x_qAnswer x_qIsNew x_octets)), (wi_rm0_0_1600_0 rm cy g_tape), (wi_rm91_2_3_0 rm cy g_notAsked), (wi_rm94_2_3_0 rm cy g_allAsked), (wi_rm97_2_6_0 rm cy g_secondAsked), (wi_rm98_2_3_0 rm cy g_dayAsked), (wi_rm99_2_5_0 rm cy g_phaseAsked), (wi_rm100_2_6_0 rm cy g_waitedAsked), (wi_rm101_2_4_0 rm cy g_calmAsked), (wi_rm102_2_4_0 rm cy g_paceAsked), (wi_rm103_2_6_0 rm cy g_trustsAsked), (wi_rm104_2_3_0 rm cy g_gapAsked), (wi_rm105_2_4_0 rm cy g_redsAsked), (wi_rm106_2_6_0 rm cy g_numberAsked), (wi_rm107_2_4_0 rm cy g_wentAsked), (wi_rm108_2_4_0 rm cy g_harmAsked), (wi_rm109_2_4_0 rm cy g_kindofAsked), (wi_rm95_2_3_0 rm cy g_minAsked), (wi_rm112_0_1700_0 rm cy f163), (wi_rm96_2_3_0 rm cy g_maxAsked), (wi_rm110_0_1700_0 rm cy f164), (wi_rm92_2_3_0 rm cy g_andAsked), (wi_rm93_2_2_0 rm cy g_orAsked)] H := hP
                  replace hD := k_D hP hD
                  obtain ⟨h165, h166, h167, h168, h169, h170, h171, h172, h173, h174⟩ := hw
                  have h174 := by have h9 := h174; try simp only [show (3 : Int32).toInt = (3 : Int) from rfl] at h9; try simp only [show (0 : Int32).toInt = (0 : Int) from rfl] at h9; exact h9
                  replace hq := lf_p1 hq h174
                  replace hq := lf_p1 hq rfl
                  replace hq := lf_p1 hq rfl
                  replace hq := lf_p1 hq rfl
                  replace hq := lf_p1 hq rfl
                  replace hq := lf_p1 hq rfl
                  replace hq := lf_p1 hq rfl
                  replace hq := lf_p1 hq rfl
                  refine lv_goto (tgt := 109) hx hb dX10_ask_95 rfl ?_
                  refine lv_aload_n hx hb dX10_ask_109 rfl (lv_at hl 1 rfl) ?_
                  refine k_get C0 fg_X10_279 hP 25 rfl rfl dX10_ask_110 ?_
                  refine lv_if_ne (tgt := 133) hx hb dX10_ask_113 rfl (fun c175 => ?_) (fun c175 => ?_)
                  · as_aux_lemma =>
                      replace hq := lf_neg hq (lf_ne (lf_rf v158) (lf_lc 0 (0 : Int) rfl) c175)
                      have h176 : ib v160 0 1605 := ⟨(h166).1, by have := (h166).2; have := h169; have : (0 : Int32).toInt = 0 := rfl; have := (h33).1; have := (h165).2; have := (h167).1; omega⟩
                      have h177 : ib v161 0 1605 := ⟨(h167).1, by have := (h167).2; have := h169; have : (0 : Int32).toInt = 0 := rfl; have := (h33).1; have := (h165).2; have := (h176).1; omega⟩
                      refine lv_aload_n hx hb dX10_ask_133 rfl (lv_at hl 1 rfl) ?_
                      refine lv_aload_n hx hb dX10_ask_134 rfl (lv_at hl 1 rfl) ?_
                      refine k_get C0 fg_X10_279 hP 25 rfl rfl dX10_ask_135 ?_
                      refine k_put C0 fp_X10_411 hP hD hS 25 rfl rfl rfl (Nat.le_of_ble_eq_true rfl) dX10_ask_138 (fun H locs hP hD hS => ?_)
                      replace hP : va_P (dC, dI) vwCl [(wi_rm49_0_6_0 rm cy g_codeFrom), (wi_rm50_0_6_0 rm cy g_codeEnd), (wi_rm116_1_1700_1 rm cy g_qPile), (wi_rm51_0_3200_0 rm cy g_codes), (wi_rm46_0_48_0 rm cy g_walkers), (wi_rm56_0_9_0 rm cy g_now), (wi_rm43_0_8_0 rm cy g_bar), (wi_rm65_0_12_0 rm cy g_waits), (wi_rm44_0_24_0 rm cy g_kinds), (wi_rm61_0_300_0 rm cy g_gaps), (wi_rm66_3_12_0 rm cy g_goes), (wi_rm67_3_12_0 rm cy g_harms), (wi_rm60_3_320_0 rm cy g_isCar), (wi_rm63_3_12_0 rm cy g_isHere), (wi_rm64_0_12_0 rm cy g_crosses), (wi_rm68_3_12_0 rm cy g_presses), (wi_rm69_3_300_0 rm cy g_crossedIn), (wi_rm41_0_4_0 rm cy g_many), (wi_rm62_3_300_0 rm cy g_isGreen), (wi_rm85_2_5_0 rm cy g_firstAsked), (wi_rm86_2_4_0 rm cy g_lastAsked), (wi_rm87_2_5_0 rm cy g_oftenAsked), (wi_rm88_2_5_0 rm cy g_totalAsked), (wi_rm89_2_4_0 rm cy g_mostAsked), (wi_rm90_2_5_0 rm cy g_leastAsked), (a_this, .inr (10, mfs rm 0 v156 x_taped v157 v158 v159 v158 x_faultPlace x_namePlace x_awayTold x_away x_coded x_statements x_isCrossing 3 x_askSecond x_redMany x_isOpen x_lastGreen x_greenTo x_isCycleGreen x_stillGreen x_rowMany x_fitMany x_fitRules x_fitGreen x_undoable x_newest x_seeded v160 v161 v162 0 x_qPiled x_qAnswer x_qIsNew x_octets)), (wi_rm0_0_1600_0 rm cy g_tape), (wi_rm91_2_3_0 rm cy g_notAsked), (wi_rm94_2_3_0 rm cy g_allAsked), (wi_rm97_2_6_0 rm cy g_secondAsked), (wi_rm98_2_3_0 rm cy g_dayAsked), (wi_rm99_2_5_0 rm cy g_phaseAsked), (wi_rm100_2_6_0 rm cy g_waitedAsked), (wi_rm101_2_4_0 rm cy g_calmAsked), (wi_rm102_2_4_0 rm cy g_paceAsked), (wi_rm103_2_6_0 rm cy g_trustsAsked), (wi_rm104_2_3_0 rm cy g_gapAsked), (wi_rm105_2_4_0 rm cy g_redsAsked), (wi_rm106_2_6_0 rm cy g_numberAsked), (wi_rm107_2_4_0 rm cy g_wentAsked), (wi_rm108_2_4_0 rm cy g_harmAsked), (wi_rm109_2_4_0 rm cy g_kindofAsked), (wi_rm95_2_3_0 rm cy g_minAsked), (wi_rm112_0_1700_0 rm cy f163), (wi_rm96_2_3_0 rm cy g_maxAsked), (wi_rm110_0_1700_0 rm cy f164), (wi_rm92_2_3_0 rm cy g_andAsked), (wi_rm93_2_2_0 rm cy g_orAsked)] H := hP
                      replace hD := k_D hP hD
                      refine lv_aload_n hx hb dX10_ask_141 rfl (lv_at hl 1 rfl) ?_
                      refine lv_aload_n hx hb dX10_ask_142 rfl (lv_at hl 1 rfl) ?_
                      refine k_get C0 fg_X10_282 hP 25 rfl rfl dX10_ask_143 ?_
                      refine k_put C0 fp_X10_13 hP hD hS 25 rfl rfl rfl (Nat.le_of_ble_eq_true rfl) dX10_ask_146 (fun H locs hP hD hS => ?_)
                      replace hP : va_P (dC, dI) vwCl [(wi_rm49_0_6_0 rm cy g_codeFrom), (wi_rm50_0_6_0 rm cy g_codeEnd), (wi_rm116_1_1700_1 rm cy g_qPile), (wi_rm51_0_3200_0 rm cy g_codes), (wi_rm46_0_48_0 rm cy g_walkers), (wi_rm56_0_9_0 rm cy g_now), (wi_rm43_0_8_0 rm cy g_bar), (wi_rm65_0_12_0 rm cy g_waits), (wi_rm44_0_24_0 rm cy g_kinds), (wi_rm61_0_300_0 rm cy g_gaps), (wi_rm66_3_12_0 rm cy g_goes), (wi_rm67_3_12_0 rm cy g_harms), (wi_rm60_3_320_0 rm cy g_isCar), (wi_rm63_3_12_0 rm cy g_isHere), (wi_rm64_0_12_0 rm cy g_crosses), (wi_rm68_3_12_0 rm cy g_presses), (wi_rm69_3_300_0 rm cy g_crossedIn), (wi_rm41_0_4_0 rm cy g_many), (wi_rm62_3_300_0 rm cy g_isGreen), (wi_rm85_2_5_0 rm cy g_firstAsked), (wi_rm86_2_4_0 rm cy g_lastAsked), (wi_rm87_2_5_0 rm cy g_oftenAsked), (wi_rm88_2_5_0 rm cy g_totalAsked), (wi_rm89_2_4_0 rm cy g_mostAsked), (wi_rm90_2_5_0 rm cy g_leastAsked), (a_this, .inr (10, mfs rm 0 v156 x_taped v157 v158 v159 v158 v159 x_namePlace x_awayTold x_away x_coded x_statements x_isCrossing 3 x_askSecond x_redMany x_isOpen x_lastGreen x_greenTo x_isCycleGreen x_stillGreen x_rowMany x_fitMany x_fitRules x_fitGreen x_undoable x_newest x_seeded v160 v161 v162 0 x_qPiled x_qAnswer x_qIsNew x_octets)), (wi_rm0_0_1600_0 rm cy g_tape), (wi_rm91_2_3_0 rm cy g_notAsked), (wi_rm94_2_3_0 rm cy g_allAsked), (wi_rm97_2_6_0 rm cy g_secondAsked), (wi_rm98_2_3_0 rm cy g_dayAsked), (wi_rm99_2_5_0 rm cy g_phaseAsked), (wi_rm100_2_6_0 rm cy g_waitedAsked), (wi_rm101_2_4_0 rm cy g_calmAsked), (wi_rm102_2_4_0 rm cy g_paceAsked), (wi_rm103_2_6_0 rm cy g_trustsAsked), (wi_rm104_2_3_0 rm cy g_gapAsked), (wi_rm105_2_4_0 rm cy g_redsAsked), (wi_rm106_2_6_0 rm cy g_numberAsked), (wi_rm107_2_4_0 rm cy g_wentAsked), (wi_rm108_2_4_0 rm cy g_harmAsked), (wi_rm109_2_4_0 rm cy g_kindofAsked), (wi_rm95_2_3_0 rm cy g_minAsked), (wi_rm112_0_1700_0 rm cy f163), (wi_rm96_2_3_0 rm cy g_maxAsked), (wi_rm110_0_1700_0 rm cy f164), (wi_rm92_2_3_0 rm cy g_andAsked), (wi_rm93_2_2_0 rm cy g_orAsked)] H := hP
                      replace hD := k_D hP hD
                      refine lv_aload_n hx hb dX10_ask_149 rfl (lv_at hl 1 rfl) ?_
                      refine k_get C0 fg_X10_279 hP 25 rfl rfl dX10_ask_150 ?_
                      refine lv_if_eq (tgt := 160) hx hb dX10_ask_153 rfl (fun c178 => ?_) (fun c178 => ?_)
                      · skip
                        exact absurd c178 c175
                      · skip
                        refine lv_ldc2 hx hb C0.2.2.2.1 (C0.2.2.2.2.1 _ wd1404) dX10_ask_156 ?_
                        subst hQ; exact k_lret hx hb hr hlk ((v156, x_taped, v157, v158, v159, v158, v159, 3, x_askSecond, x_redMany, x_isOpen, x_lastGreen, x_greenTo, x_isCycleGreen, x_stillGreen, v160, v161, v162, 0, x_qPiled, x_qAnswer, x_qIsNew, f163, f164, g_qPile, g_waits, g_gaps, g_goes, g_harms, g_isCar, g_isHere, g_crosses, g_presses, g_crossedIn, g_isGreen)) hS ⟨ib_w 0 1600 h165 rfl, ib_w 0 1600 hx_taped rfl, ib_w 0 1 hx_isOpen rfl, ib_w 0 1 hx_isCycleGreen rfl, ib_w 0 1700 h176 rfl, ib_w 0 1700 h177 rfl, ib_w 0 1700 (ib_c 0 0 0 rfl) rfl, ib_w 0 1700 hx_qPiled rfl, ib_w 0 1 hx_qIsNew rfl, hg_gaps, (hO.symm.trans (by try simp only [show ((-1000000000000000) : Int64).toInt = (-1000000000000000 : Int) from rfl]; try simp only [show (3 : Int32).toInt = (3 : Int) from rfl]; try simp only [show (0 : Int32).toInt = (0 : Int) from rfl]; exact hq))⟩ (hP.sub [25, 26, 19, 20, 21, 22, 23, 24, 29, 30, 31, 32, 33, 34, 35, 36, 37, 38, 39, 40, 41, 42, 43, 44, 45, 0, 1, 2, 3, 4, 5, 6, 7, 8, 9, 10, 11, 12, 13, 14, 15, 16, 17, 18, 27, 28, 46, 47] rfl) (hD.sub [25, 26, 19, 20, 21, 22, 23, 24, 29, 30, 31, 32, 33, 34, 35, 36, 37, 38, 39, 40, 41, 42, 43, 44, 45, 0, 1, 2, 3, 4, 5, 6, 7, 8, 9, 10, 11, 12, 13, 14, 15, 16, 17, 18, 27, 28, 46, 47] (by decide +kernel) rfl) (Nat.le_of_ble_eq_true rfl) (Nat.le_of_ble_eq_true rfl) dX10_ask_159
                  · as_aux_lemma =>
                      replace hq := lf_pos hq (lf_eq (lf_rf v158) (lf_lc 0 (0 : Int) rfl) c175)
                      have h179 := ib_eq (ib_any v158) (ib_c 0 0 0 rfl) c175
                      have h180 : ib v158 0 0 := ib_w 0 0 h179.1 rfl
                      have h181 : ib v160 0 1605 := ⟨(h166).1, by have := (h166).2; have := h169; have : (0 : Int32).toInt = 0 := rfl; have := (h33).1; have := (h165).2; have := (h167).1; omega⟩
                      have h182 : ib v161 0 1605 := ⟨(h167).1, by have := (h167).2; have := h169; have : (0 : Int32).toInt = 0 := rfl; have := (h33).1; have := (h165).2; have := (h181).1; omega⟩
                      have h183 := h170 (ib_one h180 rfl)
                      have h184 := h172 (ib_one h180 rfl)
                      have h185 : ib v160 0 1600 := ⟨(h181).1, by have := (h181).2; have := h183; have : (0 : Int32).toInt = 0 := rfl; have := (h33).1; have := (h165).2; have := (h182).1; omega⟩
                      have h186 : ib v161 0 1600 := ⟨(h182).1, by have := h184; omega⟩
                      have h187 : ib v161 0 0 := ⟨(h186).1, by have := h184; omega⟩
                      refine lv_aload_n hx hb dX10_ask_116 rfl (lv_at hl 1 rfl) ?_
                      refine k_jim hP hD hS hA [25, 26] [true, true, true, true, true, true, true, true, true, true, true, true, true, true, true, true, true, true, true, true, true, true, true, true, true, false, false, true, true, true, true, true, true, true, true, true, true, true, true, true, true, true, true, true, true, true, true, true] rfl rfl (by decide +kernel) 0 0 (Nat.le_of_ble_eq_true rfl) (Nat.le_of_ble_eq_true rfl) (fun hPc hDc => k_runV (As := []) (rest := []) C0 hZ hS hA (s_X10_look l dC dI cy sq a_this rm 0 v156 x_taped v157 v158 v159 x_fault x_faultPlace x_namePlace x_awayTold x_away x_coded x_statements x_isCrossing 3 x_askSecond x_redMany x_isOpen x_lastGreen x_greenTo x_isCycleGreen x_stillGreen x_rowMany x_fitMany x_fitRules x_fitGreen x_undoable x_newest x_seeded v160 v161 v162 0 x_qPiled x_qAnswer x_qIsNew x_octets g_tape (ib_w 0 1600 h165 rfl) (ib_w 0 1600 hx_taped rfl) hg_tape) mV_X10_291 hPc hDc rfl rfl rfl hl rfl rfl (Nat.le_of_ble_eq_true rfl) ⟨(Nat.le_of_ble_eq_true rfl), (Nat.le_of_ble_eq_true rfl)⟩ ⟨(Nat.le_of_ble_eq_true rfl), (Nat.le_of_ble_eq_true rfl)⟩ dX10_ask_117) (fun r188 u189 H locs hw hP hD hS => ?_)
                      obtain ⟨v190, ev190⟩ : ∃ z, z = u189 := ⟨_, rfl⟩; subst ev190
                      try dsimp only at hP hD hw
                      replace hP : va_P (dC, dI) vwCl [(wi_rm49_0_6_0 rm cy g_codeFrom), (wi_rm50_0_6_0 rm cy g_codeEnd), (wi_rm116_1_1700_1 rm cy g_qPile), (wi_rm51_0_3200_0 rm cy g_codes), (wi_rm46_0_48_0 rm cy g_walkers), (wi_rm56_0_9_0 rm cy g_now), (wi_rm43_0_8_0 rm cy g_bar), (wi_rm65_0_12_0 rm cy g_waits), (wi_rm44_0_24_0 rm cy g_kinds), (wi_rm61_0_300_0 rm cy g_gaps), (wi_rm66_3_12_0 rm cy g_goes), (wi_rm67_3_12_0 rm cy g_harms), (wi_rm60_3_320_0 rm cy g_isCar), (wi_rm63_3_12_0 rm cy g_isHere), (wi_rm64_0_12_0 rm cy g_crosses), (wi_rm68_3_12_0 rm cy g_presses), (wi_rm69_3_300_0 rm cy g_crossedIn), (wi_rm41_0_4_0 rm cy g_many), (wi_rm62_3_300_0 rm cy g_isGreen), (wi_rm85_2_5_0 rm cy g_firstAsked), (wi_rm86_2_4_0 rm cy g_lastAsked), (wi_rm87_2_5_0 rm cy g_oftenAsked), (wi_rm88_2_5_0 rm cy g_totalAsked), (wi_rm89_2_4_0 rm cy g_mostAsked), (wi_rm90_2_5_0 rm cy g_leastAsked), (wi_rm91_2_3_0 rm cy g_notAsked), (wi_rm94_2_3_0 rm cy g_allAsked), (wi_rm97_2_6_0 rm cy g_secondAsked), (wi_rm98_2_3_0 rm cy g_dayAsked), (wi_rm99_2_5_0 rm cy g_phaseAsked), (wi_rm100_2_6_0 rm cy g_waitedAsked), (wi_rm101_2_4_0 rm cy g_calmAsked), (wi_rm102_2_4_0 rm cy g_paceAsked), (wi_rm103_2_6_0 rm cy g_trustsAsked), (wi_rm104_2_3_0 rm cy g_gapAsked), (wi_rm105_2_4_0 rm cy g_redsAsked), (wi_rm106_2_6_0 rm cy g_numberAsked), (wi_rm107_2_4_0 rm cy g_wentAsked), (wi_rm108_2_4_0 rm cy g_harmAsked), (wi_rm109_2_4_0 rm cy g_kindofAsked), (wi_rm95_2_3_0 rm cy g_minAsked), (wi_rm112_0_1700_0 rm cy f163), (wi_rm96_2_3_0 rm cy g_maxAsked), (wi_rm110_0_1700_0 rm cy f164), (wi_rm92_2_3_0 rm cy g_andAsked), (wi_rm93_2_2_0 rm cy g_orAsked), (a_this, .inr (10, mfs rm 0 v190 x_taped v157 v158 v159 x_fault x_faultPlace x_namePlace x_awayTold x_away x_coded x_statements x_isCrossing 3 x_askSecond x_redMany x_isOpen x_lastGreen x_greenTo x_isCycleGreen x_stillGreen x_rowMany x_fitMany x_fitRules x_fitGreen x_undoable x_newest x_seeded v160 v161 v162 0 x_qPiled x_qAnswer x_qIsNew x_octets)), (wi_rm0_0_1600_0 rm cy g_tape)] H := hP
                      replace hD := k_D hP hD
                      obtain ⟨h191, h192, h193, h194, h195, h196, h197, h198, h199, h200⟩ := hw
                      replace hq := lf_p1 hq h200
                      refine lv_iconst (v := (-1)) hx hb dX10_ask_120 rfl ?_
                      refine lv_icmp_eq (tgt := 133) hx hb dX10_ask_121 rfl (fun c201 => ?_) (fun c201 => ?_)
                      · as_aux_lemma =>
                          replace hq := lf_pos hq (lf_eq (lf_rf r188) (lf_lc (-1) (-1 : Int) rfl) c201)
                          have h202 := ib_eq h192 (ib_c (-1) (-1) (-1) rfl) c201
                          have h203 : ib r188 (-1) (-1) := ib_w (-1) (-1) h202.1 rfl
                          refine lv_aload_n hx hb dX10_ask_133 rfl (lv_at hl 1 rfl) ?_
                          refine lv_aload_n hx hb dX10_ask_134 rfl (lv_at hl 1 rfl) ?_
                          refine k_get C0 fg_X10_279 hP 46 rfl rfl dX10_ask_135 ?_
                          refine k_put C0 fp_X10_411 hP hD hS 46 rfl rfl rfl (Nat.le_of_ble_eq_true rfl) dX10_ask_138 (fun H locs hP hD hS => ?_)
                          replace hP : va_P (dC, dI) vwCl [(wi_rm49_0_6_0 rm cy g_codeFrom), (wi_rm50_0_6_0 rm cy g_codeEnd), (wi_rm116_1_1700_1 rm cy g_qPile), (wi_rm51_0_3200_0 rm cy g_codes), (wi_rm46_0_48_0 rm cy g_walkers), (wi_rm56_0_9_0 rm cy g_now), (wi_rm43_0_8_0 rm cy g_bar), (wi_rm65_0_12_0 rm cy g_waits), (wi_rm44_0_24_0 rm cy g_kinds), (wi_rm61_0_300_0 rm cy g_gaps), (wi_rm66_3_12_0 rm cy g_goes), (wi_rm67_3_12_0 rm cy g_harms), (wi_rm60_3_320_0 rm cy g_isCar), (wi_rm63_3_12_0 rm cy g_isHere), (wi_rm64_0_12_0 rm cy g_crosses), (wi_rm68_3_12_0 rm cy g_presses), (wi_rm69_3_300_0 rm cy g_crossedIn), (wi_rm41_0_4_0 rm cy g_many), (wi_rm62_3_300_0 rm cy g_isGreen), (wi_rm85_2_5_0 rm cy g_firstAsked), (wi_rm86_2_4_0 rm cy g_lastAsked), (wi_rm87_2_5_0 rm cy g_oftenAsked), (wi_rm88_2_5_0 rm cy g_totalAsked), (wi_rm89_2_4_0 rm cy g_mostAsked), (wi_rm90_2_5_0 rm cy g_leastAsked), (wi_rm91_2_3_0 rm cy g_notAsked), (wi_rm94_2_3_0 rm cy g_allAsked), (wi_rm97_2_6_0 rm cy g_secondAsked), (wi_rm98_2_3_0 rm cy g_dayAsked), (wi_rm99_2_5_0 rm cy g_phaseAsked), (wi_rm100_2_6_0 rm cy g_waitedAsked), (wi_rm101_2_4_0 rm cy g_calmAsked), (wi_rm102_2_4_0 rm cy g_paceAsked), (wi_rm103_2_6_0 rm cy g_trustsAsked), (wi_rm104_2_3_0 rm cy g_gapAsked), (wi_rm105_2_4_0 rm cy g_redsAsked), (wi_rm106_2_6_0 rm cy g_numberAsked), (wi_rm107_2_4_0 rm cy g_wentAsked), (wi_rm108_2_4_0 rm cy g_harmAsked), (wi_rm109_2_4_0 rm cy g_kindofAsked), (wi_rm95_2_3_0 rm cy g_minAsked), (wi_rm112_0_1700_0 rm cy f163), (wi_rm96_2_3_0 rm cy g_maxAsked), (wi_rm110_0_1700_0 rm cy f164), (wi_rm92_2_3_0 rm cy g_andAsked), (wi_rm93_2_2_0 rm cy g_orAsked), (a_this, .inr (10, mfs rm 0 v190 x_taped v157 v158 v159 v158 x_faultPlace x_namePlace x_awayTold x_away x_coded x_statements x_isCrossing 3 x_askSecond x_redMany x_isOpen x_lastGreen x_greenTo x_isCycleGreen x_stillGreen x_rowMany x_fitMany x_fitRules x_fitGreen x_undoable x_newest x_seeded v160 v161 v162 0 x_qPiled x_qAnswer x_qIsNew x_octets)), (wi_rm0_0_1600_0 rm cy g_tape)] H := hP
                          replace hD := k_D hP hD
                          refine lv_aload_n hx hb dX10_ask_141 rfl (lv_at hl 1 rfl) ?_
                          refine lv_aload_n hx hb dX10_ask_142 rfl (lv_at hl 1 rfl) ?_
                          refine k_get C0 fg_X10_282 hP 46 rfl rfl dX10_ask_143 ?_
                          refine k_put C0 fp_X10_13 hP hD hS 46 rfl rfl rfl (Nat.le_of_ble_eq_true rfl) dX10_ask_146 (fun H locs hP hD hS => ?_)
                          replace hP : va_P (dC, dI) vwCl [(wi_rm49_0_6_0 rm cy g_codeFrom), (wi_rm50_0_6_0 rm cy g_codeEnd), (wi_rm116_1_1700_1 rm cy g_qPile), (wi_rm51_0_3200_0 rm cy g_codes), (wi_rm46_0_48_0 rm cy g_walkers), (wi_rm56_0_9_0 rm cy g_now), (wi_rm43_0_8_0 rm cy g_bar), (wi_rm65_0_12_0 rm cy g_waits), (wi_rm44_0_24_0 rm cy g_kinds), (wi_rm61_0_300_0 rm cy g_gaps), (wi_rm66_3_12_0 rm cy g_goes), (wi_rm67_3_12_0 rm cy g_harms), (wi_rm60_3_320_0 rm cy g_isCar), (wi_rm63_3_12_0 rm cy g_isHere), (wi_rm64_0_12_0 rm cy g_crosses), (wi_rm68_3_12_0 rm cy g_presses), (wi_rm69_3_300_0 rm cy g_crossedIn), (wi_rm41_0_4_0 rm cy g_many), (wi_rm62_3_300_0 rm cy g_isGreen), (wi_rm85_2_5_0 rm cy g_firstAsked), (wi_rm86_2_4_0 rm cy g_lastAsked), (wi_rm87_2_5_0 rm cy g_oftenAsked), (wi_rm88_2_5_0 rm cy g_totalAsked), (wi_rm89_2_4_0 rm cy g_mostAsked), (wi_rm90_2_5_0 rm cy g_leastAsked), (wi_rm91_2_3_0 rm cy g_notAsked), (wi_rm94_2_3_0 rm cy g_allAsked), (wi_rm97_2_6_0 rm cy g_secondAsked), (wi_rm98_2_3_0 rm cy g_dayAsked), (wi_rm99_2_5_0 rm cy g_phaseAsked), (wi_rm100_2_6_0 rm cy g_waitedAsked), (wi_rm101_2_4_0 rm cy g_calmAsked), (wi_rm102_2_4_0 rm cy g_paceAsked), (wi_rm103_2_6_0 rm cy g_trustsAsked), (wi_rm104_2_3_0 rm cy g_gapAsked), (wi_rm105_2_4_0 rm cy g_redsAsked), (wi_rm106_2_6_0 rm cy g_numberAsked), (wi_rm107_2_4_0 rm cy g_wentAsked), (wi_rm108_2_4_0 rm cy g_harmAsked), (wi_rm109_2_4_0 rm cy g_kindofAsked), (wi_rm95_2_3_0 rm cy g_minAsked), (wi_rm112_0_1700_0 rm cy f163), (wi_rm96_2_3_0 rm cy g_maxAsked), (wi_rm110_0_1700_0 rm cy f164), (wi_rm92_2_3_0 rm cy g_andAsked), (wi_rm93_2_2_0 rm cy g_orAsked), (a_this, .inr (10, mfs rm 0 v190 x_taped v157 v158 v159 v158 v159 x_namePlace x_awayTold x_away x_coded x_statements x_isCrossing 3 x_askSecond x_redMany x_isOpen x_lastGreen x_greenTo x_isCycleGreen x_stillGreen x_rowMany x_fitMany x_fitRules x_fitGreen x_undoable x_newest x_seeded v160 v161 v162 0 x_qPiled x_qAnswer x_qIsNew x_octets)), (wi_rm0_0_1600_0 rm cy g_tape)] H := hP
                          replace hD := k_D hP hD
                          refine lv_aload_n hx hb dX10_ask_149 rfl (lv_at hl 1 rfl) ?_
                          refine k_get C0 fg_X10_279 hP 46 rfl rfl dX10_ask_150 ?_
                          refine lv_if_eq (tgt := 160) hx hb dX10_ask_153 rfl (fun c204 => ?_) (fun c204 => ?_)
                          · as_aux_lemma =>
                              skip
                              have h205 := ib_eq h180 (ib_c 0 0 0 rfl) c204
                              have h206 := h170 (ib_one h180 rfl)
                              have h207 := h172 (ib_one h180 rfl)
                              have h208 : okc f164 0 false 0 v160 := okc_GS (h173 (ib_one h180 rfl)) (by decide)
                              refine lv_aload_n hx hb dX10_ask_160 rfl (lv_at hl 1 rfl) ?_
                              refine lv_iload_n hx hb dX10_ask_161 rfl (lv_at hl 0 rfl) ?_
                              refine lv_iconst (v := 2) hx hb dX10_ask_162 rfl ?_
                              refine lv_icmp_ge (tgt := 172) hx hb dX10_ask_163 rfl (fun c209 => ?_) (fun c209 => ?_)
                              · as_aux_lemma =>
                                  replace hq := lf_pos hq (lf_le (lf_lc 2 (2 : Int) rfl) (lf_rf r27) c209)
                                  have h210 := ib_le (ib_c 2 2 2 rfl) h153 c209
                                  have h211 : ib r27 2 2 := ib_w 2 2 h210.2 rfl
                                  refine lv_lconst (v := 0) hx hb dX10_ask_172 (by decide) ?_
                                  refine k_put C0 fp_X10_678 hP hD hS 46 rfl rfl rfl (Nat.le_of_ble_eq_true rfl) dX10_ask_173 (fun H locs hP hD hS => ?_)
                                  replace hP : va_P (dC, dI) vwCl [(wi_rm49_0_6_0 rm cy g_codeFrom), (wi_rm50_0_6_0 rm cy g_codeEnd), (wi_rm116_1_1700_1 rm cy g_qPile), (wi_rm51_0_3200_0 rm cy g_codes), (wi_rm46_0_48_0 rm cy g_walkers), (wi_rm56_0_9_0 rm cy g_now), (wi_rm43_0_8_0 rm cy g_bar), (wi_rm65_0_12_0 rm cy g_waits), (wi_rm44_0_24_0 rm cy g_kinds), (wi_rm61_0_300_0 rm cy g_gaps), (wi_rm66_3_12_0 rm cy g_goes), (wi_rm67_3_12_0 rm cy g_harms), (wi_rm60_3_320_0 rm cy g_isCar), (wi_rm63_3_12_0 rm cy g_isHere), (wi_rm64_0_12_0 rm cy g_crosses), (wi_rm68_3_12_0 rm cy g_presses), (wi_rm69_3_300_0 rm cy g_crossedIn), (wi_rm41_0_4_0 rm cy g_many), (wi_rm62_3_300_0 rm cy g_isGreen), (wi_rm85_2_5_0 rm cy g_firstAsked), (wi_rm86_2_4_0 rm cy g_lastAsked), (wi_rm87_2_5_0 rm cy g_oftenAsked), (wi_rm88_2_5_0 rm cy g_totalAsked), (wi_rm89_2_4_0 rm cy g_mostAsked), (wi_rm90_2_5_0 rm cy g_leastAsked), (wi_rm91_2_3_0 rm cy g_notAsked), (wi_rm94_2_3_0 rm cy g_allAsked), (wi_rm97_2_6_0 rm cy g_secondAsked), (wi_rm98_2_3_0 rm cy g_dayAsked), (wi_rm99_2_5_0 rm cy g_phaseAsked), (wi_rm100_2_6_0 rm cy g_waitedAsked), (wi_rm101_2_4_0 rm cy g_calmAsked), (wi_rm102_2_4_0 rm cy g_paceAsked), (wi_rm103_2_6_0 rm cy g_trustsAsked), (wi_rm104_2_3_0 rm cy g_gapAsked), (wi_rm105_2_4_0 rm cy g_redsAsked), (wi_rm106_2_6_0 rm cy g_numberAsked), (wi_rm107_2_4_0 rm cy g_wentAsked), (wi_rm108_2_4_0 rm cy g_harmAsked), (wi_rm109_2_4_0 rm cy g_kindofAsked), (wi_rm95_2_3_0 rm cy g_minAsked), (wi_rm112_0_1700_0 rm cy f163), (wi_rm96_2_3_0 rm cy g_maxAsked), (wi_rm110_0_1700_0 rm cy f164), (wi_rm92_2_3_0 rm cy g_andAsked), (wi_rm93_2_2_0 rm cy g_orAsked), (a_this, .inr (10, mfs rm 0 v190 x_taped v157 v158 v159 v158 v159 x_namePlace x_awayTold x_away x_coded x_statements x_isCrossing 3 x_askSecond x_redMany x_isOpen x_lastGreen x_greenTo x_isCycleGreen x_stillGreen x_rowMany x_fitMany x_fitRules x_fitGreen x_undoable x_newest x_seeded v160 v161 v162 0 x_qPiled 0 x_qIsNew x_octets)), (wi_rm0_0_1600_0 rm cy g_tape)] H := hP
                                  replace hD := k_D hP hD
                                  refine lv_aload_n hx hb dX10_ask_176 rfl (lv_at hl 1 rfl) ?_
                                  refine lv_iconst (v := 1) hx hb dX10_ask_177 rfl ?_
                                  refine k_put C0 fp_X10_683 hP hD hS 46 rfl (k_nb 1 rfl) (k_fb 1 (by decide)) (Nat.le_of_ble_eq_true rfl) dX10_ask_178 (fun H locs hP hD hS => ?_)
                                  replace hP : va_P (dC, dI) vwCl [(wi_rm49_0_6_0 rm cy g_codeFrom), (wi_rm50_0_6_0 rm cy g_codeEnd), (wi_rm116_1_1700_1 rm cy g_qPile), (wi_rm51_0_3200_0 rm cy g_codes), (wi_rm46_0_48_0 rm cy g_walkers), (wi_rm56_0_9_0 rm cy g_now), (wi_rm43_0_8_0 rm cy g_bar), (wi_rm65_0_12_0 rm cy g_waits), (wi_rm44_0_24_0 rm cy g_kinds), (wi_rm61_0_300_0 rm cy g_gaps), (wi_rm66_3_12_0 rm cy g_goes), (wi_rm67_3_12_0 rm cy g_harms), (wi_rm60_3_320_0 rm cy g_isCar), (wi_rm63_3_12_0 rm cy g_isHere), (wi_rm64_0_12_0 rm cy g_crosses), (wi_rm68_3_12_0 rm cy g_presses), (wi_rm69_3_300_0 rm cy g_crossedIn), (wi_rm41_0_4_0 rm cy g_many), (wi_rm62_3_300_0 rm cy g_isGreen), (wi_rm85_2_5_0 rm cy g_firstAsked), (wi_rm86_2_4_0 rm cy g_lastAsked), (wi_rm87_2_5_0 rm cy g_oftenAsked), (wi_rm88_2_5_0 rm cy g_totalAsked), (wi_rm89_2_4_0 rm cy g_mostAsked), (wi_rm90_2_5_0 rm cy g_leastAsked), (wi_rm91_2_3_0 rm cy g_notAsked), (wi_rm94_2_3_0 rm cy g_allAsked), (wi_rm97_2_6_0 rm cy g_secondAsked), (wi_rm98_2_3_0 rm cy g_dayAsked), (wi_rm99_2_5_0 rm cy g_phaseAsked), (wi_rm100_2_6_0 rm cy g_waitedAsked), (wi_rm101_2_4_0 rm cy g_calmAsked), (wi_rm102_2_4_0 rm cy g_paceAsked), (wi_rm103_2_6_0 rm cy g_trustsAsked), (wi_rm104_2_3_0 rm cy g_gapAsked), (wi_rm105_2_4_0 rm cy g_redsAsked), (wi_rm106_2_6_0 rm cy g_numberAsked), (wi_rm107_2_4_0 rm cy g_wentAsked), (wi_rm108_2_4_0 rm cy g_harmAsked), (wi_rm109_2_4_0 rm cy g_kindofAsked), (wi_rm95_2_3_0 rm cy g_minAsked), (wi_rm112_0_1700_0 rm cy f163), (wi_rm96_2_3_0 rm cy g_maxAsked), (wi_rm110_0_1700_0 rm cy f164), (wi_rm92_2_3_0 rm cy g_andAsked), (wi_rm93_2_2_0 rm cy g_orAsked), (a_this, .inr (10, mfs rm 0 v190 x_taped v157 v158 v159 v158 v159 x_namePlace x_awayTold x_away x_coded x_statements x_isCrossing 3 x_askSecond x_redMany x_isOpen x_lastGreen x_greenTo x_isCycleGreen x_stillGreen x_rowMany x_fitMany x_fitRules x_fitGreen x_undoable x_newest x_seeded v160 v161 v162 0 x_qPiled 0 1 x_octets)), (wi_rm0_0_1600_0 rm cy g_tape)] H := hP
                                  replace hD := k_D hP hD
                                  refine lv_aload_n hx hb dX10_ask_181 rfl (lv_at hl 1 rfl) ?_
                                  refine k_jvm hP hD hS hA [46, 0, 1, 2, 3, 4, 5, 6, 7, 8, 9, 10, 11, 12, 13, 14, 15, 16, 17, 18] [false, false, false, false, false, false, false, false, false, false, false, false, false, false, false, false, false, false, false, true, true, true, true, true, true, true, true, true, true, true, true, true, true, true, true, true, true, true, true, true, true, true, true, true, true, true, false, true] rfl rfl (by decide +kernel) 0 0 (Nat.le_of_ble_eq_true rfl) (Nat.le_of_ble_eq_true rfl) (fun hPc hDc => k_runV (As := []) (rest := []) C0 hZ hS hA (s_X10_dayNow l dC dI cy sq a_this rm 0 v190 x_taped v157 v158 v159 v158 v159 x_namePlace x_awayTold x_away x_coded x_statements x_isCrossing 3 x_askSecond x_redMany x_isOpen x_lastGreen x_greenTo x_isCycleGreen x_stillGreen x_rowMany x_fitMany x_fitRules x_fitGreen x_undoable x_newest x_seeded v160 v161 v162 0 x_qPiled 0 1 x_octets g_many g_bar g_kinds g_walkers g_codeFrom g_codeEnd g_codes g_now g_isCar g_gaps g_isGreen g_isHere g_crosses g_waits g_goes g_harms g_presses g_crossedIn g_qPile (ib_w 0 1700 hx_qPiled rfl) (ib_w 0 12 hg_many_3 rfl) (ib_w 10 120 h25 rfl) hpg_walkers (ib_w (-1) 1600 hg_codeFrom_3 rfl) (ib_w (-1) 1600 hg_codeFrom_4 rfl) (ib_w 0 1600 hg_codeEnd_3 rfl) (ib_w 0 1600 hg_codeEnd_4 rfl) hg_gaps hG0 hG1) mV_X10_534 hPc hDc rfl rfl rfl hl rfl rfl (Nat.le_of_ble_eq_true rfl) ⟨(Nat.le_of_ble_eq_true rfl), (Nat.le_of_ble_eq_true rfl)⟩ ⟨(Nat.le_of_ble_eq_true rfl), (Nat.le_of_ble_eq_true rfl)⟩ dX10_ask_182) (fun u213 H locs hw hP hD hS => ?_)
                                  obtain ⟨v214, v215, v216, v217, v218, v219, v220, v221, v222, f223, f224, f225, f226, f227, f228, f229, f230, f231, f232, f233⟩ := u213
                                  try dsimp only at hP hD hw
                                  replace hP : va_P (dC, dI) vwCl [(wi_rm85_2_5_0 rm cy g_firstAsked), (wi_rm86_2_4_0 rm cy g_lastAsked), (wi_rm87_2_5_0 rm cy g_oftenAsked), (wi_rm88_2_5_0 rm cy g_totalAsked), (wi_rm89_2_4_0 rm cy g_mostAsked), (wi_rm90_2_5_0 rm cy g_leastAsked), (wi_rm91_2_3_0 rm cy g_notAsked), (wi_rm94_2_3_0 rm cy g_allAsked), (wi_rm97_2_6_0 rm cy g_secondAsked), (wi_rm98_2_3_0 rm cy g_dayAsked), (wi_rm99_2_5_0 rm cy g_phaseAsked), (wi_rm100_2_6_0 rm cy g_waitedAsked), (wi_rm101_2_4_0 rm cy g_calmAsked), (wi_rm102_2_4_0 rm cy g_paceAsked), (wi_rm103_2_6_0 rm cy g_trustsAsked), (wi_rm104_2_3_0 rm cy g_gapAsked), (wi_rm105_2_4_0 rm cy g_redsAsked), (wi_rm106_2_6_0 rm cy g_numberAsked), (wi_rm107_2_4_0 rm cy g_wentAsked), (wi_rm108_2_4_0 rm cy g_harmAsked), (wi_rm109_2_4_0 rm cy g_kindofAsked), (wi_rm95_2_3_0 rm cy g_minAsked), (wi_rm112_0_1700_0 rm cy f163), (wi_rm96_2_3_0 rm cy g_maxAsked), (wi_rm110_0_1700_0 rm cy f164), (wi_rm92_2_3_0 rm cy g_andAsked), (wi_rm93_2_2_0 rm cy g_orAsked), (wi_rm0_0_1600_0 rm cy g_tape), (a_this, .inr (10, mfs rm 0 v190 x_taped v157 v158 v159 v158 v159 x_namePlace x_awayTold x_away x_coded x_statements x_isCrossing v214 v215 v216 v217 v218 v219 v220 v221 x_rowMany x_fitMany x_fitRules x_fitGreen x_undoable x_newest x_seeded v160 v161 v162 0 v222 0 1 x_octets)), (wi_rm49_0_6_0 rm cy g_codeFrom), (wi_rm50_0_6_0 rm cy g_codeEnd), (wi_rm116_1_1700_1 rm cy f223), (wi_rm51_0_3200_0 rm cy g_codes), (wi_rm46_0_48_0 rm cy g_walkers), (wi_rm56_0_9_0 rm cy g_now), (wi_rm43_0_8_0 rm cy g_bar), (wi_rm65_0_12_0 rm cy f224), (wi_rm44_0_24_0 rm cy g_kinds), (wi_rm61_0_300_0 rm cy f225), (wi_rm66_3_12_0 rm cy f226), (wi_rm67_3_12_0 rm cy f227), (wi_rm60_3_320_0 rm cy f228), (wi_rm63_3_12_0 rm cy f229), (wi_rm64_0_12_0 rm cy f230), (wi_rm68_3_12_0 rm cy f231), (wi_rm69_3_300_0 rm cy f232), (wi_rm41_0_4_0 rm cy g_many), (wi_rm62_3_300_0 rm cy f233)] H := hP
                                  replace hD := k_D hP hD
                                  obtain ⟨h234, h235, h236, h237, h238⟩ := hw
                                  have h238 := by have h9 := h238; try simp only [show (3 : Int32).toInt = (3 : Int) from rfl] at h9; exact h9
                                  replace hq := lf_p1 hq h238
                                  replace hq := lf_p1 hq rfl
                                  replace hq := lf_p1 hq rfl
                                  replace hq := lf_p1 hq rfl
                                  replace hq := lf_p1 hq rfl
                                  replace hq := lf_p1 hq rfl
                                  replace hq := lf_p1 hq rfl
                                  replace hq := lf_p1 hq rfl
                                  replace hq := lf_p1 hq rfl
                                  replace hq := lf_p1 hq rfl
                                  replace hq := lf_p1 hq rfl
                                  replace hq := lf_p1 hq rfl
                                  replace hq := lf_p1 hq rfl
                                  replace hq := lf_p1 hq rfl
                                  replace hq := lf_p1 hq rfl
                                  replace hq := lf_p1 hq rfl
                                  replace hq := lf_p1 hq rfl
                                  replace hq := lf_p1 hq rfl
                                  replace hq := lf_p1 hq rfl
                                  refine lv_aload_n hx hb dX10_ask_185 rfl (lv_at hl 1 rfl) ?_
                                  refine lv_iconst (v := 3) hx hb dX10_ask_186 rfl ?_
                                  refine k_put C0 fp_X10_333 hP hD hS 28 rfl rfl rfl (Nat.le_of_ble_eq_true rfl) dX10_ask_187 (fun H locs hP hD hS => ?_)
                                  replace hP : va_P (dC, dI) vwCl [(wi_rm85_2_5_0 rm cy g_firstAsked), (wi_rm86_2_4_0 rm cy g_lastAsked), (wi_rm87_2_5_0 rm cy g_oftenAsked), (wi_rm88_2_5_0 rm cy g_totalAsked), (wi_rm89_2_4_0 rm cy g_mostAsked), (wi_rm90_2_5_0 rm cy g_leastAsked), (wi_rm91_2_3_0 rm cy g_notAsked), (wi_rm94_2_3_0 rm cy g_allAsked), (wi_rm97_2_6_0 rm cy g_secondAsked), (wi_rm98_2_3_0 rm cy g_dayAsked), (wi_rm99_2_5_0 rm cy g_phaseAsked), (wi_rm100_2_6_0 rm cy g_waitedAsked), (wi_rm101_2_4_0 rm cy g_calmAsked), (wi_rm102_2_4_0 rm cy g_paceAsked), (wi_rm103_2_6_0 rm cy g_trustsAsked), (wi_rm104_2_3_0 rm cy g_gapAsked), (wi_rm105_2_4_0 rm cy g_redsAsked), (wi_rm106_2_6_0 rm cy g_numberAsked), (wi_rm107_2_4_0 rm cy g_wentAsked), (wi_rm108_2_4_0 rm cy g_harmAsked), (wi_rm109_2_4_0 rm cy g_kindofAsked), (wi_rm95_2_3_0 rm cy g_minAsked), (wi_rm112_0_1700_0 rm cy f163), (wi_rm96_2_3_0 rm cy g_maxAsked), (wi_rm110_0_1700_0 rm cy f164), (wi_rm92_2_3_0 rm cy g_andAsked), (wi_rm93_2_2_0 rm cy g_orAsked), (wi_rm0_0_1600_0 rm cy g_tape), (a_this, .inr (10, mfs rm 0 v190 x_taped v157 v158 v159 v158 v159 x_namePlace x_awayTold x_away x_coded x_statements x_isCrossing 3 v215 v216 v217 v218 v219 v220 v221 x_rowMany x_fitMany x_fitRules x_fitGreen x_undoable x_newest x_seeded v160 v161 v162 0 v222 0 1 x_octets)), (wi_rm49_0_6_0 rm cy g_codeFrom), (wi_rm50_0_6_0 rm cy g_codeEnd), (wi_rm116_1_1700_1 rm cy f223), (wi_rm51_0_3200_0 rm cy g_codes), (wi_rm46_0_48_0 rm cy g_walkers), (wi_rm56_0_9_0 rm cy g_now), (wi_rm43_0_8_0 rm cy g_bar), (wi_rm65_0_12_0 rm cy f224), (wi_rm44_0_24_0 rm cy g_kinds), (wi_rm61_0_300_0 rm cy f225), (wi_rm66_3_12_0 rm cy f226), (wi_rm67_3_12_0 rm cy f227), (wi_rm60_3_320_0 rm cy f228), (wi_rm63_3_12_0 rm cy f229), (wi_rm64_0_12_0 rm cy f230), (wi_rm68_3_12_0 rm cy f231), (wi_rm69_3_300_0 rm cy f232), (wi_rm41_0_4_0 rm cy g_many), (wi_rm62_3_300_0 rm cy f233)] H := hP
                                  replace hD := k_D hP hD
                                  refine lv_iconst (v := 0) hx hb dX10_ask_190 rfl ?_
                                  refine lv_istore_n (lv' := [(2, .int 0), (1, .int r27), (0, .ref a_this)]) hx hb dX10_ask_191 rfl hl (Nat.le_of_ble_eq_true rfl) rfl (fun ls hl => ?_)
                                  exact jn192 14 r27 v190 v157 v158 v159 v158 v159 v215 v216 v217 v218 v219 v220 v221 v160 v161 v162 v222 f163 f164 f223 f224 f225 f226 f227 f228 f229 f230 f231 f232 f233 0 0 1 H locs ls (ib_w 0 5 h211 rfl) (ib_w 0 1600 h191 rfl) (ib_w 0 0 h180 rfl) (ib_w 0 0 h180 rfl) (ib_w 1 1 h24 rfl) (ib_w 0 1 h234 rfl) (ib_w 0 1 h235 rfl) (ib_w 0 1600 h185 rfl) (ib_w 0 0 h187 rfl) (ib_w 0 1700 h236 rfl) (ib_w 10 120 h25 rfl) (ib_w 0 12 (ib_c 0 0 0 rfl) rfl) (ib_w 0 1 (ib_c 1 1 1 rfl) rfl) h237 (h208) (by try simp only [show (0 : Int64).toInt = (0 : Int) from rfl]; try simp only [show (0 : Int32).toInt = (0 : Int) from rfl]; try simp only [show (1 : Int32).toInt = (1 : Int) from rfl]; exact hq) (by have := (ib_c 0 0 0 rfl); unfold ib at this; omega) (hP.sub [28, 27, 0, 1, 2, 3, 4, 5, 8, 9, 10, 11, 12, 13, 14, 15, 16, 17, 18, 19, 20, 21, 22, 23, 24, 29, 30, 31, 32, 33, 34, 35, 36, 37, 38, 39, 40, 41, 42, 43, 44, 45, 46, 47, 6, 7, 25, 26] rfl) (hD.sub [28, 27, 0, 1, 2, 3, 4, 5, 8, 9, 10, 11, 12, 13, 14, 15, 16, 17, 18, 19, 20, 21, 22, 23, 24, 29, 30, 31, 32, 33, 34, 35, 36, 37, 38, 39, 40, 41, 42, 43, 44, 45, 46, 47, 6, 7, 25, 26] (by decide +kernel) rfl) hS (lv_sub hl [2, 1, 0] rfl)
                              · as_aux_lemma =>
                                  replace hq := lf_neg hq (lf_nle (lf_lc 2 (2 : Int) rfl) (lf_rf r27) c209)
                                  have h239 := ib_nle (ib_c 2 2 2 rfl) h153 c209
                                  have h240 : ib r27 0 1 := ib_w 0 1 h239.2 rfl
                                  refine lv_ldc2 hx hb C0.2.2.2.1 (C0.2.2.2.2.1 _ wd1405) dX10_ask_166 ?_
                                  refine lv_goto (tgt := 173) hx hb dX10_ask_169 rfl ?_
                                  refine k_put C0 fp_X10_678 hP hD hS 46 rfl rfl rfl (Nat.le_of_ble_eq_true rfl) dX10_ask_173 (fun H locs hP hD hS => ?_)
                                  replace hP : va_P (dC, dI) vwCl [(wi_rm49_0_6_0 rm cy g_codeFrom), (wi_rm50_0_6_0 rm cy g_codeEnd), (wi_rm116_1_1700_1 rm cy g_qPile), (wi_rm51_0_3200_0 rm cy g_codes), (wi_rm46_0_48_0 rm cy g_walkers), (wi_rm56_0_9_0 rm cy g_now), (wi_rm43_0_8_0 rm cy g_bar), (wi_rm65_0_12_0 rm cy g_waits), (wi_rm44_0_24_0 rm cy g_kinds), (wi_rm61_0_300_0 rm cy g_gaps), (wi_rm66_3_12_0 rm cy g_goes), (wi_rm67_3_12_0 rm cy g_harms), (wi_rm60_3_320_0 rm cy g_isCar), (wi_rm63_3_12_0 rm cy g_isHere), (wi_rm64_0_12_0 rm cy g_crosses), (wi_rm68_3_12_0 rm cy g_presses), (wi_rm69_3_300_0 rm cy g_crossedIn), (wi_rm41_0_4_0 rm cy g_many), (wi_rm62_3_300_0 rm cy g_isGreen), (wi_rm85_2_5_0 rm cy g_firstAsked), (wi_rm86_2_4_0 rm cy g_lastAsked), (wi_rm87_2_5_0 rm cy g_oftenAsked), (wi_rm88_2_5_0 rm cy g_totalAsked), (wi_rm89_2_4_0 rm cy g_mostAsked), (wi_rm90_2_5_0 rm cy g_leastAsked), (wi_rm91_2_3_0 rm cy g_notAsked), (wi_rm94_2_3_0 rm cy g_allAsked), (wi_rm97_2_6_0 rm cy g_secondAsked), (wi_rm98_2_3_0 rm cy g_dayAsked), (wi_rm99_2_5_0 rm cy g_phaseAsked), (wi_rm100_2_6_0 rm cy g_waitedAsked), (wi_rm101_2_4_0 rm cy g_calmAsked), (wi_rm102_2_4_0 rm cy g_paceAsked), (wi_rm103_2_6_0 rm cy g_trustsAsked), (wi_rm104_2_3_0 rm cy g_gapAsked), (wi_rm105_2_4_0 rm cy g_redsAsked), (wi_rm106_2_6_0 rm cy g_numberAsked), (wi_rm107_2_4_0 rm cy g_wentAsked), (wi_rm108_2_4_0 rm cy g_harmAsked), (wi_rm109_2_4_0 rm cy g_kindofAsked), (wi_rm95_2_3_0 rm cy g_minAsked), (wi_rm112_0_1700_0 rm cy f163), (wi_rm96_2_3_0 rm cy g_maxAsked), (wi_rm110_0_1700_0 rm cy f164), (wi_rm92_2_3_0 rm cy g_andAsked), (wi_rm93_2_2_0 rm cy g_orAsked), (a_this, .inr (10, mfs rm 0 v190 x_taped v157 v158 v159 v158 v159 x_namePlace x_awayTold x_away x_coded x_statements x_isCrossing 3 x_askSecond x_redMany x_isOpen x_lastGreen x_greenTo x_isCycleGreen x_stillGreen x_rowMany x_fitMany x_fitRules x_fitGreen x_undoable x_newest x_seeded v160 v161 v162 0 x_qPiled (-1) x_qIsNew x_octets)), (wi_rm0_0_1600_0 rm cy g_tape)] H := hP
                                  replace hD := k_D hP hD
                                  refine lv_aload_n hx hb dX10_ask_176 rfl (lv_at hl 1 rfl) ?_
                                  refine lv_iconst (v := 1) hx hb dX10_ask_177 rfl ?_
                                  refine k_put C0 fp_X10_683 hP hD hS 46 rfl (k_nb 1 rfl) (k_fb 1 (by decide)) (Nat.le_of_ble_eq_true rfl) dX10_ask_178 (fun H locs hP hD hS => ?_)
                                  replace hP : va_P (dC, dI) vwCl [(wi_rm49_0_6_0 rm cy g_codeFrom), (wi_rm50_0_6_0 rm cy g_codeEnd), (wi_rm116_1_1700_1 rm cy g_qPile), (wi_rm51_0_3200_0 rm cy g_codes), (wi_rm46_0_48_0 rm cy g_walkers), (wi_rm56_0_9_0 rm cy g_now), (wi_rm43_0_8_0 rm cy g_bar), (wi_rm65_0_12_0 rm cy g_waits), (wi_rm44_0_24_0 rm cy g_kinds), (wi_rm61_0_300_0 rm cy g_gaps), (wi_rm66_3_12_0 rm cy g_goes), (wi_rm67_3_12_0 rm cy g_harms), (wi_rm60_3_320_0 rm cy g_isCar), (wi_rm63_3_12_0 rm cy g_isHere), (wi_rm64_0_12_0 rm cy g_crosses), (wi_rm68_3_12_0 rm cy g_presses), (wi_rm69_3_300_0 rm cy g_crossedIn), (wi_rm41_0_4_0 rm cy g_many), (wi_rm62_3_300_0 rm cy g_isGreen), (wi_rm85_2_5_0 rm cy g_firstAsked), (wi_rm86_2_4_0 rm cy g_lastAsked), (wi_rm87_2_5_0 rm cy g_oftenAsked), (wi_rm88_2_5_0 rm cy g_totalAsked), (wi_rm89_2_4_0 rm cy g_mostAsked), (wi_rm90_2_5_0 rm cy g_leastAsked), (wi_rm91_2_3_0 rm cy g_notAsked), (wi_rm94_2_3_0 rm cy g_allAsked), (wi_rm97_2_6_0 rm cy g_secondAsked), (wi_rm98_2_3_0 rm cy g_dayAsked), (wi_rm99_2_5_0 rm cy g_phaseAsked), (wi_rm100_2_6_0 rm cy g_waitedAsked), (wi_rm101_2_4_0 rm cy g_calmAsked), (wi_rm102_2_4_0 rm cy g_paceAsked), (wi_rm103_2_6_0 rm cy g_trustsAsked), (wi_rm104_2_3_0 rm cy g_gapAsked), (wi_rm105_2_4_0 rm cy g_redsAsked), (wi_rm106_2_6_0 rm cy g_numberAsked), (wi_rm107_2_4_0 rm cy g_wentAsked), (wi_rm108_2_4_0 rm cy g_harmAsked), (wi_rm109_2_4_0 rm cy g_kindofAsked), (wi_rm95_2_3_0 rm cy g_minAsked), (wi_rm112_0_1700_0 rm cy f163), (wi_rm96_2_3_0 rm cy g_maxAsked), (wi_rm110_0_1700_0 rm cy f164), (wi_rm92_2_3_0 rm cy g_andAsked), (wi_rm93_2_2_0 rm cy g_orAsked), (a_this, .inr (10, mfs rm 0 v190 x_taped v157 v158 v159 v158 v159 x_namePlace x_awayTold x_away x_coded x_statements x_isCrossing 3 x_askSecond x_redMany x_isOpen x_lastGreen x_greenTo x_isCycleGreen x_stillGreen x_rowMany x_fitMany x_fitRules x_fitGreen x_undoable x_newest x_seeded v160 v161 v162 0 x_qPiled (-1) 1 x_octets)), (wi_rm0_0_1600_0 rm cy g_tape)] H := hP
                                  replace hD := k_D hP hD
                                  refine lv_aload_n hx hb dX10_ask_181 rfl (lv_at hl 1 rfl) ?_
                                  refine k_jvm hP hD hS hA [46, 0, 1, 2, 3, 4, 5, 6, 7, 8, 9, 10, 11, 12, 13, 14, 15, 16, 17, 18] [false, false, false, false, false, false, false, false, false, false, false, false, false, false, false, false, false, false, false, true, true, true, true, true, true, true, true, true, true, true, true, true, true, true, true, true, true, true, true, true, true, true, true, true, true, true, false, true] rfl rfl (by decide +kernel) 0 0 (Nat.le_of_ble_eq_true rfl) (Nat.le_of_ble_eq_true rfl) (fun hPc hDc => k_runV (As := []) (rest := []) C0 hZ hS hA (s_X10_dayNow l dC dI cy sq a_this rm 0 v190 x_taped v157 v158 v159 v158 v159 x_namePlace x_awayTold x_away x_coded x_statements x_isCrossing 3 x_askSecond x_redMany x_isOpen x_lastGreen x_greenTo x_isCycleGreen x_stillGreen x_rowMany x_fitMany x_fitRules x_fitGreen x_undoable x_newest x_seeded v160 v161 v162 0 x_qPiled (-1) 1 x_octets g_many g_bar g_kinds g_walkers g_codeFrom g_codeEnd g_codes g_now g_isCar g_gaps g_isGreen g_isHere g_crosses g_waits g_goes g_harms g_presses g_crossedIn g_qPile (ib_w 0 1700 hx_qPiled rfl) (ib_w 0 12 hg_many_3 rfl) (ib_w 10 120 h25 rfl) hpg_walkers (ib_w (-1) 1600 hg_codeFrom_3 rfl) (ib_w (-1) 1600 hg_codeFrom_4 rfl) (ib_w 0 1600 hg_codeEnd_3 rfl) (ib_w 0 1600 hg_codeEnd_4 rfl) hg_gaps hG0 hG1) mV_X10_534 hPc hDc rfl rfl rfl hl rfl rfl (Nat.le_of_ble_eq_true rfl) ⟨(Nat.le_of_ble_eq_true rfl), (Nat.le_of_ble_eq_true rfl)⟩ ⟨(Nat.le_of_ble_eq_true rfl), (Nat.le_of_ble_eq_true rfl)⟩ dX10_ask_182) (fun u242 H locs hw hP hD hS => ?_)
                                  obtain ⟨v243, v244, v245, v246, v247, v248, v249, v250, v251, f252, f253, f254, f255, f256, f257, f258, f259, f260, f261, f262⟩ := u242
                                  try dsimp only at hP hD hw
                                  replace hP : va_P (dC, dI) vwCl [(wi_rm85_2_5_0 rm cy g_firstAsked), (wi_rm86_2_4_0 rm cy g_lastAsked), (wi_rm87_2_5_0 rm cy g_oftenAsked), (wi_rm88_2_5_0 rm cy g_totalAsked), (wi_rm89_2_4_0 rm cy g_mostAsked), (wi_rm90_2_5_0 rm cy g_leastAsked), (wi_rm91_2_3_0 rm cy g_notAsked), (wi_rm94_2_3_0 rm cy g_allAsked), (wi_rm97_2_6_0 rm cy g_secondAsked), (wi_rm98_2_3_0 rm cy g_dayAsked), (wi_rm99_2_5_0 rm cy g_phaseAsked), (wi_rm100_2_6_0 rm cy g_waitedAsked), (wi_rm101_2_4_0 rm cy g_calmAsked), (wi_rm102_2_4_0 rm cy g_paceAsked), (wi_rm103_2_6_0 rm cy g_trustsAsked), (wi_rm104_2_3_0 rm cy g_gapAsked), (wi_rm105_2_4_0 rm cy g_redsAsked), (wi_rm106_2_6_0 rm cy g_numberAsked), (wi_rm107_2_4_0 rm cy g_wentAsked), (wi_rm108_2_4_0 rm cy g_harmAsked), (wi_rm109_2_4_0 rm cy g_kindofAsked), (wi_rm95_2_3_0 rm cy g_minAsked), (wi_rm112_0_1700_0 rm cy f163), (wi_rm96_2_3_0 rm cy g_maxAsked), (wi_rm110_0_1700_0 rm cy f164), (wi_rm92_2_3_0 rm cy g_andAsked), (wi_rm93_2_2_0 rm cy g_orAsked), (wi_rm0_0_1600_0 rm cy g_tape), (a_this, .inr (10, mfs rm 0 v190 x_taped v157 v158 v159 v158 v159 x_namePlace x_awayTold x_away x_coded x_statements x_isCrossing v243 v244 v245 v246 v247 v248 v249 v250 x_rowMany x_fitMany x_fitRules x_fitGreen x_undoable x_newest x_seeded v160 v161 v162 0 v251 (-1) 1 x_octets)), (wi_rm49_0_6_0 rm cy g_codeFrom), (wi_rm50_0_6_0 rm cy g_codeEnd), (wi_rm116_1_1700_1 rm cy f252), (wi_rm51_0_3200_0 rm cy g_codes), (wi_rm46_0_48_0 rm cy g_walkers), (wi_rm56_0_9_0 rm cy g_now), (wi_rm43_0_8_0 rm cy g_bar), (wi_rm65_0_12_0 rm cy f253), (wi_rm44_0_24_0 rm cy g_kinds), (wi_rm61_0_300_0 rm cy f254), (wi_rm66_3_12_0 rm cy f255), (wi_rm67_3_12_0 rm cy f256), (wi_rm60_3_320_0 rm cy f257), (wi_rm63_3_12_0 rm cy f258), (wi_rm64_0_12_0 rm cy f259), (wi_rm68_3_12_0 rm cy f260), (wi_rm69_3_300_0 rm cy f261), (wi_rm41_0_4_0 rm cy g_many), (wi_rm62_3_300_0 rm cy f262)] H := hP
                                  replace hD := k_D hP hD
                                  obtain ⟨h263, h264, h265, h266, h267⟩ := hw
                                  have h267 := by have h9 := h267; try simp only [show (3 : Int32).toInt = (3 : Int) from rfl] at h9; exact h9
                                  replace hq := lf_p1 hq h267
                                  replace hq := lf_p1 hq rfl
                                  replace hq := lf_p1 hq rfl
                                  replace hq := lf_p1 hq rfl
                                  replace hq := lf_p1 hq rfl
                                  replace hq := lf_p1 hq rfl
                                  replace hq := lf_p1 hq rfl
                                  replace hq := lf_p1 hq rfl
                                  replace hq := lf_p1 hq rfl
                                  replace hq := lf_p1 hq rfl
                                  replace hq := lf_p1 hq rfl
                                  replace hq := lf_p1 hq rfl
                                  replace hq := lf_p1 hq rfl
                                  replace hq := lf_p1 hq rfl
                                  replace hq := lf_p1 hq rfl
                                  replace hq := lf_p1 hq rfl
                                  replace hq := lf_p1 hq rfl
                                  replace hq := lf_p1 hq rfl
                                  replace hq := lf_p1 hq rfl
                                  refine lv_aload_n hx hb dX10_ask_185 rfl (lv_at hl 1 rfl) ?_
                                  refine lv_iconst (v := 3) hx hb dX10_ask_186 rfl ?_
                                  refine k_put C0 fp_X10_333 hP hD hS 28 rfl rfl rfl (Nat.le_of_ble_eq_true rfl) dX10_ask_187 (fun H locs hP hD hS => ?_)
                                  replace hP : va_P (dC, dI) vwCl [(wi_rm85_2_5_0 rm cy g_firstAsked), (wi_rm86_2_4_0 rm cy g_lastAsked), (wi_rm87_2_5_0 rm cy g_oftenAsked), (wi_rm88_2_5_0 rm cy g_totalAsked), (wi_rm89_2_4_0 rm cy g_mostAsked), (wi_rm90_2_5_0 rm cy g_leastAsked), (wi_rm91_2_3_0 rm cy g_notAsked), (wi_rm94_2_3_0 rm cy g_allAsked), (wi_rm97_2_6_0 rm cy g_secondAsked), (wi_rm98_2_3_0 rm cy g_dayAsked), (wi_rm99_2_5_0 rm cy g_phaseAsked), (wi_rm100_2_6_0 rm cy g_waitedAsked), (wi_rm101_2_4_0 rm cy g_calmAsked), (wi_rm102_2_4_0 rm cy g_paceAsked), (wi_rm103_2_6_0 rm cy g_trustsAsked), (wi_rm104_2_3_0 rm cy g_gapAsked), (wi_rm105_2_4_0 rm cy g_redsAsked), (wi_rm106_2_6_0 rm cy g_numberAsked), (wi_rm107_2_4_0 rm cy g_wentAsked), (wi_rm108_2_4_0 rm cy g_harmAsked), (wi_rm109_2_4_0 rm cy g_kindofAsked), (wi_rm95_2_3_0 rm cy g_minAsked), (wi_rm112_0_1700_0 rm cy f163), (wi_rm96_2_3_0 rm cy g_maxAsked), (wi_rm110_0_1700_0 rm cy f164), (wi_rm92_2_3_0 rm cy g_andAsked), (wi_rm93_2_2_0 rm cy g_orAsked), (wi_rm0_0_1600_0 rm cy g_tape), (a_this, .inr (10, mfs rm 0 v190 x_taped v157 v158 v159 v158 v159 x_namePlace x_awayTold x_away x_coded x_statements x_isCrossing 3 v244 v245 v246 v247 v248 v249 v250 x_rowMany x_fitMany x_fitRules x_fitGreen x_undoable x_newest x_seeded v160 v161 v162 0 v251 (-1) 1 x_octets)), (wi_rm49_0_6_0 rm cy g_codeFrom), (wi_rm50_0_6_0 rm cy g_codeEnd), (wi_rm116_1_1700_1 rm cy f252), (wi_rm51_0_3200_0 rm cy g_codes), (wi_rm46_0_48_0 rm cy g_walkers), (wi_rm56_0_9_0 rm cy g_now), (wi_rm43_0_8_0 rm cy g_bar), (wi_rm65_0_12_0 rm cy f253), (wi_rm44_0_24_0 rm cy g_kinds), (wi_rm61_0_300_0 rm cy f254), (wi_rm66_3_12_0 rm cy f255), (wi_rm67_3_12_0 rm cy f256), (wi_rm60_3_320_0 rm cy f257), (wi_rm63_3_12_0 rm cy f258), (wi_rm64_0_12_0 rm cy f259), (wi_rm68_3_12_0 rm cy f260), (wi_rm69_3_300_0 rm cy f261), (wi_rm41_0_4_0 rm cy g_many), (wi_rm62_3_300_0 rm cy f262)] H := hP
                                  replace hD := k_D hP hD
                                  refine lv_iconst (v := 0) hx hb dX10_ask_190 rfl ?_
                                  refine lv_istore_n (lv' := [(2, .int 0), (1, .int r27), (0, .ref a_this)]) hx hb dX10_ask_191 rfl hl (Nat.le_of_ble_eq_true rfl) rfl (fun ls hl => ?_)
                                  exact jn192 14 r27 v190 v157 v158 v159 v158 v159 v244 v245 v246 v247 v248 v249 v250 v160 v161 v162 v251 f163 f164 f252 f253 f254 f255 f256 f257 f258 f259 f260 f261 f262 (-1) 0 1 H locs ls (ib_w 0 5 h240 rfl) (ib_w 0 1600 h191 rfl) (ib_w 0 0 h180 rfl) (ib_w 0 0 h180 rfl) (ib_w 1 1 h24 rfl) (ib_w 0 1 h263 rfl) (ib_w 0 1 h264 rfl) (ib_w 0 1600 h185 rfl) (ib_w 0 0 h187 rfl) (ib_w 0 1700 h265 rfl) (ib_w 10 120 h25 rfl) (ib_w 0 12 (ib_c 0 0 0 rfl) rfl) (ib_w 0 1 (ib_c 1 1 1 rfl) rfl) h266 (h208) (by try simp only [show ((-1) : Int64).toInt = (-1 : Int) from rfl]; try simp only [show (0 : Int32).toInt = (0 : Int) from rfl]; try simp only [show (1 : Int32).toInt = (1 : Int) from rfl]; exact hq) (by have := (ib_c 0 0 0 rfl); unfold ib at this; omega) (hP.sub [28, 27, 0, 1, 2, 3, 4, 5, 8, 9, 10, 11, 12, 13, 14, 15, 16, 17, 18, 19, 20, 21, 22, 23, 24, 29, 30, 31, 32, 33, 34, 35, 36, 37, 38, 39, 40, 41, 42, 43, 44, 45, 46, 47, 6, 7, 25, 26] rfl) (hD.sub [28, 27, 0, 1, 2, 3, 4, 5, 8, 9, 10, 11, 12, 13, 14, 15, 16, 17, 18, 19, 20, 21, 22, 23, 24, 29, 30, 31, 32, 33, 34, 35, 36, 37, 38, 39, 40, 41, 42, 43, 44, 45, 46, 47, 6, 7, 25, 26] (by decide +kernel) rfl) hS (lv_sub hl [2, 1, 0] rfl)
                          · skip
                            exact absurd (ib_one h180 rfl) c204
                      · as_aux_lemma =>
                          replace hq := lf_neg hq (lf_ne (lf_rf r188) (lf_lc (-1) (-1 : Int) rfl) c201)
                          have h268 : ib r188 0 255 := ib_w 0 255 (ib_ne_lo (-1) h192 rfl c201) rfl
                          have h269 : ib v190 0 1599 := ib_w 0 1599 (ib_two h191 (h193 (ib_nc (-1) h268 rfl))) rfl
                          have h270 : ib v156 0 1599 := ib_w 0 1599 (ib_two h165 (h194 (ib_nc (-1) h268 rfl))) rfl
                          have h271 : ib x_taped 1 1600 := ib_w 1 1600 (ib_two hx_taped (h195 (ib_nc (-1) h268 rfl))) rfl
                          have h272 : ib v29 0 1599 := ⟨(h33).1, by have := (h33).2; have := h171; have := (h270).2; omega⟩
                          have h273 : ib v160 0 1599 := ⟨(h185).1, by have := (h185).2; have := h183; have : (0 : Int32).toInt = 0 := rfl; have := (h272).1; have := (h270).2; have := (h187).1; omega⟩
                          refine lv_aload_n hx hb dX10_ask_124 rfl (lv_at hl 1 rfl) ?_
                          refine lv_iconst (v := 1) hx hb dX10_ask_125 rfl ?_
                          refine lv_aload_n hx hb dX10_ask_126 rfl (lv_at hl 1 rfl) ?_
                          refine k_get C0 fg_X10_285 hP 46 rfl rfl dX10_ask_127 ?_
                          refine k_jvm hP hD hS hA [46] [true, true, true, true, true, true, true, true, true, true, true, true, true, true, true, true, true, true, true, true, true, true, true, true, true, true, true, true, true, true, true, true, true, true, true, true, true, true, true, true, true, true, true, true, true, true, false, true] rfl rfl (by decide +kernel) 0 0 (Nat.le_of_ble_eq_true rfl) (Nat.le_of_ble_eq_true rfl) (fun hPc hDc => k_runV (As := [.int 1, .int v190]) (rest := []) C0 hZ hS hA (s_X10_fail_a0_1_f_bad_0_0 l dC dI cy sq a_this rm 0 v190 x_taped v157 v158 v159 x_fault x_faultPlace x_namePlace x_awayTold x_away x_coded x_statements x_isCrossing 3 x_askSecond x_redMany x_isOpen x_lastGreen x_greenTo x_isCycleGreen x_stillGreen x_rowMany x_fitMany x_fitRules x_fitGreen x_undoable x_newest x_seeded v160 v161 v162 0 x_qPiled x_qAnswer x_qIsNew x_octets v190 (ib_w 0 0 h180 rfl)) mV_X10_308 hPc hDc rfl rfl rfl hl rfl rfl (Nat.le_of_ble_eq_true rfl) ⟨(Nat.le_of_ble_eq_true rfl), (Nat.le_of_ble_eq_true rfl)⟩ ⟨(Nat.le_of_ble_eq_true rfl), (Nat.le_of_ble_eq_true rfl)⟩ dX10_ask_130) (fun u275 H locs hw hP hD hS => ?_)
                          try dsimp only at hP hD hw
                          replace hP : va_P (dC, dI) vwCl [(wi_rm49_0_6_0 rm cy g_codeFrom), (wi_rm50_0_6_0 rm cy g_codeEnd), (wi_rm116_1_1700_1 rm cy g_qPile), (wi_rm51_0_3200_0 rm cy g_codes), (wi_rm46_0_48_0 rm cy g_walkers), (wi_rm56_0_9_0 rm cy g_now), (wi_rm43_0_8_0 rm cy g_bar), (wi_rm65_0_12_0 rm cy g_waits), (wi_rm44_0_24_0 rm cy g_kinds), (wi_rm61_0_300_0 rm cy g_gaps), (wi_rm66_3_12_0 rm cy g_goes), (wi_rm67_3_12_0 rm cy g_harms), (wi_rm60_3_320_0 rm cy g_isCar), (wi_rm63_3_12_0 rm cy g_isHere), (wi_rm64_0_12_0 rm cy g_crosses), (wi_rm68_3_12_0 rm cy g_presses), (wi_rm69_3_300_0 rm cy g_crossedIn), (wi_rm41_0_4_0 rm cy g_many), (wi_rm62_3_300_0 rm cy g_isGreen), (wi_rm85_2_5_0 rm cy g_firstAsked), (wi_rm86_2_4_0 rm cy g_lastAsked), (wi_rm87_2_5_0 rm cy g_oftenAsked), (wi_rm88_2_5_0 rm cy g_totalAsked), (wi_rm89_2_4_0 rm cy g_mostAsked), (wi_rm90_2_5_0 rm cy g_leastAsked), (wi_rm91_2_3_0 rm cy g_notAsked), (wi_rm94_2_3_0 rm cy g_allAsked), (wi_rm97_2_6_0 rm cy g_secondAsked), (wi_rm98_2_3_0 rm cy g_dayAsked), (wi_rm99_2_5_0 rm cy g_phaseAsked), (wi_rm100_2_6_0 rm cy g_waitedAsked), (wi_rm101_2_4_0 rm cy g_calmAsked), (wi_rm102_2_4_0 rm cy g_paceAsked), (wi_rm103_2_6_0 rm cy g_trustsAsked), (wi_rm104_2_3_0 rm cy g_gapAsked), (wi_rm105_2_4_0 rm cy g_redsAsked), (wi_rm106_2_6_0 rm cy g_numberAsked), (wi_rm107_2_4_0 rm cy g_wentAsked), (wi_rm108_2_4_0 rm cy g_harmAsked), (wi_rm109_2_4_0 rm cy g_kindofAsked), (wi_rm95_2_3_0 rm cy g_minAsked), (wi_rm112_0_1700_0 rm cy f163), (wi_rm96_2_3_0 rm cy g_maxAsked), (wi_rm110_0_1700_0 rm cy f164), (wi_rm92_2_3_0 rm cy g_andAsked), (wi_rm93_2_2_0 rm cy g_orAsked), (wi_rm0_0_1600_0 rm cy g_tape), (a_this, .inr (10, mfs rm 0 v190 x_taped v157 1 v190 x_fault x_faultPlace x_namePlace x_awayTold x_away x_coded x_statements x_isCrossing 3 x_askSecond x_redMany x_isOpen x_lastGreen x_greenTo x_isCycleGreen x_stillGreen x_rowMany x_fitMany x_fitRules x_fitGreen x_undoable x_newest x_seeded v160 v161 v162 0 x_qPiled x_qAnswer x_qIsNew x_octets))] H := hP
                          replace hD := k_D hP hD
                          refine lv_aload_n hx hb dX10_ask_133 rfl (lv_at hl 1 rfl) ?_
                          refine lv_aload_n hx hb dX10_ask_134 rfl (lv_at hl 1 rfl) ?_
                          refine k_get C0 fg_X10_279 hP 47 rfl rfl dX10_ask_135 ?_
                          refine k_put C0 fp_X10_411 hP hD hS 47 rfl rfl rfl (Nat.le_of_ble_eq_true rfl) dX10_ask_138 (fun H locs hP hD hS => ?_)
                          replace hP : va_P (dC, dI) vwCl [(wi_rm49_0_6_0 rm cy g_codeFrom), (wi_rm50_0_6_0 rm cy g_codeEnd), (wi_rm116_1_1700_1 rm cy g_qPile), (wi_rm51_0_3200_0 rm cy g_codes), (wi_rm46_0_48_0 rm cy g_walkers), (wi_rm56_0_9_0 rm cy g_now), (wi_rm43_0_8_0 rm cy g_bar), (wi_rm65_0_12_0 rm cy g_waits), (wi_rm44_0_24_0 rm cy g_kinds), (wi_rm61_0_300_0 rm cy g_gaps), (wi_rm66_3_12_0 rm cy g_goes), (wi_rm67_3_12_0 rm cy g_harms), (wi_rm60_3_320_0 rm cy g_isCar), (wi_rm63_3_12_0 rm cy g_isHere), (wi_rm64_0_12_0 rm cy g_crosses), (wi_rm68_3_12_0 rm cy g_presses), (wi_rm69_3_300_0 rm cy g_crossedIn), (wi_rm41_0_4_0 rm cy g_many), (wi_rm62_3_300_0 rm cy g_isGreen), (wi_rm85_2_5_0 rm cy g_firstAsked), (wi_rm86_2_4_0 rm cy g_lastAsked), (wi_rm87_2_5_0 rm cy g_oftenAsked), (wi_rm88_2_5_0 rm cy g_totalAsked), (wi_rm89_2_4_0 rm cy g_mostAsked), (wi_rm90_2_5_0 rm cy g_leastAsked), (wi_rm91_2_3_0 rm cy g_notAsked), (wi_rm94_2_3_0 rm cy g_allAsked), (wi_rm97_2_6_0 rm cy g_secondAsked), (wi_rm98_2_3_0 rm cy g_dayAsked), (wi_rm99_2_5_0 rm cy g_phaseAsked), (wi_rm100_2_6_0 rm cy g_waitedAsked), (wi_rm101_2_4_0 rm cy g_calmAsked), (wi_rm102_2_4_0 rm cy g_paceAsked), (wi_rm103_2_6_0 rm cy g_trustsAsked), (wi_rm104_2_3_0 rm cy g_gapAsked), (wi_rm105_2_4_0 rm cy g_redsAsked), (wi_rm106_2_6_0 rm cy g_numberAsked), (wi_rm107_2_4_0 rm cy g_wentAsked), (wi_rm108_2_4_0 rm cy g_harmAsked), (wi_rm109_2_4_0 rm cy g_kindofAsked), (wi_rm95_2_3_0 rm cy g_minAsked), (wi_rm112_0_1700_0 rm cy f163), (wi_rm96_2_3_0 rm cy g_maxAsked), (wi_rm110_0_1700_0 rm cy f164), (wi_rm92_2_3_0 rm cy g_andAsked), (wi_rm93_2_2_0 rm cy g_orAsked), (wi_rm0_0_1600_0 rm cy g_tape), (a_this, .inr (10, mfs rm 0 v190 x_taped v157 1 v190 1 x_faultPlace x_namePlace x_awayTold x_away x_coded x_statements x_isCrossing 3 x_askSecond x_redMany x_isOpen x_lastGreen x_greenTo x_isCycleGreen x_stillGreen x_rowMany x_fitMany x_fitRules x_fitGreen x_undoable x_newest x_seeded v160 v161 v162 0 x_qPiled x_qAnswer x_qIsNew x_octets))] H := hP
                          replace hD := k_D hP hD
                          refine lv_aload_n hx hb dX10_ask_141 rfl (lv_at hl 1 rfl) ?_
                          refine lv_aload_n hx hb dX10_ask_142 rfl (lv_at hl 1 rfl) ?_
                          refine k_get C0 fg_X10_282 hP 47 rfl rfl dX10_ask_143 ?_
                          refine k_put C0 fp_X10_13 hP hD hS 47 rfl rfl rfl (Nat.le_of_ble_eq_true rfl) dX10_ask_146 (fun H locs hP hD hS => ?_)
                          replace hP : va_P (dC, dI) vwCl [(wi_rm49_0_6_0 rm cy g_codeFrom), (wi_rm50_0_6_0 rm cy g_codeEnd), (wi_rm116_1_1700_1 rm cy g_qPile), (wi_rm51_0_3200_0 rm cy g_codes), (wi_rm46_0_48_0 rm cy g_walkers), (wi_rm56_0_9_0 rm cy g_now), (wi_rm43_0_8_0 rm cy g_bar), (wi_rm65_0_12_0 rm cy g_waits), (wi_rm44_0_24_0 rm cy g_kinds), (wi_rm61_0_300_0 rm cy g_gaps), (wi_rm66_3_12_0 rm cy g_goes), (wi_rm67_3_12_0 rm cy g_harms), (wi_rm60_3_320_0 rm cy g_isCar), (wi_rm63_3_12_0 rm cy g_isHere), (wi_rm64_0_12_0 rm cy g_crosses), (wi_rm68_3_12_0 rm cy g_presses), (wi_rm69_3_300_0 rm cy g_crossedIn), (wi_rm41_0_4_0 rm cy g_many), (wi_rm62_3_300_0 rm cy g_isGreen), (wi_rm85_2_5_0 rm cy g_firstAsked), (wi_rm86_2_4_0 rm cy g_lastAsked), (wi_rm87_2_5_0 rm cy g_oftenAsked), (wi_rm88_2_5_0 rm cy g_totalAsked), (wi_rm89_2_4_0 rm cy g_mostAsked), (wi_rm90_2_5_0 rm cy g_leastAsked), (wi_rm91_2_3_0 rm cy g_notAsked), (wi_rm94_2_3_0 rm cy g_allAsked), (wi_rm97_2_6_0 rm cy g_secondAsked), (wi_rm98_2_3_0 rm cy g_dayAsked), (wi_rm99_2_5_0 rm cy g_phaseAsked), (wi_rm100_2_6_0 rm cy g_waitedAsked), (wi_rm101_2_4_0 rm cy g_calmAsked), (wi_rm102_2_4_0 rm cy g_paceAsked), (wi_rm103_2_6_0 rm cy g_trustsAsked), (wi_rm104_2_3_0 rm cy g_gapAsked), (wi_rm105_2_4_0 rm cy g_redsAsked), (wi_rm106_2_6_0 rm cy g_numberAsked), (wi_rm107_2_4_0 rm cy g_wentAsked), (wi_rm108_2_4_0 rm cy g_harmAsked), (wi_rm109_2_4_0 rm cy g_kindofAsked), (wi_rm95_2_3_0 rm cy g_minAsked), (wi_rm112_0_1700_0 rm cy f163), (wi_rm96_2_3_0 rm cy g_maxAsked), (wi_rm110_0_1700_0 rm cy f164), (wi_rm92_2_3_0 rm cy g_andAsked), (wi_rm93_2_2_0 rm cy g_orAsked), (wi_rm0_0_1600_0 rm cy g_tape), (a_this, .inr (10, mfs rm 0 v190 x_taped v157 1 v190 1 v190 x_namePlace x_awayTold x_away x_coded x_statements x_isCrossing 3 x_askSecond x_redMany x_isOpen x_lastGreen x_greenTo x_isCycleGreen x_stillGreen x_rowMany x_fitMany x_fitRules x_fitGreen x_undoable x_newest x_seeded v160 v161 v162 0 x_qPiled x_qAnswer x_qIsNew x_octets))] H := hP
                          replace hD := k_D hP hD
                          refine lv_aload_n hx hb dX10_ask_149 rfl (lv_at hl 1 rfl) ?_
                          refine k_get C0 fg_X10_279 hP 47 rfl rfl dX10_ask_150 ?_
                          refine lv_if_eq (tgt := 160) hx hb dX10_ask_153 rfl (fun h9 => absurd h9 (by decide)) (fun _ => ?_)
                          refine lv_ldc2 hx hb C0.2.2.2.1 (C0.2.2.2.2.1 _ wd1404) dX10_ask_156 ?_
                          subst hQ; exact k_lret hx hb hr hlk ((v190, x_taped, v157, 1, v190, 1, v190, 3, x_askSecond, x_redMany, x_isOpen, x_lastGreen, x_greenTo, x_isCycleGreen, x_stillGreen, v160, v161, v162, 0, x_qPiled, x_qAnswer, x_qIsNew, f163, f164, g_qPile, g_waits, g_gaps, g_goes, g_harms, g_isCar, g_isHere, g_crosses, g_presses, g_crossedIn, g_isGreen)) hS ⟨ib_w 0 1600 h269 rfl, ib_w 0 1600 h271 rfl, ib_w 0 1 hx_isOpen rfl, ib_w 0 1 hx_isCycleGreen rfl, ib_w 0 1700 h273 rfl, ib_w 0 1700 h187 rfl, ib_w 0 1700 (ib_c 0 0 0 rfl) rfl, ib_w 0 1700 hx_qPiled rfl, ib_w 0 1 hx_qIsNew rfl, hg_gaps, (hO.symm.trans (by try simp only [show ((-1000000000000000) : Int64).toInt = (-1000000000000000 : Int) from rfl]; try simp only [show (1 : Int32).toInt = (1 : Int) from rfl]; try simp only [show (3 : Int32).toInt = (3 : Int) from rfl]; try simp only [show (0 : Int32).toInt = (0 : Int) from rfl]; exact hq))⟩ (hP.sub [47, 46, 19, 20, 21, 22, 23, 24, 27, 28, 29, 30, 31, 32, 33, 34, 35, 36, 37, 38, 39, 40, 41, 42, 43, 0, 1, 2, 3, 4, 5, 6, 7, 8, 9, 10, 11, 12, 13, 14, 15, 16, 17, 18, 25, 26, 44, 45] rfl) (hD.sub [47, 46, 19, 20, 21, 22, 23, 24, 27, 28, 29, 30, 31, 32, 33, 34, 35, 36, 37, 38, 39, 40, 41, 42, 43, 0, 1, 2, 3, 4, 5, 6, 7, 8, 9, 10, 11, 12, 13, 14, 15, 16, 17, 18, 25, 26, 44, 45] (by decide +kernel) rfl) (Nat.le_of_ble_eq_true rfl) (Nat.le_of_ble_eq_true rfl) dX10_ask_159
  · replace hq := lf_pos hq (lf_eq (lf_rf x_isCrossing) (lf_lc 0 (0 : Int) rfl) c23)
    have h276 := ib_eq hx_isCrossing (ib_c 0 0 0 rfl) c23
    have h277 : ib x_isCrossing 0 0 := ib_w 0 0 h276.1 rfl
    refine lv_aload_n hx hb dX10_ask_7 rfl (lv_at hl 0 rfl) ?_
    refine lv_iconst (v := 0) hx hb dX10_ask_8 rfl ?_
    refine k_put C0 fp_X10_276 hP hD hS 0 rfl rfl rfl (Nat.le_of_ble_eq_true rfl) dX10_ask_9 (fun H locs hP hD hS => ?_)
    replace hP : va_P (dC, dI) vwCl [(a_this, .inr (10, mfs rm 0 x_at x_end x_ended x_bad x_badPlace x_fault x_faultPlace x_namePlace x_awayTold x_away x_coded x_statements x_isCrossing x_textKind x_askSecond x_redMany x_isOpen x_lastGreen x_greenTo x_isCycleGreen x_stillGreen x_rowMany x_fitMany x_fitRules x_fitGreen x_undoable x_newest x_seeded x_qCoded x_qWaits x_qOpened x_qBase x_qPiled x_qAnswer x_qIsNew x_octets)), (wi_rm0_0_1600_0 rm cy g_tape), (wi_rm85_2_5_0 rm cy g_firstAsked), (wi_rm86_2_4_0 rm cy g_lastAsked), (wi_rm87_2_5_0 rm cy g_oftenAsked), (wi_rm88_2_5_0 rm cy g_totalAsked), (wi_rm89_2_4_0 rm cy g_mostAsked), (wi_rm90_2_5_0 rm cy g_leastAsked), (wi_rm97_2_6_0 rm cy g_secondAsked), (wi_rm98_2_3_0 rm cy g_dayAsked), (wi_rm99_2_5_0 rm cy g_phaseAsked), (wi_rm100_2_6_0 rm cy g_waitedAsked), (wi_rm101_2_4_0 rm cy g_calmAsked), (wi_rm102_2_4_0 rm cy g_paceAsked), (wi_rm103_2_6_0 rm cy g_trustsAsked), (wi_rm104_2_3_0 rm cy g_gapAsked), (wi_rm105_2_4_0 rm cy g_redsAsked), (wi_rm106_2_6_0 rm cy g_numberAsked), (wi_rm107_2_4_0 rm cy g_wentAsked), (wi_rm108_2_4_0 rm cy g_harmAsked), (wi_rm109_2_4_0 rm cy g_kindofAsked), (wi_rm95_2_3_0 rm cy g_minAsked), (wi_rm112_0_1700_0 rm cy g_qWait), (wi_rm96_2_3_0 rm cy g_maxAsked), (wi_rm110_0_1700_0 rm cy g_qCodes), (wi_rm49_0_6_0 rm cy g_codeFrom), (wi_rm50_0_6_0 rm cy g_codeEnd), (wi_rm116_1_1700_1 rm cy g_qPile), (wi_rm51_0_3200_0 rm cy g_codes), (wi_rm46_0_48_0 rm cy g_walkers), (wi_rm56_0_9_0 rm cy g_now), (wi_rm43_0_8_0 rm cy g_bar), (wi_rm65_0_12_0 rm cy g_waits), (wi_rm44_0_24_0 rm cy g_kinds), (wi_rm61_0_300_0 rm cy g_gaps), (wi_rm66_3_12_0 rm cy g_goes), (wi_rm67_3_12_0 rm cy g_harms), (wi_rm60_3_320_0 rm cy g_isCar), (wi_rm63_3_12_0 rm cy g_isHere), (wi_rm64_0_12_0 rm cy g_crosses), (wi_rm68_3_12_0 rm cy g_presses), (wi_rm69_3_300_0 rm cy g_crossedIn), (wi_rm41_0_4_0 rm cy g_many), (wi_rm62_3_300_0 rm cy g_isGreen), (wi_rm91_2_3_0 rm cy g_notAsked), (wi_rm94_2_3_0 rm cy g_allAsked), (wi_rm92_2_3_0 rm cy g_andAsked), (wi_rm93_2_2_0 rm cy g_orAsked)] H := hP
    replace hD := k_D hP hD
    refine lv_ldc2 hx hb C0.2.2.2.1 (C0.2.2.2.2.1 _ wd1404) dX10_ask_12 ?_
    subst hQ; exact k_lret hx hb hr hlk ((x_at, x_end, x_ended, x_bad, x_badPlace, x_fault, x_faultPlace, x_textKind, x_askSecond, x_redMany, x_isOpen, x_lastGreen, x_greenTo, x_isCycleGreen, x_stillGreen, x_qCoded, x_qWaits, x_qOpened, x_qBase, x_qPiled, x_qAnswer, x_qIsNew, g_qWait, g_qCodes, g_qPile, g_waits, g_gaps, g_goes, g_harms, g_isCar, g_isHere, g_crosses, g_presses, g_crossedIn, g_isGreen)) hS ⟨ib_w 0 1600 hx_at rfl, ib_w 0 1600 hx_end rfl, ib_w 0 1 hx_isOpen rfl, ib_w 0 1 hx_isCycleGreen rfl, ib_w 0 1700 hx_qCoded rfl, ib_w 0 1700 hx_qWaits rfl, ib_w 0 1700 hx_qBase rfl, ib_w 0 1700 hx_qPiled rfl, ib_w 0 1 hx_qIsNew rfl, hg_gaps, (hO.symm.trans (by try simp only [show ((-1000000000000000) : Int64).toInt = (-1000000000000000 : Int) from rfl]; exact hq))⟩ hP hD (Nat.le_of_ble_eq_true rfl) (Nat.le_of_ble_eq_true rfl) dX10_ask_15
set_option maxHeartbeats 4000000 in
set_option maxRecDepth 100000 in
theorem s_X10_number_a0_10_a1_120 (l : Launch) (dC : Nat → ClassId) (dI : Nat → Nat → Nat) (cy : Nat → ClassId) (sq : Nat → Nat) (a_this : Nat) (rm : Nat → Nat) (x_taped : Int32) (x_at : Int32) (x_end : Int32) (x_ended : Int32) (x_bad : Int32) (x_badPlace : Int32) (x_fault : Int32) (x_faultPlace : Int32) (x_namePlace : Int32) (x_awayTold : Int32) (x_away : Int32) (x_coded : Int32) (x_statements : Int32) (x_isCrossing : Int32) (x_textKind : Int32) (x_askSecond : Int32) (x_redMany : Int32) (x_isOpen : Int32) (x_lastGreen : Int32) (x_greenTo : Int32) (x_isCycleGreen : Int32) (x_stillGreen : Int32) (x_rowMany : Int32) (x_fitMany : Int32) (x_fitRules : Int32) (x_fitGreen : Int32) (x_undoable : Int32) (x_newest : Int32) (x_seeded : Int64) (x_qCoded : Int32) (x_qWaits : Int32) (x_qOpened : Int32) (x_qBase : Int32) (x_qPiled : Int32) (x_qAnswer : Int64) (x_qIsNew : Int32) (x_octets : Int32) (g_tape : Nat → Int32) (hx_at : ib x_at 0 1600) (hx_end : ib x_end 0 1600) (hg_tape : ia g_tape 1600 0 255) : k_Met l yX10_number cX10_number 5 (some .int) { frames := 1, cells := 0, slots := 0, locals := 25 } dC dI cy sq [.ref a_this, .int 10, .int 120] [(a_this, .inr (10, mfs rm x_taped x_at x_end x_ended x_bad x_badPlace x_fault x_faultPlace x_namePlace x_awayTold x_away x_coded x_statements x_isCrossing x_textKind x_askSecond x_redMany x_isOpen x_lastGreen x_greenTo x_isCycleGreen x_stillGreen x_rowMany x_fitMany x_fitRules x_fitGreen x_undoable x_newest x_seeded x_qCoded x_qWaits x_qOpened x_qBase x_qPiled x_qAnswer x_qIsNew x_octets)), (wi_rm0_0_1600_0 rm cy g_tape)] (k_Qi dC dI (fun (r : Int32) (u : Int32 × Int32 × Int32 × Int32) => match u with | (n0, n1, n2, n3) => ib n0 0 1600 ∧ (n2 = 0 → x_bad = 0) ∧ (n2 = 0 → ib r 10 120) ∧ (1 * x_at.toInt + (-1) * n0.toInt ≤ 0) ∧ (n2 = 0 → 1 * x_at.toInt + (-1) * n0.toInt ≤ (-1)) ∧ (F_X10_number_a0_10_a1_120 (Int32.toInt x_at) (Int32.toInt x_end) (Int32.toInt x_ended) (Int32.toInt x_bad) (Int32.toInt x_badPlace) (lf_A g_tape) = ((Int32.toInt r), (Int32.toInt n0), (Int32.toInt n1), (Int32.toInt n2), (Int32.toInt n3)))) (fun u : Int32 × Int32 × Int32 × Int32 => match u with | (n0, n1, n2, n3) => [(a_this, .inr (10, mfs rm x_taped n0 x_end n1 n2 n3 x_fault x_faultPlace x_namePlace x_awayTold x_away x_coded x_statements x_isCrossing x_textKind x_askSecond x_redMany x_isOpen x_lastGreen x_greenTo x_isCycleGreen x_stillGreen x_rowMany x_fitMany x_fitRules x_fitGreen x_undoable x_newest x_seeded x_qCoded x_qWaits x_qOpened x_qBase x_qPiled x_qAnswer x_qIsNew x_octets)), (wi_rm0_0_1600_0 rm cy g_tape)])) := by
  refine k_ofW2 (by decide +kernel) (Nat.le_of_ble_eq_true rfl) ?_
  intro p e s m below meth c A ls H locs args Q hQ C0 hZ hr hlk hin hP hD hA hS hl
  have C0 : k_cx p s m args c cX10_number 5 RX10 dC dI cy sq := C0
  have hx := C0.1
  have hb := C0.2.1
  have hl : lv_has ls 5 [(0, .ref a_this), (1, .int 10), (2, .int 120)] := hl
  obtain ⟨O, hO⟩ : ∃ o, o = F_X10_number_a0_10_a1_120 (Int32.toInt x_at) (Int32.toInt x_end) (Int32.toInt x_ended) (Int32.toInt x_bad) (Int32.toInt x_badPlace) (lf_A g_tape) := ⟨_, rfl⟩
  have hq := hO
  unfold F_X10_number_a0_10_a1_120 at hq
  have jn49 : ∀ (n : Nat) (J49_l3 : Int32) (J49_c0_2 : Int32) (J49_l4 : Int32) (H : Heap) (locs : List Loc) (ls : Array Slot), ib J49_l3 0 1599 → ib J49_c0_2 0 1600 → ib x_end 1 1600 → ib x_bad 0 0 → (1 * x_at.toInt + (-1) * J49_l3.toInt ≤ 0) → (1 * x_at.toInt + (-1) * J49_c0_2.toInt ≤ 0) → (O = F_X10_number_a0_10_a1_120_49 (Int32.toInt x_end) (Int32.toInt x_ended) (Int32.toInt x_bad) (Int32.toInt x_badPlace) (lf_A g_tape) n (Int32.toInt J49_l3) (Int32.toInt J49_c0_2) (Int32.toInt J49_l4)) → (J49_l3.toInt + 1 ≤ J49_c0_2.toInt ∨ (J49_l3 = J49_c0_2 ∧ ib (g_tape (Int32.toNatClampNeg J49_c0_2)) 48 57 ∧ J49_c0_2.toInt < x_end.toInt)) → 1601 ≤ J49_c0_2.toInt + (n : Int) → va_P (dC, dI) vwCl [(a_this, .inr (10, mfs rm x_taped J49_c0_2 x_end x_ended x_bad x_badPlace x_fault x_faultPlace x_namePlace x_awayTold x_away x_coded x_statements x_isCrossing x_textKind x_askSecond x_redMany x_isOpen x_lastGreen x_greenTo x_isCycleGreen x_stillGreen x_rowMany x_fitMany x_fitRules x_fitGreen x_undoable x_newest x_seeded x_qCoded x_qWaits x_qOpened x_qBase x_qPiled x_qAnswer x_qIsNew x_octets)), (wi_rm0_0_1600_0 rm cy g_tape)] H → va_D A [(a_this, .inr (10, mfs rm x_taped J49_c0_2 x_end x_ended x_bad x_badPlace x_fault x_faultPlace x_namePlace x_awayTold x_away x_coded x_statements x_isCrossing x_textKind x_askSecond x_redMany x_isOpen x_lastGreen x_greenTo x_isCycleGreen x_stillGreen x_rowMany x_fitMany x_fitRules x_fitGreen x_undoable x_newest x_seeded x_qCoded x_qWaits x_qOpened x_qBase x_qPiled x_qAnswer x_qIsNew x_octets)), (wi_rm0_0_1600_0 rm cy g_tape)] → va_S A s.heap H locs → lv_has ls 5 [(0, .ref a_this), (1, .int 10), (2, .int 120), (3, .int J49_l3), (4, .int J49_l4)] → W p l e { frames := 1, cells := 0, slots := 0, locals := 25 } s m args below meth c H locs 0 0 Q (F0 m 49 ls []) := by
    as_aux_lemma =>
      intro n
      induction n with
      | zero =>
        intro J49_l3 J49_c0_2 J49_l4 H locs ls hJ49_l3 hJ49_c0_2 hK49_x_end hK49_x_bad hJ49_lin0 hJ49_lin1 hq hJ49_gh hm
        exact absurd hm (by have := hJ49_c0_2; unfold ib at this; omega)
      | succ n ih =>
        intro J49_l3 J49_c0_2 J49_l4 H locs ls hJ49_l3 hJ49_c0_2 hK49_x_end hK49_x_bad hJ49_lin0 hJ49_lin1 hq hJ49_gh hm49 hP hD hS hl
        have ih49 := ih
        obtain ⟨K49, hK49⟩ : ∃ K, K = F_X10_number_a0_10_a1_120_49 (Int32.toInt x_end) (Int32.toInt x_ended) (Int32.toInt x_bad) (Int32.toInt x_badPlace) (lf_A g_tape) n := ⟨_, rfl⟩
        have hq : O = F_X10_number_a0_10_a1_120_49b (Int32.toInt x_end) (Int32.toInt x_ended) (Int32.toInt x_bad) (Int32.toInt x_badPlace) (lf_A g_tape) K49 (Int32.toInt J49_l3) (Int32.toInt J49_c0_2) (Int32.toInt J49_l4) := by rw [hK49]; exact hq
        unfold F_X10_number_a0_10_a1_120_49b at hq
        refine lv_aload_n hx hb dX10_number_49 rfl (lv_at hl 0 rfl) ?_
        refine k_get C0 fg_X10_285 hP 0 rfl rfl dX10_number_50 ?_
        refine lv_aload_n hx hb dX10_number_53 rfl (lv_at hl 0 rfl) ?_
        refine k_get C0 fg_X10_288 hP 0 rfl rfl dX10_number_54 ?_
        refine lv_icmp_ge (tgt := 129) hx hb dX10_number_57 rfl (fun c1 => ?_) (fun c1 => ?_)
        · as_aux_lemma =>
            replace hq := lf_pos hq (lf_le (lf_rf x_end) (lf_rf J49_c0_2) c1)
            have h2 := ib_le hK49_x_end hJ49_c0_2 c1
            have h3 : ib J49_c0_2 1 1600 := ib_w 1 1600 h2.2 rfl
            have h4 : ib x_at 0 1599 := ⟨(hx_at).1, by have := (hx_at).2; have := hJ49_lin0; have := (hJ49_l3).2; omega⟩
            have h5 : J49_l3.toInt + 1 ≤ J49_c0_2.toInt := by rcases hJ49_gh with q | q; exact q; exact absurd q.2.2 (by have := (hK49_x_end).1; have := (hK49_x_end).2; have := (h3).1; have := (h3).2; have := hJ49_lin1; have := (h4).1; have := (h4).2; have := hJ49_lin0; have := (hJ49_l3).1; have := (hJ49_l3).2; have := Int32.le_iff_toInt_le.mp c1; omega)
            have h6 : 1 * J49_l3.toInt + (-1) * J49_c0_2.toInt ≤ (-1) := by omega
            refine lv_aload_n hx hb dX10_number_129 rfl (lv_at hl 0 rfl) ?_
            refine lv_aload_n hx hb dX10_number_130 rfl (lv_at hl 0 rfl) ?_
            refine k_get C0 fg_X10_285 hP 0 rfl rfl dX10_number_131 ?_
            refine k_put C0 fp_X10_299 hP hD hS 0 rfl rfl rfl (Nat.le_of_ble_eq_true rfl) dX10_number_134 (fun H locs hP hD hS => ?_)
            replace hP : va_P (dC, dI) vwCl [(a_this, .inr (10, mfs rm x_taped J49_c0_2 x_end J49_c0_2 x_bad x_badPlace x_fault x_faultPlace x_namePlace x_awayTold x_away x_coded x_statements x_isCrossing x_textKind x_askSecond x_redMany x_isOpen x_lastGreen x_greenTo x_isCycleGreen x_stillGreen x_rowMany x_fitMany x_fitRules x_fitGreen x_undoable x_newest x_seeded x_qCoded x_qWaits x_qOpened x_qBase x_qPiled x_qAnswer x_qIsNew x_octets)), (wi_rm0_0_1600_0 rm cy g_tape)] H := hP
            replace hD := k_D hP hD
            refine lv_iload hx hb dX10_number_137 (lv_at hl 4 rfl) ?_
            refine lv_i2l (v := J49_l4.toInt64) hx hb dX10_number_139 rfl ?_
            refine lv_iload_n hx hb dX10_number_140 rfl (lv_at hl 1 rfl) ?_
            refine lv_i2l (v := 10) hx hb dX10_number_141 (by decide) ?_
            refine lv_iload_n hx hb dX10_number_142 rfl (lv_at hl 2 rfl) ?_
            refine lv_i2l (v := 120) hx hb dX10_number_143 (by decide) ?_
            refine k_jim hP hD hS hA [] [true, true] rfl rfl rfl 0 0 (Nat.le_of_ble_eq_true rfl) (Nat.le_of_ble_eq_true rfl) (fun hPc hDc => k_runS (As := [.long J49_l4.toInt64, .long 10, .long 120]) (rest := []) C0 hZ hS hA (c_isIn l dC dI cy sq J49_l4.toInt64 10 120) mS_X10_318 hPc hDc hl rfl rfl (Nat.le_of_ble_eq_true rfl) ⟨(Nat.le_of_ble_eq_true rfl), (Nat.le_of_ble_eq_true rfl)⟩ ⟨(Nat.le_of_ble_eq_true rfl), (Nat.le_of_ble_eq_true rfl)⟩ dX10_number_144) (fun r7 u8 H locs hw hP hD hS => ?_)
            replace hP : va_P (dC, dI) vwCl [(a_this, .inr (10, mfs rm x_taped J49_c0_2 x_end J49_c0_2 x_bad x_badPlace x_fault x_faultPlace x_namePlace x_awayTold x_away x_coded x_statements x_isCrossing x_textKind x_askSecond x_redMany x_isOpen x_lastGreen x_greenTo x_isCycleGreen x_stillGreen x_rowMany x_fitMany x_fitRules x_fitGreen x_undoable x_newest x_seeded x_qCoded x_qWaits x_qOpened x_qBase x_qPiled x_qAnswer x_qIsNew x_octets)), (wi_rm0_0_1600_0 rm cy g_tape)] H := hP
            replace hD := k_D hP hD
            have h9 := hw
            have h10 : ib r7 0 1 := by rw [h9]; exact k_isf_01 _ _ _
            have Er7 := lf_isine h9 (lf_i2l (lf_rf J49_l4)) (lf_ll 10 (10 : Int) rfl) (lf_ll 120 (120 : Int) rfl)
            refine lv_if_ne (tgt := 156) hx hb dX10_number_147 rfl (fun c11 => ?_) (fun c11 => ?_)
            · replace hq := lf_neg hq (lf_ne Er7 (lf_lc 0 (0 : Int) rfl) c11)
              have h12 : ib r7 1 1 := ib_w 1 1 (ib_ne_lo 0 h10 rfl c11) rfl
              have h13 : ib J49_l4 10 120 := ib_w 10 120 (ib_two (ib_any J49_l4) (k_isf_v h9 (show 10 ≤ (10 : Int64).toInt by decide) (show (120 : Int64).toInt ≤ 120 by decide) (ib_nz h12 rfl))) rfl
              refine lv_iload hx hb dX10_number_156 (lv_at hl 4 rfl) ?_
              subst hQ; exact k_iret hx hb hr hlk rfl ((J49_c0_2, J49_c0_2, x_bad, x_badPlace)) hS ⟨ib_w 0 1600 h3 rfl, fun q => q, fun _ => ib_w 10 120 h13 rfl, (by have := hJ49_lin1; omega), fun hq9 => (by have := hJ49_lin1; have := h6; have := hJ49_lin0; omega), (hO.symm.trans (by exact hq))⟩ hP hD (Nat.le_of_ble_eq_true rfl) (Nat.le_of_ble_eq_true rfl) dX10_number_158
            · replace hq := lf_pos hq (lf_eq Er7 (lf_lc 0 (0 : Int) rfl) c11)
              have h14 := ib_eq h10 (ib_c 0 0 0 rfl) c11
              have h15 : ib r7 0 0 := ib_w 0 0 h14.1 rfl
              refine lv_aload_n hx hb dX10_number_150 rfl (lv_at hl 0 rfl) ?_
              refine lv_iconst (v := 2) hx hb dX10_number_151 rfl ?_
              refine lv_iload_n hx hb dX10_number_152 rfl (lv_at hl 3 rfl) ?_
              refine k_jvm hP hD hS hA [0] [false, true] rfl rfl rfl 0 0 (Nat.le_of_ble_eq_true rfl) (Nat.le_of_ble_eq_true rfl) (fun hPc hDc => k_runV (As := [.int 2, .int J49_l3]) (rest := []) C0 hZ hS hA (s_X10_fail_a0_2_f_bad_0_0 l dC dI cy sq a_this rm x_taped J49_c0_2 x_end J49_c0_2 x_bad x_badPlace x_fault x_faultPlace x_namePlace x_awayTold x_away x_coded x_statements x_isCrossing x_textKind x_askSecond x_redMany x_isOpen x_lastGreen x_greenTo x_isCycleGreen x_stillGreen x_rowMany x_fitMany x_fitRules x_fitGreen x_undoable x_newest x_seeded x_qCoded x_qWaits x_qOpened x_qBase x_qPiled x_qAnswer x_qIsNew x_octets J49_l3 (ib_w 0 0 hK49_x_bad rfl)) mV_X10_308 hPc hDc rfl rfl rfl hl rfl rfl (Nat.le_of_ble_eq_true rfl) ⟨(Nat.le_of_ble_eq_true rfl), (Nat.le_of_ble_eq_true rfl)⟩ ⟨(Nat.le_of_ble_eq_true rfl), (Nat.le_of_ble_eq_true rfl)⟩ dX10_number_153) (fun u17 H locs hw hP hD hS => ?_)
              try dsimp only at hP hD hw
              replace hP : va_P (dC, dI) vwCl [(wi_rm0_0_1600_0 rm cy g_tape), (a_this, .inr (10, mfs rm x_taped J49_c0_2 x_end J49_c0_2 2 J49_l3 x_fault x_faultPlace x_namePlace x_awayTold x_away x_coded x_statements x_isCrossing x_textKind x_askSecond x_redMany x_isOpen x_lastGreen x_greenTo x_isCycleGreen x_stillGreen x_rowMany x_fitMany x_fitRules x_fitGreen x_undoable x_newest x_seeded x_qCoded x_qWaits x_qOpened x_qBase x_qPiled x_qAnswer x_qIsNew x_octets))] H := hP
              replace hD := k_D hP hD
              refine lv_iload hx hb dX10_number_156 (lv_at hl 4 rfl) ?_
              subst hQ; exact k_iret hx hb hr hlk rfl ((J49_c0_2, J49_c0_2, 2, J49_l3)) hS ⟨ib_w 0 1600 h3 rfl, fun q => absurd q (by decide), fun q => absurd q (by decide), (by have := hJ49_lin1; omega), fun q => absurd q (by decide), (hO.symm.trans (by try simp only [show (2 : Int32).toInt = (2 : Int) from rfl]; exact hq))⟩ (hP.sub [1, 0] rfl) (hD.sub [1, 0] rfl rfl) (Nat.le_of_ble_eq_true rfl) (Nat.le_of_ble_eq_true rfl) dX10_number_158
        · as_aux_lemma =>
            replace hq := lf_neg hq (lf_nle (lf_rf x_end) (lf_rf J49_c0_2) c1)
            have h18 := ib_nle hK49_x_end hJ49_c0_2 c1
            have h19 : ib J49_c0_2 0 1599 := ib_w 0 1599 h18.2 rfl
            have h20 : ib x_at 0 1599 := ⟨(hx_at).1, by have := (hx_at).2; have := hJ49_lin0; have := (hJ49_l3).2; omega⟩
            refine lv_aload_n hx hb dX10_number_60 rfl (lv_at hl 0 rfl) ?_
            refine k_get C0 fg_X10_7 hP 0 rfl rfl dX10_number_61 ?_
            refine lv_aload_n hx hb dX10_number_64 rfl (lv_at hl 0 rfl) ?_
            refine k_get C0 fg_X10_285 hP 0 rfl rfl dX10_number_65 ?_
            refine va_iald hx hb C0.2.2.2.2.2.1 hP 1 0 rfl rfl (ib_in 1600 h19 rfl) dX10_number_68 ?_
            refine lv_topi (fun z21 ez21 => ?_)
            have h22 : ib z21 0 255 := by rw [ez21]; exact ia_at hg_tape (ib_in 1600 h19 rfl)
            have Ez21 := lf_ld ez21 (lf_ra g_tape) (lf_rf J49_c0_2)
            refine k_jim hP hD hS hA [] [true, true] rfl rfl rfl 0 0 (Nat.le_of_ble_eq_true rfl) (Nat.le_of_ble_eq_true rfl) (fun hPc hDc => k_runS (As := [.int z21]) (rest := []) C0 hZ hS hA (s_X10_isDigit l dC dI cy sq z21 ) mS_X10_315 hPc hDc hl rfl rfl (Nat.le_of_ble_eq_true rfl) ⟨(Nat.le_of_ble_eq_true rfl), (Nat.le_of_ble_eq_true rfl)⟩ ⟨(Nat.le_of_ble_eq_true rfl), (Nat.le_of_ble_eq_true rfl)⟩ dX10_number_69) (fun r23 u24 H locs hw hP hD hS => ?_)
            try dsimp only at hP hD hw
            replace hP : va_P (dC, dI) vwCl [(a_this, .inr (10, mfs rm x_taped J49_c0_2 x_end x_ended x_bad x_badPlace x_fault x_faultPlace x_namePlace x_awayTold x_away x_coded x_statements x_isCrossing x_textKind x_askSecond x_redMany x_isOpen x_lastGreen x_greenTo x_isCycleGreen x_stillGreen x_rowMany x_fitMany x_fitRules x_fitGreen x_undoable x_newest x_seeded x_qCoded x_qWaits x_qOpened x_qBase x_qPiled x_qAnswer x_qIsNew x_octets)), (wi_rm0_0_1600_0 rm cy g_tape)] H := hP
            replace hD := k_D hP hD
            obtain ⟨h25, h26, h27, h28⟩ := hw
            have h28 := by have h9 := h28; rw [lf_u Ez21] at h9; exact h9
            replace hq := lf_b1 hq h28
            refine lv_if_eq (tgt := 129) hx hb dX10_number_72 rfl (fun c29 => ?_) (fun c29 => ?_)
            · as_aux_lemma =>
                replace hq := lf_pos hq (lf_eq (lf_rf r23) (lf_lc 0 (0 : Int) rfl) c29)
                have h30 := ib_eq h25 (ib_c 0 0 0 rfl) c29
                have h31 : ib r23 0 0 := ib_w 0 0 h30.1 rfl
                have h32 : J49_l3.toInt + 1 ≤ J49_c0_2.toInt := by rcases hJ49_gh with q | q; exact q; exact absurd (show ib z21 48 57 by rw [ez21]; exact q.2.1) (h27 (ib_one h31 rfl))
                have h33 : 1 * J49_l3.toInt + (-1) * J49_c0_2.toInt ≤ (-1) := by omega
                refine lv_aload_n hx hb dX10_number_129 rfl (lv_at hl 0 rfl) ?_
                refine lv_aload_n hx hb dX10_number_130 rfl (lv_at hl 0 rfl) ?_
                refine k_get C0 fg_X10_285 hP 0 rfl rfl dX10_number_131 ?_
                refine k_put C0 fp_X10_299 hP hD hS 0 rfl rfl rfl (Nat.le_of_ble_eq_true rfl) dX10_number_134 (fun H locs hP hD hS => ?_)
                replace hP : va_P (dC, dI) vwCl [(a_this, .inr (10, mfs rm x_taped J49_c0_2 x_end J49_c0_2 x_bad x_badPlace x_fault x_faultPlace x_namePlace x_awayTold x_away x_coded x_statements x_isCrossing x_textKind x_askSecond x_redMany x_isOpen x_lastGreen x_greenTo x_isCycleGreen x_stillGreen x_rowMany x_fitMany x_fitRules x_fitGreen x_undoable x_newest x_seeded x_qCoded x_qWaits x_qOpened x_qBase x_qPiled x_qAnswer x_qIsNew x_octets)), (wi_rm0_0_1600_0 rm cy g_tape)] H := hP
                replace hD := k_D hP hD
                refine lv_iload hx hb dX10_number_137 (lv_at hl 4 rfl) ?_
                refine lv_i2l (v := J49_l4.toInt64) hx hb dX10_number_139 rfl ?_
                refine lv_iload_n hx hb dX10_number_140 rfl (lv_at hl 1 rfl) ?_
                refine lv_i2l (v := 10) hx hb dX10_number_141 (by decide) ?_
                refine lv_iload_n hx hb dX10_number_142 rfl (lv_at hl 2 rfl) ?_
                refine lv_i2l (v := 120) hx hb dX10_number_143 (by decide) ?_
                refine k_jim hP hD hS hA [] [true, true] rfl rfl rfl 0 0 (Nat.le_of_ble_eq_true rfl) (Nat.le_of_ble_eq_true rfl) (fun hPc hDc => k_runS (As := [.long J49_l4.toInt64, .long 10, .long 120]) (rest := []) C0 hZ hS hA (c_isIn l dC dI cy sq J49_l4.toInt64 10 120) mS_X10_318 hPc hDc hl rfl rfl (Nat.le_of_ble_eq_true rfl) ⟨(Nat.le_of_ble_eq_true rfl), (Nat.le_of_ble_eq_true rfl)⟩ ⟨(Nat.le_of_ble_eq_true rfl), (Nat.le_of_ble_eq_true rfl)⟩ dX10_number_144) (fun r34 u35 H locs hw hP hD hS => ?_)
                replace hP : va_P (dC, dI) vwCl [(a_this, .inr (10, mfs rm x_taped J49_c0_2 x_end J49_c0_2 x_bad x_badPlace x_fault x_faultPlace x_namePlace x_awayTold x_away x_coded x_statements x_isCrossing x_textKind x_askSecond x_redMany x_isOpen x_lastGreen x_greenTo x_isCycleGreen x_stillGreen x_rowMany x_fitMany x_fitRules x_fitGreen x_undoable x_newest x_seeded x_qCoded x_qWaits x_qOpened x_qBase x_qPiled x_qAnswer x_qIsNew x_octets)), (wi_rm0_0_1600_0 rm cy g_tape)] H := hP
                replace hD := k_D hP hD
                have h36 := hw
                have h37 : ib r34 0 1 := by rw [h36]; exact k_isf_01 _ _ _
                have Er34 := lf_isine h36 (lf_i2l (lf_rf J49_l4)) (lf_ll 10 (10 : Int) rfl) (lf_ll 120 (120 : Int) rfl)
                refine lv_if_ne (tgt := 156) hx hb dX10_number_147 rfl (fun c38 => ?_) (fun c38 => ?_)
                · replace hq := lf_neg hq (lf_ne Er34 (lf_lc 0 (0 : Int) rfl) c38)
                  have h39 : ib r34 1 1 := ib_w 1 1 (ib_ne_lo 0 h37 rfl c38) rfl
                  have h40 : ib J49_l4 10 120 := ib_w 10 120 (ib_two (ib_any J49_l4) (k_isf_v h36 (show 10 ≤ (10 : Int64).toInt by decide) (show (120 : Int64).toInt ≤ 120 by decide) (ib_nz h39 rfl))) rfl
                  have h41 : ib J49_l3 0 1598 := ⟨(hJ49_l3).1, by have := (hJ49_l3).2; have := h33; have := (h19).2; omega⟩
                  have h42 : ib J49_c0_2 1 1599 := ⟨by have := (h19).1; have := h33; have := (h41).1; omega, (h19).2⟩
                  refine lv_iload hx hb dX10_number_156 (lv_at hl 4 rfl) ?_
                  subst hQ; exact k_iret hx hb hr hlk rfl ((J49_c0_2, J49_c0_2, x_bad, x_badPlace)) hS ⟨ib_w 0 1600 h42 rfl, fun q => q, fun _ => ib_w 10 120 h40 rfl, (by have := hJ49_lin1; omega), fun hq9 => (by have := hJ49_lin1; have := h33; have := hJ49_lin0; omega), (hO.symm.trans (by exact hq))⟩ hP hD (Nat.le_of_ble_eq_true rfl) (Nat.le_of_ble_eq_true rfl) dX10_number_158
                · replace hq := lf_pos hq (lf_eq Er34 (lf_lc 0 (0 : Int) rfl) c38)
                  have h43 := ib_eq h37 (ib_c 0 0 0 rfl) c38
                  have h44 : ib r34 0 0 := ib_w 0 0 h43.1 rfl
                  have h45 : ib J49_l3 0 1598 := ⟨(hJ49_l3).1, by have := (hJ49_l3).2; have := h33; have := (h19).2; omega⟩
                  have h46 : ib J49_c0_2 1 1599 := ⟨by have := (h19).1; have := h33; have := (h45).1; omega, (h19).2⟩
                  have h47 : ib x_at 0 1598 := ⟨(h20).1, by have := (h20).2; have := hJ49_lin0; have := (h45).2; omega⟩
                  refine lv_aload_n hx hb dX10_number_150 rfl (lv_at hl 0 rfl) ?_
                  refine lv_iconst (v := 2) hx hb dX10_number_151 rfl ?_
                  refine lv_iload_n hx hb dX10_number_152 rfl (lv_at hl 3 rfl) ?_
                  refine k_jvm hP hD hS hA [0] [false, true] rfl rfl rfl 0 0 (Nat.le_of_ble_eq_true rfl) (Nat.le_of_ble_eq_true rfl) (fun hPc hDc => k_runV (As := [.int 2, .int J49_l3]) (rest := []) C0 hZ hS hA (s_X10_fail_a0_2_f_bad_0_0 l dC dI cy sq a_this rm x_taped J49_c0_2 x_end J49_c0_2 x_bad x_badPlace x_fault x_faultPlace x_namePlace x_awayTold x_away x_coded x_statements x_isCrossing x_textKind x_askSecond x_redMany x_isOpen x_lastGreen x_greenTo x_isCycleGreen x_stillGreen x_rowMany x_fitMany x_fitRules x_fitGreen x_undoable x_newest x_seeded x_qCoded x_qWaits x_qOpened x_qBase x_qPiled x_qAnswer x_qIsNew x_octets J49_l3 (ib_w 0 0 hK49_x_bad rfl)) mV_X10_308 hPc hDc rfl rfl rfl hl rfl rfl (Nat.le_of_ble_eq_true rfl) ⟨(Nat.le_of_ble_eq_true rfl), (Nat.le_of_ble_eq_true rfl)⟩ ⟨(Nat.le_of_ble_eq_true rfl), (Nat.le_of_ble_eq_true rfl)⟩ dX10_number_153) (fun u49 H locs hw hP hD hS => ?_)
                  try dsimp only at hP hD hw
                  replace hP : va_P (dC, dI) vwCl [(wi_rm0_0_1600_0 rm cy g_tape), (a_this, .inr (10, mfs rm x_taped J49_c0_2 x_end J49_c0_2 2 J49_l3 x_fault x_faultPlace x_namePlace x_awayTold x_away x_coded x_statements x_isCrossing x_textKind x_askSecond x_redMany x_isOpen x_lastGreen x_greenTo x_isCycleGreen x_stillGreen x_rowMany x_fitMany x_fitRules x_fitGreen x_undoable x_newest x_seeded x_qCoded x_qWaits x_qOpened x_qBase x_qPiled x_qAnswer x_qIsNew x_octets))] H := hP
                  replace hD := k_D hP hD
                  refine lv_iload hx hb dX10_number_156 (lv_at hl 4 rfl) ?_
                  subst hQ; exact k_iret hx hb hr hlk rfl ((J49_c0_2, J49_c0_2, 2, J49_l3)) hS ⟨ib_w 0 1600 h46 rfl, fun q => absurd q (by decide), fun q => absurd q (by decide), (by have := hJ49_lin1; omega), fun q => absurd q (by decide), (hO.symm.trans (by try simp only [show (2 : Int32).toInt = (2 : Int) from rfl]; exact hq))⟩ (hP.sub [1, 0] rfl) (hD.sub [1, 0] rfl rfl) (Nat.le_of_ble_eq_true rfl) (Nat.le_of_ble_eq_true rfl) dX10_number_158
            · as_aux_lemma =>
                replace hq := lf_neg hq (lf_ne (lf_rf r23) (lf_lc 0 (0 : Int) rfl) c29)
                have h50 : ib r23 1 1 := ib_w 1 1 (ib_ne_lo 0 h25 rfl c29) rfl
                have h51 : ib z21 48 57 := ib_w 48 57 (ib_two h22 (h26 (ib_nz h50 rfl))) rfl
                refine lv_aload_n hx hb dX10_number_75 rfl (lv_at hl 0 rfl) ?_
                refine k_get C0 fg_X10_285 hP 0 rfl rfl dX10_number_76 ?_
                refine lv_iload_n hx hb dX10_number_79 rfl (lv_at hl 3 rfl) ?_
                refine lv_isub hx hb dX10_number_80 ?_
                refine lv_topi (fun z52 ez52 => ?_)
                have h53 := ib_sub h19 hJ49_l3 rfl
                rw [← ez52] at h53
                have h54 : ib z52 (-1599) 1599 := ib_w (-1599) 1599 h53.1 rfl
                have Ez52 := lf_sub h53.2 (lf_rf J49_c0_2) (lf_rf J49_l3)
                refine lv_iconst (v := 4) hx hb dX10_number_81 rfl ?_
                refine lv_icmp_ne (tgt := 96) hx hb dX10_number_82 rfl (fun c55 => ?_) (fun c55 => ?_)
                · as_aux_lemma =>
                    replace hq := lf_neg hq (lf_ne Ez52 (lf_lc 4 (4 : Int) rfl) c55)
                    refine lv_bipush (v := 10) hx hb dX10_number_96 rfl ?_
                    refine lv_iload hx hb dX10_number_98 (lv_at hl 4 rfl) ?_
                    refine lv_imul hx hb dX10_number_100 ?_
                    refine lv_topi (fun z56 ez56 => ?_)
                    have Ez56 := lf_op lf_imul ez56 (lf_lc 10 (10 : Int) rfl) (lf_rf J49_l4)
                    refine lv_aload_n hx hb dX10_number_101 rfl (lv_at hl 0 rfl) ?_
                    refine k_get C0 fg_X10_7 hP 0 rfl rfl dX10_number_102 ?_
                    refine lv_aload_n hx hb dX10_number_105 rfl (lv_at hl 0 rfl) ?_
                    refine k_get C0 fg_X10_285 hP 0 rfl rfl dX10_number_106 ?_
                    refine va_iald hx hb C0.2.2.2.2.2.1 hP 1 0 rfl rfl (ib_in 1600 h19 rfl) dX10_number_109 ?_
                    refine lv_topi (fun z57 ez57 => ?_)
                    obtain rfl : z21 = z57 := ez21.trans ez57.symm
                    refine lv_iadd hx hb dX10_number_110 ?_
                    refine lv_topi (fun z58 ez58 => ?_)
                    have Ez58 := lf_op lf_iadd ez58 Ez56 Ez21
                    refine lv_bipush (v := 48) hx hb dX10_number_111 rfl ?_
                    refine lv_isub hx hb dX10_number_113 ?_
                    refine lv_topi (fun z59 ez59 => ?_)
                    have Ez59 := lf_op lf_isub ez59 Ez58 (lf_lc 48 (48 : Int) rfl)
                    refine lv_istore (lv' := [(4, .int z59), (0, .ref a_this), (1, .int 10), (2, .int 120), (3, .int J49_l3)]) hx hb dX10_number_114 hl (Nat.le_of_ble_eq_true rfl) rfl (fun ls hl => ?_)
                    refine lv_aload_n hx hb dX10_number_116 rfl (lv_at hl 1 rfl) ?_
                    refine lv_dup hx hb dX10_number_117 rfl ?_
                    refine k_get C0 fg_X10_285 hP 0 rfl rfl dX10_number_118 ?_
                    refine lv_iconst (v := 1) hx hb dX10_number_121 rfl ?_
                    refine lv_iadd hx hb dX10_number_122 ?_
                    refine lv_topi (fun z60 ez60 => ?_)
                    have h61 := ib_add h19 (ib_c 1 1 1 rfl) rfl
                    rw [← ez60] at h61
                    have h62 : ib z60 1 1600 := ib_w 1 1600 h61.1 rfl
                    have Ez60 := lf_add h61.2 (lf_rf J49_c0_2) (lf_lc 1 (1 : Int) rfl)
                    refine k_put C0 fp_X10_285 hP hD hS 0 rfl rfl rfl (Nat.le_of_ble_eq_true rfl) dX10_number_123 (fun H locs hP hD hS => ?_)
                    replace hP : va_P (dC, dI) vwCl [(a_this, .inr (10, mfs rm x_taped z60 x_end x_ended x_bad x_badPlace x_fault x_faultPlace x_namePlace x_awayTold x_away x_coded x_statements x_isCrossing x_textKind x_askSecond x_redMany x_isOpen x_lastGreen x_greenTo x_isCycleGreen x_stillGreen x_rowMany x_fitMany x_fitRules x_fitGreen x_undoable x_newest x_seeded x_qCoded x_qWaits x_qOpened x_qBase x_qPiled x_qAnswer x_qIsNew x_octets)), (wi_rm0_0_1600_0 rm cy g_tape)] H := hP
                    replace hD := k_D hP hD
                    refine lv_goto (tgt := 49) hx hb dX10_number_126 rfl ?_
                    exact ih49 J49_l3 z60 z59 H locs ls (ib_w 0 1599 hJ49_l3 rfl) (ib_w 0 1600 h62 rfl) (ib_w 1 1600 hK49_x_end rfl) (ib_w 0 0 hK49_x_bad rfl) (by have := hJ49_lin0; omega) (by have := h61.2; have : (1 : Int32).toInt = 1 := rfl; have := hJ49_lin1; omega) (by rw [← hK49]; rw [lf_u Ez60]; rw [lf_u Ez59]; exact hq) (Or.inl (by have q0 := h61.2; have q1 : (1 : Int32).toInt = 1 := rfl; rcases hJ49_gh with q | q <;> first | omega | (have := congrArg Int32.toInt q.1; omega))) (by have := h61.2; have : (1 : Int32).toInt = 1 := rfl; omega) hP hD hS (lv_sub hl [1, 2, 3, 4, 0] rfl)
                · replace hq := lf_pos hq (lf_eq Ez52 (lf_lc 4 (4 : Int) rfl) c55)
                  have h63 := ib_eq h54 (ib_c 4 4 4 rfl) c55
                  have h64 : ib z52 4 4 := ib_w 4 4 h63.1 rfl
                  have h65 : ib J49_c0_2 4 1599 := ⟨by have := h53.2; have := (h64).1; have := (h64).2; have := (h19).1; have := (h19).2; have := (hJ49_l3).1; have := (hJ49_l3).2; omega, by have := h53.2; have := (h64).1; have := (h64).2; have := (h19).1; have := (h19).2; have := (hJ49_l3).1; have := (hJ49_l3).2; omega⟩
                  have h66 : ib J49_l3 0 1595 := ⟨by have := h53.2; have := (h64).1; have := (h64).2; have := (h19).1; have := (h19).2; have := (hJ49_l3).1; have := (hJ49_l3).2; omega, by have := h53.2; have := (h64).1; have := (h64).2; have := (h19).1; have := (h19).2; have := (hJ49_l3).1; have := (hJ49_l3).2; omega⟩
                  have h67 : ib x_at 0 1595 := ⟨(h20).1, by have := (h20).2; have := hJ49_lin0; have := (h66).2; omega⟩
                  refine lv_aload_n hx hb dX10_number_85 rfl (lv_at hl 0 rfl) ?_
                  refine lv_iconst (v := 1) hx hb dX10_number_86 rfl ?_
                  refine lv_aload_n hx hb dX10_number_87 rfl (lv_at hl 0 rfl) ?_
                  refine k_get C0 fg_X10_285 hP 0 rfl rfl dX10_number_88 ?_
                  refine k_jvm hP hD hS hA [0] [false, true] rfl rfl rfl 0 0 (Nat.le_of_ble_eq_true rfl) (Nat.le_of_ble_eq_true rfl) (fun hPc hDc => k_runV (As := [.int 1, .int J49_c0_2]) (rest := []) C0 hZ hS hA (s_X10_fail_a0_1_f_bad_0_0 l dC dI cy sq a_this rm x_taped J49_c0_2 x_end x_ended x_bad x_badPlace x_fault x_faultPlace x_namePlace x_awayTold x_away x_coded x_statements x_isCrossing x_textKind x_askSecond x_redMany x_isOpen x_lastGreen x_greenTo x_isCycleGreen x_stillGreen x_rowMany x_fitMany x_fitRules x_fitGreen x_undoable x_newest x_seeded x_qCoded x_qWaits x_qOpened x_qBase x_qPiled x_qAnswer x_qIsNew x_octets J49_c0_2 (ib_w 0 0 hK49_x_bad rfl)) mV_X10_308 hPc hDc rfl rfl rfl hl rfl rfl (Nat.le_of_ble_eq_true rfl) ⟨(Nat.le_of_ble_eq_true rfl), (Nat.le_of_ble_eq_true rfl)⟩ ⟨(Nat.le_of_ble_eq_true rfl), (Nat.le_of_ble_eq_true rfl)⟩ dX10_number_91) (fun u69 H locs hw hP hD hS => ?_)
                  try dsimp only at hP hD hw
                  replace hP : va_P (dC, dI) vwCl [(wi_rm0_0_1600_0 rm cy g_tape), (a_this, .inr (10, mfs rm x_taped J49_c0_2 x_end x_ended 1 J49_c0_2 x_fault x_faultPlace x_namePlace x_awayTold x_away x_coded x_statements x_isCrossing x_textKind x_askSecond x_redMany x_isOpen x_lastGreen x_greenTo x_isCycleGreen x_stillGreen x_rowMany x_fitMany x_fitRules x_fitGreen x_undoable x_newest x_seeded x_qCoded x_qWaits x_qOpened x_qBase x_qPiled x_qAnswer x_qIsNew x_octets))] H := hP
                  replace hD := k_D hP hD
                  refine lv_iconst (v := 0) hx hb dX10_number_94 rfl ?_
                  subst hQ; exact k_iret hx hb hr hlk rfl ((J49_c0_2, x_ended, 1, J49_c0_2)) hS ⟨ib_w 0 1600 h65 rfl, fun q => absurd q (by decide), fun q => absurd q (by decide), (by have := hJ49_lin1; omega), fun q => absurd q (by decide), (hO.symm.trans (by try simp only [show (0 : Int32).toInt = (0 : Int) from rfl]; try simp only [show (1 : Int32).toInt = (1 : Int) from rfl]; exact hq))⟩ (hP.sub [1, 0] rfl) (hD.sub [1, 0] rfl rfl) (Nat.le_of_ble_eq_true rfl) (Nat.le_of_ble_eq_true rfl) dX10_number_95
  refine lv_aload_n hx hb dX10_number_0 rfl (lv_at hl 0 rfl) ?_
  refine k_get C0 fg_X10_279 hP 0 rfl rfl dX10_number_1 ?_
  refine lv_if_eq (tgt := 9) hx hb dX10_number_4 rfl (fun c70 => ?_) (fun c70 => ?_)
  · as_aux_lemma =>
      replace hq := lf_pos hq (lf_eq (lf_rf x_bad) (lf_lc 0 (0 : Int) rfl) c70)
      have h71 := ib_eq (ib_any x_bad) (ib_c 0 0 0 rfl) c70
      have h72 : ib x_bad 0 0 := ib_w 0 0 h71.1 rfl
      refine lv_aload_n hx hb dX10_number_9 rfl (lv_at hl 0 rfl) ?_
      refine k_jim hP hD hS hA [0, 1] [] rfl rfl rfl 0 0 (Nat.le_of_ble_eq_true rfl) (Nat.le_of_ble_eq_true rfl) (fun hPc hDc => k_runV (As := []) (rest := []) C0 hZ hS hA (s_X10_look l dC dI cy sq a_this rm x_taped x_at x_end x_ended x_bad x_badPlace x_fault x_faultPlace x_namePlace x_awayTold x_away x_coded x_statements x_isCrossing x_textKind x_askSecond x_redMany x_isOpen x_lastGreen x_greenTo x_isCycleGreen x_stillGreen x_rowMany x_fitMany x_fitRules x_fitGreen x_undoable x_newest x_seeded x_qCoded x_qWaits x_qOpened x_qBase x_qPiled x_qAnswer x_qIsNew x_octets g_tape (ib_w 0 1600 hx_at rfl) (ib_w 0 1600 hx_end rfl) hg_tape) mV_X10_291 hPc hDc rfl rfl rfl hl rfl rfl (Nat.le_of_ble_eq_true rfl) ⟨(Nat.le_of_ble_eq_true rfl), (Nat.le_of_ble_eq_true rfl)⟩ ⟨(Nat.le_of_ble_eq_true rfl), (Nat.le_of_ble_eq_true rfl)⟩ dX10_number_10) (fun r73 u74 H locs hw hP hD hS => ?_)
      obtain ⟨v75, ev75⟩ : ∃ z, z = u74 := ⟨_, rfl⟩; subst ev75
      try dsimp only at hP hD hw
      replace hP : va_P (dC, dI) vwCl [(a_this, .inr (10, mfs rm x_taped v75 x_end x_ended x_bad x_badPlace x_fault x_faultPlace x_namePlace x_awayTold x_away x_coded x_statements x_isCrossing x_textKind x_askSecond x_redMany x_isOpen x_lastGreen x_greenTo x_isCycleGreen x_stillGreen x_rowMany x_fitMany x_fitRules x_fitGreen x_undoable x_newest x_seeded x_qCoded x_qWaits x_qOpened x_qBase x_qPiled x_qAnswer x_qIsNew x_octets)), (wi_rm0_0_1600_0 rm cy g_tape)] H := hP
      replace hD := k_D hP hD
      obtain ⟨h76, h77, h78, h79, h80, h81, h82, h83, h84, h85⟩ := hw
      replace hq := lf_p1 hq h85
      refine k_jim hP hD hS hA [] [true, true] rfl rfl rfl 0 0 (Nat.le_of_ble_eq_true rfl) (Nat.le_of_ble_eq_true rfl) (fun hPc hDc => k_runS (As := [.int r73]) (rest := []) C0 hZ hS hA (s_X10_isDigit l dC dI cy sq r73 ) mS_X10_315 hPc hDc hl rfl rfl (Nat.le_of_ble_eq_true rfl) ⟨(Nat.le_of_ble_eq_true rfl), (Nat.le_of_ble_eq_true rfl)⟩ ⟨(Nat.le_of_ble_eq_true rfl), (Nat.le_of_ble_eq_true rfl)⟩ dX10_number_13) (fun r86 u87 H locs hw hP hD hS => ?_)
      try dsimp only at hP hD hw
      replace hP : va_P (dC, dI) vwCl [(a_this, .inr (10, mfs rm x_taped v75 x_end x_ended x_bad x_badPlace x_fault x_faultPlace x_namePlace x_awayTold x_away x_coded x_statements x_isCrossing x_textKind x_askSecond x_redMany x_isOpen x_lastGreen x_greenTo x_isCycleGreen x_stillGreen x_rowMany x_fitMany x_fitRules x_fitGreen x_undoable x_newest x_seeded x_qCoded x_qWaits x_qOpened x_qBase x_qPiled x_qAnswer x_qIsNew x_octets)), (wi_rm0_0_1600_0 rm cy g_tape)] H := hP
      replace hD := k_D hP hD
      obtain ⟨h88, h89, h90, h91⟩ := hw
      replace hq := lf_b1 hq h91
      refine lv_if_eq (tgt := 30) hx hb dX10_number_16 rfl (fun c92 => ?_) (fun c92 => ?_)
      · replace hq := lf_pos hq (lf_eq (lf_rf r86) (lf_lc 0 (0 : Int) rfl) c92)
        have h93 := ib_eq h88 (ib_c 0 0 0 rfl) c92
        have h94 : ib r86 0 0 := ib_w 0 0 h93.1 rfl
        refine lv_aload_n hx hb dX10_number_30 rfl (lv_at hl 0 rfl) ?_
        refine lv_iconst (v := 1) hx hb dX10_number_31 rfl ?_
        refine lv_aload_n hx hb dX10_number_32 rfl (lv_at hl 0 rfl) ?_
        refine k_get C0 fg_X10_285 hP 0 rfl rfl dX10_number_33 ?_
        refine k_jvm hP hD hS hA [0] [false, true] rfl rfl rfl 0 0 (Nat.le_of_ble_eq_true rfl) (Nat.le_of_ble_eq_true rfl) (fun hPc hDc => k_runV (As := [.int 1, .int v75]) (rest := []) C0 hZ hS hA (s_X10_fail_a0_1_f_bad_0_0 l dC dI cy sq a_this rm x_taped v75 x_end x_ended x_bad x_badPlace x_fault x_faultPlace x_namePlace x_awayTold x_away x_coded x_statements x_isCrossing x_textKind x_askSecond x_redMany x_isOpen x_lastGreen x_greenTo x_isCycleGreen x_stillGreen x_rowMany x_fitMany x_fitRules x_fitGreen x_undoable x_newest x_seeded x_qCoded x_qWaits x_qOpened x_qBase x_qPiled x_qAnswer x_qIsNew x_octets v75 (ib_w 0 0 h72 rfl)) mV_X10_308 hPc hDc rfl rfl rfl hl rfl rfl (Nat.le_of_ble_eq_true rfl) ⟨(Nat.le_of_ble_eq_true rfl), (Nat.le_of_ble_eq_true rfl)⟩ ⟨(Nat.le_of_ble_eq_true rfl), (Nat.le_of_ble_eq_true rfl)⟩ dX10_number_36) (fun u96 H locs hw hP hD hS => ?_)
        try dsimp only at hP hD hw
        replace hP : va_P (dC, dI) vwCl [(wi_rm0_0_1600_0 rm cy g_tape), (a_this, .inr (10, mfs rm x_taped v75 x_end x_ended 1 v75 x_fault x_faultPlace x_namePlace x_awayTold x_away x_coded x_statements x_isCrossing x_textKind x_askSecond x_redMany x_isOpen x_lastGreen x_greenTo x_isCycleGreen x_stillGreen x_rowMany x_fitMany x_fitRules x_fitGreen x_undoable x_newest x_seeded x_qCoded x_qWaits x_qOpened x_qBase x_qPiled x_qAnswer x_qIsNew x_octets))] H := hP
        replace hD := k_D hP hD
        refine lv_iconst (v := 0) hx hb dX10_number_39 rfl ?_
        subst hQ; exact k_iret hx hb hr hlk rfl ((v75, x_ended, 1, v75)) hS ⟨ib_w 0 1600 h76 rfl, fun q => absurd q (by decide), fun q => absurd q (by decide), (by have := h81; omega), fun q => absurd q (by decide), (hO.symm.trans (by try simp only [show (0 : Int32).toInt = (0 : Int) from rfl]; try simp only [show (1 : Int32).toInt = (1 : Int) from rfl]; exact hq))⟩ (hP.sub [1, 0] rfl) (hD.sub [1, 0] rfl rfl) (Nat.le_of_ble_eq_true rfl) (Nat.le_of_ble_eq_true rfl) dX10_number_40
      · as_aux_lemma =>
          replace hq := lf_neg hq (lf_ne (lf_rf r86) (lf_lc 0 (0 : Int) rfl) c92)
          have h97 : ib r86 1 1 := ib_w 1 1 (ib_ne_lo 0 h88 rfl c92) rfl
          have h98 : ib r73 48 57 := ib_w 48 57 (ib_two h77 (h89 (ib_nz h97 rfl))) rfl
          have h99 : ib v75 0 1599 := ib_w 0 1599 (ib_two h76 (h78 (ib_nc (-1) h98 rfl))) rfl
          have h100 : ib x_at 0 1599 := ib_w 0 1599 (ib_two hx_at (h79 (ib_nc (-1) h98 rfl))) rfl
          have h101 : ib x_end 1 1600 := ib_w 1 1600 (ib_two hx_end (h80 (ib_nc (-1) h98 rfl))) rfl
          refine lv_aload_n hx hb dX10_number_19 rfl (lv_at hl 0 rfl) ?_
          refine k_get C0 fg_X10_285 hP 0 rfl rfl dX10_number_20 ?_
          refine lv_aload_n hx hb dX10_number_23 rfl (lv_at hl 0 rfl) ?_
          refine k_get C0 fg_X10_299 hP 0 rfl rfl dX10_number_24 ?_
          refine lv_icmp_ne (tgt := 41) hx hb dX10_number_27 rfl (fun c102 => ?_) (fun c102 => ?_)
          · replace hq := lf_neg hq (lf_ne (lf_rf v75) (lf_rf x_ended) c102)
            refine lv_aload_n hx hb dX10_number_41 rfl (lv_at hl 0 rfl) ?_
            refine k_get C0 fg_X10_285 hP 0 rfl rfl dX10_number_42 ?_
            refine lv_istore_n (lv' := [(3, .int v75), (0, .ref a_this), (1, .int 10), (2, .int 120)]) hx hb dX10_number_45 rfl hl (Nat.le_of_ble_eq_true rfl) rfl (fun ls hl => ?_)
            refine lv_iconst (v := 0) hx hb dX10_number_46 rfl ?_
            refine lv_istore (lv' := [(4, .int 0), (3, .int v75), (0, .ref a_this), (1, .int 10), (2, .int 120)]) hx hb dX10_number_47 hl (Nat.le_of_ble_eq_true rfl) rfl (fun ls hl => ?_)
            exact jn49 1602 v75 v75 0 H locs ls (ib_w 0 1599 h99 rfl) (ib_w 0 1600 h99 rfl) (ib_w 1 1600 h101 rfl) (ib_w 0 0 h72 rfl) (by have := h81; omega) (by have := h81; omega) (by try simp only [show (0 : Int32).toInt = (0 : Int) from rfl]; exact hq) (Or.inr ⟨rfl, by rw [(h82 (ib_nc (-1) h98 rfl)).1]; exact ib_w 48 57 h98 rfl, (h82 (ib_nc (-1) h98 rfl)).2⟩) (by have := h99; unfold ib at this; omega) hP hD hS (lv_sub hl [2, 3, 4, 1, 0] rfl)
          · replace hq := lf_pos hq (lf_eq (lf_rf v75) (lf_rf x_ended) c102)
            have h103 := ib_eq h99 (ib_any x_ended) c102
            have h104 : ib x_ended 0 1599 := ib_w 0 1599 h103.2 rfl
            refine lv_aload_n hx hb dX10_number_30 rfl (lv_at hl 0 rfl) ?_
            refine lv_iconst (v := 1) hx hb dX10_number_31 rfl ?_
            refine lv_aload_n hx hb dX10_number_32 rfl (lv_at hl 0 rfl) ?_
            refine k_get C0 fg_X10_285 hP 0 rfl rfl dX10_number_33 ?_
            refine k_jvm hP hD hS hA [0] [false, true] rfl rfl rfl 0 0 (Nat.le_of_ble_eq_true rfl) (Nat.le_of_ble_eq_true rfl) (fun hPc hDc => k_runV (As := [.int 1, .int v75]) (rest := []) C0 hZ hS hA (s_X10_fail_a0_1_f_bad_0_0 l dC dI cy sq a_this rm x_taped v75 x_end x_ended x_bad x_badPlace x_fault x_faultPlace x_namePlace x_awayTold x_away x_coded x_statements x_isCrossing x_textKind x_askSecond x_redMany x_isOpen x_lastGreen x_greenTo x_isCycleGreen x_stillGreen x_rowMany x_fitMany x_fitRules x_fitGreen x_undoable x_newest x_seeded x_qCoded x_qWaits x_qOpened x_qBase x_qPiled x_qAnswer x_qIsNew x_octets v75 (ib_w 0 0 h72 rfl)) mV_X10_308 hPc hDc rfl rfl rfl hl rfl rfl (Nat.le_of_ble_eq_true rfl) ⟨(Nat.le_of_ble_eq_true rfl), (Nat.le_of_ble_eq_true rfl)⟩ ⟨(Nat.le_of_ble_eq_true rfl), (Nat.le_of_ble_eq_true rfl)⟩ dX10_number_36) (fun u106 H locs hw hP hD hS => ?_)
            try dsimp only at hP hD hw
            replace hP : va_P (dC, dI) vwCl [(wi_rm0_0_1600_0 rm cy g_tape), (a_this, .inr (10, mfs rm x_taped v75 x_end x_ended 1 v75 x_fault x_faultPlace x_namePlace x_awayTold x_away x_coded x_statements x_isCrossing x_textKind x_askSecond x_redMany x_isOpen x_lastGreen x_greenTo x_isCycleGreen x_stillGreen x_rowMany x_fitMany x_fitRules x_fitGreen x_undoable x_newest x_seeded x_qCoded x_qWaits x_qOpened x_qBase x_qPiled x_qAnswer x_qIsNew x_octets))] H := hP
            replace hD := k_D hP hD
            refine lv_iconst (v := 0) hx hb dX10_number_39 rfl ?_
            subst hQ; exact k_iret hx hb hr hlk rfl ((v75, x_ended, 1, v75)) hS ⟨ib_w 0 1600 h99 rfl, fun q => absurd q (by decide), fun q => absurd q (by decide), (by have := h81; omega), fun q => absurd q (by decide), (hO.symm.trans (by try simp only [show (0 : Int32).toInt = (0 : Int) from rfl]; try simp only [show (1 : Int32).toInt = (1 : Int) from rfl]; exact hq))⟩ (hP.sub [1, 0] rfl) (hD.sub [1, 0] rfl rfl) (Nat.le_of_ble_eq_true rfl) (Nat.le_of_ble_eq_true rfl) dX10_number_40
  · replace hq := lf_neg hq (lf_ne (lf_rf x_bad) (lf_lc 0 (0 : Int) rfl) c70)
    refine lv_iconst (v := 0) hx hb dX10_number_7 rfl ?_
    subst hQ; exact k_iret hx hb hr hlk rfl ((x_at, x_ended, x_bad, x_badPlace)) hS ⟨ib_w 0 1600 hx_at rfl, fun q => q, fun q => absurd q c70, (by omega), fun q => absurd q c70, (hO.symm.trans (by try simp only [show (0 : Int32).toInt = (0 : Int) from rfl]; exact hq))⟩ hP hD (Nat.le_of_ble_eq_true rfl) (Nat.le_of_ble_eq_true rfl) dX10_number_8
set_option maxHeartbeats 4000000 in
set_option maxRecDepth 100000 in
theorem s_X10_number_a0_1 (l : Launch) (dC : Nat → ClassId) (dI : Nat → Nat → Nat) (cy : Nat → ClassId) (sq : Nat → Nat) (a_this : Nat) (rm : Nat → Nat) (x_taped : Int32) (x_at : Int32) (x_end : Int32) (x_ended : Int32) (x_bad : Int32) (x_badPlace : Int32) (x_fault : Int32) (x_faultPlace : Int32) (x_namePlace : Int32) (x_awayTold : Int32) (x_away : Int32) (x_coded : Int32) (x_statements : Int32) (x_isCrossing : Int32) (x_textKind : Int32) (x_askSecond : Int32) (x_redMany : Int32) (x_isOpen : Int32) (x_lastGreen : Int32) (x_greenTo : Int32) (x_isCycleGreen : Int32) (x_stillGreen : Int32) (x_rowMany : Int32) (x_fitMany : Int32) (x_fitRules : Int32) (x_fitGreen : Int32) (x_undoable : Int32) (x_newest : Int32) (x_seeded : Int64) (x_qCoded : Int32) (x_qWaits : Int32) (x_qOpened : Int32) (x_qBase : Int32) (x_qPiled : Int32) (x_qAnswer : Int64) (x_qIsNew : Int32) (x_octets : Int32) (g_tape : Nat → Int32) (p1 : Int32) (hx_at : ib x_at 0 1600) (hx_end : ib x_end 0 1600) (hg_tape : ia g_tape 1600 0 255) : k_Met l yX10_number cX10_number 5 (some .int) { frames := 1, cells := 0, slots := 0, locals := 25 } dC dI cy sq [.ref a_this, .int 1, .int p1] [(a_this, .inr (10, mfs rm x_taped x_at x_end x_ended x_bad x_badPlace x_fault x_faultPlace x_namePlace x_awayTold x_away x_coded x_statements x_isCrossing x_textKind x_askSecond x_redMany x_isOpen x_lastGreen x_greenTo x_isCycleGreen x_stillGreen x_rowMany x_fitMany x_fitRules x_fitGreen x_undoable x_newest x_seeded x_qCoded x_qWaits x_qOpened x_qBase x_qPiled x_qAnswer x_qIsNew x_octets)), (wi_rm0_0_1600_0 rm cy g_tape)] (k_Qi dC dI (fun (r : Int32) (u : Int32 × Int32 × Int32 × Int32) => match u with | (n0, n1, n2, n3) => ib n0 0 1600 ∧ (n2 = 0 → x_bad = 0) ∧ (1 * x_at.toInt + (-1) * n0.toInt ≤ 0) ∧ (n2 = 0 → 1 * x_at.toInt + (-1) * n0.toInt ≤ (-1)) ∧ (F_X10_number_a0_1 (Int32.toInt x_at) (Int32.toInt x_end) (Int32.toInt x_ended) (Int32.toInt x_bad) (Int32.toInt x_badPlace) (lf_A g_tape) (Int32.toInt p1) = ((Int32.toInt r), (Int32.toInt n0), (Int32.toInt n1), (Int32.toInt n2), (Int32.toInt n3)))) (fun u : Int32 × Int32 × Int32 × Int32 => match u with | (n0, n1, n2, n3) => [(a_this, .inr (10, mfs rm x_taped n0 x_end n1 n2 n3 x_fault x_faultPlace x_namePlace x_awayTold x_away x_coded x_statements x_isCrossing x_textKind x_askSecond x_redMany x_isOpen x_lastGreen x_greenTo x_isCycleGreen x_stillGreen x_rowMany x_fitMany x_fitRules x_fitGreen x_undoable x_newest x_seeded x_qCoded x_qWaits x_qOpened x_qBase x_qPiled x_qAnswer x_qIsNew x_octets)), (wi_rm0_0_1600_0 rm cy g_tape)])) := by
  refine k_ofW2 (by decide +kernel) (Nat.le_of_ble_eq_true rfl) ?_
  intro p e s m below meth c A ls H locs args Q hQ C0 hZ hr hlk hin hP hD hA hS hl
  have C0 : k_cx p s m args c cX10_number 5 RX10 dC dI cy sq := C0
  have hx := C0.1
  have hb := C0.2.1
  have hl : lv_has ls 5 [(0, .ref a_this), (1, .int 1), (2, .int p1)] := hl
  obtain ⟨O, hO⟩ : ∃ o, o = F_X10_number_a0_1 (Int32.toInt x_at) (Int32.toInt x_end) (Int32.toInt x_ended) (Int32.toInt x_bad) (Int32.toInt x_badPlace) (lf_A g_tape) (Int32.toInt p1) := ⟨_, rfl⟩
  have hq := hO
  unfold F_X10_number_a0_1 at hq
  have jn49 : ∀ (n : Nat) (J49_l3 : Int32) (J49_c0_2 : Int32) (J49_l4 : Int32) (H : Heap) (locs : List Loc) (ls : Array Slot), ib J49_l3 0 1599 → ib J49_c0_2 0 1600 → ib x_end 1 1600 → ib x_bad 0 0 → (1 * x_at.toInt + (-1) * J49_l3.toInt ≤ 0) → (1 * x_at.toInt + (-1) * J49_c0_2.toInt ≤ 0) → (O = F_X10_number_a0_1_49 (Int32.toInt x_end) (Int32.toInt x_ended) (Int32.toInt x_bad) (Int32.toInt x_badPlace) (lf_A g_tape) (Int32.toInt p1) n (Int32.toInt J49_l3) (Int32.toInt J49_c0_2) (Int32.toInt J49_l4)) → (J49_l3.toInt + 1 ≤ J49_c0_2.toInt ∨ (J49_l3 = J49_c0_2 ∧ ib (g_tape (Int32.toNatClampNeg J49_c0_2)) 48 57 ∧ J49_c0_2.toInt < x_end.toInt)) → 1601 ≤ J49_c0_2.toInt + (n : Int) → va_P (dC, dI) vwCl [(a_this, .inr (10, mfs rm x_taped J49_c0_2 x_end x_ended x_bad x_badPlace x_fault x_faultPlace x_namePlace x_awayTold x_away x_coded x_statements x_isCrossing x_textKind x_askSecond x_redMany x_isOpen x_lastGreen x_greenTo x_isCycleGreen x_stillGreen x_rowMany x_fitMany x_fitRules x_fitGreen x_undoable x_newest x_seeded x_qCoded x_qWaits x_qOpened x_qBase x_qPiled x_qAnswer x_qIsNew x_octets)), (wi_rm0_0_1600_0 rm cy g_tape)] H → va_D A [(a_this, .inr (10, mfs rm x_taped J49_c0_2 x_end x_ended x_bad x_badPlace x_fault x_faultPlace x_namePlace x_awayTold x_away x_coded x_statements x_isCrossing x_textKind x_askSecond x_redMany x_isOpen x_lastGreen x_greenTo x_isCycleGreen x_stillGreen x_rowMany x_fitMany x_fitRules x_fitGreen x_undoable x_newest x_seeded x_qCoded x_qWaits x_qOpened x_qBase x_qPiled x_qAnswer x_qIsNew x_octets)), (wi_rm0_0_1600_0 rm cy g_tape)] → va_S A s.heap H locs → lv_has ls 5 [(0, .ref a_this), (1, .int 1), (2, .int p1), (3, .int J49_l3), (4, .int J49_l4)] → W p l e { frames := 1, cells := 0, slots := 0, locals := 25 } s m args below meth c H locs 0 0 Q (F0 m 49 ls []) := by
    as_aux_lemma =>
      intro n
      induction n with
      | zero =>
        intro J49_l3 J49_c0_2 J49_l4 H locs ls hJ49_l3 hJ49_c0_2 hK49_x_end hK49_x_bad hJ49_lin0 hJ49_lin1 hq hJ49_gh hm
        exact absurd hm (by have := hJ49_c0_2; unfold ib at this; omega)
      | succ n ih =>
        intro J49_l3 J49_c0_2 J49_l4 H locs ls hJ49_l3 hJ49_c0_2 hK49_x_end hK49_x_bad hJ49_lin0 hJ49_lin1 hq hJ49_gh hm49 hP hD hS hl
        have ih49 := ih
        obtain ⟨K49, hK49⟩ : ∃ K, K = F_X10_number_a0_1_49 (Int32.toInt x_end) (Int32.toInt x_ended) (Int32.toInt x_bad) (Int32.toInt x_badPlace) (lf_A g_tape) (Int32.toInt p1) n := ⟨_, rfl⟩
        have hq : O = F_X10_number_a0_1_49b (Int32.toInt x_end) (Int32.toInt x_ended) (Int32.toInt x_bad) (Int32.toInt x_badPlace) (lf_A g_tape) (Int32.toInt p1) K49 (Int32.toInt J49_l3) (Int32.toInt J49_c0_2) (Int32.toInt J49_l4) := by rw [hK49]; exact hq
        unfold F_X10_number_a0_1_49b at hq
        refine lv_aload_n hx hb dX10_number_49 rfl (lv_at hl 0 rfl) ?_
        refine k_get C0 fg_X10_285 hP 0 rfl rfl dX10_number_50 ?_
        refine lv_aload_n hx hb dX10_number_53 rfl (lv_at hl 0 rfl) ?_
        refine k_get C0 fg_X10_288 hP 0 rfl rfl dX10_number_54 ?_
        refine lv_icmp_ge (tgt := 129) hx hb dX10_number_57 rfl (fun c1 => ?_) (fun c1 => ?_)
        · as_aux_lemma =>
            replace hq := lf_pos hq (lf_le (lf_rf x_end) (lf_rf J49_c0_2) c1)
            have h2 := ib_le hK49_x_end hJ49_c0_2 c1
            have h3 : ib J49_c0_2 1 1600 := ib_w 1 1600 h2.2 rfl
            have h4 : ib x_at 0 1599 := ⟨(hx_at).1, by have := (hx_at).2; have := hJ49_lin0; have := (hJ49_l3).2; omega⟩
            have h5 : J49_l3.toInt + 1 ≤ J49_c0_2.toInt := by rcases hJ49_gh with q | q; exact q; exact absurd q.2.2 (by have := (hK49_x_end).1; have := (hK49_x_end).2; have := (h3).1; have := (h3).2; have := hJ49_lin1; have := (h4).1; have := (h4).2; have := hJ49_lin0; have := (hJ49_l3).1; have := (hJ49_l3).2; have := Int32.le_iff_toInt_le.mp c1; omega)
            have h6 : 1 * J49_l3.toInt + (-1) * J49_c0_2.toInt ≤ (-1) := by omega
            refine lv_aload_n hx hb dX10_number_129 rfl (lv_at hl 0 rfl) ?_
            refine lv_aload_n hx hb dX10_number_130 rfl (lv_at hl 0 rfl) ?_
            refine k_get C0 fg_X10_285 hP 0 rfl rfl dX10_number_131 ?_
            refine k_put C0 fp_X10_299 hP hD hS 0 rfl rfl rfl (Nat.le_of_ble_eq_true rfl) dX10_number_134 (fun H locs hP hD hS => ?_)
            replace hP : va_P (dC, dI) vwCl [(a_this, .inr (10, mfs rm x_taped J49_c0_2 x_end J49_c0_2 x_bad x_badPlace x_fault x_faultPlace x_namePlace x_awayTold x_away x_coded x_statements x_isCrossing x_textKind x_askSecond x_redMany x_isOpen x_lastGreen x_greenTo x_isCycleGreen x_stillGreen x_rowMany x_fitMany x_fitRules x_fitGreen x_undoable x_newest x_seeded x_qCoded x_qWaits x_qOpened x_qBase x_qPiled x_qAnswer x_qIsNew x_octets)), (wi_rm0_0_1600_0 rm cy g_tape)] H := hP
            replace hD := k_D hP hD
            refine lv_iload hx hb dX10_number_137 (lv_at hl 4 rfl) ?_
            refine lv_i2l (v := J49_l4.toInt64) hx hb dX10_number_139 rfl ?_
            refine lv_iload_n hx hb dX10_number_140 rfl (lv_at hl 1 rfl) ?_
            refine lv_i2l (v := 1) hx hb dX10_number_141 (by decide) ?_
            refine lv_iload_n hx hb dX10_number_142 rfl (lv_at hl 2 rfl) ?_
            refine lv_i2l (v := p1.toInt64) hx hb dX10_number_143 rfl ?_
            refine k_jim hP hD hS hA [] [true, true] rfl rfl rfl 0 0 (Nat.le_of_ble_eq_true rfl) (Nat.le_of_ble_eq_true rfl) (fun hPc hDc => k_runS (As := [.long J49_l4.toInt64, .long 1, .long p1.toInt64]) (rest := []) C0 hZ hS hA (c_isIn l dC dI cy sq J49_l4.toInt64 1 p1.toInt64) mS_X10_318 hPc hDc hl rfl rfl (Nat.le_of_ble_eq_true rfl) ⟨(Nat.le_of_ble_eq_true rfl), (Nat.le_of_ble_eq_true rfl)⟩ ⟨(Nat.le_of_ble_eq_true rfl), (Nat.le_of_ble_eq_true rfl)⟩ dX10_number_144) (fun r7 u8 H locs hw hP hD hS => ?_)
            replace hP : va_P (dC, dI) vwCl [(a_this, .inr (10, mfs rm x_taped J49_c0_2 x_end J49_c0_2 x_bad x_badPlace x_fault x_faultPlace x_namePlace x_awayTold x_away x_coded x_statements x_isCrossing x_textKind x_askSecond x_redMany x_isOpen x_lastGreen x_greenTo x_isCycleGreen x_stillGreen x_rowMany x_fitMany x_fitRules x_fitGreen x_undoable x_newest x_seeded x_qCoded x_qWaits x_qOpened x_qBase x_qPiled x_qAnswer x_qIsNew x_octets)), (wi_rm0_0_1600_0 rm cy g_tape)] H := hP
            replace hD := k_D hP hD
            have h9 := hw
            have h10 : ib r7 0 1 := by rw [h9]; exact k_isf_01 _ _ _
            have Er7 := lf_isine h9 (lf_i2l (lf_rf J49_l4)) (lf_ll 1 (1 : Int) rfl) (lf_i2l (lf_rf p1))
            refine lv_if_ne (tgt := 156) hx hb dX10_number_147 rfl (fun c11 => ?_) (fun c11 => ?_)
            · replace hq := lf_neg hq (lf_ne Er7 (lf_lc 0 (0 : Int) rfl) c11)
              have h12 : ib r7 1 1 := ib_w 1 1 (ib_ne_lo 0 h10 rfl c11) rfl
              have h13 : ib J49_l4 1 2147483647 := ib_w 1 2147483647 (ib_two (ib_any J49_l4) (k_isf_v h9 (show 1 ≤ (1 : Int64).toInt by decide) (by rw [Int32.toInt_toInt64]; exact ((ib_any p1)).2) (ib_nz h12 rfl))) rfl
              have h14 : ib p1 1 2147483647 := ib_w 1 2147483647 (ib_two (ib_any p1) (k_isf_u h9 (show 1 ≤ (1 : Int64).toInt by decide) (ib_any p1) (ib_nz h12 rfl))) rfl
              refine lv_iload hx hb dX10_number_156 (lv_at hl 4 rfl) ?_
              subst hQ; exact k_iret hx hb hr hlk rfl ((J49_c0_2, J49_c0_2, x_bad, x_badPlace)) hS ⟨ib_w 0 1600 h3 rfl, fun q => q, (by have := hJ49_lin1; omega), fun hq9 => (by have := hJ49_lin1; have := h6; have := hJ49_lin0; omega), (hO.symm.trans (by exact hq))⟩ hP hD (Nat.le_of_ble_eq_true rfl) (Nat.le_of_ble_eq_true rfl) dX10_number_158
            · replace hq := lf_pos hq (lf_eq Er7 (lf_lc 0 (0 : Int) rfl) c11)
              have h15 := ib_eq h10 (ib_c 0 0 0 rfl) c11
              have h16 : ib r7 0 0 := ib_w 0 0 h15.1 rfl
              refine lv_aload_n hx hb dX10_number_150 rfl (lv_at hl 0 rfl) ?_
              refine lv_iconst (v := 2) hx hb dX10_number_151 rfl ?_
              refine lv_iload_n hx hb dX10_number_152 rfl (lv_at hl 3 rfl) ?_
              refine k_jvm hP hD hS hA [0] [false, true] rfl rfl rfl 0 0 (Nat.le_of_ble_eq_true rfl) (Nat.le_of_ble_eq_true rfl) (fun hPc hDc => k_runV (As := [.int 2, .int J49_l3]) (rest := []) C0 hZ hS hA (s_X10_fail_a0_2_f_bad_0_0 l dC dI cy sq a_this rm x_taped J49_c0_2 x_end J49_c0_2 x_bad x_badPlace x_fault x_faultPlace x_namePlace x_awayTold x_away x_coded x_statements x_isCrossing x_textKind x_askSecond x_redMany x_isOpen x_lastGreen x_greenTo x_isCycleGreen x_stillGreen x_rowMany x_fitMany x_fitRules x_fitGreen x_undoable x_newest x_seeded x_qCoded x_qWaits x_qOpened x_qBase x_qPiled x_qAnswer x_qIsNew x_octets J49_l3 (ib_w 0 0 hK49_x_bad rfl)) mV_X10_308 hPc hDc rfl rfl rfl hl rfl rfl (Nat.le_of_ble_eq_true rfl) ⟨(Nat.le_of_ble_eq_true rfl), (Nat.le_of_ble_eq_true rfl)⟩ ⟨(Nat.le_of_ble_eq_true rfl), (Nat.le_of_ble_eq_true rfl)⟩ dX10_number_153) (fun u18 H locs hw hP hD hS => ?_)
              try dsimp only at hP hD hw
              replace hP : va_P (dC, dI) vwCl [(wi_rm0_0_1600_0 rm cy g_tape), (a_this, .inr (10, mfs rm x_taped J49_c0_2 x_end J49_c0_2 2 J49_l3 x_fault x_faultPlace x_namePlace x_awayTold x_away x_coded x_statements x_isCrossing x_textKind x_askSecond x_redMany x_isOpen x_lastGreen x_greenTo x_isCycleGreen x_stillGreen x_rowMany x_fitMany x_fitRules x_fitGreen x_undoable x_newest x_seeded x_qCoded x_qWaits x_qOpened x_qBase x_qPiled x_qAnswer x_qIsNew x_octets))] H := hP
              replace hD := k_D hP hD
              refine lv_iload hx hb dX10_number_156 (lv_at hl 4 rfl) ?_
              subst hQ; exact k_iret hx hb hr hlk rfl ((J49_c0_2, J49_c0_2, 2, J49_l3)) hS ⟨ib_w 0 1600 h3 rfl, fun q => absurd q (by decide), (by have := hJ49_lin1; omega), fun q => absurd q (by decide), (hO.symm.trans (by try simp only [show (2 : Int32).toInt = (2 : Int) from rfl]; exact hq))⟩ (hP.sub [1, 0] rfl) (hD.sub [1, 0] rfl rfl) (Nat.le_of_ble_eq_true rfl) (Nat.le_of_ble_eq_true rfl) dX10_number_158
        · as_aux_lemma =>
            replace hq := lf_neg hq (lf_nle (lf_rf x_end) (lf_rf J49_c0_2) c1)
            have h19 := ib_nle hK49_x_end hJ49_c0_2 c1
            have h20 : ib J49_c0_2 0 1599 := ib_w 0 1599 h19.2 rfl
            have h21 : ib x_at 0 1599 := ⟨(hx_at).1, by have := (hx_at).2; have := hJ49_lin0; have := (hJ49_l3).2; omega⟩
            refine lv_aload_n hx hb dX10_number_60 rfl (lv_at hl 0 rfl) ?_
            refine k_get C0 fg_X10_7 hP 0 rfl rfl dX10_number_61 ?_
            refine lv_aload_n hx hb dX10_number_64 rfl (lv_at hl 0 rfl) ?_
            refine k_get C0 fg_X10_285 hP 0 rfl rfl dX10_number_65 ?_
            refine va_iald hx hb C0.2.2.2.2.2.1 hP 1 0 rfl rfl (ib_in 1600 h20 rfl) dX10_number_68 ?_
            refine lv_topi (fun z22 ez22 => ?_)
            have h23 : ib z22 0 255 := by rw [ez22]; exact ia_at hg_tape (ib_in 1600 h20 rfl)
            have Ez22 := lf_ld ez22 (lf_ra g_tape) (lf_rf J49_c0_2)
            refine k_jim hP hD hS hA [] [true, true] rfl rfl rfl 0 0 (Nat.le_of_ble_eq_true rfl) (Nat.le_of_ble_eq_true rfl) (fun hPc hDc => k_runS (As := [.int z22]) (rest := []) C0 hZ hS hA (s_X10_isDigit l dC dI cy sq z22 ) mS_X10_315 hPc hDc hl rfl rfl (Nat.le_of_ble_eq_true rfl) ⟨(Nat.le_of_ble_eq_true rfl), (Nat.le_of_ble_eq_true rfl)⟩ ⟨(Nat.le_of_ble_eq_true rfl), (Nat.le_of_ble_eq_true rfl)⟩ dX10_number_69) (fun r24 u25 H locs hw hP hD hS => ?_)
            try dsimp only at hP hD hw
            replace hP : va_P (dC, dI) vwCl [(a_this, .inr (10, mfs rm x_taped J49_c0_2 x_end x_ended x_bad x_badPlace x_fault x_faultPlace x_namePlace x_awayTold x_away x_coded x_statements x_isCrossing x_textKind x_askSecond x_redMany x_isOpen x_lastGreen x_greenTo x_isCycleGreen x_stillGreen x_rowMany x_fitMany x_fitRules x_fitGreen x_undoable x_newest x_seeded x_qCoded x_qWaits x_qOpened x_qBase x_qPiled x_qAnswer x_qIsNew x_octets)), (wi_rm0_0_1600_0 rm cy g_tape)] H := hP
            replace hD := k_D hP hD
            obtain ⟨h26, h27, h28, h29⟩ := hw
            have h29 := by have h9 := h29; rw [lf_u Ez22] at h9; exact h9
            replace hq := lf_b1 hq h29
            refine lv_if_eq (tgt := 129) hx hb dX10_number_72 rfl (fun c30 => ?_) (fun c30 => ?_)
            · as_aux_lemma =>
                replace hq := lf_pos hq (lf_eq (lf_rf r24) (lf_lc 0 (0 : Int) rfl) c30)
                have h31 := ib_eq h26 (ib_c 0 0 0 rfl) c30
                have h32 : ib r24 0 0 := ib_w 0 0 h31.1 rfl
                have h33 : J49_l3.toInt + 1 ≤ J49_c0_2.toInt := by rcases hJ49_gh with q | q; exact q; exact absurd (show ib z22 48 57 by rw [ez22]; exact q.2.1) (h28 (ib_one h32 rfl))
                have h34 : 1 * J49_l3.toInt + (-1) * J49_c0_2.toInt ≤ (-1) := by omega
                refine lv_aload_n hx hb dX10_number_129 rfl (lv_at hl 0 rfl) ?_
                refine lv_aload_n hx hb dX10_number_130 rfl (lv_at hl 0 rfl) ?_
                refine k_get C0 fg_X10_285 hP 0 rfl rfl dX10_number_131 ?_
                refine k_put C0 fp_X10_299 hP hD hS 0 rfl rfl rfl (Nat.le_of_ble_eq_true rfl) dX10_number_134 (fun H locs hP hD hS => ?_)
                replace hP : va_P (dC, dI) vwCl [(a_this, .inr (10, mfs rm x_taped J49_c0_2 x_end J49_c0_2 x_bad x_badPlace x_fault x_faultPlace x_namePlace x_awayTold x_away x_coded x_statements x_isCrossing x_textKind x_askSecond x_redMany x_isOpen x_lastGreen x_greenTo x_isCycleGreen x_stillGreen x_rowMany x_fitMany x_fitRules x_fitGreen x_undoable x_newest x_seeded x_qCoded x_qWaits x_qOpened x_qBase x_qPiled x_qAnswer x_qIsNew x_octets)), (wi_rm0_0_1600_0 rm cy g_tape)] H := hP
                replace hD := k_D hP hD
                refine lv_iload hx hb dX10_number_137 (lv_at hl 4 rfl) ?_
                refine lv_i2l (v := J49_l4.toInt64) hx hb dX10_number_139 rfl ?_
                refine lv_iload_n hx hb dX10_number_140 rfl (lv_at hl 1 rfl) ?_
                refine lv_i2l (v := 1) hx hb dX10_number_141 (by decide) ?_
                refine lv_iload_n hx hb dX10_number_142 rfl (lv_at hl 2 rfl) ?_
                refine lv_i2l (v := p1.toInt64) hx hb dX10_number_143 rfl ?_
                refine k_jim hP hD hS hA [] [true, true] rfl rfl rfl 0 0 (Nat.le_of_ble_eq_true rfl) (Nat.le_of_ble_eq_true rfl) (fun hPc hDc => k_runS (As := [.long J49_l4.toInt64, .long 1, .long p1.toInt64]) (rest := []) C0 hZ hS hA (c_isIn l dC dI cy sq J49_l4.toInt64 1 p1.toInt64) mS_X10_318 hPc hDc hl rfl rfl (Nat.le_of_ble_eq_true rfl) ⟨(Nat.le_of_ble_eq_true rfl), (Nat.le_of_ble_eq_true rfl)⟩ ⟨(Nat.le_of_ble_eq_true rfl), (Nat.le_of_ble_eq_true rfl)⟩ dX10_number_144) (fun r35 u36 H locs hw hP hD hS => ?_)
                replace hP : va_P (dC, dI) vwCl [(a_this, .inr (10, mfs rm x_taped J49_c0_2 x_end J49_c0_2 x_bad x_badPlace x_fault x_faultPlace x_namePlace x_awayTold x_away x_coded x_statements x_isCrossing x_textKind x_askSecond x_redMany x_isOpen x_lastGreen x_greenTo x_isCycleGreen x_stillGreen x_rowMany x_fitMany x_fitRules x_fitGreen x_undoable x_newest x_seeded x_qCoded x_qWaits x_qOpened x_qBase x_qPiled x_qAnswer x_qIsNew x_octets)), (wi_rm0_0_1600_0 rm cy g_tape)] H := hP
                replace hD := k_D hP hD
                have h37 := hw
                have h38 : ib r35 0 1 := by rw [h37]; exact k_isf_01 _ _ _
                have Er35 := lf_isine h37 (lf_i2l (lf_rf J49_l4)) (lf_ll 1 (1 : Int) rfl) (lf_i2l (lf_rf p1))
                refine lv_if_ne (tgt := 156) hx hb dX10_number_147 rfl (fun c39 => ?_) (fun c39 => ?_)
                · replace hq := lf_neg hq (lf_ne Er35 (lf_lc 0 (0 : Int) rfl) c39)
                  have h40 : ib r35 1 1 := ib_w 1 1 (ib_ne_lo 0 h38 rfl c39) rfl
                  have h41 : ib J49_l4 1 2147483647 := ib_w 1 2147483647 (ib_two (ib_any J49_l4) (k_isf_v h37 (show 1 ≤ (1 : Int64).toInt by decide) (by rw [Int32.toInt_toInt64]; exact ((ib_any p1)).2) (ib_nz h40 rfl))) rfl
                  have h42 : ib p1 1 2147483647 := ib_w 1 2147483647 (ib_two (ib_any p1) (k_isf_u h37 (show 1 ≤ (1 : Int64).toInt by decide) (ib_any p1) (ib_nz h40 rfl))) rfl
                  have h43 : ib J49_l3 0 1598 := ⟨(hJ49_l3).1, by have := (hJ49_l3).2; have := h34; have := (h20).2; omega⟩
                  have h44 : ib J49_c0_2 1 1599 := ⟨by have := (h20).1; have := h34; have := (h43).1; omega, (h20).2⟩
                  refine lv_iload hx hb dX10_number_156 (lv_at hl 4 rfl) ?_
                  subst hQ; exact k_iret hx hb hr hlk rfl ((J49_c0_2, J49_c0_2, x_bad, x_badPlace)) hS ⟨ib_w 0 1600 h44 rfl, fun q => q, (by have := hJ49_lin1; omega), fun hq9 => (by have := hJ49_lin1; have := h34; have := hJ49_lin0; omega), (hO.symm.trans (by exact hq))⟩ hP hD (Nat.le_of_ble_eq_true rfl) (Nat.le_of_ble_eq_true rfl) dX10_number_158
                · replace hq := lf_pos hq (lf_eq Er35 (lf_lc 0 (0 : Int) rfl) c39)
                  have h45 := ib_eq h38 (ib_c 0 0 0 rfl) c39
                  have h46 : ib r35 0 0 := ib_w 0 0 h45.1 rfl
                  have h47 : ib J49_l3 0 1598 := ⟨(hJ49_l3).1, by have := (hJ49_l3).2; have := h34; have := (h20).2; omega⟩
                  have h48 : ib J49_c0_2 1 1599 := ⟨by have := (h20).1; have := h34; have := (h47).1; omega, (h20).2⟩
                  have h49 : ib x_at 0 1598 := ⟨(h21).1, by have := (h21).2; have := hJ49_lin0; have := (h47).2; omega⟩
                  refine lv_aload_n hx hb dX10_number_150 rfl (lv_at hl 0 rfl) ?_
                  refine lv_iconst (v := 2) hx hb dX10_number_151 rfl ?_
                  refine lv_iload_n hx hb dX10_number_152 rfl (lv_at hl 3 rfl) ?_
                  refine k_jvm hP hD hS hA [0] [false, true] rfl rfl rfl 0 0 (Nat.le_of_ble_eq_true rfl) (Nat.le_of_ble_eq_true rfl) (fun hPc hDc => k_runV (As := [.int 2, .int J49_l3]) (rest := []) C0 hZ hS hA (s_X10_fail_a0_2_f_bad_0_0 l dC dI cy sq a_this rm x_taped J49_c0_2 x_end J49_c0_2 x_bad x_badPlace x_fault x_faultPlace x_namePlace x_awayTold x_away x_coded x_statements x_isCrossing x_textKind x_askSecond x_redMany x_isOpen x_lastGreen x_greenTo x_isCycleGreen x_stillGreen x_rowMany x_fitMany x_fitRules x_fitGreen x_undoable x_newest x_seeded x_qCoded x_qWaits x_qOpened x_qBase x_qPiled x_qAnswer x_qIsNew x_octets J49_l3 (ib_w 0 0 hK49_x_bad rfl)) mV_X10_308 hPc hDc rfl rfl rfl hl rfl rfl (Nat.le_of_ble_eq_true rfl) ⟨(Nat.le_of_ble_eq_true rfl), (Nat.le_of_ble_eq_true rfl)⟩ ⟨(Nat.le_of_ble_eq_true rfl), (Nat.le_of_ble_eq_true rfl)⟩ dX10_number_153) (fun u51 H locs hw hP hD hS => ?_)
                  try dsimp only at hP hD hw
                  replace hP : va_P (dC, dI) vwCl [(wi_rm0_0_1600_0 rm cy g_tape), (a_this, .inr (10, mfs rm x_taped J49_c0_2 x_end J49_c0_2 2 J49_l3 x_fault x_faultPlace x_namePlace x_awayTold x_away x_coded x_statements x_isCrossing x_textKind x_askSecond x_redMany x_isOpen x_lastGreen x_greenTo x_isCycleGreen x_stillGreen x_rowMany x_fitMany x_fitRules x_fitGreen x_undoable x_newest x_seeded x_qCoded x_qWaits x_qOpened x_qBase x_qPiled x_qAnswer x_qIsNew x_octets))] H := hP
                  replace hD := k_D hP hD
                  refine lv_iload hx hb dX10_number_156 (lv_at hl 4 rfl) ?_
                  subst hQ; exact k_iret hx hb hr hlk rfl ((J49_c0_2, J49_c0_2, 2, J49_l3)) hS ⟨ib_w 0 1600 h48 rfl, fun q => absurd q (by decide), (by have := hJ49_lin1; omega), fun q => absurd q (by decide), (hO.symm.trans (by try simp only [show (2 : Int32).toInt = (2 : Int) from rfl]; exact hq))⟩ (hP.sub [1, 0] rfl) (hD.sub [1, 0] rfl rfl) (Nat.le_of_ble_eq_true rfl) (Nat.le_of_ble_eq_true rfl) dX10_number_158
            · as_aux_lemma =>
                replace hq := lf_neg hq (lf_ne (lf_rf r24) (lf_lc 0 (0 : Int) rfl) c30)
                have h52 : ib r24 1 1 := ib_w 1 1 (ib_ne_lo 0 h26 rfl c30) rfl
                have h53 : ib z22 48 57 := ib_w 48 57 (ib_two h23 (h27 (ib_nz h52 rfl))) rfl
                refine lv_aload_n hx hb dX10_number_75 rfl (lv_at hl 0 rfl) ?_
                refine k_get C0 fg_X10_285 hP 0 rfl rfl dX10_number_76 ?_
                refine lv_iload_n hx hb dX10_number_79 rfl (lv_at hl 3 rfl) ?_
                refine lv_isub hx hb dX10_number_80 ?_
                refine lv_topi (fun z54 ez54 => ?_)
                have h55 := ib_sub h20 hJ49_l3 rfl
                rw [← ez54] at h55
                have h56 : ib z54 (-1599) 1599 := ib_w (-1599) 1599 h55.1 rfl
                have Ez54 := lf_sub h55.2 (lf_rf J49_c0_2) (lf_rf J49_l3)
                refine lv_iconst (v := 4) hx hb dX10_number_81 rfl ?_
                refine lv_icmp_ne (tgt := 96) hx hb dX10_number_82 rfl (fun c57 => ?_) (fun c57 => ?_)
                · as_aux_lemma =>
                    replace hq := lf_neg hq (lf_ne Ez54 (lf_lc 4 (4 : Int) rfl) c57)
                    refine lv_bipush (v := 10) hx hb dX10_number_96 rfl ?_
                    refine lv_iload hx hb dX10_number_98 (lv_at hl 4 rfl) ?_
                    refine lv_imul hx hb dX10_number_100 ?_
                    refine lv_topi (fun z58 ez58 => ?_)
                    have Ez58 := lf_op lf_imul ez58 (lf_lc 10 (10 : Int) rfl) (lf_rf J49_l4)
                    refine lv_aload_n hx hb dX10_number_101 rfl (lv_at hl 0 rfl) ?_
                    refine k_get C0 fg_X10_7 hP 0 rfl rfl dX10_number_102 ?_
                    refine lv_aload_n hx hb dX10_number_105 rfl (lv_at hl 0 rfl) ?_
                    refine k_get C0 fg_X10_285 hP 0 rfl rfl dX10_number_106 ?_
                    refine va_iald hx hb C0.2.2.2.2.2.1 hP 1 0 rfl rfl (ib_in 1600 h20 rfl) dX10_number_109 ?_
                    refine lv_topi (fun z59 ez59 => ?_)
                    obtain rfl : z22 = z59 := ez22.trans ez59.symm
                    refine lv_iadd hx hb dX10_number_110 ?_
                    refine lv_topi (fun z60 ez60 => ?_)
                    have Ez60 := lf_op lf_iadd ez60 Ez58 Ez22
                    refine lv_bipush (v := 48) hx hb dX10_number_111 rfl ?_
                    refine lv_isub hx hb dX10_number_113 ?_
                    refine lv_topi (fun z61 ez61 => ?_)
                    have Ez61 := lf_op lf_isub ez61 Ez60 (lf_lc 48 (48 : Int) rfl)
                    refine lv_istore (lv' := [(4, .int z61), (0, .ref a_this), (1, .int 1), (2, .int p1), (3, .int J49_l3)]) hx hb dX10_number_114 hl (Nat.le_of_ble_eq_true rfl) rfl (fun ls hl => ?_)
                    refine lv_aload_n hx hb dX10_number_116 rfl (lv_at hl 1 rfl) ?_
                    refine lv_dup hx hb dX10_number_117 rfl ?_
                    refine k_get C0 fg_X10_285 hP 0 rfl rfl dX10_number_118 ?_
                    refine lv_iconst (v := 1) hx hb dX10_number_121 rfl ?_
                    refine lv_iadd hx hb dX10_number_122 ?_
                    refine lv_topi (fun z62 ez62 => ?_)
                    have h63 := ib_add h20 (ib_c 1 1 1 rfl) rfl
                    rw [← ez62] at h63
                    have h64 : ib z62 1 1600 := ib_w 1 1600 h63.1 rfl
                    have Ez62 := lf_add h63.2 (lf_rf J49_c0_2) (lf_lc 1 (1 : Int) rfl)
                    refine k_put C0 fp_X10_285 hP hD hS 0 rfl rfl rfl (Nat.le_of_ble_eq_true rfl) dX10_number_123 (fun H locs hP hD hS => ?_)
                    replace hP : va_P (dC, dI) vwCl [(a_this, .inr (10, mfs rm x_taped z62 x_end x_ended x_bad x_badPlace x_fault x_faultPlace x_namePlace x_awayTold x_away x_coded x_statements x_isCrossing x_textKind x_askSecond x_redMany x_isOpen x_lastGreen x_greenTo x_isCycleGreen x_stillGreen x_rowMany x_fitMany x_fitRules x_fitGreen x_undoable x_newest x_seeded x_qCoded x_qWaits x_qOpened x_qBase x_qPiled x_qAnswer x_qIsNew x_octets)), (wi_rm0_0_1600_0 rm cy g_tape)] H := hP
                    replace hD := k_D hP hD
                    refine lv_goto (tgt := 49) hx hb dX10_number_126 rfl ?_
                    exact ih49 J49_l3 z62 z61 H locs ls (ib_w 0 1599 hJ49_l3 rfl) (ib_w 0 1600 h64 rfl) (ib_w 1 1600 hK49_x_end rfl) (ib_w 0 0 hK49_x_bad rfl) (by have := hJ49_lin0; omega) (by have := h63.2; have : (1 : Int32).toInt = 1 := rfl; have := hJ49_lin1; omega) (by rw [← hK49]; rw [lf_u Ez62]; rw [lf_u Ez61]; exact hq) (Or.inl (by have q0 := h63.2; have q1 : (1 : Int32).toInt = 1 := rfl; rcases hJ49_gh with q | q <;> first | omega | (have := congrArg Int32.toInt q.1; omega))) (by have := h63.2; have : (1 : Int32).toInt = 1 := rfl; omega) hP hD hS (lv_sub hl [1, 2, 3, 4, 0] rfl)
                · replace hq := lf_pos hq (lf_eq Ez54 (lf_lc 4 (4 : Int) rfl) c57)
                  have h65 := ib_eq h56 (ib_c 4 4 4 rfl) c57
                  have h66 : ib z54 4 4 := ib_w 4 4 h65.1 rfl
                  have h67 : ib J49_c0_2 4 1599 := ⟨by have := h55.2; have := (h66).1; have := (h66).2; have := (h20).1; have := (h20).2; have := (hJ49_l3).1; have := (hJ49_l3).2; omega, by have := h55.2; have := (h66).1; have := (h66).2; have := (h20).1; have := (h20).2; have := (hJ49_l3).1; have := (hJ49_l3).2; omega⟩
                  have h68 : ib J49_l3 0 1595 := ⟨by have := h55.2; have := (h66).1; have := (h66).2; have := (h20).1; have := (h20).2; have := (hJ49_l3).1; have := (hJ49_l3).2; omega, by have := h55.2; have := (h66).1; have := (h66).2; have := (h20).1; have := (h20).2; have := (hJ49_l3).1; have := (hJ49_l3).2; omega⟩
                  have h69 : ib x_at 0 1595 := ⟨(h21).1, by have := (h21).2; have := hJ49_lin0; have := (h68).2; omega⟩
                  refine lv_aload_n hx hb dX10_number_85 rfl (lv_at hl 0 rfl) ?_
                  refine lv_iconst (v := 1) hx hb dX10_number_86 rfl ?_
                  refine lv_aload_n hx hb dX10_number_87 rfl (lv_at hl 0 rfl) ?_
                  refine k_get C0 fg_X10_285 hP 0 rfl rfl dX10_number_88 ?_
                  refine k_jvm hP hD hS hA [0] [false, true] rfl rfl rfl 0 0 (Nat.le_of_ble_eq_true rfl) (Nat.le_of_ble_eq_true rfl) (fun hPc hDc => k_runV (As := [.int 1, .int J49_c0_2]) (rest := []) C0 hZ hS hA (s_X10_fail_a0_1_f_bad_0_0 l dC dI cy sq a_this rm x_taped J49_c0_2 x_end x_ended x_bad x_badPlace x_fault x_faultPlace x_namePlace x_awayTold x_away x_coded x_statements x_isCrossing x_textKind x_askSecond x_redMany x_isOpen x_lastGreen x_greenTo x_isCycleGreen x_stillGreen x_rowMany x_fitMany x_fitRules x_fitGreen x_undoable x_newest x_seeded x_qCoded x_qWaits x_qOpened x_qBase x_qPiled x_qAnswer x_qIsNew x_octets J49_c0_2 (ib_w 0 0 hK49_x_bad rfl)) mV_X10_308 hPc hDc rfl rfl rfl hl rfl rfl (Nat.le_of_ble_eq_true rfl) ⟨(Nat.le_of_ble_eq_true rfl), (Nat.le_of_ble_eq_true rfl)⟩ ⟨(Nat.le_of_ble_eq_true rfl), (Nat.le_of_ble_eq_true rfl)⟩ dX10_number_91) (fun u71 H locs hw hP hD hS => ?_)
                  try dsimp only at hP hD hw
                  replace hP : va_P (dC, dI) vwCl [(wi_rm0_0_1600_0 rm cy g_tape), (a_this, .inr (10, mfs rm x_taped J49_c0_2 x_end x_ended 1 J49_c0_2 x_fault x_faultPlace x_namePlace x_awayTold x_away x_coded x_statements x_isCrossing x_textKind x_askSecond x_redMany x_isOpen x_lastGreen x_greenTo x_isCycleGreen x_stillGreen x_rowMany x_fitMany x_fitRules x_fitGreen x_undoable x_newest x_seeded x_qCoded x_qWaits x_qOpened x_qBase x_qPiled x_qAnswer x_qIsNew x_octets))] H := hP
                  replace hD := k_D hP hD
                  refine lv_iconst (v := 0) hx hb dX10_number_94 rfl ?_
                  subst hQ; exact k_iret hx hb hr hlk rfl ((J49_c0_2, x_ended, 1, J49_c0_2)) hS ⟨ib_w 0 1600 h67 rfl, fun q => absurd q (by decide), (by have := hJ49_lin1; omega), fun q => absurd q (by decide), (hO.symm.trans (by try simp only [show (0 : Int32).toInt = (0 : Int) from rfl]; try simp only [show (1 : Int32).toInt = (1 : Int) from rfl]; exact hq))⟩ (hP.sub [1, 0] rfl) (hD.sub [1, 0] rfl rfl) (Nat.le_of_ble_eq_true rfl) (Nat.le_of_ble_eq_true rfl) dX10_number_95
  refine lv_aload_n hx hb dX10_number_0 rfl (lv_at hl 0 rfl) ?_
  refine k_get C0 fg_X10_279 hP 0 rfl rfl dX10_number_1 ?_
  refine lv_if_eq (tgt := 9) hx hb dX10_number_4 rfl (fun c72 => ?_) (fun c72 => ?_)
  · as_aux_lemma =>
      replace hq := lf_pos hq (lf_eq (lf_rf x_bad) (lf_lc 0 (0 : Int) rfl) c72)
      have h73 := ib_eq (ib_any x_bad) (ib_c 0 0 0 rfl) c72
      have h74 : ib x_bad 0 0 := ib_w 0 0 h73.1 rfl
      refine lv_aload_n hx hb dX10_number_9 rfl (lv_at hl 0 rfl) ?_
      refine k_jim hP hD hS hA [0, 1] [] rfl rfl rfl 0 0 (Nat.le_of_ble_eq_true rfl) (Nat.le_of_ble_eq_true rfl) (fun hPc hDc => k_runV (As := []) (rest := []) C0 hZ hS hA (s_X10_look l dC dI cy sq a_this rm x_taped x_at x_end x_ended x_bad x_badPlace x_fault x_faultPlace x_namePlace x_awayTold x_away x_coded x_statements x_isCrossing x_textKind x_askSecond x_redMany x_isOpen x_lastGreen x_greenTo x_isCycleGreen x_stillGreen x_rowMany x_fitMany x_fitRules x_fitGreen x_undoable x_newest x_seeded x_qCoded x_qWaits x_qOpened x_qBase x_qPiled x_qAnswer x_qIsNew x_octets g_tape (ib_w 0 1600 hx_at rfl) (ib_w 0 1600 hx_end rfl) hg_tape) mV_X10_291 hPc hDc rfl rfl rfl hl rfl rfl (Nat.le_of_ble_eq_true rfl) ⟨(Nat.le_of_ble_eq_true rfl), (Nat.le_of_ble_eq_true rfl)⟩ ⟨(Nat.le_of_ble_eq_true rfl), (Nat.le_of_ble_eq_true rfl)⟩ dX10_number_10) (fun r75 u76 H locs hw hP hD hS => ?_)
      obtain ⟨v77, ev77⟩ : ∃ z, z = u76 := ⟨_, rfl⟩; subst ev77
      try dsimp only at hP hD hw
      replace hP : va_P (dC, dI) vwCl [(a_this, .inr (10, mfs rm x_taped v77 x_end x_ended x_bad x_badPlace x_fault x_faultPlace x_namePlace x_awayTold x_away x_coded x_statements x_isCrossing x_textKind x_askSecond x_redMany x_isOpen x_lastGreen x_greenTo x_isCycleGreen x_stillGreen x_rowMany x_fitMany x_fitRules x_fitGreen x_undoable x_newest x_seeded x_qCoded x_qWaits x_qOpened x_qBase x_qPiled x_qAnswer x_qIsNew x_octets)), (wi_rm0_0_1600_0 rm cy g_tape)] H := hP
      replace hD := k_D hP hD
      obtain ⟨h78, h79, h80, h81, h82, h83, h84, h85, h86, h87⟩ := hw
      replace hq := lf_p1 hq h87
      refine k_jim hP hD hS hA [] [true, true] rfl rfl rfl 0 0 (Nat.le_of_ble_eq_true rfl) (Nat.le_of_ble_eq_true rfl) (fun hPc hDc => k_runS (As := [.int r75]) (rest := []) C0 hZ hS hA (s_X10_isDigit l dC dI cy sq r75 ) mS_X10_315 hPc hDc hl rfl rfl (Nat.le_of_ble_eq_true rfl) ⟨(Nat.le_of_ble_eq_true rfl), (Nat.le_of_ble_eq_true rfl)⟩ ⟨(Nat.le_of_ble_eq_true rfl), (Nat.le_of_ble_eq_true rfl)⟩ dX10_number_13) (fun r88 u89 H locs hw hP hD hS => ?_)
      try dsimp only at hP hD hw
      replace hP : va_P (dC, dI) vwCl [(a_this, .inr (10, mfs rm x_taped v77 x_end x_ended x_bad x_badPlace x_fault x_faultPlace x_namePlace x_awayTold x_away x_coded x_statements x_isCrossing x_textKind x_askSecond x_redMany x_isOpen x_lastGreen x_greenTo x_isCycleGreen x_stillGreen x_rowMany x_fitMany x_fitRules x_fitGreen x_undoable x_newest x_seeded x_qCoded x_qWaits x_qOpened x_qBase x_qPiled x_qAnswer x_qIsNew x_octets)), (wi_rm0_0_1600_0 rm cy g_tape)] H := hP
      replace hD := k_D hP hD
      obtain ⟨h90, h91, h92, h93⟩ := hw
      replace hq := lf_b1 hq h93
      refine lv_if_eq (tgt := 30) hx hb dX10_number_16 rfl (fun c94 => ?_) (fun c94 => ?_)
      · replace hq := lf_pos hq (lf_eq (lf_rf r88) (lf_lc 0 (0 : Int) rfl) c94)
        have h95 := ib_eq h90 (ib_c 0 0 0 rfl) c94
        have h96 : ib r88 0 0 := ib_w 0 0 h95.1 rfl
        refine lv_aload_n hx hb dX10_number_30 rfl (lv_at hl 0 rfl) ?_
        refine lv_iconst (v := 1) hx hb dX10_number_31 rfl ?_
        refine lv_aload_n hx hb dX10_number_32 rfl (lv_at hl 0 rfl) ?_
        refine k_get C0 fg_X10_285 hP 0 rfl rfl dX10_number_33 ?_
        refine k_jvm hP hD hS hA [0] [false, true] rfl rfl rfl 0 0 (Nat.le_of_ble_eq_true rfl) (Nat.le_of_ble_eq_true rfl) (fun hPc hDc => k_runV (As := [.int 1, .int v77]) (rest := []) C0 hZ hS hA (s_X10_fail_a0_1_f_bad_0_0 l dC dI cy sq a_this rm x_taped v77 x_end x_ended x_bad x_badPlace x_fault x_faultPlace x_namePlace x_awayTold x_away x_coded x_statements x_isCrossing x_textKind x_askSecond x_redMany x_isOpen x_lastGreen x_greenTo x_isCycleGreen x_stillGreen x_rowMany x_fitMany x_fitRules x_fitGreen x_undoable x_newest x_seeded x_qCoded x_qWaits x_qOpened x_qBase x_qPiled x_qAnswer x_qIsNew x_octets v77 (ib_w 0 0 h74 rfl)) mV_X10_308 hPc hDc rfl rfl rfl hl rfl rfl (Nat.le_of_ble_eq_true rfl) ⟨(Nat.le_of_ble_eq_true rfl), (Nat.le_of_ble_eq_true rfl)⟩ ⟨(Nat.le_of_ble_eq_true rfl), (Nat.le_of_ble_eq_true rfl)⟩ dX10_number_36) (fun u98 H locs hw hP hD hS => ?_)
        try dsimp only at hP hD hw
        replace hP : va_P (dC, dI) vwCl [(wi_rm0_0_1600_0 rm cy g_tape), (a_this, .inr (10, mfs rm x_taped v77 x_end x_ended 1 v77 x_fault x_faultPlace x_namePlace x_awayTold x_away x_coded x_statements x_isCrossing x_textKind x_askSecond x_redMany x_isOpen x_lastGreen x_greenTo x_isCycleGreen x_stillGreen x_rowMany x_fitMany x_fitRules x_fitGreen x_undoable x_newest x_seeded x_qCoded x_qWaits x_qOpened x_qBase x_qPiled x_qAnswer x_qIsNew x_octets))] H := hP
        replace hD := k_D hP hD
        refine lv_iconst (v := 0) hx hb dX10_number_39 rfl ?_
        subst hQ; exact k_iret hx hb hr hlk rfl ((v77, x_ended, 1, v77)) hS ⟨ib_w 0 1600 h78 rfl, fun q => absurd q (by decide), (by have := h83; omega), fun q => absurd q (by decide), (hO.symm.trans (by try simp only [show (0 : Int32).toInt = (0 : Int) from rfl]; try simp only [show (1 : Int32).toInt = (1 : Int) from rfl]; exact hq))⟩ (hP.sub [1, 0] rfl) (hD.sub [1, 0] rfl rfl) (Nat.le_of_ble_eq_true rfl) (Nat.le_of_ble_eq_true rfl) dX10_number_40
      · as_aux_lemma =>
          replace hq := lf_neg hq (lf_ne (lf_rf r88) (lf_lc 0 (0 : Int) rfl) c94)
          have h99 : ib r88 1 1 := ib_w 1 1 (ib_ne_lo 0 h90 rfl c94) rfl
          have h100 : ib r75 48 57 := ib_w 48 57 (ib_two h79 (h91 (ib_nz h99 rfl))) rfl
          have h101 : ib v77 0 1599 := ib_w 0 1599 (ib_two h78 (h80 (ib_nc (-1) h100 rfl))) rfl
          have h102 : ib x_at 0 1599 := ib_w 0 1599 (ib_two hx_at (h81 (ib_nc (-1) h100 rfl))) rfl
          have h103 : ib x_end 1 1600 := ib_w 1 1600 (ib_two hx_end (h82 (ib_nc (-1) h100 rfl))) rfl
          refine lv_aload_n hx hb dX10_number_19 rfl (lv_at hl 0 rfl) ?_
          refine k_get C0 fg_X10_285 hP 0 rfl rfl dX10_number_20 ?_
          refine lv_aload_n hx hb dX10_number_23 rfl (lv_at hl 0 rfl) ?_
          refine k_get C0 fg_X10_299 hP 0 rfl rfl dX10_number_24 ?_
          refine lv_icmp_ne (tgt := 41) hx hb dX10_number_27 rfl (fun c104 => ?_) (fun c104 => ?_)
          · replace hq := lf_neg hq (lf_ne (lf_rf v77) (lf_rf x_ended) c104)
            refine lv_aload_n hx hb dX10_number_41 rfl (lv_at hl 0 rfl) ?_
            refine k_get C0 fg_X10_285 hP 0 rfl rfl dX10_number_42 ?_
            refine lv_istore_n (lv' := [(3, .int v77), (0, .ref a_this), (1, .int 1), (2, .int p1)]) hx hb dX10_number_45 rfl hl (Nat.le_of_ble_eq_true rfl) rfl (fun ls hl => ?_)
            refine lv_iconst (v := 0) hx hb dX10_number_46 rfl ?_
            refine lv_istore (lv' := [(4, .int 0), (3, .int v77), (0, .ref a_this), (1, .int 1), (2, .int p1)]) hx hb dX10_number_47 hl (Nat.le_of_ble_eq_true rfl) rfl (fun ls hl => ?_)
            exact jn49 1602 v77 v77 0 H locs ls (ib_w 0 1599 h101 rfl) (ib_w 0 1600 h101 rfl) (ib_w 1 1600 h103 rfl) (ib_w 0 0 h74 rfl) (by have := h83; omega) (by have := h83; omega) (by try simp only [show (0 : Int32).toInt = (0 : Int) from rfl]; exact hq) (Or.inr ⟨rfl, by rw [(h84 (ib_nc (-1) h100 rfl)).1]; exact ib_w 48 57 h100 rfl, (h84 (ib_nc (-1) h100 rfl)).2⟩) (by have := h101; unfold ib at this; omega) hP hD hS (lv_sub hl [2, 3, 4, 1, 0] rfl)
          · replace hq := lf_pos hq (lf_eq (lf_rf v77) (lf_rf x_ended) c104)
            have h105 := ib_eq h101 (ib_any x_ended) c104
            have h106 : ib x_ended 0 1599 := ib_w 0 1599 h105.2 rfl
            refine lv_aload_n hx hb dX10_number_30 rfl (lv_at hl 0 rfl) ?_
            refine lv_iconst (v := 1) hx hb dX10_number_31 rfl ?_
            refine lv_aload_n hx hb dX10_number_32 rfl (lv_at hl 0 rfl) ?_
            refine k_get C0 fg_X10_285 hP 0 rfl rfl dX10_number_33 ?_
            refine k_jvm hP hD hS hA [0] [false, true] rfl rfl rfl 0 0 (Nat.le_of_ble_eq_true rfl) (Nat.le_of_ble_eq_true rfl) (fun hPc hDc => k_runV (As := [.int 1, .int v77]) (rest := []) C0 hZ hS hA (s_X10_fail_a0_1_f_bad_0_0 l dC dI cy sq a_this rm x_taped v77 x_end x_ended x_bad x_badPlace x_fault x_faultPlace x_namePlace x_awayTold x_away x_coded x_statements x_isCrossing x_textKind x_askSecond x_redMany x_isOpen x_lastGreen x_greenTo x_isCycleGreen x_stillGreen x_rowMany x_fitMany x_fitRules x_fitGreen x_undoable x_newest x_seeded x_qCoded x_qWaits x_qOpened x_qBase x_qPiled x_qAnswer x_qIsNew x_octets v77 (ib_w 0 0 h74 rfl)) mV_X10_308 hPc hDc rfl rfl rfl hl rfl rfl (Nat.le_of_ble_eq_true rfl) ⟨(Nat.le_of_ble_eq_true rfl), (Nat.le_of_ble_eq_true rfl)⟩ ⟨(Nat.le_of_ble_eq_true rfl), (Nat.le_of_ble_eq_true rfl)⟩ dX10_number_36) (fun u108 H locs hw hP hD hS => ?_)
            try dsimp only at hP hD hw
            replace hP : va_P (dC, dI) vwCl [(wi_rm0_0_1600_0 rm cy g_tape), (a_this, .inr (10, mfs rm x_taped v77 x_end x_ended 1 v77 x_fault x_faultPlace x_namePlace x_awayTold x_away x_coded x_statements x_isCrossing x_textKind x_askSecond x_redMany x_isOpen x_lastGreen x_greenTo x_isCycleGreen x_stillGreen x_rowMany x_fitMany x_fitRules x_fitGreen x_undoable x_newest x_seeded x_qCoded x_qWaits x_qOpened x_qBase x_qPiled x_qAnswer x_qIsNew x_octets))] H := hP
            replace hD := k_D hP hD
            refine lv_iconst (v := 0) hx hb dX10_number_39 rfl ?_
            subst hQ; exact k_iret hx hb hr hlk rfl ((v77, x_ended, 1, v77)) hS ⟨ib_w 0 1600 h101 rfl, fun q => absurd q (by decide), (by have := h83; omega), fun q => absurd q (by decide), (hO.symm.trans (by try simp only [show (0 : Int32).toInt = (0 : Int) from rfl]; try simp only [show (1 : Int32).toInt = (1 : Int) from rfl]; exact hq))⟩ (hP.sub [1, 0] rfl) (hD.sub [1, 0] rfl rfl) (Nat.le_of_ble_eq_true rfl) (Nat.le_of_ble_eq_true rfl) dX10_number_40
  · replace hq := lf_neg hq (lf_ne (lf_rf x_bad) (lf_lc 0 (0 : Int) rfl) c72)
    refine lv_iconst (v := 0) hx hb dX10_number_7 rfl ?_
    subst hQ; exact k_iret hx hb hr hlk rfl ((x_at, x_ended, x_bad, x_badPlace)) hS ⟨ib_w 0 1600 hx_at rfl, fun q => q, (by omega), fun q => absurd q c72, (hO.symm.trans (by try simp only [show (0 : Int32).toInt = (0 : Int) from rfl]; exact hq))⟩ hP hD (Nat.le_of_ble_eq_true rfl) (Nat.le_of_ble_eq_true rfl) dX10_number_8
set_option maxHeartbeats 4000000 in
set_option maxRecDepth 100000 in
theorem s_X10_number_a0_0_a1_2 (l : Launch) (dC : Nat → ClassId) (dI : Nat → Nat → Nat) (cy : Nat → ClassId) (sq : Nat → Nat) (a_this : Nat) (rm : Nat → Nat) (x_taped : Int32) (x_at : Int32) (x_end : Int32) (x_ended : Int32) (x_bad : Int32) (x_badPlace : Int32) (x_fault : Int32) (x_faultPlace : Int32) (x_namePlace : Int32) (x_awayTold : Int32) (x_away : Int32) (x_coded : Int32) (x_statements : Int32) (x_isCrossing : Int32) (x_textKind : Int32) (x_askSecond : Int32) (x_redMany : Int32) (x_isOpen : Int32) (x_lastGreen : Int32) (x_greenTo : Int32) (x_isCycleGreen : Int32) (x_stillGreen : Int32) (x_rowMany : Int32) (x_fitMany : Int32) (x_fitRules : Int32) (x_fitGreen : Int32) (x_undoable : Int32) (x_newest : Int32) (x_seeded : Int64) (x_qCoded : Int32) (x_qWaits : Int32) (x_qOpened : Int32) (x_qBase : Int32) (x_qPiled : Int32) (x_qAnswer : Int64) (x_qIsNew : Int32) (x_octets : Int32) (g_tape : Nat → Int32) (hx_at : ib x_at 0 1600) (hx_end : ib x_end 0 1600) (hg_tape : ia g_tape 1600 0 255) : k_Met l yX10_number cX10_number 5 (some .int) { frames := 1, cells := 0, slots := 0, locals := 25 } dC dI cy sq [.ref a_this, .int 0, .int 2] [(a_this, .inr (10, mfs rm x_taped x_at x_end x_ended x_bad x_badPlace x_fault x_faultPlace x_namePlace x_awayTold x_away x_coded x_statements x_isCrossing x_textKind x_askSecond x_redMany x_isOpen x_lastGreen x_greenTo x_isCycleGreen x_stillGreen x_rowMany x_fitMany x_fitRules x_fitGreen x_undoable x_newest x_seeded x_qCoded x_qWaits x_qOpened x_qBase x_qPiled x_qAnswer x_qIsNew x_octets)), (wi_rm0_0_1600_0 rm cy g_tape)] (k_Qi dC dI (fun (r : Int32) (u : Int32 × Int32 × Int32 × Int32) => match u with | (n0, n1, n2, n3) => ib n0 0 1600 ∧ (n2 = 0 → x_bad = 0) ∧ (n2 = 0 → ib r 0 2) ∧ (1 * x_at.toInt + (-1) * n0.toInt ≤ 0) ∧ (n2 = 0 → 1 * x_at.toInt + (-1) * n0.toInt ≤ (-1)) ∧ (F_X10_number_a0_0_a1_2 (Int32.toInt x_at) (Int32.toInt x_end) (Int32.toInt x_ended) (Int32.toInt x_bad) (Int32.toInt x_badPlace) (lf_A g_tape) = ((Int32.toInt r), (Int32.toInt n0), (Int32.toInt n1), (Int32.toInt n2), (Int32.toInt n3)))) (fun u : Int32 × Int32 × Int32 × Int32 => match u with | (n0, n1, n2, n3) => [(a_this, .inr (10, mfs rm x_taped n0 x_end n1 n2 n3 x_fault x_faultPlace x_namePlace x_awayTold x_away x_coded x_statements x_isCrossing x_textKind x_askSecond x_redMany x_isOpen x_lastGreen x_greenTo x_isCycleGreen x_stillGreen x_rowMany x_fitMany x_fitRules x_fitGreen x_undoable x_newest x_seeded x_qCoded x_qWaits x_qOpened x_qBase x_qPiled x_qAnswer x_qIsNew x_octets)), (wi_rm0_0_1600_0 rm cy g_tape)])) := by
  refine k_ofW2 (by decide +kernel) (Nat.le_of_ble_eq_true rfl) ?_
  intro p e s m below meth c A ls H locs args Q hQ C0 hZ hr hlk hin hP hD hA hS hl
  have C0 : k_cx p s m args c cX10_number 5 RX10 dC dI cy sq := C0
  have hx := C0.1
  have hb := C0.2.1
  have hl : lv_has ls 5 [(0, .ref a_this), (1, .int 0), (2, .int 2)] := hl
  obtain ⟨O, hO⟩ : ∃ o, o = F_X10_number_a0_0_a1_2 (Int32.toInt x_at) (Int32.toInt x_end) (Int32.toInt x_ended) (Int32.toInt x_bad) (Int32.toInt x_badPlace) (lf_A g_tape) := ⟨_, rfl⟩
  have hq := hO
  unfold F_X10_number_a0_0_a1_2 at hq
  have jn49 : ∀ (n : Nat) (J49_l3 : Int32) (J49_c0_2 : Int32) (J49_l4 : Int32) (H : Heap) (locs : List Loc) (ls : Array Slot), ib J49_l3 0 1599 → ib J49_c0_2 0 1600 → ib x_end 1 1600 → ib x_bad 0 0 → (1 * x_at.toInt + (-1) * J49_l3.toInt ≤ 0) → (1 * x_at.toInt + (-1) * J49_c0_2.toInt ≤ 0) → (O = F_X10_number_a0_0_a1_2_49 (Int32.toInt x_end) (Int32.toInt x_ended) (Int32.toInt x_bad) (Int32.toInt x_badPlace) (lf_A g_tape) n (Int32.toInt J49_l3) (Int32.toInt J49_c0_2) (Int32.toInt J49_l4)) → (J49_l3.toInt + 1 ≤ J49_c0_2.toInt ∨ (J49_l3 = J49_c0_2 ∧ ib (g_tape (Int32.toNatClampNeg J49_c0_2)) 48 57 ∧ J49_c0_2.toInt < x_end.toInt)) → 1601 ≤ J49_c0_2.toInt + (n : Int) → va_P (dC, dI) vwCl [(a_this, .inr (10, mfs rm x_taped J49_c0_2 x_end x_ended x_bad x_badPlace x_fault x_faultPlace x_namePlace x_awayTold x_away x_coded x_statements x_isCrossing x_textKind x_askSecond x_redMany x_isOpen x_lastGreen x_greenTo x_isCycleGreen x_stillGreen x_rowMany x_fitMany x_fitRules x_fitGreen x_undoable x_newest x_seeded x_qCoded x_qWaits x_qOpened x_qBase x_qPiled x_qAnswer x_qIsNew x_octets)), (wi_rm0_0_1600_0 rm cy g_tape)] H → va_D A [(a_this, .inr (10, mfs rm x_taped J49_c0_2 x_end x_ended x_bad x_badPlace x_fault x_faultPlace x_namePlace x_awayTold x_away x_coded x_statements x_isCrossing x_textKind x_askSecond x_redMany x_isOpen x_lastGreen x_greenTo x_isCycleGreen x_stillGreen x_rowMany x_fitMany x_fitRules x_fitGreen x_undoable x_newest x_seeded x_qCoded x_qWaits x_qOpened x_qBase x_qPiled x_qAnswer x_qIsNew x_octets)), (wi_rm0_0_1600_0 rm cy g_tape)] → va_S A s.heap H locs → lv_has ls 5 [(0, .ref a_this), (1, .int 0), (2, .int 2), (3, .int J49_l3), (4, .int J49_l4)] → W p l e { frames := 1, cells := 0, slots := 0, locals := 25 } s m args below meth c H locs 0 0 Q (F0 m 49 ls []) := by
    as_aux_lemma =>
      intro n
      induction n with
      | zero =>
        intro J49_l3 J49_c0_2 J49_l4 H locs ls hJ49_l3 hJ49_c0_2 hK49_x_end hK49_x_bad hJ49_lin0 hJ49_lin1 hq hJ49_gh hm
        exact absurd hm (by have := hJ49_c0_2; unfold ib at this; omega)
      | succ n ih =>
        intro J49_l3 J49_c0_2 J49_l4 H locs ls hJ49_l3 hJ49_c0_2 hK49_x_end hK49_x_bad hJ49_lin0 hJ49_lin1 hq hJ49_gh hm49 hP hD hS hl
        have ih49 := ih
        obtain ⟨K49, hK49⟩ : ∃ K, K = F_X10_number_a0_0_a1_2_49 (Int32.toInt x_end) (Int32.toInt x_ended) (Int32.toInt x_bad) (Int32.toInt x_badPlace) (lf_A g_tape) n := ⟨_, rfl⟩
        have hq : O = F_X10_number_a0_0_a1_2_49b (Int32.toInt x_end) (Int32.toInt x_ended) (Int32.toInt x_bad) (Int32.toInt x_badPlace) (lf_A g_tape) K49 (Int32.toInt J49_l3) (Int32.toInt J49_c0_2) (Int32.toInt J49_l4) := by rw [hK49]; exact hq
        unfold F_X10_number_a0_0_a1_2_49b at hq
        refine lv_aload_n hx hb dX10_number_49 rfl (lv_at hl 0 rfl) ?_
        refine k_get C0 fg_X10_285 hP 0 rfl rfl dX10_number_50 ?_
        refine lv_aload_n hx hb dX10_number_53 rfl (lv_at hl 0 rfl) ?_
        refine k_get C0 fg_X10_288 hP 0 rfl rfl dX10_number_54 ?_
        refine lv_icmp_ge (tgt := 129) hx hb dX10_number_57 rfl (fun c1 => ?_) (fun c1 => ?_)
        · as_aux_lemma =>
            replace hq := lf_pos hq (lf_le (lf_rf x_end) (lf_rf J49_c0_2) c1)
            have h2 := ib_le hK49_x_end hJ49_c0_2 c1
            have h3 : ib J49_c0_2 1 1600 := ib_w 1 1600 h2.2 rfl
            have h4 : ib x_at 0 1599 := ⟨(hx_at).1, by have := (hx_at).2; have := hJ49_lin0; have := (hJ49_l3).2; omega⟩
            have h5 : J49_l3.toInt + 1 ≤ J49_c0_2.toInt := by rcases hJ49_gh with q | q; exact q; exact absurd q.2.2 (by have := (hK49_x_end).1; have := (hK49_x_end).2; have := (h3).1; have := (h3).2; have := hJ49_lin1; have := (h4).1; have := (h4).2; have := hJ49_lin0; have := (hJ49_l3).1; have := (hJ49_l3).2; have := Int32.le_iff_toInt_le.mp c1; omega)
            have h6 : 1 * J49_l3.toInt + (-1) * J49_c0_2.toInt ≤ (-1) := by omega
            refine lv_aload_n hx hb dX10_number_129 rfl (lv_at hl 0 rfl) ?_
            refine lv_aload_n hx hb dX10_number_130 rfl (lv_at hl 0 rfl) ?_
            refine k_get C0 fg_X10_285 hP 0 rfl rfl dX10_number_131 ?_
            refine k_put C0 fp_X10_299 hP hD hS 0 rfl rfl rfl (Nat.le_of_ble_eq_true rfl) dX10_number_134 (fun H locs hP hD hS => ?_)
            replace hP : va_P (dC, dI) vwCl [(a_this, .inr (10, mfs rm x_taped J49_c0_2 x_end J49_c0_2 x_bad x_badPlace x_fault x_faultPlace x_namePlace x_awayTold x_away x_coded x_statements x_isCrossing x_textKind x_askSecond x_redMany x_isOpen x_lastGreen x_greenTo x_isCycleGreen x_stillGreen x_rowMany x_fitMany x_fitRules x_fitGreen x_undoable x_newest x_seeded x_qCoded x_qWaits x_qOpened x_qBase x_qPiled x_qAnswer x_qIsNew x_octets)), (wi_rm0_0_1600_0 rm cy g_tape)] H := hP
            replace hD := k_D hP hD
            refine lv_iload hx hb dX10_number_137 (lv_at hl 4 rfl) ?_
            refine lv_i2l (v := J49_l4.toInt64) hx hb dX10_number_139 rfl ?_
            refine lv_iload_n hx hb dX10_number_140 rfl (lv_at hl 1 rfl) ?_
            refine lv_i2l (v := 0) hx hb dX10_number_141 (by decide) ?_
            refine lv_iload_n hx hb dX10_number_142 rfl (lv_at hl 2 rfl) ?_
            refine lv_i2l (v := 2) hx hb dX10_number_143 (by decide) ?_
            refine k_jim hP hD hS hA [] [true, true] rfl rfl rfl 0 0 (Nat.le_of_ble_eq_true rfl) (Nat.le_of_ble_eq_true rfl) (fun hPc hDc => k_runS (As := [.long J49_l4.toInt64, .long 0, .long 2]) (rest := []) C0 hZ hS hA (c_isIn l dC dI cy sq J49_l4.toInt64 0 2) mS_X10_318 hPc hDc hl rfl rfl (Nat.le_of_ble_eq_true rfl) ⟨(Nat.le_of_ble_eq_true rfl), (Nat.le_of_ble_eq_true rfl)⟩ ⟨(Nat.le_of_ble_eq_true rfl), (Nat.le_of_ble_eq_true rfl)⟩ dX10_number_144) (fun r7 u8 H locs hw hP hD hS => ?_)
            replace hP : va_P (dC, dI) vwCl [(a_this, .inr (10, mfs rm x_taped J49_c0_2 x_end J49_c0_2 x_bad x_badPlace x_fault x_faultPlace x_namePlace x_awayTold x_away x_coded x_statements x_isCrossing x_textKind x_askSecond x_redMany x_isOpen x_lastGreen x_greenTo x_isCycleGreen x_stillGreen x_rowMany x_fitMany x_fitRules x_fitGreen x_undoable x_newest x_seeded x_qCoded x_qWaits x_qOpened x_qBase x_qPiled x_qAnswer x_qIsNew x_octets)), (wi_rm0_0_1600_0 rm cy g_tape)] H := hP
            replace hD := k_D hP hD
            have h9 := hw
            have h10 : ib r7 0 1 := by rw [h9]; exact k_isf_01 _ _ _
            have Er7 := lf_isine h9 (lf_i2l (lf_rf J49_l4)) (lf_ll 0 (0 : Int) rfl) (lf_ll 2 (2 : Int) rfl)
            refine lv_if_ne (tgt := 156) hx hb dX10_number_147 rfl (fun c11 => ?_) (fun c11 => ?_)
            · replace hq := lf_neg hq (lf_ne Er7 (lf_lc 0 (0 : Int) rfl) c11)
              have h12 : ib r7 1 1 := ib_w 1 1 (ib_ne_lo 0 h10 rfl c11) rfl
              have h13 : ib J49_l4 0 2 := ib_w 0 2 (ib_two (ib_any J49_l4) (k_isf_v h9 (show 0 ≤ (0 : Int64).toInt by decide) (show (2 : Int64).toInt ≤ 2 by decide) (ib_nz h12 rfl))) rfl
              refine lv_iload hx hb dX10_number_156 (lv_at hl 4 rfl) ?_
              subst hQ; exact k_iret hx hb hr hlk rfl ((J49_c0_2, J49_c0_2, x_bad, x_badPlace)) hS ⟨ib_w 0 1600 h3 rfl, fun q => q, fun _ => ib_w 0 2 h13 rfl, (by have := hJ49_lin1; omega), fun hq9 => (by have := hJ49_lin1; have := h6; have := hJ49_lin0; omega), (hO.symm.trans (by exact hq))⟩ hP hD (Nat.le_of_ble_eq_true rfl) (Nat.le_of_ble_eq_true rfl) dX10_number_158
            · replace hq := lf_pos hq (lf_eq Er7 (lf_lc 0 (0 : Int) rfl) c11)
              have h14 := ib_eq h10 (ib_c 0 0 0 rfl) c11
              have h15 : ib r7 0 0 := ib_w 0 0 h14.1 rfl
              refine lv_aload_n hx hb dX10_number_150 rfl (lv_at hl 0 rfl) ?_
              refine lv_iconst (v := 2) hx hb dX10_number_151 rfl ?_
              refine lv_iload_n hx hb dX10_number_152 rfl (lv_at hl 3 rfl) ?_
              refine k_jvm hP hD hS hA [0] [false, true] rfl rfl rfl 0 0 (Nat.le_of_ble_eq_true rfl) (Nat.le_of_ble_eq_true rfl) (fun hPc hDc => k_runV (As := [.int 2, .int J49_l3]) (rest := []) C0 hZ hS hA (s_X10_fail_a0_2_f_bad_0_0 l dC dI cy sq a_this rm x_taped J49_c0_2 x_end J49_c0_2 x_bad x_badPlace x_fault x_faultPlace x_namePlace x_awayTold x_away x_coded x_statements x_isCrossing x_textKind x_askSecond x_redMany x_isOpen x_lastGreen x_greenTo x_isCycleGreen x_stillGreen x_rowMany x_fitMany x_fitRules x_fitGreen x_undoable x_newest x_seeded x_qCoded x_qWaits x_qOpened x_qBase x_qPiled x_qAnswer x_qIsNew x_octets J49_l3 (ib_w 0 0 hK49_x_bad rfl)) mV_X10_308 hPc hDc rfl rfl rfl hl rfl rfl (Nat.le_of_ble_eq_true rfl) ⟨(Nat.le_of_ble_eq_true rfl), (Nat.le_of_ble_eq_true rfl)⟩ ⟨(Nat.le_of_ble_eq_true rfl), (Nat.le_of_ble_eq_true rfl)⟩ dX10_number_153) (fun u17 H locs hw hP hD hS => ?_)
              try dsimp only at hP hD hw
              replace hP : va_P (dC, dI) vwCl [(wi_rm0_0_1600_0 rm cy g_tape), (a_this, .inr (10, mfs rm x_taped J49_c0_2 x_end J49_c0_2 2 J49_l3 x_fault x_faultPlace x_namePlace x_awayTold x_away x_coded x_statements x_isCrossing x_textKind x_askSecond x_redMany x_isOpen x_lastGreen x_greenTo x_isCycleGreen x_stillGreen x_rowMany x_fitMany x_fitRules x_fitGreen x_undoable x_newest x_seeded x_qCoded x_qWaits x_qOpened x_qBase x_qPiled x_qAnswer x_qIsNew x_octets))] H := hP
              replace hD := k_D hP hD
              refine lv_iload hx hb dX10_number_156 (lv_at hl 4 rfl) ?_
              subst hQ; exact k_iret hx hb hr hlk rfl ((J49_c0_2, J49_c0_2, 2, J49_l3)) hS ⟨ib_w 0 1600 h3 rfl, fun q => absurd q (by decide), fun q => absurd q (by decide), (by have := hJ49_lin1; omega), fun q => absurd q (by decide), (hO.symm.trans (by try simp only [show (2 : Int32).toInt = (2 : Int) from rfl]; exact hq))⟩ (hP.sub [1, 0] rfl) (hD.sub [1, 0] rfl rfl) (Nat.le_of_ble_eq_true rfl) (Nat.le_of_ble_eq_true rfl) dX10_number_158
        · as_aux_lemma =>
            replace hq := lf_neg hq (lf_nle (lf_rf x_end) (lf_rf J49_c0_2) c1)
            have h18 := ib_nle hK49_x_end hJ49_c0_2 c1
            have h19 : ib J49_c0_2 0 1599 := ib_w 0 1599 h18.2 rfl
            have h20 : ib x_at 0 1599 := ⟨(hx_at).1, by have := (hx_at).2; have := hJ49_lin0; have := (hJ49_l3).2; omega⟩
            refine lv_aload_n hx hb dX10_number_60 rfl (lv_at hl 0 rfl) ?_
            refine k_get C0 fg_X10_7 hP 0 rfl rfl dX10_number_61 ?_
            refine lv_aload_n hx hb dX10_number_64 rfl (lv_at hl 0 rfl) ?_
            refine k_get C0 fg_X10_285 hP 0 rfl rfl dX10_number_65 ?_
            refine va_iald hx hb C0.2.2.2.2.2.1 hP 1 0 rfl rfl (ib_in 1600 h19 rfl) dX10_number_68 ?_
            refine lv_topi (fun z21 ez21 => ?_)
            have h22 : ib z21 0 255 := by rw [ez21]; exact ia_at hg_tape (ib_in 1600 h19 rfl)
            have Ez21 := lf_ld ez21 (lf_ra g_tape) (lf_rf J49_c0_2)
            refine k_jim hP hD hS hA [] [true, true] rfl rfl rfl 0 0 (Nat.le_of_ble_eq_true rfl) (Nat.le_of_ble_eq_true rfl) (fun hPc hDc => k_runS (As := [.int z21]) (rest := []) C0 hZ hS hA (s_X10_isDigit l dC dI cy sq z21 ) mS_X10_315 hPc hDc hl rfl rfl (Nat.le_of_ble_eq_true rfl) ⟨(Nat.le_of_ble_eq_true rfl), (Nat.le_of_ble_eq_true rfl)⟩ ⟨(Nat.le_of_ble_eq_true rfl), (Nat.le_of_ble_eq_true rfl)⟩ dX10_number_69) (fun r23 u24 H locs hw hP hD hS => ?_)
            try dsimp only at hP hD hw
            replace hP : va_P (dC, dI) vwCl [(a_this, .inr (10, mfs rm x_taped J49_c0_2 x_end x_ended x_bad x_badPlace x_fault x_faultPlace x_namePlace x_awayTold x_away x_coded x_statements x_isCrossing x_textKind x_askSecond x_redMany x_isOpen x_lastGreen x_greenTo x_isCycleGreen x_stillGreen x_rowMany x_fitMany x_fitRules x_fitGreen x_undoable x_newest x_seeded x_qCoded x_qWaits x_qOpened x_qBase x_qPiled x_qAnswer x_qIsNew x_octets)), (wi_rm0_0_1600_0 rm cy g_tape)] H := hP
            replace hD := k_D hP hD
            obtain ⟨h25, h26, h27, h28⟩ := hw
            have h28 := by have h9 := h28; rw [lf_u Ez21] at h9; exact h9
            replace hq := lf_b1 hq h28
            refine lv_if_eq (tgt := 129) hx hb dX10_number_72 rfl (fun c29 => ?_) (fun c29 => ?_)
            · as_aux_lemma =>
                replace hq := lf_pos hq (lf_eq (lf_rf r23) (lf_lc 0 (0 : Int) rfl) c29)
                have h30 := ib_eq h25 (ib_c 0 0 0 rfl) c29
                have h31 : ib r23 0 0 := ib_w 0 0 h30.1 rfl
                have h32 : J49_l3.toInt + 1 ≤ J49_c0_2.toInt := by rcases hJ49_gh with q | q; exact q; exact absurd (show ib z21 48 57 by rw [ez21]; exact q.2.1) (h27 (ib_one h31 rfl))
                have h33 : 1 * J49_l3.toInt + (-1) * J49_c0_2.toInt ≤ (-1) := by omega
                refine lv_aload_n hx hb dX10_number_129 rfl (lv_at hl 0 rfl) ?_
                refine lv_aload_n hx hb dX10_number_130 rfl (lv_at hl 0 rfl) ?_
                refine k_get C0 fg_X10_285 hP 0 rfl rfl dX10_number_131 ?_
                refine k_put C0 fp_X10_299 hP hD hS 0 rfl rfl rfl (Nat.le_of_ble_eq_true rfl) dX10_number_134 (fun H locs hP hD hS => ?_)
                replace hP : va_P (dC, dI) vwCl [(a_this, .inr (10, mfs rm x_taped J49_c0_2 x_end J49_c0_2 x_bad x_badPlace x_fault x_faultPlace x_namePlace x_awayTold x_away x_coded x_statements x_isCrossing x_textKind x_askSecond x_redMany x_isOpen x_lastGreen x_greenTo x_isCycleGreen x_stillGreen x_rowMany x_fitMany x_fitRules x_fitGreen x_undoable x_newest x_seeded x_qCoded x_qWaits x_qOpened x_qBase x_qPiled x_qAnswer x_qIsNew x_octets)), (wi_rm0_0_1600_0 rm cy g_tape)] H := hP
                replace hD := k_D hP hD
                refine lv_iload hx hb dX10_number_137 (lv_at hl 4 rfl) ?_
                refine lv_i2l (v := J49_l4.toInt64) hx hb dX10_number_139 rfl ?_
                refine lv_iload_n hx hb dX10_number_140 rfl (lv_at hl 1 rfl) ?_
                refine lv_i2l (v := 0) hx hb dX10_number_141 (by decide) ?_
                refine lv_iload_n hx hb dX10_number_142 rfl (lv_at hl 2 rfl) ?_
                refine lv_i2l (v := 2) hx hb dX10_number_143 (by decide) ?_
                refine k_jim hP hD hS hA [] [true, true] rfl rfl rfl 0 0 (Nat.le_of_ble_eq_true rfl) (Nat.le_of_ble_eq_true rfl) (fun hPc hDc => k_runS (As := [.long J49_l4.toInt64, .long 0, .long 2]) (rest := []) C0 hZ hS hA (c_isIn l dC dI cy sq J49_l4.toInt64 0 2) mS_X10_318 hPc hDc hl rfl rfl (Nat.le_of_ble_eq_true rfl) ⟨(Nat.le_of_ble_eq_true rfl), (Nat.le_of_ble_eq_true rfl)⟩ ⟨(Nat.le_of_ble_eq_true rfl), (Nat.le_of_ble_eq_true rfl)⟩ dX10_number_144) (fun r34 u35 H locs hw hP hD hS => ?_)
                replace hP : va_P (dC, dI) vwCl [(a_this, .inr (10, mfs rm x_taped J49_c0_2 x_end J49_c0_2 x_bad x_badPlace x_fault x_faultPlace x_namePlace x_awayTold x_away x_coded x_statements x_isCrossing x_textKind x_askSecond x_redMany x_isOpen x_lastGreen x_greenTo x_isCycleGreen x_stillGreen x_rowMany x_fitMany x_fitRules x_fitGreen x_undoable x_newest x_seeded x_qCoded x_qWaits x_qOpened x_qBase x_qPiled x_qAnswer x_qIsNew x_octets)), (wi_rm0_0_1600_0 rm cy g_tape)] H := hP
                replace hD := k_D hP hD
                have h36 := hw
                have h37 : ib r34 0 1 := by rw [h36]; exact k_isf_01 _ _ _
                have Er34 := lf_isine h36 (lf_i2l (lf_rf J49_l4)) (lf_ll 0 (0 : Int) rfl) (lf_ll 2 (2 : Int) rfl)
                refine lv_if_ne (tgt := 156) hx hb dX10_number_147 rfl (fun c38 => ?_) (fun c38 => ?_)
                · replace hq := lf_neg hq (lf_ne Er34 (lf_lc 0 (0 : Int) rfl) c38)
                  have h39 : ib r34 1 1 := ib_w 1 1 (ib_ne_lo 0 h37 rfl c38) rfl
                  have h40 : ib J49_l4 0 2 := ib_w 0 2 (ib_two (ib_any J49_l4) (k_isf_v h36 (show 0 ≤ (0 : Int64).toInt by decide) (show (2 : Int64).toInt ≤ 2 by decide) (ib_nz h39 rfl))) rfl
                  have h41 : ib J49_l3 0 1598 := ⟨(hJ49_l3).1, by have := (hJ49_l3).2; have := h33; have := (h19).2; omega⟩
                  have h42 : ib J49_c0_2 1 1599 := ⟨by have := (h19).1; have := h33; have := (h41).1; omega, (h19).2⟩
                  refine lv_iload hx hb dX10_number_156 (lv_at hl 4 rfl) ?_
                  subst hQ; exact k_iret hx hb hr hlk rfl ((J49_c0_2, J49_c0_2, x_bad, x_badPlace)) hS ⟨ib_w 0 1600 h42 rfl, fun q => q, fun _ => ib_w 0 2 h40 rfl, (by have := hJ49_lin1; omega), fun hq9 => (by have := hJ49_lin1; have := h33; have := hJ49_lin0; omega), (hO.symm.trans (by exact hq))⟩ hP hD (Nat.le_of_ble_eq_true rfl) (Nat.le_of_ble_eq_true rfl) dX10_number_158
                · replace hq := lf_pos hq (lf_eq Er34 (lf_lc 0 (0 : Int) rfl) c38)
                  have h43 := ib_eq h37 (ib_c 0 0 0 rfl) c38
                  have h44 : ib r34 0 0 := ib_w 0 0 h43.1 rfl
                  have h45 : ib J49_l3 0 1598 := ⟨(hJ49_l3).1, by have := (hJ49_l3).2; have := h33; have := (h19).2; omega⟩
                  have h46 : ib J49_c0_2 1 1599 := ⟨by have := (h19).1; have := h33; have := (h45).1; omega, (h19).2⟩
                  have h47 : ib x_at 0 1598 := ⟨(h20).1, by have := (h20).2; have := hJ49_lin0; have := (h45).2; omega⟩
                  refine lv_aload_n hx hb dX10_number_150 rfl (lv_at hl 0 rfl) ?_
                  refine lv_iconst (v := 2) hx hb dX10_number_151 rfl ?_
                  refine lv_iload_n hx hb dX10_number_152 rfl (lv_at hl 3 rfl) ?_
                  refine k_jvm hP hD hS hA [0] [false, true] rfl rfl rfl 0 0 (Nat.le_of_ble_eq_true rfl) (Nat.le_of_ble_eq_true rfl) (fun hPc hDc => k_runV (As := [.int 2, .int J49_l3]) (rest := []) C0 hZ hS hA (s_X10_fail_a0_2_f_bad_0_0 l dC dI cy sq a_this rm x_taped J49_c0_2 x_end J49_c0_2 x_bad x_badPlace x_fault x_faultPlace x_namePlace x_awayTold x_away x_coded x_statements x_isCrossing x_textKind x_askSecond x_redMany x_isOpen x_lastGreen x_greenTo x_isCycleGreen x_stillGreen x_rowMany x_fitMany x_fitRules x_fitGreen x_undoable x_newest x_seeded x_qCoded x_qWaits x_qOpened x_qBase x_qPiled x_qAnswer x_qIsNew x_octets J49_l3 (ib_w 0 0 hK49_x_bad rfl)) mV_X10_308 hPc hDc rfl rfl rfl hl rfl rfl (Nat.le_of_ble_eq_true rfl) ⟨(Nat.le_of_ble_eq_true rfl), (Nat.le_of_ble_eq_true rfl)⟩ ⟨(Nat.le_of_ble_eq_true rfl), (Nat.le_of_ble_eq_true rfl)⟩ dX10_number_153) (fun u49 H locs hw hP hD hS => ?_)
                  try dsimp only at hP hD hw
                  replace hP : va_P (dC, dI) vwCl [(wi_rm0_0_1600_0 rm cy g_tape), (a_this, .inr (10, mfs rm x_taped J49_c0_2 x_end J49_c0_2 2 J49_l3 x_fault x_faultPlace x_namePlace x_awayTold x_away x_coded x_statements x_isCrossing x_textKind x_askSecond x_redMany x_isOpen x_lastGreen x_greenTo x_isCycleGreen x_stillGreen x_rowMany x_fitMany x_fitRules x_fitGreen x_undoable x_newest x_seeded x_qCoded x_qWaits x_qOpened x_qBase x_qPiled x_qAnswer x_qIsNew x_octets))] H := hP
                  replace hD := k_D hP hD
                  refine lv_iload hx hb dX10_number_156 (lv_at hl 4 rfl) ?_
                  subst hQ; exact k_iret hx hb hr hlk rfl ((J49_c0_2, J49_c0_2, 2, J49_l3)) hS ⟨ib_w 0 1600 h46 rfl, fun q => absurd q (by decide), fun q => absurd q (by decide), (by have := hJ49_lin1; omega), fun q => absurd q (by decide), (hO.symm.trans (by try simp only [show (2 : Int32).toInt = (2 : Int) from rfl]; exact hq))⟩ (hP.sub [1, 0] rfl) (hD.sub [1, 0] rfl rfl) (Nat.le_of_ble_eq_true rfl) (Nat.le_of_ble_eq_true rfl) dX10_number_158
            · as_aux_lemma =>
                replace hq := lf_neg hq (lf_ne (lf_rf r23) (lf_lc 0 (0 : Int) rfl) c29)
                have h50 : ib r23 1 1 := ib_w 1 1 (ib_ne_lo 0 h25 rfl c29) rfl
                have h51 : ib z21 48 57 := ib_w 48 57 (ib_two h22 (h26 (ib_nz h50 rfl))) rfl
                refine lv_aload_n hx hb dX10_number_75 rfl (lv_at hl 0 rfl) ?_
                refine k_get C0 fg_X10_285 hP 0 rfl rfl dX10_number_76 ?_
                refine lv_iload_n hx hb dX10_number_79 rfl (lv_at hl 3 rfl) ?_
                refine lv_isub hx hb dX10_number_80 ?_
                refine lv_topi (fun z52 ez52 => ?_)
                have h53 := ib_sub h19 hJ49_l3 rfl
                rw [← ez52] at h53
                have h54 : ib z52 (-1599) 1599 := ib_w (-1599) 1599 h53.1 rfl
                have Ez52 := lf_sub h53.2 (lf_rf J49_c0_2) (lf_rf J49_l3)
                refine lv_iconst (v := 4) hx hb dX10_number_81 rfl ?_
                refine lv_icmp_ne (tgt := 96) hx hb dX10_number_82 rfl (fun c55 => ?_) (fun c55 => ?_)
                · as_aux_lemma =>
                    replace hq := lf_neg hq (lf_ne Ez52 (lf_lc 4 (4 : Int) rfl) c55)
                    refine lv_bipush (v := 10) hx hb dX10_number_96 rfl ?_
                    refine lv_iload hx hb dX10_number_98 (lv_at hl 4 rfl) ?_
                    refine lv_imul hx hb dX10_number_100 ?_
                    refine lv_topi (fun z56 ez56 => ?_)
                    have Ez56 := lf_op lf_imul ez56 (lf_lc 10 (10 : Int) rfl) (lf_rf J49_l4)
                    refine lv_aload_n hx hb dX10_number_101 rfl (lv_at hl 0 rfl) ?_
                    refine k_get C0 fg_X10_7 hP 0 rfl rfl dX10_number_102 ?_
                    refine lv_aload_n hx hb dX10_number_105 rfl (lv_at hl 0 rfl) ?_
                    refine k_get C0 fg_X10_285 hP 0 rfl rfl dX10_number_106 ?_
                    refine va_iald hx hb C0.2.2.2.2.2.1 hP 1 0 rfl rfl (ib_in 1600 h19 rfl) dX10_number_109 ?_
                    refine lv_topi (fun z57 ez57 => ?_)
                    obtain rfl : z21 = z57 := ez21.trans ez57.symm
                    refine lv_iadd hx hb dX10_number_110 ?_
                    refine lv_topi (fun z58 ez58 => ?_)
                    have Ez58 := lf_op lf_iadd ez58 Ez56 Ez21
                    refine lv_bipush (v := 48) hx hb dX10_number_111 rfl ?_
                    refine lv_isub hx hb dX10_number_113 ?_
                    refine lv_topi (fun z59 ez59 => ?_)
                    have Ez59 := lf_op lf_isub ez59 Ez58 (lf_lc 48 (48 : Int) rfl)
                    refine lv_istore (lv' := [(4, .int z59), (0, .ref a_this), (1, .int 0), (2, .int 2), (3, .int J49_l3)]) hx hb dX10_number_114 hl (Nat.le_of_ble_eq_true rfl) rfl (fun ls hl => ?_)
                    refine lv_aload_n hx hb dX10_number_116 rfl (lv_at hl 1 rfl) ?_
                    refine lv_dup hx hb dX10_number_117 rfl ?_
                    refine k_get C0 fg_X10_285 hP 0 rfl rfl dX10_number_118 ?_
                    refine lv_iconst (v := 1) hx hb dX10_number_121 rfl ?_
                    refine lv_iadd hx hb dX10_number_122 ?_
                    refine lv_topi (fun z60 ez60 => ?_)
                    have h61 := ib_add h19 (ib_c 1 1 1 rfl) rfl
                    rw [← ez60] at h61
                    have h62 : ib z60 1 1600 := ib_w 1 1600 h61.1 rfl
                    have Ez60 := lf_add h61.2 (lf_rf J49_c0_2) (lf_lc 1 (1 : Int) rfl)
                    refine k_put C0 fp_X10_285 hP hD hS 0 rfl rfl rfl (Nat.le_of_ble_eq_true rfl) dX10_number_123 (fun H locs hP hD hS => ?_)
                    replace hP : va_P (dC, dI) vwCl [(a_this, .inr (10, mfs rm x_taped z60 x_end x_ended x_bad x_badPlace x_fault x_faultPlace x_namePlace x_awayTold x_away x_coded x_statements x_isCrossing x_textKind x_askSecond x_redMany x_isOpen x_lastGreen x_greenTo x_isCycleGreen x_stillGreen x_rowMany x_fitMany x_fitRules x_fitGreen x_undoable x_newest x_seeded x_qCoded x_qWaits x_qOpened x_qBase x_qPiled x_qAnswer x_qIsNew x_octets)), (wi_rm0_0_1600_0 rm cy g_tape)] H := hP
                    replace hD := k_D hP hD
                    refine lv_goto (tgt := 49) hx hb dX10_number_126 rfl ?_
                    exact ih49 J49_l3 z60 z59 H locs ls (ib_w 0 1599 hJ49_l3 rfl) (ib_w 0 1600 h62 rfl) (ib_w 1 1600 hK49_x_end rfl) (ib_w 0 0 hK49_x_bad rfl) (by have := hJ49_lin0; omega) (by have := h61.2; have : (1 : Int32).toInt = 1 := rfl; have := hJ49_lin1; omega) (by rw [← hK49]; rw [lf_u Ez60]; rw [lf_u Ez59]; exact hq) (Or.inl (by have q0 := h61.2; have q1 : (1 : Int32).toInt = 1 := rfl; rcases hJ49_gh with q | q <;> first | omega | (have := congrArg Int32.toInt q.1; omega))) (by have := h61.2; have : (1 : Int32).toInt = 1 := rfl; omega) hP hD hS (lv_sub hl [1, 2, 3, 4, 0] rfl)
                · replace hq := lf_pos hq (lf_eq Ez52 (lf_lc 4 (4 : Int) rfl) c55)
                  have h63 := ib_eq h54 (ib_c 4 4 4 rfl) c55
                  have h64 : ib z52 4 4 := ib_w 4 4 h63.1 rfl
                  have h65 : ib J49_c0_2 4 1599 := ⟨by have := h53.2; have := (h64).1; have := (h64).2; have := (h19).1; have := (h19).2; have := (hJ49_l3).1; have := (hJ49_l3).2; omega, by have := h53.2; have := (h64).1; have := (h64).2; have := (h19).1; have := (h19).2; have := (hJ49_l3).1; have := (hJ49_l3).2; omega⟩
                  have h66 : ib J49_l3 0 1595 := ⟨by have := h53.2; have := (h64).1; have := (h64).2; have := (h19).1; have := (h19).2; have := (hJ49_l3).1; have := (hJ49_l3).2; omega, by have := h53.2; have := (h64).1; have := (h64).2; have := (h19).1; have := (h19).2; have := (hJ49_l3).1; have := (hJ49_l3).2; omega⟩
                  have h67 : ib x_at 0 1595 := ⟨(h20).1, by have := (h20).2; have := hJ49_lin0; have := (h66).2; omega⟩
                  refine lv_aload_n hx hb dX10_number_85 rfl (lv_at hl 0 rfl) ?_
                  refine lv_iconst (v := 1) hx hb dX10_number_86 rfl ?_
                  refine lv_aload_n hx hb dX10_number_87 rfl (lv_at hl 0 rfl) ?_
                  refine k_get C0 fg_X10_285 hP 0 rfl rfl dX10_number_88 ?_
                  refine k_jvm hP hD hS hA [0] [false, true] rfl rfl rfl 0 0 (Nat.le_of_ble_eq_true rfl) (Nat.le_of_ble_eq_true rfl) (fun hPc hDc => k_runV (As := [.int 1, .int J49_c0_2]) (rest := []) C0 hZ hS hA (s_X10_fail_a0_1_f_bad_0_0 l dC dI cy sq a_this rm x_taped J49_c0_2 x_end x_ended x_bad x_badPlace x_fault x_faultPlace x_namePlace x_awayTold x_away x_coded x_statements x_isCrossing x_textKind x_askSecond x_redMany x_isOpen x_lastGreen x_greenTo x_isCycleGreen x_stillGreen x_rowMany x_fitMany x_fitRules x_fitGreen x_undoable x_newest x_seeded x_qCoded x_qWaits x_qOpened x_qBase x_qPiled x_qAnswer x_qIsNew x_octets J49_c0_2 (ib_w 0 0 hK49_x_bad rfl)) mV_X10_308 hPc hDc rfl rfl rfl hl rfl rfl (Nat.le_of_ble_eq_true rfl) ⟨(Nat.le_of_ble_eq_true rfl), (Nat.le_of_ble_eq_true rfl)⟩ ⟨(Nat.le_of_ble_eq_true rfl), (Nat.le_of_ble_eq_true rfl)⟩ dX10_number_91) (fun u69 H locs hw hP hD hS => ?_)
                  try dsimp only at hP hD hw
                  replace hP : va_P (dC, dI) vwCl [(wi_rm0_0_1600_0 rm cy g_tape), (a_this, .inr (10, mfs rm x_taped J49_c0_2 x_end x_ended 1 J49_c0_2 x_fault x_faultPlace x_namePlace x_awayTold x_away x_coded x_statements x_isCrossing x_textKind x_askSecond x_redMany x_isOpen x_lastGreen x_greenTo x_isCycleGreen x_stillGreen x_rowMany x_fitMany x_fitRules x_fitGreen x_undoable x_newest x_seeded x_qCoded x_qWaits x_qOpened x_qBase x_qPiled x_qAnswer x_qIsNew x_octets))] H := hP
                  replace hD := k_D hP hD
                  refine lv_iconst (v := 0) hx hb dX10_number_94 rfl ?_
                  subst hQ; exact k_iret hx hb hr hlk rfl ((J49_c0_2, x_ended, 1, J49_c0_2)) hS ⟨ib_w 0 1600 h65 rfl, fun q => absurd q (by decide), fun q => absurd q (by decide), (by have := hJ49_lin1; omega), fun q => absurd q (by decide), (hO.symm.trans (by try simp only [show (0 : Int32).toInt = (0 : Int) from rfl]; try simp only [show (1 : Int32).toInt = (1 : Int) from rfl]; exact hq))⟩ (hP.sub [1, 0] rfl) (hD.sub [1, 0] rfl rfl) (Nat.le_of_ble_eq_true rfl) (Nat.le_of_ble_eq_true rfl) dX10_number_95
  refine lv_aload_n hx hb dX10_number_0 rfl (lv_at hl 0 rfl) ?_
  refine k_get C0 fg_X10_279 hP 0 rfl rfl dX10_number_1 ?_
  refine lv_if_eq (tgt := 9) hx hb dX10_number_4 rfl (fun c70 => ?_) (fun c70 => ?_)
  · as_aux_lemma =>
      replace hq := lf_pos hq (lf_eq (lf_rf x_bad) (lf_lc 0 (0 : Int) rfl) c70)
      have h71 := ib_eq (ib_any x_bad) (ib_c 0 0 0 rfl) c70
      have h72 : ib x_bad 0 0 := ib_w 0 0 h71.1 rfl
      refine lv_aload_n hx hb dX10_number_9 rfl (lv_at hl 0 rfl) ?_
      refine k_jim hP hD hS hA [0, 1] [] rfl rfl rfl 0 0 (Nat.le_of_ble_eq_true rfl) (Nat.le_of_ble_eq_true rfl) (fun hPc hDc => k_runV (As := []) (rest := []) C0 hZ hS hA (s_X10_look l dC dI cy sq a_this rm x_taped x_at x_end x_ended x_bad x_badPlace x_fault x_faultPlace x_namePlace x_awayTold x_away x_coded x_statements x_isCrossing x_textKind x_askSecond x_redMany x_isOpen x_lastGreen x_greenTo x_isCycleGreen x_stillGreen x_rowMany x_fitMany x_fitRules x_fitGreen x_undoable x_newest x_seeded x_qCoded x_qWaits x_qOpened x_qBase x_qPiled x_qAnswer x_qIsNew x_octets g_tape (ib_w 0 1600 hx_at rfl) (ib_w 0 1600 hx_end rfl) hg_tape) mV_X10_291 hPc hDc rfl rfl rfl hl rfl rfl (Nat.le_of_ble_eq_true rfl) ⟨(Nat.le_of_ble_eq_true rfl), (Nat.le_of_ble_eq_true rfl)⟩ ⟨(Nat.le_of_ble_eq_true rfl), (Nat.le_of_ble_eq_true rfl)⟩ dX10_number_10) (fun r73 u74 H locs hw hP hD hS => ?_)
      obtain ⟨v75, ev75⟩ : ∃ z, z = u74 := ⟨_, rfl⟩; subst ev75
      try dsimp only at hP hD hw
      replace hP : va_P (dC, dI) vwCl [(a_this, .inr (10, mfs rm x_taped v75 x_end x_ended x_bad x_badPlace x_fault x_faultPlace x_namePlace x_awayTold x_away x_coded x_statements x_isCrossing x_textKind x_askSecond x_redMany x_isOpen x_lastGreen x_greenTo x_isCycleGreen x_stillGreen x_rowMany x_fitMany x_fitRules x_fitGreen x_undoable x_newest x_seeded x_qCoded x_qWaits x_qOpened x_qBase x_qPiled x_qAnswer x_qIsNew x_octets)), (wi_rm0_0_1600_0 rm cy g_tape)] H := hP
      replace hD := k_D hP hD
      obtain ⟨h76, h77, h78, h79, h80, h81, h82, h83, h84, h85⟩ := hw
      replace hq := lf_p1 hq h85
      refine k_jim hP hD hS hA [] [true, true] rfl rfl rfl 0 0 (Nat.le_of_ble_eq_true rfl) (Nat.le_of_ble_eq_true rfl) (fun hPc hDc => k_runS (As := [.int r73]) (rest := []) C0 hZ hS hA (s_X10_isDigit l dC dI cy sq r73 ) mS_X10_315 hPc hDc hl rfl rfl (Nat.le_of_ble_eq_true rfl) ⟨(Nat.le_of_ble_eq_true rfl), (Nat.le_of_ble_eq_true rfl)⟩ ⟨(Nat.le_of_ble_eq_true rfl), (Nat.le_of_ble_eq_true rfl)⟩ dX10_number_13) (fun r86 u87 H locs hw hP hD hS => ?_)
      try dsimp only at hP hD hw
      replace hP : va_P (dC, dI) vwCl [(a_this, .inr (10, mfs rm x_taped v75 x_end x_ended x_bad x_badPlace x_fault x_faultPlace x_namePlace x_awayTold x_away x_coded x_statements x_isCrossing x_textKind x_askSecond x_redMany x_isOpen x_lastGreen x_greenTo x_isCycleGreen x_stillGreen x_rowMany x_fitMany x_fitRules x_fitGreen x_undoable x_newest x_seeded x_qCoded x_qWaits x_qOpened x_qBase x_qPiled x_qAnswer x_qIsNew x_octets)), (wi_rm0_0_1600_0 rm cy g_tape)] H := hP
      replace hD := k_D hP hD
      obtain ⟨h88, h89, h90, h91⟩ := hw
      replace hq := lf_b1 hq h91
      refine lv_if_eq (tgt := 30) hx hb dX10_number_16 rfl (fun c92 => ?_) (fun c92 => ?_)
      · replace hq := lf_pos hq (lf_eq (lf_rf r86) (lf_lc 0 (0 : Int) rfl) c92)
        have h93 := ib_eq h88 (ib_c 0 0 0 rfl) c92
        have h94 : ib r86 0 0 := ib_w 0 0 h93.1 rfl
        refine lv_aload_n hx hb dX10_number_30 rfl (lv_at hl 0 rfl) ?_
        refine lv_iconst (v := 1) hx hb dX10_number_31 rfl ?_
        refine lv_aload_n hx hb dX10_number_32 rfl (lv_at hl 0 rfl) ?_
        refine k_get C0 fg_X10_285 hP 0 rfl rfl dX10_number_33 ?_
        refine k_jvm hP hD hS hA [0] [false, true] rfl rfl rfl 0 0 (Nat.le_of_ble_eq_true rfl) (Nat.le_of_ble_eq_true rfl) (fun hPc hDc => k_runV (As := [.int 1, .int v75]) (rest := []) C0 hZ hS hA (s_X10_fail_a0_1_f_bad_0_0 l dC dI cy sq a_this rm x_taped v75 x_end x_ended x_bad x_badPlace x_fault x_faultPlace x_namePlace x_awayTold x_away x_coded x_statements x_isCrossing x_textKind x_askSecond x_redMany x_isOpen x_lastGreen x_greenTo x_isCycleGreen x_stillGreen x_rowMany x_fitMany x_fitRules x_fitGreen x_undoable x_newest x_seeded x_qCoded x_qWaits x_qOpened x_qBase x_qPiled x_qAnswer x_qIsNew x_octets v75 (ib_w 0 0 h72 rfl)) mV_X10_308 hPc hDc rfl rfl rfl hl rfl rfl (Nat.le_of_ble_eq_true rfl) ⟨(Nat.le_of_ble_eq_true rfl), (Nat.le_of_ble_eq_true rfl)⟩ ⟨(Nat.le_of_ble_eq_true rfl), (Nat.le_of_ble_eq_true rfl)⟩ dX10_number_36) (fun u96 H locs hw hP hD hS => ?_)
        try dsimp only at hP hD hw
        replace hP : va_P (dC, dI) vwCl [(wi_rm0_0_1600_0 rm cy g_tape), (a_this, .inr (10, mfs rm x_taped v75 x_end x_ended 1 v75 x_fault x_faultPlace x_namePlace x_awayTold x_away x_coded x_statements x_isCrossing x_textKind x_askSecond x_redMany x_isOpen x_lastGreen x_greenTo x_isCycleGreen x_stillGreen x_rowMany x_fitMany x_fitRules x_fitGreen x_undoable x_newest x_seeded x_qCoded x_qWaits x_qOpened x_qBase x_qPiled x_qAnswer x_qIsNew x_octets))] H := hP
        replace hD := k_D hP hD
        refine lv_iconst (v := 0) hx hb dX10_number_39 rfl ?_
        subst hQ; exact k_iret hx hb hr hlk rfl ((v75, x_ended, 1, v75)) hS ⟨ib_w 0 1600 h76 rfl, fun q => absurd q (by decide), fun q => absurd q (by decide), (by have := h81; omega), fun q => absurd q (by decide), (hO.symm.trans (by try simp only [show (0 : Int32).toInt = (0 : Int) from rfl]; try simp only [show (1 : Int32).toInt = (1 : Int) from rfl]; exact hq))⟩ (hP.sub [1, 0] rfl) (hD.sub [1, 0] rfl rfl) (Nat.le_of_ble_eq_true rfl) (Nat.le_of_ble_eq_true rfl) dX10_number_40
      · as_aux_lemma =>
          replace hq := lf_neg hq (lf_ne (lf_rf r86) (lf_lc 0 (0 : Int) rfl) c92)
          have h97 : ib r86 1 1 := ib_w 1 1 (ib_ne_lo 0 h88 rfl c92) rfl
          have h98 : ib r73 48 57 := ib_w 48 57 (ib_two h77 (h89 (ib_nz h97 rfl))) rfl
          have h99 : ib v75 0 1599 := ib_w 0 1599 (ib_two h76 (h78 (ib_nc (-1) h98 rfl))) rfl
          have h100 : ib x_at 0 1599 := ib_w 0 1599 (ib_two hx_at (h79 (ib_nc (-1) h98 rfl))) rfl
          have h101 : ib x_end 1 1600 := ib_w 1 1600 (ib_two hx_end (h80 (ib_nc (-1) h98 rfl))) rfl
          refine lv_aload_n hx hb dX10_number_19 rfl (lv_at hl 0 rfl) ?_
          refine k_get C0 fg_X10_285 hP 0 rfl rfl dX10_number_20 ?_
          refine lv_aload_n hx hb dX10_number_23 rfl (lv_at hl 0 rfl) ?_
          refine k_get C0 fg_X10_299 hP 0 rfl rfl dX10_number_24 ?_
          refine lv_icmp_ne (tgt := 41) hx hb dX10_number_27 rfl (fun c102 => ?_) (fun c102 => ?_)
          · replace hq := lf_neg hq (lf_ne (lf_rf v75) (lf_rf x_ended) c102)
            refine lv_aload_n hx hb dX10_number_41 rfl (lv_at hl 0 rfl) ?_
            refine k_get C0 fg_X10_285 hP 0 rfl rfl dX10_number_42 ?_
            refine lv_istore_n (lv' := [(3, .int v75), (0, .ref a_this), (1, .int 0), (2, .int 2)]) hx hb dX10_number_45 rfl hl (Nat.le_of_ble_eq_true rfl) rfl (fun ls hl => ?_)
            refine lv_iconst (v := 0) hx hb dX10_number_46 rfl ?_
            refine lv_istore (lv' := [(4, .int 0), (3, .int v75), (0, .ref a_this), (1, .int 0), (2, .int 2)]) hx hb dX10_number_47 hl (Nat.le_of_ble_eq_true rfl) rfl (fun ls hl => ?_)
            exact jn49 1602 v75 v75 0 H locs ls (ib_w 0 1599 h99 rfl) (ib_w 0 1600 h99 rfl) (ib_w 1 1600 h101 rfl) (ib_w 0 0 h72 rfl) (by have := h81; omega) (by have := h81; omega) (by try simp only [show (0 : Int32).toInt = (0 : Int) from rfl]; exact hq) (Or.inr ⟨rfl, by rw [(h82 (ib_nc (-1) h98 rfl)).1]; exact ib_w 48 57 h98 rfl, (h82 (ib_nc (-1) h98 rfl)).2⟩) (by have := h99; unfold ib at this; omega) hP hD hS (lv_sub hl [2, 3, 4, 1, 0] rfl)
          · replace hq := lf_pos hq (lf_eq (lf_rf v75) (lf_rf x_ended) c102)
            have h103 := ib_eq h99 (ib_any x_ended) c102
            have h104 : ib x_ended 0 1599 := ib_w 0 1599 h103.2 rfl
            refine lv_aload_n hx hb dX10_number_30 rfl (lv_at hl 0 rfl) ?_
            refine lv_iconst (v := 1) hx hb dX10_number_31 rfl ?_
            refine lv_aload_n hx hb dX10_number_32 rfl (lv_at hl 0 rfl) ?_
            refine k_get C0 fg_X10_285 hP 0 rfl rfl dX10_number_33 ?_
            refine k_jvm hP hD hS hA [0] [false, true] rfl rfl rfl 0 0 (Nat.le_of_ble_eq_true rfl) (Nat.le_of_ble_eq_true rfl) (fun hPc hDc => k_runV (As := [.int 1, .int v75]) (rest := []) C0 hZ hS hA (s_X10_fail_a0_1_f_bad_0_0 l dC dI cy sq a_this rm x_taped v75 x_end x_ended x_bad x_badPlace x_fault x_faultPlace x_namePlace x_awayTold x_away x_coded x_statements x_isCrossing x_textKind x_askSecond x_redMany x_isOpen x_lastGreen x_greenTo x_isCycleGreen x_stillGreen x_rowMany x_fitMany x_fitRules x_fitGreen x_undoable x_newest x_seeded x_qCoded x_qWaits x_qOpened x_qBase x_qPiled x_qAnswer x_qIsNew x_octets v75 (ib_w 0 0 h72 rfl)) mV_X10_308 hPc hDc rfl rfl rfl hl rfl rfl (Nat.le_of_ble_eq_true rfl) ⟨(Nat.le_of_ble_eq_true rfl), (Nat.le_of_ble_eq_true rfl)⟩ ⟨(Nat.le_of_ble_eq_true rfl), (Nat.le_of_ble_eq_true rfl)⟩ dX10_number_36) (fun u106 H locs hw hP hD hS => ?_)
            try dsimp only at hP hD hw
            replace hP : va_P (dC, dI) vwCl [(wi_rm0_0_1600_0 rm cy g_tape), (a_this, .inr (10, mfs rm x_taped v75 x_end x_ended 1 v75 x_fault x_faultPlace x_namePlace x_awayTold x_away x_coded x_statements x_isCrossing x_textKind x_askSecond x_redMany x_isOpen x_lastGreen x_greenTo x_isCycleGreen x_stillGreen x_rowMany x_fitMany x_fitRules x_fitGreen x_undoable x_newest x_seeded x_qCoded x_qWaits x_qOpened x_qBase x_qPiled x_qAnswer x_qIsNew x_octets))] H := hP
            replace hD := k_D hP hD
            refine lv_iconst (v := 0) hx hb dX10_number_39 rfl ?_
            subst hQ; exact k_iret hx hb hr hlk rfl ((v75, x_ended, 1, v75)) hS ⟨ib_w 0 1600 h99 rfl, fun q => absurd q (by decide), fun q => absurd q (by decide), (by have := h81; omega), fun q => absurd q (by decide), (hO.symm.trans (by try simp only [show (0 : Int32).toInt = (0 : Int) from rfl]; try simp only [show (1 : Int32).toInt = (1 : Int) from rfl]; exact hq))⟩ (hP.sub [1, 0] rfl) (hD.sub [1, 0] rfl rfl) (Nat.le_of_ble_eq_true rfl) (Nat.le_of_ble_eq_true rfl) dX10_number_40
  · replace hq := lf_neg hq (lf_ne (lf_rf x_bad) (lf_lc 0 (0 : Int) rfl) c70)
    refine lv_iconst (v := 0) hx hb dX10_number_7 rfl ?_
    subst hQ; exact k_iret hx hb hr hlk rfl ((x_at, x_ended, x_bad, x_badPlace)) hS ⟨ib_w 0 1600 hx_at rfl, fun q => q, fun _ => ib_w 0 2 (ib_c 0 0 0 rfl) rfl, (by omega), fun q => absurd q c70, (hO.symm.trans (by try simp only [show (0 : Int32).toInt = (0 : Int) from rfl]; exact hq))⟩ hP hD (Nat.le_of_ble_eq_true rfl) (Nat.le_of_ble_eq_true rfl) dX10_number_8
set_option maxHeartbeats 4000000 in
set_option maxRecDepth 100000 in
theorem s_X10_number_a0_0_a1_99 (l : Launch) (dC : Nat → ClassId) (dI : Nat → Nat → Nat) (cy : Nat → ClassId) (sq : Nat → Nat) (a_this : Nat) (rm : Nat → Nat) (x_taped : Int32) (x_at : Int32) (x_end : Int32) (x_ended : Int32) (x_bad : Int32) (x_badPlace : Int32) (x_fault : Int32) (x_faultPlace : Int32) (x_namePlace : Int32) (x_awayTold : Int32) (x_away : Int32) (x_coded : Int32) (x_statements : Int32) (x_isCrossing : Int32) (x_textKind : Int32) (x_askSecond : Int32) (x_redMany : Int32) (x_isOpen : Int32) (x_lastGreen : Int32) (x_greenTo : Int32) (x_isCycleGreen : Int32) (x_stillGreen : Int32) (x_rowMany : Int32) (x_fitMany : Int32) (x_fitRules : Int32) (x_fitGreen : Int32) (x_undoable : Int32) (x_newest : Int32) (x_seeded : Int64) (x_qCoded : Int32) (x_qWaits : Int32) (x_qOpened : Int32) (x_qBase : Int32) (x_qPiled : Int32) (x_qAnswer : Int64) (x_qIsNew : Int32) (x_octets : Int32) (g_tape : Nat → Int32) (hx_at : ib x_at 0 1600) (hx_end : ib x_end 0 1600) (hg_tape : ia g_tape 1600 0 255) : k_Met l yX10_number cX10_number 5 (some .int) { frames := 1, cells := 0, slots := 0, locals := 25 } dC dI cy sq [.ref a_this, .int 0, .int 99] [(a_this, .inr (10, mfs rm x_taped x_at x_end x_ended x_bad x_badPlace x_fault x_faultPlace x_namePlace x_awayTold x_away x_coded x_statements x_isCrossing x_textKind x_askSecond x_redMany x_isOpen x_lastGreen x_greenTo x_isCycleGreen x_stillGreen x_rowMany x_fitMany x_fitRules x_fitGreen x_undoable x_newest x_seeded x_qCoded x_qWaits x_qOpened x_qBase x_qPiled x_qAnswer x_qIsNew x_octets)), (wi_rm0_0_1600_0 rm cy g_tape)] (k_Qi dC dI (fun (r : Int32) (u : Int32 × Int32 × Int32 × Int32) => match u with | (n0, n1, n2, n3) => ib n0 0 1600 ∧ (n2 = 0 → x_bad = 0) ∧ (n2 = 0 → ib r 0 99) ∧ (1 * x_at.toInt + (-1) * n0.toInt ≤ 0) ∧ (n2 = 0 → 1 * x_at.toInt + (-1) * n0.toInt ≤ (-1)) ∧ (F_X10_number_a0_0_a1_99 (Int32.toInt x_at) (Int32.toInt x_end) (Int32.toInt x_ended) (Int32.toInt x_bad) (Int32.toInt x_badPlace) (lf_A g_tape) = ((Int32.toInt r), (Int32.toInt n0), (Int32.toInt n1), (Int32.toInt n2), (Int32.toInt n3)))) (fun u : Int32 × Int32 × Int32 × Int32 => match u with | (n0, n1, n2, n3) => [(a_this, .inr (10, mfs rm x_taped n0 x_end n1 n2 n3 x_fault x_faultPlace x_namePlace x_awayTold x_away x_coded x_statements x_isCrossing x_textKind x_askSecond x_redMany x_isOpen x_lastGreen x_greenTo x_isCycleGreen x_stillGreen x_rowMany x_fitMany x_fitRules x_fitGreen x_undoable x_newest x_seeded x_qCoded x_qWaits x_qOpened x_qBase x_qPiled x_qAnswer x_qIsNew x_octets)), (wi_rm0_0_1600_0 rm cy g_tape)])) := by
  refine k_ofW2 (by decide +kernel) (Nat.le_of_ble_eq_true rfl) ?_
  intro p e s m below meth c A ls H locs args Q hQ C0 hZ hr hlk hin hP hD hA hS hl
  have C0 : k_cx p s m args c cX10_number 5 RX10 dC dI cy sq := C0
  have hx := C0.1
  have hb := C0.2.1
  have hl : lv_has ls 5 [(0, .ref a_this), (1, .int 0), (2, .int 99)] := hl
  obtain ⟨O, hO⟩ : ∃ o, o = F_X10_number_a0_0_a1_99 (Int32.toInt x_at) (Int32.toInt x_end) (Int32.toInt x_ended) (Int32.toInt x_bad) (Int32.toInt x_badPlace) (lf_A g_tape) := ⟨_, rfl⟩
  have hq := hO
  unfold F_X10_number_a0_0_a1_99 at hq
  have jn49 : ∀ (n : Nat) (J49_l3 : Int32) (J49_c0_2 : Int32) (J49_l4 : Int32) (H : Heap) (locs : List Loc) (ls : Array Slot), ib J49_l3 0 1599 → ib J49_c0_2 0 1600 → ib x_end 1 1600 → ib x_bad 0 0 → (1 * x_at.toInt + (-1) * J49_l3.toInt ≤ 0) → (1 * x_at.toInt + (-1) * J49_c0_2.toInt ≤ 0) → (O = F_X10_number_a0_0_a1_99_49 (Int32.toInt x_end) (Int32.toInt x_ended) (Int32.toInt x_bad) (Int32.toInt x_badPlace) (lf_A g_tape) n (Int32.toInt J49_l3) (Int32.toInt J49_c0_2) (Int32.toInt J49_l4)) → (J49_l3.toInt + 1 ≤ J49_c0_2.toInt ∨ (J49_l3 = J49_c0_2 ∧ ib (g_tape (Int32.toNatClampNeg J49_c0_2)) 48 57 ∧ J49_c0_2.toInt < x_end.toInt)) → 1601 ≤ J49_c0_2.toInt + (n : Int) → va_P (dC, dI) vwCl [(a_this, .inr (10, mfs rm x_taped J49_c0_2 x_end x_ended x_bad x_badPlace x_fault x_faultPlace x_namePlace x_awayTold x_away x_coded x_statements x_isCrossing x_textKind x_askSecond x_redMany x_isOpen x_lastGreen x_greenTo x_isCycleGreen x_stillGreen x_rowMany x_fitMany x_fitRules x_fitGreen x_undoable x_newest x_seeded x_qCoded x_qWaits x_qOpened x_qBase x_qPiled x_qAnswer x_qIsNew x_octets)), (wi_rm0_0_1600_0 rm cy g_tape)] H → va_D A [(a_this, .inr (10, mfs rm x_taped J49_c0_2 x_end x_ended x_bad x_badPlace x_fault x_faultPlace x_namePlace x_awayTold x_away x_coded x_statements x_isCrossing x_textKind x_askSecond x_redMany x_isOpen x_lastGreen x_greenTo x_isCycleGreen x_stillGreen x_rowMany x_fitMany x_fitRules x_fitGreen x_undoable x_newest x_seeded x_qCoded x_qWaits x_qOpened x_qBase x_qPiled x_qAnswer x_qIsNew x_octets)), (wi_rm0_0_1600_0 rm cy g_tape)] → va_S A s.heap H locs → lv_has ls 5 [(0, .ref a_this), (1, .int 0), (2, .int 99), (3, .int J49_l3), (4, .int J49_l4)] → W p l e { frames := 1, cells := 0, slots := 0, locals := 25 } s m args below meth c H locs 0 0 Q (F0 m 49 ls []) := by
    as_aux_lemma =>
      intro n
      induction n with
      | zero =>
        intro J49_l3 J49_c0_2 J49_l4 H locs ls hJ49_l3 hJ49_c0_2 hK49_x_end hK49_x_bad hJ49_lin0 hJ49_lin1 hq hJ49_gh hm
        exact absurd hm (by have := hJ49_c0_2; unfold ib at this; omega)
      | succ n ih =>
        intro J49_l3 J49_c0_2 J49_l4 H locs ls hJ49_l3 hJ49_c0_2 hK49_x_end hK49_x_bad hJ49_lin0 hJ49_lin1 hq hJ49_gh hm49 hP hD hS hl
        have ih49 := ih
        obtain ⟨K49, hK49⟩ : ∃ K, K = F_X10_number_a0_0_a1_99_49 (Int32.toInt x_end) (Int32.toInt x_ended) (Int32.toInt x_bad) (Int32.toInt x_badPlace) (lf_A g_tape) n := ⟨_, rfl⟩
        have hq : O = F_X10_number_a0_0_a1_99_49b (Int32.toInt x_end) (Int32.toInt x_ended) (Int32.toInt x_bad) (Int32.toInt x_badPlace) (lf_A g_tape) K49 (Int32.toInt J49_l3) (Int32.toInt J49_c0_2) (Int32.toInt J49_l4) := by rw [hK49]; exact hq
        unfold F_X10_number_a0_0_a1_99_49b at hq
        refine lv_aload_n hx hb dX10_number_49 rfl (lv_at hl 0 rfl) ?_
        refine k_get C0 fg_X10_285 hP 0 rfl rfl dX10_number_50 ?_
        refine lv_aload_n hx hb dX10_number_53 rfl (lv_at hl 0 rfl) ?_
        refine k_get C0 fg_X10_288 hP 0 rfl rfl dX10_number_54 ?_
        refine lv_icmp_ge (tgt := 129) hx hb dX10_number_57 rfl (fun c1 => ?_) (fun c1 => ?_)
        · as_aux_lemma =>
            replace hq := lf_pos hq (lf_le (lf_rf x_end) (lf_rf J49_c0_2) c1)
            have h2 := ib_le hK49_x_end hJ49_c0_2 c1
            have h3 : ib J49_c0_2 1 1600 := ib_w 1 1600 h2.2 rfl
            have h4 : ib x_at 0 1599 := ⟨(hx_at).1, by have := (hx_at).2; have := hJ49_lin0; have := (hJ49_l3).2; omega⟩
            have h5 : J49_l3.toInt + 1 ≤ J49_c0_2.toInt := by rcases hJ49_gh with q | q; exact q; exact absurd q.2.2 (by have := (hK49_x_end).1; have := (hK49_x_end).2; have := (h3).1; have := (h3).2; have := hJ49_lin1; have := (h4).1; have := (h4).2; have := hJ49_lin0; have := (hJ49_l3).1; have := (hJ49_l3).2; have := Int32.le_iff_toInt_le.mp c1; omega)
            have h6 : 1 * J49_l3.toInt + (-1) * J49_c0_2.toInt ≤ (-1) := by omega
            refine lv_aload_n hx hb dX10_number_129 rfl (lv_at hl 0 rfl) ?_
            refine lv_aload_n hx hb dX10_number_130 rfl (lv_at hl 0 rfl) ?_
            refine k_get C0 fg_X10_285 hP 0 rfl rfl dX10_number_131 ?_
            refine k_put C0 fp_X10_299 hP hD hS 0 rfl rfl rfl (Nat.le_of_ble_eq_true rfl) dX10_number_134 (fun H locs hP hD hS => ?_)
            replace hP : va_P (dC, dI) vwCl [(a_this, .inr (10, mfs rm x_taped J49_c0_2 x_end J49_c0_2 x_bad x_badPlace x_fault x_faultPlace x_namePlace x_awayTold x_away x_coded x_statements x_isCrossing x_textKind x_askSecond x_redMany x_isOpen x_lastGreen x_greenTo x_isCycleGreen x_stillGreen x_rowMany x_fitMany x_fitRules x_fitGreen x_undoable x_newest x_seeded x_qCoded x_qWaits x_qOpened x_qBase x_qPiled x_qAnswer x_qIsNew x_octets)), (wi_rm0_0_1600_0 rm cy g_tape)] H := hP
            replace hD := k_D hP hD
            refine lv_iload hx hb dX10_number_137 (lv_at hl 4 rfl) ?_
            refine lv_i2l (v := J49_l4.toInt64) hx hb dX10_number_139 rfl ?_
            refine lv_iload_n hx hb dX10_number_140 rfl (lv_at hl 1 rfl) ?_
            refine lv_i2l (v := 0) hx hb dX10_number_141 (by decide) ?_
            refine lv_iload_n hx hb dX10_number_142 rfl (lv_at hl 2 rfl) ?_
            refine lv_i2l (v := 99) hx hb dX10_number_143 (by decide) ?_
            refine k_jim hP hD hS hA [] [true, true] rfl rfl rfl 0 0 (Nat.le_of_ble_eq_true rfl) (Nat.le_of_ble_eq_true rfl) (fun hPc hDc => k_runS (As := [.long J49_l4.toInt64, .long 0, .long 99]) (rest := []) C0 hZ hS hA (c_isIn l dC dI cy sq J49_l4.toInt64 0 99) mS_X10_318 hPc hDc hl rfl rfl (Nat.le_of_ble_eq_true rfl) ⟨(Nat.le_of_ble_eq_true rfl), (Nat.le_of_ble_eq_true rfl)⟩ ⟨(Nat.le_of_ble_eq_true rfl), (Nat.le_of_ble_eq_true rfl)⟩ dX10_number_144) (fun r7 u8 H locs hw hP hD hS => ?_)
            replace hP : va_P (dC, dI) vwCl [(a_this, .inr (10, mfs rm x_taped J49_c0_2 x_end J49_c0_2 x_bad x_badPlace x_fault x_faultPlace x_namePlace x_awayTold x_away x_coded x_statements x_isCrossing x_textKind x_askSecond x_redMany x_isOpen x_lastGreen x_greenTo x_isCycleGreen x_stillGreen x_rowMany x_fitMany x_fitRules x_fitGreen x_undoable x_newest x_seeded x_qCoded x_qWaits x_qOpened x_qBase x_qPiled x_qAnswer x_qIsNew x_octets)), (wi_rm0_0_1600_0 rm cy g_tape)] H := hP
            replace hD := k_D hP hD
            have h9 := hw
            have h10 : ib r7 0 1 := by rw [h9]; exact k_isf_01 _ _ _
            have Er7 := lf_isine h9 (lf_i2l (lf_rf J49_l4)) (lf_ll 0 (0 : Int) rfl) (lf_ll 99 (99 : Int) rfl)
            refine lv_if_ne (tgt := 156) hx hb dX10_number_147 rfl (fun c11 => ?_) (fun c11 => ?_)
            · replace hq := lf_neg hq (lf_ne Er7 (lf_lc 0 (0 : Int) rfl) c11)
              have h12 : ib r7 1 1 := ib_w 1 1 (ib_ne_lo 0 h10 rfl c11) rfl
              have h13 : ib J49_l4 0 99 := ib_w 0 99 (ib_two (ib_any J49_l4) (k_isf_v h9 (show 0 ≤ (0 : Int64).toInt by decide) (show (99 : Int64).toInt ≤ 99 by decide) (ib_nz h12 rfl))) rfl
              refine lv_iload hx hb dX10_number_156 (lv_at hl 4 rfl) ?_
              subst hQ; exact k_iret hx hb hr hlk rfl ((J49_c0_2, J49_c0_2, x_bad, x_badPlace)) hS ⟨ib_w 0 1600 h3 rfl, fun q => q, fun _ => ib_w 0 99 h13 rfl, (by have := hJ49_lin1; omega), fun hq9 => (by have := hJ49_lin1; have := h6; have := hJ49_lin0; omega), (hO.symm.trans (by exact hq))⟩ hP hD (Nat.le_of_ble_eq_true rfl) (Nat.le_of_ble_eq_true rfl) dX10_number_158
            · replace hq := lf_pos hq (lf_eq Er7 (lf_lc 0 (0 : Int) rfl) c11)
              have h14 := ib_eq h10 (ib_c 0 0 0 rfl) c11
              have h15 : ib r7 0 0 := ib_w 0 0 h14.1 rfl
              refine lv_aload_n hx hb dX10_number_150 rfl (lv_at hl 0 rfl) ?_
              refine lv_iconst (v := 2) hx hb dX10_number_151 rfl ?_
              refine lv_iload_n hx hb dX10_number_152 rfl (lv_at hl 3 rfl) ?_
              refine k_jvm hP hD hS hA [0] [false, true] rfl rfl rfl 0 0 (Nat.le_of_ble_eq_true rfl) (Nat.le_of_ble_eq_true rfl) (fun hPc hDc => k_runV (As := [.int 2, .int J49_l3]) (rest := []) C0 hZ hS hA (s_X10_fail_a0_2_f_bad_0_0 l dC dI cy sq a_this rm x_taped J49_c0_2 x_end J49_c0_2 x_bad x_badPlace x_fault x_faultPlace x_namePlace x_awayTold x_away x_coded x_statements x_isCrossing x_textKind x_askSecond x_redMany x_isOpen x_lastGreen x_greenTo x_isCycleGreen x_stillGreen x_rowMany x_fitMany x_fitRules x_fitGreen x_undoable x_newest x_seeded x_qCoded x_qWaits x_qOpened x_qBase x_qPiled x_qAnswer x_qIsNew x_octets J49_l3 (ib_w 0 0 hK49_x_bad rfl)) mV_X10_308 hPc hDc rfl rfl rfl hl rfl rfl (Nat.le_of_ble_eq_true rfl) ⟨(Nat.le_of_ble_eq_true rfl), (Nat.le_of_ble_eq_true rfl)⟩ ⟨(Nat.le_of_ble_eq_true rfl), (Nat.le_of_ble_eq_true rfl)⟩ dX10_number_153) (fun u17 H locs hw hP hD hS => ?_)
              try dsimp only at hP hD hw
              replace hP : va_P (dC, dI) vwCl [(wi_rm0_0_1600_0 rm cy g_tape), (a_this, .inr (10, mfs rm x_taped J49_c0_2 x_end J49_c0_2 2 J49_l3 x_fault x_faultPlace x_namePlace x_awayTold x_away x_coded x_statements x_isCrossing x_textKind x_askSecond x_redMany x_isOpen x_lastGreen x_greenTo x_isCycleGreen x_stillGreen x_rowMany x_fitMany x_fitRules x_fitGreen x_undoable x_newest x_seeded x_qCoded x_qWaits x_qOpened x_qBase x_qPiled x_qAnswer x_qIsNew x_octets))] H := hP
              replace hD := k_D hP hD
              refine lv_iload hx hb dX10_number_156 (lv_at hl 4 rfl) ?_
              subst hQ; exact k_iret hx hb hr hlk rfl ((J49_c0_2, J49_c0_2, 2, J49_l3)) hS ⟨ib_w 0 1600 h3 rfl, fun q => absurd q (by decide), fun q => absurd q (by decide), (by have := hJ49_lin1; omega), fun q => absurd q (by decide), (hO.symm.trans (by try simp only [show (2 : Int32).toInt = (2 : Int) from rfl]; exact hq))⟩ (hP.sub [1, 0] rfl) (hD.sub [1, 0] rfl rfl) (Nat.le_of_ble_eq_true rfl) (Nat.le_of_ble_eq_true rfl) dX10_number_158
        · as_aux_lemma =>
            replace hq := lf_neg hq (lf_nle (lf_rf x_end) (lf_rf J49_c0_2) c1)
            have h18 := ib_nle hK49_x_end hJ49_c0_2 c1
            have h19 : ib J49_c0_2 0 1599 := ib_w 0 1599 h18.2 rfl
            have h20 : ib x_at 0 1599 := ⟨(hx_at).1, by have := (hx_at).2; have := hJ49_lin0; have := (hJ49_l3).2; omega⟩
            refine lv_aload_n hx hb dX10_number_60 rfl (lv_at hl 0 rfl) ?_
            refine k_get C0 fg_X10_7 hP 0 rfl rfl dX10_number_61 ?_
            refine lv_aload_n hx hb dX10_number_64 rfl (lv_at hl 0 rfl) ?_
            refine k_get C0 fg_X10_285 hP 0 rfl rfl dX10_number_65 ?_
            refine va_iald hx hb C0.2.2.2.2.2.1 hP 1 0 rfl rfl (ib_in 1600 h19 rfl) dX10_number_68 ?_
            refine lv_topi (fun z21 ez21 => ?_)
            have h22 : ib z21 0 255 := by rw [ez21]; exact ia_at hg_tape (ib_in 1600 h19 rfl)
            have Ez21 := lf_ld ez21 (lf_ra g_tape) (lf_rf J49_c0_2)
            refine k_jim hP hD hS hA [] [true, true] rfl rfl rfl 0 0 (Nat.le_of_ble_eq_true rfl) (Nat.le_of_ble_eq_true rfl) (fun hPc hDc => k_runS (As := [.int z21]) (rest := []) C0 hZ hS hA (s_X10_isDigit l dC dI cy sq z21 ) mS_X10_315 hPc hDc hl rfl rfl (Nat.le_of_ble_eq_true rfl) ⟨(Nat.le_of_ble_eq_true rfl), (Nat.le_of_ble_eq_true rfl)⟩ ⟨(Nat.le_of_ble_eq_true rfl), (Nat.le_of_ble_eq_true rfl)⟩ dX10_number_69) (fun r23 u24 H locs hw hP hD hS => ?_)
            try dsimp only at hP hD hw
            replace hP : va_P (dC, dI) vwCl [(a_this, .inr (10, mfs rm x_taped J49_c0_2 x_end x_ended x_bad x_badPlace x_fault x_faultPlace x_namePlace x_awayTold x_away x_coded x_statements x_isCrossing x_textKind x_askSecond x_redMany x_isOpen x_lastGreen x_greenTo x_isCycleGreen x_stillGreen x_rowMany x_fitMany x_fitRules x_fitGreen x_undoable x_newest x_seeded x_qCoded x_qWaits x_qOpened x_qBase x_qPiled x_qAnswer x_qIsNew x_octets)), (wi_rm0_0_1600_0 rm cy g_tape)] H := hP
            replace hD := k_D hP hD
            obtain ⟨h25, h26, h27, h28⟩ := hw
            have h28 := by have h9 := h28; rw [lf_u Ez21] at h9; exact h9
            replace hq := lf_b1 hq h28
            refine lv_if_eq (tgt := 129) hx hb dX10_number_72 rfl (fun c29 => ?_) (fun c29 => ?_)
            · as_aux_lemma =>
                replace hq := lf_pos hq (lf_eq (lf_rf r23) (lf_lc 0 (0 : Int) rfl) c29)
                have h30 := ib_eq h25 (ib_c 0 0 0 rfl) c29
                have h31 : ib r23 0 0 := ib_w 0 0 h30.1 rfl
                have h32 : J49_l3.toInt + 1 ≤ J49_c0_2.toInt := by rcases hJ49_gh with q | q; exact q; exact absurd (show ib z21 48 57 by rw [ez21]; exact q.2.1) (h27 (ib_one h31 rfl))
                have h33 : 1 * J49_l3.toInt + (-1) * J49_c0_2.toInt ≤ (-1) := by omega
                refine lv_aload_n hx hb dX10_number_129 rfl (lv_at hl 0 rfl) ?_
                refine lv_aload_n hx hb dX10_number_130 rfl (lv_at hl 0 rfl) ?_
                refine k_get C0 fg_X10_285 hP 0 rfl rfl dX10_number_131 ?_
                refine k_put C0 fp_X10_299 hP hD hS 0 rfl rfl rfl (Nat.le_of_ble_eq_true rfl) dX10_number_134 (fun H locs hP hD hS => ?_)
                replace hP : va_P (dC, dI) vwCl [(a_this, .inr (10, mfs rm x_taped J49_c0_2 x_end J49_c0_2 x_bad x_badPlace x_fault x_faultPlace x_namePlace x_awayTold x_away x_coded x_statements x_isCrossing x_textKind x_askSecond x_redMany x_isOpen x_lastGreen x_greenTo x_isCycleGreen x_stillGreen x_rowMany x_fitMany x_fitRules x_fitGreen x_undoable x_newest x_seeded x_qCoded x_qWaits x_qOpened x_qBase x_qPiled x_qAnswer x_qIsNew x_octets)), (wi_rm0_0_1600_0 rm cy g_tape)] H := hP
                replace hD := k_D hP hD
                refine lv_iload hx hb dX10_number_137 (lv_at hl 4 rfl) ?_
                refine lv_i2l (v := J49_l4.toInt64) hx hb dX10_number_139 rfl ?_
                refine lv_iload_n hx hb dX10_number_140 rfl (lv_at hl 1 rfl) ?_
                refine lv_i2l (v := 0) hx hb dX10_number_141 (by decide) ?_
                refine lv_iload_n hx hb dX10_number_142 rfl (lv_at hl 2 rfl) ?_
                refine lv_i2l (v := 99) hx hb dX10_number_143 (by decide) ?_
                refine k_jim hP hD hS hA [] [true, true] rfl rfl rfl 0 0 (Nat.le_of_ble_eq_true rfl) (Nat.le_of_ble_eq_true rfl) (fun hPc hDc => k_runS (As := [.long J49_l4.toInt64, .long 0, .long 99]) (rest := []) C0 hZ hS hA (c_isIn l dC dI cy sq J49_l4.toInt64 0 99) mS_X10_318 hPc hDc hl rfl rfl (Nat.le_of_ble_eq_true rfl) ⟨(Nat.le_of_ble_eq_true rfl), (Nat.le_of_ble_eq_true rfl)⟩ ⟨(Nat.le_of_ble_eq_true rfl), (Nat.le_of_ble_eq_true rfl)⟩ dX10_number_144) (fun r34 u35 H locs hw hP hD hS => ?_)
                replace hP : va_P (dC, dI) vwCl [(a_this, .inr (10, mfs rm x_taped J49_c0_2 x_end J49_c0_2 x_bad x_badPlace x_fault x_faultPlace x_namePlace x_awayTold x_away x_coded x_statements x_isCrossing x_textKind x_askSecond x_redMany x_isOpen x_lastGreen x_greenTo x_isCycleGreen x_stillGreen x_rowMany x_fitMany x_fitRules x_fitGreen x_undoable x_newest x_seeded x_qCoded x_qWaits x_qOpened x_qBase x_qPiled x_qAnswer x_qIsNew x_octets)), (wi_rm0_0_1600_0 rm cy g_tape)] H := hP
                replace hD := k_D hP hD
                have h36 := hw
                have h37 : ib r34 0 1 := by rw [h36]; exact k_isf_01 _ _ _
                have Er34 := lf_isine h36 (lf_i2l (lf_rf J49_l4)) (lf_ll 0 (0 : Int) rfl) (lf_ll 99 (99 : Int) rfl)
                refine lv_if_ne (tgt := 156) hx hb dX10_number_147 rfl (fun c38 => ?_) (fun c38 => ?_)
                · replace hq := lf_neg hq (lf_ne Er34 (lf_lc 0 (0 : Int) rfl) c38)
                  have h39 : ib r34 1 1 := ib_w 1 1 (ib_ne_lo 0 h37 rfl c38) rfl
                  have h40 : ib J49_l4 0 99 := ib_w 0 99 (ib_two (ib_any J49_l4) (k_isf_v h36 (show 0 ≤ (0 : Int64).toInt by decide) (show (99 : Int64).toInt ≤ 99 by decide) (ib_nz h39 rfl))) rfl
                  have h41 : ib J49_l3 0 1598 := ⟨(hJ49_l3).1, by have := (hJ49_l3).2; have := h33; have := (h19).2; omega⟩
                  have h42 : ib J49_c0_2 1 1599 := ⟨by have := (h19).1; have := h33; have := (h41).1; omega, (h19).2⟩
                  refine lv_iload hx hb dX10_number_156 (lv_at hl 4 rfl) ?_
                  subst hQ; exact k_iret hx hb hr hlk rfl ((J49_c0_2, J49_c0_2, x_bad, x_badPlace)) hS ⟨ib_w 0 1600 h42 rfl, fun q => q, fun _ => ib_w 0 99 h40 rfl, (by have := hJ49_lin1; omega), fun hq9 => (by have := hJ49_lin1; have := h33; have := hJ49_lin0; omega), (hO.symm.trans (by exact hq))⟩ hP hD (Nat.le_of_ble_eq_true rfl) (Nat.le_of_ble_eq_true rfl) dX10_number_158
                · replace hq := lf_pos hq (lf_eq Er34 (lf_lc 0 (0 : Int) rfl) c38)
                  have h43 := ib_eq h37 (ib_c 0 0 0 rfl) c38
                  have h44 : ib r34 0 0 := ib_w 0 0 h43.1 rfl
                  have h45 : ib J49_l3 0 1598 := ⟨(hJ49_l3).1, by have := (hJ49_l3).2; have := h33; have := (h19).2; omega⟩
                  have h46 : ib J49_c0_2 1 1599 := ⟨by have := (h19).1; have := h33; have := (h45).1; omega, (h19).2⟩
                  have h47 : ib x_at 0 1598 := ⟨(h20).1, by have := (h20).2; have := hJ49_lin0; have := (h45).2; omega⟩
                  refine lv_aload_n hx hb dX10_number_150 rfl (lv_at hl 0 rfl) ?_
                  refine lv_iconst (v := 2) hx hb dX10_number_151 rfl ?_
                  refine lv_iload_n hx hb dX10_number_152 rfl (lv_at hl 3 rfl) ?_
                  refine k_jvm hP hD hS hA [0] [false, true] rfl rfl rfl 0 0 (Nat.le_of_ble_eq_true rfl) (Nat.le_of_ble_eq_true rfl) (fun hPc hDc => k_runV (As := [.int 2, .int J49_l3]) (rest := []) C0 hZ hS hA (s_X10_fail_a0_2_f_bad_0_0 l dC dI cy sq a_this rm x_taped J49_c0_2 x_end J49_c0_2 x_bad x_badPlace x_fault x_faultPlace x_namePlace x_awayTold x_away x_coded x_statements x_isCrossing x_textKind x_askSecond x_redMany x_isOpen x_lastGreen x_greenTo x_isCycleGreen x_stillGreen x_rowMany x_fitMany x_fitRules x_fitGreen x_undoable x_newest x_seeded x_qCoded x_qWaits x_qOpened x_qBase x_qPiled x_qAnswer x_qIsNew x_octets J49_l3 (ib_w 0 0 hK49_x_bad rfl)) mV_X10_308 hPc hDc rfl rfl rfl hl rfl rfl (Nat.le_of_ble_eq_true rfl) ⟨(Nat.le_of_ble_eq_true rfl), (Nat.le_of_ble_eq_true rfl)⟩ ⟨(Nat.le_of_ble_eq_true rfl), (Nat.le_of_ble_eq_true rfl)⟩ dX10_number_153) (fun u49 H locs hw hP hD hS => ?_)
                  try dsimp only at hP hD hw
                  replace hP : va_P (dC, dI) vwCl [(wi_rm0_0_1600_0 rm cy g_tape), (a_this, .inr (10, mfs rm x_taped J49_c0_2 x_end J49_c0_2 2 J49_l3 x_fault x_faultPlace x_namePlace x_awayTold x_away x_coded x_statements x_isCrossing x_textKind x_askSecond x_redMany x_isOpen x_lastGreen x_greenTo x_isCycleGreen x_stillGreen x_rowMany x_fitMany x_fitRules x_fitGreen x_undoable x_newest x_seeded x_qCoded x_qWaits x_qOpened x_qBase x_qPiled x_qAnswer x_qIsNew x_octets))] H := hP
                  replace hD := k_D hP hD
                  refine lv_iload hx hb dX10_number_156 (lv_at hl 4 rfl) ?_
                  subst hQ; exact k_iret hx hb hr hlk rfl ((J49_c0_2, J49_c0_2, 2, J49_l3)) hS ⟨ib_w 0 1600 h46 rfl, fun q => absurd q (by decide), fun q => absurd q (by decide), (by have := hJ49_lin1; omega), fun q => absurd q (by decide), (hO.symm.trans (by try simp only [show (2 : Int32).toInt = (2 : Int) from rfl]; exact hq))⟩ (hP.sub [1, 0] rfl) (hD.sub [1, 0] rfl rfl) (Nat.le_of_ble_eq_true rfl) (Nat.le_of_ble_eq_true rfl) dX10_number_158
            · as_aux_lemma =>
                replace hq := lf_neg hq (lf_ne (lf_rf r23) (lf_lc 0 (0 : Int) rfl) c29)
                have h50 : ib r23 1 1 := ib_w 1 1 (ib_ne_lo 0 h25 rfl c29) rfl
                have h51 : ib z21 48 57 := ib_w 48 57 (ib_two h22 (h26 (ib_nz h50 rfl))) rfl
                refine lv_aload_n hx hb dX10_number_75 rfl (lv_at hl 0 rfl) ?_
                refine k_get C0 fg_X10_285 hP 0 rfl rfl dX10_number_76 ?_
                refine lv_iload_n hx hb dX10_number_79 rfl (lv_at hl 3 rfl) ?_
                refine lv_isub hx hb dX10_number_80 ?_
                refine lv_topi (fun z52 ez52 => ?_)
                have h53 := ib_sub h19 hJ49_l3 rfl
                rw [← ez52] at h53
                have h54 : ib z52 (-1599) 1599 := ib_w (-1599) 1599 h53.1 rfl
                have Ez52 := lf_sub h53.2 (lf_rf J49_c0_2) (lf_rf J49_l3)
                refine lv_iconst (v := 4) hx hb dX10_number_81 rfl ?_
                refine lv_icmp_ne (tgt := 96) hx hb dX10_number_82 rfl (fun c55 => ?_) (fun c55 => ?_)
                · as_aux_lemma =>
                    replace hq := lf_neg hq (lf_ne Ez52 (lf_lc 4 (4 : Int) rfl) c55)
                    refine lv_bipush (v := 10) hx hb dX10_number_96 rfl ?_
                    refine lv_iload hx hb dX10_number_98 (lv_at hl 4 rfl) ?_
                    refine lv_imul hx hb dX10_number_100 ?_
                    refine lv_topi (fun z56 ez56 => ?_)
                    have Ez56 := lf_op lf_imul ez56 (lf_lc 10 (10 : Int) rfl) (lf_rf J49_l4)
                    refine lv_aload_n hx hb dX10_number_101 rfl (lv_at hl 0 rfl) ?_
                    refine k_get C0 fg_X10_7 hP 0 rfl rfl dX10_number_102 ?_
                    refine lv_aload_n hx hb dX10_number_105 rfl (lv_at hl 0 rfl) ?_
                    refine k_get C0 fg_X10_285 hP 0 rfl rfl dX10_number_106 ?_
                    refine va_iald hx hb C0.2.2.2.2.2.1 hP 1 0 rfl rfl (ib_in 1600 h19 rfl) dX10_number_109 ?_
                    refine lv_topi (fun z57 ez57 => ?_)
                    obtain rfl : z21 = z57 := ez21.trans ez57.symm
                    refine lv_iadd hx hb dX10_number_110 ?_
                    refine lv_topi (fun z58 ez58 => ?_)
                    have Ez58 := lf_op lf_iadd ez58 Ez56 Ez21
                    refine lv_bipush (v := 48) hx hb dX10_number_111 rfl ?_
                    refine lv_isub hx hb dX10_number_113 ?_
                    refine lv_topi (fun z59 ez59 => ?_)
                    have Ez59 := lf_op lf_isub ez59 Ez58 (lf_lc 48 (48 : Int) rfl)
                    refine lv_istore (lv' := [(4, .int z59), (0, .ref a_this), (1, .int 0), (2, .int 99), (3, .int J49_l3)]) hx hb dX10_number_114 hl (Nat.le_of_ble_eq_true rfl) rfl (fun ls hl => ?_)
                    refine lv_aload_n hx hb dX10_number_116 rfl (lv_at hl 1 rfl) ?_
                    refine lv_dup hx hb dX10_number_117 rfl ?_
                    refine k_get C0 fg_X10_285 hP 0 rfl rfl dX10_number_118 ?_
                    refine lv_iconst (v := 1) hx hb dX10_number_121 rfl ?_
                    refine lv_iadd hx hb dX10_number_122 ?_
                    refine lv_topi (fun z60 ez60 => ?_)
                    have h61 := ib_add h19 (ib_c 1 1 1 rfl) rfl
                    rw [← ez60] at h61
                    have h62 : ib z60 1 1600 := ib_w 1 1600 h61.1 rfl
                    have Ez60 := lf_add h61.2 (lf_rf J49_c0_2) (lf_lc 1 (1 : Int) rfl)
                    refine k_put C0 fp_X10_285 hP hD hS 0 rfl rfl rfl (Nat.le_of_ble_eq_true rfl) dX10_number_123 (fun H locs hP hD hS => ?_)
                    replace hP : va_P (dC, dI) vwCl [(a_this, .inr (10, mfs rm x_taped z60 x_end x_ended x_bad x_badPlace x_fault x_faultPlace x_namePlace x_awayTold x_away x_coded x_statements x_isCrossing x_textKind x_askSecond x_redMany x_isOpen x_lastGreen x_greenTo x_isCycleGreen x_stillGreen x_rowMany x_fitMany x_fitRules x_fitGreen x_undoable x_newest x_seeded x_qCoded x_qWaits x_qOpened x_qBase x_qPiled x_qAnswer x_qIsNew x_octets)), (wi_rm0_0_1600_0 rm cy g_tape)] H := hP
                    replace hD := k_D hP hD
                    refine lv_goto (tgt := 49) hx hb dX10_number_126 rfl ?_
                    exact ih49 J49_l3 z60 z59 H locs ls (ib_w 0 1599 hJ49_l3 rfl) (ib_w 0 1600 h62 rfl) (ib_w 1 1600 hK49_x_end rfl) (ib_w 0 0 hK49_x_bad rfl) (by have := hJ49_lin0; omega) (by have := h61.2; have : (1 : Int32).toInt = 1 := rfl; have := hJ49_lin1; omega) (by rw [← hK49]; rw [lf_u Ez60]; rw [lf_u Ez59]; exact hq) (Or.inl (by have q0 := h61.2; have q1 : (1 : Int32).toInt = 1 := rfl; rcases hJ49_gh with q | q <;> first | omega | (have := congrArg Int32.toInt q.1; omega))) (by have := h61.2; have : (1 : Int32).toInt = 1 := rfl; omega) hP hD hS (lv_sub hl [1, 2, 3, 4, 0] rfl)
                · replace hq := lf_pos hq (lf_eq Ez52 (lf_lc 4 (4 : Int) rfl) c55)
                  have h63 := ib_eq h54 (ib_c 4 4 4 rfl) c55
                  have h64 : ib z52 4 4 := ib_w 4 4 h63.1 rfl
                  have h65 : ib J49_c0_2 4 1599 := ⟨by have := h53.2; have := (h64).1; have := (h64).2; have := (h19).1; have := (h19).2; have := (hJ49_l3).1; have := (hJ49_l3).2; omega, by have := h53.2; have := (h64).1; have := (h64).2; have := (h19).1; have := (h19).2; have := (hJ49_l3).1; have := (hJ49_l3).2; omega⟩
                  have h66 : ib J49_l3 0 1595 := ⟨by have := h53.2; have := (h64).1; have := (h64).2; have := (h19).1; have := (h19).2; have := (hJ49_l3).1; have := (hJ49_l3).2; omega, by have := h53.2; have := (h64).1; have := (h64).2; have := (h19).1; have := (h19).2; have := (hJ49_l3).1; have := (hJ49_l3).2; omega⟩
                  have h67 : ib x_at 0 1595 := ⟨(h20).1, by have := (h20).2; have := hJ49_lin0; have := (h66).2; omega⟩
                  refine lv_aload_n hx hb dX10_number_85 rfl (lv_at hl 0 rfl) ?_
                  refine lv_iconst (v := 1) hx hb dX10_number_86 rfl ?_
                  refine lv_aload_n hx hb dX10_number_87 rfl (lv_at hl 0 rfl) ?_
                  refine k_get C0 fg_X10_285 hP 0 rfl rfl dX10_number_88 ?_
                  refine k_jvm hP hD hS hA [0] [false, true] rfl rfl rfl 0 0 (Nat.le_of_ble_eq_true rfl) (Nat.le_of_ble_eq_true rfl) (fun hPc hDc => k_runV (As := [.int 1, .int J49_c0_2]) (rest := []) C0 hZ hS hA (s_X10_fail_a0_1_f_bad_0_0 l dC dI cy sq a_this rm x_taped J49_c0_2 x_end x_ended x_bad x_badPlace x_fault x_faultPlace x_namePlace x_awayTold x_away x_coded x_statements x_isCrossing x_textKind x_askSecond x_redMany x_isOpen x_lastGreen x_greenTo x_isCycleGreen x_stillGreen x_rowMany x_fitMany x_fitRules x_fitGreen x_undoable x_newest x_seeded x_qCoded x_qWaits x_qOpened x_qBase x_qPiled x_qAnswer x_qIsNew x_octets J49_c0_2 (ib_w 0 0 hK49_x_bad rfl)) mV_X10_308 hPc hDc rfl rfl rfl hl rfl rfl (Nat.le_of_ble_eq_true rfl) ⟨(Nat.le_of_ble_eq_true rfl), (Nat.le_of_ble_eq_true rfl)⟩ ⟨(Nat.le_of_ble_eq_true rfl), (Nat.le_of_ble_eq_true rfl)⟩ dX10_number_91) (fun u69 H locs hw hP hD hS => ?_)
                  try dsimp only at hP hD hw
                  replace hP : va_P (dC, dI) vwCl [(wi_rm0_0_1600_0 rm cy g_tape), (a_this, .inr (10, mfs rm x_taped J49_c0_2 x_end x_ended 1 J49_c0_2 x_fault x_faultPlace x_namePlace x_awayTold x_away x_coded x_statements x_isCrossing x_textKind x_askSecond x_redMany x_isOpen x_lastGreen x_greenTo x_isCycleGreen x_stillGreen x_rowMany x_fitMany x_fitRules x_fitGreen x_undoable x_newest x_seeded x_qCoded x_qWaits x_qOpened x_qBase x_qPiled x_qAnswer x_qIsNew x_octets))] H := hP
                  replace hD := k_D hP hD
                  refine lv_iconst (v := 0) hx hb dX10_number_94 rfl ?_
                  subst hQ; exact k_iret hx hb hr hlk rfl ((J49_c0_2, x_ended, 1, J49_c0_2)) hS ⟨ib_w 0 1600 h65 rfl, fun q => absurd q (by decide), fun q => absurd q (by decide), (by have := hJ49_lin1; omega), fun q => absurd q (by decide), (hO.symm.trans (by try simp only [show (0 : Int32).toInt = (0 : Int) from rfl]; try simp only [show (1 : Int32).toInt = (1 : Int) from rfl]; exact hq))⟩ (hP.sub [1, 0] rfl) (hD.sub [1, 0] rfl rfl) (Nat.le_of_ble_eq_true rfl) (Nat.le_of_ble_eq_true rfl) dX10_number_95
  refine lv_aload_n hx hb dX10_number_0 rfl (lv_at hl 0 rfl) ?_
  refine k_get C0 fg_X10_279 hP 0 rfl rfl dX10_number_1 ?_
  refine lv_if_eq (tgt := 9) hx hb dX10_number_4 rfl (fun c70 => ?_) (fun c70 => ?_)
  · as_aux_lemma =>
      replace hq := lf_pos hq (lf_eq (lf_rf x_bad) (lf_lc 0 (0 : Int) rfl) c70)
      have h71 := ib_eq (ib_any x_bad) (ib_c 0 0 0 rfl) c70
      have h72 : ib x_bad 0 0 := ib_w 0 0 h71.1 rfl
      refine lv_aload_n hx hb dX10_number_9 rfl (lv_at hl 0 rfl) ?_
      refine k_jim hP hD hS hA [0, 1] [] rfl rfl rfl 0 0 (Nat.le_of_ble_eq_true rfl) (Nat.le_of_ble_eq_true rfl) (fun hPc hDc => k_runV (As := []) (rest := []) C0 hZ hS hA (s_X10_look l dC dI cy sq a_this rm x_taped x_at x_end x_ended x_bad x_badPlace x_fault x_faultPlace x_namePlace x_awayTold x_away x_coded x_statements x_isCrossing x_textKind x_askSecond x_redMany x_isOpen x_lastGreen x_greenTo x_isCycleGreen x_stillGreen x_rowMany x_fitMany x_fitRules x_fitGreen x_undoable x_newest x_seeded x_qCoded x_qWaits x_qOpened x_qBase x_qPiled x_qAnswer x_qIsNew x_octets g_tape (ib_w 0 1600 hx_at rfl) (ib_w 0 1600 hx_end rfl) hg_tape) mV_X10_291 hPc hDc rfl rfl rfl hl rfl rfl (Nat.le_of_ble_eq_true rfl) ⟨(Nat.le_of_ble_eq_true rfl), (Nat.le_of_ble_eq_true rfl)⟩ ⟨(Nat.le_of_ble_eq_true rfl), (Nat.le_of_ble_eq_true rfl)⟩ dX10_number_10) (fun r73 u74 H locs hw hP hD hS => ?_)
      obtain ⟨v75, ev75⟩ : ∃ z, z = u74 := ⟨_, rfl⟩; subst ev75
      try dsimp only at hP hD hw
      replace hP : va_P (dC, dI) vwCl [(a_this, .inr (10, mfs rm x_taped v75 x_end x_ended x_bad x_badPlace x_fault x_faultPlace x_namePlace x_awayTold x_away x_coded x_statements x_isCrossing x_textKind x_askSecond x_redMany x_isOpen x_lastGreen x_greenTo x_isCycleGreen x_stillGreen x_rowMany x_fitMany x_fitRules x_fitGreen x_undoable x_newest x_seeded x_qCoded x_qWaits x_qOpened x_qBase x_qPiled x_qAnswer x_qIsNew x_octets)), (wi_rm0_0_1600_0 rm cy g_tape)] H := hP
      replace hD := k_D hP hD
      obtain ⟨h76, h77, h78, h79, h80, h81, h82, h83, h84, h85⟩ := hw
      replace hq := lf_p1 hq h85
      refine k_jim hP hD hS hA [] [true, true] rfl rfl rfl 0 0 (Nat.le_of_ble_eq_true rfl) (Nat.le_of_ble_eq_true rfl) (fun hPc hDc => k_runS (As := [.int r73]) (rest := []) C0 hZ hS hA (s_X10_isDigit l dC dI cy sq r73 ) mS_X10_315 hPc hDc hl rfl rfl (Nat.le_of_ble_eq_true rfl) ⟨(Nat.le_of_ble_eq_true rfl), (Nat.le_of_ble_eq_true rfl)⟩ ⟨(Nat.le_of_ble_eq_true rfl), (Nat.le_of_ble_eq_true rfl)⟩ dX10_number_13) (fun r86 u87 H locs hw hP hD hS => ?_)
      try dsimp only at hP hD hw
      replace hP : va_P (dC, dI) vwCl [(a_this, .inr (10, mfs rm x_taped v75 x_end x_ended x_bad x_badPlace x_fault x_faultPlace x_namePlace x_awayTold x_away x_coded x_statements x_isCrossing x_textKind x_askSecond x_redMany x_isOpen x_lastGreen x_greenTo x_isCycleGreen x_stillGreen x_rowMany x_fitMany x_fitRules x_fitGreen x_undoable x_newest x_seeded x_qCoded x_qWaits x_qOpened x_qBase x_qPiled x_qAnswer x_qIsNew x_octets)), (wi_rm0_0_1600_0 rm cy g_tape)] H := hP
      replace hD := k_D hP hD
      obtain ⟨h88, h89, h90, h91⟩ := hw
      replace hq := lf_b1 hq h91
      refine lv_if_eq (tgt := 30) hx hb dX10_number_16 rfl (fun c92 => ?_) (fun c92 => ?_)
      · replace hq := lf_pos hq (lf_eq (lf_rf r86) (lf_lc 0 (0 : Int) rfl) c92)
        have h93 := ib_eq h88 (ib_c 0 0 0 rfl) c92
        have h94 : ib r86 0 0 := ib_w 0 0 h93.1 rfl
        refine lv_aload_n hx hb dX10_number_30 rfl (lv_at hl 0 rfl) ?_
        refine lv_iconst (v := 1) hx hb dX10_number_31 rfl ?_
        refine lv_aload_n hx hb dX10_number_32 rfl (lv_at hl 0 rfl) ?_
        refine k_get C0 fg_X10_285 hP 0 rfl rfl dX10_number_33 ?_
        refine k_jvm hP hD hS hA [0] [false, true] rfl rfl rfl 0 0 (Nat.le_of_ble_eq_true rfl) (Nat.le_of_ble_eq_true rfl) (fun hPc hDc => k_runV (As := [.int 1, .int v75]) (rest := []) C0 hZ hS hA (s_X10_fail_a0_1_f_bad_0_0 l dC dI cy sq a_this rm x_taped v75 x_end x_ended x_bad x_badPlace x_fault x_faultPlace x_namePlace x_awayTold x_away x_coded x_statements x_isCrossing x_textKind x_askSecond x_redMany x_isOpen x_lastGreen x_greenTo x_isCycleGreen x_stillGreen x_rowMany x_fitMany x_fitRules x_fitGreen x_undoable x_newest x_seeded x_qCoded x_qWaits x_qOpened x_qBase x_qPiled x_qAnswer x_qIsNew x_octets v75 (ib_w 0 0 h72 rfl)) mV_X10_308 hPc hDc rfl rfl rfl hl rfl rfl (Nat.le_of_ble_eq_true rfl) ⟨(Nat.le_of_ble_eq_true rfl), (Nat.le_of_ble_eq_true rfl)⟩ ⟨(Nat.le_of_ble_eq_true rfl), (Nat.le_of_ble_eq_true rfl)⟩ dX10_number_36) (fun u96 H locs hw hP hD hS => ?_)
        try dsimp only at hP hD hw
        replace hP : va_P (dC, dI) vwCl [(wi_rm0_0_1600_0 rm cy g_tape), (a_this, .inr (10, mfs rm x_taped v75 x_end x_ended 1 v75 x_fault x_faultPlace x_namePlace x_awayTold x_away x_coded x_statements x_isCrossing x_textKind x_askSecond x_redMany x_isOpen x_lastGreen x_greenTo x_isCycleGreen x_stillGreen x_rowMany x_fitMany x_fitRules x_fitGreen x_undoable x_newest x_seeded x_qCoded x_qWaits x_qOpened x_qBase x_qPiled x_qAnswer x_qIsNew x_octets))] H := hP
        replace hD := k_D hP hD
        refine lv_iconst (v := 0) hx hb dX10_number_39 rfl ?_
        subst hQ; exact k_iret hx hb hr hlk rfl ((v75, x_ended, 1, v75)) hS ⟨ib_w 0 1600 h76 rfl, fun q => absurd q (by decide), fun q => absurd q (by decide), (by have := h81; omega), fun q => absurd q (by decide), (hO.symm.trans (by try simp only [show (0 : Int32).toInt = (0 : Int) from rfl]; try simp only [show (1 : Int32).toInt = (1 : Int) from rfl]; exact hq))⟩ (hP.sub [1, 0] rfl) (hD.sub [1, 0] rfl rfl) (Nat.le_of_ble_eq_true rfl) (Nat.le_of_ble_eq_true rfl) dX10_number_40
      · as_aux_lemma =>
          replace hq := lf_neg hq (lf_ne (lf_rf r86) (lf_lc 0 (0 : Int) rfl) c92)
          have h97 : ib r86 1 1 := ib_w 1 1 (ib_ne_lo 0 h88 rfl c92) rfl
          have h98 : ib r73 48 57 := ib_w 48 57 (ib_two h77 (h89 (ib_nz h97 rfl))) rfl
          have h99 : ib v75 0 1599 := ib_w 0 1599 (ib_two h76 (h78 (ib_nc (-1) h98 rfl))) rfl
          have h100 : ib x_at 0 1599 := ib_w 0 1599 (ib_two hx_at (h79 (ib_nc (-1) h98 rfl))) rfl
          have h101 : ib x_end 1 1600 := ib_w 1 1600 (ib_two hx_end (h80 (ib_nc (-1) h98 rfl))) rfl
          refine lv_aload_n hx hb dX10_number_19 rfl (lv_at hl 0 rfl) ?_
          refine k_get C0 fg_X10_285 hP 0 rfl rfl dX10_number_20 ?_
          refine lv_aload_n hx hb dX10_number_23 rfl (lv_at hl 0 rfl) ?_
          refine k_get C0 fg_X10_299 hP 0 rfl rfl dX10_number_24 ?_
          refine lv_icmp_ne (tgt := 41) hx hb dX10_number_27 rfl (fun c102 => ?_) (fun c102 => ?_)
          · replace hq := lf_neg hq (lf_ne (lf_rf v75) (lf_rf x_ended) c102)
            refine lv_aload_n hx hb dX10_number_41 rfl (lv_at hl 0 rfl) ?_
            refine k_get C0 fg_X10_285 hP 0 rfl rfl dX10_number_42 ?_
            refine lv_istore_n (lv' := [(3, .int v75), (0, .ref a_this), (1, .int 0), (2, .int 99)]) hx hb dX10_number_45 rfl hl (Nat.le_of_ble_eq_true rfl) rfl (fun ls hl => ?_)
            refine lv_iconst (v := 0) hx hb dX10_number_46 rfl ?_
            refine lv_istore (lv' := [(4, .int 0), (3, .int v75), (0, .ref a_this), (1, .int 0), (2, .int 99)]) hx hb dX10_number_47 hl (Nat.le_of_ble_eq_true rfl) rfl (fun ls hl => ?_)
            exact jn49 1602 v75 v75 0 H locs ls (ib_w 0 1599 h99 rfl) (ib_w 0 1600 h99 rfl) (ib_w 1 1600 h101 rfl) (ib_w 0 0 h72 rfl) (by have := h81; omega) (by have := h81; omega) (by try simp only [show (0 : Int32).toInt = (0 : Int) from rfl]; exact hq) (Or.inr ⟨rfl, by rw [(h82 (ib_nc (-1) h98 rfl)).1]; exact ib_w 48 57 h98 rfl, (h82 (ib_nc (-1) h98 rfl)).2⟩) (by have := h99; unfold ib at this; omega) hP hD hS (lv_sub hl [2, 3, 4, 1, 0] rfl)
          · replace hq := lf_pos hq (lf_eq (lf_rf v75) (lf_rf x_ended) c102)
            have h103 := ib_eq h99 (ib_any x_ended) c102
            have h104 : ib x_ended 0 1599 := ib_w 0 1599 h103.2 rfl
            refine lv_aload_n hx hb dX10_number_30 rfl (lv_at hl 0 rfl) ?_
            refine lv_iconst (v := 1) hx hb dX10_number_31 rfl ?_
            refine lv_aload_n hx hb dX10_number_32 rfl (lv_at hl 0 rfl) ?_
            refine k_get C0 fg_X10_285 hP 0 rfl rfl dX10_number_33 ?_
            refine k_jvm hP hD hS hA [0] [false, true] rfl rfl rfl 0 0 (Nat.le_of_ble_eq_true rfl) (Nat.le_of_ble_eq_true rfl) (fun hPc hDc => k_runV (As := [.int 1, .int v75]) (rest := []) C0 hZ hS hA (s_X10_fail_a0_1_f_bad_0_0 l dC dI cy sq a_this rm x_taped v75 x_end x_ended x_bad x_badPlace x_fault x_faultPlace x_namePlace x_awayTold x_away x_coded x_statements x_isCrossing x_textKind x_askSecond x_redMany x_isOpen x_lastGreen x_greenTo x_isCycleGreen x_stillGreen x_rowMany x_fitMany x_fitRules x_fitGreen x_undoable x_newest x_seeded x_qCoded x_qWaits x_qOpened x_qBase x_qPiled x_qAnswer x_qIsNew x_octets v75 (ib_w 0 0 h72 rfl)) mV_X10_308 hPc hDc rfl rfl rfl hl rfl rfl (Nat.le_of_ble_eq_true rfl) ⟨(Nat.le_of_ble_eq_true rfl), (Nat.le_of_ble_eq_true rfl)⟩ ⟨(Nat.le_of_ble_eq_true rfl), (Nat.le_of_ble_eq_true rfl)⟩ dX10_number_36) (fun u106 H locs hw hP hD hS => ?_)
            try dsimp only at hP hD hw
            replace hP : va_P (dC, dI) vwCl [(wi_rm0_0_1600_0 rm cy g_tape), (a_this, .inr (10, mfs rm x_taped v75 x_end x_ended 1 v75 x_fault x_faultPlace x_namePlace x_awayTold x_away x_coded x_statements x_isCrossing x_textKind x_askSecond x_redMany x_isOpen x_lastGreen x_greenTo x_isCycleGreen x_stillGreen x_rowMany x_fitMany x_fitRules x_fitGreen x_undoable x_newest x_seeded x_qCoded x_qWaits x_qOpened x_qBase x_qPiled x_qAnswer x_qIsNew x_octets))] H := hP
            replace hD := k_D hP hD
            refine lv_iconst (v := 0) hx hb dX10_number_39 rfl ?_
            subst hQ; exact k_iret hx hb hr hlk rfl ((v75, x_ended, 1, v75)) hS ⟨ib_w 0 1600 h99 rfl, fun q => absurd q (by decide), fun q => absurd q (by decide), (by have := h81; omega), fun q => absurd q (by decide), (hO.symm.trans (by try simp only [show (0 : Int32).toInt = (0 : Int) from rfl]; try simp only [show (1 : Int32).toInt = (1 : Int) from rfl]; exact hq))⟩ (hP.sub [1, 0] rfl) (hD.sub [1, 0] rfl rfl) (Nat.le_of_ble_eq_true rfl) (Nat.le_of_ble_eq_true rfl) dX10_number_40
  · replace hq := lf_neg hq (lf_ne (lf_rf x_bad) (lf_lc 0 (0 : Int) rfl) c70)
    refine lv_iconst (v := 0) hx hb dX10_number_7 rfl ?_
    subst hQ; exact k_iret hx hb hr hlk rfl ((x_at, x_ended, x_bad, x_badPlace)) hS ⟨ib_w 0 1600 hx_at rfl, fun q => q, fun _ => ib_w 0 99 (ib_c 0 0 0 rfl) rfl, (by omega), fun q => absurd q c70, (hO.symm.trans (by try simp only [show (0 : Int32).toInt = (0 : Int) from rfl]; exact hq))⟩ hP hD (Nat.le_of_ble_eq_true rfl) (Nat.le_of_ble_eq_true rfl) dX10_number_8
