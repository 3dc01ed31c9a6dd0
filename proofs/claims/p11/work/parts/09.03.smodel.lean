set_option maxHeartbeats 4000000 in
set_option maxRecDepth 100000 in
theorem s_X10_qSums (l : Launch) (dC : Nat → ClassId) (dI : Nat → Nat → Nat) (cy : Nat → ClassId) (sq : Nat → Nat) (a_this : Nat) (rm : Nat → Nat) (x_taped : Int32) (x_at : Int32) (x_end : Int32) (x_ended : Int32) (x_bad : Int32) (x_badPlace : Int32) (x_fault : Int32) (x_faultPlace : Int32) (x_namePlace : Int32) (x_awayTold : Int32) (x_away : Int32) (x_coded : Int32) (x_statements : Int32) (x_isCrossing : Int32) (x_textKind : Int32) (x_askSecond : Int32) (x_redMany : Int32) (x_isOpen : Int32) (x_lastGreen : Int32) (x_greenTo : Int32) (x_isCycleGreen : Int32) (x_stillGreen : Int32) (x_rowMany : Int32) (x_fitMany : Int32) (x_fitRules : Int32) (x_fitGreen : Int32) (x_undoable : Int32) (x_newest : Int32) (x_seeded : Int64) (x_qCoded : Int32) (x_qWaits : Int32) (x_qOpened : Int32) (x_qBase : Int32) (x_qPiled : Int32) (x_qAnswer : Int64) (x_qIsNew : Int32) (x_octets : Int32) (g_tape : Nat → Int32) (g_minAsked : Nat → Int32) (g_maxAsked : Nat → Int32) (g_secondAsked : Nat → Int32) (g_dayAsked : Nat → Int32) (g_phaseAsked : Nat → Int32) (g_waitedAsked : Nat → Int32) (g_calmAsked : Nat → Int32) (g_paceAsked : Nat → Int32) (g_trustsAsked : Nat → Int32) (g_gapAsked : Nat → Int32) (g_redsAsked : Nat → Int32) (g_numberAsked : Nat → Int32) (g_wentAsked : Nat → Int32) (g_harmAsked : Nat → Int32) (g_kindofAsked : Nat → Int32) (g_qCodes : Nat → Int32) (g_qWait : Nat → Int32) (cc : Nat) (hx_at : ib x_at 0 1600) (hx_end : ib x_end 0 1600) (hx_bad : ib x_bad 0 0) (hx_qCoded : ib x_qCoded 0 1700) (hx_qWaits : ib x_qWaits 0 1700) (hg_tape : ia g_tape 1600 0 255) (hL0 : 1 * x_qCoded.toInt + 1 * x_qWaits.toInt + (-1) * x_at.toInt ≤ 20) (hGS : x_bad = 0 → GS g_qCodes x_qCoded g_qWait x_qWaits x_qWaits x_textKind cc) : k_Met l yX10_qSums cX10_qSums 3 none { frames := 6, cells := 0, slots := 0, locals := 131 } dC dI cy sq [.ref a_this] [(a_this, .inr (10, mfs rm x_taped x_at x_end x_ended x_bad x_badPlace x_fault x_faultPlace x_namePlace x_awayTold x_away x_coded x_statements x_isCrossing x_textKind x_askSecond x_redMany x_isOpen x_lastGreen x_greenTo x_isCycleGreen x_stillGreen x_rowMany x_fitMany x_fitRules x_fitGreen x_undoable x_newest x_seeded x_qCoded x_qWaits x_qOpened x_qBase x_qPiled x_qAnswer x_qIsNew x_octets)), (wi_rm0_0_1600_0 rm cy g_tape), (wi_rm97_2_6_0 rm cy g_secondAsked), (wi_rm98_2_3_0 rm cy g_dayAsked), (wi_rm99_2_5_0 rm cy g_phaseAsked), (wi_rm100_2_6_0 rm cy g_waitedAsked), (wi_rm101_2_4_0 rm cy g_calmAsked), (wi_rm102_2_4_0 rm cy g_paceAsked), (wi_rm103_2_6_0 rm cy g_trustsAsked), (wi_rm104_2_3_0 rm cy g_gapAsked), (wi_rm105_2_4_0 rm cy g_redsAsked), (wi_rm106_2_6_0 rm cy g_numberAsked), (wi_rm107_2_4_0 rm cy g_wentAsked), (wi_rm108_2_4_0 rm cy g_harmAsked), (wi_rm109_2_4_0 rm cy g_kindofAsked), (wi_rm95_2_3_0 rm cy g_minAsked), (wi_rm112_0_1700_0 rm cy g_qWait), (wi_rm96_2_3_0 rm cy g_maxAsked), (wi_rm110_0_1700_0 rm cy g_qCodes)] (k_Qv dC dI (fun (u : Int32 × Int32 × Int32 × Int32 × Int32 × Int32 × Int32 × (Nat → Int32) × (Nat → Int32)) => match u with | (n0, n1, n2, n3, n4, n5, n6, n7, n8) => ib n0 0 1600 ∧ ib n4 0 1623 ∧ ib n5 0 1623 ∧ (n2 = 0 → x_bad = 0) ∧ (1 * n4.toInt + 1 * n5.toInt + (-1) * n0.toInt + (-1) * x_qCoded.toInt + (-1) * x_qWaits.toInt + 1 * x_at.toInt ≤ 3) ∧ (n2 = 0 → 1 * n4.toInt + 1 * n5.toInt + (-1) * n0.toInt + (-1) * x_qCoded.toInt + (-1) * x_qWaits.toInt + 1 * x_at.toInt ≤ 0) ∧ (1 * x_at.toInt + (-1) * n0.toInt ≤ 0) ∧ (n2 = 0 → 1 * x_at.toInt + (-1) * n0.toInt ≤ (-1)) ∧ (n2 = 0 → 1 * n5.toInt + (-1) * x_qWaits.toInt ≤ 0) ∧ (n2 = 0 → (-1) * n5.toInt + 1 * x_qWaits.toInt ≤ 0) ∧ (n2 = 0 → GS n8 n4 n7 n5 n5 x_textKind (cc + 1)) ∧ (F_X10_qSums (Int32.toInt x_at) (Int32.toInt x_end) (Int32.toInt x_ended) (Int32.toInt x_bad) (Int32.toInt x_badPlace) (Int32.toInt x_textKind) (Int32.toInt x_qCoded) (Int32.toInt x_qWaits) (Int32.toInt x_qOpened) (lf_A g_tape) (lf_A g_minAsked) (lf_A g_maxAsked) (lf_A g_secondAsked) (lf_A g_dayAsked) (lf_A g_phaseAsked) (lf_A g_waitedAsked) (lf_A g_calmAsked) (lf_A g_paceAsked) (lf_A g_trustsAsked) (lf_A g_gapAsked) (lf_A g_redsAsked) (lf_A g_numberAsked) (lf_A g_wentAsked) (lf_A g_harmAsked) (lf_A g_kindofAsked) (lf_A g_qCodes) (lf_A g_qWait) = ((Int32.toInt n0), (Int32.toInt n1), (Int32.toInt n2), (Int32.toInt n3), (Int32.toInt n4), (Int32.toInt n5), (Int32.toInt n6), (lf_A n7), (lf_A n8)))) (fun u : Int32 × Int32 × Int32 × Int32 × Int32 × Int32 × Int32 × (Nat → Int32) × (Nat → Int32) => match u with | (n0, n1, n2, n3, n4, n5, n6, n7, n8) => [(a_this, .inr (10, mfs rm x_taped n0 x_end n1 n2 n3 x_fault x_faultPlace x_namePlace x_awayTold x_away x_coded x_statements x_isCrossing x_textKind x_askSecond x_redMany x_isOpen x_lastGreen x_greenTo x_isCycleGreen x_stillGreen x_rowMany x_fitMany x_fitRules x_fitGreen x_undoable x_newest x_seeded n4 n5 n6 x_qBase x_qPiled x_qAnswer x_qIsNew x_octets)), (wi_rm0_0_1600_0 rm cy g_tape), (wi_rm97_2_6_0 rm cy g_secondAsked), (wi_rm98_2_3_0 rm cy g_dayAsked), (wi_rm99_2_5_0 rm cy g_phaseAsked), (wi_rm100_2_6_0 rm cy g_waitedAsked), (wi_rm101_2_4_0 rm cy g_calmAsked), (wi_rm102_2_4_0 rm cy g_paceAsked), (wi_rm103_2_6_0 rm cy g_trustsAsked), (wi_rm104_2_3_0 rm cy g_gapAsked), (wi_rm105_2_4_0 rm cy g_redsAsked), (wi_rm106_2_6_0 rm cy g_numberAsked), (wi_rm107_2_4_0 rm cy g_wentAsked), (wi_rm108_2_4_0 rm cy g_harmAsked), (wi_rm109_2_4_0 rm cy g_kindofAsked), (wi_rm95_2_3_0 rm cy g_minAsked), (wi_rm112_0_1700_0 rm cy n7), (wi_rm96_2_3_0 rm cy g_maxAsked), (wi_rm110_0_1700_0 rm cy n8)])) := by
  refine k_ofW2 (by decide +kernel) (Nat.le_of_ble_eq_true rfl) ?_
  intro p e s m below meth c A ls H locs args Q hQ C0 hZ hr hlk hin hP hD hA hS hl
  have C0 : k_cx p s m args c cX10_qSums 3 RX10 dC dI cy sq := C0
  have hx := C0.1
  have hb := C0.2.1
  have hl : lv_has ls 3 [(0, .ref a_this)] := hl
  obtain ⟨O, hO⟩ : ∃ o, o = F_X10_qSums (Int32.toInt x_at) (Int32.toInt x_end) (Int32.toInt x_ended) (Int32.toInt x_bad) (Int32.toInt x_badPlace) (Int32.toInt x_textKind) (Int32.toInt x_qCoded) (Int32.toInt x_qWaits) (Int32.toInt x_qOpened) (lf_A g_tape) (lf_A g_minAsked) (lf_A g_maxAsked) (lf_A g_secondAsked) (lf_A g_dayAsked) (lf_A g_phaseAsked) (lf_A g_waitedAsked) (lf_A g_calmAsked) (lf_A g_paceAsked) (lf_A g_trustsAsked) (lf_A g_gapAsked) (lf_A g_redsAsked) (lf_A g_numberAsked) (lf_A g_wentAsked) (lf_A g_harmAsked) (lf_A g_kindofAsked) (lf_A g_qCodes) (lf_A g_qWait) := ⟨_, rfl⟩
  have hq := hO
  unfold F_X10_qSums at hq
  have jn53 : ∀ (n : Nat) (J53_l2 : Int32) (J53_c0_2 : Int32) (J53_c0_4 : Int32) (J53_c0_5 : Int32) (J53_c0_6 : Int32) (J53_c0_111 : Int32) (J53_c0_113 : Int32) (J53_c0_114 : Int32) (J53_a16 : Nat → Int32) (J53_a18 : Nat → Int32) (H : Heap) (locs : List Loc) (ls : Array Slot), ib J53_l2 0 1 → ib J53_c0_2 0 1600 → ib J53_c0_111 0 1623 → ib J53_c0_113 0 1623 → ib x_qWaits 0 1620 → (1 * J53_c0_111.toInt + 1 * J53_c0_113.toInt + (-1) * J53_c0_2.toInt + (-1) * x_qCoded.toInt + (-1) * x_qWaits.toInt + 1 * x_at.toInt ≤ 3) → (1 * J53_c0_111.toInt + 1 * J53_c0_113.toInt + (-1) * J53_c0_2.toInt ≤ 23) → (1 * x_qWaits.toInt + (-1) * J53_c0_113.toInt ≤ 0) → (1 * x_at.toInt + (-1) * J53_c0_2.toInt ≤ 0) → (J53_c0_5 = 0 → x_bad = 0) → ((J53_c0_5 = 0 → GS J53_a18 J53_c0_111 J53_a16 J53_c0_113 x_qWaits x_textKind (cc + 1) ∧ (∀ i : Nat, x_qWaits.toInt.toNat ≤ i → i < J53_c0_113.toInt.toNat → ¬ brk (J53_a16 i))) ∧ (J53_c0_5 = 0 → 1 * J53_c0_111.toInt + 1 * J53_c0_113.toInt + (-1) * J53_c0_2.toInt + (-1) * x_qCoded.toInt + (-1) * x_qWaits.toInt + 1 * x_at.toInt ≤ 0) ∧ (J53_c0_5 = 0 → 1 * x_at.toInt + (-1) * J53_c0_2.toInt ≤ (-1))) → (O = F_X10_qSums_53 (Int32.toInt x_qWaits) n (Int32.toInt J53_l2) (Int32.toInt J53_c0_2) (Int32.toInt J53_c0_4) (Int32.toInt J53_c0_5) (Int32.toInt J53_c0_6) (Int32.toInt J53_c0_111) (Int32.toInt J53_c0_113) (Int32.toInt J53_c0_114) (lf_A J53_a16) (lf_A J53_a18)) → 1624 ≤ J53_c0_111.toInt + (n : Int) → va_P (dC, dI) vwCl [(a_this, .inr (10, mfs rm x_taped J53_c0_2 x_end J53_c0_4 J53_c0_5 J53_c0_6 x_fault x_faultPlace x_namePlace x_awayTold x_away x_coded x_statements x_isCrossing x_textKind x_askSecond x_redMany x_isOpen x_lastGreen x_greenTo x_isCycleGreen x_stillGreen x_rowMany x_fitMany x_fitRules x_fitGreen x_undoable x_newest x_seeded J53_c0_111 J53_c0_113 J53_c0_114 x_qWaits x_qPiled x_qAnswer x_qIsNew x_octets)), (wi_rm0_0_1600_0 rm cy g_tape), (wi_rm97_2_6_0 rm cy g_secondAsked), (wi_rm98_2_3_0 rm cy g_dayAsked), (wi_rm99_2_5_0 rm cy g_phaseAsked), (wi_rm100_2_6_0 rm cy g_waitedAsked), (wi_rm101_2_4_0 rm cy g_calmAsked), (wi_rm102_2_4_0 rm cy g_paceAsked), (wi_rm103_2_6_0 rm cy g_trustsAsked), (wi_rm104_2_3_0 rm cy g_gapAsked), (wi_rm105_2_4_0 rm cy g_redsAsked), (wi_rm106_2_6_0 rm cy g_numberAsked), (wi_rm107_2_4_0 rm cy g_wentAsked), (wi_rm108_2_4_0 rm cy g_harmAsked), (wi_rm109_2_4_0 rm cy g_kindofAsked), (wi_rm95_2_3_0 rm cy g_minAsked), (wi_rm112_0_1700_0 rm cy J53_a16), (wi_rm96_2_3_0 rm cy g_maxAsked), (wi_rm110_0_1700_0 rm cy J53_a18)] H → va_D A [(a_this, .inr (10, mfs rm x_taped J53_c0_2 x_end J53_c0_4 J53_c0_5 J53_c0_6 x_fault x_faultPlace x_namePlace x_awayTold x_away x_coded x_statements x_isCrossing x_textKind x_askSecond x_redMany x_isOpen x_lastGreen x_greenTo x_isCycleGreen x_stillGreen x_rowMany x_fitMany x_fitRules x_fitGreen x_undoable x_newest x_seeded J53_c0_111 J53_c0_113 J53_c0_114 x_qWaits x_qPiled x_qAnswer x_qIsNew x_octets)), (wi_rm0_0_1600_0 rm cy g_tape), (wi_rm97_2_6_0 rm cy g_secondAsked), (wi_rm98_2_3_0 rm cy g_dayAsked), (wi_rm99_2_5_0 rm cy g_phaseAsked), (wi_rm100_2_6_0 rm cy g_waitedAsked), (wi_rm101_2_4_0 rm cy g_calmAsked), (wi_rm102_2_4_0 rm cy g_paceAsked), (wi_rm103_2_6_0 rm cy g_trustsAsked), (wi_rm104_2_3_0 rm cy g_gapAsked), (wi_rm105_2_4_0 rm cy g_redsAsked), (wi_rm106_2_6_0 rm cy g_numberAsked), (wi_rm107_2_4_0 rm cy g_wentAsked), (wi_rm108_2_4_0 rm cy g_harmAsked), (wi_rm109_2_4_0 rm cy g_kindofAsked), (wi_rm95_2_3_0 rm cy g_minAsked), (wi_rm112_0_1700_0 rm cy J53_a16), (wi_rm96_2_3_0 rm cy g_maxAsked), (wi_rm110_0_1700_0 rm cy J53_a18)] → va_S A s.heap H locs → lv_has ls 3 [(0, .ref a_this), (1, .int x_qBase), (2, .int J53_l2)] → W p l e { frames := 6, cells := 0, slots := 0, locals := 131 } s m args below meth c H locs 0 0 Q (F0 m 53 ls []) := by
    as_aux_lemma =>
      intro n
      induction n with
      | zero =>
        intro J53_l2 J53_c0_2 J53_c0_4 J53_c0_5 J53_c0_6 J53_c0_111 J53_c0_113 J53_c0_114 J53_a16 J53_a18 H locs ls hJ53_l2 hJ53_c0_2 hJ53_c0_111 hJ53_c0_113 hK53_x_qWaits hJ53_lin0 hJ53_lin1 hJ53_lin2 hJ53_lin3 hJ53_zm hJ53_go hq hm
        exact absurd hm (by have := hJ53_c0_111; unfold ib at this; omega)
      | succ n ih =>
        intro J53_l2 J53_c0_2 J53_c0_4 J53_c0_5 J53_c0_6 J53_c0_111 J53_c0_113 J53_c0_114 J53_a16 J53_a18 H locs ls hJ53_l2 hJ53_c0_2 hJ53_c0_111 hJ53_c0_113 hK53_x_qWaits hJ53_lin0 hJ53_lin1 hJ53_lin2 hJ53_lin3 hJ53_zm hJ53_go hq hm53 hP hD hS hl
        have ih53 := ih
        obtain ⟨K53, hK53⟩ : ∃ K, K = F_X10_qSums_53 (Int32.toInt x_qWaits) n := ⟨_, rfl⟩
        have hq : O = F_X10_qSums_53b (Int32.toInt x_qWaits) K53 (Int32.toInt J53_l2) (Int32.toInt J53_c0_2) (Int32.toInt J53_c0_4) (Int32.toInt J53_c0_5) (Int32.toInt J53_c0_6) (Int32.toInt J53_c0_111) (Int32.toInt J53_c0_113) (Int32.toInt J53_c0_114) (lf_A J53_a16) (lf_A J53_a18) := by rw [hK53]; exact hq
        unfold F_X10_qSums_53b at hq
        refine lv_aload_n hx hb dX10_qSums_53 rfl (lv_at hl 0 rfl) ?_
        refine k_get C0 fg_X10_279 hP 0 rfl rfl dX10_qSums_54 ?_
        refine lv_if_ne (tgt := 78) hx hb dX10_qSums_57 rfl (fun c1 => ?_) (fun c1 => ?_)
        · replace hq := lf_neg hq (lf_ne (lf_rf J53_c0_5) (lf_lc 0 (0 : Int) rfl) c1)
          have h2 : ib x_qCoded 0 1620 := ⟨(hx_qCoded).1, by have := (hx_qCoded).2; have := hL0; have := (hx_at).2; have := (hK53_x_qWaits).1; omega⟩
          refine lv_aload_n hx hb dX10_qSums_78 rfl (lv_at hl 0 rfl) ?_
          refine lv_iload_n hx hb dX10_qSums_79 rfl (lv_at hl 1 rfl) ?_
          refine k_put C0 fp_X10_378 hP hD hS 0 rfl rfl rfl (Nat.le_of_ble_eq_true rfl) dX10_qSums_80 (fun H locs hP hD hS => ?_)
          replace hP : va_P (dC, dI) vwCl [(a_this, .inr (10, mfs rm x_taped J53_c0_2 x_end J53_c0_4 J53_c0_5 J53_c0_6 x_fault x_faultPlace x_namePlace x_awayTold x_away x_coded x_statements x_isCrossing x_textKind x_askSecond x_redMany x_isOpen x_lastGreen x_greenTo x_isCycleGreen x_stillGreen x_rowMany x_fitMany x_fitRules x_fitGreen x_undoable x_newest x_seeded J53_c0_111 J53_c0_113 J53_c0_114 x_qBase x_qPiled x_qAnswer x_qIsNew x_octets)), (wi_rm0_0_1600_0 rm cy g_tape), (wi_rm97_2_6_0 rm cy g_secondAsked), (wi_rm98_2_3_0 rm cy g_dayAsked), (wi_rm99_2_5_0 rm cy g_phaseAsked), (wi_rm100_2_6_0 rm cy g_waitedAsked), (wi_rm101_2_4_0 rm cy g_calmAsked), (wi_rm102_2_4_0 rm cy g_paceAsked), (wi_rm103_2_6_0 rm cy g_trustsAsked), (wi_rm104_2_3_0 rm cy g_gapAsked), (wi_rm105_2_4_0 rm cy g_redsAsked), (wi_rm106_2_6_0 rm cy g_numberAsked), (wi_rm107_2_4_0 rm cy g_wentAsked), (wi_rm108_2_4_0 rm cy g_harmAsked), (wi_rm109_2_4_0 rm cy g_kindofAsked), (wi_rm95_2_3_0 rm cy g_minAsked), (wi_rm112_0_1700_0 rm cy J53_a16), (wi_rm96_2_3_0 rm cy g_maxAsked), (wi_rm110_0_1700_0 rm cy J53_a18)] H := hP
          replace hD := k_D hP hD
          subst hQ; exact k_vret hx hb hr hlk ((J53_c0_2, J53_c0_4, J53_c0_5, J53_c0_6, J53_c0_111, J53_c0_113, J53_c0_114, J53_a16, J53_a18)) hS ⟨ib_w 0 1600 hJ53_c0_2 rfl, ib_w 0 1623 hJ53_c0_111 rfl, ib_w 0 1623 hJ53_c0_113 rfl, fun _ => ib_one hx_bad rfl, (by have := hJ53_lin0; omega), fun q => absurd q c1, (by have := hJ53_lin3; omega), fun q => absurd q c1, fun q => absurd q c1, fun q => absurd q c1, fun q => absurd q c1, (hO.symm.trans (by exact hq))⟩ hP hD (Nat.le_of_ble_eq_true rfl) (Nat.le_of_ble_eq_true rfl) dX10_qSums_83
        · as_aux_lemma =>
            replace hq := lf_pos hq (lf_eq (lf_rf J53_c0_5) (lf_lc 0 (0 : Int) rfl) c1)
            have h3 := ib_eq (ib_any J53_c0_5) (ib_c 0 0 0 rfl) c1
            have h4 : ib J53_c0_5 0 0 := ib_w 0 0 h3.1 rfl
            have h5 : ib x_qCoded 0 1620 := ⟨(hx_qCoded).1, by have := (hx_qCoded).2; have := hL0; have := (hx_at).2; have := (hK53_x_qWaits).1; omega⟩
            have h6 := hJ53_go.2.1 (ib_one h4 rfl)
            have h7 := hJ53_go.2.2 (ib_one h4 rfl)
            have h8 : ib x_at 0 1599 := ⟨(hx_at).1, by have := (hx_at).2; have := h7; have := (hJ53_c0_2).2; omega⟩
            have h9 : ib J53_c0_2 1 1600 := ⟨by have := (hJ53_c0_2).1; have := h7; have := (h8).1; omega, (hJ53_c0_2).2⟩
            have h10 : ib x_qCoded 0 1619 := ⟨(h5).1, by have := (h5).2; have := hL0; have := (h8).2; have := (hK53_x_qWaits).1; omega⟩
            have h11 : ib x_qWaits 0 1619 := ⟨(hK53_x_qWaits).1, by have := (hK53_x_qWaits).2; have := hL0; have := (h8).2; have := (h10).1; omega⟩
            refine lv_aload_n hx hb dX10_qSums_60 rfl (lv_at hl 0 rfl) ?_
            refine k_get C0 fg_X10_372 hP 0 rfl rfl dX10_qSums_61 ?_
            refine lv_aload_n hx hb dX10_qSums_64 rfl (lv_at hl 0 rfl) ?_
            refine k_get C0 fg_X10_378 hP 0 rfl rfl dX10_qSums_65 ?_
            refine lv_icmp_le (tgt := 78) hx hb dX10_qSums_68 rfl (fun c12 => ?_) (fun c12 => ?_)
            · replace hq := lf_pos hq (lf_le (lf_rf J53_c0_113) (lf_rf x_qWaits) c12)
              have h13 := ib_le hJ53_c0_113 h11 c12
              have h14 : ib J53_c0_113 0 1619 := ib_w 0 1619 h13.1 rfl
              have h15 : J53_c0_5 = 0 → GS J53_a18 J53_c0_111 J53_a16 J53_c0_113 J53_c0_113 x_textKind (cc + 1) := fun q => GS_top2 ((fun q => (hJ53_go.1 q).1) q) (by have := (h11).1; have := (h11).2; have := hL0; have := hJ53_lin0; have := hJ53_lin2; have := h6; have := (h8).1; have := (h8).2; have := hJ53_lin3; have := h7; have := (h9).1; have := (h9).2; have := hJ53_lin1; have := (h10).1; have := (h10).2; have := (h14).1; have := (h14).2; have := (hJ53_c0_111).1; have := (hJ53_c0_111).2; have := Int32.le_iff_toInt_le.mp c12; omega)
              refine lv_aload_n hx hb dX10_qSums_78 rfl (lv_at hl 0 rfl) ?_
              refine lv_iload_n hx hb dX10_qSums_79 rfl (lv_at hl 1 rfl) ?_
              refine k_put C0 fp_X10_378 hP hD hS 0 rfl rfl rfl (Nat.le_of_ble_eq_true rfl) dX10_qSums_80 (fun H locs hP hD hS => ?_)
              replace hP : va_P (dC, dI) vwCl [(a_this, .inr (10, mfs rm x_taped J53_c0_2 x_end J53_c0_4 J53_c0_5 J53_c0_6 x_fault x_faultPlace x_namePlace x_awayTold x_away x_coded x_statements x_isCrossing x_textKind x_askSecond x_redMany x_isOpen x_lastGreen x_greenTo x_isCycleGreen x_stillGreen x_rowMany x_fitMany x_fitRules x_fitGreen x_undoable x_newest x_seeded J53_c0_111 J53_c0_113 J53_c0_114 x_qBase x_qPiled x_qAnswer x_qIsNew x_octets)), (wi_rm0_0_1600_0 rm cy g_tape), (wi_rm97_2_6_0 rm cy g_secondAsked), (wi_rm98_2_3_0 rm cy g_dayAsked), (wi_rm99_2_5_0 rm cy g_phaseAsked), (wi_rm100_2_6_0 rm cy g_waitedAsked), (wi_rm101_2_4_0 rm cy g_calmAsked), (wi_rm102_2_4_0 rm cy g_paceAsked), (wi_rm103_2_6_0 rm cy g_trustsAsked), (wi_rm104_2_3_0 rm cy g_gapAsked), (wi_rm105_2_4_0 rm cy g_redsAsked), (wi_rm106_2_6_0 rm cy g_numberAsked), (wi_rm107_2_4_0 rm cy g_wentAsked), (wi_rm108_2_4_0 rm cy g_harmAsked), (wi_rm109_2_4_0 rm cy g_kindofAsked), (wi_rm95_2_3_0 rm cy g_minAsked), (wi_rm112_0_1700_0 rm cy J53_a16), (wi_rm96_2_3_0 rm cy g_maxAsked), (wi_rm110_0_1700_0 rm cy J53_a18)] H := hP
              replace hD := k_D hP hD
              subst hQ; exact k_vret hx hb hr hlk ((J53_c0_2, J53_c0_4, J53_c0_5, J53_c0_6, J53_c0_111, J53_c0_113, J53_c0_114, J53_a16, J53_a18)) hS ⟨ib_w 0 1600 h9 rfl, ib_w 0 1623 hJ53_c0_111 rfl, ib_w 0 1623 h14 rfl, fun _ => ib_one hx_bad rfl, (by have := hJ53_lin0; omega), fun hq9 => (by have := hJ53_lin0; have := h6; omega), (by have := h7; omega), fun hq9 => (by have := h7; omega), fun hq9 => (by have := Int32.le_iff_toInt_le.mp c12; omega), fun hq9 => (by have := hJ53_lin2; omega), fun q => (h15 q), (hO.symm.trans (by exact hq))⟩ hP hD (Nat.le_of_ble_eq_true rfl) (Nat.le_of_ble_eq_true rfl) dX10_qSums_83
            · as_aux_lemma =>
                replace hq := lf_neg hq (lf_nle (lf_rf J53_c0_113) (lf_rf x_qWaits) c12)
                have h16 := ib_nle hJ53_c0_113 h11 c12
                have h17 : ib J53_c0_113 1 1623 := ib_w 1 1623 h16.1 rfl
                have h18 : ib J53_c0_111 0 1622 := ⟨(hJ53_c0_111).1, by have := (hJ53_c0_111).2; have := h6; have := hL0; have := (h9).2; have := (h17).1; omega⟩
                refine lv_aload_n hx hb dX10_qSums_71 rfl (lv_at hl 0 rfl) ?_
                refine k_jvm hP hD hS hA [0, 16, 18] [false, true, true, true, true, true, true, true, true, true, true, true, true, true, true, true, false, true] rfl rfl (by decide +kernel) 0 0 (Nat.le_of_ble_eq_true rfl) (Nat.le_of_ble_eq_true rfl) (fun hPc hDc => k_runV (As := []) (rest := []) C0 hZ hS hA (s_X10_qDrops l dC dI cy sq a_this rm x_taped J53_c0_2 x_end J53_c0_4 J53_c0_5 J53_c0_6 x_fault x_faultPlace x_namePlace x_awayTold x_away x_coded x_statements x_isCrossing x_textKind x_askSecond x_redMany x_isOpen x_lastGreen x_greenTo x_isCycleGreen x_stillGreen x_rowMany x_fitMany x_fitRules x_fitGreen x_undoable x_newest x_seeded J53_c0_111 J53_c0_113 J53_c0_114 x_qWaits x_qPiled x_qAnswer x_qIsNew x_octets J53_a18 J53_a16 (ib_w 0 1699 h18 rfl) (ib_w 1 1700 h17 rfl)) mV_X10_614 hPc hDc rfl rfl rfl hl rfl rfl (Nat.le_of_ble_eq_true rfl) ⟨(Nat.le_of_ble_eq_true rfl), (Nat.le_of_ble_eq_true rfl)⟩ ⟨(Nat.le_of_ble_eq_true rfl), (Nat.le_of_ble_eq_true rfl)⟩ dX10_qSums_72) (fun u20 H locs hw hP hD hS => ?_)
                obtain ⟨v21, v22, f23⟩ := u20
                try dsimp only at hP hD hw
                replace hP : va_P (dC, dI) vwCl [(wi_rm0_0_1600_0 rm cy g_tape), (wi_rm97_2_6_0 rm cy g_secondAsked), (wi_rm98_2_3_0 rm cy g_dayAsked), (wi_rm99_2_5_0 rm cy g_phaseAsked), (wi_rm100_2_6_0 rm cy g_waitedAsked), (wi_rm101_2_4_0 rm cy g_calmAsked), (wi_rm102_2_4_0 rm cy g_paceAsked), (wi_rm103_2_6_0 rm cy g_trustsAsked), (wi_rm104_2_3_0 rm cy g_gapAsked), (wi_rm105_2_4_0 rm cy g_redsAsked), (wi_rm106_2_6_0 rm cy g_numberAsked), (wi_rm107_2_4_0 rm cy g_wentAsked), (wi_rm108_2_4_0 rm cy g_harmAsked), (wi_rm109_2_4_0 rm cy g_kindofAsked), (wi_rm95_2_3_0 rm cy g_minAsked), (wi_rm96_2_3_0 rm cy g_maxAsked), (a_this, .inr (10, mfs rm x_taped J53_c0_2 x_end J53_c0_4 J53_c0_5 J53_c0_6 x_fault x_faultPlace x_namePlace x_awayTold x_away x_coded x_statements x_isCrossing x_textKind x_askSecond x_redMany x_isOpen x_lastGreen x_greenTo x_isCycleGreen x_stillGreen x_rowMany x_fitMany x_fitRules x_fitGreen x_undoable x_newest x_seeded v21 v22 J53_c0_114 x_qWaits x_qPiled x_qAnswer x_qIsNew x_octets)), (wi_rm112_0_1700_0 rm cy J53_a16), (wi_rm110_0_1700_0 rm cy f23)] H := hP
                replace hD := k_D hP hD
                obtain ⟨h24, h25, h26, h27, h28, h29⟩ := hw
                have h30 : v21.toInt = (J53_c0_111 : Int32).toInt + (1 : Int32).toInt := by have q1 := h25; have q2 : (1 : Int32).toInt = 1 := rfl; omega
                have h31 : ib v21 1 1623 := ⟨by have q1 := h25; have := (h18).1; have := (h24).1; omega, by have q1 := h25; have := (h18).2; have := (h24).2; omega⟩
                have h32 : v22.toInt = (J53_c0_113 : Int32).toInt + ((-1) : Int32).toInt := by have q1 := h27; have q2 : ((-1) : Int32).toInt = (-1) := rfl; omega
                have h33 : ib v22 0 1622 := ⟨by have q1 := h27; have := (h17).1; have := (h26).1; omega, by have q1 := h27; have := (h17).2; have := (h26).2; omega⟩
                replace hq := lf_p1 hq h29
                replace hq := lf_p1 hq rfl
                have h34 : J53_c0_5 = 0 → GS f23 v21 J53_a16 v22 x_qWaits x_textKind (cc + 1) := fun _ => (by rw [h28]; exact GS_dropS ((fun q => (hJ53_go.1 q).1) (ib_one h4 rfl)) (by have := h30; have : (1 : Int32).toInt = 1 := rfl; omega) (by have := h32; have : ((-1) : Int32).toInt = (-1) := rfl; omega) (by have := h32; have : ((-1) : Int32).toInt = (-1) := rfl; have := mt Int32.le_iff_toInt_le.mpr c12; omega) rfl (((fun q => (hJ53_go.1 q).2) (ib_one h4 rfl)) (Int32.toNatClampNeg v22) (by show _ ≤ (Int32.toInt v22).toNat; have := (h11).1; have := (h11).2; have := hL0; have := hJ53_lin0; have := hJ53_lin2; have := h6; have := (h8).1; have := (h8).2; have := hJ53_lin3; have := h7; have := (h9).1; have := (h9).2; have := hJ53_lin1; have := (h10).1; have := (h10).2; have := (h17).1; have := (h17).2; have := (h18).1; have := (h18).2; have := (h33).1; have := (h33).2; have := h32; have : ((-1) : Int32).toInt = (-1) := rfl; have := mt Int32.le_iff_toInt_le.mpr c12; omega) (by show (Int32.toInt v22).toNat < _; have := (h11).1; have := (h11).2; have := hL0; have := hJ53_lin0; have := hJ53_lin2; have := h6; have := (h8).1; have := (h8).2; have := hJ53_lin3; have := h7; have := (h9).1; have := (h9).2; have := hJ53_lin1; have := (h10).1; have := (h10).2; have := (h17).1; have := (h17).2; have := (h18).1; have := (h18).2; have := (h33).1; have := (h33).2; have := h32; have : ((-1) : Int32).toInt = (-1) := rfl; have := mt Int32.le_iff_toInt_le.mpr c12; omega)))
                refine lv_goto (tgt := 53) hx hb dX10_qSums_75 rfl ?_
                exact ih53 J53_l2 J53_c0_2 J53_c0_4 J53_c0_5 J53_c0_6 v21 v22 J53_c0_114 J53_a16 f23 H locs ls (ib_w 0 1 hJ53_l2 rfl) (ib_w 0 1600 h9 rfl) (ib_w 0 1623 h31 rfl) (ib_w 0 1623 h33 rfl) (ib_w 0 1620 h11 rfl) (by have := hJ53_lin0; have := h32; have : ((-1) : Int32).toInt = (-1) := rfl; have := h30; have : (1 : Int32).toInt = 1 := rfl; omega) (by have := hJ53_lin1; have := h32; have : ((-1) : Int32).toInt = (-1) := rfl; have := h30; have : (1 : Int32).toInt = 1 := rfl; omega) (by have := h32; have : ((-1) : Int32).toInt = (-1) := rfl; have := mt Int32.le_iff_toInt_le.mpr c12; omega) (by have := h7; omega) (fun _ => ib_one hx_bad rfl) (⟨fun q => ⟨(h34 q), (fun i h1 h2 => ((fun q => (hJ53_go.1 q).2) q) i h1 (by have := (h17).1; have := (h17).2; have := hJ53_lin0; have := hJ53_lin1; have := hJ53_lin2; have := h6; have := (h8).1; have := (h8).2; have := hL0; have := hJ53_lin3; have := h7; have := (h9).1; have := (h9).2; have := (h11).1; have := (h11).2; have := (h10).1; have := (h10).2; have := (h18).1; have := (h18).2; have := (h33).1; have := (h33).2; have := h32; have : ((-1) : Int32).toInt = (-1) := rfl; have := mt Int32.le_iff_toInt_le.mpr c12; omega))⟩, fun q9 => (by have := hJ53_lin0; have := h6; have := h32; have : ((-1) : Int32).toInt = (-1) := rfl; have := h30; have : (1 : Int32).toInt = 1 := rfl; omega), hJ53_go.2.2⟩) (by rw [← hK53]; exact hq) (by have := h30; have : (1 : Int32).toInt = 1 := rfl; omega) (hP.sub [16, 0, 1, 2, 3, 4, 5, 6, 7, 8, 9, 10, 11, 12, 13, 14, 17, 15, 18] rfl) (hD.sub [16, 0, 1, 2, 3, 4, 5, 6, 7, 8, 9, 10, 11, 12, 13, 14, 17, 15, 18] (by decide +kernel) rfl) hS (lv_sub hl [0, 1, 2] rfl)
  have jn15 : ∀ (n : Nat) (J15_l2 : Int32) (J15_c0_2 : Int32) (J15_c0_4 : Int32) (J15_c0_5 : Int32) (J15_c0_6 : Int32) (J15_c0_111 : Int32) (J15_c0_113 : Int32) (J15_c0_114 : Int32) (J15_a16 : Nat → Int32) (J15_a18 : Nat → Int32) (H : Heap) (locs : List Loc) (ls : Array Slot), ib x_qWaits 0 1623 → ib J15_l2 0 1 → ib J15_c0_2 0 1600 → ib J15_c0_111 0 1623 → ib J15_c0_113 0 1623 → (1 * J15_c0_111.toInt + 1 * J15_c0_113.toInt + (-1) * J15_c0_2.toInt + (-1) * x_qCoded.toInt + (-1) * x_qWaits.toInt + 1 * x_at.toInt ≤ 3) → (1 * J15_c0_111.toInt + 1 * J15_c0_113.toInt + (-1) * J15_c0_2.toInt ≤ 23) → (1 * x_qWaits.toInt + (-1) * J15_c0_113.toInt ≤ 0) → (1 * x_at.toInt + (-1) * J15_c0_2.toInt ≤ 0) → (J15_c0_5 = 0 → x_bad = 0) → (((J15_c0_5 = 0 → ¬ J15_l2 = 0 → GS J15_a18 J15_c0_111 J15_a16 J15_c0_113 x_qWaits x_textKind cc) ∧ (J15_c0_5 = 0 → J15_l2 = 0 → GS J15_a18 J15_c0_111 J15_a16 J15_c0_113 x_qWaits x_textKind (cc + 1) ∧ (∀ i : Nat, x_qWaits.toInt.toNat ≤ i → i < J15_c0_113.toInt.toNat → ¬ brk (J15_a16 i)))) ∧ (J15_c0_5 = 0 → 1 * J15_c0_111.toInt + 1 * J15_c0_113.toInt + (-1) * J15_c0_2.toInt + (-1) * x_qCoded.toInt + (-1) * x_qWaits.toInt + 1 * x_at.toInt ≤ 0) ∧ (J15_c0_5 = 0 → J15_l2 = 0 → 1 * x_at.toInt + (-1) * J15_c0_2.toInt ≤ (-1))) → (O = F_X10_qSums_15 (Int32.toInt x_end) (Int32.toInt x_textKind) (Int32.toInt x_qWaits) (lf_A g_tape) (lf_A g_minAsked) (lf_A g_maxAsked) (lf_A g_secondAsked) (lf_A g_dayAsked) (lf_A g_phaseAsked) (lf_A g_waitedAsked) (lf_A g_calmAsked) (lf_A g_paceAsked) (lf_A g_trustsAsked) (lf_A g_gapAsked) (lf_A g_redsAsked) (lf_A g_numberAsked) (lf_A g_wentAsked) (lf_A g_harmAsked) (lf_A g_kindofAsked) n (Int32.toInt J15_l2) (Int32.toInt J15_c0_2) (Int32.toInt J15_c0_4) (Int32.toInt J15_c0_5) (Int32.toInt J15_c0_6) (Int32.toInt J15_c0_111) (Int32.toInt J15_c0_113) (Int32.toInt J15_c0_114) (lf_A J15_a16) (lf_A J15_a18)) → 3202 ≤ 2 * J15_c0_2.toInt + stq J15_l2 J15_c0_5 + (n : Int) → va_P (dC, dI) vwCl [(a_this, .inr (10, mfs rm x_taped J15_c0_2 x_end J15_c0_4 J15_c0_5 J15_c0_6 x_fault x_faultPlace x_namePlace x_awayTold x_away x_coded x_statements x_isCrossing x_textKind x_askSecond x_redMany x_isOpen x_lastGreen x_greenTo x_isCycleGreen x_stillGreen x_rowMany x_fitMany x_fitRules x_fitGreen x_undoable x_newest x_seeded J15_c0_111 J15_c0_113 J15_c0_114 x_qWaits x_qPiled x_qAnswer x_qIsNew x_octets)), (wi_rm0_0_1600_0 rm cy g_tape), (wi_rm97_2_6_0 rm cy g_secondAsked), (wi_rm98_2_3_0 rm cy g_dayAsked), (wi_rm99_2_5_0 rm cy g_phaseAsked), (wi_rm100_2_6_0 rm cy g_waitedAsked), (wi_rm101_2_4_0 rm cy g_calmAsked), (wi_rm102_2_4_0 rm cy g_paceAsked), (wi_rm103_2_6_0 rm cy g_trustsAsked), (wi_rm104_2_3_0 rm cy g_gapAsked), (wi_rm105_2_4_0 rm cy g_redsAsked), (wi_rm106_2_6_0 rm cy g_numberAsked), (wi_rm107_2_4_0 rm cy g_wentAsked), (wi_rm108_2_4_0 rm cy g_harmAsked), (wi_rm109_2_4_0 rm cy g_kindofAsked), (wi_rm95_2_3_0 rm cy g_minAsked), (wi_rm112_0_1700_0 rm cy J15_a16), (wi_rm96_2_3_0 rm cy g_maxAsked), (wi_rm110_0_1700_0 rm cy J15_a18)] H → va_D A [(a_this, .inr (10, mfs rm x_taped J15_c0_2 x_end J15_c0_4 J15_c0_5 J15_c0_6 x_fault x_faultPlace x_namePlace x_awayTold x_away x_coded x_statements x_isCrossing x_textKind x_askSecond x_redMany x_isOpen x_lastGreen x_greenTo x_isCycleGreen x_stillGreen x_rowMany x_fitMany x_fitRules x_fitGreen x_undoable x_newest x_seeded J15_c0_111 J15_c0_113 J15_c0_114 x_qWaits x_qPiled x_qAnswer x_qIsNew x_octets)), (wi_rm0_0_1600_0 rm cy g_tape), (wi_rm97_2_6_0 rm cy g_secondAsked), (wi_rm98_2_3_0 rm cy g_dayAsked), (wi_rm99_2_5_0 rm cy g_phaseAsked), (wi_rm100_2_6_0 rm cy g_waitedAsked), (wi_rm101_2_4_0 rm cy g_calmAsked), (wi_rm102_2_4_0 rm cy g_paceAsked), (wi_rm103_2_6_0 rm cy g_trustsAsked), (wi_rm104_2_3_0 rm cy g_gapAsked), (wi_rm105_2_4_0 rm cy g_redsAsked), (wi_rm106_2_6_0 rm cy g_numberAsked), (wi_rm107_2_4_0 rm cy g_wentAsked), (wi_rm108_2_4_0 rm cy g_harmAsked), (wi_rm109_2_4_0 rm cy g_kindofAsked), (wi_rm95_2_3_0 rm cy g_minAsked), (wi_rm112_0_1700_0 rm cy J15_a16), (wi_rm96_2_3_0 rm cy g_maxAsked), (wi_rm110_0_1700_0 rm cy J15_a18)] → va_S A s.heap H locs → lv_has ls 3 [(0, .ref a_this), (1, .int x_qBase), (2, .int J15_l2)] → W p l e { frames := 6, cells := 0, slots := 0, locals := 131 } s m args below meth c H locs 0 0 Q (F0 m 15 ls []) := by
    as_aux_lemma =>
      intro n
      induction n with
      | zero =>
        intro J15_l2 J15_c0_2 J15_c0_4 J15_c0_5 J15_c0_6 J15_c0_111 J15_c0_113 J15_c0_114 J15_a16 J15_a18 H locs ls hK15_x_qWaits hJ15_l2 hJ15_c0_2 hJ15_c0_111 hJ15_c0_113 hJ15_lin0 hJ15_lin1 hJ15_lin2 hJ15_lin3 hJ15_zm hJ15_go hq hm
        exact absurd hm (by have q1 := (hJ15_c0_2).2; have q2 := (stq_le J15_l2 J15_c0_5).2; omega)
      | succ n ih =>
        intro J15_l2 J15_c0_2 J15_c0_4 J15_c0_5 J15_c0_6 J15_c0_111 J15_c0_113 J15_c0_114 J15_a16 J15_a18 H locs ls hK15_x_qWaits hJ15_l2 hJ15_c0_2 hJ15_c0_111 hJ15_c0_113 hJ15_lin0 hJ15_lin1 hJ15_lin2 hJ15_lin3 hJ15_zm hJ15_go hq hm15 hP hD hS hl
        have ih15 := ih
        obtain ⟨K15, hK15⟩ : ∃ K, K = F_X10_qSums_15 (Int32.toInt x_end) (Int32.toInt x_textKind) (Int32.toInt x_qWaits) (lf_A g_tape) (lf_A g_minAsked) (lf_A g_maxAsked) (lf_A g_secondAsked) (lf_A g_dayAsked) (lf_A g_phaseAsked) (lf_A g_waitedAsked) (lf_A g_calmAsked) (lf_A g_paceAsked) (lf_A g_trustsAsked) (lf_A g_gapAsked) (lf_A g_redsAsked) (lf_A g_numberAsked) (lf_A g_wentAsked) (lf_A g_harmAsked) (lf_A g_kindofAsked) n := ⟨_, rfl⟩
        have hq : O = F_X10_qSums_15b (Int32.toInt x_end) (Int32.toInt x_textKind) (Int32.toInt x_qWaits) (lf_A g_tape) (lf_A g_minAsked) (lf_A g_maxAsked) (lf_A g_secondAsked) (lf_A g_dayAsked) (lf_A g_phaseAsked) (lf_A g_waitedAsked) (lf_A g_calmAsked) (lf_A g_paceAsked) (lf_A g_trustsAsked) (lf_A g_gapAsked) (lf_A g_redsAsked) (lf_A g_numberAsked) (lf_A g_wentAsked) (lf_A g_harmAsked) (lf_A g_kindofAsked) K15 (Int32.toInt J15_l2) (Int32.toInt J15_c0_2) (Int32.toInt J15_c0_4) (Int32.toInt J15_c0_5) (Int32.toInt J15_c0_6) (Int32.toInt J15_c0_111) (Int32.toInt J15_c0_113) (Int32.toInt J15_c0_114) (lf_A J15_a16) (lf_A J15_a18) := by rw [hK15]; exact hq
        unfold F_X10_qSums_15b at hq
        refine lv_iload_n hx hb dX10_qSums_15 rfl (lv_at hl 2 rfl) ?_
        refine lv_if_eq (tgt := 53) hx hb dX10_qSums_16 rfl (fun c35 => ?_) (fun c35 => ?_)
        · replace hq := lf_pos hq (lf_eq (lf_rf J15_l2) (lf_lc 0 (0 : Int) rfl) c35)
          have h36 := ib_eq hJ15_l2 (ib_c 0 0 0 rfl) c35
          have h37 : ib J15_l2 0 0 := ib_w 0 0 h36.1 rfl
          have h38 : ib x_qCoded 0 1620 := ⟨(hx_qCoded).1, by have := (hx_qCoded).2; have := hL0; have := (hx_at).2; have := (hK15_x_qWaits).1; omega⟩
          have h39 : ib x_qWaits 0 1620 := ⟨(hK15_x_qWaits).1, by have := (hK15_x_qWaits).2; have := hL0; have := (hx_at).2; have := (h38).1; omega⟩
          exact jn53 1625 J15_l2 J15_c0_2 J15_c0_4 J15_c0_5 J15_c0_6 J15_c0_111 J15_c0_113 J15_c0_114 J15_a16 J15_a18 H locs ls (ib_w 0 1 h37 rfl) (ib_w 0 1600 hJ15_c0_2 rfl) (ib_w 0 1623 hJ15_c0_111 rfl) (ib_w 0 1623 hJ15_c0_113 rfl) (ib_w 0 1620 h39 rfl) (by have := hJ15_lin0; omega) (by have := hJ15_lin1; omega) (by have := hJ15_lin2; omega) (by have := hJ15_lin3; omega) (fun _ => ib_one hx_bad rfl) (⟨fun q => hJ15_go.1.2 q (ib_one h37 rfl), fun q9 => (by have := hJ15_lin0; have := (hJ15_go.2.1 q9); omega), fun q => hJ15_go.2.2 q (ib_one h37 rfl)⟩) (by exact hq) (by have := hJ15_c0_111; unfold ib at this; omega) hP hD hS (lv_sub hl [0, 1, 2] rfl)
        · as_aux_lemma =>
            replace hq := lf_neg hq (lf_ne (lf_rf J15_l2) (lf_lc 0 (0 : Int) rfl) c35)
            have h40 : ib J15_l2 1 1 := ib_w 1 1 (ib_ne_lo 0 hJ15_l2 rfl c35) rfl
            have h41 : ib x_qCoded 0 1620 := ⟨(hx_qCoded).1, by have := (hx_qCoded).2; have := hL0; have := (hx_at).2; have := (hK15_x_qWaits).1; omega⟩
            have h42 : ib x_qWaits 0 1620 := ⟨(hK15_x_qWaits).1, by have := (hK15_x_qWaits).2; have := hL0; have := (hx_at).2; have := (h41).1; omega⟩
            refine lv_aload_n hx hb dX10_qSums_19 rfl (lv_at hl 0 rfl) ?_
            refine k_get C0 fg_X10_279 hP 0 rfl rfl dX10_qSums_20 ?_
            refine lv_if_ne (tgt := 53) hx hb dX10_qSums_23 rfl (fun c43 => ?_) (fun c43 => ?_)
            · replace hq := lf_neg hq (lf_ne (lf_rf J15_c0_5) (lf_lc 0 (0 : Int) rfl) c43)
              exact jn53 1625 J15_l2 J15_c0_2 J15_c0_4 J15_c0_5 J15_c0_6 J15_c0_111 J15_c0_113 J15_c0_114 J15_a16 J15_a18 H locs ls (ib_w 0 1 h40 rfl) (ib_w 0 1600 hJ15_c0_2 rfl) (ib_w 0 1623 hJ15_c0_111 rfl) (ib_w 0 1623 hJ15_c0_113 rfl) (ib_w 0 1620 h42 rfl) (by have := hJ15_lin0; omega) (by have := hJ15_lin1; omega) (by have := hJ15_lin2; omega) (by have := hJ15_lin3; omega) (fun _ => ib_one hx_bad rfl) (⟨fun q => absurd q c43, fun q => absurd q c43, fun q => absurd q c43⟩) (by exact hq) (by have := hJ15_c0_111; unfold ib at this; omega) hP hD hS (lv_sub hl [0, 1, 2] rfl)
            · as_aux_lemma =>
                replace hq := lf_pos hq (lf_eq (lf_rf J15_c0_5) (lf_lc 0 (0 : Int) rfl) c43)
                have h44 := ib_eq (ib_any J15_c0_5) (ib_c 0 0 0 rfl) c43
                have h45 : ib J15_c0_5 0 0 := ib_w 0 0 h44.1 rfl
                have h46 := hJ15_go.2.1 (ib_one h45 rfl)
                refine lv_aload_n hx hb dX10_qSums_26 rfl (lv_at hl 0 rfl) ?_
                refine k_jvm hP hD hS hA [0, 1, 2, 3, 4, 5, 6, 7, 8, 9, 10, 11, 12, 13, 14, 15, 16, 17, 18] [] rfl rfl (by decide +kernel) 0 0 (Nat.le_of_ble_eq_true rfl) (Nat.le_of_ble_eq_true rfl) (fun hPc hDc => k_runV (As := []) (rest := []) C0 hZ hS hA (s_X10_qPartTold l dC dI cy sq a_this rm x_taped J15_c0_2 x_end J15_c0_4 J15_c0_5 J15_c0_6 x_fault x_faultPlace x_namePlace x_awayTold x_away x_coded x_statements x_isCrossing x_textKind x_askSecond x_redMany x_isOpen x_lastGreen x_greenTo x_isCycleGreen x_stillGreen x_rowMany x_fitMany x_fitRules x_fitGreen x_undoable x_newest x_seeded J15_c0_111 J15_c0_113 J15_c0_114 x_qWaits x_qPiled x_qAnswer x_qIsNew x_octets g_tape g_minAsked g_maxAsked g_secondAsked g_dayAsked g_phaseAsked g_waitedAsked g_calmAsked g_paceAsked g_trustsAsked g_gapAsked g_redsAsked g_numberAsked g_wentAsked g_harmAsked g_kindofAsked J15_a18 J15_a16 cc (ib_w 0 1600 hJ15_c0_2 rfl) (ib_w 0 1600 hx_end rfl) (ib_w 0 0 h45 rfl) (ib_w 0 1700 hJ15_c0_111 rfl) (ib_w 0 1700 hJ15_c0_113 rfl) (ib_w 0 1700 h42 rfl) hg_tape (by have := hJ15_lin1; have := h46; have := hL0; omega) (by have := hJ15_lin2; omega) (fun q => ((fun q => hJ15_go.1.1 q c35) q))) mV_X10_644 hPc hDc rfl rfl rfl hl rfl rfl (Nat.le_of_ble_eq_true rfl) ⟨(Nat.le_of_ble_eq_true rfl), (Nat.le_of_ble_eq_true rfl)⟩ ⟨(Nat.le_of_ble_eq_true rfl), (Nat.le_of_ble_eq_true rfl)⟩ dX10_qSums_27) (fun u48 H locs hw hP hD hS => ?_)
                obtain ⟨v49, v50, v51, v52, v53, v54, v55, f56, f57⟩ := u48
                try dsimp only at hP hD hw
                replace hP : va_P (dC, dI) vwCl [(a_this, .inr (10, mfs rm x_taped v49 x_end v50 v51 v52 x_fault x_faultPlace x_namePlace x_awayTold x_away x_coded x_statements x_isCrossing x_textKind x_askSecond x_redMany x_isOpen x_lastGreen x_greenTo x_isCycleGreen x_stillGreen x_rowMany x_fitMany x_fitRules x_fitGreen x_undoable x_newest x_seeded v53 v54 v55 x_qWaits x_qPiled x_qAnswer x_qIsNew x_octets)), (wi_rm0_0_1600_0 rm cy g_tape), (wi_rm97_2_6_0 rm cy g_secondAsked), (wi_rm98_2_3_0 rm cy g_dayAsked), (wi_rm99_2_5_0 rm cy g_phaseAsked), (wi_rm100_2_6_0 rm cy g_waitedAsked), (wi_rm101_2_4_0 rm cy g_calmAsked), (wi_rm102_2_4_0 rm cy g_paceAsked), (wi_rm103_2_6_0 rm cy g_trustsAsked), (wi_rm104_2_3_0 rm cy g_gapAsked), (wi_rm105_2_4_0 rm cy g_redsAsked), (wi_rm106_2_6_0 rm cy g_numberAsked), (wi_rm107_2_4_0 rm cy g_wentAsked), (wi_rm108_2_4_0 rm cy g_harmAsked), (wi_rm109_2_4_0 rm cy g_kindofAsked), (wi_rm95_2_3_0 rm cy g_minAsked), (wi_rm112_0_1700_0 rm cy f56), (wi_rm96_2_3_0 rm cy g_maxAsked), (wi_rm110_0_1700_0 rm cy f57)] H := hP
                replace hD := k_D hP hD
                obtain ⟨h58, h59, h60, h61, h62, h63, h64, h65, h66, h67, h68⟩ := hw
                replace hq := lf_p1 hq h68
                replace hq := lf_p1 hq rfl
                replace hq := lf_p1 hq rfl
                replace hq := lf_p1 hq rfl
                replace hq := lf_p1 hq rfl
                replace hq := lf_p1 hq rfl
                replace hq := lf_p1 hq rfl
                replace hq := lf_p1 hq rfl
                refine lv_aload_n hx hb dX10_qSums_30 rfl (lv_at hl 0 rfl) ?_
                refine k_get C0 fg_X10_279 hP 0 rfl rfl dX10_qSums_31 ?_
                refine lv_if_ne (tgt := 48) hx hb dX10_qSums_34 rfl (fun c69 => ?_) (fun c69 => ?_)
                · replace hq := lf_neg hq (lf_ne (lf_rf v51) (lf_lc 0 (0 : Int) rfl) c69)
                  refine lv_iconst (v := 0) hx hb dX10_qSums_48 rfl ?_
                  refine lv_istore_n (lv' := [(2, .int 0), (0, .ref a_this), (1, .int x_qBase)]) hx hb dX10_qSums_49 rfl hl (Nat.le_of_ble_eq_true rfl) rfl (fun ls hl => ?_)
                  refine lv_goto (tgt := 15) hx hb dX10_qSums_50 rfl ?_
                  exact ih15 0 v49 v50 v51 v52 v53 v54 v55 f56 f57 H locs ls (ib_w 0 1623 h42 rfl) (ib_w 0 1 (ib_c 0 0 0 rfl) rfl) (ib_w 0 1600 h58 rfl) ⟨by have := (h59).1; omega, by have := (h58).2; have := h62; have := hJ15_lin1; have := h46; have := (h60).1; have := hL0; omega⟩ ⟨by have := (h60).1; omega, by have := (h58).2; have := h62; have := hJ15_lin1; have := h46; have := hL0; have := (h59).1; omega⟩ (by have := hJ15_lin0; have := h46; have := h62; omega) (by have := h62; have := hJ15_lin1; have := h46; have := hL0; omega) (by have := h66; omega) (by have := h64; have := hJ15_lin3; omega) (fun _ => ib_one hx_bad rfl) (⟨⟨fun q _ => absurd q c69, fun q _ => absurd q c69⟩, fun q => absurd q c69, fun q _ => absurd q c69⟩) (by rw [← hK15]; try simp only [show (0 : Int32).toInt = (0 : Int) from rfl]; exact hq) (by have z0 := stq_0 (a := J15_l2) (b := J15_c0_5) (ib_nz h40 rfl) (ib_one h45 rfl); have z2 := stq_1 (a := 0) (b := v51) (Or.inl rfl); have := h64; omega) hP hD hS (lv_sub hl [1, 2, 0] rfl)
                · as_aux_lemma =>
                    replace hq := lf_pos hq (lf_eq (lf_rf v51) (lf_lc 0 (0 : Int) rfl) c69)
                    have h70 := ib_eq (ib_any v51) (ib_c 0 0 0 rfl) c69
                    have h71 : ib v51 0 0 := ib_w 0 0 h70.1 rfl
                    have h72 := h63 (ib_one h71 rfl)
                    have h73 := h65 (ib_one h71 rfl)
                    have h74 : ib J15_c0_2 0 1599 := ⟨(hJ15_c0_2).1, by have := (hJ15_c0_2).2; have := h73; have := (h58).2; omega⟩
                    have h75 : ib v49 1 1600 := ⟨by have := (h58).1; have := h73; have := (h74).1; omega, (h58).2⟩
                    have h76 : ib J15_c0_111 0 1622 := ⟨(hJ15_c0_111).1, by have := (hJ15_c0_111).2; have := h46; have := (h74).2; have := (hJ15_c0_113).1; have := hL0; omega⟩
                    have h77 : ib J15_c0_113 0 1622 := ⟨(hJ15_c0_113).1, by have := (hJ15_c0_113).2; have := h46; have := (h74).2; have := (h76).1; have := hL0; omega⟩
                    have h78 : ib x_at 0 1599 := ⟨(hx_at).1, by have := (hx_at).2; have := hJ15_lin3; have := (h74).2; omega⟩
                    refine lv_aload_n hx hb dX10_qSums_37 rfl (lv_at hl 0 rfl) ?_
                    refine k_jim hP hD hS hA [0, 1, 16, 18] [false, false, true, true, true, true, true, true, true, true, true, true, true, true, true, true, false, true] rfl rfl (by decide +kernel) 0 0 (Nat.le_of_ble_eq_true rfl) (Nat.le_of_ble_eq_true rfl) (fun hPc hDc => k_runV (As := []) (rest := []) C0 hZ hS hA (s_X10_qGoesOn l dC dI cy sq a_this rm x_taped v49 x_end v50 v51 v52 x_fault x_faultPlace x_namePlace x_awayTold x_away x_coded x_statements x_isCrossing x_textKind x_askSecond x_redMany x_isOpen x_lastGreen x_greenTo x_isCycleGreen x_stillGreen x_rowMany x_fitMany x_fitRules x_fitGreen x_undoable x_newest x_seeded v53 v54 v55 x_qWaits x_qPiled x_qAnswer x_qIsNew x_octets g_tape f57 f56 cc (ib_w 0 1600 h75 rfl) (ib_w 0 1600 hx_end rfl) (ib_w 0 0 h71 rfl) (ib_w 0 1700 h59 rfl) (ib_w 0 1700 h60 rfl) (ib_w 0 1700 h42 rfl) hg_tape (by have := h72; have := hJ15_lin1; have := h46; have := hL0; omega) (by have := h66; omega) (fun q => (h67 q))) mV_X10_647 hPc hDc rfl rfl rfl hl rfl rfl (Nat.le_of_ble_eq_true rfl) ⟨(Nat.le_of_ble_eq_true rfl), (Nat.le_of_ble_eq_true rfl)⟩ ⟨(Nat.le_of_ble_eq_true rfl), (Nat.le_of_ble_eq_true rfl)⟩ dX10_qSums_38) (fun r79 u80 H locs hw hP hD hS => ?_)
                    obtain ⟨v81, v82, v83, v84, v85, v86, f87, f88⟩ := u80
                    try dsimp only at hP hD hw
                    replace hP : va_P (dC, dI) vwCl [(wi_rm97_2_6_0 rm cy g_secondAsked), (wi_rm98_2_3_0 rm cy g_dayAsked), (wi_rm99_2_5_0 rm cy g_phaseAsked), (wi_rm100_2_6_0 rm cy g_waitedAsked), (wi_rm101_2_4_0 rm cy g_calmAsked), (wi_rm102_2_4_0 rm cy g_paceAsked), (wi_rm103_2_6_0 rm cy g_trustsAsked), (wi_rm104_2_3_0 rm cy g_gapAsked), (wi_rm105_2_4_0 rm cy g_redsAsked), (wi_rm106_2_6_0 rm cy g_numberAsked), (wi_rm107_2_4_0 rm cy g_wentAsked), (wi_rm108_2_4_0 rm cy g_harmAsked), (wi_rm109_2_4_0 rm cy g_kindofAsked), (wi_rm95_2_3_0 rm cy g_minAsked), (wi_rm96_2_3_0 rm cy g_maxAsked), (a_this, .inr (10, mfs rm x_taped v81 x_end v50 v82 v83 x_fault x_faultPlace x_namePlace x_awayTold x_away x_coded x_statements x_isCrossing x_textKind x_askSecond x_redMany x_isOpen x_lastGreen x_greenTo x_isCycleGreen x_stillGreen x_rowMany x_fitMany x_fitRules x_fitGreen x_undoable x_newest x_seeded v84 v85 v86 x_qWaits x_qPiled x_qAnswer x_qIsNew x_octets)), (wi_rm0_0_1600_0 rm cy g_tape), (wi_rm112_0_1700_0 rm cy f87), (wi_rm110_0_1700_0 rm cy f88)] H := hP
                    replace hD := k_D hP hD
                    obtain ⟨h89, h90, h91, h92, h93, h94, h95, h96, h97, h98, h99, h100, h101, h102, h103, h104, h105, h106⟩ := hw
                    replace hq := lf_p1 hq h106
                    replace hq := lf_p1 hq rfl
                    replace hq := lf_p1 hq rfl
                    replace hq := lf_p1 hq rfl
                    replace hq := lf_p1 hq rfl
                    replace hq := lf_p1 hq rfl
                    replace hq := lf_p1 hq rfl
                    replace hq := lf_p1 hq rfl
                    refine lv_if_eq (tgt := 48) hx hb dX10_qSums_41 rfl (fun c107 => ?_) (fun c107 => ?_)
                    · replace hq := lf_pos hq (lf_eq (lf_rf r79) (lf_lc 0 (0 : Int) rfl) c107)
                      have h108 := ib_eq h92 (ib_c 0 0 0 rfl) c107
                      have h109 : ib r79 0 0 := ib_w 0 0 h108.1 rfl
                      have h110 : ib x_qCoded 0 1619 := ⟨(h41).1, by have := (h41).2; have := hL0; have := (h78).2; have := (h42).1; omega⟩
                      have h111 : ib x_qWaits 0 1619 := ⟨(h42).1, by have := (h42).2; have := hL0; have := (h78).2; have := (h110).1; omega⟩
                      have h112 : ib v81 1 1600 := ⟨by have := (h89).1; have := h102; have := (h75).1; omega, (h89).2⟩
                      refine lv_iconst (v := 0) hx hb dX10_qSums_48 rfl ?_
                      refine lv_istore_n (lv' := [(2, .int 0), (0, .ref a_this), (1, .int x_qBase)]) hx hb dX10_qSums_49 rfl hl (Nat.le_of_ble_eq_true rfl) rfl (fun ls hl => ?_)
                      refine lv_goto (tgt := 15) hx hb dX10_qSums_50 rfl ?_
                      exact ih15 0 v81 v50 v82 v83 v84 v85 v86 f87 f88 H locs ls (ib_w 0 1623 h111 rfl) (ib_w 0 1 (ib_c 0 0 0 rfl) rfl) (ib_w 0 1600 h112 rfl) ⟨by have := (h90).1; omega, by have := (h112).2; have := h100; have := h72; have := (h91).1; have := hL0; have := h46; have := hJ15_lin1; omega⟩ (ib_w 0 1623 h91 rfl) (by have := hJ15_lin0; have := h46; have := h100; have := h72; omega) (by have := h100; have := h72; have := hL0; have := h46; have := hJ15_lin1; omega) (by have := h103; omega) (by have := (h112).1; have := h102; have := h73; have := (h78).2; have := hJ15_lin3; omega) (fun _ => ib_one hx_bad rfl) (⟨⟨fun _ e => absurd rfl e, fun q _ => ⟨((fun q => (h105 (ib_one h109 rfl) q).1) q), ((fun q => (h105 (ib_one h109 rfl) q).2) q)⟩⟩, fun q9 => (by have := hJ15_lin0; have := h46; have := h72; have := (h101 q9); omega), fun q9 _ => (by have := (h112).1; have := h102; have := h73; have := hJ15_lin3; have := (h78).2; omega)⟩) (by rw [← hK15]; try simp only [show (0 : Int32).toInt = (0 : Int) from rfl]; exact hq) (by have z0 := stq_0 (a := J15_l2) (b := J15_c0_5) (ib_nz h40 rfl) (ib_one h45 rfl); have z2 := stq_1 (a := 0) (b := v82) (Or.inl rfl); have := h73; have := h102; omega) (hP.sub [15, 16, 0, 1, 2, 3, 4, 5, 6, 7, 8, 9, 10, 11, 12, 13, 17, 14, 18] rfl) (hD.sub [15, 16, 0, 1, 2, 3, 4, 5, 6, 7, 8, 9, 10, 11, 12, 13, 17, 14, 18] (by decide +kernel) rfl) hS (lv_sub hl [1, 2, 0] rfl)
                    · replace hq := lf_neg hq (lf_ne (lf_rf r79) (lf_lc 0 (0 : Int) rfl) c107)
                      have h113 : ib r79 1 1 := ib_w 1 1 (ib_ne_lo 0 h92 rfl c107) rfl
                      have h114 : ib v81 1 1600 := ib_w 1 1600 (ib_two h89 (h93 (ib_nz h113 rfl))) rfl
                      have h115 : ib v82 0 0 := ib_w 0 0 (ib_two (ib_any v82) (h94 (ib_nz h113 rfl))) rfl
                      have h116 := h101 (ib_one h115 rfl)
                      have h117 : ib x_qCoded 0 1619 := ⟨(h41).1, by have := (h41).2; have := hL0; have := (h78).2; have := (h42).1; omega⟩
                      have h118 : ib x_qWaits 0 1619 := ⟨(h42).1, by have := (h42).2; have := hL0; have := (h78).2; have := (h117).1; omega⟩
                      have h119 : ib v85 1 1622 := ib_w 1 1622 (ib_two h91 (h95 (ib_nz h113 rfl))) rfl
                      have h120 : ib v53 0 1620 := ib_w 0 1620 (ib_two h59 (h96 (ib_nz h113 rfl))) rfl
                      have h121 : ib v54 0 1620 := ib_w 0 1620 (ib_two h60 (h97 (ib_nz h113 rfl))) rfl
                      refine lv_iconst (v := 1) hx hb dX10_qSums_44 rfl ?_
                      refine lv_goto (tgt := 49) hx hb dX10_qSums_45 rfl ?_
                      refine lv_istore_n (lv' := [(2, .int 1), (0, .ref a_this), (1, .int x_qBase)]) hx hb dX10_qSums_49 rfl hl (Nat.le_of_ble_eq_true rfl) rfl (fun ls hl => ?_)
                      refine lv_goto (tgt := 15) hx hb dX10_qSums_50 rfl ?_
                      exact ih15 1 v81 v50 v82 v83 v84 v85 v86 f87 f88 H locs ls (ib_w 0 1623 h118 rfl) (ib_w 0 1 (ib_c 1 1 1 rfl) rfl) (ib_w 0 1600 h114 rfl) ⟨by have := (h90).1; omega, by have := (h114).2; have := h116; have := h72; have := (h119).1; have := (h90).2; have := hJ15_lin1; omega⟩ (ib_w 0 1623 h119 rfl) (by have := hJ15_lin0; have := h46; have := h100; have := h72; omega) (by have := h100; have := h116; have := h72; have := hJ15_lin1; omega) (by have := h103; omega) (by have := (h114).1; have := h102; have := h73; have := (h78).2; have := hJ15_lin3; omega) (fun _ => ib_one hx_bad rfl) (⟨⟨fun q _ => ((fun q => h104 (ib_nz h113 rfl) q) q), fun _ e => absurd e (by decide)⟩, fun q9 => (by have := hJ15_lin0; have := h46; have := h72; have := h116; omega), fun _ e => absurd e (by decide)⟩) (by rw [← hK15]; try simp only [show (1 : Int32).toInt = (1 : Int) from rfl]; exact hq) (by have z0 := stq_0 (a := J15_l2) (b := J15_c0_5) (ib_nz h40 rfl) (ib_one h45 rfl); by_cases q8 : v82 = 0; exact (by have z1 := stq_le 1 v82; have := h73; have := h102; omega); exact (by have z2 := stq_1 (a := 1) (b := v82) (Or.inr q8); have := h73; have := h102; omega)) (hP.sub [15, 16, 0, 1, 2, 3, 4, 5, 6, 7, 8, 9, 10, 11, 12, 13, 17, 14, 18] rfl) (hD.sub [15, 16, 0, 1, 2, 3, 4, 5, 6, 7, 8, 9, 10, 11, 12, 13, 17, 14, 18] (by decide +kernel) rfl) hS (lv_sub hl [1, 2, 0] rfl)
  refine lv_aload_n hx hb dX10_qSums_0 rfl (lv_at hl 0 rfl) ?_
  refine k_get C0 fg_X10_378 hP 0 rfl rfl dX10_qSums_1 ?_
  refine lv_istore_n (lv' := [(1, .int x_qBase), (0, .ref a_this)]) hx hb dX10_qSums_4 rfl hl (Nat.le_of_ble_eq_true rfl) rfl (fun ls hl => ?_)
  refine lv_aload_n hx hb dX10_qSums_5 rfl (lv_at hl 1 rfl) ?_
  refine lv_aload_n hx hb dX10_qSums_6 rfl (lv_at hl 1 rfl) ?_
  refine k_get C0 fg_X10_372 hP 0 rfl rfl dX10_qSums_7 ?_
  refine k_put C0 fp_X10_378 hP hD hS 0 rfl rfl rfl (Nat.le_of_ble_eq_true rfl) dX10_qSums_10 (fun H locs hP hD hS => ?_)
  replace hP : va_P (dC, dI) vwCl [(a_this, .inr (10, mfs rm x_taped x_at x_end x_ended x_bad x_badPlace x_fault x_faultPlace x_namePlace x_awayTold x_away x_coded x_statements x_isCrossing x_textKind x_askSecond x_redMany x_isOpen x_lastGreen x_greenTo x_isCycleGreen x_stillGreen x_rowMany x_fitMany x_fitRules x_fitGreen x_undoable x_newest x_seeded x_qCoded x_qWaits x_qOpened x_qWaits x_qPiled x_qAnswer x_qIsNew x_octets)), (wi_rm0_0_1600_0 rm cy g_tape), (wi_rm97_2_6_0 rm cy g_secondAsked), (wi_rm98_2_3_0 rm cy g_dayAsked), (wi_rm99_2_5_0 rm cy g_phaseAsked), (wi_rm100_2_6_0 rm cy g_waitedAsked), (wi_rm101_2_4_0 rm cy g_calmAsked), (wi_rm102_2_4_0 rm cy g_paceAsked), (wi_rm103_2_6_0 rm cy g_trustsAsked), (wi_rm104_2_3_0 rm cy g_gapAsked), (wi_rm105_2_4_0 rm cy g_redsAsked), (wi_rm106_2_6_0 rm cy g_numberAsked), (wi_rm107_2_4_0 rm cy g_wentAsked), (wi_rm108_2_4_0 rm cy g_harmAsked), (wi_rm109_2_4_0 rm cy g_kindofAsked), (wi_rm95_2_3_0 rm cy g_minAsked), (wi_rm112_0_1700_0 rm cy g_qWait), (wi_rm96_2_3_0 rm cy g_maxAsked), (wi_rm110_0_1700_0 rm cy g_qCodes)] H := hP
  replace hD := k_D hP hD
  have h122 : x_bad = 0 → GS g_qCodes x_qCoded g_qWait x_qWaits x_qWaits x_textKind cc := fun q => (hGS q)
  refine lv_iconst (v := 1) hx hb dX10_qSums_13 rfl ?_
  refine lv_istore_n (lv' := [(2, .int 1), (1, .int x_qBase), (0, .ref a_this)]) hx hb dX10_qSums_14 rfl hl (Nat.le_of_ble_eq_true rfl) rfl (fun ls hl => ?_)
  exact jn15 3203 1 x_at x_ended x_bad x_badPlace x_qCoded x_qWaits x_qOpened g_qWait g_qCodes H locs ls ⟨by have := (hx_qWaits).1; omega, by have := (hx_at).2; have := hL0; have := (hx_qWaits).2; have := (hx_qCoded).1; omega⟩ (ib_w 0 1 (ib_c 1 1 1 rfl) rfl) (ib_w 0 1600 hx_at rfl) ⟨by have := (hx_qCoded).1; omega, by have := (hx_at).2; have := hL0; have := (hx_qWaits).1; have := (hx_qCoded).2; omega⟩ ⟨by have := (hx_qWaits).1; omega, by have := (hx_at).2; have := hL0; have := (hx_qWaits).2; have := (hx_qCoded).1; omega⟩ (by omega) (by have := hL0; omega) (by omega) (by omega) (fun q => q) (⟨⟨fun q _ => (h122 q), fun _ e => absurd e (by decide)⟩, fun q9 => (by omega), fun _ e => absurd e (by decide)⟩) (by try simp only [show (1 : Int32).toInt = (1 : Int) from rfl]; exact hq) (by have q1 := (hx_at).1; have q2 := (stq_le 1 x_bad).1; omega) hP hD hS (lv_sub hl [2, 1, 0] rfl)
set_option maxHeartbeats 4000000 in
set_option maxRecDepth 100000 in
theorem s_X10_codesTell_a0_0 (l : Launch) (dC : Nat → ClassId) (dI : Nat → Nat → Nat) (cy : Nat → ClassId) (sq : Nat → Nat) (a_this : Nat) (rm : Nat → Nat) (x_taped : Int32) (x_at : Int32) (x_end : Int32) (x_ended : Int32) (x_bad : Int32) (x_badPlace : Int32) (x_fault : Int32) (x_faultPlace : Int32) (x_namePlace : Int32) (x_awayTold : Int32) (x_away : Int32) (x_coded : Int32) (x_statements : Int32) (x_isCrossing : Int32) (x_textKind : Int32) (x_askSecond : Int32) (x_redMany : Int32) (x_isOpen : Int32) (x_lastGreen : Int32) (x_greenTo : Int32) (x_isCycleGreen : Int32) (x_stillGreen : Int32) (x_rowMany : Int32) (x_fitMany : Int32) (x_fitRules : Int32) (x_fitGreen : Int32) (x_undoable : Int32) (x_newest : Int32) (x_seeded : Int64) (x_qCoded : Int32) (x_qWaits : Int32) (x_qOpened : Int32) (x_qBase : Int32) (x_qPiled : Int32) (x_qAnswer : Int64) (x_qIsNew : Int32) (x_octets : Int32) (g_bar : Nat → Int32) (g_kinds : Nat → Int32) (g_walkers : Nat → Int32) (g_codeFrom : Nat → Int32) (g_codeEnd : Nat → Int32) (g_codes : Nat → Int32) (g_now : Nat → Int32) (g_gaps : Nat → Int32) (g_waits : Nat → Int32) (g_goes : Nat → Int32) (g_harms : Nat → Int32) (g_qPile : Nat → Int64) (p1 : Int32) (hg_bar_4 : ib (g_bar 4) 10 120) (hpg_walkers : ip g_walkers 48 2 0 0 5) (hg_codeFrom_3 : ib (g_codeFrom 3) 0 1600) (hg_codeEnd_3 : ib (g_codeEnd 3) 0 1600) (hg_gaps : ia g_gaps 300 0 20) (hG0 : ¬ g_codeFrom 3 = (-1) → okc g_codes 1600 false (g_codeFrom 3) (g_codeEnd 3)) (hp1 : ib p1 0 11) : k_Met l yX10_codesTell cX10_codesTell 5 (some .long) { frames := 3, cells := 0, slots := 0, locals := 64 } dC dI cy sq [.ref a_this, .int 0, .int p1] [(a_this, .inr (10, mfs rm x_taped x_at x_end x_ended x_bad x_badPlace x_fault x_faultPlace x_namePlace x_awayTold x_away x_coded x_statements x_isCrossing x_textKind x_askSecond x_redMany x_isOpen x_lastGreen x_greenTo x_isCycleGreen x_stillGreen x_rowMany x_fitMany x_fitRules x_fitGreen x_undoable x_newest x_seeded x_qCoded x_qWaits x_qOpened x_qBase x_qPiled x_qAnswer x_qIsNew x_octets)), (wi_rm49_0_6_0 rm cy g_codeFrom), (wi_rm50_0_6_0 rm cy g_codeEnd), (wi_rm116_1_1700_1 rm cy g_qPile), (wi_rm51_0_3200_0 rm cy g_codes), (wi_rm46_0_48_0 rm cy g_walkers), (wi_rm56_0_9_0 rm cy g_now), (wi_rm43_0_8_0 rm cy g_bar), (wi_rm65_0_12_0 rm cy g_waits), (wi_rm44_0_24_0 rm cy g_kinds), (wi_rm61_0_300_0 rm cy g_gaps), (wi_rm66_3_12_0 rm cy g_goes), (wi_rm67_3_12_0 rm cy g_harms)] (k_Ql dC dI (fun (r : Int64) (u : Int32 × (Nat → Int64)) => match u with | (n0, n1) => ib n0 0 1600 ∧ (F_X10_codesTell_a0_0 (Int32.toInt x_askSecond) (Int32.toInt x_redMany) (lf_A g_bar) (lf_A g_kinds) (lf_A g_walkers) (lf_A g_codeFrom) (lf_A g_codeEnd) (lf_A g_codes) (lf_A g_now) (lf_A g_gaps) (lf_A g_waits) (lf_A g_goes) (lf_A g_harms) (lf_L g_qPile) (Int32.toInt p1) = ((Int64.toInt r), (Int32.toInt n0), (lf_L n1)))) (fun u : Int32 × (Nat → Int64) => match u with | (n0, n1) => [(a_this, .inr (10, mfs rm x_taped x_at x_end x_ended x_bad x_badPlace x_fault x_faultPlace x_namePlace x_awayTold x_away x_coded x_statements x_isCrossing 0 x_askSecond x_redMany x_isOpen x_lastGreen x_greenTo x_isCycleGreen x_stillGreen x_rowMany x_fitMany x_fitRules x_fitGreen x_undoable x_newest x_seeded x_qCoded x_qWaits x_qOpened x_qBase n0 x_qAnswer x_qIsNew x_octets)), (wi_rm49_0_6_0 rm cy g_codeFrom), (wi_rm50_0_6_0 rm cy g_codeEnd), (wi_rm116_1_1700_1 rm cy n1), (wi_rm51_0_3200_0 rm cy g_codes), (wi_rm46_0_48_0 rm cy g_walkers), (wi_rm56_0_9_0 rm cy g_now), (wi_rm43_0_8_0 rm cy g_bar), (wi_rm65_0_12_0 rm cy g_waits), (wi_rm44_0_24_0 rm cy g_kinds), (wi_rm61_0_300_0 rm cy g_gaps), (wi_rm66_3_12_0 rm cy g_goes), (wi_rm67_3_12_0 rm cy g_harms)])) := by
  refine k_ofW2 (by decide +kernel) (Nat.le_of_ble_eq_true rfl) ?_
  intro p e s m below meth c A ls H locs args Q hQ C0 hZ hr hlk hin hP hD hA hS hl
  have C0 : k_cx p s m args c cX10_codesTell 5 RX10 dC dI cy sq := C0
  have hx := C0.1
  have hb := C0.2.1
  have hl : lv_has ls 5 [(0, .ref a_this), (1, .int 0), (2, .int p1)] := hl
  obtain ⟨O, hO⟩ : ∃ o, o = F_X10_codesTell_a0_0 (Int32.toInt x_askSecond) (Int32.toInt x_redMany) (lf_A g_bar) (lf_A g_kinds) (lf_A g_walkers) (lf_A g_codeFrom) (lf_A g_codeEnd) (lf_A g_codes) (lf_A g_now) (lf_A g_gaps) (lf_A g_waits) (lf_A g_goes) (lf_A g_harms) (lf_L g_qPile) (Int32.toInt p1) := ⟨_, rfl⟩
  have hq := hO
  unfold F_X10_codesTell_a0_0 at hq
  have jn19 : ∀ (n : Nat) (J19_l3 : Int32) (J19_c0_117 : Int32) (J19_a3 : Nat → Int64) (H : Heap) (locs : List Loc) (ls : Array Slot), ib J19_l3 0 1600 → ib J19_c0_117 0 1600 → (1 * J19_c0_117.toInt + (-1) * J19_l3.toInt ≤ 0) → (O = F_X10_codesTell_a0_0_19 (Int32.toInt x_askSecond) (Int32.toInt x_redMany) (lf_A g_bar) (lf_A g_kinds) (lf_A g_walkers) (lf_A g_codeEnd) (lf_A g_codes) (lf_A g_now) (lf_A g_gaps) (lf_A g_waits) (lf_A g_goes) (lf_A g_harms) (Int32.toInt p1) n (Int32.toInt J19_l3) (Int32.toInt J19_c0_117) (lf_L J19_a3)) → (cdl g_codes 1600 (g_codeFrom 3) J19_l3 J19_c0_117) → 1601 ≤ J19_l3.toInt + (n : Int) → va_P (dC, dI) vwCl [(a_this, .inr (10, mfs rm x_taped x_at x_end x_ended x_bad x_badPlace x_fault x_faultPlace x_namePlace x_awayTold x_away x_coded x_statements x_isCrossing 0 x_askSecond x_redMany x_isOpen x_lastGreen x_greenTo x_isCycleGreen x_stillGreen x_rowMany x_fitMany x_fitRules x_fitGreen x_undoable x_newest x_seeded x_qCoded x_qWaits x_qOpened x_qBase J19_c0_117 x_qAnswer x_qIsNew x_octets)), (wi_rm49_0_6_0 rm cy g_codeFrom), (wi_rm50_0_6_0 rm cy g_codeEnd), (wi_rm116_1_1700_1 rm cy J19_a3), (wi_rm51_0_3200_0 rm cy g_codes), (wi_rm46_0_48_0 rm cy g_walkers), (wi_rm56_0_9_0 rm cy g_now), (wi_rm43_0_8_0 rm cy g_bar), (wi_rm65_0_12_0 rm cy g_waits), (wi_rm44_0_24_0 rm cy g_kinds), (wi_rm61_0_300_0 rm cy g_gaps), (wi_rm66_3_12_0 rm cy g_goes), (wi_rm67_3_12_0 rm cy g_harms)] H → va_D A [(a_this, .inr (10, mfs rm x_taped x_at x_end x_ended x_bad x_badPlace x_fault x_faultPlace x_namePlace x_awayTold x_away x_coded x_statements x_isCrossing 0 x_askSecond x_redMany x_isOpen x_lastGreen x_greenTo x_isCycleGreen x_stillGreen x_rowMany x_fitMany x_fitRules x_fitGreen x_undoable x_newest x_seeded x_qCoded x_qWaits x_qOpened x_qBase J19_c0_117 x_qAnswer x_qIsNew x_octets)), (wi_rm49_0_6_0 rm cy g_codeFrom), (wi_rm50_0_6_0 rm cy g_codeEnd), (wi_rm116_1_1700_1 rm cy J19_a3), (wi_rm51_0_3200_0 rm cy g_codes), (wi_rm46_0_48_0 rm cy g_walkers), (wi_rm56_0_9_0 rm cy g_now), (wi_rm43_0_8_0 rm cy g_bar), (wi_rm65_0_12_0 rm cy g_waits), (wi_rm44_0_24_0 rm cy g_kinds), (wi_rm61_0_300_0 rm cy g_gaps), (wi_rm66_3_12_0 rm cy g_goes), (wi_rm67_3_12_0 rm cy g_harms)] → va_S A s.heap H locs → lv_has ls 5 [(0, .ref a_this), (1, .int 0), (2, .int p1), (3, .int J19_l3)] → W p l e { frames := 3, cells := 0, slots := 0, locals := 64 } s m args below meth c H locs 0 0 Q (F0 m 19 ls []) := by
    as_aux_lemma =>
      intro n
      induction n with
      | zero =>
        intro J19_l3 J19_c0_117 J19_a3 H locs ls hJ19_l3 hJ19_c0_117 hJ19_lin0 hq hJ19_gh hm
        exact absurd hm (by have := hJ19_l3; unfold ib at this; omega)
      | succ n ih =>
        intro J19_l3 J19_c0_117 J19_a3 H locs ls hJ19_l3 hJ19_c0_117 hJ19_lin0 hq hJ19_gh hm19 hP hD hS hl
        have ih19 := ih
        obtain ⟨K19, hK19⟩ : ∃ K, K = F_X10_codesTell_a0_0_19 (Int32.toInt x_askSecond) (Int32.toInt x_redMany) (lf_A g_bar) (lf_A g_kinds) (lf_A g_walkers) (lf_A g_codeEnd) (lf_A g_codes) (lf_A g_now) (lf_A g_gaps) (lf_A g_waits) (lf_A g_goes) (lf_A g_harms) (Int32.toInt p1) n := ⟨_, rfl⟩
        have hq : O = F_X10_codesTell_a0_0_19b (Int32.toInt x_askSecond) (Int32.toInt x_redMany) (lf_A g_bar) (lf_A g_kinds) (lf_A g_walkers) (lf_A g_codeEnd) (lf_A g_codes) (lf_A g_now) (lf_A g_gaps) (lf_A g_waits) (lf_A g_goes) (lf_A g_harms) (Int32.toInt p1) K19 (Int32.toInt J19_l3) (Int32.toInt J19_c0_117) (lf_L J19_a3) := by rw [hK19]; exact hq
        unfold F_X10_codesTell_a0_0_19b at hq
        have jn144 : ∀ (J144_l4 : Int32) (J144_c0_117 : Int32) (J144_a3 : Nat → Int64) (H : Heap) (locs : List Loc) (ls : Array Slot), ib J19_l3 0 1599 → ib J144_c0_117 1 1600 → ib (g_codeEnd 3) 1 1600 → (1 * J144_c0_117.toInt + (-1) * J19_l3.toInt ≤ 1) → (O = F_X10_codesTell_a0_0_144 (Int32.toInt J19_l3) K19 (Int32.toInt J144_l4) (Int32.toInt J144_c0_117) (lf_L J144_a3)) → (cdm g_codes 1600 (g_codeFrom 3) J19_l3 J144_c0_117) → va_P (dC, dI) vwCl [(a_this, .inr (10, mfs rm x_taped x_at x_end x_ended x_bad x_badPlace x_fault x_faultPlace x_namePlace x_awayTold x_away x_coded x_statements x_isCrossing 0 x_askSecond x_redMany x_isOpen x_lastGreen x_greenTo x_isCycleGreen x_stillGreen x_rowMany x_fitMany x_fitRules x_fitGreen x_undoable x_newest x_seeded x_qCoded x_qWaits x_qOpened x_qBase J144_c0_117 x_qAnswer x_qIsNew x_octets)), (wi_rm49_0_6_0 rm cy g_codeFrom), (wi_rm50_0_6_0 rm cy g_codeEnd), (wi_rm116_1_1700_1 rm cy J144_a3), (wi_rm51_0_3200_0 rm cy g_codes), (wi_rm46_0_48_0 rm cy g_walkers), (wi_rm56_0_9_0 rm cy g_now), (wi_rm43_0_8_0 rm cy g_bar), (wi_rm65_0_12_0 rm cy g_waits), (wi_rm44_0_24_0 rm cy g_kinds), (wi_rm61_0_300_0 rm cy g_gaps), (wi_rm66_3_12_0 rm cy g_goes), (wi_rm67_3_12_0 rm cy g_harms)] H → va_D A [(a_this, .inr (10, mfs rm x_taped x_at x_end x_ended x_bad x_badPlace x_fault x_faultPlace x_namePlace x_awayTold x_away x_coded x_statements x_isCrossing 0 x_askSecond x_redMany x_isOpen x_lastGreen x_greenTo x_isCycleGreen x_stillGreen x_rowMany x_fitMany x_fitRules x_fitGreen x_undoable x_newest x_seeded x_qCoded x_qWaits x_qOpened x_qBase J144_c0_117 x_qAnswer x_qIsNew x_octets)), (wi_rm49_0_6_0 rm cy g_codeFrom), (wi_rm50_0_6_0 rm cy g_codeEnd), (wi_rm116_1_1700_1 rm cy J144_a3), (wi_rm51_0_3200_0 rm cy g_codes), (wi_rm46_0_48_0 rm cy g_walkers), (wi_rm56_0_9_0 rm cy g_now), (wi_rm43_0_8_0 rm cy g_bar), (wi_rm65_0_12_0 rm cy g_waits), (wi_rm44_0_24_0 rm cy g_kinds), (wi_rm61_0_300_0 rm cy g_gaps), (wi_rm66_3_12_0 rm cy g_goes), (wi_rm67_3_12_0 rm cy g_harms)] → va_S A s.heap H locs → lv_has ls 5 [(0, .ref a_this), (1, .int 0), (2, .int p1), (3, .int J19_l3), (4, .int J144_l4)] → W p l e { frames := 3, cells := 0, slots := 0, locals := 64 } s m args below meth c H locs 0 0 Q (F0 m 144 ls []) := by
          intro J144_l4 J144_c0_117 J144_a3 H locs ls hK144_J19_l3 hJ144_c0_117 hJ144_a2_3 hJ144_lin0 hq hJ144_gh hP hD hS hl
          unfold F_X10_codesTell_a0_0_144 at hq
          obtain ⟨z1, ez1⟩ : ∃ y : Int32, y = J19_l3 + 1 := ⟨_, rfl⟩
          refine lv_iinc (v := z1) (lv' := [(3, .int z1), (0, .ref a_this), (1, .int 0), (2, .int p1), (4, .int J144_l4)]) hx hb dX10_codesTell_144 hl (k := 3) rfl (by rw [ez1]; rfl) (Nat.le_of_ble_eq_true rfl) rfl (fun ls hl => ?_)
          have h2 := ib_add hK144_J19_l3 (ib_c 1 1 1 rfl) rfl
          rw [← ez1] at h2
          have h3 : ib z1 1 1600 := ib_w 1 1600 h2.1 rfl
          have Ez1 := lf_add h2.2 (lf_rf J19_l3) (lf_lc 1 (1 : Int) rfl)
          refine lv_goto (tgt := 19) hx hb dX10_codesTell_147 rfl ?_
          exact ih19 z1 J144_c0_117 J144_a3 H locs ls (ib_w 0 1600 h3 rfl) (ib_w 0 1600 hJ144_c0_117 rfl) (by have := h2.2; have : (1 : Int32).toInt = 1 := rfl; have := hJ144_lin0; omega) (by rw [← hK19]; rw [lf_u Ez1]; exact hq) (cdl_next hJ144_gh (hg_codeFrom_3).1 h2.2) (by have := h2.2; have : (1 : Int32).toInt = 1 := rfl; omega) hP hD hS (lv_sub hl [1, 2, 3, 0] rfl)
        refine lv_iload_n hx hb dX10_codesTell_19 rfl (lv_at hl 3 rfl) ?_
        refine lv_aload_n hx hb dX10_codesTell_20 rfl (lv_at hl 0 rfl) ?_
        refine k_get C0 fg_X10_133 hP 0 rfl rfl dX10_codesTell_21 ?_
        refine lv_iconst (v := 3) hx hb dX10_codesTell_24 rfl ?_
        refine lv_iload_n hx hb dX10_codesTell_25 rfl (lv_at hl 1 rfl) ?_
        refine lv_iadd hx hb dX10_codesTell_26 ?_
        refine k_topi (y := 3) (by decide) ?_
        refine va_iald hx hb C0.2.2.2.2.2.1 hP 2 0 rfl rfl (k_in 3 6 rfl) dX10_codesTell_27 ?_
        refine k_topi (y := g_codeEnd 3) rfl ?_
        refine lv_icmp_ge (tgt := 150) hx hb dX10_codesTell_28 rfl (fun c4 => ?_) (fun c4 => ?_)
        · replace hq := lf_pos hq (lf_le (lf_pt (lf_ra g_codeEnd) 3) (lf_rf J19_l3) c4)
          have h5 := ib_le hg_codeEnd_3 hJ19_l3 c4
          refine lv_aload_n hx hb dX10_codesTell_150 rfl (lv_at hl 0 rfl) ?_
          refine k_get C0 fg_X10_270 hP 0 rfl rfl dX10_codesTell_151 ?_
          refine lv_iconst (v := 0) hx hb dX10_codesTell_154 rfl ?_
          refine va_lald hx hb C0.2.2.2.2.2.1 hP 3 1 rfl rfl (k_in 0 1700 rfl) dX10_codesTell_155 ?_
          refine lv_topl (fun z6 ez6 => ?_)
          have Ez6 := lf_ldl ez6 (lf_raL J19_a3) (lf_lc 0 (0 : Int) rfl)
          subst hQ; exact k_lret hx hb hr hlk ((J19_c0_117, J19_a3)) hS ⟨ib_w 0 1600 hJ19_c0_117 rfl, (hO.symm.trans (by rw [lf_ul Ez6]; exact hq))⟩ hP hD (Nat.le_of_ble_eq_true rfl) (Nat.le_of_ble_eq_true rfl) dX10_codesTell_156
        · as_aux_lemma =>
            replace hq := lf_neg hq (lf_nle (lf_pt (lf_ra g_codeEnd) 3) (lf_rf J19_l3) c4)
            have h7 := ib_nle hg_codeEnd_3 hJ19_l3 c4
            have h8 : ib (g_codeEnd 3) 1 1600 := ib_w 1 1600 h7.1 rfl
            have h9 : ib J19_l3 0 1599 := ib_w 0 1599 h7.2 rfl
            have h10 : ib J19_c0_117 0 1599 := ⟨(hJ19_c0_117).1, by have := (hJ19_c0_117).2; have := hJ19_lin0; have := (h9).2; omega⟩
            refine lv_aload_n hx hb dX10_codesTell_31 rfl (lv_at hl 0 rfl) ?_
            refine k_get C0 fg_X10_136 hP 0 rfl rfl dX10_codesTell_32 ?_
            refine lv_sipush (v := 1600) hx hb dX10_codesTell_35 rfl ?_
            refine lv_iload_n hx hb dX10_codesTell_38 rfl (lv_at hl 3 rfl) ?_
            refine lv_iadd hx hb dX10_codesTell_39 ?_
            refine lv_topi (fun z11 ez11 => ?_)
            have h12 := ib_add (ib_c 1600 1600 1600 rfl) h9 rfl
            rw [← ez11] at h12
            have h13 : ib z11 1600 3199 := ib_w 1600 3199 h12.1 rfl
            have Ez11 := lf_add h12.2 (lf_lc 1600 (1600 : Int) rfl) (lf_rf J19_l3)
            refine va_iald hx hb C0.2.2.2.2.2.1 hP 4 0 rfl rfl (ib_in 3200 h13 rfl) dX10_codesTell_40 ?_
            refine lv_topi (fun z14 ez14 => ?_)
            have Ez14 := lf_ld ez14 (lf_ra g_codes) Ez11
            refine lv_istore (lv' := [(4, .int z14), (0, .ref a_this), (1, .int 0), (2, .int p1), (3, .int J19_l3)]) hx hb dX10_codesTell_41 hl (Nat.le_of_ble_eq_true rfl) rfl (fun ls hl => ?_)
            refine lv_iload hx hb dX10_codesTell_43 (lv_at hl 0 rfl) ?_
            refine lv_sipush (v := 1000) hx hb dX10_codesTell_45 rfl ?_
            refine lv_icmp_lt (tgt := 65) hx hb dX10_codesTell_48 rfl (fun c15 => ?_) (fun c15 => ?_)
            · as_aux_lemma =>
                replace hq := lf_pos hq (lf_lt Ez14 (lf_lc 1000 (1000 : Int) rfl) c15)
                have h16 := ib_lt (ib_any z14) (ib_c 1000 1000 1000 rfl) c15
                have h17 : ib z14 (-2147483648) 999 := ib_w (-2147483648) 999 h16.1 rfl
                refine lv_iload hx hb dX10_codesTell_65 (lv_at hl 0 rfl) ?_
                refine lv_bipush (v := 40) hx hb dX10_codesTell_67 rfl ?_
                refine lv_icmp_lt (tgt := 89) hx hb dX10_codesTell_69 rfl (fun c18 => ?_) (fun c18 => ?_)
                · as_aux_lemma =>
                    replace hq := lf_pos hq (lf_lt Ez14 (lf_lc 40 (40 : Int) rfl) c18)
                    have h19 := ib_lt h17 (ib_c 40 40 40 rfl) c18
                    have h20 : ib z14 (-2147483648) 39 := ib_w (-2147483648) 39 h19.1 rfl
                    refine lv_iload hx hb dX10_codesTell_89 (lv_at hl 0 rfl) ?_
                    refine lv_bipush (v := 13) hx hb dX10_codesTell_91 rfl ?_
                    refine lv_icmp_ne (tgt := 104) hx hb dX10_codesTell_93 rfl (fun c21 => ?_) (fun c21 => ?_)
                    · as_aux_lemma =>
                        replace hq := lf_neg hq (lf_ne Ez14 (lf_lc 13 (13 : Int) rfl) c21)
                        refine lv_iload hx hb dX10_codesTell_104 (lv_at hl 0 rfl) ?_
                        refine lv_bipush (v := 12) hx hb dX10_codesTell_106 rfl ?_
                        refine lv_icmp_ne (tgt := 138) hx hb dX10_codesTell_108 rfl (fun c22 => ?_) (fun c22 => ?_)
                        · replace hq := lf_neg hq (lf_ne Ez14 (lf_lc 12 (12 : Int) rfl) c22)
                          have h23 : ib J19_c0_117 2 1599 := ⟨cdl_ge2 (z := z14) (hG0 (ib_nc (-1) hg_codeFrom_3 rfl)) hJ19_gh (hg_codeFrom_3).1 (by have := (h8).1; have := (h8).2; have := (h9).1; have := (h9).2; have := hJ19_lin0; have := (h10).1; have := (h10).2; have := mt Int32.le_iff_toInt_le.mpr c4; omega) (by rw [ez14]; congr 1; show 1600 + (Int32.toInt J19_l3).toNat = (Int32.toInt z11).toNat; have := (h9).1; have := (h9).2; have := hJ19_lin0; have := (h10).1; have := (h10).2; have := (h13).1; have := (h13).2; have := h12.2; have : (1600 : Int32).toInt = 1600 := rfl; omega) (by have := (h20).2; omega) c21 c22, (h10).2⟩
                          refine lv_aload_n hx hb dX10_codesTell_138 rfl (lv_at hl 1 rfl) ?_
                          refine lv_iload hx hb dX10_codesTell_139 (lv_at hl 0 rfl) ?_
                          refine k_jvm hP hD hS hA [0, 3] [false, true, true, false, true, true, true, true, true, true, true, true, true] rfl rfl (by decide +kernel) 0 0 (Nat.le_of_ble_eq_true rfl) (Nat.le_of_ble_eq_true rfl) (fun hPc hDc => k_runV (As := [.int z14]) (rest := []) C0 hZ hS hA (s_X10_qJoins l dC dI cy sq a_this rm x_taped x_at x_end x_ended x_bad x_badPlace x_fault x_faultPlace x_namePlace x_awayTold x_away x_coded x_statements x_isCrossing 0 x_askSecond x_redMany x_isOpen x_lastGreen x_greenTo x_isCycleGreen x_stillGreen x_rowMany x_fitMany x_fitRules x_fitGreen x_undoable x_newest x_seeded x_qCoded x_qWaits x_qOpened x_qBase J19_c0_117 x_qAnswer x_qIsNew x_octets J19_a3 z14 (ib_w 2 1700 h23 rfl)) mV_X10_451 hPc hDc rfl rfl rfl hl rfl rfl (Nat.le_of_ble_eq_true rfl) ⟨(Nat.le_of_ble_eq_true rfl), (Nat.le_of_ble_eq_true rfl)⟩ ⟨(Nat.le_of_ble_eq_true rfl), (Nat.le_of_ble_eq_true rfl)⟩ dX10_codesTell_141) (fun u25 H locs hw hP hD hS => ?_)
                          obtain ⟨v26, f27⟩ := u25
                          try dsimp only at hP hD hw
                          replace hP : va_P (dC, dI) vwCl [(wi_rm49_0_6_0 rm cy g_codeFrom), (wi_rm50_0_6_0 rm cy g_codeEnd), (wi_rm51_0_3200_0 rm cy g_codes), (wi_rm46_0_48_0 rm cy g_walkers), (wi_rm56_0_9_0 rm cy g_now), (wi_rm43_0_8_0 rm cy g_bar), (wi_rm65_0_12_0 rm cy g_waits), (wi_rm44_0_24_0 rm cy g_kinds), (wi_rm61_0_300_0 rm cy g_gaps), (wi_rm66_3_12_0 rm cy g_goes), (wi_rm67_3_12_0 rm cy g_harms), (a_this, .inr (10, mfs rm x_taped x_at x_end x_ended x_bad x_badPlace x_fault x_faultPlace x_namePlace x_awayTold x_away x_coded x_statements x_isCrossing 0 x_askSecond x_redMany x_isOpen x_lastGreen x_greenTo x_isCycleGreen x_stillGreen x_rowMany x_fitMany x_fitRules x_fitGreen x_undoable x_newest x_seeded x_qCoded x_qWaits x_qOpened x_qBase v26 x_qAnswer x_qIsNew x_octets)), (wi_rm116_1_1700_1 rm cy f27)] H := hP
                          replace hD := k_D hP hD
                          obtain ⟨h28, h29, h30⟩ := hw
                          have h31 : v26.toInt = (J19_c0_117 : Int32).toInt + ((-1) : Int32).toInt := by have q1 := h29; have q2 : ((-1) : Int32).toInt = (-1) := rfl; omega
                          have h32 : ib v26 1 1598 := ⟨by have q1 := h29; have := (h23).1; have := (h28).1; omega, by have q1 := h29; have := (h23).2; have := (h28).2; omega⟩
                          have h30 := by have h9 := h30; rw [lf_u Ez14] at h9; exact h9
                          replace hq := lf_p1 hq h30
                          exact jn144 z14 v26 f27 H locs ls (ib_w 0 1599 h9 rfl) (ib_w 1 1600 h32 rfl) (ib_w 1 1600 h8 rfl) (by have := hJ19_lin0; have := h31; have : ((-1) : Int32).toInt = (-1) := rfl; omega) (by rw [lf_u Ez14]; exact hq) (cdm_join (z := z14) (hG0 (ib_nc (-1) hg_codeFrom_3 rfl)) hJ19_gh (hg_codeFrom_3).1 (by have := (h8).1; have := (h8).2; have := (h9).1; have := (h9).2; have := hJ19_lin0; have := (h23).1; have := (h23).2; have := mt Int32.le_iff_toInt_le.mpr c4; omega) (by rw [ez14]; congr 1; show 1600 + (Int32.toInt J19_l3).toNat = (Int32.toInt z11).toNat; have := (h9).1; have := (h9).2; have := hJ19_lin0; have := (h23).1; have := (h23).2; have := (h13).1; have := (h13).2; have := h12.2; have : (1600 : Int32).toInt = 1600 := rfl; omega) (by have := (h20).2; omega) c21 c22 (by have := (h23).1; have := (h23).2; have := hJ19_lin0; have := (h9).1; have := (h9).2; have := (h32).1; have := (h32).2; have := h31; have : ((-1) : Int32).toInt = (-1) := rfl; omega)) (hP.sub [11, 0, 1, 12, 2, 3, 4, 5, 6, 7, 8, 9, 10] rfl) (hD.sub [11, 0, 1, 12, 2, 3, 4, 5, 6, 7, 8, 9, 10] (by decide +kernel) rfl) hS (lv_sub hl [1, 2, 3, 4, 0] rfl)
                        · as_aux_lemma =>
                            replace hq := lf_pos hq (lf_eq Ez14 (lf_lc 12 (12 : Int) rfl) c22)
                            have h33 := ib_eq h20 (ib_c 12 12 12 rfl) c22
                            have h34 : ib z14 12 12 := ib_w 12 12 h33.1 rfl
                            have h35 : ib J19_c0_117 1 1599 := ⟨cdl_ge1 (z := z14) (hG0 (ib_nc (-1) hg_codeFrom_3 rfl)) hJ19_gh (hg_codeFrom_3).1 (by have := (h8).1; have := (h8).2; have := (h9).1; have := (h9).2; have := hJ19_lin0; have := (h10).1; have := (h10).2; have := mt Int32.le_iff_toInt_le.mpr c4; omega) (by rw [ez14]; congr 1; show 1600 + (Int32.toInt J19_l3).toNat = (Int32.toInt z11).toNat; have := (h9).1; have := (h9).2; have := hJ19_lin0; have := (h10).1; have := (h10).2; have := (h13).1; have := (h13).2; have := h12.2; have : (1600 : Int32).toInt = 1600 := rfl; omega) (Or.inl (ib_one h34 rfl)), (h10).2⟩
                            refine lv_aload_n hx hb dX10_codesTell_111 rfl (lv_at hl 1 rfl) ?_
                            refine k_get C0 fg_X10_270 hP 0 rfl rfl dX10_codesTell_112 ?_
                            refine lv_aload_n hx hb dX10_codesTell_115 rfl (lv_at hl 1 rfl) ?_
                            refine k_get C0 fg_X10_440 hP 0 rfl rfl dX10_codesTell_116 ?_
                            refine lv_iconst (v := 1) hx hb dX10_codesTell_119 rfl ?_
                            refine lv_isub hx hb dX10_codesTell_120 ?_
                            refine lv_topi (fun z36 ez36 => ?_)
                            have h37 := ib_sub h35 (ib_c 1 1 1 rfl) rfl
                            rw [← ez36] at h37
                            have h38 : ib z36 0 1598 := ib_w 0 1598 h37.1 rfl
                            have Ez36 := lf_sub h37.2 (lf_rf J19_c0_117) (lf_lc 1 (1 : Int) rfl)
                            refine lv_lconst (v := 1) hx hb dX10_codesTell_121 (by decide) ?_
                            refine lv_aload_n hx hb dX10_codesTell_122 rfl (lv_at hl 1 rfl) ?_
                            refine k_get C0 fg_X10_270 hP 0 rfl rfl dX10_codesTell_123 ?_
                            refine lv_aload_n hx hb dX10_codesTell_126 rfl (lv_at hl 1 rfl) ?_
                            refine k_get C0 fg_X10_440 hP 0 rfl rfl dX10_codesTell_127 ?_
                            refine lv_iconst (v := 1) hx hb dX10_codesTell_130 rfl ?_
                            refine lv_isub hx hb dX10_codesTell_131 ?_
                            refine lv_topi (fun z39 ez39 => ?_)
                            obtain rfl : z36 = z39 := ez36.trans ez39.symm
                            refine va_lald hx hb C0.2.2.2.2.2.1 hP 3 1 rfl rfl (ib_in 1700 h38 rfl) dX10_codesTell_132 ?_
                            refine lv_topl (fun z40 ez40 => ?_)
                            have Ez40 := lf_ldl ez40 (lf_raL J19_a3) Ez36
                            refine lv_lsub hx hb dX10_codesTell_133 ?_
                            refine lv_topl (fun z41 ez41 => ?_)
                            have Ez41 := lf_opl lf_lsub ez41 (lf_ll 1 (1 : Int) rfl) Ez40
                            refine va_last hx hb C0.2.2.2.2.2.1 hP hD hS 3 1 rfl rfl (ib_in 1700 h38 rfl) dX10_codesTell_134 (fun H locs hP hD hS => ?_)
                            replace hP : va_P (dC, dI) vwCl [(a_this, .inr (10, mfs rm x_taped x_at x_end x_ended x_bad x_badPlace x_fault x_faultPlace x_namePlace x_awayTold x_away x_coded x_statements x_isCrossing 0 x_askSecond x_redMany x_isOpen x_lastGreen x_greenTo x_isCycleGreen x_stillGreen x_rowMany x_fitMany x_fitRules x_fitGreen x_undoable x_newest x_seeded x_qCoded x_qWaits x_qOpened x_qBase J19_c0_117 x_qAnswer x_qIsNew x_octets)), (wi_rm49_0_6_0 rm cy g_codeFrom), (wi_rm50_0_6_0 rm cy g_codeEnd), (wi_rm116_1_1700_1 rm cy (vp_updL J19_a3 (Int32.toNatClampNeg z36) z41)), (wi_rm51_0_3200_0 rm cy g_codes), (wi_rm46_0_48_0 rm cy g_walkers), (wi_rm56_0_9_0 rm cy g_now), (wi_rm43_0_8_0 rm cy g_bar), (wi_rm65_0_12_0 rm cy g_waits), (wi_rm44_0_24_0 rm cy g_kinds), (wi_rm61_0_300_0 rm cy g_gaps), (wi_rm66_3_12_0 rm cy g_goes), (wi_rm67_3_12_0 rm cy g_harms)] H := hP
                            replace hD := k_D hP hD
                            generalize ef42 : vp_updL J19_a3 (Int32.toNatClampNeg z36) z41 = f42 at hP hD
                            have Ef42 := lf_stL ef42 (lf_raL J19_a3) Ez36 Ez41
                            refine lv_goto (tgt := 144) hx hb dX10_codesTell_135 rfl ?_
                            exact jn144 z14 J19_c0_117 f42 H locs ls (ib_w 0 1599 h9 rfl) (ib_w 1 1600 h35 rfl) (ib_w 1 1600 h8 rfl) (by have := hJ19_lin0; omega) (by rw [lf_u Ez14]; rw [lf_uaL Ef42]; exact hq) (cdm_same (z := z14) (hG0 (ib_nc (-1) hg_codeFrom_3 rfl)) hJ19_gh (hg_codeFrom_3).1 (by have := (h8).1; have := (h8).2; have := (h9).1; have := (h9).2; have := hJ19_lin0; have := (h35).1; have := (h35).2; have := mt Int32.le_iff_toInt_le.mpr c4; omega) (by rw [ez14]; congr 1; show 1600 + (Int32.toInt J19_l3).toNat = (Int32.toInt z11).toNat; have := (h9).1; have := (h9).2; have := hJ19_lin0; have := (h35).1; have := (h35).2; have := (h13).1; have := (h13).2; have := h12.2; have : (1600 : Int32).toInt = 1600 := rfl; omega) (Or.inl (ib_one h34 rfl))) hP hD hS (lv_sub hl [1, 2, 3, 4, 0] rfl)
                    · replace hq := lf_pos hq (lf_eq Ez14 (lf_lc 13 (13 : Int) rfl) c21)
                      have h43 := ib_eq h20 (ib_c 13 13 13 rfl) c21
                      have h44 : ib z14 13 13 := ib_w 13 13 h43.1 rfl
                      refine lv_aload_n hx hb dX10_codesTell_96 rfl (lv_at hl 1 rfl) ?_
                      refine lv_lconst (v := 1) hx hb dX10_codesTell_97 (by decide) ?_
                      refine k_jvm hP hD hS hA [0, 3] [false, true, true, false, true, true, true, true, true, true, true, true, true] rfl rfl (by decide +kernel) 0 0 (Nat.le_of_ble_eq_true rfl) (Nat.le_of_ble_eq_true rfl) (fun hPc hDc => k_runV (As := [.long 1]) (rest := []) C0 hZ hS hA (s_X10_qPuts l dC dI cy sq a_this rm x_taped x_at x_end x_ended x_bad x_badPlace x_fault x_faultPlace x_namePlace x_awayTold x_away x_coded x_statements x_isCrossing 0 x_askSecond x_redMany x_isOpen x_lastGreen x_greenTo x_isCycleGreen x_stillGreen x_rowMany x_fitMany x_fitRules x_fitGreen x_undoable x_newest x_seeded x_qCoded x_qWaits x_qOpened x_qBase J19_c0_117 x_qAnswer x_qIsNew x_octets J19_a3 1 (ib_w 0 1699 h10 rfl)) mV_X10_443 hPc hDc rfl rfl rfl hl rfl rfl (Nat.le_of_ble_eq_true rfl) ⟨(Nat.le_of_ble_eq_true rfl), (Nat.le_of_ble_eq_true rfl)⟩ ⟨(Nat.le_of_ble_eq_true rfl), (Nat.le_of_ble_eq_true rfl)⟩ dX10_codesTell_98) (fun u46 H locs hw hP hD hS => ?_)
                      obtain ⟨v47, f48⟩ := u46
                      try dsimp only at hP hD hw
                      replace hP : va_P (dC, dI) vwCl [(wi_rm49_0_6_0 rm cy g_codeFrom), (wi_rm50_0_6_0 rm cy g_codeEnd), (wi_rm51_0_3200_0 rm cy g_codes), (wi_rm46_0_48_0 rm cy g_walkers), (wi_rm56_0_9_0 rm cy g_now), (wi_rm43_0_8_0 rm cy g_bar), (wi_rm65_0_12_0 rm cy g_waits), (wi_rm44_0_24_0 rm cy g_kinds), (wi_rm61_0_300_0 rm cy g_gaps), (wi_rm66_3_12_0 rm cy g_goes), (wi_rm67_3_12_0 rm cy g_harms), (a_this, .inr (10, mfs rm x_taped x_at x_end x_ended x_bad x_badPlace x_fault x_faultPlace x_namePlace x_awayTold x_away x_coded x_statements x_isCrossing 0 x_askSecond x_redMany x_isOpen x_lastGreen x_greenTo x_isCycleGreen x_stillGreen x_rowMany x_fitMany x_fitRules x_fitGreen x_undoable x_newest x_seeded x_qCoded x_qWaits x_qOpened x_qBase v47 x_qAnswer x_qIsNew x_octets)), (wi_rm116_1_1700_1 rm cy f48)] H := hP
                      replace hD := k_D hP hD
                      obtain ⟨h49, h50, h51⟩ := hw
                      have h52 : v47.toInt = (J19_c0_117 : Int32).toInt + (1 : Int32).toInt := by have q1 := h50; have q2 : (1 : Int32).toInt = 1 := rfl; omega
                      have h53 : ib v47 1 1600 := ⟨by have q1 := h50; have := (h10).1; have := (h49).1; omega, by have q1 := h50; have := (h10).2; have := (h49).2; omega⟩
                      have h51 := by have h9 := h51; try simp only [show (1 : Int64).toInt = (1 : Int) from rfl] at h9; exact h9
                      replace hq := lf_p1 hq h51
                      refine lv_goto (tgt := 144) hx hb dX10_codesTell_101 rfl ?_
                      exact jn144 z14 v47 f48 H locs ls (ib_w 0 1599 h9 rfl) (ib_w 1 1600 h53 rfl) (ib_w 1 1600 h8 rfl) (by have := hJ19_lin0; have := h52; have : (1 : Int32).toInt = 1 := rfl; omega) (by rw [lf_u Ez14]; exact hq) (cdm_push (z := z14) (hG0 (ib_nc (-1) hg_codeFrom_3 rfl)) hJ19_gh (hg_codeFrom_3).1 (by have := (h8).1; have := (h8).2; have := (h9).1; have := (h9).2; have := hJ19_lin0; have := (h10).1; have := (h10).2; have := mt Int32.le_iff_toInt_le.mpr c4; omega) (by rw [ez14]; congr 1; show 1600 + (Int32.toInt J19_l3).toNat = (Int32.toInt z11).toNat; have := (h9).1; have := (h9).2; have := hJ19_lin0; have := (h10).1; have := (h10).2; have := (h13).1; have := (h13).2; have := h12.2; have : (1600 : Int32).toInt = 1600 := rfl; omega) (Or.inr (ib_one h44 rfl)) (by have := (h10).1; have := (h10).2; have := hJ19_lin0; have := (h9).1; have := (h9).2; have := (h53).1; have := (h53).2; have := h52; have : (1 : Int32).toInt = 1 := rfl; omega)) (hP.sub [11, 0, 1, 12, 2, 3, 4, 5, 6, 7, 8, 9, 10] rfl) (hD.sub [11, 0, 1, 12, 2, 3, 4, 5, 6, 7, 8, 9, 10] (by decide +kernel) rfl) hS (lv_sub hl [1, 2, 3, 4, 0] rfl)
                · as_aux_lemma =>
                    replace hq := lf_neg hq (lf_nlt Ez14 (lf_lc 40 (40 : Int) rfl) c18)
                    have h54 := ib_nlt h17 (ib_c 40 40 40 rfl) c18
                    have h55 : ib z14 40 999 := ib_w 40 999 h54.1 rfl
                    refine lv_aload_n hx hb dX10_codesTell_72 rfl (lv_at hl 1 rfl) ?_
                    refine lv_aload_n hx hb dX10_codesTell_73 rfl (lv_at hl 1 rfl) ?_
                    refine lv_iload hx hb dX10_codesTell_74 (lv_at hl 0 rfl) ?_
                    refine lv_bipush (v := 40) hx hb dX10_codesTell_76 rfl ?_
                    refine lv_isub hx hb dX10_codesTell_78 ?_
                    refine lv_topi (fun z56 ez56 => ?_)
                    have h57 := ib_sub h55 (ib_c 40 40 40 rfl) rfl
                    rw [← ez56] at h57
                    have h58 : ib z56 0 959 := ib_w 0 959 h57.1 rfl
                    have Ez56 := lf_sub h57.2 Ez14 (lf_lc 40 (40 : Int) rfl)
                    refine lv_iload_n hx hb dX10_codesTell_79 rfl (lv_at hl 3 rfl) ?_
                    refine k_jlm hP hD hS hA [0, 5, 6, 7, 8, 9, 10, 11, 12] [false, true, true, true, true] rfl rfl (by decide +kernel) 0 0 (Nat.le_of_ble_eq_true rfl) (Nat.le_of_ble_eq_true rfl) (fun hPc hDc => k_runV (As := [.int z56, .int p1]) (rest := [.ref a_this]) C0 hZ hS hA (s_X10_qPartOf l dC dI cy sq a_this rm x_taped x_at x_end x_ended x_bad x_badPlace x_fault x_faultPlace x_namePlace x_awayTold x_away x_coded x_statements x_isCrossing 0 x_askSecond x_redMany x_isOpen x_lastGreen x_greenTo x_isCycleGreen x_stillGreen x_rowMany x_fitMany x_fitRules x_fitGreen x_undoable x_newest x_seeded x_qCoded x_qWaits x_qOpened x_qBase J19_c0_117 x_qAnswer x_qIsNew x_octets g_bar g_kinds g_walkers g_now g_gaps g_waits g_goes g_harms z56 p1 (ib_w 10 120 hg_bar_4 rfl) hpg_walkers hg_gaps (ib_w 0 11 hp1 rfl) (fun q9 => (okc_47 (z := z14) (hG0 (ib_nc (-1) hg_codeFrom_3 rfl)) hJ19_gh.1 (hg_codeFrom_3).1 (by have := (h8).1; have := (h8).2; have := (h9).1; have := (h9).2; have := hJ19_lin0; have := (h10).1; have := (h10).2; have := mt Int32.le_iff_toInt_le.mpr c4; omega) (by rw [ez14]; congr 1; show 1600 + (Int32.toInt J19_l3).toNat = (Int32.toInt z11).toNat; have := (h9).1; have := (h9).2; have := hJ19_lin0; have := (h10).1; have := (h10).2; have := (h13).1; have := (h13).2; have := h12.2; have : (1600 : Int32).toInt = 1600 := rfl; omega) h57.2 q9).elim)) mV_X10_447 hPc hDc rfl rfl rfl hl rfl rfl (Nat.le_of_ble_eq_true rfl) ⟨(Nat.le_of_ble_eq_true rfl), (Nat.le_of_ble_eq_true rfl)⟩ ⟨(Nat.le_of_ble_eq_true rfl), (Nat.le_of_ble_eq_true rfl)⟩ dX10_codesTell_80) (fun r59 u60 H locs hw hP hD hS => ?_)
                    try dsimp only at hP hD hw
                    replace hP : va_P (dC, dI) vwCl [(wi_rm49_0_6_0 rm cy g_codeFrom), (wi_rm50_0_6_0 rm cy g_codeEnd), (wi_rm116_1_1700_1 rm cy J19_a3), (wi_rm51_0_3200_0 rm cy g_codes), (a_this, .inr (10, mfs rm x_taped x_at x_end x_ended x_bad x_badPlace x_fault x_faultPlace x_namePlace x_awayTold x_away x_coded x_statements x_isCrossing 0 x_askSecond x_redMany x_isOpen x_lastGreen x_greenTo x_isCycleGreen x_stillGreen x_rowMany x_fitMany x_fitRules x_fitGreen x_undoable x_newest x_seeded x_qCoded x_qWaits x_qOpened x_qBase J19_c0_117 x_qAnswer x_qIsNew x_octets)), (wi_rm46_0_48_0 rm cy g_walkers), (wi_rm56_0_9_0 rm cy g_now), (wi_rm43_0_8_0 rm cy g_bar), (wi_rm65_0_12_0 rm cy g_waits), (wi_rm44_0_24_0 rm cy g_kinds), (wi_rm61_0_300_0 rm cy g_gaps), (wi_rm66_3_12_0 rm cy g_goes), (wi_rm67_3_12_0 rm cy g_harms)] H := hP
                    replace hD := k_D hP hD
                    have h61 := hw
                    have h61 := by have h9 := h61; try simp only [show (0 : Int32).toInt = (0 : Int) from rfl] at h9; rw [lf_u Ez56] at h9; exact h9
                    replace hq := lf_b1 hq h61
                    refine k_jvm hP hD hS hA [4, 2] [true, true, false, true, false, true, true, true, true, true, true, true, true] rfl rfl (by decide +kernel) 0 0 (Nat.le_of_ble_eq_true rfl) (Nat.le_of_ble_eq_true rfl) (fun hPc hDc => k_runV (As := [.long r59]) (rest := []) C0 hZ hS hA (s_X10_qPuts l dC dI cy sq a_this rm x_taped x_at x_end x_ended x_bad x_badPlace x_fault x_faultPlace x_namePlace x_awayTold x_away x_coded x_statements x_isCrossing 0 x_askSecond x_redMany x_isOpen x_lastGreen x_greenTo x_isCycleGreen x_stillGreen x_rowMany x_fitMany x_fitRules x_fitGreen x_undoable x_newest x_seeded x_qCoded x_qWaits x_qOpened x_qBase J19_c0_117 x_qAnswer x_qIsNew x_octets J19_a3 r59 (ib_w 0 1699 h10 rfl)) mV_X10_443 hPc hDc rfl rfl rfl hl rfl rfl (Nat.le_of_ble_eq_true rfl) ⟨(Nat.le_of_ble_eq_true rfl), (Nat.le_of_ble_eq_true rfl)⟩ ⟨(Nat.le_of_ble_eq_true rfl), (Nat.le_of_ble_eq_true rfl)⟩ dX10_codesTell_83) (fun u63 H locs hw hP hD hS => ?_)
                    obtain ⟨v64, f65⟩ := u63
                    try dsimp only at hP hD hw
                    replace hP : va_P (dC, dI) vwCl [(wi_rm49_0_6_0 rm cy g_codeFrom), (wi_rm50_0_6_0 rm cy g_codeEnd), (wi_rm51_0_3200_0 rm cy g_codes), (wi_rm46_0_48_0 rm cy g_walkers), (wi_rm56_0_9_0 rm cy g_now), (wi_rm43_0_8_0 rm cy g_bar), (wi_rm65_0_12_0 rm cy g_waits), (wi_rm44_0_24_0 rm cy g_kinds), (wi_rm61_0_300_0 rm cy g_gaps), (wi_rm66_3_12_0 rm cy g_goes), (wi_rm67_3_12_0 rm cy g_harms), (a_this, .inr (10, mfs rm x_taped x_at x_end x_ended x_bad x_badPlace x_fault x_faultPlace x_namePlace x_awayTold x_away x_coded x_statements x_isCrossing 0 x_askSecond x_redMany x_isOpen x_lastGreen x_greenTo x_isCycleGreen x_stillGreen x_rowMany x_fitMany x_fitRules x_fitGreen x_undoable x_newest x_seeded x_qCoded x_qWaits x_qOpened x_qBase v64 x_qAnswer x_qIsNew x_octets)), (wi_rm116_1_1700_1 rm cy f65)] H := hP
                    replace hD := k_D hP hD
                    obtain ⟨h66, h67, h68⟩ := hw
                    have h69 : v64.toInt = (J19_c0_117 : Int32).toInt + (1 : Int32).toInt := by have q1 := h67; have q2 : (1 : Int32).toInt = 1 := rfl; omega
                    have h70 : ib v64 1 1600 := ⟨by have q1 := h67; have := (h10).1; have := (h66).1; omega, by have q1 := h67; have := (h10).2; have := (h66).2; omega⟩
                    replace hq := lf_p1 hq h68
                    refine lv_goto (tgt := 144) hx hb dX10_codesTell_86 rfl ?_
                    exact jn144 z14 v64 f65 H locs ls (ib_w 0 1599 h9 rfl) (ib_w 1 1600 h70 rfl) (ib_w 1 1600 h8 rfl) (by have := hJ19_lin0; have := h69; have : (1 : Int32).toInt = 1 := rfl; omega) (by rw [lf_u Ez14]; exact hq) (cdm_push (z := z14) (hG0 (ib_nc (-1) hg_codeFrom_3 rfl)) hJ19_gh (hg_codeFrom_3).1 (by have := (h8).1; have := (h8).2; have := (h9).1; have := (h9).2; have := hJ19_lin0; have := (h10).1; have := (h10).2; have := mt Int32.le_iff_toInt_le.mpr c4; omega) (by rw [ez14]; congr 1; show 1600 + (Int32.toInt J19_l3).toNat = (Int32.toInt z11).toNat; have := (h9).1; have := (h9).2; have := hJ19_lin0; have := (h10).1; have := (h10).2; have := (h13).1; have := (h13).2; have := h12.2; have : (1600 : Int32).toInt = 1600 := rfl; omega) (Or.inl (by have := (h55).1; omega)) (by have := (h10).1; have := (h10).2; have := hJ19_lin0; have := (h9).1; have := (h9).2; have := (h70).1; have := (h70).2; have := h69; have : (1 : Int32).toInt = 1 := rfl; omega)) (hP.sub [11, 0, 1, 12, 2, 3, 4, 5, 6, 7, 8, 9, 10] rfl) (hD.sub [11, 0, 1, 12, 2, 3, 4, 5, 6, 7, 8, 9, 10] (by decide +kernel) rfl) hS (lv_sub hl [1, 2, 3, 4, 0] rfl)
            · as_aux_lemma =>
                replace hq := lf_neg hq (lf_nlt Ez14 (lf_lc 1000 (1000 : Int) rfl) c15)
                have h71 := ib_nlt (ib_any z14) (ib_c 1000 1000 1000 rfl) c15
                have h72 : ib z14 1000 2147483647 := ib_w 1000 2147483647 h71.1 rfl
                refine lv_aload_n hx hb dX10_codesTell_51 rfl (lv_at hl 1 rfl) ?_
                refine lv_iload hx hb dX10_codesTell_52 (lv_at hl 0 rfl) ?_
                refine lv_sipush (v := 1000) hx hb dX10_codesTell_54 rfl ?_
                refine lv_isub hx hb dX10_codesTell_57 ?_
                refine lv_topi (fun z73 ez73 => ?_)
                have h74 := ib_sub h72 (ib_c 1000 1000 1000 rfl) rfl
                rw [← ez73] at h74
                have h75 : ib z73 0 2147482647 := ib_w 0 2147482647 h74.1 rfl
                have Ez73 := lf_sub h74.2 Ez14 (lf_lc 1000 (1000 : Int) rfl)
                refine lv_i2l (v := z73.toInt64) hx hb dX10_codesTell_58 rfl ?_
                refine k_jvm hP hD hS hA [0, 3] [false, true, true, false, true, true, true, true, true, true, true, true, true] rfl rfl (by decide +kernel) 0 0 (Nat.le_of_ble_eq_true rfl) (Nat.le_of_ble_eq_true rfl) (fun hPc hDc => k_runV (As := [.long z73.toInt64]) (rest := []) C0 hZ hS hA (s_X10_qPuts l dC dI cy sq a_this rm x_taped x_at x_end x_ended x_bad x_badPlace x_fault x_faultPlace x_namePlace x_awayTold x_away x_coded x_statements x_isCrossing 0 x_askSecond x_redMany x_isOpen x_lastGreen x_greenTo x_isCycleGreen x_stillGreen x_rowMany x_fitMany x_fitRules x_fitGreen x_undoable x_newest x_seeded x_qCoded x_qWaits x_qOpened x_qBase J19_c0_117 x_qAnswer x_qIsNew x_octets J19_a3 z73.toInt64 (ib_w 0 1699 h10 rfl)) mV_X10_443 hPc hDc rfl rfl rfl hl rfl rfl (Nat.le_of_ble_eq_true rfl) ⟨(Nat.le_of_ble_eq_true rfl), (Nat.le_of_ble_eq_true rfl)⟩ ⟨(Nat.le_of_ble_eq_true rfl), (Nat.le_of_ble_eq_true rfl)⟩ dX10_codesTell_59) (fun u77 H locs hw hP hD hS => ?_)
                obtain ⟨v78, f79⟩ := u77
                try dsimp only at hP hD hw
                replace hP : va_P (dC, dI) vwCl [(wi_rm49_0_6_0 rm cy g_codeFrom), (wi_rm50_0_6_0 rm cy g_codeEnd), (wi_rm51_0_3200_0 rm cy g_codes), (wi_rm46_0_48_0 rm cy g_walkers), (wi_rm56_0_9_0 rm cy g_now), (wi_rm43_0_8_0 rm cy g_bar), (wi_rm65_0_12_0 rm cy g_waits), (wi_rm44_0_24_0 rm cy g_kinds), (wi_rm61_0_300_0 rm cy g_gaps), (wi_rm66_3_12_0 rm cy g_goes), (wi_rm67_3_12_0 rm cy g_harms), (a_this, .inr (10, mfs rm x_taped x_at x_end x_ended x_bad x_badPlace x_fault x_faultPlace x_namePlace x_awayTold x_away x_coded x_statements x_isCrossing 0 x_askSecond x_redMany x_isOpen x_lastGreen x_greenTo x_isCycleGreen x_stillGreen x_rowMany x_fitMany x_fitRules x_fitGreen x_undoable x_newest x_seeded x_qCoded x_qWaits x_qOpened x_qBase v78 x_qAnswer x_qIsNew x_octets)), (wi_rm116_1_1700_1 rm cy f79)] H := hP
                replace hD := k_D hP hD
                obtain ⟨h80, h81, h82⟩ := hw
                have h83 : v78.toInt = (J19_c0_117 : Int32).toInt + (1 : Int32).toInt := by have q1 := h81; have q2 : (1 : Int32).toInt = 1 := rfl; omega
                have h84 : ib v78 1 1600 := ⟨by have q1 := h81; have := (h10).1; have := (h80).1; omega, by have q1 := h81; have := (h10).2; have := (h80).2; omega⟩
                have h82 := by have h9 := h82; rw [lf_ul (lf_i2l Ez73)] at h9; exact h9
                replace hq := lf_p1 hq h82
                refine lv_goto (tgt := 144) hx hb dX10_codesTell_62 rfl ?_
                exact jn144 z14 v78 f79 H locs ls (ib_w 0 1599 h9 rfl) (ib_w 1 1600 h84 rfl) (ib_w 1 1600 h8 rfl) (by have := hJ19_lin0; have := h83; have : (1 : Int32).toInt = 1 := rfl; omega) (by rw [lf_u Ez14]; exact hq) (cdm_push (z := z14) (hG0 (ib_nc (-1) hg_codeFrom_3 rfl)) hJ19_gh (hg_codeFrom_3).1 (by have := (h8).1; have := (h8).2; have := (h9).1; have := (h9).2; have := hJ19_lin0; have := (h10).1; have := (h10).2; have := mt Int32.le_iff_toInt_le.mpr c4; omega) (by rw [ez14]; congr 1; show 1600 + (Int32.toInt J19_l3).toNat = (Int32.toInt z11).toNat; have := (h9).1; have := (h9).2; have := hJ19_lin0; have := (h10).1; have := (h10).2; have := (h13).1; have := (h13).2; have := h12.2; have : (1600 : Int32).toInt = 1600 := rfl; omega) (Or.inl (by have := (h72).1; omega)) (by have := (h10).1; have := (h10).2; have := hJ19_lin0; have := (h9).1; have := (h9).2; have := (h84).1; have := (h84).2; have := h83; have : (1 : Int32).toInt = 1 := rfl; omega)) (hP.sub [11, 0, 1, 12, 2, 3, 4, 5, 6, 7, 8, 9, 10] rfl) (hD.sub [11, 0, 1, 12, 2, 3, 4, 5, 6, 7, 8, 9, 10] (by decide +kernel) rfl) hS (lv_sub hl [1, 2, 3, 4, 0] rfl)
  refine lv_aload_n hx hb dX10_codesTell_0 rfl (lv_at hl 0 rfl) ?_
  refine lv_iload_n hx hb dX10_codesTell_1 rfl (lv_at hl 1 rfl) ?_
  refine k_put C0 fp_X10_333 hP hD hS 0 rfl rfl rfl (Nat.le_of_ble_eq_true rfl) dX10_codesTell_2 (fun H locs hP hD hS => ?_)
  replace hP : va_P (dC, dI) vwCl [(a_this, .inr (10, mfs rm x_taped x_at x_end x_ended x_bad x_badPlace x_fault x_faultPlace x_namePlace x_awayTold x_away x_coded x_statements x_isCrossing 0 x_askSecond x_redMany x_isOpen x_lastGreen x_greenTo x_isCycleGreen x_stillGreen x_rowMany x_fitMany x_fitRules x_fitGreen x_undoable x_newest x_seeded x_qCoded x_qWaits x_qOpened x_qBase x_qPiled x_qAnswer x_qIsNew x_octets)), (wi_rm49_0_6_0 rm cy g_codeFrom), (wi_rm50_0_6_0 rm cy g_codeEnd), (wi_rm116_1_1700_1 rm cy g_qPile), (wi_rm51_0_3200_0 rm cy g_codes), (wi_rm46_0_48_0 rm cy g_walkers), (wi_rm56_0_9_0 rm cy g_now), (wi_rm43_0_8_0 rm cy g_bar), (wi_rm65_0_12_0 rm cy g_waits), (wi_rm44_0_24_0 rm cy g_kinds), (wi_rm61_0_300_0 rm cy g_gaps), (wi_rm66_3_12_0 rm cy g_goes), (wi_rm67_3_12_0 rm cy g_harms)] H := hP
  replace hD := k_D hP hD
  refine lv_aload_n hx hb dX10_codesTell_5 rfl (lv_at hl 0 rfl) ?_
  refine lv_iconst (v := 0) hx hb dX10_codesTell_6 rfl ?_
  refine k_put C0 fp_X10_440 hP hD hS 0 rfl rfl rfl (Nat.le_of_ble_eq_true rfl) dX10_codesTell_7 (fun H locs hP hD hS => ?_)
  replace hP : va_P (dC, dI) vwCl [(a_this, .inr (10, mfs rm x_taped x_at x_end x_ended x_bad x_badPlace x_fault x_faultPlace x_namePlace x_awayTold x_away x_coded x_statements x_isCrossing 0 x_askSecond x_redMany x_isOpen x_lastGreen x_greenTo x_isCycleGreen x_stillGreen x_rowMany x_fitMany x_fitRules x_fitGreen x_undoable x_newest x_seeded x_qCoded x_qWaits x_qOpened x_qBase 0 x_qAnswer x_qIsNew x_octets)), (wi_rm49_0_6_0 rm cy g_codeFrom), (wi_rm50_0_6_0 rm cy g_codeEnd), (wi_rm116_1_1700_1 rm cy g_qPile), (wi_rm51_0_3200_0 rm cy g_codes), (wi_rm46_0_48_0 rm cy g_walkers), (wi_rm56_0_9_0 rm cy g_now), (wi_rm43_0_8_0 rm cy g_bar), (wi_rm65_0_12_0 rm cy g_waits), (wi_rm44_0_24_0 rm cy g_kinds), (wi_rm61_0_300_0 rm cy g_gaps), (wi_rm66_3_12_0 rm cy g_goes), (wi_rm67_3_12_0 rm cy g_harms)] H := hP
  replace hD := k_D hP hD
  refine lv_aload_n hx hb dX10_codesTell_10 rfl (lv_at hl 0 rfl) ?_
  refine k_get C0 fg_X10_130 hP 0 rfl rfl dX10_codesTell_11 ?_
  refine lv_iconst (v := 3) hx hb dX10_codesTell_14 rfl ?_
  refine lv_iload_n hx hb dX10_codesTell_15 rfl (lv_at hl 1 rfl) ?_
  refine lv_iadd hx hb dX10_codesTell_16 ?_
  refine k_topi (y := 3) (by decide) ?_
  refine va_iald hx hb C0.2.2.2.2.2.1 hP 1 0 rfl rfl (k_in 3 6 rfl) dX10_codesTell_17 ?_
  refine k_topi (y := g_codeFrom 3) rfl ?_
  refine lv_istore_n (lv' := [(3, .int (g_codeFrom 3)), (0, .ref a_this), (1, .int 0), (2, .int p1)]) hx hb dX10_codesTell_18 rfl hl (Nat.le_of_ble_eq_true rfl) rfl (fun ls hl => ?_)
  exact jn19 1602 (g_codeFrom 3) 0 g_qPile H locs ls (ib_w 0 1600 hg_codeFrom_3 rfl) (ib_w 0 1600 (ib_c 0 0 0 rfl) rfl) (by have : (0 : Int32).toInt = 0 := rfl; have := (hg_codeFrom_3).1; omega) (by rw [lf_u (lf_pt (lf_ra g_codeFrom) 3)]; try simp only [show (0 : Int32).toInt = (0 : Int) from rfl]; exact hq) (cdl_0 _ _ _) (by have := hg_codeFrom_3; unfold ib at this; omega) hP hD hS (lv_sub hl [1, 2, 3, 0] rfl)
set_option maxHeartbeats 4000000 in
set_option maxRecDepth 100000 in
theorem s_X10_laysCars (l : Launch) (dC : Nat → ClassId) (dI : Nat → Nat → Nat) (cy : Nat → ClassId) (sq : Nat → Nat) (a_this : Nat) (rm : Nat → Nat) (x_taped : Int32) (x_at : Int32) (x_end : Int32) (x_ended : Int32) (x_bad : Int32) (x_badPlace : Int32) (x_fault : Int32) (x_faultPlace : Int32) (x_namePlace : Int32) (x_awayTold : Int32) (x_away : Int32) (x_coded : Int32) (x_statements : Int32) (x_isCrossing : Int32) (x_textKind : Int32) (x_askSecond : Int32) (x_redMany : Int32) (x_isOpen : Int32) (x_lastGreen : Int32) (x_greenTo : Int32) (x_isCycleGreen : Int32) (x_stillGreen : Int32) (x_rowMany : Int32) (x_fitMany : Int32) (x_fitRules : Int32) (x_fitGreen : Int32) (x_undoable : Int32) (x_newest : Int32) (x_seeded : Int64) (x_qCoded : Int32) (x_qWaits : Int32) (x_qOpened : Int32) (x_qBase : Int32) (x_qPiled : Int32) (x_qAnswer : Int64) (x_qIsNew : Int32) (x_octets : Int32) (g_bar : Nat → Int32) (g_kinds : Nat → Int32) (g_walkers : Nat → Int32) (g_codeFrom : Nat → Int32) (g_codeEnd : Nat → Int32) (g_codes : Nat → Int32) (g_now : Nat → Int32) (g_isCar : Nat → Int32) (g_gaps : Nat → Int32) (g_waits : Nat → Int32) (g_goes : Nat → Int32) (g_harms : Nat → Int32) (g_qPile : Nat → Int64) (hx_qPiled : ib x_qPiled 0 1700) (hg_bar_4 : ib (g_bar 4) 10 120) (hpg_walkers : ip g_walkers 48 2 0 0 5) (hg_codeFrom_3 : ib (g_codeFrom 3) (-1) 1600) (hg_codeEnd_3 : ib (g_codeEnd 3) 0 1600) (hg_gaps : ia g_gaps 300 0 20) (hG0 : ¬ g_codeFrom 3 = (-1) → okc g_codes 1600 false (g_codeFrom 3) (g_codeEnd 3)) : k_Met l yX10_laysCars cX10_laysCars 2 none { frames := 4, cells := 0, slots := 0, locals := 88 } dC dI cy sq [.ref a_this] [(a_this, .inr (10, mfs rm x_taped x_at x_end x_ended x_bad x_badPlace x_fault x_faultPlace x_namePlace x_awayTold x_away x_coded x_statements x_isCrossing x_textKind x_askSecond x_redMany x_isOpen x_lastGreen x_greenTo x_isCycleGreen x_stillGreen x_rowMany x_fitMany x_fitRules x_fitGreen x_undoable x_newest x_seeded x_qCoded x_qWaits x_qOpened x_qBase x_qPiled x_qAnswer x_qIsNew x_octets)), (wi_rm49_0_6_0 rm cy g_codeFrom), (wi_rm50_0_6_0 rm cy g_codeEnd), (wi_rm116_1_1700_1 rm cy g_qPile), (wi_rm51_0_3200_0 rm cy g_codes), (wi_rm46_0_48_0 rm cy g_walkers), (wi_rm56_0_9_0 rm cy g_now), (wi_rm43_0_8_0 rm cy g_bar), (wi_rm65_0_12_0 rm cy g_waits), (wi_rm44_0_24_0 rm cy g_kinds), (wi_rm61_0_300_0 rm cy g_gaps), (wi_rm66_3_12_0 rm cy g_goes), (wi_rm67_3_12_0 rm cy g_harms), (wi_rm60_3_320_0 rm cy g_isCar)] (k_Qv dC dI (fun (u : Int32 × Int32 × Int32 × (Nat → Int64) × (Nat → Int32) × (Nat → Int32)) => match u with | (n0, n1, n2, n3, n4, n5) => ib n2 0 1700 ∧ ia n4 300 0 20 ∧ (F_X10_laysCars (Int32.toInt x_textKind) (Int32.toInt x_askSecond) (Int32.toInt x_redMany) (Int32.toInt x_qPiled) (lf_A g_bar) (lf_A g_kinds) (lf_A g_walkers) (lf_A g_codeFrom) (lf_A g_codeEnd) (lf_A g_codes) (lf_A g_now) (lf_A g_isCar) (lf_A g_gaps) (lf_A g_waits) (lf_A g_goes) (lf_A g_harms) (lf_L g_qPile) = ((Int32.toInt n0), (Int32.toInt n1), (Int32.toInt n2), (lf_L n3), (lf_A n4), (lf_A n5)))) (fun u : Int32 × Int32 × Int32 × (Nat → Int64) × (Nat → Int32) × (Nat → Int32) => match u with | (n0, n1, n2, n3, n4, n5) => [(a_this, .inr (10, mfs rm x_taped x_at x_end x_ended x_bad x_badPlace x_fault x_faultPlace x_namePlace x_awayTold x_away x_coded x_statements x_isCrossing n0 n1 x_redMany x_isOpen x_lastGreen x_greenTo x_isCycleGreen x_stillGreen x_rowMany x_fitMany x_fitRules x_fitGreen x_undoable x_newest x_seeded x_qCoded x_qWaits x_qOpened x_qBase n2 x_qAnswer x_qIsNew x_octets)), (wi_rm49_0_6_0 rm cy g_codeFrom), (wi_rm50_0_6_0 rm cy g_codeEnd), (wi_rm116_1_1700_1 rm cy n3), (wi_rm51_0_3200_0 rm cy g_codes), (wi_rm46_0_48_0 rm cy g_walkers), (wi_rm56_0_9_0 rm cy g_now), (wi_rm43_0_8_0 rm cy g_bar), (wi_rm65_0_12_0 rm cy g_waits), (wi_rm44_0_24_0 rm cy g_kinds), (wi_rm61_0_300_0 rm cy n4), (wi_rm66_3_12_0 rm cy g_goes), (wi_rm67_3_12_0 rm cy g_harms), (wi_rm60_3_320_0 rm cy n5)])) := by
  refine k_ofW2 (by decide +kernel) (Nat.le_of_ble_eq_true rfl) ?_
  intro p e s m below meth c A ls H locs args Q hQ C0 hZ hr hlk hin hP hD hA hS hl
  have C0 : k_cx p s m args c cX10_laysCars 2 RX10 dC dI cy sq := C0
  have hx := C0.1
  have hb := C0.2.1
  have hl : lv_has ls 2 [(0, .ref a_this)] := hl
  obtain ⟨O, hO⟩ : ∃ o, o = F_X10_laysCars (Int32.toInt x_textKind) (Int32.toInt x_askSecond) (Int32.toInt x_redMany) (Int32.toInt x_qPiled) (lf_A g_bar) (lf_A g_kinds) (lf_A g_walkers) (lf_A g_codeFrom) (lf_A g_codeEnd) (lf_A g_codes) (lf_A g_now) (lf_A g_isCar) (lf_A g_gaps) (lf_A g_waits) (lf_A g_goes) (lf_A g_harms) (lf_L g_qPile) := ⟨_, rfl⟩
  have hq := hO
  unfold F_X10_laysCars at hq
  have jn54 : ∀ (n : Nat) (J54_c0_55 : Int32) (J54_c0_58 : Int32) (J54_c0_117 : Int32) (J54_a3 : Nat → Int64) (J54_a13 : Nat → Int32) (J54_l1 : Int32) (J54_a10 : Nat → Int32) (H : Heap) (locs : List Loc) (ls : Array Slot), ib J54_c0_117 0 1700 → ib J54_l1 0 300 → ia J54_a10 300 0 20 → (O = F_X10_laysCars_54 n (Int32.toInt J54_c0_55) (Int32.toInt J54_c0_58) (Int32.toInt J54_c0_117) (lf_L J54_a3) (lf_A J54_a13) (Int32.toInt J54_l1) (lf_A J54_a10)) → 301 ≤ J54_l1.toInt + (n : Int) → va_P (dC, dI) vwCl [(a_this, .inr (10, mfs rm x_taped x_at x_end x_ended x_bad x_badPlace x_fault x_faultPlace x_namePlace x_awayTold x_away x_coded x_statements x_isCrossing J54_c0_55 J54_c0_58 x_redMany x_isOpen x_lastGreen x_greenTo x_isCycleGreen x_stillGreen x_rowMany x_fitMany x_fitRules x_fitGreen x_undoable x_newest x_seeded x_qCoded x_qWaits x_qOpened x_qBase J54_c0_117 x_qAnswer x_qIsNew x_octets)), (wi_rm49_0_6_0 rm cy g_codeFrom), (wi_rm50_0_6_0 rm cy g_codeEnd), (wi_rm116_1_1700_1 rm cy J54_a3), (wi_rm51_0_3200_0 rm cy g_codes), (wi_rm46_0_48_0 rm cy g_walkers), (wi_rm56_0_9_0 rm cy g_now), (wi_rm43_0_8_0 rm cy g_bar), (wi_rm65_0_12_0 rm cy g_waits), (wi_rm44_0_24_0 rm cy g_kinds), (wi_rm61_0_300_0 rm cy J54_a10), (wi_rm66_3_12_0 rm cy g_goes), (wi_rm67_3_12_0 rm cy g_harms), (wi_rm60_3_320_0 rm cy J54_a13)] H → va_D A [(a_this, .inr (10, mfs rm x_taped x_at x_end x_ended x_bad x_badPlace x_fault x_faultPlace x_namePlace x_awayTold x_away x_coded x_statements x_isCrossing J54_c0_55 J54_c0_58 x_redMany x_isOpen x_lastGreen x_greenTo x_isCycleGreen x_stillGreen x_rowMany x_fitMany x_fitRules x_fitGreen x_undoable x_newest x_seeded x_qCoded x_qWaits x_qOpened x_qBase J54_c0_117 x_qAnswer x_qIsNew x_octets)), (wi_rm49_0_6_0 rm cy g_codeFrom), (wi_rm50_0_6_0 rm cy g_codeEnd), (wi_rm116_1_1700_1 rm cy J54_a3), (wi_rm51_0_3200_0 rm cy g_codes), (wi_rm46_0_48_0 rm cy g_walkers), (wi_rm56_0_9_0 rm cy g_now), (wi_rm43_0_8_0 rm cy g_bar), (wi_rm65_0_12_0 rm cy g_waits), (wi_rm44_0_24_0 rm cy g_kinds), (wi_rm61_0_300_0 rm cy J54_a10), (wi_rm66_3_12_0 rm cy g_goes), (wi_rm67_3_12_0 rm cy g_harms), (wi_rm60_3_320_0 rm cy J54_a13)] → va_S A s.heap H locs → lv_has ls 2 [(0, .ref a_this), (1, .int J54_l1)] → W p l e { frames := 4, cells := 0, slots := 0, locals := 88 } s m args below meth c H locs 0 0 Q (F0 m 54 ls []) := by
    as_aux_lemma =>
      intro n
      induction n with
      | zero =>
        intro J54_c0_55 J54_c0_58 J54_c0_117 J54_a3 J54_a13 J54_l1 J54_a10 H locs ls hJ54_c0_117 hJ54_l1 hJ54_a10 hq hm
        exact absurd hm (by have := hJ54_l1; unfold ib at this; omega)
      | succ n ih =>
        intro J54_c0_55 J54_c0_58 J54_c0_117 J54_a3 J54_a13 J54_l1 J54_a10 H locs ls hJ54_c0_117 hJ54_l1 hJ54_a10 hq hm54 hP hD hS hl
        have ih54 := ih
        obtain ⟨K54, hK54⟩ : ∃ K, K = F_X10_laysCars_54 n := ⟨_, rfl⟩
        have hq : O = F_X10_laysCars_54b K54 (Int32.toInt J54_c0_55) (Int32.toInt J54_c0_58) (Int32.toInt J54_c0_117) (lf_L J54_a3) (lf_A J54_a13) (Int32.toInt J54_l1) (lf_A J54_a10) := by rw [hK54]; exact hq
        unfold F_X10_laysCars_54b at hq
        have jn108 : ∀ (J108_a10 : Nat → Int32) (H : Heap) (locs : List Loc) (ls : Array Slot), ib J54_l1 0 299 → ib J54_c0_117 0 1700 → ia J108_a10 300 0 20 → (O = F_X10_laysCars_108 (Int32.toInt J54_c0_55) (Int32.toInt J54_c0_58) (Int32.toInt J54_c0_117) (lf_L J54_a3) (lf_A J54_a13) (Int32.toInt J54_l1) K54 (lf_A J108_a10)) → va_P (dC, dI) vwCl [(a_this, .inr (10, mfs rm x_taped x_at x_end x_ended x_bad x_badPlace x_fault x_faultPlace x_namePlace x_awayTold x_away x_coded x_statements x_isCrossing J54_c0_55 J54_c0_58 x_redMany x_isOpen x_lastGreen x_greenTo x_isCycleGreen x_stillGreen x_rowMany x_fitMany x_fitRules x_fitGreen x_undoable x_newest x_seeded x_qCoded x_qWaits x_qOpened x_qBase J54_c0_117 x_qAnswer x_qIsNew x_octets)), (wi_rm49_0_6_0 rm cy g_codeFrom), (wi_rm50_0_6_0 rm cy g_codeEnd), (wi_rm116_1_1700_1 rm cy J54_a3), (wi_rm51_0_3200_0 rm cy g_codes), (wi_rm46_0_48_0 rm cy g_walkers), (wi_rm56_0_9_0 rm cy g_now), (wi_rm43_0_8_0 rm cy g_bar), (wi_rm65_0_12_0 rm cy g_waits), (wi_rm44_0_24_0 rm cy g_kinds), (wi_rm61_0_300_0 rm cy J108_a10), (wi_rm66_3_12_0 rm cy g_goes), (wi_rm67_3_12_0 rm cy g_harms), (wi_rm60_3_320_0 rm cy J54_a13)] H → va_D A [(a_this, .inr (10, mfs rm x_taped x_at x_end x_ended x_bad x_badPlace x_fault x_faultPlace x_namePlace x_awayTold x_away x_coded x_statements x_isCrossing J54_c0_55 J54_c0_58 x_redMany x_isOpen x_lastGreen x_greenTo x_isCycleGreen x_stillGreen x_rowMany x_fitMany x_fitRules x_fitGreen x_undoable x_newest x_seeded x_qCoded x_qWaits x_qOpened x_qBase J54_c0_117 x_qAnswer x_qIsNew x_octets)), (wi_rm49_0_6_0 rm cy g_codeFrom), (wi_rm50_0_6_0 rm cy g_codeEnd), (wi_rm116_1_1700_1 rm cy J54_a3), (wi_rm51_0_3200_0 rm cy g_codes), (wi_rm46_0_48_0 rm cy g_walkers), (wi_rm56_0_9_0 rm cy g_now), (wi_rm43_0_8_0 rm cy g_bar), (wi_rm65_0_12_0 rm cy g_waits), (wi_rm44_0_24_0 rm cy g_kinds), (wi_rm61_0_300_0 rm cy J108_a10), (wi_rm66_3_12_0 rm cy g_goes), (wi_rm67_3_12_0 rm cy g_harms), (wi_rm60_3_320_0 rm cy J54_a13)] → va_S A s.heap H locs → lv_has ls 2 [(0, .ref a_this), (1, .int J54_l1)] → W p l e { frames := 4, cells := 0, slots := 0, locals := 88 } s m args below meth c H locs 0 0 Q (F0 m 108 ls []) := by
          intro J108_a10 H locs ls hK108_J54_l1 hK108_J54_c0_117 hJ108_a10 hq hP hD hS hl
          unfold F_X10_laysCars_108 at hq
          obtain ⟨z1, ez1⟩ : ∃ y : Int32, y = J54_l1 + 1 := ⟨_, rfl⟩
          refine lv_iinc (v := z1) (lv' := [(1, .int z1), (0, .ref a_this)]) hx hb dX10_laysCars_108 hl (k := 1) rfl (by rw [ez1]; rfl) (Nat.le_of_ble_eq_true rfl) rfl (fun ls hl => ?_)
          have h2 := ib_add hK108_J54_l1 (ib_c 1 1 1 rfl) rfl
          rw [← ez1] at h2
          have h3 : ib z1 1 300 := ib_w 1 300 h2.1 rfl
          have Ez1 := lf_add h2.2 (lf_rf J54_l1) (lf_lc 1 (1 : Int) rfl)
          refine lv_goto (tgt := 54) hx hb dX10_laysCars_111 rfl ?_
          exact ih54 J54_c0_55 J54_c0_58 J54_c0_117 J54_a3 J54_a13 z1 J108_a10 H locs ls (ib_w 0 1700 hK108_J54_c0_117 rfl) (ib_w 0 300 h3 rfl) hJ108_a10 (by rw [← hK54]; rw [lf_u Ez1]; exact hq) (by have := h2.2; have : (1 : Int32).toInt = 1 := rfl; omega) hP hD hS (lv_sub hl [1, 0] rfl)
        have jn68 : ∀ (n : Nat) (J68_a10 : Nat → Int32) (H : Heap) (locs : List Loc) (ls : Array Slot), ib J54_l1 0 299 → ib J54_c0_117 0 1700 → ia J68_a10 300 0 20 → (O = F_X10_laysCars_68 (Int32.toInt J54_c0_55) (Int32.toInt J54_c0_58) (Int32.toInt J54_c0_117) (lf_L J54_a3) (lf_A J54_a13) (Int32.toInt J54_l1) K54 n (lf_A J68_a10)) → 20 < (J68_a10 (Int32.toNatClampNeg J54_l1)).toInt + (n : Int) → va_P (dC, dI) vwCl [(a_this, .inr (10, mfs rm x_taped x_at x_end x_ended x_bad x_badPlace x_fault x_faultPlace x_namePlace x_awayTold x_away x_coded x_statements x_isCrossing J54_c0_55 J54_c0_58 x_redMany x_isOpen x_lastGreen x_greenTo x_isCycleGreen x_stillGreen x_rowMany x_fitMany x_fitRules x_fitGreen x_undoable x_newest x_seeded x_qCoded x_qWaits x_qOpened x_qBase J54_c0_117 x_qAnswer x_qIsNew x_octets)), (wi_rm49_0_6_0 rm cy g_codeFrom), (wi_rm50_0_6_0 rm cy g_codeEnd), (wi_rm116_1_1700_1 rm cy J54_a3), (wi_rm51_0_3200_0 rm cy g_codes), (wi_rm46_0_48_0 rm cy g_walkers), (wi_rm56_0_9_0 rm cy g_now), (wi_rm43_0_8_0 rm cy g_bar), (wi_rm65_0_12_0 rm cy g_waits), (wi_rm44_0_24_0 rm cy g_kinds), (wi_rm61_0_300_0 rm cy J68_a10), (wi_rm66_3_12_0 rm cy g_goes), (wi_rm67_3_12_0 rm cy g_harms), (wi_rm60_3_320_0 rm cy J54_a13)] H → va_D A [(a_this, .inr (10, mfs rm x_taped x_at x_end x_ended x_bad x_badPlace x_fault x_faultPlace x_namePlace x_awayTold x_away x_coded x_statements x_isCrossing J54_c0_55 J54_c0_58 x_redMany x_isOpen x_lastGreen x_greenTo x_isCycleGreen x_stillGreen x_rowMany x_fitMany x_fitRules x_fitGreen x_undoable x_newest x_seeded x_qCoded x_qWaits x_qOpened x_qBase J54_c0_117 x_qAnswer x_qIsNew x_octets)), (wi_rm49_0_6_0 rm cy g_codeFrom), (wi_rm50_0_6_0 rm cy g_codeEnd), (wi_rm116_1_1700_1 rm cy J54_a3), (wi_rm51_0_3200_0 rm cy g_codes), (wi_rm46_0_48_0 rm cy g_walkers), (wi_rm56_0_9_0 rm cy g_now), (wi_rm43_0_8_0 rm cy g_bar), (wi_rm65_0_12_0 rm cy g_waits), (wi_rm44_0_24_0 rm cy g_kinds), (wi_rm61_0_300_0 rm cy J68_a10), (wi_rm66_3_12_0 rm cy g_goes), (wi_rm67_3_12_0 rm cy g_harms), (wi_rm60_3_320_0 rm cy J54_a13)] → va_S A s.heap H locs → lv_has ls 2 [(0, .ref a_this), (1, .int J54_l1)] → W p l e { frames := 4, cells := 0, slots := 0, locals := 88 } s m args below meth c H locs 0 0 Q (F0 m 68 ls []) := by
          as_aux_lemma =>
            intro n
            induction n with
            | zero =>
              intro J68_a10 H locs ls hK68_J54_l1 hK68_J54_c0_117 hJ68_a10 hq hm
              exact absurd hm (by have q := (ia_at hJ68_a10 (ib_in 300 hK68_J54_l1 rfl)).2; omega)
            | succ n ih =>
              intro J68_a10 H locs ls hK68_J54_l1 hK68_J54_c0_117 hJ68_a10 hq hm68 hP hD hS hl
              have ih68 := ih
              obtain ⟨K68, hK68⟩ : ∃ K, K = F_X10_laysCars_68 (Int32.toInt J54_c0_55) (Int32.toInt J54_c0_58) (Int32.toInt J54_c0_117) (lf_L J54_a3) (lf_A J54_a13) (Int32.toInt J54_l1) K54 n := ⟨_, rfl⟩
              have hq : O = F_X10_laysCars_68b (Int32.toInt J54_c0_55) (Int32.toInt J54_c0_58) (Int32.toInt J54_c0_117) (lf_L J54_a3) (lf_A J54_a13) (Int32.toInt J54_l1) K54 K68 (lf_A J68_a10) := by rw [hK68]; exact hq
              unfold F_X10_laysCars_68b at hq
              refine lv_aload_n hx hb dX10_laysCars_68 rfl (lv_at hl 0 rfl) ?_
              refine k_get C0 fg_X10_149 hP 0 rfl rfl dX10_laysCars_69 ?_
              refine lv_iload_n hx hb dX10_laysCars_72 rfl (lv_at hl 1 rfl) ?_
              refine va_iald hx hb C0.2.2.2.2.2.1 hP 10 0 rfl rfl (ib_in 300 hK68_J54_l1 rfl) dX10_laysCars_73 ?_
              refine lv_topi (fun z4 ez4 => ?_)
              have h5 : ib z4 0 20 := by rw [ez4]; exact ia_at hJ68_a10 (ib_in 300 hK68_J54_l1 rfl)
              have Ez4 := lf_ld ez4 (lf_ra J68_a10) (lf_rf J54_l1)
              refine lv_bipush (v := 20) hx hb dX10_laysCars_74 rfl ?_
              refine lv_icmp_ge (tgt := 108) hx hb dX10_laysCars_76 rfl (fun c6 => ?_) (fun c6 => ?_)
              · replace hq := lf_pos hq (lf_le (lf_lc 20 (20 : Int) rfl) Ez4 c6)
                have h7 := ib_le (ib_c 20 20 20 rfl) h5 c6
                have h8 : ib z4 20 20 := ib_w 20 20 h7.2 rfl
                exact jn108 J68_a10 H locs ls (ib_w 0 299 hK68_J54_l1 rfl) (ib_w 0 1700 hK68_J54_c0_117 rfl) hJ68_a10 (by exact hq) hP hD hS (lv_sub hl [0, 1] rfl)
              · as_aux_lemma =>
                  replace hq := lf_neg hq (lf_nle (lf_lc 20 (20 : Int) rfl) Ez4 c6)
                  have h9 := ib_nle (ib_c 20 20 20 rfl) h5 c6
                  have h10 : ib z4 0 19 := ib_w 0 19 h9.2 rfl
                  refine lv_aload_n hx hb dX10_laysCars_79 rfl (lv_at hl 0 rfl) ?_
                  refine k_get C0 fg_X10_145 hP 0 rfl rfl dX10_laysCars_80 ?_
                  refine lv_iload_n hx hb dX10_laysCars_83 rfl (lv_at hl 1 rfl) ?_
                  refine lv_aload_n hx hb dX10_laysCars_84 rfl (lv_at hl 0 rfl) ?_
                  refine k_get C0 fg_X10_149 hP 0 rfl rfl dX10_laysCars_85 ?_
                  refine lv_iload_n hx hb dX10_laysCars_88 rfl (lv_at hl 1 rfl) ?_
                  refine va_iald hx hb C0.2.2.2.2.2.1 hP 10 0 rfl rfl (ib_in 300 hK68_J54_l1 rfl) dX10_laysCars_89 ?_
                  refine lv_topi (fun z11 ez11 => ?_)
                  obtain rfl : z4 = z11 := ez4.trans ez11.symm
                  refine lv_iadd hx hb dX10_laysCars_90 ?_
                  refine lv_topi (fun z12 ez12 => ?_)
                  have h13 := ib_add hK68_J54_l1 h10 rfl
                  rw [← ez12] at h13
                  have h14 : ib z12 0 318 := ib_w 0 318 h13.1 rfl
                  have Ez12 := lf_add h13.2 (lf_rf J54_l1) Ez4
                  refine va_zald hx hb C0.2.2.2.2.2.1 hP 13 3 rfl rfl (ib_in 320 h14 rfl) dX10_laysCars_91 ?_
                  refine lv_topi (fun z15 ez15 => ?_)
                  have Ez15 := lf_ld ez15 (lf_ra J54_a13) Ez12
                  refine lv_if_ne (tgt := 108) hx hb dX10_laysCars_92 rfl (fun c16 => ?_) (fun c16 => ?_)
                  · replace hq := lf_neg hq (lf_ne Ez15 (lf_lc 0 (0 : Int) rfl) c16)
                    exact jn108 J68_a10 H locs ls (ib_w 0 299 hK68_J54_l1 rfl) (ib_w 0 1700 hK68_J54_c0_117 rfl) hJ68_a10 (by exact hq) hP hD hS (lv_sub hl [0, 1] rfl)
                  · as_aux_lemma =>
                      replace hq := lf_pos hq (lf_eq Ez15 (lf_lc 0 (0 : Int) rfl) c16)
                      have h17 := ib_eq (ib_any z15) (ib_c 0 0 0 rfl) c16
                      have h18 : ib z15 0 0 := ib_w 0 0 h17.1 rfl
                      refine lv_aload_n hx hb dX10_laysCars_95 rfl (lv_at hl 0 rfl) ?_
                      refine k_get C0 fg_X10_149 hP 0 rfl rfl dX10_laysCars_96 ?_
                      refine lv_iload_n hx hb dX10_laysCars_99 rfl (lv_at hl 1 rfl) ?_
                      refine lv_dup2_11 hx hb dX10_laysCars_100 rfl rfl ?_
                      refine va_iald hx hb C0.2.2.2.2.2.1 hP 10 0 rfl rfl (ib_in 300 hK68_J54_l1 rfl) dX10_laysCars_101 ?_
                      refine lv_topi (fun z19 ez19 => ?_)
                      obtain rfl : z4 = z19 := ez4.trans ez19.symm
                      refine lv_iconst (v := 1) hx hb dX10_laysCars_102 rfl ?_
                      refine lv_iadd hx hb dX10_laysCars_103 ?_
                      refine lv_topi (fun z20 ez20 => ?_)
                      have h21 := ib_add h10 (ib_c 1 1 1 rfl) rfl
                      rw [← ez20] at h21
                      have h22 : ib z20 1 20 := ib_w 1 20 h21.1 rfl
                      have Ez20 := lf_add h21.2 Ez4 (lf_lc 1 (1 : Int) rfl)
                      refine va_iast hx hb C0.2.2.2.2.2.1 hP hD hS 10 0 rfl rfl (ib_in 300 hK68_J54_l1 rfl) dX10_laysCars_104 (fun H locs hP hD hS => ?_)
                      have h24 := ia_upd hJ68_a10 (Int32.toNatClampNeg J54_l1) (ib_w 0 20 h22 rfl)
                      have h25 : (upd J68_a10 (Int32.toNatClampNeg J54_l1) z20) (Int32.toNatClampNeg J54_l1) = z20 := pk_us
                      replace hP : va_P (dC, dI) vwCl [(a_this, .inr (10, mfs rm x_taped x_at x_end x_ended x_bad x_badPlace x_fault x_faultPlace x_namePlace x_awayTold x_away x_coded x_statements x_isCrossing J54_c0_55 J54_c0_58 x_redMany x_isOpen x_lastGreen x_greenTo x_isCycleGreen x_stillGreen x_rowMany x_fitMany x_fitRules x_fitGreen x_undoable x_newest x_seeded x_qCoded x_qWaits x_qOpened x_qBase J54_c0_117 x_qAnswer x_qIsNew x_octets)), (wi_rm49_0_6_0 rm cy g_codeFrom), (wi_rm50_0_6_0 rm cy g_codeEnd), (wi_rm116_1_1700_1 rm cy J54_a3), (wi_rm51_0_3200_0 rm cy g_codes), (wi_rm46_0_48_0 rm cy g_walkers), (wi_rm56_0_9_0 rm cy g_now), (wi_rm43_0_8_0 rm cy g_bar), (wi_rm65_0_12_0 rm cy g_waits), (wi_rm44_0_24_0 rm cy g_kinds), (wi_rm61_0_300_0 rm cy (upd J68_a10 (Int32.toNatClampNeg J54_l1) z20)), (wi_rm66_3_12_0 rm cy g_goes), (wi_rm67_3_12_0 rm cy g_harms), (wi_rm60_3_320_0 rm cy J54_a13)] H := hP
                      replace hD := k_D hP hD
                      generalize ef23 : upd J68_a10 (Int32.toNatClampNeg J54_l1) z20 = f23 at hP hD h24 h25
                      have Ef23 := lf_st ef23 (lf_ra J68_a10) (lf_rf J54_l1) Ez20
                      refine lv_goto (tgt := 68) hx hb dX10_laysCars_105 rfl ?_
                      exact ih68 f23 H locs ls (ib_w 0 299 hK68_J54_l1 rfl) (ib_w 0 1700 hK68_J54_c0_117 rfl) h24 (by rw [← hK68]; rw [lf_ua Ef23]; exact hq) (by rw [h25]; have q1 := h21.2; have q2 := congrArg Int32.toInt ez4; have q3 : (1 : Int32).toInt = 1 := rfl; omega) hP hD hS (lv_sub hl [0, 1] rfl)
        refine lv_iload_n hx hb dX10_laysCars_54 rfl (lv_at hl 1 rfl) ?_
        refine lv_sipush (v := 300) hx hb dX10_laysCars_55 rfl ?_
        refine lv_icmp_ge (tgt := 114) hx hb dX10_laysCars_58 rfl (fun c26 => ?_) (fun c26 => ?_)
        · replace hq := lf_pos hq (lf_le (lf_lc 300 (300 : Int) rfl) (lf_rf J54_l1) c26)
          have h27 := ib_le (ib_c 300 300 300 rfl) hJ54_l1 c26
          have h28 : ib J54_l1 300 300 := ib_w 300 300 h27.2 rfl
          subst hQ; exact k_vret hx hb hr hlk ((J54_c0_55, J54_c0_58, J54_c0_117, J54_a3, J54_a10, J54_a13)) hS ⟨ib_w 0 1700 hJ54_c0_117 rfl, hJ54_a10, (hO.symm.trans (by exact hq))⟩ hP hD (Nat.le_of_ble_eq_true rfl) (Nat.le_of_ble_eq_true rfl) dX10_laysCars_114
        · replace hq := lf_neg hq (lf_nle (lf_lc 300 (300 : Int) rfl) (lf_rf J54_l1) c26)
          have h29 := ib_nle (ib_c 300 300 300 rfl) hJ54_l1 c26
          have h30 : ib J54_l1 0 299 := ib_w 0 299 h29.2 rfl
          refine lv_aload_n hx hb dX10_laysCars_61 rfl (lv_at hl 0 rfl) ?_
          refine k_get C0 fg_X10_149 hP 0 rfl rfl dX10_laysCars_62 ?_
          refine lv_iload_n hx hb dX10_laysCars_65 rfl (lv_at hl 1 rfl) ?_
          refine lv_iconst (v := 0) hx hb dX10_laysCars_66 rfl ?_
          refine va_iast hx hb C0.2.2.2.2.2.1 hP hD hS 10 0 rfl rfl (ib_in 300 h30 rfl) dX10_laysCars_67 (fun H locs hP hD hS => ?_)
          have h32 := ia_upd hJ54_a10 (Int32.toNatClampNeg J54_l1) (ib_w 0 20 (ib_c 0 0 0 rfl) rfl)
          have h33 : (upd J54_a10 (Int32.toNatClampNeg J54_l1) 0) (Int32.toNatClampNeg J54_l1) = 0 := pk_us
          replace hP : va_P (dC, dI) vwCl [(a_this, .inr (10, mfs rm x_taped x_at x_end x_ended x_bad x_badPlace x_fault x_faultPlace x_namePlace x_awayTold x_away x_coded x_statements x_isCrossing J54_c0_55 J54_c0_58 x_redMany x_isOpen x_lastGreen x_greenTo x_isCycleGreen x_stillGreen x_rowMany x_fitMany x_fitRules x_fitGreen x_undoable x_newest x_seeded x_qCoded x_qWaits x_qOpened x_qBase J54_c0_117 x_qAnswer x_qIsNew x_octets)), (wi_rm49_0_6_0 rm cy g_codeFrom), (wi_rm50_0_6_0 rm cy g_codeEnd), (wi_rm116_1_1700_1 rm cy J54_a3), (wi_rm51_0_3200_0 rm cy g_codes), (wi_rm46_0_48_0 rm cy g_walkers), (wi_rm56_0_9_0 rm cy g_now), (wi_rm43_0_8_0 rm cy g_bar), (wi_rm65_0_12_0 rm cy g_waits), (wi_rm44_0_24_0 rm cy g_kinds), (wi_rm61_0_300_0 rm cy (upd J54_a10 (Int32.toNatClampNeg J54_l1) 0)), (wi_rm66_3_12_0 rm cy g_goes), (wi_rm67_3_12_0 rm cy g_harms), (wi_rm60_3_320_0 rm cy J54_a13)] H := hP
          replace hD := k_D hP hD
          generalize ef31 : upd J54_a10 (Int32.toNatClampNeg J54_l1) 0 = f31 at hP hD h32 h33
          have Ef31 := lf_st ef31 (lf_ra J54_a10) (lf_rf J54_l1) (lf_lc 0 (0 : Int) rfl)
          exact jn68 21 f31 H locs ls (ib_w 0 299 h30 rfl) (ib_w 0 1700 hJ54_c0_117 rfl) h32 (by rw [lf_ua Ef31]; exact hq) (by have q := (ia_at h32 (ib_in 300 h30 rfl)).1; omega) hP hD hS (lv_sub hl [0, 1] rfl)
  have jn2 : ∀ (n : Nat) (J2_l1 : Int32) (J2_c0_55 : Int32) (J2_c0_58 : Int32) (J2_c0_117 : Int32) (J2_a3 : Nat → Int64) (J2_a13 : Nat → Int32) (H : Heap) (locs : List Loc) (ls : Array Slot), ib J2_l1 0 320 → ib J2_c0_117 0 1700 → (O = F_X10_laysCars_2 (Int32.toInt x_redMany) (lf_A g_bar) (lf_A g_kinds) (lf_A g_walkers) (lf_A g_codeFrom) (lf_A g_codeEnd) (lf_A g_codes) (lf_A g_now) (lf_A g_gaps) (lf_A g_waits) (lf_A g_goes) (lf_A g_harms) n (Int32.toInt J2_l1) (Int32.toInt J2_c0_55) (Int32.toInt J2_c0_58) (Int32.toInt J2_c0_117) (lf_L J2_a3) (lf_A J2_a13)) → 321 ≤ J2_l1.toInt + (n : Int) → va_P (dC, dI) vwCl [(a_this, .inr (10, mfs rm x_taped x_at x_end x_ended x_bad x_badPlace x_fault x_faultPlace x_namePlace x_awayTold x_away x_coded x_statements x_isCrossing J2_c0_55 J2_c0_58 x_redMany x_isOpen x_lastGreen x_greenTo x_isCycleGreen x_stillGreen x_rowMany x_fitMany x_fitRules x_fitGreen x_undoable x_newest x_seeded x_qCoded x_qWaits x_qOpened x_qBase J2_c0_117 x_qAnswer x_qIsNew x_octets)), (wi_rm49_0_6_0 rm cy g_codeFrom), (wi_rm50_0_6_0 rm cy g_codeEnd), (wi_rm116_1_1700_1 rm cy J2_a3), (wi_rm51_0_3200_0 rm cy g_codes), (wi_rm46_0_48_0 rm cy g_walkers), (wi_rm56_0_9_0 rm cy g_now), (wi_rm43_0_8_0 rm cy g_bar), (wi_rm65_0_12_0 rm cy g_waits), (wi_rm44_0_24_0 rm cy g_kinds), (wi_rm61_0_300_0 rm cy g_gaps), (wi_rm66_3_12_0 rm cy g_goes), (wi_rm67_3_12_0 rm cy g_harms), (wi_rm60_3_320_0 rm cy J2_a13)] H → va_D A [(a_this, .inr (10, mfs rm x_taped x_at x_end x_ended x_bad x_badPlace x_fault x_faultPlace x_namePlace x_awayTold x_away x_coded x_statements x_isCrossing J2_c0_55 J2_c0_58 x_redMany x_isOpen x_lastGreen x_greenTo x_isCycleGreen x_stillGreen x_rowMany x_fitMany x_fitRules x_fitGreen x_undoable x_newest x_seeded x_qCoded x_qWaits x_qOpened x_qBase J2_c0_117 x_qAnswer x_qIsNew x_octets)), (wi_rm49_0_6_0 rm cy g_codeFrom), (wi_rm50_0_6_0 rm cy g_codeEnd), (wi_rm116_1_1700_1 rm cy J2_a3), (wi_rm51_0_3200_0 rm cy g_codes), (wi_rm46_0_48_0 rm cy g_walkers), (wi_rm56_0_9_0 rm cy g_now), (wi_rm43_0_8_0 rm cy g_bar), (wi_rm65_0_12_0 rm cy g_waits), (wi_rm44_0_24_0 rm cy g_kinds), (wi_rm61_0_300_0 rm cy g_gaps), (wi_rm66_3_12_0 rm cy g_goes), (wi_rm67_3_12_0 rm cy g_harms), (wi_rm60_3_320_0 rm cy J2_a13)] → va_S A s.heap H locs → lv_has ls 2 [(0, .ref a_this), (1, .int J2_l1)] → W p l e { frames := 4, cells := 0, slots := 0, locals := 88 } s m args below meth c H locs 0 0 Q (F0 m 2 ls []) := by
    as_aux_lemma =>
      intro n
      induction n with
      | zero =>
        intro J2_l1 J2_c0_55 J2_c0_58 J2_c0_117 J2_a3 J2_a13 H locs ls hJ2_l1 hJ2_c0_117 hq hm
        exact absurd hm (by have := hJ2_l1; unfold ib at this; omega)
      | succ n ih =>
        intro J2_l1 J2_c0_55 J2_c0_58 J2_c0_117 J2_a3 J2_a13 H locs ls hJ2_l1 hJ2_c0_117 hq hm2 hP hD hS hl
        have ih2 := ih
        obtain ⟨K2, hK2⟩ : ∃ K, K = F_X10_laysCars_2 (Int32.toInt x_redMany) (lf_A g_bar) (lf_A g_kinds) (lf_A g_walkers) (lf_A g_codeFrom) (lf_A g_codeEnd) (lf_A g_codes) (lf_A g_now) (lf_A g_gaps) (lf_A g_waits) (lf_A g_goes) (lf_A g_harms) n := ⟨_, rfl⟩
        have hq : O = F_X10_laysCars_2b (Int32.toInt x_redMany) (lf_A g_bar) (lf_A g_kinds) (lf_A g_walkers) (lf_A g_codeFrom) (lf_A g_codeEnd) (lf_A g_codes) (lf_A g_now) (lf_A g_gaps) (lf_A g_waits) (lf_A g_goes) (lf_A g_harms) K2 (Int32.toInt J2_l1) (Int32.toInt J2_c0_55) (Int32.toInt J2_c0_58) (Int32.toInt J2_c0_117) (lf_L J2_a3) (lf_A J2_a13) := by rw [hK2]; exact hq
        unfold F_X10_laysCars_2b at hq
        have jn45 : ∀ (J45_c0_117 : Int32) (J45_a3 : Nat → Int64) (J45_s0 : Int32) (J45_c0_55 : Int32) (H : Heap) (locs : List Loc) (ls : Array Slot), ib J2_l1 0 319 → ib J45_c0_117 0 1700 → ib J45_s0 0 1 → (O = F_X10_laysCars_45 (Int32.toInt J2_l1) (lf_A J2_a13) K2 (Int32.toInt J45_c0_117) (lf_L J45_a3) (Int32.toInt J45_s0) (Int32.toInt J45_c0_55)) → va_P (dC, dI) vwCl [(a_this, .inr (10, mfs rm x_taped x_at x_end x_ended x_bad x_badPlace x_fault x_faultPlace x_namePlace x_awayTold x_away x_coded x_statements x_isCrossing J45_c0_55 J2_l1 x_redMany x_isOpen x_lastGreen x_greenTo x_isCycleGreen x_stillGreen x_rowMany x_fitMany x_fitRules x_fitGreen x_undoable x_newest x_seeded x_qCoded x_qWaits x_qOpened x_qBase J45_c0_117 x_qAnswer x_qIsNew x_octets)), (wi_rm49_0_6_0 rm cy g_codeFrom), (wi_rm50_0_6_0 rm cy g_codeEnd), (wi_rm116_1_1700_1 rm cy J45_a3), (wi_rm51_0_3200_0 rm cy g_codes), (wi_rm46_0_48_0 rm cy g_walkers), (wi_rm56_0_9_0 rm cy g_now), (wi_rm43_0_8_0 rm cy g_bar), (wi_rm65_0_12_0 rm cy g_waits), (wi_rm44_0_24_0 rm cy g_kinds), (wi_rm61_0_300_0 rm cy g_gaps), (wi_rm66_3_12_0 rm cy g_goes), (wi_rm67_3_12_0 rm cy g_harms), (wi_rm60_3_320_0 rm cy J2_a13)] H → va_D A [(a_this, .inr (10, mfs rm x_taped x_at x_end x_ended x_bad x_badPlace x_fault x_faultPlace x_namePlace x_awayTold x_away x_coded x_statements x_isCrossing J45_c0_55 J2_l1 x_redMany x_isOpen x_lastGreen x_greenTo x_isCycleGreen x_stillGreen x_rowMany x_fitMany x_fitRules x_fitGreen x_undoable x_newest x_seeded x_qCoded x_qWaits x_qOpened x_qBase J45_c0_117 x_qAnswer x_qIsNew x_octets)), (wi_rm49_0_6_0 rm cy g_codeFrom), (wi_rm50_0_6_0 rm cy g_codeEnd), (wi_rm116_1_1700_1 rm cy J45_a3), (wi_rm51_0_3200_0 rm cy g_codes), (wi_rm46_0_48_0 rm cy g_walkers), (wi_rm56_0_9_0 rm cy g_now), (wi_rm43_0_8_0 rm cy g_bar), (wi_rm65_0_12_0 rm cy g_waits), (wi_rm44_0_24_0 rm cy g_kinds), (wi_rm61_0_300_0 rm cy g_gaps), (wi_rm66_3_12_0 rm cy g_goes), (wi_rm67_3_12_0 rm cy g_harms), (wi_rm60_3_320_0 rm cy J2_a13)] → va_S A s.heap H locs → lv_has ls 2 [(0, .ref a_this), (1, .int J2_l1)] → W p l e { frames := 4, cells := 0, slots := 0, locals := 88 } s m args below meth c H locs 0 0 Q (F0 m 45 ls [.int J45_s0, .int J2_l1, .ref (rm 60)]) := by
          intro J45_c0_117 J45_a3 J45_s0 J45_c0_55 H locs ls hK45_J2_l1 hJ45_c0_117 hJ45_s0 hq hP hD hS hl
          unfold F_X10_laysCars_45 at hq
          refine va_zast hx hb C0.2.2.2.2.2.1 hP hD hS 13 3 rfl rfl (ib_in 320 hK45_J2_l1 rfl) dX10_laysCars_45 (fun H locs hP hD hS => ?_)
          replace hP : va_P (dC, dI) vwCl [(a_this, .inr (10, mfs rm x_taped x_at x_end x_ended x_bad x_badPlace x_fault x_faultPlace x_namePlace x_awayTold x_away x_coded x_statements x_isCrossing J45_c0_55 J2_l1 x_redMany x_isOpen x_lastGreen x_greenTo x_isCycleGreen x_stillGreen x_rowMany x_fitMany x_fitRules x_fitGreen x_undoable x_newest x_seeded x_qCoded x_qWaits x_qOpened x_qBase J45_c0_117 x_qAnswer x_qIsNew x_octets)), (wi_rm49_0_6_0 rm cy g_codeFrom), (wi_rm50_0_6_0 rm cy g_codeEnd), (wi_rm116_1_1700_1 rm cy J45_a3), (wi_rm51_0_3200_0 rm cy g_codes), (wi_rm46_0_48_0 rm cy g_walkers), (wi_rm56_0_9_0 rm cy g_now), (wi_rm43_0_8_0 rm cy g_bar), (wi_rm65_0_12_0 rm cy g_waits), (wi_rm44_0_24_0 rm cy g_kinds), (wi_rm61_0_300_0 rm cy g_gaps), (wi_rm66_3_12_0 rm cy g_goes), (wi_rm67_3_12_0 rm cy g_harms), (wi_rm60_3_320_0 rm cy (upd J2_a13 (Int32.toNatClampNeg J2_l1) (vp_nar .boolean J45_s0)))] H := hP
          replace hD := k_D hP hD
          generalize ef34 : upd J2_a13 (Int32.toNatClampNeg J2_l1) (vp_nar .boolean J45_s0) = f34 at hP hD
          have Ef34 := lf_st (lf_nb ef34 (ib_w 0 1 hJ45_s0 rfl)) (lf_ra J2_a13) (lf_rf J2_l1) (lf_rf J45_s0)
          obtain ⟨z35, ez35⟩ : ∃ y : Int32, y = J2_l1 + 1 := ⟨_, rfl⟩
          refine lv_iinc (v := z35) (lv' := [(1, .int z35), (0, .ref a_this)]) hx hb dX10_laysCars_46 hl (k := 1) rfl (by rw [ez35]; rfl) (Nat.le_of_ble_eq_true rfl) rfl (fun ls hl => ?_)
          have h36 := ib_add hK45_J2_l1 (ib_c 1 1 1 rfl) rfl
          rw [← ez35] at h36
          have h37 : ib z35 1 320 := ib_w 1 320 h36.1 rfl
          have Ez35 := lf_add h36.2 (lf_rf J2_l1) (lf_lc 1 (1 : Int) rfl)
          refine lv_goto (tgt := 2) hx hb dX10_laysCars_49 rfl ?_
          exact ih2 z35 J45_c0_55 J2_l1 J45_c0_117 J45_a3 f34 H locs ls (ib_w 0 320 h37 rfl) (ib_w 0 1700 hJ45_c0_117 rfl) (by rw [← hK2]; rw [lf_u Ez35]; rw [lf_ua Ef34]; exact hq) (by have := h36.2; have : (1 : Int32).toInt = 1 := rfl; omega) hP hD hS (lv_sub hl [1, 0] rfl)
        have jn44 : ∀ (J44_c0_55 : Int32) (J44_c0_117 : Int32) (J44_a3 : Nat → Int64) (H : Heap) (locs : List Loc) (ls : Array Slot), ib J2_l1 0 319 → ib J44_c0_117 0 1700 → (O = F_X10_laysCars_44 (Int32.toInt J2_l1) (lf_A J2_a13) K2 (Int32.toInt J44_c0_55) (Int32.toInt J44_c0_117) (lf_L J44_a3)) → va_P (dC, dI) vwCl [(a_this, .inr (10, mfs rm x_taped x_at x_end x_ended x_bad x_badPlace x_fault x_faultPlace x_namePlace x_awayTold x_away x_coded x_statements x_isCrossing J44_c0_55 J2_l1 x_redMany x_isOpen x_lastGreen x_greenTo x_isCycleGreen x_stillGreen x_rowMany x_fitMany x_fitRules x_fitGreen x_undoable x_newest x_seeded x_qCoded x_qWaits x_qOpened x_qBase J44_c0_117 x_qAnswer x_qIsNew x_octets)), (wi_rm49_0_6_0 rm cy g_codeFrom), (wi_rm50_0_6_0 rm cy g_codeEnd), (wi_rm116_1_1700_1 rm cy J44_a3), (wi_rm51_0_3200_0 rm cy g_codes), (wi_rm46_0_48_0 rm cy g_walkers), (wi_rm56_0_9_0 rm cy g_now), (wi_rm43_0_8_0 rm cy g_bar), (wi_rm65_0_12_0 rm cy g_waits), (wi_rm44_0_24_0 rm cy g_kinds), (wi_rm61_0_300_0 rm cy g_gaps), (wi_rm66_3_12_0 rm cy g_goes), (wi_rm67_3_12_0 rm cy g_harms), (wi_rm60_3_320_0 rm cy J2_a13)] H → va_D A [(a_this, .inr (10, mfs rm x_taped x_at x_end x_ended x_bad x_badPlace x_fault x_faultPlace x_namePlace x_awayTold x_away x_coded x_statements x_isCrossing J44_c0_55 J2_l1 x_redMany x_isOpen x_lastGreen x_greenTo x_isCycleGreen x_stillGreen x_rowMany x_fitMany x_fitRules x_fitGreen x_undoable x_newest x_seeded x_qCoded x_qWaits x_qOpened x_qBase J44_c0_117 x_qAnswer x_qIsNew x_octets)), (wi_rm49_0_6_0 rm cy g_codeFrom), (wi_rm50_0_6_0 rm cy g_codeEnd), (wi_rm116_1_1700_1 rm cy J44_a3), (wi_rm51_0_3200_0 rm cy g_codes), (wi_rm46_0_48_0 rm cy g_walkers), (wi_rm56_0_9_0 rm cy g_now), (wi_rm43_0_8_0 rm cy g_bar), (wi_rm65_0_12_0 rm cy g_waits), (wi_rm44_0_24_0 rm cy g_kinds), (wi_rm61_0_300_0 rm cy g_gaps), (wi_rm66_3_12_0 rm cy g_goes), (wi_rm67_3_12_0 rm cy g_harms), (wi_rm60_3_320_0 rm cy J2_a13)] → va_S A s.heap H locs → lv_has ls 2 [(0, .ref a_this), (1, .int J2_l1)] → W p l e { frames := 4, cells := 0, slots := 0, locals := 88 } s m args below meth c H locs 0 0 Q (F0 m 44 ls [.int J2_l1, .ref (rm 60)]) := by
          intro J44_c0_55 J44_c0_117 J44_a3 H locs ls hK44_J2_l1 hJ44_c0_117 hq hP hD hS hl
          unfold F_X10_laysCars_44 at hq
          refine lv_iconst (v := 0) hx hb dX10_laysCars_44 rfl ?_
          exact jn45 J44_c0_117 J44_a3 0 J44_c0_55 H locs ls (ib_w 0 319 hK44_J2_l1 rfl) (ib_w 0 1700 hJ44_c0_117 rfl) (ib_w 0 1 (ib_c 0 0 0 rfl) rfl) (by try simp only [show (0 : Int32).toInt = (0 : Int) from rfl]; exact hq) hP hD hS (lv_sub hl [0, 1] rfl)
        refine lv_iload_n hx hb dX10_laysCars_2 rfl (lv_at hl 1 rfl) ?_
        refine lv_sipush (v := 320) hx hb dX10_laysCars_3 rfl ?_
        refine lv_icmp_ge (tgt := 52) hx hb dX10_laysCars_6 rfl (fun c38 => ?_) (fun c38 => ?_)
        · replace hq := lf_pos hq (lf_le (lf_lc 320 (320 : Int) rfl) (lf_rf J2_l1) c38)
          have h39 := ib_le (ib_c 320 320 320 rfl) hJ2_l1 c38
          have h40 : ib J2_l1 320 320 := ib_w 320 320 h39.2 rfl
          refine lv_iconst (v := 0) hx hb dX10_laysCars_52 rfl ?_
          refine lv_istore_n (lv' := [(1, .int 0), (0, .ref a_this)]) hx hb dX10_laysCars_53 rfl hl (Nat.le_of_ble_eq_true rfl) rfl (fun ls hl => ?_)
          exact jn54 302 J2_c0_55 J2_c0_58 J2_c0_117 J2_a3 J2_a13 0 g_gaps H locs ls (ib_w 0 1700 hJ2_c0_117 rfl) (ib_w 0 300 (ib_c 0 0 0 rfl) rfl) hg_gaps (by try simp only [show (0 : Int32).toInt = (0 : Int) from rfl]; exact hq) (by have := (ib_c 0 0 0 rfl); unfold ib at this; omega) hP hD hS (lv_sub hl [1, 0] rfl)
        · as_aux_lemma =>
            replace hq := lf_neg hq (lf_nle (lf_lc 320 (320 : Int) rfl) (lf_rf J2_l1) c38)
            have h41 := ib_nle (ib_c 320 320 320 rfl) hJ2_l1 c38
            have h42 : ib J2_l1 0 319 := ib_w 0 319 h41.2 rfl
            refine lv_aload_n hx hb dX10_laysCars_9 rfl (lv_at hl 0 rfl) ?_
            refine lv_iload_n hx hb dX10_laysCars_10 rfl (lv_at hl 1 rfl) ?_
            refine k_put C0 fp_X10_454 hP hD hS 0 rfl rfl rfl (Nat.le_of_ble_eq_true rfl) dX10_laysCars_11 (fun H locs hP hD hS => ?_)
            replace hP : va_P (dC, dI) vwCl [(a_this, .inr (10, mfs rm x_taped x_at x_end x_ended x_bad x_badPlace x_fault x_faultPlace x_namePlace x_awayTold x_away x_coded x_statements x_isCrossing J2_c0_55 J2_l1 x_redMany x_isOpen x_lastGreen x_greenTo x_isCycleGreen x_stillGreen x_rowMany x_fitMany x_fitRules x_fitGreen x_undoable x_newest x_seeded x_qCoded x_qWaits x_qOpened x_qBase J2_c0_117 x_qAnswer x_qIsNew x_octets)), (wi_rm49_0_6_0 rm cy g_codeFrom), (wi_rm50_0_6_0 rm cy g_codeEnd), (wi_rm116_1_1700_1 rm cy J2_a3), (wi_rm51_0_3200_0 rm cy g_codes), (wi_rm46_0_48_0 rm cy g_walkers), (wi_rm56_0_9_0 rm cy g_now), (wi_rm43_0_8_0 rm cy g_bar), (wi_rm65_0_12_0 rm cy g_waits), (wi_rm44_0_24_0 rm cy g_kinds), (wi_rm61_0_300_0 rm cy g_gaps), (wi_rm66_3_12_0 rm cy g_goes), (wi_rm67_3_12_0 rm cy g_harms), (wi_rm60_3_320_0 rm cy J2_a13)] H := hP
            replace hD := k_D hP hD
            refine lv_aload_n hx hb dX10_laysCars_14 rfl (lv_at hl 0 rfl) ?_
            refine k_get C0 fg_X10_145 hP 0 rfl rfl dX10_laysCars_15 ?_
            refine lv_iload_n hx hb dX10_laysCars_18 rfl (lv_at hl 1 rfl) ?_
            refine lv_aload_n hx hb dX10_laysCars_19 rfl (lv_at hl 0 rfl) ?_
            refine k_get C0 fg_X10_130 hP 0 rfl rfl dX10_laysCars_20 ?_
            refine lv_iconst (v := 3) hx hb dX10_laysCars_23 rfl ?_
            refine va_iald hx hb C0.2.2.2.2.2.1 hP 1 0 rfl rfl (k_in 3 6 rfl) dX10_laysCars_24 ?_
            refine k_topi (y := g_codeFrom 3) rfl ?_
            refine lv_iconst (v := (-1)) hx hb dX10_laysCars_25 rfl ?_
            refine lv_icmp_eq (tgt := 44) hx hb dX10_laysCars_26 rfl (fun c43 => ?_) (fun c43 => ?_)
            · replace hq := lf_pos hq (lf_eq (lf_pt (lf_ra g_codeFrom) 3) (lf_lc (-1) (-1 : Int) rfl) c43)
              have h44 := ib_eq hg_codeFrom_3 (ib_c (-1) (-1) (-1) rfl) c43
              have h45 : ib (g_codeFrom 3) (-1) (-1) := ib_w (-1) (-1) h44.1 rfl
              exact jn44 J2_c0_55 J2_c0_117 J2_a3 H locs ls (ib_w 0 319 h42 rfl) (ib_w 0 1700 hJ2_c0_117 rfl) (by exact hq) hP hD hS (lv_sub hl [0, 1] rfl)
            · as_aux_lemma =>
                replace hq := lf_neg hq (lf_ne (lf_pt (lf_ra g_codeFrom) 3) (lf_lc (-1) (-1 : Int) rfl) c43)
                have h46 : ib (g_codeFrom 3) 0 1600 := ib_w 0 1600 (ib_ne_lo (-1) hg_codeFrom_3 rfl c43) rfl
                refine lv_aload_n hx hb dX10_laysCars_29 rfl (lv_at hl 0 rfl) ?_
                refine lv_iconst (v := 0) hx hb dX10_laysCars_30 rfl ?_
                refine lv_iconst (v := 0) hx hb dX10_laysCars_31 rfl ?_
                refine k_jlm hP hD hS hA [0, 1, 2, 3, 4, 5, 6, 7, 8, 9, 10, 11, 12] [false, false, false, false, false, false, false, false, false, false, false, false, false, true] rfl rfl (by decide +kernel) 0 0 (Nat.le_of_ble_eq_true rfl) (Nat.le_of_ble_eq_true rfl) (fun hPc hDc => k_runV (As := [.int 0, .int 0]) (rest := [.int J2_l1, .ref (rm 60)]) C0 hZ hS hA (s_X10_codesTell_a0_0 l dC dI cy sq a_this rm x_taped x_at x_end x_ended x_bad x_badPlace x_fault x_faultPlace x_namePlace x_awayTold x_away x_coded x_statements x_isCrossing J2_c0_55 J2_l1 x_redMany x_isOpen x_lastGreen x_greenTo x_isCycleGreen x_stillGreen x_rowMany x_fitMany x_fitRules x_fitGreen x_undoable x_newest x_seeded x_qCoded x_qWaits x_qOpened x_qBase J2_c0_117 x_qAnswer x_qIsNew x_octets g_bar g_kinds g_walkers g_codeFrom g_codeEnd g_codes g_now g_gaps g_waits g_goes g_harms J2_a3 0 (ib_w 10 120 hg_bar_4 rfl) hpg_walkers (ib_w 0 1600 h46 rfl) (ib_w 0 1600 hg_codeEnd_3 rfl) hg_gaps hG0 (ib_w 0 11 (ib_c 0 0 0 rfl) rfl)) mV_X10_457 hPc hDc rfl rfl rfl hl rfl rfl (Nat.le_of_ble_eq_true rfl) ⟨(Nat.le_of_ble_eq_true rfl), (Nat.le_of_ble_eq_true rfl)⟩ ⟨(Nat.le_of_ble_eq_true rfl), (Nat.le_of_ble_eq_true rfl)⟩ dX10_laysCars_32) (fun r47 u48 H locs hw hP hD hS => ?_)
                obtain ⟨v49, f50⟩ := u48
                try dsimp only at hP hD hw
                replace hP : va_P (dC, dI) vwCl [(wi_rm60_3_320_0 rm cy J2_a13), (a_this, .inr (10, mfs rm x_taped x_at x_end x_ended x_bad x_badPlace x_fault x_faultPlace x_namePlace x_awayTold x_away x_coded x_statements x_isCrossing 0 J2_l1 x_redMany x_isOpen x_lastGreen x_greenTo x_isCycleGreen x_stillGreen x_rowMany x_fitMany x_fitRules x_fitGreen x_undoable x_newest x_seeded x_qCoded x_qWaits x_qOpened x_qBase v49 x_qAnswer x_qIsNew x_octets)), (wi_rm49_0_6_0 rm cy g_codeFrom), (wi_rm50_0_6_0 rm cy g_codeEnd), (wi_rm116_1_1700_1 rm cy f50), (wi_rm51_0_3200_0 rm cy g_codes), (wi_rm46_0_48_0 rm cy g_walkers), (wi_rm56_0_9_0 rm cy g_now), (wi_rm43_0_8_0 rm cy g_bar), (wi_rm65_0_12_0 rm cy g_waits), (wi_rm44_0_24_0 rm cy g_kinds), (wi_rm61_0_300_0 rm cy g_gaps), (wi_rm66_3_12_0 rm cy g_goes), (wi_rm67_3_12_0 rm cy g_harms)] H := hP
                replace hD := k_D hP hD
                obtain ⟨h51, h52⟩ := hw
                have h52 := by have h9 := h52; try simp only [show (0 : Int32).toInt = (0 : Int) from rfl] at h9; exact h9
                replace hq := lf_p1 hq h52
                replace hq := lf_p1 hq rfl
                refine lv_lconst (v := 1) hx hb dX10_laysCars_35 (by decide) ?_
                refine W.lcmp hx hb dX10_laysCars_36 ?_
                refine lv_topi (fun z53 ez53 => ?_)
                have h54 : ib z53 (-1) 1 := by rw [ez53]; exact ib_cmp _ _
                have Ez53 := lf_cmpe ez53 (lf_rl r47) (lf_ll 1 (1 : Int) rfl)
                refine lv_if_ne (tgt := 44) hx hb dX10_laysCars_37 rfl (fun c55 => ?_) (fun c55 => ?_)
                · replace hq := lf_neg hq (lf_ne Ez53 (lf_lc 0 (0 : Int) rfl) c55)
                  exact jn44 0 v49 f50 H locs ls (ib_w 0 319 h42 rfl) (ib_w 0 1700 h51 rfl) (by try simp only [show (0 : Int32).toInt = (0 : Int) from rfl]; exact hq) (hP.sub [1, 2, 3, 4, 5, 6, 7, 8, 9, 10, 11, 12, 13, 0] rfl) (hD.sub [1, 2, 3, 4, 5, 6, 7, 8, 9, 10, 11, 12, 13, 0] (by decide +kernel) rfl) hS (lv_sub hl [0, 1] rfl)
                · replace hq := lf_pos hq (lf_eq Ez53 (lf_lc 0 (0 : Int) rfl) c55)
                  have h56 := ib_eq h54 (ib_c 0 0 0 rfl) c55
                  have h57 : ib z53 0 0 := ib_w 0 0 h56.1 rfl
                  refine lv_iconst (v := 1) hx hb dX10_laysCars_40 rfl ?_
                  refine lv_goto (tgt := 45) hx hb dX10_laysCars_41 rfl ?_
                  exact jn45 v49 f50 1 0 H locs ls (ib_w 0 319 h42 rfl) (ib_w 0 1700 h51 rfl) (ib_w 0 1 (ib_c 1 1 1 rfl) rfl) (by try simp only [show (1 : Int32).toInt = (1 : Int) from rfl]; try simp only [show (0 : Int32).toInt = (0 : Int) from rfl]; exact hq) (hP.sub [1, 2, 3, 4, 5, 6, 7, 8, 9, 10, 11, 12, 13, 0] rfl) (hD.sub [1, 2, 3, 4, 5, 6, 7, 8, 9, 10, 11, 12, 13, 0] (by decide +kernel) rfl) hS (lv_sub hl [0, 1] rfl)
  refine lv_iconst (v := 0) hx hb dX10_laysCars_0 rfl ?_
  refine lv_istore_n (lv' := [(1, .int 0), (0, .ref a_this)]) hx hb dX10_laysCars_1 rfl hl (Nat.le_of_ble_eq_true rfl) rfl (fun ls hl => ?_)
  exact jn2 322 0 x_textKind x_askSecond x_qPiled g_qPile g_isCar H locs ls (ib_w 0 320 (ib_c 0 0 0 rfl) rfl) (ib_w 0 1700 hx_qPiled rfl) (by try simp only [show (0 : Int32).toInt = (0 : Int) from rfl]; exact hq) (by have := (ib_c 0 0 0 rfl); unfold ib at this; omega) hP hD hS (lv_sub hl [1, 0] rfl)
set_option maxHeartbeats 4000000 in
set_option maxRecDepth 100000 in
theorem s_X10_isLit (l : Launch) (dC : Nat → ClassId) (dI : Nat → Nat → Nat) (cy : Nat → ClassId) (sq : Nat → Nat) (a_this : Nat) (rm : Nat → Nat) (x_taped : Int32) (x_at : Int32) (x_end : Int32) (x_ended : Int32) (x_bad : Int32) (x_badPlace : Int32) (x_fault : Int32) (x_faultPlace : Int32) (x_namePlace : Int32) (x_awayTold : Int32) (x_away : Int32) (x_coded : Int32) (x_statements : Int32) (x_isCrossing : Int32) (x_textKind : Int32) (x_askSecond : Int32) (x_redMany : Int32) (x_isOpen : Int32) (x_lastGreen : Int32) (x_greenTo : Int32) (x_isCycleGreen : Int32) (x_stillGreen : Int32) (x_rowMany : Int32) (x_fitMany : Int32) (x_fitRules : Int32) (x_fitGreen : Int32) (x_undoable : Int32) (x_newest : Int32) (x_seeded : Int64) (x_qCoded : Int32) (x_qWaits : Int32) (x_qOpened : Int32) (x_qBase : Int32) (x_qPiled : Int32) (x_qAnswer : Int64) (x_qIsNew : Int32) (x_octets : Int32) (g_bar : Nat → Int32) (p0 : Int32) (p1 : Int32) (p2 : Int32) (hx_isOpen : ib x_isOpen 0 1) (hx_isCycleGreen : ib x_isCycleGreen 0 1) (hg_bar_4 : ib (g_bar 4) 10 120) (hp0 : ib p0 0 299) : k_Met l yX10_isLit cX10_isLit 5 (some .boolean) { frames := 0, cells := 0, slots := 0, locals := 0 } dC dI cy sq [.ref a_this, .int p0, .int p1, .int p2] [(a_this, .inr (10, mfs rm x_taped x_at x_end x_ended x_bad x_badPlace x_fault x_faultPlace x_namePlace x_awayTold x_away x_coded x_statements x_isCrossing x_textKind x_askSecond x_redMany x_isOpen x_lastGreen x_greenTo x_isCycleGreen x_stillGreen x_rowMany x_fitMany x_fitRules x_fitGreen x_undoable x_newest x_seeded x_qCoded x_qWaits x_qOpened x_qBase x_qPiled x_qAnswer x_qIsNew x_octets)), (wi_rm43_0_8_0 rm cy g_bar)] (k_Qi dC dI (fun (r : Int32) (u : Int32 × Int32 × Int32 × Int32 × Int32) => match u with | (n0, n1, n2, n3, n4) => ib n0 0 1 ∧ ib n3 0 1 ∧ ib r 0 1 ∧ (F_X10_isLit (Int32.toInt x_isOpen) (Int32.toInt x_lastGreen) (Int32.toInt x_greenTo) (Int32.toInt x_isCycleGreen) (lf_A g_bar) (Int32.toInt p0) (Int32.toInt p1) (Int32.toInt p2) = ((Int32.toInt r), (Int32.toInt n0), (Int32.toInt n1), (Int32.toInt n2), (Int32.toInt n3), (Int32.toInt n4)))) (fun u : Int32 × Int32 × Int32 × Int32 × Int32 => match u with | (n0, n1, n2, n3, n4) => [(a_this, .inr (10, mfs rm x_taped x_at x_end x_ended x_bad x_badPlace x_fault x_faultPlace x_namePlace x_awayTold x_away x_coded x_statements x_isCrossing x_textKind x_askSecond x_redMany n0 n1 n2 n3 n4 x_rowMany x_fitMany x_fitRules x_fitGreen x_undoable x_newest x_seeded x_qCoded x_qWaits x_qOpened x_qBase x_qPiled x_qAnswer x_qIsNew x_octets)), (wi_rm43_0_8_0 rm cy g_bar)])) := by
  refine k_ofW2 (by decide +kernel) (Nat.le_of_ble_eq_true rfl) ?_
  intro p e s m below meth c A ls H locs args Q hQ C0 hZ hr hlk hin hP hD hA hS hl
  have C0 : k_cx p s m args c cX10_isLit 5 RX10 dC dI cy sq := C0
  have hx := C0.1
  have hb := C0.2.1
  have hl : lv_has ls 5 [(0, .ref a_this), (1, .int p0), (2, .int p1), (3, .int p2)] := hl
  obtain ⟨O, hO⟩ : ∃ o, o = F_X10_isLit (Int32.toInt x_isOpen) (Int32.toInt x_lastGreen) (Int32.toInt x_greenTo) (Int32.toInt x_isCycleGreen) (lf_A g_bar) (Int32.toInt p0) (Int32.toInt p1) (Int32.toInt p2) := ⟨_, rfl⟩
  have hq := hO
  unfold F_X10_isLit at hq
  have jn135 : ∀ (J135_l4 : Int32) (J135_c0_74 : Int32) (J135_c0_70 : Int32) (J135_c0_72 : Int32) (H : Heap) (locs : List Loc) (ls : Array Slot), ib J135_l4 0 119 → ib J135_c0_70 0 1 → (O = F_X10_isLit_135 (Int32.toInt x_lastGreen) (Int32.toInt x_isCycleGreen) (Int32.toInt p0) (Int32.toInt J135_l4) (Int32.toInt J135_c0_74) (Int32.toInt J135_c0_70) (Int32.toInt J135_c0_72)) → va_P (dC, dI) vwCl [(a_this, .inr (10, mfs rm x_taped x_at x_end x_ended x_bad x_badPlace x_fault x_faultPlace x_namePlace x_awayTold x_away x_coded x_statements x_isCrossing x_textKind x_askSecond x_redMany J135_c0_70 x_lastGreen J135_c0_72 x_isCycleGreen J135_c0_74 x_rowMany x_fitMany x_fitRules x_fitGreen x_undoable x_newest x_seeded x_qCoded x_qWaits x_qOpened x_qBase x_qPiled x_qAnswer x_qIsNew x_octets)), (wi_rm43_0_8_0 rm cy g_bar)] H → va_D A [(a_this, .inr (10, mfs rm x_taped x_at x_end x_ended x_bad x_badPlace x_fault x_faultPlace x_namePlace x_awayTold x_away x_coded x_statements x_isCrossing x_textKind x_askSecond x_redMany J135_c0_70 x_lastGreen J135_c0_72 x_isCycleGreen J135_c0_74 x_rowMany x_fitMany x_fitRules x_fitGreen x_undoable x_newest x_seeded x_qCoded x_qWaits x_qOpened x_qBase x_qPiled x_qAnswer x_qIsNew x_octets)), (wi_rm43_0_8_0 rm cy g_bar)] → va_S A s.heap H locs → lv_has ls 5 [(0, .ref a_this), (1, .int p0), (2, .int p1), (3, .int p2), (4, .int J135_l4)] → W p l e { frames := 0, cells := 0, slots := 0, locals := 0 } s m args below meth c H locs 0 0 Q (F0 m 135 ls []) := by
    as_aux_lemma =>
      intro J135_l4 J135_c0_74 J135_c0_70 J135_c0_72 H locs ls hJ135_l4 hJ135_c0_70 hq hP hD hS hl
      unfold F_X10_isLit_135 at hq
      refine lv_aload_n hx hb dX10_isLit_135 rfl (lv_at hl 0 rfl) ?_
      refine lv_aload_n hx hb dX10_isLit_136 rfl (lv_at hl 0 rfl) ?_
      refine k_get C0 fg_X10_475 hP 0 rfl rfl dX10_isLit_137 ?_
      refine lv_iload_n hx hb dX10_isLit_140 rfl (lv_at hl 1 rfl) ?_
      refine lv_isub hx hb dX10_isLit_141 ?_
      refine lv_topi (fun z1 ez1 => ?_)
      have Ez1 := lf_op lf_isub ez1 (lf_rf J135_c0_72) (lf_rf p0)
      refine lv_iconst (v := 1) hx hb dX10_isLit_142 rfl ?_
      refine lv_iadd hx hb dX10_isLit_143 ?_
      refine lv_topi (fun z2 ez2 => ?_)
      have Ez2 := lf_op lf_iadd ez2 Ez1 (lf_lc 1 (1 : Int) rfl)
      refine k_put C0 fp_X10_469 hP hD hS 0 rfl rfl rfl (Nat.le_of_ble_eq_true rfl) dX10_isLit_144 (fun H locs hP hD hS => ?_)
      replace hP : va_P (dC, dI) vwCl [(a_this, .inr (10, mfs rm x_taped x_at x_end x_ended x_bad x_badPlace x_fault x_faultPlace x_namePlace x_awayTold x_away x_coded x_statements x_isCrossing x_textKind x_askSecond x_redMany J135_c0_70 x_lastGreen J135_c0_72 x_isCycleGreen z2 x_rowMany x_fitMany x_fitRules x_fitGreen x_undoable x_newest x_seeded x_qCoded x_qWaits x_qOpened x_qBase x_qPiled x_qAnswer x_qIsNew x_octets)), (wi_rm43_0_8_0 rm cy g_bar)] H := hP
      replace hD := k_D hP hD
      refine lv_iload_n hx hb dX10_isLit_147 rfl (lv_at hl 1 rfl) ?_
      refine lv_aload_n hx hb dX10_isLit_148 rfl (lv_at hl 0 rfl) ?_
      refine k_get C0 fg_X10_475 hP 0 rfl rfl dX10_isLit_149 ?_
      refine lv_icmp_le (tgt := 157) hx hb dX10_isLit_152 rfl (fun c3 => ?_) (fun c3 => ?_)
      · replace hq := lf_pos hq (lf_le (lf_rf p0) (lf_rf J135_c0_72) c3)
        have h4 := ib_le hp0 (ib_any J135_c0_72) c3
        have h5 : ib J135_c0_72 0 2147483647 := ib_w 0 2147483647 h4.2 rfl
        refine lv_aload_n hx hb dX10_isLit_157 rfl (lv_at hl 0 rfl) ?_
        refine lv_iload_n hx hb dX10_isLit_158 rfl (lv_at hl 1 rfl) ?_
        refine k_put C0 fp_X10_478 hP hD hS 0 rfl rfl rfl (Nat.le_of_ble_eq_true rfl) dX10_isLit_159 (fun H locs hP hD hS => ?_)
        replace hP : va_P (dC, dI) vwCl [(a_this, .inr (10, mfs rm x_taped x_at x_end x_ended x_bad x_badPlace x_fault x_faultPlace x_namePlace x_awayTold x_away x_coded x_statements x_isCrossing x_textKind x_askSecond x_redMany J135_c0_70 p0 J135_c0_72 x_isCycleGreen z2 x_rowMany x_fitMany x_fitRules x_fitGreen x_undoable x_newest x_seeded x_qCoded x_qWaits x_qOpened x_qBase x_qPiled x_qAnswer x_qIsNew x_octets)), (wi_rm43_0_8_0 rm cy g_bar)] H := hP
        replace hD := k_D hP hD
        refine lv_iconst (v := 1) hx hb dX10_isLit_162 rfl ?_
        subst hQ; exact k_iret hx hb hr hlk (k_nb 1 rfl) ((J135_c0_70, p0, J135_c0_72, x_isCycleGreen, z2)) hS ⟨ib_w 0 1 hJ135_c0_70 rfl, ib_w 0 1 hx_isCycleGreen rfl, ib_w 0 1 (ib_c 1 1 1 rfl) rfl, (hO.symm.trans (by try simp only [show (1 : Int32).toInt = (1 : Int) from rfl]; rw [lf_u Ez2]; exact hq))⟩ hP hD (Nat.le_of_ble_eq_true rfl) (Nat.le_of_ble_eq_true rfl) dX10_isLit_163
      · replace hq := lf_neg hq (lf_nle (lf_rf p0) (lf_rf J135_c0_72) c3)
        have h6 := ib_nle hp0 (ib_any J135_c0_72) c3
        have h7 : ib J135_c0_72 (-2147483648) 298 := ib_w (-2147483648) 298 h6.2 rfl
        refine lv_iconst (v := 0) hx hb dX10_isLit_155 rfl ?_
        subst hQ; exact k_iret hx hb hr hlk (k_nb 0 rfl) ((J135_c0_70, x_lastGreen, J135_c0_72, x_isCycleGreen, z2)) hS ⟨ib_w 0 1 hJ135_c0_70 rfl, ib_w 0 1 hx_isCycleGreen rfl, ib_w 0 1 (ib_c 0 0 0 rfl) rfl, (hO.symm.trans (by try simp only [show (0 : Int32).toInt = (0 : Int) from rfl]; rw [lf_u Ez2]; exact hq))⟩ hP hD (Nat.le_of_ble_eq_true rfl) (Nat.le_of_ble_eq_true rfl) dX10_isLit_156
  have jn111 : ∀ (J111_l4 : Int32) (J111_s0 : Int32) (J111_c0_74 : Int32) (H : Heap) (locs : List Loc) (ls : Array Slot), ib J111_l4 0 119 → ib x_isOpen 1 1 → ib x_greenTo (-2147483648) 298 → (O = F_X10_isLit_111 (Int32.toInt x_isOpen) (Int32.toInt x_lastGreen) (Int32.toInt x_greenTo) (Int32.toInt x_isCycleGreen) (lf_A g_bar) (Int32.toInt p0) (Int32.toInt p2) (Int32.toInt J111_l4) (Int32.toInt J111_s0) (Int32.toInt J111_c0_74)) → va_P (dC, dI) vwCl [(a_this, .inr (10, mfs rm x_taped x_at x_end x_ended x_bad x_badPlace x_fault x_faultPlace x_namePlace x_awayTold x_away x_coded x_statements x_isCrossing x_textKind x_askSecond x_redMany x_isOpen x_lastGreen x_greenTo x_isCycleGreen J111_c0_74 x_rowMany x_fitMany x_fitRules x_fitGreen x_undoable x_newest x_seeded x_qCoded x_qWaits x_qOpened x_qBase x_qPiled x_qAnswer x_qIsNew x_octets)), (wi_rm43_0_8_0 rm cy g_bar)] H → va_D A [(a_this, .inr (10, mfs rm x_taped x_at x_end x_ended x_bad x_badPlace x_fault x_faultPlace x_namePlace x_awayTold x_away x_coded x_statements x_isCrossing x_textKind x_askSecond x_redMany x_isOpen x_lastGreen x_greenTo x_isCycleGreen J111_c0_74 x_rowMany x_fitMany x_fitRules x_fitGreen x_undoable x_newest x_seeded x_qCoded x_qWaits x_qOpened x_qBase x_qPiled x_qAnswer x_qIsNew x_octets)), (wi_rm43_0_8_0 rm cy g_bar)] → va_S A s.heap H locs → lv_has ls 5 [(0, .ref a_this), (1, .int p0), (2, .int p1), (3, .int p2), (4, .int J111_l4)] → W p l e { frames := 0, cells := 0, slots := 0, locals := 0 } s m args below meth c H locs 0 0 Q (F0 m 111 ls [.int J111_s0]) := by
    as_aux_lemma =>
      intro J111_l4 J111_s0 J111_c0_74 H locs ls hJ111_l4 hK111_x_isOpen hK111_x_greenTo hq hP hD hS hl
      unfold F_X10_isLit_111 at hq
      refine lv_aload_n hx hb dX10_isLit_111 rfl (lv_at hl 0 rfl) ?_
      refine k_get C0 fg_X10_118 hP 0 rfl rfl dX10_isLit_112 ?_
      refine lv_bipush (v := 7) hx hb dX10_isLit_115 rfl ?_
      refine va_iald hx hb C0.2.2.2.2.2.1 hP 1 0 rfl rfl (k_in 7 8 rfl) dX10_isLit_117 ?_
      refine lv_topi (fun z8 ez8 => ?_)
      have Ez8 := lf_ld ez8 (lf_ra g_bar) (lf_lc 7 (7 : Int) rfl)
      refine lv_icmp_lt (tgt := 135) hx hb dX10_isLit_118 rfl (fun c9 => ?_) (fun c9 => ?_)
      · replace hq := lf_pos hq (lf_lt (lf_rf J111_s0) Ez8 c9)
        have h10 := ib_lt (ib_any J111_s0) (ib_any z8) c9
        have h11 : ib J111_s0 (-2147483648) 2147483646 := ib_w (-2147483648) 2147483646 h10.1 rfl
        have h12 : ib z8 (-2147483647) 2147483647 := ib_w (-2147483647) 2147483647 h10.2 rfl
        exact jn135 J111_l4 J111_c0_74 x_isOpen x_greenTo H locs ls (ib_w 0 119 hJ111_l4 rfl) (ib_w 0 1 hK111_x_isOpen rfl) (by exact hq) hP hD hS (lv_sub hl [0, 1, 2, 3, 4] rfl)
      · as_aux_lemma =>
          replace hq := lf_neg hq (lf_nlt (lf_rf J111_s0) Ez8 c9)
          have h13 := ib_nlt (ib_any J111_s0) (ib_any z8) c9
          refine lv_aload_n hx hb dX10_isLit_121 rfl (lv_at hl 0 rfl) ?_
          refine lv_iload_n hx hb dX10_isLit_122 rfl (lv_at hl 1 rfl) ?_
          refine lv_iload_n hx hb dX10_isLit_123 rfl (lv_at hl 3 rfl) ?_
          refine lv_iadd hx hb dX10_isLit_124 ?_
          refine lv_topi (fun z14 ez14 => ?_)
          have Ez14 := lf_op lf_iadd ez14 (lf_rf p0) (lf_rf p2)
          refine lv_iconst (v := 1) hx hb dX10_isLit_125 rfl ?_
          refine lv_isub hx hb dX10_isLit_126 ?_
          refine lv_topi (fun z15 ez15 => ?_)
          have Ez15 := lf_op lf_isub ez15 Ez14 (lf_lc 1 (1 : Int) rfl)
          refine k_put C0 fp_X10_475 hP hD hS 0 rfl rfl rfl (Nat.le_of_ble_eq_true rfl) dX10_isLit_127 (fun H locs hP hD hS => ?_)
          replace hP : va_P (dC, dI) vwCl [(a_this, .inr (10, mfs rm x_taped x_at x_end x_ended x_bad x_badPlace x_fault x_faultPlace x_namePlace x_awayTold x_away x_coded x_statements x_isCrossing x_textKind x_askSecond x_redMany x_isOpen x_lastGreen z15 x_isCycleGreen J111_c0_74 x_rowMany x_fitMany x_fitRules x_fitGreen x_undoable x_newest x_seeded x_qCoded x_qWaits x_qOpened x_qBase x_qPiled x_qAnswer x_qIsNew x_octets)), (wi_rm43_0_8_0 rm cy g_bar)] H := hP
          replace hD := k_D hP hD
          refine lv_aload_n hx hb dX10_isLit_130 rfl (lv_at hl 0 rfl) ?_
          refine lv_iconst (v := 0) hx hb dX10_isLit_131 rfl ?_
          refine k_put C0 fp_X10_466 hP hD hS 0 rfl (k_nb 0 rfl) (k_fb 0 (by decide)) (Nat.le_of_ble_eq_true rfl) dX10_isLit_132 (fun H locs hP hD hS => ?_)
          replace hP : va_P (dC, dI) vwCl [(a_this, .inr (10, mfs rm x_taped x_at x_end x_ended x_bad x_badPlace x_fault x_faultPlace x_namePlace x_awayTold x_away x_coded x_statements x_isCrossing x_textKind x_askSecond x_redMany 0 x_lastGreen z15 x_isCycleGreen J111_c0_74 x_rowMany x_fitMany x_fitRules x_fitGreen x_undoable x_newest x_seeded x_qCoded x_qWaits x_qOpened x_qBase x_qPiled x_qAnswer x_qIsNew x_octets)), (wi_rm43_0_8_0 rm cy g_bar)] H := hP
          replace hD := k_D hP hD
          exact jn135 J111_l4 J111_c0_74 0 z15 H locs ls (ib_w 0 119 hJ111_l4 rfl) (ib_w 0 1 (ib_c 0 0 0 rfl) rfl) (by try simp only [show (0 : Int32).toInt = (0 : Int) from rfl]; rw [lf_u Ez15]; exact hq) hP hD hS (lv_sub hl [0, 1, 2, 3, 4] rfl)
  have jn74 : ∀ (J74_l4 : Int32) (J74_c0_70 : Int32) (J74_c0_73 : Int32) (J74_c0_74 : Int32) (H : Heap) (locs : List Loc) (ls : Array Slot), ib p1 2 2 → ib J74_l4 0 119 → ib J74_c0_70 0 1 → ib J74_c0_73 0 1 → (O = F_X10_isLit_74 (Int32.toInt x_lastGreen) (Int32.toInt x_greenTo) (Int32.toInt J74_l4) (Int32.toInt J74_c0_70) (Int32.toInt J74_c0_73) (Int32.toInt J74_c0_74)) → va_P (dC, dI) vwCl [(a_this, .inr (10, mfs rm x_taped x_at x_end x_ended x_bad x_badPlace x_fault x_faultPlace x_namePlace x_awayTold x_away x_coded x_statements x_isCrossing x_textKind x_askSecond x_redMany J74_c0_70 x_lastGreen x_greenTo J74_c0_73 J74_c0_74 x_rowMany x_fitMany x_fitRules x_fitGreen x_undoable x_newest x_seeded x_qCoded x_qWaits x_qOpened x_qBase x_qPiled x_qAnswer x_qIsNew x_octets)), (wi_rm43_0_8_0 rm cy g_bar)] H → va_D A [(a_this, .inr (10, mfs rm x_taped x_at x_end x_ended x_bad x_badPlace x_fault x_faultPlace x_namePlace x_awayTold x_away x_coded x_statements x_isCrossing x_textKind x_askSecond x_redMany J74_c0_70 x_lastGreen x_greenTo J74_c0_73 J74_c0_74 x_rowMany x_fitMany x_fitRules x_fitGreen x_undoable x_newest x_seeded x_qCoded x_qWaits x_qOpened x_qBase x_qPiled x_qAnswer x_qIsNew x_octets)), (wi_rm43_0_8_0 rm cy g_bar)] → va_S A s.heap H locs → lv_has ls 5 [(0, .ref a_this), (1, .int p0), (2, .int p1), (3, .int p2), (4, .int J74_l4)] → W p l e { frames := 0, cells := 0, slots := 0, locals := 0 } s m args below meth c H locs 0 0 Q (F0 m 74 ls []) := by
    intro J74_l4 J74_c0_70 J74_c0_73 J74_c0_74 H locs ls hK74_p1 hJ74_l4 hJ74_c0_70 hJ74_c0_73 hq hP hD hS hl
    unfold F_X10_isLit_74 at hq
    refine lv_iconst (v := 0) hx hb dX10_isLit_74 rfl ?_
    subst hQ; exact k_iret hx hb hr hlk (k_nb 0 rfl) ((J74_c0_70, x_lastGreen, x_greenTo, J74_c0_73, J74_c0_74)) hS ⟨ib_w 0 1 hJ74_c0_70 rfl, ib_w 0 1 hJ74_c0_73 rfl, ib_w 0 1 (ib_c 0 0 0 rfl) rfl, (hO.symm.trans (by try simp only [show (0 : Int32).toInt = (0 : Int) from rfl]; exact hq))⟩ hP hD (Nat.le_of_ble_eq_true rfl) (Nat.le_of_ble_eq_true rfl) dX10_isLit_75
  have jn57 : ∀ (J57_l4 : Int32) (J57_c0_74 : Int32) (J57_c0_70 : Int32) (J57_c0_73 : Int32) (H : Heap) (locs : List Loc) (ls : Array Slot), ib p1 2 2 → ib J57_l4 0 119 → ib J57_c0_70 0 1 → ib J57_c0_73 0 1 → (O = F_X10_isLit_57 (Int32.toInt x_lastGreen) (Int32.toInt x_greenTo) (Int32.toInt p2) (Int32.toInt J57_l4) (Int32.toInt J57_c0_74) (Int32.toInt J57_c0_70) (Int32.toInt J57_c0_73)) → va_P (dC, dI) vwCl [(a_this, .inr (10, mfs rm x_taped x_at x_end x_ended x_bad x_badPlace x_fault x_faultPlace x_namePlace x_awayTold x_away x_coded x_statements x_isCrossing x_textKind x_askSecond x_redMany J57_c0_70 x_lastGreen x_greenTo J57_c0_73 J57_c0_74 x_rowMany x_fitMany x_fitRules x_fitGreen x_undoable x_newest x_seeded x_qCoded x_qWaits x_qOpened x_qBase x_qPiled x_qAnswer x_qIsNew x_octets)), (wi_rm43_0_8_0 rm cy g_bar)] H → va_D A [(a_this, .inr (10, mfs rm x_taped x_at x_end x_ended x_bad x_badPlace x_fault x_faultPlace x_namePlace x_awayTold x_away x_coded x_statements x_isCrossing x_textKind x_askSecond x_redMany J57_c0_70 x_lastGreen x_greenTo J57_c0_73 J57_c0_74 x_rowMany x_fitMany x_fitRules x_fitGreen x_undoable x_newest x_seeded x_qCoded x_qWaits x_qOpened x_qBase x_qPiled x_qAnswer x_qIsNew x_octets)), (wi_rm43_0_8_0 rm cy g_bar)] → va_S A s.heap H locs → lv_has ls 5 [(0, .ref a_this), (1, .int p0), (2, .int p1), (3, .int p2), (4, .int J57_l4)] → W p l e { frames := 0, cells := 0, slots := 0, locals := 0 } s m args below meth c H locs 0 0 Q (F0 m 57 ls []) := by
    as_aux_lemma =>
      intro J57_l4 J57_c0_74 J57_c0_70 J57_c0_73 H locs ls hK57_p1 hJ57_l4 hJ57_c0_70 hJ57_c0_73 hq hP hD hS hl
      unfold F_X10_isLit_57 at hq
      refine lv_aload_n hx hb dX10_isLit_57 rfl (lv_at hl 0 rfl) ?_
      refine k_get C0 fg_X10_472 hP 0 rfl rfl dX10_isLit_58 ?_
      refine lv_if_eq (tgt := 74) hx hb dX10_isLit_61 rfl (fun c16 => ?_) (fun c16 => ?_)
      · replace hq := lf_pos hq (lf_eq (lf_rf J57_c0_73) (lf_lc 0 (0 : Int) rfl) c16)
        have h17 := ib_eq hJ57_c0_73 (ib_c 0 0 0 rfl) c16
        have h18 : ib J57_c0_73 0 0 := ib_w 0 0 h17.1 rfl
        exact jn74 J57_l4 J57_c0_70 J57_c0_73 J57_c0_74 H locs ls (ib_w 2 2 hK57_p1 rfl) (ib_w 0 119 hJ57_l4 rfl) (ib_w 0 1 hJ57_c0_70 rfl) (ib_w 0 1 h18 rfl) (by exact hq) hP hD hS (lv_sub hl [0, 1, 2, 3, 4] rfl)
      · replace hq := lf_neg hq (lf_ne (lf_rf J57_c0_73) (lf_lc 0 (0 : Int) rfl) c16)
        have h19 : ib J57_c0_73 1 1 := ib_w 1 1 (ib_ne_lo 0 hJ57_c0_73 rfl c16) rfl
        refine lv_iload hx hb dX10_isLit_64 (lv_at hl 4 rfl) ?_
        refine lv_iload_n hx hb dX10_isLit_66 rfl (lv_at hl 3 rfl) ?_
        refine lv_icmp_ge (tgt := 74) hx hb dX10_isLit_67 rfl (fun c20 => ?_) (fun c20 => ?_)
        · replace hq := lf_pos hq (lf_le (lf_rf p2) (lf_rf J57_l4) c20)
          have h21 := ib_le (ib_any p2) hJ57_l4 c20
          have h22 : ib p2 (-2147483648) 119 := ib_w (-2147483648) 119 h21.1 rfl
          exact jn74 J57_l4 J57_c0_70 J57_c0_73 J57_c0_74 H locs ls (ib_w 2 2 hK57_p1 rfl) (ib_w 0 119 hJ57_l4 rfl) (ib_w 0 1 hJ57_c0_70 rfl) (ib_w 0 1 h19 rfl) (by exact hq) hP hD hS (lv_sub hl [0, 1, 2, 3, 4] rfl)
        · replace hq := lf_neg hq (lf_nle (lf_rf p2) (lf_rf J57_l4) c20)
          have h23 := ib_nle (ib_any p2) hJ57_l4 c20
          have h24 : ib p2 1 2147483647 := ib_w 1 2147483647 h23.1 rfl
          refine lv_iconst (v := 1) hx hb dX10_isLit_70 rfl ?_
          refine lv_goto (tgt := 75) hx hb dX10_isLit_71 rfl ?_
          subst hQ; exact k_iret hx hb hr hlk (k_nb 1 rfl) ((J57_c0_70, x_lastGreen, x_greenTo, J57_c0_73, J57_c0_74)) hS ⟨ib_w 0 1 hJ57_c0_70 rfl, ib_w 0 1 h19 rfl, ib_w 0 1 (ib_c 1 1 1 rfl) rfl, (hO.symm.trans (by try simp only [show (1 : Int32).toInt = (1 : Int) from rfl]; exact hq))⟩ hP hD (Nat.le_of_ble_eq_true rfl) (Nat.le_of_ble_eq_true rfl) dX10_isLit_75
  refine lv_iload_n hx hb dX10_isLit_0 rfl (lv_at hl 1 rfl) ?_
  refine lv_aload_n hx hb dX10_isLit_1 rfl (lv_at hl 0 rfl) ?_
  refine k_get C0 fg_X10_118 hP 0 rfl rfl dX10_isLit_2 ?_
  refine lv_iconst (v := 4) hx hb dX10_isLit_5 rfl ?_
  refine va_iald hx hb C0.2.2.2.2.2.1 hP 1 0 rfl rfl (k_in 4 8 rfl) dX10_isLit_6 ?_
  refine k_topi (y := g_bar 4) rfl ?_
  refine lv_irem hx hb dX10_isLit_7 (ib_nz hg_bar_4 rfl) ?_
  refine lv_topi (fun z25 ez25 => ?_)
  have h26 : ib z25 0 119 := by rw [ez25]; exact ib_w 0 119 (ib_rem hp0 hg_bar_4 rfl) rfl
  have Ez25 := lf_op lf_irem ez25 (lf_rf p0) (lf_pt (lf_ra g_bar) 4)
  refine lv_istore (lv' := [(4, .int z25), (0, .ref a_this), (1, .int p0), (2, .int p1), (3, .int p2)]) hx hb dX10_isLit_8 hl (Nat.le_of_ble_eq_true rfl) rfl (fun ls hl => ?_)
  refine lv_aload_n hx hb dX10_isLit_10 rfl (lv_at hl 1 rfl) ?_
  refine lv_iload_n hx hb dX10_isLit_11 rfl (lv_at hl 4 rfl) ?_
  refine lv_iload hx hb dX10_isLit_12 (lv_at hl 0 rfl) ?_
  refine lv_isub hx hb dX10_isLit_14 ?_
  refine lv_topi (fun z27 ez27 => ?_)
  have Ez27 := lf_op lf_isub ez27 (lf_rf p2) Ez25
  as_aux_lemma =>
    refine k_put C0 fp_X10_469 hP hD hS 0 rfl rfl rfl (Nat.le_of_ble_eq_true rfl) dX10_isLit_15 (fun H locs hP hD hS => ?_)
    replace hP : va_P (dC, dI) vwCl [(a_this, .inr (10, mfs rm x_taped x_at x_end x_ended x_bad x_badPlace x_fault x_faultPlace x_namePlace x_awayTold x_away x_coded x_statements x_isCrossing x_textKind x_askSecond x_redMany x_isOpen x_lastGreen x_greenTo x_isCycleGreen z27 x_rowMany x_fitMany x_fitRules x_fitGreen x_undoable x_newest x_seeded x_qCoded x_qWaits x_qOpened x_qBase x_qPiled x_qAnswer x_qIsNew x_octets)), (wi_rm43_0_8_0 rm cy g_bar)] H := hP
    replace hD := k_D hP hD
    refine lv_iload_n hx hb dX10_isLit_18 rfl (lv_at hl 3 rfl) ?_
    refine lv_if_ne (tgt := 34) hx hb dX10_isLit_19 rfl (fun c28 => ?_) (fun c28 => ?_)
    · as_aux_lemma =>
        replace hq := lf_neg hq (lf_ne (lf_rf p1) (lf_lc 0 (0 : Int) rfl) c28)
        refine lv_iload_n hx hb dX10_isLit_34 rfl (lv_at hl 3 rfl) ?_
        refine lv_iconst (v := 2) hx hb dX10_isLit_35 rfl ?_
        refine lv_icmp_ne (tgt := 76) hx hb dX10_isLit_36 rfl (fun c29 => ?_) (fun c29 => ?_)
        · as_aux_lemma =>
            replace hq := lf_neg hq (lf_ne (lf_rf p1) (lf_lc 2 (2 : Int) rfl) c29)
            refine lv_iload_n hx hb dX10_isLit_76 rfl (lv_at hl 2 rfl) ?_
            refine lv_aload_n hx hb dX10_isLit_77 rfl (lv_at hl 1 rfl) ?_
            refine k_get C0 fg_X10_475 hP 0 rfl rfl dX10_isLit_78 ?_
            refine lv_icmp_le (tgt := 135) hx hb dX10_isLit_81 rfl (fun c30 => ?_) (fun c30 => ?_)
            · replace hq := lf_pos hq (lf_le (lf_rf p0) (lf_rf x_greenTo) c30)
              have h31 := ib_le hp0 (ib_any x_greenTo) c30
              have h32 : ib x_greenTo 0 2147483647 := ib_w 0 2147483647 h31.2 rfl
              exact jn135 z25 z27 x_isOpen x_greenTo H locs ls (ib_w 0 119 h26 rfl) (ib_w 0 1 hx_isOpen rfl) (by rw [lf_u Ez25]; rw [lf_u Ez27]; exact hq) hP hD hS (lv_sub hl [1, 2, 3, 4, 0] rfl)
            · as_aux_lemma =>
                replace hq := lf_neg hq (lf_nle (lf_rf p0) (lf_rf x_greenTo) c30)
                have h33 := ib_nle hp0 (ib_any x_greenTo) c30
                have h34 : ib x_greenTo (-2147483648) 298 := ib_w (-2147483648) 298 h33.2 rfl
                refine lv_aload_n hx hb dX10_isLit_84 rfl (lv_at hl 1 rfl) ?_
                refine k_get C0 fg_X10_466 hP 0 rfl rfl dX10_isLit_85 ?_
                refine lv_if_eq (tgt := 135) hx hb dX10_isLit_88 rfl (fun c35 => ?_) (fun c35 => ?_)
                · replace hq := lf_pos hq (lf_eq (lf_rf x_isOpen) (lf_lc 0 (0 : Int) rfl) c35)
                  have h36 := ib_eq hx_isOpen (ib_c 0 0 0 rfl) c35
                  have h37 : ib x_isOpen 0 0 := ib_w 0 0 h36.1 rfl
                  exact jn135 z25 z27 x_isOpen x_greenTo H locs ls (ib_w 0 119 h26 rfl) (ib_w 0 1 h37 rfl) (by rw [lf_u Ez25]; rw [lf_u Ez27]; exact hq) hP hD hS (lv_sub hl [1, 2, 3, 4, 0] rfl)
                · as_aux_lemma =>
                    replace hq := lf_neg hq (lf_ne (lf_rf x_isOpen) (lf_lc 0 (0 : Int) rfl) c35)
                    have h38 : ib x_isOpen 1 1 := ib_w 1 1 (ib_ne_lo 0 hx_isOpen rfl c35) rfl
                    refine lv_aload_n hx hb dX10_isLit_91 rfl (lv_at hl 1 rfl) ?_
                    refine k_get C0 fg_X10_478 hP 0 rfl rfl dX10_isLit_92 ?_
                    refine lv_iconst (v := (-1)) hx hb dX10_isLit_95 rfl ?_
                    refine lv_icmp_ne (tgt := 103) hx hb dX10_isLit_96 rfl (fun c39 => ?_) (fun c39 => ?_)
                    · replace hq := lf_neg hq (lf_ne (lf_rf x_lastGreen) (lf_lc (-1) (-1 : Int) rfl) c39)
                      refine lv_iload_n hx hb dX10_isLit_103 rfl (lv_at hl 2 rfl) ?_
                      refine lv_aload_n hx hb dX10_isLit_104 rfl (lv_at hl 1 rfl) ?_
                      refine k_get C0 fg_X10_478 hP 0 rfl rfl dX10_isLit_105 ?_
                      refine lv_isub hx hb dX10_isLit_108 ?_
                      refine lv_topi (fun z40 ez40 => ?_)
                      have Ez40 := lf_op lf_isub ez40 (lf_rf p0) (lf_rf x_lastGreen)
                      refine lv_iconst (v := 1) hx hb dX10_isLit_109 rfl ?_
                      refine lv_isub hx hb dX10_isLit_110 ?_
                      refine lv_topi (fun z41 ez41 => ?_)
                      have Ez41 := lf_op lf_isub ez41 Ez40 (lf_lc 1 (1 : Int) rfl)
                      exact jn111 z25 z41 z27 H locs ls (ib_w 0 119 h26 rfl) (ib_w 1 1 h38 rfl) (ib_w (-2147483648) 298 h34 rfl) (by rw [lf_u Ez25]; rw [lf_u Ez41]; rw [lf_u Ez27]; exact hq) hP hD hS (lv_sub hl [1, 2, 3, 4, 0] rfl)
                    · replace hq := lf_pos hq (lf_eq (lf_rf x_lastGreen) (lf_lc (-1) (-1 : Int) rfl) c39)
                      have h42 := ib_eq (ib_any x_lastGreen) (ib_c (-1) (-1) (-1) rfl) c39
                      have h43 : ib x_lastGreen (-1) (-1) := ib_w (-1) (-1) h42.1 rfl
                      refine lv_iload_n hx hb dX10_isLit_99 rfl (lv_at hl 2 rfl) ?_
                      refine lv_goto (tgt := 111) hx hb dX10_isLit_100 rfl ?_
                      exact jn111 z25 p0 z27 H locs ls (ib_w 0 119 h26 rfl) (ib_w 1 1 h38 rfl) (ib_w (-2147483648) 298 h34 rfl) (by rw [lf_u Ez25]; rw [lf_u Ez27]; exact hq) hP hD hS (lv_sub hl [1, 2, 3, 4, 0] rfl)
        · as_aux_lemma =>
            replace hq := lf_pos hq (lf_eq (lf_rf p1) (lf_lc 2 (2 : Int) rfl) c29)
            have h44 := ib_eq (ib_any p1) (ib_c 2 2 2 rfl) c29
            have h45 : ib p1 2 2 := ib_w 2 2 h44.1 rfl
            refine lv_iload hx hb dX10_isLit_39 (lv_at hl 0 rfl) ?_
            refine lv_if_ne (tgt := 57) hx hb dX10_isLit_41 rfl (fun c46 => ?_) (fun c46 => ?_)
            · replace hq := lf_neg hq (lf_ne Ez25 (lf_lc 0 (0 : Int) rfl) c46)
              have h47 : ib z25 1 119 := ib_w 1 119 (ib_ne_lo 0 h26 rfl c46) rfl
              exact jn57 z25 z27 x_isOpen x_isCycleGreen H locs ls (ib_w 2 2 h45 rfl) (ib_w 0 119 h47 rfl) (ib_w 0 1 hx_isOpen rfl) (ib_w 0 1 hx_isCycleGreen rfl) (by rw [lf_u Ez25]; rw [lf_u Ez27]; exact hq) hP hD hS (lv_sub hl [1, 2, 3, 4, 0] rfl)
            · replace hq := lf_pos hq (lf_eq Ez25 (lf_lc 0 (0 : Int) rfl) c46)
              have h48 := ib_eq h26 (ib_c 0 0 0 rfl) c46
              have h49 : ib z25 0 0 := ib_w 0 0 h48.1 rfl
              refine lv_aload_n hx hb dX10_isLit_44 rfl (lv_at hl 1 rfl) ?_
              refine lv_aload_n hx hb dX10_isLit_45 rfl (lv_at hl 1 rfl) ?_
              refine k_get C0 fg_X10_466 hP 0 rfl rfl dX10_isLit_46 ?_
              refine k_put C0 fp_X10_472 hP hD hS 0 rfl (ib_bool (ib_w 0 1 hx_isOpen rfl)) (ib_boolf (ib_w 0 1 hx_isOpen rfl)) (Nat.le_of_ble_eq_true rfl) dX10_isLit_49 (fun H locs hP hD hS => ?_)
              replace hP : va_P (dC, dI) vwCl [(a_this, .inr (10, mfs rm x_taped x_at x_end x_ended x_bad x_badPlace x_fault x_faultPlace x_namePlace x_awayTold x_away x_coded x_statements x_isCrossing x_textKind x_askSecond x_redMany x_isOpen x_lastGreen x_greenTo x_isOpen z27 x_rowMany x_fitMany x_fitRules x_fitGreen x_undoable x_newest x_seeded x_qCoded x_qWaits x_qOpened x_qBase x_qPiled x_qAnswer x_qIsNew x_octets)), (wi_rm43_0_8_0 rm cy g_bar)] H := hP
              replace hD := k_D hP hD
              refine lv_aload_n hx hb dX10_isLit_52 rfl (lv_at hl 1 rfl) ?_
              refine lv_iconst (v := 0) hx hb dX10_isLit_53 rfl ?_
              refine k_put C0 fp_X10_466 hP hD hS 0 rfl (k_nb 0 rfl) (k_fb 0 (by decide)) (Nat.le_of_ble_eq_true rfl) dX10_isLit_54 (fun H locs hP hD hS => ?_)
              replace hP : va_P (dC, dI) vwCl [(a_this, .inr (10, mfs rm x_taped x_at x_end x_ended x_bad x_badPlace x_fault x_faultPlace x_namePlace x_awayTold x_away x_coded x_statements x_isCrossing x_textKind x_askSecond x_redMany 0 x_lastGreen x_greenTo x_isOpen z27 x_rowMany x_fitMany x_fitRules x_fitGreen x_undoable x_newest x_seeded x_qCoded x_qWaits x_qOpened x_qBase x_qPiled x_qAnswer x_qIsNew x_octets)), (wi_rm43_0_8_0 rm cy g_bar)] H := hP
              replace hD := k_D hP hD
              exact jn57 z25 z27 0 x_isOpen H locs ls (ib_w 2 2 h45 rfl) (ib_w 0 119 h49 rfl) (ib_w 0 1 (ib_c 0 0 0 rfl) rfl) (ib_w 0 1 hx_isOpen rfl) (by rw [lf_u Ez25]; rw [lf_u Ez27]; try simp only [show (0 : Int32).toInt = (0 : Int) from rfl]; exact hq) hP hD hS (lv_sub hl [1, 2, 3, 4, 0] rfl)
    · replace hq := lf_pos hq (lf_eq (lf_rf p1) (lf_lc 0 (0 : Int) rfl) c28)
      have h50 := ib_eq (ib_any p1) (ib_c 0 0 0 rfl) c28
      have h51 : ib p1 0 0 := ib_w 0 0 h50.1 rfl
      refine lv_iload hx hb dX10_isLit_22 (lv_at hl 0 rfl) ?_
      refine lv_iload_n hx hb dX10_isLit_24 rfl (lv_at hl 4 rfl) ?_
      refine lv_icmp_ge (tgt := 32) hx hb dX10_isLit_25 rfl (fun c52 => ?_) (fun c52 => ?_)
      · replace hq := lf_pos hq (lf_le (lf_rf p2) Ez25 c52)
        have h53 := ib_le (ib_any p2) h26 c52
        have h54 : ib p2 (-2147483648) 119 := ib_w (-2147483648) 119 h53.1 rfl
        refine lv_iconst (v := 0) hx hb dX10_isLit_32 rfl ?_
        subst hQ; exact k_iret hx hb hr hlk (k_nb 0 rfl) ((x_isOpen, x_lastGreen, x_greenTo, x_isCycleGreen, z27)) hS ⟨ib_w 0 1 hx_isOpen rfl, ib_w 0 1 hx_isCycleGreen rfl, ib_w 0 1 (ib_c 0 0 0 rfl) rfl, (hO.symm.trans (by try simp only [show (0 : Int32).toInt = (0 : Int) from rfl]; rw [lf_u Ez27]; exact hq))⟩ hP hD (Nat.le_of_ble_eq_true rfl) (Nat.le_of_ble_eq_true rfl) dX10_isLit_33
      · replace hq := lf_neg hq (lf_nle (lf_rf p2) Ez25 c52)
        have h55 := ib_nle (ib_any p2) h26 c52
        have h56 : ib p2 1 2147483647 := ib_w 1 2147483647 h55.1 rfl
        refine lv_iconst (v := 1) hx hb dX10_isLit_28 rfl ?_
        refine lv_goto (tgt := 33) hx hb dX10_isLit_29 rfl ?_
        subst hQ; exact k_iret hx hb hr hlk (k_nb 1 rfl) ((x_isOpen, x_lastGreen, x_greenTo, x_isCycleGreen, z27)) hS ⟨ib_w 0 1 hx_isOpen rfl, ib_w 0 1 hx_isCycleGreen rfl, ib_w 0 1 (ib_c 1 1 1 rfl) rfl, (hO.symm.trans (by try simp only [show (1 : Int32).toInt = (1 : Int) from rfl]; rw [lf_u Ez27]; exact hq))⟩ hP hD (Nat.le_of_ble_eq_true rfl) (Nat.le_of_ble_eq_true rfl) dX10_isLit_33
set_option maxHeartbeats 4000000 in
set_option maxRecDepth 100000 in
theorem s_X10_dayBy (l : Launch) (dC : Nat → ClassId) (dI : Nat → Nat → Nat) (cy : Nat → ClassId) (sq : Nat → Nat) (a_this : Nat) (rm : Nat → Nat) (x_taped : Int32) (x_at : Int32) (x_end : Int32) (x_ended : Int32) (x_bad : Int32) (x_badPlace : Int32) (x_fault : Int32) (x_faultPlace : Int32) (x_namePlace : Int32) (x_awayTold : Int32) (x_away : Int32) (x_coded : Int32) (x_statements : Int32) (x_isCrossing : Int32) (x_textKind : Int32) (x_askSecond : Int32) (x_redMany : Int32) (x_isOpen : Int32) (x_lastGreen : Int32) (x_greenTo : Int32) (x_isCycleGreen : Int32) (x_stillGreen : Int32) (x_rowMany : Int32) (x_fitMany : Int32) (x_fitRules : Int32) (x_fitGreen : Int32) (x_undoable : Int32) (x_newest : Int32) (x_seeded : Int64) (x_qCoded : Int32) (x_qWaits : Int32) (x_qOpened : Int32) (x_qBase : Int32) (x_qPiled : Int32) (x_qAnswer : Int64) (x_qIsNew : Int32) (x_octets : Int32) (g_many : Nat → Int32) (g_bar : Nat → Int32) (g_kinds : Nat → Int32) (g_walkers : Nat → Int32) (g_codeFrom : Nat → Int32) (g_codeEnd : Nat → Int32) (g_codes : Nat → Int32) (g_now : Nat → Int32) (g_gaps : Nat → Int32) (g_isGreen : Nat → Int32) (g_isHere : Nat → Int32) (g_crosses : Nat → Int32) (g_waits : Nat → Int32) (g_goes : Nat → Int32) (g_harms : Nat → Int32) (g_presses : Nat → Int32) (g_crossedIn : Nat → Int32) (g_qPile : Nat → Int64) (p0 : Int32) (p1 : Int32) (p2 : Int32) (p3 : Int32) (hx_qPiled : ib x_qPiled 0 1700) (hg_many_3 : ib (g_many 3) 0 12) (hg_bar_4 : ib (g_bar 4) 10 120) (hpg_walkers : ip g_walkers 48 2 0 0 5) (hg_codeFrom_4 : ib (g_codeFrom 4) (-1) 1600) (hg_codeEnd_4 : ib (g_codeEnd 4) 0 1600) (hg_gaps : ia g_gaps 300 0 20) (hG1 : ¬ g_codeFrom 4 = (-1) → okc g_codes 1600 true (g_codeFrom 4) (g_codeEnd 4)) : k_Met l yX10_dayBy cX10_dayBy 7 none { frames := 5, cells := 0, slots := 0, locals := 111 } dC dI cy sq [.ref a_this, .int p0, .int p1, .int p2, .int p3] [(a_this, .inr (10, mfs rm x_taped x_at x_end x_ended x_bad x_badPlace x_fault x_faultPlace x_namePlace x_awayTold x_away x_coded x_statements x_isCrossing x_textKind x_askSecond x_redMany x_isOpen x_lastGreen x_greenTo x_isCycleGreen x_stillGreen x_rowMany x_fitMany x_fitRules x_fitGreen x_undoable x_newest x_seeded x_qCoded x_qWaits x_qOpened x_qBase x_qPiled x_qAnswer x_qIsNew x_octets)), (wi_rm63_3_12_0 rm cy g_isHere), (wi_rm64_0_12_0 rm cy g_crosses), (wi_rm65_0_12_0 rm cy g_waits), (wi_rm66_3_12_0 rm cy g_goes), (wi_rm67_3_12_0 rm cy g_harms), (wi_rm68_3_12_0 rm cy g_presses), (wi_rm69_3_300_0 rm cy g_crossedIn), (wi_rm41_0_4_0 rm cy g_many), (wi_rm46_0_48_0 rm cy g_walkers), (wi_rm56_0_9_0 rm cy g_now), (wi_rm62_3_300_0 rm cy g_isGreen), (wi_rm43_0_8_0 rm cy g_bar), (wi_rm44_0_24_0 rm cy g_kinds), (wi_rm49_0_6_0 rm cy g_codeFrom), (wi_rm50_0_6_0 rm cy g_codeEnd), (wi_rm116_1_1700_1 rm cy g_qPile), (wi_rm51_0_3200_0 rm cy g_codes), (wi_rm61_0_300_0 rm cy g_gaps)] (k_Qv dC dI (fun (u : Int32 × Int32 × Int32 × Int32 × Int32 × Int32 × Int32 × Int32 × Int32 × (Nat → Int32) × (Nat → Int32) × (Nat → Int32) × (Nat → Int32) × (Nat → Int32) × (Nat → Int32) × (Nat → Int32) × (Nat → Int32) × (Nat → Int64)) => match u with | (n0, n1, n2, n3, n4, n5, n6, n7, n8, n9, n10, n11, n12, n13, n14, n15, n16, n17) => ib n3 0 1 ∧ ib n6 0 1 ∧ ib n8 0 1700 ∧ (F_X10_dayBy (Int32.toInt x_textKind) (Int32.toInt x_askSecond) (Int32.toInt x_stillGreen) (Int32.toInt x_qPiled) (lf_A g_many) (lf_A g_bar) (lf_A g_kinds) (lf_A g_walkers) (lf_A g_codeFrom) (lf_A g_codeEnd) (lf_A g_codes) (lf_A g_now) (lf_A g_gaps) (lf_A g_isGreen) (lf_A g_isHere) (lf_A g_crosses) (lf_A g_waits) (lf_A g_goes) (lf_A g_harms) (lf_A g_presses) (lf_A g_crossedIn) (lf_L g_qPile) (Int32.toInt p0) (Int32.toInt p1) (Int32.toInt p2) (Int32.toInt p3) = ((Int32.toInt n0), (Int32.toInt n1), (Int32.toInt n2), (Int32.toInt n3), (Int32.toInt n4), (Int32.toInt n5), (Int32.toInt n6), (Int32.toInt n7), (Int32.toInt n8), (lf_A n9), (lf_A n10), (lf_A n11), (lf_A n12), (lf_A n13), (lf_A n14), (lf_A n15), (lf_A n16), (lf_L n17)))) (fun u : Int32 × Int32 × Int32 × Int32 × Int32 × Int32 × Int32 × Int32 × Int32 × (Nat → Int32) × (Nat → Int32) × (Nat → Int32) × (Nat → Int32) × (Nat → Int32) × (Nat → Int32) × (Nat → Int32) × (Nat → Int32) × (Nat → Int64) => match u with | (n0, n1, n2, n3, n4, n5, n6, n7, n8, n9, n10, n11, n12, n13, n14, n15, n16, n17) => [(a_this, .inr (10, mfs rm x_taped x_at x_end x_ended x_bad x_badPlace x_fault x_faultPlace x_namePlace x_awayTold x_away x_coded x_statements x_isCrossing n0 n1 n2 n3 n4 n5 n6 n7 x_rowMany x_fitMany x_fitRules x_fitGreen x_undoable x_newest x_seeded x_qCoded x_qWaits x_qOpened x_qBase n8 x_qAnswer x_qIsNew x_octets)), (wi_rm63_3_12_0 rm cy n9), (wi_rm64_0_12_0 rm cy n10), (wi_rm65_0_12_0 rm cy n11), (wi_rm66_3_12_0 rm cy n12), (wi_rm67_3_12_0 rm cy n13), (wi_rm68_3_12_0 rm cy n14), (wi_rm69_3_300_0 rm cy n15), (wi_rm41_0_4_0 rm cy g_many), (wi_rm46_0_48_0 rm cy g_walkers), (wi_rm56_0_9_0 rm cy g_now), (wi_rm62_3_300_0 rm cy n16), (wi_rm43_0_8_0 rm cy g_bar), (wi_rm44_0_24_0 rm cy g_kinds), (wi_rm49_0_6_0 rm cy g_codeFrom), (wi_rm50_0_6_0 rm cy g_codeEnd), (wi_rm116_1_1700_1 rm cy n17), (wi_rm51_0_3200_0 rm cy g_codes), (wi_rm61_0_300_0 rm cy g_gaps)])) := by
  refine k_ofW2 (by decide +kernel) (Nat.le_of_ble_eq_true rfl) ?_
  intro p e s m below meth c A ls H locs args Q hQ C0 hZ hr hlk hin hP hD hA hS hl
  have C0 : k_cx p s m args c cX10_dayBy 7 RX10 dC dI cy sq := C0
  have hx := C0.1
  have hb := C0.2.1
  have hl : lv_has ls 7 [(0, .ref a_this), (1, .int p0), (2, .int p1), (3, .int p2), (4, .int p3)] := hl
  obtain ⟨O, hO⟩ : ∃ o, o = F_X10_dayBy (Int32.toInt x_textKind) (Int32.toInt x_askSecond) (Int32.toInt x_stillGreen) (Int32.toInt x_qPiled) (lf_A g_many) (lf_A g_bar) (lf_A g_kinds) (lf_A g_walkers) (lf_A g_codeFrom) (lf_A g_codeEnd) (lf_A g_codes) (lf_A g_now) (lf_A g_gaps) (lf_A g_isGreen) (lf_A g_isHere) (lf_A g_crosses) (lf_A g_waits) (lf_A g_goes) (lf_A g_harms) (lf_A g_presses) (lf_A g_crossedIn) (lf_L g_qPile) (Int32.toInt p0) (Int32.toInt p1) (Int32.toInt p2) (Int32.toInt p3) := ⟨_, rfl⟩
  have hq := hO
  unfold F_X10_dayBy at hq
  have jn92 : ∀ (n : Nat) (J92_a1 : Nat → Int32) (J92_a2 : Nat → Int32) (J92_a3 : Nat → Int32) (J92_a4 : Nat → Int32) (J92_a5 : Nat → Int32) (J92_a6 : Nat → Int32) (J92_l5 : Int32) (J92_c0_70 : Int32) (J92_c0_71 : Int32) (J92_c0_72 : Int32) (J92_c0_73 : Int32) (J92_c0_74 : Int32) (J92_a7 : Nat → Int32) (J92_a11 : Nat → Int32) (J92_c0_55 : Int32) (J92_c0_58 : Int32) (J92_c0_59 : Int32) (J92_c0_117 : Int32) (J92_a16 : Nat → Int64) (H : Heap) (locs : List Loc) (ls : Array Slot), ib J92_l5 0 300 → ib J92_c0_70 0 1 → ib J92_c0_73 0 1 → ib J92_c0_117 0 1700 → (O = F_X10_dayBy_92 (lf_A g_many) (lf_A g_bar) (lf_A g_kinds) (lf_A g_walkers) (lf_A g_codeFrom) (lf_A g_codeEnd) (lf_A g_codes) (lf_A g_now) (lf_A g_gaps) (Int32.toInt p0) (Int32.toInt p1) (Int32.toInt p2) (Int32.toInt p3) n (lf_A J92_a1) (lf_A J92_a2) (lf_A J92_a3) (lf_A J92_a4) (lf_A J92_a5) (lf_A J92_a6) (Int32.toInt J92_l5) (Int32.toInt J92_c0_70) (Int32.toInt J92_c0_71) (Int32.toInt J92_c0_72) (Int32.toInt J92_c0_73) (Int32.toInt J92_c0_74) (lf_A J92_a7) (lf_A J92_a11) (Int32.toInt J92_c0_55) (Int32.toInt J92_c0_58) (Int32.toInt J92_c0_59) (Int32.toInt J92_c0_117) (lf_L J92_a16)) → 301 ≤ J92_l5.toInt + (n : Int) → va_P (dC, dI) vwCl [(a_this, .inr (10, mfs rm x_taped x_at x_end x_ended x_bad x_badPlace x_fault x_faultPlace x_namePlace x_awayTold x_away x_coded x_statements x_isCrossing J92_c0_55 J92_c0_58 J92_c0_59 J92_c0_70 J92_c0_71 J92_c0_72 J92_c0_73 J92_c0_74 x_rowMany x_fitMany x_fitRules x_fitGreen x_undoable x_newest x_seeded x_qCoded x_qWaits x_qOpened x_qBase J92_c0_117 x_qAnswer x_qIsNew x_octets)), (wi_rm63_3_12_0 rm cy J92_a1), (wi_rm64_0_12_0 rm cy J92_a2), (wi_rm65_0_12_0 rm cy J92_a3), (wi_rm66_3_12_0 rm cy J92_a4), (wi_rm67_3_12_0 rm cy J92_a5), (wi_rm68_3_12_0 rm cy J92_a6), (wi_rm69_3_300_0 rm cy J92_a7), (wi_rm41_0_4_0 rm cy g_many), (wi_rm46_0_48_0 rm cy g_walkers), (wi_rm56_0_9_0 rm cy g_now), (wi_rm62_3_300_0 rm cy J92_a11), (wi_rm43_0_8_0 rm cy g_bar), (wi_rm44_0_24_0 rm cy g_kinds), (wi_rm49_0_6_0 rm cy g_codeFrom), (wi_rm50_0_6_0 rm cy g_codeEnd), (wi_rm116_1_1700_1 rm cy J92_a16), (wi_rm51_0_3200_0 rm cy g_codes), (wi_rm61_0_300_0 rm cy g_gaps)] H → va_D A [(a_this, .inr (10, mfs rm x_taped x_at x_end x_ended x_bad x_badPlace x_fault x_faultPlace x_namePlace x_awayTold x_away x_coded x_statements x_isCrossing J92_c0_55 J92_c0_58 J92_c0_59 J92_c0_70 J92_c0_71 J92_c0_72 J92_c0_73 J92_c0_74 x_rowMany x_fitMany x_fitRules x_fitGreen x_undoable x_newest x_seeded x_qCoded x_qWaits x_qOpened x_qBase J92_c0_117 x_qAnswer x_qIsNew x_octets)), (wi_rm63_3_12_0 rm cy J92_a1), (wi_rm64_0_12_0 rm cy J92_a2), (wi_rm65_0_12_0 rm cy J92_a3), (wi_rm66_3_12_0 rm cy J92_a4), (wi_rm67_3_12_0 rm cy J92_a5), (wi_rm68_3_12_0 rm cy J92_a6), (wi_rm69_3_300_0 rm cy J92_a7), (wi_rm41_0_4_0 rm cy g_many), (wi_rm46_0_48_0 rm cy g_walkers), (wi_rm56_0_9_0 rm cy g_now), (wi_rm62_3_300_0 rm cy J92_a11), (wi_rm43_0_8_0 rm cy g_bar), (wi_rm44_0_24_0 rm cy g_kinds), (wi_rm49_0_6_0 rm cy g_codeFrom), (wi_rm50_0_6_0 rm cy g_codeEnd), (wi_rm116_1_1700_1 rm cy J92_a16), (wi_rm51_0_3200_0 rm cy g_codes), (wi_rm61_0_300_0 rm cy g_gaps)] → va_S A s.heap H locs → lv_has ls 7 [(0, .ref a_this), (1, .int p0), (2, .int p1), (3, .int p2), (4, .int p3), (5, .int J92_l5)] → W p l e { frames := 5, cells := 0, slots := 0, locals := 111 } s m args below meth c H locs 0 0 Q (F0 m 92 ls []) := by
    as_aux_lemma =>
      intro n
      induction n with
      | zero =>
        intro J92_a1 J92_a2 J92_a3 J92_a4 J92_a5 J92_a6 J92_l5 J92_c0_70 J92_c0_71 J92_c0_72 J92_c0_73 J92_c0_74 J92_a7 J92_a11 J92_c0_55 J92_c0_58 J92_c0_59 J92_c0_117 J92_a16 H locs ls hJ92_l5 hJ92_c0_70 hJ92_c0_73 hJ92_c0_117 hq hm
        exact absurd hm (by have := hJ92_l5; unfold ib at this; omega)
      | succ n ih =>
        intro J92_a1 J92_a2 J92_a3 J92_a4 J92_a5 J92_a6 J92_l5 J92_c0_70 J92_c0_71 J92_c0_72 J92_c0_73 J92_c0_74 J92_a7 J92_a11 J92_c0_55 J92_c0_58 J92_c0_59 J92_c0_117 J92_a16 H locs ls hJ92_l5 hJ92_c0_70 hJ92_c0_73 hJ92_c0_117 hq hm92 hP hD hS hl
        have ih92 := ih
        obtain ⟨K92, hK92⟩ : ∃ K, K = F_X10_dayBy_92 (lf_A g_many) (lf_A g_bar) (lf_A g_kinds) (lf_A g_walkers) (lf_A g_codeFrom) (lf_A g_codeEnd) (lf_A g_codes) (lf_A g_now) (lf_A g_gaps) (Int32.toInt p0) (Int32.toInt p1) (Int32.toInt p2) (Int32.toInt p3) n := ⟨_, rfl⟩
        have hq : O = F_X10_dayBy_92b (lf_A g_many) (lf_A g_bar) (lf_A g_kinds) (lf_A g_walkers) (lf_A g_codeFrom) (lf_A g_codeEnd) (lf_A g_codes) (lf_A g_now) (lf_A g_gaps) (Int32.toInt p0) (Int32.toInt p1) (Int32.toInt p2) (Int32.toInt p3) K92 (lf_A J92_a1) (lf_A J92_a2) (lf_A J92_a3) (lf_A J92_a4) (lf_A J92_a5) (lf_A J92_a6) (Int32.toInt J92_l5) (Int32.toInt J92_c0_70) (Int32.toInt J92_c0_71) (Int32.toInt J92_c0_72) (Int32.toInt J92_c0_73) (Int32.toInt J92_c0_74) (lf_A J92_a7) (lf_A J92_a11) (Int32.toInt J92_c0_55) (Int32.toInt J92_c0_58) (Int32.toInt J92_c0_59) (Int32.toInt J92_c0_117) (lf_L J92_a16) := by rw [hK92]; exact hq
        unfold F_X10_dayBy_92b at hq
        have jn133 : ∀ (n : Nat) (J133_c0_70 : Int32) (J133_c0_71 : Int32) (J133_c0_72 : Int32) (J133_c0_73 : Int32) (J133_c0_74 : Int32) (J133_a1 : Nat → Int32) (J133_a6 : Nat → Int32) (J133_a7 : Nat → Int32) (J133_a11 : Nat → Int32) (J133_l6 : Int32) (J133_c0_55 : Int32) (J133_c0_58 : Int32) (J133_c0_59 : Int32) (J133_c0_117 : Int32) (J133_a2 : Nat → Int32) (J133_a3 : Nat → Int32) (J133_a4 : Nat → Int32) (J133_a5 : Nat → Int32) (J133_a16 : Nat → Int64) (H : Heap) (locs : List Loc) (ls : Array Slot), ib J92_l5 0 299 → ib J133_c0_70 0 1 → ib J133_c0_73 0 1 → ib J133_l6 0 12 → ib J133_c0_117 0 1700 → (O = F_X10_dayBy_133 (lf_A g_many) (lf_A g_bar) (lf_A g_kinds) (lf_A g_walkers) (lf_A g_codeFrom) (lf_A g_codeEnd) (lf_A g_codes) (lf_A g_now) (lf_A g_gaps) (Int32.toInt p3) (Int32.toInt J92_l5) K92 n (Int32.toInt J133_c0_70) (Int32.toInt J133_c0_71) (Int32.toInt J133_c0_72) (Int32.toInt J133_c0_73) (Int32.toInt J133_c0_74) (lf_A J133_a1) (lf_A J133_a6) (lf_A J133_a7) (lf_A J133_a11) (Int32.toInt J133_l6) (Int32.toInt J133_c0_55) (Int32.toInt J133_c0_58) (Int32.toInt J133_c0_59) (Int32.toInt J133_c0_117) (lf_A J133_a2) (lf_A J133_a3) (lf_A J133_a4) (lf_A J133_a5) (lf_L J133_a16)) → 13 ≤ J133_l6.toInt + (n : Int) → va_P (dC, dI) vwCl [(a_this, .inr (10, mfs rm x_taped x_at x_end x_ended x_bad x_badPlace x_fault x_faultPlace x_namePlace x_awayTold x_away x_coded x_statements x_isCrossing J133_c0_55 J133_c0_58 J133_c0_59 J133_c0_70 J133_c0_71 J133_c0_72 J133_c0_73 J133_c0_74 x_rowMany x_fitMany x_fitRules x_fitGreen x_undoable x_newest x_seeded x_qCoded x_qWaits x_qOpened x_qBase J133_c0_117 x_qAnswer x_qIsNew x_octets)), (wi_rm63_3_12_0 rm cy J133_a1), (wi_rm64_0_12_0 rm cy J133_a2), (wi_rm65_0_12_0 rm cy J133_a3), (wi_rm66_3_12_0 rm cy J133_a4), (wi_rm67_3_12_0 rm cy J133_a5), (wi_rm68_3_12_0 rm cy J133_a6), (wi_rm69_3_300_0 rm cy J133_a7), (wi_rm41_0_4_0 rm cy g_many), (wi_rm46_0_48_0 rm cy g_walkers), (wi_rm56_0_9_0 rm cy g_now), (wi_rm62_3_300_0 rm cy J133_a11), (wi_rm43_0_8_0 rm cy g_bar), (wi_rm44_0_24_0 rm cy g_kinds), (wi_rm49_0_6_0 rm cy g_codeFrom), (wi_rm50_0_6_0 rm cy g_codeEnd), (wi_rm116_1_1700_1 rm cy J133_a16), (wi_rm51_0_3200_0 rm cy g_codes), (wi_rm61_0_300_0 rm cy g_gaps)] H → va_D A [(a_this, .inr (10, mfs rm x_taped x_at x_end x_ended x_bad x_badPlace x_fault x_faultPlace x_namePlace x_awayTold x_away x_coded x_statements x_isCrossing J133_c0_55 J133_c0_58 J133_c0_59 J133_c0_70 J133_c0_71 J133_c0_72 J133_c0_73 J133_c0_74 x_rowMany x_fitMany x_fitRules x_fitGreen x_undoable x_newest x_seeded x_qCoded x_qWaits x_qOpened x_qBase J133_c0_117 x_qAnswer x_qIsNew x_octets)), (wi_rm63_3_12_0 rm cy J133_a1), (wi_rm64_0_12_0 rm cy J133_a2), (wi_rm65_0_12_0 rm cy J133_a3), (wi_rm66_3_12_0 rm cy J133_a4), (wi_rm67_3_12_0 rm cy J133_a5), (wi_rm68_3_12_0 rm cy J133_a6), (wi_rm69_3_300_0 rm cy J133_a7), (wi_rm41_0_4_0 rm cy g_many), (wi_rm46_0_48_0 rm cy g_walkers), (wi_rm56_0_9_0 rm cy g_now), (wi_rm62_3_300_0 rm cy J133_a11), (wi_rm43_0_8_0 rm cy g_bar), (wi_rm44_0_24_0 rm cy g_kinds), (wi_rm49_0_6_0 rm cy g_codeFrom), (wi_rm50_0_6_0 rm cy g_codeEnd), (wi_rm116_1_1700_1 rm cy J133_a16), (wi_rm51_0_3200_0 rm cy g_codes), (wi_rm61_0_300_0 rm cy g_gaps)] → va_S A s.heap H locs → lv_has ls 7 [(0, .ref a_this), (1, .int p0), (2, .int p1), (3, .int p2), (4, .int p3), (5, .int J92_l5), (6, .int J133_l6)] → W p l e { frames := 5, cells := 0, slots := 0, locals := 111 } s m args below meth c H locs 0 0 Q (F0 m 133 ls []) := by
          as_aux_lemma =>
            intro n
            induction n with
            | zero =>
              intro J133_c0_70 J133_c0_71 J133_c0_72 J133_c0_73 J133_c0_74 J133_a1 J133_a6 J133_a7 J133_a11 J133_l6 J133_c0_55 J133_c0_58 J133_c0_59 J133_c0_117 J133_a2 J133_a3 J133_a4 J133_a5 J133_a16 H locs ls hK133_J92_l5 hJ133_c0_70 hJ133_c0_73 hJ133_l6 hJ133_c0_117 hq hm
              exact absurd hm (by have := hJ133_l6; unfold ib at this; omega)
            | succ n ih =>
              intro J133_c0_70 J133_c0_71 J133_c0_72 J133_c0_73 J133_c0_74 J133_a1 J133_a6 J133_a7 J133_a11 J133_l6 J133_c0_55 J133_c0_58 J133_c0_59 J133_c0_117 J133_a2 J133_a3 J133_a4 J133_a5 J133_a16 H locs ls hK133_J92_l5 hJ133_c0_70 hJ133_c0_73 hJ133_l6 hJ133_c0_117 hq hm133 hP hD hS hl
              have ih133 := ih
              obtain ⟨K133, hK133⟩ : ∃ K, K = F_X10_dayBy_133 (lf_A g_many) (lf_A g_bar) (lf_A g_kinds) (lf_A g_walkers) (lf_A g_codeFrom) (lf_A g_codeEnd) (lf_A g_codes) (lf_A g_now) (lf_A g_gaps) (Int32.toInt p3) (Int32.toInt J92_l5) K92 n := ⟨_, rfl⟩
              have hq : O = F_X10_dayBy_133b (lf_A g_many) (lf_A g_bar) (lf_A g_kinds) (lf_A g_walkers) (lf_A g_codeFrom) (lf_A g_codeEnd) (lf_A g_codes) (lf_A g_now) (lf_A g_gaps) (Int32.toInt p3) (Int32.toInt J92_l5) K92 K133 (Int32.toInt J133_c0_70) (Int32.toInt J133_c0_71) (Int32.toInt J133_c0_72) (Int32.toInt J133_c0_73) (Int32.toInt J133_c0_74) (lf_A J133_a1) (lf_A J133_a6) (lf_A J133_a7) (lf_A J133_a11) (Int32.toInt J133_l6) (Int32.toInt J133_c0_55) (Int32.toInt J133_c0_58) (Int32.toInt J133_c0_59) (Int32.toInt J133_c0_117) (lf_A J133_a2) (lf_A J133_a3) (lf_A J133_a4) (lf_A J133_a5) (lf_L J133_a16) := by rw [hK133]; exact hq
              unfold F_X10_dayBy_133b at hq
              have jn162 : ∀ (J162_c0_55 : Int32) (J162_c0_58 : Int32) (J162_c0_59 : Int32) (J162_c0_117 : Int32) (J162_a1 : Nat → Int32) (J162_a2 : Nat → Int32) (J162_a3 : Nat → Int32) (J162_a4 : Nat → Int32) (J162_a5 : Nat → Int32) (J162_a7 : Nat → Int32) (J162_a16 : Nat → Int64) (H : Heap) (locs : List Loc) (ls : Array Slot), ib J92_l5 0 299 → ib J133_l6 0 11 → ib J133_c0_70 0 1 → ib J133_c0_73 0 1 → ib (g_many 3) 1 12 → ib J162_c0_117 0 1700 → (O = F_X10_dayBy_162 (Int32.toInt J133_c0_70) (Int32.toInt J133_c0_71) (Int32.toInt J133_c0_72) (Int32.toInt J133_c0_73) (Int32.toInt J133_c0_74) (lf_A J133_a6) (lf_A J133_a11) (Int32.toInt J133_l6) K133 (Int32.toInt J162_c0_55) (Int32.toInt J162_c0_58) (Int32.toInt J162_c0_59) (Int32.toInt J162_c0_117) (lf_A J162_a1) (lf_A J162_a2) (lf_A J162_a3) (lf_A J162_a4) (lf_A J162_a5) (lf_A J162_a7) (lf_L J162_a16)) → va_P (dC, dI) vwCl [(a_this, .inr (10, mfs rm x_taped x_at x_end x_ended x_bad x_badPlace x_fault x_faultPlace x_namePlace x_awayTold x_away x_coded x_statements x_isCrossing J162_c0_55 J162_c0_58 J162_c0_59 J133_c0_70 J133_c0_71 J133_c0_72 J133_c0_73 J133_c0_74 x_rowMany x_fitMany x_fitRules x_fitGreen x_undoable x_newest x_seeded x_qCoded x_qWaits x_qOpened x_qBase J162_c0_117 x_qAnswer x_qIsNew x_octets)), (wi_rm63_3_12_0 rm cy J162_a1), (wi_rm64_0_12_0 rm cy J162_a2), (wi_rm65_0_12_0 rm cy J162_a3), (wi_rm66_3_12_0 rm cy J162_a4), (wi_rm67_3_12_0 rm cy J162_a5), (wi_rm68_3_12_0 rm cy J133_a6), (wi_rm69_3_300_0 rm cy J162_a7), (wi_rm41_0_4_0 rm cy g_many), (wi_rm46_0_48_0 rm cy g_walkers), (wi_rm56_0_9_0 rm cy g_now), (wi_rm62_3_300_0 rm cy J133_a11), (wi_rm43_0_8_0 rm cy g_bar), (wi_rm44_0_24_0 rm cy g_kinds), (wi_rm49_0_6_0 rm cy g_codeFrom), (wi_rm50_0_6_0 rm cy g_codeEnd), (wi_rm116_1_1700_1 rm cy J162_a16), (wi_rm51_0_3200_0 rm cy g_codes), (wi_rm61_0_300_0 rm cy g_gaps)] H → va_D A [(a_this, .inr (10, mfs rm x_taped x_at x_end x_ended x_bad x_badPlace x_fault x_faultPlace x_namePlace x_awayTold x_away x_coded x_statements x_isCrossing J162_c0_55 J162_c0_58 J162_c0_59 J133_c0_70 J133_c0_71 J133_c0_72 J133_c0_73 J133_c0_74 x_rowMany x_fitMany x_fitRules x_fitGreen x_undoable x_newest x_seeded x_qCoded x_qWaits x_qOpened x_qBase J162_c0_117 x_qAnswer x_qIsNew x_octets)), (wi_rm63_3_12_0 rm cy J162_a1), (wi_rm64_0_12_0 rm cy J162_a2), (wi_rm65_0_12_0 rm cy J162_a3), (wi_rm66_3_12_0 rm cy J162_a4), (wi_rm67_3_12_0 rm cy J162_a5), (wi_rm68_3_12_0 rm cy J133_a6), (wi_rm69_3_300_0 rm cy J162_a7), (wi_rm41_0_4_0 rm cy g_many), (wi_rm46_0_48_0 rm cy g_walkers), (wi_rm56_0_9_0 rm cy g_now), (wi_rm62_3_300_0 rm cy J133_a11), (wi_rm43_0_8_0 rm cy g_bar), (wi_rm44_0_24_0 rm cy g_kinds), (wi_rm49_0_6_0 rm cy g_codeFrom), (wi_rm50_0_6_0 rm cy g_codeEnd), (wi_rm116_1_1700_1 rm cy J162_a16), (wi_rm51_0_3200_0 rm cy g_codes), (wi_rm61_0_300_0 rm cy g_gaps)] → va_S A s.heap H locs → lv_has ls 7 [(0, .ref a_this), (1, .int p0), (2, .int p1), (3, .int p2), (4, .int p3), (5, .int J92_l5), (6, .int J133_l6)] → W p l e { frames := 5, cells := 0, slots := 0, locals := 111 } s m args below meth c H locs 0 0 Q (F0 m 162 ls []) := by
                intro J162_c0_55 J162_c0_58 J162_c0_59 J162_c0_117 J162_a1 J162_a2 J162_a3 J162_a4 J162_a5 J162_a7 J162_a16 H locs ls hK162_J92_l5 hK162_J133_l6 hK162_J133_c0_70 hK162_J133_c0_73 hJ162_a8_3 hJ162_c0_117 hq hP hD hS hl
                unfold F_X10_dayBy_162 at hq
                obtain ⟨z1, ez1⟩ : ∃ y : Int32, y = J133_l6 + 1 := ⟨_, rfl⟩
                refine lv_iinc (v := z1) (lv' := [(6, .int z1), (0, .ref a_this), (1, .int p0), (2, .int p1), (3, .int p2), (4, .int p3), (5, .int J92_l5)]) hx hb dX10_dayBy_162 hl (k := 6) rfl (by rw [ez1]; rfl) (Nat.le_of_ble_eq_true rfl) rfl (fun ls hl => ?_)
                have h2 := ib_add hK162_J133_l6 (ib_c 1 1 1 rfl) rfl
                rw [← ez1] at h2
                have h3 : ib z1 1 12 := ib_w 1 12 h2.1 rfl
                have Ez1 := lf_add h2.2 (lf_rf J133_l6) (lf_lc 1 (1 : Int) rfl)
                refine lv_goto (tgt := 133) hx hb dX10_dayBy_165 rfl ?_
                exact ih133 J133_c0_70 J133_c0_71 J133_c0_72 J133_c0_73 J133_c0_74 J162_a1 J133_a6 J162_a7 J133_a11 z1 J162_c0_55 J162_c0_58 J162_c0_59 J162_c0_117 J162_a2 J162_a3 J162_a4 J162_a5 J162_a16 H locs ls (ib_w 0 299 hK162_J92_l5 rfl) (ib_w 0 1 hK162_J133_c0_70 rfl) (ib_w 0 1 hK162_J133_c0_73 rfl) (ib_w 0 12 h3 rfl) (ib_w 0 1700 hJ162_c0_117 rfl) (by rw [← hK133]; rw [lf_u Ez1]; exact hq) (by have := h2.2; have : (1 : Int32).toInt = 1 := rfl; omega) hP hD hS (lv_sub hl [1, 2, 3, 4, 5, 6, 0] rfl)
              refine lv_iload hx hb dX10_dayBy_133 (lv_at hl 6 rfl) ?_
              refine lv_aload_n hx hb dX10_dayBy_135 rfl (lv_at hl 0 rfl) ?_
              refine k_jim hP hD hS hA [0, 8] [false, true, true, true, true, true, true, true, false, true, true, true, true, true, true, true, true, true, true] rfl rfl (by decide +kernel) 0 0 (Nat.le_of_ble_eq_true rfl) (Nat.le_of_ble_eq_true rfl) (fun hPc hDc => k_runV (As := []) (rest := [.int J133_l6]) C0 hZ hS hA (s_X10_walkerMany l dC dI cy sq a_this rm x_taped x_at x_end x_ended x_bad x_badPlace x_fault x_faultPlace x_namePlace x_awayTold x_away x_coded x_statements x_isCrossing J133_c0_55 J133_c0_58 J133_c0_59 J133_c0_70 J133_c0_71 J133_c0_72 J133_c0_73 J133_c0_74 x_rowMany x_fitMany x_fitRules x_fitGreen x_undoable x_newest x_seeded x_qCoded x_qWaits x_qOpened x_qBase J133_c0_117 x_qAnswer x_qIsNew x_octets g_many ) mV_X10_433 hPc hDc rfl rfl rfl hl rfl rfl (Nat.le_of_ble_eq_true rfl) ⟨(Nat.le_of_ble_eq_true rfl), (Nat.le_of_ble_eq_true rfl)⟩ ⟨(Nat.le_of_ble_eq_true rfl), (Nat.le_of_ble_eq_true rfl)⟩ dX10_dayBy_136) (fun r4 u5 H locs hw hP hD hS => ?_)
              try dsimp only at hP hD hw
              replace hP : va_P (dC, dI) vwCl [(wi_rm63_3_12_0 rm cy J133_a1), (wi_rm64_0_12_0 rm cy J133_a2), (wi_rm65_0_12_0 rm cy J133_a3), (wi_rm66_3_12_0 rm cy J133_a4), (wi_rm67_3_12_0 rm cy J133_a5), (wi_rm68_3_12_0 rm cy J133_a6), (wi_rm69_3_300_0 rm cy J133_a7), (wi_rm46_0_48_0 rm cy g_walkers), (wi_rm56_0_9_0 rm cy g_now), (wi_rm62_3_300_0 rm cy J133_a11), (wi_rm43_0_8_0 rm cy g_bar), (wi_rm44_0_24_0 rm cy g_kinds), (wi_rm49_0_6_0 rm cy g_codeFrom), (wi_rm50_0_6_0 rm cy g_codeEnd), (wi_rm116_1_1700_1 rm cy J133_a16), (wi_rm51_0_3200_0 rm cy g_codes), (wi_rm61_0_300_0 rm cy g_gaps), (a_this, .inr (10, mfs rm x_taped x_at x_end x_ended x_bad x_badPlace x_fault x_faultPlace x_namePlace x_awayTold x_away x_coded x_statements x_isCrossing J133_c0_55 J133_c0_58 J133_c0_59 J133_c0_70 J133_c0_71 J133_c0_72 J133_c0_73 J133_c0_74 x_rowMany x_fitMany x_fitRules x_fitGreen x_undoable x_newest x_seeded x_qCoded x_qWaits x_qOpened x_qBase J133_c0_117 x_qAnswer x_qIsNew x_octets)), (wi_rm41_0_4_0 rm cy g_many)] H := hP
              replace hD := k_D hP hD
              obtain ⟨h6, h7⟩ := hw
              subst h6
              replace hq := lf_b1 hq h7
              refine lv_icmp_ge (tgt := 168) hx hb dX10_dayBy_139 rfl (fun c8 => ?_) (fun c8 => ?_)
              · replace hq := lf_pos hq (lf_le (lf_pt (lf_ra g_many) 3) (lf_rf J133_l6) c8)
                have h9 := ib_le hg_many_3 hJ133_l6 c8
                obtain ⟨z10, ez10⟩ : ∃ y : Int32, y = J92_l5 + 1 := ⟨_, rfl⟩
                refine lv_iinc (v := z10) (lv' := [(5, .int z10), (0, .ref a_this), (1, .int p0), (2, .int p1), (3, .int p2), (4, .int p3), (6, .int J133_l6)]) hx hb dX10_dayBy_168 hl (k := 5) rfl (by rw [ez10]; rfl) (Nat.le_of_ble_eq_true rfl) rfl (fun ls hl => ?_)
                have h11 := ib_add hK133_J92_l5 (ib_c 1 1 1 rfl) rfl
                rw [← ez10] at h11
                have h12 : ib z10 1 300 := ib_w 1 300 h11.1 rfl
                have Ez10 := lf_add h11.2 (lf_rf J92_l5) (lf_lc 1 (1 : Int) rfl)
                refine lv_goto (tgt := 92) hx hb dX10_dayBy_171 rfl ?_
                exact ih92 J133_a1 J133_a2 J133_a3 J133_a4 J133_a5 J133_a6 z10 J133_c0_70 J133_c0_71 J133_c0_72 J133_c0_73 J133_c0_74 J133_a7 J133_a11 J133_c0_55 J133_c0_58 J133_c0_59 J133_c0_117 J133_a16 H locs ls (ib_w 0 300 h12 rfl) (ib_w 0 1 hJ133_c0_70 rfl) (ib_w 0 1 hJ133_c0_73 rfl) (ib_w 0 1700 hJ133_c0_117 rfl) (by rw [← hK92]; rw [lf_u Ez10]; exact hq) (by have := h11.2; have : (1 : Int32).toInt = 1 := rfl; omega) (hP.sub [17, 0, 1, 2, 3, 4, 5, 6, 18, 7, 8, 9, 10, 11, 12, 13, 14, 15, 16] rfl) (hD.sub [17, 0, 1, 2, 3, 4, 5, 6, 18, 7, 8, 9, 10, 11, 12, 13, 14, 15, 16] (by decide +kernel) rfl) hS (lv_sub hl [1, 2, 3, 4, 5, 0] rfl)
              · as_aux_lemma =>
                  replace hq := lf_neg hq (lf_nle (lf_pt (lf_ra g_many) 3) (lf_rf J133_l6) c8)
                  have h13 := ib_nle hg_many_3 hJ133_l6 c8
                  have h14 : ib (g_many 3) 1 12 := ib_w 1 12 h13.1 rfl
                  have h15 : ib J133_l6 0 11 := ib_w 0 11 h13.2 rfl
                  refine lv_aload_n hx hb dX10_dayBy_142 rfl (lv_at hl 0 rfl) ?_
                  refine k_get C0 fg_X10_155 hP 17 rfl rfl dX10_dayBy_143 ?_
                  refine lv_iload hx hb dX10_dayBy_146 (lv_at hl 6 rfl) ?_
                  refine va_zald hx hb C0.2.2.2.2.2.1 hP 0 3 rfl rfl (ib_in 12 h15 rfl) dX10_dayBy_148 ?_
                  refine lv_topi (fun z16 ez16 => ?_)
                  have Ez16 := lf_ld ez16 (lf_ra J133_a1) (lf_rf J133_l6)
                  refine lv_if_eq (tgt := 162) hx hb dX10_dayBy_149 rfl (fun c17 => ?_) (fun c17 => ?_)
                  · replace hq := lf_pos hq (lf_eq Ez16 (lf_lc 0 (0 : Int) rfl) c17)
                    have h18 := ib_eq (ib_any z16) (ib_c 0 0 0 rfl) c17
                    have h19 : ib z16 0 0 := ib_w 0 0 h18.1 rfl
                    exact jn162 J133_c0_55 J133_c0_58 J133_c0_59 J133_c0_117 J133_a1 J133_a2 J133_a3 J133_a4 J133_a5 J133_a7 J133_a16 H locs ls (ib_w 0 299 hK133_J92_l5 rfl) (ib_w 0 11 h15 rfl) (ib_w 0 1 hJ133_c0_70 rfl) (ib_w 0 1 hJ133_c0_73 rfl) (ib_w 1 12 h14 rfl) (ib_w 0 1700 hJ133_c0_117 rfl) (by exact hq) (hP.sub [17, 0, 1, 2, 3, 4, 5, 6, 18, 7, 8, 9, 10, 11, 12, 13, 14, 15, 16] rfl) (hD.sub [17, 0, 1, 2, 3, 4, 5, 6, 18, 7, 8, 9, 10, 11, 12, 13, 14, 15, 16] (by decide +kernel) rfl) hS (lv_sub hl [0, 1, 2, 3, 4, 5, 6] rfl)
                  · as_aux_lemma =>
                      replace hq := lf_neg hq (lf_ne Ez16 (lf_lc 0 (0 : Int) rfl) c17)
                      refine lv_aload_n hx hb dX10_dayBy_152 rfl (lv_at hl 0 rfl) ?_
                      refine lv_iload hx hb dX10_dayBy_153 (lv_at hl 6 rfl) ?_
                      refine lv_iload hx hb dX10_dayBy_155 (lv_at hl 5 rfl) ?_
                      refine lv_iload hx hb dX10_dayBy_157 (lv_at hl 4 rfl) ?_
                      refine k_jvm hP hD hS hA [17, 9, 7, 11, 1, 0, 6, 12, 13, 14, 15, 8, 10, 2, 16, 3, 4] [false, false, false, false, false, true, false, false, false, false, false, false, false, false, false, false, false, false, true] rfl rfl (by decide +kernel) 0 0 (Nat.le_of_ble_eq_true rfl) (Nat.le_of_ble_eq_true rfl) (fun hPc hDc => k_runV (As := [.int J133_l6, .int J92_l5, .int p3]) (rest := []) C0 hZ hS hA (s_X10_acts l dC dI cy sq a_this rm x_taped x_at x_end x_ended x_bad x_badPlace x_fault x_faultPlace x_namePlace x_awayTold x_away x_coded x_statements x_isCrossing J133_c0_55 J133_c0_58 J133_c0_59 J133_c0_70 J133_c0_71 J133_c0_72 J133_c0_73 J133_c0_74 x_rowMany x_fitMany x_fitRules x_fitGreen x_undoable x_newest x_seeded x_qCoded x_qWaits x_qOpened x_qBase J133_c0_117 x_qAnswer x_qIsNew x_octets g_bar g_kinds g_walkers g_codeFrom g_codeEnd g_codes g_now g_gaps J133_a11 J133_a1 J133_a2 J133_a3 J133_a4 J133_a5 J133_a7 J133_a16 J133_l6 J92_l5 p3 (ib_w 0 1700 hJ133_c0_117 rfl) (ib_w 10 120 hg_bar_4 rfl) hpg_walkers (ib_w (-1) 1600 hg_codeFrom_4 rfl) (ib_w 0 1600 hg_codeEnd_4 rfl) hg_gaps hG1 (ib_w 0 11 h15 rfl) (ib_w 0 299 hK133_J92_l5 rfl)) mV_X10_497 hPc hDc rfl rfl rfl hl rfl rfl (Nat.le_of_ble_eq_true rfl) ⟨(Nat.le_of_ble_eq_true rfl), (Nat.le_of_ble_eq_true rfl)⟩ ⟨(Nat.le_of_ble_eq_true rfl), (Nat.le_of_ble_eq_true rfl)⟩ dX10_dayBy_159) (fun u21 H locs hw hP hD hS => ?_)
                      obtain ⟨v22, v23, v24, v25, f26, f27, f28, f29, f30, f31, f32⟩ := u21
                      try dsimp only at hP hD hw
                      replace hP : va_P (dC, dI) vwCl [(wi_rm68_3_12_0 rm cy J133_a6), (wi_rm41_0_4_0 rm cy g_many), (a_this, .inr (10, mfs rm x_taped x_at x_end x_ended x_bad x_badPlace x_fault x_faultPlace x_namePlace x_awayTold x_away x_coded x_statements x_isCrossing v22 v23 v24 J133_c0_70 J133_c0_71 J133_c0_72 J133_c0_73 J133_c0_74 x_rowMany x_fitMany x_fitRules x_fitGreen x_undoable x_newest x_seeded x_qCoded x_qWaits x_qOpened x_qBase v25 x_qAnswer x_qIsNew x_octets)), (wi_rm62_3_300_0 rm cy J133_a11), (wi_rm46_0_48_0 rm cy g_walkers), (wi_rm44_0_24_0 rm cy g_kinds), (wi_rm64_0_12_0 rm cy f26), (wi_rm63_3_12_0 rm cy f27), (wi_rm69_3_300_0 rm cy f28), (wi_rm49_0_6_0 rm cy g_codeFrom), (wi_rm50_0_6_0 rm cy g_codeEnd), (wi_rm116_1_1700_1 rm cy f29), (wi_rm51_0_3200_0 rm cy g_codes), (wi_rm56_0_9_0 rm cy g_now), (wi_rm43_0_8_0 rm cy g_bar), (wi_rm65_0_12_0 rm cy f30), (wi_rm61_0_300_0 rm cy g_gaps), (wi_rm66_3_12_0 rm cy f31), (wi_rm67_3_12_0 rm cy f32)] H := hP
                      replace hD := k_D hP hD
                      obtain ⟨h33, h34⟩ := hw
                      replace hq := lf_p1 hq h34
                      replace hq := lf_p1 hq rfl
                      replace hq := lf_p1 hq rfl
                      replace hq := lf_p1 hq rfl
                      replace hq := lf_p1 hq rfl
                      replace hq := lf_p1 hq rfl
                      replace hq := lf_p1 hq rfl
                      replace hq := lf_p1 hq rfl
                      replace hq := lf_p1 hq rfl
                      replace hq := lf_p1 hq rfl
                      exact jn162 v22 v23 v24 v25 f27 f26 f30 f31 f32 f28 f29 H locs ls (ib_w 0 299 hK133_J92_l5 rfl) (ib_w 0 11 h15 rfl) (ib_w 0 1 hJ133_c0_70 rfl) (ib_w 0 1 hJ133_c0_73 rfl) (ib_w 1 12 h14 rfl) (ib_w 0 1700 h33 rfl) (by exact hq) (hP.sub [2, 7, 6, 15, 17, 18, 0, 8, 1, 4, 13, 3, 14, 5, 9, 10, 11, 12, 16] rfl) (hD.sub [2, 7, 6, 15, 17, 18, 0, 8, 1, 4, 13, 3, 14, 5, 9, 10, 11, 12, 16] (by decide +kernel) rfl) hS (lv_sub hl [0, 1, 2, 3, 4, 5, 6] rfl)
        refine lv_iload hx hb dX10_dayBy_92 (lv_at hl 5 rfl) ?_
        refine lv_sipush (v := 300) hx hb dX10_dayBy_94 rfl ?_
        refine lv_icmp_ge (tgt := 174) hx hb dX10_dayBy_97 rfl (fun c35 => ?_) (fun c35 => ?_)
        · replace hq := lf_pos hq (lf_le (lf_lc 300 (300 : Int) rfl) (lf_rf J92_l5) c35)
          have h36 := ib_le (ib_c 300 300 300 rfl) hJ92_l5 c35
          have h37 : ib J92_l5 300 300 := ib_w 300 300 h36.2 rfl
          subst hQ; exact k_vret hx hb hr hlk ((J92_c0_55, J92_c0_58, J92_c0_59, J92_c0_70, J92_c0_71, J92_c0_72, J92_c0_73, J92_c0_74, J92_c0_117, J92_a1, J92_a2, J92_a3, J92_a4, J92_a5, J92_a6, J92_a7, J92_a11, J92_a16)) hS ⟨ib_w 0 1 hJ92_c0_70 rfl, ib_w 0 1 hJ92_c0_73 rfl, ib_w 0 1700 hJ92_c0_117 rfl, (hO.symm.trans (by exact hq))⟩ hP hD (Nat.le_of_ble_eq_true rfl) (Nat.le_of_ble_eq_true rfl) dX10_dayBy_174
        · as_aux_lemma =>
            replace hq := lf_neg hq (lf_nle (lf_lc 300 (300 : Int) rfl) (lf_rf J92_l5) c35)
            have h38 := ib_nle (ib_c 300 300 300 rfl) hJ92_l5 c35
            have h39 : ib J92_l5 0 299 := ib_w 0 299 h38.2 rfl
            refine lv_aload_n hx hb dX10_dayBy_100 rfl (lv_at hl 0 rfl) ?_
            refine k_get C0 fg_X10_173 hP 0 rfl rfl dX10_dayBy_101 ?_
            refine lv_iload hx hb dX10_dayBy_104 (lv_at hl 5 rfl) ?_
            refine lv_iconst (v := 0) hx hb dX10_dayBy_106 rfl ?_
            refine va_zast hx hb C0.2.2.2.2.2.1 hP hD hS 7 3 rfl rfl (ib_in 300 h39 rfl) dX10_dayBy_107 (fun H locs hP hD hS => ?_)
            replace hP : va_P (dC, dI) vwCl [(a_this, .inr (10, mfs rm x_taped x_at x_end x_ended x_bad x_badPlace x_fault x_faultPlace x_namePlace x_awayTold x_away x_coded x_statements x_isCrossing J92_c0_55 J92_c0_58 J92_c0_59 J92_c0_70 J92_c0_71 J92_c0_72 J92_c0_73 J92_c0_74 x_rowMany x_fitMany x_fitRules x_fitGreen x_undoable x_newest x_seeded x_qCoded x_qWaits x_qOpened x_qBase J92_c0_117 x_qAnswer x_qIsNew x_octets)), (wi_rm63_3_12_0 rm cy J92_a1), (wi_rm64_0_12_0 rm cy J92_a2), (wi_rm65_0_12_0 rm cy J92_a3), (wi_rm66_3_12_0 rm cy J92_a4), (wi_rm67_3_12_0 rm cy J92_a5), (wi_rm68_3_12_0 rm cy J92_a6), (wi_rm69_3_300_0 rm cy (upd J92_a7 (Int32.toNatClampNeg J92_l5) (vp_nar .boolean 0))), (wi_rm41_0_4_0 rm cy g_many), (wi_rm46_0_48_0 rm cy g_walkers), (wi_rm56_0_9_0 rm cy g_now), (wi_rm62_3_300_0 rm cy J92_a11), (wi_rm43_0_8_0 rm cy g_bar), (wi_rm44_0_24_0 rm cy g_kinds), (wi_rm49_0_6_0 rm cy g_codeFrom), (wi_rm50_0_6_0 rm cy g_codeEnd), (wi_rm116_1_1700_1 rm cy J92_a16), (wi_rm51_0_3200_0 rm cy g_codes), (wi_rm61_0_300_0 rm cy g_gaps)] H := hP
            replace hD := k_D hP hD
            generalize ef40 : upd J92_a7 (Int32.toNatClampNeg J92_l5) (vp_nar .boolean 0) = f40 at hP hD
            have Ef40 := lf_st (lf_nb ef40 (ib_w 0 1 (ib_c 0 0 0 rfl) rfl)) (lf_ra J92_a7) (lf_rf J92_l5) (lf_lc 0 (0 : Int) rfl)
            refine lv_aload_n hx hb dX10_dayBy_108 rfl (lv_at hl 0 rfl) ?_
            refine lv_iload hx hb dX10_dayBy_109 (lv_at hl 5 rfl) ?_
            refine lv_iload_n hx hb dX10_dayBy_111 rfl (lv_at hl 3 rfl) ?_
            refine k_jvm hP hD hS hA [0, 8, 9, 1, 10, 11, 6] [false, false, true, true, true, true, false, true, false, false, false, false, true, true, true, true, true, true, true] rfl rfl (by decide +kernel) 0 0 (Nat.le_of_ble_eq_true rfl) (Nat.le_of_ble_eq_true rfl) (fun hPc hDc => k_runV (As := [.int J92_l5, .int p2]) (rest := []) C0 hZ hS hA (s_X10_arrive l dC dI cy sq a_this rm x_taped x_at x_end x_ended x_bad x_badPlace x_fault x_faultPlace x_namePlace x_awayTold x_away x_coded x_statements x_isCrossing J92_c0_55 J92_c0_58 J92_c0_59 J92_c0_70 J92_c0_71 J92_c0_72 J92_c0_73 J92_c0_74 x_rowMany x_fitMany x_fitRules x_fitGreen x_undoable x_newest x_seeded x_qCoded x_qWaits x_qOpened x_qBase J92_c0_117 x_qAnswer x_qIsNew x_octets g_many g_walkers g_now J92_a11 J92_a1 J92_a6 J92_l5 p2 (ib_w 0 1 hJ92_c0_70 rfl) (ib_w 0 12 hg_many_3 rfl) hpg_walkers (ib_w 0 299 h39 rfl)) mV_X10_491 hPc hDc rfl rfl rfl hl rfl rfl (Nat.le_of_ble_eq_true rfl) ⟨(Nat.le_of_ble_eq_true rfl), (Nat.le_of_ble_eq_true rfl)⟩ ⟨(Nat.le_of_ble_eq_true rfl), (Nat.le_of_ble_eq_true rfl)⟩ dX10_dayBy_112) (fun u42 H locs hw hP hD hS => ?_)
            obtain ⟨v43, f44, f45⟩ := u42
            try dsimp only at hP hD hw
            replace hP : va_P (dC, dI) vwCl [(wi_rm64_0_12_0 rm cy J92_a2), (wi_rm65_0_12_0 rm cy J92_a3), (wi_rm66_3_12_0 rm cy J92_a4), (wi_rm67_3_12_0 rm cy J92_a5), (wi_rm69_3_300_0 rm cy f40), (wi_rm43_0_8_0 rm cy g_bar), (wi_rm44_0_24_0 rm cy g_kinds), (wi_rm49_0_6_0 rm cy g_codeFrom), (wi_rm50_0_6_0 rm cy g_codeEnd), (wi_rm116_1_1700_1 rm cy J92_a16), (wi_rm51_0_3200_0 rm cy g_codes), (wi_rm61_0_300_0 rm cy g_gaps), (a_this, .inr (10, mfs rm x_taped x_at x_end x_ended x_bad x_badPlace x_fault x_faultPlace x_namePlace x_awayTold x_away x_coded x_statements x_isCrossing J92_c0_55 J92_c0_58 J92_c0_59 v43 J92_c0_71 J92_c0_72 J92_c0_73 J92_c0_74 x_rowMany x_fitMany x_fitRules x_fitGreen x_undoable x_newest x_seeded x_qCoded x_qWaits x_qOpened x_qBase J92_c0_117 x_qAnswer x_qIsNew x_octets)), (wi_rm41_0_4_0 rm cy g_many), (wi_rm46_0_48_0 rm cy g_walkers), (wi_rm63_3_12_0 rm cy f44), (wi_rm56_0_9_0 rm cy g_now), (wi_rm62_3_300_0 rm cy J92_a11), (wi_rm68_3_12_0 rm cy f45)] H := hP
            replace hD := k_D hP hD
            obtain ⟨h46, h47⟩ := hw
            replace hq := lf_p1 hq h47
            replace hq := lf_p1 hq rfl
            refine lv_aload_n hx hb dX10_dayBy_115 rfl (lv_at hl 0 rfl) ?_
            refine k_get C0 fg_X10_152 hP 12 rfl rfl dX10_dayBy_116 ?_
            refine lv_iload hx hb dX10_dayBy_119 (lv_at hl 5 rfl) ?_
            refine lv_aload_n hx hb dX10_dayBy_121 rfl (lv_at hl 0 rfl) ?_
            refine lv_iload hx hb dX10_dayBy_122 (lv_at hl 5 rfl) ?_
            refine lv_iload_n hx hb dX10_dayBy_124 rfl (lv_at hl 1 rfl) ?_
            refine lv_iload_n hx hb dX10_dayBy_125 rfl (lv_at hl 2 rfl) ?_
            refine k_jim hP hD hS hA [12, 5] [true, true, true, true, true, false, true, true, true, true, true, true, false, true, true, true, true, true, true] rfl rfl (by decide +kernel) 0 0 (Nat.le_of_ble_eq_true rfl) (Nat.le_of_ble_eq_true rfl) (fun hPc hDc => k_runV (As := [.int J92_l5, .int p0, .int p1]) (rest := [.int J92_l5, .ref (rm 62)]) C0 hZ hS hA (s_X10_isLit l dC dI cy sq a_this rm x_taped x_at x_end x_ended x_bad x_badPlace x_fault x_faultPlace x_namePlace x_awayTold x_away x_coded x_statements x_isCrossing J92_c0_55 J92_c0_58 J92_c0_59 v43 J92_c0_71 J92_c0_72 J92_c0_73 J92_c0_74 x_rowMany x_fitMany x_fitRules x_fitGreen x_undoable x_newest x_seeded x_qCoded x_qWaits x_qOpened x_qBase J92_c0_117 x_qAnswer x_qIsNew x_octets g_bar J92_l5 p0 p1 (ib_w 0 1 h46 rfl) (ib_w 0 1 hJ92_c0_73 rfl) (ib_w 10 120 hg_bar_4 rfl) (ib_w 0 299 h39 rfl)) mV_X10_494 hPc hDc rfl rfl rfl hl rfl rfl (Nat.le_of_ble_eq_true rfl) ⟨(Nat.le_of_ble_eq_true rfl), (Nat.le_of_ble_eq_true rfl)⟩ ⟨(Nat.le_of_ble_eq_true rfl), (Nat.le_of_ble_eq_true rfl)⟩ dX10_dayBy_126) (fun r48 u49 H locs hw hP hD hS => ?_)
            obtain ⟨v50, v51, v52, v53, v54⟩ := u49
            try dsimp only at hP hD hw
            replace hP : va_P (dC, dI) vwCl [(wi_rm64_0_12_0 rm cy J92_a2), (wi_rm65_0_12_0 rm cy J92_a3), (wi_rm66_3_12_0 rm cy J92_a4), (wi_rm67_3_12_0 rm cy J92_a5), (wi_rm69_3_300_0 rm cy f40), (wi_rm44_0_24_0 rm cy g_kinds), (wi_rm49_0_6_0 rm cy g_codeFrom), (wi_rm50_0_6_0 rm cy g_codeEnd), (wi_rm116_1_1700_1 rm cy J92_a16), (wi_rm51_0_3200_0 rm cy g_codes), (wi_rm61_0_300_0 rm cy g_gaps), (wi_rm41_0_4_0 rm cy g_many), (wi_rm46_0_48_0 rm cy g_walkers), (wi_rm63_3_12_0 rm cy f44), (wi_rm56_0_9_0 rm cy g_now), (wi_rm62_3_300_0 rm cy J92_a11), (wi_rm68_3_12_0 rm cy f45), (a_this, .inr (10, mfs rm x_taped x_at x_end x_ended x_bad x_badPlace x_fault x_faultPlace x_namePlace x_awayTold x_away x_coded x_statements x_isCrossing J92_c0_55 J92_c0_58 J92_c0_59 v50 v51 v52 v53 v54 x_rowMany x_fitMany x_fitRules x_fitGreen x_undoable x_newest x_seeded x_qCoded x_qWaits x_qOpened x_qBase J92_c0_117 x_qAnswer x_qIsNew x_octets)), (wi_rm43_0_8_0 rm cy g_bar)] H := hP
            replace hD := k_D hP hD
            obtain ⟨h55, h56, h57, h58⟩ := hw
            replace hq := lf_p1 hq h58
            replace hq := lf_p1 hq rfl
            replace hq := lf_p1 hq rfl
            replace hq := lf_p1 hq rfl
            replace hq := lf_p1 hq rfl
            refine va_zast hx hb C0.2.2.2.2.2.1 hP hD hS 15 3 rfl rfl (ib_in 300 h39 rfl) dX10_dayBy_129 (fun H locs hP hD hS => ?_)
            replace hP : va_P (dC, dI) vwCl [(wi_rm64_0_12_0 rm cy J92_a2), (wi_rm65_0_12_0 rm cy J92_a3), (wi_rm66_3_12_0 rm cy J92_a4), (wi_rm67_3_12_0 rm cy J92_a5), (wi_rm69_3_300_0 rm cy f40), (wi_rm44_0_24_0 rm cy g_kinds), (wi_rm49_0_6_0 rm cy g_codeFrom), (wi_rm50_0_6_0 rm cy g_codeEnd), (wi_rm116_1_1700_1 rm cy J92_a16), (wi_rm51_0_3200_0 rm cy g_codes), (wi_rm61_0_300_0 rm cy g_gaps), (wi_rm41_0_4_0 rm cy g_many), (wi_rm46_0_48_0 rm cy g_walkers), (wi_rm63_3_12_0 rm cy f44), (wi_rm56_0_9_0 rm cy g_now), (wi_rm62_3_300_0 rm cy (upd J92_a11 (Int32.toNatClampNeg J92_l5) (vp_nar .boolean r48))), (wi_rm68_3_12_0 rm cy f45), (a_this, .inr (10, mfs rm x_taped x_at x_end x_ended x_bad x_badPlace x_fault x_faultPlace x_namePlace x_awayTold x_away x_coded x_statements x_isCrossing J92_c0_55 J92_c0_58 J92_c0_59 v50 v51 v52 v53 v54 x_rowMany x_fitMany x_fitRules x_fitGreen x_undoable x_newest x_seeded x_qCoded x_qWaits x_qOpened x_qBase J92_c0_117 x_qAnswer x_qIsNew x_octets)), (wi_rm43_0_8_0 rm cy g_bar)] H := hP
            replace hD := k_D hP hD
            generalize ef59 : upd J92_a11 (Int32.toNatClampNeg J92_l5) (vp_nar .boolean r48) = f59 at hP hD
            have Ef59 := lf_st (lf_nb ef59 (ib_w 0 1 h57 rfl)) (lf_ra J92_a11) (lf_rf J92_l5) (lf_rf r48)
            refine lv_iconst (v := 0) hx hb dX10_dayBy_130 rfl ?_
            refine lv_istore (lv' := [(6, .int 0), (0, .ref a_this), (1, .int p0), (2, .int p1), (3, .int p2), (4, .int p3), (5, .int J92_l5)]) hx hb dX10_dayBy_131 hl (Nat.le_of_ble_eq_true rfl) rfl (fun ls hl => ?_)
            exact jn133 14 v50 v51 v52 v53 v54 f44 f45 f40 f59 0 J92_c0_55 J92_c0_58 J92_c0_59 J92_c0_117 J92_a2 J92_a3 J92_a4 J92_a5 J92_a16 H locs ls (ib_w 0 299 h39 rfl) (ib_w 0 1 h55 rfl) (ib_w 0 1 h56 rfl) (ib_w 0 12 (ib_c 0 0 0 rfl) rfl) (ib_w 0 1700 hJ92_c0_117 rfl) (by rw [lf_ua Ef40]; rw [lf_ua Ef59]; try simp only [show (0 : Int32).toInt = (0 : Int) from rfl]; exact hq) (by have := (ib_c 0 0 0 rfl); unfold ib at this; omega) (hP.sub [17, 13, 0, 1, 2, 3, 16, 4, 11, 12, 14, 15, 18, 5, 6, 7, 8, 9, 10] rfl) (hD.sub [17, 13, 0, 1, 2, 3, 16, 4, 11, 12, 14, 15, 18, 5, 6, 7, 8, 9, 10] (by decide +kernel) rfl) hS (lv_sub hl [1, 2, 3, 4, 5, 6, 0] rfl)
  have jn3 : ∀ (n : Nat) (J3_l5 : Int32) (J3_a1 : Nat → Int32) (J3_a2 : Nat → Int32) (J3_a3 : Nat → Int32) (J3_a4 : Nat → Int32) (J3_a5 : Nat → Int32) (J3_a6 : Nat → Int32) (H : Heap) (locs : List Loc) (ls : Array Slot), ib J3_l5 0 12 → (O = F_X10_dayBy_3 (Int32.toInt x_textKind) (Int32.toInt x_askSecond) (Int32.toInt x_stillGreen) (Int32.toInt x_qPiled) (lf_A g_many) (lf_A g_bar) (lf_A g_kinds) (lf_A g_walkers) (lf_A g_codeFrom) (lf_A g_codeEnd) (lf_A g_codes) (lf_A g_now) (lf_A g_gaps) (lf_A g_isGreen) (lf_A g_crossedIn) (lf_L g_qPile) (Int32.toInt p0) (Int32.toInt p1) (Int32.toInt p2) (Int32.toInt p3) n (Int32.toInt J3_l5) (lf_A J3_a1) (lf_A J3_a2) (lf_A J3_a3) (lf_A J3_a4) (lf_A J3_a5) (lf_A J3_a6)) → 13 ≤ J3_l5.toInt + (n : Int) → va_P (dC, dI) vwCl [(a_this, .inr (10, mfs rm x_taped x_at x_end x_ended x_bad x_badPlace x_fault x_faultPlace x_namePlace x_awayTold x_away x_coded x_statements x_isCrossing x_textKind x_askSecond x_redMany x_isOpen x_lastGreen x_greenTo x_isCycleGreen x_stillGreen x_rowMany x_fitMany x_fitRules x_fitGreen x_undoable x_newest x_seeded x_qCoded x_qWaits x_qOpened x_qBase x_qPiled x_qAnswer x_qIsNew x_octets)), (wi_rm63_3_12_0 rm cy J3_a1), (wi_rm64_0_12_0 rm cy J3_a2), (wi_rm65_0_12_0 rm cy J3_a3), (wi_rm66_3_12_0 rm cy J3_a4), (wi_rm67_3_12_0 rm cy J3_a5), (wi_rm68_3_12_0 rm cy J3_a6), (wi_rm69_3_300_0 rm cy g_crossedIn), (wi_rm41_0_4_0 rm cy g_many), (wi_rm46_0_48_0 rm cy g_walkers), (wi_rm56_0_9_0 rm cy g_now), (wi_rm62_3_300_0 rm cy g_isGreen), (wi_rm43_0_8_0 rm cy g_bar), (wi_rm44_0_24_0 rm cy g_kinds), (wi_rm49_0_6_0 rm cy g_codeFrom), (wi_rm50_0_6_0 rm cy g_codeEnd), (wi_rm116_1_1700_1 rm cy g_qPile), (wi_rm51_0_3200_0 rm cy g_codes), (wi_rm61_0_300_0 rm cy g_gaps)] H → va_D A [(a_this, .inr (10, mfs rm x_taped x_at x_end x_ended x_bad x_badPlace x_fault x_faultPlace x_namePlace x_awayTold x_away x_coded x_statements x_isCrossing x_textKind x_askSecond x_redMany x_isOpen x_lastGreen x_greenTo x_isCycleGreen x_stillGreen x_rowMany x_fitMany x_fitRules x_fitGreen x_undoable x_newest x_seeded x_qCoded x_qWaits x_qOpened x_qBase x_qPiled x_qAnswer x_qIsNew x_octets)), (wi_rm63_3_12_0 rm cy J3_a1), (wi_rm64_0_12_0 rm cy J3_a2), (wi_rm65_0_12_0 rm cy J3_a3), (wi_rm66_3_12_0 rm cy J3_a4), (wi_rm67_3_12_0 rm cy J3_a5), (wi_rm68_3_12_0 rm cy J3_a6), (wi_rm69_3_300_0 rm cy g_crossedIn), (wi_rm41_0_4_0 rm cy g_many), (wi_rm46_0_48_0 rm cy g_walkers), (wi_rm56_0_9_0 rm cy g_now), (wi_rm62_3_300_0 rm cy g_isGreen), (wi_rm43_0_8_0 rm cy g_bar), (wi_rm44_0_24_0 rm cy g_kinds), (wi_rm49_0_6_0 rm cy g_codeFrom), (wi_rm50_0_6_0 rm cy g_codeEnd), (wi_rm116_1_1700_1 rm cy g_qPile), (wi_rm51_0_3200_0 rm cy g_codes), (wi_rm61_0_300_0 rm cy g_gaps)] → va_S A s.heap H locs → lv_has ls 7 [(0, .ref a_this), (1, .int p0), (2, .int p1), (3, .int p2), (4, .int p3), (5, .int J3_l5)] → W p l e { frames := 5, cells := 0, slots := 0, locals := 111 } s m args below meth c H locs 0 0 Q (F0 m 3 ls []) := by
    as_aux_lemma =>
      intro n
      induction n with
      | zero =>
        intro J3_l5 J3_a1 J3_a2 J3_a3 J3_a4 J3_a5 J3_a6 H locs ls hJ3_l5 hq hm
        exact absurd hm (by have := hJ3_l5; unfold ib at this; omega)
      | succ n ih =>
        intro J3_l5 J3_a1 J3_a2 J3_a3 J3_a4 J3_a5 J3_a6 H locs ls hJ3_l5 hq hm3 hP hD hS hl
        have ih3 := ih
        obtain ⟨K3, hK3⟩ : ∃ K, K = F_X10_dayBy_3 (Int32.toInt x_textKind) (Int32.toInt x_askSecond) (Int32.toInt x_stillGreen) (Int32.toInt x_qPiled) (lf_A g_many) (lf_A g_bar) (lf_A g_kinds) (lf_A g_walkers) (lf_A g_codeFrom) (lf_A g_codeEnd) (lf_A g_codes) (lf_A g_now) (lf_A g_gaps) (lf_A g_isGreen) (lf_A g_crossedIn) (lf_L g_qPile) (Int32.toInt p0) (Int32.toInt p1) (Int32.toInt p2) (Int32.toInt p3) n := ⟨_, rfl⟩
        have hq : O = F_X10_dayBy_3b (Int32.toInt x_textKind) (Int32.toInt x_askSecond) (Int32.toInt x_stillGreen) (Int32.toInt x_qPiled) (lf_A g_many) (lf_A g_bar) (lf_A g_kinds) (lf_A g_walkers) (lf_A g_codeFrom) (lf_A g_codeEnd) (lf_A g_codes) (lf_A g_now) (lf_A g_gaps) (lf_A g_isGreen) (lf_A g_crossedIn) (lf_L g_qPile) (Int32.toInt p0) (Int32.toInt p1) (Int32.toInt p2) (Int32.toInt p3) K3 (Int32.toInt J3_l5) (lf_A J3_a1) (lf_A J3_a2) (lf_A J3_a3) (lf_A J3_a4) (lf_A J3_a5) (lf_A J3_a6) := by rw [hK3]; exact hq
        unfold F_X10_dayBy_3b at hq
        refine lv_iload hx hb dX10_dayBy_3 (lv_at hl 5 rfl) ?_
        refine lv_bipush (v := 12) hx hb dX10_dayBy_5 rfl ?_
        refine lv_icmp_ge (tgt := 64) hx hb dX10_dayBy_7 rfl (fun c60 => ?_) (fun c60 => ?_)
        · as_aux_lemma =>
            replace hq := lf_pos hq (lf_le (lf_lc 12 (12 : Int) rfl) (lf_rf J3_l5) c60)
            have h61 := ib_le (ib_c 12 12 12 rfl) hJ3_l5 c60
            have h62 : ib J3_l5 12 12 := ib_w 12 12 h61.2 rfl
            refine lv_aload_n hx hb dX10_dayBy_64 rfl (lv_at hl 0 rfl) ?_
            refine lv_iconst (v := 0) hx hb dX10_dayBy_65 rfl ?_
            refine k_put C0 fp_X10_466 hP hD hS 0 rfl (k_nb 0 rfl) (k_fb 0 (by decide)) (Nat.le_of_ble_eq_true rfl) dX10_dayBy_66 (fun H locs hP hD hS => ?_)
            replace hP : va_P (dC, dI) vwCl [(a_this, .inr (10, mfs rm x_taped x_at x_end x_ended x_bad x_badPlace x_fault x_faultPlace x_namePlace x_awayTold x_away x_coded x_statements x_isCrossing x_textKind x_askSecond x_redMany 0 x_lastGreen x_greenTo x_isCycleGreen x_stillGreen x_rowMany x_fitMany x_fitRules x_fitGreen x_undoable x_newest x_seeded x_qCoded x_qWaits x_qOpened x_qBase x_qPiled x_qAnswer x_qIsNew x_octets)), (wi_rm63_3_12_0 rm cy J3_a1), (wi_rm64_0_12_0 rm cy J3_a2), (wi_rm65_0_12_0 rm cy J3_a3), (wi_rm66_3_12_0 rm cy J3_a4), (wi_rm67_3_12_0 rm cy J3_a5), (wi_rm68_3_12_0 rm cy J3_a6), (wi_rm69_3_300_0 rm cy g_crossedIn), (wi_rm41_0_4_0 rm cy g_many), (wi_rm46_0_48_0 rm cy g_walkers), (wi_rm56_0_9_0 rm cy g_now), (wi_rm62_3_300_0 rm cy g_isGreen), (wi_rm43_0_8_0 rm cy g_bar), (wi_rm44_0_24_0 rm cy g_kinds), (wi_rm49_0_6_0 rm cy g_codeFrom), (wi_rm50_0_6_0 rm cy g_codeEnd), (wi_rm116_1_1700_1 rm cy g_qPile), (wi_rm51_0_3200_0 rm cy g_codes), (wi_rm61_0_300_0 rm cy g_gaps)] H := hP
            replace hD := k_D hP hD
            refine lv_aload_n hx hb dX10_dayBy_69 rfl (lv_at hl 0 rfl) ?_
            refine lv_iconst (v := (-1)) hx hb dX10_dayBy_70 rfl ?_
            refine k_put C0 fp_X10_478 hP hD hS 0 rfl rfl rfl (Nat.le_of_ble_eq_true rfl) dX10_dayBy_71 (fun H locs hP hD hS => ?_)
            replace hP : va_P (dC, dI) vwCl [(a_this, .inr (10, mfs rm x_taped x_at x_end x_ended x_bad x_badPlace x_fault x_faultPlace x_namePlace x_awayTold x_away x_coded x_statements x_isCrossing x_textKind x_askSecond x_redMany 0 (-1) x_greenTo x_isCycleGreen x_stillGreen x_rowMany x_fitMany x_fitRules x_fitGreen x_undoable x_newest x_seeded x_qCoded x_qWaits x_qOpened x_qBase x_qPiled x_qAnswer x_qIsNew x_octets)), (wi_rm63_3_12_0 rm cy J3_a1), (wi_rm64_0_12_0 rm cy J3_a2), (wi_rm65_0_12_0 rm cy J3_a3), (wi_rm66_3_12_0 rm cy J3_a4), (wi_rm67_3_12_0 rm cy J3_a5), (wi_rm68_3_12_0 rm cy J3_a6), (wi_rm69_3_300_0 rm cy g_crossedIn), (wi_rm41_0_4_0 rm cy g_many), (wi_rm46_0_48_0 rm cy g_walkers), (wi_rm56_0_9_0 rm cy g_now), (wi_rm62_3_300_0 rm cy g_isGreen), (wi_rm43_0_8_0 rm cy g_bar), (wi_rm44_0_24_0 rm cy g_kinds), (wi_rm49_0_6_0 rm cy g_codeFrom), (wi_rm50_0_6_0 rm cy g_codeEnd), (wi_rm116_1_1700_1 rm cy g_qPile), (wi_rm51_0_3200_0 rm cy g_codes), (wi_rm61_0_300_0 rm cy g_gaps)] H := hP
            replace hD := k_D hP hD
            refine lv_aload_n hx hb dX10_dayBy_74 rfl (lv_at hl 0 rfl) ?_
            refine lv_iconst (v := (-1)) hx hb dX10_dayBy_75 rfl ?_
            refine k_put C0 fp_X10_475 hP hD hS 0 rfl rfl rfl (Nat.le_of_ble_eq_true rfl) dX10_dayBy_76 (fun H locs hP hD hS => ?_)
            replace hP : va_P (dC, dI) vwCl [(a_this, .inr (10, mfs rm x_taped x_at x_end x_ended x_bad x_badPlace x_fault x_faultPlace x_namePlace x_awayTold x_away x_coded x_statements x_isCrossing x_textKind x_askSecond x_redMany 0 (-1) (-1) x_isCycleGreen x_stillGreen x_rowMany x_fitMany x_fitRules x_fitGreen x_undoable x_newest x_seeded x_qCoded x_qWaits x_qOpened x_qBase x_qPiled x_qAnswer x_qIsNew x_octets)), (wi_rm63_3_12_0 rm cy J3_a1), (wi_rm64_0_12_0 rm cy J3_a2), (wi_rm65_0_12_0 rm cy J3_a3), (wi_rm66_3_12_0 rm cy J3_a4), (wi_rm67_3_12_0 rm cy J3_a5), (wi_rm68_3_12_0 rm cy J3_a6), (wi_rm69_3_300_0 rm cy g_crossedIn), (wi_rm41_0_4_0 rm cy g_many), (wi_rm46_0_48_0 rm cy g_walkers), (wi_rm56_0_9_0 rm cy g_now), (wi_rm62_3_300_0 rm cy g_isGreen), (wi_rm43_0_8_0 rm cy g_bar), (wi_rm44_0_24_0 rm cy g_kinds), (wi_rm49_0_6_0 rm cy g_codeFrom), (wi_rm50_0_6_0 rm cy g_codeEnd), (wi_rm116_1_1700_1 rm cy g_qPile), (wi_rm51_0_3200_0 rm cy g_codes), (wi_rm61_0_300_0 rm cy g_gaps)] H := hP
            replace hD := k_D hP hD
            refine lv_aload_n hx hb dX10_dayBy_79 rfl (lv_at hl 0 rfl) ?_
            refine lv_iconst (v := 0) hx hb dX10_dayBy_80 rfl ?_
            refine k_put C0 fp_X10_472 hP hD hS 0 rfl (k_nb 0 rfl) (k_fb 0 (by decide)) (Nat.le_of_ble_eq_true rfl) dX10_dayBy_81 (fun H locs hP hD hS => ?_)
            replace hP : va_P (dC, dI) vwCl [(a_this, .inr (10, mfs rm x_taped x_at x_end x_ended x_bad x_badPlace x_fault x_faultPlace x_namePlace x_awayTold x_away x_coded x_statements x_isCrossing x_textKind x_askSecond x_redMany 0 (-1) (-1) 0 x_stillGreen x_rowMany x_fitMany x_fitRules x_fitGreen x_undoable x_newest x_seeded x_qCoded x_qWaits x_qOpened x_qBase x_qPiled x_qAnswer x_qIsNew x_octets)), (wi_rm63_3_12_0 rm cy J3_a1), (wi_rm64_0_12_0 rm cy J3_a2), (wi_rm65_0_12_0 rm cy J3_a3), (wi_rm66_3_12_0 rm cy J3_a4), (wi_rm67_3_12_0 rm cy J3_a5), (wi_rm68_3_12_0 rm cy J3_a6), (wi_rm69_3_300_0 rm cy g_crossedIn), (wi_rm41_0_4_0 rm cy g_many), (wi_rm46_0_48_0 rm cy g_walkers), (wi_rm56_0_9_0 rm cy g_now), (wi_rm62_3_300_0 rm cy g_isGreen), (wi_rm43_0_8_0 rm cy g_bar), (wi_rm44_0_24_0 rm cy g_kinds), (wi_rm49_0_6_0 rm cy g_codeFrom), (wi_rm50_0_6_0 rm cy g_codeEnd), (wi_rm116_1_1700_1 rm cy g_qPile), (wi_rm51_0_3200_0 rm cy g_codes), (wi_rm61_0_300_0 rm cy g_gaps)] H := hP
            replace hD := k_D hP hD
            refine lv_aload_n hx hb dX10_dayBy_84 rfl (lv_at hl 0 rfl) ?_
            refine lv_iconst (v := 0) hx hb dX10_dayBy_85 rfl ?_
            refine k_put C0 fp_X10_488 hP hD hS 0 rfl rfl rfl (Nat.le_of_ble_eq_true rfl) dX10_dayBy_86 (fun H locs hP hD hS => ?_)
            replace hP : va_P (dC, dI) vwCl [(a_this, .inr (10, mfs rm x_taped x_at x_end x_ended x_bad x_badPlace x_fault x_faultPlace x_namePlace x_awayTold x_away x_coded x_statements x_isCrossing x_textKind x_askSecond 0 0 (-1) (-1) 0 x_stillGreen x_rowMany x_fitMany x_fitRules x_fitGreen x_undoable x_newest x_seeded x_qCoded x_qWaits x_qOpened x_qBase x_qPiled x_qAnswer x_qIsNew x_octets)), (wi_rm63_3_12_0 rm cy J3_a1), (wi_rm64_0_12_0 rm cy J3_a2), (wi_rm65_0_12_0 rm cy J3_a3), (wi_rm66_3_12_0 rm cy J3_a4), (wi_rm67_3_12_0 rm cy J3_a5), (wi_rm68_3_12_0 rm cy J3_a6), (wi_rm69_3_300_0 rm cy g_crossedIn), (wi_rm41_0_4_0 rm cy g_many), (wi_rm46_0_48_0 rm cy g_walkers), (wi_rm56_0_9_0 rm cy g_now), (wi_rm62_3_300_0 rm cy g_isGreen), (wi_rm43_0_8_0 rm cy g_bar), (wi_rm44_0_24_0 rm cy g_kinds), (wi_rm49_0_6_0 rm cy g_codeFrom), (wi_rm50_0_6_0 rm cy g_codeEnd), (wi_rm116_1_1700_1 rm cy g_qPile), (wi_rm51_0_3200_0 rm cy g_codes), (wi_rm61_0_300_0 rm cy g_gaps)] H := hP
            replace hD := k_D hP hD
            refine lv_iconst (v := 0) hx hb dX10_dayBy_89 rfl ?_
            refine lv_istore (lv' := [(5, .int 0), (0, .ref a_this), (1, .int p0), (2, .int p1), (3, .int p2), (4, .int p3)]) hx hb dX10_dayBy_90 hl (Nat.le_of_ble_eq_true rfl) rfl (fun ls hl => ?_)
            exact jn92 302 J3_a1 J3_a2 J3_a3 J3_a4 J3_a5 J3_a6 0 0 (-1) (-1) 0 x_stillGreen g_crossedIn g_isGreen x_textKind x_askSecond 0 x_qPiled g_qPile H locs ls (ib_w 0 300 (ib_c 0 0 0 rfl) rfl) (ib_w 0 1 (ib_c 0 0 0 rfl) rfl) (ib_w 0 1 (ib_c 0 0 0 rfl) rfl) (ib_w 0 1700 hx_qPiled rfl) (by try simp only [show (0 : Int32).toInt = (0 : Int) from rfl]; try simp only [show ((-1) : Int32).toInt = (-1 : Int) from rfl]; exact hq) (by have := (ib_c 0 0 0 rfl); unfold ib at this; omega) hP hD hS (lv_sub hl [1, 2, 3, 4, 5, 0] rfl)
        · as_aux_lemma =>
            replace hq := lf_neg hq (lf_nle (lf_lc 12 (12 : Int) rfl) (lf_rf J3_l5) c60)
            have h63 := ib_nle (ib_c 12 12 12 rfl) hJ3_l5 c60
            have h64 : ib J3_l5 0 11 := ib_w 0 11 h63.2 rfl
            refine lv_aload_n hx hb dX10_dayBy_10 rfl (lv_at hl 0 rfl) ?_
            refine k_get C0 fg_X10_155 hP 0 rfl rfl dX10_dayBy_11 ?_
            refine lv_iload hx hb dX10_dayBy_14 (lv_at hl 5 rfl) ?_
            refine lv_iconst (v := 0) hx hb dX10_dayBy_16 rfl ?_
            refine va_zast hx hb C0.2.2.2.2.2.1 hP hD hS 1 3 rfl rfl (ib_in 12 h64 rfl) dX10_dayBy_17 (fun H locs hP hD hS => ?_)
            replace hP : va_P (dC, dI) vwCl [(a_this, .inr (10, mfs rm x_taped x_at x_end x_ended x_bad x_badPlace x_fault x_faultPlace x_namePlace x_awayTold x_away x_coded x_statements x_isCrossing x_textKind x_askSecond x_redMany x_isOpen x_lastGreen x_greenTo x_isCycleGreen x_stillGreen x_rowMany x_fitMany x_fitRules x_fitGreen x_undoable x_newest x_seeded x_qCoded x_qWaits x_qOpened x_qBase x_qPiled x_qAnswer x_qIsNew x_octets)), (wi_rm63_3_12_0 rm cy (upd J3_a1 (Int32.toNatClampNeg J3_l5) (vp_nar .boolean 0))), (wi_rm64_0_12_0 rm cy J3_a2), (wi_rm65_0_12_0 rm cy J3_a3), (wi_rm66_3_12_0 rm cy J3_a4), (wi_rm67_3_12_0 rm cy J3_a5), (wi_rm68_3_12_0 rm cy J3_a6), (wi_rm69_3_300_0 rm cy g_crossedIn), (wi_rm41_0_4_0 rm cy g_many), (wi_rm46_0_48_0 rm cy g_walkers), (wi_rm56_0_9_0 rm cy g_now), (wi_rm62_3_300_0 rm cy g_isGreen), (wi_rm43_0_8_0 rm cy g_bar), (wi_rm44_0_24_0 rm cy g_kinds), (wi_rm49_0_6_0 rm cy g_codeFrom), (wi_rm50_0_6_0 rm cy g_codeEnd), (wi_rm116_1_1700_1 rm cy g_qPile), (wi_rm51_0_3200_0 rm cy g_codes), (wi_rm61_0_300_0 rm cy g_gaps)] H := hP
            replace hD := k_D hP hD
            generalize ef65 : upd J3_a1 (Int32.toNatClampNeg J3_l5) (vp_nar .boolean 0) = f65 at hP hD
            have Ef65 := lf_st (lf_nb ef65 (ib_w 0 1 (ib_c 0 0 0 rfl) rfl)) (lf_ra J3_a1) (lf_rf J3_l5) (lf_lc 0 (0 : Int) rfl)
            refine lv_aload_n hx hb dX10_dayBy_18 rfl (lv_at hl 0 rfl) ?_
            refine k_get C0 fg_X10_158 hP 0 rfl rfl dX10_dayBy_19 ?_
            refine lv_iload hx hb dX10_dayBy_22 (lv_at hl 5 rfl) ?_
            refine lv_iconst (v := (-1)) hx hb dX10_dayBy_24 rfl ?_
            refine va_iast hx hb C0.2.2.2.2.2.1 hP hD hS 2 0 rfl rfl (ib_in 12 h64 rfl) dX10_dayBy_25 (fun H locs hP hD hS => ?_)
            replace hP : va_P (dC, dI) vwCl [(a_this, .inr (10, mfs rm x_taped x_at x_end x_ended x_bad x_badPlace x_fault x_faultPlace x_namePlace x_awayTold x_away x_coded x_statements x_isCrossing x_textKind x_askSecond x_redMany x_isOpen x_lastGreen x_greenTo x_isCycleGreen x_stillGreen x_rowMany x_fitMany x_fitRules x_fitGreen x_undoable x_newest x_seeded x_qCoded x_qWaits x_qOpened x_qBase x_qPiled x_qAnswer x_qIsNew x_octets)), (wi_rm63_3_12_0 rm cy f65), (wi_rm64_0_12_0 rm cy (upd J3_a2 (Int32.toNatClampNeg J3_l5) (-1))), (wi_rm65_0_12_0 rm cy J3_a3), (wi_rm66_3_12_0 rm cy J3_a4), (wi_rm67_3_12_0 rm cy J3_a5), (wi_rm68_3_12_0 rm cy J3_a6), (wi_rm69_3_300_0 rm cy g_crossedIn), (wi_rm41_0_4_0 rm cy g_many), (wi_rm46_0_48_0 rm cy g_walkers), (wi_rm56_0_9_0 rm cy g_now), (wi_rm62_3_300_0 rm cy g_isGreen), (wi_rm43_0_8_0 rm cy g_bar), (wi_rm44_0_24_0 rm cy g_kinds), (wi_rm49_0_6_0 rm cy g_codeFrom), (wi_rm50_0_6_0 rm cy g_codeEnd), (wi_rm116_1_1700_1 rm cy g_qPile), (wi_rm51_0_3200_0 rm cy g_codes), (wi_rm61_0_300_0 rm cy g_gaps)] H := hP
            replace hD := k_D hP hD
            generalize ef66 : upd J3_a2 (Int32.toNatClampNeg J3_l5) (-1) = f66 at hP hD
            have Ef66 := lf_st ef66 (lf_ra J3_a2) (lf_rf J3_l5) (lf_lc (-1) (-1 : Int) rfl)
            refine lv_aload_n hx hb dX10_dayBy_26 rfl (lv_at hl 0 rfl) ?_
            refine k_get C0 fg_X10_161 hP 0 rfl rfl dX10_dayBy_27 ?_
            refine lv_iload hx hb dX10_dayBy_30 (lv_at hl 5 rfl) ?_
            refine lv_iconst (v := 0) hx hb dX10_dayBy_32 rfl ?_
            refine va_iast hx hb C0.2.2.2.2.2.1 hP hD hS 3 0 rfl rfl (ib_in 12 h64 rfl) dX10_dayBy_33 (fun H locs hP hD hS => ?_)
            replace hP : va_P (dC, dI) vwCl [(a_this, .inr (10, mfs rm x_taped x_at x_end x_ended x_bad x_badPlace x_fault x_faultPlace x_namePlace x_awayTold x_away x_coded x_statements x_isCrossing x_textKind x_askSecond x_redMany x_isOpen x_lastGreen x_greenTo x_isCycleGreen x_stillGreen x_rowMany x_fitMany x_fitRules x_fitGreen x_undoable x_newest x_seeded x_qCoded x_qWaits x_qOpened x_qBase x_qPiled x_qAnswer x_qIsNew x_octets)), (wi_rm63_3_12_0 rm cy f65), (wi_rm64_0_12_0 rm cy f66), (wi_rm65_0_12_0 rm cy (upd J3_a3 (Int32.toNatClampNeg J3_l5) 0)), (wi_rm66_3_12_0 rm cy J3_a4), (wi_rm67_3_12_0 rm cy J3_a5), (wi_rm68_3_12_0 rm cy J3_a6), (wi_rm69_3_300_0 rm cy g_crossedIn), (wi_rm41_0_4_0 rm cy g_many), (wi_rm46_0_48_0 rm cy g_walkers), (wi_rm56_0_9_0 rm cy g_now), (wi_rm62_3_300_0 rm cy g_isGreen), (wi_rm43_0_8_0 rm cy g_bar), (wi_rm44_0_24_0 rm cy g_kinds), (wi_rm49_0_6_0 rm cy g_codeFrom), (wi_rm50_0_6_0 rm cy g_codeEnd), (wi_rm116_1_1700_1 rm cy g_qPile), (wi_rm51_0_3200_0 rm cy g_codes), (wi_rm61_0_300_0 rm cy g_gaps)] H := hP
            replace hD := k_D hP hD
            generalize ef67 : upd J3_a3 (Int32.toNatClampNeg J3_l5) 0 = f67 at hP hD
            have Ef67 := lf_st ef67 (lf_ra J3_a3) (lf_rf J3_l5) (lf_lc 0 (0 : Int) rfl)
            as_aux_lemma =>
              refine lv_aload_n hx hb dX10_dayBy_34 rfl (lv_at hl 0 rfl) ?_
              refine k_get C0 fg_X10_164 hP 0 rfl rfl dX10_dayBy_35 ?_
              refine lv_iload hx hb dX10_dayBy_38 (lv_at hl 5 rfl) ?_
              refine lv_iconst (v := 0) hx hb dX10_dayBy_40 rfl ?_
              refine va_zast hx hb C0.2.2.2.2.2.1 hP hD hS 4 3 rfl rfl (ib_in 12 h64 rfl) dX10_dayBy_41 (fun H locs hP hD hS => ?_)
              replace hP : va_P (dC, dI) vwCl [(a_this, .inr (10, mfs rm x_taped x_at x_end x_ended x_bad x_badPlace x_fault x_faultPlace x_namePlace x_awayTold x_away x_coded x_statements x_isCrossing x_textKind x_askSecond x_redMany x_isOpen x_lastGreen x_greenTo x_isCycleGreen x_stillGreen x_rowMany x_fitMany x_fitRules x_fitGreen x_undoable x_newest x_seeded x_qCoded x_qWaits x_qOpened x_qBase x_qPiled x_qAnswer x_qIsNew x_octets)), (wi_rm63_3_12_0 rm cy f65), (wi_rm64_0_12_0 rm cy f66), (wi_rm65_0_12_0 rm cy f67), (wi_rm66_3_12_0 rm cy (upd J3_a4 (Int32.toNatClampNeg J3_l5) (vp_nar .boolean 0))), (wi_rm67_3_12_0 rm cy J3_a5), (wi_rm68_3_12_0 rm cy J3_a6), (wi_rm69_3_300_0 rm cy g_crossedIn), (wi_rm41_0_4_0 rm cy g_many), (wi_rm46_0_48_0 rm cy g_walkers), (wi_rm56_0_9_0 rm cy g_now), (wi_rm62_3_300_0 rm cy g_isGreen), (wi_rm43_0_8_0 rm cy g_bar), (wi_rm44_0_24_0 rm cy g_kinds), (wi_rm49_0_6_0 rm cy g_codeFrom), (wi_rm50_0_6_0 rm cy g_codeEnd), (wi_rm116_1_1700_1 rm cy g_qPile), (wi_rm51_0_3200_0 rm cy g_codes), (wi_rm61_0_300_0 rm cy g_gaps)] H := hP
              replace hD := k_D hP hD
              generalize ef68 : upd J3_a4 (Int32.toNatClampNeg J3_l5) (vp_nar .boolean 0) = f68 at hP hD
              have Ef68 := lf_st (lf_nb ef68 (ib_w 0 1 (ib_c 0 0 0 rfl) rfl)) (lf_ra J3_a4) (lf_rf J3_l5) (lf_lc 0 (0 : Int) rfl)
              refine lv_aload_n hx hb dX10_dayBy_42 rfl (lv_at hl 0 rfl) ?_
              refine k_get C0 fg_X10_167 hP 0 rfl rfl dX10_dayBy_43 ?_
              refine lv_iload hx hb dX10_dayBy_46 (lv_at hl 5 rfl) ?_
              refine lv_iconst (v := 0) hx hb dX10_dayBy_48 rfl ?_
              refine va_zast hx hb C0.2.2.2.2.2.1 hP hD hS 5 3 rfl rfl (ib_in 12 h64 rfl) dX10_dayBy_49 (fun H locs hP hD hS => ?_)
              replace hP : va_P (dC, dI) vwCl [(a_this, .inr (10, mfs rm x_taped x_at x_end x_ended x_bad x_badPlace x_fault x_faultPlace x_namePlace x_awayTold x_away x_coded x_statements x_isCrossing x_textKind x_askSecond x_redMany x_isOpen x_lastGreen x_greenTo x_isCycleGreen x_stillGreen x_rowMany x_fitMany x_fitRules x_fitGreen x_undoable x_newest x_seeded x_qCoded x_qWaits x_qOpened x_qBase x_qPiled x_qAnswer x_qIsNew x_octets)), (wi_rm63_3_12_0 rm cy f65), (wi_rm64_0_12_0 rm cy f66), (wi_rm65_0_12_0 rm cy f67), (wi_rm66_3_12_0 rm cy f68), (wi_rm67_3_12_0 rm cy (upd J3_a5 (Int32.toNatClampNeg J3_l5) (vp_nar .boolean 0))), (wi_rm68_3_12_0 rm cy J3_a6), (wi_rm69_3_300_0 rm cy g_crossedIn), (wi_rm41_0_4_0 rm cy g_many), (wi_rm46_0_48_0 rm cy g_walkers), (wi_rm56_0_9_0 rm cy g_now), (wi_rm62_3_300_0 rm cy g_isGreen), (wi_rm43_0_8_0 rm cy g_bar), (wi_rm44_0_24_0 rm cy g_kinds), (wi_rm49_0_6_0 rm cy g_codeFrom), (wi_rm50_0_6_0 rm cy g_codeEnd), (wi_rm116_1_1700_1 rm cy g_qPile), (wi_rm51_0_3200_0 rm cy g_codes), (wi_rm61_0_300_0 rm cy g_gaps)] H := hP
              replace hD := k_D hP hD
              generalize ef69 : upd J3_a5 (Int32.toNatClampNeg J3_l5) (vp_nar .boolean 0) = f69 at hP hD
              have Ef69 := lf_st (lf_nb ef69 (ib_w 0 1 (ib_c 0 0 0 rfl) rfl)) (lf_ra J3_a5) (lf_rf J3_l5) (lf_lc 0 (0 : Int) rfl)
              refine lv_aload_n hx hb dX10_dayBy_50 rfl (lv_at hl 0 rfl) ?_
              refine k_get C0 fg_X10_170 hP 0 rfl rfl dX10_dayBy_51 ?_
              refine lv_iload hx hb dX10_dayBy_54 (lv_at hl 5 rfl) ?_
              refine lv_iconst (v := 0) hx hb dX10_dayBy_56 rfl ?_
              refine va_zast hx hb C0.2.2.2.2.2.1 hP hD hS 6 3 rfl rfl (ib_in 12 h64 rfl) dX10_dayBy_57 (fun H locs hP hD hS => ?_)
              replace hP : va_P (dC, dI) vwCl [(a_this, .inr (10, mfs rm x_taped x_at x_end x_ended x_bad x_badPlace x_fault x_faultPlace x_namePlace x_awayTold x_away x_coded x_statements x_isCrossing x_textKind x_askSecond x_redMany x_isOpen x_lastGreen x_greenTo x_isCycleGreen x_stillGreen x_rowMany x_fitMany x_fitRules x_fitGreen x_undoable x_newest x_seeded x_qCoded x_qWaits x_qOpened x_qBase x_qPiled x_qAnswer x_qIsNew x_octets)), (wi_rm63_3_12_0 rm cy f65), (wi_rm64_0_12_0 rm cy f66), (wi_rm65_0_12_0 rm cy f67), (wi_rm66_3_12_0 rm cy f68), (wi_rm67_3_12_0 rm cy f69), (wi_rm68_3_12_0 rm cy (upd J3_a6 (Int32.toNatClampNeg J3_l5) (vp_nar .boolean 0))), (wi_rm69_3_300_0 rm cy g_crossedIn), (wi_rm41_0_4_0 rm cy g_many), (wi_rm46_0_48_0 rm cy g_walkers), (wi_rm56_0_9_0 rm cy g_now), (wi_rm62_3_300_0 rm cy g_isGreen), (wi_rm43_0_8_0 rm cy g_bar), (wi_rm44_0_24_0 rm cy g_kinds), (wi_rm49_0_6_0 rm cy g_codeFrom), (wi_rm50_0_6_0 rm cy g_codeEnd), (wi_rm116_1_1700_1 rm cy g_qPile), (wi_rm51_0_3200_0 rm cy g_codes), (wi_rm61_0_300_0 rm cy g_gaps)] H := hP
              replace hD := k_D hP hD
              generalize ef70 : upd J3_a6 (Int32.toNatClampNeg J3_l5) (vp_nar .boolean 0) = f70 at hP hD
              have Ef70 := lf_st (lf_nb ef70 (ib_w 0 1 (ib_c 0 0 0 rfl) rfl)) (lf_ra J3_a6) (lf_rf J3_l5) (lf_lc 0 (0 : Int) rfl)
              obtain ⟨z71, ez71⟩ : ∃ y : Int32, y = J3_l5 + 1 := ⟨_, rfl⟩
              refine lv_iinc (v := z71) (lv' := [(5, .int z71), (0, .ref a_this), (1, .int p0), (2, .int p1), (3, .int p2), (4, .int p3)]) hx hb dX10_dayBy_58 hl (k := 5) rfl (by rw [ez71]; rfl) (Nat.le_of_ble_eq_true rfl) rfl (fun ls hl => ?_)
              have h72 := ib_add h64 (ib_c 1 1 1 rfl) rfl
              rw [← ez71] at h72
              have h73 : ib z71 1 12 := ib_w 1 12 h72.1 rfl
              have Ez71 := lf_add h72.2 (lf_rf J3_l5) (lf_lc 1 (1 : Int) rfl)
              refine lv_goto (tgt := 3) hx hb dX10_dayBy_61 rfl ?_
              exact ih3 z71 f65 f66 f67 f68 f69 f70 H locs ls (ib_w 0 12 h73 rfl) (by rw [← hK3]; rw [lf_u Ez71]; rw [lf_ua Ef65]; rw [lf_ua Ef66]; rw [lf_ua Ef67]; rw [lf_ua Ef68]; rw [lf_ua Ef69]; rw [lf_ua Ef70]; exact hq) (by have := h72.2; have : (1 : Int32).toInt = 1 := rfl; omega) hP hD hS (lv_sub hl [1, 2, 3, 4, 5, 0] rfl)
  refine lv_iconst (v := 0) hx hb dX10_dayBy_0 rfl ?_
  refine lv_istore (lv' := [(5, .int 0), (0, .ref a_this), (1, .int p0), (2, .int p1), (3, .int p2), (4, .int p3)]) hx hb dX10_dayBy_1 hl (Nat.le_of_ble_eq_true rfl) rfl (fun ls hl => ?_)
  exact jn3 14 0 g_isHere g_crosses g_waits g_goes g_harms g_presses H locs ls (ib_w 0 12 (ib_c 0 0 0 rfl) rfl) (by try simp only [show (0 : Int32).toInt = (0 : Int) from rfl]; exact hq) (by have := (ib_c 0 0 0 rfl); unfold ib at this; omega) hP hD hS (lv_sub hl [1, 2, 3, 4, 5, 0] rfl)
set_option maxHeartbeats 4000000 in
set_option maxRecDepth 100000 in
theorem s_X10_dayNow (l : Launch) (dC : Nat → ClassId) (dI : Nat → Nat → Nat) (cy : Nat → ClassId) (sq : Nat → Nat) (a_this : Nat) (rm : Nat → Nat) (x_taped : Int32) (x_at : Int32) (x_end : Int32) (x_ended : Int32) (x_bad : Int32) (x_badPlace : Int32) (x_fault : Int32) (x_faultPlace : Int32) (x_namePlace : Int32) (x_awayTold : Int32) (x_away : Int32) (x_coded : Int32) (x_statements : Int32) (x_isCrossing : Int32) (x_textKind : Int32) (x_askSecond : Int32) (x_redMany : Int32) (x_isOpen : Int32) (x_lastGreen : Int32) (x_greenTo : Int32) (x_isCycleGreen : Int32) (x_stillGreen : Int32) (x_rowMany : Int32) (x_fitMany : Int32) (x_fitRules : Int32) (x_fitGreen : Int32) (x_undoable : Int32) (x_newest : Int32) (x_seeded : Int64) (x_qCoded : Int32) (x_qWaits : Int32) (x_qOpened : Int32) (x_qBase : Int32) (x_qPiled : Int32) (x_qAnswer : Int64) (x_qIsNew : Int32) (x_octets : Int32) (g_many : Nat → Int32) (g_bar : Nat → Int32) (g_kinds : Nat → Int32) (g_walkers : Nat → Int32) (g_codeFrom : Nat → Int32) (g_codeEnd : Nat → Int32) (g_codes : Nat → Int32) (g_now : Nat → Int32) (g_isCar : Nat → Int32) (g_gaps : Nat → Int32) (g_isGreen : Nat → Int32) (g_isHere : Nat → Int32) (g_crosses : Nat → Int32) (g_waits : Nat → Int32) (g_goes : Nat → Int32) (g_harms : Nat → Int32) (g_presses : Nat → Int32) (g_crossedIn : Nat → Int32) (g_qPile : Nat → Int64) (hx_qPiled : ib x_qPiled 0 1700) (hg_many_3 : ib (g_many 3) 0 12) (hg_bar_4 : ib (g_bar 4) 10 120) (hpg_walkers : ip g_walkers 48 2 0 0 5) (hg_codeFrom_3 : ib (g_codeFrom 3) (-1) 1600) (hg_codeFrom_4 : ib (g_codeFrom 4) (-1) 1600) (hg_codeEnd_3 : ib (g_codeEnd 3) 0 1600) (hg_codeEnd_4 : ib (g_codeEnd 4) 0 1600) (hg_gaps : ia g_gaps 300 0 20) (hG0 : ¬ g_codeFrom 3 = (-1) → okc g_codes 1600 false (g_codeFrom 3) (g_codeEnd 3)) (hG1 : ¬ g_codeFrom 4 = (-1) → okc g_codes 1600 true (g_codeFrom 4) (g_codeEnd 4)) : k_Met l yX10_dayNow cX10_dayNow 1 none { frames := 6, cells := 0, slots := 0, locals := 137 } dC dI cy sq [.ref a_this] [(a_this, .inr (10, mfs rm x_taped x_at x_end x_ended x_bad x_badPlace x_fault x_faultPlace x_namePlace x_awayTold x_away x_coded x_statements x_isCrossing x_textKind x_askSecond x_redMany x_isOpen x_lastGreen x_greenTo x_isCycleGreen x_stillGreen x_rowMany x_fitMany x_fitRules x_fitGreen x_undoable x_newest x_seeded x_qCoded x_qWaits x_qOpened x_qBase x_qPiled x_qAnswer x_qIsNew x_octets)), (wi_rm49_0_6_0 rm cy g_codeFrom), (wi_rm50_0_6_0 rm cy g_codeEnd), (wi_rm116_1_1700_1 rm cy g_qPile), (wi_rm51_0_3200_0 rm cy g_codes), (wi_rm46_0_48_0 rm cy g_walkers), (wi_rm56_0_9_0 rm cy g_now), (wi_rm43_0_8_0 rm cy g_bar), (wi_rm65_0_12_0 rm cy g_waits), (wi_rm44_0_24_0 rm cy g_kinds), (wi_rm61_0_300_0 rm cy g_gaps), (wi_rm66_3_12_0 rm cy g_goes), (wi_rm67_3_12_0 rm cy g_harms), (wi_rm60_3_320_0 rm cy g_isCar), (wi_rm63_3_12_0 rm cy g_isHere), (wi_rm64_0_12_0 rm cy g_crosses), (wi_rm68_3_12_0 rm cy g_presses), (wi_rm69_3_300_0 rm cy g_crossedIn), (wi_rm41_0_4_0 rm cy g_many), (wi_rm62_3_300_0 rm cy g_isGreen)] (k_Qv dC dI (fun (u : Int32 × Int32 × Int32 × Int32 × Int32 × Int32 × Int32 × Int32 × Int32 × (Nat → Int64) × (Nat → Int32) × (Nat → Int32) × (Nat → Int32) × (Nat → Int32) × (Nat → Int32) × (Nat → Int32) × (Nat → Int32) × (Nat → Int32) × (Nat → Int32) × (Nat → Int32)) => match u with | (n0, n1, n2, n3, n4, n5, n6, n7, n8, n9, n10, n11, n12, n13, n14, n15, n16, n17, n18, n19) => ib n3 0 1 ∧ ib n6 0 1 ∧ ib n8 0 1700 ∧ ia n11 300 0 20 ∧ (F_X10_dayNow (Int32.toInt x_textKind) (Int32.toInt x_askSecond) (Int32.toInt x_redMany) (Int32.toInt x_stillGreen) (Int32.toInt x_qPiled) (lf_A g_many) (lf_A g_bar) (lf_A g_kinds) (lf_A g_walkers) (lf_A g_codeFrom) (lf_A g_codeEnd) (lf_A g_codes) (lf_A g_now) (lf_A g_isCar) (lf_A g_gaps) (lf_A g_isGreen) (lf_A g_isHere) (lf_A g_crosses) (lf_A g_waits) (lf_A g_goes) (lf_A g_harms) (lf_A g_presses) (lf_A g_crossedIn) (lf_L g_qPile) = ((Int32.toInt n0), (Int32.toInt n1), (Int32.toInt n2), (Int32.toInt n3), (Int32.toInt n4), (Int32.toInt n5), (Int32.toInt n6), (Int32.toInt n7), (Int32.toInt n8), (lf_L n9), (lf_A n10), (lf_A n11), (lf_A n12), (lf_A n13), (lf_A n14), (lf_A n15), (lf_A n16), (lf_A n17), (lf_A n18), (lf_A n19)))) (fun u : Int32 × Int32 × Int32 × Int32 × Int32 × Int32 × Int32 × Int32 × Int32 × (Nat → Int64) × (Nat → Int32) × (Nat → Int32) × (Nat → Int32) × (Nat → Int32) × (Nat → Int32) × (Nat → Int32) × (Nat → Int32) × (Nat → Int32) × (Nat → Int32) × (Nat → Int32) => match u with | (n0, n1, n2, n3, n4, n5, n6, n7, n8, n9, n10, n11, n12, n13, n14, n15, n16, n17, n18, n19) => [(a_this, .inr (10, mfs rm x_taped x_at x_end x_ended x_bad x_badPlace x_fault x_faultPlace x_namePlace x_awayTold x_away x_coded x_statements x_isCrossing n0 n1 n2 n3 n4 n5 n6 n7 x_rowMany x_fitMany x_fitRules x_fitGreen x_undoable x_newest x_seeded x_qCoded x_qWaits x_qOpened x_qBase n8 x_qAnswer x_qIsNew x_octets)), (wi_rm49_0_6_0 rm cy g_codeFrom), (wi_rm50_0_6_0 rm cy g_codeEnd), (wi_rm116_1_1700_1 rm cy n9), (wi_rm51_0_3200_0 rm cy g_codes), (wi_rm46_0_48_0 rm cy g_walkers), (wi_rm56_0_9_0 rm cy g_now), (wi_rm43_0_8_0 rm cy g_bar), (wi_rm65_0_12_0 rm cy n10), (wi_rm44_0_24_0 rm cy g_kinds), (wi_rm61_0_300_0 rm cy n11), (wi_rm66_3_12_0 rm cy n12), (wi_rm67_3_12_0 rm cy n13), (wi_rm60_3_320_0 rm cy n14), (wi_rm63_3_12_0 rm cy n15), (wi_rm64_0_12_0 rm cy n16), (wi_rm68_3_12_0 rm cy n17), (wi_rm69_3_300_0 rm cy n18), (wi_rm41_0_4_0 rm cy g_many), (wi_rm62_3_300_0 rm cy n19)])) := by
  refine k_ofW2 (by decide +kernel) (Nat.le_of_ble_eq_true rfl) ?_
  intro p e s m below meth c A ls H locs args Q hQ C0 hZ hr hlk hin hP hD hA hS hl
  have C0 : k_cx p s m args c cX10_dayNow 1 RX10 dC dI cy sq := C0
  have hx := C0.1
  have hb := C0.2.1
  have hl : lv_has ls 1 [(0, .ref a_this)] := hl
  obtain ⟨O, hO⟩ : ∃ o, o = F_X10_dayNow (Int32.toInt x_textKind) (Int32.toInt x_askSecond) (Int32.toInt x_redMany) (Int32.toInt x_stillGreen) (Int32.toInt x_qPiled) (lf_A g_many) (lf_A g_bar) (lf_A g_kinds) (lf_A g_walkers) (lf_A g_codeFrom) (lf_A g_codeEnd) (lf_A g_codes) (lf_A g_now) (lf_A g_isCar) (lf_A g_gaps) (lf_A g_isGreen) (lf_A g_isHere) (lf_A g_crosses) (lf_A g_waits) (lf_A g_goes) (lf_A g_harms) (lf_A g_presses) (lf_A g_crossedIn) (lf_L g_qPile) := ⟨_, rfl⟩
  have hq := hO
  unfold F_X10_dayNow at hq
  refine lv_aload_n hx hb dX10_dayNow_0 rfl (lv_at hl 0 rfl) ?_
  refine k_jvm hP hD hS hA [0, 1, 2, 3, 4, 5, 6, 7, 8, 9, 10, 11, 12, 13] [false, false, false, false, false, false, false, false, false, false, false, false, false, false, true, true, true, true, true, true] rfl rfl (by decide +kernel) 0 0 (Nat.le_of_ble_eq_true rfl) (Nat.le_of_ble_eq_true rfl) (fun hPc hDc => k_runV (As := []) (rest := []) C0 hZ hS hA (s_X10_laysCars l dC dI cy sq a_this rm x_taped x_at x_end x_ended x_bad x_badPlace x_fault x_faultPlace x_namePlace x_awayTold x_away x_coded x_statements x_isCrossing x_textKind x_askSecond x_redMany x_isOpen x_lastGreen x_greenTo x_isCycleGreen x_stillGreen x_rowMany x_fitMany x_fitRules x_fitGreen x_undoable x_newest x_seeded x_qCoded x_qWaits x_qOpened x_qBase x_qPiled x_qAnswer x_qIsNew x_octets g_bar g_kinds g_walkers g_codeFrom g_codeEnd g_codes g_now g_isCar g_gaps g_waits g_goes g_harms g_qPile (ib_w 0 1700 hx_qPiled rfl) (ib_w 10 120 hg_bar_4 rfl) hpg_walkers (ib_w (-1) 1600 hg_codeFrom_3 rfl) (ib_w 0 1600 hg_codeEnd_3 rfl) hg_gaps hG0) mV_X10_501 hPc hDc rfl rfl rfl hl rfl rfl (Nat.le_of_ble_eq_true rfl) ⟨(Nat.le_of_ble_eq_true rfl), (Nat.le_of_ble_eq_true rfl)⟩ ⟨(Nat.le_of_ble_eq_true rfl), (Nat.le_of_ble_eq_true rfl)⟩ dX10_dayNow_1) (fun u2 H locs hw hP hD hS => ?_)
  obtain ⟨v3, v4, v5, f6, f7, f8⟩ := u2
  try dsimp only at hP hD hw
  replace hP : va_P (dC, dI) vwCl [(wi_rm63_3_12_0 rm cy g_isHere), (wi_rm64_0_12_0 rm cy g_crosses), (wi_rm68_3_12_0 rm cy g_presses), (wi_rm69_3_300_0 rm cy g_crossedIn), (wi_rm41_0_4_0 rm cy g_many), (wi_rm62_3_300_0 rm cy g_isGreen), (a_this, .inr (10, mfs rm x_taped x_at x_end x_ended x_bad x_badPlace x_fault x_faultPlace x_namePlace x_awayTold x_away x_coded x_statements x_isCrossing v3 v4 x_redMany x_isOpen x_lastGreen x_greenTo x_isCycleGreen x_stillGreen x_rowMany x_fitMany x_fitRules x_fitGreen x_undoable x_newest x_seeded x_qCoded x_qWaits x_qOpened x_qBase v5 x_qAnswer x_qIsNew x_octets)), (wi_rm49_0_6_0 rm cy g_codeFrom), (wi_rm50_0_6_0 rm cy g_codeEnd), (wi_rm116_1_1700_1 rm cy f6), (wi_rm51_0_3200_0 rm cy g_codes), (wi_rm46_0_48_0 rm cy g_walkers), (wi_rm56_0_9_0 rm cy g_now), (wi_rm43_0_8_0 rm cy g_bar), (wi_rm65_0_12_0 rm cy g_waits), (wi_rm44_0_24_0 rm cy g_kinds), (wi_rm61_0_300_0 rm cy f7), (wi_rm66_3_12_0 rm cy g_goes), (wi_rm67_3_12_0 rm cy g_harms), (wi_rm60_3_320_0 rm cy f8)] H := hP
  replace hD := k_D hP hD
  obtain ⟨h9, h10, h11⟩ := hw
  replace hq := lf_p1 hq h11
  replace hq := lf_p1 hq rfl
  replace hq := lf_p1 hq rfl
  replace hq := lf_p1 hq rfl
  replace hq := lf_p1 hq rfl
  refine lv_aload_n hx hb dX10_dayNow_4 rfl (lv_at hl 0 rfl) ?_
  refine lv_aload_n hx hb dX10_dayNow_5 rfl (lv_at hl 0 rfl) ?_
  refine k_get C0 fg_X10_139 hP 6 rfl rfl dX10_dayNow_6 ?_
  refine lv_iconst (v := 1) hx hb dX10_dayNow_9 rfl ?_
  refine va_iald hx hb C0.2.2.2.2.2.1 hP 12 0 rfl rfl (k_in 1 9 rfl) dX10_dayNow_10 ?_
  refine lv_topi (fun z12 ez12 => ?_)
  have Ez12 := lf_ld ez12 (lf_ra g_now) (lf_lc 1 (1 : Int) rfl)
  refine lv_aload_n hx hb dX10_dayNow_11 rfl (lv_at hl 0 rfl) ?_
  refine k_get C0 fg_X10_139 hP 6 rfl rfl dX10_dayNow_12 ?_
  as_aux_lemma =>
    refine lv_iconst (v := 2) hx hb dX10_dayNow_15 rfl ?_
    refine va_iald hx hb C0.2.2.2.2.2.1 hP 12 0 rfl rfl (k_in 2 9 rfl) dX10_dayNow_16 ?_
    refine lv_topi (fun z13 ez13 => ?_)
    have Ez13 := lf_ld ez13 (lf_ra g_now) (lf_lc 2 (2 : Int) rfl)
    refine lv_iconst (v := 0) hx hb dX10_dayNow_17 rfl ?_
    refine lv_iconst (v := 0) hx hb dX10_dayNow_18 rfl ?_
    refine k_jvm hP hD hS hA [6, 0, 1, 14, 17, 18, 2, 3, 4, 11, 12, 5, 13, 15, 7, 8, 9, 10, 16] [false, false, false, false, false, false, false, false, false, false, false, false, false, false, false, false, false, false, false, true] rfl rfl (by decide +kernel) 0 0 (Nat.le_of_ble_eq_true rfl) (Nat.le_of_ble_eq_true rfl) (fun hPc hDc => k_runV (As := [.int z12, .int z13, .int 0, .int 0]) (rest := []) C0 hZ hS hA (s_X10_dayBy l dC dI cy sq a_this rm x_taped x_at x_end x_ended x_bad x_badPlace x_fault x_faultPlace x_namePlace x_awayTold x_away x_coded x_statements x_isCrossing v3 v4 x_redMany x_isOpen x_lastGreen x_greenTo x_isCycleGreen x_stillGreen x_rowMany x_fitMany x_fitRules x_fitGreen x_undoable x_newest x_seeded x_qCoded x_qWaits x_qOpened x_qBase v5 x_qAnswer x_qIsNew x_octets g_many g_bar g_kinds g_walkers g_codeFrom g_codeEnd g_codes g_now f7 g_isGreen g_isHere g_crosses g_waits g_goes g_harms g_presses g_crossedIn f6 z12 z13 0 0 (ib_w 0 1700 h9 rfl) (ib_w 0 12 hg_many_3 rfl) (ib_w 10 120 hg_bar_4 rfl) hpg_walkers (ib_w (-1) 1600 hg_codeFrom_4 rfl) (ib_w 0 1600 hg_codeEnd_4 rfl) h10 hG1) mV_X10_504 hPc hDc rfl rfl rfl hl rfl rfl (Nat.le_of_ble_eq_true rfl) ⟨(Nat.le_of_ble_eq_true rfl), (Nat.le_of_ble_eq_true rfl)⟩ ⟨(Nat.le_of_ble_eq_true rfl), (Nat.le_of_ble_eq_true rfl)⟩ dX10_dayNow_19) (fun u15 H locs hw hP hD hS => ?_)
    obtain ⟨v16, v17, v18, v19, v20, v21, v22, v23, v24, f25, f26, f27, f28, f29, f30, f31, f32, f33⟩ := u15
    try dsimp only at hP hD hw
    replace hP : va_P (dC, dI) vwCl [(wi_rm60_3_320_0 rm cy f8), (a_this, .inr (10, mfs rm x_taped x_at x_end x_ended x_bad x_badPlace x_fault x_faultPlace x_namePlace x_awayTold x_away x_coded x_statements x_isCrossing v16 v17 v18 v19 v20 v21 v22 v23 x_rowMany x_fitMany x_fitRules x_fitGreen x_undoable x_newest x_seeded x_qCoded x_qWaits x_qOpened x_qBase v24 x_qAnswer x_qIsNew x_octets)), (wi_rm63_3_12_0 rm cy f25), (wi_rm64_0_12_0 rm cy f26), (wi_rm65_0_12_0 rm cy f27), (wi_rm66_3_12_0 rm cy f28), (wi_rm67_3_12_0 rm cy f29), (wi_rm68_3_12_0 rm cy f30), (wi_rm69_3_300_0 rm cy f31), (wi_rm41_0_4_0 rm cy g_many), (wi_rm46_0_48_0 rm cy g_walkers), (wi_rm56_0_9_0 rm cy g_now), (wi_rm62_3_300_0 rm cy f32), (wi_rm43_0_8_0 rm cy g_bar), (wi_rm44_0_24_0 rm cy g_kinds), (wi_rm49_0_6_0 rm cy g_codeFrom), (wi_rm50_0_6_0 rm cy g_codeEnd), (wi_rm116_1_1700_1 rm cy f33), (wi_rm51_0_3200_0 rm cy g_codes), (wi_rm61_0_300_0 rm cy f7)] H := hP
    replace hD := k_D hP hD
    obtain ⟨h34, h35, h36, h37⟩ := hw
    have h37 := by have h9 := h37; rw [lf_u Ez12] at h9; rw [lf_u Ez13] at h9; try simp only [show (0 : Int32).toInt = (0 : Int) from rfl] at h9; exact h9
    replace hq := lf_p1 hq h37
    replace hq := lf_p1 hq rfl
    replace hq := lf_p1 hq rfl
    replace hq := lf_p1 hq rfl
    replace hq := lf_p1 hq rfl
    replace hq := lf_p1 hq rfl
    replace hq := lf_p1 hq rfl
    replace hq := lf_p1 hq rfl
    replace hq := lf_p1 hq rfl
    replace hq := lf_p1 hq rfl
    replace hq := lf_p1 hq rfl
    replace hq := lf_p1 hq rfl
    replace hq := lf_p1 hq rfl
    replace hq := lf_p1 hq rfl
    replace hq := lf_p1 hq rfl
    replace hq := lf_p1 hq rfl
    replace hq := lf_p1 hq rfl
    subst hQ; exact k_vret hx hb hr hlk ((v16, v17, v18, v19, v20, v21, v22, v23, v24, f33, f27, f7, f28, f29, f8, f25, f26, f30, f31, f32)) hS ⟨ib_w 0 1 h34 rfl, ib_w 0 1 h35 rfl, ib_w 0 1700 h36 rfl, h10, (hO.symm.trans (by exact hq))⟩ (hP.sub [1, 15, 16, 17, 18, 10, 11, 13, 4, 14, 19, 5, 6, 0, 2, 3, 7, 8, 9, 12] rfl) (hD.sub [1, 15, 16, 17, 18, 10, 11, 13, 4, 14, 19, 5, 6, 0, 2, 3, 7, 8, 9, 12] (by decide +kernel) rfl) (Nat.le_of_ble_eq_true rfl) (Nat.le_of_ble_eq_true rfl) dX10_dayNow_22
set_option maxHeartbeats 4000000 in
set_option maxRecDepth 100000 in
theorem s_X10_qFact (l : Launch) (dC : Nat → ClassId) (dI : Nat → Nat → Nat) (cy : Nat → ClassId) (sq : Nat → Nat) (a_this : Nat) (rm : Nat → Nat) (x_taped : Int32) (x_at : Int32) (x_end : Int32) (x_ended : Int32) (x_bad : Int32) (x_badPlace : Int32) (x_fault : Int32) (x_faultPlace : Int32) (x_namePlace : Int32) (x_awayTold : Int32) (x_away : Int32) (x_coded : Int32) (x_statements : Int32) (x_isCrossing : Int32) (x_textKind : Int32) (x_askSecond : Int32) (x_redMany : Int32) (x_isOpen : Int32) (x_lastGreen : Int32) (x_greenTo : Int32) (x_isCycleGreen : Int32) (x_stillGreen : Int32) (x_rowMany : Int32) (x_fitMany : Int32) (x_fitRules : Int32) (x_fitGreen : Int32) (x_undoable : Int32) (x_newest : Int32) (x_seeded : Int64) (x_qCoded : Int32) (x_qWaits : Int32) (x_qOpened : Int32) (x_qBase : Int32) (x_qPiled : Int32) (x_qAnswer : Int64) (x_qIsNew : Int32) (x_octets : Int32) (g_tape : Nat → Int32) (g_allAsked : Nat → Int32) (g_minAsked : Nat → Int32) (g_maxAsked : Nat → Int32) (g_secondAsked : Nat → Int32) (g_dayAsked : Nat → Int32) (g_phaseAsked : Nat → Int32) (g_waitedAsked : Nat → Int32) (g_calmAsked : Nat → Int32) (g_paceAsked : Nat → Int32) (g_trustsAsked : Nat → Int32) (g_gapAsked : Nat → Int32) (g_redsAsked : Nat → Int32) (g_numberAsked : Nat → Int32) (g_wentAsked : Nat → Int32) (g_harmAsked : Nat → Int32) (g_kindofAsked : Nat → Int32) (g_qCodes : Nat → Int32) (g_qWait : Nat → Int32) (cc : Nat) (hx_at : ib x_at 0 1600) (hx_end : ib x_end 0 1600) (hx_bad : ib x_bad 0 0) (hx_qCoded : ib x_qCoded 0 1700) (hx_qWaits : ib x_qWaits 0 1700) (hg_tape : ia g_tape 1600 0 255) (hL0 : 1 * x_qCoded.toInt + 1 * x_qWaits.toInt + (-1) * x_at.toInt ≤ 20) (hGS : x_bad = 0 → GS g_qCodes x_qCoded g_qWait x_qWaits x_qWaits x_textKind cc) : k_Met l yX10_qFact cX10_qFact 2 none { frames := 7, cells := 0, slots := 0, locals := 153 } dC dI cy sq [.ref a_this] [(a_this, .inr (10, mfs rm x_taped x_at x_end x_ended x_bad x_badPlace x_fault x_faultPlace x_namePlace x_awayTold x_away x_coded x_statements x_isCrossing x_textKind x_askSecond x_redMany x_isOpen x_lastGreen x_greenTo x_isCycleGreen x_stillGreen x_rowMany x_fitMany x_fitRules x_fitGreen x_undoable x_newest x_seeded x_qCoded x_qWaits x_qOpened x_qBase x_qPiled x_qAnswer x_qIsNew x_octets)), (wi_rm0_0_1600_0 rm cy g_tape), (wi_rm94_2_3_0 rm cy g_allAsked), (wi_rm97_2_6_0 rm cy g_secondAsked), (wi_rm98_2_3_0 rm cy g_dayAsked), (wi_rm99_2_5_0 rm cy g_phaseAsked), (wi_rm100_2_6_0 rm cy g_waitedAsked), (wi_rm101_2_4_0 rm cy g_calmAsked), (wi_rm102_2_4_0 rm cy g_paceAsked), (wi_rm103_2_6_0 rm cy g_trustsAsked), (wi_rm104_2_3_0 rm cy g_gapAsked), (wi_rm105_2_4_0 rm cy g_redsAsked), (wi_rm106_2_6_0 rm cy g_numberAsked), (wi_rm107_2_4_0 rm cy g_wentAsked), (wi_rm108_2_4_0 rm cy g_harmAsked), (wi_rm109_2_4_0 rm cy g_kindofAsked), (wi_rm95_2_3_0 rm cy g_minAsked), (wi_rm112_0_1700_0 rm cy g_qWait), (wi_rm96_2_3_0 rm cy g_maxAsked), (wi_rm110_0_1700_0 rm cy g_qCodes)] (k_Qv dC dI (fun (u : Int32 × Int32 × Int32 × Int32 × Int32 × Int32 × Int32 × (Nat → Int32) × (Nat → Int32)) => match u with | (n0, n1, n2, n3, n4, n5, n6, n7, n8) => ib n0 0 1600 ∧ ib n4 0 1624 ∧ ib n5 0 1623 ∧ (n2 = 0 → x_bad = 0) ∧ (1 * n4.toInt + 1 * n5.toInt + (-1) * n0.toInt + (-1) * x_qCoded.toInt + (-1) * x_qWaits.toInt + 1 * x_at.toInt ≤ 4) ∧ (n2 = 0 → 1 * n4.toInt + 1 * n5.toInt + (-1) * n0.toInt + (-1) * x_qCoded.toInt + (-1) * x_qWaits.toInt + 1 * x_at.toInt ≤ 0) ∧ (1 * x_at.toInt + (-1) * n0.toInt ≤ 0) ∧ (n2 = 0 → 1 * x_at.toInt + (-1) * n0.toInt ≤ (-1)) ∧ (n2 = 0 → 1 * n5.toInt + (-1) * x_qWaits.toInt ≤ 0) ∧ (n2 = 0 → (-1) * n5.toInt + 1 * x_qWaits.toInt ≤ 0) ∧ (n2 = 0 → GS n8 n4 n7 n5 n5 x_textKind (cc + 1)) ∧ (F_X10_qFact (Int32.toInt x_at) (Int32.toInt x_end) (Int32.toInt x_ended) (Int32.toInt x_bad) (Int32.toInt x_badPlace) (Int32.toInt x_textKind) (Int32.toInt x_qCoded) (Int32.toInt x_qWaits) (Int32.toInt x_qOpened) (lf_A g_tape) (lf_A g_allAsked) (lf_A g_minAsked) (lf_A g_maxAsked) (lf_A g_secondAsked) (lf_A g_dayAsked) (lf_A g_phaseAsked) (lf_A g_waitedAsked) (lf_A g_calmAsked) (lf_A g_paceAsked) (lf_A g_trustsAsked) (lf_A g_gapAsked) (lf_A g_redsAsked) (lf_A g_numberAsked) (lf_A g_wentAsked) (lf_A g_harmAsked) (lf_A g_kindofAsked) (lf_A g_qCodes) (lf_A g_qWait) = ((Int32.toInt n0), (Int32.toInt n1), (Int32.toInt n2), (Int32.toInt n3), (Int32.toInt n4), (Int32.toInt n5), (Int32.toInt n6), (lf_A n7), (lf_A n8)))) (fun u : Int32 × Int32 × Int32 × Int32 × Int32 × Int32 × Int32 × (Nat → Int32) × (Nat → Int32) => match u with | (n0, n1, n2, n3, n4, n5, n6, n7, n8) => [(a_this, .inr (10, mfs rm x_taped n0 x_end n1 n2 n3 x_fault x_faultPlace x_namePlace x_awayTold x_away x_coded x_statements x_isCrossing x_textKind x_askSecond x_redMany x_isOpen x_lastGreen x_greenTo x_isCycleGreen x_stillGreen x_rowMany x_fitMany x_fitRules x_fitGreen x_undoable x_newest x_seeded n4 n5 n6 x_qBase x_qPiled x_qAnswer x_qIsNew x_octets)), (wi_rm0_0_1600_0 rm cy g_tape), (wi_rm94_2_3_0 rm cy g_allAsked), (wi_rm97_2_6_0 rm cy g_secondAsked), (wi_rm98_2_3_0 rm cy g_dayAsked), (wi_rm99_2_5_0 rm cy g_phaseAsked), (wi_rm100_2_6_0 rm cy g_waitedAsked), (wi_rm101_2_4_0 rm cy g_calmAsked), (wi_rm102_2_4_0 rm cy g_paceAsked), (wi_rm103_2_6_0 rm cy g_trustsAsked), (wi_rm104_2_3_0 rm cy g_gapAsked), (wi_rm105_2_4_0 rm cy g_redsAsked), (wi_rm106_2_6_0 rm cy g_numberAsked), (wi_rm107_2_4_0 rm cy g_wentAsked), (wi_rm108_2_4_0 rm cy g_harmAsked), (wi_rm109_2_4_0 rm cy g_kindofAsked), (wi_rm95_2_3_0 rm cy g_minAsked), (wi_rm112_0_1700_0 rm cy n7), (wi_rm96_2_3_0 rm cy g_maxAsked), (wi_rm110_0_1700_0 rm cy n8)])) := by
  refine k_ofW2 (by decide +kernel) (Nat.le_of_ble_eq_true rfl) ?_
  intro p e s m below meth c A ls H locs args Q hQ C0 hZ hr hlk hin hP hD hA hS hl
  have C0 : k_cx p s m args c cX10_qFact 2 RX10 dC dI cy sq := C0
  have hx := C0.1
  have hb := C0.2.1
  have hl : lv_has ls 2 [(0, .ref a_this)] := hl
  obtain ⟨O, hO⟩ : ∃ o, o = F_X10_qFact (Int32.toInt x_at) (Int32.toInt x_end) (Int32.toInt x_ended) (Int32.toInt x_bad) (Int32.toInt x_badPlace) (Int32.toInt x_textKind) (Int32.toInt x_qCoded) (Int32.toInt x_qWaits) (Int32.toInt x_qOpened) (lf_A g_tape) (lf_A g_allAsked) (lf_A g_minAsked) (lf_A g_maxAsked) (lf_A g_secondAsked) (lf_A g_dayAsked) (lf_A g_phaseAsked) (lf_A g_waitedAsked) (lf_A g_calmAsked) (lf_A g_paceAsked) (lf_A g_trustsAsked) (lf_A g_gapAsked) (lf_A g_redsAsked) (lf_A g_numberAsked) (lf_A g_wentAsked) (lf_A g_harmAsked) (lf_A g_kindofAsked) (lf_A g_qCodes) (lf_A g_qWait) := ⟨_, rfl⟩
  have hq := hO
  unfold F_X10_qFact at hq
  refine lv_aload_n hx hb dX10_qFact_0 rfl (lv_at hl 0 rfl) ?_
  refine lv_aload_n hx hb dX10_qFact_1 rfl (lv_at hl 0 rfl) ?_
  refine k_get C0 fg_X10_216 hP 0 rfl rfl dX10_qFact_2 ?_
  refine k_jim hP hD hS hA [0, 1, 2] [false, false, false, true, true, true, true, true, true, true, true, true, true, true, true, true, true, true, true, true] rfl rfl (by decide +kernel) 0 0 (Nat.le_of_ble_eq_true rfl) (Nat.le_of_ble_eq_true rfl) (fun hPc hDc => k_runV (As := [.ref (rm 94)]) (rest := []) C0 hZ hS hA (s_X10_takes l dC dI cy sq a_this rm x_taped x_at x_end x_ended x_bad x_badPlace x_fault x_faultPlace x_namePlace x_awayTold x_away x_coded x_statements x_isCrossing x_textKind x_askSecond x_redMany x_isOpen x_lastGreen x_greenTo x_isCycleGreen x_stillGreen x_rowMany x_fitMany x_fitRules x_fitGreen x_undoable x_newest x_seeded x_qCoded x_qWaits x_qOpened x_qBase x_qPiled x_qAnswer x_qIsNew x_octets g_tape (rm 94) g_allAsked (ib_w 0 1600 hx_at rfl) (ib_w 0 1600 hx_end rfl) hg_tape) mV_X10_305 hPc hDc rfl rfl rfl hl rfl rfl (Nat.le_of_ble_eq_true rfl) ⟨(Nat.le_of_ble_eq_true rfl), (Nat.le_of_ble_eq_true rfl)⟩ ⟨(Nat.le_of_ble_eq_true rfl), (Nat.le_of_ble_eq_true rfl)⟩ dX10_qFact_5) (fun r1 u2 H locs hw hP hD hS => ?_)
  obtain ⟨v3, v4⟩ := u2
  try dsimp only at hP hD hw
  replace hP : va_P (dC, dI) vwCl [(wi_rm97_2_6_0 rm cy g_secondAsked), (wi_rm98_2_3_0 rm cy g_dayAsked), (wi_rm99_2_5_0 rm cy g_phaseAsked), (wi_rm100_2_6_0 rm cy g_waitedAsked), (wi_rm101_2_4_0 rm cy g_calmAsked), (wi_rm102_2_4_0 rm cy g_paceAsked), (wi_rm103_2_6_0 rm cy g_trustsAsked), (wi_rm104_2_3_0 rm cy g_gapAsked), (wi_rm105_2_4_0 rm cy g_redsAsked), (wi_rm106_2_6_0 rm cy g_numberAsked), (wi_rm107_2_4_0 rm cy g_wentAsked), (wi_rm108_2_4_0 rm cy g_harmAsked), (wi_rm109_2_4_0 rm cy g_kindofAsked), (wi_rm95_2_3_0 rm cy g_minAsked), (wi_rm112_0_1700_0 rm cy g_qWait), (wi_rm96_2_3_0 rm cy g_maxAsked), (wi_rm110_0_1700_0 rm cy g_qCodes), (a_this, .inr (10, mfs rm x_taped v3 x_end v4 x_bad x_badPlace x_fault x_faultPlace x_namePlace x_awayTold x_away x_coded x_statements x_isCrossing x_textKind x_askSecond x_redMany x_isOpen x_lastGreen x_greenTo x_isCycleGreen x_stillGreen x_rowMany x_fitMany x_fitRules x_fitGreen x_undoable x_newest x_seeded x_qCoded x_qWaits x_qOpened x_qBase x_qPiled x_qAnswer x_qIsNew x_octets)), (wi_rm0_0_1600_0 rm cy g_tape), (wi_rm94_2_3_0 rm cy g_allAsked)] H := hP
  replace hD := k_D hP hD
  obtain ⟨h5, h6, h7, h8, h9, h10, h11, h12, h13, h14⟩ := hw
  replace hq := lf_p1 hq h14
  replace hq := lf_p1 hq rfl
  refine lv_if_eq (tgt := 18) hx hb dX10_qFact_8 rfl (fun c15 => ?_) (fun c15 => ?_)
  · as_aux_lemma =>
      replace hq := lf_pos hq (lf_eq (lf_rf r1) (lf_lc 0 (0 : Int) rfl) c15)
      have h16 := ib_eq h6 (ib_c 0 0 0 rfl) c15
      have h17 : ib r1 0 0 := ib_w 0 0 h16.1 rfl
      have h18 : ib x_qCoded 0 1620 := ⟨(hx_qCoded).1, by have := (hx_qCoded).2; have := hL0; have := (hx_at).2; have := (hx_qWaits).1; omega⟩
      have h19 : ib x_qWaits 0 1620 := ⟨(hx_qWaits).1, by have := (hx_qWaits).2; have := hL0; have := (hx_at).2; have := (h18).1; omega⟩
      refine lv_aload_n hx hb dX10_qFact_18 rfl (lv_at hl 0 rfl) ?_
      refine k_jvm hP hD hS hA [17, 18, 0, 1, 2, 3, 4, 5, 6, 7, 8, 9, 10, 11, 12, 13, 14, 15, 16] [false, false, false, false, false, false, false, false, false, false, false, false, false, false, false, false, false, false, false, true] rfl rfl (by decide +kernel) 0 0 (Nat.le_of_ble_eq_true rfl) (Nat.le_of_ble_eq_true rfl) (fun hPc hDc => k_runV (As := []) (rest := []) C0 hZ hS hA (s_X10_qSums l dC dI cy sq a_this rm x_taped v3 x_end v4 x_bad x_badPlace x_fault x_faultPlace x_namePlace x_awayTold x_away x_coded x_statements x_isCrossing x_textKind x_askSecond x_redMany x_isOpen x_lastGreen x_greenTo x_isCycleGreen x_stillGreen x_rowMany x_fitMany x_fitRules x_fitGreen x_undoable x_newest x_seeded x_qCoded x_qWaits x_qOpened x_qBase x_qPiled x_qAnswer x_qIsNew x_octets g_tape g_minAsked g_maxAsked g_secondAsked g_dayAsked g_phaseAsked g_waitedAsked g_calmAsked g_paceAsked g_trustsAsked g_gapAsked g_redsAsked g_numberAsked g_wentAsked g_harmAsked g_kindofAsked g_qCodes g_qWait cc (ib_w 0 1600 h5 rfl) (ib_w 0 1600 hx_end rfl) (ib_w 0 0 hx_bad rfl) (ib_w 0 1700 h18 rfl) (ib_w 0 1700 h19 rfl) hg_tape (by have := h12; have := hL0; omega) (fun q => (hGS q))) mV_X10_381 hPc hDc rfl rfl rfl hl rfl rfl (Nat.le_of_ble_eq_true rfl) ⟨(Nat.le_of_ble_eq_true rfl), (Nat.le_of_ble_eq_true rfl)⟩ ⟨(Nat.le_of_ble_eq_true rfl), (Nat.le_of_ble_eq_true rfl)⟩ dX10_qFact_19) (fun u21 H locs hw hP hD hS => ?_)
      obtain ⟨v22, v23, v24, v25, v26, v27, v28, f29, f30⟩ := u21
      try dsimp only at hP hD hw
      replace hP : va_P (dC, dI) vwCl [(wi_rm94_2_3_0 rm cy g_allAsked), (a_this, .inr (10, mfs rm x_taped v22 x_end v23 v24 v25 x_fault x_faultPlace x_namePlace x_awayTold x_away x_coded x_statements x_isCrossing x_textKind x_askSecond x_redMany x_isOpen x_lastGreen x_greenTo x_isCycleGreen x_stillGreen x_rowMany x_fitMany x_fitRules x_fitGreen x_undoable x_newest x_seeded v26 v27 v28 x_qBase x_qPiled x_qAnswer x_qIsNew x_octets)), (wi_rm0_0_1600_0 rm cy g_tape), (wi_rm97_2_6_0 rm cy g_secondAsked), (wi_rm98_2_3_0 rm cy g_dayAsked), (wi_rm99_2_5_0 rm cy g_phaseAsked), (wi_rm100_2_6_0 rm cy g_waitedAsked), (wi_rm101_2_4_0 rm cy g_calmAsked), (wi_rm102_2_4_0 rm cy g_paceAsked), (wi_rm103_2_6_0 rm cy g_trustsAsked), (wi_rm104_2_3_0 rm cy g_gapAsked), (wi_rm105_2_4_0 rm cy g_redsAsked), (wi_rm106_2_6_0 rm cy g_numberAsked), (wi_rm107_2_4_0 rm cy g_wentAsked), (wi_rm108_2_4_0 rm cy g_harmAsked), (wi_rm109_2_4_0 rm cy g_kindofAsked), (wi_rm95_2_3_0 rm cy g_minAsked), (wi_rm112_0_1700_0 rm cy f29), (wi_rm96_2_3_0 rm cy g_maxAsked), (wi_rm110_0_1700_0 rm cy f30)] H := hP
      replace hD := k_D hP hD
      obtain ⟨h31, h32, h33, h34, h35, h36, h37, h38, h39, h40, h41, h42⟩ := hw
      replace hq := lf_p1 hq h42
      replace hq := lf_p1 hq rfl
      replace hq := lf_p1 hq rfl
      replace hq := lf_p1 hq rfl
      replace hq := lf_p1 hq rfl
      replace hq := lf_p1 hq rfl
      replace hq := lf_p1 hq rfl
      replace hq := lf_p1 hq rfl
      refine lv_aload_n hx hb dX10_qFact_22 rfl (lv_at hl 0 rfl) ?_
      refine k_get C0 fg_X10_279 hP 1 rfl rfl dX10_qFact_23 ?_
      refine lv_if_eq (tgt := 30) hx hb dX10_qFact_26 rfl (fun c43 => ?_) (fun c43 => ?_)
      · as_aux_lemma =>
          replace hq := lf_pos hq (lf_eq (lf_rf v24) (lf_lc 0 (0 : Int) rfl) c43)
          have h44 := ib_eq (ib_any v24) (ib_c 0 0 0 rfl) c43
          have h45 : ib v24 0 0 := ib_w 0 0 h44.1 rfl
          have h46 := h36 (ib_one h45 rfl)
          have h47 := h38 (ib_one h45 rfl)
          have h48 := h39 (ib_one h45 rfl)
          have h49 := h40 (ib_one h45 rfl)
          have h50 : ib v3 0 1599 := ⟨(h5).1, by have := (h5).2; have := h47; have := (h31).2; omega⟩
          have h51 : ib v22 1 1600 := ⟨by have := (h31).1; have := h47; have := (h50).1; omega, (h31).2⟩
          have h52 : ib v27 0 1620 := ⟨(h33).1, by have := (h33).2; have := h48; have := (h19).2; omega⟩
          have h53 : ib x_at 0 1599 := ⟨(hx_at).1, by have := (hx_at).2; have := h12; have := (h50).2; omega⟩
          refine lv_aload_n hx hb dX10_qFact_30 rfl (lv_at hl 0 rfl) ?_
          refine k_jim hP hD hS hA [1, 2] [true, false, false, true, true, true, true, true, true, true, true, true, true, true, true, true, true, true, true, true] rfl rfl (by decide +kernel) 0 0 (Nat.le_of_ble_eq_true rfl) (Nat.le_of_ble_eq_true rfl) (fun hPc hDc => k_runV (As := []) (rest := []) C0 hZ hS hA (s_X10_look l dC dI cy sq a_this rm x_taped v22 x_end v23 v24 v25 x_fault x_faultPlace x_namePlace x_awayTold x_away x_coded x_statements x_isCrossing x_textKind x_askSecond x_redMany x_isOpen x_lastGreen x_greenTo x_isCycleGreen x_stillGreen x_rowMany x_fitMany x_fitRules x_fitGreen x_undoable x_newest x_seeded v26 v27 v28 x_qBase x_qPiled x_qAnswer x_qIsNew x_octets g_tape (ib_w 0 1600 h51 rfl) (ib_w 0 1600 hx_end rfl) hg_tape) mV_X10_291 hPc hDc rfl rfl rfl hl rfl rfl (Nat.le_of_ble_eq_true rfl) ⟨(Nat.le_of_ble_eq_true rfl), (Nat.le_of_ble_eq_true rfl)⟩ ⟨(Nat.le_of_ble_eq_true rfl), (Nat.le_of_ble_eq_true rfl)⟩ dX10_qFact_31) (fun r54 u55 H locs hw hP hD hS => ?_)
          obtain ⟨v56, ev56⟩ : ∃ z, z = u55 := ⟨_, rfl⟩; subst ev56
          try dsimp only at hP hD hw
          replace hP : va_P (dC, dI) vwCl [(wi_rm94_2_3_0 rm cy g_allAsked), (wi_rm97_2_6_0 rm cy g_secondAsked), (wi_rm98_2_3_0 rm cy g_dayAsked), (wi_rm99_2_5_0 rm cy g_phaseAsked), (wi_rm100_2_6_0 rm cy g_waitedAsked), (wi_rm101_2_4_0 rm cy g_calmAsked), (wi_rm102_2_4_0 rm cy g_paceAsked), (wi_rm103_2_6_0 rm cy g_trustsAsked), (wi_rm104_2_3_0 rm cy g_gapAsked), (wi_rm105_2_4_0 rm cy g_redsAsked), (wi_rm106_2_6_0 rm cy g_numberAsked), (wi_rm107_2_4_0 rm cy g_wentAsked), (wi_rm108_2_4_0 rm cy g_harmAsked), (wi_rm109_2_4_0 rm cy g_kindofAsked), (wi_rm95_2_3_0 rm cy g_minAsked), (wi_rm112_0_1700_0 rm cy f29), (wi_rm96_2_3_0 rm cy g_maxAsked), (wi_rm110_0_1700_0 rm cy f30), (a_this, .inr (10, mfs rm x_taped v56 x_end v23 v24 v25 x_fault x_faultPlace x_namePlace x_awayTold x_away x_coded x_statements x_isCrossing x_textKind x_askSecond x_redMany x_isOpen x_lastGreen x_greenTo x_isCycleGreen x_stillGreen x_rowMany x_fitMany x_fitRules x_fitGreen x_undoable x_newest x_seeded v26 v27 v28 x_qBase x_qPiled x_qAnswer x_qIsNew x_octets)), (wi_rm0_0_1600_0 rm cy g_tape)] H := hP
          replace hD := k_D hP hD
          obtain ⟨h57, h58, h59, h60, h61, h62, h63, h64, h65, h66⟩ := hw
          replace hq := lf_p1 hq h66
          refine lv_istore_n (lv' := [(1, .int r54), (0, .ref a_this)]) hx hb dX10_qFact_34 rfl hl (Nat.le_of_ble_eq_true rfl) rfl (fun ls hl => ?_)
          refine lv_iload_n hx hb dX10_qFact_35 rfl (lv_at hl 0 rfl) ?_
          refine lv_bipush (v := 60) hx hb dX10_qFact_36 rfl ?_
          refine lv_icmp_eq (tgt := 63) hx hb dX10_qFact_38 rfl (fun c67 => ?_) (fun c67 => ?_)
          · as_aux_lemma =>
              replace hq := lf_pos hq (lf_eq (lf_rf r54) (lf_lc 60 (60 : Int) rfl) c67)
              have h68 := ib_eq h58 (ib_c 60 60 60 rfl) c67
              have h69 : ib r54 60 60 := ib_w 60 60 h68.1 rfl
              have h70 : ib x_qCoded 0 1619 := ⟨(h18).1, by have := (h18).2; have := hL0; have := (h19).1; have := (h53).2; omega⟩
              have h71 : ib x_qWaits 0 1619 := ⟨(h19).1, by have := (h19).2; have := hL0; have := (h70).1; have := (h53).2; omega⟩
              have h72 : ib v27 0 1619 := ⟨(h52).1, by have := (h52).2; have := h48; have := (h71).2; omega⟩
              have h73 : ib v56 1 1600 := ⟨by have := (h57).1; have := h62; have := (h51).1; omega, (h57).2⟩
              have h74 : ib v56 1 1599 := ib_w 1 1599 (ib_two h73 (h59 (ib_nc (-1) h69 rfl))) rfl
              have h75 : ib v22 1 1599 := ib_w 1 1599 (ib_two h51 (h60 (ib_nc (-1) h69 rfl))) rfl
              have h76 : ib x_end 1 1600 := ib_w 1 1600 (ib_two hx_end (h61 (ib_nc (-1) h69 rfl))) rfl
              have h77 : ib v3 0 1598 := ⟨(h50).1, by have := (h50).2; have := h47; have := (h75).2; omega⟩
              refine lv_aload_n hx hb dX10_qFact_63 rfl (lv_at hl 1 rfl) ?_
              refine lv_dup hx hb dX10_qFact_64 rfl ?_
              refine k_get C0 fg_X10_285 hP 18 rfl rfl dX10_qFact_65 ?_
              refine lv_iconst (v := 1) hx hb dX10_qFact_68 rfl ?_
              refine lv_iadd hx hb dX10_qFact_69 ?_
              refine lv_topi (fun z78 ez78 => ?_)
              have h79 := ib_add h74 (ib_c 1 1 1 rfl) rfl
              rw [← ez78] at h79
              have h80 : ib z78 2 1600 := ib_w 2 1600 h79.1 rfl
              have Ez78 := lf_add h79.2 (lf_rf v56) (lf_lc 1 (1 : Int) rfl)
              refine k_put C0 fp_X10_285 hP hD hS 18 rfl rfl rfl (Nat.le_of_ble_eq_true rfl) dX10_qFact_70 (fun H locs hP hD hS => ?_)
              replace hP : va_P (dC, dI) vwCl [(wi_rm94_2_3_0 rm cy g_allAsked), (wi_rm97_2_6_0 rm cy g_secondAsked), (wi_rm98_2_3_0 rm cy g_dayAsked), (wi_rm99_2_5_0 rm cy g_phaseAsked), (wi_rm100_2_6_0 rm cy g_waitedAsked), (wi_rm101_2_4_0 rm cy g_calmAsked), (wi_rm102_2_4_0 rm cy g_paceAsked), (wi_rm103_2_6_0 rm cy g_trustsAsked), (wi_rm104_2_3_0 rm cy g_gapAsked), (wi_rm105_2_4_0 rm cy g_redsAsked), (wi_rm106_2_6_0 rm cy g_numberAsked), (wi_rm107_2_4_0 rm cy g_wentAsked), (wi_rm108_2_4_0 rm cy g_harmAsked), (wi_rm109_2_4_0 rm cy g_kindofAsked), (wi_rm95_2_3_0 rm cy g_minAsked), (wi_rm112_0_1700_0 rm cy f29), (wi_rm96_2_3_0 rm cy g_maxAsked), (wi_rm110_0_1700_0 rm cy f30), (a_this, .inr (10, mfs rm x_taped z78 x_end v23 v24 v25 x_fault x_faultPlace x_namePlace x_awayTold x_away x_coded x_statements x_isCrossing x_textKind x_askSecond x_redMany x_isOpen x_lastGreen x_greenTo x_isCycleGreen x_stillGreen x_rowMany x_fitMany x_fitRules x_fitGreen x_undoable x_newest x_seeded v26 v27 v28 x_qBase x_qPiled x_qAnswer x_qIsNew x_octets)), (wi_rm0_0_1600_0 rm cy g_tape)] H := hP
              replace hD := k_D hP hD
              refine lv_aload_n hx hb dX10_qFact_73 rfl (lv_at hl 1 rfl) ?_
              refine k_jvm hP hD hS hA [18, 19, 1, 2, 3, 4, 5, 6, 7, 8, 9, 10, 11, 12, 13, 14, 15, 16, 17] [true] rfl rfl (by decide +kernel) 0 0 (Nat.le_of_ble_eq_true rfl) (Nat.le_of_ble_eq_true rfl) (fun hPc hDc => k_runV (As := []) (rest := []) C0 hZ hS hA (s_X10_qSums l dC dI cy sq a_this rm x_taped z78 x_end v23 v24 v25 x_fault x_faultPlace x_namePlace x_awayTold x_away x_coded x_statements x_isCrossing x_textKind x_askSecond x_redMany x_isOpen x_lastGreen x_greenTo x_isCycleGreen x_stillGreen x_rowMany x_fitMany x_fitRules x_fitGreen x_undoable x_newest x_seeded v26 v27 v28 x_qBase x_qPiled x_qAnswer x_qIsNew x_octets g_tape g_minAsked g_maxAsked g_secondAsked g_dayAsked g_phaseAsked g_waitedAsked g_calmAsked g_paceAsked g_trustsAsked g_gapAsked g_redsAsked g_numberAsked g_wentAsked g_harmAsked g_kindofAsked f30 f29 (cc + 1) (ib_w 0 1600 h80 rfl) (ib_w 0 1600 h76 rfl) (ib_w 0 0 h45 rfl) (ib_w 0 1700 h32 rfl) (ib_w 0 1700 h72 rfl) hg_tape (by have := (h80).1; have := h79.2; have : (1 : Int32).toInt = 1 := rfl; have := h62; have := h46; have := h12; have := hL0; have := (h72).2; have := (h32).2; omega) (fun q => (h41 q))) mV_X10_381 hPc hDc rfl rfl rfl hl rfl rfl (Nat.le_of_ble_eq_true rfl) ⟨(Nat.le_of_ble_eq_true rfl), (Nat.le_of_ble_eq_true rfl)⟩ ⟨(Nat.le_of_ble_eq_true rfl), (Nat.le_of_ble_eq_true rfl)⟩ dX10_qFact_74) (fun u82 H locs hw hP hD hS => ?_)
              obtain ⟨v83, v84, v85, v86, v87, v88, v89, f90, f91⟩ := u82
              try dsimp only at hP hD hw
              replace hP : va_P (dC, dI) vwCl [(wi_rm94_2_3_0 rm cy g_allAsked), (a_this, .inr (10, mfs rm x_taped v83 x_end v84 v85 v86 x_fault x_faultPlace x_namePlace x_awayTold x_away x_coded x_statements x_isCrossing x_textKind x_askSecond x_redMany x_isOpen x_lastGreen x_greenTo x_isCycleGreen x_stillGreen x_rowMany x_fitMany x_fitRules x_fitGreen x_undoable x_newest x_seeded v87 v88 v89 x_qBase x_qPiled x_qAnswer x_qIsNew x_octets)), (wi_rm0_0_1600_0 rm cy g_tape), (wi_rm97_2_6_0 rm cy g_secondAsked), (wi_rm98_2_3_0 rm cy g_dayAsked), (wi_rm99_2_5_0 rm cy g_phaseAsked), (wi_rm100_2_6_0 rm cy g_waitedAsked), (wi_rm101_2_4_0 rm cy g_calmAsked), (wi_rm102_2_4_0 rm cy g_paceAsked), (wi_rm103_2_6_0 rm cy g_trustsAsked), (wi_rm104_2_3_0 rm cy g_gapAsked), (wi_rm105_2_4_0 rm cy g_redsAsked), (wi_rm106_2_6_0 rm cy g_numberAsked), (wi_rm107_2_4_0 rm cy g_wentAsked), (wi_rm108_2_4_0 rm cy g_harmAsked), (wi_rm109_2_4_0 rm cy g_kindofAsked), (wi_rm95_2_3_0 rm cy g_minAsked), (wi_rm112_0_1700_0 rm cy f90), (wi_rm96_2_3_0 rm cy g_maxAsked), (wi_rm110_0_1700_0 rm cy f91)] H := hP
              replace hD := k_D hP hD
              as_aux_lemma =>
                obtain ⟨h92, h93, h94, h95, h96, h97, h98, h99, h100, h101, h102, h103⟩ := hw
                have h103 := by have h9 := h103; rw [lf_u Ez78] at h9; exact h9
                replace hq := lf_p1 hq h103
                replace hq := lf_p1 hq rfl
                replace hq := lf_p1 hq rfl
                replace hq := lf_p1 hq rfl
                replace hq := lf_p1 hq rfl
                replace hq := lf_p1 hq rfl
                replace hq := lf_p1 hq rfl
                replace hq := lf_p1 hq rfl
                refine lv_aload_n hx hb dX10_qFact_77 rfl (lv_at hl 1 rfl) ?_
                refine lv_iload_n hx hb dX10_qFact_78 rfl (lv_at hl 0 rfl) ?_
                refine lv_bipush (v := 60) hx hb dX10_qFact_79 rfl ?_
                refine lv_icmp_ne (tgt := 89) hx hb dX10_qFact_81 rfl (fun c104 => ?_) (fun c104 => ?_)
                · skip
                  exact absurd (ib_one h69 rfl) c104
                · as_aux_lemma =>
                    skip
                    have h105 := ib_eq h69 (ib_c 60 60 60 rfl) c104
                    have h106 : ib x_at 0 1598 := ⟨(h53).1, by have := (h53).2; have := h12; have := (h77).2; omega⟩
                    have h107 : ib v83 2 1600 := ⟨by have := (h92).1; have := h98; have := (h80).1; omega, (h92).2⟩
                    have h108 : ib x_qCoded 0 1618 := ⟨(h70).1, by have := (h70).2; have := hL0; have := (h71).1; have := (h106).2; omega⟩
                    have h109 : ib x_qWaits 0 1618 := ⟨(h71).1, by have := (h71).2; have := hL0; have := (h108).1; have := (h106).2; omega⟩
                    have h110 : ib v27 0 1618 := ⟨(h72).1, by have := (h72).2; have := h48; have := (h109).2; omega⟩
                    refine lv_bipush (v := 7) hx hb dX10_qFact_84 rfl ?_
                    refine lv_goto (tgt := 102) hx hb dX10_qFact_86 rfl ?_
                    refine k_jvm hP hD hS hA [1, 19] [true, false, true, true, true, true, true, true, true, true, true, true, true, true, true, true, true, true, true] rfl rfl (by decide +kernel) 0 0 (Nat.le_of_ble_eq_true rfl) (Nat.le_of_ble_eq_true rfl) (fun hPc hDc => k_runV (As := [.int 7]) (rest := []) C0 hZ hS hA (s_X10_qCode l dC dI cy sq a_this rm x_taped v83 x_end v84 v85 v86 x_fault x_faultPlace x_namePlace x_awayTold x_away x_coded x_statements x_isCrossing x_textKind x_askSecond x_redMany x_isOpen x_lastGreen x_greenTo x_isCycleGreen x_stillGreen x_rowMany x_fitMany x_fitRules x_fitGreen x_undoable x_newest x_seeded v87 v88 v89 x_qBase x_qPiled x_qAnswer x_qIsNew x_octets f91 7 (ib_w 0 1699 h93 rfl)) mV_X10_608 hPc hDc rfl rfl rfl hl rfl rfl (Nat.le_of_ble_eq_true rfl) ⟨(Nat.le_of_ble_eq_true rfl), (Nat.le_of_ble_eq_true rfl)⟩ ⟨(Nat.le_of_ble_eq_true rfl), (Nat.le_of_ble_eq_true rfl)⟩ dX10_qFact_102) (fun u112 H locs hw hP hD hS => ?_)
                    obtain ⟨v113, f114⟩ := u112
                    try dsimp only at hP hD hw
                    replace hP : va_P (dC, dI) vwCl [(wi_rm94_2_3_0 rm cy g_allAsked), (wi_rm0_0_1600_0 rm cy g_tape), (wi_rm97_2_6_0 rm cy g_secondAsked), (wi_rm98_2_3_0 rm cy g_dayAsked), (wi_rm99_2_5_0 rm cy g_phaseAsked), (wi_rm100_2_6_0 rm cy g_waitedAsked), (wi_rm101_2_4_0 rm cy g_calmAsked), (wi_rm102_2_4_0 rm cy g_paceAsked), (wi_rm103_2_6_0 rm cy g_trustsAsked), (wi_rm104_2_3_0 rm cy g_gapAsked), (wi_rm105_2_4_0 rm cy g_redsAsked), (wi_rm106_2_6_0 rm cy g_numberAsked), (wi_rm107_2_4_0 rm cy g_wentAsked), (wi_rm108_2_4_0 rm cy g_harmAsked), (wi_rm109_2_4_0 rm cy g_kindofAsked), (wi_rm95_2_3_0 rm cy g_minAsked), (wi_rm112_0_1700_0 rm cy f90), (wi_rm96_2_3_0 rm cy g_maxAsked), (a_this, .inr (10, mfs rm x_taped v83 x_end v84 v85 v86 x_fault x_faultPlace x_namePlace x_awayTold x_away x_coded x_statements x_isCrossing x_textKind x_askSecond x_redMany x_isOpen x_lastGreen x_greenTo x_isCycleGreen x_stillGreen x_rowMany x_fitMany x_fitRules x_fitGreen x_undoable x_newest x_seeded v113 v88 v89 x_qBase x_qPiled x_qAnswer x_qIsNew x_octets)), (wi_rm110_0_1700_0 rm cy f114)] H := hP
                    replace hD := k_D hP hD
                    obtain ⟨h115, h116, h117, h118⟩ := hw
                    have h119 : v113.toInt = (v87 : Int32).toInt + (1 : Int32).toInt := by have q1 := h116; have q2 : (1 : Int32).toInt = 1 := rfl; omega
                    have h120 : ib v113 1 1624 := ⟨by have q1 := h116; have := (h93).1; have := (h115).1; omega, by have q1 := h116; have := (h93).2; have := (h115).2; omega⟩
                    have h118 := by have h9 := h118; try simp only [show (7 : Int32).toInt = (7 : Int) from rfl] at h9; exact h9
                    replace hq := lf_p1 hq h118
                    have h121 : v85 = 0 → GS f114 v113 f90 v88 v88 x_textKind (cc + 1) := fun q => (by rw [h117]; exact GS_cmp (c := cc) (h102 q) (by have := (h93).1; have := (h93).2; have := h96; have := (h80).1; have := (h80).2; have := h79.2; have : (1 : Int32).toInt = 1 := rfl; have := h98; have := (h107).1; have := (h107).2; have := (h110).1; have := (h110).2; have := h35; have := h46; have := h48; have := h49; have := (h32).1; have := (h32).2; have := (h94).1; have := (h94).2; have := (h77).1; have := (h77).2; have := h12; have := h37; have := h47; have := (h75).1; have := (h75).2; have := h62; have := (h74).1; have := (h74).2; have := (h109).1; have := (h109).2; have := hL0; have := (h108).1; have := (h108).2; have := (h106).1; have := (h106).2; have := (h120).1; have := (h120).2; have := h119; omega) (by decide))
                    subst hQ; exact k_vret hx hb hr hlk ((v83, v84, v85, v86, v113, v88, v89, f90, f114)) hS ⟨ib_w 0 1600 h107 rfl, ib_w 0 1624 h120 rfl, ib_w 0 1623 h94 rfl, fun _ => ib_one hx_bad rfl, (by have := h12; have := h35; have := h46; have := h62; have := h96; have := h79.2; have : (1 : Int32).toInt = 1 := rfl; have := h119; omega), fun hq9 => (by have := h12; have := h35; have := h46; have := h62; have := (h97 hq9); have := h79.2; have : (1 : Int32).toInt = 1 := rfl; have := h119; omega), (by have := (h107).1; have := h98; have := h79.2; have : (1 : Int32).toInt = 1 := rfl; have := h12; have := h47; have := h62; have := (h106).2; omega), fun hq9 => (by have := (h107).1; have := (h99 hq9); have := h79.2; have : (1 : Int32).toInt = 1 := rfl; have := h12; have := h47; have := h62; have := (h106).2; omega), fun hq9 => (by have := h48; have := (h100 hq9); omega), fun hq9 => (by have := h49; have := (h101 hq9); omega), fun q => (h121 q), (hO.symm.trans (by exact hq))⟩ (hP.sub [18, 1, 0, 2, 3, 4, 5, 6, 7, 8, 9, 10, 11, 12, 13, 14, 15, 16, 17, 19] rfl) (hD.sub [18, 1, 0, 2, 3, 4, 5, 6, 7, 8, 9, 10, 11, 12, 13, 14, 15, 16, 17, 19] (by decide +kernel) rfl) (Nat.le_of_ble_eq_true rfl) (Nat.le_of_ble_eq_true rfl) dX10_qFact_105
          · as_aux_lemma =>
              replace hq := lf_neg hq (lf_ne (lf_rf r54) (lf_lc 60 (60 : Int) rfl) c67)
              have h122 : ib x_qCoded 0 1619 := ⟨(h18).1, by have := (h18).2; have := hL0; have := (h19).1; have := (h53).2; omega⟩
              have h123 : ib x_qWaits 0 1619 := ⟨(h19).1, by have := (h19).2; have := hL0; have := (h122).1; have := (h53).2; omega⟩
              have h124 : ib v27 0 1619 := ⟨(h52).1, by have := (h52).2; have := h48; have := (h123).2; omega⟩
              have h125 : ib v56 1 1600 := ⟨by have := (h57).1; have := h62; have := (h51).1; omega, (h57).2⟩
              refine lv_iload_n hx hb dX10_qFact_41 rfl (lv_at hl 0 rfl) ?_
              refine lv_bipush (v := 62) hx hb dX10_qFact_42 rfl ?_
              refine lv_icmp_eq (tgt := 63) hx hb dX10_qFact_44 rfl (fun c126 => ?_) (fun c126 => ?_)
              · as_aux_lemma =>
                  replace hq := lf_pos hq (lf_eq (lf_rf r54) (lf_lc 62 (62 : Int) rfl) c126)
                  have h127 := ib_eq h58 (ib_c 62 62 62 rfl) c126
                  have h128 : ib r54 62 62 := ib_w 62 62 h127.1 rfl
                  have h129 : ib v56 1 1599 := ib_w 1 1599 (ib_two h125 (h59 (ib_nc (-1) h128 rfl))) rfl
                  have h130 : ib v22 1 1599 := ib_w 1 1599 (ib_two h51 (h60 (ib_nc (-1) h128 rfl))) rfl
                  have h131 : ib x_end 1 1600 := ib_w 1 1600 (ib_two hx_end (h61 (ib_nc (-1) h128 rfl))) rfl
                  have h132 : ib v3 0 1598 := ⟨(h50).1, by have := (h50).2; have := h47; have := (h130).2; omega⟩
                  refine lv_aload_n hx hb dX10_qFact_63 rfl (lv_at hl 1 rfl) ?_
                  refine lv_dup hx hb dX10_qFact_64 rfl ?_
                  refine k_get C0 fg_X10_285 hP 18 rfl rfl dX10_qFact_65 ?_
                  refine lv_iconst (v := 1) hx hb dX10_qFact_68 rfl ?_
                  refine lv_iadd hx hb dX10_qFact_69 ?_
                  refine lv_topi (fun z133 ez133 => ?_)
                  have h134 := ib_add h129 (ib_c 1 1 1 rfl) rfl
                  rw [← ez133] at h134
                  have h135 : ib z133 2 1600 := ib_w 2 1600 h134.1 rfl
                  have Ez133 := lf_add h134.2 (lf_rf v56) (lf_lc 1 (1 : Int) rfl)
                  refine k_put C0 fp_X10_285 hP hD hS 18 rfl rfl rfl (Nat.le_of_ble_eq_true rfl) dX10_qFact_70 (fun H locs hP hD hS => ?_)
                  replace hP : va_P (dC, dI) vwCl [(wi_rm94_2_3_0 rm cy g_allAsked), (wi_rm97_2_6_0 rm cy g_secondAsked), (wi_rm98_2_3_0 rm cy g_dayAsked), (wi_rm99_2_5_0 rm cy g_phaseAsked), (wi_rm100_2_6_0 rm cy g_waitedAsked), (wi_rm101_2_4_0 rm cy g_calmAsked), (wi_rm102_2_4_0 rm cy g_paceAsked), (wi_rm103_2_6_0 rm cy g_trustsAsked), (wi_rm104_2_3_0 rm cy g_gapAsked), (wi_rm105_2_4_0 rm cy g_redsAsked), (wi_rm106_2_6_0 rm cy g_numberAsked), (wi_rm107_2_4_0 rm cy g_wentAsked), (wi_rm108_2_4_0 rm cy g_harmAsked), (wi_rm109_2_4_0 rm cy g_kindofAsked), (wi_rm95_2_3_0 rm cy g_minAsked), (wi_rm112_0_1700_0 rm cy f29), (wi_rm96_2_3_0 rm cy g_maxAsked), (wi_rm110_0_1700_0 rm cy f30), (a_this, .inr (10, mfs rm x_taped z133 x_end v23 v24 v25 x_fault x_faultPlace x_namePlace x_awayTold x_away x_coded x_statements x_isCrossing x_textKind x_askSecond x_redMany x_isOpen x_lastGreen x_greenTo x_isCycleGreen x_stillGreen x_rowMany x_fitMany x_fitRules x_fitGreen x_undoable x_newest x_seeded v26 v27 v28 x_qBase x_qPiled x_qAnswer x_qIsNew x_octets)), (wi_rm0_0_1600_0 rm cy g_tape)] H := hP
                  replace hD := k_D hP hD
                  refine lv_aload_n hx hb dX10_qFact_73 rfl (lv_at hl 1 rfl) ?_
                  refine k_jvm hP hD hS hA [18, 19, 1, 2, 3, 4, 5, 6, 7, 8, 9, 10, 11, 12, 13, 14, 15, 16, 17] [true] rfl rfl (by decide +kernel) 0 0 (Nat.le_of_ble_eq_true rfl) (Nat.le_of_ble_eq_true rfl) (fun hPc hDc => k_runV (As := []) (rest := []) C0 hZ hS hA (s_X10_qSums l dC dI cy sq a_this rm x_taped z133 x_end v23 v24 v25 x_fault x_faultPlace x_namePlace x_awayTold x_away x_coded x_statements x_isCrossing x_textKind x_askSecond x_redMany x_isOpen x_lastGreen x_greenTo x_isCycleGreen x_stillGreen x_rowMany x_fitMany x_fitRules x_fitGreen x_undoable x_newest x_seeded v26 v27 v28 x_qBase x_qPiled x_qAnswer x_qIsNew x_octets g_tape g_minAsked g_maxAsked g_secondAsked g_dayAsked g_phaseAsked g_waitedAsked g_calmAsked g_paceAsked g_trustsAsked g_gapAsked g_redsAsked g_numberAsked g_wentAsked g_harmAsked g_kindofAsked f30 f29 (cc + 1) (ib_w 0 1600 h135 rfl) (ib_w 0 1600 h131 rfl) (ib_w 0 0 h45 rfl) (ib_w 0 1700 h32 rfl) (ib_w 0 1700 h124 rfl) hg_tape (by have := (h135).1; have := h134.2; have : (1 : Int32).toInt = 1 := rfl; have := h62; have := h46; have := h12; have := hL0; have := (h124).2; have := (h32).2; omega) (fun q => (h41 q))) mV_X10_381 hPc hDc rfl rfl rfl hl rfl rfl (Nat.le_of_ble_eq_true rfl) ⟨(Nat.le_of_ble_eq_true rfl), (Nat.le_of_ble_eq_true rfl)⟩ ⟨(Nat.le_of_ble_eq_true rfl), (Nat.le_of_ble_eq_true rfl)⟩ dX10_qFact_74) (fun u137 H locs hw hP hD hS => ?_)
                  obtain ⟨v138, v139, v140, v141, v142, v143, v144, f145, f146⟩ := u137
                  try dsimp only at hP hD hw
                  replace hP : va_P (dC, dI) vwCl [(wi_rm94_2_3_0 rm cy g_allAsked), (a_this, .inr (10, mfs rm x_taped v138 x_end v139 v140 v141 x_fault x_faultPlace x_namePlace x_awayTold x_away x_coded x_statements x_isCrossing x_textKind x_askSecond x_redMany x_isOpen x_lastGreen x_greenTo x_isCycleGreen x_stillGreen x_rowMany x_fitMany x_fitRules x_fitGreen x_undoable x_newest x_seeded v142 v143 v144 x_qBase x_qPiled x_qAnswer x_qIsNew x_octets)), (wi_rm0_0_1600_0 rm cy g_tape), (wi_rm97_2_6_0 rm cy g_secondAsked), (wi_rm98_2_3_0 rm cy g_dayAsked), (wi_rm99_2_5_0 rm cy g_phaseAsked), (wi_rm100_2_6_0 rm cy g_waitedAsked), (wi_rm101_2_4_0 rm cy g_calmAsked), (wi_rm102_2_4_0 rm cy g_paceAsked), (wi_rm103_2_6_0 rm cy g_trustsAsked), (wi_rm104_2_3_0 rm cy g_gapAsked), (wi_rm105_2_4_0 rm cy g_redsAsked), (wi_rm106_2_6_0 rm cy g_numberAsked), (wi_rm107_2_4_0 rm cy g_wentAsked), (wi_rm108_2_4_0 rm cy g_harmAsked), (wi_rm109_2_4_0 rm cy g_kindofAsked), (wi_rm95_2_3_0 rm cy g_minAsked), (wi_rm112_0_1700_0 rm cy f145), (wi_rm96_2_3_0 rm cy g_maxAsked), (wi_rm110_0_1700_0 rm cy f146)] H := hP
                  replace hD := k_D hP hD
                  obtain ⟨h147, h148, h149, h150, h151, h152, h153, h154, h155, h156, h157, h158⟩ := hw
                  have h158 := by have h9 := h158; rw [lf_u Ez133] at h9; exact h9
                  replace hq := lf_p1 hq h158
                  replace hq := lf_p1 hq rfl
                  as_aux_lemma =>
                    replace hq := lf_p1 hq rfl
                    replace hq := lf_p1 hq rfl
                    replace hq := lf_p1 hq rfl
                    replace hq := lf_p1 hq rfl
                    replace hq := lf_p1 hq rfl
                    replace hq := lf_p1 hq rfl
                    refine lv_aload_n hx hb dX10_qFact_77 rfl (lv_at hl 1 rfl) ?_
                    refine lv_iload_n hx hb dX10_qFact_78 rfl (lv_at hl 0 rfl) ?_
                    refine lv_bipush (v := 60) hx hb dX10_qFact_79 rfl ?_
                    refine lv_icmp_ne (tgt := 89) hx hb dX10_qFact_81 rfl (fun c159 => ?_) (fun c159 => ?_)
                    · as_aux_lemma =>
                        skip
                        have h160 : ib x_at 0 1598 := ⟨(h53).1, by have := (h53).2; have := h12; have := (h132).2; omega⟩
                        have h161 : ib v138 2 1600 := ⟨by have := (h147).1; have := h153; have := (h135).1; omega, (h147).2⟩
                        refine lv_iload_n hx hb dX10_qFact_89 rfl (lv_at hl 0 rfl) ?_
                        refine lv_bipush (v := 62) hx hb dX10_qFact_90 rfl ?_
                        refine lv_icmp_ne (tgt := 100) hx hb dX10_qFact_92 rfl (fun c162 => ?_) (fun c162 => ?_)
                        · skip
                          exact absurd (ib_one h128 rfl) c162
                        · skip
                          have h163 := ib_eq h128 (ib_c 62 62 62 rfl) c162
                          have h164 : ib x_qCoded 0 1618 := ⟨(h122).1, by have := (h122).2; have := hL0; have := (h123).1; have := (h160).2; omega⟩
                          have h165 : ib x_qWaits 0 1618 := ⟨(h123).1, by have := (h123).2; have := hL0; have := (h164).1; have := (h160).2; omega⟩
                          have h166 : ib v27 0 1618 := ⟨(h124).1, by have := (h124).2; have := h48; have := (h165).2; omega⟩
                          refine lv_bipush (v := 8) hx hb dX10_qFact_95 rfl ?_
                          refine lv_goto (tgt := 102) hx hb dX10_qFact_97 rfl ?_
                          refine k_jvm hP hD hS hA [1, 19] [true, false, true, true, true, true, true, true, true, true, true, true, true, true, true, true, true, true, true] rfl rfl (by decide +kernel) 0 0 (Nat.le_of_ble_eq_true rfl) (Nat.le_of_ble_eq_true rfl) (fun hPc hDc => k_runV (As := [.int 8]) (rest := []) C0 hZ hS hA (s_X10_qCode l dC dI cy sq a_this rm x_taped v138 x_end v139 v140 v141 x_fault x_faultPlace x_namePlace x_awayTold x_away x_coded x_statements x_isCrossing x_textKind x_askSecond x_redMany x_isOpen x_lastGreen x_greenTo x_isCycleGreen x_stillGreen x_rowMany x_fitMany x_fitRules x_fitGreen x_undoable x_newest x_seeded v142 v143 v144 x_qBase x_qPiled x_qAnswer x_qIsNew x_octets f146 8 (ib_w 0 1699 h148 rfl)) mV_X10_608 hPc hDc rfl rfl rfl hl rfl rfl (Nat.le_of_ble_eq_true rfl) ⟨(Nat.le_of_ble_eq_true rfl), (Nat.le_of_ble_eq_true rfl)⟩ ⟨(Nat.le_of_ble_eq_true rfl), (Nat.le_of_ble_eq_true rfl)⟩ dX10_qFact_102) (fun u168 H locs hw hP hD hS => ?_)
                          obtain ⟨v169, f170⟩ := u168
                          try dsimp only at hP hD hw
                          replace hP : va_P (dC, dI) vwCl [(wi_rm94_2_3_0 rm cy g_allAsked), (wi_rm0_0_1600_0 rm cy g_tape), (wi_rm97_2_6_0 rm cy g_secondAsked), (wi_rm98_2_3_0 rm cy g_dayAsked), (wi_rm99_2_5_0 rm cy g_phaseAsked), (wi_rm100_2_6_0 rm cy g_waitedAsked), (wi_rm101_2_4_0 rm cy g_calmAsked), (wi_rm102_2_4_0 rm cy g_paceAsked), (wi_rm103_2_6_0 rm cy g_trustsAsked), (wi_rm104_2_3_0 rm cy g_gapAsked), (wi_rm105_2_4_0 rm cy g_redsAsked), (wi_rm106_2_6_0 rm cy g_numberAsked), (wi_rm107_2_4_0 rm cy g_wentAsked), (wi_rm108_2_4_0 rm cy g_harmAsked), (wi_rm109_2_4_0 rm cy g_kindofAsked), (wi_rm95_2_3_0 rm cy g_minAsked), (wi_rm112_0_1700_0 rm cy f145), (wi_rm96_2_3_0 rm cy g_maxAsked), (a_this, .inr (10, mfs rm x_taped v138 x_end v139 v140 v141 x_fault x_faultPlace x_namePlace x_awayTold x_away x_coded x_statements x_isCrossing x_textKind x_askSecond x_redMany x_isOpen x_lastGreen x_greenTo x_isCycleGreen x_stillGreen x_rowMany x_fitMany x_fitRules x_fitGreen x_undoable x_newest x_seeded v169 v143 v144 x_qBase x_qPiled x_qAnswer x_qIsNew x_octets)), (wi_rm110_0_1700_0 rm cy f170)] H := hP
                          replace hD := k_D hP hD
                          obtain ⟨h171, h172, h173, h174⟩ := hw
                          have h175 : v169.toInt = (v142 : Int32).toInt + (1 : Int32).toInt := by have q1 := h172; have q2 : (1 : Int32).toInt = 1 := rfl; omega
                          have h176 : ib v169 1 1624 := ⟨by have q1 := h172; have := (h148).1; have := (h171).1; omega, by have q1 := h172; have := (h148).2; have := (h171).2; omega⟩
                          have h174 := by have h9 := h174; try simp only [show (8 : Int32).toInt = (8 : Int) from rfl] at h9; exact h9
                          replace hq := lf_p1 hq h174
                          have h177 : v140 = 0 → GS f170 v169 f145 v143 v143 x_textKind (cc + 1) := fun q => (by rw [h173]; exact GS_cmp (c := cc) (h157 q) (by have := (h148).1; have := (h148).2; have := h151; have := (h135).1; have := (h135).2; have := h134.2; have : (1 : Int32).toInt = 1 := rfl; have := h153; have := (h161).1; have := (h161).2; have := (h166).1; have := (h166).2; have := h35; have := h46; have := h48; have := h49; have := (h32).1; have := (h32).2; have := (h149).1; have := (h149).2; have := (h132).1; have := (h132).2; have := h12; have := h37; have := h47; have := (h130).1; have := (h130).2; have := h62; have := (h129).1; have := (h129).2; have := (h165).1; have := (h165).2; have := hL0; have := (h164).1; have := (h164).2; have := (h160).1; have := (h160).2; have := (h176).1; have := (h176).2; have := h175; omega) (by decide))
                          subst hQ; exact k_vret hx hb hr hlk ((v138, v139, v140, v141, v169, v143, v144, f145, f170)) hS ⟨ib_w 0 1600 h161 rfl, ib_w 0 1624 h176 rfl, ib_w 0 1623 h149 rfl, fun _ => ib_one hx_bad rfl, (by have := h12; have := h35; have := h46; have := h62; have := h151; have := h134.2; have : (1 : Int32).toInt = 1 := rfl; have := h175; omega), fun hq9 => (by have := h12; have := h35; have := h46; have := h62; have := (h152 hq9); have := h134.2; have : (1 : Int32).toInt = 1 := rfl; have := h175; omega), (by have := (h161).1; have := h153; have := h134.2; have : (1 : Int32).toInt = 1 := rfl; have := h12; have := h47; have := h62; have := (h160).2; omega), fun hq9 => (by have := (h161).1; have := (h154 hq9); have := h134.2; have : (1 : Int32).toInt = 1 := rfl; have := h12; have := h47; have := h62; have := (h160).2; omega), fun hq9 => (by have := h48; have := (h155 hq9); omega), fun hq9 => (by have := h49; have := (h156 hq9); omega), fun q => (h177 q), (hO.symm.trans (by exact hq))⟩ (hP.sub [18, 1, 0, 2, 3, 4, 5, 6, 7, 8, 9, 10, 11, 12, 13, 14, 15, 16, 17, 19] rfl) (hD.sub [18, 1, 0, 2, 3, 4, 5, 6, 7, 8, 9, 10, 11, 12, 13, 14, 15, 16, 17, 19] (by decide +kernel) rfl) (Nat.le_of_ble_eq_true rfl) (Nat.le_of_ble_eq_true rfl) dX10_qFact_105
                    · skip
                      exact absurd c159 c67
              · as_aux_lemma =>
                  replace hq := lf_neg hq (lf_ne (lf_rf r54) (lf_lc 62 (62 : Int) rfl) c126)
                  refine lv_iload_n hx hb dX10_qFact_47 rfl (lv_at hl 0 rfl) ?_
                  refine lv_bipush (v := 61) hx hb dX10_qFact_48 rfl ?_
                  refine lv_icmp_eq (tgt := 63) hx hb dX10_qFact_50 rfl (fun c178 => ?_) (fun c178 => ?_)
                  · as_aux_lemma =>
                      replace hq := lf_pos hq (lf_eq (lf_rf r54) (lf_lc 61 (61 : Int) rfl) c178)
                      have h179 := ib_eq h58 (ib_c 61 61 61 rfl) c178
                      have h180 : ib r54 61 61 := ib_w 61 61 h179.1 rfl
                      have h181 : ib v56 1 1599 := ib_w 1 1599 (ib_two h125 (h59 (ib_nc (-1) h180 rfl))) rfl
                      have h182 : ib v22 1 1599 := ib_w 1 1599 (ib_two h51 (h60 (ib_nc (-1) h180 rfl))) rfl
                      have h183 : ib x_end 1 1600 := ib_w 1 1600 (ib_two hx_end (h61 (ib_nc (-1) h180 rfl))) rfl
                      have h184 : ib v3 0 1598 := ⟨(h50).1, by have := (h50).2; have := h47; have := (h182).2; omega⟩
                      refine lv_aload_n hx hb dX10_qFact_63 rfl (lv_at hl 1 rfl) ?_
                      refine lv_dup hx hb dX10_qFact_64 rfl ?_
                      refine k_get C0 fg_X10_285 hP 18 rfl rfl dX10_qFact_65 ?_
                      refine lv_iconst (v := 1) hx hb dX10_qFact_68 rfl ?_
                      refine lv_iadd hx hb dX10_qFact_69 ?_
                      refine lv_topi (fun z185 ez185 => ?_)
                      have h186 := ib_add h181 (ib_c 1 1 1 rfl) rfl
                      rw [← ez185] at h186
                      have h187 : ib z185 2 1600 := ib_w 2 1600 h186.1 rfl
                      have Ez185 := lf_add h186.2 (lf_rf v56) (lf_lc 1 (1 : Int) rfl)
                      refine k_put C0 fp_X10_285 hP hD hS 18 rfl rfl rfl (Nat.le_of_ble_eq_true rfl) dX10_qFact_70 (fun H locs hP hD hS => ?_)
                      replace hP : va_P (dC, dI) vwCl [(wi_rm94_2_3_0 rm cy g_allAsked), (wi_rm97_2_6_0 rm cy g_secondAsked), (wi_rm98_2_3_0 rm cy g_dayAsked), (wi_rm99_2_5_0 rm cy g_phaseAsked), (wi_rm100_2_6_0 rm cy g_waitedAsked), (wi_rm101_2_4_0 rm cy g_calmAsked), (wi_rm102_2_4_0 rm cy g_paceAsked), (wi_rm103_2_6_0 rm cy g_trustsAsked), (wi_rm104_2_3_0 rm cy g_gapAsked), (wi_rm105_2_4_0 rm cy g_redsAsked), (wi_rm106_2_6_0 rm cy g_numberAsked), (wi_rm107_2_4_0 rm cy g_wentAsked), (wi_rm108_2_4_0 rm cy g_harmAsked), (wi_rm109_2_4_0 rm cy g_kindofAsked), (wi_rm95_2_3_0 rm cy g_minAsked), (wi_rm112_0_1700_0 rm cy f29), (wi_rm96_2_3_0 rm cy g_maxAsked), (wi_rm110_0_1700_0 rm cy f30), (a_this, .inr (10, mfs rm x_taped z185 x_end v23 v24 v25 x_fault x_faultPlace x_namePlace x_awayTold x_away x_coded x_statements x_isCrossing x_textKind x_askSecond x_redMany x_isOpen x_lastGreen x_greenTo x_isCycleGreen x_stillGreen x_rowMany x_fitMany x_fitRules x_fitGreen x_undoable x_newest x_seeded v26 v27 v28 x_qBase x_qPiled x_qAnswer x_qIsNew x_octets)), (wi_rm0_0_1600_0 rm cy g_tape)] H := hP
                      replace hD := k_D hP hD
                      refine lv_aload_n hx hb dX10_qFact_73 rfl (lv_at hl 1 rfl) ?_
                      refine k_jvm hP hD hS hA [18, 19, 1, 2, 3, 4, 5, 6, 7, 8, 9, 10, 11, 12, 13, 14, 15, 16, 17] [true] rfl rfl (by decide +kernel) 0 0 (Nat.le_of_ble_eq_true rfl) (Nat.le_of_ble_eq_true rfl) (fun hPc hDc => k_runV (As := []) (rest := []) C0 hZ hS hA (s_X10_qSums l dC dI cy sq a_this rm x_taped z185 x_end v23 v24 v25 x_fault x_faultPlace x_namePlace x_awayTold x_away x_coded x_statements x_isCrossing x_textKind x_askSecond x_redMany x_isOpen x_lastGreen x_greenTo x_isCycleGreen x_stillGreen x_rowMany x_fitMany x_fitRules x_fitGreen x_undoable x_newest x_seeded v26 v27 v28 x_qBase x_qPiled x_qAnswer x_qIsNew x_octets g_tape g_minAsked g_maxAsked g_secondAsked g_dayAsked g_phaseAsked g_waitedAsked g_calmAsked g_paceAsked g_trustsAsked g_gapAsked g_redsAsked g_numberAsked g_wentAsked g_harmAsked g_kindofAsked f30 f29 (cc + 1) (ib_w 0 1600 h187 rfl) (ib_w 0 1600 h183 rfl) (ib_w 0 0 h45 rfl) (ib_w 0 1700 h32 rfl) (ib_w 0 1700 h124 rfl) hg_tape (by have := (h187).1; have := h186.2; have : (1 : Int32).toInt = 1 := rfl; have := h62; have := h46; have := h12; have := hL0; have := (h124).2; have := (h32).2; omega) (fun q => (h41 q))) mV_X10_381 hPc hDc rfl rfl rfl hl rfl rfl (Nat.le_of_ble_eq_true rfl) ⟨(Nat.le_of_ble_eq_true rfl), (Nat.le_of_ble_eq_true rfl)⟩ ⟨(Nat.le_of_ble_eq_true rfl), (Nat.le_of_ble_eq_true rfl)⟩ dX10_qFact_74) (fun u189 H locs hw hP hD hS => ?_)
                      obtain ⟨v190, v191, v192, v193, v194, v195, v196, f197, f198⟩ := u189
                      try dsimp only at hP hD hw
                      replace hP : va_P (dC, dI) vwCl [(wi_rm94_2_3_0 rm cy g_allAsked), (a_this, .inr (10, mfs rm x_taped v190 x_end v191 v192 v193 x_fault x_faultPlace x_namePlace x_awayTold x_away x_coded x_statements x_isCrossing x_textKind x_askSecond x_redMany x_isOpen x_lastGreen x_greenTo x_isCycleGreen x_stillGreen x_rowMany x_fitMany x_fitRules x_fitGreen x_undoable x_newest x_seeded v194 v195 v196 x_qBase x_qPiled x_qAnswer x_qIsNew x_octets)), (wi_rm0_0_1600_0 rm cy g_tape), (wi_rm97_2_6_0 rm cy g_secondAsked), (wi_rm98_2_3_0 rm cy g_dayAsked), (wi_rm99_2_5_0 rm cy g_phaseAsked), (wi_rm100_2_6_0 rm cy g_waitedAsked), (wi_rm101_2_4_0 rm cy g_calmAsked), (wi_rm102_2_4_0 rm cy g_paceAsked), (wi_rm103_2_6_0 rm cy g_trustsAsked), (wi_rm104_2_3_0 rm cy g_gapAsked), (wi_rm105_2_4_0 rm cy g_redsAsked), (wi_rm106_2_6_0 rm cy g_numberAsked), (wi_rm107_2_4_0 rm cy g_wentAsked), (wi_rm108_2_4_0 rm cy g_harmAsked), (wi_rm109_2_4_0 rm cy g_kindofAsked), (wi_rm95_2_3_0 rm cy g_minAsked), (wi_rm112_0_1700_0 rm cy f197), (wi_rm96_2_3_0 rm cy g_maxAsked), (wi_rm110_0_1700_0 rm cy f198)] H := hP
                      replace hD := k_D hP hD
                      obtain ⟨h199, h200, h201, h202, h203, h204, h205, h206, h207, h208, h209, h210⟩ := hw
                      have h210 := by have h9 := h210; rw [lf_u Ez185] at h9; exact h9
                      replace hq := lf_p1 hq h210
                      replace hq := lf_p1 hq rfl
                      as_aux_lemma =>
                        replace hq := lf_p1 hq rfl
                        replace hq := lf_p1 hq rfl
                        replace hq := lf_p1 hq rfl
                        replace hq := lf_p1 hq rfl
                        replace hq := lf_p1 hq rfl
                        replace hq := lf_p1 hq rfl
                        refine lv_aload_n hx hb dX10_qFact_77 rfl (lv_at hl 1 rfl) ?_
                        refine lv_iload_n hx hb dX10_qFact_78 rfl (lv_at hl 0 rfl) ?_
                        refine lv_bipush (v := 60) hx hb dX10_qFact_79 rfl ?_
                        refine lv_icmp_ne (tgt := 89) hx hb dX10_qFact_81 rfl (fun c211 => ?_) (fun c211 => ?_)
                        · as_aux_lemma =>
                            skip
                            have h212 : ib x_at 0 1598 := ⟨(h53).1, by have := (h53).2; have := h12; have := (h184).2; omega⟩
                            have h213 : ib v190 2 1600 := ⟨by have := (h199).1; have := h205; have := (h187).1; omega, (h199).2⟩
                            refine lv_iload_n hx hb dX10_qFact_89 rfl (lv_at hl 0 rfl) ?_
                            refine lv_bipush (v := 62) hx hb dX10_qFact_90 rfl ?_
                            refine lv_icmp_ne (tgt := 100) hx hb dX10_qFact_92 rfl (fun c214 => ?_) (fun c214 => ?_)
                            · skip
                              have h215 : ib x_qCoded 0 1618 := ⟨(h122).1, by have := (h122).2; have := hL0; have := (h123).1; have := (h212).2; omega⟩
                              have h216 : ib x_qWaits 0 1618 := ⟨(h123).1, by have := (h123).2; have := hL0; have := (h215).1; have := (h212).2; omega⟩
                              have h217 : ib v27 0 1618 := ⟨(h124).1, by have := (h124).2; have := h48; have := (h216).2; omega⟩
                              refine lv_bipush (v := 9) hx hb dX10_qFact_100 rfl ?_
                              refine k_jvm hP hD hS hA [1, 19] [true, false, true, true, true, true, true, true, true, true, true, true, true, true, true, true, true, true, true] rfl rfl (by decide +kernel) 0 0 (Nat.le_of_ble_eq_true rfl) (Nat.le_of_ble_eq_true rfl) (fun hPc hDc => k_runV (As := [.int 9]) (rest := []) C0 hZ hS hA (s_X10_qCode l dC dI cy sq a_this rm x_taped v190 x_end v191 v192 v193 x_fault x_faultPlace x_namePlace x_awayTold x_away x_coded x_statements x_isCrossing x_textKind x_askSecond x_redMany x_isOpen x_lastGreen x_greenTo x_isCycleGreen x_stillGreen x_rowMany x_fitMany x_fitRules x_fitGreen x_undoable x_newest x_seeded v194 v195 v196 x_qBase x_qPiled x_qAnswer x_qIsNew x_octets f198 9 (ib_w 0 1699 h200 rfl)) mV_X10_608 hPc hDc rfl rfl rfl hl rfl rfl (Nat.le_of_ble_eq_true rfl) ⟨(Nat.le_of_ble_eq_true rfl), (Nat.le_of_ble_eq_true rfl)⟩ ⟨(Nat.le_of_ble_eq_true rfl), (Nat.le_of_ble_eq_true rfl)⟩ dX10_qFact_102) (fun u219 H locs hw hP hD hS => ?_)
                              obtain ⟨v220, f221⟩ := u219
                              try dsimp only at hP hD hw
                              replace hP : va_P (dC, dI) vwCl [(wi_rm94_2_3_0 rm cy g_allAsked), (wi_rm0_0_1600_0 rm cy g_tape), (wi_rm97_2_6_0 rm cy g_secondAsked), (wi_rm98_2_3_0 rm cy g_dayAsked), (wi_rm99_2_5_0 rm cy g_phaseAsked), (wi_rm100_2_6_0 rm cy g_waitedAsked), (wi_rm101_2_4_0 rm cy g_calmAsked), (wi_rm102_2_4_0 rm cy g_paceAsked), (wi_rm103_2_6_0 rm cy g_trustsAsked), (wi_rm104_2_3_0 rm cy g_gapAsked), (wi_rm105_2_4_0 rm cy g_redsAsked), (wi_rm106_2_6_0 rm cy g_numberAsked), (wi_rm107_2_4_0 rm cy g_wentAsked), (wi_rm108_2_4_0 rm cy g_harmAsked), (wi_rm109_2_4_0 rm cy g_kindofAsked), (wi_rm95_2_3_0 rm cy g_minAsked), (wi_rm112_0_1700_0 rm cy f197), (wi_rm96_2_3_0 rm cy g_maxAsked), (a_this, .inr (10, mfs rm x_taped v190 x_end v191 v192 v193 x_fault x_faultPlace x_namePlace x_awayTold x_away x_coded x_statements x_isCrossing x_textKind x_askSecond x_redMany x_isOpen x_lastGreen x_greenTo x_isCycleGreen x_stillGreen x_rowMany x_fitMany x_fitRules x_fitGreen x_undoable x_newest x_seeded v220 v195 v196 x_qBase x_qPiled x_qAnswer x_qIsNew x_octets)), (wi_rm110_0_1700_0 rm cy f221)] H := hP
                              replace hD := k_D hP hD
                              obtain ⟨h222, h223, h224, h225⟩ := hw
                              have h226 : v220.toInt = (v194 : Int32).toInt + (1 : Int32).toInt := by have q1 := h223; have q2 : (1 : Int32).toInt = 1 := rfl; omega
                              have h227 : ib v220 1 1624 := ⟨by have q1 := h223; have := (h200).1; have := (h222).1; omega, by have q1 := h223; have := (h200).2; have := (h222).2; omega⟩
                              have h225 := by have h9 := h225; try simp only [show (9 : Int32).toInt = (9 : Int) from rfl] at h9; exact h9
                              replace hq := lf_p1 hq h225
                              have h228 : v192 = 0 → GS f221 v220 f197 v195 v195 x_textKind (cc + 1) := fun q => (by rw [h224]; exact GS_cmp (c := cc) (h209 q) (by have := (h200).1; have := (h200).2; have := h203; have := (h187).1; have := (h187).2; have := h186.2; have : (1 : Int32).toInt = 1 := rfl; have := h205; have := (h213).1; have := (h213).2; have := (h217).1; have := (h217).2; have := h35; have := h46; have := h48; have := h49; have := (h32).1; have := (h32).2; have := (h201).1; have := (h201).2; have := (h184).1; have := (h184).2; have := h12; have := h37; have := h47; have := (h182).1; have := (h182).2; have := h62; have := (h181).1; have := (h181).2; have := (h216).1; have := (h216).2; have := hL0; have := (h215).1; have := (h215).2; have := (h212).1; have := (h212).2; have := (h227).1; have := (h227).2; have := h226; omega) (by decide))
                              subst hQ; exact k_vret hx hb hr hlk ((v190, v191, v192, v193, v220, v195, v196, f197, f221)) hS ⟨ib_w 0 1600 h213 rfl, ib_w 0 1624 h227 rfl, ib_w 0 1623 h201 rfl, fun _ => ib_one hx_bad rfl, (by have := h12; have := h35; have := h46; have := h62; have := h203; have := h186.2; have : (1 : Int32).toInt = 1 := rfl; have := h226; omega), fun hq9 => (by have := h12; have := h35; have := h46; have := h62; have := (h204 hq9); have := h186.2; have : (1 : Int32).toInt = 1 := rfl; have := h226; omega), (by have := (h213).1; have := h205; have := h186.2; have : (1 : Int32).toInt = 1 := rfl; have := h12; have := h47; have := h62; have := (h212).2; omega), fun hq9 => (by have := (h213).1; have := (h206 hq9); have := h186.2; have : (1 : Int32).toInt = 1 := rfl; have := h12; have := h47; have := h62; have := (h212).2; omega), fun hq9 => (by have := h48; have := (h207 hq9); omega), fun hq9 => (by have := h49; have := (h208 hq9); omega), fun q => (h228 q), (hO.symm.trans (by exact hq))⟩ (hP.sub [18, 1, 0, 2, 3, 4, 5, 6, 7, 8, 9, 10, 11, 12, 13, 14, 15, 16, 17, 19] rfl) (hD.sub [18, 1, 0, 2, 3, 4, 5, 6, 7, 8, 9, 10, 11, 12, 13, 14, 15, 16, 17, 19] (by decide +kernel) rfl) (Nat.le_of_ble_eq_true rfl) (Nat.le_of_ble_eq_true rfl) dX10_qFact_105
                            · skip
                              exact absurd c214 c126
                        · skip
                          exact absurd c211 c67
                  · replace hq := lf_neg hq (lf_ne (lf_rf r54) (lf_lc 61 (61 : Int) rfl) c178)
                    refine lv_aload_n hx hb dX10_qFact_53 rfl (lv_at hl 1 rfl) ?_
                    refine lv_iconst (v := 1) hx hb dX10_qFact_54 rfl ?_
                    refine lv_aload_n hx hb dX10_qFact_55 rfl (lv_at hl 1 rfl) ?_
                    refine k_get C0 fg_X10_285 hP 18 rfl rfl dX10_qFact_56 ?_
                    refine k_jvm hP hD hS hA [18] [true, true, true, true, true, true, true, true, true, true, true, true, true, true, true, true, true, true, false, true] rfl rfl (by decide +kernel) 0 0 (Nat.le_of_ble_eq_true rfl) (Nat.le_of_ble_eq_true rfl) (fun hPc hDc => k_runV (As := [.int 1, .int v56]) (rest := []) C0 hZ hS hA (s_X10_fail_a0_1_f_bad_0_0 l dC dI cy sq a_this rm x_taped v56 x_end v23 v24 v25 x_fault x_faultPlace x_namePlace x_awayTold x_away x_coded x_statements x_isCrossing x_textKind x_askSecond x_redMany x_isOpen x_lastGreen x_greenTo x_isCycleGreen x_stillGreen x_rowMany x_fitMany x_fitRules x_fitGreen x_undoable x_newest x_seeded v26 v27 v28 x_qBase x_qPiled x_qAnswer x_qIsNew x_octets v56 (ib_w 0 0 h45 rfl)) mV_X10_308 hPc hDc rfl rfl rfl hl rfl rfl (Nat.le_of_ble_eq_true rfl) ⟨(Nat.le_of_ble_eq_true rfl), (Nat.le_of_ble_eq_true rfl)⟩ ⟨(Nat.le_of_ble_eq_true rfl), (Nat.le_of_ble_eq_true rfl)⟩ dX10_qFact_59) (fun u230 H locs hw hP hD hS => ?_)
                    try dsimp only at hP hD hw
                    replace hP : va_P (dC, dI) vwCl [(wi_rm94_2_3_0 rm cy g_allAsked), (wi_rm97_2_6_0 rm cy g_secondAsked), (wi_rm98_2_3_0 rm cy g_dayAsked), (wi_rm99_2_5_0 rm cy g_phaseAsked), (wi_rm100_2_6_0 rm cy g_waitedAsked), (wi_rm101_2_4_0 rm cy g_calmAsked), (wi_rm102_2_4_0 rm cy g_paceAsked), (wi_rm103_2_6_0 rm cy g_trustsAsked), (wi_rm104_2_3_0 rm cy g_gapAsked), (wi_rm105_2_4_0 rm cy g_redsAsked), (wi_rm106_2_6_0 rm cy g_numberAsked), (wi_rm107_2_4_0 rm cy g_wentAsked), (wi_rm108_2_4_0 rm cy g_harmAsked), (wi_rm109_2_4_0 rm cy g_kindofAsked), (wi_rm95_2_3_0 rm cy g_minAsked), (wi_rm112_0_1700_0 rm cy f29), (wi_rm96_2_3_0 rm cy g_maxAsked), (wi_rm110_0_1700_0 rm cy f30), (wi_rm0_0_1600_0 rm cy g_tape), (a_this, .inr (10, mfs rm x_taped v56 x_end v23 1 v56 x_fault x_faultPlace x_namePlace x_awayTold x_away x_coded x_statements x_isCrossing x_textKind x_askSecond x_redMany x_isOpen x_lastGreen x_greenTo x_isCycleGreen x_stillGreen x_rowMany x_fitMany x_fitRules x_fitGreen x_undoable x_newest x_seeded v26 v27 v28 x_qBase x_qPiled x_qAnswer x_qIsNew x_octets))] H := hP
                    replace hD := k_D hP hD
                    subst hQ; exact k_vret hx hb hr hlk ((v56, v23, 1, v56, v26, v27, v28, f29, f30)) hS ⟨ib_w 0 1600 h125 rfl, ib_w 0 1624 h32 rfl, ib_w 0 1623 h124 rfl, fun q => absurd q (by decide), (by have := h12; have := h35; have := h62; omega), fun q => absurd q (by decide), (by have := (h125).1; have := h62; have := h47; have := h12; have := (h53).2; omega), fun q => absurd q (by decide), fun q => absurd q (by decide), fun q => absurd q (by decide), fun q => absurd q (by decide), (hO.symm.trans (by try simp only [show (1 : Int32).toInt = (1 : Int) from rfl]; exact hq))⟩ (hP.sub [19, 18, 0, 1, 2, 3, 4, 5, 6, 7, 8, 9, 10, 11, 12, 13, 14, 15, 16, 17] rfl) (hD.sub [19, 18, 0, 1, 2, 3, 4, 5, 6, 7, 8, 9, 10, 11, 12, 13, 14, 15, 16, 17] (by decide +kernel) rfl) (Nat.le_of_ble_eq_true rfl) (Nat.le_of_ble_eq_true rfl) dX10_qFact_62
      · replace hq := lf_neg hq (lf_ne (lf_rf v24) (lf_lc 0 (0 : Int) rfl) c43)
        subst hQ; exact k_vret hx hb hr hlk ((v22, v23, v24, v25, v26, v27, v28, f29, f30)) hS ⟨ib_w 0 1600 h31 rfl, ib_w 0 1624 h32 rfl, ib_w 0 1623 h33 rfl, fun _ => ib_one hx_bad rfl, (by have := h12; have := h35; omega), fun q => absurd q c43, (by have := h37; have := h12; omega), fun q => absurd q c43, fun q => absurd q c43, fun q => absurd q c43, fun q => absurd q c43, (hO.symm.trans (by exact hq))⟩ (hP.sub [1, 2, 0, 3, 4, 5, 6, 7, 8, 9, 10, 11, 12, 13, 14, 15, 16, 17, 18, 19] rfl) (hD.sub [1, 2, 0, 3, 4, 5, 6, 7, 8, 9, 10, 11, 12, 13, 14, 15, 16, 17, 18, 19] (by decide +kernel) rfl) (Nat.le_of_ble_eq_true rfl) (Nat.le_of_ble_eq_true rfl) dX10_qFact_29
  · as_aux_lemma =>
      replace hq := lf_neg hq (lf_ne (lf_rf r1) (lf_lc 0 (0 : Int) rfl) c15)
      have h231 : ib r1 1 1 := ib_w 1 1 (ib_ne_lo 0 h6 rfl c15) rfl
      have h232 := h13 (ib_nz h231 rfl)
      have h233 : ib x_qCoded 0 1620 := ⟨(hx_qCoded).1, by have := (hx_qCoded).2; have := hL0; have := (hx_at).2; have := (hx_qWaits).1; omega⟩
      have h234 : ib x_qWaits 0 1620 := ⟨(hx_qWaits).1, by have := (hx_qWaits).2; have := hL0; have := (hx_at).2; have := (h233).1; omega⟩
      have h235 : ib x_at 0 1597 := ⟨(hx_at).1, by have := (hx_at).2; have := h232; have := (h5).2; omega⟩
      have h236 : ib v3 3 1600 := ⟨by have := (h5).1; have := h232; have := (h235).1; omega, (h5).2⟩
      have h237 : ib v4 3 1600 := ib_w 3 1600 (ib_two (ib_any v4) (h8 (ib_nz h231 rfl))) rfl
      have h238 : ib x_end 1 1600 := ib_w 1 1600 (ib_two hx_end (h10 (ib_nz h231 rfl))) rfl
      have h239 : ib x_qCoded 0 1617 := ⟨(h233).1, by have := (h233).2; have := hL0; have := (h235).2; have := (h234).1; omega⟩
      have h240 : ib x_qWaits 0 1617 := ⟨(h234).1, by have := (h234).2; have := hL0; have := (h235).2; have := (h239).1; omega⟩
      refine lv_aload_n hx hb dX10_qFact_11 rfl (lv_at hl 0 rfl) ?_
      refine lv_bipush (v := 13) hx hb dX10_qFact_12 rfl ?_
      refine k_jvm hP hD hS hA [17, 16] [true, true, true, true, true, true, true, true, true, true, true, true, true, true, true, true, false, false, true, true] rfl rfl (by decide +kernel) 0 0 (Nat.le_of_ble_eq_true rfl) (Nat.le_of_ble_eq_true rfl) (fun hPc hDc => k_runV (As := [.int 13]) (rest := []) C0 hZ hS hA (s_X10_qCode l dC dI cy sq a_this rm x_taped v3 x_end v4 x_bad x_badPlace x_fault x_faultPlace x_namePlace x_awayTold x_away x_coded x_statements x_isCrossing x_textKind x_askSecond x_redMany x_isOpen x_lastGreen x_greenTo x_isCycleGreen x_stillGreen x_rowMany x_fitMany x_fitRules x_fitGreen x_undoable x_newest x_seeded x_qCoded x_qWaits x_qOpened x_qBase x_qPiled x_qAnswer x_qIsNew x_octets g_qCodes 13 (ib_w 0 1699 h239 rfl)) mV_X10_608 hPc hDc rfl rfl rfl hl rfl rfl (Nat.le_of_ble_eq_true rfl) ⟨(Nat.le_of_ble_eq_true rfl), (Nat.le_of_ble_eq_true rfl)⟩ ⟨(Nat.le_of_ble_eq_true rfl), (Nat.le_of_ble_eq_true rfl)⟩ dX10_qFact_14) (fun u242 H locs hw hP hD hS => ?_)
      obtain ⟨v243, f244⟩ := u242
      try dsimp only at hP hD hw
      replace hP : va_P (dC, dI) vwCl [(wi_rm97_2_6_0 rm cy g_secondAsked), (wi_rm98_2_3_0 rm cy g_dayAsked), (wi_rm99_2_5_0 rm cy g_phaseAsked), (wi_rm100_2_6_0 rm cy g_waitedAsked), (wi_rm101_2_4_0 rm cy g_calmAsked), (wi_rm102_2_4_0 rm cy g_paceAsked), (wi_rm103_2_6_0 rm cy g_trustsAsked), (wi_rm104_2_3_0 rm cy g_gapAsked), (wi_rm105_2_4_0 rm cy g_redsAsked), (wi_rm106_2_6_0 rm cy g_numberAsked), (wi_rm107_2_4_0 rm cy g_wentAsked), (wi_rm108_2_4_0 rm cy g_harmAsked), (wi_rm109_2_4_0 rm cy g_kindofAsked), (wi_rm95_2_3_0 rm cy g_minAsked), (wi_rm112_0_1700_0 rm cy g_qWait), (wi_rm96_2_3_0 rm cy g_maxAsked), (wi_rm0_0_1600_0 rm cy g_tape), (wi_rm94_2_3_0 rm cy g_allAsked), (a_this, .inr (10, mfs rm x_taped v3 x_end v4 x_bad x_badPlace x_fault x_faultPlace x_namePlace x_awayTold x_away x_coded x_statements x_isCrossing x_textKind x_askSecond x_redMany x_isOpen x_lastGreen x_greenTo x_isCycleGreen x_stillGreen x_rowMany x_fitMany x_fitRules x_fitGreen x_undoable x_newest x_seeded v243 x_qWaits x_qOpened x_qBase x_qPiled x_qAnswer x_qIsNew x_octets)), (wi_rm110_0_1700_0 rm cy f244)] H := hP
      replace hD := k_D hP hD
      obtain ⟨h245, h246, h247, h248⟩ := hw
      have h249 : v243.toInt = (x_qCoded : Int32).toInt + (1 : Int32).toInt := by have q1 := h246; have q2 : (1 : Int32).toInt = 1 := rfl; omega
      have h250 : ib v243 1 1618 := ⟨by have q1 := h246; have := (h239).1; have := (h245).1; omega, by have q1 := h246; have := (h239).2; have := (h245).2; omega⟩
      have h248 := by have h9 := h248; try simp only [show (13 : Int32).toInt = (13 : Int) from rfl] at h9; exact h9
      replace hq := lf_p1 hq h248
      have h251 : x_bad = 0 → GS f244 v243 g_qWait x_qWaits x_qWaits x_textKind (cc + 1) := fun q => (by rw [h247]; exact GS_code (hGS q) (by have := (h239).1; have := (h239).2; have := hL0; have := (h235).1; have := (h235).2; have := h12; have := h232; have := (h236).1; have := (h236).2; have := (h240).1; have := (h240).2; have := (h250).1; have := (h250).2; have := h249; have : (1 : Int32).toInt = 1 := rfl; omega) (by decide) (fun _ => ne47 (by decide)))
      subst hQ; exact k_vret hx hb hr hlk ((v3, v4, x_bad, x_badPlace, v243, x_qWaits, x_qOpened, g_qWait, f244)) hS ⟨ib_w 0 1600 h236 rfl, ib_w 0 1624 h250 rfl, ib_w 0 1623 h240 rfl, fun q => q, (by have := h232; have := h249; have : (1 : Int32).toInt = 1 := rfl; omega), fun hq9 => (by have := h232; have := h249; have : (1 : Int32).toInt = 1 := rfl; omega), (by have := h232; omega), fun hq9 => (by have := h232; omega), fun hq9 => (by omega), fun hq9 => (by omega), fun q => (h251 q), (hO.symm.trans (by exact hq))⟩ (hP.sub [18, 16, 17, 0, 1, 2, 3, 4, 5, 6, 7, 8, 9, 10, 11, 12, 13, 14, 15, 19] rfl) (hD.sub [18, 16, 17, 0, 1, 2, 3, 4, 5, 6, 7, 8, 9, 10, 11, 12, 13, 14, 15, 19] (by decide +kernel) rfl) (Nat.le_of_ble_eq_true rfl) (Nat.le_of_ble_eq_true rfl) dX10_qFact_17
set_option maxHeartbeats 4000000 in
set_option maxRecDepth 100000 in
theorem s_X10_qIsOn_a0_12 (l : Launch) (dC : Nat → ClassId) (dI : Nat → Nat → Nat) (cy : Nat → ClassId) (sq : Nat → Nat) (a_this : Nat) (rm : Nat → Nat) (x_taped : Int32) (x_at : Int32) (x_end : Int32) (x_ended : Int32) (x_bad : Int32) (x_badPlace : Int32) (x_fault : Int32) (x_faultPlace : Int32) (x_namePlace : Int32) (x_awayTold : Int32) (x_away : Int32) (x_coded : Int32) (x_statements : Int32) (x_isCrossing : Int32) (x_textKind : Int32) (x_askSecond : Int32) (x_redMany : Int32) (x_isOpen : Int32) (x_lastGreen : Int32) (x_greenTo : Int32) (x_isCycleGreen : Int32) (x_stillGreen : Int32) (x_rowMany : Int32) (x_fitMany : Int32) (x_fitRules : Int32) (x_fitGreen : Int32) (x_undoable : Int32) (x_newest : Int32) (x_seeded : Int64) (x_qCoded : Int32) (x_qWaits : Int32) (x_qOpened : Int32) (x_qBase : Int32) (x_qPiled : Int32) (x_qAnswer : Int64) (x_qIsNew : Int32) (x_octets : Int32) (g_qWait : Nat → Int32) (hx_qWaits : ib x_qWaits 0 1700) : k_Met l yX10_qIsOn cX10_qIsOn 2 (some .boolean) { frames := 0, cells := 0, slots := 0, locals := 0 } dC dI cy sq [.ref a_this, .int 12] [(a_this, .inr (10, mfs rm x_taped x_at x_end x_ended x_bad x_badPlace x_fault x_faultPlace x_namePlace x_awayTold x_away x_coded x_statements x_isCrossing x_textKind x_askSecond x_redMany x_isOpen x_lastGreen x_greenTo x_isCycleGreen x_stillGreen x_rowMany x_fitMany x_fitRules x_fitGreen x_undoable x_newest x_seeded x_qCoded x_qWaits x_qOpened x_qBase x_qPiled x_qAnswer x_qIsNew x_octets)), (wi_rm112_0_1700_0 rm cy g_qWait)] (k_Qi dC dI (fun (r : Int32) (_ : Unit) => ib r 0 1 ∧ (¬ r = 0 → ib x_qWaits 1 1700) ∧ ((¬ r = 0 → 1 ≤ x_qWaits.toInt ∧ g_qWait (x_qWaits.toInt - 1).toNat = 12) ∧ (r = 0 → x_qWaits.toInt ≤ 0 ∨ ¬ g_qWait (x_qWaits.toInt - 1).toNat = 12)) ∧ (F_X10_qIsOn_a0_12 (Int32.toInt x_qWaits) (lf_A g_qWait) = ((Int32.toInt r)))) (fun _ : Unit => [(a_this, .inr (10, mfs rm x_taped x_at x_end x_ended x_bad x_badPlace x_fault x_faultPlace x_namePlace x_awayTold x_away x_coded x_statements x_isCrossing x_textKind x_askSecond x_redMany x_isOpen x_lastGreen x_greenTo x_isCycleGreen x_stillGreen x_rowMany x_fitMany x_fitRules x_fitGreen x_undoable x_newest x_seeded x_qCoded x_qWaits x_qOpened x_qBase x_qPiled x_qAnswer x_qIsNew x_octets)), (wi_rm112_0_1700_0 rm cy g_qWait)])) := by
  refine k_ofW2 (by decide +kernel) (Nat.le_of_ble_eq_true rfl) ?_
  intro p e s m below meth c A ls H locs args Q hQ C0 hZ hr hlk hin hP hD hA hS hl
  have C0 : k_cx p s m args c cX10_qIsOn 2 RX10 dC dI cy sq := C0
  have hx := C0.1
  have hb := C0.2.1
  have hl : lv_has ls 2 [(0, .ref a_this), (1, .int 12)] := hl
  obtain ⟨O, hO⟩ : ∃ o, o = F_X10_qIsOn_a0_12 (Int32.toInt x_qWaits) (lf_A g_qWait) := ⟨_, rfl⟩
  have hq := hO
  unfold F_X10_qIsOn_a0_12 at hq
  refine lv_aload_n hx hb dX10_qIsOn_0 rfl (lv_at hl 0 rfl) ?_
  refine k_get C0 fg_X10_372 hP 0 rfl rfl dX10_qIsOn_1 ?_
  refine lv_if_le (tgt := 26) hx hb dX10_qIsOn_4 rfl (fun c1 => ?_) (fun c1 => ?_)
  · replace hq := lf_pos hq (lf_le (lf_rf x_qWaits) (lf_lc 0 (0 : Int) rfl) c1)
    have h2 := ib_le hx_qWaits (ib_c 0 0 0 rfl) c1
    have h3 : ib x_qWaits 0 0 := ib_w 0 0 h2.1 rfl
    refine lv_iconst (v := 0) hx hb dX10_qIsOn_26 rfl ?_
    subst hQ; exact k_iret hx hb hr hlk (k_nb 0 rfl) () hS ⟨ib_w 0 1 (ib_c 0 0 0 rfl) rfl, fun hq9 => absurd rfl hq9, ⟨fun q => absurd rfl q, fun _ => Or.inl (by have := (h3).1; have := (h3).2; omega)⟩, (hO.symm.trans (by try simp only [show (0 : Int32).toInt = (0 : Int) from rfl]; exact hq))⟩ hP hD (Nat.le_of_ble_eq_true rfl) (Nat.le_of_ble_eq_true rfl) dX10_qIsOn_27
  · replace hq := lf_neg hq (lf_nle (lf_rf x_qWaits) (lf_lc 0 (0 : Int) rfl) c1)
    have h4 := ib_nle hx_qWaits (ib_c 0 0 0 rfl) c1
    have h5 : ib x_qWaits 1 1700 := ib_w 1 1700 h4.1 rfl
    refine lv_aload_n hx hb dX10_qIsOn_7 rfl (lv_at hl 0 rfl) ?_
    refine k_get C0 fg_X10_267 hP 0 rfl rfl dX10_qIsOn_8 ?_
    refine lv_aload_n hx hb dX10_qIsOn_11 rfl (lv_at hl 0 rfl) ?_
    refine k_get C0 fg_X10_372 hP 0 rfl rfl dX10_qIsOn_12 ?_
    refine lv_iconst (v := 1) hx hb dX10_qIsOn_15 rfl ?_
    refine lv_isub hx hb dX10_qIsOn_16 ?_
    refine lv_topi (fun z6 ez6 => ?_)
    have h7 := ib_sub h5 (ib_c 1 1 1 rfl) rfl
    rw [← ez6] at h7
    have h8 : ib z6 0 1699 := ib_w 0 1699 h7.1 rfl
    have Ez6 := lf_sub h7.2 (lf_rf x_qWaits) (lf_lc 1 (1 : Int) rfl)
    refine va_iald hx hb C0.2.2.2.2.2.1 hP 1 0 rfl rfl (ib_in 1700 h8 rfl) dX10_qIsOn_17 ?_
    refine lv_topi (fun z9 ez9 => ?_)
    have Ez9 := lf_ld ez9 (lf_ra g_qWait) Ez6
    refine lv_iload_n hx hb dX10_qIsOn_18 rfl (lv_at hl 1 rfl) ?_
    refine lv_icmp_ne (tgt := 26) hx hb dX10_qIsOn_19 rfl (fun c10 => ?_) (fun c10 => ?_)
    · replace hq := lf_neg hq (lf_ne Ez9 (lf_lc 12 (12 : Int) rfl) c10)
      refine lv_iconst (v := 0) hx hb dX10_qIsOn_26 rfl ?_
      subst hQ; exact k_iret hx hb hr hlk (k_nb 0 rfl) () hS ⟨ib_w 0 1 (ib_c 0 0 0 rfl) rfl, fun hq9 => absurd rfl hq9, ⟨fun q => absurd rfl q, fun _ => Or.inr (by rw [show (x_qWaits.toInt - 1).toNat = Int32.toNatClampNeg z6 from by show _ = (Int32.toInt z6).toNat; have := (h5).1; have := (h5).2; have := (h8).1; have := (h8).2; have := h7.2; have : (1 : Int32).toInt = 1 := rfl; omega, ← ez9]; exact c10)⟩, (hO.symm.trans (by try simp only [show (0 : Int32).toInt = (0 : Int) from rfl]; exact hq))⟩ hP hD (Nat.le_of_ble_eq_true rfl) (Nat.le_of_ble_eq_true rfl) dX10_qIsOn_27
    · replace hq := lf_pos hq (lf_eq Ez9 (lf_lc 12 (12 : Int) rfl) c10)
      have h11 := ib_eq (ib_any z9) (ib_c 12 12 12 rfl) c10
      have h12 : ib z9 12 12 := ib_w 12 12 h11.1 rfl
      refine lv_iconst (v := 1) hx hb dX10_qIsOn_22 rfl ?_
      refine lv_goto (tgt := 27) hx hb dX10_qIsOn_23 rfl ?_
      subst hQ; exact k_iret hx hb hr hlk (k_nb 1 rfl) () hS ⟨ib_w 0 1 (ib_c 1 1 1 rfl) rfl, fun _ => ib_w 1 1700 h5 rfl, ⟨fun _ => ⟨by have := (h5).1; have := (h5).2; have := (h8).1; have := (h8).2; have := h7.2; have : (1 : Int32).toInt = 1 := rfl; omega, by rw [show (x_qWaits.toInt - 1).toNat = Int32.toNatClampNeg z6 from by show _ = (Int32.toInt z6).toNat; have := (h5).1; have := (h5).2; have := (h8).1; have := (h8).2; have := h7.2; have : (1 : Int32).toInt = 1 := rfl; omega, ← ez9]; exact ib_one h12 rfl⟩, fun q => absurd q (by decide)⟩, (hO.symm.trans (by try simp only [show (1 : Int32).toInt = (1 : Int) from rfl]; exact hq))⟩ hP hD (Nat.le_of_ble_eq_true rfl) (Nat.le_of_ble_eq_true rfl) dX10_qIsOn_27
set_option maxHeartbeats 4000000 in
set_option maxRecDepth 100000 in
theorem s_X10_qDropsNots (l : Launch) (dC : Nat → ClassId) (dI : Nat → Nat → Nat) (cy : Nat → ClassId) (sq : Nat → Nat) (a_this : Nat) (rm : Nat → Nat) (x_taped : Int32) (x_at : Int32) (x_end : Int32) (x_ended : Int32) (x_bad : Int32) (x_badPlace : Int32) (x_fault : Int32) (x_faultPlace : Int32) (x_namePlace : Int32) (x_awayTold : Int32) (x_away : Int32) (x_coded : Int32) (x_statements : Int32) (x_isCrossing : Int32) (x_textKind : Int32) (x_askSecond : Int32) (x_redMany : Int32) (x_isOpen : Int32) (x_lastGreen : Int32) (x_greenTo : Int32) (x_isCycleGreen : Int32) (x_stillGreen : Int32) (x_rowMany : Int32) (x_fitMany : Int32) (x_fitRules : Int32) (x_fitGreen : Int32) (x_undoable : Int32) (x_newest : Int32) (x_seeded : Int64) (x_qCoded : Int32) (x_qWaits : Int32) (x_qOpened : Int32) (x_qBase : Int32) (x_qPiled : Int32) (x_qAnswer : Int64) (x_qIsNew : Int32) (x_octets : Int32) (g_qCodes : Nat → Int32) (g_qWait : Nat → Int32) (cc : Nat) (hx_qCoded : ib x_qCoded 0 1700) (hx_qWaits : ib x_qWaits 0 1700) (hL0 : 1 * x_qCoded.toInt + 1 * x_qWaits.toInt ≤ 1700) (hGS : x_bad = 0 → GS g_qCodes x_qCoded g_qWait x_qWaits x_qWaits x_textKind (cc + 1)) : k_Met l yX10_qDropsNots cX10_qDropsNots 1 none { frames := 2, cells := 0, slots := 0, locals := 41 } dC dI cy sq [.ref a_this] [(a_this, .inr (10, mfs rm x_taped x_at x_end x_ended x_bad x_badPlace x_fault x_faultPlace x_namePlace x_awayTold x_away x_coded x_statements x_isCrossing x_textKind x_askSecond x_redMany x_isOpen x_lastGreen x_greenTo x_isCycleGreen x_stillGreen x_rowMany x_fitMany x_fitRules x_fitGreen x_undoable x_newest x_seeded x_qCoded x_qWaits x_qOpened x_qBase x_qPiled x_qAnswer x_qIsNew x_octets)), (wi_rm112_0_1700_0 rm cy g_qWait), (wi_rm110_0_1700_0 rm cy g_qCodes)] (k_Qv dC dI (fun (u : Int32 × Int32 × Int32 × (Nat → Int32)) => match u with | (n0, n1, n2, n3) => ib n0 0 1700 ∧ ib n1 0 1700 ∧ (1 * n0.toInt + 1 * n1.toInt + (-1) * x_qCoded.toInt + (-1) * x_qWaits.toInt ≤ 0) ∧ ((-1) * n0.toInt + (-1) * n1.toInt + 1 * x_qCoded.toInt + 1 * x_qWaits.toInt ≤ 0) ∧ (1 * n1.toInt + (-1) * x_qWaits.toInt ≤ 0) ∧ (x_bad = 0 → GS n3 n0 g_qWait n1 n1 x_textKind (cc + 1)) ∧ (F_X10_qDropsNots (Int32.toInt x_bad) (Int32.toInt x_qCoded) (Int32.toInt x_qWaits) (Int32.toInt x_qOpened) (lf_A g_qCodes) (lf_A g_qWait) = ((Int32.toInt n0), (Int32.toInt n1), (Int32.toInt n2), (lf_A n3)))) (fun u : Int32 × Int32 × Int32 × (Nat → Int32) => match u with | (n0, n1, n2, n3) => [(a_this, .inr (10, mfs rm x_taped x_at x_end x_ended x_bad x_badPlace x_fault x_faultPlace x_namePlace x_awayTold x_away x_coded x_statements x_isCrossing x_textKind x_askSecond x_redMany x_isOpen x_lastGreen x_greenTo x_isCycleGreen x_stillGreen x_rowMany x_fitMany x_fitRules x_fitGreen x_undoable x_newest x_seeded n0 n1 n2 x_qBase x_qPiled x_qAnswer x_qIsNew x_octets)), (wi_rm112_0_1700_0 rm cy g_qWait), (wi_rm110_0_1700_0 rm cy n3)])) := by
  refine k_ofW2 (by decide +kernel) (Nat.le_of_ble_eq_true rfl) ?_
  intro p e s m below meth c A ls H locs args Q hQ C0 hZ hr hlk hin hP hD hA hS hl
  have C0 : k_cx p s m args c cX10_qDropsNots 1 RX10 dC dI cy sq := C0
  have hx := C0.1
  have hb := C0.2.1
  have hl : lv_has ls 1 [(0, .ref a_this)] := hl
  obtain ⟨O, hO⟩ : ∃ o, o = F_X10_qDropsNots (Int32.toInt x_bad) (Int32.toInt x_qCoded) (Int32.toInt x_qWaits) (Int32.toInt x_qOpened) (lf_A g_qCodes) (lf_A g_qWait) := ⟨_, rfl⟩
  have hq := hO
  unfold F_X10_qDropsNots at hq
  have jn0 : ∀ (n : Nat) (J0_c0_111 : Int32) (J0_c0_113 : Int32) (J0_c0_114 : Int32) (J0_a2 : Nat → Int32) (H : Heap) (locs : List Loc) (ls : Array Slot), ib J0_c0_111 0 1700 → ib J0_c0_113 0 1700 → (1 * J0_c0_111.toInt + 1 * J0_c0_113.toInt ≤ 1700) → (1 * J0_c0_111.toInt + 1 * J0_c0_113.toInt + (-1) * x_qCoded.toInt + (-1) * x_qWaits.toInt ≤ 0) → ((-1) * J0_c0_111.toInt + (-1) * J0_c0_113.toInt + 1 * x_qCoded.toInt + 1 * x_qWaits.toInt ≤ 0) → (1 * J0_c0_113.toInt + (-1) * x_qWaits.toInt ≤ 0) → (x_bad = 0 → GS J0_a2 J0_c0_111 g_qWait J0_c0_113 J0_c0_113 x_textKind (cc + 1)) → (O = F_X10_qDropsNots_0 (Int32.toInt x_bad) (lf_A g_qWait) n (Int32.toInt J0_c0_111) (Int32.toInt J0_c0_113) (Int32.toInt J0_c0_114) (lf_A J0_a2)) → 1701 ≤ J0_c0_111.toInt + (n : Int) → va_P (dC, dI) vwCl [(a_this, .inr (10, mfs rm x_taped x_at x_end x_ended x_bad x_badPlace x_fault x_faultPlace x_namePlace x_awayTold x_away x_coded x_statements x_isCrossing x_textKind x_askSecond x_redMany x_isOpen x_lastGreen x_greenTo x_isCycleGreen x_stillGreen x_rowMany x_fitMany x_fitRules x_fitGreen x_undoable x_newest x_seeded J0_c0_111 J0_c0_113 J0_c0_114 x_qBase x_qPiled x_qAnswer x_qIsNew x_octets)), (wi_rm112_0_1700_0 rm cy g_qWait), (wi_rm110_0_1700_0 rm cy J0_a2)] H → va_D A [(a_this, .inr (10, mfs rm x_taped x_at x_end x_ended x_bad x_badPlace x_fault x_faultPlace x_namePlace x_awayTold x_away x_coded x_statements x_isCrossing x_textKind x_askSecond x_redMany x_isOpen x_lastGreen x_greenTo x_isCycleGreen x_stillGreen x_rowMany x_fitMany x_fitRules x_fitGreen x_undoable x_newest x_seeded J0_c0_111 J0_c0_113 J0_c0_114 x_qBase x_qPiled x_qAnswer x_qIsNew x_octets)), (wi_rm112_0_1700_0 rm cy g_qWait), (wi_rm110_0_1700_0 rm cy J0_a2)] → va_S A s.heap H locs → lv_has ls 1 [(0, .ref a_this)] → W p l e { frames := 2, cells := 0, slots := 0, locals := 41 } s m args below meth c H locs 0 0 Q (F0 m 0 ls []) := by
    as_aux_lemma =>
      intro n
      induction n with
      | zero =>
        intro J0_c0_111 J0_c0_113 J0_c0_114 J0_a2 H locs ls hJ0_c0_111 hJ0_c0_113 hJ0_lin0 hJ0_lin1 hJ0_lin2 hJ0_lin3 hJ0_go hq hm
        exact absurd hm (by have := hJ0_c0_111; unfold ib at this; omega)
      | succ n ih =>
        intro J0_c0_111 J0_c0_113 J0_c0_114 J0_a2 H locs ls hJ0_c0_111 hJ0_c0_113 hJ0_lin0 hJ0_lin1 hJ0_lin2 hJ0_lin3 hJ0_go hq hm0 hP hD hS hl
        have ih0 := ih
        obtain ⟨K0, hK0⟩ : ∃ K, K = F_X10_qDropsNots_0 (Int32.toInt x_bad) (lf_A g_qWait) n := ⟨_, rfl⟩
        have hq : O = F_X10_qDropsNots_0b (Int32.toInt x_bad) (lf_A g_qWait) K0 (Int32.toInt J0_c0_111) (Int32.toInt J0_c0_113) (Int32.toInt J0_c0_114) (lf_A J0_a2) := by rw [hK0]; exact hq
        unfold F_X10_qDropsNots_0b at hq
        refine lv_aload_n hx hb dX10_qDropsNots_0 rfl (lv_at hl 0 rfl) ?_
        refine k_get C0 fg_X10_279 hP 0 rfl rfl dX10_qDropsNots_1 ?_
        refine lv_if_ne (tgt := 33) hx hb dX10_qDropsNots_4 rfl (fun c1 => ?_) (fun c1 => ?_)
        · replace hq := lf_neg hq (lf_ne (lf_rf x_bad) (lf_lc 0 (0 : Int) rfl) c1)
          subst hQ; exact k_vret hx hb hr hlk ((J0_c0_111, J0_c0_113, J0_c0_114, J0_a2)) hS ⟨ib_w 0 1700 hJ0_c0_111 rfl, ib_w 0 1700 hJ0_c0_113 rfl, (by have := hJ0_lin1; omega), (by have := hJ0_lin2; omega), (by have := hJ0_lin3; omega), fun q => absurd q c1, (hO.symm.trans (by exact hq))⟩ hP hD (Nat.le_of_ble_eq_true rfl) (Nat.le_of_ble_eq_true rfl) dX10_qDropsNots_33
        · as_aux_lemma =>
            replace hq := lf_pos hq (lf_eq (lf_rf x_bad) (lf_lc 0 (0 : Int) rfl) c1)
            have h2 := ib_eq (ib_any x_bad) (ib_c 0 0 0 rfl) c1
            have h3 : ib x_bad 0 0 := ib_w 0 0 h2.1 rfl
            refine lv_aload_n hx hb dX10_qDropsNots_7 rfl (lv_at hl 0 rfl) ?_
            refine lv_bipush (v := 12) hx hb dX10_qDropsNots_8 rfl ?_
            refine k_jim hP hD hS hA [0, 1] [false, false, true] rfl rfl rfl 0 0 (Nat.le_of_ble_eq_true rfl) (Nat.le_of_ble_eq_true rfl) (fun hPc hDc => k_runV (As := [.int 12]) (rest := []) C0 hZ hS hA (s_X10_qIsOn_a0_12 l dC dI cy sq a_this rm x_taped x_at x_end x_ended x_bad x_badPlace x_fault x_faultPlace x_namePlace x_awayTold x_away x_coded x_statements x_isCrossing x_textKind x_askSecond x_redMany x_isOpen x_lastGreen x_greenTo x_isCycleGreen x_stillGreen x_rowMany x_fitMany x_fitRules x_fitGreen x_undoable x_newest x_seeded J0_c0_111 J0_c0_113 J0_c0_114 x_qBase x_qPiled x_qAnswer x_qIsNew x_octets g_qWait (ib_w 0 1700 hJ0_c0_113 rfl)) mV_X10_641 hPc hDc rfl rfl rfl hl rfl rfl (Nat.le_of_ble_eq_true rfl) ⟨(Nat.le_of_ble_eq_true rfl), (Nat.le_of_ble_eq_true rfl)⟩ ⟨(Nat.le_of_ble_eq_true rfl), (Nat.le_of_ble_eq_true rfl)⟩ dX10_qDropsNots_10) (fun r4 u5 H locs hw hP hD hS => ?_)
            try dsimp only at hP hD hw
            replace hP : va_P (dC, dI) vwCl [(wi_rm110_0_1700_0 rm cy J0_a2), (a_this, .inr (10, mfs rm x_taped x_at x_end x_ended x_bad x_badPlace x_fault x_faultPlace x_namePlace x_awayTold x_away x_coded x_statements x_isCrossing x_textKind x_askSecond x_redMany x_isOpen x_lastGreen x_greenTo x_isCycleGreen x_stillGreen x_rowMany x_fitMany x_fitRules x_fitGreen x_undoable x_newest x_seeded J0_c0_111 J0_c0_113 J0_c0_114 x_qBase x_qPiled x_qAnswer x_qIsNew x_octets)), (wi_rm112_0_1700_0 rm cy g_qWait)] H := hP
            replace hD := k_D hP hD
            obtain ⟨h6, h7, h8, h9⟩ := hw
            replace hq := lf_b1 hq h9
            refine lv_if_eq (tgt := 33) hx hb dX10_qDropsNots_13 rfl (fun c10 => ?_) (fun c10 => ?_)
            · replace hq := lf_pos hq (lf_eq (lf_rf r4) (lf_lc 0 (0 : Int) rfl) c10)
              have h11 := ib_eq h6 (ib_c 0 0 0 rfl) c10
              have h12 : ib r4 0 0 := ib_w 0 0 h11.1 rfl
              subst hQ; exact k_vret hx hb hr hlk ((J0_c0_111, J0_c0_113, J0_c0_114, J0_a2)) hS ⟨ib_w 0 1700 hJ0_c0_111 rfl, ib_w 0 1700 hJ0_c0_113 rfl, (by have := hJ0_lin1; omega), (by have := hJ0_lin2; omega), (by have := hJ0_lin3; omega), fun q => (hJ0_go q), (hO.symm.trans (by exact hq))⟩ (hP.sub [1, 2, 0] rfl) (hD.sub [1, 2, 0] rfl rfl) (Nat.le_of_ble_eq_true rfl) (Nat.le_of_ble_eq_true rfl) dX10_qDropsNots_33
            · as_aux_lemma =>
                replace hq := lf_neg hq (lf_ne (lf_rf r4) (lf_lc 0 (0 : Int) rfl) c10)
                have h13 : ib r4 1 1 := ib_w 1 1 (ib_ne_lo 0 h6 rfl c10) rfl
                have h14 : ib J0_c0_113 1 1700 := ib_w 1 1700 (ib_two hJ0_c0_113 (h7 (ib_nz h13 rfl))) rfl
                have h15 : ib J0_c0_111 0 1699 := ⟨(hJ0_c0_111).1, by have := (hJ0_c0_111).2; have := hJ0_lin0; have := (h14).1; omega⟩
                have h16 : ib x_qWaits 1 1700 := ⟨by have := (hx_qWaits).1; have := hJ0_lin3; have := (h14).1; omega, (hx_qWaits).2⟩
                refine lv_aload_n hx hb dX10_qDropsNots_16 rfl (lv_at hl 0 rfl) ?_
                refine lv_dup hx hb dX10_qDropsNots_17 rfl ?_
                refine k_get C0 fg_X10_375 hP 1 rfl rfl dX10_qDropsNots_18 ?_
                refine lv_iconst (v := 1) hx hb dX10_qDropsNots_21 rfl ?_
                refine lv_isub hx hb dX10_qDropsNots_22 ?_
                refine lv_topi (fun z17 ez17 => ?_)
                have Ez17 := lf_op lf_isub ez17 (lf_rf J0_c0_114) (lf_lc 1 (1 : Int) rfl)
                refine k_put C0 fp_X10_375 hP hD hS 1 rfl rfl rfl (Nat.le_of_ble_eq_true rfl) dX10_qDropsNots_23 (fun H locs hP hD hS => ?_)
                replace hP : va_P (dC, dI) vwCl [(wi_rm110_0_1700_0 rm cy J0_a2), (a_this, .inr (10, mfs rm x_taped x_at x_end x_ended x_bad x_badPlace x_fault x_faultPlace x_namePlace x_awayTold x_away x_coded x_statements x_isCrossing x_textKind x_askSecond x_redMany x_isOpen x_lastGreen x_greenTo x_isCycleGreen x_stillGreen x_rowMany x_fitMany x_fitRules x_fitGreen x_undoable x_newest x_seeded J0_c0_111 J0_c0_113 z17 x_qBase x_qPiled x_qAnswer x_qIsNew x_octets)), (wi_rm112_0_1700_0 rm cy g_qWait)] H := hP
                replace hD := k_D hP hD
                refine lv_aload_n hx hb dX10_qDropsNots_26 rfl (lv_at hl 0 rfl) ?_
                refine k_jvm hP hD hS hA [1, 2, 0] [] rfl rfl rfl 0 0 (Nat.le_of_ble_eq_true rfl) (Nat.le_of_ble_eq_true rfl) (fun hPc hDc => k_runV (As := []) (rest := []) C0 hZ hS hA (s_X10_qDrops l dC dI cy sq a_this rm x_taped x_at x_end x_ended x_bad x_badPlace x_fault x_faultPlace x_namePlace x_awayTold x_away x_coded x_statements x_isCrossing x_textKind x_askSecond x_redMany x_isOpen x_lastGreen x_greenTo x_isCycleGreen x_stillGreen x_rowMany x_fitMany x_fitRules x_fitGreen x_undoable x_newest x_seeded J0_c0_111 J0_c0_113 z17 x_qBase x_qPiled x_qAnswer x_qIsNew x_octets J0_a2 g_qWait (ib_w 0 1699 h15 rfl) (ib_w 1 1700 h14 rfl)) mV_X10_614 hPc hDc rfl rfl rfl hl rfl rfl (Nat.le_of_ble_eq_true rfl) ⟨(Nat.le_of_ble_eq_true rfl), (Nat.le_of_ble_eq_true rfl)⟩ ⟨(Nat.le_of_ble_eq_true rfl), (Nat.le_of_ble_eq_true rfl)⟩ dX10_qDropsNots_27) (fun u19 H locs hw hP hD hS => ?_)
                obtain ⟨v20, v21, f22⟩ := u19
                try dsimp only at hP hD hw
                replace hP : va_P (dC, dI) vwCl [(a_this, .inr (10, mfs rm x_taped x_at x_end x_ended x_bad x_badPlace x_fault x_faultPlace x_namePlace x_awayTold x_away x_coded x_statements x_isCrossing x_textKind x_askSecond x_redMany x_isOpen x_lastGreen x_greenTo x_isCycleGreen x_stillGreen x_rowMany x_fitMany x_fitRules x_fitGreen x_undoable x_newest x_seeded v20 v21 z17 x_qBase x_qPiled x_qAnswer x_qIsNew x_octets)), (wi_rm112_0_1700_0 rm cy g_qWait), (wi_rm110_0_1700_0 rm cy f22)] H := hP
                replace hD := k_D hP hD
                obtain ⟨h23, h24, h25, h26, h27, h28⟩ := hw
                have h29 : v20.toInt = (J0_c0_111 : Int32).toInt + (1 : Int32).toInt := by have q1 := h24; have q2 : (1 : Int32).toInt = 1 := rfl; omega
                have h30 : v21.toInt = (J0_c0_113 : Int32).toInt + ((-1) : Int32).toInt := by have q1 := h26; have q2 : ((-1) : Int32).toInt = (-1) := rfl; omega
                replace hq := lf_p1 hq h28
                replace hq := lf_p1 hq rfl
                have h31 : x_bad = 0 → GS f22 v20 g_qWait v21 v21 x_textKind (cc + 1) := fun _ => (by rw [h27]; exact GS_dropT (hJ0_go (ib_one h3 rfl)) (by have := h29; have : (1 : Int32).toInt = 1 := rfl; omega) (by have := h30; have : ((-1) : Int32).toInt = (-1) := rfl; omega) (by have := (h25).1; omega) rfl (by have q1 := (h8.1 c10).2; rw [show (J0_c0_113.toInt - 1).toNat = Int32.toNatClampNeg v21 from by show _ = (Int32.toInt v21).toNat; have := h30; have : ((-1) : Int32).toInt = (-1) := rfl; omega] at q1; rw [q1]; decide))
                refine lv_goto (tgt := 0) hx hb dX10_qDropsNots_30 rfl ?_
                exact ih0 v20 v21 z17 f22 H locs ls (ib_w 0 1700 h23 rfl) (ib_w 0 1700 h25 rfl) (by have := (h25).2; have := h30; have : ((-1) : Int32).toInt = (-1) := rfl; have := hJ0_lin0; have := (h23).2; have := h29; have : (1 : Int32).toInt = 1 := rfl; omega) (by have := hJ0_lin1; have := h30; have : ((-1) : Int32).toInt = (-1) := rfl; have := h29; have : (1 : Int32).toInt = 1 := rfl; omega) (by have := hJ0_lin2; have := h30; have : ((-1) : Int32).toInt = (-1) := rfl; have := h29; have : (1 : Int32).toInt = 1 := rfl; omega) (by have := hJ0_lin3; have := h30; have : ((-1) : Int32).toInt = (-1) := rfl; omega) (fun q => (h31 q)) (by rw [← hK0]; rw [lf_u Ez17]; exact hq) (by have := h29; have : (1 : Int32).toInt = 1 := rfl; omega) hP hD hS (lv_sub hl [0] rfl)
  exact jn0 1702 x_qCoded x_qWaits x_qOpened g_qCodes H locs ls (ib_w 0 1700 hx_qCoded rfl) (ib_w 0 1700 hx_qWaits rfl) (by have := hL0; omega) (by omega) (by omega) (by omega) (fun q => (hGS q)) (by exact hq) (by have := hx_qCoded; unfold ib at this; omega) hP hD hS (lv_sub hl [0] rfl)
set_option maxHeartbeats 4000000 in
set_option maxRecDepth 100000 in
theorem s_X10_isHere_r2 (l : Launch) (dC : Nat → ClassId) (dI : Nat → Nat → Nat) (cy : Nat → ClassId) (sq : Nat → Nat) (a_this : Nat) (rm : Nat → Nat) (x_taped : Int32) (x_at : Int32) (x_end : Int32) (x_ended : Int32) (x_bad : Int32) (x_badPlace : Int32) (x_fault : Int32) (x_faultPlace : Int32) (x_namePlace : Int32) (x_awayTold : Int32) (x_away : Int32) (x_coded : Int32) (x_statements : Int32) (x_isCrossing : Int32) (x_textKind : Int32) (x_askSecond : Int32) (x_redMany : Int32) (x_isOpen : Int32) (x_lastGreen : Int32) (x_greenTo : Int32) (x_isCycleGreen : Int32) (x_stillGreen : Int32) (x_rowMany : Int32) (x_fitMany : Int32) (x_fitRules : Int32) (x_fitGreen : Int32) (x_undoable : Int32) (x_newest : Int32) (x_seeded : Int64) (x_qCoded : Int32) (x_qWaits : Int32) (x_qOpened : Int32) (x_qBase : Int32) (x_qPiled : Int32) (x_qAnswer : Int64) (x_qIsNew : Int32) (x_octets : Int32) (g_tape : Nat → Int32) (a_arg0 : Nat) (g_arg0 : Nat → Int32) (hx_at : ib x_at 0 1600) (hx_end : ib x_end 0 1600) (hg_tape : ia g_tape 1600 0 255) : k_Met l yX10_isHere cX10_isHere 4 (some .boolean) { frames := 1, cells := 0, slots := 0, locals := 20 } dC dI cy sq [.ref a_this, .ref a_arg0] [(a_this, .inr (10, mfs rm x_taped x_at x_end x_ended x_bad x_badPlace x_fault x_faultPlace x_namePlace x_awayTold x_away x_coded x_statements x_isCrossing x_textKind x_askSecond x_redMany x_isOpen x_lastGreen x_greenTo x_isCycleGreen x_stillGreen x_rowMany x_fitMany x_fitRules x_fitGreen x_undoable x_newest x_seeded x_qCoded x_qWaits x_qOpened x_qBase x_qPiled x_qAnswer x_qIsNew x_octets)), (wi_rm0_0_1600_0 rm cy g_tape), (wi_2_2_0 a_arg0 cy g_arg0)] (k_Qi dC dI (fun (r : Int32) (n0 : Int32) => ib n0 0 1600 ∧ ib r 0 1 ∧ (¬ r = 0 → ib n0 0 1598) ∧ (¬ r = 0 → ib x_at 0 1598) ∧ (¬ r = 0 → ib x_end 1 1600) ∧ (¬ r = 0 → ib x_bad 0 0) ∧ (1 * x_at.toInt + (-1) * n0.toInt ≤ 0) ∧ (NB g_tape x_at x_end → n0 = x_at) ∧ (F_X10_isHere_r2 (Int32.toInt x_at) (Int32.toInt x_end) (Int32.toInt x_ended) (Int32.toInt x_bad) (lf_A g_tape) (lf_A g_arg0) = ((Int32.toInt r), (Int32.toInt n0)))) (fun n0 : Int32 => [(a_this, .inr (10, mfs rm x_taped n0 x_end x_ended x_bad x_badPlace x_fault x_faultPlace x_namePlace x_awayTold x_away x_coded x_statements x_isCrossing x_textKind x_askSecond x_redMany x_isOpen x_lastGreen x_greenTo x_isCycleGreen x_stillGreen x_rowMany x_fitMany x_fitRules x_fitGreen x_undoable x_newest x_seeded x_qCoded x_qWaits x_qOpened x_qBase x_qPiled x_qAnswer x_qIsNew x_octets)), (wi_rm0_0_1600_0 rm cy g_tape), (wi_2_2_0 a_arg0 cy g_arg0)])) := by
  refine k_ofW2 (by decide +kernel) (Nat.le_of_ble_eq_true rfl) ?_
  intro p e s m below meth c A ls H locs args Q hQ C0 hZ hr hlk hin hP hD hA hS hl
  have C0 : k_cx p s m args c cX10_isHere 4 RX10 dC dI cy sq := C0
  have hx := C0.1
  have hb := C0.2.1
  have hl : lv_has ls 4 [(0, .ref a_this), (1, .ref a_arg0)] := hl
  obtain ⟨O, hO⟩ : ∃ o, o = F_X10_isHere_r2 (Int32.toInt x_at) (Int32.toInt x_end) (Int32.toInt x_ended) (Int32.toInt x_bad) (lf_A g_tape) (lf_A g_arg0) := ⟨_, rfl⟩
  have hq := hO
  unfold F_X10_isHere_r2 at hq
  have jn76 : ∀ (n : Nat) (J76_l2 : Int32) (J76_c0_2 : Int32) (J76_l3 : Int32) (H : Heap) (locs : List Loc) (ls : Array Slot), ib J76_l2 2 1600 → ib J76_c0_2 0 1598 → ib x_end 1 1600 → ib x_bad 0 0 → ib J76_l3 0 2 → (1 * x_at.toInt + (-1) * J76_c0_2.toInt ≤ 0) → (NB g_tape x_at x_end → J76_c0_2 = x_at) → (O = F_X10_isHere_r2_76 (lf_A g_tape) (lf_A g_arg0) n (Int32.toInt J76_l2) (Int32.toInt J76_c0_2) (Int32.toInt J76_l3)) → 3 ≤ J76_l3.toInt + (n : Int) → va_P (dC, dI) vwCl [(a_this, .inr (10, mfs rm x_taped J76_c0_2 x_end x_ended x_bad x_badPlace x_fault x_faultPlace x_namePlace x_awayTold x_away x_coded x_statements x_isCrossing x_textKind x_askSecond x_redMany x_isOpen x_lastGreen x_greenTo x_isCycleGreen x_stillGreen x_rowMany x_fitMany x_fitRules x_fitGreen x_undoable x_newest x_seeded x_qCoded x_qWaits x_qOpened x_qBase x_qPiled x_qAnswer x_qIsNew x_octets)), (wi_rm0_0_1600_0 rm cy g_tape), (wi_2_2_0 a_arg0 cy g_arg0)] H → va_D A [(a_this, .inr (10, mfs rm x_taped J76_c0_2 x_end x_ended x_bad x_badPlace x_fault x_faultPlace x_namePlace x_awayTold x_away x_coded x_statements x_isCrossing x_textKind x_askSecond x_redMany x_isOpen x_lastGreen x_greenTo x_isCycleGreen x_stillGreen x_rowMany x_fitMany x_fitRules x_fitGreen x_undoable x_newest x_seeded x_qCoded x_qWaits x_qOpened x_qBase x_qPiled x_qAnswer x_qIsNew x_octets)), (wi_rm0_0_1600_0 rm cy g_tape), (wi_2_2_0 a_arg0 cy g_arg0)] → va_S A s.heap H locs → lv_has ls 4 [(0, .ref a_this), (1, .ref a_arg0), (2, .int J76_l2), (3, .int J76_l3)] → W p l e { frames := 1, cells := 0, slots := 0, locals := 20 } s m args below meth c H locs 0 0 Q (F0 m 76 ls []) := by
    as_aux_lemma =>
      intro n
      induction n with
      | zero =>
        intro J76_l2 J76_c0_2 J76_l3 H locs ls hJ76_l2 hJ76_c0_2 hK76_x_end hK76_x_bad hJ76_l3 hJ76_lin0 hJ76_nb hq hm
        exact absurd hm (by have := hJ76_l3; unfold ib at this; omega)
      | succ n ih =>
        intro J76_l2 J76_c0_2 J76_l3 H locs ls hJ76_l2 hJ76_c0_2 hK76_x_end hK76_x_bad hJ76_l3 hJ76_lin0 hJ76_nb hq hm76 hP hD hS hl
        have ih76 := ih
        obtain ⟨K76, hK76⟩ : ∃ K, K = F_X10_isHere_r2_76 (lf_A g_tape) (lf_A g_arg0) n := ⟨_, rfl⟩
        have hq : O = F_X10_isHere_r2_76b (lf_A g_tape) (lf_A g_arg0) K76 (Int32.toInt J76_l2) (Int32.toInt J76_c0_2) (Int32.toInt J76_l3) := by rw [hK76]; exact hq
        unfold F_X10_isHere_r2_76b at hq
        refine lv_iload_n hx hb dX10_isHere_76 rfl (lv_at hl 3 rfl) ?_
        refine lv_aload_n hx hb dX10_isHere_77 rfl (lv_at hl 1 rfl) ?_
        refine va_alen hx hb C0.2.2.2.2.2.1 hP 2 2 rfl rfl (v := 2) (show Int32.ofNat 2 = 2 by decide) dX10_isHere_78 ?_
        refine lv_icmp_ge (tgt := 107) hx hb dX10_isHere_79 rfl (fun c1 => ?_) (fun c1 => ?_)
        · replace hq := lf_pos hq (lf_le (lf_lc 2 (2 : Int) rfl) (lf_rf J76_l3) c1)
          have h2 := ib_le (ib_c 2 2 2 rfl) hJ76_l3 c1
          have h3 : ib J76_l3 2 2 := ib_w 2 2 h2.2 rfl
          have h4 : ib x_at 0 1598 := ⟨(hx_at).1, by have := (hx_at).2; have := hJ76_lin0; have := (hJ76_c0_2).2; omega⟩
          refine lv_iconst (v := 1) hx hb dX10_isHere_107 rfl ?_
          subst hQ; exact k_iret hx hb hr hlk (k_nb 1 rfl) J76_c0_2 hS ⟨ib_w 0 1600 hJ76_c0_2 rfl, ib_w 0 1 (ib_c 1 1 1 rfl) rfl, fun _ => ib_w 0 1598 hJ76_c0_2 rfl, fun _ => ib_w 0 1598 h4 rfl, fun _ => ib_w 1 1600 hK76_x_end rfl, fun _ => ib_w 0 0 hK76_x_bad rfl, (by have := hJ76_lin0; omega), fun q9 => (by have e0n : J76_c0_2 = x_at := hJ76_nb q9; exact e0n), (hO.symm.trans (by try simp only [show (1 : Int32).toInt = (1 : Int) from rfl]; exact hq))⟩ hP hD (Nat.le_of_ble_eq_true rfl) (Nat.le_of_ble_eq_true rfl) dX10_isHere_108
        · as_aux_lemma =>
            replace hq := lf_neg hq (lf_nle (lf_lc 2 (2 : Int) rfl) (lf_rf J76_l3) c1)
            have h5 := ib_nle (ib_c 2 2 2 rfl) hJ76_l3 c1
            have h6 : ib J76_l3 0 1 := ib_w 0 1 h5.2 rfl
            have h7 : ib x_at 0 1598 := ⟨(hx_at).1, by have := (hx_at).2; have := hJ76_lin0; have := (hJ76_c0_2).2; omega⟩
            refine lv_aload_n hx hb dX10_isHere_82 rfl (lv_at hl 0 rfl) ?_
            refine k_get C0 fg_X10_7 hP 0 rfl rfl dX10_isHere_83 ?_
            refine lv_aload_n hx hb dX10_isHere_86 rfl (lv_at hl 0 rfl) ?_
            refine k_get C0 fg_X10_285 hP 0 rfl rfl dX10_isHere_87 ?_
            refine lv_iload_n hx hb dX10_isHere_90 rfl (lv_at hl 3 rfl) ?_
            refine lv_iadd hx hb dX10_isHere_91 ?_
            refine lv_topi (fun z8 ez8 => ?_)
            have h9 := ib_add hJ76_c0_2 h6 rfl
            rw [← ez8] at h9
            have h10 : ib z8 0 1599 := ib_w 0 1599 h9.1 rfl
            have Ez8 := lf_add h9.2 (lf_rf J76_c0_2) (lf_rf J76_l3)
            refine va_iald hx hb C0.2.2.2.2.2.1 hP 1 0 rfl rfl (ib_in 1600 h10 rfl) dX10_isHere_92 ?_
            refine lv_topi (fun z11 ez11 => ?_)
            have h12 : ib z11 0 255 := by rw [ez11]; exact ia_at hg_tape (ib_in 1600 h10 rfl)
            have Ez11 := lf_ld ez11 (lf_ra g_tape) Ez8
            refine lv_aload_n hx hb dX10_isHere_93 rfl (lv_at hl 1 rfl) ?_
            refine lv_iload_n hx hb dX10_isHere_94 rfl (lv_at hl 3 rfl) ?_
            refine va_cald hx hb C0.2.2.2.2.2.1 hP 2 2 rfl rfl (ib_in 2 h6 rfl) dX10_isHere_95 ?_
            refine lv_topi (fun z13 ez13 => ?_)
            have Ez13 := lf_ld ez13 (lf_ra g_arg0) (lf_rf J76_l3)
            refine lv_icmp_eq (tgt := 101) hx hb dX10_isHere_96 rfl (fun c14 => ?_) (fun c14 => ?_)
            · replace hq := lf_pos hq (lf_eq Ez11 Ez13 c14)
              have h15 := ib_eq h12 (ib_any z13) c14
              have h16 : ib z13 0 255 := ib_w 0 255 h15.2 rfl
              obtain ⟨z17, ez17⟩ : ∃ y : Int32, y = J76_l3 + 1 := ⟨_, rfl⟩
              refine lv_iinc (v := z17) (lv' := [(3, .int z17), (0, .ref a_this), (1, .ref a_arg0), (2, .int J76_l2)]) hx hb dX10_isHere_101 hl (k := 3) rfl (by rw [ez17]; rfl) (Nat.le_of_ble_eq_true rfl) rfl (fun ls hl => ?_)
              have h18 := ib_add h6 (ib_c 1 1 1 rfl) rfl
              rw [← ez17] at h18
              have h19 : ib z17 1 2 := ib_w 1 2 h18.1 rfl
              have Ez17 := lf_add h18.2 (lf_rf J76_l3) (lf_lc 1 (1 : Int) rfl)
              refine lv_goto (tgt := 76) hx hb dX10_isHere_104 rfl ?_
              exact ih76 J76_l2 J76_c0_2 z17 H locs ls (ib_w 2 1600 hJ76_l2 rfl) (ib_w 0 1598 hJ76_c0_2 rfl) (ib_w 1 1600 hK76_x_end rfl) (ib_w 0 0 hK76_x_bad rfl) (ib_w 0 2 h19 rfl) (by have := hJ76_lin0; omega) (fun q9 => (by have e0n : J76_c0_2 = x_at := hJ76_nb q9; exact e0n)) (by rw [← hK76]; rw [lf_u Ez17]; exact hq) (by have := h18.2; have : (1 : Int32).toInt = 1 := rfl; omega) hP hD hS (lv_sub hl [1, 2, 3, 0] rfl)
            · replace hq := lf_neg hq (lf_ne Ez11 Ez13 c14)
              refine lv_iconst (v := 0) hx hb dX10_isHere_99 rfl ?_
              subst hQ; exact k_iret hx hb hr hlk (k_nb 0 rfl) J76_c0_2 hS ⟨ib_w 0 1600 hJ76_c0_2 rfl, ib_w 0 1 (ib_c 0 0 0 rfl) rfl, fun hq9 => absurd rfl hq9, fun hq9 => absurd rfl hq9, fun hq9 => absurd rfl hq9, fun hq9 => absurd rfl hq9, (by have := hJ76_lin0; omega), fun q9 => (by have e0n : J76_c0_2 = x_at := hJ76_nb q9; exact e0n), (hO.symm.trans (by try simp only [show (0 : Int32).toInt = (0 : Int) from rfl]; exact hq))⟩ hP hD (Nat.le_of_ble_eq_true rfl) (Nat.le_of_ble_eq_true rfl) dX10_isHere_100
  have jn61 : ∀ (J61_l2 : Int32) (J61_c0_2 : Int32) (H : Heap) (locs : List Loc) (ls : Array Slot), ib J61_l2 0 1600 → ib J61_c0_2 0 1599 → ib x_end 1 1600 → ib x_bad 0 0 → (1 * x_at.toInt + (-1) * J61_c0_2.toInt ≤ 0) → (NB g_tape x_at x_end → J61_c0_2 = x_at) → (O = F_X10_isHere_r2_61 (lf_A g_tape) (lf_A g_arg0) (Int32.toInt J61_l2) (Int32.toInt J61_c0_2)) → va_P (dC, dI) vwCl [(a_this, .inr (10, mfs rm x_taped J61_c0_2 x_end x_ended x_bad x_badPlace x_fault x_faultPlace x_namePlace x_awayTold x_away x_coded x_statements x_isCrossing x_textKind x_askSecond x_redMany x_isOpen x_lastGreen x_greenTo x_isCycleGreen x_stillGreen x_rowMany x_fitMany x_fitRules x_fitGreen x_undoable x_newest x_seeded x_qCoded x_qWaits x_qOpened x_qBase x_qPiled x_qAnswer x_qIsNew x_octets)), (wi_rm0_0_1600_0 rm cy g_tape), (wi_2_2_0 a_arg0 cy g_arg0)] H → va_D A [(a_this, .inr (10, mfs rm x_taped J61_c0_2 x_end x_ended x_bad x_badPlace x_fault x_faultPlace x_namePlace x_awayTold x_away x_coded x_statements x_isCrossing x_textKind x_askSecond x_redMany x_isOpen x_lastGreen x_greenTo x_isCycleGreen x_stillGreen x_rowMany x_fitMany x_fitRules x_fitGreen x_undoable x_newest x_seeded x_qCoded x_qWaits x_qOpened x_qBase x_qPiled x_qAnswer x_qIsNew x_octets)), (wi_rm0_0_1600_0 rm cy g_tape), (wi_2_2_0 a_arg0 cy g_arg0)] → va_S A s.heap H locs → lv_has ls 4 [(0, .ref a_this), (1, .ref a_arg0), (2, .int J61_l2)] → W p l e { frames := 1, cells := 0, slots := 0, locals := 20 } s m args below meth c H locs 0 0 Q (F0 m 61 ls []) := by
    as_aux_lemma =>
      intro J61_l2 J61_c0_2 H locs ls hJ61_l2 hJ61_c0_2 hK61_x_end hK61_x_bad hJ61_lin0 hJ61_nb hq hP hD hS hl
      unfold F_X10_isHere_r2_61 at hq
      refine lv_iload_n hx hb dX10_isHere_61 rfl (lv_at hl 2 rfl) ?_
      refine lv_aload_n hx hb dX10_isHere_62 rfl (lv_at hl 0 rfl) ?_
      refine k_get C0 fg_X10_285 hP 0 rfl rfl dX10_isHere_63 ?_
      refine lv_isub hx hb dX10_isHere_66 ?_
      refine lv_topi (fun z20 ez20 => ?_)
      have h21 := ib_sub hJ61_l2 hJ61_c0_2 rfl
      rw [← ez20] at h21
      have h22 : ib z20 (-1599) 1600 := ib_w (-1599) 1600 h21.1 rfl
      have Ez20 := lf_sub h21.2 (lf_rf J61_l2) (lf_rf J61_c0_2)
      refine lv_aload_n hx hb dX10_isHere_67 rfl (lv_at hl 1 rfl) ?_
      refine va_alen hx hb C0.2.2.2.2.2.1 hP 2 2 rfl rfl (v := 2) (show Int32.ofNat 2 = 2 by decide) dX10_isHere_68 ?_
      refine lv_icmp_eq (tgt := 74) hx hb dX10_isHere_69 rfl (fun c23 => ?_) (fun c23 => ?_)
      · replace hq := lf_pos hq (lf_eq Ez20 (lf_lc 2 (2 : Int) rfl) c23)
        have h24 := ib_eq h22 (ib_c 2 2 2 rfl) c23
        have h25 : ib z20 2 2 := ib_w 2 2 h24.1 rfl
        have h26 : ib J61_l2 2 1600 := ⟨by have := h21.2; have := (h25).1; have := (h25).2; have := (hJ61_l2).1; have := (hJ61_l2).2; have := (hJ61_c0_2).1; have := (hJ61_c0_2).2; omega, by have := h21.2; have := (h25).1; have := (h25).2; have := (hJ61_l2).1; have := (hJ61_l2).2; have := (hJ61_c0_2).1; have := (hJ61_c0_2).2; omega⟩
        have h27 : ib J61_c0_2 0 1598 := ⟨by have := h21.2; have := (h25).1; have := (h25).2; have := (hJ61_l2).1; have := (hJ61_l2).2; have := (hJ61_c0_2).1; have := (hJ61_c0_2).2; omega, by have := h21.2; have := (h25).1; have := (h25).2; have := (hJ61_l2).1; have := (hJ61_l2).2; have := (hJ61_c0_2).1; have := (hJ61_c0_2).2; omega⟩
        have h28 : ib x_at 0 1598 := ⟨(hx_at).1, by have := (hx_at).2; have := hJ61_lin0; have := (h27).2; omega⟩
        refine lv_iconst (v := 0) hx hb dX10_isHere_74 rfl ?_
        refine lv_istore_n (lv' := [(3, .int 0), (0, .ref a_this), (1, .ref a_arg0), (2, .int J61_l2)]) hx hb dX10_isHere_75 rfl hl (Nat.le_of_ble_eq_true rfl) rfl (fun ls hl => ?_)
        exact jn76 4 J61_l2 J61_c0_2 0 H locs ls (ib_w 2 1600 h26 rfl) (ib_w 0 1598 h27 rfl) (ib_w 1 1600 hK61_x_end rfl) (ib_w 0 0 hK61_x_bad rfl) (ib_w 0 2 (ib_c 0 0 0 rfl) rfl) (by have := hJ61_lin0; omega) (fun q9 => (by have e0n : J61_c0_2 = x_at := hJ61_nb q9; exact e0n)) (by try simp only [show (0 : Int32).toInt = (0 : Int) from rfl]; exact hq) (by have := (ib_c 0 0 0 rfl); unfold ib at this; omega) hP hD hS (lv_sub hl [1, 2, 3, 0] rfl)
      · replace hq := lf_neg hq (lf_ne Ez20 (lf_lc 2 (2 : Int) rfl) c23)
        have h29 : ib x_at 0 1599 := ⟨(hx_at).1, by have := (hx_at).2; have := hJ61_lin0; have := (hJ61_c0_2).2; omega⟩
        refine lv_iconst (v := 0) hx hb dX10_isHere_72 rfl ?_
        subst hQ; exact k_iret hx hb hr hlk (k_nb 0 rfl) J61_c0_2 hS ⟨ib_w 0 1600 hJ61_c0_2 rfl, ib_w 0 1 (ib_c 0 0 0 rfl) rfl, fun hq9 => absurd rfl hq9, fun hq9 => absurd rfl hq9, fun hq9 => absurd rfl hq9, fun hq9 => absurd rfl hq9, (by have := hJ61_lin0; omega), fun q9 => (by have e0n : J61_c0_2 = x_at := hJ61_nb q9; exact e0n), (hO.symm.trans (by try simp only [show (0 : Int32).toInt = (0 : Int) from rfl]; exact hq))⟩ hP hD (Nat.le_of_ble_eq_true rfl) (Nat.le_of_ble_eq_true rfl) dX10_isHere_73
  have jn35 : ∀ (n : Nat) (J35_l2 : Int32) (J35_c0_2 : Int32) (H : Heap) (locs : List Loc) (ls : Array Slot), ib J35_l2 0 1600 → ib J35_c0_2 0 1599 → ib x_end 1 1600 → ib x_bad 0 0 → (1 * x_at.toInt + (-1) * J35_c0_2.toInt ≤ 0) → (NB g_tape x_at x_end → J35_c0_2 = x_at) → (O = F_X10_isHere_r2_35 (Int32.toInt x_end) (lf_A g_tape) (lf_A g_arg0) n (Int32.toInt J35_l2) (Int32.toInt J35_c0_2)) → 1601 ≤ J35_l2.toInt + (n : Int) → va_P (dC, dI) vwCl [(a_this, .inr (10, mfs rm x_taped J35_c0_2 x_end x_ended x_bad x_badPlace x_fault x_faultPlace x_namePlace x_awayTold x_away x_coded x_statements x_isCrossing x_textKind x_askSecond x_redMany x_isOpen x_lastGreen x_greenTo x_isCycleGreen x_stillGreen x_rowMany x_fitMany x_fitRules x_fitGreen x_undoable x_newest x_seeded x_qCoded x_qWaits x_qOpened x_qBase x_qPiled x_qAnswer x_qIsNew x_octets)), (wi_rm0_0_1600_0 rm cy g_tape), (wi_2_2_0 a_arg0 cy g_arg0)] H → va_D A [(a_this, .inr (10, mfs rm x_taped J35_c0_2 x_end x_ended x_bad x_badPlace x_fault x_faultPlace x_namePlace x_awayTold x_away x_coded x_statements x_isCrossing x_textKind x_askSecond x_redMany x_isOpen x_lastGreen x_greenTo x_isCycleGreen x_stillGreen x_rowMany x_fitMany x_fitRules x_fitGreen x_undoable x_newest x_seeded x_qCoded x_qWaits x_qOpened x_qBase x_qPiled x_qAnswer x_qIsNew x_octets)), (wi_rm0_0_1600_0 rm cy g_tape), (wi_2_2_0 a_arg0 cy g_arg0)] → va_S A s.heap H locs → lv_has ls 4 [(0, .ref a_this), (1, .ref a_arg0), (2, .int J35_l2)] → W p l e { frames := 1, cells := 0, slots := 0, locals := 20 } s m args below meth c H locs 0 0 Q (F0 m 35 ls []) := by
    as_aux_lemma =>
      intro n
      induction n with
      | zero =>
        intro J35_l2 J35_c0_2 H locs ls hJ35_l2 hJ35_c0_2 hK35_x_end hK35_x_bad hJ35_lin0 hJ35_nb hq hm
        exact absurd hm (by have := hJ35_l2; unfold ib at this; omega)
      | succ n ih =>
        intro J35_l2 J35_c0_2 H locs ls hJ35_l2 hJ35_c0_2 hK35_x_end hK35_x_bad hJ35_lin0 hJ35_nb hq hm35 hP hD hS hl
        have ih35 := ih
        obtain ⟨K35, hK35⟩ : ∃ K, K = F_X10_isHere_r2_35 (Int32.toInt x_end) (lf_A g_tape) (lf_A g_arg0) n := ⟨_, rfl⟩
        have hq : O = F_X10_isHere_r2_35b (Int32.toInt x_end) (lf_A g_tape) (lf_A g_arg0) K35 (Int32.toInt J35_l2) (Int32.toInt J35_c0_2) := by rw [hK35]; exact hq
        unfold F_X10_isHere_r2_35b at hq
        refine lv_iload_n hx hb dX10_isHere_35 rfl (lv_at hl 2 rfl) ?_
        refine lv_aload_n hx hb dX10_isHere_36 rfl (lv_at hl 0 rfl) ?_
        refine k_get C0 fg_X10_288 hP 0 rfl rfl dX10_isHere_37 ?_
        refine lv_icmp_ge (tgt := 61) hx hb dX10_isHere_40 rfl (fun c30 => ?_) (fun c30 => ?_)
        · replace hq := lf_pos hq (lf_le (lf_rf x_end) (lf_rf J35_l2) c30)
          have h31 := ib_le hK35_x_end hJ35_l2 c30
          have h32 : ib J35_l2 1 1600 := ib_w 1 1600 h31.2 rfl
          have h33 : ib x_at 0 1599 := ⟨(hx_at).1, by have := (hx_at).2; have := hJ35_lin0; have := (hJ35_c0_2).2; omega⟩
          exact jn61 J35_l2 J35_c0_2 H locs ls (ib_w 0 1600 h32 rfl) (ib_w 0 1599 hJ35_c0_2 rfl) (ib_w 1 1600 hK35_x_end rfl) (ib_w 0 0 hK35_x_bad rfl) (by have := hJ35_lin0; omega) (fun q9 => (by have e0n : J35_c0_2 = x_at := hJ35_nb q9; exact e0n)) (by exact hq) hP hD hS (lv_sub hl [0, 1, 2] rfl)
        · as_aux_lemma =>
            replace hq := lf_neg hq (lf_nle (lf_rf x_end) (lf_rf J35_l2) c30)
            have h34 := ib_nle hK35_x_end hJ35_l2 c30
            have h35 : ib J35_l2 0 1599 := ib_w 0 1599 h34.2 rfl
            have h36 : ib x_at 0 1599 := ⟨(hx_at).1, by have := (hx_at).2; have := hJ35_lin0; have := (hJ35_c0_2).2; omega⟩
            refine lv_aload_n hx hb dX10_isHere_43 rfl (lv_at hl 0 rfl) ?_
            refine k_get C0 fg_X10_7 hP 0 rfl rfl dX10_isHere_44 ?_
            refine lv_iload_n hx hb dX10_isHere_47 rfl (lv_at hl 2 rfl) ?_
            refine va_iald hx hb C0.2.2.2.2.2.1 hP 1 0 rfl rfl (ib_in 1600 h35 rfl) dX10_isHere_48 ?_
            refine lv_topi (fun z37 ez37 => ?_)
            have h38 : ib z37 0 255 := by rw [ez37]; exact ia_at hg_tape (ib_in 1600 h35 rfl)
            have Ez37 := lf_ld ez37 (lf_ra g_tape) (lf_rf J35_l2)
            refine k_jim hP hD hS hA [] [true, true, true] rfl rfl rfl 0 0 (Nat.le_of_ble_eq_true rfl) (Nat.le_of_ble_eq_true rfl) (fun hPc hDc => k_runS (As := [.int z37]) (rest := []) C0 hZ hS hA (s_X10_isLetter l dC dI cy sq z37 ) mS_X10_295 hPc hDc hl rfl rfl (Nat.le_of_ble_eq_true rfl) ⟨(Nat.le_of_ble_eq_true rfl), (Nat.le_of_ble_eq_true rfl)⟩ ⟨(Nat.le_of_ble_eq_true rfl), (Nat.le_of_ble_eq_true rfl)⟩ dX10_isHere_49) (fun r39 u40 H locs hw hP hD hS => ?_)
            try dsimp only at hP hD hw
            replace hP : va_P (dC, dI) vwCl [(a_this, .inr (10, mfs rm x_taped J35_c0_2 x_end x_ended x_bad x_badPlace x_fault x_faultPlace x_namePlace x_awayTold x_away x_coded x_statements x_isCrossing x_textKind x_askSecond x_redMany x_isOpen x_lastGreen x_greenTo x_isCycleGreen x_stillGreen x_rowMany x_fitMany x_fitRules x_fitGreen x_undoable x_newest x_seeded x_qCoded x_qWaits x_qOpened x_qBase x_qPiled x_qAnswer x_qIsNew x_octets)), (wi_rm0_0_1600_0 rm cy g_tape), (wi_2_2_0 a_arg0 cy g_arg0)] H := hP
            replace hD := k_D hP hD
            obtain ⟨h41, h42, h43⟩ := hw
            have h43 := by have h9 := h43; rw [lf_u Ez37] at h9; exact h9
            replace hq := lf_b1 hq h43
            refine lv_if_eq (tgt := 61) hx hb dX10_isHere_52 rfl (fun c44 => ?_) (fun c44 => ?_)
            · replace hq := lf_pos hq (lf_eq (lf_rf r39) (lf_lc 0 (0 : Int) rfl) c44)
              have h45 := ib_eq h41 (ib_c 0 0 0 rfl) c44
              have h46 : ib r39 0 0 := ib_w 0 0 h45.1 rfl
              exact jn61 J35_l2 J35_c0_2 H locs ls (ib_w 0 1600 h35 rfl) (ib_w 0 1599 hJ35_c0_2 rfl) (ib_w 1 1600 hK35_x_end rfl) (ib_w 0 0 hK35_x_bad rfl) (by have := hJ35_lin0; omega) (fun q9 => (by have e0n : J35_c0_2 = x_at := hJ35_nb q9; exact e0n)) (by exact hq) hP hD hS (lv_sub hl [0, 1, 2] rfl)
            · replace hq := lf_neg hq (lf_ne (lf_rf r39) (lf_lc 0 (0 : Int) rfl) c44)
              have h47 : ib r39 1 1 := ib_w 1 1 (ib_ne_lo 0 h41 rfl c44) rfl
              have h48 : ib z37 97 122 := ib_w 97 122 (ib_two h38 (h42 (ib_nz h47 rfl))) rfl
              obtain ⟨z49, ez49⟩ : ∃ y : Int32, y = J35_l2 + 1 := ⟨_, rfl⟩
              refine lv_iinc (v := z49) (lv' := [(2, .int z49), (0, .ref a_this), (1, .ref a_arg0)]) hx hb dX10_isHere_55 hl (k := 2) rfl (by rw [ez49]; rfl) (Nat.le_of_ble_eq_true rfl) rfl (fun ls hl => ?_)
              have h50 := ib_add h35 (ib_c 1 1 1 rfl) rfl
              rw [← ez49] at h50
              have h51 : ib z49 1 1600 := ib_w 1 1600 h50.1 rfl
              have Ez49 := lf_add h50.2 (lf_rf J35_l2) (lf_lc 1 (1 : Int) rfl)
              refine lv_goto (tgt := 35) hx hb dX10_isHere_58 rfl ?_
              exact ih35 z49 J35_c0_2 H locs ls (ib_w 0 1600 h51 rfl) (ib_w 0 1599 hJ35_c0_2 rfl) (ib_w 1 1600 hK35_x_end rfl) (ib_w 0 0 hK35_x_bad rfl) (by have := hJ35_lin0; omega) (fun q9 => (by have e0n : J35_c0_2 = x_at := hJ35_nb q9; exact e0n)) (by rw [← hK35]; rw [lf_u Ez49]; exact hq) (by have := h50.2; have : (1 : Int32).toInt = 1 := rfl; omega) hP hD hS (lv_sub hl [1, 2, 0] rfl)
  have jn28 : ∀ (J28_c0_2 : Int32) (H : Heap) (locs : List Loc) (ls : Array Slot), ib J28_c0_2 0 1600 → (1 * x_at.toInt + (-1) * J28_c0_2.toInt ≤ 0) → (NB g_tape x_at x_end → J28_c0_2 = x_at) → (O = F_X10_isHere_r2_28 (Int32.toInt J28_c0_2)) → va_P (dC, dI) vwCl [(a_this, .inr (10, mfs rm x_taped J28_c0_2 x_end x_ended x_bad x_badPlace x_fault x_faultPlace x_namePlace x_awayTold x_away x_coded x_statements x_isCrossing x_textKind x_askSecond x_redMany x_isOpen x_lastGreen x_greenTo x_isCycleGreen x_stillGreen x_rowMany x_fitMany x_fitRules x_fitGreen x_undoable x_newest x_seeded x_qCoded x_qWaits x_qOpened x_qBase x_qPiled x_qAnswer x_qIsNew x_octets)), (wi_rm0_0_1600_0 rm cy g_tape), (wi_2_2_0 a_arg0 cy g_arg0)] H → va_D A [(a_this, .inr (10, mfs rm x_taped J28_c0_2 x_end x_ended x_bad x_badPlace x_fault x_faultPlace x_namePlace x_awayTold x_away x_coded x_statements x_isCrossing x_textKind x_askSecond x_redMany x_isOpen x_lastGreen x_greenTo x_isCycleGreen x_stillGreen x_rowMany x_fitMany x_fitRules x_fitGreen x_undoable x_newest x_seeded x_qCoded x_qWaits x_qOpened x_qBase x_qPiled x_qAnswer x_qIsNew x_octets)), (wi_rm0_0_1600_0 rm cy g_tape), (wi_2_2_0 a_arg0 cy g_arg0)] → va_S A s.heap H locs → lv_has ls 4 [(0, .ref a_this), (1, .ref a_arg0)] → W p l e { frames := 1, cells := 0, slots := 0, locals := 20 } s m args below meth c H locs 0 0 Q (F0 m 28 ls []) := by
    intro J28_c0_2 H locs ls hJ28_c0_2 hJ28_lin0 hJ28_nb hq hP hD hS hl
    unfold F_X10_isHere_r2_28 at hq
    refine lv_iconst (v := 0) hx hb dX10_isHere_28 rfl ?_
    subst hQ; exact k_iret hx hb hr hlk (k_nb 0 rfl) J28_c0_2 hS ⟨ib_w 0 1600 hJ28_c0_2 rfl, ib_w 0 1 (ib_c 0 0 0 rfl) rfl, fun hq9 => absurd rfl hq9, fun hq9 => absurd rfl hq9, fun hq9 => absurd rfl hq9, fun hq9 => absurd rfl hq9, (by have := hJ28_lin0; omega), fun q9 => (by have e0n : J28_c0_2 = x_at := hJ28_nb q9; exact e0n), (hO.symm.trans (by try simp only [show (0 : Int32).toInt = (0 : Int) from rfl]; exact hq))⟩ hP hD (Nat.le_of_ble_eq_true rfl) (Nat.le_of_ble_eq_true rfl) dX10_isHere_29
  refine lv_aload_n hx hb dX10_isHere_0 rfl (lv_at hl 0 rfl) ?_
  refine k_get C0 fg_X10_279 hP 0 rfl rfl dX10_isHere_1 ?_
  refine lv_if_ne (tgt := 28) hx hb dX10_isHere_4 rfl (fun c52 => ?_) (fun c52 => ?_)
  · replace hq := lf_neg hq (lf_ne (lf_rf x_bad) (lf_lc 0 (0 : Int) rfl) c52)
    exact jn28 x_at H locs ls (ib_w 0 1600 hx_at rfl) (by omega) (fun _ => rfl) (by exact hq) hP hD hS (lv_sub hl [0, 1] rfl)
  · as_aux_lemma =>
      replace hq := lf_pos hq (lf_eq (lf_rf x_bad) (lf_lc 0 (0 : Int) rfl) c52)
      have h53 := ib_eq (ib_any x_bad) (ib_c 0 0 0 rfl) c52
      have h54 : ib x_bad 0 0 := ib_w 0 0 h53.1 rfl
      refine lv_aload_n hx hb dX10_isHere_7 rfl (lv_at hl 0 rfl) ?_
      refine k_jim hP hD hS hA [0, 1] [false, false, true] rfl rfl rfl 0 0 (Nat.le_of_ble_eq_true rfl) (Nat.le_of_ble_eq_true rfl) (fun hPc hDc => k_runV (As := []) (rest := []) C0 hZ hS hA (s_X10_look l dC dI cy sq a_this rm x_taped x_at x_end x_ended x_bad x_badPlace x_fault x_faultPlace x_namePlace x_awayTold x_away x_coded x_statements x_isCrossing x_textKind x_askSecond x_redMany x_isOpen x_lastGreen x_greenTo x_isCycleGreen x_stillGreen x_rowMany x_fitMany x_fitRules x_fitGreen x_undoable x_newest x_seeded x_qCoded x_qWaits x_qOpened x_qBase x_qPiled x_qAnswer x_qIsNew x_octets g_tape (ib_w 0 1600 hx_at rfl) (ib_w 0 1600 hx_end rfl) hg_tape) mV_X10_291 hPc hDc rfl rfl rfl hl rfl rfl (Nat.le_of_ble_eq_true rfl) ⟨(Nat.le_of_ble_eq_true rfl), (Nat.le_of_ble_eq_true rfl)⟩ ⟨(Nat.le_of_ble_eq_true rfl), (Nat.le_of_ble_eq_true rfl)⟩ dX10_isHere_8) (fun r55 u56 H locs hw hP hD hS => ?_)
      obtain ⟨v57, ev57⟩ : ∃ z, z = u56 := ⟨_, rfl⟩; subst ev57
      try dsimp only at hP hD hw
      replace hP : va_P (dC, dI) vwCl [(wi_2_2_0 a_arg0 cy g_arg0), (a_this, .inr (10, mfs rm x_taped v57 x_end x_ended x_bad x_badPlace x_fault x_faultPlace x_namePlace x_awayTold x_away x_coded x_statements x_isCrossing x_textKind x_askSecond x_redMany x_isOpen x_lastGreen x_greenTo x_isCycleGreen x_stillGreen x_rowMany x_fitMany x_fitRules x_fitGreen x_undoable x_newest x_seeded x_qCoded x_qWaits x_qOpened x_qBase x_qPiled x_qAnswer x_qIsNew x_octets)), (wi_rm0_0_1600_0 rm cy g_tape)] H := hP
      replace hD := k_D hP hD
      obtain ⟨h58, h59, h60, h61, h62, h63, h64, h65, h66, h67⟩ := hw
      replace hq := lf_p1 hq h67
      refine k_jim hP hD hS hA [] [true, true, true] rfl rfl rfl 0 0 (Nat.le_of_ble_eq_true rfl) (Nat.le_of_ble_eq_true rfl) (fun hPc hDc => k_runS (As := [.int r55]) (rest := []) C0 hZ hS hA (s_X10_isLetter l dC dI cy sq r55 ) mS_X10_295 hPc hDc hl rfl rfl (Nat.le_of_ble_eq_true rfl) ⟨(Nat.le_of_ble_eq_true rfl), (Nat.le_of_ble_eq_true rfl)⟩ ⟨(Nat.le_of_ble_eq_true rfl), (Nat.le_of_ble_eq_true rfl)⟩ dX10_isHere_11) (fun r68 u69 H locs hw hP hD hS => ?_)
      try dsimp only at hP hD hw
      replace hP : va_P (dC, dI) vwCl [(wi_2_2_0 a_arg0 cy g_arg0), (a_this, .inr (10, mfs rm x_taped v57 x_end x_ended x_bad x_badPlace x_fault x_faultPlace x_namePlace x_awayTold x_away x_coded x_statements x_isCrossing x_textKind x_askSecond x_redMany x_isOpen x_lastGreen x_greenTo x_isCycleGreen x_stillGreen x_rowMany x_fitMany x_fitRules x_fitGreen x_undoable x_newest x_seeded x_qCoded x_qWaits x_qOpened x_qBase x_qPiled x_qAnswer x_qIsNew x_octets)), (wi_rm0_0_1600_0 rm cy g_tape)] H := hP
      replace hD := k_D hP hD
      obtain ⟨h70, h71, h72⟩ := hw
      replace hq := lf_b1 hq h72
      refine lv_if_eq (tgt := 28) hx hb dX10_isHere_14 rfl (fun c73 => ?_) (fun c73 => ?_)
      · replace hq := lf_pos hq (lf_eq (lf_rf r68) (lf_lc 0 (0 : Int) rfl) c73)
        have h74 := ib_eq h70 (ib_c 0 0 0 rfl) c73
        have h75 : ib r68 0 0 := ib_w 0 0 h74.1 rfl
        exact jn28 v57 H locs ls (ib_w 0 1600 h58 rfl) (by have := h63; omega) (fun q9 => (by have e0n : v57 = x_at := h65 q9; exact e0n)) (by exact hq) (hP.sub [1, 2, 0] rfl) (hD.sub [1, 2, 0] rfl rfl) hS (lv_sub hl [0, 1] rfl)
      · as_aux_lemma =>
          replace hq := lf_neg hq (lf_ne (lf_rf r68) (lf_lc 0 (0 : Int) rfl) c73)
          have h76 : ib r68 1 1 := ib_w 1 1 (ib_ne_lo 0 h70 rfl c73) rfl
          have h77 : ib r55 97 122 := ib_w 97 122 (ib_two h59 (h71 (ib_nz h76 rfl))) rfl
          have h78 : ib v57 0 1599 := ib_w 0 1599 (ib_two h58 (h60 (ib_nc (-1) h77 rfl))) rfl
          have h79 : ib x_at 0 1599 := ib_w 0 1599 (ib_two hx_at (h61 (ib_nc (-1) h77 rfl))) rfl
          have h80 : ib x_end 1 1600 := ib_w 1 1600 (ib_two hx_end (h62 (ib_nc (-1) h77 rfl))) rfl
          refine lv_aload_n hx hb dX10_isHere_17 rfl (lv_at hl 0 rfl) ?_
          refine k_get C0 fg_X10_285 hP 1 rfl rfl dX10_isHere_18 ?_
          refine lv_aload_n hx hb dX10_isHere_21 rfl (lv_at hl 0 rfl) ?_
          refine k_get C0 fg_X10_299 hP 1 rfl rfl dX10_isHere_22 ?_
          refine lv_icmp_ne (tgt := 30) hx hb dX10_isHere_25 rfl (fun c81 => ?_) (fun c81 => ?_)
          · replace hq := lf_neg hq (lf_ne (lf_rf v57) (lf_rf x_ended) c81)
            refine lv_aload_n hx hb dX10_isHere_30 rfl (lv_at hl 0 rfl) ?_
            refine k_get C0 fg_X10_285 hP 1 rfl rfl dX10_isHere_31 ?_
            refine lv_istore_n (lv' := [(2, .int v57), (0, .ref a_this), (1, .ref a_arg0)]) hx hb dX10_isHere_34 rfl hl (Nat.le_of_ble_eq_true rfl) rfl (fun ls hl => ?_)
            exact jn35 1602 v57 v57 H locs ls (ib_w 0 1600 h78 rfl) (ib_w 0 1599 h78 rfl) (ib_w 1 1600 h80 rfl) (ib_w 0 0 h54 rfl) (by have := h63; omega) (fun q9 => (by have e0n : v57 = x_at := h65 q9; exact e0n)) (by exact hq) (by have := h78; unfold ib at this; omega) (hP.sub [1, 2, 0] rfl) (hD.sub [1, 2, 0] rfl rfl) hS (lv_sub hl [1, 2, 0] rfl)
          · replace hq := lf_pos hq (lf_eq (lf_rf v57) (lf_rf x_ended) c81)
            have h82 := ib_eq h78 (ib_any x_ended) c81
            have h83 : ib x_ended 0 1599 := ib_w 0 1599 h82.2 rfl
            exact jn28 v57 H locs ls (ib_w 0 1600 h78 rfl) (by have := h63; omega) (fun q9 => (by have e0n : v57 = x_at := h65 q9; exact e0n)) (by exact hq) (hP.sub [1, 2, 0] rfl) (hD.sub [1, 2, 0] rfl rfl) hS (lv_sub hl [0, 1] rfl)
set_option maxHeartbeats 4000000 in
set_option maxRecDepth 100000 in
theorem s_X10_takes_r2 (l : Launch) (dC : Nat → ClassId) (dI : Nat → Nat → Nat) (cy : Nat → ClassId) (sq : Nat → Nat) (a_this : Nat) (rm : Nat → Nat) (x_taped : Int32) (x_at : Int32) (x_end : Int32) (x_ended : Int32) (x_bad : Int32) (x_badPlace : Int32) (x_fault : Int32) (x_faultPlace : Int32) (x_namePlace : Int32) (x_awayTold : Int32) (x_away : Int32) (x_coded : Int32) (x_statements : Int32) (x_isCrossing : Int32) (x_textKind : Int32) (x_askSecond : Int32) (x_redMany : Int32) (x_isOpen : Int32) (x_lastGreen : Int32) (x_greenTo : Int32) (x_isCycleGreen : Int32) (x_stillGreen : Int32) (x_rowMany : Int32) (x_fitMany : Int32) (x_fitRules : Int32) (x_fitGreen : Int32) (x_undoable : Int32) (x_newest : Int32) (x_seeded : Int64) (x_qCoded : Int32) (x_qWaits : Int32) (x_qOpened : Int32) (x_qBase : Int32) (x_qPiled : Int32) (x_qAnswer : Int64) (x_qIsNew : Int32) (x_octets : Int32) (g_tape : Nat → Int32) (a_arg0 : Nat) (g_arg0 : Nat → Int32) (hx_at : ib x_at 0 1600) (hx_end : ib x_end 0 1600) (hg_tape : ia g_tape 1600 0 255) : k_Met l yX10_takes cX10_takes 2 (some .boolean) { frames := 2, cells := 0, slots := 0, locals := 43 } dC dI cy sq [.ref a_this, .ref a_arg0] [(a_this, .inr (10, mfs rm x_taped x_at x_end x_ended x_bad x_badPlace x_fault x_faultPlace x_namePlace x_awayTold x_away x_coded x_statements x_isCrossing x_textKind x_askSecond x_redMany x_isOpen x_lastGreen x_greenTo x_isCycleGreen x_stillGreen x_rowMany x_fitMany x_fitRules x_fitGreen x_undoable x_newest x_seeded x_qCoded x_qWaits x_qOpened x_qBase x_qPiled x_qAnswer x_qIsNew x_octets)), (wi_rm0_0_1600_0 rm cy g_tape), (wi_2_2_0 a_arg0 cy g_arg0)] (k_Qi dC dI (fun (r : Int32) (u : Int32 × Int32) => match u with | (n0, n1) => ib n0 0 1600 ∧ ib r 0 1 ∧ (¬ r = 0 → ib n0 2 1600) ∧ (¬ r = 0 → ib n1 2 1600) ∧ (¬ r = 0 → ib x_at 0 1598) ∧ (¬ r = 0 → ib x_end 1 1600) ∧ (¬ r = 0 → ib x_bad 0 0) ∧ (1 * x_at.toInt + (-1) * n0.toInt ≤ 0) ∧ (¬ r = 0 → 1 * x_at.toInt + (-1) * n0.toInt ≤ (-2)) ∧ (F_X10_takes_r2 (Int32.toInt x_at) (Int32.toInt x_end) (Int32.toInt x_ended) (Int32.toInt x_bad) (lf_A g_tape) (lf_A g_arg0) = ((Int32.toInt r), (Int32.toInt n0), (Int32.toInt n1)))) (fun u : Int32 × Int32 => match u with | (n0, n1) => [(a_this, .inr (10, mfs rm x_taped n0 x_end n1 x_bad x_badPlace x_fault x_faultPlace x_namePlace x_awayTold x_away x_coded x_statements x_isCrossing x_textKind x_askSecond x_redMany x_isOpen x_lastGreen x_greenTo x_isCycleGreen x_stillGreen x_rowMany x_fitMany x_fitRules x_fitGreen x_undoable x_newest x_seeded x_qCoded x_qWaits x_qOpened x_qBase x_qPiled x_qAnswer x_qIsNew x_octets)), (wi_rm0_0_1600_0 rm cy g_tape), (wi_2_2_0 a_arg0 cy g_arg0)])) := by
  refine k_ofW2 (by decide +kernel) (Nat.le_of_ble_eq_true rfl) ?_
  intro p e s m below meth c A ls H locs args Q hQ C0 hZ hr hlk hin hP hD hA hS hl
  have C0 : k_cx p s m args c cX10_takes 2 RX10 dC dI cy sq := C0
  have hx := C0.1
  have hb := C0.2.1
  have hl : lv_has ls 2 [(0, .ref a_this), (1, .ref a_arg0)] := hl
  obtain ⟨O, hO⟩ : ∃ o, o = F_X10_takes_r2 (Int32.toInt x_at) (Int32.toInt x_end) (Int32.toInt x_ended) (Int32.toInt x_bad) (lf_A g_tape) (lf_A g_arg0) := ⟨_, rfl⟩
  have hq := hO
  unfold F_X10_takes_r2 at hq
  refine lv_aload_n hx hb dX10_takes_0 rfl (lv_at hl 0 rfl) ?_
  refine lv_aload_n hx hb dX10_takes_1 rfl (lv_at hl 1 rfl) ?_
  refine k_jim hP hD hS hA [0, 1, 2] [] rfl rfl rfl 0 0 (Nat.le_of_ble_eq_true rfl) (Nat.le_of_ble_eq_true rfl) (fun hPc hDc => k_runV (As := [.ref a_arg0]) (rest := []) C0 hZ hS hA (s_X10_isHere_r2 l dC dI cy sq a_this rm x_taped x_at x_end x_ended x_bad x_badPlace x_fault x_faultPlace x_namePlace x_awayTold x_away x_coded x_statements x_isCrossing x_textKind x_askSecond x_redMany x_isOpen x_lastGreen x_greenTo x_isCycleGreen x_stillGreen x_rowMany x_fitMany x_fitRules x_fitGreen x_undoable x_newest x_seeded x_qCoded x_qWaits x_qOpened x_qBase x_qPiled x_qAnswer x_qIsNew x_octets g_tape a_arg0 g_arg0 (ib_w 0 1600 hx_at rfl) (ib_w 0 1600 hx_end rfl) hg_tape) mV_X10_302 hPc hDc rfl rfl rfl hl rfl rfl (Nat.le_of_ble_eq_true rfl) ⟨(Nat.le_of_ble_eq_true rfl), (Nat.le_of_ble_eq_true rfl)⟩ ⟨(Nat.le_of_ble_eq_true rfl), (Nat.le_of_ble_eq_true rfl)⟩ dX10_takes_2) (fun r1 u2 H locs hw hP hD hS => ?_)
  obtain ⟨v3, ev3⟩ : ∃ z, z = u2 := ⟨_, rfl⟩; subst ev3
  try dsimp only at hP hD hw
  replace hP : va_P (dC, dI) vwCl [(a_this, .inr (10, mfs rm x_taped v3 x_end x_ended x_bad x_badPlace x_fault x_faultPlace x_namePlace x_awayTold x_away x_coded x_statements x_isCrossing x_textKind x_askSecond x_redMany x_isOpen x_lastGreen x_greenTo x_isCycleGreen x_stillGreen x_rowMany x_fitMany x_fitRules x_fitGreen x_undoable x_newest x_seeded x_qCoded x_qWaits x_qOpened x_qBase x_qPiled x_qAnswer x_qIsNew x_octets)), (wi_rm0_0_1600_0 rm cy g_tape), (wi_2_2_0 a_arg0 cy g_arg0)] H := hP
  replace hD := k_D hP hD
  obtain ⟨h4, h5, h6, h7, h8, h9, h10, h11, h12⟩ := hw
  replace hq := lf_p1 hq h12
  refine lv_if_ne (tgt := 10) hx hb dX10_takes_5 rfl (fun c13 => ?_) (fun c13 => ?_)
  · replace hq := lf_neg hq (lf_ne (lf_rf r1) (lf_lc 0 (0 : Int) rfl) c13)
    have h14 : ib r1 1 1 := ib_w 1 1 (ib_ne_lo 0 h5 rfl c13) rfl
    have h15 : ib v3 0 1598 := ib_w 0 1598 (ib_two h4 (h6 (ib_nz h14 rfl))) rfl
    have h16 : ib x_at 0 1598 := ib_w 0 1598 (ib_two hx_at (h7 (ib_nz h14 rfl))) rfl
    have h17 : ib x_end 1 1600 := ib_w 1 1600 (ib_two hx_end (h8 (ib_nz h14 rfl))) rfl
    have h18 : ib x_bad 0 0 := ib_w 0 0 (ib_two (ib_any x_bad) (h9 (ib_nz h14 rfl))) rfl
    refine lv_aload_n hx hb dX10_takes_10 rfl (lv_at hl 0 rfl) ?_
    refine lv_dup hx hb dX10_takes_11 rfl ?_
    refine k_get C0 fg_X10_285 hP 0 rfl rfl dX10_takes_12 ?_
    refine lv_aload_n hx hb dX10_takes_15 rfl (lv_at hl 1 rfl) ?_
    refine va_alen hx hb C0.2.2.2.2.2.1 hP 2 2 rfl rfl (v := 2) (show Int32.ofNat 2 = 2 by decide) dX10_takes_16 ?_
    refine lv_iadd hx hb dX10_takes_17 ?_
    refine lv_topi (fun z19 ez19 => ?_)
    have h20 := ib_add h15 (ib_c 2 2 2 rfl) rfl
    rw [← ez19] at h20
    have h21 : ib z19 2 1600 := ib_w 2 1600 h20.1 rfl
    have Ez19 := lf_add h20.2 (lf_rf v3) (lf_lc 2 (2 : Int) rfl)
    refine k_put C0 fp_X10_285 hP hD hS 0 rfl rfl rfl (Nat.le_of_ble_eq_true rfl) dX10_takes_18 (fun H locs hP hD hS => ?_)
    replace hP : va_P (dC, dI) vwCl [(a_this, .inr (10, mfs rm x_taped z19 x_end x_ended x_bad x_badPlace x_fault x_faultPlace x_namePlace x_awayTold x_away x_coded x_statements x_isCrossing x_textKind x_askSecond x_redMany x_isOpen x_lastGreen x_greenTo x_isCycleGreen x_stillGreen x_rowMany x_fitMany x_fitRules x_fitGreen x_undoable x_newest x_seeded x_qCoded x_qWaits x_qOpened x_qBase x_qPiled x_qAnswer x_qIsNew x_octets)), (wi_rm0_0_1600_0 rm cy g_tape), (wi_2_2_0 a_arg0 cy g_arg0)] H := hP
    replace hD := k_D hP hD
    refine lv_aload_n hx hb dX10_takes_21 rfl (lv_at hl 0 rfl) ?_
    refine lv_aload_n hx hb dX10_takes_22 rfl (lv_at hl 0 rfl) ?_
    refine k_get C0 fg_X10_285 hP 0 rfl rfl dX10_takes_23 ?_
    refine k_put C0 fp_X10_299 hP hD hS 0 rfl rfl rfl (Nat.le_of_ble_eq_true rfl) dX10_takes_26 (fun H locs hP hD hS => ?_)
    replace hP : va_P (dC, dI) vwCl [(a_this, .inr (10, mfs rm x_taped z19 x_end z19 x_bad x_badPlace x_fault x_faultPlace x_namePlace x_awayTold x_away x_coded x_statements x_isCrossing x_textKind x_askSecond x_redMany x_isOpen x_lastGreen x_greenTo x_isCycleGreen x_stillGreen x_rowMany x_fitMany x_fitRules x_fitGreen x_undoable x_newest x_seeded x_qCoded x_qWaits x_qOpened x_qBase x_qPiled x_qAnswer x_qIsNew x_octets)), (wi_rm0_0_1600_0 rm cy g_tape), (wi_2_2_0 a_arg0 cy g_arg0)] H := hP
    replace hD := k_D hP hD
    refine lv_iconst (v := 1) hx hb dX10_takes_29 rfl ?_
    subst hQ; exact k_iret hx hb hr hlk (k_nb 1 rfl) ((z19, z19)) hS ⟨ib_w 0 1600 h21 rfl, ib_w 0 1 (ib_c 1 1 1 rfl) rfl, fun _ => ib_w 2 1600 h21 rfl, fun _ => ib_w 2 1600 h21 rfl, fun _ => ib_w 0 1598 h16 rfl, fun _ => ib_w 1 1600 h17 rfl, fun _ => ib_w 0 0 h18 rfl, (by have := h20.2; have : (2 : Int32).toInt = 2 := rfl; have := h10; omega), fun _ => (by have := h20.2; have : (2 : Int32).toInt = 2 := rfl; have := h10; omega), (hO.symm.trans (by try simp only [show (1 : Int32).toInt = (1 : Int) from rfl]; rw [lf_u Ez19]; exact hq))⟩ hP hD (Nat.le_of_ble_eq_true rfl) (Nat.le_of_ble_eq_true rfl) dX10_takes_30
  · replace hq := lf_pos hq (lf_eq (lf_rf r1) (lf_lc 0 (0 : Int) rfl) c13)
    have h22 := ib_eq h5 (ib_c 0 0 0 rfl) c13
    have h23 : ib r1 0 0 := ib_w 0 0 h22.1 rfl
    refine lv_iconst (v := 0) hx hb dX10_takes_8 rfl ?_
    subst hQ; exact k_iret hx hb hr hlk (k_nb 0 rfl) ((v3, x_ended)) hS ⟨ib_w 0 1600 h4 rfl, ib_w 0 1 (ib_c 0 0 0 rfl) rfl, fun hq9 => absurd rfl hq9, fun hq9 => absurd rfl hq9, fun hq9 => absurd rfl hq9, fun hq9 => absurd rfl hq9, fun hq9 => absurd rfl hq9, (by have := h10; omega), fun hq9 => absurd rfl hq9, (hO.symm.trans (by try simp only [show (0 : Int32).toInt = (0 : Int) from rfl]; exact hq))⟩ hP hD (Nat.le_of_ble_eq_true rfl) (Nat.le_of_ble_eq_true rfl) dX10_takes_9
set_option maxHeartbeats 4000000 in
set_option maxRecDepth 100000 in
theorem s_X10_qHasSquare (l : Launch) (dC : Nat → ClassId) (dI : Nat → Nat → Nat) (cy : Nat → ClassId) (sq : Nat → Nat) (a_this : Nat) (rm : Nat → Nat) (x_taped : Int32) (x_at : Int32) (x_end : Int32) (x_ended : Int32) (x_bad : Int32) (x_badPlace : Int32) (x_fault : Int32) (x_faultPlace : Int32) (x_namePlace : Int32) (x_awayTold : Int32) (x_away : Int32) (x_coded : Int32) (x_statements : Int32) (x_isCrossing : Int32) (x_textKind : Int32) (x_askSecond : Int32) (x_redMany : Int32) (x_isOpen : Int32) (x_lastGreen : Int32) (x_greenTo : Int32) (x_isCycleGreen : Int32) (x_stillGreen : Int32) (x_rowMany : Int32) (x_fitMany : Int32) (x_fitRules : Int32) (x_fitGreen : Int32) (x_undoable : Int32) (x_newest : Int32) (x_seeded : Int64) (x_qCoded : Int32) (x_qWaits : Int32) (x_qOpened : Int32) (x_qBase : Int32) (x_qPiled : Int32) (x_qAnswer : Int64) (x_qIsNew : Int32) (x_octets : Int32) (g_qWait : Nat → Int32) (hx_qWaits : ib x_qWaits 0 1700) : k_Met l yX10_qHasSquare cX10_qHasSquare 2 (some .boolean) { frames := 0, cells := 0, slots := 0, locals := 0 } dC dI cy sq [.ref a_this] [(a_this, .inr (10, mfs rm x_taped x_at x_end x_ended x_bad x_badPlace x_fault x_faultPlace x_namePlace x_awayTold x_away x_coded x_statements x_isCrossing x_textKind x_askSecond x_redMany x_isOpen x_lastGreen x_greenTo x_isCycleGreen x_stillGreen x_rowMany x_fitMany x_fitRules x_fitGreen x_undoable x_newest x_seeded x_qCoded x_qWaits x_qOpened x_qBase x_qPiled x_qAnswer x_qIsNew x_octets)), (wi_rm112_0_1700_0 rm cy g_qWait)] (k_Qi dC dI (fun (r : Int32) (_ : Unit) => ib r 0 1 ∧ (¬ r = 0 → ib x_qWaits 1 1700) ∧ ((¬ r = 0 → ∃ i : Nat, i < x_qWaits.toInt.toNat ∧ g_qWait i = 25) ∧ (r = 0 → ∀ i : Nat, i < x_qWaits.toInt.toNat → ¬ g_qWait i = 25)) ∧ (F_X10_qHasSquare (Int32.toInt x_qWaits) (lf_A g_qWait) = ((Int32.toInt r)))) (fun _ : Unit => [(a_this, .inr (10, mfs rm x_taped x_at x_end x_ended x_bad x_badPlace x_fault x_faultPlace x_namePlace x_awayTold x_away x_coded x_statements x_isCrossing x_textKind x_askSecond x_redMany x_isOpen x_lastGreen x_greenTo x_isCycleGreen x_stillGreen x_rowMany x_fitMany x_fitRules x_fitGreen x_undoable x_newest x_seeded x_qCoded x_qWaits x_qOpened x_qBase x_qPiled x_qAnswer x_qIsNew x_octets)), (wi_rm112_0_1700_0 rm cy g_qWait)])) := by
  refine k_ofW2 (by decide +kernel) (Nat.le_of_ble_eq_true rfl) ?_
  intro p e s m below meth c A ls H locs args Q hQ C0 hZ hr hlk hin hP hD hA hS hl
  have C0 : k_cx p s m args c cX10_qHasSquare 2 RX10 dC dI cy sq := C0
  have hx := C0.1
  have hb := C0.2.1
  have hl : lv_has ls 2 [(0, .ref a_this)] := hl
  obtain ⟨O, hO⟩ : ∃ o, o = F_X10_qHasSquare (Int32.toInt x_qWaits) (lf_A g_qWait) := ⟨_, rfl⟩
  have hq := hO
  unfold F_X10_qHasSquare at hq
  have jn2 : ∀ (n : Nat) (J2_l1 : Int32) (H : Heap) (locs : List Loc) (ls : Array Slot), ib J2_l1 0 1700 → (O = F_X10_qHasSquare_2 (Int32.toInt x_qWaits) (lf_A g_qWait) n (Int32.toInt J2_l1)) → (∀ j : Nat, (j : Int) < J2_l1.toInt → ¬ g_qWait j = 25) → 1701 ≤ J2_l1.toInt + (n : Int) → va_P (dC, dI) vwCl [(a_this, .inr (10, mfs rm x_taped x_at x_end x_ended x_bad x_badPlace x_fault x_faultPlace x_namePlace x_awayTold x_away x_coded x_statements x_isCrossing x_textKind x_askSecond x_redMany x_isOpen x_lastGreen x_greenTo x_isCycleGreen x_stillGreen x_rowMany x_fitMany x_fitRules x_fitGreen x_undoable x_newest x_seeded x_qCoded x_qWaits x_qOpened x_qBase x_qPiled x_qAnswer x_qIsNew x_octets)), (wi_rm112_0_1700_0 rm cy g_qWait)] H → va_D A [(a_this, .inr (10, mfs rm x_taped x_at x_end x_ended x_bad x_badPlace x_fault x_faultPlace x_namePlace x_awayTold x_away x_coded x_statements x_isCrossing x_textKind x_askSecond x_redMany x_isOpen x_lastGreen x_greenTo x_isCycleGreen x_stillGreen x_rowMany x_fitMany x_fitRules x_fitGreen x_undoable x_newest x_seeded x_qCoded x_qWaits x_qOpened x_qBase x_qPiled x_qAnswer x_qIsNew x_octets)), (wi_rm112_0_1700_0 rm cy g_qWait)] → va_S A s.heap H locs → lv_has ls 2 [(0, .ref a_this), (1, .int J2_l1)] → W p l e { frames := 0, cells := 0, slots := 0, locals := 0 } s m args below meth c H locs 0 0 Q (F0 m 2 ls []) := by
    intro n
    induction n with
    | zero =>
      intro J2_l1 H locs ls hJ2_l1 hq hJ2_gh hm
      exact absurd hm (by have := hJ2_l1; unfold ib at this; omega)
    | succ n ih =>
      intro J2_l1 H locs ls hJ2_l1 hq hJ2_gh hm2 hP hD hS hl
      have ih2 := ih
      obtain ⟨K2, hK2⟩ : ∃ K, K = F_X10_qHasSquare_2 (Int32.toInt x_qWaits) (lf_A g_qWait) n := ⟨_, rfl⟩
      have hq : O = F_X10_qHasSquare_2b (Int32.toInt x_qWaits) (lf_A g_qWait) K2 (Int32.toInt J2_l1) := by rw [hK2]; exact hq
      unfold F_X10_qHasSquare_2b at hq
      refine lv_iload_n hx hb dX10_qHasSquare_2 rfl (lv_at hl 1 rfl) ?_
      refine lv_aload_n hx hb dX10_qHasSquare_3 rfl (lv_at hl 0 rfl) ?_
      refine k_get C0 fg_X10_372 hP 0 rfl rfl dX10_qHasSquare_4 ?_
      refine lv_icmp_ge (tgt := 29) hx hb dX10_qHasSquare_7 rfl (fun c1 => ?_) (fun c1 => ?_)
      · replace hq := lf_pos hq (lf_le (lf_rf x_qWaits) (lf_rf J2_l1) c1)
        have h2 := ib_le hx_qWaits hJ2_l1 c1
        refine lv_iconst (v := 0) hx hb dX10_qHasSquare_29 rfl ?_
        subst hQ; exact k_iret hx hb hr hlk (k_nb 0 rfl) () hS ⟨ib_w 0 1 (ib_c 0 0 0 rfl) rfl, fun hq9 => absurd rfl hq9, ⟨fun q => absurd rfl q, fun _ i hi => hJ2_gh i (by have := (hx_qWaits).1; have := (hx_qWaits).2; have := (hJ2_l1).1; have := (hJ2_l1).2; have := Int32.le_iff_toInt_le.mp c1; omega)⟩, (hO.symm.trans (by try simp only [show (0 : Int32).toInt = (0 : Int) from rfl]; exact hq))⟩ hP hD (Nat.le_of_ble_eq_true rfl) (Nat.le_of_ble_eq_true rfl) dX10_qHasSquare_30
      · replace hq := lf_neg hq (lf_nle (lf_rf x_qWaits) (lf_rf J2_l1) c1)
        have h3 := ib_nle hx_qWaits hJ2_l1 c1
        have h4 : ib x_qWaits 1 1700 := ib_w 1 1700 h3.1 rfl
        have h5 : ib J2_l1 0 1699 := ib_w 0 1699 h3.2 rfl
        refine lv_aload_n hx hb dX10_qHasSquare_10 rfl (lv_at hl 0 rfl) ?_
        refine k_get C0 fg_X10_267 hP 0 rfl rfl dX10_qHasSquare_11 ?_
        refine lv_iload_n hx hb dX10_qHasSquare_14 rfl (lv_at hl 1 rfl) ?_
        refine va_iald hx hb C0.2.2.2.2.2.1 hP 1 0 rfl rfl (ib_in 1700 h5 rfl) dX10_qHasSquare_15 ?_
        refine lv_topi (fun z6 ez6 => ?_)
        have Ez6 := lf_ld ez6 (lf_ra g_qWait) (lf_rf J2_l1)
        refine lv_bipush (v := 25) hx hb dX10_qHasSquare_16 rfl ?_
        refine lv_icmp_ne (tgt := 23) hx hb dX10_qHasSquare_18 rfl (fun c7 => ?_) (fun c7 => ?_)
        · replace hq := lf_neg hq (lf_ne Ez6 (lf_lc 25 (25 : Int) rfl) c7)
          obtain ⟨z8, ez8⟩ : ∃ y : Int32, y = J2_l1 + 1 := ⟨_, rfl⟩
          refine lv_iinc (v := z8) (lv' := [(1, .int z8), (0, .ref a_this)]) hx hb dX10_qHasSquare_23 hl (k := 1) rfl (by rw [ez8]; rfl) (Nat.le_of_ble_eq_true rfl) rfl (fun ls hl => ?_)
          have h9 := ib_add h5 (ib_c 1 1 1 rfl) rfl
          rw [← ez8] at h9
          have h10 : ib z8 1 1700 := ib_w 1 1700 h9.1 rfl
          have Ez8 := lf_add h9.2 (lf_rf J2_l1) (lf_lc 1 (1 : Int) rfl)
          refine lv_goto (tgt := 2) hx hb dX10_qHasSquare_26 rfl ?_
          exact ih2 z8 H locs ls (ib_w 0 1700 h10 rfl) (by rw [← hK2]; rw [lf_u Ez8]; exact hq) (fun j h1 => if e9 : (j : Int) = J2_l1.toInt then (by have e2 : j = Int32.toNatClampNeg J2_l1 := (by show j = (Int32.toInt J2_l1).toNat; omega); rw [e2, ← ez6]; exact c7) else hJ2_gh j (by have := (h5).1; have := (h5).2; have := (h10).1; have := (h10).2; have := h9.2; have : (1 : Int32).toInt = 1 := rfl; omega)) (by have := h9.2; have : (1 : Int32).toInt = 1 := rfl; omega) hP hD hS (lv_sub hl [1, 0] rfl)
        · replace hq := lf_pos hq (lf_eq Ez6 (lf_lc 25 (25 : Int) rfl) c7)
          have h11 := ib_eq (ib_any z6) (ib_c 25 25 25 rfl) c7
          have h12 : ib z6 25 25 := ib_w 25 25 h11.1 rfl
          refine lv_iconst (v := 1) hx hb dX10_qHasSquare_21 rfl ?_
          subst hQ; exact k_iret hx hb hr hlk (k_nb 1 rfl) () hS ⟨ib_w 0 1 (ib_c 1 1 1 rfl) rfl, fun _ => ib_w 1 1700 h4 rfl, ⟨fun _ => ⟨Int32.toNatClampNeg J2_l1, by show (Int32.toInt J2_l1).toNat < _; have := (h4).1; have := (h4).2; have := (h5).1; have := (h5).2; have := mt Int32.le_iff_toInt_le.mpr c1; omega, by rw [← ez6]; exact ib_one h12 rfl⟩, fun q => absurd q (by decide)⟩, (hO.symm.trans (by try simp only [show (1 : Int32).toInt = (1 : Int) from rfl]; exact hq))⟩ hP hD (Nat.le_of_ble_eq_true rfl) (Nat.le_of_ble_eq_true rfl) dX10_qHasSquare_22
  refine lv_iconst (v := 0) hx hb dX10_qHasSquare_0 rfl ?_
  refine lv_istore_n (lv' := [(1, .int 0), (0, .ref a_this)]) hx hb dX10_qHasSquare_1 rfl hl (Nat.le_of_ble_eq_true rfl) rfl (fun ls hl => ?_)
  exact jn2 1702 0 H locs ls (ib_w 0 1700 (ib_c 0 0 0 rfl) rfl) (by try simp only [show (0 : Int32).toInt = (0 : Int) from rfl]; exact hq) (fun j h => absurd h (by have : (0 : Int32).toInt = 0 := rfl; omega)) (by have := (ib_c 0 0 0 rfl); unfold ib at this; omega) hP hD hS (lv_sub hl [1, 0] rfl)
set_option maxHeartbeats 4000000 in
set_option maxRecDepth 100000 in
theorem s_X10_qIsOn_a0_25 (l : Launch) (dC : Nat → ClassId) (dI : Nat → Nat → Nat) (cy : Nat → ClassId) (sq : Nat → Nat) (a_this : Nat) (rm : Nat → Nat) (x_taped : Int32) (x_at : Int32) (x_end : Int32) (x_ended : Int32) (x_bad : Int32) (x_badPlace : Int32) (x_fault : Int32) (x_faultPlace : Int32) (x_namePlace : Int32) (x_awayTold : Int32) (x_away : Int32) (x_coded : Int32) (x_statements : Int32) (x_isCrossing : Int32) (x_textKind : Int32) (x_askSecond : Int32) (x_redMany : Int32) (x_isOpen : Int32) (x_lastGreen : Int32) (x_greenTo : Int32) (x_isCycleGreen : Int32) (x_stillGreen : Int32) (x_rowMany : Int32) (x_fitMany : Int32) (x_fitRules : Int32) (x_fitGreen : Int32) (x_undoable : Int32) (x_newest : Int32) (x_seeded : Int64) (x_qCoded : Int32) (x_qWaits : Int32) (x_qOpened : Int32) (x_qBase : Int32) (x_qPiled : Int32) (x_qAnswer : Int64) (x_qIsNew : Int32) (x_octets : Int32) (g_qWait : Nat → Int32) (hx_qWaits : ib x_qWaits 0 1700) : k_Met l yX10_qIsOn cX10_qIsOn 2 (some .boolean) { frames := 0, cells := 0, slots := 0, locals := 0 } dC dI cy sq [.ref a_this, .int 25] [(a_this, .inr (10, mfs rm x_taped x_at x_end x_ended x_bad x_badPlace x_fault x_faultPlace x_namePlace x_awayTold x_away x_coded x_statements x_isCrossing x_textKind x_askSecond x_redMany x_isOpen x_lastGreen x_greenTo x_isCycleGreen x_stillGreen x_rowMany x_fitMany x_fitRules x_fitGreen x_undoable x_newest x_seeded x_qCoded x_qWaits x_qOpened x_qBase x_qPiled x_qAnswer x_qIsNew x_octets)), (wi_rm112_0_1700_0 rm cy g_qWait)] (k_Qi dC dI (fun (r : Int32) (_ : Unit) => ib r 0 1 ∧ (¬ r = 0 → ib x_qWaits 1 1700) ∧ ((¬ r = 0 → 1 ≤ x_qWaits.toInt ∧ g_qWait (x_qWaits.toInt - 1).toNat = 25) ∧ (r = 0 → x_qWaits.toInt ≤ 0 ∨ ¬ g_qWait (x_qWaits.toInt - 1).toNat = 25)) ∧ (F_X10_qIsOn_a0_25 (Int32.toInt x_qWaits) (lf_A g_qWait) = ((Int32.toInt r)))) (fun _ : Unit => [(a_this, .inr (10, mfs rm x_taped x_at x_end x_ended x_bad x_badPlace x_fault x_faultPlace x_namePlace x_awayTold x_away x_coded x_statements x_isCrossing x_textKind x_askSecond x_redMany x_isOpen x_lastGreen x_greenTo x_isCycleGreen x_stillGreen x_rowMany x_fitMany x_fitRules x_fitGreen x_undoable x_newest x_seeded x_qCoded x_qWaits x_qOpened x_qBase x_qPiled x_qAnswer x_qIsNew x_octets)), (wi_rm112_0_1700_0 rm cy g_qWait)])) := by
  refine k_ofW2 (by decide +kernel) (Nat.le_of_ble_eq_true rfl) ?_
  intro p e s m below meth c A ls H locs args Q hQ C0 hZ hr hlk hin hP hD hA hS hl
  have C0 : k_cx p s m args c cX10_qIsOn 2 RX10 dC dI cy sq := C0
  have hx := C0.1
  have hb := C0.2.1
  have hl : lv_has ls 2 [(0, .ref a_this), (1, .int 25)] := hl
  obtain ⟨O, hO⟩ : ∃ o, o = F_X10_qIsOn_a0_25 (Int32.toInt x_qWaits) (lf_A g_qWait) := ⟨_, rfl⟩
  have hq := hO
  unfold F_X10_qIsOn_a0_25 at hq
  refine lv_aload_n hx hb dX10_qIsOn_0 rfl (lv_at hl 0 rfl) ?_
  refine k_get C0 fg_X10_372 hP 0 rfl rfl dX10_qIsOn_1 ?_
  refine lv_if_le (tgt := 26) hx hb dX10_qIsOn_4 rfl (fun c1 => ?_) (fun c1 => ?_)
  · replace hq := lf_pos hq (lf_le (lf_rf x_qWaits) (lf_lc 0 (0 : Int) rfl) c1)
    have h2 := ib_le hx_qWaits (ib_c 0 0 0 rfl) c1
    have h3 : ib x_qWaits 0 0 := ib_w 0 0 h2.1 rfl
    refine lv_iconst (v := 0) hx hb dX10_qIsOn_26 rfl ?_
    subst hQ; exact k_iret hx hb hr hlk (k_nb 0 rfl) () hS ⟨ib_w 0 1 (ib_c 0 0 0 rfl) rfl, fun hq9 => absurd rfl hq9, ⟨fun q => absurd rfl q, fun _ => Or.inl (by have := (h3).1; have := (h3).2; omega)⟩, (hO.symm.trans (by try simp only [show (0 : Int32).toInt = (0 : Int) from rfl]; exact hq))⟩ hP hD (Nat.le_of_ble_eq_true rfl) (Nat.le_of_ble_eq_true rfl) dX10_qIsOn_27
  · replace hq := lf_neg hq (lf_nle (lf_rf x_qWaits) (lf_lc 0 (0 : Int) rfl) c1)
    have h4 := ib_nle hx_qWaits (ib_c 0 0 0 rfl) c1
    have h5 : ib x_qWaits 1 1700 := ib_w 1 1700 h4.1 rfl
    refine lv_aload_n hx hb dX10_qIsOn_7 rfl (lv_at hl 0 rfl) ?_
    refine k_get C0 fg_X10_267 hP 0 rfl rfl dX10_qIsOn_8 ?_
    refine lv_aload_n hx hb dX10_qIsOn_11 rfl (lv_at hl 0 rfl) ?_
    refine k_get C0 fg_X10_372 hP 0 rfl rfl dX10_qIsOn_12 ?_
    refine lv_iconst (v := 1) hx hb dX10_qIsOn_15 rfl ?_
    refine lv_isub hx hb dX10_qIsOn_16 ?_
    refine lv_topi (fun z6 ez6 => ?_)
    have h7 := ib_sub h5 (ib_c 1 1 1 rfl) rfl
    rw [← ez6] at h7
    have h8 : ib z6 0 1699 := ib_w 0 1699 h7.1 rfl
    have Ez6 := lf_sub h7.2 (lf_rf x_qWaits) (lf_lc 1 (1 : Int) rfl)
    refine va_iald hx hb C0.2.2.2.2.2.1 hP 1 0 rfl rfl (ib_in 1700 h8 rfl) dX10_qIsOn_17 ?_
    refine lv_topi (fun z9 ez9 => ?_)
    have Ez9 := lf_ld ez9 (lf_ra g_qWait) Ez6
    refine lv_iload_n hx hb dX10_qIsOn_18 rfl (lv_at hl 1 rfl) ?_
    refine lv_icmp_ne (tgt := 26) hx hb dX10_qIsOn_19 rfl (fun c10 => ?_) (fun c10 => ?_)
    · replace hq := lf_neg hq (lf_ne Ez9 (lf_lc 25 (25 : Int) rfl) c10)
      refine lv_iconst (v := 0) hx hb dX10_qIsOn_26 rfl ?_
      subst hQ; exact k_iret hx hb hr hlk (k_nb 0 rfl) () hS ⟨ib_w 0 1 (ib_c 0 0 0 rfl) rfl, fun hq9 => absurd rfl hq9, ⟨fun q => absurd rfl q, fun _ => Or.inr (by rw [show (x_qWaits.toInt - 1).toNat = Int32.toNatClampNeg z6 from by show _ = (Int32.toInt z6).toNat; have := (h5).1; have := (h5).2; have := (h8).1; have := (h8).2; have := h7.2; have : (1 : Int32).toInt = 1 := rfl; omega, ← ez9]; exact c10)⟩, (hO.symm.trans (by try simp only [show (0 : Int32).toInt = (0 : Int) from rfl]; exact hq))⟩ hP hD (Nat.le_of_ble_eq_true rfl) (Nat.le_of_ble_eq_true rfl) dX10_qIsOn_27
    · replace hq := lf_pos hq (lf_eq Ez9 (lf_lc 25 (25 : Int) rfl) c10)
      have h11 := ib_eq (ib_any z9) (ib_c 25 25 25 rfl) c10
      have h12 : ib z9 25 25 := ib_w 25 25 h11.1 rfl
      refine lv_iconst (v := 1) hx hb dX10_qIsOn_22 rfl ?_
      refine lv_goto (tgt := 27) hx hb dX10_qIsOn_23 rfl ?_
      subst hQ; exact k_iret hx hb hr hlk (k_nb 1 rfl) () hS ⟨ib_w 0 1 (ib_c 1 1 1 rfl) rfl, fun _ => ib_w 1 1700 h5 rfl, ⟨fun _ => ⟨by have := (h5).1; have := (h5).2; have := (h8).1; have := (h8).2; have := h7.2; have : (1 : Int32).toInt = 1 := rfl; omega, by rw [show (x_qWaits.toInt - 1).toNat = Int32.toNatClampNeg z6 from by show _ = (Int32.toInt z6).toNat; have := (h5).1; have := (h5).2; have := (h8).1; have := (h8).2; have := h7.2; have : (1 : Int32).toInt = 1 := rfl; omega, ← ez9]; exact ib_one h12 rfl⟩, fun q => absurd q (by decide)⟩, (hO.symm.trans (by try simp only [show (1 : Int32).toInt = (1 : Int) from rfl]; exact hq))⟩ hP hD (Nat.le_of_ble_eq_true rfl) (Nat.le_of_ble_eq_true rfl) dX10_qIsOn_27
set_option maxHeartbeats 4000000 in
set_option maxRecDepth 100000 in
theorem s_X10_qIsOn_a0_10 (l : Launch) (dC : Nat → ClassId) (dI : Nat → Nat → Nat) (cy : Nat → ClassId) (sq : Nat → Nat) (a_this : Nat) (rm : Nat → Nat) (x_taped : Int32) (x_at : Int32) (x_end : Int32) (x_ended : Int32) (x_bad : Int32) (x_badPlace : Int32) (x_fault : Int32) (x_faultPlace : Int32) (x_namePlace : Int32) (x_awayTold : Int32) (x_away : Int32) (x_coded : Int32) (x_statements : Int32) (x_isCrossing : Int32) (x_textKind : Int32) (x_askSecond : Int32) (x_redMany : Int32) (x_isOpen : Int32) (x_lastGreen : Int32) (x_greenTo : Int32) (x_isCycleGreen : Int32) (x_stillGreen : Int32) (x_rowMany : Int32) (x_fitMany : Int32) (x_fitRules : Int32) (x_fitGreen : Int32) (x_undoable : Int32) (x_newest : Int32) (x_seeded : Int64) (x_qCoded : Int32) (x_qWaits : Int32) (x_qOpened : Int32) (x_qBase : Int32) (x_qPiled : Int32) (x_qAnswer : Int64) (x_qIsNew : Int32) (x_octets : Int32) (g_qWait : Nat → Int32) (hx_qWaits : ib x_qWaits 0 1700) : k_Met l yX10_qIsOn cX10_qIsOn 2 (some .boolean) { frames := 0, cells := 0, slots := 0, locals := 0 } dC dI cy sq [.ref a_this, .int 10] [(a_this, .inr (10, mfs rm x_taped x_at x_end x_ended x_bad x_badPlace x_fault x_faultPlace x_namePlace x_awayTold x_away x_coded x_statements x_isCrossing x_textKind x_askSecond x_redMany x_isOpen x_lastGreen x_greenTo x_isCycleGreen x_stillGreen x_rowMany x_fitMany x_fitRules x_fitGreen x_undoable x_newest x_seeded x_qCoded x_qWaits x_qOpened x_qBase x_qPiled x_qAnswer x_qIsNew x_octets)), (wi_rm112_0_1700_0 rm cy g_qWait)] (k_Qi dC dI (fun (r : Int32) (_ : Unit) => ib r 0 1 ∧ (¬ r = 0 → ib x_qWaits 1 1700) ∧ ((¬ r = 0 → 1 ≤ x_qWaits.toInt ∧ g_qWait (x_qWaits.toInt - 1).toNat = 10) ∧ (r = 0 → x_qWaits.toInt ≤ 0 ∨ ¬ g_qWait (x_qWaits.toInt - 1).toNat = 10)) ∧ (F_X10_qIsOn_a0_10 (Int32.toInt x_qWaits) (lf_A g_qWait) = ((Int32.toInt r)))) (fun _ : Unit => [(a_this, .inr (10, mfs rm x_taped x_at x_end x_ended x_bad x_badPlace x_fault x_faultPlace x_namePlace x_awayTold x_away x_coded x_statements x_isCrossing x_textKind x_askSecond x_redMany x_isOpen x_lastGreen x_greenTo x_isCycleGreen x_stillGreen x_rowMany x_fitMany x_fitRules x_fitGreen x_undoable x_newest x_seeded x_qCoded x_qWaits x_qOpened x_qBase x_qPiled x_qAnswer x_qIsNew x_octets)), (wi_rm112_0_1700_0 rm cy g_qWait)])) := by
  refine k_ofW2 (by decide +kernel) (Nat.le_of_ble_eq_true rfl) ?_
  intro p e s m below meth c A ls H locs args Q hQ C0 hZ hr hlk hin hP hD hA hS hl
  have C0 : k_cx p s m args c cX10_qIsOn 2 RX10 dC dI cy sq := C0
  have hx := C0.1
  have hb := C0.2.1
  have hl : lv_has ls 2 [(0, .ref a_this), (1, .int 10)] := hl
  obtain ⟨O, hO⟩ : ∃ o, o = F_X10_qIsOn_a0_10 (Int32.toInt x_qWaits) (lf_A g_qWait) := ⟨_, rfl⟩
  have hq := hO
  unfold F_X10_qIsOn_a0_10 at hq
  refine lv_aload_n hx hb dX10_qIsOn_0 rfl (lv_at hl 0 rfl) ?_
  refine k_get C0 fg_X10_372 hP 0 rfl rfl dX10_qIsOn_1 ?_
  refine lv_if_le (tgt := 26) hx hb dX10_qIsOn_4 rfl (fun c1 => ?_) (fun c1 => ?_)
  · replace hq := lf_pos hq (lf_le (lf_rf x_qWaits) (lf_lc 0 (0 : Int) rfl) c1)
    have h2 := ib_le hx_qWaits (ib_c 0 0 0 rfl) c1
    have h3 : ib x_qWaits 0 0 := ib_w 0 0 h2.1 rfl
    refine lv_iconst (v := 0) hx hb dX10_qIsOn_26 rfl ?_
    subst hQ; exact k_iret hx hb hr hlk (k_nb 0 rfl) () hS ⟨ib_w 0 1 (ib_c 0 0 0 rfl) rfl, fun hq9 => absurd rfl hq9, ⟨fun q => absurd rfl q, fun _ => Or.inl (by have := (h3).1; have := (h3).2; omega)⟩, (hO.symm.trans (by try simp only [show (0 : Int32).toInt = (0 : Int) from rfl]; exact hq))⟩ hP hD (Nat.le_of_ble_eq_true rfl) (Nat.le_of_ble_eq_true rfl) dX10_qIsOn_27
  · replace hq := lf_neg hq (lf_nle (lf_rf x_qWaits) (lf_lc 0 (0 : Int) rfl) c1)
    have h4 := ib_nle hx_qWaits (ib_c 0 0 0 rfl) c1
    have h5 : ib x_qWaits 1 1700 := ib_w 1 1700 h4.1 rfl
    refine lv_aload_n hx hb dX10_qIsOn_7 rfl (lv_at hl 0 rfl) ?_
    refine k_get C0 fg_X10_267 hP 0 rfl rfl dX10_qIsOn_8 ?_
    refine lv_aload_n hx hb dX10_qIsOn_11 rfl (lv_at hl 0 rfl) ?_
    refine k_get C0 fg_X10_372 hP 0 rfl rfl dX10_qIsOn_12 ?_
    refine lv_iconst (v := 1) hx hb dX10_qIsOn_15 rfl ?_
    refine lv_isub hx hb dX10_qIsOn_16 ?_
    refine lv_topi (fun z6 ez6 => ?_)
    have h7 := ib_sub h5 (ib_c 1 1 1 rfl) rfl
    rw [← ez6] at h7
    have h8 : ib z6 0 1699 := ib_w 0 1699 h7.1 rfl
    have Ez6 := lf_sub h7.2 (lf_rf x_qWaits) (lf_lc 1 (1 : Int) rfl)
    refine va_iald hx hb C0.2.2.2.2.2.1 hP 1 0 rfl rfl (ib_in 1700 h8 rfl) dX10_qIsOn_17 ?_
    refine lv_topi (fun z9 ez9 => ?_)
    have Ez9 := lf_ld ez9 (lf_ra g_qWait) Ez6
    refine lv_iload_n hx hb dX10_qIsOn_18 rfl (lv_at hl 1 rfl) ?_
    refine lv_icmp_ne (tgt := 26) hx hb dX10_qIsOn_19 rfl (fun c10 => ?_) (fun c10 => ?_)
    · replace hq := lf_neg hq (lf_ne Ez9 (lf_lc 10 (10 : Int) rfl) c10)
      refine lv_iconst (v := 0) hx hb dX10_qIsOn_26 rfl ?_
      subst hQ; exact k_iret hx hb hr hlk (k_nb 0 rfl) () hS ⟨ib_w 0 1 (ib_c 0 0 0 rfl) rfl, fun hq9 => absurd rfl hq9, ⟨fun q => absurd rfl q, fun _ => Or.inr (by rw [show (x_qWaits.toInt - 1).toNat = Int32.toNatClampNeg z6 from by show _ = (Int32.toInt z6).toNat; have := (h5).1; have := (h5).2; have := (h8).1; have := (h8).2; have := h7.2; have : (1 : Int32).toInt = 1 := rfl; omega, ← ez9]; exact c10)⟩, (hO.symm.trans (by try simp only [show (0 : Int32).toInt = (0 : Int) from rfl]; exact hq))⟩ hP hD (Nat.le_of_ble_eq_true rfl) (Nat.le_of_ble_eq_true rfl) dX10_qIsOn_27
    · replace hq := lf_pos hq (lf_eq Ez9 (lf_lc 10 (10 : Int) rfl) c10)
      have h11 := ib_eq (ib_any z9) (ib_c 10 10 10 rfl) c10
      have h12 : ib z9 10 10 := ib_w 10 10 h11.1 rfl
      refine lv_iconst (v := 1) hx hb dX10_qIsOn_22 rfl ?_
      refine lv_goto (tgt := 27) hx hb dX10_qIsOn_23 rfl ?_
      subst hQ; exact k_iret hx hb hr hlk (k_nb 1 rfl) () hS ⟨ib_w 0 1 (ib_c 1 1 1 rfl) rfl, fun _ => ib_w 1 1700 h5 rfl, ⟨fun _ => ⟨by have := (h5).1; have := (h5).2; have := (h8).1; have := (h8).2; have := h7.2; have : (1 : Int32).toInt = 1 := rfl; omega, by rw [show (x_qWaits.toInt - 1).toNat = Int32.toNatClampNeg z6 from by show _ = (Int32.toInt z6).toNat; have := (h5).1; have := (h5).2; have := (h8).1; have := (h8).2; have := h7.2; have : (1 : Int32).toInt = 1 := rfl; omega, ← ez9]; exact ib_one h12 rfl⟩, fun q => absurd q (by decide)⟩, (hO.symm.trans (by try simp only [show (1 : Int32).toInt = (1 : Int) from rfl]; exact hq))⟩ hP hD (Nat.le_of_ble_eq_true rfl) (Nat.le_of_ble_eq_true rfl) dX10_qIsOn_27
set_option maxHeartbeats 4000000 in
set_option maxRecDepth 100000 in
theorem s_X10_qIsOn_a0_11 (l : Launch) (dC : Nat → ClassId) (dI : Nat → Nat → Nat) (cy : Nat → ClassId) (sq : Nat → Nat) (a_this : Nat) (rm : Nat → Nat) (x_taped : Int32) (x_at : Int32) (x_end : Int32) (x_ended : Int32) (x_bad : Int32) (x_badPlace : Int32) (x_fault : Int32) (x_faultPlace : Int32) (x_namePlace : Int32) (x_awayTold : Int32) (x_away : Int32) (x_coded : Int32) (x_statements : Int32) (x_isCrossing : Int32) (x_textKind : Int32) (x_askSecond : Int32) (x_redMany : Int32) (x_isOpen : Int32) (x_lastGreen : Int32) (x_greenTo : Int32) (x_isCycleGreen : Int32) (x_stillGreen : Int32) (x_rowMany : Int32) (x_fitMany : Int32) (x_fitRules : Int32) (x_fitGreen : Int32) (x_undoable : Int32) (x_newest : Int32) (x_seeded : Int64) (x_qCoded : Int32) (x_qWaits : Int32) (x_qOpened : Int32) (x_qBase : Int32) (x_qPiled : Int32) (x_qAnswer : Int64) (x_qIsNew : Int32) (x_octets : Int32) (g_qWait : Nat → Int32) (hx_qWaits : ib x_qWaits 0 1700) : k_Met l yX10_qIsOn cX10_qIsOn 2 (some .boolean) { frames := 0, cells := 0, slots := 0, locals := 0 } dC dI cy sq [.ref a_this, .int 11] [(a_this, .inr (10, mfs rm x_taped x_at x_end x_ended x_bad x_badPlace x_fault x_faultPlace x_namePlace x_awayTold x_away x_coded x_statements x_isCrossing x_textKind x_askSecond x_redMany x_isOpen x_lastGreen x_greenTo x_isCycleGreen x_stillGreen x_rowMany x_fitMany x_fitRules x_fitGreen x_undoable x_newest x_seeded x_qCoded x_qWaits x_qOpened x_qBase x_qPiled x_qAnswer x_qIsNew x_octets)), (wi_rm112_0_1700_0 rm cy g_qWait)] (k_Qi dC dI (fun (r : Int32) (_ : Unit) => ib r 0 1 ∧ (¬ r = 0 → ib x_qWaits 1 1700) ∧ ((¬ r = 0 → 1 ≤ x_qWaits.toInt ∧ g_qWait (x_qWaits.toInt - 1).toNat = 11) ∧ (r = 0 → x_qWaits.toInt ≤ 0 ∨ ¬ g_qWait (x_qWaits.toInt - 1).toNat = 11)) ∧ (F_X10_qIsOn_a0_11 (Int32.toInt x_qWaits) (lf_A g_qWait) = ((Int32.toInt r)))) (fun _ : Unit => [(a_this, .inr (10, mfs rm x_taped x_at x_end x_ended x_bad x_badPlace x_fault x_faultPlace x_namePlace x_awayTold x_away x_coded x_statements x_isCrossing x_textKind x_askSecond x_redMany x_isOpen x_lastGreen x_greenTo x_isCycleGreen x_stillGreen x_rowMany x_fitMany x_fitRules x_fitGreen x_undoable x_newest x_seeded x_qCoded x_qWaits x_qOpened x_qBase x_qPiled x_qAnswer x_qIsNew x_octets)), (wi_rm112_0_1700_0 rm cy g_qWait)])) := by
  refine k_ofW2 (by decide +kernel) (Nat.le_of_ble_eq_true rfl) ?_
  intro p e s m below meth c A ls H locs args Q hQ C0 hZ hr hlk hin hP hD hA hS hl
  have C0 : k_cx p s m args c cX10_qIsOn 2 RX10 dC dI cy sq := C0
  have hx := C0.1
  have hb := C0.2.1
  have hl : lv_has ls 2 [(0, .ref a_this), (1, .int 11)] := hl
  obtain ⟨O, hO⟩ : ∃ o, o = F_X10_qIsOn_a0_11 (Int32.toInt x_qWaits) (lf_A g_qWait) := ⟨_, rfl⟩
  have hq := hO
  unfold F_X10_qIsOn_a0_11 at hq
  refine lv_aload_n hx hb dX10_qIsOn_0 rfl (lv_at hl 0 rfl) ?_
  refine k_get C0 fg_X10_372 hP 0 rfl rfl dX10_qIsOn_1 ?_
  refine lv_if_le (tgt := 26) hx hb dX10_qIsOn_4 rfl (fun c1 => ?_) (fun c1 => ?_)
  · replace hq := lf_pos hq (lf_le (lf_rf x_qWaits) (lf_lc 0 (0 : Int) rfl) c1)
    have h2 := ib_le hx_qWaits (ib_c 0 0 0 rfl) c1
    have h3 : ib x_qWaits 0 0 := ib_w 0 0 h2.1 rfl
    refine lv_iconst (v := 0) hx hb dX10_qIsOn_26 rfl ?_
    subst hQ; exact k_iret hx hb hr hlk (k_nb 0 rfl) () hS ⟨ib_w 0 1 (ib_c 0 0 0 rfl) rfl, fun hq9 => absurd rfl hq9, ⟨fun q => absurd rfl q, fun _ => Or.inl (by have := (h3).1; have := (h3).2; omega)⟩, (hO.symm.trans (by try simp only [show (0 : Int32).toInt = (0 : Int) from rfl]; exact hq))⟩ hP hD (Nat.le_of_ble_eq_true rfl) (Nat.le_of_ble_eq_true rfl) dX10_qIsOn_27
  · replace hq := lf_neg hq (lf_nle (lf_rf x_qWaits) (lf_lc 0 (0 : Int) rfl) c1)
    have h4 := ib_nle hx_qWaits (ib_c 0 0 0 rfl) c1
    have h5 : ib x_qWaits 1 1700 := ib_w 1 1700 h4.1 rfl
    refine lv_aload_n hx hb dX10_qIsOn_7 rfl (lv_at hl 0 rfl) ?_
    refine k_get C0 fg_X10_267 hP 0 rfl rfl dX10_qIsOn_8 ?_
    refine lv_aload_n hx hb dX10_qIsOn_11 rfl (lv_at hl 0 rfl) ?_
    refine k_get C0 fg_X10_372 hP 0 rfl rfl dX10_qIsOn_12 ?_
    refine lv_iconst (v := 1) hx hb dX10_qIsOn_15 rfl ?_
    refine lv_isub hx hb dX10_qIsOn_16 ?_
    refine lv_topi (fun z6 ez6 => ?_)
    have h7 := ib_sub h5 (ib_c 1 1 1 rfl) rfl
    rw [← ez6] at h7
    have h8 : ib z6 0 1699 := ib_w 0 1699 h7.1 rfl
    have Ez6 := lf_sub h7.2 (lf_rf x_qWaits) (lf_lc 1 (1 : Int) rfl)
    refine va_iald hx hb C0.2.2.2.2.2.1 hP 1 0 rfl rfl (ib_in 1700 h8 rfl) dX10_qIsOn_17 ?_
    refine lv_topi (fun z9 ez9 => ?_)
    have Ez9 := lf_ld ez9 (lf_ra g_qWait) Ez6
    refine lv_iload_n hx hb dX10_qIsOn_18 rfl (lv_at hl 1 rfl) ?_
    refine lv_icmp_ne (tgt := 26) hx hb dX10_qIsOn_19 rfl (fun c10 => ?_) (fun c10 => ?_)
    · replace hq := lf_neg hq (lf_ne Ez9 (lf_lc 11 (11 : Int) rfl) c10)
      refine lv_iconst (v := 0) hx hb dX10_qIsOn_26 rfl ?_
      subst hQ; exact k_iret hx hb hr hlk (k_nb 0 rfl) () hS ⟨ib_w 0 1 (ib_c 0 0 0 rfl) rfl, fun hq9 => absurd rfl hq9, ⟨fun q => absurd rfl q, fun _ => Or.inr (by rw [show (x_qWaits.toInt - 1).toNat = Int32.toNatClampNeg z6 from by show _ = (Int32.toInt z6).toNat; have := (h5).1; have := (h5).2; have := (h8).1; have := (h8).2; have := h7.2; have : (1 : Int32).toInt = 1 := rfl; omega, ← ez9]; exact c10)⟩, (hO.symm.trans (by try simp only [show (0 : Int32).toInt = (0 : Int) from rfl]; exact hq))⟩ hP hD (Nat.le_of_ble_eq_true rfl) (Nat.le_of_ble_eq_true rfl) dX10_qIsOn_27
    · replace hq := lf_pos hq (lf_eq Ez9 (lf_lc 11 (11 : Int) rfl) c10)
      have h11 := ib_eq (ib_any z9) (ib_c 11 11 11 rfl) c10
      have h12 : ib z9 11 11 := ib_w 11 11 h11.1 rfl
      refine lv_iconst (v := 1) hx hb dX10_qIsOn_22 rfl ?_
      refine lv_goto (tgt := 27) hx hb dX10_qIsOn_23 rfl ?_
      subst hQ; exact k_iret hx hb hr hlk (k_nb 1 rfl) () hS ⟨ib_w 0 1 (ib_c 1 1 1 rfl) rfl, fun _ => ib_w 1 1700 h5 rfl, ⟨fun _ => ⟨by have := (h5).1; have := (h5).2; have := (h8).1; have := (h8).2; have := h7.2; have : (1 : Int32).toInt = 1 := rfl; omega, by rw [show (x_qWaits.toInt - 1).toNat = Int32.toNatClampNeg z6 from by show _ = (Int32.toInt z6).toNat; have := (h5).1; have := (h5).2; have := (h8).1; have := (h8).2; have := h7.2; have : (1 : Int32).toInt = 1 := rfl; omega, ← ez9]; exact ib_one h12 rfl⟩, fun q => absurd q (by decide)⟩, (hO.symm.trans (by try simp only [show (1 : Int32).toInt = (1 : Int) from rfl]; exact hq))⟩ hP hD (Nat.le_of_ble_eq_true rfl) (Nat.le_of_ble_eq_true rfl) dX10_qIsOn_27
set_option maxHeartbeats 4000000 in
set_option maxRecDepth 100000 in
theorem s_X10_qGoesOnTest (l : Launch) (dC : Nat → ClassId) (dI : Nat → Nat → Nat) (cy : Nat → ClassId) (sq : Nat → Nat) (a_this : Nat) (rm : Nat → Nat) (x_taped : Int32) (x_at : Int32) (x_end : Int32) (x_ended : Int32) (x_bad : Int32) (x_badPlace : Int32) (x_fault : Int32) (x_faultPlace : Int32) (x_namePlace : Int32) (x_awayTold : Int32) (x_away : Int32) (x_coded : Int32) (x_statements : Int32) (x_isCrossing : Int32) (x_textKind : Int32) (x_askSecond : Int32) (x_redMany : Int32) (x_isOpen : Int32) (x_lastGreen : Int32) (x_greenTo : Int32) (x_isCycleGreen : Int32) (x_stillGreen : Int32) (x_rowMany : Int32) (x_fitMany : Int32) (x_fitRules : Int32) (x_fitGreen : Int32) (x_undoable : Int32) (x_newest : Int32) (x_seeded : Int64) (x_qCoded : Int32) (x_qWaits : Int32) (x_qOpened : Int32) (x_qBase : Int32) (x_qPiled : Int32) (x_qAnswer : Int64) (x_qIsNew : Int32) (x_octets : Int32) (g_tape : Nat → Int32) (g_andAsked : Nat → Int32) (g_orAsked : Nat → Int32) (g_qCodes : Nat → Int32) (g_qWait : Nat → Int32) (cc : Nat) (hx_at : ib x_at 0 1600) (hx_end : ib x_end 0 1600) (hx_bad : ib x_bad 0 0) (hx_qCoded : ib x_qCoded 0 1700) (hx_qWaits : ib x_qWaits 0 1700) (hg_tape : ia g_tape 1600 0 255) (hL0 : 1 * x_qCoded.toInt + 1 * x_qWaits.toInt + (-1) * x_at.toInt ≤ 20) (hGS : x_bad = 0 → GS g_qCodes x_qCoded g_qWait x_qWaits x_qWaits x_textKind (cc + 1)) : k_Met l yX10_qGoesOnTest cX10_qGoesOnTest 1 (some .boolean) { frames := 3, cells := 0, slots := 0, locals := 64 } dC dI cy sq [.ref a_this] [(a_this, .inr (10, mfs rm x_taped x_at x_end x_ended x_bad x_badPlace x_fault x_faultPlace x_namePlace x_awayTold x_away x_coded x_statements x_isCrossing x_textKind x_askSecond x_redMany x_isOpen x_lastGreen x_greenTo x_isCycleGreen x_stillGreen x_rowMany x_fitMany x_fitRules x_fitGreen x_undoable x_newest x_seeded x_qCoded x_qWaits x_qOpened x_qBase x_qPiled x_qAnswer x_qIsNew x_octets)), (wi_rm0_0_1600_0 rm cy g_tape), (wi_rm92_2_3_0 rm cy g_andAsked), (wi_rm93_2_2_0 rm cy g_orAsked), (wi_rm112_0_1700_0 rm cy g_qWait), (wi_rm110_0_1700_0 rm cy g_qCodes)] (k_Qi dC dI (fun (r : Int32) (u : Int32 × Int32 × Int32 × Int32 × Int32 × Int32 × Int32 × (Nat → Int32) × (Nat → Int32)) => match u with | (n0, n1, n2, n3, n4, n5, n6, n7, n8) => ib n0 0 1600 ∧ ib n2 0 1 ∧ ib n4 0 1621 ∧ ib n5 0 1622 ∧ ib r 0 1 ∧ (¬ r = 0 → ib n0 2 1600) ∧ (¬ r = 0 → ib n1 2 1600) ∧ (¬ r = 0 → ib n2 0 0) ∧ (¬ r = 0 → ib n5 1 1622) ∧ (¬ r = 0 → ib x_end 1 1600) ∧ (¬ r = 0 → ib x_qCoded 0 1620) ∧ (¬ r = 0 → ib x_qWaits 0 1620) ∧ (n2 = 0 → x_bad = 0) ∧ (1 * n4.toInt + 1 * n5.toInt + (-1) * n0.toInt + (-1) * x_qCoded.toInt + (-1) * x_qWaits.toInt + 1 * x_at.toInt ≤ 3) ∧ (n2 = 0 → 1 * n4.toInt + 1 * n5.toInt + (-1) * n0.toInt + (-1) * x_qCoded.toInt + (-1) * x_qWaits.toInt + 1 * x_at.toInt ≤ 0) ∧ (1 * x_at.toInt + (-1) * n0.toInt ≤ 0) ∧ (¬ r = 0 → n2 = 0 → GS n8 n4 n7 n5 n5 x_textKind cc) ∧ (r = 0 → n2 = 0 → GS n8 n4 n7 n5 n5 x_textKind (cc + 1) ∧ (∀ i : Nat, i < n5.toInt.toNat → ¬ n7 i = 25)) ∧ (F_X10_qGoesOnTest (Int32.toInt x_at) (Int32.toInt x_end) (Int32.toInt x_ended) (Int32.toInt x_bad) (Int32.toInt x_badPlace) (Int32.toInt x_qCoded) (Int32.toInt x_qWaits) (Int32.toInt x_qOpened) (lf_A g_tape) (lf_A g_andAsked) (lf_A g_orAsked) (lf_A g_qCodes) (lf_A g_qWait) = ((Int32.toInt r), (Int32.toInt n0), (Int32.toInt n1), (Int32.toInt n2), (Int32.toInt n3), (Int32.toInt n4), (Int32.toInt n5), (Int32.toInt n6), (lf_A n7), (lf_A n8)))) (fun u : Int32 × Int32 × Int32 × Int32 × Int32 × Int32 × Int32 × (Nat → Int32) × (Nat → Int32) => match u with | (n0, n1, n2, n3, n4, n5, n6, n7, n8) => [(a_this, .inr (10, mfs rm x_taped n0 x_end n1 n2 n3 x_fault x_faultPlace x_namePlace x_awayTold x_away x_coded x_statements x_isCrossing x_textKind x_askSecond x_redMany x_isOpen x_lastGreen x_greenTo x_isCycleGreen x_stillGreen x_rowMany x_fitMany x_fitRules x_fitGreen x_undoable x_newest x_seeded n4 n5 n6 x_qBase x_qPiled x_qAnswer x_qIsNew x_octets)), (wi_rm0_0_1600_0 rm cy g_tape), (wi_rm92_2_3_0 rm cy g_andAsked), (wi_rm93_2_2_0 rm cy g_orAsked), (wi_rm112_0_1700_0 rm cy n7), (wi_rm110_0_1700_0 rm cy n8)])) := by
  refine k_ofW2 (by decide +kernel) (Nat.le_of_ble_eq_true rfl) ?_
  intro p e s m below meth c A ls H locs args Q hQ C0 hZ hr hlk hin hP hD hA hS hl
  have C0 : k_cx p s m args c cX10_qGoesOnTest 1 RX10 dC dI cy sq := C0
  have hx := C0.1
  have hb := C0.2.1
  have hl : lv_has ls 1 [(0, .ref a_this)] := hl
  obtain ⟨O, hO⟩ : ∃ o, o = F_X10_qGoesOnTest (Int32.toInt x_at) (Int32.toInt x_end) (Int32.toInt x_ended) (Int32.toInt x_bad) (Int32.toInt x_badPlace) (Int32.toInt x_qCoded) (Int32.toInt x_qWaits) (Int32.toInt x_qOpened) (lf_A g_tape) (lf_A g_andAsked) (lf_A g_orAsked) (lf_A g_qCodes) (lf_A g_qWait) := ⟨_, rfl⟩
  have hq := hO
  unfold F_X10_qGoesOnTest at hq
  have jn137 : ∀ (n : Nat) (J137_c0_2 : Int32) (J137_c0_4 : Int32) (J137_c0_111 : Int32) (J137_c0_113 : Int32) (J137_c0_114 : Int32) (J137_a5 : Nat → Int32) (H : Heap) (locs : List Loc) (ls : Array Slot), ib J137_c0_2 2 1600 → ib x_end 1 1600 → ib J137_c0_4 2 1600 → ib J137_c0_111 0 1621 → ib J137_c0_113 0 1621 → (1 * J137_c0_111.toInt + 1 * J137_c0_113.toInt + (-1) * J137_c0_2.toInt + (-1) * x_qCoded.toInt + (-1) * x_qWaits.toInt + 1 * x_at.toInt ≤ 1) → (1 * J137_c0_111.toInt + 1 * J137_c0_113.toInt + (-1) * J137_c0_2.toInt ≤ 21) → (1 * x_at.toInt + (-1) * J137_c0_2.toInt ≤ 0) → ((x_bad = 0 → GS J137_a5 J137_c0_111 g_qWait J137_c0_113 J137_c0_113 x_textKind (cc + 1)) ∧ (x_bad = 0 → 1 * J137_c0_111.toInt + 1 * J137_c0_113.toInt + (-1) * J137_c0_2.toInt + (-1) * x_qCoded.toInt + (-1) * x_qWaits.toInt + 1 * x_at.toInt ≤ (-1))) → (O = F_X10_qGoesOnTest_137 (Int32.toInt x_bad) (Int32.toInt x_badPlace) (lf_A g_qWait) n (Int32.toInt J137_c0_2) (Int32.toInt J137_c0_4) (Int32.toInt J137_c0_111) (Int32.toInt J137_c0_113) (Int32.toInt J137_c0_114) (lf_A J137_a5)) → 1622 ≤ J137_c0_111.toInt + (n : Int) → va_P (dC, dI) vwCl [(a_this, .inr (10, mfs rm x_taped J137_c0_2 x_end J137_c0_4 x_bad x_badPlace x_fault x_faultPlace x_namePlace x_awayTold x_away x_coded x_statements x_isCrossing x_textKind x_askSecond x_redMany x_isOpen x_lastGreen x_greenTo x_isCycleGreen x_stillGreen x_rowMany x_fitMany x_fitRules x_fitGreen x_undoable x_newest x_seeded J137_c0_111 J137_c0_113 J137_c0_114 x_qBase x_qPiled x_qAnswer x_qIsNew x_octets)), (wi_rm0_0_1600_0 rm cy g_tape), (wi_rm92_2_3_0 rm cy g_andAsked), (wi_rm93_2_2_0 rm cy g_orAsked), (wi_rm112_0_1700_0 rm cy g_qWait), (wi_rm110_0_1700_0 rm cy J137_a5)] H → va_D A [(a_this, .inr (10, mfs rm x_taped J137_c0_2 x_end J137_c0_4 x_bad x_badPlace x_fault x_faultPlace x_namePlace x_awayTold x_away x_coded x_statements x_isCrossing x_textKind x_askSecond x_redMany x_isOpen x_lastGreen x_greenTo x_isCycleGreen x_stillGreen x_rowMany x_fitMany x_fitRules x_fitGreen x_undoable x_newest x_seeded J137_c0_111 J137_c0_113 J137_c0_114 x_qBase x_qPiled x_qAnswer x_qIsNew x_octets)), (wi_rm0_0_1600_0 rm cy g_tape), (wi_rm92_2_3_0 rm cy g_andAsked), (wi_rm93_2_2_0 rm cy g_orAsked), (wi_rm112_0_1700_0 rm cy g_qWait), (wi_rm110_0_1700_0 rm cy J137_a5)] → va_S A s.heap H locs → lv_has ls 1 [(0, .ref a_this)] → W p l e { frames := 3, cells := 0, slots := 0, locals := 64 } s m args below meth c H locs 0 0 Q (F0 m 137 ls []) := by
    as_aux_lemma =>
      intro n
      induction n with
      | zero =>
        intro J137_c0_2 J137_c0_4 J137_c0_111 J137_c0_113 J137_c0_114 J137_a5 H locs ls hJ137_c0_2 hK137_x_end hJ137_c0_4 hJ137_c0_111 hJ137_c0_113 hJ137_lin0 hJ137_lin1 hJ137_lin2 hJ137_go hq hm
        exact absurd hm (by have := hJ137_c0_111; unfold ib at this; omega)
      | succ n ih =>
        intro J137_c0_2 J137_c0_4 J137_c0_111 J137_c0_113 J137_c0_114 J137_a5 H locs ls hJ137_c0_2 hK137_x_end hJ137_c0_4 hJ137_c0_111 hJ137_c0_113 hJ137_lin0 hJ137_lin1 hJ137_lin2 hJ137_go hq hm137 hP hD hS hl
        have ih137 := ih
        obtain ⟨K137, hK137⟩ : ∃ K, K = F_X10_qGoesOnTest_137 (Int32.toInt x_bad) (Int32.toInt x_badPlace) (lf_A g_qWait) n := ⟨_, rfl⟩
        have hq : O = F_X10_qGoesOnTest_137b (Int32.toInt x_bad) (Int32.toInt x_badPlace) (lf_A g_qWait) K137 (Int32.toInt J137_c0_2) (Int32.toInt J137_c0_4) (Int32.toInt J137_c0_111) (Int32.toInt J137_c0_113) (Int32.toInt J137_c0_114) (lf_A J137_a5) := by rw [hK137]; exact hq
        unfold F_X10_qGoesOnTest_137b at hq
        refine lv_aload_n hx hb dX10_qGoesOnTest_137 rfl (lv_at hl 0 rfl) ?_
        refine lv_bipush (v := 10) hx hb dX10_qGoesOnTest_138 rfl ?_
        refine k_jim hP hD hS hA [0, 4] [false, true, true, true, false, true] rfl rfl rfl 0 0 (Nat.le_of_ble_eq_true rfl) (Nat.le_of_ble_eq_true rfl) (fun hPc hDc => k_runV (As := [.int 10]) (rest := []) C0 hZ hS hA (s_X10_qIsOn_a0_10 l dC dI cy sq a_this rm x_taped J137_c0_2 x_end J137_c0_4 x_bad x_badPlace x_fault x_faultPlace x_namePlace x_awayTold x_away x_coded x_statements x_isCrossing x_textKind x_askSecond x_redMany x_isOpen x_lastGreen x_greenTo x_isCycleGreen x_stillGreen x_rowMany x_fitMany x_fitRules x_fitGreen x_undoable x_newest x_seeded J137_c0_111 J137_c0_113 J137_c0_114 x_qBase x_qPiled x_qAnswer x_qIsNew x_octets g_qWait (ib_w 0 1700 hJ137_c0_113 rfl)) mV_X10_641 hPc hDc rfl rfl rfl hl rfl rfl (Nat.le_of_ble_eq_true rfl) ⟨(Nat.le_of_ble_eq_true rfl), (Nat.le_of_ble_eq_true rfl)⟩ ⟨(Nat.le_of_ble_eq_true rfl), (Nat.le_of_ble_eq_true rfl)⟩ dX10_qGoesOnTest_140) (fun r1 u2 H locs hw hP hD hS => ?_)
        try dsimp only at hP hD hw
        replace hP : va_P (dC, dI) vwCl [(wi_rm0_0_1600_0 rm cy g_tape), (wi_rm92_2_3_0 rm cy g_andAsked), (wi_rm93_2_2_0 rm cy g_orAsked), (wi_rm110_0_1700_0 rm cy J137_a5), (a_this, .inr (10, mfs rm x_taped J137_c0_2 x_end J137_c0_4 x_bad x_badPlace x_fault x_faultPlace x_namePlace x_awayTold x_away x_coded x_statements x_isCrossing x_textKind x_askSecond x_redMany x_isOpen x_lastGreen x_greenTo x_isCycleGreen x_stillGreen x_rowMany x_fitMany x_fitRules x_fitGreen x_undoable x_newest x_seeded J137_c0_111 J137_c0_113 J137_c0_114 x_qBase x_qPiled x_qAnswer x_qIsNew x_octets)), (wi_rm112_0_1700_0 rm cy g_qWait)] H := hP
        replace hD := k_D hP hD
        obtain ⟨h3, h4, h5, h6⟩ := hw
        replace hq := lf_b1 hq h6
        refine lv_if_ne (tgt := 155) hx hb dX10_qGoesOnTest_143 rfl (fun c7 => ?_) (fun c7 => ?_)
        · as_aux_lemma =>
            replace hq := lf_neg hq (lf_ne (lf_rf r1) (lf_lc 0 (0 : Int) rfl) c7)
            have h8 : ib r1 1 1 := ib_w 1 1 (ib_ne_lo 0 h3 rfl c7) rfl
            have h9 : ib J137_c0_113 1 1621 := ib_w 1 1621 (ib_two hJ137_c0_113 (h4 (ib_nz h8 rfl))) rfl
            have h10 : ib x_qCoded 0 1620 := ⟨(hx_qCoded).1, by have := (hx_qCoded).2; have := hL0; have := (hx_at).2; have := (hx_qWaits).1; omega⟩
            have h11 : ib x_qWaits 0 1620 := ⟨(hx_qWaits).1, by have := (hx_qWaits).2; have := hL0; have := (hx_at).2; have := (h10).1; omega⟩
            have h12 : ib J137_c0_111 0 1620 := ⟨(hJ137_c0_111).1, by have := (hJ137_c0_111).2; have := hJ137_lin1; have := (hJ137_c0_2).2; have := (h9).1; omega⟩
            refine lv_aload_n hx hb dX10_qGoesOnTest_155 rfl (lv_at hl 0 rfl) ?_
            refine k_jvm hP hD hS hA [4, 5, 3] [true, true, true] rfl rfl rfl 0 0 (Nat.le_of_ble_eq_true rfl) (Nat.le_of_ble_eq_true rfl) (fun hPc hDc => k_runV (As := []) (rest := []) C0 hZ hS hA (s_X10_qDrops l dC dI cy sq a_this rm x_taped J137_c0_2 x_end J137_c0_4 x_bad x_badPlace x_fault x_faultPlace x_namePlace x_awayTold x_away x_coded x_statements x_isCrossing x_textKind x_askSecond x_redMany x_isOpen x_lastGreen x_greenTo x_isCycleGreen x_stillGreen x_rowMany x_fitMany x_fitRules x_fitGreen x_undoable x_newest x_seeded J137_c0_111 J137_c0_113 J137_c0_114 x_qBase x_qPiled x_qAnswer x_qIsNew x_octets J137_a5 g_qWait (ib_w 0 1699 h12 rfl) (ib_w 1 1700 h9 rfl)) mV_X10_614 hPc hDc rfl rfl rfl hl rfl rfl (Nat.le_of_ble_eq_true rfl) ⟨(Nat.le_of_ble_eq_true rfl), (Nat.le_of_ble_eq_true rfl)⟩ ⟨(Nat.le_of_ble_eq_true rfl), (Nat.le_of_ble_eq_true rfl)⟩ dX10_qGoesOnTest_156) (fun u14 H locs hw hP hD hS => ?_)
            obtain ⟨v15, v16, f17⟩ := u14
            try dsimp only at hP hD hw
            replace hP : va_P (dC, dI) vwCl [(wi_rm0_0_1600_0 rm cy g_tape), (wi_rm92_2_3_0 rm cy g_andAsked), (wi_rm93_2_2_0 rm cy g_orAsked), (a_this, .inr (10, mfs rm x_taped J137_c0_2 x_end J137_c0_4 x_bad x_badPlace x_fault x_faultPlace x_namePlace x_awayTold x_away x_coded x_statements x_isCrossing x_textKind x_askSecond x_redMany x_isOpen x_lastGreen x_greenTo x_isCycleGreen x_stillGreen x_rowMany x_fitMany x_fitRules x_fitGreen x_undoable x_newest x_seeded v15 v16 J137_c0_114 x_qBase x_qPiled x_qAnswer x_qIsNew x_octets)), (wi_rm112_0_1700_0 rm cy g_qWait), (wi_rm110_0_1700_0 rm cy f17)] H := hP
            replace hD := k_D hP hD
            obtain ⟨h18, h19, h20, h21, h22, h23⟩ := hw
            have h24 : v15.toInt = (J137_c0_111 : Int32).toInt + (1 : Int32).toInt := by have q1 := h19; have q2 : (1 : Int32).toInt = 1 := rfl; omega
            have h25 : ib v15 1 1621 := ⟨by have q1 := h19; have := (h12).1; have := (h18).1; omega, by have q1 := h19; have := (h12).2; have := (h18).2; omega⟩
            have h26 : v16.toInt = (J137_c0_113 : Int32).toInt + ((-1) : Int32).toInt := by have q1 := h21; have q2 : ((-1) : Int32).toInt = (-1) := rfl; omega
            have h27 : ib v16 0 1620 := ⟨by have q1 := h21; have := (h9).1; have := (h20).1; omega, by have q1 := h21; have := (h9).2; have := (h20).2; omega⟩
            replace hq := lf_p1 hq h23
            replace hq := lf_p1 hq rfl
            have h28 : x_bad = 0 → GS f17 v15 g_qWait v16 v16 x_textKind (cc + 1) := fun _ => (by rw [h22]; exact GS_dropT (hJ137_go.1 (ib_one hx_bad rfl)) (by have := h24; have : (1 : Int32).toInt = 1 := rfl; omega) (by have := h26; have : ((-1) : Int32).toInt = (-1) := rfl; omega) (by have := (h27).1; omega) rfl (by have q1 := (h5.1 c7).2; rw [show (J137_c0_113.toInt - 1).toNat = Int32.toNatClampNeg v16 from by show _ = (Int32.toInt v16).toNat; have := h26; have : ((-1) : Int32).toInt = (-1) := rfl; omega] at q1; rw [q1]; decide))
            refine lv_goto (tgt := 137) hx hb dX10_qGoesOnTest_159 rfl ?_
            exact ih137 J137_c0_2 J137_c0_4 v15 v16 J137_c0_114 f17 H locs ls (ib_w 2 1600 hJ137_c0_2 rfl) (ib_w 1 1600 hK137_x_end rfl) (ib_w 2 1600 hJ137_c0_4 rfl) (ib_w 0 1621 h25 rfl) (ib_w 0 1621 h27 rfl) (by have := hJ137_lin0; have := h26; have : ((-1) : Int32).toInt = (-1) := rfl; have := h24; have : (1 : Int32).toInt = 1 := rfl; omega) (by have := hJ137_lin1; have := h26; have : ((-1) : Int32).toInt = (-1) := rfl; have := h24; have : (1 : Int32).toInt = 1 := rfl; omega) (by have := hJ137_lin2; omega) (⟨fun q => (h28 q), fun q9 => (by have := (hJ137_go.2 q9); have := h26; have : ((-1) : Int32).toInt = (-1) := rfl; have := h24; have : (1 : Int32).toInt = 1 := rfl; omega)⟩) (by rw [← hK137]; exact hq) (by have := h24; have : (1 : Int32).toInt = 1 := rfl; omega) (hP.sub [3, 0, 1, 2, 4, 5] rfl) (hD.sub [3, 0, 1, 2, 4, 5] rfl rfl) hS (lv_sub hl [0] rfl)
        · as_aux_lemma =>
            replace hq := lf_pos hq (lf_eq (lf_rf r1) (lf_lc 0 (0 : Int) rfl) c7)
            have h29 := ib_eq h3 (ib_c 0 0 0 rfl) c7
            have h30 : ib r1 0 0 := ib_w 0 0 h29.1 rfl
            have h31 : ib x_qCoded 0 1620 := ⟨(hx_qCoded).1, by have := (hx_qCoded).2; have := hL0; have := (hx_at).2; have := (hx_qWaits).1; omega⟩
            have h32 : ib x_qWaits 0 1620 := ⟨(hx_qWaits).1, by have := (hx_qWaits).2; have := hL0; have := (hx_at).2; have := (h31).1; omega⟩
            refine lv_aload_n hx hb dX10_qGoesOnTest_146 rfl (lv_at hl 0 rfl) ?_
            refine lv_bipush (v := 11) hx hb dX10_qGoesOnTest_147 rfl ?_
            refine k_jim hP hD hS hA [4, 5] [true, true, true, true] rfl rfl rfl 0 0 (Nat.le_of_ble_eq_true rfl) (Nat.le_of_ble_eq_true rfl) (fun hPc hDc => k_runV (As := [.int 11]) (rest := []) C0 hZ hS hA (s_X10_qIsOn_a0_11 l dC dI cy sq a_this rm x_taped J137_c0_2 x_end J137_c0_4 x_bad x_badPlace x_fault x_faultPlace x_namePlace x_awayTold x_away x_coded x_statements x_isCrossing x_textKind x_askSecond x_redMany x_isOpen x_lastGreen x_greenTo x_isCycleGreen x_stillGreen x_rowMany x_fitMany x_fitRules x_fitGreen x_undoable x_newest x_seeded J137_c0_111 J137_c0_113 J137_c0_114 x_qBase x_qPiled x_qAnswer x_qIsNew x_octets g_qWait (ib_w 0 1700 hJ137_c0_113 rfl)) mV_X10_641 hPc hDc rfl rfl rfl hl rfl rfl (Nat.le_of_ble_eq_true rfl) ⟨(Nat.le_of_ble_eq_true rfl), (Nat.le_of_ble_eq_true rfl)⟩ ⟨(Nat.le_of_ble_eq_true rfl), (Nat.le_of_ble_eq_true rfl)⟩ dX10_qGoesOnTest_149) (fun r33 u34 H locs hw hP hD hS => ?_)
            try dsimp only at hP hD hw
            replace hP : va_P (dC, dI) vwCl [(wi_rm0_0_1600_0 rm cy g_tape), (wi_rm92_2_3_0 rm cy g_andAsked), (wi_rm93_2_2_0 rm cy g_orAsked), (wi_rm110_0_1700_0 rm cy J137_a5), (a_this, .inr (10, mfs rm x_taped J137_c0_2 x_end J137_c0_4 x_bad x_badPlace x_fault x_faultPlace x_namePlace x_awayTold x_away x_coded x_statements x_isCrossing x_textKind x_askSecond x_redMany x_isOpen x_lastGreen x_greenTo x_isCycleGreen x_stillGreen x_rowMany x_fitMany x_fitRules x_fitGreen x_undoable x_newest x_seeded J137_c0_111 J137_c0_113 J137_c0_114 x_qBase x_qPiled x_qAnswer x_qIsNew x_octets)), (wi_rm112_0_1700_0 rm cy g_qWait)] H := hP
            replace hD := k_D hP hD
            obtain ⟨h35, h36, h37, h38⟩ := hw
            replace hq := lf_b1 hq h38
            refine lv_if_eq (tgt := 162) hx hb dX10_qGoesOnTest_152 rfl (fun c39 => ?_) (fun c39 => ?_)
            · as_aux_lemma =>
                replace hq := lf_pos hq (lf_eq (lf_rf r33) (lf_lc 0 (0 : Int) rfl) c39)
                have h40 := ib_eq h35 (ib_c 0 0 0 rfl) c39
                have h41 : ib r33 0 0 := ib_w 0 0 h40.1 rfl
                refine lv_aload_n hx hb dX10_qGoesOnTest_162 rfl (lv_at hl 0 rfl) ?_
                refine k_get C0 fg_X10_267 hP 4 rfl rfl dX10_qGoesOnTest_163 ?_
                refine lv_aload_n hx hb dX10_qGoesOnTest_166 rfl (lv_at hl 0 rfl) ?_
                refine k_get C0 fg_X10_372 hP 4 rfl rfl dX10_qGoesOnTest_167 ?_
                refine lv_bipush (v := 11) hx hb dX10_qGoesOnTest_170 rfl ?_
                refine va_iast hx hb C0.2.2.2.2.2.1 hP hD hS 5 0 rfl rfl (ib_in 1700 hJ137_c0_113 rfl) dX10_qGoesOnTest_172 (fun H locs hP hD hS => ?_)
                have h43 : (upd g_qWait (Int32.toNatClampNeg J137_c0_113) 11) (Int32.toNatClampNeg J137_c0_113) = 11 := pk_us
                replace hP : va_P (dC, dI) vwCl [(wi_rm0_0_1600_0 rm cy g_tape), (wi_rm92_2_3_0 rm cy g_andAsked), (wi_rm93_2_2_0 rm cy g_orAsked), (wi_rm110_0_1700_0 rm cy J137_a5), (a_this, .inr (10, mfs rm x_taped J137_c0_2 x_end J137_c0_4 x_bad x_badPlace x_fault x_faultPlace x_namePlace x_awayTold x_away x_coded x_statements x_isCrossing x_textKind x_askSecond x_redMany x_isOpen x_lastGreen x_greenTo x_isCycleGreen x_stillGreen x_rowMany x_fitMany x_fitRules x_fitGreen x_undoable x_newest x_seeded J137_c0_111 J137_c0_113 J137_c0_114 x_qBase x_qPiled x_qAnswer x_qIsNew x_octets)), (wi_rm112_0_1700_0 rm cy (upd g_qWait (Int32.toNatClampNeg J137_c0_113) 11))] H := hP
                replace hD := k_D hP hD
                generalize h44E : upd g_qWait (Int32.toNatClampNeg J137_c0_113) 11 = f42 at hP hD h43
                have ef42 := h44E
                have Ef42 := lf_st ef42 (lf_ra g_qWait) (lf_rf J137_c0_113) (lf_lc 11 (11 : Int) rfl)
                refine lv_aload_n hx hb dX10_qGoesOnTest_173 rfl (lv_at hl 0 rfl) ?_
                refine lv_dup hx hb dX10_qGoesOnTest_174 rfl ?_
                refine k_get C0 fg_X10_372 hP 4 rfl rfl dX10_qGoesOnTest_175 ?_
                refine lv_iconst (v := 1) hx hb dX10_qGoesOnTest_178 rfl ?_
                refine lv_iadd hx hb dX10_qGoesOnTest_179 ?_
                refine lv_topi (fun z45 ez45 => ?_)
                have h46 := ib_add hJ137_c0_113 (ib_c 1 1 1 rfl) rfl
                rw [← ez45] at h46
                have h47 : ib z45 1 1622 := ib_w 1 1622 h46.1 rfl
                have Ez45 := lf_add h46.2 (lf_rf J137_c0_113) (lf_lc 1 (1 : Int) rfl)
                refine k_put C0 fp_X10_372 hP hD hS 4 rfl rfl rfl (Nat.le_of_ble_eq_true rfl) dX10_qGoesOnTest_180 (fun H locs hP hD hS => ?_)
                replace hP : va_P (dC, dI) vwCl [(wi_rm0_0_1600_0 rm cy g_tape), (wi_rm92_2_3_0 rm cy g_andAsked), (wi_rm93_2_2_0 rm cy g_orAsked), (wi_rm110_0_1700_0 rm cy J137_a5), (a_this, .inr (10, mfs rm x_taped J137_c0_2 x_end J137_c0_4 x_bad x_badPlace x_fault x_faultPlace x_namePlace x_awayTold x_away x_coded x_statements x_isCrossing x_textKind x_askSecond x_redMany x_isOpen x_lastGreen x_greenTo x_isCycleGreen x_stillGreen x_rowMany x_fitMany x_fitRules x_fitGreen x_undoable x_newest x_seeded J137_c0_111 z45 J137_c0_114 x_qBase x_qPiled x_qAnswer x_qIsNew x_octets)), (wi_rm112_0_1700_0 rm cy f42)] H := hP
                replace hD := k_D hP hD
                have h48 : x_bad = 0 → GS J137_a5 J137_c0_111 f42 z45 z45 x_textKind cc := fun q => (by rw [h44E.symm]; exact GS_opT (hJ137_go.1 q) (by have := (hJ137_c0_113).1; have := (hJ137_c0_113).2; have := hJ137_lin0; have := hJ137_lin1; have := (hJ137_c0_2).1; have := (hJ137_c0_2).2; have := hJ137_lin2; have := (hx_at).1; have := (hx_at).2; have := hL0; have := (h32).1; have := (h32).2; have := (h31).1; have := (h31).2; have := (hJ137_c0_111).1; have := (hJ137_c0_111).2; have := (h47).1; have := (h47).2; have := h46.2; have : (1 : Int32).toInt = 1 := rfl; omega) ⟨by have := ((ib_c 11 11 11 rfl)).1; omega, by have := ((ib_c 11 11 11 rfl)).2; omega⟩)
                refine lv_iconst (v := 1) hx hb dX10_qGoesOnTest_183 rfl ?_
                subst hQ; exact k_iret hx hb hr hlk (k_nb 1 rfl) ((J137_c0_2, J137_c0_4, x_bad, x_badPlace, J137_c0_111, z45, J137_c0_114, f42, J137_a5)) hS ⟨ib_w 0 1600 hJ137_c0_2 rfl, ib_w 0 1 hx_bad rfl, ib_w 0 1621 hJ137_c0_111 rfl, ib_w 0 1622 h47 rfl, ib_w 0 1 (ib_c 1 1 1 rfl) rfl, fun _ => ib_w 2 1600 hJ137_c0_2 rfl, fun _ => ib_w 2 1600 hJ137_c0_4 rfl, fun _ => ib_w 0 0 hx_bad rfl, fun _ => ib_w 1 1622 h47 rfl, fun _ => ib_w 1 1600 hK137_x_end rfl, fun _ => ib_w 0 1620 h31 rfl, fun _ => ib_w 0 1620 h32 rfl, fun q => q, (by have := hJ137_lin0; have := h46.2; have : (1 : Int32).toInt = 1 := rfl; omega), fun hq9 => (by have := hJ137_lin0; have := (hJ137_go.2 hq9); have := h46.2; have : (1 : Int32).toInt = 1 := rfl; omega), (by have := hJ137_lin2; omega), fun hq8 => fun q => (h48 q), fun hq8 => absurd hq8 (by decide), (hO.symm.trans (by try simp only [show (1 : Int32).toInt = (1 : Int) from rfl]; rw [lf_u Ez45]; rw [lf_ua Ef42]; exact hq))⟩ (hP.sub [4, 0, 1, 2, 5, 3] rfl) (hD.sub [4, 0, 1, 2, 5, 3] rfl rfl) (Nat.le_of_ble_eq_true rfl) (Nat.le_of_ble_eq_true rfl) dX10_qGoesOnTest_184
            · as_aux_lemma =>
                replace hq := lf_neg hq (lf_ne (lf_rf r33) (lf_lc 0 (0 : Int) rfl) c39)
                have h49 : ib r33 1 1 := ib_w 1 1 (ib_ne_lo 0 h35 rfl c39) rfl
                have h50 : ib J137_c0_113 1 1621 := ib_w 1 1621 (ib_two hJ137_c0_113 (h36 (ib_nz h49 rfl))) rfl
                have h51 : ib J137_c0_111 0 1620 := ⟨(hJ137_c0_111).1, by have := (hJ137_c0_111).2; have := hJ137_lin1; have := (hJ137_c0_2).2; have := (h50).1; omega⟩
                refine lv_aload_n hx hb dX10_qGoesOnTest_155 rfl (lv_at hl 0 rfl) ?_
                refine k_jvm hP hD hS hA [4, 5, 3] [true, true, true] rfl rfl rfl 0 0 (Nat.le_of_ble_eq_true rfl) (Nat.le_of_ble_eq_true rfl) (fun hPc hDc => k_runV (As := []) (rest := []) C0 hZ hS hA (s_X10_qDrops l dC dI cy sq a_this rm x_taped J137_c0_2 x_end J137_c0_4 x_bad x_badPlace x_fault x_faultPlace x_namePlace x_awayTold x_away x_coded x_statements x_isCrossing x_textKind x_askSecond x_redMany x_isOpen x_lastGreen x_greenTo x_isCycleGreen x_stillGreen x_rowMany x_fitMany x_fitRules x_fitGreen x_undoable x_newest x_seeded J137_c0_111 J137_c0_113 J137_c0_114 x_qBase x_qPiled x_qAnswer x_qIsNew x_octets J137_a5 g_qWait (ib_w 0 1699 h51 rfl) (ib_w 1 1700 h50 rfl)) mV_X10_614 hPc hDc rfl rfl rfl hl rfl rfl (Nat.le_of_ble_eq_true rfl) ⟨(Nat.le_of_ble_eq_true rfl), (Nat.le_of_ble_eq_true rfl)⟩ ⟨(Nat.le_of_ble_eq_true rfl), (Nat.le_of_ble_eq_true rfl)⟩ dX10_qGoesOnTest_156) (fun u53 H locs hw hP hD hS => ?_)
                obtain ⟨v54, v55, f56⟩ := u53
                try dsimp only at hP hD hw
                replace hP : va_P (dC, dI) vwCl [(wi_rm0_0_1600_0 rm cy g_tape), (wi_rm92_2_3_0 rm cy g_andAsked), (wi_rm93_2_2_0 rm cy g_orAsked), (a_this, .inr (10, mfs rm x_taped J137_c0_2 x_end J137_c0_4 x_bad x_badPlace x_fault x_faultPlace x_namePlace x_awayTold x_away x_coded x_statements x_isCrossing x_textKind x_askSecond x_redMany x_isOpen x_lastGreen x_greenTo x_isCycleGreen x_stillGreen x_rowMany x_fitMany x_fitRules x_fitGreen x_undoable x_newest x_seeded v54 v55 J137_c0_114 x_qBase x_qPiled x_qAnswer x_qIsNew x_octets)), (wi_rm112_0_1700_0 rm cy g_qWait), (wi_rm110_0_1700_0 rm cy f56)] H := hP
                replace hD := k_D hP hD
                obtain ⟨h57, h58, h59, h60, h61, h62⟩ := hw
                have h63 : v54.toInt = (J137_c0_111 : Int32).toInt + (1 : Int32).toInt := by have q1 := h58; have q2 : (1 : Int32).toInt = 1 := rfl; omega
                have h64 : ib v54 1 1621 := ⟨by have q1 := h58; have := (h51).1; have := (h57).1; omega, by have q1 := h58; have := (h51).2; have := (h57).2; omega⟩
                have h65 : v55.toInt = (J137_c0_113 : Int32).toInt + ((-1) : Int32).toInt := by have q1 := h60; have q2 : ((-1) : Int32).toInt = (-1) := rfl; omega
                have h66 : ib v55 0 1620 := ⟨by have q1 := h60; have := (h50).1; have := (h59).1; omega, by have q1 := h60; have := (h50).2; have := (h59).2; omega⟩
                replace hq := lf_p1 hq h62
                replace hq := lf_p1 hq rfl
                have h67 : x_bad = 0 → GS f56 v54 g_qWait v55 v55 x_textKind (cc + 1) := fun _ => (by rw [h61]; exact GS_dropT (hJ137_go.1 (ib_one hx_bad rfl)) (by have := h63; have : (1 : Int32).toInt = 1 := rfl; omega) (by have := h65; have : ((-1) : Int32).toInt = (-1) := rfl; omega) (by have := (h66).1; omega) rfl (by have q1 := (h37.1 c39).2; rw [show (J137_c0_113.toInt - 1).toNat = Int32.toNatClampNeg v55 from by show _ = (Int32.toInt v55).toNat; have := h65; have : ((-1) : Int32).toInt = (-1) := rfl; omega] at q1; rw [q1]; decide))
                refine lv_goto (tgt := 137) hx hb dX10_qGoesOnTest_159 rfl ?_
                exact ih137 J137_c0_2 J137_c0_4 v54 v55 J137_c0_114 f56 H locs ls (ib_w 2 1600 hJ137_c0_2 rfl) (ib_w 1 1600 hK137_x_end rfl) (ib_w 2 1600 hJ137_c0_4 rfl) (ib_w 0 1621 h64 rfl) (ib_w 0 1621 h66 rfl) (by have := hJ137_lin0; have := h65; have : ((-1) : Int32).toInt = (-1) := rfl; have := h63; have : (1 : Int32).toInt = 1 := rfl; omega) (by have := hJ137_lin1; have := h65; have : ((-1) : Int32).toInt = (-1) := rfl; have := h63; have : (1 : Int32).toInt = 1 := rfl; omega) (by have := hJ137_lin2; omega) (⟨fun q => (h67 q), fun q9 => (by have := (hJ137_go.2 q9); have := h65; have : ((-1) : Int32).toInt = (-1) := rfl; have := h63; have : (1 : Int32).toInt = 1 := rfl; omega)⟩) (by rw [← hK137]; exact hq) (by have := h63; have : (1 : Int32).toInt = 1 := rfl; omega) (hP.sub [3, 0, 1, 2, 4, 5] rfl) (hD.sub [3, 0, 1, 2, 4, 5] rfl rfl) hS (lv_sub hl [0] rfl)
  have jn87 : ∀ (n : Nat) (J87_c0_2 : Int32) (J87_c0_4 : Int32) (J87_c0_111 : Int32) (J87_c0_113 : Int32) (J87_c0_114 : Int32) (J87_a5 : Nat → Int32) (H : Heap) (locs : List Loc) (ls : Array Slot), ib J87_c0_2 3 1600 → ib x_end 1 1600 → ib J87_c0_4 3 1600 → ib J87_c0_111 0 1621 → ib J87_c0_113 0 1621 → (1 * J87_c0_111.toInt + 1 * J87_c0_113.toInt + (-1) * J87_c0_2.toInt + (-1) * x_qCoded.toInt + (-1) * x_qWaits.toInt + 1 * x_at.toInt ≤ 1) → (1 * J87_c0_111.toInt + 1 * J87_c0_113.toInt + (-1) * J87_c0_2.toInt ≤ 21) → (1 * x_at.toInt + (-1) * J87_c0_2.toInt ≤ 0) → ((x_bad = 0 → GS J87_a5 J87_c0_111 g_qWait J87_c0_113 J87_c0_113 x_textKind (cc + 1)) ∧ (x_bad = 0 → 1 * J87_c0_111.toInt + 1 * J87_c0_113.toInt + (-1) * J87_c0_2.toInt + (-1) * x_qCoded.toInt + (-1) * x_qWaits.toInt + 1 * x_at.toInt ≤ (-1))) → (O = F_X10_qGoesOnTest_87 (Int32.toInt x_bad) (Int32.toInt x_badPlace) (lf_A g_qWait) n (Int32.toInt J87_c0_2) (Int32.toInt J87_c0_4) (Int32.toInt J87_c0_111) (Int32.toInt J87_c0_113) (Int32.toInt J87_c0_114) (lf_A J87_a5)) → 1622 ≤ J87_c0_111.toInt + (n : Int) → va_P (dC, dI) vwCl [(a_this, .inr (10, mfs rm x_taped J87_c0_2 x_end J87_c0_4 x_bad x_badPlace x_fault x_faultPlace x_namePlace x_awayTold x_away x_coded x_statements x_isCrossing x_textKind x_askSecond x_redMany x_isOpen x_lastGreen x_greenTo x_isCycleGreen x_stillGreen x_rowMany x_fitMany x_fitRules x_fitGreen x_undoable x_newest x_seeded J87_c0_111 J87_c0_113 J87_c0_114 x_qBase x_qPiled x_qAnswer x_qIsNew x_octets)), (wi_rm0_0_1600_0 rm cy g_tape), (wi_rm92_2_3_0 rm cy g_andAsked), (wi_rm93_2_2_0 rm cy g_orAsked), (wi_rm112_0_1700_0 rm cy g_qWait), (wi_rm110_0_1700_0 rm cy J87_a5)] H → va_D A [(a_this, .inr (10, mfs rm x_taped J87_c0_2 x_end J87_c0_4 x_bad x_badPlace x_fault x_faultPlace x_namePlace x_awayTold x_away x_coded x_statements x_isCrossing x_textKind x_askSecond x_redMany x_isOpen x_lastGreen x_greenTo x_isCycleGreen x_stillGreen x_rowMany x_fitMany x_fitRules x_fitGreen x_undoable x_newest x_seeded J87_c0_111 J87_c0_113 J87_c0_114 x_qBase x_qPiled x_qAnswer x_qIsNew x_octets)), (wi_rm0_0_1600_0 rm cy g_tape), (wi_rm92_2_3_0 rm cy g_andAsked), (wi_rm93_2_2_0 rm cy g_orAsked), (wi_rm112_0_1700_0 rm cy g_qWait), (wi_rm110_0_1700_0 rm cy J87_a5)] → va_S A s.heap H locs → lv_has ls 1 [(0, .ref a_this)] → W p l e { frames := 3, cells := 0, slots := 0, locals := 64 } s m args below meth c H locs 0 0 Q (F0 m 87 ls []) := by
    as_aux_lemma =>
      intro n
      induction n with
      | zero =>
        intro J87_c0_2 J87_c0_4 J87_c0_111 J87_c0_113 J87_c0_114 J87_a5 H locs ls hJ87_c0_2 hK87_x_end hJ87_c0_4 hJ87_c0_111 hJ87_c0_113 hJ87_lin0 hJ87_lin1 hJ87_lin2 hJ87_go hq hm
        exact absurd hm (by have := hJ87_c0_111; unfold ib at this; omega)
      | succ n ih =>
        intro J87_c0_2 J87_c0_4 J87_c0_111 J87_c0_113 J87_c0_114 J87_a5 H locs ls hJ87_c0_2 hK87_x_end hJ87_c0_4 hJ87_c0_111 hJ87_c0_113 hJ87_lin0 hJ87_lin1 hJ87_lin2 hJ87_go hq hm87 hP hD hS hl
        have ih87 := ih
        obtain ⟨K87, hK87⟩ : ∃ K, K = F_X10_qGoesOnTest_87 (Int32.toInt x_bad) (Int32.toInt x_badPlace) (lf_A g_qWait) n := ⟨_, rfl⟩
        have hq : O = F_X10_qGoesOnTest_87b (Int32.toInt x_bad) (Int32.toInt x_badPlace) (lf_A g_qWait) K87 (Int32.toInt J87_c0_2) (Int32.toInt J87_c0_4) (Int32.toInt J87_c0_111) (Int32.toInt J87_c0_113) (Int32.toInt J87_c0_114) (lf_A J87_a5) := by rw [hK87]; exact hq
        unfold F_X10_qGoesOnTest_87b at hq
        refine lv_aload_n hx hb dX10_qGoesOnTest_87 rfl (lv_at hl 0 rfl) ?_
        refine lv_bipush (v := 10) hx hb dX10_qGoesOnTest_88 rfl ?_
        refine k_jim hP hD hS hA [0, 4] [false, true, true, true, false, true] rfl rfl rfl 0 0 (Nat.le_of_ble_eq_true rfl) (Nat.le_of_ble_eq_true rfl) (fun hPc hDc => k_runV (As := [.int 10]) (rest := []) C0 hZ hS hA (s_X10_qIsOn_a0_10 l dC dI cy sq a_this rm x_taped J87_c0_2 x_end J87_c0_4 x_bad x_badPlace x_fault x_faultPlace x_namePlace x_awayTold x_away x_coded x_statements x_isCrossing x_textKind x_askSecond x_redMany x_isOpen x_lastGreen x_greenTo x_isCycleGreen x_stillGreen x_rowMany x_fitMany x_fitRules x_fitGreen x_undoable x_newest x_seeded J87_c0_111 J87_c0_113 J87_c0_114 x_qBase x_qPiled x_qAnswer x_qIsNew x_octets g_qWait (ib_w 0 1700 hJ87_c0_113 rfl)) mV_X10_641 hPc hDc rfl rfl rfl hl rfl rfl (Nat.le_of_ble_eq_true rfl) ⟨(Nat.le_of_ble_eq_true rfl), (Nat.le_of_ble_eq_true rfl)⟩ ⟨(Nat.le_of_ble_eq_true rfl), (Nat.le_of_ble_eq_true rfl)⟩ dX10_qGoesOnTest_90) (fun r68 u69 H locs hw hP hD hS => ?_)
        try dsimp only at hP hD hw
        replace hP : va_P (dC, dI) vwCl [(wi_rm0_0_1600_0 rm cy g_tape), (wi_rm92_2_3_0 rm cy g_andAsked), (wi_rm93_2_2_0 rm cy g_orAsked), (wi_rm110_0_1700_0 rm cy J87_a5), (a_this, .inr (10, mfs rm x_taped J87_c0_2 x_end J87_c0_4 x_bad x_badPlace x_fault x_faultPlace x_namePlace x_awayTold x_away x_coded x_statements x_isCrossing x_textKind x_askSecond x_redMany x_isOpen x_lastGreen x_greenTo x_isCycleGreen x_stillGreen x_rowMany x_fitMany x_fitRules x_fitGreen x_undoable x_newest x_seeded J87_c0_111 J87_c0_113 J87_c0_114 x_qBase x_qPiled x_qAnswer x_qIsNew x_octets)), (wi_rm112_0_1700_0 rm cy g_qWait)] H := hP
        replace hD := k_D hP hD
        obtain ⟨h70, h71, h72, h73⟩ := hw
        replace hq := lf_b1 hq h73
        refine lv_if_eq (tgt := 103) hx hb dX10_qGoesOnTest_93 rfl (fun c74 => ?_) (fun c74 => ?_)
        · as_aux_lemma =>
            replace hq := lf_pos hq (lf_eq (lf_rf r68) (lf_lc 0 (0 : Int) rfl) c74)
            have h75 := ib_eq h70 (ib_c 0 0 0 rfl) c74
            have h76 : ib r68 0 0 := ib_w 0 0 h75.1 rfl
            have h77 : ib x_qCoded 0 1620 := ⟨(hx_qCoded).1, by have := (hx_qCoded).2; have := hL0; have := (hx_at).2; have := (hx_qWaits).1; omega⟩
            have h78 : ib x_qWaits 0 1620 := ⟨(hx_qWaits).1, by have := (hx_qWaits).2; have := hL0; have := (hx_at).2; have := (h77).1; omega⟩
            refine lv_aload_n hx hb dX10_qGoesOnTest_103 rfl (lv_at hl 0 rfl) ?_
            refine k_get C0 fg_X10_267 hP 4 rfl rfl dX10_qGoesOnTest_104 ?_
            refine lv_aload_n hx hb dX10_qGoesOnTest_107 rfl (lv_at hl 0 rfl) ?_
            refine k_get C0 fg_X10_372 hP 4 rfl rfl dX10_qGoesOnTest_108 ?_
            refine lv_bipush (v := 10) hx hb dX10_qGoesOnTest_111 rfl ?_
            refine va_iast hx hb C0.2.2.2.2.2.1 hP hD hS 5 0 rfl rfl (ib_in 1700 hJ87_c0_113 rfl) dX10_qGoesOnTest_113 (fun H locs hP hD hS => ?_)
            have h80 : (upd g_qWait (Int32.toNatClampNeg J87_c0_113) 10) (Int32.toNatClampNeg J87_c0_113) = 10 := pk_us
            replace hP : va_P (dC, dI) vwCl [(wi_rm0_0_1600_0 rm cy g_tape), (wi_rm92_2_3_0 rm cy g_andAsked), (wi_rm93_2_2_0 rm cy g_orAsked), (wi_rm110_0_1700_0 rm cy J87_a5), (a_this, .inr (10, mfs rm x_taped J87_c0_2 x_end J87_c0_4 x_bad x_badPlace x_fault x_faultPlace x_namePlace x_awayTold x_away x_coded x_statements x_isCrossing x_textKind x_askSecond x_redMany x_isOpen x_lastGreen x_greenTo x_isCycleGreen x_stillGreen x_rowMany x_fitMany x_fitRules x_fitGreen x_undoable x_newest x_seeded J87_c0_111 J87_c0_113 J87_c0_114 x_qBase x_qPiled x_qAnswer x_qIsNew x_octets)), (wi_rm112_0_1700_0 rm cy (upd g_qWait (Int32.toNatClampNeg J87_c0_113) 10))] H := hP
            replace hD := k_D hP hD
            generalize h81E : upd g_qWait (Int32.toNatClampNeg J87_c0_113) 10 = f79 at hP hD h80
            have ef79 := h81E
            have Ef79 := lf_st ef79 (lf_ra g_qWait) (lf_rf J87_c0_113) (lf_lc 10 (10 : Int) rfl)
            refine lv_aload_n hx hb dX10_qGoesOnTest_114 rfl (lv_at hl 0 rfl) ?_
            refine lv_dup hx hb dX10_qGoesOnTest_115 rfl ?_
            refine k_get C0 fg_X10_372 hP 4 rfl rfl dX10_qGoesOnTest_116 ?_
            refine lv_iconst (v := 1) hx hb dX10_qGoesOnTest_119 rfl ?_
            refine lv_iadd hx hb dX10_qGoesOnTest_120 ?_
            refine lv_topi (fun z82 ez82 => ?_)
            have h83 := ib_add hJ87_c0_113 (ib_c 1 1 1 rfl) rfl
            rw [← ez82] at h83
            have h84 : ib z82 1 1622 := ib_w 1 1622 h83.1 rfl
            have Ez82 := lf_add h83.2 (lf_rf J87_c0_113) (lf_lc 1 (1 : Int) rfl)
            refine k_put C0 fp_X10_372 hP hD hS 4 rfl rfl rfl (Nat.le_of_ble_eq_true rfl) dX10_qGoesOnTest_121 (fun H locs hP hD hS => ?_)
            replace hP : va_P (dC, dI) vwCl [(wi_rm0_0_1600_0 rm cy g_tape), (wi_rm92_2_3_0 rm cy g_andAsked), (wi_rm93_2_2_0 rm cy g_orAsked), (wi_rm110_0_1700_0 rm cy J87_a5), (a_this, .inr (10, mfs rm x_taped J87_c0_2 x_end J87_c0_4 x_bad x_badPlace x_fault x_faultPlace x_namePlace x_awayTold x_away x_coded x_statements x_isCrossing x_textKind x_askSecond x_redMany x_isOpen x_lastGreen x_greenTo x_isCycleGreen x_stillGreen x_rowMany x_fitMany x_fitRules x_fitGreen x_undoable x_newest x_seeded J87_c0_111 z82 J87_c0_114 x_qBase x_qPiled x_qAnswer x_qIsNew x_octets)), (wi_rm112_0_1700_0 rm cy f79)] H := hP
            replace hD := k_D hP hD
            have h85 : x_bad = 0 → GS J87_a5 J87_c0_111 f79 z82 z82 x_textKind cc := fun q => (by rw [h81E.symm]; exact GS_opT (hJ87_go.1 q) (by have := (hJ87_c0_113).1; have := (hJ87_c0_113).2; have := hJ87_lin0; have := hJ87_lin1; have := (hJ87_c0_2).1; have := (hJ87_c0_2).2; have := hJ87_lin2; have := (hx_at).1; have := (hx_at).2; have := hL0; have := (h78).1; have := (h78).2; have := (h77).1; have := (h77).2; have := (hJ87_c0_111).1; have := (hJ87_c0_111).2; have := (h84).1; have := (h84).2; have := h83.2; have : (1 : Int32).toInt = 1 := rfl; omega) ⟨by have := ((ib_c 10 10 10 rfl)).1; omega, by have := ((ib_c 10 10 10 rfl)).2; omega⟩)
            refine lv_iconst (v := 1) hx hb dX10_qGoesOnTest_124 rfl ?_
            subst hQ; exact k_iret hx hb hr hlk (k_nb 1 rfl) ((J87_c0_2, J87_c0_4, x_bad, x_badPlace, J87_c0_111, z82, J87_c0_114, f79, J87_a5)) hS ⟨ib_w 0 1600 hJ87_c0_2 rfl, ib_w 0 1 hx_bad rfl, ib_w 0 1621 hJ87_c0_111 rfl, ib_w 0 1622 h84 rfl, ib_w 0 1 (ib_c 1 1 1 rfl) rfl, fun _ => ib_w 2 1600 hJ87_c0_2 rfl, fun _ => ib_w 2 1600 hJ87_c0_4 rfl, fun _ => ib_w 0 0 hx_bad rfl, fun _ => ib_w 1 1622 h84 rfl, fun _ => ib_w 1 1600 hK87_x_end rfl, fun _ => ib_w 0 1620 h77 rfl, fun _ => ib_w 0 1620 h78 rfl, fun q => q, (by have := hJ87_lin0; have := h83.2; have : (1 : Int32).toInt = 1 := rfl; omega), fun hq9 => (by have := hJ87_lin0; have := (hJ87_go.2 hq9); have := h83.2; have : (1 : Int32).toInt = 1 := rfl; omega), (by have := hJ87_lin2; omega), fun hq8 => fun q => (h85 q), fun hq8 => absurd hq8 (by decide), (hO.symm.trans (by try simp only [show (1 : Int32).toInt = (1 : Int) from rfl]; rw [lf_u Ez82]; rw [lf_ua Ef79]; exact hq))⟩ (hP.sub [4, 0, 1, 2, 5, 3] rfl) (hD.sub [4, 0, 1, 2, 5, 3] rfl rfl) (Nat.le_of_ble_eq_true rfl) (Nat.le_of_ble_eq_true rfl) dX10_qGoesOnTest_125
        · as_aux_lemma =>
            replace hq := lf_neg hq (lf_ne (lf_rf r68) (lf_lc 0 (0 : Int) rfl) c74)
            have h86 : ib r68 1 1 := ib_w 1 1 (ib_ne_lo 0 h70 rfl c74) rfl
            have h87 : ib J87_c0_113 1 1621 := ib_w 1 1621 (ib_two hJ87_c0_113 (h71 (ib_nz h86 rfl))) rfl
            have h88 : ib x_qCoded 0 1620 := ⟨(hx_qCoded).1, by have := (hx_qCoded).2; have := hL0; have := (hx_at).2; have := (hx_qWaits).1; omega⟩
            have h89 : ib x_qWaits 0 1620 := ⟨(hx_qWaits).1, by have := (hx_qWaits).2; have := hL0; have := (hx_at).2; have := (h88).1; omega⟩
            have h90 : ib J87_c0_111 0 1620 := ⟨(hJ87_c0_111).1, by have := (hJ87_c0_111).2; have := hJ87_lin1; have := (hJ87_c0_2).2; have := (h87).1; omega⟩
            refine lv_aload_n hx hb dX10_qGoesOnTest_96 rfl (lv_at hl 0 rfl) ?_
            refine k_jvm hP hD hS hA [4, 5, 3] [true, true, true] rfl rfl rfl 0 0 (Nat.le_of_ble_eq_true rfl) (Nat.le_of_ble_eq_true rfl) (fun hPc hDc => k_runV (As := []) (rest := []) C0 hZ hS hA (s_X10_qDrops l dC dI cy sq a_this rm x_taped J87_c0_2 x_end J87_c0_4 x_bad x_badPlace x_fault x_faultPlace x_namePlace x_awayTold x_away x_coded x_statements x_isCrossing x_textKind x_askSecond x_redMany x_isOpen x_lastGreen x_greenTo x_isCycleGreen x_stillGreen x_rowMany x_fitMany x_fitRules x_fitGreen x_undoable x_newest x_seeded J87_c0_111 J87_c0_113 J87_c0_114 x_qBase x_qPiled x_qAnswer x_qIsNew x_octets J87_a5 g_qWait (ib_w 0 1699 h90 rfl) (ib_w 1 1700 h87 rfl)) mV_X10_614 hPc hDc rfl rfl rfl hl rfl rfl (Nat.le_of_ble_eq_true rfl) ⟨(Nat.le_of_ble_eq_true rfl), (Nat.le_of_ble_eq_true rfl)⟩ ⟨(Nat.le_of_ble_eq_true rfl), (Nat.le_of_ble_eq_true rfl)⟩ dX10_qGoesOnTest_97) (fun u92 H locs hw hP hD hS => ?_)
            obtain ⟨v93, v94, f95⟩ := u92
            try dsimp only at hP hD hw
            replace hP : va_P (dC, dI) vwCl [(wi_rm0_0_1600_0 rm cy g_tape), (wi_rm92_2_3_0 rm cy g_andAsked), (wi_rm93_2_2_0 rm cy g_orAsked), (a_this, .inr (10, mfs rm x_taped J87_c0_2 x_end J87_c0_4 x_bad x_badPlace x_fault x_faultPlace x_namePlace x_awayTold x_away x_coded x_statements x_isCrossing x_textKind x_askSecond x_redMany x_isOpen x_lastGreen x_greenTo x_isCycleGreen x_stillGreen x_rowMany x_fitMany x_fitRules x_fitGreen x_undoable x_newest x_seeded v93 v94 J87_c0_114 x_qBase x_qPiled x_qAnswer x_qIsNew x_octets)), (wi_rm112_0_1700_0 rm cy g_qWait), (wi_rm110_0_1700_0 rm cy f95)] H := hP
            replace hD := k_D hP hD
            obtain ⟨h96, h97, h98, h99, h100, h101⟩ := hw
            have h102 : v93.toInt = (J87_c0_111 : Int32).toInt + (1 : Int32).toInt := by have q1 := h97; have q2 : (1 : Int32).toInt = 1 := rfl; omega
            have h103 : ib v93 1 1621 := ⟨by have q1 := h97; have := (h90).1; have := (h96).1; omega, by have q1 := h97; have := (h90).2; have := (h96).2; omega⟩
            have h104 : v94.toInt = (J87_c0_113 : Int32).toInt + ((-1) : Int32).toInt := by have q1 := h99; have q2 : ((-1) : Int32).toInt = (-1) := rfl; omega
            have h105 : ib v94 0 1620 := ⟨by have q1 := h99; have := (h87).1; have := (h98).1; omega, by have q1 := h99; have := (h87).2; have := (h98).2; omega⟩
            replace hq := lf_p1 hq h101
            replace hq := lf_p1 hq rfl
            have h106 : x_bad = 0 → GS f95 v93 g_qWait v94 v94 x_textKind (cc + 1) := fun _ => (by rw [h100]; exact GS_dropT (hJ87_go.1 (ib_one hx_bad rfl)) (by have := h102; have : (1 : Int32).toInt = 1 := rfl; omega) (by have := h104; have : ((-1) : Int32).toInt = (-1) := rfl; omega) (by have := (h105).1; omega) rfl (by have q1 := (h72.1 c74).2; rw [show (J87_c0_113.toInt - 1).toNat = Int32.toNatClampNeg v94 from by show _ = (Int32.toInt v94).toNat; have := h104; have : ((-1) : Int32).toInt = (-1) := rfl; omega] at q1; rw [q1]; decide))
            refine lv_goto (tgt := 87) hx hb dX10_qGoesOnTest_100 rfl ?_
            exact ih87 J87_c0_2 J87_c0_4 v93 v94 J87_c0_114 f95 H locs ls (ib_w 3 1600 hJ87_c0_2 rfl) (ib_w 1 1600 hK87_x_end rfl) (ib_w 3 1600 hJ87_c0_4 rfl) (ib_w 0 1621 h103 rfl) (ib_w 0 1621 h105 rfl) (by have := hJ87_lin0; have := h104; have : ((-1) : Int32).toInt = (-1) := rfl; have := h102; have : (1 : Int32).toInt = 1 := rfl; omega) (by have := hJ87_lin1; have := h104; have : ((-1) : Int32).toInt = (-1) := rfl; have := h102; have : (1 : Int32).toInt = 1 := rfl; omega) (by have := hJ87_lin2; omega) (⟨fun q => (h106 q), fun q9 => (by have := (hJ87_go.2 q9); have := h104; have : ((-1) : Int32).toInt = (-1) := rfl; have := h102; have : (1 : Int32).toInt = 1 := rfl; omega)⟩) (by rw [← hK87]; exact hq) (by have := h102; have : (1 : Int32).toInt = 1 := rfl; omega) (hP.sub [3, 0, 1, 2, 4, 5] rfl) (hD.sub [3, 0, 1, 2, 4, 5] rfl rfl) hS (lv_sub hl [0] rfl)
  have jn0 : ∀ (n : Nat) (J0_c0_2 : Int32) (J0_c0_111 : Int32) (J0_c0_113 : Int32) (J0_c0_114 : Int32) (J0_a5 : Nat → Int32) (H : Heap) (locs : List Loc) (ls : Array Slot), ib J0_c0_2 0 1600 → ib J0_c0_111 0 1621 → ib J0_c0_113 0 1621 → (1 * J0_c0_111.toInt + 1 * J0_c0_113.toInt + (-1) * J0_c0_2.toInt + (-1) * x_qCoded.toInt + (-1) * x_qWaits.toInt + 1 * x_at.toInt ≤ 1) → (1 * J0_c0_111.toInt + 1 * J0_c0_113.toInt + (-1) * J0_c0_2.toInt ≤ 21) → (1 * x_at.toInt + (-1) * J0_c0_2.toInt ≤ 0) → ((x_bad = 0 → GS J0_a5 J0_c0_111 g_qWait J0_c0_113 J0_c0_113 x_textKind (cc + 1)) ∧ (x_bad = 0 → 1 * J0_c0_111.toInt + 1 * J0_c0_113.toInt + (-1) * J0_c0_2.toInt + (-1) * x_qCoded.toInt + (-1) * x_qWaits.toInt + 1 * x_at.toInt ≤ 0)) → (O = F_X10_qGoesOnTest_0 (Int32.toInt x_end) (Int32.toInt x_ended) (Int32.toInt x_bad) (Int32.toInt x_badPlace) (lf_A g_tape) (lf_A g_andAsked) (lf_A g_orAsked) (lf_A g_qWait) n (Int32.toInt J0_c0_2) (Int32.toInt J0_c0_111) (Int32.toInt J0_c0_113) (Int32.toInt J0_c0_114) (lf_A J0_a5)) → 1601 ≤ J0_c0_2.toInt + (n : Int) → va_P (dC, dI) vwCl [(a_this, .inr (10, mfs rm x_taped J0_c0_2 x_end x_ended x_bad x_badPlace x_fault x_faultPlace x_namePlace x_awayTold x_away x_coded x_statements x_isCrossing x_textKind x_askSecond x_redMany x_isOpen x_lastGreen x_greenTo x_isCycleGreen x_stillGreen x_rowMany x_fitMany x_fitRules x_fitGreen x_undoable x_newest x_seeded J0_c0_111 J0_c0_113 J0_c0_114 x_qBase x_qPiled x_qAnswer x_qIsNew x_octets)), (wi_rm0_0_1600_0 rm cy g_tape), (wi_rm92_2_3_0 rm cy g_andAsked), (wi_rm93_2_2_0 rm cy g_orAsked), (wi_rm112_0_1700_0 rm cy g_qWait), (wi_rm110_0_1700_0 rm cy J0_a5)] H → va_D A [(a_this, .inr (10, mfs rm x_taped J0_c0_2 x_end x_ended x_bad x_badPlace x_fault x_faultPlace x_namePlace x_awayTold x_away x_coded x_statements x_isCrossing x_textKind x_askSecond x_redMany x_isOpen x_lastGreen x_greenTo x_isCycleGreen x_stillGreen x_rowMany x_fitMany x_fitRules x_fitGreen x_undoable x_newest x_seeded J0_c0_111 J0_c0_113 J0_c0_114 x_qBase x_qPiled x_qAnswer x_qIsNew x_octets)), (wi_rm0_0_1600_0 rm cy g_tape), (wi_rm92_2_3_0 rm cy g_andAsked), (wi_rm93_2_2_0 rm cy g_orAsked), (wi_rm112_0_1700_0 rm cy g_qWait), (wi_rm110_0_1700_0 rm cy J0_a5)] → va_S A s.heap H locs → lv_has ls 1 [(0, .ref a_this)] → W p l e { frames := 3, cells := 0, slots := 0, locals := 64 } s m args below meth c H locs 0 0 Q (F0 m 0 ls []) := by
    as_aux_lemma =>
      intro n
      induction n with
      | zero =>
        intro J0_c0_2 J0_c0_111 J0_c0_113 J0_c0_114 J0_a5 H locs ls hJ0_c0_2 hJ0_c0_111 hJ0_c0_113 hJ0_lin0 hJ0_lin1 hJ0_lin2 hJ0_go hq hm
        exact absurd hm (by have q1 := (hJ0_c0_2).2; omega)
      | succ n ih =>
        intro J0_c0_2 J0_c0_111 J0_c0_113 J0_c0_114 J0_a5 H locs ls hJ0_c0_2 hJ0_c0_111 hJ0_c0_113 hJ0_lin0 hJ0_lin1 hJ0_lin2 hJ0_go hq hm0 hP hD hS hl
        have ih0 := ih
        obtain ⟨K0, hK0⟩ : ∃ K, K = F_X10_qGoesOnTest_0 (Int32.toInt x_end) (Int32.toInt x_ended) (Int32.toInt x_bad) (Int32.toInt x_badPlace) (lf_A g_tape) (lf_A g_andAsked) (lf_A g_orAsked) (lf_A g_qWait) n := ⟨_, rfl⟩
        have hq : O = F_X10_qGoesOnTest_0b (Int32.toInt x_end) (Int32.toInt x_ended) (Int32.toInt x_bad) (Int32.toInt x_badPlace) (lf_A g_tape) (lf_A g_andAsked) (lf_A g_orAsked) (lf_A g_qWait) K0 (Int32.toInt J0_c0_2) (Int32.toInt J0_c0_111) (Int32.toInt J0_c0_113) (Int32.toInt J0_c0_114) (lf_A J0_a5) := by rw [hK0]; exact hq
        unfold F_X10_qGoesOnTest_0b at hq
        have jn33 : ∀ (n : Nat) (J33_c0_2 : Int32) (J33_c0_111 : Int32) (J33_c0_113 : Int32) (J33_a5 : Nat → Int32) (H : Heap) (locs : List Loc) (ls : Array Slot), ib J33_c0_2 1 1600 → ib x_end 1 1600 → ib J33_c0_111 0 1621 → ib J33_c0_113 0 1620 → (1 * J33_c0_111.toInt + 1 * J33_c0_113.toInt + (-1) * J33_c0_2.toInt + (-1) * x_qCoded.toInt + (-1) * x_qWaits.toInt + 1 * x_at.toInt ≤ 1) → (1 * J33_c0_111.toInt + 1 * J33_c0_113.toInt + (-1) * J33_c0_2.toInt ≤ 21) → (1 * J0_c0_2.toInt + (-1) * J33_c0_2.toInt ≤ (-1)) → (1 * x_at.toInt + (-1) * J33_c0_2.toInt ≤ 0) → ((x_bad = 0 → GS J33_a5 J33_c0_111 g_qWait J33_c0_113 J33_c0_113 x_textKind (cc + 1)) ∧ (x_bad = 0 → 1 * J33_c0_111.toInt + 1 * J33_c0_113.toInt + (-1) * J33_c0_2.toInt + (-1) * x_qCoded.toInt + (-1) * x_qWaits.toInt + 1 * x_at.toInt ≤ (-1)) ∧ (∃ i : Nat, i < J33_c0_113.toInt.toNat ∧ g_qWait i = 25)) → (O = F_X10_qGoesOnTest_33 (Int32.toInt x_bad) (lf_A g_qWait) (Int32.toInt J0_c0_114) K0 n (Int32.toInt J33_c0_2) (Int32.toInt J33_c0_111) (Int32.toInt J33_c0_113) (lf_A J33_a5)) → 1622 ≤ J33_c0_111.toInt + (n : Int) → va_P (dC, dI) vwCl [(a_this, .inr (10, mfs rm x_taped J33_c0_2 x_end x_ended x_bad x_badPlace x_fault x_faultPlace x_namePlace x_awayTold x_away x_coded x_statements x_isCrossing x_textKind x_askSecond x_redMany x_isOpen x_lastGreen x_greenTo x_isCycleGreen x_stillGreen x_rowMany x_fitMany x_fitRules x_fitGreen x_undoable x_newest x_seeded J33_c0_111 J33_c0_113 J0_c0_114 x_qBase x_qPiled x_qAnswer x_qIsNew x_octets)), (wi_rm0_0_1600_0 rm cy g_tape), (wi_rm92_2_3_0 rm cy g_andAsked), (wi_rm93_2_2_0 rm cy g_orAsked), (wi_rm112_0_1700_0 rm cy g_qWait), (wi_rm110_0_1700_0 rm cy J33_a5)] H → va_D A [(a_this, .inr (10, mfs rm x_taped J33_c0_2 x_end x_ended x_bad x_badPlace x_fault x_faultPlace x_namePlace x_awayTold x_away x_coded x_statements x_isCrossing x_textKind x_askSecond x_redMany x_isOpen x_lastGreen x_greenTo x_isCycleGreen x_stillGreen x_rowMany x_fitMany x_fitRules x_fitGreen x_undoable x_newest x_seeded J33_c0_111 J33_c0_113 J0_c0_114 x_qBase x_qPiled x_qAnswer x_qIsNew x_octets)), (wi_rm0_0_1600_0 rm cy g_tape), (wi_rm92_2_3_0 rm cy g_andAsked), (wi_rm93_2_2_0 rm cy g_orAsked), (wi_rm112_0_1700_0 rm cy g_qWait), (wi_rm110_0_1700_0 rm cy J33_a5)] → va_S A s.heap H locs → lv_has ls 1 [(0, .ref a_this)] → W p l e { frames := 3, cells := 0, slots := 0, locals := 64 } s m args below meth c H locs 0 0 Q (F0 m 33 ls []) := by
          as_aux_lemma =>
            intro n
            induction n with
            | zero =>
              intro J33_c0_2 J33_c0_111 J33_c0_113 J33_a5 H locs ls hJ33_c0_2 hK33_x_end hJ33_c0_111 hJ33_c0_113 hJ33_lin0 hJ33_lin1 hJ33_lin2 hJ33_lin3 hJ33_go hq hm
              exact absurd hm (by have := hJ33_c0_111; unfold ib at this; omega)
            | succ n ih =>
              intro J33_c0_2 J33_c0_111 J33_c0_113 J33_a5 H locs ls hJ33_c0_2 hK33_x_end hJ33_c0_111 hJ33_c0_113 hJ33_lin0 hJ33_lin1 hJ33_lin2 hJ33_lin3 hJ33_go hq hm33 hP hD hS hl
              have ih33 := ih
              obtain ⟨K33, hK33⟩ : ∃ K, K = F_X10_qGoesOnTest_33 (Int32.toInt x_bad) (lf_A g_qWait) (Int32.toInt J0_c0_114) K0 n := ⟨_, rfl⟩
              have hq : O = F_X10_qGoesOnTest_33b (Int32.toInt x_bad) (lf_A g_qWait) (Int32.toInt J0_c0_114) K0 K33 (Int32.toInt J33_c0_2) (Int32.toInt J33_c0_111) (Int32.toInt J33_c0_113) (lf_A J33_a5) := by rw [hK33]; exact hq
              unfold F_X10_qGoesOnTest_33b at hq
              have h107 : (-1) * J33_c0_113.toInt ≤ (-1) := by have q1 := hs_pos hJ33_go.2.2; omega
              have h108 : ib x_qCoded 0 1620 := ⟨(hx_qCoded).1, by have := (hx_qCoded).2; have := hL0; have := (hx_at).2; have := (hx_qWaits).1; omega⟩
              have h109 : ib x_qWaits 0 1620 := ⟨(hx_qWaits).1, by have := (hx_qWaits).2; have := hL0; have := (hx_at).2; have := (h108).1; omega⟩
              have h110 : ib J0_c0_2 0 1599 := ⟨(hJ0_c0_2).1, by have := (hJ0_c0_2).2; have := hJ33_lin2; have := (hJ33_c0_2).2; omega⟩
              have h111 : ib J33_c0_113 1 1620 := ⟨by have := h107; omega, (hJ33_c0_113).2⟩
              refine lv_aload_n hx hb dX10_qGoesOnTest_33 rfl (lv_at hl 0 rfl) ?_
              refine lv_bipush (v := 25) hx hb dX10_qGoesOnTest_34 rfl ?_
              refine k_jim hP hD hS hA [0, 4] [false, true, true, true, false, true] rfl rfl rfl 0 0 (Nat.le_of_ble_eq_true rfl) (Nat.le_of_ble_eq_true rfl) (fun hPc hDc => k_runV (As := [.int 25]) (rest := []) C0 hZ hS hA (s_X10_qIsOn_a0_25 l dC dI cy sq a_this rm x_taped J33_c0_2 x_end x_ended x_bad x_badPlace x_fault x_faultPlace x_namePlace x_awayTold x_away x_coded x_statements x_isCrossing x_textKind x_askSecond x_redMany x_isOpen x_lastGreen x_greenTo x_isCycleGreen x_stillGreen x_rowMany x_fitMany x_fitRules x_fitGreen x_undoable x_newest x_seeded J33_c0_111 J33_c0_113 J0_c0_114 x_qBase x_qPiled x_qAnswer x_qIsNew x_octets g_qWait (ib_w 0 1700 h111 rfl)) mV_X10_641 hPc hDc rfl rfl rfl hl rfl rfl (Nat.le_of_ble_eq_true rfl) ⟨(Nat.le_of_ble_eq_true rfl), (Nat.le_of_ble_eq_true rfl)⟩ ⟨(Nat.le_of_ble_eq_true rfl), (Nat.le_of_ble_eq_true rfl)⟩ dX10_qGoesOnTest_36) (fun r112 u113 H locs hw hP hD hS => ?_)
              try dsimp only at hP hD hw
              replace hP : va_P (dC, dI) vwCl [(wi_rm0_0_1600_0 rm cy g_tape), (wi_rm92_2_3_0 rm cy g_andAsked), (wi_rm93_2_2_0 rm cy g_orAsked), (wi_rm110_0_1700_0 rm cy J33_a5), (a_this, .inr (10, mfs rm x_taped J33_c0_2 x_end x_ended x_bad x_badPlace x_fault x_faultPlace x_namePlace x_awayTold x_away x_coded x_statements x_isCrossing x_textKind x_askSecond x_redMany x_isOpen x_lastGreen x_greenTo x_isCycleGreen x_stillGreen x_rowMany x_fitMany x_fitRules x_fitGreen x_undoable x_newest x_seeded J33_c0_111 J33_c0_113 J0_c0_114 x_qBase x_qPiled x_qAnswer x_qIsNew x_octets)), (wi_rm112_0_1700_0 rm cy g_qWait)] H := hP
              replace hD := k_D hP hD
              obtain ⟨h114, h115, h116, h117⟩ := hw
              replace hq := lf_b1 hq h117
              refine lv_if_ne (tgt := 49) hx hb dX10_qGoesOnTest_39 rfl (fun c118 => ?_) (fun c118 => ?_)
              · as_aux_lemma =>
                  replace hq := lf_neg hq (lf_ne (lf_rf r112) (lf_lc 0 (0 : Int) rfl) c118)
                  have h119 : ib r112 1 1 := ib_w 1 1 (ib_ne_lo 0 h114 rfl c118) rfl
                  have h120 : ib J0_c0_111 0 1620 := ⟨(hJ0_c0_111).1, by have := (hJ0_c0_111).2; have := hJ0_lin1; have := (h110).2; have := (hJ0_c0_113).1; omega⟩
                  have h121 : ib J0_c0_113 0 1620 := ⟨(hJ0_c0_113).1, by have := (hJ0_c0_113).2; have := hJ0_lin1; have := (h110).2; have := (h120).1; omega⟩
                  have h122 : ib x_at 0 1599 := ⟨(hx_at).1, by have := (hx_at).2; have := hJ0_lin2; have := (h110).2; omega⟩
                  have h123 : ib J33_c0_111 0 1620 := ⟨(hJ33_c0_111).1, by have := (hJ33_c0_111).2; have := hJ33_lin1; have := (hJ33_c0_2).2; have := (h111).1; omega⟩
                  refine lv_aload_n hx hb dX10_qGoesOnTest_49 rfl (lv_at hl 0 rfl) ?_
                  refine lv_dup hx hb dX10_qGoesOnTest_50 rfl ?_
                  refine k_get C0 fg_X10_372 hP 4 rfl rfl dX10_qGoesOnTest_51 ?_
                  refine lv_iconst (v := 1) hx hb dX10_qGoesOnTest_54 rfl ?_
                  refine lv_isub hx hb dX10_qGoesOnTest_55 ?_
                  refine lv_topi (fun z124 ez124 => ?_)
                  have h125 := ib_sub h111 (ib_c 1 1 1 rfl) rfl
                  rw [← ez124] at h125
                  have h126 : ib z124 0 1619 := ib_w 0 1619 h125.1 rfl
                  have Ez124 := lf_sub h125.2 (lf_rf J33_c0_113) (lf_lc 1 (1 : Int) rfl)
                  refine k_put C0 fp_X10_372 hP hD hS 4 rfl rfl rfl (Nat.le_of_ble_eq_true rfl) dX10_qGoesOnTest_56 (fun H locs hP hD hS => ?_)
                  replace hP : va_P (dC, dI) vwCl [(wi_rm0_0_1600_0 rm cy g_tape), (wi_rm92_2_3_0 rm cy g_andAsked), (wi_rm93_2_2_0 rm cy g_orAsked), (wi_rm110_0_1700_0 rm cy J33_a5), (a_this, .inr (10, mfs rm x_taped J33_c0_2 x_end x_ended x_bad x_badPlace x_fault x_faultPlace x_namePlace x_awayTold x_away x_coded x_statements x_isCrossing x_textKind x_askSecond x_redMany x_isOpen x_lastGreen x_greenTo x_isCycleGreen x_stillGreen x_rowMany x_fitMany x_fitRules x_fitGreen x_undoable x_newest x_seeded J33_c0_111 z124 J0_c0_114 x_qBase x_qPiled x_qAnswer x_qIsNew x_octets)), (wi_rm112_0_1700_0 rm cy g_qWait)] H := hP
                  replace hD := k_D hP hD
                  have h127 : x_bad = 0 → GS J33_a5 J33_c0_111 g_qWait z124 z124 x_textKind (cc + 1) := fun q => GS_popT (hJ33_go.1 q) (by have := (h111).1; have := (h111).2; have := hJ33_lin0; have := hJ33_lin1; have := h107; have := (hJ33_c0_2).1; have := (hJ33_c0_2).2; have := hJ33_lin2; have := hJ33_lin3; have := (h122).1; have := (h122).2; have := hL0; have := hJ0_lin0; have := hJ0_lin2; have := (h109).1; have := (h109).2; have := (h108).1; have := (h108).2; have := (h123).1; have := (h123).2; have := (h110).1; have := (h110).2; have := hJ0_lin1; have := (h121).1; have := (h121).2; have := (h120).1; have := (h120).2; have := (h126).1; have := (h126).2; have := h125.2; have : (1 : Int32).toInt = 1 := rfl; omega) (by have := (h111).1; have := (h111).2; have := hJ33_lin0; have := hJ33_lin1; have := h107; have := (hJ33_c0_2).1; have := (hJ33_c0_2).2; have := hJ33_lin2; have := hJ33_lin3; have := (h122).1; have := (h122).2; have := hL0; have := hJ0_lin0; have := hJ0_lin2; have := (h109).1; have := (h109).2; have := (h108).1; have := (h108).2; have := (h123).1; have := (h123).2; have := (h110).1; have := (h110).2; have := hJ0_lin1; have := (h121).1; have := (h121).2; have := (h120).1; have := (h120).2; have := (h126).1; have := (h126).2; have := h125.2; have : (1 : Int32).toInt = 1 := rfl; omega) (by have q1 := (h116.1 c118).2; rw [show (J33_c0_113.toInt - 1).toNat = Int32.toNatClampNeg z124 from by show _ = (Int32.toInt z124).toNat; have := (h111).1; have := (h111).2; have := hJ33_lin0; have := hJ33_lin1; have := h107; have := (hJ33_c0_2).1; have := (hJ33_c0_2).2; have := hJ33_lin2; have := hJ33_lin3; have := (h122).1; have := (h122).2; have := hL0; have := hJ0_lin0; have := hJ0_lin2; have := (h109).1; have := (h109).2; have := (h108).1; have := (h108).2; have := (h123).1; have := (h123).2; have := (h110).1; have := (h110).2; have := hJ0_lin1; have := (h121).1; have := (h121).2; have := (h120).1; have := (h120).2; have := (h126).1; have := (h126).2; have := h125.2; have : (1 : Int32).toInt = 1 := rfl; omega] at q1; rw [q1]; decide)
                  refine lv_aload_n hx hb dX10_qGoesOnTest_59 rfl (lv_at hl 0 rfl) ?_
                  refine lv_dup hx hb dX10_qGoesOnTest_60 rfl ?_
                  refine k_get C0 fg_X10_375 hP 4 rfl rfl dX10_qGoesOnTest_61 ?_
                  refine lv_iconst (v := 1) hx hb dX10_qGoesOnTest_64 rfl ?_
                  refine lv_isub hx hb dX10_qGoesOnTest_65 ?_
                  refine lv_topi (fun z128 ez128 => ?_)
                  have Ez128 := lf_op lf_isub ez128 (lf_rf J0_c0_114) (lf_lc 1 (1 : Int) rfl)
                  refine k_put C0 fp_X10_375 hP hD hS 4 rfl rfl rfl (Nat.le_of_ble_eq_true rfl) dX10_qGoesOnTest_66 (fun H locs hP hD hS => ?_)
                  replace hP : va_P (dC, dI) vwCl [(wi_rm0_0_1600_0 rm cy g_tape), (wi_rm92_2_3_0 rm cy g_andAsked), (wi_rm93_2_2_0 rm cy g_orAsked), (wi_rm110_0_1700_0 rm cy J33_a5), (a_this, .inr (10, mfs rm x_taped J33_c0_2 x_end x_ended x_bad x_badPlace x_fault x_faultPlace x_namePlace x_awayTold x_away x_coded x_statements x_isCrossing x_textKind x_askSecond x_redMany x_isOpen x_lastGreen x_greenTo x_isCycleGreen x_stillGreen x_rowMany x_fitMany x_fitRules x_fitGreen x_undoable x_newest x_seeded J33_c0_111 z124 z128 x_qBase x_qPiled x_qAnswer x_qIsNew x_octets)), (wi_rm112_0_1700_0 rm cy g_qWait)] H := hP
                  replace hD := k_D hP hD
                  refine lv_aload_n hx hb dX10_qGoesOnTest_69 rfl (lv_at hl 0 rfl) ?_
                  refine k_jvm hP hD hS hA [4, 5, 3] [true, true, true] rfl rfl rfl 0 0 (Nat.le_of_ble_eq_true rfl) (Nat.le_of_ble_eq_true rfl) (fun hPc hDc => k_runV (As := []) (rest := []) C0 hZ hS hA (s_X10_qDropsNots l dC dI cy sq a_this rm x_taped J33_c0_2 x_end x_ended x_bad x_badPlace x_fault x_faultPlace x_namePlace x_awayTold x_away x_coded x_statements x_isCrossing x_textKind x_askSecond x_redMany x_isOpen x_lastGreen x_greenTo x_isCycleGreen x_stillGreen x_rowMany x_fitMany x_fitRules x_fitGreen x_undoable x_newest x_seeded J33_c0_111 z124 z128 x_qBase x_qPiled x_qAnswer x_qIsNew x_octets J33_a5 g_qWait cc (ib_w 0 1700 h123 rfl) (ib_w 0 1700 h126 rfl) (by have := (h126).2; have := h125.2; have : (1 : Int32).toInt = 1 := rfl; have := hJ33_lin1; have := (hJ33_c0_2).2; have := (h123).2; omega) (fun q => (h127 q))) mV_X10_653 hPc hDc rfl rfl rfl hl rfl rfl (Nat.le_of_ble_eq_true rfl) ⟨(Nat.le_of_ble_eq_true rfl), (Nat.le_of_ble_eq_true rfl)⟩ ⟨(Nat.le_of_ble_eq_true rfl), (Nat.le_of_ble_eq_true rfl)⟩ dX10_qGoesOnTest_70) (fun u130 H locs hw hP hD hS => ?_)
                  obtain ⟨v131, v132, v133, f134⟩ := u130
                  try dsimp only at hP hD hw
                  replace hP : va_P (dC, dI) vwCl [(wi_rm0_0_1600_0 rm cy g_tape), (wi_rm92_2_3_0 rm cy g_andAsked), (wi_rm93_2_2_0 rm cy g_orAsked), (a_this, .inr (10, mfs rm x_taped J33_c0_2 x_end x_ended x_bad x_badPlace x_fault x_faultPlace x_namePlace x_awayTold x_away x_coded x_statements x_isCrossing x_textKind x_askSecond x_redMany x_isOpen x_lastGreen x_greenTo x_isCycleGreen x_stillGreen x_rowMany x_fitMany x_fitRules x_fitGreen x_undoable x_newest x_seeded v131 v132 v133 x_qBase x_qPiled x_qAnswer x_qIsNew x_octets)), (wi_rm112_0_1700_0 rm cy g_qWait), (wi_rm110_0_1700_0 rm cy f134)] H := hP
                  replace hD := k_D hP hD
                  obtain ⟨h135, h136, h137, h138, h139, h140, h141⟩ := hw
                  have h141 := by have h9 := h141; rw [lf_u Ez124] at h9; rw [lf_u Ez128] at h9; exact h9
                  replace hq := lf_p1 hq h141
                  replace hq := lf_p1 hq rfl
                  replace hq := lf_p1 hq rfl
                  refine lv_goto (tgt := 0) hx hb dX10_qGoesOnTest_73 rfl ?_
                  exact ih0 J33_c0_2 v131 v132 v133 f134 H locs ls (ib_w 0 1600 hJ33_c0_2 rfl) ⟨by have := (h135).1; omega, by have := (hJ33_c0_2).2; have := hJ33_lin1; have := h137; have := h125.2; have : (1 : Int32).toInt = 1 := rfl; have := (h136).1; have := (h135).2; omega⟩ ⟨by have := (h136).1; omega, by have := (h126).2; have := h139; have := (h136).2; omega⟩ (by have := hJ33_lin0; have := h137; have := h125.2; have : (1 : Int32).toInt = 1 := rfl; omega) (by have := hJ33_lin1; have := h137; have := h125.2; have : (1 : Int32).toInt = 1 := rfl; omega) (by have := hJ33_lin3; omega) (⟨fun q => (h140 q), fun q9 => (by have := (hJ33_go.2.1 q9); have := h137; have := h125.2; have : (1 : Int32).toInt = 1 := rfl; omega)⟩) (by rw [← hK0]; exact hq) (by have := (h110).1; have := (h110).2; have := hJ0_lin0; have := hJ0_lin1; have := hJ0_lin2; have := hJ33_lin2; have := (hJ33_c0_2).1; have := (hJ33_c0_2).2; have := hJ33_lin0; have := hJ33_lin1; have := hJ33_lin3; have := (h122).1; have := (h122).2; have := hL0; have := (h109).1; have := (h109).2; have := (h108).1; have := (h108).2; have := (h111).1; have := (h111).2; have := h107; have := (h123).1; have := (h123).2; have := h137; have := h138; have := (h126).1; have := (h126).2; have := h125.2; have : (1 : Int32).toInt = 1 := rfl; have := h139; have := (h136).1; have := (h136).2; have := (h135).1; have := (h135).2; have := (h121).1; have := (h121).2; have := (h120).1; have := (h120).2; omega) (hP.sub [3, 0, 1, 2, 4, 5] rfl) (hD.sub [3, 0, 1, 2, 4, 5] rfl rfl) hS (lv_sub hl [0] rfl)
              · as_aux_lemma =>
                  replace hq := lf_pos hq (lf_eq (lf_rf r112) (lf_lc 0 (0 : Int) rfl) c118)
                  have h142 := ib_eq h114 (ib_c 0 0 0 rfl) c118
                  have h143 : ib r112 0 0 := ib_w 0 0 h142.1 rfl
                  have h144 : ib J0_c0_111 0 1620 := ⟨(hJ0_c0_111).1, by have := (hJ0_c0_111).2; have := hJ0_lin1; have := (h110).2; have := (hJ0_c0_113).1; omega⟩
                  have h145 : ib J0_c0_113 0 1620 := ⟨(hJ0_c0_113).1, by have := (hJ0_c0_113).2; have := hJ0_lin1; have := (h110).2; have := (h144).1; omega⟩
                  have h146 : ib x_at 0 1599 := ⟨(hx_at).1, by have := (hx_at).2; have := hJ0_lin2; have := (h110).2; omega⟩
                  have h147 : ib J33_c0_111 0 1620 := ⟨(hJ33_c0_111).1, by have := (hJ33_c0_111).2; have := hJ33_lin1; have := (hJ33_c0_2).2; have := (h111).1; omega⟩
                  have h148 : ib x_qCoded 0 1619 := ⟨(h108).1, by have := (h108).2; have := hL0; have := (h146).2; have := (h109).1; omega⟩
                  have h149 : ib x_qWaits 0 1619 := ⟨(h109).1, by have := (h109).2; have := hL0; have := (h146).2; have := (h148).1; omega⟩
                  refine lv_aload_n hx hb dX10_qGoesOnTest_42 rfl (lv_at hl 0 rfl) ?_
                  refine k_jvm hP hD hS hA [4, 5, 3] [true, true, true] rfl rfl rfl 0 0 (Nat.le_of_ble_eq_true rfl) (Nat.le_of_ble_eq_true rfl) (fun hPc hDc => k_runV (As := []) (rest := []) C0 hZ hS hA (s_X10_qDrops l dC dI cy sq a_this rm x_taped J33_c0_2 x_end x_ended x_bad x_badPlace x_fault x_faultPlace x_namePlace x_awayTold x_away x_coded x_statements x_isCrossing x_textKind x_askSecond x_redMany x_isOpen x_lastGreen x_greenTo x_isCycleGreen x_stillGreen x_rowMany x_fitMany x_fitRules x_fitGreen x_undoable x_newest x_seeded J33_c0_111 J33_c0_113 J0_c0_114 x_qBase x_qPiled x_qAnswer x_qIsNew x_octets J33_a5 g_qWait (ib_w 0 1699 h147 rfl) (ib_w 1 1700 h111 rfl)) mV_X10_614 hPc hDc rfl rfl rfl hl rfl rfl (Nat.le_of_ble_eq_true rfl) ⟨(Nat.le_of_ble_eq_true rfl), (Nat.le_of_ble_eq_true rfl)⟩ ⟨(Nat.le_of_ble_eq_true rfl), (Nat.le_of_ble_eq_true rfl)⟩ dX10_qGoesOnTest_43) (fun u151 H locs hw hP hD hS => ?_)
                  obtain ⟨v152, v153, f154⟩ := u151
                  try dsimp only at hP hD hw
                  replace hP : va_P (dC, dI) vwCl [(wi_rm0_0_1600_0 rm cy g_tape), (wi_rm92_2_3_0 rm cy g_andAsked), (wi_rm93_2_2_0 rm cy g_orAsked), (a_this, .inr (10, mfs rm x_taped J33_c0_2 x_end x_ended x_bad x_badPlace x_fault x_faultPlace x_namePlace x_awayTold x_away x_coded x_statements x_isCrossing x_textKind x_askSecond x_redMany x_isOpen x_lastGreen x_greenTo x_isCycleGreen x_stillGreen x_rowMany x_fitMany x_fitRules x_fitGreen x_undoable x_newest x_seeded v152 v153 J0_c0_114 x_qBase x_qPiled x_qAnswer x_qIsNew x_octets)), (wi_rm112_0_1700_0 rm cy g_qWait), (wi_rm110_0_1700_0 rm cy f154)] H := hP
                  replace hD := k_D hP hD
                  obtain ⟨h155, h156, h157, h158, h159, h160⟩ := hw
                  have h161 : v152.toInt = (J33_c0_111 : Int32).toInt + (1 : Int32).toInt := by have q1 := h156; have q2 : (1 : Int32).toInt = 1 := rfl; omega
                  have h162 : ib v152 1 1621 := ⟨by have q1 := h156; have := (h147).1; have := (h155).1; omega, by have q1 := h156; have := (h147).2; have := (h155).2; omega⟩
                  have h163 : v153.toInt = (J33_c0_113 : Int32).toInt + ((-1) : Int32).toInt := by have q1 := h158; have q2 : ((-1) : Int32).toInt = (-1) := rfl; omega
                  have h164 : ib v153 0 1619 := ⟨by have q1 := h158; have := (h111).1; have := (h157).1; omega, by have q1 := h158; have := (h111).2; have := (h157).2; omega⟩
                  replace hq := lf_p1 hq h160
                  replace hq := lf_p1 hq rfl
                  have h165 : x_bad = 0 → GS f154 v152 g_qWait v153 v153 x_textKind (cc + 1) := fun _ => (by rw [h159]; exact GS_dropT (hJ33_go.1 (ib_one hx_bad rfl)) (by have := h161; have : (1 : Int32).toInt = 1 := rfl; omega) (by have := h163; have : ((-1) : Int32).toInt = (-1) := rfl; omega) (by have := (h164).1; omega) rfl (fun q => absurd (show g_qWait (Int32.toNatClampNeg v153) = 25 from cn (q.trans (by decide))) (by rcases h116.2 (ib_one h143 rfl) with q | q; exact absurd q (by have := (h111).1; have := (h111).2; have := hJ33_lin0; have := hJ33_lin1; have := h107; have := (hJ33_c0_2).1; have := (hJ33_c0_2).2; have := hJ33_lin2; have := hJ33_lin3; have := (h146).1; have := (h146).2; have := hL0; have := hJ0_lin0; have := hJ0_lin2; have := (h149).1; have := (h149).2; have := (h148).1; have := (h148).2; have := (h147).1; have := (h147).2; have := (h110).1; have := (h110).2; have := hJ0_lin1; have := (h145).1; have := (h145).2; have := (h144).1; have := (h144).2; have := (h164).1; have := (h164).2; have := h163; have : ((-1) : Int32).toInt = (-1) := rfl; omega); rw [show (J33_c0_113.toInt - 1).toNat = Int32.toNatClampNeg v153 from by show _ = (Int32.toInt v153).toNat; have := (h111).1; have := (h111).2; have := hJ33_lin0; have := hJ33_lin1; have := h107; have := (hJ33_c0_2).1; have := (hJ33_c0_2).2; have := hJ33_lin2; have := hJ33_lin3; have := (h146).1; have := (h146).2; have := hL0; have := hJ0_lin0; have := hJ0_lin2; have := (h149).1; have := (h149).2; have := (h148).1; have := (h148).2; have := (h147).1; have := (h147).2; have := (h110).1; have := (h110).2; have := hJ0_lin1; have := (h145).1; have := (h145).2; have := (h144).1; have := (h144).2; have := (h164).1; have := (h164).2; have := h163; have : ((-1) : Int32).toInt = (-1) := rfl; omega] at q; exact q)))
                  refine lv_goto (tgt := 33) hx hb dX10_qGoesOnTest_46 rfl ?_
                  exact ih33 J33_c0_2 v152 v153 f154 H locs ls (ib_w 1 1600 hJ33_c0_2 rfl) (ib_w 1 1600 hK33_x_end rfl) (ib_w 0 1621 h162 rfl) (ib_w 0 1620 h164 rfl) (by have := hJ33_lin0; have := h163; have : ((-1) : Int32).toInt = (-1) := rfl; have := h161; have : (1 : Int32).toInt = 1 := rfl; omega) (by have := hJ33_lin1; have := h163; have : ((-1) : Int32).toInt = (-1) := rfl; have := h161; have : (1 : Int32).toInt = 1 := rfl; omega) (by have := hJ33_lin2; omega) (by have := hJ33_lin3; omega) (⟨fun q => (h165 q), fun q9 => (by have := hJ33_lin0; have := (hJ33_go.2.1 q9); have := h163; have : ((-1) : Int32).toInt = (-1) := rfl; have := h161; have : (1 : Int32).toInt = 1 := rfl; omega), hs_drop hJ33_go.2.2 (by have := (h111).1; have := (h111).2; have := hJ33_lin0; have := hJ33_lin1; have := h107; have := (hJ33_c0_2).1; have := (hJ33_c0_2).2; have := hJ33_lin2; have := hJ33_lin3; have := (h146).1; have := (h146).2; have := hL0; have := hJ0_lin0; have := hJ0_lin2; have := (h149).1; have := (h149).2; have := (h148).1; have := (h148).2; have := (h147).1; have := (h147).2; have := (h110).1; have := (h110).2; have := hJ0_lin1; have := (h145).1; have := (h145).2; have := (h144).1; have := (h144).2; have := (h164).1; have := (h164).2; have := h163; have : ((-1) : Int32).toInt = (-1) := rfl; omega) (by rcases h116.2 (ib_one h143 rfl) with q | q; exact absurd q (by have := (h111).1; have := (h111).2; have := hJ33_lin0; have := hJ33_lin1; have := h107; have := (hJ33_c0_2).1; have := (hJ33_c0_2).2; have := hJ33_lin2; have := hJ33_lin3; have := (h146).1; have := (h146).2; have := hL0; have := hJ0_lin0; have := hJ0_lin2; have := (h149).1; have := (h149).2; have := (h148).1; have := (h148).2; have := (h147).1; have := (h147).2; have := (h110).1; have := (h110).2; have := hJ0_lin1; have := (h145).1; have := (h145).2; have := (h144).1; have := (h144).2; have := (h164).1; have := (h164).2; have := h163; have : ((-1) : Int32).toInt = (-1) := rfl; omega); rw [show (J33_c0_113.toInt - 1).toNat = Int32.toNatClampNeg v153 from by show _ = (Int32.toInt v153).toNat; have := (h111).1; have := (h111).2; have := hJ33_lin0; have := hJ33_lin1; have := h107; have := (hJ33_c0_2).1; have := (hJ33_c0_2).2; have := hJ33_lin2; have := hJ33_lin3; have := (h146).1; have := (h146).2; have := hL0; have := hJ0_lin0; have := hJ0_lin2; have := (h149).1; have := (h149).2; have := (h148).1; have := (h148).2; have := (h147).1; have := (h147).2; have := (h110).1; have := (h110).2; have := hJ0_lin1; have := (h145).1; have := (h145).2; have := (h144).1; have := (h144).2; have := (h164).1; have := (h164).2; have := h163; have : ((-1) : Int32).toInt = (-1) := rfl; omega] at q; exact q)⟩) (by rw [← hK33]; exact hq) (by have := h161; have : (1 : Int32).toInt = 1 := rfl; omega) (hP.sub [3, 0, 1, 2, 4, 5] rfl) (hD.sub [3, 0, 1, 2, 4, 5] rfl rfl) hS (lv_sub hl [0] rfl)
        refine lv_aload_n hx hb dX10_qGoesOnTest_0 rfl (lv_at hl 0 rfl) ?_
        refine k_get C0 fg_X10_279 hP 0 rfl rfl dX10_qGoesOnTest_1 ?_
        refine lv_if_ne (tgt := 76) hx hb dX10_qGoesOnTest_4 rfl (fun c166 => ?_) (fun c166 => ?_)
        · skip
          exact absurd (ib_one hx_bad rfl) c166
        · as_aux_lemma =>
            skip
            have h167 := ib_eq hx_bad (ib_c 0 0 0 rfl) c166
            have h168 : ib x_qCoded 0 1620 := ⟨(hx_qCoded).1, by have := (hx_qCoded).2; have := hL0; have := (hx_at).2; have := (hx_qWaits).1; omega⟩
            have h169 : ib x_qWaits 0 1620 := ⟨(hx_qWaits).1, by have := (hx_qWaits).2; have := hL0; have := (hx_at).2; have := (h168).1; omega⟩
            have h170 := hJ0_go.2 (ib_one hx_bad rfl)
            refine lv_aload_n hx hb dX10_qGoesOnTest_7 rfl (lv_at hl 0 rfl) ?_
            refine k_jim hP hD hS hA [0, 1] [false, false, true, true, true, true] rfl rfl rfl 0 0 (Nat.le_of_ble_eq_true rfl) (Nat.le_of_ble_eq_true rfl) (fun hPc hDc => k_runV (As := []) (rest := []) C0 hZ hS hA (s_X10_look l dC dI cy sq a_this rm x_taped J0_c0_2 x_end x_ended x_bad x_badPlace x_fault x_faultPlace x_namePlace x_awayTold x_away x_coded x_statements x_isCrossing x_textKind x_askSecond x_redMany x_isOpen x_lastGreen x_greenTo x_isCycleGreen x_stillGreen x_rowMany x_fitMany x_fitRules x_fitGreen x_undoable x_newest x_seeded J0_c0_111 J0_c0_113 J0_c0_114 x_qBase x_qPiled x_qAnswer x_qIsNew x_octets g_tape (ib_w 0 1600 hJ0_c0_2 rfl) (ib_w 0 1600 hx_end rfl) hg_tape) mV_X10_291 hPc hDc rfl rfl rfl hl rfl rfl (Nat.le_of_ble_eq_true rfl) ⟨(Nat.le_of_ble_eq_true rfl), (Nat.le_of_ble_eq_true rfl)⟩ ⟨(Nat.le_of_ble_eq_true rfl), (Nat.le_of_ble_eq_true rfl)⟩ dX10_qGoesOnTest_8) (fun r171 u172 H locs hw hP hD hS => ?_)
            obtain ⟨v173, ev173⟩ : ∃ z, z = u172 := ⟨_, rfl⟩; subst ev173
            try dsimp only at hP hD hw
            replace hP : va_P (dC, dI) vwCl [(wi_rm92_2_3_0 rm cy g_andAsked), (wi_rm93_2_2_0 rm cy g_orAsked), (wi_rm112_0_1700_0 rm cy g_qWait), (wi_rm110_0_1700_0 rm cy J0_a5), (a_this, .inr (10, mfs rm x_taped v173 x_end x_ended x_bad x_badPlace x_fault x_faultPlace x_namePlace x_awayTold x_away x_coded x_statements x_isCrossing x_textKind x_askSecond x_redMany x_isOpen x_lastGreen x_greenTo x_isCycleGreen x_stillGreen x_rowMany x_fitMany x_fitRules x_fitGreen x_undoable x_newest x_seeded J0_c0_111 J0_c0_113 J0_c0_114 x_qBase x_qPiled x_qAnswer x_qIsNew x_octets)), (wi_rm0_0_1600_0 rm cy g_tape)] H := hP
            replace hD := k_D hP hD
            obtain ⟨h174, h175, h176, h177, h178, h179, h180, h181, h182, h183⟩ := hw
            replace hq := lf_p1 hq h183
            refine lv_bipush (v := 93) hx hb dX10_qGoesOnTest_11 rfl ?_
            refine lv_icmp_ne (tgt := 76) hx hb dX10_qGoesOnTest_13 rfl (fun c184 => ?_) (fun c184 => ?_)
            · as_aux_lemma =>
                replace hq := lf_neg hq (lf_ne (lf_rf r171) (lf_lc 93 (93 : Int) rfl) c184)
                refine lv_aload_n hx hb dX10_qGoesOnTest_76 rfl (lv_at hl 0 rfl) ?_
                refine lv_aload_n hx hb dX10_qGoesOnTest_77 rfl (lv_at hl 0 rfl) ?_
                refine k_get C0 fg_X10_210 hP 4 rfl rfl dX10_qGoesOnTest_78 ?_
                refine k_jim hP hD hS hA [4, 5, 0] [false, true, true, true] rfl rfl rfl 0 0 (Nat.le_of_ble_eq_true rfl) (Nat.le_of_ble_eq_true rfl) (fun hPc hDc => k_runV (As := [.ref (rm 92)]) (rest := []) C0 hZ hS hA (s_X10_takes l dC dI cy sq a_this rm x_taped v173 x_end x_ended x_bad x_badPlace x_fault x_faultPlace x_namePlace x_awayTold x_away x_coded x_statements x_isCrossing x_textKind x_askSecond x_redMany x_isOpen x_lastGreen x_greenTo x_isCycleGreen x_stillGreen x_rowMany x_fitMany x_fitRules x_fitGreen x_undoable x_newest x_seeded J0_c0_111 J0_c0_113 J0_c0_114 x_qBase x_qPiled x_qAnswer x_qIsNew x_octets g_tape (rm 92) g_andAsked (ib_w 0 1600 h174 rfl) (ib_w 0 1600 hx_end rfl) hg_tape) mV_X10_305 hPc hDc rfl rfl rfl hl rfl rfl (Nat.le_of_ble_eq_true rfl) ⟨(Nat.le_of_ble_eq_true rfl), (Nat.le_of_ble_eq_true rfl)⟩ ⟨(Nat.le_of_ble_eq_true rfl), (Nat.le_of_ble_eq_true rfl)⟩ dX10_qGoesOnTest_81) (fun r185 u186 H locs hw hP hD hS => ?_)
                obtain ⟨v187, v188⟩ := u186
                try dsimp only at hP hD hw
                replace hP : va_P (dC, dI) vwCl [(wi_rm93_2_2_0 rm cy g_orAsked), (wi_rm112_0_1700_0 rm cy g_qWait), (wi_rm110_0_1700_0 rm cy J0_a5), (a_this, .inr (10, mfs rm x_taped v187 x_end v188 x_bad x_badPlace x_fault x_faultPlace x_namePlace x_awayTold x_away x_coded x_statements x_isCrossing x_textKind x_askSecond x_redMany x_isOpen x_lastGreen x_greenTo x_isCycleGreen x_stillGreen x_rowMany x_fitMany x_fitRules x_fitGreen x_undoable x_newest x_seeded J0_c0_111 J0_c0_113 J0_c0_114 x_qBase x_qPiled x_qAnswer x_qIsNew x_octets)), (wi_rm0_0_1600_0 rm cy g_tape), (wi_rm92_2_3_0 rm cy g_andAsked)] H := hP
                replace hD := k_D hP hD
                obtain ⟨h189, h190, h191, h192, h193, h194, h195, h196, h197, h198⟩ := hw
                replace hq := lf_p1 hq h198
                replace hq := lf_p1 hq rfl
                refine lv_if_eq (tgt := 126) hx hb dX10_qGoesOnTest_84 rfl (fun c199 => ?_) (fun c199 => ?_)
                · as_aux_lemma =>
                    replace hq := lf_pos hq (lf_eq (lf_rf r185) (lf_lc 0 (0 : Int) rfl) c199)
                    have h200 := ib_eq h190 (ib_c 0 0 0 rfl) c199
                    have h201 : ib r185 0 0 := ib_w 0 0 h200.1 rfl
                    refine lv_aload_n hx hb dX10_qGoesOnTest_126 rfl (lv_at hl 0 rfl) ?_
                    refine lv_aload_n hx hb dX10_qGoesOnTest_127 rfl (lv_at hl 0 rfl) ?_
                    refine k_get C0 fg_X10_213 hP 3 rfl rfl dX10_qGoesOnTest_128 ?_
                    refine k_jim hP hD hS hA [3, 4, 0] [false, true, true, false, false, true] rfl rfl rfl 0 0 (Nat.le_of_ble_eq_true rfl) (Nat.le_of_ble_eq_true rfl) (fun hPc hDc => k_runV (As := [.ref (rm 93)]) (rest := []) C0 hZ hS hA (s_X10_takes_r2 l dC dI cy sq a_this rm x_taped v187 x_end v188 x_bad x_badPlace x_fault x_faultPlace x_namePlace x_awayTold x_away x_coded x_statements x_isCrossing x_textKind x_askSecond x_redMany x_isOpen x_lastGreen x_greenTo x_isCycleGreen x_stillGreen x_rowMany x_fitMany x_fitRules x_fitGreen x_undoable x_newest x_seeded J0_c0_111 J0_c0_113 J0_c0_114 x_qBase x_qPiled x_qAnswer x_qIsNew x_octets g_tape (rm 93) g_orAsked (ib_w 0 1600 h189 rfl) (ib_w 0 1600 hx_end rfl) hg_tape) mV_X10_305 hPc hDc rfl rfl rfl hl rfl rfl (Nat.le_of_ble_eq_true rfl) ⟨(Nat.le_of_ble_eq_true rfl), (Nat.le_of_ble_eq_true rfl)⟩ ⟨(Nat.le_of_ble_eq_true rfl), (Nat.le_of_ble_eq_true rfl)⟩ dX10_qGoesOnTest_131) (fun r202 u203 H locs hw hP hD hS => ?_)
                    obtain ⟨v204, v205⟩ := u203
                    try dsimp only at hP hD hw
                    replace hP : va_P (dC, dI) vwCl [(wi_rm112_0_1700_0 rm cy g_qWait), (wi_rm110_0_1700_0 rm cy J0_a5), (wi_rm92_2_3_0 rm cy g_andAsked), (a_this, .inr (10, mfs rm x_taped v204 x_end v205 x_bad x_badPlace x_fault x_faultPlace x_namePlace x_awayTold x_away x_coded x_statements x_isCrossing x_textKind x_askSecond x_redMany x_isOpen x_lastGreen x_greenTo x_isCycleGreen x_stillGreen x_rowMany x_fitMany x_fitRules x_fitGreen x_undoable x_newest x_seeded J0_c0_111 J0_c0_113 J0_c0_114 x_qBase x_qPiled x_qAnswer x_qIsNew x_octets)), (wi_rm0_0_1600_0 rm cy g_tape), (wi_rm93_2_2_0 rm cy g_orAsked)] H := hP
                    replace hD := k_D hP hD
                    obtain ⟨h206, h207, h208, h209, h210, h211, h212, h213, h214, h215⟩ := hw
                    replace hq := lf_p1 hq h215
                    replace hq := lf_p1 hq rfl
                    refine lv_if_eq (tgt := 185) hx hb dX10_qGoesOnTest_134 rfl (fun c216 => ?_) (fun c216 => ?_)
                    · as_aux_lemma =>
                        replace hq := lf_pos hq (lf_eq (lf_rf r202) (lf_lc 0 (0 : Int) rfl) c216)
                        have h217 := ib_eq h207 (ib_c 0 0 0 rfl) c216
                        have h218 : ib r202 0 0 := ib_w 0 0 h217.1 rfl
                        refine lv_aload_n hx hb dX10_qGoesOnTest_185 rfl (lv_at hl 0 rfl) ?_
                        refine k_get C0 fg_X10_279 hP 3 rfl rfl dX10_qGoesOnTest_186 ?_
                        refine lv_if_ne (tgt := 208) hx hb dX10_qGoesOnTest_189 rfl (fun c219 => ?_) (fun c219 => ?_)
                        · skip
                          exact absurd (ib_one hx_bad rfl) c219
                        · as_aux_lemma =>
                            skip
                            have h220 := ib_eq hx_bad (ib_c 0 0 0 rfl) c219
                            have h221 := hJ0_go.2 (ib_one hx_bad rfl)
                            refine lv_aload_n hx hb dX10_qGoesOnTest_192 rfl (lv_at hl 0 rfl) ?_
                            refine k_jim hP hD hS hA [3, 0] [false, true, true, false, true, true] rfl rfl rfl 0 0 (Nat.le_of_ble_eq_true rfl) (Nat.le_of_ble_eq_true rfl) (fun hPc hDc => k_runV (As := []) (rest := []) C0 hZ hS hA (s_X10_qHasSquare l dC dI cy sq a_this rm x_taped v204 x_end v205 x_bad x_badPlace x_fault x_faultPlace x_namePlace x_awayTold x_away x_coded x_statements x_isCrossing x_textKind x_askSecond x_redMany x_isOpen x_lastGreen x_greenTo x_isCycleGreen x_stillGreen x_rowMany x_fitMany x_fitRules x_fitGreen x_undoable x_newest x_seeded J0_c0_111 J0_c0_113 J0_c0_114 x_qBase x_qPiled x_qAnswer x_qIsNew x_octets g_qWait (ib_w 0 1700 hJ0_c0_113 rfl)) mV_X10_659 hPc hDc rfl rfl rfl hl rfl rfl (Nat.le_of_ble_eq_true rfl) ⟨(Nat.le_of_ble_eq_true rfl), (Nat.le_of_ble_eq_true rfl)⟩ ⟨(Nat.le_of_ble_eq_true rfl), (Nat.le_of_ble_eq_true rfl)⟩ dX10_qGoesOnTest_193) (fun r222 u223 H locs hw hP hD hS => ?_)
                            try dsimp only at hP hD hw
                            replace hP : va_P (dC, dI) vwCl [(wi_rm110_0_1700_0 rm cy J0_a5), (wi_rm92_2_3_0 rm cy g_andAsked), (wi_rm0_0_1600_0 rm cy g_tape), (wi_rm93_2_2_0 rm cy g_orAsked), (a_this, .inr (10, mfs rm x_taped v204 x_end v205 x_bad x_badPlace x_fault x_faultPlace x_namePlace x_awayTold x_away x_coded x_statements x_isCrossing x_textKind x_askSecond x_redMany x_isOpen x_lastGreen x_greenTo x_isCycleGreen x_stillGreen x_rowMany x_fitMany x_fitRules x_fitGreen x_undoable x_newest x_seeded J0_c0_111 J0_c0_113 J0_c0_114 x_qBase x_qPiled x_qAnswer x_qIsNew x_octets)), (wi_rm112_0_1700_0 rm cy g_qWait)] H := hP
                            replace hD := k_D hP hD
                            obtain ⟨h224, h225, h226, h227⟩ := hw
                            replace hq := lf_b1 hq h227
                            refine lv_if_eq (tgt := 208) hx hb dX10_qGoesOnTest_196 rfl (fun c228 => ?_) (fun c228 => ?_)
                            · replace hq := lf_pos hq (lf_eq (lf_rf r222) (lf_lc 0 (0 : Int) rfl) c228)
                              have h229 := ib_eq h224 (ib_c 0 0 0 rfl) c228
                              have h230 : ib r222 0 0 := ib_w 0 0 h229.1 rfl
                              refine lv_iconst (v := 0) hx hb dX10_qGoesOnTest_208 rfl ?_
                              subst hQ; exact k_iret hx hb hr hlk (k_nb 0 rfl) ((v204, v205, x_bad, x_badPlace, J0_c0_111, J0_c0_113, J0_c0_114, g_qWait, J0_a5)) hS ⟨ib_w 0 1600 h206 rfl, ib_w 0 1 hx_bad rfl, ib_w 0 1621 hJ0_c0_111 rfl, ib_w 0 1622 hJ0_c0_113 rfl, ib_w 0 1 (ib_c 0 0 0 rfl) rfl, fun hq9 => absurd rfl hq9, fun hq9 => absurd rfl hq9, fun hq9 => absurd rfl hq9, fun hq9 => absurd rfl hq9, fun hq9 => absurd rfl hq9, fun hq9 => absurd rfl hq9, fun hq9 => absurd rfl hq9, fun q => q, (by have := h170; have := (hJ0_c0_2).2; have := h179; have := h196; have := h213; have := (h206).1; omega), fun hq9 => (by have := h170; have := (hJ0_c0_2).2; have := h179; have := h196; have := h213; have := (h206).1; omega), (by have := (h206).1; have := h213; have := h196; have := h179; have := hJ0_lin2; have := (hx_at).2; omega), fun hq8 => absurd rfl hq8, fun hq8 => fun q => ⟨(hJ0_go.1 q), (h226.2 (ib_one h230 rfl))⟩, (hO.symm.trans (by try simp only [show (0 : Int32).toInt = (0 : Int) from rfl]; exact hq))⟩ (hP.sub [4, 2, 1, 3, 5, 0] rfl) (hD.sub [4, 2, 1, 3, 5, 0] rfl rfl) (Nat.le_of_ble_eq_true rfl) (Nat.le_of_ble_eq_true rfl) dX10_qGoesOnTest_209
                            · replace hq := lf_neg hq (lf_ne (lf_rf r222) (lf_lc 0 (0 : Int) rfl) c228)
                              have h231 : ib r222 1 1 := ib_w 1 1 (ib_ne_lo 0 h224 rfl c228) rfl
                              have h232 : ib J0_c0_113 1 1621 := ib_w 1 1621 (ib_two hJ0_c0_113 (h225 (ib_nz h231 rfl))) rfl
                              have h233 : ib J0_c0_111 0 1620 := ⟨(hJ0_c0_111).1, by have := (hJ0_c0_111).2; have := h170; have := hL0; have := (hJ0_c0_2).2; have := (h232).1; omega⟩
                              refine lv_aload_n hx hb dX10_qGoesOnTest_199 rfl (lv_at hl 0 rfl) ?_
                              refine lv_iconst (v := 1) hx hb dX10_qGoesOnTest_200 rfl ?_
                              refine lv_aload_n hx hb dX10_qGoesOnTest_201 rfl (lv_at hl 0 rfl) ?_
                              refine k_get C0 fg_X10_285 hP 4 rfl rfl dX10_qGoesOnTest_202 ?_
                              refine k_jvm hP hD hS hA [4] [true, true, true, true, false, true] rfl rfl rfl 0 0 (Nat.le_of_ble_eq_true rfl) (Nat.le_of_ble_eq_true rfl) (fun hPc hDc => k_runV (As := [.int 1, .int v204]) (rest := []) C0 hZ hS hA (s_X10_fail_a0_1_f_bad_0_0 l dC dI cy sq a_this rm x_taped v204 x_end v205 x_bad x_badPlace x_fault x_faultPlace x_namePlace x_awayTold x_away x_coded x_statements x_isCrossing x_textKind x_askSecond x_redMany x_isOpen x_lastGreen x_greenTo x_isCycleGreen x_stillGreen x_rowMany x_fitMany x_fitRules x_fitGreen x_undoable x_newest x_seeded J0_c0_111 J0_c0_113 J0_c0_114 x_qBase x_qPiled x_qAnswer x_qIsNew x_octets v204 (ib_w 0 0 hx_bad rfl)) mV_X10_308 hPc hDc rfl rfl rfl hl rfl rfl (Nat.le_of_ble_eq_true rfl) ⟨(Nat.le_of_ble_eq_true rfl), (Nat.le_of_ble_eq_true rfl)⟩ ⟨(Nat.le_of_ble_eq_true rfl), (Nat.le_of_ble_eq_true rfl)⟩ dX10_qGoesOnTest_205) (fun u235 H locs hw hP hD hS => ?_)
                              try dsimp only at hP hD hw
                              replace hP : va_P (dC, dI) vwCl [(wi_rm110_0_1700_0 rm cy J0_a5), (wi_rm92_2_3_0 rm cy g_andAsked), (wi_rm0_0_1600_0 rm cy g_tape), (wi_rm93_2_2_0 rm cy g_orAsked), (wi_rm112_0_1700_0 rm cy g_qWait), (a_this, .inr (10, mfs rm x_taped v204 x_end v205 1 v204 x_fault x_faultPlace x_namePlace x_awayTold x_away x_coded x_statements x_isCrossing x_textKind x_askSecond x_redMany x_isOpen x_lastGreen x_greenTo x_isCycleGreen x_stillGreen x_rowMany x_fitMany x_fitRules x_fitGreen x_undoable x_newest x_seeded J0_c0_111 J0_c0_113 J0_c0_114 x_qBase x_qPiled x_qAnswer x_qIsNew x_octets))] H := hP
                              replace hD := k_D hP hD
                              refine lv_iconst (v := 0) hx hb dX10_qGoesOnTest_208 rfl ?_
                              subst hQ; exact k_iret hx hb hr hlk (k_nb 0 rfl) ((v204, v205, 1, v204, J0_c0_111, J0_c0_113, J0_c0_114, g_qWait, J0_a5)) hS ⟨ib_w 0 1600 h206 rfl, ib_w 0 1 (ib_c 1 1 1 rfl) rfl, ib_w 0 1621 h233 rfl, ib_w 0 1622 h232 rfl, ib_w 0 1 (ib_c 0 0 0 rfl) rfl, fun hq9 => absurd rfl hq9, fun hq9 => absurd rfl hq9, fun hq9 => absurd rfl hq9, fun hq9 => absurd rfl hq9, fun hq9 => absurd rfl hq9, fun hq9 => absurd rfl hq9, fun hq9 => absurd rfl hq9, fun q => absurd q (by decide), (by have := h170; have := (hJ0_c0_2).2; have := h179; have := h196; have := h213; have := (h206).1; omega), fun q => absurd q (by decide), (by have := (h206).1; have := h213; have := h196; have := h179; have := hJ0_lin2; have := (hx_at).2; omega), fun hq8 => absurd rfl hq8, fun hq8 => fun q => absurd q (by decide), (hO.symm.trans (by try simp only [show (0 : Int32).toInt = (0 : Int) from rfl]; try simp only [show (1 : Int32).toInt = (1 : Int) from rfl]; exact hq))⟩ (hP.sub [5, 2, 1, 3, 4, 0] rfl) (hD.sub [5, 2, 1, 3, 4, 0] rfl rfl) (Nat.le_of_ble_eq_true rfl) (Nat.le_of_ble_eq_true rfl) dX10_qGoesOnTest_209
                    · replace hq := lf_neg hq (lf_ne (lf_rf r202) (lf_lc 0 (0 : Int) rfl) c216)
                      have h236 : ib r202 1 1 := ib_w 1 1 (ib_ne_lo 0 h207 rfl c216) rfl
                      have h237 := h214 (ib_nz h236 rfl)
                      have h238 : ib v187 0 1598 := ⟨(h189).1, by have := (h189).2; have := h237; have := (h206).2; omega⟩
                      have h239 : ib v204 2 1600 := ⟨by have := (h206).1; have := h237; have := (h238).1; omega, (h206).2⟩
                      have h240 : ib v205 2 1600 := ib_w 2 1600 (ib_two (ib_any v205) (h209 (ib_nz h236 rfl))) rfl
                      have h241 : ib x_end 1 1600 := ib_w 1 1600 (ib_two hx_end (h211 (ib_nz h236 rfl))) rfl
                      have h242 : ib v173 0 1598 := ⟨(h174).1, by have := (h174).2; have := h196; have := (h238).2; omega⟩
                      exact jn137 1623 v204 v205 J0_c0_111 J0_c0_113 J0_c0_114 J0_a5 H locs ls (ib_w 2 1600 h239 rfl) (ib_w 1 1600 h241 rfl) (ib_w 2 1600 h240 rfl) (ib_w 0 1621 hJ0_c0_111 rfl) (ib_w 0 1621 hJ0_c0_113 rfl) (by have := h170; have := (hJ0_c0_2).2; have := h179; have := h196; have := h237; have := (h239).1; omega) (by have := (h239).1; have := h237; have := h196; have := h179; have := (hJ0_c0_2).2; have := hJ0_lin1; omega) (by have := (h239).1; have := h237; have := h196; have := h179; have := hJ0_lin2; have := (hx_at).2; omega) (⟨fun q => (hJ0_go.1 q), fun q9 => (by have := h170; have := (hJ0_c0_2).2; have := h179; have := h196; have := h237; have := (h239).1; omega)⟩) (by exact hq) (by have := hJ0_c0_111; unfold ib at this; omega) (hP.sub [3, 4, 2, 5, 0, 1] rfl) (hD.sub [3, 4, 2, 5, 0, 1] rfl rfl) hS (lv_sub hl [0] rfl)
                · replace hq := lf_neg hq (lf_ne (lf_rf r185) (lf_lc 0 (0 : Int) rfl) c199)
                  have h243 : ib r185 1 1 := ib_w 1 1 (ib_ne_lo 0 h190 rfl c199) rfl
                  have h244 := h197 (ib_nz h243 rfl)
                  have h245 : ib v173 0 1597 := ⟨(h174).1, by have := (h174).2; have := h244; have := (h189).2; omega⟩
                  have h246 : ib v187 3 1600 := ⟨by have := (h189).1; have := h244; have := (h245).1; omega, (h189).2⟩
                  have h247 : ib v188 3 1600 := ib_w 3 1600 (ib_two (ib_any v188) (h192 (ib_nz h243 rfl))) rfl
                  have h248 : ib x_end 1 1600 := ib_w 1 1600 (ib_two hx_end (h194 (ib_nz h243 rfl))) rfl
                  have h249 : ib J0_c0_2 0 1597 := ⟨(hJ0_c0_2).1, by have := (hJ0_c0_2).2; have := h179; have := (h245).2; omega⟩
                  exact jn87 1623 v187 v188 J0_c0_111 J0_c0_113 J0_c0_114 J0_a5 H locs ls (ib_w 3 1600 h246 rfl) (ib_w 1 1600 h248 rfl) (ib_w 3 1600 h247 rfl) (ib_w 0 1621 hJ0_c0_111 rfl) (ib_w 0 1621 hJ0_c0_113 rfl) (by have := hJ0_lin0; have := h179; have := h244; omega) (by have := h244; have := h179; have := hJ0_lin1; omega) (by have := (h246).1; have := h244; have := h179; have := hJ0_lin2; have := (hx_at).2; omega) (⟨fun q => (hJ0_go.1 q), fun q9 => (by have := hJ0_lin0; have := h179; have := h244; omega)⟩) (by exact hq) (by have := hJ0_c0_111; unfold ib at this; omega) (hP.sub [3, 4, 5, 0, 1, 2] rfl) (hD.sub [3, 4, 5, 0, 1, 2] rfl rfl) hS (lv_sub hl [0] rfl)
            · as_aux_lemma =>
                replace hq := lf_pos hq (lf_eq (lf_rf r171) (lf_lc 93 (93 : Int) rfl) c184)
                have h250 := ib_eq h175 (ib_c 93 93 93 rfl) c184
                have h251 : ib r171 93 93 := ib_w 93 93 h250.1 rfl
                have h252 : ib v173 0 1599 := ib_w 0 1599 (ib_two h174 (h176 (ib_nc (-1) h251 rfl))) rfl
                have h253 : ib J0_c0_2 0 1599 := ib_w 0 1599 (ib_two hJ0_c0_2 (h177 (ib_nc (-1) h251 rfl))) rfl
                have h254 : ib x_end 1 1600 := ib_w 1 1600 (ib_two hx_end (h178 (ib_nc (-1) h251 rfl))) rfl
                have h255 : ib J0_c0_111 0 1620 := ⟨(hJ0_c0_111).1, by have := (hJ0_c0_111).2; have := h170; have := hL0; have := (h253).2; have := (hJ0_c0_113).1; omega⟩
                have h256 : ib J0_c0_113 0 1620 := ⟨(hJ0_c0_113).1, by have := (hJ0_c0_113).2; have := h170; have := hL0; have := (h253).2; have := (h255).1; omega⟩
                have h257 : ib x_at 0 1599 := ⟨(hx_at).1, by have := (hx_at).2; have := hJ0_lin2; have := (h253).2; omega⟩
                refine lv_aload_n hx hb dX10_qGoesOnTest_16 rfl (lv_at hl 0 rfl) ?_
                refine k_jim hP hD hS hA [4, 2] [true, true, false, true, false, true] rfl rfl rfl 0 0 (Nat.le_of_ble_eq_true rfl) (Nat.le_of_ble_eq_true rfl) (fun hPc hDc => k_runV (As := []) (rest := []) C0 hZ hS hA (s_X10_qHasSquare l dC dI cy sq a_this rm x_taped v173 x_end x_ended x_bad x_badPlace x_fault x_faultPlace x_namePlace x_awayTold x_away x_coded x_statements x_isCrossing x_textKind x_askSecond x_redMany x_isOpen x_lastGreen x_greenTo x_isCycleGreen x_stillGreen x_rowMany x_fitMany x_fitRules x_fitGreen x_undoable x_newest x_seeded J0_c0_111 J0_c0_113 J0_c0_114 x_qBase x_qPiled x_qAnswer x_qIsNew x_octets g_qWait (ib_w 0 1700 h256 rfl)) mV_X10_659 hPc hDc rfl rfl rfl hl rfl rfl (Nat.le_of_ble_eq_true rfl) ⟨(Nat.le_of_ble_eq_true rfl), (Nat.le_of_ble_eq_true rfl)⟩ ⟨(Nat.le_of_ble_eq_true rfl), (Nat.le_of_ble_eq_true rfl)⟩ dX10_qGoesOnTest_17) (fun r258 u259 H locs hw hP hD hS => ?_)
                try dsimp only at hP hD hw
                replace hP : va_P (dC, dI) vwCl [(wi_rm92_2_3_0 rm cy g_andAsked), (wi_rm93_2_2_0 rm cy g_orAsked), (wi_rm110_0_1700_0 rm cy J0_a5), (wi_rm0_0_1600_0 rm cy g_tape), (a_this, .inr (10, mfs rm x_taped v173 x_end x_ended x_bad x_badPlace x_fault x_faultPlace x_namePlace x_awayTold x_away x_coded x_statements x_isCrossing x_textKind x_askSecond x_redMany x_isOpen x_lastGreen x_greenTo x_isCycleGreen x_stillGreen x_rowMany x_fitMany x_fitRules x_fitGreen x_undoable x_newest x_seeded J0_c0_111 J0_c0_113 J0_c0_114 x_qBase x_qPiled x_qAnswer x_qIsNew x_octets)), (wi_rm112_0_1700_0 rm cy g_qWait)] H := hP
                replace hD := k_D hP hD
                obtain ⟨h260, h261, h262, h263⟩ := hw
                replace hq := lf_b1 hq h263
                refine lv_if_eq (tgt := 76) hx hb dX10_qGoesOnTest_20 rfl (fun c264 => ?_) (fun c264 => ?_)
                · as_aux_lemma =>
                    replace hq := lf_pos hq (lf_eq (lf_rf r258) (lf_lc 0 (0 : Int) rfl) c264)
                    have h265 := ib_eq h260 (ib_c 0 0 0 rfl) c264
                    have h266 : ib r258 0 0 := ib_w 0 0 h265.1 rfl
                    have h267 : ib x_qCoded 0 1619 := ⟨(h168).1, by have := (h168).2; have := hL0; have := (h257).2; have := (h169).1; omega⟩
                    have h268 : ib x_qWaits 0 1619 := ⟨(h169).1, by have := (h169).2; have := hL0; have := (h257).2; have := (h267).1; omega⟩
                    refine lv_aload_n hx hb dX10_qGoesOnTest_76 rfl (lv_at hl 0 rfl) ?_
                    refine lv_aload_n hx hb dX10_qGoesOnTest_77 rfl (lv_at hl 0 rfl) ?_
                    refine k_get C0 fg_X10_210 hP 4 rfl rfl dX10_qGoesOnTest_78 ?_
                    refine k_jim hP hD hS hA [4, 3, 0] [false, true, true, false, false, true] rfl rfl rfl 0 0 (Nat.le_of_ble_eq_true rfl) (Nat.le_of_ble_eq_true rfl) (fun hPc hDc => k_runV (As := [.ref (rm 92)]) (rest := []) C0 hZ hS hA (s_X10_takes l dC dI cy sq a_this rm x_taped v173 x_end x_ended x_bad x_badPlace x_fault x_faultPlace x_namePlace x_awayTold x_away x_coded x_statements x_isCrossing x_textKind x_askSecond x_redMany x_isOpen x_lastGreen x_greenTo x_isCycleGreen x_stillGreen x_rowMany x_fitMany x_fitRules x_fitGreen x_undoable x_newest x_seeded J0_c0_111 J0_c0_113 J0_c0_114 x_qBase x_qPiled x_qAnswer x_qIsNew x_octets g_tape (rm 92) g_andAsked (ib_w 0 1600 h252 rfl) (ib_w 0 1600 h254 rfl) hg_tape) mV_X10_305 hPc hDc rfl rfl rfl hl rfl rfl (Nat.le_of_ble_eq_true rfl) ⟨(Nat.le_of_ble_eq_true rfl), (Nat.le_of_ble_eq_true rfl)⟩ ⟨(Nat.le_of_ble_eq_true rfl), (Nat.le_of_ble_eq_true rfl)⟩ dX10_qGoesOnTest_81) (fun r269 u270 H locs hw hP hD hS => ?_)
                    obtain ⟨v271, v272⟩ := u270
                    try dsimp only at hP hD hw
                    replace hP : va_P (dC, dI) vwCl [(wi_rm93_2_2_0 rm cy g_orAsked), (wi_rm110_0_1700_0 rm cy J0_a5), (wi_rm112_0_1700_0 rm cy g_qWait), (a_this, .inr (10, mfs rm x_taped v271 x_end v272 x_bad x_badPlace x_fault x_faultPlace x_namePlace x_awayTold x_away x_coded x_statements x_isCrossing x_textKind x_askSecond x_redMany x_isOpen x_lastGreen x_greenTo x_isCycleGreen x_stillGreen x_rowMany x_fitMany x_fitRules x_fitGreen x_undoable x_newest x_seeded J0_c0_111 J0_c0_113 J0_c0_114 x_qBase x_qPiled x_qAnswer x_qIsNew x_octets)), (wi_rm0_0_1600_0 rm cy g_tape), (wi_rm92_2_3_0 rm cy g_andAsked)] H := hP
                    replace hD := k_D hP hD
                    obtain ⟨h273, h274, h275, h276, h277, h278, h279, h280, h281, h282⟩ := hw
                    replace hq := lf_p1 hq h282
                    replace hq := lf_p1 hq rfl
                    refine lv_if_eq (tgt := 126) hx hb dX10_qGoesOnTest_84 rfl (fun c283 => ?_) (fun c283 => ?_)
                    · as_aux_lemma =>
                        replace hq := lf_pos hq (lf_eq (lf_rf r269) (lf_lc 0 (0 : Int) rfl) c283)
                        have h284 := ib_eq h274 (ib_c 0 0 0 rfl) c283
                        have h285 : ib r269 0 0 := ib_w 0 0 h284.1 rfl
                        refine lv_aload_n hx hb dX10_qGoesOnTest_126 rfl (lv_at hl 0 rfl) ?_
                        refine lv_aload_n hx hb dX10_qGoesOnTest_127 rfl (lv_at hl 0 rfl) ?_
                        refine k_get C0 fg_X10_213 hP 3 rfl rfl dX10_qGoesOnTest_128 ?_
                        refine k_jim hP hD hS hA [3, 4, 0] [false, true, true, false, false, true] rfl rfl rfl 0 0 (Nat.le_of_ble_eq_true rfl) (Nat.le_of_ble_eq_true rfl) (fun hPc hDc => k_runV (As := [.ref (rm 93)]) (rest := []) C0 hZ hS hA (s_X10_takes_r2 l dC dI cy sq a_this rm x_taped v271 x_end v272 x_bad x_badPlace x_fault x_faultPlace x_namePlace x_awayTold x_away x_coded x_statements x_isCrossing x_textKind x_askSecond x_redMany x_isOpen x_lastGreen x_greenTo x_isCycleGreen x_stillGreen x_rowMany x_fitMany x_fitRules x_fitGreen x_undoable x_newest x_seeded J0_c0_111 J0_c0_113 J0_c0_114 x_qBase x_qPiled x_qAnswer x_qIsNew x_octets g_tape (rm 93) g_orAsked (ib_w 0 1600 h273 rfl) (ib_w 0 1600 h254 rfl) hg_tape) mV_X10_305 hPc hDc rfl rfl rfl hl rfl rfl (Nat.le_of_ble_eq_true rfl) ⟨(Nat.le_of_ble_eq_true rfl), (Nat.le_of_ble_eq_true rfl)⟩ ⟨(Nat.le_of_ble_eq_true rfl), (Nat.le_of_ble_eq_true rfl)⟩ dX10_qGoesOnTest_131) (fun r286 u287 H locs hw hP hD hS => ?_)
                        obtain ⟨v288, v289⟩ := u287
                        try dsimp only at hP hD hw
                        replace hP : va_P (dC, dI) vwCl [(wi_rm110_0_1700_0 rm cy J0_a5), (wi_rm112_0_1700_0 rm cy g_qWait), (wi_rm92_2_3_0 rm cy g_andAsked), (a_this, .inr (10, mfs rm x_taped v288 x_end v289 x_bad x_badPlace x_fault x_faultPlace x_namePlace x_awayTold x_away x_coded x_statements x_isCrossing x_textKind x_askSecond x_redMany x_isOpen x_lastGreen x_greenTo x_isCycleGreen x_stillGreen x_rowMany x_fitMany x_fitRules x_fitGreen x_undoable x_newest x_seeded J0_c0_111 J0_c0_113 J0_c0_114 x_qBase x_qPiled x_qAnswer x_qIsNew x_octets)), (wi_rm0_0_1600_0 rm cy g_tape), (wi_rm93_2_2_0 rm cy g_orAsked)] H := hP
                        replace hD := k_D hP hD
                        obtain ⟨h290, h291, h292, h293, h294, h295, h296, h297, h298, h299⟩ := hw
                        replace hq := lf_p1 hq h299
                        replace hq := lf_p1 hq rfl
                        refine lv_if_eq (tgt := 185) hx hb dX10_qGoesOnTest_134 rfl (fun c300 => ?_) (fun c300 => ?_)
                        · as_aux_lemma =>
                            replace hq := lf_pos hq (lf_eq (lf_rf r286) (lf_lc 0 (0 : Int) rfl) c300)
                            have h301 := ib_eq h291 (ib_c 0 0 0 rfl) c300
                            have h302 : ib r286 0 0 := ib_w 0 0 h301.1 rfl
                            refine lv_aload_n hx hb dX10_qGoesOnTest_185 rfl (lv_at hl 0 rfl) ?_
                            refine k_get C0 fg_X10_279 hP 3 rfl rfl dX10_qGoesOnTest_186 ?_
                            refine lv_if_ne (tgt := 208) hx hb dX10_qGoesOnTest_189 rfl (fun c303 => ?_) (fun c303 => ?_)
                            · skip
                              exact absurd (ib_one hx_bad rfl) c303
                            · as_aux_lemma =>
                                skip
                                have h304 := ib_eq hx_bad (ib_c 0 0 0 rfl) c303
                                have h305 := hJ0_go.2 (ib_one hx_bad rfl)
                                refine lv_aload_n hx hb dX10_qGoesOnTest_192 rfl (lv_at hl 0 rfl) ?_
                                refine k_jim hP hD hS hA [3, 1] [true, false, true, false, true, true] rfl rfl rfl 0 0 (Nat.le_of_ble_eq_true rfl) (Nat.le_of_ble_eq_true rfl) (fun hPc hDc => k_runV (As := []) (rest := []) C0 hZ hS hA (s_X10_qHasSquare l dC dI cy sq a_this rm x_taped v288 x_end v289 x_bad x_badPlace x_fault x_faultPlace x_namePlace x_awayTold x_away x_coded x_statements x_isCrossing x_textKind x_askSecond x_redMany x_isOpen x_lastGreen x_greenTo x_isCycleGreen x_stillGreen x_rowMany x_fitMany x_fitRules x_fitGreen x_undoable x_newest x_seeded J0_c0_111 J0_c0_113 J0_c0_114 x_qBase x_qPiled x_qAnswer x_qIsNew x_octets g_qWait (ib_w 0 1700 h256 rfl)) mV_X10_659 hPc hDc rfl rfl rfl hl rfl rfl (Nat.le_of_ble_eq_true rfl) ⟨(Nat.le_of_ble_eq_true rfl), (Nat.le_of_ble_eq_true rfl)⟩ ⟨(Nat.le_of_ble_eq_true rfl), (Nat.le_of_ble_eq_true rfl)⟩ dX10_qGoesOnTest_193) (fun r306 u307 H locs hw hP hD hS => ?_)
                                try dsimp only at hP hD hw
                                replace hP : va_P (dC, dI) vwCl [(wi_rm110_0_1700_0 rm cy J0_a5), (wi_rm92_2_3_0 rm cy g_andAsked), (wi_rm0_0_1600_0 rm cy g_tape), (wi_rm93_2_2_0 rm cy g_orAsked), (a_this, .inr (10, mfs rm x_taped v288 x_end v289 x_bad x_badPlace x_fault x_faultPlace x_namePlace x_awayTold x_away x_coded x_statements x_isCrossing x_textKind x_askSecond x_redMany x_isOpen x_lastGreen x_greenTo x_isCycleGreen x_stillGreen x_rowMany x_fitMany x_fitRules x_fitGreen x_undoable x_newest x_seeded J0_c0_111 J0_c0_113 J0_c0_114 x_qBase x_qPiled x_qAnswer x_qIsNew x_octets)), (wi_rm112_0_1700_0 rm cy g_qWait)] H := hP
                                replace hD := k_D hP hD
                                obtain ⟨h308, h309, h310, h311⟩ := hw
                                replace hq := lf_b1 hq h311
                                refine lv_if_eq (tgt := 208) hx hb dX10_qGoesOnTest_196 rfl (fun c312 => ?_) (fun c312 => ?_)
                                · replace hq := lf_pos hq (lf_eq (lf_rf r306) (lf_lc 0 (0 : Int) rfl) c312)
                                  have h313 := ib_eq h308 (ib_c 0 0 0 rfl) c312
                                  have h314 : ib r306 0 0 := ib_w 0 0 h313.1 rfl
                                  refine lv_iconst (v := 0) hx hb dX10_qGoesOnTest_208 rfl ?_
                                  subst hQ; exact k_iret hx hb hr hlk (k_nb 0 rfl) ((v288, v289, x_bad, x_badPlace, J0_c0_111, J0_c0_113, J0_c0_114, g_qWait, J0_a5)) hS ⟨ib_w 0 1600 h290 rfl, ib_w 0 1 hx_bad rfl, ib_w 0 1621 h255 rfl, ib_w 0 1622 h256 rfl, ib_w 0 1 (ib_c 0 0 0 rfl) rfl, fun hq9 => absurd rfl hq9, fun hq9 => absurd rfl hq9, fun hq9 => absurd rfl hq9, fun hq9 => absurd rfl hq9, fun hq9 => absurd rfl hq9, fun hq9 => absurd rfl hq9, fun hq9 => absurd rfl hq9, fun q => q, (by have := h170; have := (h253).2; have := h179; have := h280; have := h297; have := (h290).1; omega), fun hq9 => (by have := h170; have := (h253).2; have := h179; have := h280; have := h297; have := (h290).1; omega), (by have := (h290).1; have := h297; have := h280; have := h179; have := hJ0_lin2; have := (h257).2; omega), fun hq8 => absurd rfl hq8, fun hq8 => fun q => ⟨(hJ0_go.1 q), (h310.2 (ib_one h314 rfl))⟩, (hO.symm.trans (by try simp only [show (0 : Int32).toInt = (0 : Int) from rfl]; exact hq))⟩ (hP.sub [4, 2, 1, 3, 5, 0] rfl) (hD.sub [4, 2, 1, 3, 5, 0] rfl rfl) (Nat.le_of_ble_eq_true rfl) (Nat.le_of_ble_eq_true rfl) dX10_qGoesOnTest_209
                                · replace hq := lf_neg hq (lf_ne (lf_rf r306) (lf_lc 0 (0 : Int) rfl) c312)
                                  have h315 : ib r306 1 1 := ib_w 1 1 (ib_ne_lo 0 h308 rfl c312) rfl
                                  have h316 : ib J0_c0_113 1 1620 := ib_w 1 1620 (ib_two h256 (h309 (ib_nz h315 rfl))) rfl
                                  have h317 : ib J0_c0_111 0 1619 := ⟨(h255).1, by have := (h255).2; have := h170; have := hL0; have := (h253).2; have := (h316).1; omega⟩
                                  refine lv_aload_n hx hb dX10_qGoesOnTest_199 rfl (lv_at hl 0 rfl) ?_
                                  refine lv_iconst (v := 1) hx hb dX10_qGoesOnTest_200 rfl ?_
                                  refine lv_aload_n hx hb dX10_qGoesOnTest_201 rfl (lv_at hl 0 rfl) ?_
                                  refine k_get C0 fg_X10_285 hP 4 rfl rfl dX10_qGoesOnTest_202 ?_
                                  refine k_jvm hP hD hS hA [4] [true, true, true, true, false, true] rfl rfl rfl 0 0 (Nat.le_of_ble_eq_true rfl) (Nat.le_of_ble_eq_true rfl) (fun hPc hDc => k_runV (As := [.int 1, .int v288]) (rest := []) C0 hZ hS hA (s_X10_fail_a0_1_f_bad_0_0 l dC dI cy sq a_this rm x_taped v288 x_end v289 x_bad x_badPlace x_fault x_faultPlace x_namePlace x_awayTold x_away x_coded x_statements x_isCrossing x_textKind x_askSecond x_redMany x_isOpen x_lastGreen x_greenTo x_isCycleGreen x_stillGreen x_rowMany x_fitMany x_fitRules x_fitGreen x_undoable x_newest x_seeded J0_c0_111 J0_c0_113 J0_c0_114 x_qBase x_qPiled x_qAnswer x_qIsNew x_octets v288 (ib_w 0 0 hx_bad rfl)) mV_X10_308 hPc hDc rfl rfl rfl hl rfl rfl (Nat.le_of_ble_eq_true rfl) ⟨(Nat.le_of_ble_eq_true rfl), (Nat.le_of_ble_eq_true rfl)⟩ ⟨(Nat.le_of_ble_eq_true rfl), (Nat.le_of_ble_eq_true rfl)⟩ dX10_qGoesOnTest_205) (fun u319 H locs hw hP hD hS => ?_)
                                  try dsimp only at hP hD hw
                                  replace hP : va_P (dC, dI) vwCl [(wi_rm110_0_1700_0 rm cy J0_a5), (wi_rm92_2_3_0 rm cy g_andAsked), (wi_rm0_0_1600_0 rm cy g_tape), (wi_rm93_2_2_0 rm cy g_orAsked), (wi_rm112_0_1700_0 rm cy g_qWait), (a_this, .inr (10, mfs rm x_taped v288 x_end v289 1 v288 x_fault x_faultPlace x_namePlace x_awayTold x_away x_coded x_statements x_isCrossing x_textKind x_askSecond x_redMany x_isOpen x_lastGreen x_greenTo x_isCycleGreen x_stillGreen x_rowMany x_fitMany x_fitRules x_fitGreen x_undoable x_newest x_seeded J0_c0_111 J0_c0_113 J0_c0_114 x_qBase x_qPiled x_qAnswer x_qIsNew x_octets))] H := hP
                                  replace hD := k_D hP hD
                                  refine lv_iconst (v := 0) hx hb dX10_qGoesOnTest_208 rfl ?_
                                  subst hQ; exact k_iret hx hb hr hlk (k_nb 0 rfl) ((v288, v289, 1, v288, J0_c0_111, J0_c0_113, J0_c0_114, g_qWait, J0_a5)) hS ⟨ib_w 0 1600 h290 rfl, ib_w 0 1 (ib_c 1 1 1 rfl) rfl, ib_w 0 1621 h317 rfl, ib_w 0 1622 h316 rfl, ib_w 0 1 (ib_c 0 0 0 rfl) rfl, fun hq9 => absurd rfl hq9, fun hq9 => absurd rfl hq9, fun hq9 => absurd rfl hq9, fun hq9 => absurd rfl hq9, fun hq9 => absurd rfl hq9, fun hq9 => absurd rfl hq9, fun hq9 => absurd rfl hq9, fun q => absurd q (by decide), (by have := h170; have := (h253).2; have := h179; have := h280; have := h297; have := (h290).1; omega), fun q => absurd q (by decide), (by have := (h290).1; have := h297; have := h280; have := h179; have := hJ0_lin2; have := (h257).2; omega), fun hq8 => absurd rfl hq8, fun hq8 => fun q => absurd q (by decide), (hO.symm.trans (by try simp only [show (0 : Int32).toInt = (0 : Int) from rfl]; try simp only [show (1 : Int32).toInt = (1 : Int) from rfl]; exact hq))⟩ (hP.sub [5, 2, 1, 3, 4, 0] rfl) (hD.sub [5, 2, 1, 3, 4, 0] rfl rfl) (Nat.le_of_ble_eq_true rfl) (Nat.le_of_ble_eq_true rfl) dX10_qGoesOnTest_209
                        · replace hq := lf_neg hq (lf_ne (lf_rf r286) (lf_lc 0 (0 : Int) rfl) c300)
                          have h320 : ib r286 1 1 := ib_w 1 1 (ib_ne_lo 0 h291 rfl c300) rfl
                          have h321 := h298 (ib_nz h320 rfl)
                          have h322 : ib v271 0 1598 := ⟨(h273).1, by have := (h273).2; have := h321; have := (h290).2; omega⟩
                          have h323 : ib v288 2 1600 := ⟨by have := (h290).1; have := h321; have := (h322).1; omega, (h290).2⟩
                          have h324 : ib v289 2 1600 := ib_w 2 1600 (ib_two (ib_any v289) (h293 (ib_nz h320 rfl))) rfl
                          have h325 : ib v173 0 1598 := ⟨(h252).1, by have := (h252).2; have := h280; have := (h322).2; omega⟩
                          exact jn137 1623 v288 v289 J0_c0_111 J0_c0_113 J0_c0_114 J0_a5 H locs ls (ib_w 2 1600 h323 rfl) (ib_w 1 1600 h254 rfl) (ib_w 2 1600 h324 rfl) (ib_w 0 1621 h255 rfl) (ib_w 0 1621 h256 rfl) (by have := h170; have := (h253).2; have := h179; have := h280; have := h321; have := (h323).1; omega) (by have := (h323).1; have := h321; have := h280; have := h179; have := (h253).2; have := hJ0_lin1; omega) (by have := (h323).1; have := h321; have := h280; have := h179; have := hJ0_lin2; have := (h257).2; omega) (⟨fun q => (hJ0_go.1 q), fun q9 => (by have := h170; have := (h253).2; have := h179; have := h280; have := h321; have := (h323).1; omega)⟩) (by exact hq) (by have := h255; unfold ib at this; omega) (hP.sub [3, 4, 2, 5, 1, 0] rfl) (hD.sub [3, 4, 2, 5, 1, 0] rfl rfl) hS (lv_sub hl [0] rfl)
                    · replace hq := lf_neg hq (lf_ne (lf_rf r269) (lf_lc 0 (0 : Int) rfl) c283)
                      have h326 : ib r269 1 1 := ib_w 1 1 (ib_ne_lo 0 h274 rfl c283) rfl
                      have h327 := h281 (ib_nz h326 rfl)
                      have h328 : ib v173 0 1597 := ⟨(h252).1, by have := (h252).2; have := h327; have := (h273).2; omega⟩
                      have h329 : ib v271 3 1600 := ⟨by have := (h273).1; have := h327; have := (h328).1; omega, (h273).2⟩
                      have h330 : ib v272 3 1600 := ib_w 3 1600 (ib_two (ib_any v272) (h276 (ib_nz h326 rfl))) rfl
                      have h331 : ib J0_c0_2 0 1597 := ⟨(h253).1, by have := (h253).2; have := h179; have := (h328).2; omega⟩
                      exact jn87 1623 v271 v272 J0_c0_111 J0_c0_113 J0_c0_114 J0_a5 H locs ls (ib_w 3 1600 h329 rfl) (ib_w 1 1600 h254 rfl) (ib_w 3 1600 h330 rfl) (ib_w 0 1621 h255 rfl) (ib_w 0 1621 h256 rfl) (by have := hJ0_lin0; have := h179; have := h327; omega) (by have := h327; have := h179; have := hJ0_lin1; omega) (by have := (h329).1; have := h327; have := h179; have := hJ0_lin2; have := (h257).2; omega) (⟨fun q => (hJ0_go.1 q), fun q9 => (by have := hJ0_lin0; have := h179; have := h327; omega)⟩) (by exact hq) (by have := h255; unfold ib at this; omega) (hP.sub [3, 4, 5, 0, 2, 1] rfl) (hD.sub [3, 4, 5, 0, 2, 1] rfl rfl) hS (lv_sub hl [0] rfl)
                · as_aux_lemma =>
                    replace hq := lf_neg hq (lf_ne (lf_rf r258) (lf_lc 0 (0 : Int) rfl) c264)
                    have h332 : ib r258 1 1 := ib_w 1 1 (ib_ne_lo 0 h260 rfl c264) rfl
                    have h333 : ib J0_c0_113 1 1620 := ib_w 1 1620 (ib_two h256 (h261 (ib_nz h332 rfl))) rfl
                    have h334 : ib x_qCoded 0 1619 := ⟨(h168).1, by have := (h168).2; have := hL0; have := (h257).2; have := (h169).1; omega⟩
                    have h335 : ib x_qWaits 0 1619 := ⟨(h169).1, by have := (h169).2; have := hL0; have := (h257).2; have := (h334).1; omega⟩
                    have h336 : ib J0_c0_111 0 1619 := ⟨(h255).1, by have := (h255).2; have := h170; have := hL0; have := (h253).2; have := (h333).1; omega⟩
                    refine lv_aload_n hx hb dX10_qGoesOnTest_23 rfl (lv_at hl 0 rfl) ?_
                    refine lv_dup hx hb dX10_qGoesOnTest_24 rfl ?_
                    refine k_get C0 fg_X10_285 hP 4 rfl rfl dX10_qGoesOnTest_25 ?_
                    refine lv_iconst (v := 1) hx hb dX10_qGoesOnTest_28 rfl ?_
                    refine lv_iadd hx hb dX10_qGoesOnTest_29 ?_
                    refine lv_topi (fun z337 ez337 => ?_)
                    have h338 := ib_add h252 (ib_c 1 1 1 rfl) rfl
                    rw [← ez337] at h338
                    have h339 : ib z337 1 1600 := ib_w 1 1600 h338.1 rfl
                    have Ez337 := lf_add h338.2 (lf_rf v173) (lf_lc 1 (1 : Int) rfl)
                    refine k_put C0 fp_X10_285 hP hD hS 4 rfl rfl rfl (Nat.le_of_ble_eq_true rfl) dX10_qGoesOnTest_30 (fun H locs hP hD hS => ?_)
                    replace hP : va_P (dC, dI) vwCl [(wi_rm92_2_3_0 rm cy g_andAsked), (wi_rm93_2_2_0 rm cy g_orAsked), (wi_rm110_0_1700_0 rm cy J0_a5), (wi_rm0_0_1600_0 rm cy g_tape), (a_this, .inr (10, mfs rm x_taped z337 x_end x_ended x_bad x_badPlace x_fault x_faultPlace x_namePlace x_awayTold x_away x_coded x_statements x_isCrossing x_textKind x_askSecond x_redMany x_isOpen x_lastGreen x_greenTo x_isCycleGreen x_stillGreen x_rowMany x_fitMany x_fitRules x_fitGreen x_undoable x_newest x_seeded J0_c0_111 J0_c0_113 J0_c0_114 x_qBase x_qPiled x_qAnswer x_qIsNew x_octets)), (wi_rm112_0_1700_0 rm cy g_qWait)] H := hP
                    replace hD := k_D hP hD
                    exact jn33 1623 z337 J0_c0_111 J0_c0_113 J0_a5 H locs ls (ib_w 1 1600 h339 rfl) (ib_w 1 1600 h254 rfl) (ib_w 0 1621 h336 rfl) (ib_w 0 1620 h333 rfl) (by have := hJ0_lin0; have := h179; have := h338.2; have : (1 : Int32).toInt = 1 := rfl; omega) (by have := h338.2; have : (1 : Int32).toInt = 1 := rfl; have := h179; have := hJ0_lin1; omega) (by have := h338.2; have : (1 : Int32).toInt = 1 := rfl; have := h179; omega) (by have := (h339).1; have := h338.2; have : (1 : Int32).toInt = 1 := rfl; have := h179; have := hJ0_lin2; have := (h257).2; omega) (⟨fun q => (hJ0_go.1 q), fun q9 => (by have := hJ0_lin0; have := h170; have := h179; have := h338.2; have : (1 : Int32).toInt = 1 := rfl; omega), (h262.1 c264)⟩) (by rw [lf_u Ez337]; exact hq) (by have := h336; unfold ib at this; omega) (hP.sub [4, 3, 0, 1, 5, 2] rfl) (hD.sub [4, 3, 0, 1, 5, 2] rfl rfl) hS (lv_sub hl [0] rfl)
  exact jn0 1602 x_at x_qCoded x_qWaits x_qOpened g_qCodes H locs ls (ib_w 0 1600 hx_at rfl) ⟨by have := (hx_qCoded).1; omega, by have := (hx_at).2; have := hL0; have := (hx_qWaits).1; have := (hx_qCoded).2; omega⟩ ⟨by have := (hx_qWaits).1; omega, by have := (hx_at).2; have := hL0; have := (hx_qWaits).2; have := (hx_qCoded).1; omega⟩ (by omega) (by have := hL0; omega) (by omega) (⟨fun q => (hGS q), fun q9 => (by omega)⟩) (by exact hq) (by have q1 := (hx_at).1; omega) hP hD hS (lv_sub hl [0] rfl)
