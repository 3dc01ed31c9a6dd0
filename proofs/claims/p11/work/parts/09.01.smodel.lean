set_option maxHeartbeats 4000000 in
set_option maxRecDepth 100000 in
theorem s_X10_qKind (l : Launch) (dC : Nat → ClassId) (dI : Nat → Nat → Nat) (cy : Nat → ClassId) (sq : Nat → Nat) (a_this : Nat) (rm : Nat → Nat) (x_taped : Int32) (x_at : Int32) (x_end : Int32) (x_ended : Int32) (x_bad : Int32) (x_badPlace : Int32) (x_fault : Int32) (x_faultPlace : Int32) (x_namePlace : Int32) (x_awayTold : Int32) (x_away : Int32) (x_coded : Int32) (x_statements : Int32) (x_isCrossing : Int32) (x_textKind : Int32) (x_askSecond : Int32) (x_redMany : Int32) (x_isOpen : Int32) (x_lastGreen : Int32) (x_greenTo : Int32) (x_isCycleGreen : Int32) (x_stillGreen : Int32) (x_rowMany : Int32) (x_fitMany : Int32) (x_fitRules : Int32) (x_fitGreen : Int32) (x_undoable : Int32) (x_newest : Int32) (x_seeded : Int64) (x_qCoded : Int32) (x_qWaits : Int32) (x_qOpened : Int32) (x_qBase : Int32) (x_qPiled : Int32) (x_qAnswer : Int64) (x_qIsNew : Int32) (x_octets : Int32) (g_tape : Nat → Int32) (g_firstAsked : Nat → Int32) (g_lastAsked : Nat → Int32) (g_oftenAsked : Nat → Int32) (g_totalAsked : Nat → Int32) (g_mostAsked : Nat → Int32) (g_leastAsked : Nat → Int32) (hx_at : ib x_at 0 1600) (hx_end : ib x_end 0 1600) (hg_tape : ia g_tape 1600 0 255) : k_Met l yX10_qKind cX10_qKind 2 (some .int) { frames := 4, cells := 0, slots := 0, locals := 85 } dC dI cy sq [.ref a_this] [(a_this, .inr (10, mfs rm x_taped x_at x_end x_ended x_bad x_badPlace x_fault x_faultPlace x_namePlace x_awayTold x_away x_coded x_statements x_isCrossing x_textKind x_askSecond x_redMany x_isOpen x_lastGreen x_greenTo x_isCycleGreen x_stillGreen x_rowMany x_fitMany x_fitRules x_fitGreen x_undoable x_newest x_seeded x_qCoded x_qWaits x_qOpened x_qBase x_qPiled x_qAnswer x_qIsNew x_octets)), (wi_rm0_0_1600_0 rm cy g_tape), (wi_rm85_2_5_0 rm cy g_firstAsked), (wi_rm86_2_4_0 rm cy g_lastAsked), (wi_rm87_2_5_0 rm cy g_oftenAsked), (wi_rm88_2_5_0 rm cy g_totalAsked), (wi_rm89_2_4_0 rm cy g_mostAsked), (wi_rm90_2_5_0 rm cy g_leastAsked)] (k_Qi dC dI (fun (r : Int32) (u : Int32 × Int32 × Int32 × Int32) => match u with | (n0, n1, n2, n3) => ib n0 0 1600 ∧ ib r 0 5 ∧ (n2 = 0 → x_bad = 0) ∧ (1 * x_at.toInt + (-1) * n0.toInt ≤ 0) ∧ (F_X10_qKind (Int32.toInt x_at) (Int32.toInt x_end) (Int32.toInt x_ended) (Int32.toInt x_bad) (Int32.toInt x_badPlace) (lf_A g_tape) (lf_A g_firstAsked) (lf_A g_lastAsked) (lf_A g_oftenAsked) (lf_A g_totalAsked) (lf_A g_mostAsked) (lf_A g_leastAsked) = ((Int32.toInt r), (Int32.toInt n0), (Int32.toInt n1), (Int32.toInt n2), (Int32.toInt n3)))) (fun u : Int32 × Int32 × Int32 × Int32 => match u with | (n0, n1, n2, n3) => [(a_this, .inr (10, mfs rm x_taped n0 x_end n1 n2 n3 x_fault x_faultPlace x_namePlace x_awayTold x_away x_coded x_statements x_isCrossing x_textKind x_askSecond x_redMany x_isOpen x_lastGreen x_greenTo x_isCycleGreen x_stillGreen x_rowMany x_fitMany x_fitRules x_fitGreen x_undoable x_newest x_seeded x_qCoded x_qWaits x_qOpened x_qBase x_qPiled x_qAnswer x_qIsNew x_octets)), (wi_rm0_0_1600_0 rm cy g_tape), (wi_rm85_2_5_0 rm cy g_firstAsked), (wi_rm86_2_4_0 rm cy g_lastAsked), (wi_rm87_2_5_0 rm cy g_oftenAsked), (wi_rm88_2_5_0 rm cy g_totalAsked), (wi_rm89_2_4_0 rm cy g_mostAsked), (wi_rm90_2_5_0 rm cy g_leastAsked)])) := by
  refine k_ofW2 (by decide +kernel) (Nat.le_of_ble_eq_true rfl) ?_
  intro p e s m below meth c A ls H locs args Q hQ C0 hZ hr hlk hin hP hD hA hS hl
  have C0 : k_cx p s m args c cX10_qKind 2 RX10 dC dI cy sq := C0
  have hx := C0.1
  have hb := C0.2.1
  have hl : lv_has ls 2 [(0, .ref a_this)] := hl
  obtain ⟨O, hO⟩ : ∃ o, o = F_X10_qKind (Int32.toInt x_at) (Int32.toInt x_end) (Int32.toInt x_ended) (Int32.toInt x_bad) (Int32.toInt x_badPlace) (lf_A g_tape) (lf_A g_firstAsked) (lf_A g_lastAsked) (lf_A g_oftenAsked) (lf_A g_totalAsked) (lf_A g_mostAsked) (lf_A g_leastAsked) := ⟨_, rfl⟩
  have hq := hO
  unfold F_X10_qKind at hq
  refine lv_aload_n hx hb dX10_qKind_0 rfl (lv_at hl 0 rfl) ?_
  refine lv_aload_n hx hb dX10_qKind_1 rfl (lv_at hl 0 rfl) ?_
  refine k_get C0 fg_X10_189 hP 0 rfl rfl dX10_qKind_2 ?_
  refine k_jim hP hD hS hA [0, 1, 2] [false, false, false, true, true, true, true, true] rfl rfl rfl 0 0 (Nat.le_of_ble_eq_true rfl) (Nat.le_of_ble_eq_true rfl) (fun hPc hDc => k_runV (As := [.ref (rm 85)]) (rest := []) C0 hZ hS hA (s_X10_takes_r5 l dC dI cy sq a_this rm x_taped x_at x_end x_ended x_bad x_badPlace x_fault x_faultPlace x_namePlace x_awayTold x_away x_coded x_statements x_isCrossing x_textKind x_askSecond x_redMany x_isOpen x_lastGreen x_greenTo x_isCycleGreen x_stillGreen x_rowMany x_fitMany x_fitRules x_fitGreen x_undoable x_newest x_seeded x_qCoded x_qWaits x_qOpened x_qBase x_qPiled x_qAnswer x_qIsNew x_octets g_tape (rm 85) g_firstAsked (ib_w 0 1600 hx_at rfl) (ib_w 0 1600 hx_end rfl) hg_tape) mV_X10_305 hPc hDc rfl rfl rfl hl rfl rfl (Nat.le_of_ble_eq_true rfl) ⟨(Nat.le_of_ble_eq_true rfl), (Nat.le_of_ble_eq_true rfl)⟩ ⟨(Nat.le_of_ble_eq_true rfl), (Nat.le_of_ble_eq_true rfl)⟩ dX10_qKind_5) (fun r1 u2 H locs hw hP hD hS => ?_)
  obtain ⟨v3, v4⟩ := u2
  try dsimp only at hP hD hw
  replace hP : va_P (dC, dI) vwCl [(wi_rm86_2_4_0 rm cy g_lastAsked), (wi_rm87_2_5_0 rm cy g_oftenAsked), (wi_rm88_2_5_0 rm cy g_totalAsked), (wi_rm89_2_4_0 rm cy g_mostAsked), (wi_rm90_2_5_0 rm cy g_leastAsked), (a_this, .inr (10, mfs rm x_taped v3 x_end v4 x_bad x_badPlace x_fault x_faultPlace x_namePlace x_awayTold x_away x_coded x_statements x_isCrossing x_textKind x_askSecond x_redMany x_isOpen x_lastGreen x_greenTo x_isCycleGreen x_stillGreen x_rowMany x_fitMany x_fitRules x_fitGreen x_undoable x_newest x_seeded x_qCoded x_qWaits x_qOpened x_qBase x_qPiled x_qAnswer x_qIsNew x_octets)), (wi_rm0_0_1600_0 rm cy g_tape), (wi_rm85_2_5_0 rm cy g_firstAsked)] H := hP
  replace hD := k_D hP hD
  obtain ⟨h5, h6, h7, h8, h9, h10, h11, h12, h13, h14⟩ := hw
  replace hq := lf_p1 hq h14
  replace hq := lf_p1 hq rfl
  refine lv_if_eq (tgt := 15) hx hb dX10_qKind_8 rfl (fun c15 => ?_) (fun c15 => ?_)
  · as_aux_lemma =>
      replace hq := lf_pos hq (lf_eq (lf_rf r1) (lf_lc 0 (0 : Int) rfl) c15)
      have h16 := ib_eq h6 (ib_c 0 0 0 rfl) c15
      have h17 : ib r1 0 0 := ib_w 0 0 h16.1 rfl
      refine lv_aload_n hx hb dX10_qKind_15 rfl (lv_at hl 0 rfl) ?_
      refine lv_aload_n hx hb dX10_qKind_16 rfl (lv_at hl 0 rfl) ?_
      refine k_get C0 fg_X10_192 hP 5 rfl rfl dX10_qKind_17 ?_
      refine k_jim hP hD hS hA [5, 6, 0] [false, true, true, true, true, false, false, true] rfl rfl rfl 0 0 (Nat.le_of_ble_eq_true rfl) (Nat.le_of_ble_eq_true rfl) (fun hPc hDc => k_runV (As := [.ref (rm 86)]) (rest := []) C0 hZ hS hA (s_X10_takes_r4 l dC dI cy sq a_this rm x_taped v3 x_end v4 x_bad x_badPlace x_fault x_faultPlace x_namePlace x_awayTold x_away x_coded x_statements x_isCrossing x_textKind x_askSecond x_redMany x_isOpen x_lastGreen x_greenTo x_isCycleGreen x_stillGreen x_rowMany x_fitMany x_fitRules x_fitGreen x_undoable x_newest x_seeded x_qCoded x_qWaits x_qOpened x_qBase x_qPiled x_qAnswer x_qIsNew x_octets g_tape (rm 86) g_lastAsked (ib_w 0 1600 h5 rfl) (ib_w 0 1600 hx_end rfl) hg_tape) mV_X10_305 hPc hDc rfl rfl rfl hl rfl rfl (Nat.le_of_ble_eq_true rfl) ⟨(Nat.le_of_ble_eq_true rfl), (Nat.le_of_ble_eq_true rfl)⟩ ⟨(Nat.le_of_ble_eq_true rfl), (Nat.le_of_ble_eq_true rfl)⟩ dX10_qKind_20) (fun r18 u19 H locs hw hP hD hS => ?_)
      obtain ⟨v20, v21⟩ := u19
      try dsimp only at hP hD hw
      replace hP : va_P (dC, dI) vwCl [(wi_rm87_2_5_0 rm cy g_oftenAsked), (wi_rm88_2_5_0 rm cy g_totalAsked), (wi_rm89_2_4_0 rm cy g_mostAsked), (wi_rm90_2_5_0 rm cy g_leastAsked), (wi_rm85_2_5_0 rm cy g_firstAsked), (a_this, .inr (10, mfs rm x_taped v20 x_end v21 x_bad x_badPlace x_fault x_faultPlace x_namePlace x_awayTold x_away x_coded x_statements x_isCrossing x_textKind x_askSecond x_redMany x_isOpen x_lastGreen x_greenTo x_isCycleGreen x_stillGreen x_rowMany x_fitMany x_fitRules x_fitGreen x_undoable x_newest x_seeded x_qCoded x_qWaits x_qOpened x_qBase x_qPiled x_qAnswer x_qIsNew x_octets)), (wi_rm0_0_1600_0 rm cy g_tape), (wi_rm86_2_4_0 rm cy g_lastAsked)] H := hP
      replace hD := k_D hP hD
      obtain ⟨h22, h23, h24, h25, h26, h27, h28, h29, h30, h31⟩ := hw
      replace hq := lf_p1 hq h31
      replace hq := lf_p1 hq rfl
      refine lv_if_eq (tgt := 30) hx hb dX10_qKind_23 rfl (fun c32 => ?_) (fun c32 => ?_)
      · as_aux_lemma =>
          replace hq := lf_pos hq (lf_eq (lf_rf r18) (lf_lc 0 (0 : Int) rfl) c32)
          have h33 := ib_eq h23 (ib_c 0 0 0 rfl) c32
          have h34 : ib r18 0 0 := ib_w 0 0 h33.1 rfl
          refine lv_aload_n hx hb dX10_qKind_30 rfl (lv_at hl 0 rfl) ?_
          refine lv_aload_n hx hb dX10_qKind_31 rfl (lv_at hl 0 rfl) ?_
          refine k_get C0 fg_X10_195 hP 5 rfl rfl dX10_qKind_32 ?_
          refine k_jim hP hD hS hA [5, 6, 0] [false, true, true, true, true, false, false, true] rfl rfl rfl 0 0 (Nat.le_of_ble_eq_true rfl) (Nat.le_of_ble_eq_true rfl) (fun hPc hDc => k_runV (As := [.ref (rm 87)]) (rest := []) C0 hZ hS hA (s_X10_takes_r5 l dC dI cy sq a_this rm x_taped v20 x_end v21 x_bad x_badPlace x_fault x_faultPlace x_namePlace x_awayTold x_away x_coded x_statements x_isCrossing x_textKind x_askSecond x_redMany x_isOpen x_lastGreen x_greenTo x_isCycleGreen x_stillGreen x_rowMany x_fitMany x_fitRules x_fitGreen x_undoable x_newest x_seeded x_qCoded x_qWaits x_qOpened x_qBase x_qPiled x_qAnswer x_qIsNew x_octets g_tape (rm 87) g_oftenAsked (ib_w 0 1600 h22 rfl) (ib_w 0 1600 hx_end rfl) hg_tape) mV_X10_305 hPc hDc rfl rfl rfl hl rfl rfl (Nat.le_of_ble_eq_true rfl) ⟨(Nat.le_of_ble_eq_true rfl), (Nat.le_of_ble_eq_true rfl)⟩ ⟨(Nat.le_of_ble_eq_true rfl), (Nat.le_of_ble_eq_true rfl)⟩ dX10_qKind_35) (fun r35 u36 H locs hw hP hD hS => ?_)
          obtain ⟨v37, v38⟩ := u36
          try dsimp only at hP hD hw
          replace hP : va_P (dC, dI) vwCl [(wi_rm88_2_5_0 rm cy g_totalAsked), (wi_rm89_2_4_0 rm cy g_mostAsked), (wi_rm90_2_5_0 rm cy g_leastAsked), (wi_rm85_2_5_0 rm cy g_firstAsked), (wi_rm86_2_4_0 rm cy g_lastAsked), (a_this, .inr (10, mfs rm x_taped v37 x_end v38 x_bad x_badPlace x_fault x_faultPlace x_namePlace x_awayTold x_away x_coded x_statements x_isCrossing x_textKind x_askSecond x_redMany x_isOpen x_lastGreen x_greenTo x_isCycleGreen x_stillGreen x_rowMany x_fitMany x_fitRules x_fitGreen x_undoable x_newest x_seeded x_qCoded x_qWaits x_qOpened x_qBase x_qPiled x_qAnswer x_qIsNew x_octets)), (wi_rm0_0_1600_0 rm cy g_tape), (wi_rm87_2_5_0 rm cy g_oftenAsked)] H := hP
          replace hD := k_D hP hD
          obtain ⟨h39, h40, h41, h42, h43, h44, h45, h46, h47, h48⟩ := hw
          replace hq := lf_p1 hq h48
          replace hq := lf_p1 hq rfl
          refine lv_if_eq (tgt := 45) hx hb dX10_qKind_38 rfl (fun c49 => ?_) (fun c49 => ?_)
          · as_aux_lemma =>
              replace hq := lf_pos hq (lf_eq (lf_rf r35) (lf_lc 0 (0 : Int) rfl) c49)
              have h50 := ib_eq h40 (ib_c 0 0 0 rfl) c49
              have h51 : ib r35 0 0 := ib_w 0 0 h50.1 rfl
              refine lv_aload_n hx hb dX10_qKind_45 rfl (lv_at hl 0 rfl) ?_
              refine lv_aload_n hx hb dX10_qKind_46 rfl (lv_at hl 0 rfl) ?_
              refine k_get C0 fg_X10_198 hP 5 rfl rfl dX10_qKind_47 ?_
              refine k_jim hP hD hS hA [5, 6, 0] [false, true, true, true, true, false, false, true] rfl rfl rfl 0 0 (Nat.le_of_ble_eq_true rfl) (Nat.le_of_ble_eq_true rfl) (fun hPc hDc => k_runV (As := [.ref (rm 88)]) (rest := []) C0 hZ hS hA (s_X10_takes_r5 l dC dI cy sq a_this rm x_taped v37 x_end v38 x_bad x_badPlace x_fault x_faultPlace x_namePlace x_awayTold x_away x_coded x_statements x_isCrossing x_textKind x_askSecond x_redMany x_isOpen x_lastGreen x_greenTo x_isCycleGreen x_stillGreen x_rowMany x_fitMany x_fitRules x_fitGreen x_undoable x_newest x_seeded x_qCoded x_qWaits x_qOpened x_qBase x_qPiled x_qAnswer x_qIsNew x_octets g_tape (rm 88) g_totalAsked (ib_w 0 1600 h39 rfl) (ib_w 0 1600 hx_end rfl) hg_tape) mV_X10_305 hPc hDc rfl rfl rfl hl rfl rfl (Nat.le_of_ble_eq_true rfl) ⟨(Nat.le_of_ble_eq_true rfl), (Nat.le_of_ble_eq_true rfl)⟩ ⟨(Nat.le_of_ble_eq_true rfl), (Nat.le_of_ble_eq_true rfl)⟩ dX10_qKind_50) (fun r52 u53 H locs hw hP hD hS => ?_)
              obtain ⟨v54, v55⟩ := u53
              try dsimp only at hP hD hw
              replace hP : va_P (dC, dI) vwCl [(wi_rm89_2_4_0 rm cy g_mostAsked), (wi_rm90_2_5_0 rm cy g_leastAsked), (wi_rm85_2_5_0 rm cy g_firstAsked), (wi_rm86_2_4_0 rm cy g_lastAsked), (wi_rm87_2_5_0 rm cy g_oftenAsked), (a_this, .inr (10, mfs rm x_taped v54 x_end v55 x_bad x_badPlace x_fault x_faultPlace x_namePlace x_awayTold x_away x_coded x_statements x_isCrossing x_textKind x_askSecond x_redMany x_isOpen x_lastGreen x_greenTo x_isCycleGreen x_stillGreen x_rowMany x_fitMany x_fitRules x_fitGreen x_undoable x_newest x_seeded x_qCoded x_qWaits x_qOpened x_qBase x_qPiled x_qAnswer x_qIsNew x_octets)), (wi_rm0_0_1600_0 rm cy g_tape), (wi_rm88_2_5_0 rm cy g_totalAsked)] H := hP
              replace hD := k_D hP hD
              obtain ⟨h56, h57, h58, h59, h60, h61, h62, h63, h64, h65⟩ := hw
              replace hq := lf_p1 hq h65
              replace hq := lf_p1 hq rfl
              refine lv_if_eq (tgt := 60) hx hb dX10_qKind_53 rfl (fun c66 => ?_) (fun c66 => ?_)
              · as_aux_lemma =>
                  replace hq := lf_pos hq (lf_eq (lf_rf r52) (lf_lc 0 (0 : Int) rfl) c66)
                  have h67 := ib_eq h57 (ib_c 0 0 0 rfl) c66
                  have h68 : ib r52 0 0 := ib_w 0 0 h67.1 rfl
                  refine lv_aload_n hx hb dX10_qKind_60 rfl (lv_at hl 0 rfl) ?_
                  refine lv_aload_n hx hb dX10_qKind_61 rfl (lv_at hl 0 rfl) ?_
                  refine k_get C0 fg_X10_201 hP 5 rfl rfl dX10_qKind_62 ?_
                  refine k_jim hP hD hS hA [5, 6, 0] [false, true, true, true, true, false, false, true] rfl rfl rfl 0 0 (Nat.le_of_ble_eq_true rfl) (Nat.le_of_ble_eq_true rfl) (fun hPc hDc => k_runV (As := [.ref (rm 89)]) (rest := []) C0 hZ hS hA (s_X10_takes_r4 l dC dI cy sq a_this rm x_taped v54 x_end v55 x_bad x_badPlace x_fault x_faultPlace x_namePlace x_awayTold x_away x_coded x_statements x_isCrossing x_textKind x_askSecond x_redMany x_isOpen x_lastGreen x_greenTo x_isCycleGreen x_stillGreen x_rowMany x_fitMany x_fitRules x_fitGreen x_undoable x_newest x_seeded x_qCoded x_qWaits x_qOpened x_qBase x_qPiled x_qAnswer x_qIsNew x_octets g_tape (rm 89) g_mostAsked (ib_w 0 1600 h56 rfl) (ib_w 0 1600 hx_end rfl) hg_tape) mV_X10_305 hPc hDc rfl rfl rfl hl rfl rfl (Nat.le_of_ble_eq_true rfl) ⟨(Nat.le_of_ble_eq_true rfl), (Nat.le_of_ble_eq_true rfl)⟩ ⟨(Nat.le_of_ble_eq_true rfl), (Nat.le_of_ble_eq_true rfl)⟩ dX10_qKind_65) (fun r69 u70 H locs hw hP hD hS => ?_)
                  obtain ⟨v71, v72⟩ := u70
                  try dsimp only at hP hD hw
                  replace hP : va_P (dC, dI) vwCl [(wi_rm90_2_5_0 rm cy g_leastAsked), (wi_rm85_2_5_0 rm cy g_firstAsked), (wi_rm86_2_4_0 rm cy g_lastAsked), (wi_rm87_2_5_0 rm cy g_oftenAsked), (wi_rm88_2_5_0 rm cy g_totalAsked), (a_this, .inr (10, mfs rm x_taped v71 x_end v72 x_bad x_badPlace x_fault x_faultPlace x_namePlace x_awayTold x_away x_coded x_statements x_isCrossing x_textKind x_askSecond x_redMany x_isOpen x_lastGreen x_greenTo x_isCycleGreen x_stillGreen x_rowMany x_fitMany x_fitRules x_fitGreen x_undoable x_newest x_seeded x_qCoded x_qWaits x_qOpened x_qBase x_qPiled x_qAnswer x_qIsNew x_octets)), (wi_rm0_0_1600_0 rm cy g_tape), (wi_rm89_2_4_0 rm cy g_mostAsked)] H := hP
                  replace hD := k_D hP hD
                  obtain ⟨h73, h74, h75, h76, h77, h78, h79, h80, h81, h82⟩ := hw
                  replace hq := lf_p1 hq h82
                  replace hq := lf_p1 hq rfl
                  refine lv_if_eq (tgt := 75) hx hb dX10_qKind_68 rfl (fun c83 => ?_) (fun c83 => ?_)
                  · as_aux_lemma =>
                      replace hq := lf_pos hq (lf_eq (lf_rf r69) (lf_lc 0 (0 : Int) rfl) c83)
                      have h84 := ib_eq h74 (ib_c 0 0 0 rfl) c83
                      have h85 : ib r69 0 0 := ib_w 0 0 h84.1 rfl
                      refine lv_iconst (v := 5) hx hb dX10_qKind_75 rfl ?_
                      refine lv_istore_n (lv' := [(1, .int 5), (0, .ref a_this)]) hx hb dX10_qKind_76 rfl hl (Nat.le_of_ble_eq_true rfl) rfl (fun ls hl => ?_)
                      refine lv_iload_n hx hb dX10_qKind_77 rfl (lv_at hl 0 rfl) ?_
                      refine lv_iconst (v := 5) hx hb dX10_qKind_78 rfl ?_
                      refine lv_icmp_ne (tgt := 90) hx hb dX10_qKind_79 rfl (fun h9 => absurd (by decide) h9) (fun _ => ?_)
                      refine lv_aload_n hx hb dX10_qKind_82 rfl (lv_at hl 1 rfl) ?_
                      refine lv_aload_n hx hb dX10_qKind_83 rfl (lv_at hl 1 rfl) ?_
                      refine k_get C0 fg_X10_204 hP 5 rfl rfl dX10_qKind_84 ?_
                      refine k_jvm hP hD hS hA [5, 6, 0] [false, true, true, true, true, false, false, true] rfl rfl rfl 0 0 (Nat.le_of_ble_eq_true rfl) (Nat.le_of_ble_eq_true rfl) (fun hPc hDc => k_runV (As := [.ref (rm 90)]) (rest := []) C0 hZ hS hA (s_X10_asks_r5 l dC dI cy sq a_this rm x_taped v71 x_end v72 x_bad x_badPlace x_fault x_faultPlace x_namePlace x_awayTold x_away x_coded x_statements x_isCrossing x_textKind x_askSecond x_redMany x_isOpen x_lastGreen x_greenTo x_isCycleGreen x_stillGreen x_rowMany x_fitMany x_fitRules x_fitGreen x_undoable x_newest x_seeded x_qCoded x_qWaits x_qOpened x_qBase x_qPiled x_qAnswer x_qIsNew x_octets g_tape (rm 90) g_leastAsked (ib_w 0 1600 h73 rfl) (ib_w 0 1600 hx_end rfl) hg_tape) mV_X10_350 hPc hDc rfl rfl rfl hl rfl rfl (Nat.le_of_ble_eq_true rfl) ⟨(Nat.le_of_ble_eq_true rfl), (Nat.le_of_ble_eq_true rfl)⟩ ⟨(Nat.le_of_ble_eq_true rfl), (Nat.le_of_ble_eq_true rfl)⟩ dX10_qKind_87) (fun u87 H locs hw hP hD hS => ?_)
                      obtain ⟨v88, v89, v90, v91⟩ := u87
                      try dsimp only at hP hD hw
                      replace hP : va_P (dC, dI) vwCl [(wi_rm85_2_5_0 rm cy g_firstAsked), (wi_rm86_2_4_0 rm cy g_lastAsked), (wi_rm87_2_5_0 rm cy g_oftenAsked), (wi_rm88_2_5_0 rm cy g_totalAsked), (wi_rm89_2_4_0 rm cy g_mostAsked), (a_this, .inr (10, mfs rm x_taped v88 x_end v89 v90 v91 x_fault x_faultPlace x_namePlace x_awayTold x_away x_coded x_statements x_isCrossing x_textKind x_askSecond x_redMany x_isOpen x_lastGreen x_greenTo x_isCycleGreen x_stillGreen x_rowMany x_fitMany x_fitRules x_fitGreen x_undoable x_newest x_seeded x_qCoded x_qWaits x_qOpened x_qBase x_qPiled x_qAnswer x_qIsNew x_octets)), (wi_rm0_0_1600_0 rm cy g_tape), (wi_rm90_2_5_0 rm cy g_leastAsked)] H := hP
                      replace hD := k_D hP hD
                      obtain ⟨h92, h93, h94, h95, h96⟩ := hw
                      replace hq := lf_p1 hq h96
                      replace hq := lf_p1 hq rfl
                      replace hq := lf_p1 hq rfl
                      refine lv_iload_n hx hb dX10_qKind_90 rfl (lv_at hl 0 rfl) ?_
                      subst hQ; exact k_iret hx hb hr hlk rfl ((v88, v89, v90, v91)) hS ⟨ib_w 0 1600 h92 rfl, ib_w 0 5 (ib_c 5 5 5 rfl) rfl, fun q => (fun q => q) (h93 q), (by have := (h92).1; have := h94; have := h80; have := h63; have := h46; have := h29; have := h12; have := (hx_at).2; omega), (hO.symm.trans (by try simp only [show (5 : Int32).toInt = (5 : Int) from rfl]; exact hq))⟩ (hP.sub [5, 6, 0, 1, 2, 3, 4, 7] rfl) (hD.sub [5, 6, 0, 1, 2, 3, 4, 7] rfl rfl) (Nat.le_of_ble_eq_true rfl) (Nat.le_of_ble_eq_true rfl) dX10_qKind_91
                  · replace hq := lf_neg hq (lf_ne (lf_rf r69) (lf_lc 0 (0 : Int) rfl) c83)
                    have h97 : ib r69 1 1 := ib_w 1 1 (ib_ne_lo 0 h74 rfl c83) rfl
                    have h98 := h81 (ib_nz h97 rfl)
                    have h99 : ib v54 0 1596 := ⟨(h56).1, by have := (h56).2; have := h98; have := (h73).2; omega⟩
                    have h100 : ib v71 4 1600 := ⟨by have := (h73).1; have := h98; have := (h99).1; omega, (h73).2⟩
                    have h101 : ib v72 4 1600 := ib_w 4 1600 (ib_two (ib_any v72) (h76 (ib_nz h97 rfl))) rfl
                    have h102 : ib x_end 1 1600 := ib_w 1 1600 (ib_two hx_end (h78 (ib_nz h97 rfl))) rfl
                    have h103 : ib x_bad 0 0 := ib_w 0 0 (ib_two (ib_any x_bad) (h79 (ib_nz h97 rfl))) rfl
                    have h104 : ib v37 0 1596 := ⟨(h39).1, by have := (h39).2; have := h63; have := (h99).2; omega⟩
                    refine lv_iconst (v := 4) hx hb dX10_qKind_71 rfl ?_
                    refine lv_goto (tgt := 76) hx hb dX10_qKind_72 rfl ?_
                    refine lv_istore_n (lv' := [(1, .int 4), (0, .ref a_this)]) hx hb dX10_qKind_76 rfl hl (Nat.le_of_ble_eq_true rfl) rfl (fun ls hl => ?_)
                    refine lv_iload_n hx hb dX10_qKind_77 rfl (lv_at hl 0 rfl) ?_
                    refine lv_iconst (v := 5) hx hb dX10_qKind_78 rfl ?_
                    refine lv_icmp_ne (tgt := 90) hx hb dX10_qKind_79 rfl (fun _ => ?_) (fun h9 => absurd h9 (by decide))
                    refine lv_iload_n hx hb dX10_qKind_90 rfl (lv_at hl 0 rfl) ?_
                    subst hQ; exact k_iret hx hb hr hlk rfl ((v71, v72, x_bad, x_badPlace)) hS ⟨ib_w 0 1600 h100 rfl, ib_w 0 5 (ib_c 4 4 4 rfl) rfl, fun q => q, (by have := (h100).1; have := h98; have := h63; have := h46; have := h29; have := h12; have := (hx_at).2; omega), (hO.symm.trans (by try simp only [show (4 : Int32).toInt = (4 : Int) from rfl]; exact hq))⟩ (hP.sub [5, 6, 1, 2, 3, 4, 7, 0] rfl) (hD.sub [5, 6, 1, 2, 3, 4, 7, 0] rfl rfl) (Nat.le_of_ble_eq_true rfl) (Nat.le_of_ble_eq_true rfl) dX10_qKind_91
              · replace hq := lf_neg hq (lf_ne (lf_rf r52) (lf_lc 0 (0 : Int) rfl) c66)
                have h105 : ib r52 1 1 := ib_w 1 1 (ib_ne_lo 0 h57 rfl c66) rfl
                have h106 := h64 (ib_nz h105 rfl)
                have h107 : ib v37 0 1595 := ⟨(h39).1, by have := (h39).2; have := h106; have := (h56).2; omega⟩
                have h108 : ib v54 5 1600 := ⟨by have := (h56).1; have := h106; have := (h107).1; omega, (h56).2⟩
                have h109 : ib v55 5 1600 := ib_w 5 1600 (ib_two (ib_any v55) (h59 (ib_nz h105 rfl))) rfl
                have h110 : ib x_end 1 1600 := ib_w 1 1600 (ib_two hx_end (h61 (ib_nz h105 rfl))) rfl
                have h111 : ib x_bad 0 0 := ib_w 0 0 (ib_two (ib_any x_bad) (h62 (ib_nz h105 rfl))) rfl
                have h112 : ib v20 0 1595 := ⟨(h22).1, by have := (h22).2; have := h46; have := (h107).2; omega⟩
                refine lv_iconst (v := 3) hx hb dX10_qKind_56 rfl ?_
                refine lv_goto (tgt := 76) hx hb dX10_qKind_57 rfl ?_
                refine lv_istore_n (lv' := [(1, .int 3), (0, .ref a_this)]) hx hb dX10_qKind_76 rfl hl (Nat.le_of_ble_eq_true rfl) rfl (fun ls hl => ?_)
                refine lv_iload_n hx hb dX10_qKind_77 rfl (lv_at hl 0 rfl) ?_
                refine lv_iconst (v := 5) hx hb dX10_qKind_78 rfl ?_
                refine lv_icmp_ne (tgt := 90) hx hb dX10_qKind_79 rfl (fun _ => ?_) (fun h9 => absurd h9 (by decide))
                refine lv_iload_n hx hb dX10_qKind_90 rfl (lv_at hl 0 rfl) ?_
                subst hQ; exact k_iret hx hb hr hlk rfl ((v54, v55, x_bad, x_badPlace)) hS ⟨ib_w 0 1600 h108 rfl, ib_w 0 5 (ib_c 3 3 3 rfl) rfl, fun q => q, (by have := (h108).1; have := h106; have := h46; have := h29; have := h12; have := (hx_at).2; omega), (hO.symm.trans (by try simp only [show (3 : Int32).toInt = (3 : Int) from rfl]; exact hq))⟩ (hP.sub [5, 6, 2, 3, 4, 7, 0, 1] rfl) (hD.sub [5, 6, 2, 3, 4, 7, 0, 1] rfl rfl) (Nat.le_of_ble_eq_true rfl) (Nat.le_of_ble_eq_true rfl) dX10_qKind_91
          · replace hq := lf_neg hq (lf_ne (lf_rf r35) (lf_lc 0 (0 : Int) rfl) c49)
            have h113 : ib r35 1 1 := ib_w 1 1 (ib_ne_lo 0 h40 rfl c49) rfl
            have h114 := h47 (ib_nz h113 rfl)
            have h115 : ib v20 0 1595 := ⟨(h22).1, by have := (h22).2; have := h114; have := (h39).2; omega⟩
            have h116 : ib v37 5 1600 := ⟨by have := (h39).1; have := h114; have := (h115).1; omega, (h39).2⟩
            have h117 : ib v38 5 1600 := ib_w 5 1600 (ib_two (ib_any v38) (h42 (ib_nz h113 rfl))) rfl
            have h118 : ib x_end 1 1600 := ib_w 1 1600 (ib_two hx_end (h44 (ib_nz h113 rfl))) rfl
            have h119 : ib x_bad 0 0 := ib_w 0 0 (ib_two (ib_any x_bad) (h45 (ib_nz h113 rfl))) rfl
            have h120 : ib v3 0 1595 := ⟨(h5).1, by have := (h5).2; have := h29; have := (h115).2; omega⟩
            refine lv_iconst (v := 2) hx hb dX10_qKind_41 rfl ?_
            refine lv_goto (tgt := 76) hx hb dX10_qKind_42 rfl ?_
            refine lv_istore_n (lv' := [(1, .int 2), (0, .ref a_this)]) hx hb dX10_qKind_76 rfl hl (Nat.le_of_ble_eq_true rfl) rfl (fun ls hl => ?_)
            refine lv_iload_n hx hb dX10_qKind_77 rfl (lv_at hl 0 rfl) ?_
            refine lv_iconst (v := 5) hx hb dX10_qKind_78 rfl ?_
            refine lv_icmp_ne (tgt := 90) hx hb dX10_qKind_79 rfl (fun _ => ?_) (fun h9 => absurd h9 (by decide))
            refine lv_iload_n hx hb dX10_qKind_90 rfl (lv_at hl 0 rfl) ?_
            subst hQ; exact k_iret hx hb hr hlk rfl ((v37, v38, x_bad, x_badPlace)) hS ⟨ib_w 0 1600 h116 rfl, ib_w 0 5 (ib_c 2 2 2 rfl) rfl, fun q => q, (by have := (h116).1; have := h114; have := h29; have := h12; have := (hx_at).2; omega), (hO.symm.trans (by try simp only [show (2 : Int32).toInt = (2 : Int) from rfl]; exact hq))⟩ (hP.sub [5, 6, 3, 4, 7, 0, 1, 2] rfl) (hD.sub [5, 6, 3, 4, 7, 0, 1, 2] rfl rfl) (Nat.le_of_ble_eq_true rfl) (Nat.le_of_ble_eq_true rfl) dX10_qKind_91
      · replace hq := lf_neg hq (lf_ne (lf_rf r18) (lf_lc 0 (0 : Int) rfl) c32)
        have h121 : ib r18 1 1 := ib_w 1 1 (ib_ne_lo 0 h23 rfl c32) rfl
        have h122 := h30 (ib_nz h121 rfl)
        have h123 : ib v3 0 1596 := ⟨(h5).1, by have := (h5).2; have := h122; have := (h22).2; omega⟩
        have h124 : ib v20 4 1600 := ⟨by have := (h22).1; have := h122; have := (h123).1; omega, (h22).2⟩
        have h125 : ib v21 4 1600 := ib_w 4 1600 (ib_two (ib_any v21) (h25 (ib_nz h121 rfl))) rfl
        have h126 : ib x_end 1 1600 := ib_w 1 1600 (ib_two hx_end (h27 (ib_nz h121 rfl))) rfl
        have h127 : ib x_bad 0 0 := ib_w 0 0 (ib_two (ib_any x_bad) (h28 (ib_nz h121 rfl))) rfl
        have h128 : ib x_at 0 1596 := ⟨(hx_at).1, by have := (hx_at).2; have := h12; have := (h123).2; omega⟩
        refine lv_iconst (v := 1) hx hb dX10_qKind_26 rfl ?_
        refine lv_goto (tgt := 76) hx hb dX10_qKind_27 rfl ?_
        refine lv_istore_n (lv' := [(1, .int 1), (0, .ref a_this)]) hx hb dX10_qKind_76 rfl hl (Nat.le_of_ble_eq_true rfl) rfl (fun ls hl => ?_)
        refine lv_iload_n hx hb dX10_qKind_77 rfl (lv_at hl 0 rfl) ?_
        refine lv_iconst (v := 5) hx hb dX10_qKind_78 rfl ?_
        refine lv_icmp_ne (tgt := 90) hx hb dX10_qKind_79 rfl (fun _ => ?_) (fun h9 => absurd h9 (by decide))
        refine lv_iload_n hx hb dX10_qKind_90 rfl (lv_at hl 0 rfl) ?_
        subst hQ; exact k_iret hx hb hr hlk rfl ((v20, v21, x_bad, x_badPlace)) hS ⟨ib_w 0 1600 h124 rfl, ib_w 0 5 (ib_c 1 1 1 rfl) rfl, fun q => q, (by have := h122; have := h12; omega), (hO.symm.trans (by try simp only [show (1 : Int32).toInt = (1 : Int) from rfl]; exact hq))⟩ (hP.sub [5, 6, 4, 7, 0, 1, 2, 3] rfl) (hD.sub [5, 6, 4, 7, 0, 1, 2, 3] rfl rfl) (Nat.le_of_ble_eq_true rfl) (Nat.le_of_ble_eq_true rfl) dX10_qKind_91
  · replace hq := lf_neg hq (lf_ne (lf_rf r1) (lf_lc 0 (0 : Int) rfl) c15)
    have h129 : ib r1 1 1 := ib_w 1 1 (ib_ne_lo 0 h6 rfl c15) rfl
    have h130 := h13 (ib_nz h129 rfl)
    have h131 : ib x_at 0 1595 := ⟨(hx_at).1, by have := (hx_at).2; have := h130; have := (h5).2; omega⟩
    have h132 : ib v3 5 1600 := ⟨by have := (h5).1; have := h130; have := (h131).1; omega, (h5).2⟩
    have h133 : ib v4 5 1600 := ib_w 5 1600 (ib_two (ib_any v4) (h8 (ib_nz h129 rfl))) rfl
    have h134 : ib x_end 1 1600 := ib_w 1 1600 (ib_two hx_end (h10 (ib_nz h129 rfl))) rfl
    have h135 : ib x_bad 0 0 := ib_w 0 0 (ib_two (ib_any x_bad) (h11 (ib_nz h129 rfl))) rfl
    refine lv_iconst (v := 0) hx hb dX10_qKind_11 rfl ?_
    refine lv_goto (tgt := 76) hx hb dX10_qKind_12 rfl ?_
    refine lv_istore_n (lv' := [(1, .int 0), (0, .ref a_this)]) hx hb dX10_qKind_76 rfl hl (Nat.le_of_ble_eq_true rfl) rfl (fun ls hl => ?_)
    refine lv_iload_n hx hb dX10_qKind_77 rfl (lv_at hl 0 rfl) ?_
    refine lv_iconst (v := 5) hx hb dX10_qKind_78 rfl ?_
    refine lv_icmp_ne (tgt := 90) hx hb dX10_qKind_79 rfl (fun _ => ?_) (fun h9 => absurd h9 (by decide))
    refine lv_iload_n hx hb dX10_qKind_90 rfl (lv_at hl 0 rfl) ?_
    subst hQ; exact k_iret hx hb hr hlk rfl ((v3, v4, x_bad, x_badPlace)) hS ⟨ib_w 0 1600 h132 rfl, ib_w 0 5 (ib_c 0 0 0 rfl) rfl, fun q => q, (by have := h130; omega), (hO.symm.trans (by try simp only [show (0 : Int32).toInt = (0 : Int) from rfl]; exact hq))⟩ (hP.sub [5, 6, 7, 0, 1, 2, 3, 4] rfl) (hD.sub [5, 6, 7, 0, 1, 2, 3, 4] rfl rfl) (Nat.le_of_ble_eq_true rfl) (Nat.le_of_ble_eq_true rfl) dX10_qKind_91
set_option maxHeartbeats 4000000 in
set_option maxRecDepth 100000 in
theorem s_X10_isHere_r6 (l : Launch) (dC : Nat → ClassId) (dI : Nat → Nat → Nat) (cy : Nat → ClassId) (sq : Nat → Nat) (a_this : Nat) (rm : Nat → Nat) (x_taped : Int32) (x_at : Int32) (x_end : Int32) (x_ended : Int32) (x_bad : Int32) (x_badPlace : Int32) (x_fault : Int32) (x_faultPlace : Int32) (x_namePlace : Int32) (x_awayTold : Int32) (x_away : Int32) (x_coded : Int32) (x_statements : Int32) (x_isCrossing : Int32) (x_textKind : Int32) (x_askSecond : Int32) (x_redMany : Int32) (x_isOpen : Int32) (x_lastGreen : Int32) (x_greenTo : Int32) (x_isCycleGreen : Int32) (x_stillGreen : Int32) (x_rowMany : Int32) (x_fitMany : Int32) (x_fitRules : Int32) (x_fitGreen : Int32) (x_undoable : Int32) (x_newest : Int32) (x_seeded : Int64) (x_qCoded : Int32) (x_qWaits : Int32) (x_qOpened : Int32) (x_qBase : Int32) (x_qPiled : Int32) (x_qAnswer : Int64) (x_qIsNew : Int32) (x_octets : Int32) (g_tape : Nat → Int32) (a_arg0 : Nat) (g_arg0 : Nat → Int32) (hx_at : ib x_at 0 1600) (hx_end : ib x_end 0 1600) (hg_tape : ia g_tape 1600 0 255) : k_Met l yX10_isHere cX10_isHere 4 (some .boolean) { frames := 1, cells := 0, slots := 0, locals := 20 } dC dI cy sq [.ref a_this, .ref a_arg0] [(a_this, .inr (10, mfs rm x_taped x_at x_end x_ended x_bad x_badPlace x_fault x_faultPlace x_namePlace x_awayTold x_away x_coded x_statements x_isCrossing x_textKind x_askSecond x_redMany x_isOpen x_lastGreen x_greenTo x_isCycleGreen x_stillGreen x_rowMany x_fitMany x_fitRules x_fitGreen x_undoable x_newest x_seeded x_qCoded x_qWaits x_qOpened x_qBase x_qPiled x_qAnswer x_qIsNew x_octets)), (wi_rm0_0_1600_0 rm cy g_tape), (wi_2_6_0 a_arg0 cy g_arg0)] (k_Qi dC dI (fun (r : Int32) (n0 : Int32) => ib n0 0 1600 ∧ ib r 0 1 ∧ (¬ r = 0 → ib n0 0 1594) ∧ (¬ r = 0 → ib x_at 0 1594) ∧ (¬ r = 0 → ib x_end 1 1600) ∧ (¬ r = 0 → ib x_bad 0 0) ∧ (1 * x_at.toInt + (-1) * n0.toInt ≤ 0) ∧ (NB g_tape x_at x_end → n0 = x_at) ∧ (F_X10_isHere_r6 (Int32.toInt x_at) (Int32.toInt x_end) (Int32.toInt x_ended) (Int32.toInt x_bad) (lf_A g_tape) (lf_A g_arg0) = ((Int32.toInt r), (Int32.toInt n0)))) (fun n0 : Int32 => [(a_this, .inr (10, mfs rm x_taped n0 x_end x_ended x_bad x_badPlace x_fault x_faultPlace x_namePlace x_awayTold x_away x_coded x_statements x_isCrossing x_textKind x_askSecond x_redMany x_isOpen x_lastGreen x_greenTo x_isCycleGreen x_stillGreen x_rowMany x_fitMany x_fitRules x_fitGreen x_undoable x_newest x_seeded x_qCoded x_qWaits x_qOpened x_qBase x_qPiled x_qAnswer x_qIsNew x_octets)), (wi_rm0_0_1600_0 rm cy g_tape), (wi_2_6_0 a_arg0 cy g_arg0)])) := by
  refine k_ofW2 (by decide +kernel) (Nat.le_of_ble_eq_true rfl) ?_
  intro p e s m below meth c A ls H locs args Q hQ C0 hZ hr hlk hin hP hD hA hS hl
  have C0 : k_cx p s m args c cX10_isHere 4 RX10 dC dI cy sq := C0
  have hx := C0.1
  have hb := C0.2.1
  have hl : lv_has ls 4 [(0, .ref a_this), (1, .ref a_arg0)] := hl
  obtain ⟨O, hO⟩ : ∃ o, o = F_X10_isHere_r6 (Int32.toInt x_at) (Int32.toInt x_end) (Int32.toInt x_ended) (Int32.toInt x_bad) (lf_A g_tape) (lf_A g_arg0) := ⟨_, rfl⟩
  have hq := hO
  unfold F_X10_isHere_r6 at hq
  have jn76 : ∀ (n : Nat) (J76_l2 : Int32) (J76_c0_2 : Int32) (J76_l3 : Int32) (H : Heap) (locs : List Loc) (ls : Array Slot), ib J76_l2 6 1600 → ib J76_c0_2 0 1594 → ib x_end 1 1600 → ib x_bad 0 0 → ib J76_l3 0 6 → (1 * x_at.toInt + (-1) * J76_c0_2.toInt ≤ 0) → (NB g_tape x_at x_end → J76_c0_2 = x_at) → (O = F_X10_isHere_r6_76 (lf_A g_tape) (lf_A g_arg0) n (Int32.toInt J76_l2) (Int32.toInt J76_c0_2) (Int32.toInt J76_l3)) → 7 ≤ J76_l3.toInt + (n : Int) → va_P (dC, dI) vwCl [(a_this, .inr (10, mfs rm x_taped J76_c0_2 x_end x_ended x_bad x_badPlace x_fault x_faultPlace x_namePlace x_awayTold x_away x_coded x_statements x_isCrossing x_textKind x_askSecond x_redMany x_isOpen x_lastGreen x_greenTo x_isCycleGreen x_stillGreen x_rowMany x_fitMany x_fitRules x_fitGreen x_undoable x_newest x_seeded x_qCoded x_qWaits x_qOpened x_qBase x_qPiled x_qAnswer x_qIsNew x_octets)), (wi_rm0_0_1600_0 rm cy g_tape), (wi_2_6_0 a_arg0 cy g_arg0)] H → va_D A [(a_this, .inr (10, mfs rm x_taped J76_c0_2 x_end x_ended x_bad x_badPlace x_fault x_faultPlace x_namePlace x_awayTold x_away x_coded x_statements x_isCrossing x_textKind x_askSecond x_redMany x_isOpen x_lastGreen x_greenTo x_isCycleGreen x_stillGreen x_rowMany x_fitMany x_fitRules x_fitGreen x_undoable x_newest x_seeded x_qCoded x_qWaits x_qOpened x_qBase x_qPiled x_qAnswer x_qIsNew x_octets)), (wi_rm0_0_1600_0 rm cy g_tape), (wi_2_6_0 a_arg0 cy g_arg0)] → va_S A s.heap H locs → lv_has ls 4 [(0, .ref a_this), (1, .ref a_arg0), (2, .int J76_l2), (3, .int J76_l3)] → W p l e { frames := 1, cells := 0, slots := 0, locals := 20 } s m args below meth c H locs 0 0 Q (F0 m 76 ls []) := by
    as_aux_lemma =>
      intro n
      induction n with
      | zero =>
        intro J76_l2 J76_c0_2 J76_l3 H locs ls hJ76_l2 hJ76_c0_2 hK76_x_end hK76_x_bad hJ76_l3 hJ76_lin0 hJ76_nb hq hm
        exact absurd hm (by have := hJ76_l3; unfold ib at this; omega)
      | succ n ih =>
        intro J76_l2 J76_c0_2 J76_l3 H locs ls hJ76_l2 hJ76_c0_2 hK76_x_end hK76_x_bad hJ76_l3 hJ76_lin0 hJ76_nb hq hm76 hP hD hS hl
        have ih76 := ih
        obtain ⟨K76, hK76⟩ : ∃ K, K = F_X10_isHere_r6_76 (lf_A g_tape) (lf_A g_arg0) n := ⟨_, rfl⟩
        have hq : O = F_X10_isHere_r6_76b (lf_A g_tape) (lf_A g_arg0) K76 (Int32.toInt J76_l2) (Int32.toInt J76_c0_2) (Int32.toInt J76_l3) := by rw [hK76]; exact hq
        unfold F_X10_isHere_r6_76b at hq
        refine lv_iload_n hx hb dX10_isHere_76 rfl (lv_at hl 3 rfl) ?_
        refine lv_aload_n hx hb dX10_isHere_77 rfl (lv_at hl 1 rfl) ?_
        refine va_alen hx hb C0.2.2.2.2.2.1 hP 2 2 rfl rfl (v := 6) (show Int32.ofNat 6 = 6 by decide) dX10_isHere_78 ?_
        refine lv_icmp_ge (tgt := 107) hx hb dX10_isHere_79 rfl (fun c1 => ?_) (fun c1 => ?_)
        · replace hq := lf_pos hq (lf_le (lf_lc 6 (6 : Int) rfl) (lf_rf J76_l3) c1)
          have h2 := ib_le (ib_c 6 6 6 rfl) hJ76_l3 c1
          have h3 : ib J76_l3 6 6 := ib_w 6 6 h2.2 rfl
          have h4 : ib x_at 0 1594 := ⟨(hx_at).1, by have := (hx_at).2; have := hJ76_lin0; have := (hJ76_c0_2).2; omega⟩
          refine lv_iconst (v := 1) hx hb dX10_isHere_107 rfl ?_
          subst hQ; exact k_iret hx hb hr hlk (k_nb 1 rfl) J76_c0_2 hS ⟨ib_w 0 1600 hJ76_c0_2 rfl, ib_w 0 1 (ib_c 1 1 1 rfl) rfl, fun _ => ib_w 0 1594 hJ76_c0_2 rfl, fun _ => ib_w 0 1594 h4 rfl, fun _ => ib_w 1 1600 hK76_x_end rfl, fun _ => ib_w 0 0 hK76_x_bad rfl, (by have := hJ76_lin0; omega), fun q9 => (by have e0n : J76_c0_2 = x_at := hJ76_nb q9; exact e0n), (hO.symm.trans (by try simp only [show (1 : Int32).toInt = (1 : Int) from rfl]; exact hq))⟩ hP hD (Nat.le_of_ble_eq_true rfl) (Nat.le_of_ble_eq_true rfl) dX10_isHere_108
        · as_aux_lemma =>
            replace hq := lf_neg hq (lf_nle (lf_lc 6 (6 : Int) rfl) (lf_rf J76_l3) c1)
            have h5 := ib_nle (ib_c 6 6 6 rfl) hJ76_l3 c1
            have h6 : ib J76_l3 0 5 := ib_w 0 5 h5.2 rfl
            have h7 : ib x_at 0 1594 := ⟨(hx_at).1, by have := (hx_at).2; have := hJ76_lin0; have := (hJ76_c0_2).2; omega⟩
            refine lv_aload_n hx hb dX10_isHere_82 rfl (lv_at hl 0 rfl) ?_
            refine k_get C0 fg_X10_7 hP 0 rfl rfl dX10_isHere_83 ?_
            refine lv_aload_n hx hb dX10_isHere_86 rfl (lv_at hl 0 rfl) ?_
            refine k_get C0 fg_X10_285 hP 0 rfl rfl dX10_isHere_87 ?_
            refine lv_iload_n hx hb dX10_isHere_90 rfl (lv_at hl 3 rfl) ?_
            refine lv_iadd hx hb dX10_isHere_91 ?_
            refine lv_topi (fun z8 ez8 => ?_)
            have h9 := ib_add hJ76_c0_2 h6 rfl
            rw [← ez8] at h9
            have h10 : ib z8 0 1599 := ib_w 0 1599 h9.1 rfl
            have Ez8 := lf_add h9.2 (lf_rf J76_c0_2) (lf_rf J76_l3)
            refine va_iald hx hb C0.2.2.2.2.2.1 hP 1 0 rfl rfl (ib_in 1600 h10 rfl) dX10_isHere_92 ?_
            refine lv_topi (fun z11 ez11 => ?_)
            have h12 : ib z11 0 255 := by rw [ez11]; exact ia_at hg_tape (ib_in 1600 h10 rfl)
            have Ez11 := lf_ld ez11 (lf_ra g_tape) Ez8
            refine lv_aload_n hx hb dX10_isHere_93 rfl (lv_at hl 1 rfl) ?_
            refine lv_iload_n hx hb dX10_isHere_94 rfl (lv_at hl 3 rfl) ?_
            refine va_cald hx hb C0.2.2.2.2.2.1 hP 2 2 rfl rfl (ib_in 6 h6 rfl) dX10_isHere_95 ?_
            refine lv_topi (fun z13 ez13 => ?_)
            have Ez13 := lf_ld ez13 (lf_ra g_arg0) (lf_rf J76_l3)
            refine lv_icmp_eq (tgt := 101) hx hb dX10_isHere_96 rfl (fun c14 => ?_) (fun c14 => ?_)
            · replace hq := lf_pos hq (lf_eq Ez11 Ez13 c14)
              have h15 := ib_eq h12 (ib_any z13) c14
              have h16 : ib z13 0 255 := ib_w 0 255 h15.2 rfl
              obtain ⟨z17, ez17⟩ : ∃ y : Int32, y = J76_l3 + 1 := ⟨_, rfl⟩
              refine lv_iinc (v := z17) (lv' := [(3, .int z17), (0, .ref a_this), (1, .ref a_arg0), (2, .int J76_l2)]) hx hb dX10_isHere_101 hl (k := 3) rfl (by rw [ez17]; rfl) (Nat.le_of_ble_eq_true rfl) rfl (fun ls hl => ?_)
              have h18 := ib_add h6 (ib_c 1 1 1 rfl) rfl
              rw [← ez17] at h18
              have h19 : ib z17 1 6 := ib_w 1 6 h18.1 rfl
              have Ez17 := lf_add h18.2 (lf_rf J76_l3) (lf_lc 1 (1 : Int) rfl)
              refine lv_goto (tgt := 76) hx hb dX10_isHere_104 rfl ?_
              exact ih76 J76_l2 J76_c0_2 z17 H locs ls (ib_w 6 1600 hJ76_l2 rfl) (ib_w 0 1594 hJ76_c0_2 rfl) (ib_w 1 1600 hK76_x_end rfl) (ib_w 0 0 hK76_x_bad rfl) (ib_w 0 6 h19 rfl) (by have := hJ76_lin0; omega) (fun q9 => (by have e0n : J76_c0_2 = x_at := hJ76_nb q9; exact e0n)) (by rw [← hK76]; rw [lf_u Ez17]; exact hq) (by have := h18.2; have : (1 : Int32).toInt = 1 := rfl; omega) hP hD hS (lv_sub hl [1, 2, 3, 0] rfl)
            · replace hq := lf_neg hq (lf_ne Ez11 Ez13 c14)
              refine lv_iconst (v := 0) hx hb dX10_isHere_99 rfl ?_
              subst hQ; exact k_iret hx hb hr hlk (k_nb 0 rfl) J76_c0_2 hS ⟨ib_w 0 1600 hJ76_c0_2 rfl, ib_w 0 1 (ib_c 0 0 0 rfl) rfl, fun hq9 => absurd rfl hq9, fun hq9 => absurd rfl hq9, fun hq9 => absurd rfl hq9, fun hq9 => absurd rfl hq9, (by have := hJ76_lin0; omega), fun q9 => (by have e0n : J76_c0_2 = x_at := hJ76_nb q9; exact e0n), (hO.symm.trans (by try simp only [show (0 : Int32).toInt = (0 : Int) from rfl]; exact hq))⟩ hP hD (Nat.le_of_ble_eq_true rfl) (Nat.le_of_ble_eq_true rfl) dX10_isHere_100
  have jn61 : ∀ (J61_l2 : Int32) (J61_c0_2 : Int32) (H : Heap) (locs : List Loc) (ls : Array Slot), ib J61_l2 0 1600 → ib J61_c0_2 0 1599 → ib x_end 1 1600 → ib x_bad 0 0 → (1 * x_at.toInt + (-1) * J61_c0_2.toInt ≤ 0) → (NB g_tape x_at x_end → J61_c0_2 = x_at) → (O = F_X10_isHere_r6_61 (lf_A g_tape) (lf_A g_arg0) (Int32.toInt J61_l2) (Int32.toInt J61_c0_2)) → va_P (dC, dI) vwCl [(a_this, .inr (10, mfs rm x_taped J61_c0_2 x_end x_ended x_bad x_badPlace x_fault x_faultPlace x_namePlace x_awayTold x_away x_coded x_statements x_isCrossing x_textKind x_askSecond x_redMany x_isOpen x_lastGreen x_greenTo x_isCycleGreen x_stillGreen x_rowMany x_fitMany x_fitRules x_fitGreen x_undoable x_newest x_seeded x_qCoded x_qWaits x_qOpened x_qBase x_qPiled x_qAnswer x_qIsNew x_octets)), (wi_rm0_0_1600_0 rm cy g_tape), (wi_2_6_0 a_arg0 cy g_arg0)] H → va_D A [(a_this, .inr (10, mfs rm x_taped J61_c0_2 x_end x_ended x_bad x_badPlace x_fault x_faultPlace x_namePlace x_awayTold x_away x_coded x_statements x_isCrossing x_textKind x_askSecond x_redMany x_isOpen x_lastGreen x_greenTo x_isCycleGreen x_stillGreen x_rowMany x_fitMany x_fitRules x_fitGreen x_undoable x_newest x_seeded x_qCoded x_qWaits x_qOpened x_qBase x_qPiled x_qAnswer x_qIsNew x_octets)), (wi_rm0_0_1600_0 rm cy g_tape), (wi_2_6_0 a_arg0 cy g_arg0)] → va_S A s.heap H locs → lv_has ls 4 [(0, .ref a_this), (1, .ref a_arg0), (2, .int J61_l2)] → W p l e { frames := 1, cells := 0, slots := 0, locals := 20 } s m args below meth c H locs 0 0 Q (F0 m 61 ls []) := by
    as_aux_lemma =>
      intro J61_l2 J61_c0_2 H locs ls hJ61_l2 hJ61_c0_2 hK61_x_end hK61_x_bad hJ61_lin0 hJ61_nb hq hP hD hS hl
      unfold F_X10_isHere_r6_61 at hq
      refine lv_iload_n hx hb dX10_isHere_61 rfl (lv_at hl 2 rfl) ?_
      refine lv_aload_n hx hb dX10_isHere_62 rfl (lv_at hl 0 rfl) ?_
      refine k_get C0 fg_X10_285 hP 0 rfl rfl dX10_isHere_63 ?_
      refine lv_isub hx hb dX10_isHere_66 ?_
      refine lv_topi (fun z20 ez20 => ?_)
      have h21 := ib_sub hJ61_l2 hJ61_c0_2 rfl
      rw [← ez20] at h21
      have h22 : ib z20 (-1599) 1600 := ib_w (-1599) 1600 h21.1 rfl
      have Ez20 := lf_sub h21.2 (lf_rf J61_l2) (lf_rf J61_c0_2)
      refine lv_aload_n hx hb dX10_isHere_67 rfl (lv_at hl 1 rfl) ?_
      refine va_alen hx hb C0.2.2.2.2.2.1 hP 2 2 rfl rfl (v := 6) (show Int32.ofNat 6 = 6 by decide) dX10_isHere_68 ?_
      refine lv_icmp_eq (tgt := 74) hx hb dX10_isHere_69 rfl (fun c23 => ?_) (fun c23 => ?_)
      · replace hq := lf_pos hq (lf_eq Ez20 (lf_lc 6 (6 : Int) rfl) c23)
        have h24 := ib_eq h22 (ib_c 6 6 6 rfl) c23
        have h25 : ib z20 6 6 := ib_w 6 6 h24.1 rfl
        have h26 : ib J61_l2 6 1600 := ⟨by have := h21.2; have := (h25).1; have := (h25).2; have := (hJ61_l2).1; have := (hJ61_l2).2; have := (hJ61_c0_2).1; have := (hJ61_c0_2).2; omega, by have := h21.2; have := (h25).1; have := (h25).2; have := (hJ61_l2).1; have := (hJ61_l2).2; have := (hJ61_c0_2).1; have := (hJ61_c0_2).2; omega⟩
        have h27 : ib J61_c0_2 0 1594 := ⟨by have := h21.2; have := (h25).1; have := (h25).2; have := (hJ61_l2).1; have := (hJ61_l2).2; have := (hJ61_c0_2).1; have := (hJ61_c0_2).2; omega, by have := h21.2; have := (h25).1; have := (h25).2; have := (hJ61_l2).1; have := (hJ61_l2).2; have := (hJ61_c0_2).1; have := (hJ61_c0_2).2; omega⟩
        have h28 : ib x_at 0 1594 := ⟨(hx_at).1, by have := (hx_at).2; have := hJ61_lin0; have := (h27).2; omega⟩
        refine lv_iconst (v := 0) hx hb dX10_isHere_74 rfl ?_
        refine lv_istore_n (lv' := [(3, .int 0), (0, .ref a_this), (1, .ref a_arg0), (2, .int J61_l2)]) hx hb dX10_isHere_75 rfl hl (Nat.le_of_ble_eq_true rfl) rfl (fun ls hl => ?_)
        exact jn76 8 J61_l2 J61_c0_2 0 H locs ls (ib_w 6 1600 h26 rfl) (ib_w 0 1594 h27 rfl) (ib_w 1 1600 hK61_x_end rfl) (ib_w 0 0 hK61_x_bad rfl) (ib_w 0 6 (ib_c 0 0 0 rfl) rfl) (by have := hJ61_lin0; omega) (fun q9 => (by have e0n : J61_c0_2 = x_at := hJ61_nb q9; exact e0n)) (by try simp only [show (0 : Int32).toInt = (0 : Int) from rfl]; exact hq) (by have := (ib_c 0 0 0 rfl); unfold ib at this; omega) hP hD hS (lv_sub hl [1, 2, 3, 0] rfl)
      · replace hq := lf_neg hq (lf_ne Ez20 (lf_lc 6 (6 : Int) rfl) c23)
        have h29 : ib x_at 0 1599 := ⟨(hx_at).1, by have := (hx_at).2; have := hJ61_lin0; have := (hJ61_c0_2).2; omega⟩
        refine lv_iconst (v := 0) hx hb dX10_isHere_72 rfl ?_
        subst hQ; exact k_iret hx hb hr hlk (k_nb 0 rfl) J61_c0_2 hS ⟨ib_w 0 1600 hJ61_c0_2 rfl, ib_w 0 1 (ib_c 0 0 0 rfl) rfl, fun hq9 => absurd rfl hq9, fun hq9 => absurd rfl hq9, fun hq9 => absurd rfl hq9, fun hq9 => absurd rfl hq9, (by have := hJ61_lin0; omega), fun q9 => (by have e0n : J61_c0_2 = x_at := hJ61_nb q9; exact e0n), (hO.symm.trans (by try simp only [show (0 : Int32).toInt = (0 : Int) from rfl]; exact hq))⟩ hP hD (Nat.le_of_ble_eq_true rfl) (Nat.le_of_ble_eq_true rfl) dX10_isHere_73
  have jn35 : ∀ (n : Nat) (J35_l2 : Int32) (J35_c0_2 : Int32) (H : Heap) (locs : List Loc) (ls : Array Slot), ib J35_l2 0 1600 → ib J35_c0_2 0 1599 → ib x_end 1 1600 → ib x_bad 0 0 → (1 * x_at.toInt + (-1) * J35_c0_2.toInt ≤ 0) → (NB g_tape x_at x_end → J35_c0_2 = x_at) → (O = F_X10_isHere_r6_35 (Int32.toInt x_end) (lf_A g_tape) (lf_A g_arg0) n (Int32.toInt J35_l2) (Int32.toInt J35_c0_2)) → 1601 ≤ J35_l2.toInt + (n : Int) → va_P (dC, dI) vwCl [(a_this, .inr (10, mfs rm x_taped J35_c0_2 x_end x_ended x_bad x_badPlace x_fault x_faultPlace x_namePlace x_awayTold x_away x_coded x_statements x_isCrossing x_textKind x_askSecond x_redMany x_isOpen x_lastGreen x_greenTo x_isCycleGreen x_stillGreen x_rowMany x_fitMany x_fitRules x_fitGreen x_undoable x_newest x_seeded x_qCoded x_qWaits x_qOpened x_qBase x_qPiled x_qAnswer x_qIsNew x_octets)), (wi_rm0_0_1600_0 rm cy g_tape), (wi_2_6_0 a_arg0 cy g_arg0)] H → va_D A [(a_this, .inr (10, mfs rm x_taped J35_c0_2 x_end x_ended x_bad x_badPlace x_fault x_faultPlace x_namePlace x_awayTold x_away x_coded x_statements x_isCrossing x_textKind x_askSecond x_redMany x_isOpen x_lastGreen x_greenTo x_isCycleGreen x_stillGreen x_rowMany x_fitMany x_fitRules x_fitGreen x_undoable x_newest x_seeded x_qCoded x_qWaits x_qOpened x_qBase x_qPiled x_qAnswer x_qIsNew x_octets)), (wi_rm0_0_1600_0 rm cy g_tape), (wi_2_6_0 a_arg0 cy g_arg0)] → va_S A s.heap H locs → lv_has ls 4 [(0, .ref a_this), (1, .ref a_arg0), (2, .int J35_l2)] → W p l e { frames := 1, cells := 0, slots := 0, locals := 20 } s m args below meth c H locs 0 0 Q (F0 m 35 ls []) := by
    as_aux_lemma =>
      intro n
      induction n with
      | zero =>
        intro J35_l2 J35_c0_2 H locs ls hJ35_l2 hJ35_c0_2 hK35_x_end hK35_x_bad hJ35_lin0 hJ35_nb hq hm
        exact absurd hm (by have := hJ35_l2; unfold ib at this; omega)
      | succ n ih =>
        intro J35_l2 J35_c0_2 H locs ls hJ35_l2 hJ35_c0_2 hK35_x_end hK35_x_bad hJ35_lin0 hJ35_nb hq hm35 hP hD hS hl
        have ih35 := ih
        obtain ⟨K35, hK35⟩ : ∃ K, K = F_X10_isHere_r6_35 (Int32.toInt x_end) (lf_A g_tape) (lf_A g_arg0) n := ⟨_, rfl⟩
        have hq : O = F_X10_isHere_r6_35b (Int32.toInt x_end) (lf_A g_tape) (lf_A g_arg0) K35 (Int32.toInt J35_l2) (Int32.toInt J35_c0_2) := by rw [hK35]; exact hq
        unfold F_X10_isHere_r6_35b at hq
        refine lv_iload_n hx hb dX10_isHere_35 rfl (lv_at hl 2 rfl) ?_
        refine lv_aload_n hx hb dX10_isHere_36 rfl (lv_at hl 0 rfl) ?_
        refine k_get C0 fg_X10_288 hP 0 rfl rfl dX10_isHere_37 ?_
        refine lv_icmp_ge (tgt := 61) hx hb dX10_isHere_40 rfl (fun c30 => ?_) (fun c30 => ?_)
        · replace hq := lf_pos hq (lf_le (lf_rf x_end) (lf_rf J35_l2) c30)
          have h31 := ib_le hK35_x_end hJ35_l2 c30
          have h32 : ib J35_l2 1 1600 := ib_w 1 1600 h31.2 rfl
          have h33 : ib x_at 0 1599 := ⟨(hx_at).1, by have := (hx_at).2; have := hJ35_lin0; have := (hJ35_c0_2).2; omega⟩
          exact jn61 J35_l2 J35_c0_2 H locs ls (ib_w 0 1600 h32 rfl) (ib_w 0 1599 hJ35_c0_2 rfl) (ib_w 1 1600 hK35_x_end rfl) (ib_w 0 0 hK35_x_bad rfl) (by have := hJ35_lin0; omega) (fun q9 => (by have e0n : J35_c0_2 = x_at := hJ35_nb q9; exact e0n)) (by exact hq) hP hD hS (lv_sub hl [0, 1, 2] rfl)
        · as_aux_lemma =>
            replace hq := lf_neg hq (lf_nle (lf_rf x_end) (lf_rf J35_l2) c30)
            have h34 := ib_nle hK35_x_end hJ35_l2 c30
            have h35 : ib J35_l2 0 1599 := ib_w 0 1599 h34.2 rfl
            have h36 : ib x_at 0 1599 := ⟨(hx_at).1, by have := (hx_at).2; have := hJ35_lin0; have := (hJ35_c0_2).2; omega⟩
            refine lv_aload_n hx hb dX10_isHere_43 rfl (lv_at hl 0 rfl) ?_
            refine k_get C0 fg_X10_7 hP 0 rfl rfl dX10_isHere_44 ?_
            refine lv_iload_n hx hb dX10_isHere_47 rfl (lv_at hl 2 rfl) ?_
            refine va_iald hx hb C0.2.2.2.2.2.1 hP 1 0 rfl rfl (ib_in 1600 h35 rfl) dX10_isHere_48 ?_
            refine lv_topi (fun z37 ez37 => ?_)
            have h38 : ib z37 0 255 := by rw [ez37]; exact ia_at hg_tape (ib_in 1600 h35 rfl)
            have Ez37 := lf_ld ez37 (lf_ra g_tape) (lf_rf J35_l2)
            refine k_jim hP hD hS hA [] [true, true, true] rfl rfl rfl 0 0 (Nat.le_of_ble_eq_true rfl) (Nat.le_of_ble_eq_true rfl) (fun hPc hDc => k_runS (As := [.int z37]) (rest := []) C0 hZ hS hA (s_X10_isLetter l dC dI cy sq z37 ) mS_X10_295 hPc hDc hl rfl rfl (Nat.le_of_ble_eq_true rfl) ⟨(Nat.le_of_ble_eq_true rfl), (Nat.le_of_ble_eq_true rfl)⟩ ⟨(Nat.le_of_ble_eq_true rfl), (Nat.le_of_ble_eq_true rfl)⟩ dX10_isHere_49) (fun r39 u40 H locs hw hP hD hS => ?_)
            try dsimp only at hP hD hw
            replace hP : va_P (dC, dI) vwCl [(a_this, .inr (10, mfs rm x_taped J35_c0_2 x_end x_ended x_bad x_badPlace x_fault x_faultPlace x_namePlace x_awayTold x_away x_coded x_statements x_isCrossing x_textKind x_askSecond x_redMany x_isOpen x_lastGreen x_greenTo x_isCycleGreen x_stillGreen x_rowMany x_fitMany x_fitRules x_fitGreen x_undoable x_newest x_seeded x_qCoded x_qWaits x_qOpened x_qBase x_qPiled x_qAnswer x_qIsNew x_octets)), (wi_rm0_0_1600_0 rm cy g_tape), (wi_2_6_0 a_arg0 cy g_arg0)] H := hP
            replace hD := k_D hP hD
            obtain ⟨h41, h42, h43⟩ := hw
            have h43 := by have h9 := h43; rw [lf_u Ez37] at h9; exact h9
            replace hq := lf_b1 hq h43
            refine lv_if_eq (tgt := 61) hx hb dX10_isHere_52 rfl (fun c44 => ?_) (fun c44 => ?_)
            · replace hq := lf_pos hq (lf_eq (lf_rf r39) (lf_lc 0 (0 : Int) rfl) c44)
              have h45 := ib_eq h41 (ib_c 0 0 0 rfl) c44
              have h46 : ib r39 0 0 := ib_w 0 0 h45.1 rfl
              exact jn61 J35_l2 J35_c0_2 H locs ls (ib_w 0 1600 h35 rfl) (ib_w 0 1599 hJ35_c0_2 rfl) (ib_w 1 1600 hK35_x_end rfl) (ib_w 0 0 hK35_x_bad rfl) (by have := hJ35_lin0; omega) (fun q9 => (by have e0n : J35_c0_2 = x_at := hJ35_nb q9; exact e0n)) (by exact hq) hP hD hS (lv_sub hl [0, 1, 2] rfl)
            · replace hq := lf_neg hq (lf_ne (lf_rf r39) (lf_lc 0 (0 : Int) rfl) c44)
              have h47 : ib r39 1 1 := ib_w 1 1 (ib_ne_lo 0 h41 rfl c44) rfl
              have h48 : ib z37 97 122 := ib_w 97 122 (ib_two h38 (h42 (ib_nz h47 rfl))) rfl
              obtain ⟨z49, ez49⟩ : ∃ y : Int32, y = J35_l2 + 1 := ⟨_, rfl⟩
              refine lv_iinc (v := z49) (lv' := [(2, .int z49), (0, .ref a_this), (1, .ref a_arg0)]) hx hb dX10_isHere_55 hl (k := 2) rfl (by rw [ez49]; rfl) (Nat.le_of_ble_eq_true rfl) rfl (fun ls hl => ?_)
              have h50 := ib_add h35 (ib_c 1 1 1 rfl) rfl
              rw [← ez49] at h50
              have h51 : ib z49 1 1600 := ib_w 1 1600 h50.1 rfl
              have Ez49 := lf_add h50.2 (lf_rf J35_l2) (lf_lc 1 (1 : Int) rfl)
              refine lv_goto (tgt := 35) hx hb dX10_isHere_58 rfl ?_
              exact ih35 z49 J35_c0_2 H locs ls (ib_w 0 1600 h51 rfl) (ib_w 0 1599 hJ35_c0_2 rfl) (ib_w 1 1600 hK35_x_end rfl) (ib_w 0 0 hK35_x_bad rfl) (by have := hJ35_lin0; omega) (fun q9 => (by have e0n : J35_c0_2 = x_at := hJ35_nb q9; exact e0n)) (by rw [← hK35]; rw [lf_u Ez49]; exact hq) (by have := h50.2; have : (1 : Int32).toInt = 1 := rfl; omega) hP hD hS (lv_sub hl [1, 2, 0] rfl)
  have jn28 : ∀ (J28_c0_2 : Int32) (H : Heap) (locs : List Loc) (ls : Array Slot), ib J28_c0_2 0 1600 → (1 * x_at.toInt + (-1) * J28_c0_2.toInt ≤ 0) → (NB g_tape x_at x_end → J28_c0_2 = x_at) → (O = F_X10_isHere_r6_28 (Int32.toInt J28_c0_2)) → va_P (dC, dI) vwCl [(a_this, .inr (10, mfs rm x_taped J28_c0_2 x_end x_ended x_bad x_badPlace x_fault x_faultPlace x_namePlace x_awayTold x_away x_coded x_statements x_isCrossing x_textKind x_askSecond x_redMany x_isOpen x_lastGreen x_greenTo x_isCycleGreen x_stillGreen x_rowMany x_fitMany x_fitRules x_fitGreen x_undoable x_newest x_seeded x_qCoded x_qWaits x_qOpened x_qBase x_qPiled x_qAnswer x_qIsNew x_octets)), (wi_rm0_0_1600_0 rm cy g_tape), (wi_2_6_0 a_arg0 cy g_arg0)] H → va_D A [(a_this, .inr (10, mfs rm x_taped J28_c0_2 x_end x_ended x_bad x_badPlace x_fault x_faultPlace x_namePlace x_awayTold x_away x_coded x_statements x_isCrossing x_textKind x_askSecond x_redMany x_isOpen x_lastGreen x_greenTo x_isCycleGreen x_stillGreen x_rowMany x_fitMany x_fitRules x_fitGreen x_undoable x_newest x_seeded x_qCoded x_qWaits x_qOpened x_qBase x_qPiled x_qAnswer x_qIsNew x_octets)), (wi_rm0_0_1600_0 rm cy g_tape), (wi_2_6_0 a_arg0 cy g_arg0)] → va_S A s.heap H locs → lv_has ls 4 [(0, .ref a_this), (1, .ref a_arg0)] → W p l e { frames := 1, cells := 0, slots := 0, locals := 20 } s m args below meth c H locs 0 0 Q (F0 m 28 ls []) := by
    intro J28_c0_2 H locs ls hJ28_c0_2 hJ28_lin0 hJ28_nb hq hP hD hS hl
    unfold F_X10_isHere_r6_28 at hq
    refine lv_iconst (v := 0) hx hb dX10_isHere_28 rfl ?_
    subst hQ; exact k_iret hx hb hr hlk (k_nb 0 rfl) J28_c0_2 hS ⟨ib_w 0 1600 hJ28_c0_2 rfl, ib_w 0 1 (ib_c 0 0 0 rfl) rfl, fun hq9 => absurd rfl hq9, fun hq9 => absurd rfl hq9, fun hq9 => absurd rfl hq9, fun hq9 => absurd rfl hq9, (by have := hJ28_lin0; omega), fun q9 => (by have e0n : J28_c0_2 = x_at := hJ28_nb q9; exact e0n), (hO.symm.trans (by try simp only [show (0 : Int32).toInt = (0 : Int) from rfl]; exact hq))⟩ hP hD (Nat.le_of_ble_eq_true rfl) (Nat.le_of_ble_eq_true rfl) dX10_isHere_29
  refine lv_aload_n hx hb dX10_isHere_0 rfl (lv_at hl 0 rfl) ?_
  refine k_get C0 fg_X10_279 hP 0 rfl rfl dX10_isHere_1 ?_
  refine lv_if_ne (tgt := 28) hx hb dX10_isHere_4 rfl (fun c52 => ?_) (fun c52 => ?_)
  · replace hq := lf_neg hq (lf_ne (lf_rf x_bad) (lf_lc 0 (0 : Int) rfl) c52)
    exact jn28 x_at H locs ls (ib_w 0 1600 hx_at rfl) (by omega) (fun _ => rfl) (by exact hq) hP hD hS (lv_sub hl [0, 1] rfl)
  · as_aux_lemma =>
      replace hq := lf_pos hq (lf_eq (lf_rf x_bad) (lf_lc 0 (0 : Int) rfl) c52)
      have h53 := ib_eq (ib_any x_bad) (ib_c 0 0 0 rfl) c52
      have h54 : ib x_bad 0 0 := ib_w 0 0 h53.1 rfl
      refine lv_aload_n hx hb dX10_isHere_7 rfl (lv_at hl 0 rfl) ?_
      refine k_jim hP hD hS hA [0, 1] [false, false, true] rfl rfl rfl 0 0 (Nat.le_of_ble_eq_true rfl) (Nat.le_of_ble_eq_true rfl) (fun hPc hDc => k_runV (As := []) (rest := []) C0 hZ hS hA (s_X10_look l dC dI cy sq a_this rm x_taped x_at x_end x_ended x_bad x_badPlace x_fault x_faultPlace x_namePlace x_awayTold x_away x_coded x_statements x_isCrossing x_textKind x_askSecond x_redMany x_isOpen x_lastGreen x_greenTo x_isCycleGreen x_stillGreen x_rowMany x_fitMany x_fitRules x_fitGreen x_undoable x_newest x_seeded x_qCoded x_qWaits x_qOpened x_qBase x_qPiled x_qAnswer x_qIsNew x_octets g_tape (ib_w 0 1600 hx_at rfl) (ib_w 0 1600 hx_end rfl) hg_tape) mV_X10_291 hPc hDc rfl rfl rfl hl rfl rfl (Nat.le_of_ble_eq_true rfl) ⟨(Nat.le_of_ble_eq_true rfl), (Nat.le_of_ble_eq_true rfl)⟩ ⟨(Nat.le_of_ble_eq_true rfl), (Nat.le_of_ble_eq_true rfl)⟩ dX10_isHere_8) (fun r55 u56 H locs hw hP hD hS => ?_)
      obtain ⟨v57, ev57⟩ : ∃ z, z = u56 := ⟨_, rfl⟩; subst ev57
      try dsimp only at hP hD hw
      replace hP : va_P (dC, dI) vwCl [(wi_2_6_0 a_arg0 cy g_arg0), (a_this, .inr (10, mfs rm x_taped v57 x_end x_ended x_bad x_badPlace x_fault x_faultPlace x_namePlace x_awayTold x_away x_coded x_statements x_isCrossing x_textKind x_askSecond x_redMany x_isOpen x_lastGreen x_greenTo x_isCycleGreen x_stillGreen x_rowMany x_fitMany x_fitRules x_fitGreen x_undoable x_newest x_seeded x_qCoded x_qWaits x_qOpened x_qBase x_qPiled x_qAnswer x_qIsNew x_octets)), (wi_rm0_0_1600_0 rm cy g_tape)] H := hP
      replace hD := k_D hP hD
      obtain ⟨h58, h59, h60, h61, h62, h63, h64, h65, h66, h67⟩ := hw
      replace hq := lf_p1 hq h67
      refine k_jim hP hD hS hA [] [true, true, true] rfl rfl rfl 0 0 (Nat.le_of_ble_eq_true rfl) (Nat.le_of_ble_eq_true rfl) (fun hPc hDc => k_runS (As := [.int r55]) (rest := []) C0 hZ hS hA (s_X10_isLetter l dC dI cy sq r55 ) mS_X10_295 hPc hDc hl rfl rfl (Nat.le_of_ble_eq_true rfl) ⟨(Nat.le_of_ble_eq_true rfl), (Nat.le_of_ble_eq_true rfl)⟩ ⟨(Nat.le_of_ble_eq_true rfl), (Nat.le_of_ble_eq_true rfl)⟩ dX10_isHere_11) (fun r68 u69 H locs hw hP hD hS => ?_)
      try dsimp only at hP hD hw
      replace hP : va_P (dC, dI) vwCl [(wi_2_6_0 a_arg0 cy g_arg0), (a_this, .inr (10, mfs rm x_taped v57 x_end x_ended x_bad x_badPlace x_fault x_faultPlace x_namePlace x_awayTold x_away x_coded x_statements x_isCrossing x_textKind x_askSecond x_redMany x_isOpen x_lastGreen x_greenTo x_isCycleGreen x_stillGreen x_rowMany x_fitMany x_fitRules x_fitGreen x_undoable x_newest x_seeded x_qCoded x_qWaits x_qOpened x_qBase x_qPiled x_qAnswer x_qIsNew x_octets)), (wi_rm0_0_1600_0 rm cy g_tape)] H := hP
      replace hD := k_D hP hD
      obtain ⟨h70, h71, h72⟩ := hw
      replace hq := lf_b1 hq h72
      refine lv_if_eq (tgt := 28) hx hb dX10_isHere_14 rfl (fun c73 => ?_) (fun c73 => ?_)
      · replace hq := lf_pos hq (lf_eq (lf_rf r68) (lf_lc 0 (0 : Int) rfl) c73)
        have h74 := ib_eq h70 (ib_c 0 0 0 rfl) c73
        have h75 : ib r68 0 0 := ib_w 0 0 h74.1 rfl
        exact jn28 v57 H locs ls (ib_w 0 1600 h58 rfl) (by have := h63; omega) (fun q9 => (by have e0n : v57 = x_at := h65 q9; exact e0n)) (by exact hq) (hP.sub [1, 2, 0] rfl) (hD.sub [1, 2, 0] rfl rfl) hS (lv_sub hl [0, 1] rfl)
      · as_aux_lemma =>
          replace hq := lf_neg hq (lf_ne (lf_rf r68) (lf_lc 0 (0 : Int) rfl) c73)
          have h76 : ib r68 1 1 := ib_w 1 1 (ib_ne_lo 0 h70 rfl c73) rfl
          have h77 : ib r55 97 122 := ib_w 97 122 (ib_two h59 (h71 (ib_nz h76 rfl))) rfl
          have h78 : ib v57 0 1599 := ib_w 0 1599 (ib_two h58 (h60 (ib_nc (-1) h77 rfl))) rfl
          have h79 : ib x_at 0 1599 := ib_w 0 1599 (ib_two hx_at (h61 (ib_nc (-1) h77 rfl))) rfl
          have h80 : ib x_end 1 1600 := ib_w 1 1600 (ib_two hx_end (h62 (ib_nc (-1) h77 rfl))) rfl
          refine lv_aload_n hx hb dX10_isHere_17 rfl (lv_at hl 0 rfl) ?_
          refine k_get C0 fg_X10_285 hP 1 rfl rfl dX10_isHere_18 ?_
          refine lv_aload_n hx hb dX10_isHere_21 rfl (lv_at hl 0 rfl) ?_
          refine k_get C0 fg_X10_299 hP 1 rfl rfl dX10_isHere_22 ?_
          refine lv_icmp_ne (tgt := 30) hx hb dX10_isHere_25 rfl (fun c81 => ?_) (fun c81 => ?_)
          · replace hq := lf_neg hq (lf_ne (lf_rf v57) (lf_rf x_ended) c81)
            refine lv_aload_n hx hb dX10_isHere_30 rfl (lv_at hl 0 rfl) ?_
            refine k_get C0 fg_X10_285 hP 1 rfl rfl dX10_isHere_31 ?_
            refine lv_istore_n (lv' := [(2, .int v57), (0, .ref a_this), (1, .ref a_arg0)]) hx hb dX10_isHere_34 rfl hl (Nat.le_of_ble_eq_true rfl) rfl (fun ls hl => ?_)
            exact jn35 1602 v57 v57 H locs ls (ib_w 0 1600 h78 rfl) (ib_w 0 1599 h78 rfl) (ib_w 1 1600 h80 rfl) (ib_w 0 0 h54 rfl) (by have := h63; omega) (fun q9 => (by have e0n : v57 = x_at := h65 q9; exact e0n)) (by exact hq) (by have := h78; unfold ib at this; omega) (hP.sub [1, 2, 0] rfl) (hD.sub [1, 2, 0] rfl rfl) hS (lv_sub hl [1, 2, 0] rfl)
          · replace hq := lf_pos hq (lf_eq (lf_rf v57) (lf_rf x_ended) c81)
            have h82 := ib_eq h78 (ib_any x_ended) c81
            have h83 : ib x_ended 0 1599 := ib_w 0 1599 h82.2 rfl
            exact jn28 v57 H locs ls (ib_w 0 1600 h78 rfl) (by have := h63; omega) (fun q9 => (by have e0n : v57 = x_at := h65 q9; exact e0n)) (by exact hq) (hP.sub [1, 2, 0] rfl) (hD.sub [1, 2, 0] rfl rfl) hS (lv_sub hl [0, 1] rfl)
set_option maxHeartbeats 4000000 in
set_option maxRecDepth 100000 in
theorem s_X10_isHere (l : Launch) (dC : Nat → ClassId) (dI : Nat → Nat → Nat) (cy : Nat → ClassId) (sq : Nat → Nat) (a_this : Nat) (rm : Nat → Nat) (x_taped : Int32) (x_at : Int32) (x_end : Int32) (x_ended : Int32) (x_bad : Int32) (x_badPlace : Int32) (x_fault : Int32) (x_faultPlace : Int32) (x_namePlace : Int32) (x_awayTold : Int32) (x_away : Int32) (x_coded : Int32) (x_statements : Int32) (x_isCrossing : Int32) (x_textKind : Int32) (x_askSecond : Int32) (x_redMany : Int32) (x_isOpen : Int32) (x_lastGreen : Int32) (x_greenTo : Int32) (x_isCycleGreen : Int32) (x_stillGreen : Int32) (x_rowMany : Int32) (x_fitMany : Int32) (x_fitRules : Int32) (x_fitGreen : Int32) (x_undoable : Int32) (x_newest : Int32) (x_seeded : Int64) (x_qCoded : Int32) (x_qWaits : Int32) (x_qOpened : Int32) (x_qBase : Int32) (x_qPiled : Int32) (x_qAnswer : Int64) (x_qIsNew : Int32) (x_octets : Int32) (g_tape : Nat → Int32) (a_arg0 : Nat) (g_arg0 : Nat → Int32) (hx_at : ib x_at 0 1600) (hx_end : ib x_end 0 1600) (hg_tape : ia g_tape 1600 0 255) : k_Met l yX10_isHere cX10_isHere 4 (some .boolean) { frames := 1, cells := 0, slots := 0, locals := 20 } dC dI cy sq [.ref a_this, .ref a_arg0] [(a_this, .inr (10, mfs rm x_taped x_at x_end x_ended x_bad x_badPlace x_fault x_faultPlace x_namePlace x_awayTold x_away x_coded x_statements x_isCrossing x_textKind x_askSecond x_redMany x_isOpen x_lastGreen x_greenTo x_isCycleGreen x_stillGreen x_rowMany x_fitMany x_fitRules x_fitGreen x_undoable x_newest x_seeded x_qCoded x_qWaits x_qOpened x_qBase x_qPiled x_qAnswer x_qIsNew x_octets)), (wi_rm0_0_1600_0 rm cy g_tape), (wi_2_3_0 a_arg0 cy g_arg0)] (k_Qi dC dI (fun (r : Int32) (n0 : Int32) => ib n0 0 1600 ∧ ib r 0 1 ∧ (¬ r = 0 → ib n0 0 1597) ∧ (¬ r = 0 → ib x_at 0 1597) ∧ (¬ r = 0 → ib x_end 1 1600) ∧ (¬ r = 0 → ib x_bad 0 0) ∧ (1 * x_at.toInt + (-1) * n0.toInt ≤ 0) ∧ (NB g_tape x_at x_end → n0 = x_at) ∧ (F_X10_isHere (Int32.toInt x_at) (Int32.toInt x_end) (Int32.toInt x_ended) (Int32.toInt x_bad) (lf_A g_tape) (lf_A g_arg0) = ((Int32.toInt r), (Int32.toInt n0)))) (fun n0 : Int32 => [(a_this, .inr (10, mfs rm x_taped n0 x_end x_ended x_bad x_badPlace x_fault x_faultPlace x_namePlace x_awayTold x_away x_coded x_statements x_isCrossing x_textKind x_askSecond x_redMany x_isOpen x_lastGreen x_greenTo x_isCycleGreen x_stillGreen x_rowMany x_fitMany x_fitRules x_fitGreen x_undoable x_newest x_seeded x_qCoded x_qWaits x_qOpened x_qBase x_qPiled x_qAnswer x_qIsNew x_octets)), (wi_rm0_0_1600_0 rm cy g_tape), (wi_2_3_0 a_arg0 cy g_arg0)])) := by
  refine k_ofW2 (by decide +kernel) (Nat.le_of_ble_eq_true rfl) ?_
  intro p e s m below meth c A ls H locs args Q hQ C0 hZ hr hlk hin hP hD hA hS hl
  have C0 : k_cx p s m args c cX10_isHere 4 RX10 dC dI cy sq := C0
  have hx := C0.1
  have hb := C0.2.1
  have hl : lv_has ls 4 [(0, .ref a_this), (1, .ref a_arg0)] := hl
  obtain ⟨O, hO⟩ : ∃ o, o = F_X10_isHere (Int32.toInt x_at) (Int32.toInt x_end) (Int32.toInt x_ended) (Int32.toInt x_bad) (lf_A g_tape) (lf_A g_arg0) := ⟨_, rfl⟩
  have hq := hO
  unfold F_X10_isHere at hq
  have jn76 : ∀ (n : Nat) (J76_l2 : Int32) (J76_c0_2 : Int32) (J76_l3 : Int32) (H : Heap) (locs : List Loc) (ls : Array Slot), ib J76_l2 3 1600 → ib J76_c0_2 0 1597 → ib x_end 1 1600 → ib x_bad 0 0 → ib J76_l3 0 3 → (1 * x_at.toInt + (-1) * J76_c0_2.toInt ≤ 0) → (NB g_tape x_at x_end → J76_c0_2 = x_at) → (O = F_X10_isHere_76 (lf_A g_tape) (lf_A g_arg0) n (Int32.toInt J76_l2) (Int32.toInt J76_c0_2) (Int32.toInt J76_l3)) → 4 ≤ J76_l3.toInt + (n : Int) → va_P (dC, dI) vwCl [(a_this, .inr (10, mfs rm x_taped J76_c0_2 x_end x_ended x_bad x_badPlace x_fault x_faultPlace x_namePlace x_awayTold x_away x_coded x_statements x_isCrossing x_textKind x_askSecond x_redMany x_isOpen x_lastGreen x_greenTo x_isCycleGreen x_stillGreen x_rowMany x_fitMany x_fitRules x_fitGreen x_undoable x_newest x_seeded x_qCoded x_qWaits x_qOpened x_qBase x_qPiled x_qAnswer x_qIsNew x_octets)), (wi_rm0_0_1600_0 rm cy g_tape), (wi_2_3_0 a_arg0 cy g_arg0)] H → va_D A [(a_this, .inr (10, mfs rm x_taped J76_c0_2 x_end x_ended x_bad x_badPlace x_fault x_faultPlace x_namePlace x_awayTold x_away x_coded x_statements x_isCrossing x_textKind x_askSecond x_redMany x_isOpen x_lastGreen x_greenTo x_isCycleGreen x_stillGreen x_rowMany x_fitMany x_fitRules x_fitGreen x_undoable x_newest x_seeded x_qCoded x_qWaits x_qOpened x_qBase x_qPiled x_qAnswer x_qIsNew x_octets)), (wi_rm0_0_1600_0 rm cy g_tape), (wi_2_3_0 a_arg0 cy g_arg0)] → va_S A s.heap H locs → lv_has ls 4 [(0, .ref a_this), (1, .ref a_arg0), (2, .int J76_l2), (3, .int J76_l3)] → W p l e { frames := 1, cells := 0, slots := 0, locals := 20 } s m args below meth c H locs 0 0 Q (F0 m 76 ls []) := by
    as_aux_lemma =>
      intro n
      induction n with
      | zero =>
        intro J76_l2 J76_c0_2 J76_l3 H locs ls hJ76_l2 hJ76_c0_2 hK76_x_end hK76_x_bad hJ76_l3 hJ76_lin0 hJ76_nb hq hm
        exact absurd hm (by have := hJ76_l3; unfold ib at this; omega)
      | succ n ih =>
        intro J76_l2 J76_c0_2 J76_l3 H locs ls hJ76_l2 hJ76_c0_2 hK76_x_end hK76_x_bad hJ76_l3 hJ76_lin0 hJ76_nb hq hm76 hP hD hS hl
        have ih76 := ih
        obtain ⟨K76, hK76⟩ : ∃ K, K = F_X10_isHere_76 (lf_A g_tape) (lf_A g_arg0) n := ⟨_, rfl⟩
        have hq : O = F_X10_isHere_76b (lf_A g_tape) (lf_A g_arg0) K76 (Int32.toInt J76_l2) (Int32.toInt J76_c0_2) (Int32.toInt J76_l3) := by rw [hK76]; exact hq
        unfold F_X10_isHere_76b at hq
        refine lv_iload_n hx hb dX10_isHere_76 rfl (lv_at hl 3 rfl) ?_
        refine lv_aload_n hx hb dX10_isHere_77 rfl (lv_at hl 1 rfl) ?_
        refine va_alen hx hb C0.2.2.2.2.2.1 hP 2 2 rfl rfl (v := 3) (show Int32.ofNat 3 = 3 by decide) dX10_isHere_78 ?_
        refine lv_icmp_ge (tgt := 107) hx hb dX10_isHere_79 rfl (fun c1 => ?_) (fun c1 => ?_)
        · replace hq := lf_pos hq (lf_le (lf_lc 3 (3 : Int) rfl) (lf_rf J76_l3) c1)
          have h2 := ib_le (ib_c 3 3 3 rfl) hJ76_l3 c1
          have h3 : ib J76_l3 3 3 := ib_w 3 3 h2.2 rfl
          have h4 : ib x_at 0 1597 := ⟨(hx_at).1, by have := (hx_at).2; have := hJ76_lin0; have := (hJ76_c0_2).2; omega⟩
          refine lv_iconst (v := 1) hx hb dX10_isHere_107 rfl ?_
          subst hQ; exact k_iret hx hb hr hlk (k_nb 1 rfl) J76_c0_2 hS ⟨ib_w 0 1600 hJ76_c0_2 rfl, ib_w 0 1 (ib_c 1 1 1 rfl) rfl, fun _ => ib_w 0 1597 hJ76_c0_2 rfl, fun _ => ib_w 0 1597 h4 rfl, fun _ => ib_w 1 1600 hK76_x_end rfl, fun _ => ib_w 0 0 hK76_x_bad rfl, (by have := hJ76_lin0; omega), fun q9 => (by have e0n : J76_c0_2 = x_at := hJ76_nb q9; exact e0n), (hO.symm.trans (by try simp only [show (1 : Int32).toInt = (1 : Int) from rfl]; exact hq))⟩ hP hD (Nat.le_of_ble_eq_true rfl) (Nat.le_of_ble_eq_true rfl) dX10_isHere_108
        · as_aux_lemma =>
            replace hq := lf_neg hq (lf_nle (lf_lc 3 (3 : Int) rfl) (lf_rf J76_l3) c1)
            have h5 := ib_nle (ib_c 3 3 3 rfl) hJ76_l3 c1
            have h6 : ib J76_l3 0 2 := ib_w 0 2 h5.2 rfl
            have h7 : ib x_at 0 1597 := ⟨(hx_at).1, by have := (hx_at).2; have := hJ76_lin0; have := (hJ76_c0_2).2; omega⟩
            refine lv_aload_n hx hb dX10_isHere_82 rfl (lv_at hl 0 rfl) ?_
            refine k_get C0 fg_X10_7 hP 0 rfl rfl dX10_isHere_83 ?_
            refine lv_aload_n hx hb dX10_isHere_86 rfl (lv_at hl 0 rfl) ?_
            refine k_get C0 fg_X10_285 hP 0 rfl rfl dX10_isHere_87 ?_
            refine lv_iload_n hx hb dX10_isHere_90 rfl (lv_at hl 3 rfl) ?_
            refine lv_iadd hx hb dX10_isHere_91 ?_
            refine lv_topi (fun z8 ez8 => ?_)
            have h9 := ib_add hJ76_c0_2 h6 rfl
            rw [← ez8] at h9
            have h10 : ib z8 0 1599 := ib_w 0 1599 h9.1 rfl
            have Ez8 := lf_add h9.2 (lf_rf J76_c0_2) (lf_rf J76_l3)
            refine va_iald hx hb C0.2.2.2.2.2.1 hP 1 0 rfl rfl (ib_in 1600 h10 rfl) dX10_isHere_92 ?_
            refine lv_topi (fun z11 ez11 => ?_)
            have h12 : ib z11 0 255 := by rw [ez11]; exact ia_at hg_tape (ib_in 1600 h10 rfl)
            have Ez11 := lf_ld ez11 (lf_ra g_tape) Ez8
            refine lv_aload_n hx hb dX10_isHere_93 rfl (lv_at hl 1 rfl) ?_
            refine lv_iload_n hx hb dX10_isHere_94 rfl (lv_at hl 3 rfl) ?_
            refine va_cald hx hb C0.2.2.2.2.2.1 hP 2 2 rfl rfl (ib_in 3 h6 rfl) dX10_isHere_95 ?_
            refine lv_topi (fun z13 ez13 => ?_)
            have Ez13 := lf_ld ez13 (lf_ra g_arg0) (lf_rf J76_l3)
            refine lv_icmp_eq (tgt := 101) hx hb dX10_isHere_96 rfl (fun c14 => ?_) (fun c14 => ?_)
            · replace hq := lf_pos hq (lf_eq Ez11 Ez13 c14)
              have h15 := ib_eq h12 (ib_any z13) c14
              have h16 : ib z13 0 255 := ib_w 0 255 h15.2 rfl
              obtain ⟨z17, ez17⟩ : ∃ y : Int32, y = J76_l3 + 1 := ⟨_, rfl⟩
              refine lv_iinc (v := z17) (lv' := [(3, .int z17), (0, .ref a_this), (1, .ref a_arg0), (2, .int J76_l2)]) hx hb dX10_isHere_101 hl (k := 3) rfl (by rw [ez17]; rfl) (Nat.le_of_ble_eq_true rfl) rfl (fun ls hl => ?_)
              have h18 := ib_add h6 (ib_c 1 1 1 rfl) rfl
              rw [← ez17] at h18
              have h19 : ib z17 1 3 := ib_w 1 3 h18.1 rfl
              have Ez17 := lf_add h18.2 (lf_rf J76_l3) (lf_lc 1 (1 : Int) rfl)
              refine lv_goto (tgt := 76) hx hb dX10_isHere_104 rfl ?_
              exact ih76 J76_l2 J76_c0_2 z17 H locs ls (ib_w 3 1600 hJ76_l2 rfl) (ib_w 0 1597 hJ76_c0_2 rfl) (ib_w 1 1600 hK76_x_end rfl) (ib_w 0 0 hK76_x_bad rfl) (ib_w 0 3 h19 rfl) (by have := hJ76_lin0; omega) (fun q9 => (by have e0n : J76_c0_2 = x_at := hJ76_nb q9; exact e0n)) (by rw [← hK76]; rw [lf_u Ez17]; exact hq) (by have := h18.2; have : (1 : Int32).toInt = 1 := rfl; omega) hP hD hS (lv_sub hl [1, 2, 3, 0] rfl)
            · replace hq := lf_neg hq (lf_ne Ez11 Ez13 c14)
              refine lv_iconst (v := 0) hx hb dX10_isHere_99 rfl ?_
              subst hQ; exact k_iret hx hb hr hlk (k_nb 0 rfl) J76_c0_2 hS ⟨ib_w 0 1600 hJ76_c0_2 rfl, ib_w 0 1 (ib_c 0 0 0 rfl) rfl, fun hq9 => absurd rfl hq9, fun hq9 => absurd rfl hq9, fun hq9 => absurd rfl hq9, fun hq9 => absurd rfl hq9, (by have := hJ76_lin0; omega), fun q9 => (by have e0n : J76_c0_2 = x_at := hJ76_nb q9; exact e0n), (hO.symm.trans (by try simp only [show (0 : Int32).toInt = (0 : Int) from rfl]; exact hq))⟩ hP hD (Nat.le_of_ble_eq_true rfl) (Nat.le_of_ble_eq_true rfl) dX10_isHere_100
  have jn61 : ∀ (J61_l2 : Int32) (J61_c0_2 : Int32) (H : Heap) (locs : List Loc) (ls : Array Slot), ib J61_l2 0 1600 → ib J61_c0_2 0 1599 → ib x_end 1 1600 → ib x_bad 0 0 → (1 * x_at.toInt + (-1) * J61_c0_2.toInt ≤ 0) → (NB g_tape x_at x_end → J61_c0_2 = x_at) → (O = F_X10_isHere_61 (lf_A g_tape) (lf_A g_arg0) (Int32.toInt J61_l2) (Int32.toInt J61_c0_2)) → va_P (dC, dI) vwCl [(a_this, .inr (10, mfs rm x_taped J61_c0_2 x_end x_ended x_bad x_badPlace x_fault x_faultPlace x_namePlace x_awayTold x_away x_coded x_statements x_isCrossing x_textKind x_askSecond x_redMany x_isOpen x_lastGreen x_greenTo x_isCycleGreen x_stillGreen x_rowMany x_fitMany x_fitRules x_fitGreen x_undoable x_newest x_seeded x_qCoded x_qWaits x_qOpened x_qBase x_qPiled x_qAnswer x_qIsNew x_octets)), (wi_rm0_0_1600_0 rm cy g_tape), (wi_2_3_0 a_arg0 cy g_arg0)] H → va_D A [(a_this, .inr (10, mfs rm x_taped J61_c0_2 x_end x_ended x_bad x_badPlace x_fault x_faultPlace x_namePlace x_awayTold x_away x_coded x_statements x_isCrossing x_textKind x_askSecond x_redMany x_isOpen x_lastGreen x_greenTo x_isCycleGreen x_stillGreen x_rowMany x_fitMany x_fitRules x_fitGreen x_undoable x_newest x_seeded x_qCoded x_qWaits x_qOpened x_qBase x_qPiled x_qAnswer x_qIsNew x_octets)), (wi_rm0_0_1600_0 rm cy g_tape), (wi_2_3_0 a_arg0 cy g_arg0)] → va_S A s.heap H locs → lv_has ls 4 [(0, .ref a_this), (1, .ref a_arg0), (2, .int J61_l2)] → W p l e { frames := 1, cells := 0, slots := 0, locals := 20 } s m args below meth c H locs 0 0 Q (F0 m 61 ls []) := by
    as_aux_lemma =>
      intro J61_l2 J61_c0_2 H locs ls hJ61_l2 hJ61_c0_2 hK61_x_end hK61_x_bad hJ61_lin0 hJ61_nb hq hP hD hS hl
      unfold F_X10_isHere_61 at hq
      refine lv_iload_n hx hb dX10_isHere_61 rfl (lv_at hl 2 rfl) ?_
      refine lv_aload_n hx hb dX10_isHere_62 rfl (lv_at hl 0 rfl) ?_
      refine k_get C0 fg_X10_285 hP 0 rfl rfl dX10_isHere_63 ?_
      refine lv_isub hx hb dX10_isHere_66 ?_
      refine lv_topi (fun z20 ez20 => ?_)
      have h21 := ib_sub hJ61_l2 hJ61_c0_2 rfl
      rw [← ez20] at h21
      have h22 : ib z20 (-1599) 1600 := ib_w (-1599) 1600 h21.1 rfl
      have Ez20 := lf_sub h21.2 (lf_rf J61_l2) (lf_rf J61_c0_2)
      refine lv_aload_n hx hb dX10_isHere_67 rfl (lv_at hl 1 rfl) ?_
      refine va_alen hx hb C0.2.2.2.2.2.1 hP 2 2 rfl rfl (v := 3) (show Int32.ofNat 3 = 3 by decide) dX10_isHere_68 ?_
      refine lv_icmp_eq (tgt := 74) hx hb dX10_isHere_69 rfl (fun c23 => ?_) (fun c23 => ?_)
      · replace hq := lf_pos hq (lf_eq Ez20 (lf_lc 3 (3 : Int) rfl) c23)
        have h24 := ib_eq h22 (ib_c 3 3 3 rfl) c23
        have h25 : ib z20 3 3 := ib_w 3 3 h24.1 rfl
        have h26 : ib J61_l2 3 1600 := ⟨by have := h21.2; have := (h25).1; have := (h25).2; have := (hJ61_l2).1; have := (hJ61_l2).2; have := (hJ61_c0_2).1; have := (hJ61_c0_2).2; omega, by have := h21.2; have := (h25).1; have := (h25).2; have := (hJ61_l2).1; have := (hJ61_l2).2; have := (hJ61_c0_2).1; have := (hJ61_c0_2).2; omega⟩
        have h27 : ib J61_c0_2 0 1597 := ⟨by have := h21.2; have := (h25).1; have := (h25).2; have := (hJ61_l2).1; have := (hJ61_l2).2; have := (hJ61_c0_2).1; have := (hJ61_c0_2).2; omega, by have := h21.2; have := (h25).1; have := (h25).2; have := (hJ61_l2).1; have := (hJ61_l2).2; have := (hJ61_c0_2).1; have := (hJ61_c0_2).2; omega⟩
        have h28 : ib x_at 0 1597 := ⟨(hx_at).1, by have := (hx_at).2; have := hJ61_lin0; have := (h27).2; omega⟩
        refine lv_iconst (v := 0) hx hb dX10_isHere_74 rfl ?_
        refine lv_istore_n (lv' := [(3, .int 0), (0, .ref a_this), (1, .ref a_arg0), (2, .int J61_l2)]) hx hb dX10_isHere_75 rfl hl (Nat.le_of_ble_eq_true rfl) rfl (fun ls hl => ?_)
        exact jn76 5 J61_l2 J61_c0_2 0 H locs ls (ib_w 3 1600 h26 rfl) (ib_w 0 1597 h27 rfl) (ib_w 1 1600 hK61_x_end rfl) (ib_w 0 0 hK61_x_bad rfl) (ib_w 0 3 (ib_c 0 0 0 rfl) rfl) (by have := hJ61_lin0; omega) (fun q9 => (by have e0n : J61_c0_2 = x_at := hJ61_nb q9; exact e0n)) (by try simp only [show (0 : Int32).toInt = (0 : Int) from rfl]; exact hq) (by have := (ib_c 0 0 0 rfl); unfold ib at this; omega) hP hD hS (lv_sub hl [1, 2, 3, 0] rfl)
      · replace hq := lf_neg hq (lf_ne Ez20 (lf_lc 3 (3 : Int) rfl) c23)
        have h29 : ib x_at 0 1599 := ⟨(hx_at).1, by have := (hx_at).2; have := hJ61_lin0; have := (hJ61_c0_2).2; omega⟩
        refine lv_iconst (v := 0) hx hb dX10_isHere_72 rfl ?_
        subst hQ; exact k_iret hx hb hr hlk (k_nb 0 rfl) J61_c0_2 hS ⟨ib_w 0 1600 hJ61_c0_2 rfl, ib_w 0 1 (ib_c 0 0 0 rfl) rfl, fun hq9 => absurd rfl hq9, fun hq9 => absurd rfl hq9, fun hq9 => absurd rfl hq9, fun hq9 => absurd rfl hq9, (by have := hJ61_lin0; omega), fun q9 => (by have e0n : J61_c0_2 = x_at := hJ61_nb q9; exact e0n), (hO.symm.trans (by try simp only [show (0 : Int32).toInt = (0 : Int) from rfl]; exact hq))⟩ hP hD (Nat.le_of_ble_eq_true rfl) (Nat.le_of_ble_eq_true rfl) dX10_isHere_73
  have jn35 : ∀ (n : Nat) (J35_l2 : Int32) (J35_c0_2 : Int32) (H : Heap) (locs : List Loc) (ls : Array Slot), ib J35_l2 0 1600 → ib J35_c0_2 0 1599 → ib x_end 1 1600 → ib x_bad 0 0 → (1 * x_at.toInt + (-1) * J35_c0_2.toInt ≤ 0) → (NB g_tape x_at x_end → J35_c0_2 = x_at) → (O = F_X10_isHere_35 (Int32.toInt x_end) (lf_A g_tape) (lf_A g_arg0) n (Int32.toInt J35_l2) (Int32.toInt J35_c0_2)) → 1601 ≤ J35_l2.toInt + (n : Int) → va_P (dC, dI) vwCl [(a_this, .inr (10, mfs rm x_taped J35_c0_2 x_end x_ended x_bad x_badPlace x_fault x_faultPlace x_namePlace x_awayTold x_away x_coded x_statements x_isCrossing x_textKind x_askSecond x_redMany x_isOpen x_lastGreen x_greenTo x_isCycleGreen x_stillGreen x_rowMany x_fitMany x_fitRules x_fitGreen x_undoable x_newest x_seeded x_qCoded x_qWaits x_qOpened x_qBase x_qPiled x_qAnswer x_qIsNew x_octets)), (wi_rm0_0_1600_0 rm cy g_tape), (wi_2_3_0 a_arg0 cy g_arg0)] H → va_D A [(a_this, .inr (10, mfs rm x_taped J35_c0_2 x_end x_ended x_bad x_badPlace x_fault x_faultPlace x_namePlace x_awayTold x_away x_coded x_statements x_isCrossing x_textKind x_askSecond x_redMany x_isOpen x_lastGreen x_greenTo x_isCycleGreen x_stillGreen x_rowMany x_fitMany x_fitRules x_fitGreen x_undoable x_newest x_seeded x_qCoded x_qWaits x_qOpened x_qBase x_qPiled x_qAnswer x_qIsNew x_octets)), (wi_rm0_0_1600_0 rm cy g_tape), (wi_2_3_0 a_arg0 cy g_arg0)] → va_S A s.heap H locs → lv_has ls 4 [(0, .ref a_this), (1, .ref a_arg0), (2, .int J35_l2)] → W p l e { frames := 1, cells := 0, slots := 0, locals := 20 } s m args below meth c H locs 0 0 Q (F0 m 35 ls []) := by
    as_aux_lemma =>
      intro n
      induction n with
      | zero =>
        intro J35_l2 J35_c0_2 H locs ls hJ35_l2 hJ35_c0_2 hK35_x_end hK35_x_bad hJ35_lin0 hJ35_nb hq hm
        exact absurd hm (by have := hJ35_l2; unfold ib at this; omega)
      | succ n ih =>
        intro J35_l2 J35_c0_2 H locs ls hJ35_l2 hJ35_c0_2 hK35_x_end hK35_x_bad hJ35_lin0 hJ35_nb hq hm35 hP hD hS hl
        have ih35 := ih
        obtain ⟨K35, hK35⟩ : ∃ K, K = F_X10_isHere_35 (Int32.toInt x_end) (lf_A g_tape) (lf_A g_arg0) n := ⟨_, rfl⟩
        have hq : O = F_X10_isHere_35b (Int32.toInt x_end) (lf_A g_tape) (lf_A g_arg0) K35 (Int32.toInt J35_l2) (Int32.toInt J35_c0_2) := by rw [hK35]; exact hq
        unfold F_X10_isHere_35b at hq
        refine lv_iload_n hx hb dX10_isHere_35 rfl (lv_at hl 2 rfl) ?_
        refine lv_aload_n hx hb dX10_isHere_36 rfl (lv_at hl 0 rfl) ?_
        refine k_get C0 fg_X10_288 hP 0 rfl rfl dX10_isHere_37 ?_
        refine lv_icmp_ge (tgt := 61) hx hb dX10_isHere_40 rfl (fun c30 => ?_) (fun c30 => ?_)
        · replace hq := lf_pos hq (lf_le (lf_rf x_end) (lf_rf J35_l2) c30)
          have h31 := ib_le hK35_x_end hJ35_l2 c30
          have h32 : ib J35_l2 1 1600 := ib_w 1 1600 h31.2 rfl
          have h33 : ib x_at 0 1599 := ⟨(hx_at).1, by have := (hx_at).2; have := hJ35_lin0; have := (hJ35_c0_2).2; omega⟩
          exact jn61 J35_l2 J35_c0_2 H locs ls (ib_w 0 1600 h32 rfl) (ib_w 0 1599 hJ35_c0_2 rfl) (ib_w 1 1600 hK35_x_end rfl) (ib_w 0 0 hK35_x_bad rfl) (by have := hJ35_lin0; omega) (fun q9 => (by have e0n : J35_c0_2 = x_at := hJ35_nb q9; exact e0n)) (by exact hq) hP hD hS (lv_sub hl [0, 1, 2] rfl)
        · as_aux_lemma =>
            replace hq := lf_neg hq (lf_nle (lf_rf x_end) (lf_rf J35_l2) c30)
            have h34 := ib_nle hK35_x_end hJ35_l2 c30
            have h35 : ib J35_l2 0 1599 := ib_w 0 1599 h34.2 rfl
            have h36 : ib x_at 0 1599 := ⟨(hx_at).1, by have := (hx_at).2; have := hJ35_lin0; have := (hJ35_c0_2).2; omega⟩
            refine lv_aload_n hx hb dX10_isHere_43 rfl (lv_at hl 0 rfl) ?_
            refine k_get C0 fg_X10_7 hP 0 rfl rfl dX10_isHere_44 ?_
            refine lv_iload_n hx hb dX10_isHere_47 rfl (lv_at hl 2 rfl) ?_
            refine va_iald hx hb C0.2.2.2.2.2.1 hP 1 0 rfl rfl (ib_in 1600 h35 rfl) dX10_isHere_48 ?_
            refine lv_topi (fun z37 ez37 => ?_)
            have h38 : ib z37 0 255 := by rw [ez37]; exact ia_at hg_tape (ib_in 1600 h35 rfl)
            have Ez37 := lf_ld ez37 (lf_ra g_tape) (lf_rf J35_l2)
            refine k_jim hP hD hS hA [] [true, true, true] rfl rfl rfl 0 0 (Nat.le_of_ble_eq_true rfl) (Nat.le_of_ble_eq_true rfl) (fun hPc hDc => k_runS (As := [.int z37]) (rest := []) C0 hZ hS hA (s_X10_isLetter l dC dI cy sq z37 ) mS_X10_295 hPc hDc hl rfl rfl (Nat.le_of_ble_eq_true rfl) ⟨(Nat.le_of_ble_eq_true rfl), (Nat.le_of_ble_eq_true rfl)⟩ ⟨(Nat.le_of_ble_eq_true rfl), (Nat.le_of_ble_eq_true rfl)⟩ dX10_isHere_49) (fun r39 u40 H locs hw hP hD hS => ?_)
            try dsimp only at hP hD hw
            replace hP : va_P (dC, dI) vwCl [(a_this, .inr (10, mfs rm x_taped J35_c0_2 x_end x_ended x_bad x_badPlace x_fault x_faultPlace x_namePlace x_awayTold x_away x_coded x_statements x_isCrossing x_textKind x_askSecond x_redMany x_isOpen x_lastGreen x_greenTo x_isCycleGreen x_stillGreen x_rowMany x_fitMany x_fitRules x_fitGreen x_undoable x_newest x_seeded x_qCoded x_qWaits x_qOpened x_qBase x_qPiled x_qAnswer x_qIsNew x_octets)), (wi_rm0_0_1600_0 rm cy g_tape), (wi_2_3_0 a_arg0 cy g_arg0)] H := hP
            replace hD := k_D hP hD
            obtain ⟨h41, h42, h43⟩ := hw
            have h43 := by have h9 := h43; rw [lf_u Ez37] at h9; exact h9
            replace hq := lf_b1 hq h43
            refine lv_if_eq (tgt := 61) hx hb dX10_isHere_52 rfl (fun c44 => ?_) (fun c44 => ?_)
            · replace hq := lf_pos hq (lf_eq (lf_rf r39) (lf_lc 0 (0 : Int) rfl) c44)
              have h45 := ib_eq h41 (ib_c 0 0 0 rfl) c44
              have h46 : ib r39 0 0 := ib_w 0 0 h45.1 rfl
              exact jn61 J35_l2 J35_c0_2 H locs ls (ib_w 0 1600 h35 rfl) (ib_w 0 1599 hJ35_c0_2 rfl) (ib_w 1 1600 hK35_x_end rfl) (ib_w 0 0 hK35_x_bad rfl) (by have := hJ35_lin0; omega) (fun q9 => (by have e0n : J35_c0_2 = x_at := hJ35_nb q9; exact e0n)) (by exact hq) hP hD hS (lv_sub hl [0, 1, 2] rfl)
            · replace hq := lf_neg hq (lf_ne (lf_rf r39) (lf_lc 0 (0 : Int) rfl) c44)
              have h47 : ib r39 1 1 := ib_w 1 1 (ib_ne_lo 0 h41 rfl c44) rfl
              have h48 : ib z37 97 122 := ib_w 97 122 (ib_two h38 (h42 (ib_nz h47 rfl))) rfl
              obtain ⟨z49, ez49⟩ : ∃ y : Int32, y = J35_l2 + 1 := ⟨_, rfl⟩
              refine lv_iinc (v := z49) (lv' := [(2, .int z49), (0, .ref a_this), (1, .ref a_arg0)]) hx hb dX10_isHere_55 hl (k := 2) rfl (by rw [ez49]; rfl) (Nat.le_of_ble_eq_true rfl) rfl (fun ls hl => ?_)
              have h50 := ib_add h35 (ib_c 1 1 1 rfl) rfl
              rw [← ez49] at h50
              have h51 : ib z49 1 1600 := ib_w 1 1600 h50.1 rfl
              have Ez49 := lf_add h50.2 (lf_rf J35_l2) (lf_lc 1 (1 : Int) rfl)
              refine lv_goto (tgt := 35) hx hb dX10_isHere_58 rfl ?_
              exact ih35 z49 J35_c0_2 H locs ls (ib_w 0 1600 h51 rfl) (ib_w 0 1599 hJ35_c0_2 rfl) (ib_w 1 1600 hK35_x_end rfl) (ib_w 0 0 hK35_x_bad rfl) (by have := hJ35_lin0; omega) (fun q9 => (by have e0n : J35_c0_2 = x_at := hJ35_nb q9; exact e0n)) (by rw [← hK35]; rw [lf_u Ez49]; exact hq) (by have := h50.2; have : (1 : Int32).toInt = 1 := rfl; omega) hP hD hS (lv_sub hl [1, 2, 0] rfl)
  have jn28 : ∀ (J28_c0_2 : Int32) (H : Heap) (locs : List Loc) (ls : Array Slot), ib J28_c0_2 0 1600 → (1 * x_at.toInt + (-1) * J28_c0_2.toInt ≤ 0) → (NB g_tape x_at x_end → J28_c0_2 = x_at) → (O = F_X10_isHere_28 (Int32.toInt J28_c0_2)) → va_P (dC, dI) vwCl [(a_this, .inr (10, mfs rm x_taped J28_c0_2 x_end x_ended x_bad x_badPlace x_fault x_faultPlace x_namePlace x_awayTold x_away x_coded x_statements x_isCrossing x_textKind x_askSecond x_redMany x_isOpen x_lastGreen x_greenTo x_isCycleGreen x_stillGreen x_rowMany x_fitMany x_fitRules x_fitGreen x_undoable x_newest x_seeded x_qCoded x_qWaits x_qOpened x_qBase x_qPiled x_qAnswer x_qIsNew x_octets)), (wi_rm0_0_1600_0 rm cy g_tape), (wi_2_3_0 a_arg0 cy g_arg0)] H → va_D A [(a_this, .inr (10, mfs rm x_taped J28_c0_2 x_end x_ended x_bad x_badPlace x_fault x_faultPlace x_namePlace x_awayTold x_away x_coded x_statements x_isCrossing x_textKind x_askSecond x_redMany x_isOpen x_lastGreen x_greenTo x_isCycleGreen x_stillGreen x_rowMany x_fitMany x_fitRules x_fitGreen x_undoable x_newest x_seeded x_qCoded x_qWaits x_qOpened x_qBase x_qPiled x_qAnswer x_qIsNew x_octets)), (wi_rm0_0_1600_0 rm cy g_tape), (wi_2_3_0 a_arg0 cy g_arg0)] → va_S A s.heap H locs → lv_has ls 4 [(0, .ref a_this), (1, .ref a_arg0)] → W p l e { frames := 1, cells := 0, slots := 0, locals := 20 } s m args below meth c H locs 0 0 Q (F0 m 28 ls []) := by
    intro J28_c0_2 H locs ls hJ28_c0_2 hJ28_lin0 hJ28_nb hq hP hD hS hl
    unfold F_X10_isHere_28 at hq
    refine lv_iconst (v := 0) hx hb dX10_isHere_28 rfl ?_
    subst hQ; exact k_iret hx hb hr hlk (k_nb 0 rfl) J28_c0_2 hS ⟨ib_w 0 1600 hJ28_c0_2 rfl, ib_w 0 1 (ib_c 0 0 0 rfl) rfl, fun hq9 => absurd rfl hq9, fun hq9 => absurd rfl hq9, fun hq9 => absurd rfl hq9, fun hq9 => absurd rfl hq9, (by have := hJ28_lin0; omega), fun q9 => (by have e0n : J28_c0_2 = x_at := hJ28_nb q9; exact e0n), (hO.symm.trans (by try simp only [show (0 : Int32).toInt = (0 : Int) from rfl]; exact hq))⟩ hP hD (Nat.le_of_ble_eq_true rfl) (Nat.le_of_ble_eq_true rfl) dX10_isHere_29
  refine lv_aload_n hx hb dX10_isHere_0 rfl (lv_at hl 0 rfl) ?_
  refine k_get C0 fg_X10_279 hP 0 rfl rfl dX10_isHere_1 ?_
  refine lv_if_ne (tgt := 28) hx hb dX10_isHere_4 rfl (fun c52 => ?_) (fun c52 => ?_)
  · replace hq := lf_neg hq (lf_ne (lf_rf x_bad) (lf_lc 0 (0 : Int) rfl) c52)
    exact jn28 x_at H locs ls (ib_w 0 1600 hx_at rfl) (by omega) (fun _ => rfl) (by exact hq) hP hD hS (lv_sub hl [0, 1] rfl)
  · as_aux_lemma =>
      replace hq := lf_pos hq (lf_eq (lf_rf x_bad) (lf_lc 0 (0 : Int) rfl) c52)
      have h53 := ib_eq (ib_any x_bad) (ib_c 0 0 0 rfl) c52
      have h54 : ib x_bad 0 0 := ib_w 0 0 h53.1 rfl
      refine lv_aload_n hx hb dX10_isHere_7 rfl (lv_at hl 0 rfl) ?_
      refine k_jim hP hD hS hA [0, 1] [false, false, true] rfl rfl rfl 0 0 (Nat.le_of_ble_eq_true rfl) (Nat.le_of_ble_eq_true rfl) (fun hPc hDc => k_runV (As := []) (rest := []) C0 hZ hS hA (s_X10_look l dC dI cy sq a_this rm x_taped x_at x_end x_ended x_bad x_badPlace x_fault x_faultPlace x_namePlace x_awayTold x_away x_coded x_statements x_isCrossing x_textKind x_askSecond x_redMany x_isOpen x_lastGreen x_greenTo x_isCycleGreen x_stillGreen x_rowMany x_fitMany x_fitRules x_fitGreen x_undoable x_newest x_seeded x_qCoded x_qWaits x_qOpened x_qBase x_qPiled x_qAnswer x_qIsNew x_octets g_tape (ib_w 0 1600 hx_at rfl) (ib_w 0 1600 hx_end rfl) hg_tape) mV_X10_291 hPc hDc rfl rfl rfl hl rfl rfl (Nat.le_of_ble_eq_true rfl) ⟨(Nat.le_of_ble_eq_true rfl), (Nat.le_of_ble_eq_true rfl)⟩ ⟨(Nat.le_of_ble_eq_true rfl), (Nat.le_of_ble_eq_true rfl)⟩ dX10_isHere_8) (fun r55 u56 H locs hw hP hD hS => ?_)
      obtain ⟨v57, ev57⟩ : ∃ z, z = u56 := ⟨_, rfl⟩; subst ev57
      try dsimp only at hP hD hw
      replace hP : va_P (dC, dI) vwCl [(wi_2_3_0 a_arg0 cy g_arg0), (a_this, .inr (10, mfs rm x_taped v57 x_end x_ended x_bad x_badPlace x_fault x_faultPlace x_namePlace x_awayTold x_away x_coded x_statements x_isCrossing x_textKind x_askSecond x_redMany x_isOpen x_lastGreen x_greenTo x_isCycleGreen x_stillGreen x_rowMany x_fitMany x_fitRules x_fitGreen x_undoable x_newest x_seeded x_qCoded x_qWaits x_qOpened x_qBase x_qPiled x_qAnswer x_qIsNew x_octets)), (wi_rm0_0_1600_0 rm cy g_tape)] H := hP
      replace hD := k_D hP hD
      obtain ⟨h58, h59, h60, h61, h62, h63, h64, h65, h66, h67⟩ := hw
      replace hq := lf_p1 hq h67
      refine k_jim hP hD hS hA [] [true, true, true] rfl rfl rfl 0 0 (Nat.le_of_ble_eq_true rfl) (Nat.le_of_ble_eq_true rfl) (fun hPc hDc => k_runS (As := [.int r55]) (rest := []) C0 hZ hS hA (s_X10_isLetter l dC dI cy sq r55 ) mS_X10_295 hPc hDc hl rfl rfl (Nat.le_of_ble_eq_true rfl) ⟨(Nat.le_of_ble_eq_true rfl), (Nat.le_of_ble_eq_true rfl)⟩ ⟨(Nat.le_of_ble_eq_true rfl), (Nat.le_of_ble_eq_true rfl)⟩ dX10_isHere_11) (fun r68 u69 H locs hw hP hD hS => ?_)
      try dsimp only at hP hD hw
      replace hP : va_P (dC, dI) vwCl [(wi_2_3_0 a_arg0 cy g_arg0), (a_this, .inr (10, mfs rm x_taped v57 x_end x_ended x_bad x_badPlace x_fault x_faultPlace x_namePlace x_awayTold x_away x_coded x_statements x_isCrossing x_textKind x_askSecond x_redMany x_isOpen x_lastGreen x_greenTo x_isCycleGreen x_stillGreen x_rowMany x_fitMany x_fitRules x_fitGreen x_undoable x_newest x_seeded x_qCoded x_qWaits x_qOpened x_qBase x_qPiled x_qAnswer x_qIsNew x_octets)), (wi_rm0_0_1600_0 rm cy g_tape)] H := hP
      replace hD := k_D hP hD
      obtain ⟨h70, h71, h72⟩ := hw
      replace hq := lf_b1 hq h72
      refine lv_if_eq (tgt := 28) hx hb dX10_isHere_14 rfl (fun c73 => ?_) (fun c73 => ?_)
      · replace hq := lf_pos hq (lf_eq (lf_rf r68) (lf_lc 0 (0 : Int) rfl) c73)
        have h74 := ib_eq h70 (ib_c 0 0 0 rfl) c73
        have h75 : ib r68 0 0 := ib_w 0 0 h74.1 rfl
        exact jn28 v57 H locs ls (ib_w 0 1600 h58 rfl) (by have := h63; omega) (fun q9 => (by have e0n : v57 = x_at := h65 q9; exact e0n)) (by exact hq) (hP.sub [1, 2, 0] rfl) (hD.sub [1, 2, 0] rfl rfl) hS (lv_sub hl [0, 1] rfl)
      · as_aux_lemma =>
          replace hq := lf_neg hq (lf_ne (lf_rf r68) (lf_lc 0 (0 : Int) rfl) c73)
          have h76 : ib r68 1 1 := ib_w 1 1 (ib_ne_lo 0 h70 rfl c73) rfl
          have h77 : ib r55 97 122 := ib_w 97 122 (ib_two h59 (h71 (ib_nz h76 rfl))) rfl
          have h78 : ib v57 0 1599 := ib_w 0 1599 (ib_two h58 (h60 (ib_nc (-1) h77 rfl))) rfl
          have h79 : ib x_at 0 1599 := ib_w 0 1599 (ib_two hx_at (h61 (ib_nc (-1) h77 rfl))) rfl
          have h80 : ib x_end 1 1600 := ib_w 1 1600 (ib_two hx_end (h62 (ib_nc (-1) h77 rfl))) rfl
          refine lv_aload_n hx hb dX10_isHere_17 rfl (lv_at hl 0 rfl) ?_
          refine k_get C0 fg_X10_285 hP 1 rfl rfl dX10_isHere_18 ?_
          refine lv_aload_n hx hb dX10_isHere_21 rfl (lv_at hl 0 rfl) ?_
          refine k_get C0 fg_X10_299 hP 1 rfl rfl dX10_isHere_22 ?_
          refine lv_icmp_ne (tgt := 30) hx hb dX10_isHere_25 rfl (fun c81 => ?_) (fun c81 => ?_)
          · replace hq := lf_neg hq (lf_ne (lf_rf v57) (lf_rf x_ended) c81)
            refine lv_aload_n hx hb dX10_isHere_30 rfl (lv_at hl 0 rfl) ?_
            refine k_get C0 fg_X10_285 hP 1 rfl rfl dX10_isHere_31 ?_
            refine lv_istore_n (lv' := [(2, .int v57), (0, .ref a_this), (1, .ref a_arg0)]) hx hb dX10_isHere_34 rfl hl (Nat.le_of_ble_eq_true rfl) rfl (fun ls hl => ?_)
            exact jn35 1602 v57 v57 H locs ls (ib_w 0 1600 h78 rfl) (ib_w 0 1599 h78 rfl) (ib_w 1 1600 h80 rfl) (ib_w 0 0 h54 rfl) (by have := h63; omega) (fun q9 => (by have e0n : v57 = x_at := h65 q9; exact e0n)) (by exact hq) (by have := h78; unfold ib at this; omega) (hP.sub [1, 2, 0] rfl) (hD.sub [1, 2, 0] rfl rfl) hS (lv_sub hl [1, 2, 0] rfl)
          · replace hq := lf_pos hq (lf_eq (lf_rf v57) (lf_rf x_ended) c81)
            have h82 := ib_eq h78 (ib_any x_ended) c81
            have h83 : ib x_ended 0 1599 := ib_w 0 1599 h82.2 rfl
            exact jn28 v57 H locs ls (ib_w 0 1600 h78 rfl) (by have := h63; omega) (fun q9 => (by have e0n : v57 = x_at := h65 q9; exact e0n)) (by exact hq) (hP.sub [1, 2, 0] rfl) (hD.sub [1, 2, 0] rfl rfl) hS (lv_sub hl [0, 1] rfl)
set_option maxHeartbeats 4000000 in
set_option maxRecDepth 100000 in
theorem s_X10_qWordHere (l : Launch) (dC : Nat → ClassId) (dI : Nat → Nat → Nat) (cy : Nat → ClassId) (sq : Nat → Nat) (a_this : Nat) (rm : Nat → Nat) (x_taped : Int32) (x_at : Int32) (x_end : Int32) (x_ended : Int32) (x_bad : Int32) (x_badPlace : Int32) (x_fault : Int32) (x_faultPlace : Int32) (x_namePlace : Int32) (x_awayTold : Int32) (x_away : Int32) (x_coded : Int32) (x_statements : Int32) (x_isCrossing : Int32) (x_textKind : Int32) (x_askSecond : Int32) (x_redMany : Int32) (x_isOpen : Int32) (x_lastGreen : Int32) (x_greenTo : Int32) (x_isCycleGreen : Int32) (x_stillGreen : Int32) (x_rowMany : Int32) (x_fitMany : Int32) (x_fitRules : Int32) (x_fitGreen : Int32) (x_undoable : Int32) (x_newest : Int32) (x_seeded : Int64) (x_qCoded : Int32) (x_qWaits : Int32) (x_qOpened : Int32) (x_qBase : Int32) (x_qPiled : Int32) (x_qAnswer : Int64) (x_qIsNew : Int32) (x_octets : Int32) (g_tape : Nat → Int32) (g_secondAsked : Nat → Int32) (g_dayAsked : Nat → Int32) (g_phaseAsked : Nat → Int32) (g_waitedAsked : Nat → Int32) (g_calmAsked : Nat → Int32) (g_paceAsked : Nat → Int32) (g_trustsAsked : Nat → Int32) (g_gapAsked : Nat → Int32) (g_redsAsked : Nat → Int32) (g_numberAsked : Nat → Int32) (g_wentAsked : Nat → Int32) (g_harmAsked : Nat → Int32) (g_kindofAsked : Nat → Int32) (hx_at : ib x_at 0 1600) (hx_end : ib x_end 0 1600) (hg_tape : ia g_tape 1600 0 255) : k_Met l yX10_qWordHere cX10_qWordHere 1 (some .int) { frames := 2, cells := 0, slots := 0, locals := 43 } dC dI cy sq [.ref a_this] [(a_this, .inr (10, mfs rm x_taped x_at x_end x_ended x_bad x_badPlace x_fault x_faultPlace x_namePlace x_awayTold x_away x_coded x_statements x_isCrossing x_textKind x_askSecond x_redMany x_isOpen x_lastGreen x_greenTo x_isCycleGreen x_stillGreen x_rowMany x_fitMany x_fitRules x_fitGreen x_undoable x_newest x_seeded x_qCoded x_qWaits x_qOpened x_qBase x_qPiled x_qAnswer x_qIsNew x_octets)), (wi_rm0_0_1600_0 rm cy g_tape), (wi_rm97_2_6_0 rm cy g_secondAsked), (wi_rm98_2_3_0 rm cy g_dayAsked), (wi_rm99_2_5_0 rm cy g_phaseAsked), (wi_rm100_2_6_0 rm cy g_waitedAsked), (wi_rm101_2_4_0 rm cy g_calmAsked), (wi_rm102_2_4_0 rm cy g_paceAsked), (wi_rm103_2_6_0 rm cy g_trustsAsked), (wi_rm104_2_3_0 rm cy g_gapAsked), (wi_rm105_2_4_0 rm cy g_redsAsked), (wi_rm106_2_6_0 rm cy g_numberAsked), (wi_rm107_2_4_0 rm cy g_wentAsked), (wi_rm108_2_4_0 rm cy g_harmAsked), (wi_rm109_2_4_0 rm cy g_kindofAsked)] (k_Qi dC dI (fun (r : Int32) (n0 : Int32) => ib n0 0 1600 ∧ ib r (-1) 12 ∧ (1 * x_at.toInt + (-1) * n0.toInt ≤ 0) ∧ (NB g_tape x_at x_end → n0 = x_at) ∧ (F_X10_qWordHere (Int32.toInt x_at) (Int32.toInt x_end) (Int32.toInt x_ended) (Int32.toInt x_bad) (lf_A g_tape) (lf_A g_secondAsked) (lf_A g_dayAsked) (lf_A g_phaseAsked) (lf_A g_waitedAsked) (lf_A g_calmAsked) (lf_A g_paceAsked) (lf_A g_trustsAsked) (lf_A g_gapAsked) (lf_A g_redsAsked) (lf_A g_numberAsked) (lf_A g_wentAsked) (lf_A g_harmAsked) (lf_A g_kindofAsked) = ((Int32.toInt r), (Int32.toInt n0)))) (fun n0 : Int32 => [(a_this, .inr (10, mfs rm x_taped n0 x_end x_ended x_bad x_badPlace x_fault x_faultPlace x_namePlace x_awayTold x_away x_coded x_statements x_isCrossing x_textKind x_askSecond x_redMany x_isOpen x_lastGreen x_greenTo x_isCycleGreen x_stillGreen x_rowMany x_fitMany x_fitRules x_fitGreen x_undoable x_newest x_seeded x_qCoded x_qWaits x_qOpened x_qBase x_qPiled x_qAnswer x_qIsNew x_octets)), (wi_rm0_0_1600_0 rm cy g_tape), (wi_rm97_2_6_0 rm cy g_secondAsked), (wi_rm98_2_3_0 rm cy g_dayAsked), (wi_rm99_2_5_0 rm cy g_phaseAsked), (wi_rm100_2_6_0 rm cy g_waitedAsked), (wi_rm101_2_4_0 rm cy g_calmAsked), (wi_rm102_2_4_0 rm cy g_paceAsked), (wi_rm103_2_6_0 rm cy g_trustsAsked), (wi_rm104_2_3_0 rm cy g_gapAsked), (wi_rm105_2_4_0 rm cy g_redsAsked), (wi_rm106_2_6_0 rm cy g_numberAsked), (wi_rm107_2_4_0 rm cy g_wentAsked), (wi_rm108_2_4_0 rm cy g_harmAsked), (wi_rm109_2_4_0 rm cy g_kindofAsked)])) := by
  refine k_ofW2 (by decide +kernel) (Nat.le_of_ble_eq_true rfl) ?_
  intro p e s m below meth c A ls H locs args Q hQ C0 hZ hr hlk hin hP hD hA hS hl
  have C0 : k_cx p s m args c cX10_qWordHere 1 RX10 dC dI cy sq := C0
  have hx := C0.1
  have hb := C0.2.1
  have hl : lv_has ls 1 [(0, .ref a_this)] := hl
  obtain ⟨O, hO⟩ : ∃ o, o = F_X10_qWordHere (Int32.toInt x_at) (Int32.toInt x_end) (Int32.toInt x_ended) (Int32.toInt x_bad) (lf_A g_tape) (lf_A g_secondAsked) (lf_A g_dayAsked) (lf_A g_phaseAsked) (lf_A g_waitedAsked) (lf_A g_calmAsked) (lf_A g_paceAsked) (lf_A g_trustsAsked) (lf_A g_gapAsked) (lf_A g_redsAsked) (lf_A g_numberAsked) (lf_A g_wentAsked) (lf_A g_harmAsked) (lf_A g_kindofAsked) := ⟨_, rfl⟩
  have hq := hO
  unfold F_X10_qWordHere at hq
  refine lv_aload_n hx hb dX10_qWordHere_0 rfl (lv_at hl 0 rfl) ?_
  refine lv_aload_n hx hb dX10_qWordHere_1 rfl (lv_at hl 0 rfl) ?_
  refine k_get C0 fg_X10_225 hP 0 rfl rfl dX10_qWordHere_2 ?_
  refine k_jim hP hD hS hA [0, 1, 2] [false, false, false, true, true, true, true, true, true, true, true, true, true, true, true] rfl rfl (by decide +kernel) 0 0 (Nat.le_of_ble_eq_true rfl) (Nat.le_of_ble_eq_true rfl) (fun hPc hDc => k_runV (As := [.ref (rm 97)]) (rest := []) C0 hZ hS hA (s_X10_isHere_r6 l dC dI cy sq a_this rm x_taped x_at x_end x_ended x_bad x_badPlace x_fault x_faultPlace x_namePlace x_awayTold x_away x_coded x_statements x_isCrossing x_textKind x_askSecond x_redMany x_isOpen x_lastGreen x_greenTo x_isCycleGreen x_stillGreen x_rowMany x_fitMany x_fitRules x_fitGreen x_undoable x_newest x_seeded x_qCoded x_qWaits x_qOpened x_qBase x_qPiled x_qAnswer x_qIsNew x_octets g_tape (rm 97) g_secondAsked (ib_w 0 1600 hx_at rfl) (ib_w 0 1600 hx_end rfl) hg_tape) mV_X10_302 hPc hDc rfl rfl rfl hl rfl rfl (Nat.le_of_ble_eq_true rfl) ⟨(Nat.le_of_ble_eq_true rfl), (Nat.le_of_ble_eq_true rfl)⟩ ⟨(Nat.le_of_ble_eq_true rfl), (Nat.le_of_ble_eq_true rfl)⟩ dX10_qWordHere_5) (fun r1 u2 H locs hw hP hD hS => ?_)
  obtain ⟨v3, ev3⟩ : ∃ z, z = u2 := ⟨_, rfl⟩; subst ev3
  try dsimp only at hP hD hw
  replace hP : va_P (dC, dI) vwCl [(wi_rm98_2_3_0 rm cy g_dayAsked), (wi_rm99_2_5_0 rm cy g_phaseAsked), (wi_rm100_2_6_0 rm cy g_waitedAsked), (wi_rm101_2_4_0 rm cy g_calmAsked), (wi_rm102_2_4_0 rm cy g_paceAsked), (wi_rm103_2_6_0 rm cy g_trustsAsked), (wi_rm104_2_3_0 rm cy g_gapAsked), (wi_rm105_2_4_0 rm cy g_redsAsked), (wi_rm106_2_6_0 rm cy g_numberAsked), (wi_rm107_2_4_0 rm cy g_wentAsked), (wi_rm108_2_4_0 rm cy g_harmAsked), (wi_rm109_2_4_0 rm cy g_kindofAsked), (a_this, .inr (10, mfs rm x_taped v3 x_end x_ended x_bad x_badPlace x_fault x_faultPlace x_namePlace x_awayTold x_away x_coded x_statements x_isCrossing x_textKind x_askSecond x_redMany x_isOpen x_lastGreen x_greenTo x_isCycleGreen x_stillGreen x_rowMany x_fitMany x_fitRules x_fitGreen x_undoable x_newest x_seeded x_qCoded x_qWaits x_qOpened x_qBase x_qPiled x_qAnswer x_qIsNew x_octets)), (wi_rm0_0_1600_0 rm cy g_tape), (wi_rm97_2_6_0 rm cy g_secondAsked)] H := hP
  replace hD := k_D hP hD
  obtain ⟨h4, h5, h6, h7, h8, h9, h10, h11, h12⟩ := hw
  replace hq := lf_p1 hq h12
  refine lv_if_eq (tgt := 13) hx hb dX10_qWordHere_8 rfl (fun c13 => ?_) (fun c13 => ?_)
  · as_aux_lemma =>
      replace hq := lf_pos hq (lf_eq (lf_rf r1) (lf_lc 0 (0 : Int) rfl) c13)
      have h14 := ib_eq h5 (ib_c 0 0 0 rfl) c13
      have h15 : ib r1 0 0 := ib_w 0 0 h14.1 rfl
      refine lv_aload_n hx hb dX10_qWordHere_13 rfl (lv_at hl 0 rfl) ?_
      refine lv_aload_n hx hb dX10_qWordHere_14 rfl (lv_at hl 0 rfl) ?_
      refine k_get C0 fg_X10_228 hP 12 rfl rfl dX10_qWordHere_15 ?_
      refine k_jim hP hD hS hA [12, 13, 0] [false, true, true, true, true, true, true, true, true, true, true, true, false, false, true] rfl rfl (by decide +kernel) 0 0 (Nat.le_of_ble_eq_true rfl) (Nat.le_of_ble_eq_true rfl) (fun hPc hDc => k_runV (As := [.ref (rm 98)]) (rest := []) C0 hZ hS hA (s_X10_isHere l dC dI cy sq a_this rm x_taped v3 x_end x_ended x_bad x_badPlace x_fault x_faultPlace x_namePlace x_awayTold x_away x_coded x_statements x_isCrossing x_textKind x_askSecond x_redMany x_isOpen x_lastGreen x_greenTo x_isCycleGreen x_stillGreen x_rowMany x_fitMany x_fitRules x_fitGreen x_undoable x_newest x_seeded x_qCoded x_qWaits x_qOpened x_qBase x_qPiled x_qAnswer x_qIsNew x_octets g_tape (rm 98) g_dayAsked (ib_w 0 1600 h4 rfl) (ib_w 0 1600 hx_end rfl) hg_tape) mV_X10_302 hPc hDc rfl rfl rfl hl rfl rfl (Nat.le_of_ble_eq_true rfl) ⟨(Nat.le_of_ble_eq_true rfl), (Nat.le_of_ble_eq_true rfl)⟩ ⟨(Nat.le_of_ble_eq_true rfl), (Nat.le_of_ble_eq_true rfl)⟩ dX10_qWordHere_18) (fun r16 u17 H locs hw hP hD hS => ?_)
      obtain ⟨v18, ev18⟩ : ∃ z, z = u17 := ⟨_, rfl⟩; subst ev18
      try dsimp only at hP hD hw
      replace hP : va_P (dC, dI) vwCl [(wi_rm99_2_5_0 rm cy g_phaseAsked), (wi_rm100_2_6_0 rm cy g_waitedAsked), (wi_rm101_2_4_0 rm cy g_calmAsked), (wi_rm102_2_4_0 rm cy g_paceAsked), (wi_rm103_2_6_0 rm cy g_trustsAsked), (wi_rm104_2_3_0 rm cy g_gapAsked), (wi_rm105_2_4_0 rm cy g_redsAsked), (wi_rm106_2_6_0 rm cy g_numberAsked), (wi_rm107_2_4_0 rm cy g_wentAsked), (wi_rm108_2_4_0 rm cy g_harmAsked), (wi_rm109_2_4_0 rm cy g_kindofAsked), (wi_rm97_2_6_0 rm cy g_secondAsked), (a_this, .inr (10, mfs rm x_taped v18 x_end x_ended x_bad x_badPlace x_fault x_faultPlace x_namePlace x_awayTold x_away x_coded x_statements x_isCrossing x_textKind x_askSecond x_redMany x_isOpen x_lastGreen x_greenTo x_isCycleGreen x_stillGreen x_rowMany x_fitMany x_fitRules x_fitGreen x_undoable x_newest x_seeded x_qCoded x_qWaits x_qOpened x_qBase x_qPiled x_qAnswer x_qIsNew x_octets)), (wi_rm0_0_1600_0 rm cy g_tape), (wi_rm98_2_3_0 rm cy g_dayAsked)] H := hP
      replace hD := k_D hP hD
      obtain ⟨h19, h20, h21, h22, h23, h24, h25, h26, h27⟩ := hw
      replace hq := lf_p1 hq h27
      refine lv_if_eq (tgt := 26) hx hb dX10_qWordHere_21 rfl (fun c28 => ?_) (fun c28 => ?_)
      · as_aux_lemma =>
          replace hq := lf_pos hq (lf_eq (lf_rf r16) (lf_lc 0 (0 : Int) rfl) c28)
          have h29 := ib_eq h20 (ib_c 0 0 0 rfl) c28
          have h30 : ib r16 0 0 := ib_w 0 0 h29.1 rfl
          refine lv_aload_n hx hb dX10_qWordHere_26 rfl (lv_at hl 0 rfl) ?_
          refine lv_aload_n hx hb dX10_qWordHere_27 rfl (lv_at hl 0 rfl) ?_
          refine k_get C0 fg_X10_231 hP 12 rfl rfl dX10_qWordHere_28 ?_
          refine k_jim hP hD hS hA [12, 13, 0] [false, true, true, true, true, true, true, true, true, true, true, true, false, false, true] rfl rfl (by decide +kernel) 0 0 (Nat.le_of_ble_eq_true rfl) (Nat.le_of_ble_eq_true rfl) (fun hPc hDc => k_runV (As := [.ref (rm 99)]) (rest := []) C0 hZ hS hA (s_X10_isHere_r5 l dC dI cy sq a_this rm x_taped v18 x_end x_ended x_bad x_badPlace x_fault x_faultPlace x_namePlace x_awayTold x_away x_coded x_statements x_isCrossing x_textKind x_askSecond x_redMany x_isOpen x_lastGreen x_greenTo x_isCycleGreen x_stillGreen x_rowMany x_fitMany x_fitRules x_fitGreen x_undoable x_newest x_seeded x_qCoded x_qWaits x_qOpened x_qBase x_qPiled x_qAnswer x_qIsNew x_octets g_tape (rm 99) g_phaseAsked (ib_w 0 1600 h19 rfl) (ib_w 0 1600 hx_end rfl) hg_tape) mV_X10_302 hPc hDc rfl rfl rfl hl rfl rfl (Nat.le_of_ble_eq_true rfl) ⟨(Nat.le_of_ble_eq_true rfl), (Nat.le_of_ble_eq_true rfl)⟩ ⟨(Nat.le_of_ble_eq_true rfl), (Nat.le_of_ble_eq_true rfl)⟩ dX10_qWordHere_31) (fun r31 u32 H locs hw hP hD hS => ?_)
          obtain ⟨v33, ev33⟩ : ∃ z, z = u32 := ⟨_, rfl⟩; subst ev33
          try dsimp only at hP hD hw
          replace hP : va_P (dC, dI) vwCl [(wi_rm100_2_6_0 rm cy g_waitedAsked), (wi_rm101_2_4_0 rm cy g_calmAsked), (wi_rm102_2_4_0 rm cy g_paceAsked), (wi_rm103_2_6_0 rm cy g_trustsAsked), (wi_rm104_2_3_0 rm cy g_gapAsked), (wi_rm105_2_4_0 rm cy g_redsAsked), (wi_rm106_2_6_0 rm cy g_numberAsked), (wi_rm107_2_4_0 rm cy g_wentAsked), (wi_rm108_2_4_0 rm cy g_harmAsked), (wi_rm109_2_4_0 rm cy g_kindofAsked), (wi_rm97_2_6_0 rm cy g_secondAsked), (wi_rm98_2_3_0 rm cy g_dayAsked), (a_this, .inr (10, mfs rm x_taped v33 x_end x_ended x_bad x_badPlace x_fault x_faultPlace x_namePlace x_awayTold x_away x_coded x_statements x_isCrossing x_textKind x_askSecond x_redMany x_isOpen x_lastGreen x_greenTo x_isCycleGreen x_stillGreen x_rowMany x_fitMany x_fitRules x_fitGreen x_undoable x_newest x_seeded x_qCoded x_qWaits x_qOpened x_qBase x_qPiled x_qAnswer x_qIsNew x_octets)), (wi_rm0_0_1600_0 rm cy g_tape), (wi_rm99_2_5_0 rm cy g_phaseAsked)] H := hP
          replace hD := k_D hP hD
          obtain ⟨h34, h35, h36, h37, h38, h39, h40, h41, h42⟩ := hw
          replace hq := lf_p1 hq h42
          refine lv_if_eq (tgt := 39) hx hb dX10_qWordHere_34 rfl (fun c43 => ?_) (fun c43 => ?_)
          · as_aux_lemma =>
              replace hq := lf_pos hq (lf_eq (lf_rf r31) (lf_lc 0 (0 : Int) rfl) c43)
              have h44 := ib_eq h35 (ib_c 0 0 0 rfl) c43
              have h45 : ib r31 0 0 := ib_w 0 0 h44.1 rfl
              refine lv_aload_n hx hb dX10_qWordHere_39 rfl (lv_at hl 0 rfl) ?_
              refine lv_aload_n hx hb dX10_qWordHere_40 rfl (lv_at hl 0 rfl) ?_
              refine k_get C0 fg_X10_234 hP 12 rfl rfl dX10_qWordHere_41 ?_
              refine k_jim hP hD hS hA [12, 13, 0] [false, true, true, true, true, true, true, true, true, true, true, true, false, false, true] rfl rfl (by decide +kernel) 0 0 (Nat.le_of_ble_eq_true rfl) (Nat.le_of_ble_eq_true rfl) (fun hPc hDc => k_runV (As := [.ref (rm 100)]) (rest := []) C0 hZ hS hA (s_X10_isHere_r6 l dC dI cy sq a_this rm x_taped v33 x_end x_ended x_bad x_badPlace x_fault x_faultPlace x_namePlace x_awayTold x_away x_coded x_statements x_isCrossing x_textKind x_askSecond x_redMany x_isOpen x_lastGreen x_greenTo x_isCycleGreen x_stillGreen x_rowMany x_fitMany x_fitRules x_fitGreen x_undoable x_newest x_seeded x_qCoded x_qWaits x_qOpened x_qBase x_qPiled x_qAnswer x_qIsNew x_octets g_tape (rm 100) g_waitedAsked (ib_w 0 1600 h34 rfl) (ib_w 0 1600 hx_end rfl) hg_tape) mV_X10_302 hPc hDc rfl rfl rfl hl rfl rfl (Nat.le_of_ble_eq_true rfl) ⟨(Nat.le_of_ble_eq_true rfl), (Nat.le_of_ble_eq_true rfl)⟩ ⟨(Nat.le_of_ble_eq_true rfl), (Nat.le_of_ble_eq_true rfl)⟩ dX10_qWordHere_44) (fun r46 u47 H locs hw hP hD hS => ?_)
              obtain ⟨v48, ev48⟩ : ∃ z, z = u47 := ⟨_, rfl⟩; subst ev48
              try dsimp only at hP hD hw
              replace hP : va_P (dC, dI) vwCl [(wi_rm101_2_4_0 rm cy g_calmAsked), (wi_rm102_2_4_0 rm cy g_paceAsked), (wi_rm103_2_6_0 rm cy g_trustsAsked), (wi_rm104_2_3_0 rm cy g_gapAsked), (wi_rm105_2_4_0 rm cy g_redsAsked), (wi_rm106_2_6_0 rm cy g_numberAsked), (wi_rm107_2_4_0 rm cy g_wentAsked), (wi_rm108_2_4_0 rm cy g_harmAsked), (wi_rm109_2_4_0 rm cy g_kindofAsked), (wi_rm97_2_6_0 rm cy g_secondAsked), (wi_rm98_2_3_0 rm cy g_dayAsked), (wi_rm99_2_5_0 rm cy g_phaseAsked), (a_this, .inr (10, mfs rm x_taped v48 x_end x_ended x_bad x_badPlace x_fault x_faultPlace x_namePlace x_awayTold x_away x_coded x_statements x_isCrossing x_textKind x_askSecond x_redMany x_isOpen x_lastGreen x_greenTo x_isCycleGreen x_stillGreen x_rowMany x_fitMany x_fitRules x_fitGreen x_undoable x_newest x_seeded x_qCoded x_qWaits x_qOpened x_qBase x_qPiled x_qAnswer x_qIsNew x_octets)), (wi_rm0_0_1600_0 rm cy g_tape), (wi_rm100_2_6_0 rm cy g_waitedAsked)] H := hP
              replace hD := k_D hP hD
              obtain ⟨h49, h50, h51, h52, h53, h54, h55, h56, h57⟩ := hw
              replace hq := lf_p1 hq h57
              refine lv_if_eq (tgt := 52) hx hb dX10_qWordHere_47 rfl (fun c58 => ?_) (fun c58 => ?_)
              · as_aux_lemma =>
                  replace hq := lf_pos hq (lf_eq (lf_rf r46) (lf_lc 0 (0 : Int) rfl) c58)
                  have h59 := ib_eq h50 (ib_c 0 0 0 rfl) c58
                  have h60 : ib r46 0 0 := ib_w 0 0 h59.1 rfl
                  refine lv_aload_n hx hb dX10_qWordHere_52 rfl (lv_at hl 0 rfl) ?_
                  refine lv_aload_n hx hb dX10_qWordHere_53 rfl (lv_at hl 0 rfl) ?_
                  refine k_get C0 fg_X10_237 hP 12 rfl rfl dX10_qWordHere_54 ?_
                  refine k_jim hP hD hS hA [12, 13, 0] [false, true, true, true, true, true, true, true, true, true, true, true, false, false, true] rfl rfl (by decide +kernel) 0 0 (Nat.le_of_ble_eq_true rfl) (Nat.le_of_ble_eq_true rfl) (fun hPc hDc => k_runV (As := [.ref (rm 101)]) (rest := []) C0 hZ hS hA (s_X10_isHere_r4 l dC dI cy sq a_this rm x_taped v48 x_end x_ended x_bad x_badPlace x_fault x_faultPlace x_namePlace x_awayTold x_away x_coded x_statements x_isCrossing x_textKind x_askSecond x_redMany x_isOpen x_lastGreen x_greenTo x_isCycleGreen x_stillGreen x_rowMany x_fitMany x_fitRules x_fitGreen x_undoable x_newest x_seeded x_qCoded x_qWaits x_qOpened x_qBase x_qPiled x_qAnswer x_qIsNew x_octets g_tape (rm 101) g_calmAsked (ib_w 0 1600 h49 rfl) (ib_w 0 1600 hx_end rfl) hg_tape) mV_X10_302 hPc hDc rfl rfl rfl hl rfl rfl (Nat.le_of_ble_eq_true rfl) ⟨(Nat.le_of_ble_eq_true rfl), (Nat.le_of_ble_eq_true rfl)⟩ ⟨(Nat.le_of_ble_eq_true rfl), (Nat.le_of_ble_eq_true rfl)⟩ dX10_qWordHere_57) (fun r61 u62 H locs hw hP hD hS => ?_)
                  obtain ⟨v63, ev63⟩ : ∃ z, z = u62 := ⟨_, rfl⟩; subst ev63
                  try dsimp only at hP hD hw
                  replace hP : va_P (dC, dI) vwCl [(wi_rm102_2_4_0 rm cy g_paceAsked), (wi_rm103_2_6_0 rm cy g_trustsAsked), (wi_rm104_2_3_0 rm cy g_gapAsked), (wi_rm105_2_4_0 rm cy g_redsAsked), (wi_rm106_2_6_0 rm cy g_numberAsked), (wi_rm107_2_4_0 rm cy g_wentAsked), (wi_rm108_2_4_0 rm cy g_harmAsked), (wi_rm109_2_4_0 rm cy g_kindofAsked), (wi_rm97_2_6_0 rm cy g_secondAsked), (wi_rm98_2_3_0 rm cy g_dayAsked), (wi_rm99_2_5_0 rm cy g_phaseAsked), (wi_rm100_2_6_0 rm cy g_waitedAsked), (a_this, .inr (10, mfs rm x_taped v63 x_end x_ended x_bad x_badPlace x_fault x_faultPlace x_namePlace x_awayTold x_away x_coded x_statements x_isCrossing x_textKind x_askSecond x_redMany x_isOpen x_lastGreen x_greenTo x_isCycleGreen x_stillGreen x_rowMany x_fitMany x_fitRules x_fitGreen x_undoable x_newest x_seeded x_qCoded x_qWaits x_qOpened x_qBase x_qPiled x_qAnswer x_qIsNew x_octets)), (wi_rm0_0_1600_0 rm cy g_tape), (wi_rm101_2_4_0 rm cy g_calmAsked)] H := hP
                  replace hD := k_D hP hD
                  obtain ⟨h64, h65, h66, h67, h68, h69, h70, h71, h72⟩ := hw
                  replace hq := lf_p1 hq h72
                  refine lv_if_eq (tgt := 65) hx hb dX10_qWordHere_60 rfl (fun c73 => ?_) (fun c73 => ?_)
                  · as_aux_lemma =>
                      replace hq := lf_pos hq (lf_eq (lf_rf r61) (lf_lc 0 (0 : Int) rfl) c73)
                      have h74 := ib_eq h65 (ib_c 0 0 0 rfl) c73
                      have h75 : ib r61 0 0 := ib_w 0 0 h74.1 rfl
                      refine lv_aload_n hx hb dX10_qWordHere_65 rfl (lv_at hl 0 rfl) ?_
                      refine lv_aload_n hx hb dX10_qWordHere_66 rfl (lv_at hl 0 rfl) ?_
                      refine k_get C0 fg_X10_240 hP 12 rfl rfl dX10_qWordHere_67 ?_
                      refine k_jim hP hD hS hA [12, 13, 0] [false, true, true, true, true, true, true, true, true, true, true, true, false, false, true] rfl rfl (by decide +kernel) 0 0 (Nat.le_of_ble_eq_true rfl) (Nat.le_of_ble_eq_true rfl) (fun hPc hDc => k_runV (As := [.ref (rm 102)]) (rest := []) C0 hZ hS hA (s_X10_isHere_r4 l dC dI cy sq a_this rm x_taped v63 x_end x_ended x_bad x_badPlace x_fault x_faultPlace x_namePlace x_awayTold x_away x_coded x_statements x_isCrossing x_textKind x_askSecond x_redMany x_isOpen x_lastGreen x_greenTo x_isCycleGreen x_stillGreen x_rowMany x_fitMany x_fitRules x_fitGreen x_undoable x_newest x_seeded x_qCoded x_qWaits x_qOpened x_qBase x_qPiled x_qAnswer x_qIsNew x_octets g_tape (rm 102) g_paceAsked (ib_w 0 1600 h64 rfl) (ib_w 0 1600 hx_end rfl) hg_tape) mV_X10_302 hPc hDc rfl rfl rfl hl rfl rfl (Nat.le_of_ble_eq_true rfl) ⟨(Nat.le_of_ble_eq_true rfl), (Nat.le_of_ble_eq_true rfl)⟩ ⟨(Nat.le_of_ble_eq_true rfl), (Nat.le_of_ble_eq_true rfl)⟩ dX10_qWordHere_70) (fun r76 u77 H locs hw hP hD hS => ?_)
                      obtain ⟨v78, ev78⟩ : ∃ z, z = u77 := ⟨_, rfl⟩; subst ev78
                      try dsimp only at hP hD hw
                      replace hP : va_P (dC, dI) vwCl [(wi_rm103_2_6_0 rm cy g_trustsAsked), (wi_rm104_2_3_0 rm cy g_gapAsked), (wi_rm105_2_4_0 rm cy g_redsAsked), (wi_rm106_2_6_0 rm cy g_numberAsked), (wi_rm107_2_4_0 rm cy g_wentAsked), (wi_rm108_2_4_0 rm cy g_harmAsked), (wi_rm109_2_4_0 rm cy g_kindofAsked), (wi_rm97_2_6_0 rm cy g_secondAsked), (wi_rm98_2_3_0 rm cy g_dayAsked), (wi_rm99_2_5_0 rm cy g_phaseAsked), (wi_rm100_2_6_0 rm cy g_waitedAsked), (wi_rm101_2_4_0 rm cy g_calmAsked), (a_this, .inr (10, mfs rm x_taped v78 x_end x_ended x_bad x_badPlace x_fault x_faultPlace x_namePlace x_awayTold x_away x_coded x_statements x_isCrossing x_textKind x_askSecond x_redMany x_isOpen x_lastGreen x_greenTo x_isCycleGreen x_stillGreen x_rowMany x_fitMany x_fitRules x_fitGreen x_undoable x_newest x_seeded x_qCoded x_qWaits x_qOpened x_qBase x_qPiled x_qAnswer x_qIsNew x_octets)), (wi_rm0_0_1600_0 rm cy g_tape), (wi_rm102_2_4_0 rm cy g_paceAsked)] H := hP
                      replace hD := k_D hP hD
                      obtain ⟨h79, h80, h81, h82, h83, h84, h85, h86, h87⟩ := hw
                      replace hq := lf_p1 hq h87
                      refine lv_if_eq (tgt := 78) hx hb dX10_qWordHere_73 rfl (fun c88 => ?_) (fun c88 => ?_)
                      · as_aux_lemma =>
                          replace hq := lf_pos hq (lf_eq (lf_rf r76) (lf_lc 0 (0 : Int) rfl) c88)
                          have h89 := ib_eq h80 (ib_c 0 0 0 rfl) c88
                          have h90 : ib r76 0 0 := ib_w 0 0 h89.1 rfl
                          refine lv_aload_n hx hb dX10_qWordHere_78 rfl (lv_at hl 0 rfl) ?_
                          refine lv_aload_n hx hb dX10_qWordHere_79 rfl (lv_at hl 0 rfl) ?_
                          refine k_get C0 fg_X10_243 hP 12 rfl rfl dX10_qWordHere_80 ?_
                          refine k_jim hP hD hS hA [12, 13, 0] [false, true, true, true, true, true, true, true, true, true, true, true, false, false, true] rfl rfl (by decide +kernel) 0 0 (Nat.le_of_ble_eq_true rfl) (Nat.le_of_ble_eq_true rfl) (fun hPc hDc => k_runV (As := [.ref (rm 103)]) (rest := []) C0 hZ hS hA (s_X10_isHere_r6 l dC dI cy sq a_this rm x_taped v78 x_end x_ended x_bad x_badPlace x_fault x_faultPlace x_namePlace x_awayTold x_away x_coded x_statements x_isCrossing x_textKind x_askSecond x_redMany x_isOpen x_lastGreen x_greenTo x_isCycleGreen x_stillGreen x_rowMany x_fitMany x_fitRules x_fitGreen x_undoable x_newest x_seeded x_qCoded x_qWaits x_qOpened x_qBase x_qPiled x_qAnswer x_qIsNew x_octets g_tape (rm 103) g_trustsAsked (ib_w 0 1600 h79 rfl) (ib_w 0 1600 hx_end rfl) hg_tape) mV_X10_302 hPc hDc rfl rfl rfl hl rfl rfl (Nat.le_of_ble_eq_true rfl) ⟨(Nat.le_of_ble_eq_true rfl), (Nat.le_of_ble_eq_true rfl)⟩ ⟨(Nat.le_of_ble_eq_true rfl), (Nat.le_of_ble_eq_true rfl)⟩ dX10_qWordHere_83) (fun r91 u92 H locs hw hP hD hS => ?_)
                          obtain ⟨v93, ev93⟩ : ∃ z, z = u92 := ⟨_, rfl⟩; subst ev93
                          try dsimp only at hP hD hw
                          replace hP : va_P (dC, dI) vwCl [(wi_rm104_2_3_0 rm cy g_gapAsked), (wi_rm105_2_4_0 rm cy g_redsAsked), (wi_rm106_2_6_0 rm cy g_numberAsked), (wi_rm107_2_4_0 rm cy g_wentAsked), (wi_rm108_2_4_0 rm cy g_harmAsked), (wi_rm109_2_4_0 rm cy g_kindofAsked), (wi_rm97_2_6_0 rm cy g_secondAsked), (wi_rm98_2_3_0 rm cy g_dayAsked), (wi_rm99_2_5_0 rm cy g_phaseAsked), (wi_rm100_2_6_0 rm cy g_waitedAsked), (wi_rm101_2_4_0 rm cy g_calmAsked), (wi_rm102_2_4_0 rm cy g_paceAsked), (a_this, .inr (10, mfs rm x_taped v93 x_end x_ended x_bad x_badPlace x_fault x_faultPlace x_namePlace x_awayTold x_away x_coded x_statements x_isCrossing x_textKind x_askSecond x_redMany x_isOpen x_lastGreen x_greenTo x_isCycleGreen x_stillGreen x_rowMany x_fitMany x_fitRules x_fitGreen x_undoable x_newest x_seeded x_qCoded x_qWaits x_qOpened x_qBase x_qPiled x_qAnswer x_qIsNew x_octets)), (wi_rm0_0_1600_0 rm cy g_tape), (wi_rm103_2_6_0 rm cy g_trustsAsked)] H := hP
                          replace hD := k_D hP hD
                          obtain ⟨h94, h95, h96, h97, h98, h99, h100, h101, h102⟩ := hw
                          replace hq := lf_p1 hq h102
                          refine lv_if_eq (tgt := 92) hx hb dX10_qWordHere_86 rfl (fun c103 => ?_) (fun c103 => ?_)
                          · as_aux_lemma =>
                              replace hq := lf_pos hq (lf_eq (lf_rf r91) (lf_lc 0 (0 : Int) rfl) c103)
                              have h104 := ib_eq h95 (ib_c 0 0 0 rfl) c103
                              have h105 : ib r91 0 0 := ib_w 0 0 h104.1 rfl
                              refine lv_aload_n hx hb dX10_qWordHere_92 rfl (lv_at hl 0 rfl) ?_
                              refine lv_aload_n hx hb dX10_qWordHere_93 rfl (lv_at hl 0 rfl) ?_
                              refine k_get C0 fg_X10_246 hP 12 rfl rfl dX10_qWordHere_94 ?_
                              refine k_jim hP hD hS hA [12, 13, 0] [false, true, true, true, true, true, true, true, true, true, true, true, false, false, true] rfl rfl (by decide +kernel) 0 0 (Nat.le_of_ble_eq_true rfl) (Nat.le_of_ble_eq_true rfl) (fun hPc hDc => k_runV (As := [.ref (rm 104)]) (rest := []) C0 hZ hS hA (s_X10_isHere l dC dI cy sq a_this rm x_taped v93 x_end x_ended x_bad x_badPlace x_fault x_faultPlace x_namePlace x_awayTold x_away x_coded x_statements x_isCrossing x_textKind x_askSecond x_redMany x_isOpen x_lastGreen x_greenTo x_isCycleGreen x_stillGreen x_rowMany x_fitMany x_fitRules x_fitGreen x_undoable x_newest x_seeded x_qCoded x_qWaits x_qOpened x_qBase x_qPiled x_qAnswer x_qIsNew x_octets g_tape (rm 104) g_gapAsked (ib_w 0 1600 h94 rfl) (ib_w 0 1600 hx_end rfl) hg_tape) mV_X10_302 hPc hDc rfl rfl rfl hl rfl rfl (Nat.le_of_ble_eq_true rfl) ⟨(Nat.le_of_ble_eq_true rfl), (Nat.le_of_ble_eq_true rfl)⟩ ⟨(Nat.le_of_ble_eq_true rfl), (Nat.le_of_ble_eq_true rfl)⟩ dX10_qWordHere_97) (fun r106 u107 H locs hw hP hD hS => ?_)
                              obtain ⟨v108, ev108⟩ : ∃ z, z = u107 := ⟨_, rfl⟩; subst ev108
                              try dsimp only at hP hD hw
                              replace hP : va_P (dC, dI) vwCl [(wi_rm105_2_4_0 rm cy g_redsAsked), (wi_rm106_2_6_0 rm cy g_numberAsked), (wi_rm107_2_4_0 rm cy g_wentAsked), (wi_rm108_2_4_0 rm cy g_harmAsked), (wi_rm109_2_4_0 rm cy g_kindofAsked), (wi_rm97_2_6_0 rm cy g_secondAsked), (wi_rm98_2_3_0 rm cy g_dayAsked), (wi_rm99_2_5_0 rm cy g_phaseAsked), (wi_rm100_2_6_0 rm cy g_waitedAsked), (wi_rm101_2_4_0 rm cy g_calmAsked), (wi_rm102_2_4_0 rm cy g_paceAsked), (wi_rm103_2_6_0 rm cy g_trustsAsked), (a_this, .inr (10, mfs rm x_taped v108 x_end x_ended x_bad x_badPlace x_fault x_faultPlace x_namePlace x_awayTold x_away x_coded x_statements x_isCrossing x_textKind x_askSecond x_redMany x_isOpen x_lastGreen x_greenTo x_isCycleGreen x_stillGreen x_rowMany x_fitMany x_fitRules x_fitGreen x_undoable x_newest x_seeded x_qCoded x_qWaits x_qOpened x_qBase x_qPiled x_qAnswer x_qIsNew x_octets)), (wi_rm0_0_1600_0 rm cy g_tape), (wi_rm104_2_3_0 rm cy g_gapAsked)] H := hP
                              replace hD := k_D hP hD
                              obtain ⟨h109, h110, h111, h112, h113, h114, h115, h116, h117⟩ := hw
                              replace hq := lf_p1 hq h117
                              refine lv_if_eq (tgt := 106) hx hb dX10_qWordHere_100 rfl (fun c118 => ?_) (fun c118 => ?_)
                              · as_aux_lemma =>
                                  replace hq := lf_pos hq (lf_eq (lf_rf r106) (lf_lc 0 (0 : Int) rfl) c118)
                                  have h119 := ib_eq h110 (ib_c 0 0 0 rfl) c118
                                  have h120 : ib r106 0 0 := ib_w 0 0 h119.1 rfl
                                  refine lv_aload_n hx hb dX10_qWordHere_106 rfl (lv_at hl 0 rfl) ?_
                                  refine lv_aload_n hx hb dX10_qWordHere_107 rfl (lv_at hl 0 rfl) ?_
                                  refine k_get C0 fg_X10_249 hP 12 rfl rfl dX10_qWordHere_108 ?_
                                  refine k_jim hP hD hS hA [12, 13, 0] [false, true, true, true, true, true, true, true, true, true, true, true, false, false, true] rfl rfl (by decide +kernel) 0 0 (Nat.le_of_ble_eq_true rfl) (Nat.le_of_ble_eq_true rfl) (fun hPc hDc => k_runV (As := [.ref (rm 105)]) (rest := []) C0 hZ hS hA (s_X10_isHere_r4 l dC dI cy sq a_this rm x_taped v108 x_end x_ended x_bad x_badPlace x_fault x_faultPlace x_namePlace x_awayTold x_away x_coded x_statements x_isCrossing x_textKind x_askSecond x_redMany x_isOpen x_lastGreen x_greenTo x_isCycleGreen x_stillGreen x_rowMany x_fitMany x_fitRules x_fitGreen x_undoable x_newest x_seeded x_qCoded x_qWaits x_qOpened x_qBase x_qPiled x_qAnswer x_qIsNew x_octets g_tape (rm 105) g_redsAsked (ib_w 0 1600 h109 rfl) (ib_w 0 1600 hx_end rfl) hg_tape) mV_X10_302 hPc hDc rfl rfl rfl hl rfl rfl (Nat.le_of_ble_eq_true rfl) ⟨(Nat.le_of_ble_eq_true rfl), (Nat.le_of_ble_eq_true rfl)⟩ ⟨(Nat.le_of_ble_eq_true rfl), (Nat.le_of_ble_eq_true rfl)⟩ dX10_qWordHere_111) (fun r121 u122 H locs hw hP hD hS => ?_)
                                  obtain ⟨v123, ev123⟩ : ∃ z, z = u122 := ⟨_, rfl⟩; subst ev123
                                  try dsimp only at hP hD hw
                                  replace hP : va_P (dC, dI) vwCl [(wi_rm106_2_6_0 rm cy g_numberAsked), (wi_rm107_2_4_0 rm cy g_wentAsked), (wi_rm108_2_4_0 rm cy g_harmAsked), (wi_rm109_2_4_0 rm cy g_kindofAsked), (wi_rm97_2_6_0 rm cy g_secondAsked), (wi_rm98_2_3_0 rm cy g_dayAsked), (wi_rm99_2_5_0 rm cy g_phaseAsked), (wi_rm100_2_6_0 rm cy g_waitedAsked), (wi_rm101_2_4_0 rm cy g_calmAsked), (wi_rm102_2_4_0 rm cy g_paceAsked), (wi_rm103_2_6_0 rm cy g_trustsAsked), (wi_rm104_2_3_0 rm cy g_gapAsked), (a_this, .inr (10, mfs rm x_taped v123 x_end x_ended x_bad x_badPlace x_fault x_faultPlace x_namePlace x_awayTold x_away x_coded x_statements x_isCrossing x_textKind x_askSecond x_redMany x_isOpen x_lastGreen x_greenTo x_isCycleGreen x_stillGreen x_rowMany x_fitMany x_fitRules x_fitGreen x_undoable x_newest x_seeded x_qCoded x_qWaits x_qOpened x_qBase x_qPiled x_qAnswer x_qIsNew x_octets)), (wi_rm0_0_1600_0 rm cy g_tape), (wi_rm105_2_4_0 rm cy g_redsAsked)] H := hP
                                  replace hD := k_D hP hD
                                  obtain ⟨h124, h125, h126, h127, h128, h129, h130, h131, h132⟩ := hw
                                  replace hq := lf_p1 hq h132
                                  refine lv_if_eq (tgt := 120) hx hb dX10_qWordHere_114 rfl (fun c133 => ?_) (fun c133 => ?_)
                                  · as_aux_lemma =>
                                      replace hq := lf_pos hq (lf_eq (lf_rf r121) (lf_lc 0 (0 : Int) rfl) c133)
                                      have h134 := ib_eq h125 (ib_c 0 0 0 rfl) c133
                                      have h135 : ib r121 0 0 := ib_w 0 0 h134.1 rfl
                                      refine lv_aload_n hx hb dX10_qWordHere_120 rfl (lv_at hl 0 rfl) ?_
                                      refine lv_aload_n hx hb dX10_qWordHere_121 rfl (lv_at hl 0 rfl) ?_
                                      refine k_get C0 fg_X10_252 hP 12 rfl rfl dX10_qWordHere_122 ?_
                                      refine k_jim hP hD hS hA [12, 13, 0] [false, true, true, true, true, true, true, true, true, true, true, true, false, false, true] rfl rfl (by decide +kernel) 0 0 (Nat.le_of_ble_eq_true rfl) (Nat.le_of_ble_eq_true rfl) (fun hPc hDc => k_runV (As := [.ref (rm 106)]) (rest := []) C0 hZ hS hA (s_X10_isHere_r6 l dC dI cy sq a_this rm x_taped v123 x_end x_ended x_bad x_badPlace x_fault x_faultPlace x_namePlace x_awayTold x_away x_coded x_statements x_isCrossing x_textKind x_askSecond x_redMany x_isOpen x_lastGreen x_greenTo x_isCycleGreen x_stillGreen x_rowMany x_fitMany x_fitRules x_fitGreen x_undoable x_newest x_seeded x_qCoded x_qWaits x_qOpened x_qBase x_qPiled x_qAnswer x_qIsNew x_octets g_tape (rm 106) g_numberAsked (ib_w 0 1600 h124 rfl) (ib_w 0 1600 hx_end rfl) hg_tape) mV_X10_302 hPc hDc rfl rfl rfl hl rfl rfl (Nat.le_of_ble_eq_true rfl) ⟨(Nat.le_of_ble_eq_true rfl), (Nat.le_of_ble_eq_true rfl)⟩ ⟨(Nat.le_of_ble_eq_true rfl), (Nat.le_of_ble_eq_true rfl)⟩ dX10_qWordHere_125) (fun r136 u137 H locs hw hP hD hS => ?_)
                                      obtain ⟨v138, ev138⟩ : ∃ z, z = u137 := ⟨_, rfl⟩; subst ev138
                                      try dsimp only at hP hD hw
                                      replace hP : va_P (dC, dI) vwCl [(wi_rm107_2_4_0 rm cy g_wentAsked), (wi_rm108_2_4_0 rm cy g_harmAsked), (wi_rm109_2_4_0 rm cy g_kindofAsked), (wi_rm97_2_6_0 rm cy g_secondAsked), (wi_rm98_2_3_0 rm cy g_dayAsked), (wi_rm99_2_5_0 rm cy g_phaseAsked), (wi_rm100_2_6_0 rm cy g_waitedAsked), (wi_rm101_2_4_0 rm cy g_calmAsked), (wi_rm102_2_4_0 rm cy g_paceAsked), (wi_rm103_2_6_0 rm cy g_trustsAsked), (wi_rm104_2_3_0 rm cy g_gapAsked), (wi_rm105_2_4_0 rm cy g_redsAsked), (a_this, .inr (10, mfs rm x_taped v138 x_end x_ended x_bad x_badPlace x_fault x_faultPlace x_namePlace x_awayTold x_away x_coded x_statements x_isCrossing x_textKind x_askSecond x_redMany x_isOpen x_lastGreen x_greenTo x_isCycleGreen x_stillGreen x_rowMany x_fitMany x_fitRules x_fitGreen x_undoable x_newest x_seeded x_qCoded x_qWaits x_qOpened x_qBase x_qPiled x_qAnswer x_qIsNew x_octets)), (wi_rm0_0_1600_0 rm cy g_tape), (wi_rm106_2_6_0 rm cy g_numberAsked)] H := hP
                                      replace hD := k_D hP hD
                                      obtain ⟨h139, h140, h141, h142, h143, h144, h145, h146, h147⟩ := hw
                                      replace hq := lf_p1 hq h147
                                      refine lv_if_eq (tgt := 134) hx hb dX10_qWordHere_128 rfl (fun c148 => ?_) (fun c148 => ?_)
                                      · as_aux_lemma =>
                                          replace hq := lf_pos hq (lf_eq (lf_rf r136) (lf_lc 0 (0 : Int) rfl) c148)
                                          have h149 := ib_eq h140 (ib_c 0 0 0 rfl) c148
                                          have h150 : ib r136 0 0 := ib_w 0 0 h149.1 rfl
                                          refine lv_aload_n hx hb dX10_qWordHere_134 rfl (lv_at hl 0 rfl) ?_
                                          refine lv_aload_n hx hb dX10_qWordHere_135 rfl (lv_at hl 0 rfl) ?_
                                          refine k_get C0 fg_X10_255 hP 12 rfl rfl dX10_qWordHere_136 ?_
                                          refine k_jim hP hD hS hA [12, 13, 0] [false, true, true, true, true, true, true, true, true, true, true, true, false, false, true] rfl rfl (by decide +kernel) 0 0 (Nat.le_of_ble_eq_true rfl) (Nat.le_of_ble_eq_true rfl) (fun hPc hDc => k_runV (As := [.ref (rm 107)]) (rest := []) C0 hZ hS hA (s_X10_isHere_r4 l dC dI cy sq a_this rm x_taped v138 x_end x_ended x_bad x_badPlace x_fault x_faultPlace x_namePlace x_awayTold x_away x_coded x_statements x_isCrossing x_textKind x_askSecond x_redMany x_isOpen x_lastGreen x_greenTo x_isCycleGreen x_stillGreen x_rowMany x_fitMany x_fitRules x_fitGreen x_undoable x_newest x_seeded x_qCoded x_qWaits x_qOpened x_qBase x_qPiled x_qAnswer x_qIsNew x_octets g_tape (rm 107) g_wentAsked (ib_w 0 1600 h139 rfl) (ib_w 0 1600 hx_end rfl) hg_tape) mV_X10_302 hPc hDc rfl rfl rfl hl rfl rfl (Nat.le_of_ble_eq_true rfl) ⟨(Nat.le_of_ble_eq_true rfl), (Nat.le_of_ble_eq_true rfl)⟩ ⟨(Nat.le_of_ble_eq_true rfl), (Nat.le_of_ble_eq_true rfl)⟩ dX10_qWordHere_139) (fun r151 u152 H locs hw hP hD hS => ?_)
                                          obtain ⟨v153, ev153⟩ : ∃ z, z = u152 := ⟨_, rfl⟩; subst ev153
                                          try dsimp only at hP hD hw
                                          replace hP : va_P (dC, dI) vwCl [(wi_rm108_2_4_0 rm cy g_harmAsked), (wi_rm109_2_4_0 rm cy g_kindofAsked), (wi_rm97_2_6_0 rm cy g_secondAsked), (wi_rm98_2_3_0 rm cy g_dayAsked), (wi_rm99_2_5_0 rm cy g_phaseAsked), (wi_rm100_2_6_0 rm cy g_waitedAsked), (wi_rm101_2_4_0 rm cy g_calmAsked), (wi_rm102_2_4_0 rm cy g_paceAsked), (wi_rm103_2_6_0 rm cy g_trustsAsked), (wi_rm104_2_3_0 rm cy g_gapAsked), (wi_rm105_2_4_0 rm cy g_redsAsked), (wi_rm106_2_6_0 rm cy g_numberAsked), (a_this, .inr (10, mfs rm x_taped v153 x_end x_ended x_bad x_badPlace x_fault x_faultPlace x_namePlace x_awayTold x_away x_coded x_statements x_isCrossing x_textKind x_askSecond x_redMany x_isOpen x_lastGreen x_greenTo x_isCycleGreen x_stillGreen x_rowMany x_fitMany x_fitRules x_fitGreen x_undoable x_newest x_seeded x_qCoded x_qWaits x_qOpened x_qBase x_qPiled x_qAnswer x_qIsNew x_octets)), (wi_rm0_0_1600_0 rm cy g_tape), (wi_rm107_2_4_0 rm cy g_wentAsked)] H := hP
                                          replace hD := k_D hP hD
                                          obtain ⟨h154, h155, h156, h157, h158, h159, h160, h161, h162⟩ := hw
                                          replace hq := lf_p1 hq h162
                                          refine lv_if_eq (tgt := 148) hx hb dX10_qWordHere_142 rfl (fun c163 => ?_) (fun c163 => ?_)
                                          · as_aux_lemma =>
                                              replace hq := lf_pos hq (lf_eq (lf_rf r151) (lf_lc 0 (0 : Int) rfl) c163)
                                              have h164 := ib_eq h155 (ib_c 0 0 0 rfl) c163
                                              have h165 : ib r151 0 0 := ib_w 0 0 h164.1 rfl
                                              refine lv_aload_n hx hb dX10_qWordHere_148 rfl (lv_at hl 0 rfl) ?_
                                              refine lv_aload_n hx hb dX10_qWordHere_149 rfl (lv_at hl 0 rfl) ?_
                                              refine k_get C0 fg_X10_258 hP 12 rfl rfl dX10_qWordHere_150 ?_
                                              refine k_jim hP hD hS hA [12, 13, 0] [false, true, true, true, true, true, true, true, true, true, true, true, false, false, true] rfl rfl (by decide +kernel) 0 0 (Nat.le_of_ble_eq_true rfl) (Nat.le_of_ble_eq_true rfl) (fun hPc hDc => k_runV (As := [.ref (rm 108)]) (rest := []) C0 hZ hS hA (s_X10_isHere_r4 l dC dI cy sq a_this rm x_taped v153 x_end x_ended x_bad x_badPlace x_fault x_faultPlace x_namePlace x_awayTold x_away x_coded x_statements x_isCrossing x_textKind x_askSecond x_redMany x_isOpen x_lastGreen x_greenTo x_isCycleGreen x_stillGreen x_rowMany x_fitMany x_fitRules x_fitGreen x_undoable x_newest x_seeded x_qCoded x_qWaits x_qOpened x_qBase x_qPiled x_qAnswer x_qIsNew x_octets g_tape (rm 108) g_harmAsked (ib_w 0 1600 h154 rfl) (ib_w 0 1600 hx_end rfl) hg_tape) mV_X10_302 hPc hDc rfl rfl rfl hl rfl rfl (Nat.le_of_ble_eq_true rfl) ⟨(Nat.le_of_ble_eq_true rfl), (Nat.le_of_ble_eq_true rfl)⟩ ⟨(Nat.le_of_ble_eq_true rfl), (Nat.le_of_ble_eq_true rfl)⟩ dX10_qWordHere_153) (fun r166 u167 H locs hw hP hD hS => ?_)
                                              obtain ⟨v168, ev168⟩ : ∃ z, z = u167 := ⟨_, rfl⟩; subst ev168
                                              try dsimp only at hP hD hw
                                              replace hP : va_P (dC, dI) vwCl [(wi_rm109_2_4_0 rm cy g_kindofAsked), (wi_rm97_2_6_0 rm cy g_secondAsked), (wi_rm98_2_3_0 rm cy g_dayAsked), (wi_rm99_2_5_0 rm cy g_phaseAsked), (wi_rm100_2_6_0 rm cy g_waitedAsked), (wi_rm101_2_4_0 rm cy g_calmAsked), (wi_rm102_2_4_0 rm cy g_paceAsked), (wi_rm103_2_6_0 rm cy g_trustsAsked), (wi_rm104_2_3_0 rm cy g_gapAsked), (wi_rm105_2_4_0 rm cy g_redsAsked), (wi_rm106_2_6_0 rm cy g_numberAsked), (wi_rm107_2_4_0 rm cy g_wentAsked), (a_this, .inr (10, mfs rm x_taped v168 x_end x_ended x_bad x_badPlace x_fault x_faultPlace x_namePlace x_awayTold x_away x_coded x_statements x_isCrossing x_textKind x_askSecond x_redMany x_isOpen x_lastGreen x_greenTo x_isCycleGreen x_stillGreen x_rowMany x_fitMany x_fitRules x_fitGreen x_undoable x_newest x_seeded x_qCoded x_qWaits x_qOpened x_qBase x_qPiled x_qAnswer x_qIsNew x_octets)), (wi_rm0_0_1600_0 rm cy g_tape), (wi_rm108_2_4_0 rm cy g_harmAsked)] H := hP
                                              replace hD := k_D hP hD
                                              obtain ⟨h169, h170, h171, h172, h173, h174, h175, h176, h177⟩ := hw
                                              replace hq := lf_p1 hq h177
                                              refine lv_if_eq (tgt := 162) hx hb dX10_qWordHere_156 rfl (fun c178 => ?_) (fun c178 => ?_)
                                              · as_aux_lemma =>
                                                  replace hq := lf_pos hq (lf_eq (lf_rf r166) (lf_lc 0 (0 : Int) rfl) c178)
                                                  have h179 := ib_eq h170 (ib_c 0 0 0 rfl) c178
                                                  have h180 : ib r166 0 0 := ib_w 0 0 h179.1 rfl
                                                  refine lv_aload_n hx hb dX10_qWordHere_162 rfl (lv_at hl 0 rfl) ?_
                                                  refine lv_aload_n hx hb dX10_qWordHere_163 rfl (lv_at hl 0 rfl) ?_
                                                  refine k_get C0 fg_X10_261 hP 12 rfl rfl dX10_qWordHere_164 ?_
                                                  refine k_jim hP hD hS hA [12, 13, 0] [false, true, true, true, true, true, true, true, true, true, true, true, false, false, true] rfl rfl (by decide +kernel) 0 0 (Nat.le_of_ble_eq_true rfl) (Nat.le_of_ble_eq_true rfl) (fun hPc hDc => k_runV (As := [.ref (rm 109)]) (rest := []) C0 hZ hS hA (s_X10_isHere_r4 l dC dI cy sq a_this rm x_taped v168 x_end x_ended x_bad x_badPlace x_fault x_faultPlace x_namePlace x_awayTold x_away x_coded x_statements x_isCrossing x_textKind x_askSecond x_redMany x_isOpen x_lastGreen x_greenTo x_isCycleGreen x_stillGreen x_rowMany x_fitMany x_fitRules x_fitGreen x_undoable x_newest x_seeded x_qCoded x_qWaits x_qOpened x_qBase x_qPiled x_qAnswer x_qIsNew x_octets g_tape (rm 109) g_kindofAsked (ib_w 0 1600 h169 rfl) (ib_w 0 1600 hx_end rfl) hg_tape) mV_X10_302 hPc hDc rfl rfl rfl hl rfl rfl (Nat.le_of_ble_eq_true rfl) ⟨(Nat.le_of_ble_eq_true rfl), (Nat.le_of_ble_eq_true rfl)⟩ ⟨(Nat.le_of_ble_eq_true rfl), (Nat.le_of_ble_eq_true rfl)⟩ dX10_qWordHere_167) (fun r181 u182 H locs hw hP hD hS => ?_)
                                                  obtain ⟨v183, ev183⟩ : ∃ z, z = u182 := ⟨_, rfl⟩; subst ev183
                                                  try dsimp only at hP hD hw
                                                  replace hP : va_P (dC, dI) vwCl [(wi_rm97_2_6_0 rm cy g_secondAsked), (wi_rm98_2_3_0 rm cy g_dayAsked), (wi_rm99_2_5_0 rm cy g_phaseAsked), (wi_rm100_2_6_0 rm cy g_waitedAsked), (wi_rm101_2_4_0 rm cy g_calmAsked), (wi_rm102_2_4_0 rm cy g_paceAsked), (wi_rm103_2_6_0 rm cy g_trustsAsked), (wi_rm104_2_3_0 rm cy g_gapAsked), (wi_rm105_2_4_0 rm cy g_redsAsked), (wi_rm106_2_6_0 rm cy g_numberAsked), (wi_rm107_2_4_0 rm cy g_wentAsked), (wi_rm108_2_4_0 rm cy g_harmAsked), (a_this, .inr (10, mfs rm x_taped v183 x_end x_ended x_bad x_badPlace x_fault x_faultPlace x_namePlace x_awayTold x_away x_coded x_statements x_isCrossing x_textKind x_askSecond x_redMany x_isOpen x_lastGreen x_greenTo x_isCycleGreen x_stillGreen x_rowMany x_fitMany x_fitRules x_fitGreen x_undoable x_newest x_seeded x_qCoded x_qWaits x_qOpened x_qBase x_qPiled x_qAnswer x_qIsNew x_octets)), (wi_rm0_0_1600_0 rm cy g_tape), (wi_rm109_2_4_0 rm cy g_kindofAsked)] H := hP
                                                  replace hD := k_D hP hD
                                                  obtain ⟨h184, h185, h186, h187, h188, h189, h190, h191, h192⟩ := hw
                                                  replace hq := lf_p1 hq h192
                                                  refine lv_if_eq (tgt := 176) hx hb dX10_qWordHere_170 rfl (fun c193 => ?_) (fun c193 => ?_)
                                                  · replace hq := lf_pos hq (lf_eq (lf_rf r181) (lf_lc 0 (0 : Int) rfl) c193)
                                                    have h194 := ib_eq h185 (ib_c 0 0 0 rfl) c193
                                                    have h195 : ib r181 0 0 := ib_w 0 0 h194.1 rfl
                                                    refine lv_iconst (v := (-1)) hx hb dX10_qWordHere_176 rfl ?_
                                                    subst hQ; exact k_iret hx hb hr hlk rfl v183 hS ⟨ib_w 0 1600 h184 rfl, ib_w (-1) 12 (ib_c (-1) (-1) (-1) rfl) rfl, (by have := (h184).1; have := h190; have := h175; have := h160; have := h145; have := h130; have := h115; have := h100; have := h85; have := h70; have := h55; have := h40; have := h25; have := h10; have := (hx_at).2; omega), fun q9 => (by have e0n : v3 = x_at := h11 q9; have e1n : v18 = x_at := (h26 (by rw [e0n]; exact q9)).trans e0n; have e2n : v33 = x_at := (h41 (by rw [e1n]; exact q9)).trans e1n; have e3n : v48 = x_at := (h56 (by rw [e2n]; exact q9)).trans e2n; have e4n : v63 = x_at := (h71 (by rw [e3n]; exact q9)).trans e3n; have e5n : v78 = x_at := (h86 (by rw [e4n]; exact q9)).trans e4n; have e6n : v93 = x_at := (h101 (by rw [e5n]; exact q9)).trans e5n; have e7n : v108 = x_at := (h116 (by rw [e6n]; exact q9)).trans e6n; have e8n : v123 = x_at := (h131 (by rw [e7n]; exact q9)).trans e7n; have e9n : v138 = x_at := (h146 (by rw [e8n]; exact q9)).trans e8n; have e10n : v153 = x_at := (h161 (by rw [e9n]; exact q9)).trans e9n; have e11n : v168 = x_at := (h176 (by rw [e10n]; exact q9)).trans e10n; have e12n : v183 = x_at := (h191 (by rw [e11n]; exact q9)).trans e11n; exact e12n), (hO.symm.trans (by try simp only [show ((-1) : Int32).toInt = (-1 : Int) from rfl]; exact hq))⟩ (hP.sub [12, 13, 0, 1, 2, 3, 4, 5, 6, 7, 8, 9, 10, 11, 14] rfl) (hD.sub [12, 13, 0, 1, 2, 3, 4, 5, 6, 7, 8, 9, 10, 11, 14] (by decide +kernel) rfl) (Nat.le_of_ble_eq_true rfl) (Nat.le_of_ble_eq_true rfl) dX10_qWordHere_177
                                                  · replace hq := lf_neg hq (lf_ne (lf_rf r181) (lf_lc 0 (0 : Int) rfl) c193)
                                                    have h196 : ib r181 1 1 := ib_w 1 1 (ib_ne_lo 0 h185 rfl c193) rfl
                                                    have h197 : ib v183 0 1596 := ib_w 0 1596 (ib_two h184 (h186 (ib_nz h196 rfl))) rfl
                                                    have h198 : ib v168 0 1596 := ib_w 0 1596 (ib_two h169 (h187 (ib_nz h196 rfl))) rfl
                                                    have h199 : ib x_end 1 1600 := ib_w 1 1600 (ib_two hx_end (h188 (ib_nz h196 rfl))) rfl
                                                    have h200 : ib x_bad 0 0 := ib_w 0 0 (ib_two (ib_any x_bad) (h189 (ib_nz h196 rfl))) rfl
                                                    have h201 : ib v153 0 1596 := ⟨(h154).1, by have := (h154).2; have := h175; have := (h198).2; omega⟩
                                                    refine lv_bipush (v := 12) hx hb dX10_qWordHere_173 rfl ?_
                                                    subst hQ; exact k_iret hx hb hr hlk rfl v183 hS ⟨ib_w 0 1600 h197 rfl, ib_w (-1) 12 (ib_c 12 12 12 rfl) rfl, (by have := (h197).1; have := h190; have := h175; have := h160; have := h145; have := h130; have := h115; have := h100; have := h85; have := h70; have := h55; have := h40; have := h25; have := h10; have := (hx_at).2; omega), fun q9 => (by have e0n : v3 = x_at := h11 q9; have e1n : v18 = x_at := (h26 (by rw [e0n]; exact q9)).trans e0n; have e2n : v33 = x_at := (h41 (by rw [e1n]; exact q9)).trans e1n; have e3n : v48 = x_at := (h56 (by rw [e2n]; exact q9)).trans e2n; have e4n : v63 = x_at := (h71 (by rw [e3n]; exact q9)).trans e3n; have e5n : v78 = x_at := (h86 (by rw [e4n]; exact q9)).trans e4n; have e6n : v93 = x_at := (h101 (by rw [e5n]; exact q9)).trans e5n; have e7n : v108 = x_at := (h116 (by rw [e6n]; exact q9)).trans e6n; have e8n : v123 = x_at := (h131 (by rw [e7n]; exact q9)).trans e7n; have e9n : v138 = x_at := (h146 (by rw [e8n]; exact q9)).trans e8n; have e10n : v153 = x_at := (h161 (by rw [e9n]; exact q9)).trans e9n; have e11n : v168 = x_at := (h176 (by rw [e10n]; exact q9)).trans e10n; have e12n : v183 = x_at := (h191 (by rw [e11n]; exact q9)).trans e11n; exact e12n), (hO.symm.trans (by try simp only [show (12 : Int32).toInt = (12 : Int) from rfl]; exact hq))⟩ (hP.sub [12, 13, 0, 1, 2, 3, 4, 5, 6, 7, 8, 9, 10, 11, 14] rfl) (hD.sub [12, 13, 0, 1, 2, 3, 4, 5, 6, 7, 8, 9, 10, 11, 14] (by decide +kernel) rfl) (Nat.le_of_ble_eq_true rfl) (Nat.le_of_ble_eq_true rfl) dX10_qWordHere_175
                                              · replace hq := lf_neg hq (lf_ne (lf_rf r166) (lf_lc 0 (0 : Int) rfl) c178)
                                                have h202 : ib r166 1 1 := ib_w 1 1 (ib_ne_lo 0 h170 rfl c178) rfl
                                                have h203 : ib v168 0 1596 := ib_w 0 1596 (ib_two h169 (h171 (ib_nz h202 rfl))) rfl
                                                have h204 : ib v153 0 1596 := ib_w 0 1596 (ib_two h154 (h172 (ib_nz h202 rfl))) rfl
                                                have h205 : ib x_end 1 1600 := ib_w 1 1600 (ib_two hx_end (h173 (ib_nz h202 rfl))) rfl
                                                have h206 : ib x_bad 0 0 := ib_w 0 0 (ib_two (ib_any x_bad) (h174 (ib_nz h202 rfl))) rfl
                                                have h207 : ib v138 0 1596 := ⟨(h139).1, by have := (h139).2; have := h160; have := (h204).2; omega⟩
                                                refine lv_bipush (v := 11) hx hb dX10_qWordHere_159 rfl ?_
                                                subst hQ; exact k_iret hx hb hr hlk rfl v168 hS ⟨ib_w 0 1600 h203 rfl, ib_w (-1) 12 (ib_c 11 11 11 rfl) rfl, (by have := (h203).1; have := h175; have := h160; have := h145; have := h130; have := h115; have := h100; have := h85; have := h70; have := h55; have := h40; have := h25; have := h10; have := (hx_at).2; omega), fun q9 => (by have e0n : v3 = x_at := h11 q9; have e1n : v18 = x_at := (h26 (by rw [e0n]; exact q9)).trans e0n; have e2n : v33 = x_at := (h41 (by rw [e1n]; exact q9)).trans e1n; have e3n : v48 = x_at := (h56 (by rw [e2n]; exact q9)).trans e2n; have e4n : v63 = x_at := (h71 (by rw [e3n]; exact q9)).trans e3n; have e5n : v78 = x_at := (h86 (by rw [e4n]; exact q9)).trans e4n; have e6n : v93 = x_at := (h101 (by rw [e5n]; exact q9)).trans e5n; have e7n : v108 = x_at := (h116 (by rw [e6n]; exact q9)).trans e6n; have e8n : v123 = x_at := (h131 (by rw [e7n]; exact q9)).trans e7n; have e9n : v138 = x_at := (h146 (by rw [e8n]; exact q9)).trans e8n; have e10n : v153 = x_at := (h161 (by rw [e9n]; exact q9)).trans e9n; have e11n : v168 = x_at := (h176 (by rw [e10n]; exact q9)).trans e10n; exact e11n), (hO.symm.trans (by try simp only [show (11 : Int32).toInt = (11 : Int) from rfl]; exact hq))⟩ (hP.sub [12, 13, 1, 2, 3, 4, 5, 6, 7, 8, 9, 10, 11, 14, 0] rfl) (hD.sub [12, 13, 1, 2, 3, 4, 5, 6, 7, 8, 9, 10, 11, 14, 0] (by decide +kernel) rfl) (Nat.le_of_ble_eq_true rfl) (Nat.le_of_ble_eq_true rfl) dX10_qWordHere_161
                                          · replace hq := lf_neg hq (lf_ne (lf_rf r151) (lf_lc 0 (0 : Int) rfl) c163)
                                            have h208 : ib r151 1 1 := ib_w 1 1 (ib_ne_lo 0 h155 rfl c163) rfl
                                            have h209 : ib v153 0 1596 := ib_w 0 1596 (ib_two h154 (h156 (ib_nz h208 rfl))) rfl
                                            have h210 : ib v138 0 1596 := ib_w 0 1596 (ib_two h139 (h157 (ib_nz h208 rfl))) rfl
                                            have h211 : ib x_end 1 1600 := ib_w 1 1600 (ib_two hx_end (h158 (ib_nz h208 rfl))) rfl
                                            have h212 : ib x_bad 0 0 := ib_w 0 0 (ib_two (ib_any x_bad) (h159 (ib_nz h208 rfl))) rfl
                                            have h213 : ib v123 0 1596 := ⟨(h124).1, by have := (h124).2; have := h145; have := (h210).2; omega⟩
                                            refine lv_bipush (v := 10) hx hb dX10_qWordHere_145 rfl ?_
                                            subst hQ; exact k_iret hx hb hr hlk rfl v153 hS ⟨ib_w 0 1600 h209 rfl, ib_w (-1) 12 (ib_c 10 10 10 rfl) rfl, (by have := (h209).1; have := h160; have := h145; have := h130; have := h115; have := h100; have := h85; have := h70; have := h55; have := h40; have := h25; have := h10; have := (hx_at).2; omega), fun q9 => (by have e0n : v3 = x_at := h11 q9; have e1n : v18 = x_at := (h26 (by rw [e0n]; exact q9)).trans e0n; have e2n : v33 = x_at := (h41 (by rw [e1n]; exact q9)).trans e1n; have e3n : v48 = x_at := (h56 (by rw [e2n]; exact q9)).trans e2n; have e4n : v63 = x_at := (h71 (by rw [e3n]; exact q9)).trans e3n; have e5n : v78 = x_at := (h86 (by rw [e4n]; exact q9)).trans e4n; have e6n : v93 = x_at := (h101 (by rw [e5n]; exact q9)).trans e5n; have e7n : v108 = x_at := (h116 (by rw [e6n]; exact q9)).trans e6n; have e8n : v123 = x_at := (h131 (by rw [e7n]; exact q9)).trans e7n; have e9n : v138 = x_at := (h146 (by rw [e8n]; exact q9)).trans e8n; have e10n : v153 = x_at := (h161 (by rw [e9n]; exact q9)).trans e9n; exact e10n), (hO.symm.trans (by try simp only [show (10 : Int32).toInt = (10 : Int) from rfl]; exact hq))⟩ (hP.sub [12, 13, 2, 3, 4, 5, 6, 7, 8, 9, 10, 11, 14, 0, 1] rfl) (hD.sub [12, 13, 2, 3, 4, 5, 6, 7, 8, 9, 10, 11, 14, 0, 1] (by decide +kernel) rfl) (Nat.le_of_ble_eq_true rfl) (Nat.le_of_ble_eq_true rfl) dX10_qWordHere_147
                                      · replace hq := lf_neg hq (lf_ne (lf_rf r136) (lf_lc 0 (0 : Int) rfl) c148)
                                        have h214 : ib r136 1 1 := ib_w 1 1 (ib_ne_lo 0 h140 rfl c148) rfl
                                        have h215 : ib v138 0 1594 := ib_w 0 1594 (ib_two h139 (h141 (ib_nz h214 rfl))) rfl
                                        have h216 : ib v123 0 1594 := ib_w 0 1594 (ib_two h124 (h142 (ib_nz h214 rfl))) rfl
                                        have h217 : ib x_end 1 1600 := ib_w 1 1600 (ib_two hx_end (h143 (ib_nz h214 rfl))) rfl
                                        have h218 : ib x_bad 0 0 := ib_w 0 0 (ib_two (ib_any x_bad) (h144 (ib_nz h214 rfl))) rfl
                                        have h219 : ib v108 0 1594 := ⟨(h109).1, by have := (h109).2; have := h130; have := (h216).2; omega⟩
                                        refine lv_bipush (v := 9) hx hb dX10_qWordHere_131 rfl ?_
                                        subst hQ; exact k_iret hx hb hr hlk rfl v138 hS ⟨ib_w 0 1600 h215 rfl, ib_w (-1) 12 (ib_c 9 9 9 rfl) rfl, (by have := (h215).1; have := h145; have := h130; have := h115; have := h100; have := h85; have := h70; have := h55; have := h40; have := h25; have := h10; have := (hx_at).2; omega), fun q9 => (by have e0n : v3 = x_at := h11 q9; have e1n : v18 = x_at := (h26 (by rw [e0n]; exact q9)).trans e0n; have e2n : v33 = x_at := (h41 (by rw [e1n]; exact q9)).trans e1n; have e3n : v48 = x_at := (h56 (by rw [e2n]; exact q9)).trans e2n; have e4n : v63 = x_at := (h71 (by rw [e3n]; exact q9)).trans e3n; have e5n : v78 = x_at := (h86 (by rw [e4n]; exact q9)).trans e4n; have e6n : v93 = x_at := (h101 (by rw [e5n]; exact q9)).trans e5n; have e7n : v108 = x_at := (h116 (by rw [e6n]; exact q9)).trans e6n; have e8n : v123 = x_at := (h131 (by rw [e7n]; exact q9)).trans e7n; have e9n : v138 = x_at := (h146 (by rw [e8n]; exact q9)).trans e8n; exact e9n), (hO.symm.trans (by try simp only [show (9 : Int32).toInt = (9 : Int) from rfl]; exact hq))⟩ (hP.sub [12, 13, 3, 4, 5, 6, 7, 8, 9, 10, 11, 14, 0, 1, 2] rfl) (hD.sub [12, 13, 3, 4, 5, 6, 7, 8, 9, 10, 11, 14, 0, 1, 2] (by decide +kernel) rfl) (Nat.le_of_ble_eq_true rfl) (Nat.le_of_ble_eq_true rfl) dX10_qWordHere_133
                                  · replace hq := lf_neg hq (lf_ne (lf_rf r121) (lf_lc 0 (0 : Int) rfl) c133)
                                    have h220 : ib r121 1 1 := ib_w 1 1 (ib_ne_lo 0 h125 rfl c133) rfl
                                    have h221 : ib v123 0 1596 := ib_w 0 1596 (ib_two h124 (h126 (ib_nz h220 rfl))) rfl
                                    have h222 : ib v108 0 1596 := ib_w 0 1596 (ib_two h109 (h127 (ib_nz h220 rfl))) rfl
                                    have h223 : ib x_end 1 1600 := ib_w 1 1600 (ib_two hx_end (h128 (ib_nz h220 rfl))) rfl
                                    have h224 : ib x_bad 0 0 := ib_w 0 0 (ib_two (ib_any x_bad) (h129 (ib_nz h220 rfl))) rfl
                                    have h225 : ib v93 0 1596 := ⟨(h94).1, by have := (h94).2; have := h115; have := (h222).2; omega⟩
                                    refine lv_bipush (v := 8) hx hb dX10_qWordHere_117 rfl ?_
                                    subst hQ; exact k_iret hx hb hr hlk rfl v123 hS ⟨ib_w 0 1600 h221 rfl, ib_w (-1) 12 (ib_c 8 8 8 rfl) rfl, (by have := (h221).1; have := h130; have := h115; have := h100; have := h85; have := h70; have := h55; have := h40; have := h25; have := h10; have := (hx_at).2; omega), fun q9 => (by have e0n : v3 = x_at := h11 q9; have e1n : v18 = x_at := (h26 (by rw [e0n]; exact q9)).trans e0n; have e2n : v33 = x_at := (h41 (by rw [e1n]; exact q9)).trans e1n; have e3n : v48 = x_at := (h56 (by rw [e2n]; exact q9)).trans e2n; have e4n : v63 = x_at := (h71 (by rw [e3n]; exact q9)).trans e3n; have e5n : v78 = x_at := (h86 (by rw [e4n]; exact q9)).trans e4n; have e6n : v93 = x_at := (h101 (by rw [e5n]; exact q9)).trans e5n; have e7n : v108 = x_at := (h116 (by rw [e6n]; exact q9)).trans e6n; have e8n : v123 = x_at := (h131 (by rw [e7n]; exact q9)).trans e7n; exact e8n), (hO.symm.trans (by try simp only [show (8 : Int32).toInt = (8 : Int) from rfl]; exact hq))⟩ (hP.sub [12, 13, 4, 5, 6, 7, 8, 9, 10, 11, 14, 0, 1, 2, 3] rfl) (hD.sub [12, 13, 4, 5, 6, 7, 8, 9, 10, 11, 14, 0, 1, 2, 3] (by decide +kernel) rfl) (Nat.le_of_ble_eq_true rfl) (Nat.le_of_ble_eq_true rfl) dX10_qWordHere_119
                              · replace hq := lf_neg hq (lf_ne (lf_rf r106) (lf_lc 0 (0 : Int) rfl) c118)
                                have h226 : ib r106 1 1 := ib_w 1 1 (ib_ne_lo 0 h110 rfl c118) rfl
                                have h227 : ib v108 0 1597 := ib_w 0 1597 (ib_two h109 (h111 (ib_nz h226 rfl))) rfl
                                have h228 : ib v93 0 1597 := ib_w 0 1597 (ib_two h94 (h112 (ib_nz h226 rfl))) rfl
                                have h229 : ib x_end 1 1600 := ib_w 1 1600 (ib_two hx_end (h113 (ib_nz h226 rfl))) rfl
                                have h230 : ib x_bad 0 0 := ib_w 0 0 (ib_two (ib_any x_bad) (h114 (ib_nz h226 rfl))) rfl
                                have h231 : ib v78 0 1597 := ⟨(h79).1, by have := (h79).2; have := h100; have := (h228).2; omega⟩
                                refine lv_bipush (v := 7) hx hb dX10_qWordHere_103 rfl ?_
                                subst hQ; exact k_iret hx hb hr hlk rfl v108 hS ⟨ib_w 0 1600 h227 rfl, ib_w (-1) 12 (ib_c 7 7 7 rfl) rfl, (by have := (h227).1; have := h115; have := h100; have := h85; have := h70; have := h55; have := h40; have := h25; have := h10; have := (hx_at).2; omega), fun q9 => (by have e0n : v3 = x_at := h11 q9; have e1n : v18 = x_at := (h26 (by rw [e0n]; exact q9)).trans e0n; have e2n : v33 = x_at := (h41 (by rw [e1n]; exact q9)).trans e1n; have e3n : v48 = x_at := (h56 (by rw [e2n]; exact q9)).trans e2n; have e4n : v63 = x_at := (h71 (by rw [e3n]; exact q9)).trans e3n; have e5n : v78 = x_at := (h86 (by rw [e4n]; exact q9)).trans e4n; have e6n : v93 = x_at := (h101 (by rw [e5n]; exact q9)).trans e5n; have e7n : v108 = x_at := (h116 (by rw [e6n]; exact q9)).trans e6n; exact e7n), (hO.symm.trans (by try simp only [show (7 : Int32).toInt = (7 : Int) from rfl]; exact hq))⟩ (hP.sub [12, 13, 5, 6, 7, 8, 9, 10, 11, 14, 0, 1, 2, 3, 4] rfl) (hD.sub [12, 13, 5, 6, 7, 8, 9, 10, 11, 14, 0, 1, 2, 3, 4] (by decide +kernel) rfl) (Nat.le_of_ble_eq_true rfl) (Nat.le_of_ble_eq_true rfl) dX10_qWordHere_105
                          · replace hq := lf_neg hq (lf_ne (lf_rf r91) (lf_lc 0 (0 : Int) rfl) c103)
                            have h232 : ib r91 1 1 := ib_w 1 1 (ib_ne_lo 0 h95 rfl c103) rfl
                            have h233 : ib v93 0 1594 := ib_w 0 1594 (ib_two h94 (h96 (ib_nz h232 rfl))) rfl
                            have h234 : ib v78 0 1594 := ib_w 0 1594 (ib_two h79 (h97 (ib_nz h232 rfl))) rfl
                            have h235 : ib x_end 1 1600 := ib_w 1 1600 (ib_two hx_end (h98 (ib_nz h232 rfl))) rfl
                            have h236 : ib x_bad 0 0 := ib_w 0 0 (ib_two (ib_any x_bad) (h99 (ib_nz h232 rfl))) rfl
                            have h237 : ib v63 0 1594 := ⟨(h64).1, by have := (h64).2; have := h85; have := (h234).2; omega⟩
                            refine lv_bipush (v := 6) hx hb dX10_qWordHere_89 rfl ?_
                            subst hQ; exact k_iret hx hb hr hlk rfl v93 hS ⟨ib_w 0 1600 h233 rfl, ib_w (-1) 12 (ib_c 6 6 6 rfl) rfl, (by have := (h233).1; have := h100; have := h85; have := h70; have := h55; have := h40; have := h25; have := h10; have := (hx_at).2; omega), fun q9 => (by have e0n : v3 = x_at := h11 q9; have e1n : v18 = x_at := (h26 (by rw [e0n]; exact q9)).trans e0n; have e2n : v33 = x_at := (h41 (by rw [e1n]; exact q9)).trans e1n; have e3n : v48 = x_at := (h56 (by rw [e2n]; exact q9)).trans e2n; have e4n : v63 = x_at := (h71 (by rw [e3n]; exact q9)).trans e3n; have e5n : v78 = x_at := (h86 (by rw [e4n]; exact q9)).trans e4n; have e6n : v93 = x_at := (h101 (by rw [e5n]; exact q9)).trans e5n; exact e6n), (hO.symm.trans (by try simp only [show (6 : Int32).toInt = (6 : Int) from rfl]; exact hq))⟩ (hP.sub [12, 13, 6, 7, 8, 9, 10, 11, 14, 0, 1, 2, 3, 4, 5] rfl) (hD.sub [12, 13, 6, 7, 8, 9, 10, 11, 14, 0, 1, 2, 3, 4, 5] (by decide +kernel) rfl) (Nat.le_of_ble_eq_true rfl) (Nat.le_of_ble_eq_true rfl) dX10_qWordHere_91
                      · replace hq := lf_neg hq (lf_ne (lf_rf r76) (lf_lc 0 (0 : Int) rfl) c88)
                        have h238 : ib r76 1 1 := ib_w 1 1 (ib_ne_lo 0 h80 rfl c88) rfl
                        have h239 : ib v78 0 1596 := ib_w 0 1596 (ib_two h79 (h81 (ib_nz h238 rfl))) rfl
                        have h240 : ib v63 0 1596 := ib_w 0 1596 (ib_two h64 (h82 (ib_nz h238 rfl))) rfl
                        have h241 : ib x_end 1 1600 := ib_w 1 1600 (ib_two hx_end (h83 (ib_nz h238 rfl))) rfl
                        have h242 : ib x_bad 0 0 := ib_w 0 0 (ib_two (ib_any x_bad) (h84 (ib_nz h238 rfl))) rfl
                        have h243 : ib v48 0 1596 := ⟨(h49).1, by have := (h49).2; have := h70; have := (h240).2; omega⟩
                        refine lv_iconst (v := 5) hx hb dX10_qWordHere_76 rfl ?_
                        subst hQ; exact k_iret hx hb hr hlk rfl v78 hS ⟨ib_w 0 1600 h239 rfl, ib_w (-1) 12 (ib_c 5 5 5 rfl) rfl, (by have := (h239).1; have := h85; have := h70; have := h55; have := h40; have := h25; have := h10; have := (hx_at).2; omega), fun q9 => (by have e0n : v3 = x_at := h11 q9; have e1n : v18 = x_at := (h26 (by rw [e0n]; exact q9)).trans e0n; have e2n : v33 = x_at := (h41 (by rw [e1n]; exact q9)).trans e1n; have e3n : v48 = x_at := (h56 (by rw [e2n]; exact q9)).trans e2n; have e4n : v63 = x_at := (h71 (by rw [e3n]; exact q9)).trans e3n; have e5n : v78 = x_at := (h86 (by rw [e4n]; exact q9)).trans e4n; exact e5n), (hO.symm.trans (by try simp only [show (5 : Int32).toInt = (5 : Int) from rfl]; exact hq))⟩ (hP.sub [12, 13, 7, 8, 9, 10, 11, 14, 0, 1, 2, 3, 4, 5, 6] rfl) (hD.sub [12, 13, 7, 8, 9, 10, 11, 14, 0, 1, 2, 3, 4, 5, 6] (by decide +kernel) rfl) (Nat.le_of_ble_eq_true rfl) (Nat.le_of_ble_eq_true rfl) dX10_qWordHere_77
                  · replace hq := lf_neg hq (lf_ne (lf_rf r61) (lf_lc 0 (0 : Int) rfl) c73)
                    have h244 : ib r61 1 1 := ib_w 1 1 (ib_ne_lo 0 h65 rfl c73) rfl
                    have h245 : ib v63 0 1596 := ib_w 0 1596 (ib_two h64 (h66 (ib_nz h244 rfl))) rfl
                    have h246 : ib v48 0 1596 := ib_w 0 1596 (ib_two h49 (h67 (ib_nz h244 rfl))) rfl
                    have h247 : ib x_end 1 1600 := ib_w 1 1600 (ib_two hx_end (h68 (ib_nz h244 rfl))) rfl
                    have h248 : ib x_bad 0 0 := ib_w 0 0 (ib_two (ib_any x_bad) (h69 (ib_nz h244 rfl))) rfl
                    have h249 : ib v33 0 1596 := ⟨(h34).1, by have := (h34).2; have := h55; have := (h246).2; omega⟩
                    refine lv_iconst (v := 4) hx hb dX10_qWordHere_63 rfl ?_
                    subst hQ; exact k_iret hx hb hr hlk rfl v63 hS ⟨ib_w 0 1600 h245 rfl, ib_w (-1) 12 (ib_c 4 4 4 rfl) rfl, (by have := (h245).1; have := h70; have := h55; have := h40; have := h25; have := h10; have := (hx_at).2; omega), fun q9 => (by have e0n : v3 = x_at := h11 q9; have e1n : v18 = x_at := (h26 (by rw [e0n]; exact q9)).trans e0n; have e2n : v33 = x_at := (h41 (by rw [e1n]; exact q9)).trans e1n; have e3n : v48 = x_at := (h56 (by rw [e2n]; exact q9)).trans e2n; have e4n : v63 = x_at := (h71 (by rw [e3n]; exact q9)).trans e3n; exact e4n), (hO.symm.trans (by try simp only [show (4 : Int32).toInt = (4 : Int) from rfl]; exact hq))⟩ (hP.sub [12, 13, 8, 9, 10, 11, 14, 0, 1, 2, 3, 4, 5, 6, 7] rfl) (hD.sub [12, 13, 8, 9, 10, 11, 14, 0, 1, 2, 3, 4, 5, 6, 7] (by decide +kernel) rfl) (Nat.le_of_ble_eq_true rfl) (Nat.le_of_ble_eq_true rfl) dX10_qWordHere_64
              · replace hq := lf_neg hq (lf_ne (lf_rf r46) (lf_lc 0 (0 : Int) rfl) c58)
                have h250 : ib r46 1 1 := ib_w 1 1 (ib_ne_lo 0 h50 rfl c58) rfl
                have h251 : ib v48 0 1594 := ib_w 0 1594 (ib_two h49 (h51 (ib_nz h250 rfl))) rfl
                have h252 : ib v33 0 1594 := ib_w 0 1594 (ib_two h34 (h52 (ib_nz h250 rfl))) rfl
                have h253 : ib x_end 1 1600 := ib_w 1 1600 (ib_two hx_end (h53 (ib_nz h250 rfl))) rfl
                have h254 : ib x_bad 0 0 := ib_w 0 0 (ib_two (ib_any x_bad) (h54 (ib_nz h250 rfl))) rfl
                have h255 : ib v18 0 1594 := ⟨(h19).1, by have := (h19).2; have := h40; have := (h252).2; omega⟩
                refine lv_iconst (v := 3) hx hb dX10_qWordHere_50 rfl ?_
                subst hQ; exact k_iret hx hb hr hlk rfl v48 hS ⟨ib_w 0 1600 h251 rfl, ib_w (-1) 12 (ib_c 3 3 3 rfl) rfl, (by have := (h251).1; have := h55; have := h40; have := h25; have := h10; have := (hx_at).2; omega), fun q9 => (by have e0n : v3 = x_at := h11 q9; have e1n : v18 = x_at := (h26 (by rw [e0n]; exact q9)).trans e0n; have e2n : v33 = x_at := (h41 (by rw [e1n]; exact q9)).trans e1n; have e3n : v48 = x_at := (h56 (by rw [e2n]; exact q9)).trans e2n; exact e3n), (hO.symm.trans (by try simp only [show (3 : Int32).toInt = (3 : Int) from rfl]; exact hq))⟩ (hP.sub [12, 13, 9, 10, 11, 14, 0, 1, 2, 3, 4, 5, 6, 7, 8] rfl) (hD.sub [12, 13, 9, 10, 11, 14, 0, 1, 2, 3, 4, 5, 6, 7, 8] (by decide +kernel) rfl) (Nat.le_of_ble_eq_true rfl) (Nat.le_of_ble_eq_true rfl) dX10_qWordHere_51
          · replace hq := lf_neg hq (lf_ne (lf_rf r31) (lf_lc 0 (0 : Int) rfl) c43)
            have h256 : ib r31 1 1 := ib_w 1 1 (ib_ne_lo 0 h35 rfl c43) rfl
            have h257 : ib v33 0 1595 := ib_w 0 1595 (ib_two h34 (h36 (ib_nz h256 rfl))) rfl
            have h258 : ib v18 0 1595 := ib_w 0 1595 (ib_two h19 (h37 (ib_nz h256 rfl))) rfl
            have h259 : ib x_end 1 1600 := ib_w 1 1600 (ib_two hx_end (h38 (ib_nz h256 rfl))) rfl
            have h260 : ib x_bad 0 0 := ib_w 0 0 (ib_two (ib_any x_bad) (h39 (ib_nz h256 rfl))) rfl
            have h261 : ib v3 0 1595 := ⟨(h4).1, by have := (h4).2; have := h25; have := (h258).2; omega⟩
            refine lv_iconst (v := 2) hx hb dX10_qWordHere_37 rfl ?_
            subst hQ; exact k_iret hx hb hr hlk rfl v33 hS ⟨ib_w 0 1600 h257 rfl, ib_w (-1) 12 (ib_c 2 2 2 rfl) rfl, (by have := (h257).1; have := h40; have := h25; have := h10; have := (hx_at).2; omega), fun q9 => (by have e0n : v3 = x_at := h11 q9; have e1n : v18 = x_at := (h26 (by rw [e0n]; exact q9)).trans e0n; have e2n : v33 = x_at := (h41 (by rw [e1n]; exact q9)).trans e1n; exact e2n), (hO.symm.trans (by try simp only [show (2 : Int32).toInt = (2 : Int) from rfl]; exact hq))⟩ (hP.sub [12, 13, 10, 11, 14, 0, 1, 2, 3, 4, 5, 6, 7, 8, 9] rfl) (hD.sub [12, 13, 10, 11, 14, 0, 1, 2, 3, 4, 5, 6, 7, 8, 9] (by decide +kernel) rfl) (Nat.le_of_ble_eq_true rfl) (Nat.le_of_ble_eq_true rfl) dX10_qWordHere_38
      · replace hq := lf_neg hq (lf_ne (lf_rf r16) (lf_lc 0 (0 : Int) rfl) c28)
        have h262 : ib r16 1 1 := ib_w 1 1 (ib_ne_lo 0 h20 rfl c28) rfl
        have h263 : ib v18 0 1597 := ib_w 0 1597 (ib_two h19 (h21 (ib_nz h262 rfl))) rfl
        have h264 : ib v3 0 1597 := ib_w 0 1597 (ib_two h4 (h22 (ib_nz h262 rfl))) rfl
        have h265 : ib x_end 1 1600 := ib_w 1 1600 (ib_two hx_end (h23 (ib_nz h262 rfl))) rfl
        have h266 : ib x_bad 0 0 := ib_w 0 0 (ib_two (ib_any x_bad) (h24 (ib_nz h262 rfl))) rfl
        have h267 : ib x_at 0 1597 := ⟨(hx_at).1, by have := (hx_at).2; have := h10; have := (h264).2; omega⟩
        refine lv_iconst (v := 1) hx hb dX10_qWordHere_24 rfl ?_
        subst hQ; exact k_iret hx hb hr hlk rfl v18 hS ⟨ib_w 0 1600 h263 rfl, ib_w (-1) 12 (ib_c 1 1 1 rfl) rfl, (by have := h25; have := h10; omega), fun q9 => (by have e0n : v3 = x_at := h11 q9; have e1n : v18 = x_at := (h26 (by rw [e0n]; exact q9)).trans e0n; exact e1n), (hO.symm.trans (by try simp only [show (1 : Int32).toInt = (1 : Int) from rfl]; exact hq))⟩ (hP.sub [12, 13, 11, 14, 0, 1, 2, 3, 4, 5, 6, 7, 8, 9, 10] rfl) (hD.sub [12, 13, 11, 14, 0, 1, 2, 3, 4, 5, 6, 7, 8, 9, 10] (by decide +kernel) rfl) (Nat.le_of_ble_eq_true rfl) (Nat.le_of_ble_eq_true rfl) dX10_qWordHere_25
  · replace hq := lf_neg hq (lf_ne (lf_rf r1) (lf_lc 0 (0 : Int) rfl) c13)
    have h268 : ib r1 1 1 := ib_w 1 1 (ib_ne_lo 0 h5 rfl c13) rfl
    have h269 : ib v3 0 1594 := ib_w 0 1594 (ib_two h4 (h6 (ib_nz h268 rfl))) rfl
    have h270 : ib x_at 0 1594 := ib_w 0 1594 (ib_two hx_at (h7 (ib_nz h268 rfl))) rfl
    have h271 : ib x_end 1 1600 := ib_w 1 1600 (ib_two hx_end (h8 (ib_nz h268 rfl))) rfl
    have h272 : ib x_bad 0 0 := ib_w 0 0 (ib_two (ib_any x_bad) (h9 (ib_nz h268 rfl))) rfl
    refine lv_iconst (v := 0) hx hb dX10_qWordHere_11 rfl ?_
    subst hQ; exact k_iret hx hb hr hlk rfl v3 hS ⟨ib_w 0 1600 h269 rfl, ib_w (-1) 12 (ib_c 0 0 0 rfl) rfl, (by have := h10; omega), fun q9 => (by have e0n : v3 = x_at := h11 q9; exact e0n), (hO.symm.trans (by try simp only [show (0 : Int32).toInt = (0 : Int) from rfl]; exact hq))⟩ (hP.sub [12, 13, 14, 0, 1, 2, 3, 4, 5, 6, 7, 8, 9, 10, 11] rfl) (hD.sub [12, 13, 14, 0, 1, 2, 3, 4, 5, 6, 7, 8, 9, 10, 11] (by decide +kernel) rfl) (Nat.le_of_ble_eq_true rfl) (Nat.le_of_ble_eq_true rfl) dX10_qWordHere_12
set_option maxHeartbeats 4000000 in
set_option maxRecDepth 100000 in
theorem s_X10_isAllowed (l : Launch) (dC : Nat → ClassId) (dI : Nat → Nat → Nat) (cy : Nat → ClassId) (sq : Nat → Nat) (a_this : Nat) (rm : Nat → Nat) (x_taped : Int32) (x_at : Int32) (x_end : Int32) (x_ended : Int32) (x_bad : Int32) (x_badPlace : Int32) (x_fault : Int32) (x_faultPlace : Int32) (x_namePlace : Int32) (x_awayTold : Int32) (x_away : Int32) (x_coded : Int32) (x_statements : Int32) (x_isCrossing : Int32) (x_textKind : Int32) (x_askSecond : Int32) (x_redMany : Int32) (x_isOpen : Int32) (x_lastGreen : Int32) (x_greenTo : Int32) (x_isCycleGreen : Int32) (x_stillGreen : Int32) (x_rowMany : Int32) (x_fitMany : Int32) (x_fitRules : Int32) (x_fitGreen : Int32) (x_undoable : Int32) (x_newest : Int32) (x_seeded : Int64) (x_qCoded : Int32) (x_qWaits : Int32) (x_qOpened : Int32) (x_qBase : Int32) (x_qPiled : Int32) (x_qAnswer : Int64) (x_qIsNew : Int32) (x_octets : Int32) (p0 : Int32)  : k_Met l yX10_isAllowed cX10_isAllowed 2 (some .boolean) { frames := 1, cells := 0, slots := 0, locals := 25 } dC dI cy sq [.ref a_this, .int p0] [(a_this, .inr (10, mfs rm x_taped x_at x_end x_ended x_bad x_badPlace x_fault x_faultPlace x_namePlace x_awayTold x_away x_coded x_statements x_isCrossing x_textKind x_askSecond x_redMany x_isOpen x_lastGreen x_greenTo x_isCycleGreen x_stillGreen x_rowMany x_fitMany x_fitRules x_fitGreen x_undoable x_newest x_seeded x_qCoded x_qWaits x_qOpened x_qBase x_qPiled x_qAnswer x_qIsNew x_octets))] (k_Qi dC dI (fun (r : Int32) (_ : Unit) => ib r 0 1 ∧ (¬ r = 0 → ¬ x_textKind = 1 → ¬ p0 = 7) ∧ (F_X10_isAllowed (Int32.toInt x_textKind) (Int32.toInt p0) = ((Int32.toInt r)))) (fun _ : Unit => [(a_this, .inr (10, mfs rm x_taped x_at x_end x_ended x_bad x_badPlace x_fault x_faultPlace x_namePlace x_awayTold x_away x_coded x_statements x_isCrossing x_textKind x_askSecond x_redMany x_isOpen x_lastGreen x_greenTo x_isCycleGreen x_stillGreen x_rowMany x_fitMany x_fitRules x_fitGreen x_undoable x_newest x_seeded x_qCoded x_qWaits x_qOpened x_qBase x_qPiled x_qAnswer x_qIsNew x_octets))])) := by
  refine k_ofW2 (by decide +kernel) (Nat.le_of_ble_eq_true rfl) ?_
  intro p e s m below meth c A ls H locs args Q hQ C0 hZ hr hlk hin hP hD hA hS hl
  have C0 : k_cx p s m args c cX10_isAllowed 2 RX10 dC dI cy sq := C0
  have hx := C0.1
  have hb := C0.2.1
  have hl : lv_has ls 2 [(0, .ref a_this), (1, .int p0)] := hl
  obtain ⟨O, hO⟩ : ∃ o, o = F_X10_isAllowed (Int32.toInt x_textKind) (Int32.toInt p0) := ⟨_, rfl⟩
  have hq := hO
  unfold F_X10_isAllowed at hq
  refine lv_aload_n hx hb dX10_isAllowed_0 rfl (lv_at hl 0 rfl) ?_
  refine k_get C0 fg_X10_333 hP 0 rfl rfl dX10_isAllowed_1 ?_
  rcases Decidable.em (x_textKind = 0) with s1_0 | s1_0
  · skip
    replace hq := lf_pos hq (lf_eq (lf_rf x_textKind) (lf_lc 0 (0 : Int) rfl) s1_0)
    have h2 : ib x_textKind 0 0 := by rw [s1_0]; exact ib_c 0 0 0 rfl
    refine lv_tableIn (off := 28) (tgt := 32) hx hb dX10_isAllowed_4 (by rw [s1_0]; decide) (by rw [s1_0]; decide) (by rw [s1_0]; decide) (by decide) ?_
    refine lv_iload_n hx hb dX10_isAllowed_32 rfl (lv_at hl 1 rfl) ?_
    refine lv_iconst (v := 3) hx hb dX10_isAllowed_33 rfl ?_
    refine lv_icmp_ge (tgt := 41) hx hb dX10_isAllowed_34 rfl (fun c3 => ?_) (fun c3 => ?_)
    · replace hq := lf_pos hq (lf_le (lf_lc 3 (3 : Int) rfl) (lf_rf p0) c3)
      have h4 := ib_le (ib_c 3 3 3 rfl) (ib_any p0) c3
      have h5 : ib p0 3 2147483647 := ib_w 3 2147483647 h4.2 rfl
      refine lv_iconst (v := 0) hx hb dX10_isAllowed_41 rfl ?_
      subst hQ; exact k_iret hx hb hr hlk (k_nb 0 rfl) () hS ⟨ib_w 0 1 (ib_c 0 0 0 rfl) rfl, fun q => absurd rfl q, (hO.symm.trans (by try simp only [show (0 : Int32).toInt = (0 : Int) from rfl]; exact hq))⟩ hP hD (Nat.le_of_ble_eq_true rfl) (Nat.le_of_ble_eq_true rfl) dX10_isAllowed_42
    · replace hq := lf_neg hq (lf_nle (lf_lc 3 (3 : Int) rfl) (lf_rf p0) c3)
      have h6 := ib_nle (ib_c 3 3 3 rfl) (ib_any p0) c3
      have h7 : ib p0 (-2147483648) 2 := ib_w (-2147483648) 2 h6.2 rfl
      refine lv_iconst (v := 1) hx hb dX10_isAllowed_37 rfl ?_
      refine lv_goto (tgt := 42) hx hb dX10_isAllowed_38 rfl ?_
      subst hQ; exact k_iret hx hb hr hlk (k_nb 1 rfl) () hS ⟨ib_w 0 1 (ib_c 1 1 1 rfl) rfl, fun _ _ => ib_nc 7 h7 rfl, (hO.symm.trans (by try simp only [show (1 : Int32).toInt = (1 : Int) from rfl]; exact hq))⟩ hP hD (Nat.le_of_ble_eq_true rfl) (Nat.le_of_ble_eq_true rfl) dX10_isAllowed_42
  replace hq := lf_neg hq (lf_ne (lf_rf x_textKind) (lf_lc 0 (0 : Int) rfl) s1_0)
  rcases Decidable.em (x_textKind = 1) with s1_1 | s1_1
  · as_aux_lemma =>
      skip
      replace hq := lf_pos hq (lf_eq (lf_rf x_textKind) (lf_lc 1 (1 : Int) rfl) s1_1)
      have h8 : ib x_textKind 1 1 := by rw [s1_1]; exact ib_c 1 1 1 rfl
      refine lv_tableIn (off := 39) (tgt := 43) hx hb dX10_isAllowed_4 (by rw [s1_1]; decide) (by rw [s1_1]; decide) (by rw [s1_1]; decide) (by decide) ?_
      refine lv_iload_n hx hb dX10_isAllowed_43 rfl (lv_at hl 1 rfl) ?_
      refine lv_iconst (v := 2) hx hb dX10_isAllowed_44 rfl ?_
      refine lv_icmp_lt (tgt := 62) hx hb dX10_isAllowed_45 rfl (fun c9 => ?_) (fun c9 => ?_)
      · replace hq := lf_pos hq (lf_lt (lf_rf p0) (lf_lc 2 (2 : Int) rfl) c9)
        have h10 := ib_lt (ib_any p0) (ib_c 2 2 2 rfl) c9
        have h11 : ib p0 (-2147483648) 1 := ib_w (-2147483648) 1 h10.1 rfl
        refine lv_iconst (v := 1) hx hb dX10_isAllowed_62 rfl ?_
        refine lv_goto (tgt := 67) hx hb dX10_isAllowed_63 rfl ?_
        subst hQ; exact k_iret hx hb hr hlk (k_nb 1 rfl) () hS ⟨ib_w 0 1 (ib_c 1 1 1 rfl) rfl, fun _ q => absurd (ib_one h8 rfl) q, (hO.symm.trans (by try simp only [show (1 : Int32).toInt = (1 : Int) from rfl]; exact hq))⟩ hP hD (Nat.le_of_ble_eq_true rfl) (Nat.le_of_ble_eq_true rfl) dX10_isAllowed_67
      · as_aux_lemma =>
          replace hq := lf_neg hq (lf_nlt (lf_rf p0) (lf_lc 2 (2 : Int) rfl) c9)
          have h12 := ib_nlt (ib_any p0) (ib_c 2 2 2 rfl) c9
          have h13 : ib p0 2 2147483647 := ib_w 2 2147483647 h12.1 rfl
          refine lv_iload_n hx hb dX10_isAllowed_48 rfl (lv_at hl 1 rfl) ?_
          refine lv_i2l (v := p0.toInt64) hx hb dX10_isAllowed_49 rfl ?_
          refine lv_ldc2 hx hb C0.2.2.2.1 (C0.2.2.2.2.1 _ wd669) dX10_isAllowed_50 ?_
          refine lv_ldc2 hx hb C0.2.2.2.1 (C0.2.2.2.2.1 _ wd670) dX10_isAllowed_53 ?_
          refine k_jim hP hD hS hA [] [true] rfl rfl rfl 0 0 (Nat.le_of_ble_eq_true rfl) (Nat.le_of_ble_eq_true rfl) (fun hPc hDc => k_runS (As := [.long p0.toInt64, .long 3, .long 8]) (rest := []) C0 hZ hS hA (c_isIn l dC dI cy sq p0.toInt64 3 8) mS_X10_318 hPc hDc hl rfl rfl (Nat.le_of_ble_eq_true rfl) ⟨(Nat.le_of_ble_eq_true rfl), (Nat.le_of_ble_eq_true rfl)⟩ ⟨(Nat.le_of_ble_eq_true rfl), (Nat.le_of_ble_eq_true rfl)⟩ dX10_isAllowed_56) (fun r14 u15 H locs hw hP hD hS => ?_)
          replace hP : va_P (dC, dI) vwCl [(a_this, .inr (10, mfs rm x_taped x_at x_end x_ended x_bad x_badPlace x_fault x_faultPlace x_namePlace x_awayTold x_away x_coded x_statements x_isCrossing x_textKind x_askSecond x_redMany x_isOpen x_lastGreen x_greenTo x_isCycleGreen x_stillGreen x_rowMany x_fitMany x_fitRules x_fitGreen x_undoable x_newest x_seeded x_qCoded x_qWaits x_qOpened x_qBase x_qPiled x_qAnswer x_qIsNew x_octets))] H := hP
          replace hD := k_D hP hD
          have h16 := hw
          have h17 : ib r14 0 1 := by rw [h16]; exact k_isf_01 _ _ _
          have Er14 := lf_isine h16 (lf_i2l (lf_rf p0)) (lf_ll 3 (3 : Int) rfl) (lf_ll 8 (8 : Int) rfl)
          refine lv_if_eq (tgt := 66) hx hb dX10_isAllowed_59 rfl (fun c18 => ?_) (fun c18 => ?_)
          · replace hq := lf_pos hq (lf_eq Er14 (lf_lc 0 (0 : Int) rfl) c18)
            have h19 := ib_eq h17 (ib_c 0 0 0 rfl) c18
            have h20 : ib r14 0 0 := ib_w 0 0 h19.1 rfl
            refine lv_iconst (v := 0) hx hb dX10_isAllowed_66 rfl ?_
            subst hQ; exact k_iret hx hb hr hlk (k_nb 0 rfl) () hS ⟨ib_w 0 1 (ib_c 0 0 0 rfl) rfl, fun q => absurd rfl q, (hO.symm.trans (by try simp only [show (0 : Int32).toInt = (0 : Int) from rfl]; exact hq))⟩ hP hD (Nat.le_of_ble_eq_true rfl) (Nat.le_of_ble_eq_true rfl) dX10_isAllowed_67
          · replace hq := lf_neg hq (lf_ne Er14 (lf_lc 0 (0 : Int) rfl) c18)
            have h21 : ib r14 1 1 := ib_w 1 1 (ib_ne_lo 0 h17 rfl c18) rfl
            have h22 : ib p0 3 8 := ib_w 3 8 (ib_two h13 (k_isf_v h16 (show 3 ≤ (3 : Int64).toInt by decide) (show (8 : Int64).toInt ≤ 8 by decide) (ib_nz h21 rfl))) rfl
            refine lv_iconst (v := 1) hx hb dX10_isAllowed_62 rfl ?_
            refine lv_goto (tgt := 67) hx hb dX10_isAllowed_63 rfl ?_
            subst hQ; exact k_iret hx hb hr hlk (k_nb 1 rfl) () hS ⟨ib_w 0 1 (ib_c 1 1 1 rfl) rfl, fun _ q => absurd (ib_one h8 rfl) q, (hO.symm.trans (by try simp only [show (1 : Int32).toInt = (1 : Int) from rfl]; exact hq))⟩ hP hD (Nat.le_of_ble_eq_true rfl) (Nat.le_of_ble_eq_true rfl) dX10_isAllowed_67
  replace hq := lf_neg hq (lf_ne (lf_rf x_textKind) (lf_lc 1 (1 : Int) rfl) s1_1)
  rcases Decidable.em (x_textKind = 2) with s1_2 | s1_2
  · as_aux_lemma =>
      skip
      replace hq := lf_pos hq (lf_eq (lf_rf x_textKind) (lf_lc 2 (2 : Int) rfl) s1_2)
      have h23 : ib x_textKind 2 2 := by rw [s1_2]; exact ib_c 2 2 2 rfl
      refine lv_tableIn (off := 64) (tgt := 68) hx hb dX10_isAllowed_4 (by rw [s1_2]; decide) (by rw [s1_2]; decide) (by rw [s1_2]; decide) (by decide) ?_
      refine lv_iload_n hx hb dX10_isAllowed_68 rfl (lv_at hl 1 rfl) ?_
      refine lv_iconst (v := 2) hx hb dX10_isAllowed_69 rfl ?_
      refine lv_icmp_lt (tgt := 87) hx hb dX10_isAllowed_70 rfl (fun c24 => ?_) (fun c24 => ?_)
      · replace hq := lf_pos hq (lf_lt (lf_rf p0) (lf_lc 2 (2 : Int) rfl) c24)
        have h25 := ib_lt (ib_any p0) (ib_c 2 2 2 rfl) c24
        have h26 : ib p0 (-2147483648) 1 := ib_w (-2147483648) 1 h25.1 rfl
        refine lv_iconst (v := 1) hx hb dX10_isAllowed_87 rfl ?_
        refine lv_goto (tgt := 92) hx hb dX10_isAllowed_88 rfl ?_
        subst hQ; exact k_iret hx hb hr hlk (k_nb 1 rfl) () hS ⟨ib_w 0 1 (ib_c 1 1 1 rfl) rfl, fun _ _ => ib_nc 7 h26 rfl, (hO.symm.trans (by try simp only [show (1 : Int32).toInt = (1 : Int) from rfl]; exact hq))⟩ hP hD (Nat.le_of_ble_eq_true rfl) (Nat.le_of_ble_eq_true rfl) dX10_isAllowed_92
      · as_aux_lemma =>
          replace hq := lf_neg hq (lf_nlt (lf_rf p0) (lf_lc 2 (2 : Int) rfl) c24)
          have h27 := ib_nlt (ib_any p0) (ib_c 2 2 2 rfl) c24
          have h28 : ib p0 2 2147483647 := ib_w 2 2147483647 h27.1 rfl
          refine lv_iload_n hx hb dX10_isAllowed_73 rfl (lv_at hl 1 rfl) ?_
          refine lv_i2l (v := p0.toInt64) hx hb dX10_isAllowed_74 rfl ?_
          refine lv_ldc2 hx hb C0.2.2.2.1 (C0.2.2.2.2.1 _ wd669) dX10_isAllowed_75 ?_
          refine lv_ldc2 hx hb C0.2.2.2.1 (C0.2.2.2.2.1 _ wd671) dX10_isAllowed_78 ?_
          refine k_jim hP hD hS hA [] [true] rfl rfl rfl 0 0 (Nat.le_of_ble_eq_true rfl) (Nat.le_of_ble_eq_true rfl) (fun hPc hDc => k_runS (As := [.long p0.toInt64, .long 3, .long 6]) (rest := []) C0 hZ hS hA (c_isIn l dC dI cy sq p0.toInt64 3 6) mS_X10_318 hPc hDc hl rfl rfl (Nat.le_of_ble_eq_true rfl) ⟨(Nat.le_of_ble_eq_true rfl), (Nat.le_of_ble_eq_true rfl)⟩ ⟨(Nat.le_of_ble_eq_true rfl), (Nat.le_of_ble_eq_true rfl)⟩ dX10_isAllowed_81) (fun r29 u30 H locs hw hP hD hS => ?_)
          replace hP : va_P (dC, dI) vwCl [(a_this, .inr (10, mfs rm x_taped x_at x_end x_ended x_bad x_badPlace x_fault x_faultPlace x_namePlace x_awayTold x_away x_coded x_statements x_isCrossing x_textKind x_askSecond x_redMany x_isOpen x_lastGreen x_greenTo x_isCycleGreen x_stillGreen x_rowMany x_fitMany x_fitRules x_fitGreen x_undoable x_newest x_seeded x_qCoded x_qWaits x_qOpened x_qBase x_qPiled x_qAnswer x_qIsNew x_octets))] H := hP
          replace hD := k_D hP hD
          have h31 := hw
          have h32 : ib r29 0 1 := by rw [h31]; exact k_isf_01 _ _ _
          have Er29 := lf_isine h31 (lf_i2l (lf_rf p0)) (lf_ll 3 (3 : Int) rfl) (lf_ll 6 (6 : Int) rfl)
          refine lv_if_eq (tgt := 91) hx hb dX10_isAllowed_84 rfl (fun c33 => ?_) (fun c33 => ?_)
          · replace hq := lf_pos hq (lf_eq Er29 (lf_lc 0 (0 : Int) rfl) c33)
            have h34 := ib_eq h32 (ib_c 0 0 0 rfl) c33
            have h35 : ib r29 0 0 := ib_w 0 0 h34.1 rfl
            refine lv_iconst (v := 0) hx hb dX10_isAllowed_91 rfl ?_
            subst hQ; exact k_iret hx hb hr hlk (k_nb 0 rfl) () hS ⟨ib_w 0 1 (ib_c 0 0 0 rfl) rfl, fun q => absurd rfl q, (hO.symm.trans (by try simp only [show (0 : Int32).toInt = (0 : Int) from rfl]; exact hq))⟩ hP hD (Nat.le_of_ble_eq_true rfl) (Nat.le_of_ble_eq_true rfl) dX10_isAllowed_92
          · replace hq := lf_neg hq (lf_ne Er29 (lf_lc 0 (0 : Int) rfl) c33)
            have h36 : ib r29 1 1 := ib_w 1 1 (ib_ne_lo 0 h32 rfl c33) rfl
            have h37 : ib p0 3 6 := ib_w 3 6 (ib_two h28 (k_isf_v h31 (show 3 ≤ (3 : Int64).toInt by decide) (show (6 : Int64).toInt ≤ 6 by decide) (ib_nz h36 rfl))) rfl
            refine lv_iconst (v := 1) hx hb dX10_isAllowed_87 rfl ?_
            refine lv_goto (tgt := 92) hx hb dX10_isAllowed_88 rfl ?_
            subst hQ; exact k_iret hx hb hr hlk (k_nb 1 rfl) () hS ⟨ib_w 0 1 (ib_c 1 1 1 rfl) rfl, fun _ _ => ib_nc 7 h37 rfl, (hO.symm.trans (by try simp only [show (1 : Int32).toInt = (1 : Int) from rfl]; exact hq))⟩ hP hD (Nat.le_of_ble_eq_true rfl) (Nat.le_of_ble_eq_true rfl) dX10_isAllowed_92
  replace hq := lf_neg hq (lf_ne (lf_rf x_textKind) (lf_lc 2 (2 : Int) rfl) s1_2)
  refine lv_tableOut (tgt := 93) hx hb dX10_isAllowed_4 (by have q0 := ib_nei 0 0 rfl s1_0; have q1 := ib_nei 1 1 rfl s1_1; have q2 := ib_nei 2 2 rfl s1_2; omega) (by decide) ?_
  refine lv_iload_n hx hb dX10_isAllowed_93 rfl (lv_at hl 1 rfl) ?_
  refine lv_iconst (v := 2) hx hb dX10_isAllowed_94 rfl ?_
  refine lv_icmp_lt (tgt := 118) hx hb dX10_isAllowed_95 rfl (fun c38 => ?_) (fun c38 => ?_)
  · replace hq := lf_pos hq (lf_lt (lf_rf p0) (lf_lc 2 (2 : Int) rfl) c38)
    have h39 := ib_lt (ib_any p0) (ib_c 2 2 2 rfl) c38
    have h40 : ib p0 (-2147483648) 1 := ib_w (-2147483648) 1 h39.1 rfl
    refine lv_iconst (v := 1) hx hb dX10_isAllowed_118 rfl ?_
    refine lv_goto (tgt := 123) hx hb dX10_isAllowed_119 rfl ?_
    subst hQ; exact k_iret hx hb hr hlk (k_nb 1 rfl) () hS ⟨ib_w 0 1 (ib_c 1 1 1 rfl) rfl, fun _ _ => ib_nc 7 h40 rfl, (hO.symm.trans (by try simp only [show (1 : Int32).toInt = (1 : Int) from rfl]; exact hq))⟩ hP hD (Nat.le_of_ble_eq_true rfl) (Nat.le_of_ble_eq_true rfl) dX10_isAllowed_123
  · as_aux_lemma =>
      replace hq := lf_neg hq (lf_nlt (lf_rf p0) (lf_lc 2 (2 : Int) rfl) c38)
      have h41 := ib_nlt (ib_any p0) (ib_c 2 2 2 rfl) c38
      have h42 : ib p0 2 2147483647 := ib_w 2 2147483647 h41.1 rfl
      refine lv_iload_n hx hb dX10_isAllowed_98 rfl (lv_at hl 1 rfl) ?_
      refine lv_i2l (v := p0.toInt64) hx hb dX10_isAllowed_99 rfl ?_
      refine lv_ldc2 hx hb C0.2.2.2.1 (C0.2.2.2.2.1 _ wd669) dX10_isAllowed_100 ?_
      refine lv_ldc2 hx hb C0.2.2.2.1 (C0.2.2.2.2.1 _ wd671) dX10_isAllowed_103 ?_
      refine k_jim hP hD hS hA [] [true] rfl rfl rfl 0 0 (Nat.le_of_ble_eq_true rfl) (Nat.le_of_ble_eq_true rfl) (fun hPc hDc => k_runS (As := [.long p0.toInt64, .long 3, .long 6]) (rest := []) C0 hZ hS hA (c_isIn l dC dI cy sq p0.toInt64 3 6) mS_X10_318 hPc hDc hl rfl rfl (Nat.le_of_ble_eq_true rfl) ⟨(Nat.le_of_ble_eq_true rfl), (Nat.le_of_ble_eq_true rfl)⟩ ⟨(Nat.le_of_ble_eq_true rfl), (Nat.le_of_ble_eq_true rfl)⟩ dX10_isAllowed_106) (fun r43 u44 H locs hw hP hD hS => ?_)
      replace hP : va_P (dC, dI) vwCl [(a_this, .inr (10, mfs rm x_taped x_at x_end x_ended x_bad x_badPlace x_fault x_faultPlace x_namePlace x_awayTold x_away x_coded x_statements x_isCrossing x_textKind x_askSecond x_redMany x_isOpen x_lastGreen x_greenTo x_isCycleGreen x_stillGreen x_rowMany x_fitMany x_fitRules x_fitGreen x_undoable x_newest x_seeded x_qCoded x_qWaits x_qOpened x_qBase x_qPiled x_qAnswer x_qIsNew x_octets))] H := hP
      replace hD := k_D hP hD
      have h45 := hw
      have h46 : ib r43 0 1 := by rw [h45]; exact k_isf_01 _ _ _
      have Er43 := lf_isine h45 (lf_i2l (lf_rf p0)) (lf_ll 3 (3 : Int) rfl) (lf_ll 6 (6 : Int) rfl)
      refine lv_if_ne (tgt := 118) hx hb dX10_isAllowed_109 rfl (fun c47 => ?_) (fun c47 => ?_)
      · replace hq := lf_neg hq (lf_ne Er43 (lf_lc 0 (0 : Int) rfl) c47)
        have h48 : ib r43 1 1 := ib_w 1 1 (ib_ne_lo 0 h46 rfl c47) rfl
        have h49 : ib p0 3 6 := ib_w 3 6 (ib_two h42 (k_isf_v h45 (show 3 ≤ (3 : Int64).toInt by decide) (show (6 : Int64).toInt ≤ 6 by decide) (ib_nz h48 rfl))) rfl
        refine lv_iconst (v := 1) hx hb dX10_isAllowed_118 rfl ?_
        refine lv_goto (tgt := 123) hx hb dX10_isAllowed_119 rfl ?_
        subst hQ; exact k_iret hx hb hr hlk (k_nb 1 rfl) () hS ⟨ib_w 0 1 (ib_c 1 1 1 rfl) rfl, fun _ _ => ib_nc 7 h49 rfl, (hO.symm.trans (by try simp only [show (1 : Int32).toInt = (1 : Int) from rfl]; exact hq))⟩ hP hD (Nat.le_of_ble_eq_true rfl) (Nat.le_of_ble_eq_true rfl) dX10_isAllowed_123
      · replace hq := lf_pos hq (lf_eq Er43 (lf_lc 0 (0 : Int) rfl) c47)
        have h50 := ib_eq h46 (ib_c 0 0 0 rfl) c47
        have h51 : ib r43 0 0 := ib_w 0 0 h50.1 rfl
        refine lv_iload_n hx hb dX10_isAllowed_112 rfl (lv_at hl 1 rfl) ?_
        refine lv_bipush (v := 8) hx hb dX10_isAllowed_113 rfl ?_
        refine lv_icmp_le (tgt := 122) hx hb dX10_isAllowed_115 rfl (fun c52 => ?_) (fun c52 => ?_)
        · replace hq := lf_pos hq (lf_le (lf_rf p0) (lf_lc 8 (8 : Int) rfl) c52)
          have h53 := ib_le h42 (ib_c 8 8 8 rfl) c52
          have h54 : ib p0 2 8 := ib_w 2 8 h53.1 rfl
          refine lv_iconst (v := 0) hx hb dX10_isAllowed_122 rfl ?_
          subst hQ; exact k_iret hx hb hr hlk (k_nb 0 rfl) () hS ⟨ib_w 0 1 (ib_c 0 0 0 rfl) rfl, fun q => absurd rfl q, (hO.symm.trans (by try simp only [show (0 : Int32).toInt = (0 : Int) from rfl]; exact hq))⟩ hP hD (Nat.le_of_ble_eq_true rfl) (Nat.le_of_ble_eq_true rfl) dX10_isAllowed_123
        · replace hq := lf_neg hq (lf_nle (lf_rf p0) (lf_lc 8 (8 : Int) rfl) c52)
          have h55 := ib_nle h42 (ib_c 8 8 8 rfl) c52
          have h56 : ib p0 9 2147483647 := ib_w 9 2147483647 h55.1 rfl
          refine lv_iconst (v := 1) hx hb dX10_isAllowed_118 rfl ?_
          refine lv_goto (tgt := 123) hx hb dX10_isAllowed_119 rfl ?_
          subst hQ; exact k_iret hx hb hr hlk (k_nb 1 rfl) () hS ⟨ib_w 0 1 (ib_c 1 1 1 rfl) rfl, fun _ _ => ib_nc 7 h56 rfl, (hO.symm.trans (by try simp only [show (1 : Int32).toInt = (1 : Int) from rfl]; exact hq))⟩ hP hD (Nat.le_of_ble_eq_true rfl) (Nat.le_of_ble_eq_true rfl) dX10_isAllowed_123
set_option maxHeartbeats 4000000 in
set_option maxRecDepth 100000 in
theorem s_X10_qWordOf_a0_12_a1_13 (l : Launch) (dC : Nat → ClassId) (dI : Nat → Nat → Nat) (cy : Nat → ClassId) (sq : Nat → Nat) (a_this : Nat) (rm : Nat → Nat) (x_taped : Int32) (x_at : Int32) (x_end : Int32) (x_ended : Int32) (x_bad : Int32) (x_badPlace : Int32) (x_fault : Int32) (x_faultPlace : Int32) (x_namePlace : Int32) (x_awayTold : Int32) (x_away : Int32) (x_coded : Int32) (x_statements : Int32) (x_isCrossing : Int32) (x_textKind : Int32) (x_askSecond : Int32) (x_redMany : Int32) (x_isOpen : Int32) (x_lastGreen : Int32) (x_greenTo : Int32) (x_isCycleGreen : Int32) (x_stillGreen : Int32) (x_rowMany : Int32) (x_fitMany : Int32) (x_fitRules : Int32) (x_fitGreen : Int32) (x_undoable : Int32) (x_newest : Int32) (x_seeded : Int64) (x_qCoded : Int32) (x_qWaits : Int32) (x_qOpened : Int32) (x_qBase : Int32) (x_qPiled : Int32) (x_qAnswer : Int64) (x_qIsNew : Int32) (x_octets : Int32) (g_tape : Nat → Int32) (g_secondAsked : Nat → Int32) (g_dayAsked : Nat → Int32) (g_phaseAsked : Nat → Int32) (g_waitedAsked : Nat → Int32) (g_calmAsked : Nat → Int32) (g_paceAsked : Nat → Int32) (g_trustsAsked : Nat → Int32) (g_gapAsked : Nat → Int32) (g_redsAsked : Nat → Int32) (g_numberAsked : Nat → Int32) (g_wentAsked : Nat → Int32) (g_harmAsked : Nat → Int32) (g_kindofAsked : Nat → Int32) (hx_at : ib x_at 0 1600) (hx_end : ib x_end 0 1600) (hg_tape : ia g_tape 1600 0 255) : k_Met l yX10_qWordOf cX10_qWordOf 4 (some .int) { frames := 3, cells := 0, slots := 0, locals := 63 } dC dI cy sq [.ref a_this, .int 12, .int 13] [(a_this, .inr (10, mfs rm x_taped x_at x_end x_ended x_bad x_badPlace x_fault x_faultPlace x_namePlace x_awayTold x_away x_coded x_statements x_isCrossing x_textKind x_askSecond x_redMany x_isOpen x_lastGreen x_greenTo x_isCycleGreen x_stillGreen x_rowMany x_fitMany x_fitRules x_fitGreen x_undoable x_newest x_seeded x_qCoded x_qWaits x_qOpened x_qBase x_qPiled x_qAnswer x_qIsNew x_octets)), (wi_rm0_0_1600_0 rm cy g_tape), (wi_rm97_2_6_0 rm cy g_secondAsked), (wi_rm98_2_3_0 rm cy g_dayAsked), (wi_rm99_2_5_0 rm cy g_phaseAsked), (wi_rm100_2_6_0 rm cy g_waitedAsked), (wi_rm101_2_4_0 rm cy g_calmAsked), (wi_rm102_2_4_0 rm cy g_paceAsked), (wi_rm103_2_6_0 rm cy g_trustsAsked), (wi_rm104_2_3_0 rm cy g_gapAsked), (wi_rm105_2_4_0 rm cy g_redsAsked), (wi_rm106_2_6_0 rm cy g_numberAsked), (wi_rm107_2_4_0 rm cy g_wentAsked), (wi_rm108_2_4_0 rm cy g_harmAsked), (wi_rm109_2_4_0 rm cy g_kindofAsked)] (k_Qi dC dI (fun (r : Int32) (n0 : Int32) => ib n0 0 1600 ∧ ib r (-1) 12 ∧ (1 * x_at.toInt + (-1) * n0.toInt ≤ 0) ∧ (¬ r = (-1) → ¬ x_textKind = 1 → ¬ r = 7) ∧ (NB g_tape x_at x_end → n0 = x_at) ∧ (¬ r = (-1) → ib r 12 12) ∧ (F_X10_qWordOf_a0_12_a1_13 (Int32.toInt x_at) (Int32.toInt x_end) (Int32.toInt x_ended) (Int32.toInt x_bad) (Int32.toInt x_textKind) (lf_A g_tape) (lf_A g_secondAsked) (lf_A g_dayAsked) (lf_A g_phaseAsked) (lf_A g_waitedAsked) (lf_A g_calmAsked) (lf_A g_paceAsked) (lf_A g_trustsAsked) (lf_A g_gapAsked) (lf_A g_redsAsked) (lf_A g_numberAsked) (lf_A g_wentAsked) (lf_A g_harmAsked) (lf_A g_kindofAsked) = ((Int32.toInt r), (Int32.toInt n0)))) (fun n0 : Int32 => [(a_this, .inr (10, mfs rm x_taped n0 x_end x_ended x_bad x_badPlace x_fault x_faultPlace x_namePlace x_awayTold x_away x_coded x_statements x_isCrossing x_textKind x_askSecond x_redMany x_isOpen x_lastGreen x_greenTo x_isCycleGreen x_stillGreen x_rowMany x_fitMany x_fitRules x_fitGreen x_undoable x_newest x_seeded x_qCoded x_qWaits x_qOpened x_qBase x_qPiled x_qAnswer x_qIsNew x_octets)), (wi_rm0_0_1600_0 rm cy g_tape), (wi_rm97_2_6_0 rm cy g_secondAsked), (wi_rm98_2_3_0 rm cy g_dayAsked), (wi_rm99_2_5_0 rm cy g_phaseAsked), (wi_rm100_2_6_0 rm cy g_waitedAsked), (wi_rm101_2_4_0 rm cy g_calmAsked), (wi_rm102_2_4_0 rm cy g_paceAsked), (wi_rm103_2_6_0 rm cy g_trustsAsked), (wi_rm104_2_3_0 rm cy g_gapAsked), (wi_rm105_2_4_0 rm cy g_redsAsked), (wi_rm106_2_6_0 rm cy g_numberAsked), (wi_rm107_2_4_0 rm cy g_wentAsked), (wi_rm108_2_4_0 rm cy g_harmAsked), (wi_rm109_2_4_0 rm cy g_kindofAsked)])) := by
  refine k_ofW2 (by decide +kernel) (Nat.le_of_ble_eq_true rfl) ?_
  intro p e s m below meth c A ls H locs args Q hQ C0 hZ hr hlk hin hP hD hA hS hl
  have C0 : k_cx p s m args c cX10_qWordOf 4 RX10 dC dI cy sq := C0
  have hx := C0.1
  have hb := C0.2.1
  have hl : lv_has ls 4 [(0, .ref a_this), (1, .int 12), (2, .int 13)] := hl
  obtain ⟨O, hO⟩ : ∃ o, o = F_X10_qWordOf_a0_12_a1_13 (Int32.toInt x_at) (Int32.toInt x_end) (Int32.toInt x_ended) (Int32.toInt x_bad) (Int32.toInt x_textKind) (lf_A g_tape) (lf_A g_secondAsked) (lf_A g_dayAsked) (lf_A g_phaseAsked) (lf_A g_waitedAsked) (lf_A g_calmAsked) (lf_A g_paceAsked) (lf_A g_trustsAsked) (lf_A g_gapAsked) (lf_A g_redsAsked) (lf_A g_numberAsked) (lf_A g_wentAsked) (lf_A g_harmAsked) (lf_A g_kindofAsked) := ⟨_, rfl⟩
  have hq := hO
  unfold F_X10_qWordOf_a0_12_a1_13 at hq
  refine lv_aload_n hx hb dX10_qWordOf_0 rfl (lv_at hl 0 rfl) ?_
  refine k_jim hP hD hS hA [0, 1, 2, 3, 4, 5, 6, 7, 8, 9, 10, 11, 12, 13, 14] [] rfl rfl (by decide +kernel) 0 0 (Nat.le_of_ble_eq_true rfl) (Nat.le_of_ble_eq_true rfl) (fun hPc hDc => k_runV (As := []) (rest := []) C0 hZ hS hA (s_X10_qWordHere l dC dI cy sq a_this rm x_taped x_at x_end x_ended x_bad x_badPlace x_fault x_faultPlace x_namePlace x_awayTold x_away x_coded x_statements x_isCrossing x_textKind x_askSecond x_redMany x_isOpen x_lastGreen x_greenTo x_isCycleGreen x_stillGreen x_rowMany x_fitMany x_fitRules x_fitGreen x_undoable x_newest x_seeded x_qCoded x_qWaits x_qOpened x_qBase x_qPiled x_qAnswer x_qIsNew x_octets g_tape g_secondAsked g_dayAsked g_phaseAsked g_waitedAsked g_calmAsked g_paceAsked g_trustsAsked g_gapAsked g_redsAsked g_numberAsked g_wentAsked g_harmAsked g_kindofAsked (ib_w 0 1600 hx_at rfl) (ib_w 0 1600 hx_end rfl) hg_tape) mV_X10_617 hPc hDc rfl rfl rfl hl rfl rfl (Nat.le_of_ble_eq_true rfl) ⟨(Nat.le_of_ble_eq_true rfl), (Nat.le_of_ble_eq_true rfl)⟩ ⟨(Nat.le_of_ble_eq_true rfl), (Nat.le_of_ble_eq_true rfl)⟩ dX10_qWordOf_1) (fun r1 u2 H locs hw hP hD hS => ?_)
  obtain ⟨v3, ev3⟩ : ∃ z, z = u2 := ⟨_, rfl⟩; subst ev3
  try dsimp only at hP hD hw
  replace hP : va_P (dC, dI) vwCl [(a_this, .inr (10, mfs rm x_taped v3 x_end x_ended x_bad x_badPlace x_fault x_faultPlace x_namePlace x_awayTold x_away x_coded x_statements x_isCrossing x_textKind x_askSecond x_redMany x_isOpen x_lastGreen x_greenTo x_isCycleGreen x_stillGreen x_rowMany x_fitMany x_fitRules x_fitGreen x_undoable x_newest x_seeded x_qCoded x_qWaits x_qOpened x_qBase x_qPiled x_qAnswer x_qIsNew x_octets)), (wi_rm0_0_1600_0 rm cy g_tape), (wi_rm97_2_6_0 rm cy g_secondAsked), (wi_rm98_2_3_0 rm cy g_dayAsked), (wi_rm99_2_5_0 rm cy g_phaseAsked), (wi_rm100_2_6_0 rm cy g_waitedAsked), (wi_rm101_2_4_0 rm cy g_calmAsked), (wi_rm102_2_4_0 rm cy g_paceAsked), (wi_rm103_2_6_0 rm cy g_trustsAsked), (wi_rm104_2_3_0 rm cy g_gapAsked), (wi_rm105_2_4_0 rm cy g_redsAsked), (wi_rm106_2_6_0 rm cy g_numberAsked), (wi_rm107_2_4_0 rm cy g_wentAsked), (wi_rm108_2_4_0 rm cy g_harmAsked), (wi_rm109_2_4_0 rm cy g_kindofAsked)] H := hP
  replace hD := k_D hP hD
  obtain ⟨h4, h5, h6, h7, h8⟩ := hw
  replace hq := lf_p1 hq h8
  refine lv_istore_n (lv' := [(3, .int r1), (0, .ref a_this), (1, .int 12), (2, .int 13)]) hx hb dX10_qWordOf_4 rfl hl (Nat.le_of_ble_eq_true rfl) rfl (fun ls hl => ?_)
  refine lv_iload_n hx hb dX10_qWordOf_5 rfl (lv_at hl 0 rfl) ?_
  refine lv_iload_n hx hb dX10_qWordOf_6 rfl (lv_at hl 2 rfl) ?_
  refine lv_icmp_lt (tgt := 27) hx hb dX10_qWordOf_7 rfl (fun c9 => ?_) (fun c9 => ?_)
  · replace hq := lf_pos hq (lf_lt (lf_rf r1) (lf_lc 12 (12 : Int) rfl) c9)
    have h10 := ib_lt h5 (ib_c 12 12 12 rfl) c9
    have h11 : ib r1 (-1) 11 := ib_w (-1) 11 h10.1 rfl
    refine lv_iconst (v := (-1)) hx hb dX10_qWordOf_27 rfl ?_
    subst hQ; exact k_iret hx hb hr hlk rfl v3 hS ⟨ib_w 0 1600 h4 rfl, ib_w (-1) 12 (ib_c (-1) (-1) (-1) rfl) rfl, (by have := h6; omega), fun q => absurd rfl q, fun q9 => (by have e0n : v3 = x_at := h7 q9; exact e0n), fun q => absurd rfl q, (hO.symm.trans (by try simp only [show ((-1) : Int32).toInt = (-1 : Int) from rfl]; exact hq))⟩ hP hD (Nat.le_of_ble_eq_true rfl) (Nat.le_of_ble_eq_true rfl) dX10_qWordOf_28
  · replace hq := lf_neg hq (lf_nlt (lf_rf r1) (lf_lc 12 (12 : Int) rfl) c9)
    have h12 := ib_nlt h5 (ib_c 12 12 12 rfl) c9
    have h13 : ib r1 12 12 := ib_w 12 12 h12.1 rfl
    refine lv_iload_n hx hb dX10_qWordOf_10 rfl (lv_at hl 0 rfl) ?_
    refine lv_iload_n hx hb dX10_qWordOf_11 rfl (lv_at hl 3 rfl) ?_
    refine lv_icmp_ge (tgt := 27) hx hb dX10_qWordOf_12 rfl (fun c14 => ?_) (fun c14 => ?_)
    · skip
      have h15 := ib_le (ib_c 13 13 13 rfl) h13 c14
      exact ib_no (ib_w 13 12 h15.1 rfl) rfl
    · skip
      have h16 := ib_nle (ib_c 13 13 13 rfl) h13 c14
      refine lv_aload_n hx hb dX10_qWordOf_15 rfl (lv_at hl 1 rfl) ?_
      refine lv_iload_n hx hb dX10_qWordOf_16 rfl (lv_at hl 0 rfl) ?_
      refine k_jim hP hD hS hA [0] [false, true, true, true, true, true, true, true, true, true, true, true, true, true, true] rfl rfl (by decide +kernel) 0 0 (Nat.le_of_ble_eq_true rfl) (Nat.le_of_ble_eq_true rfl) (fun hPc hDc => k_runV (As := [.int r1]) (rest := []) C0 hZ hS hA (s_X10_isAllowed l dC dI cy sq a_this rm x_taped v3 x_end x_ended x_bad x_badPlace x_fault x_faultPlace x_namePlace x_awayTold x_away x_coded x_statements x_isCrossing x_textKind x_askSecond x_redMany x_isOpen x_lastGreen x_greenTo x_isCycleGreen x_stillGreen x_rowMany x_fitMany x_fitRules x_fitGreen x_undoable x_newest x_seeded x_qCoded x_qWaits x_qOpened x_qBase x_qPiled x_qAnswer x_qIsNew x_octets r1 ) mV_X10_620 hPc hDc rfl rfl rfl hl rfl rfl (Nat.le_of_ble_eq_true rfl) ⟨(Nat.le_of_ble_eq_true rfl), (Nat.le_of_ble_eq_true rfl)⟩ ⟨(Nat.le_of_ble_eq_true rfl), (Nat.le_of_ble_eq_true rfl)⟩ dX10_qWordOf_17) (fun r17 u18 H locs hw hP hD hS => ?_)
      try dsimp only at hP hD hw
      replace hP : va_P (dC, dI) vwCl [(wi_rm0_0_1600_0 rm cy g_tape), (wi_rm97_2_6_0 rm cy g_secondAsked), (wi_rm98_2_3_0 rm cy g_dayAsked), (wi_rm99_2_5_0 rm cy g_phaseAsked), (wi_rm100_2_6_0 rm cy g_waitedAsked), (wi_rm101_2_4_0 rm cy g_calmAsked), (wi_rm102_2_4_0 rm cy g_paceAsked), (wi_rm103_2_6_0 rm cy g_trustsAsked), (wi_rm104_2_3_0 rm cy g_gapAsked), (wi_rm105_2_4_0 rm cy g_redsAsked), (wi_rm106_2_6_0 rm cy g_numberAsked), (wi_rm107_2_4_0 rm cy g_wentAsked), (wi_rm108_2_4_0 rm cy g_harmAsked), (wi_rm109_2_4_0 rm cy g_kindofAsked), (a_this, .inr (10, mfs rm x_taped v3 x_end x_ended x_bad x_badPlace x_fault x_faultPlace x_namePlace x_awayTold x_away x_coded x_statements x_isCrossing x_textKind x_askSecond x_redMany x_isOpen x_lastGreen x_greenTo x_isCycleGreen x_stillGreen x_rowMany x_fitMany x_fitRules x_fitGreen x_undoable x_newest x_seeded x_qCoded x_qWaits x_qOpened x_qBase x_qPiled x_qAnswer x_qIsNew x_octets))] H := hP
      replace hD := k_D hP hD
      obtain ⟨h19, h20, h21⟩ := hw
      replace hq := lf_b1 hq h21
      refine lv_if_eq (tgt := 27) hx hb dX10_qWordOf_20 rfl (fun c22 => ?_) (fun c22 => ?_)
      · replace hq := lf_pos hq (lf_eq (lf_rf r17) (lf_lc 0 (0 : Int) rfl) c22)
        have h23 := ib_eq h19 (ib_c 0 0 0 rfl) c22
        have h24 : ib r17 0 0 := ib_w 0 0 h23.1 rfl
        refine lv_iconst (v := (-1)) hx hb dX10_qWordOf_27 rfl ?_
        subst hQ; exact k_iret hx hb hr hlk rfl v3 hS ⟨ib_w 0 1600 h4 rfl, ib_w (-1) 12 (ib_c (-1) (-1) (-1) rfl) rfl, (by have := h6; omega), fun q => absurd rfl q, fun q9 => (by have e0n : v3 = x_at := h7 q9; exact e0n), fun q => absurd rfl q, (hO.symm.trans (by try simp only [show ((-1) : Int32).toInt = (-1 : Int) from rfl]; exact hq))⟩ (hP.sub [14, 0, 1, 2, 3, 4, 5, 6, 7, 8, 9, 10, 11, 12, 13] rfl) (hD.sub [14, 0, 1, 2, 3, 4, 5, 6, 7, 8, 9, 10, 11, 12, 13] (by decide +kernel) rfl) (Nat.le_of_ble_eq_true rfl) (Nat.le_of_ble_eq_true rfl) dX10_qWordOf_28
      · replace hq := lf_neg hq (lf_ne (lf_rf r17) (lf_lc 0 (0 : Int) rfl) c22)
        have h25 : ib r17 1 1 := ib_w 1 1 (ib_ne_lo 0 h19 rfl c22) rfl
        refine lv_iload_n hx hb dX10_qWordOf_23 rfl (lv_at hl 0 rfl) ?_
        refine lv_goto (tgt := 28) hx hb dX10_qWordOf_24 rfl ?_
        subst hQ; exact k_iret hx hb hr hlk rfl v3 hS ⟨ib_w 0 1600 h4 rfl, ib_w (-1) 12 h13 rfl, (by have := h6; omega), fun _ q => h20 c22 q, fun q9 => (by have e0n : v3 = x_at := h7 q9; exact e0n), fun _ => ib_w 12 12 h13 rfl, (hO.symm.trans (by exact hq))⟩ (hP.sub [14, 0, 1, 2, 3, 4, 5, 6, 7, 8, 9, 10, 11, 12, 13] rfl) (hD.sub [14, 0, 1, 2, 3, 4, 5, 6, 7, 8, 9, 10, 11, 12, 13] (by decide +kernel) rfl) (Nat.le_of_ble_eq_true rfl) (Nat.le_of_ble_eq_true rfl) dX10_qWordOf_28
set_option maxHeartbeats 4000000 in
set_option maxRecDepth 100000 in
theorem s_X10_takes (l : Launch) (dC : Nat → ClassId) (dI : Nat → Nat → Nat) (cy : Nat → ClassId) (sq : Nat → Nat) (a_this : Nat) (rm : Nat → Nat) (x_taped : Int32) (x_at : Int32) (x_end : Int32) (x_ended : Int32) (x_bad : Int32) (x_badPlace : Int32) (x_fault : Int32) (x_faultPlace : Int32) (x_namePlace : Int32) (x_awayTold : Int32) (x_away : Int32) (x_coded : Int32) (x_statements : Int32) (x_isCrossing : Int32) (x_textKind : Int32) (x_askSecond : Int32) (x_redMany : Int32) (x_isOpen : Int32) (x_lastGreen : Int32) (x_greenTo : Int32) (x_isCycleGreen : Int32) (x_stillGreen : Int32) (x_rowMany : Int32) (x_fitMany : Int32) (x_fitRules : Int32) (x_fitGreen : Int32) (x_undoable : Int32) (x_newest : Int32) (x_seeded : Int64) (x_qCoded : Int32) (x_qWaits : Int32) (x_qOpened : Int32) (x_qBase : Int32) (x_qPiled : Int32) (x_qAnswer : Int64) (x_qIsNew : Int32) (x_octets : Int32) (g_tape : Nat → Int32) (a_arg0 : Nat) (g_arg0 : Nat → Int32) (hx_at : ib x_at 0 1600) (hx_end : ib x_end 0 1600) (hg_tape : ia g_tape 1600 0 255) : k_Met l yX10_takes cX10_takes 2 (some .boolean) { frames := 2, cells := 0, slots := 0, locals := 43 } dC dI cy sq [.ref a_this, .ref a_arg0] [(a_this, .inr (10, mfs rm x_taped x_at x_end x_ended x_bad x_badPlace x_fault x_faultPlace x_namePlace x_awayTold x_away x_coded x_statements x_isCrossing x_textKind x_askSecond x_redMany x_isOpen x_lastGreen x_greenTo x_isCycleGreen x_stillGreen x_rowMany x_fitMany x_fitRules x_fitGreen x_undoable x_newest x_seeded x_qCoded x_qWaits x_qOpened x_qBase x_qPiled x_qAnswer x_qIsNew x_octets)), (wi_rm0_0_1600_0 rm cy g_tape), (wi_2_3_0 a_arg0 cy g_arg0)] (k_Qi dC dI (fun (r : Int32) (u : Int32 × Int32) => match u with | (n0, n1) => ib n0 0 1600 ∧ ib r 0 1 ∧ (¬ r = 0 → ib n0 3 1600) ∧ (¬ r = 0 → ib n1 3 1600) ∧ (¬ r = 0 → ib x_at 0 1597) ∧ (¬ r = 0 → ib x_end 1 1600) ∧ (¬ r = 0 → ib x_bad 0 0) ∧ (1 * x_at.toInt + (-1) * n0.toInt ≤ 0) ∧ (¬ r = 0 → 1 * x_at.toInt + (-1) * n0.toInt ≤ (-3)) ∧ (F_X10_takes (Int32.toInt x_at) (Int32.toInt x_end) (Int32.toInt x_ended) (Int32.toInt x_bad) (lf_A g_tape) (lf_A g_arg0) = ((Int32.toInt r), (Int32.toInt n0), (Int32.toInt n1)))) (fun u : Int32 × Int32 => match u with | (n0, n1) => [(a_this, .inr (10, mfs rm x_taped n0 x_end n1 x_bad x_badPlace x_fault x_faultPlace x_namePlace x_awayTold x_away x_coded x_statements x_isCrossing x_textKind x_askSecond x_redMany x_isOpen x_lastGreen x_greenTo x_isCycleGreen x_stillGreen x_rowMany x_fitMany x_fitRules x_fitGreen x_undoable x_newest x_seeded x_qCoded x_qWaits x_qOpened x_qBase x_qPiled x_qAnswer x_qIsNew x_octets)), (wi_rm0_0_1600_0 rm cy g_tape), (wi_2_3_0 a_arg0 cy g_arg0)])) := by
  refine k_ofW2 (by decide +kernel) (Nat.le_of_ble_eq_true rfl) ?_
  intro p e s m below meth c A ls H locs args Q hQ C0 hZ hr hlk hin hP hD hA hS hl
  have C0 : k_cx p s m args c cX10_takes 2 RX10 dC dI cy sq := C0
  have hx := C0.1
  have hb := C0.2.1
  have hl : lv_has ls 2 [(0, .ref a_this), (1, .ref a_arg0)] := hl
  obtain ⟨O, hO⟩ : ∃ o, o = F_X10_takes (Int32.toInt x_at) (Int32.toInt x_end) (Int32.toInt x_ended) (Int32.toInt x_bad) (lf_A g_tape) (lf_A g_arg0) := ⟨_, rfl⟩
  have hq := hO
  unfold F_X10_takes at hq
  refine lv_aload_n hx hb dX10_takes_0 rfl (lv_at hl 0 rfl) ?_
  refine lv_aload_n hx hb dX10_takes_1 rfl (lv_at hl 1 rfl) ?_
  refine k_jim hP hD hS hA [0, 1, 2] [] rfl rfl rfl 0 0 (Nat.le_of_ble_eq_true rfl) (Nat.le_of_ble_eq_true rfl) (fun hPc hDc => k_runV (As := [.ref a_arg0]) (rest := []) C0 hZ hS hA (s_X10_isHere l dC dI cy sq a_this rm x_taped x_at x_end x_ended x_bad x_badPlace x_fault x_faultPlace x_namePlace x_awayTold x_away x_coded x_statements x_isCrossing x_textKind x_askSecond x_redMany x_isOpen x_lastGreen x_greenTo x_isCycleGreen x_stillGreen x_rowMany x_fitMany x_fitRules x_fitGreen x_undoable x_newest x_seeded x_qCoded x_qWaits x_qOpened x_qBase x_qPiled x_qAnswer x_qIsNew x_octets g_tape a_arg0 g_arg0 (ib_w 0 1600 hx_at rfl) (ib_w 0 1600 hx_end rfl) hg_tape) mV_X10_302 hPc hDc rfl rfl rfl hl rfl rfl (Nat.le_of_ble_eq_true rfl) ⟨(Nat.le_of_ble_eq_true rfl), (Nat.le_of_ble_eq_true rfl)⟩ ⟨(Nat.le_of_ble_eq_true rfl), (Nat.le_of_ble_eq_true rfl)⟩ dX10_takes_2) (fun r1 u2 H locs hw hP hD hS => ?_)
  obtain ⟨v3, ev3⟩ : ∃ z, z = u2 := ⟨_, rfl⟩; subst ev3
  try dsimp only at hP hD hw
  replace hP : va_P (dC, dI) vwCl [(a_this, .inr (10, mfs rm x_taped v3 x_end x_ended x_bad x_badPlace x_fault x_faultPlace x_namePlace x_awayTold x_away x_coded x_statements x_isCrossing x_textKind x_askSecond x_redMany x_isOpen x_lastGreen x_greenTo x_isCycleGreen x_stillGreen x_rowMany x_fitMany x_fitRules x_fitGreen x_undoable x_newest x_seeded x_qCoded x_qWaits x_qOpened x_qBase x_qPiled x_qAnswer x_qIsNew x_octets)), (wi_rm0_0_1600_0 rm cy g_tape), (wi_2_3_0 a_arg0 cy g_arg0)] H := hP
  replace hD := k_D hP hD
  obtain ⟨h4, h5, h6, h7, h8, h9, h10, h11, h12⟩ := hw
  replace hq := lf_p1 hq h12
  refine lv_if_ne (tgt := 10) hx hb dX10_takes_5 rfl (fun c13 => ?_) (fun c13 => ?_)
  · replace hq := lf_neg hq (lf_ne (lf_rf r1) (lf_lc 0 (0 : Int) rfl) c13)
    have h14 : ib r1 1 1 := ib_w 1 1 (ib_ne_lo 0 h5 rfl c13) rfl
    have h15 : ib v3 0 1597 := ib_w 0 1597 (ib_two h4 (h6 (ib_nz h14 rfl))) rfl
    have h16 : ib x_at 0 1597 := ib_w 0 1597 (ib_two hx_at (h7 (ib_nz h14 rfl))) rfl
    have h17 : ib x_end 1 1600 := ib_w 1 1600 (ib_two hx_end (h8 (ib_nz h14 rfl))) rfl
    have h18 : ib x_bad 0 0 := ib_w 0 0 (ib_two (ib_any x_bad) (h9 (ib_nz h14 rfl))) rfl
    refine lv_aload_n hx hb dX10_takes_10 rfl (lv_at hl 0 rfl) ?_
    refine lv_dup hx hb dX10_takes_11 rfl ?_
    refine k_get C0 fg_X10_285 hP 0 rfl rfl dX10_takes_12 ?_
    refine lv_aload_n hx hb dX10_takes_15 rfl (lv_at hl 1 rfl) ?_
    refine va_alen hx hb C0.2.2.2.2.2.1 hP 2 2 rfl rfl (v := 3) (show Int32.ofNat 3 = 3 by decide) dX10_takes_16 ?_
    refine lv_iadd hx hb dX10_takes_17 ?_
    refine lv_topi (fun z19 ez19 => ?_)
    have h20 := ib_add h15 (ib_c 3 3 3 rfl) rfl
    rw [← ez19] at h20
    have h21 : ib z19 3 1600 := ib_w 3 1600 h20.1 rfl
    have Ez19 := lf_add h20.2 (lf_rf v3) (lf_lc 3 (3 : Int) rfl)
    refine k_put C0 fp_X10_285 hP hD hS 0 rfl rfl rfl (Nat.le_of_ble_eq_true rfl) dX10_takes_18 (fun H locs hP hD hS => ?_)
    replace hP : va_P (dC, dI) vwCl [(a_this, .inr (10, mfs rm x_taped z19 x_end x_ended x_bad x_badPlace x_fault x_faultPlace x_namePlace x_awayTold x_away x_coded x_statements x_isCrossing x_textKind x_askSecond x_redMany x_isOpen x_lastGreen x_greenTo x_isCycleGreen x_stillGreen x_rowMany x_fitMany x_fitRules x_fitGreen x_undoable x_newest x_seeded x_qCoded x_qWaits x_qOpened x_qBase x_qPiled x_qAnswer x_qIsNew x_octets)), (wi_rm0_0_1600_0 rm cy g_tape), (wi_2_3_0 a_arg0 cy g_arg0)] H := hP
    replace hD := k_D hP hD
    refine lv_aload_n hx hb dX10_takes_21 rfl (lv_at hl 0 rfl) ?_
    refine lv_aload_n hx hb dX10_takes_22 rfl (lv_at hl 0 rfl) ?_
    refine k_get C0 fg_X10_285 hP 0 rfl rfl dX10_takes_23 ?_
    refine k_put C0 fp_X10_299 hP hD hS 0 rfl rfl rfl (Nat.le_of_ble_eq_true rfl) dX10_takes_26 (fun H locs hP hD hS => ?_)
    replace hP : va_P (dC, dI) vwCl [(a_this, .inr (10, mfs rm x_taped z19 x_end z19 x_bad x_badPlace x_fault x_faultPlace x_namePlace x_awayTold x_away x_coded x_statements x_isCrossing x_textKind x_askSecond x_redMany x_isOpen x_lastGreen x_greenTo x_isCycleGreen x_stillGreen x_rowMany x_fitMany x_fitRules x_fitGreen x_undoable x_newest x_seeded x_qCoded x_qWaits x_qOpened x_qBase x_qPiled x_qAnswer x_qIsNew x_octets)), (wi_rm0_0_1600_0 rm cy g_tape), (wi_2_3_0 a_arg0 cy g_arg0)] H := hP
    replace hD := k_D hP hD
    refine lv_iconst (v := 1) hx hb dX10_takes_29 rfl ?_
    subst hQ; exact k_iret hx hb hr hlk (k_nb 1 rfl) ((z19, z19)) hS ⟨ib_w 0 1600 h21 rfl, ib_w 0 1 (ib_c 1 1 1 rfl) rfl, fun _ => ib_w 3 1600 h21 rfl, fun _ => ib_w 3 1600 h21 rfl, fun _ => ib_w 0 1597 h16 rfl, fun _ => ib_w 1 1600 h17 rfl, fun _ => ib_w 0 0 h18 rfl, (by have := h20.2; have : (3 : Int32).toInt = 3 := rfl; have := h10; omega), fun _ => (by have := h20.2; have : (3 : Int32).toInt = 3 := rfl; have := h10; omega), (hO.symm.trans (by try simp only [show (1 : Int32).toInt = (1 : Int) from rfl]; rw [lf_u Ez19]; exact hq))⟩ hP hD (Nat.le_of_ble_eq_true rfl) (Nat.le_of_ble_eq_true rfl) dX10_takes_30
  · replace hq := lf_pos hq (lf_eq (lf_rf r1) (lf_lc 0 (0 : Int) rfl) c13)
    have h22 := ib_eq h5 (ib_c 0 0 0 rfl) c13
    have h23 : ib r1 0 0 := ib_w 0 0 h22.1 rfl
    refine lv_iconst (v := 0) hx hb dX10_takes_8 rfl ?_
    subst hQ; exact k_iret hx hb hr hlk (k_nb 0 rfl) ((v3, x_ended)) hS ⟨ib_w 0 1600 h4 rfl, ib_w 0 1 (ib_c 0 0 0 rfl) rfl, fun hq9 => absurd rfl hq9, fun hq9 => absurd rfl hq9, fun hq9 => absurd rfl hq9, fun hq9 => absurd rfl hq9, fun hq9 => absurd rfl hq9, (by have := h10; omega), fun hq9 => absurd rfl hq9, (hO.symm.trans (by try simp only [show (0 : Int32).toInt = (0 : Int) from rfl]; exact hq))⟩ hP hD (Nat.le_of_ble_eq_true rfl) (Nat.le_of_ble_eq_true rfl) dX10_takes_9
set_option maxHeartbeats 4000000 in
set_option maxRecDepth 100000 in
theorem s_X10_takesSign_a0_40 (l : Launch) (dC : Nat → ClassId) (dI : Nat → Nat → Nat) (cy : Nat → ClassId) (sq : Nat → Nat) (a_this : Nat) (rm : Nat → Nat) (x_taped : Int32) (x_at : Int32) (x_end : Int32) (x_ended : Int32) (x_bad : Int32) (x_badPlace : Int32) (x_fault : Int32) (x_faultPlace : Int32) (x_namePlace : Int32) (x_awayTold : Int32) (x_away : Int32) (x_coded : Int32) (x_statements : Int32) (x_isCrossing : Int32) (x_textKind : Int32) (x_askSecond : Int32) (x_redMany : Int32) (x_isOpen : Int32) (x_lastGreen : Int32) (x_greenTo : Int32) (x_isCycleGreen : Int32) (x_stillGreen : Int32) (x_rowMany : Int32) (x_fitMany : Int32) (x_fitRules : Int32) (x_fitGreen : Int32) (x_undoable : Int32) (x_newest : Int32) (x_seeded : Int64) (x_qCoded : Int32) (x_qWaits : Int32) (x_qOpened : Int32) (x_qBase : Int32) (x_qPiled : Int32) (x_qAnswer : Int64) (x_qIsNew : Int32) (x_octets : Int32) (g_tape : Nat → Int32) (hx_at : ib x_at 0 1600) (hx_end : ib x_end 0 1600) (hg_tape : ia g_tape 1600 0 255) : k_Met l yX10_takesSign cX10_takesSign 2 (some .boolean) { frames := 1, cells := 0, slots := 0, locals := 20 } dC dI cy sq [.ref a_this, .int 40] [(a_this, .inr (10, mfs rm x_taped x_at x_end x_ended x_bad x_badPlace x_fault x_faultPlace x_namePlace x_awayTold x_away x_coded x_statements x_isCrossing x_textKind x_askSecond x_redMany x_isOpen x_lastGreen x_greenTo x_isCycleGreen x_stillGreen x_rowMany x_fitMany x_fitRules x_fitGreen x_undoable x_newest x_seeded x_qCoded x_qWaits x_qOpened x_qBase x_qPiled x_qAnswer x_qIsNew x_octets)), (wi_rm0_0_1600_0 rm cy g_tape)] (k_Qi dC dI (fun (r : Int32) (n0 : Int32) => ib n0 0 1600 ∧ ib r 0 1 ∧ (¬ r = 0 → ib n0 1 1600) ∧ (¬ r = 0 → ib x_at 0 1599) ∧ (¬ r = 0 → ib x_end 1 1600) ∧ (¬ r = 0 → ib x_bad 0 0) ∧ (1 * x_at.toInt + (-1) * n0.toInt ≤ 0) ∧ (¬ r = 0 → 1 * x_at.toInt + (-1) * n0.toInt ≤ (-1)) ∧ (F_X10_takesSign_a0_40 (Int32.toInt x_at) (Int32.toInt x_end) (Int32.toInt x_bad) (lf_A g_tape) = ((Int32.toInt r), (Int32.toInt n0)))) (fun n0 : Int32 => [(a_this, .inr (10, mfs rm x_taped n0 x_end x_ended x_bad x_badPlace x_fault x_faultPlace x_namePlace x_awayTold x_away x_coded x_statements x_isCrossing x_textKind x_askSecond x_redMany x_isOpen x_lastGreen x_greenTo x_isCycleGreen x_stillGreen x_rowMany x_fitMany x_fitRules x_fitGreen x_undoable x_newest x_seeded x_qCoded x_qWaits x_qOpened x_qBase x_qPiled x_qAnswer x_qIsNew x_octets)), (wi_rm0_0_1600_0 rm cy g_tape)])) := by
  refine k_ofW2 (by decide +kernel) (Nat.le_of_ble_eq_true rfl) ?_
  intro p e s m below meth c A ls H locs args Q hQ C0 hZ hr hlk hin hP hD hA hS hl
  have C0 : k_cx p s m args c cX10_takesSign 2 RX10 dC dI cy sq := C0
  have hx := C0.1
  have hb := C0.2.1
  have hl : lv_has ls 2 [(0, .ref a_this), (1, .int 40)] := hl
  obtain ⟨O, hO⟩ : ∃ o, o = F_X10_takesSign_a0_40 (Int32.toInt x_at) (Int32.toInt x_end) (Int32.toInt x_bad) (lf_A g_tape) := ⟨_, rfl⟩
  have hq := hO
  unfold F_X10_takesSign_a0_40 at hq
  refine lv_aload_n hx hb dX10_takesSign_0 rfl (lv_at hl 0 rfl) ?_
  refine k_get C0 fg_X10_279 hP 0 rfl rfl dX10_takesSign_1 ?_
  refine lv_if_ne (tgt := 15) hx hb dX10_takesSign_4 rfl (fun c1 => ?_) (fun c1 => ?_)
  · replace hq := lf_neg hq (lf_ne (lf_rf x_bad) (lf_lc 0 (0 : Int) rfl) c1)
    refine lv_iconst (v := 0) hx hb dX10_takesSign_15 rfl ?_
    subst hQ; exact k_iret hx hb hr hlk (k_nb 0 rfl) x_at hS ⟨ib_w 0 1600 hx_at rfl, ib_w 0 1 (ib_c 0 0 0 rfl) rfl, fun hq9 => absurd rfl hq9, fun hq9 => absurd rfl hq9, fun hq9 => absurd rfl hq9, fun hq9 => absurd rfl hq9, (by omega), fun hq9 => absurd rfl hq9, (hO.symm.trans (by try simp only [show (0 : Int32).toInt = (0 : Int) from rfl]; exact hq))⟩ hP hD (Nat.le_of_ble_eq_true rfl) (Nat.le_of_ble_eq_true rfl) dX10_takesSign_16
  · replace hq := lf_pos hq (lf_eq (lf_rf x_bad) (lf_lc 0 (0 : Int) rfl) c1)
    have h2 := ib_eq (ib_any x_bad) (ib_c 0 0 0 rfl) c1
    have h3 : ib x_bad 0 0 := ib_w 0 0 h2.1 rfl
    refine lv_aload_n hx hb dX10_takesSign_7 rfl (lv_at hl 0 rfl) ?_
    refine k_jim hP hD hS hA [0, 1] [] rfl rfl rfl 0 0 (Nat.le_of_ble_eq_true rfl) (Nat.le_of_ble_eq_true rfl) (fun hPc hDc => k_runV (As := []) (rest := []) C0 hZ hS hA (s_X10_look l dC dI cy sq a_this rm x_taped x_at x_end x_ended x_bad x_badPlace x_fault x_faultPlace x_namePlace x_awayTold x_away x_coded x_statements x_isCrossing x_textKind x_askSecond x_redMany x_isOpen x_lastGreen x_greenTo x_isCycleGreen x_stillGreen x_rowMany x_fitMany x_fitRules x_fitGreen x_undoable x_newest x_seeded x_qCoded x_qWaits x_qOpened x_qBase x_qPiled x_qAnswer x_qIsNew x_octets g_tape (ib_w 0 1600 hx_at rfl) (ib_w 0 1600 hx_end rfl) hg_tape) mV_X10_291 hPc hDc rfl rfl rfl hl rfl rfl (Nat.le_of_ble_eq_true rfl) ⟨(Nat.le_of_ble_eq_true rfl), (Nat.le_of_ble_eq_true rfl)⟩ ⟨(Nat.le_of_ble_eq_true rfl), (Nat.le_of_ble_eq_true rfl)⟩ dX10_takesSign_8) (fun r4 u5 H locs hw hP hD hS => ?_)
    obtain ⟨v6, ev6⟩ : ∃ z, z = u5 := ⟨_, rfl⟩; subst ev6
    try dsimp only at hP hD hw
    replace hP : va_P (dC, dI) vwCl [(a_this, .inr (10, mfs rm x_taped v6 x_end x_ended x_bad x_badPlace x_fault x_faultPlace x_namePlace x_awayTold x_away x_coded x_statements x_isCrossing x_textKind x_askSecond x_redMany x_isOpen x_lastGreen x_greenTo x_isCycleGreen x_stillGreen x_rowMany x_fitMany x_fitRules x_fitGreen x_undoable x_newest x_seeded x_qCoded x_qWaits x_qOpened x_qBase x_qPiled x_qAnswer x_qIsNew x_octets)), (wi_rm0_0_1600_0 rm cy g_tape)] H := hP
    replace hD := k_D hP hD
    obtain ⟨h7, h8, h9, h10, h11, h12, h13, h14, h15, h16⟩ := hw
    replace hq := lf_p1 hq h16
    refine lv_iload_n hx hb dX10_takesSign_11 rfl (lv_at hl 1 rfl) ?_
    refine lv_icmp_eq (tgt := 17) hx hb dX10_takesSign_12 rfl (fun c17 => ?_) (fun c17 => ?_)
    · replace hq := lf_pos hq (lf_eq (lf_rf r4) (lf_lc 40 (40 : Int) rfl) c17)
      have h18 := ib_eq h8 (ib_c 40 40 40 rfl) c17
      have h19 : ib r4 40 40 := ib_w 40 40 h18.1 rfl
      have h20 : ib v6 0 1599 := ib_w 0 1599 (ib_two h7 (h9 (ib_nc (-1) h19 rfl))) rfl
      have h21 : ib x_at 0 1599 := ib_w 0 1599 (ib_two hx_at (h10 (ib_nc (-1) h19 rfl))) rfl
      have h22 : ib x_end 1 1600 := ib_w 1 1600 (ib_two hx_end (h11 (ib_nc (-1) h19 rfl))) rfl
      refine lv_aload_n hx hb dX10_takesSign_17 rfl (lv_at hl 0 rfl) ?_
      refine lv_dup hx hb dX10_takesSign_18 rfl ?_
      refine k_get C0 fg_X10_285 hP 0 rfl rfl dX10_takesSign_19 ?_
      refine lv_iconst (v := 1) hx hb dX10_takesSign_22 rfl ?_
      refine lv_iadd hx hb dX10_takesSign_23 ?_
      refine lv_topi (fun z23 ez23 => ?_)
      have h24 := ib_add h20 (ib_c 1 1 1 rfl) rfl
      rw [← ez23] at h24
      have h25 : ib z23 1 1600 := ib_w 1 1600 h24.1 rfl
      have Ez23 := lf_add h24.2 (lf_rf v6) (lf_lc 1 (1 : Int) rfl)
      refine k_put C0 fp_X10_285 hP hD hS 0 rfl rfl rfl (Nat.le_of_ble_eq_true rfl) dX10_takesSign_24 (fun H locs hP hD hS => ?_)
      replace hP : va_P (dC, dI) vwCl [(a_this, .inr (10, mfs rm x_taped z23 x_end x_ended x_bad x_badPlace x_fault x_faultPlace x_namePlace x_awayTold x_away x_coded x_statements x_isCrossing x_textKind x_askSecond x_redMany x_isOpen x_lastGreen x_greenTo x_isCycleGreen x_stillGreen x_rowMany x_fitMany x_fitRules x_fitGreen x_undoable x_newest x_seeded x_qCoded x_qWaits x_qOpened x_qBase x_qPiled x_qAnswer x_qIsNew x_octets)), (wi_rm0_0_1600_0 rm cy g_tape)] H := hP
      replace hD := k_D hP hD
      refine lv_iconst (v := 1) hx hb dX10_takesSign_27 rfl ?_
      subst hQ; exact k_iret hx hb hr hlk (k_nb 1 rfl) z23 hS ⟨ib_w 0 1600 h25 rfl, ib_w 0 1 (ib_c 1 1 1 rfl) rfl, fun _ => ib_w 1 1600 h25 rfl, fun _ => ib_w 0 1599 h21 rfl, fun _ => ib_w 1 1600 h22 rfl, fun _ => ib_w 0 0 h3 rfl, (by have := h24.2; have : (1 : Int32).toInt = 1 := rfl; have := h12; omega), fun _ => (by have := h24.2; have : (1 : Int32).toInt = 1 := rfl; have := h12; omega), (hO.symm.trans (by try simp only [show (1 : Int32).toInt = (1 : Int) from rfl]; rw [lf_u Ez23]; exact hq))⟩ hP hD (Nat.le_of_ble_eq_true rfl) (Nat.le_of_ble_eq_true rfl) dX10_takesSign_28
    · replace hq := lf_neg hq (lf_ne (lf_rf r4) (lf_lc 40 (40 : Int) rfl) c17)
      refine lv_iconst (v := 0) hx hb dX10_takesSign_15 rfl ?_
      subst hQ; exact k_iret hx hb hr hlk (k_nb 0 rfl) v6 hS ⟨ib_w 0 1600 h7 rfl, ib_w 0 1 (ib_c 0 0 0 rfl) rfl, fun hq9 => absurd rfl hq9, fun hq9 => absurd rfl hq9, fun hq9 => absurd rfl hq9, fun hq9 => absurd rfl hq9, (by have := h12; omega), fun hq9 => absurd rfl hq9, (hO.symm.trans (by try simp only [show (0 : Int32).toInt = (0 : Int) from rfl]; exact hq))⟩ hP hD (Nat.le_of_ble_eq_true rfl) (Nat.le_of_ble_eq_true rfl) dX10_takesSign_16
set_option maxHeartbeats 4000000 in
set_option maxRecDepth 100000 in
theorem s_X10_asksSign_a0_40 (l : Launch) (dC : Nat → ClassId) (dI : Nat → Nat → Nat) (cy : Nat → ClassId) (sq : Nat → Nat) (a_this : Nat) (rm : Nat → Nat) (x_taped : Int32) (x_at : Int32) (x_end : Int32) (x_ended : Int32) (x_bad : Int32) (x_badPlace : Int32) (x_fault : Int32) (x_faultPlace : Int32) (x_namePlace : Int32) (x_awayTold : Int32) (x_away : Int32) (x_coded : Int32) (x_statements : Int32) (x_isCrossing : Int32) (x_textKind : Int32) (x_askSecond : Int32) (x_redMany : Int32) (x_isOpen : Int32) (x_lastGreen : Int32) (x_greenTo : Int32) (x_isCycleGreen : Int32) (x_stillGreen : Int32) (x_rowMany : Int32) (x_fitMany : Int32) (x_fitRules : Int32) (x_fitGreen : Int32) (x_undoable : Int32) (x_newest : Int32) (x_seeded : Int64) (x_qCoded : Int32) (x_qWaits : Int32) (x_qOpened : Int32) (x_qBase : Int32) (x_qPiled : Int32) (x_qAnswer : Int64) (x_qIsNew : Int32) (x_octets : Int32) (g_tape : Nat → Int32) (hx_at : ib x_at 0 1600) (hx_end : ib x_end 0 1600) (hg_tape : ia g_tape 1600 0 255) : k_Met l yX10_asksSign cX10_asksSign 2 none { frames := 2, cells := 0, slots := 0, locals := 41 } dC dI cy sq [.ref a_this, .int 40] [(a_this, .inr (10, mfs rm x_taped x_at x_end x_ended x_bad x_badPlace x_fault x_faultPlace x_namePlace x_awayTold x_away x_coded x_statements x_isCrossing x_textKind x_askSecond x_redMany x_isOpen x_lastGreen x_greenTo x_isCycleGreen x_stillGreen x_rowMany x_fitMany x_fitRules x_fitGreen x_undoable x_newest x_seeded x_qCoded x_qWaits x_qOpened x_qBase x_qPiled x_qAnswer x_qIsNew x_octets)), (wi_rm0_0_1600_0 rm cy g_tape)] (k_Qv dC dI (fun (u : Int32 × Int32 × Int32) => match u with | (n0, n1, n2) => ib n0 0 1600 ∧ (n1 = 0 → x_bad = 0) ∧ (1 * x_at.toInt + (-1) * n0.toInt ≤ 0) ∧ (n1 = 0 → 1 * x_at.toInt + (-1) * n0.toInt ≤ (-1)) ∧ (F_X10_asksSign_a0_40 (Int32.toInt x_at) (Int32.toInt x_end) (Int32.toInt x_bad) (Int32.toInt x_badPlace) (lf_A g_tape) = ((Int32.toInt n0), (Int32.toInt n1), (Int32.toInt n2)))) (fun u : Int32 × Int32 × Int32 => match u with | (n0, n1, n2) => [(a_this, .inr (10, mfs rm x_taped n0 x_end x_ended n1 n2 x_fault x_faultPlace x_namePlace x_awayTold x_away x_coded x_statements x_isCrossing x_textKind x_askSecond x_redMany x_isOpen x_lastGreen x_greenTo x_isCycleGreen x_stillGreen x_rowMany x_fitMany x_fitRules x_fitGreen x_undoable x_newest x_seeded x_qCoded x_qWaits x_qOpened x_qBase x_qPiled x_qAnswer x_qIsNew x_octets)), (wi_rm0_0_1600_0 rm cy g_tape)])) := by
  refine k_ofW2 (by decide +kernel) (Nat.le_of_ble_eq_true rfl) ?_
  intro p e s m below meth c A ls H locs args Q hQ C0 hZ hr hlk hin hP hD hA hS hl
  have C0 : k_cx p s m args c cX10_asksSign 2 RX10 dC dI cy sq := C0
  have hx := C0.1
  have hb := C0.2.1
  have hl : lv_has ls 2 [(0, .ref a_this), (1, .int 40)] := hl
  obtain ⟨O, hO⟩ : ∃ o, o = F_X10_asksSign_a0_40 (Int32.toInt x_at) (Int32.toInt x_end) (Int32.toInt x_bad) (Int32.toInt x_badPlace) (lf_A g_tape) := ⟨_, rfl⟩
  have hq := hO
  unfold F_X10_asksSign_a0_40 at hq
  refine lv_aload_n hx hb dX10_asksSign_0 rfl (lv_at hl 0 rfl) ?_
  refine k_get C0 fg_X10_279 hP 0 rfl rfl dX10_asksSign_1 ?_
  refine lv_if_ne (tgt := 24) hx hb dX10_asksSign_4 rfl (fun c1 => ?_) (fun c1 => ?_)
  · replace hq := lf_neg hq (lf_ne (lf_rf x_bad) (lf_lc 0 (0 : Int) rfl) c1)
    subst hQ; exact k_vret hx hb hr hlk ((x_at, x_bad, x_badPlace)) hS ⟨ib_w 0 1600 hx_at rfl, fun q => q, (by omega), fun q => absurd q c1, (hO.symm.trans (by exact hq))⟩ hP hD (Nat.le_of_ble_eq_true rfl) (Nat.le_of_ble_eq_true rfl) dX10_asksSign_24
  · replace hq := lf_pos hq (lf_eq (lf_rf x_bad) (lf_lc 0 (0 : Int) rfl) c1)
    have h2 := ib_eq (ib_any x_bad) (ib_c 0 0 0 rfl) c1
    have h3 : ib x_bad 0 0 := ib_w 0 0 h2.1 rfl
    refine lv_aload_n hx hb dX10_asksSign_7 rfl (lv_at hl 0 rfl) ?_
    refine lv_iload_n hx hb dX10_asksSign_8 rfl (lv_at hl 1 rfl) ?_
    refine k_jim hP hD hS hA [0, 1] [] rfl rfl rfl 0 0 (Nat.le_of_ble_eq_true rfl) (Nat.le_of_ble_eq_true rfl) (fun hPc hDc => k_runV (As := [.int 40]) (rest := []) C0 hZ hS hA (s_X10_takesSign_a0_40 l dC dI cy sq a_this rm x_taped x_at x_end x_ended x_bad x_badPlace x_fault x_faultPlace x_namePlace x_awayTold x_away x_coded x_statements x_isCrossing x_textKind x_askSecond x_redMany x_isOpen x_lastGreen x_greenTo x_isCycleGreen x_stillGreen x_rowMany x_fitMany x_fitRules x_fitGreen x_undoable x_newest x_seeded x_qCoded x_qWaits x_qOpened x_qBase x_qPiled x_qAnswer x_qIsNew x_octets g_tape (ib_w 0 1600 hx_at rfl) (ib_w 0 1600 hx_end rfl) hg_tape) mV_X10_312 hPc hDc rfl rfl rfl hl rfl rfl (Nat.le_of_ble_eq_true rfl) ⟨(Nat.le_of_ble_eq_true rfl), (Nat.le_of_ble_eq_true rfl)⟩ ⟨(Nat.le_of_ble_eq_true rfl), (Nat.le_of_ble_eq_true rfl)⟩ dX10_asksSign_9) (fun r4 u5 H locs hw hP hD hS => ?_)
    obtain ⟨v6, ev6⟩ : ∃ z, z = u5 := ⟨_, rfl⟩; subst ev6
    try dsimp only at hP hD hw
    replace hP : va_P (dC, dI) vwCl [(a_this, .inr (10, mfs rm x_taped v6 x_end x_ended x_bad x_badPlace x_fault x_faultPlace x_namePlace x_awayTold x_away x_coded x_statements x_isCrossing x_textKind x_askSecond x_redMany x_isOpen x_lastGreen x_greenTo x_isCycleGreen x_stillGreen x_rowMany x_fitMany x_fitRules x_fitGreen x_undoable x_newest x_seeded x_qCoded x_qWaits x_qOpened x_qBase x_qPiled x_qAnswer x_qIsNew x_octets)), (wi_rm0_0_1600_0 rm cy g_tape)] H := hP
    replace hD := k_D hP hD
    obtain ⟨h7, h8, h9, h10, h11, h12, h13, h14, h15⟩ := hw
    replace hq := lf_p1 hq h15
    refine lv_if_ne (tgt := 24) hx hb dX10_asksSign_12 rfl (fun c16 => ?_) (fun c16 => ?_)
    · replace hq := lf_neg hq (lf_ne (lf_rf r4) (lf_lc 0 (0 : Int) rfl) c16)
      have h17 : ib r4 1 1 := ib_w 1 1 (ib_ne_lo 0 h8 rfl c16) rfl
      have h18 := h14 (ib_nz h17 rfl)
      have h19 : ib x_at 0 1599 := ⟨(hx_at).1, by have := (hx_at).2; have := h18; have := (h7).2; omega⟩
      have h20 : ib v6 1 1600 := ⟨by have := (h7).1; have := h18; have := (h19).1; omega, (h7).2⟩
      have h21 : ib x_end 1 1600 := ib_w 1 1600 (ib_two hx_end (h11 (ib_nz h17 rfl))) rfl
      subst hQ; exact k_vret hx hb hr hlk ((v6, x_bad, x_badPlace)) hS ⟨ib_w 0 1600 h20 rfl, fun q => q, (by have := h18; omega), fun hq9 => (by have := h18; omega), (hO.symm.trans (by exact hq))⟩ hP hD (Nat.le_of_ble_eq_true rfl) (Nat.le_of_ble_eq_true rfl) dX10_asksSign_24
    · replace hq := lf_pos hq (lf_eq (lf_rf r4) (lf_lc 0 (0 : Int) rfl) c16)
      have h22 := ib_eq h8 (ib_c 0 0 0 rfl) c16
      have h23 : ib r4 0 0 := ib_w 0 0 h22.1 rfl
      refine lv_aload_n hx hb dX10_asksSign_15 rfl (lv_at hl 0 rfl) ?_
      refine lv_iconst (v := 1) hx hb dX10_asksSign_16 rfl ?_
      refine lv_aload_n hx hb dX10_asksSign_17 rfl (lv_at hl 0 rfl) ?_
      refine k_get C0 fg_X10_285 hP 0 rfl rfl dX10_asksSign_18 ?_
      refine k_jvm hP hD hS hA [0] [false, true] rfl rfl rfl 0 0 (Nat.le_of_ble_eq_true rfl) (Nat.le_of_ble_eq_true rfl) (fun hPc hDc => k_runV (As := [.int 1, .int v6]) (rest := []) C0 hZ hS hA (s_X10_fail_a0_1_f_bad_0_0 l dC dI cy sq a_this rm x_taped v6 x_end x_ended x_bad x_badPlace x_fault x_faultPlace x_namePlace x_awayTold x_away x_coded x_statements x_isCrossing x_textKind x_askSecond x_redMany x_isOpen x_lastGreen x_greenTo x_isCycleGreen x_stillGreen x_rowMany x_fitMany x_fitRules x_fitGreen x_undoable x_newest x_seeded x_qCoded x_qWaits x_qOpened x_qBase x_qPiled x_qAnswer x_qIsNew x_octets v6 (ib_w 0 0 h3 rfl)) mV_X10_308 hPc hDc rfl rfl rfl hl rfl rfl (Nat.le_of_ble_eq_true rfl) ⟨(Nat.le_of_ble_eq_true rfl), (Nat.le_of_ble_eq_true rfl)⟩ ⟨(Nat.le_of_ble_eq_true rfl), (Nat.le_of_ble_eq_true rfl)⟩ dX10_asksSign_21) (fun u25 H locs hw hP hD hS => ?_)
      try dsimp only at hP hD hw
      replace hP : va_P (dC, dI) vwCl [(wi_rm0_0_1600_0 rm cy g_tape), (a_this, .inr (10, mfs rm x_taped v6 x_end x_ended 1 v6 x_fault x_faultPlace x_namePlace x_awayTold x_away x_coded x_statements x_isCrossing x_textKind x_askSecond x_redMany x_isOpen x_lastGreen x_greenTo x_isCycleGreen x_stillGreen x_rowMany x_fitMany x_fitRules x_fitGreen x_undoable x_newest x_seeded x_qCoded x_qWaits x_qOpened x_qBase x_qPiled x_qAnswer x_qIsNew x_octets))] H := hP
      replace hD := k_D hP hD
      subst hQ; exact k_vret hx hb hr hlk ((v6, 1, v6)) hS ⟨ib_w 0 1600 h7 rfl, fun q => absurd q (by decide), (by have := h13; omega), fun q => absurd q (by decide), (hO.symm.trans (by try simp only [show (1 : Int32).toInt = (1 : Int) from rfl]; exact hq))⟩ (hP.sub [1, 0] rfl) (hD.sub [1, 0] rfl rfl) (Nat.le_of_ble_eq_true rfl) (Nat.le_of_ble_eq_true rfl) dX10_asksSign_24
set_option maxHeartbeats 4000000 in
set_option maxRecDepth 100000 in
theorem s_X10_fail_a0_4_f_bad_0_0 (l : Launch) (dC : Nat → ClassId) (dI : Nat → Nat → Nat) (cy : Nat → ClassId) (sq : Nat → Nat) (a_this : Nat) (rm : Nat → Nat) (x_taped : Int32) (x_at : Int32) (x_end : Int32) (x_ended : Int32) (x_bad : Int32) (x_badPlace : Int32) (x_fault : Int32) (x_faultPlace : Int32) (x_namePlace : Int32) (x_awayTold : Int32) (x_away : Int32) (x_coded : Int32) (x_statements : Int32) (x_isCrossing : Int32) (x_textKind : Int32) (x_askSecond : Int32) (x_redMany : Int32) (x_isOpen : Int32) (x_lastGreen : Int32) (x_greenTo : Int32) (x_isCycleGreen : Int32) (x_stillGreen : Int32) (x_rowMany : Int32) (x_fitMany : Int32) (x_fitRules : Int32) (x_fitGreen : Int32) (x_undoable : Int32) (x_newest : Int32) (x_seeded : Int64) (x_qCoded : Int32) (x_qWaits : Int32) (x_qOpened : Int32) (x_qBase : Int32) (x_qPiled : Int32) (x_qAnswer : Int64) (x_qIsNew : Int32) (x_octets : Int32) (p1 : Int32) (hx_bad : ib x_bad 0 0) : k_Met l yX10_fail cX10_fail 3 none { frames := 0, cells := 0, slots := 0, locals := 0 } dC dI cy sq [.ref a_this, .int 4, .int p1] [(a_this, .inr (10, mfs rm x_taped x_at x_end x_ended x_bad x_badPlace x_fault x_faultPlace x_namePlace x_awayTold x_away x_coded x_statements x_isCrossing x_textKind x_askSecond x_redMany x_isOpen x_lastGreen x_greenTo x_isCycleGreen x_stillGreen x_rowMany x_fitMany x_fitRules x_fitGreen x_undoable x_newest x_seeded x_qCoded x_qWaits x_qOpened x_qBase x_qPiled x_qAnswer x_qIsNew x_octets))] (k_Qv dC dI (fun (_ : Unit) => True) (fun _ : Unit => [(a_this, .inr (10, mfs rm x_taped x_at x_end x_ended 4 p1 x_fault x_faultPlace x_namePlace x_awayTold x_away x_coded x_statements x_isCrossing x_textKind x_askSecond x_redMany x_isOpen x_lastGreen x_greenTo x_isCycleGreen x_stillGreen x_rowMany x_fitMany x_fitRules x_fitGreen x_undoable x_newest x_seeded x_qCoded x_qWaits x_qOpened x_qBase x_qPiled x_qAnswer x_qIsNew x_octets))])) := by
  refine k_ofW2 (by decide +kernel) (Nat.le_of_ble_eq_true rfl) ?_
  intro p e s m below meth c A ls H locs args Q hQ C0 hZ hr hlk hin hP hD hA hS hl
  have C0 : k_cx p s m args c cX10_fail 3 RX10 dC dI cy sq := C0
  have hx := C0.1
  have hb := C0.2.1
  have hl : lv_has ls 3 [(0, .ref a_this), (1, .int 4), (2, .int p1)] := hl
  refine lv_aload_n hx hb dX10_fail_0 rfl (lv_at hl 0 rfl) ?_
  refine k_get C0 fg_X10_279 hP 0 rfl rfl dX10_fail_1 ?_
  refine lv_if_eq (tgt := 8) hx hb dX10_fail_4 rfl (fun c1 => ?_) (fun c1 => ?_)
  · have h2 := ib_eq hx_bad (ib_c 0 0 0 rfl) c1
    refine lv_aload_n hx hb dX10_fail_8 rfl (lv_at hl 0 rfl) ?_
    refine lv_iload_n hx hb dX10_fail_9 rfl (lv_at hl 1 rfl) ?_
    refine k_put C0 fp_X10_279 hP hD hS 0 rfl rfl rfl (Nat.le_of_ble_eq_true rfl) dX10_fail_10 (fun H locs hP hD hS => ?_)
    replace hP : va_P (dC, dI) vwCl [(a_this, .inr (10, mfs rm x_taped x_at x_end x_ended 4 x_badPlace x_fault x_faultPlace x_namePlace x_awayTold x_away x_coded x_statements x_isCrossing x_textKind x_askSecond x_redMany x_isOpen x_lastGreen x_greenTo x_isCycleGreen x_stillGreen x_rowMany x_fitMany x_fitRules x_fitGreen x_undoable x_newest x_seeded x_qCoded x_qWaits x_qOpened x_qBase x_qPiled x_qAnswer x_qIsNew x_octets))] H := hP
    replace hD := k_D hP hD
    refine lv_aload_n hx hb dX10_fail_13 rfl (lv_at hl 0 rfl) ?_
    refine lv_iload_n hx hb dX10_fail_14 rfl (lv_at hl 2 rfl) ?_
    refine k_put C0 fp_X10_282 hP hD hS 0 rfl rfl rfl (Nat.le_of_ble_eq_true rfl) dX10_fail_15 (fun H locs hP hD hS => ?_)
    replace hP : va_P (dC, dI) vwCl [(a_this, .inr (10, mfs rm x_taped x_at x_end x_ended 4 p1 x_fault x_faultPlace x_namePlace x_awayTold x_away x_coded x_statements x_isCrossing x_textKind x_askSecond x_redMany x_isOpen x_lastGreen x_greenTo x_isCycleGreen x_stillGreen x_rowMany x_fitMany x_fitRules x_fitGreen x_undoable x_newest x_seeded x_qCoded x_qWaits x_qOpened x_qBase x_qPiled x_qAnswer x_qIsNew x_octets))] H := hP
    replace hD := k_D hP hD
    subst hQ; exact k_vret hx hb hr hlk () hS True.intro hP hD (Nat.le_of_ble_eq_true rfl) (Nat.le_of_ble_eq_true rfl) dX10_fail_18
  · exact absurd (ib_one hx_bad rfl) c1
set_option maxHeartbeats 4000000 in
set_option maxRecDepth 100000 in
theorem s_X10_qOpens_a0_21 (l : Launch) (dC : Nat → ClassId) (dI : Nat → Nat → Nat) (cy : Nat → ClassId) (sq : Nat → Nat) (a_this : Nat) (rm : Nat → Nat) (x_taped : Int32) (x_at : Int32) (x_end : Int32) (x_ended : Int32) (x_bad : Int32) (x_badPlace : Int32) (x_fault : Int32) (x_faultPlace : Int32) (x_namePlace : Int32) (x_awayTold : Int32) (x_away : Int32) (x_coded : Int32) (x_statements : Int32) (x_isCrossing : Int32) (x_textKind : Int32) (x_askSecond : Int32) (x_redMany : Int32) (x_isOpen : Int32) (x_lastGreen : Int32) (x_greenTo : Int32) (x_isCycleGreen : Int32) (x_stillGreen : Int32) (x_rowMany : Int32) (x_fitMany : Int32) (x_fitRules : Int32) (x_fitGreen : Int32) (x_undoable : Int32) (x_newest : Int32) (x_seeded : Int64) (x_qCoded : Int32) (x_qWaits : Int32) (x_qOpened : Int32) (x_qBase : Int32) (x_qPiled : Int32) (x_qAnswer : Int64) (x_qIsNew : Int32) (x_octets : Int32) (g_qWait : Nat → Int32) (p1 : Int32) (hx_qWaits : ib x_qWaits 0 1699) : k_Met l yX10_qOpens cX10_qOpens 3 none { frames := 1, cells := 0, slots := 0, locals := 22 } dC dI cy sq [.ref a_this, .int 21, .int p1] [(a_this, .inr (10, mfs rm x_taped x_at x_end x_ended x_bad x_badPlace x_fault x_faultPlace x_namePlace x_awayTold x_away x_coded x_statements x_isCrossing x_textKind x_askSecond x_redMany x_isOpen x_lastGreen x_greenTo x_isCycleGreen x_stillGreen x_rowMany x_fitMany x_fitRules x_fitGreen x_undoable x_newest x_seeded x_qCoded x_qWaits x_qOpened x_qBase x_qPiled x_qAnswer x_qIsNew x_octets)), (wi_rm112_0_1700_0 rm cy g_qWait)] (k_Qv dC dI (fun (u : Int32 × Int32 × Int32 × Int32 × (Nat → Int32)) => match u with | (n0, n1, n2, n3, n4) => ib n2 0 1700 ∧ (n0 = 0 → x_bad = 0) ∧ (1 * n2.toInt + (-1) * x_qWaits.toInt ≤ 1) ∧ (1 * x_qWaits.toInt + (-1) * n2.toInt ≤ 0) ∧ (n0 = 0 → n4 = upd g_qWait (Int32.toNatClampNeg x_qWaits) 21 ∧ n2.toInt = x_qWaits.toInt + 1) ∧ (F_X10_qOpens_a0_21 (Int32.toInt x_bad) (Int32.toInt x_badPlace) (Int32.toInt x_qWaits) (Int32.toInt x_qOpened) (lf_A g_qWait) (Int32.toInt p1) = ((Int32.toInt n0), (Int32.toInt n1), (Int32.toInt n2), (Int32.toInt n3), (lf_A n4)))) (fun u : Int32 × Int32 × Int32 × Int32 × (Nat → Int32) => match u with | (n0, n1, n2, n3, n4) => [(a_this, .inr (10, mfs rm x_taped x_at x_end x_ended n0 n1 x_fault x_faultPlace x_namePlace x_awayTold x_away x_coded x_statements x_isCrossing x_textKind x_askSecond x_redMany x_isOpen x_lastGreen x_greenTo x_isCycleGreen x_stillGreen x_rowMany x_fitMany x_fitRules x_fitGreen x_undoable x_newest x_seeded x_qCoded n2 n3 x_qBase x_qPiled x_qAnswer x_qIsNew x_octets)), (wi_rm112_0_1700_0 rm cy n4)])) := by
  refine k_ofW2 (by decide +kernel) (Nat.le_of_ble_eq_true rfl) ?_
  intro p e s m below meth c A ls H locs args Q hQ C0 hZ hr hlk hin hP hD hA hS hl
  have C0 : k_cx p s m args c cX10_qOpens 3 RX10 dC dI cy sq := C0
  have hx := C0.1
  have hb := C0.2.1
  have hl : lv_has ls 3 [(0, .ref a_this), (1, .int 21), (2, .int p1)] := hl
  obtain ⟨O, hO⟩ : ∃ o, o = F_X10_qOpens_a0_21 (Int32.toInt x_bad) (Int32.toInt x_badPlace) (Int32.toInt x_qWaits) (Int32.toInt x_qOpened) (lf_A g_qWait) (Int32.toInt p1) := ⟨_, rfl⟩
  have hq := hO
  unfold F_X10_qOpens_a0_21 at hq
  refine lv_aload_n hx hb dX10_qOpens_0 rfl (lv_at hl 0 rfl) ?_
  refine k_get C0 fg_X10_279 hP 0 rfl rfl dX10_qOpens_1 ?_
  refine lv_if_eq (tgt := 8) hx hb dX10_qOpens_4 rfl (fun c1 => ?_) (fun c1 => ?_)
  · as_aux_lemma =>
      replace hq := lf_pos hq (lf_eq (lf_rf x_bad) (lf_lc 0 (0 : Int) rfl) c1)
      have h2 := ib_eq (ib_any x_bad) (ib_c 0 0 0 rfl) c1
      have h3 : ib x_bad 0 0 := ib_w 0 0 h2.1 rfl
      refine lv_aload_n hx hb dX10_qOpens_8 rfl (lv_at hl 0 rfl) ?_
      refine k_get C0 fg_X10_375 hP 0 rfl rfl dX10_qOpens_9 ?_
      refine lv_bipush (v := 6) hx hb dX10_qOpens_12 rfl ?_
      refine lv_icmp_ne (tgt := 24) hx hb dX10_qOpens_14 rfl (fun c4 => ?_) (fun c4 => ?_)
      · as_aux_lemma =>
          replace hq := lf_neg hq (lf_ne (lf_rf x_qOpened) (lf_lc 6 (6 : Int) rfl) c4)
          refine lv_aload_n hx hb dX10_qOpens_24 rfl (lv_at hl 0 rfl) ?_
          refine lv_dup hx hb dX10_qOpens_25 rfl ?_
          refine k_get C0 fg_X10_375 hP 0 rfl rfl dX10_qOpens_26 ?_
          refine lv_iconst (v := 1) hx hb dX10_qOpens_29 rfl ?_
          refine lv_iadd hx hb dX10_qOpens_30 ?_
          refine lv_topi (fun z5 ez5 => ?_)
          have Ez5 := lf_op lf_iadd ez5 (lf_rf x_qOpened) (lf_lc 1 (1 : Int) rfl)
          refine k_put C0 fp_X10_375 hP hD hS 0 rfl rfl rfl (Nat.le_of_ble_eq_true rfl) dX10_qOpens_31 (fun H locs hP hD hS => ?_)
          replace hP : va_P (dC, dI) vwCl [(a_this, .inr (10, mfs rm x_taped x_at x_end x_ended x_bad x_badPlace x_fault x_faultPlace x_namePlace x_awayTold x_away x_coded x_statements x_isCrossing x_textKind x_askSecond x_redMany x_isOpen x_lastGreen x_greenTo x_isCycleGreen x_stillGreen x_rowMany x_fitMany x_fitRules x_fitGreen x_undoable x_newest x_seeded x_qCoded x_qWaits z5 x_qBase x_qPiled x_qAnswer x_qIsNew x_octets)), (wi_rm112_0_1700_0 rm cy g_qWait)] H := hP
          replace hD := k_D hP hD
          refine lv_aload_n hx hb dX10_qOpens_34 rfl (lv_at hl 0 rfl) ?_
          refine k_get C0 fg_X10_267 hP 0 rfl rfl dX10_qOpens_35 ?_
          refine lv_aload_n hx hb dX10_qOpens_38 rfl (lv_at hl 0 rfl) ?_
          refine k_get C0 fg_X10_372 hP 0 rfl rfl dX10_qOpens_39 ?_
          refine lv_iload_n hx hb dX10_qOpens_42 rfl (lv_at hl 1 rfl) ?_
          refine va_iast hx hb C0.2.2.2.2.2.1 hP hD hS 1 0 rfl rfl (ib_in 1700 hx_qWaits rfl) dX10_qOpens_43 (fun H locs hP hD hS => ?_)
          replace hP : va_P (dC, dI) vwCl [(a_this, .inr (10, mfs rm x_taped x_at x_end x_ended x_bad x_badPlace x_fault x_faultPlace x_namePlace x_awayTold x_away x_coded x_statements x_isCrossing x_textKind x_askSecond x_redMany x_isOpen x_lastGreen x_greenTo x_isCycleGreen x_stillGreen x_rowMany x_fitMany x_fitRules x_fitGreen x_undoable x_newest x_seeded x_qCoded x_qWaits z5 x_qBase x_qPiled x_qAnswer x_qIsNew x_octets)), (wi_rm112_0_1700_0 rm cy (upd g_qWait (Int32.toNatClampNeg x_qWaits) 21))] H := hP
          replace hD := k_D hP hD
          generalize h7E : upd g_qWait (Int32.toNatClampNeg x_qWaits) 21 = f6 at hP hD
          have ef6 := h7E
          have Ef6 := lf_st ef6 (lf_ra g_qWait) (lf_rf x_qWaits) (lf_lc 21 (21 : Int) rfl)
          refine lv_aload_n hx hb dX10_qOpens_44 rfl (lv_at hl 0 rfl) ?_
          refine lv_dup hx hb dX10_qOpens_45 rfl ?_
          refine k_get C0 fg_X10_372 hP 0 rfl rfl dX10_qOpens_46 ?_
          refine lv_iconst (v := 1) hx hb dX10_qOpens_49 rfl ?_
          refine lv_iadd hx hb dX10_qOpens_50 ?_
          refine lv_topi (fun z8 ez8 => ?_)
          have h9 := ib_add hx_qWaits (ib_c 1 1 1 rfl) rfl
          rw [← ez8] at h9
          have h10 : ib z8 1 1700 := ib_w 1 1700 h9.1 rfl
          have Ez8 := lf_add h9.2 (lf_rf x_qWaits) (lf_lc 1 (1 : Int) rfl)
          refine k_put C0 fp_X10_372 hP hD hS 0 rfl rfl rfl (Nat.le_of_ble_eq_true rfl) dX10_qOpens_51 (fun H locs hP hD hS => ?_)
          replace hP : va_P (dC, dI) vwCl [(a_this, .inr (10, mfs rm x_taped x_at x_end x_ended x_bad x_badPlace x_fault x_faultPlace x_namePlace x_awayTold x_away x_coded x_statements x_isCrossing x_textKind x_askSecond x_redMany x_isOpen x_lastGreen x_greenTo x_isCycleGreen x_stillGreen x_rowMany x_fitMany x_fitRules x_fitGreen x_undoable x_newest x_seeded x_qCoded z8 z5 x_qBase x_qPiled x_qAnswer x_qIsNew x_octets)), (wi_rm112_0_1700_0 rm cy f6)] H := hP
          replace hD := k_D hP hD
          subst hQ; exact k_vret hx hb hr hlk ((x_bad, x_badPlace, z8, z5, f6)) hS ⟨ib_w 0 1700 h10 rfl, fun q => q, (by have := h9.2; have : (1 : Int32).toInt = 1 := rfl; omega), (by have := h9.2; have : (1 : Int32).toInt = 1 := rfl; omega), fun _ => ⟨h7E.symm, by have := (hx_qWaits).1; have := (hx_qWaits).2; have := (h10).1; have := (h10).2; have := h9.2; have : (1 : Int32).toInt = 1 := rfl; omega⟩, (hO.symm.trans (by rw [lf_u Ez8]; rw [lf_u Ez5]; rw [lf_ua Ef6]; exact hq))⟩ hP hD (Nat.le_of_ble_eq_true rfl) (Nat.le_of_ble_eq_true rfl) dX10_qOpens_54
      · replace hq := lf_pos hq (lf_eq (lf_rf x_qOpened) (lf_lc 6 (6 : Int) rfl) c4)
        have h11 := ib_eq (ib_any x_qOpened) (ib_c 6 6 6 rfl) c4
        have h12 : ib x_qOpened 6 6 := ib_w 6 6 h11.1 rfl
        refine lv_aload_n hx hb dX10_qOpens_17 rfl (lv_at hl 0 rfl) ?_
        refine lv_iconst (v := 4) hx hb dX10_qOpens_18 rfl ?_
        refine lv_iload_n hx hb dX10_qOpens_19 rfl (lv_at hl 2 rfl) ?_
        refine k_jvm hP hD hS hA [0] [false, true] rfl rfl rfl 0 0 (Nat.le_of_ble_eq_true rfl) (Nat.le_of_ble_eq_true rfl) (fun hPc hDc => k_runV (As := [.int 4, .int p1]) (rest := []) C0 hZ hS hA (s_X10_fail_a0_4_f_bad_0_0 l dC dI cy sq a_this rm x_taped x_at x_end x_ended x_bad x_badPlace x_fault x_faultPlace x_namePlace x_awayTold x_away x_coded x_statements x_isCrossing x_textKind x_askSecond x_redMany x_isOpen x_lastGreen x_greenTo x_isCycleGreen x_stillGreen x_rowMany x_fitMany x_fitRules x_fitGreen x_undoable x_newest x_seeded x_qCoded x_qWaits x_qOpened x_qBase x_qPiled x_qAnswer x_qIsNew x_octets p1 (ib_w 0 0 h3 rfl)) mV_X10_308 hPc hDc rfl rfl rfl hl rfl rfl (Nat.le_of_ble_eq_true rfl) ⟨(Nat.le_of_ble_eq_true rfl), (Nat.le_of_ble_eq_true rfl)⟩ ⟨(Nat.le_of_ble_eq_true rfl), (Nat.le_of_ble_eq_true rfl)⟩ dX10_qOpens_20) (fun u14 H locs hw hP hD hS => ?_)
        try dsimp only at hP hD hw
        replace hP : va_P (dC, dI) vwCl [(wi_rm112_0_1700_0 rm cy g_qWait), (a_this, .inr (10, mfs rm x_taped x_at x_end x_ended 4 p1 x_fault x_faultPlace x_namePlace x_awayTold x_away x_coded x_statements x_isCrossing x_textKind x_askSecond x_redMany x_isOpen x_lastGreen x_greenTo x_isCycleGreen x_stillGreen x_rowMany x_fitMany x_fitRules x_fitGreen x_undoable x_newest x_seeded x_qCoded x_qWaits x_qOpened x_qBase x_qPiled x_qAnswer x_qIsNew x_octets))] H := hP
        replace hD := k_D hP hD
        subst hQ; exact k_vret hx hb hr hlk ((4, p1, x_qWaits, x_qOpened, g_qWait)) hS ⟨ib_w 0 1700 hx_qWaits rfl, fun q => absurd q (by decide), (by omega), (by omega), fun q => absurd q (by decide), (hO.symm.trans (by try simp only [show (4 : Int32).toInt = (4 : Int) from rfl]; exact hq))⟩ (hP.sub [1, 0] rfl) (hD.sub [1, 0] rfl rfl) (Nat.le_of_ble_eq_true rfl) (Nat.le_of_ble_eq_true rfl) dX10_qOpens_23
  · replace hq := lf_neg hq (lf_ne (lf_rf x_bad) (lf_lc 0 (0 : Int) rfl) c1)
    subst hQ; exact k_vret hx hb hr hlk ((x_bad, x_badPlace, x_qWaits, x_qOpened, g_qWait)) hS ⟨ib_w 0 1700 hx_qWaits rfl, fun q => q, (by omega), (by omega), fun q => absurd q c1, (hO.symm.trans (by exact hq))⟩ hP hD (Nat.le_of_ble_eq_true rfl) (Nat.le_of_ble_eq_true rfl) dX10_qOpens_7
set_option maxHeartbeats 4000000 in
set_option maxRecDepth 100000 in
theorem s_X10_asks (l : Launch) (dC : Nat → ClassId) (dI : Nat → Nat → Nat) (cy : Nat → ClassId) (sq : Nat → Nat) (a_this : Nat) (rm : Nat → Nat) (x_taped : Int32) (x_at : Int32) (x_end : Int32) (x_ended : Int32) (x_bad : Int32) (x_badPlace : Int32) (x_fault : Int32) (x_faultPlace : Int32) (x_namePlace : Int32) (x_awayTold : Int32) (x_away : Int32) (x_coded : Int32) (x_statements : Int32) (x_isCrossing : Int32) (x_textKind : Int32) (x_askSecond : Int32) (x_redMany : Int32) (x_isOpen : Int32) (x_lastGreen : Int32) (x_greenTo : Int32) (x_isCycleGreen : Int32) (x_stillGreen : Int32) (x_rowMany : Int32) (x_fitMany : Int32) (x_fitRules : Int32) (x_fitGreen : Int32) (x_undoable : Int32) (x_newest : Int32) (x_seeded : Int64) (x_qCoded : Int32) (x_qWaits : Int32) (x_qOpened : Int32) (x_qBase : Int32) (x_qPiled : Int32) (x_qAnswer : Int64) (x_qIsNew : Int32) (x_octets : Int32) (g_tape : Nat → Int32) (a_arg0 : Nat) (g_arg0 : Nat → Int32) (hx_at : ib x_at 0 1600) (hx_end : ib x_end 0 1600) (hg_tape : ia g_tape 1600 0 255) : k_Met l yX10_asks cX10_asks 2 none { frames := 3, cells := 0, slots := 0, locals := 64 } dC dI cy sq [.ref a_this, .ref a_arg0] [(a_this, .inr (10, mfs rm x_taped x_at x_end x_ended x_bad x_badPlace x_fault x_faultPlace x_namePlace x_awayTold x_away x_coded x_statements x_isCrossing x_textKind x_askSecond x_redMany x_isOpen x_lastGreen x_greenTo x_isCycleGreen x_stillGreen x_rowMany x_fitMany x_fitRules x_fitGreen x_undoable x_newest x_seeded x_qCoded x_qWaits x_qOpened x_qBase x_qPiled x_qAnswer x_qIsNew x_octets)), (wi_rm0_0_1600_0 rm cy g_tape), (wi_2_3_0 a_arg0 cy g_arg0)] (k_Qv dC dI (fun (u : Int32 × Int32 × Int32 × Int32) => match u with | (n0, n1, n2, n3) => ib n0 0 1600 ∧ (n2 = 0 → x_bad = 0) ∧ (1 * x_at.toInt + (-1) * n0.toInt ≤ 0) ∧ (n2 = 0 → 1 * x_at.toInt + (-1) * n0.toInt ≤ (-3)) ∧ (F_X10_asks (Int32.toInt x_at) (Int32.toInt x_end) (Int32.toInt x_ended) (Int32.toInt x_bad) (Int32.toInt x_badPlace) (lf_A g_tape) (lf_A g_arg0) = ((Int32.toInt n0), (Int32.toInt n1), (Int32.toInt n2), (Int32.toInt n3)))) (fun u : Int32 × Int32 × Int32 × Int32 => match u with | (n0, n1, n2, n3) => [(a_this, .inr (10, mfs rm x_taped n0 x_end n1 n2 n3 x_fault x_faultPlace x_namePlace x_awayTold x_away x_coded x_statements x_isCrossing x_textKind x_askSecond x_redMany x_isOpen x_lastGreen x_greenTo x_isCycleGreen x_stillGreen x_rowMany x_fitMany x_fitRules x_fitGreen x_undoable x_newest x_seeded x_qCoded x_qWaits x_qOpened x_qBase x_qPiled x_qAnswer x_qIsNew x_octets)), (wi_rm0_0_1600_0 rm cy g_tape), (wi_2_3_0 a_arg0 cy g_arg0)])) := by
  refine k_ofW2 (by decide +kernel) (Nat.le_of_ble_eq_true rfl) ?_
  intro p e s m below meth c A ls H locs args Q hQ C0 hZ hr hlk hin hP hD hA hS hl
  have C0 : k_cx p s m args c cX10_asks 2 RX10 dC dI cy sq := C0
  have hx := C0.1
  have hb := C0.2.1
  have hl : lv_has ls 2 [(0, .ref a_this), (1, .ref a_arg0)] := hl
  obtain ⟨O, hO⟩ : ∃ o, o = F_X10_asks (Int32.toInt x_at) (Int32.toInt x_end) (Int32.toInt x_ended) (Int32.toInt x_bad) (Int32.toInt x_badPlace) (lf_A g_tape) (lf_A g_arg0) := ⟨_, rfl⟩
  have hq := hO
  unfold F_X10_asks at hq
  refine lv_aload_n hx hb dX10_asks_0 rfl (lv_at hl 0 rfl) ?_
  refine k_get C0 fg_X10_279 hP 0 rfl rfl dX10_asks_1 ?_
  refine lv_if_ne (tgt := 24) hx hb dX10_asks_4 rfl (fun c1 => ?_) (fun c1 => ?_)
  · replace hq := lf_neg hq (lf_ne (lf_rf x_bad) (lf_lc 0 (0 : Int) rfl) c1)
    subst hQ; exact k_vret hx hb hr hlk ((x_at, x_ended, x_bad, x_badPlace)) hS ⟨ib_w 0 1600 hx_at rfl, fun q => q, (by omega), fun q => absurd q c1, (hO.symm.trans (by exact hq))⟩ hP hD (Nat.le_of_ble_eq_true rfl) (Nat.le_of_ble_eq_true rfl) dX10_asks_24
  · replace hq := lf_pos hq (lf_eq (lf_rf x_bad) (lf_lc 0 (0 : Int) rfl) c1)
    have h2 := ib_eq (ib_any x_bad) (ib_c 0 0 0 rfl) c1
    have h3 : ib x_bad 0 0 := ib_w 0 0 h2.1 rfl
    refine lv_aload_n hx hb dX10_asks_7 rfl (lv_at hl 0 rfl) ?_
    refine lv_aload_n hx hb dX10_asks_8 rfl (lv_at hl 1 rfl) ?_
    refine k_jim hP hD hS hA [0, 1, 2] [] rfl rfl rfl 0 0 (Nat.le_of_ble_eq_true rfl) (Nat.le_of_ble_eq_true rfl) (fun hPc hDc => k_runV (As := [.ref a_arg0]) (rest := []) C0 hZ hS hA (s_X10_takes l dC dI cy sq a_this rm x_taped x_at x_end x_ended x_bad x_badPlace x_fault x_faultPlace x_namePlace x_awayTold x_away x_coded x_statements x_isCrossing x_textKind x_askSecond x_redMany x_isOpen x_lastGreen x_greenTo x_isCycleGreen x_stillGreen x_rowMany x_fitMany x_fitRules x_fitGreen x_undoable x_newest x_seeded x_qCoded x_qWaits x_qOpened x_qBase x_qPiled x_qAnswer x_qIsNew x_octets g_tape a_arg0 g_arg0 (ib_w 0 1600 hx_at rfl) (ib_w 0 1600 hx_end rfl) hg_tape) mV_X10_305 hPc hDc rfl rfl rfl hl rfl rfl (Nat.le_of_ble_eq_true rfl) ⟨(Nat.le_of_ble_eq_true rfl), (Nat.le_of_ble_eq_true rfl)⟩ ⟨(Nat.le_of_ble_eq_true rfl), (Nat.le_of_ble_eq_true rfl)⟩ dX10_asks_9) (fun r4 u5 H locs hw hP hD hS => ?_)
    obtain ⟨v6, v7⟩ := u5
    try dsimp only at hP hD hw
    replace hP : va_P (dC, dI) vwCl [(a_this, .inr (10, mfs rm x_taped v6 x_end v7 x_bad x_badPlace x_fault x_faultPlace x_namePlace x_awayTold x_away x_coded x_statements x_isCrossing x_textKind x_askSecond x_redMany x_isOpen x_lastGreen x_greenTo x_isCycleGreen x_stillGreen x_rowMany x_fitMany x_fitRules x_fitGreen x_undoable x_newest x_seeded x_qCoded x_qWaits x_qOpened x_qBase x_qPiled x_qAnswer x_qIsNew x_octets)), (wi_rm0_0_1600_0 rm cy g_tape), (wi_2_3_0 a_arg0 cy g_arg0)] H := hP
    replace hD := k_D hP hD
    obtain ⟨h8, h9, h10, h11, h12, h13, h14, h15, h16, h17⟩ := hw
    replace hq := lf_p1 hq h17
    replace hq := lf_p1 hq rfl
    refine lv_if_ne (tgt := 24) hx hb dX10_asks_12 rfl (fun c18 => ?_) (fun c18 => ?_)
    · replace hq := lf_neg hq (lf_ne (lf_rf r4) (lf_lc 0 (0 : Int) rfl) c18)
      have h19 : ib r4 1 1 := ib_w 1 1 (ib_ne_lo 0 h9 rfl c18) rfl
      have h20 := h16 (ib_nz h19 rfl)
      have h21 : ib x_at 0 1597 := ⟨(hx_at).1, by have := (hx_at).2; have := h20; have := (h8).2; omega⟩
      have h22 : ib v6 3 1600 := ⟨by have := (h8).1; have := h20; have := (h21).1; omega, (h8).2⟩
      have h23 : ib v7 3 1600 := ib_w 3 1600 (ib_two (ib_any v7) (h11 (ib_nz h19 rfl))) rfl
      have h24 : ib x_end 1 1600 := ib_w 1 1600 (ib_two hx_end (h13 (ib_nz h19 rfl))) rfl
      subst hQ; exact k_vret hx hb hr hlk ((v6, v7, x_bad, x_badPlace)) hS ⟨ib_w 0 1600 h22 rfl, fun q => q, (by have := h20; omega), fun hq9 => (by have := h20; omega), (hO.symm.trans (by exact hq))⟩ hP hD (Nat.le_of_ble_eq_true rfl) (Nat.le_of_ble_eq_true rfl) dX10_asks_24
    · replace hq := lf_pos hq (lf_eq (lf_rf r4) (lf_lc 0 (0 : Int) rfl) c18)
      have h25 := ib_eq h9 (ib_c 0 0 0 rfl) c18
      have h26 : ib r4 0 0 := ib_w 0 0 h25.1 rfl
      refine lv_aload_n hx hb dX10_asks_15 rfl (lv_at hl 0 rfl) ?_
      refine lv_iconst (v := 1) hx hb dX10_asks_16 rfl ?_
      refine lv_aload_n hx hb dX10_asks_17 rfl (lv_at hl 0 rfl) ?_
      refine k_get C0 fg_X10_285 hP 0 rfl rfl dX10_asks_18 ?_
      refine k_jvm hP hD hS hA [0] [false, true, true] rfl rfl rfl 0 0 (Nat.le_of_ble_eq_true rfl) (Nat.le_of_ble_eq_true rfl) (fun hPc hDc => k_runV (As := [.int 1, .int v6]) (rest := []) C0 hZ hS hA (s_X10_fail_a0_1_f_bad_0_0 l dC dI cy sq a_this rm x_taped v6 x_end v7 x_bad x_badPlace x_fault x_faultPlace x_namePlace x_awayTold x_away x_coded x_statements x_isCrossing x_textKind x_askSecond x_redMany x_isOpen x_lastGreen x_greenTo x_isCycleGreen x_stillGreen x_rowMany x_fitMany x_fitRules x_fitGreen x_undoable x_newest x_seeded x_qCoded x_qWaits x_qOpened x_qBase x_qPiled x_qAnswer x_qIsNew x_octets v6 (ib_w 0 0 h3 rfl)) mV_X10_308 hPc hDc rfl rfl rfl hl rfl rfl (Nat.le_of_ble_eq_true rfl) ⟨(Nat.le_of_ble_eq_true rfl), (Nat.le_of_ble_eq_true rfl)⟩ ⟨(Nat.le_of_ble_eq_true rfl), (Nat.le_of_ble_eq_true rfl)⟩ dX10_asks_21) (fun u28 H locs hw hP hD hS => ?_)
      try dsimp only at hP hD hw
      replace hP : va_P (dC, dI) vwCl [(wi_rm0_0_1600_0 rm cy g_tape), (wi_2_3_0 a_arg0 cy g_arg0), (a_this, .inr (10, mfs rm x_taped v6 x_end v7 1 v6 x_fault x_faultPlace x_namePlace x_awayTold x_away x_coded x_statements x_isCrossing x_textKind x_askSecond x_redMany x_isOpen x_lastGreen x_greenTo x_isCycleGreen x_stillGreen x_rowMany x_fitMany x_fitRules x_fitGreen x_undoable x_newest x_seeded x_qCoded x_qWaits x_qOpened x_qBase x_qPiled x_qAnswer x_qIsNew x_octets))] H := hP
      replace hD := k_D hP hD
      subst hQ; exact k_vret hx hb hr hlk ((v6, v7, 1, v6)) hS ⟨ib_w 0 1600 h8 rfl, fun q => absurd q (by decide), (by have := h15; omega), fun q => absurd q (by decide), (hO.symm.trans (by try simp only [show (1 : Int32).toInt = (1 : Int) from rfl]; exact hq))⟩ (hP.sub [2, 0, 1] rfl) (hD.sub [2, 0, 1] rfl rfl) (Nat.le_of_ble_eq_true rfl) (Nat.le_of_ble_eq_true rfl) dX10_asks_24
set_option maxHeartbeats 4000000 in
set_option maxRecDepth 100000 in
theorem s_X10_qOpens_a0_22 (l : Launch) (dC : Nat → ClassId) (dI : Nat → Nat → Nat) (cy : Nat → ClassId) (sq : Nat → Nat) (a_this : Nat) (rm : Nat → Nat) (x_taped : Int32) (x_at : Int32) (x_end : Int32) (x_ended : Int32) (x_bad : Int32) (x_badPlace : Int32) (x_fault : Int32) (x_faultPlace : Int32) (x_namePlace : Int32) (x_awayTold : Int32) (x_away : Int32) (x_coded : Int32) (x_statements : Int32) (x_isCrossing : Int32) (x_textKind : Int32) (x_askSecond : Int32) (x_redMany : Int32) (x_isOpen : Int32) (x_lastGreen : Int32) (x_greenTo : Int32) (x_isCycleGreen : Int32) (x_stillGreen : Int32) (x_rowMany : Int32) (x_fitMany : Int32) (x_fitRules : Int32) (x_fitGreen : Int32) (x_undoable : Int32) (x_newest : Int32) (x_seeded : Int64) (x_qCoded : Int32) (x_qWaits : Int32) (x_qOpened : Int32) (x_qBase : Int32) (x_qPiled : Int32) (x_qAnswer : Int64) (x_qIsNew : Int32) (x_octets : Int32) (g_qWait : Nat → Int32) (p1 : Int32) (hx_qWaits : ib x_qWaits 0 1699) : k_Met l yX10_qOpens cX10_qOpens 3 none { frames := 1, cells := 0, slots := 0, locals := 22 } dC dI cy sq [.ref a_this, .int 22, .int p1] [(a_this, .inr (10, mfs rm x_taped x_at x_end x_ended x_bad x_badPlace x_fault x_faultPlace x_namePlace x_awayTold x_away x_coded x_statements x_isCrossing x_textKind x_askSecond x_redMany x_isOpen x_lastGreen x_greenTo x_isCycleGreen x_stillGreen x_rowMany x_fitMany x_fitRules x_fitGreen x_undoable x_newest x_seeded x_qCoded x_qWaits x_qOpened x_qBase x_qPiled x_qAnswer x_qIsNew x_octets)), (wi_rm112_0_1700_0 rm cy g_qWait)] (k_Qv dC dI (fun (u : Int32 × Int32 × Int32 × Int32 × (Nat → Int32)) => match u with | (n0, n1, n2, n3, n4) => ib n2 0 1700 ∧ (n0 = 0 → x_bad = 0) ∧ (1 * n2.toInt + (-1) * x_qWaits.toInt ≤ 1) ∧ (1 * x_qWaits.toInt + (-1) * n2.toInt ≤ 0) ∧ (n0 = 0 → n4 = upd g_qWait (Int32.toNatClampNeg x_qWaits) 22 ∧ n2.toInt = x_qWaits.toInt + 1) ∧ (F_X10_qOpens_a0_22 (Int32.toInt x_bad) (Int32.toInt x_badPlace) (Int32.toInt x_qWaits) (Int32.toInt x_qOpened) (lf_A g_qWait) (Int32.toInt p1) = ((Int32.toInt n0), (Int32.toInt n1), (Int32.toInt n2), (Int32.toInt n3), (lf_A n4)))) (fun u : Int32 × Int32 × Int32 × Int32 × (Nat → Int32) => match u with | (n0, n1, n2, n3, n4) => [(a_this, .inr (10, mfs rm x_taped x_at x_end x_ended n0 n1 x_fault x_faultPlace x_namePlace x_awayTold x_away x_coded x_statements x_isCrossing x_textKind x_askSecond x_redMany x_isOpen x_lastGreen x_greenTo x_isCycleGreen x_stillGreen x_rowMany x_fitMany x_fitRules x_fitGreen x_undoable x_newest x_seeded x_qCoded n2 n3 x_qBase x_qPiled x_qAnswer x_qIsNew x_octets)), (wi_rm112_0_1700_0 rm cy n4)])) := by
  refine k_ofW2 (by decide +kernel) (Nat.le_of_ble_eq_true rfl) ?_
  intro p e s m below meth c A ls H locs args Q hQ C0 hZ hr hlk hin hP hD hA hS hl
  have C0 : k_cx p s m args c cX10_qOpens 3 RX10 dC dI cy sq := C0
  have hx := C0.1
  have hb := C0.2.1
  have hl : lv_has ls 3 [(0, .ref a_this), (1, .int 22), (2, .int p1)] := hl
  obtain ⟨O, hO⟩ : ∃ o, o = F_X10_qOpens_a0_22 (Int32.toInt x_bad) (Int32.toInt x_badPlace) (Int32.toInt x_qWaits) (Int32.toInt x_qOpened) (lf_A g_qWait) (Int32.toInt p1) := ⟨_, rfl⟩
  have hq := hO
  unfold F_X10_qOpens_a0_22 at hq
  refine lv_aload_n hx hb dX10_qOpens_0 rfl (lv_at hl 0 rfl) ?_
  refine k_get C0 fg_X10_279 hP 0 rfl rfl dX10_qOpens_1 ?_
  refine lv_if_eq (tgt := 8) hx hb dX10_qOpens_4 rfl (fun c1 => ?_) (fun c1 => ?_)
  · as_aux_lemma =>
      replace hq := lf_pos hq (lf_eq (lf_rf x_bad) (lf_lc 0 (0 : Int) rfl) c1)
      have h2 := ib_eq (ib_any x_bad) (ib_c 0 0 0 rfl) c1
      have h3 : ib x_bad 0 0 := ib_w 0 0 h2.1 rfl
      refine lv_aload_n hx hb dX10_qOpens_8 rfl (lv_at hl 0 rfl) ?_
      refine k_get C0 fg_X10_375 hP 0 rfl rfl dX10_qOpens_9 ?_
      refine lv_bipush (v := 6) hx hb dX10_qOpens_12 rfl ?_
      refine lv_icmp_ne (tgt := 24) hx hb dX10_qOpens_14 rfl (fun c4 => ?_) (fun c4 => ?_)
      · as_aux_lemma =>
          replace hq := lf_neg hq (lf_ne (lf_rf x_qOpened) (lf_lc 6 (6 : Int) rfl) c4)
          refine lv_aload_n hx hb dX10_qOpens_24 rfl (lv_at hl 0 rfl) ?_
          refine lv_dup hx hb dX10_qOpens_25 rfl ?_
          refine k_get C0 fg_X10_375 hP 0 rfl rfl dX10_qOpens_26 ?_
          refine lv_iconst (v := 1) hx hb dX10_qOpens_29 rfl ?_
          refine lv_iadd hx hb dX10_qOpens_30 ?_
          refine lv_topi (fun z5 ez5 => ?_)
          have Ez5 := lf_op lf_iadd ez5 (lf_rf x_qOpened) (lf_lc 1 (1 : Int) rfl)
          refine k_put C0 fp_X10_375 hP hD hS 0 rfl rfl rfl (Nat.le_of_ble_eq_true rfl) dX10_qOpens_31 (fun H locs hP hD hS => ?_)
          replace hP : va_P (dC, dI) vwCl [(a_this, .inr (10, mfs rm x_taped x_at x_end x_ended x_bad x_badPlace x_fault x_faultPlace x_namePlace x_awayTold x_away x_coded x_statements x_isCrossing x_textKind x_askSecond x_redMany x_isOpen x_lastGreen x_greenTo x_isCycleGreen x_stillGreen x_rowMany x_fitMany x_fitRules x_fitGreen x_undoable x_newest x_seeded x_qCoded x_qWaits z5 x_qBase x_qPiled x_qAnswer x_qIsNew x_octets)), (wi_rm112_0_1700_0 rm cy g_qWait)] H := hP
          replace hD := k_D hP hD
          refine lv_aload_n hx hb dX10_qOpens_34 rfl (lv_at hl 0 rfl) ?_
          refine k_get C0 fg_X10_267 hP 0 rfl rfl dX10_qOpens_35 ?_
          refine lv_aload_n hx hb dX10_qOpens_38 rfl (lv_at hl 0 rfl) ?_
          refine k_get C0 fg_X10_372 hP 0 rfl rfl dX10_qOpens_39 ?_
          refine lv_iload_n hx hb dX10_qOpens_42 rfl (lv_at hl 1 rfl) ?_
          refine va_iast hx hb C0.2.2.2.2.2.1 hP hD hS 1 0 rfl rfl (ib_in 1700 hx_qWaits rfl) dX10_qOpens_43 (fun H locs hP hD hS => ?_)
          replace hP : va_P (dC, dI) vwCl [(a_this, .inr (10, mfs rm x_taped x_at x_end x_ended x_bad x_badPlace x_fault x_faultPlace x_namePlace x_awayTold x_away x_coded x_statements x_isCrossing x_textKind x_askSecond x_redMany x_isOpen x_lastGreen x_greenTo x_isCycleGreen x_stillGreen x_rowMany x_fitMany x_fitRules x_fitGreen x_undoable x_newest x_seeded x_qCoded x_qWaits z5 x_qBase x_qPiled x_qAnswer x_qIsNew x_octets)), (wi_rm112_0_1700_0 rm cy (upd g_qWait (Int32.toNatClampNeg x_qWaits) 22))] H := hP
          replace hD := k_D hP hD
          generalize h7E : upd g_qWait (Int32.toNatClampNeg x_qWaits) 22 = f6 at hP hD
          have ef6 := h7E
          have Ef6 := lf_st ef6 (lf_ra g_qWait) (lf_rf x_qWaits) (lf_lc 22 (22 : Int) rfl)
          refine lv_aload_n hx hb dX10_qOpens_44 rfl (lv_at hl 0 rfl) ?_
          refine lv_dup hx hb dX10_qOpens_45 rfl ?_
          refine k_get C0 fg_X10_372 hP 0 rfl rfl dX10_qOpens_46 ?_
          refine lv_iconst (v := 1) hx hb dX10_qOpens_49 rfl ?_
          refine lv_iadd hx hb dX10_qOpens_50 ?_
          refine lv_topi (fun z8 ez8 => ?_)
          have h9 := ib_add hx_qWaits (ib_c 1 1 1 rfl) rfl
          rw [← ez8] at h9
          have h10 : ib z8 1 1700 := ib_w 1 1700 h9.1 rfl
          have Ez8 := lf_add h9.2 (lf_rf x_qWaits) (lf_lc 1 (1 : Int) rfl)
          refine k_put C0 fp_X10_372 hP hD hS 0 rfl rfl rfl (Nat.le_of_ble_eq_true rfl) dX10_qOpens_51 (fun H locs hP hD hS => ?_)
          replace hP : va_P (dC, dI) vwCl [(a_this, .inr (10, mfs rm x_taped x_at x_end x_ended x_bad x_badPlace x_fault x_faultPlace x_namePlace x_awayTold x_away x_coded x_statements x_isCrossing x_textKind x_askSecond x_redMany x_isOpen x_lastGreen x_greenTo x_isCycleGreen x_stillGreen x_rowMany x_fitMany x_fitRules x_fitGreen x_undoable x_newest x_seeded x_qCoded z8 z5 x_qBase x_qPiled x_qAnswer x_qIsNew x_octets)), (wi_rm112_0_1700_0 rm cy f6)] H := hP
          replace hD := k_D hP hD
          subst hQ; exact k_vret hx hb hr hlk ((x_bad, x_badPlace, z8, z5, f6)) hS ⟨ib_w 0 1700 h10 rfl, fun q => q, (by have := h9.2; have : (1 : Int32).toInt = 1 := rfl; omega), (by have := h9.2; have : (1 : Int32).toInt = 1 := rfl; omega), fun _ => ⟨h7E.symm, by have := (hx_qWaits).1; have := (hx_qWaits).2; have := (h10).1; have := (h10).2; have := h9.2; have : (1 : Int32).toInt = 1 := rfl; omega⟩, (hO.symm.trans (by rw [lf_u Ez8]; rw [lf_u Ez5]; rw [lf_ua Ef6]; exact hq))⟩ hP hD (Nat.le_of_ble_eq_true rfl) (Nat.le_of_ble_eq_true rfl) dX10_qOpens_54
      · replace hq := lf_pos hq (lf_eq (lf_rf x_qOpened) (lf_lc 6 (6 : Int) rfl) c4)
        have h11 := ib_eq (ib_any x_qOpened) (ib_c 6 6 6 rfl) c4
        have h12 : ib x_qOpened 6 6 := ib_w 6 6 h11.1 rfl
        refine lv_aload_n hx hb dX10_qOpens_17 rfl (lv_at hl 0 rfl) ?_
        refine lv_iconst (v := 4) hx hb dX10_qOpens_18 rfl ?_
        refine lv_iload_n hx hb dX10_qOpens_19 rfl (lv_at hl 2 rfl) ?_
        refine k_jvm hP hD hS hA [0] [false, true] rfl rfl rfl 0 0 (Nat.le_of_ble_eq_true rfl) (Nat.le_of_ble_eq_true rfl) (fun hPc hDc => k_runV (As := [.int 4, .int p1]) (rest := []) C0 hZ hS hA (s_X10_fail_a0_4_f_bad_0_0 l dC dI cy sq a_this rm x_taped x_at x_end x_ended x_bad x_badPlace x_fault x_faultPlace x_namePlace x_awayTold x_away x_coded x_statements x_isCrossing x_textKind x_askSecond x_redMany x_isOpen x_lastGreen x_greenTo x_isCycleGreen x_stillGreen x_rowMany x_fitMany x_fitRules x_fitGreen x_undoable x_newest x_seeded x_qCoded x_qWaits x_qOpened x_qBase x_qPiled x_qAnswer x_qIsNew x_octets p1 (ib_w 0 0 h3 rfl)) mV_X10_308 hPc hDc rfl rfl rfl hl rfl rfl (Nat.le_of_ble_eq_true rfl) ⟨(Nat.le_of_ble_eq_true rfl), (Nat.le_of_ble_eq_true rfl)⟩ ⟨(Nat.le_of_ble_eq_true rfl), (Nat.le_of_ble_eq_true rfl)⟩ dX10_qOpens_20) (fun u14 H locs hw hP hD hS => ?_)
        try dsimp only at hP hD hw
        replace hP : va_P (dC, dI) vwCl [(wi_rm112_0_1700_0 rm cy g_qWait), (a_this, .inr (10, mfs rm x_taped x_at x_end x_ended 4 p1 x_fault x_faultPlace x_namePlace x_awayTold x_away x_coded x_statements x_isCrossing x_textKind x_askSecond x_redMany x_isOpen x_lastGreen x_greenTo x_isCycleGreen x_stillGreen x_rowMany x_fitMany x_fitRules x_fitGreen x_undoable x_newest x_seeded x_qCoded x_qWaits x_qOpened x_qBase x_qPiled x_qAnswer x_qIsNew x_octets))] H := hP
        replace hD := k_D hP hD
        subst hQ; exact k_vret hx hb hr hlk ((4, p1, x_qWaits, x_qOpened, g_qWait)) hS ⟨ib_w 0 1700 hx_qWaits rfl, fun q => absurd q (by decide), (by omega), (by omega), fun q => absurd q (by decide), (hO.symm.trans (by try simp only [show (4 : Int32).toInt = (4 : Int) from rfl]; exact hq))⟩ (hP.sub [1, 0] rfl) (hD.sub [1, 0] rfl rfl) (Nat.le_of_ble_eq_true rfl) (Nat.le_of_ble_eq_true rfl) dX10_qOpens_23
  · replace hq := lf_neg hq (lf_ne (lf_rf x_bad) (lf_lc 0 (0 : Int) rfl) c1)
    subst hQ; exact k_vret hx hb hr hlk ((x_bad, x_badPlace, x_qWaits, x_qOpened, g_qWait)) hS ⟨ib_w 0 1700 hx_qWaits rfl, fun q => q, (by omega), (by omega), fun q => absurd q c1, (hO.symm.trans (by exact hq))⟩ hP hD (Nat.le_of_ble_eq_true rfl) (Nat.le_of_ble_eq_true rfl) dX10_qOpens_7
set_option maxHeartbeats 4000000 in
set_option maxRecDepth 100000 in
theorem s_X10_qWordOf_a0_0_a1_12 (l : Launch) (dC : Nat → ClassId) (dI : Nat → Nat → Nat) (cy : Nat → ClassId) (sq : Nat → Nat) (a_this : Nat) (rm : Nat → Nat) (x_taped : Int32) (x_at : Int32) (x_end : Int32) (x_ended : Int32) (x_bad : Int32) (x_badPlace : Int32) (x_fault : Int32) (x_faultPlace : Int32) (x_namePlace : Int32) (x_awayTold : Int32) (x_away : Int32) (x_coded : Int32) (x_statements : Int32) (x_isCrossing : Int32) (x_textKind : Int32) (x_askSecond : Int32) (x_redMany : Int32) (x_isOpen : Int32) (x_lastGreen : Int32) (x_greenTo : Int32) (x_isCycleGreen : Int32) (x_stillGreen : Int32) (x_rowMany : Int32) (x_fitMany : Int32) (x_fitRules : Int32) (x_fitGreen : Int32) (x_undoable : Int32) (x_newest : Int32) (x_seeded : Int64) (x_qCoded : Int32) (x_qWaits : Int32) (x_qOpened : Int32) (x_qBase : Int32) (x_qPiled : Int32) (x_qAnswer : Int64) (x_qIsNew : Int32) (x_octets : Int32) (g_tape : Nat → Int32) (g_secondAsked : Nat → Int32) (g_dayAsked : Nat → Int32) (g_phaseAsked : Nat → Int32) (g_waitedAsked : Nat → Int32) (g_calmAsked : Nat → Int32) (g_paceAsked : Nat → Int32) (g_trustsAsked : Nat → Int32) (g_gapAsked : Nat → Int32) (g_redsAsked : Nat → Int32) (g_numberAsked : Nat → Int32) (g_wentAsked : Nat → Int32) (g_harmAsked : Nat → Int32) (g_kindofAsked : Nat → Int32) (hx_at : ib x_at 0 1600) (hx_end : ib x_end 0 1600) (hg_tape : ia g_tape 1600 0 255) : k_Met l yX10_qWordOf cX10_qWordOf 4 (some .int) { frames := 3, cells := 0, slots := 0, locals := 63 } dC dI cy sq [.ref a_this, .int 0, .int 12] [(a_this, .inr (10, mfs rm x_taped x_at x_end x_ended x_bad x_badPlace x_fault x_faultPlace x_namePlace x_awayTold x_away x_coded x_statements x_isCrossing x_textKind x_askSecond x_redMany x_isOpen x_lastGreen x_greenTo x_isCycleGreen x_stillGreen x_rowMany x_fitMany x_fitRules x_fitGreen x_undoable x_newest x_seeded x_qCoded x_qWaits x_qOpened x_qBase x_qPiled x_qAnswer x_qIsNew x_octets)), (wi_rm0_0_1600_0 rm cy g_tape), (wi_rm97_2_6_0 rm cy g_secondAsked), (wi_rm98_2_3_0 rm cy g_dayAsked), (wi_rm99_2_5_0 rm cy g_phaseAsked), (wi_rm100_2_6_0 rm cy g_waitedAsked), (wi_rm101_2_4_0 rm cy g_calmAsked), (wi_rm102_2_4_0 rm cy g_paceAsked), (wi_rm103_2_6_0 rm cy g_trustsAsked), (wi_rm104_2_3_0 rm cy g_gapAsked), (wi_rm105_2_4_0 rm cy g_redsAsked), (wi_rm106_2_6_0 rm cy g_numberAsked), (wi_rm107_2_4_0 rm cy g_wentAsked), (wi_rm108_2_4_0 rm cy g_harmAsked), (wi_rm109_2_4_0 rm cy g_kindofAsked)] (k_Qi dC dI (fun (r : Int32) (n0 : Int32) => ib n0 0 1600 ∧ ib r (-1) 11 ∧ (1 * x_at.toInt + (-1) * n0.toInt ≤ 0) ∧ (¬ r = (-1) → ¬ x_textKind = 1 → ¬ r = 7) ∧ (NB g_tape x_at x_end → n0 = x_at) ∧ (¬ r = (-1) → ib r 0 11) ∧ (F_X10_qWordOf_a0_0_a1_12 (Int32.toInt x_at) (Int32.toInt x_end) (Int32.toInt x_ended) (Int32.toInt x_bad) (Int32.toInt x_textKind) (lf_A g_tape) (lf_A g_secondAsked) (lf_A g_dayAsked) (lf_A g_phaseAsked) (lf_A g_waitedAsked) (lf_A g_calmAsked) (lf_A g_paceAsked) (lf_A g_trustsAsked) (lf_A g_gapAsked) (lf_A g_redsAsked) (lf_A g_numberAsked) (lf_A g_wentAsked) (lf_A g_harmAsked) (lf_A g_kindofAsked) = ((Int32.toInt r), (Int32.toInt n0)))) (fun n0 : Int32 => [(a_this, .inr (10, mfs rm x_taped n0 x_end x_ended x_bad x_badPlace x_fault x_faultPlace x_namePlace x_awayTold x_away x_coded x_statements x_isCrossing x_textKind x_askSecond x_redMany x_isOpen x_lastGreen x_greenTo x_isCycleGreen x_stillGreen x_rowMany x_fitMany x_fitRules x_fitGreen x_undoable x_newest x_seeded x_qCoded x_qWaits x_qOpened x_qBase x_qPiled x_qAnswer x_qIsNew x_octets)), (wi_rm0_0_1600_0 rm cy g_tape), (wi_rm97_2_6_0 rm cy g_secondAsked), (wi_rm98_2_3_0 rm cy g_dayAsked), (wi_rm99_2_5_0 rm cy g_phaseAsked), (wi_rm100_2_6_0 rm cy g_waitedAsked), (wi_rm101_2_4_0 rm cy g_calmAsked), (wi_rm102_2_4_0 rm cy g_paceAsked), (wi_rm103_2_6_0 rm cy g_trustsAsked), (wi_rm104_2_3_0 rm cy g_gapAsked), (wi_rm105_2_4_0 rm cy g_redsAsked), (wi_rm106_2_6_0 rm cy g_numberAsked), (wi_rm107_2_4_0 rm cy g_wentAsked), (wi_rm108_2_4_0 rm cy g_harmAsked), (wi_rm109_2_4_0 rm cy g_kindofAsked)])) := by
  refine k_ofW2 (by decide +kernel) (Nat.le_of_ble_eq_true rfl) ?_
  intro p e s m below meth c A ls H locs args Q hQ C0 hZ hr hlk hin hP hD hA hS hl
  have C0 : k_cx p s m args c cX10_qWordOf 4 RX10 dC dI cy sq := C0
  have hx := C0.1
  have hb := C0.2.1
  have hl : lv_has ls 4 [(0, .ref a_this), (1, .int 0), (2, .int 12)] := hl
  obtain ⟨O, hO⟩ : ∃ o, o = F_X10_qWordOf_a0_0_a1_12 (Int32.toInt x_at) (Int32.toInt x_end) (Int32.toInt x_ended) (Int32.toInt x_bad) (Int32.toInt x_textKind) (lf_A g_tape) (lf_A g_secondAsked) (lf_A g_dayAsked) (lf_A g_phaseAsked) (lf_A g_waitedAsked) (lf_A g_calmAsked) (lf_A g_paceAsked) (lf_A g_trustsAsked) (lf_A g_gapAsked) (lf_A g_redsAsked) (lf_A g_numberAsked) (lf_A g_wentAsked) (lf_A g_harmAsked) (lf_A g_kindofAsked) := ⟨_, rfl⟩
  have hq := hO
  unfold F_X10_qWordOf_a0_0_a1_12 at hq
  refine lv_aload_n hx hb dX10_qWordOf_0 rfl (lv_at hl 0 rfl) ?_
  refine k_jim hP hD hS hA [0, 1, 2, 3, 4, 5, 6, 7, 8, 9, 10, 11, 12, 13, 14] [] rfl rfl (by decide +kernel) 0 0 (Nat.le_of_ble_eq_true rfl) (Nat.le_of_ble_eq_true rfl) (fun hPc hDc => k_runV (As := []) (rest := []) C0 hZ hS hA (s_X10_qWordHere l dC dI cy sq a_this rm x_taped x_at x_end x_ended x_bad x_badPlace x_fault x_faultPlace x_namePlace x_awayTold x_away x_coded x_statements x_isCrossing x_textKind x_askSecond x_redMany x_isOpen x_lastGreen x_greenTo x_isCycleGreen x_stillGreen x_rowMany x_fitMany x_fitRules x_fitGreen x_undoable x_newest x_seeded x_qCoded x_qWaits x_qOpened x_qBase x_qPiled x_qAnswer x_qIsNew x_octets g_tape g_secondAsked g_dayAsked g_phaseAsked g_waitedAsked g_calmAsked g_paceAsked g_trustsAsked g_gapAsked g_redsAsked g_numberAsked g_wentAsked g_harmAsked g_kindofAsked (ib_w 0 1600 hx_at rfl) (ib_w 0 1600 hx_end rfl) hg_tape) mV_X10_617 hPc hDc rfl rfl rfl hl rfl rfl (Nat.le_of_ble_eq_true rfl) ⟨(Nat.le_of_ble_eq_true rfl), (Nat.le_of_ble_eq_true rfl)⟩ ⟨(Nat.le_of_ble_eq_true rfl), (Nat.le_of_ble_eq_true rfl)⟩ dX10_qWordOf_1) (fun r1 u2 H locs hw hP hD hS => ?_)
  obtain ⟨v3, ev3⟩ : ∃ z, z = u2 := ⟨_, rfl⟩; subst ev3
  try dsimp only at hP hD hw
  replace hP : va_P (dC, dI) vwCl [(a_this, .inr (10, mfs rm x_taped v3 x_end x_ended x_bad x_badPlace x_fault x_faultPlace x_namePlace x_awayTold x_away x_coded x_statements x_isCrossing x_textKind x_askSecond x_redMany x_isOpen x_lastGreen x_greenTo x_isCycleGreen x_stillGreen x_rowMany x_fitMany x_fitRules x_fitGreen x_undoable x_newest x_seeded x_qCoded x_qWaits x_qOpened x_qBase x_qPiled x_qAnswer x_qIsNew x_octets)), (wi_rm0_0_1600_0 rm cy g_tape), (wi_rm97_2_6_0 rm cy g_secondAsked), (wi_rm98_2_3_0 rm cy g_dayAsked), (wi_rm99_2_5_0 rm cy g_phaseAsked), (wi_rm100_2_6_0 rm cy g_waitedAsked), (wi_rm101_2_4_0 rm cy g_calmAsked), (wi_rm102_2_4_0 rm cy g_paceAsked), (wi_rm103_2_6_0 rm cy g_trustsAsked), (wi_rm104_2_3_0 rm cy g_gapAsked), (wi_rm105_2_4_0 rm cy g_redsAsked), (wi_rm106_2_6_0 rm cy g_numberAsked), (wi_rm107_2_4_0 rm cy g_wentAsked), (wi_rm108_2_4_0 rm cy g_harmAsked), (wi_rm109_2_4_0 rm cy g_kindofAsked)] H := hP
  replace hD := k_D hP hD
  obtain ⟨h4, h5, h6, h7, h8⟩ := hw
  replace hq := lf_p1 hq h8
  refine lv_istore_n (lv' := [(3, .int r1), (0, .ref a_this), (1, .int 0), (2, .int 12)]) hx hb dX10_qWordOf_4 rfl hl (Nat.le_of_ble_eq_true rfl) rfl (fun ls hl => ?_)
  refine lv_iload_n hx hb dX10_qWordOf_5 rfl (lv_at hl 0 rfl) ?_
  refine lv_iload_n hx hb dX10_qWordOf_6 rfl (lv_at hl 2 rfl) ?_
  refine lv_icmp_lt (tgt := 27) hx hb dX10_qWordOf_7 rfl (fun c9 => ?_) (fun c9 => ?_)
  · replace hq := lf_pos hq (lf_lt (lf_rf r1) (lf_lc 0 (0 : Int) rfl) c9)
    have h10 := ib_lt h5 (ib_c 0 0 0 rfl) c9
    have h11 : ib r1 (-1) (-1) := ib_w (-1) (-1) h10.1 rfl
    refine lv_iconst (v := (-1)) hx hb dX10_qWordOf_27 rfl ?_
    subst hQ; exact k_iret hx hb hr hlk rfl v3 hS ⟨ib_w 0 1600 h4 rfl, ib_w (-1) 11 (ib_c (-1) (-1) (-1) rfl) rfl, (by have := h6; omega), fun q => absurd rfl q, fun q9 => (by have e0n : v3 = x_at := h7 q9; exact e0n), fun q => absurd rfl q, (hO.symm.trans (by try simp only [show ((-1) : Int32).toInt = (-1 : Int) from rfl]; exact hq))⟩ hP hD (Nat.le_of_ble_eq_true rfl) (Nat.le_of_ble_eq_true rfl) dX10_qWordOf_28
  · replace hq := lf_neg hq (lf_nlt (lf_rf r1) (lf_lc 0 (0 : Int) rfl) c9)
    have h12 := ib_nlt h5 (ib_c 0 0 0 rfl) c9
    have h13 : ib r1 0 12 := ib_w 0 12 h12.1 rfl
    refine lv_iload_n hx hb dX10_qWordOf_10 rfl (lv_at hl 0 rfl) ?_
    refine lv_iload_n hx hb dX10_qWordOf_11 rfl (lv_at hl 3 rfl) ?_
    refine lv_icmp_ge (tgt := 27) hx hb dX10_qWordOf_12 rfl (fun c14 => ?_) (fun c14 => ?_)
    · replace hq := lf_pos hq (lf_le (lf_lc 12 (12 : Int) rfl) (lf_rf r1) c14)
      have h15 := ib_le (ib_c 12 12 12 rfl) h13 c14
      have h16 : ib r1 12 12 := ib_w 12 12 h15.2 rfl
      refine lv_iconst (v := (-1)) hx hb dX10_qWordOf_27 rfl ?_
      subst hQ; exact k_iret hx hb hr hlk rfl v3 hS ⟨ib_w 0 1600 h4 rfl, ib_w (-1) 11 (ib_c (-1) (-1) (-1) rfl) rfl, (by have := h6; omega), fun q => absurd rfl q, fun q9 => (by have e0n : v3 = x_at := h7 q9; exact e0n), fun q => absurd rfl q, (hO.symm.trans (by try simp only [show ((-1) : Int32).toInt = (-1 : Int) from rfl]; exact hq))⟩ hP hD (Nat.le_of_ble_eq_true rfl) (Nat.le_of_ble_eq_true rfl) dX10_qWordOf_28
    · replace hq := lf_neg hq (lf_nle (lf_lc 12 (12 : Int) rfl) (lf_rf r1) c14)
      have h17 := ib_nle (ib_c 12 12 12 rfl) h13 c14
      have h18 : ib r1 0 11 := ib_w 0 11 h17.2 rfl
      refine lv_aload_n hx hb dX10_qWordOf_15 rfl (lv_at hl 1 rfl) ?_
      refine lv_iload_n hx hb dX10_qWordOf_16 rfl (lv_at hl 0 rfl) ?_
      refine k_jim hP hD hS hA [0] [false, true, true, true, true, true, true, true, true, true, true, true, true, true, true] rfl rfl (by decide +kernel) 0 0 (Nat.le_of_ble_eq_true rfl) (Nat.le_of_ble_eq_true rfl) (fun hPc hDc => k_runV (As := [.int r1]) (rest := []) C0 hZ hS hA (s_X10_isAllowed l dC dI cy sq a_this rm x_taped v3 x_end x_ended x_bad x_badPlace x_fault x_faultPlace x_namePlace x_awayTold x_away x_coded x_statements x_isCrossing x_textKind x_askSecond x_redMany x_isOpen x_lastGreen x_greenTo x_isCycleGreen x_stillGreen x_rowMany x_fitMany x_fitRules x_fitGreen x_undoable x_newest x_seeded x_qCoded x_qWaits x_qOpened x_qBase x_qPiled x_qAnswer x_qIsNew x_octets r1 ) mV_X10_620 hPc hDc rfl rfl rfl hl rfl rfl (Nat.le_of_ble_eq_true rfl) ⟨(Nat.le_of_ble_eq_true rfl), (Nat.le_of_ble_eq_true rfl)⟩ ⟨(Nat.le_of_ble_eq_true rfl), (Nat.le_of_ble_eq_true rfl)⟩ dX10_qWordOf_17) (fun r19 u20 H locs hw hP hD hS => ?_)
      try dsimp only at hP hD hw
      replace hP : va_P (dC, dI) vwCl [(wi_rm0_0_1600_0 rm cy g_tape), (wi_rm97_2_6_0 rm cy g_secondAsked), (wi_rm98_2_3_0 rm cy g_dayAsked), (wi_rm99_2_5_0 rm cy g_phaseAsked), (wi_rm100_2_6_0 rm cy g_waitedAsked), (wi_rm101_2_4_0 rm cy g_calmAsked), (wi_rm102_2_4_0 rm cy g_paceAsked), (wi_rm103_2_6_0 rm cy g_trustsAsked), (wi_rm104_2_3_0 rm cy g_gapAsked), (wi_rm105_2_4_0 rm cy g_redsAsked), (wi_rm106_2_6_0 rm cy g_numberAsked), (wi_rm107_2_4_0 rm cy g_wentAsked), (wi_rm108_2_4_0 rm cy g_harmAsked), (wi_rm109_2_4_0 rm cy g_kindofAsked), (a_this, .inr (10, mfs rm x_taped v3 x_end x_ended x_bad x_badPlace x_fault x_faultPlace x_namePlace x_awayTold x_away x_coded x_statements x_isCrossing x_textKind x_askSecond x_redMany x_isOpen x_lastGreen x_greenTo x_isCycleGreen x_stillGreen x_rowMany x_fitMany x_fitRules x_fitGreen x_undoable x_newest x_seeded x_qCoded x_qWaits x_qOpened x_qBase x_qPiled x_qAnswer x_qIsNew x_octets))] H := hP
      replace hD := k_D hP hD
      obtain ⟨h21, h22, h23⟩ := hw
      replace hq := lf_b1 hq h23
      refine lv_if_eq (tgt := 27) hx hb dX10_qWordOf_20 rfl (fun c24 => ?_) (fun c24 => ?_)
      · replace hq := lf_pos hq (lf_eq (lf_rf r19) (lf_lc 0 (0 : Int) rfl) c24)
        have h25 := ib_eq h21 (ib_c 0 0 0 rfl) c24
        have h26 : ib r19 0 0 := ib_w 0 0 h25.1 rfl
        refine lv_iconst (v := (-1)) hx hb dX10_qWordOf_27 rfl ?_
        subst hQ; exact k_iret hx hb hr hlk rfl v3 hS ⟨ib_w 0 1600 h4 rfl, ib_w (-1) 11 (ib_c (-1) (-1) (-1) rfl) rfl, (by have := h6; omega), fun q => absurd rfl q, fun q9 => (by have e0n : v3 = x_at := h7 q9; exact e0n), fun q => absurd rfl q, (hO.symm.trans (by try simp only [show ((-1) : Int32).toInt = (-1 : Int) from rfl]; exact hq))⟩ (hP.sub [14, 0, 1, 2, 3, 4, 5, 6, 7, 8, 9, 10, 11, 12, 13] rfl) (hD.sub [14, 0, 1, 2, 3, 4, 5, 6, 7, 8, 9, 10, 11, 12, 13] (by decide +kernel) rfl) (Nat.le_of_ble_eq_true rfl) (Nat.le_of_ble_eq_true rfl) dX10_qWordOf_28
      · replace hq := lf_neg hq (lf_ne (lf_rf r19) (lf_lc 0 (0 : Int) rfl) c24)
        have h27 : ib r19 1 1 := ib_w 1 1 (ib_ne_lo 0 h21 rfl c24) rfl
        refine lv_iload_n hx hb dX10_qWordOf_23 rfl (lv_at hl 0 rfl) ?_
        refine lv_goto (tgt := 28) hx hb dX10_qWordOf_24 rfl ?_
        subst hQ; exact k_iret hx hb hr hlk rfl v3 hS ⟨ib_w 0 1600 h4 rfl, ib_w (-1) 11 h18 rfl, (by have := h6; omega), fun _ q => h22 c24 q, fun q9 => (by have e0n : v3 = x_at := h7 q9; exact e0n), fun _ => ib_w 0 11 h18 rfl, (hO.symm.trans (by exact hq))⟩ (hP.sub [14, 0, 1, 2, 3, 4, 5, 6, 7, 8, 9, 10, 11, 12, 13] rfl) (hD.sub [14, 0, 1, 2, 3, 4, 5, 6, 7, 8, 9, 10, 11, 12, 13] (by decide +kernel) rfl) (Nat.le_of_ble_eq_true rfl) (Nat.le_of_ble_eq_true rfl) dX10_qWordOf_28
set_option maxHeartbeats 4000000 in
set_option maxRecDepth 100000 in
theorem s_X10_isDigit (l : Launch) (dC : Nat → ClassId) (dI : Nat → Nat → Nat) (cy : Nat → ClassId) (sq : Nat → Nat) (p0 : Int32)  : k_Met l yX10_isDigit cX10_isDigit 1 (some .boolean) { frames := 0, cells := 0, slots := 0, locals := 0 } dC dI cy sq [.int p0] [] (k_Qi dC dI (fun (r : Int32) (_ : Unit) => ib r 0 1 ∧ (¬ r = 0 → ib p0 48 57) ∧ (r = 0 → ¬ ib p0 48 57) ∧ (F_X10_isDigit (Int32.toInt p0) = ((Int32.toInt r)))) (fun _ : Unit => [])) := by
  refine k_ofW2 (by decide +kernel) (Nat.le_of_ble_eq_true rfl) ?_
  intro p e s m below meth c A ls H locs args Q hQ C0 hZ hr hlk hin hP hD hA hS hl
  have C0 : k_cx p s m args c cX10_isDigit 1 RX10 dC dI cy sq := C0
  have hx := C0.1
  have hb := C0.2.1
  have hl : lv_has ls 1 [(0, .int p0)] := hl
  obtain ⟨O, hO⟩ : ∃ o, o = F_X10_isDigit (Int32.toInt p0) := ⟨_, rfl⟩
  have hq := hO
  unfold F_X10_isDigit at hq
  refine lv_iload_n hx hb dX10_isDigit_0 rfl (lv_at hl 0 rfl) ?_
  refine lv_bipush (v := 48) hx hb dX10_isDigit_1 rfl ?_
  refine lv_icmp_lt (tgt := 16) hx hb dX10_isDigit_3 rfl (fun c1 => ?_) (fun c1 => ?_)
  · replace hq := lf_pos hq (lf_lt (lf_rf p0) (lf_lc 48 (48 : Int) rfl) c1)
    have h2 := ib_lt (ib_any p0) (ib_c 48 48 48 rfl) c1
    have h3 : ib p0 (-2147483648) 47 := ib_w (-2147483648) 47 h2.1 rfl
    refine lv_iconst (v := 0) hx hb dX10_isDigit_16 rfl ?_
    subst hQ; exact k_iret hx hb hr hlk (k_nb 0 rfl) () hS ⟨ib_w 0 1 (ib_c 0 0 0 rfl) rfl, fun hq9 => absurd rfl hq9, fun _ q => (by have := (h3).1; have := (h3).2; have := q.1; have := q.2; omega), (hO.symm.trans (by try simp only [show (0 : Int32).toInt = (0 : Int) from rfl]; exact hq))⟩ hP hD (Nat.le_of_ble_eq_true rfl) (Nat.le_of_ble_eq_true rfl) dX10_isDigit_17
  · replace hq := lf_neg hq (lf_nlt (lf_rf p0) (lf_lc 48 (48 : Int) rfl) c1)
    have h4 := ib_nlt (ib_any p0) (ib_c 48 48 48 rfl) c1
    have h5 : ib p0 48 2147483647 := ib_w 48 2147483647 h4.1 rfl
    refine lv_iload_n hx hb dX10_isDigit_6 rfl (lv_at hl 0 rfl) ?_
    refine lv_bipush (v := 57) hx hb dX10_isDigit_7 rfl ?_
    refine lv_icmp_gt (tgt := 16) hx hb dX10_isDigit_9 rfl (fun c6 => ?_) (fun c6 => ?_)
    · replace hq := lf_pos hq (lf_lt (lf_lc 57 (57 : Int) rfl) (lf_rf p0) c6)
      have h7 := ib_lt (ib_c 57 57 57 rfl) h5 c6
      have h8 : ib p0 58 2147483647 := ib_w 58 2147483647 h7.2 rfl
      refine lv_iconst (v := 0) hx hb dX10_isDigit_16 rfl ?_
      subst hQ; exact k_iret hx hb hr hlk (k_nb 0 rfl) () hS ⟨ib_w 0 1 (ib_c 0 0 0 rfl) rfl, fun hq9 => absurd rfl hq9, fun _ q => (by have := (h8).1; have := (h8).2; have := q.1; have := q.2; omega), (hO.symm.trans (by try simp only [show (0 : Int32).toInt = (0 : Int) from rfl]; exact hq))⟩ hP hD (Nat.le_of_ble_eq_true rfl) (Nat.le_of_ble_eq_true rfl) dX10_isDigit_17
    · replace hq := lf_neg hq (lf_nlt (lf_lc 57 (57 : Int) rfl) (lf_rf p0) c6)
      have h9 := ib_nlt (ib_c 57 57 57 rfl) h5 c6
      have h10 : ib p0 48 57 := ib_w 48 57 h9.2 rfl
      refine lv_iconst (v := 1) hx hb dX10_isDigit_12 rfl ?_
      refine lv_goto (tgt := 17) hx hb dX10_isDigit_13 rfl ?_
      subst hQ; exact k_iret hx hb hr hlk (k_nb 1 rfl) () hS ⟨ib_w 0 1 (ib_c 1 1 1 rfl) rfl, fun _ => ib_w 48 57 h10 rfl, fun q => absurd q (by decide), (hO.symm.trans (by try simp only [show (1 : Int32).toInt = (1 : Int) from rfl]; exact hq))⟩ hP hD (Nat.le_of_ble_eq_true rfl) (Nat.le_of_ble_eq_true rfl) dX10_isDigit_17
set_option maxHeartbeats 4000000 in
set_option maxRecDepth 100000 in
theorem s_X10_fail_a0_2_f_bad_0_0 (l : Launch) (dC : Nat → ClassId) (dI : Nat → Nat → Nat) (cy : Nat → ClassId) (sq : Nat → Nat) (a_this : Nat) (rm : Nat → Nat) (x_taped : Int32) (x_at : Int32) (x_end : Int32) (x_ended : Int32) (x_bad : Int32) (x_badPlace : Int32) (x_fault : Int32) (x_faultPlace : Int32) (x_namePlace : Int32) (x_awayTold : Int32) (x_away : Int32) (x_coded : Int32) (x_statements : Int32) (x_isCrossing : Int32) (x_textKind : Int32) (x_askSecond : Int32) (x_redMany : Int32) (x_isOpen : Int32) (x_lastGreen : Int32) (x_greenTo : Int32) (x_isCycleGreen : Int32) (x_stillGreen : Int32) (x_rowMany : Int32) (x_fitMany : Int32) (x_fitRules : Int32) (x_fitGreen : Int32) (x_undoable : Int32) (x_newest : Int32) (x_seeded : Int64) (x_qCoded : Int32) (x_qWaits : Int32) (x_qOpened : Int32) (x_qBase : Int32) (x_qPiled : Int32) (x_qAnswer : Int64) (x_qIsNew : Int32) (x_octets : Int32) (p1 : Int32) (hx_bad : ib x_bad 0 0) : k_Met l yX10_fail cX10_fail 3 none { frames := 0, cells := 0, slots := 0, locals := 0 } dC dI cy sq [.ref a_this, .int 2, .int p1] [(a_this, .inr (10, mfs rm x_taped x_at x_end x_ended x_bad x_badPlace x_fault x_faultPlace x_namePlace x_awayTold x_away x_coded x_statements x_isCrossing x_textKind x_askSecond x_redMany x_isOpen x_lastGreen x_greenTo x_isCycleGreen x_stillGreen x_rowMany x_fitMany x_fitRules x_fitGreen x_undoable x_newest x_seeded x_qCoded x_qWaits x_qOpened x_qBase x_qPiled x_qAnswer x_qIsNew x_octets))] (k_Qv dC dI (fun (_ : Unit) => True) (fun _ : Unit => [(a_this, .inr (10, mfs rm x_taped x_at x_end x_ended 2 p1 x_fault x_faultPlace x_namePlace x_awayTold x_away x_coded x_statements x_isCrossing x_textKind x_askSecond x_redMany x_isOpen x_lastGreen x_greenTo x_isCycleGreen x_stillGreen x_rowMany x_fitMany x_fitRules x_fitGreen x_undoable x_newest x_seeded x_qCoded x_qWaits x_qOpened x_qBase x_qPiled x_qAnswer x_qIsNew x_octets))])) := by
  refine k_ofW2 (by decide +kernel) (Nat.le_of_ble_eq_true rfl) ?_
  intro p e s m below meth c A ls H locs args Q hQ C0 hZ hr hlk hin hP hD hA hS hl
  have C0 : k_cx p s m args c cX10_fail 3 RX10 dC dI cy sq := C0
  have hx := C0.1
  have hb := C0.2.1
  have hl : lv_has ls 3 [(0, .ref a_this), (1, .int 2), (2, .int p1)] := hl
  refine lv_aload_n hx hb dX10_fail_0 rfl (lv_at hl 0 rfl) ?_
  refine k_get C0 fg_X10_279 hP 0 rfl rfl dX10_fail_1 ?_
  refine lv_if_eq (tgt := 8) hx hb dX10_fail_4 rfl (fun c1 => ?_) (fun c1 => ?_)
  · have h2 := ib_eq hx_bad (ib_c 0 0 0 rfl) c1
    refine lv_aload_n hx hb dX10_fail_8 rfl (lv_at hl 0 rfl) ?_
    refine lv_iload_n hx hb dX10_fail_9 rfl (lv_at hl 1 rfl) ?_
    refine k_put C0 fp_X10_279 hP hD hS 0 rfl rfl rfl (Nat.le_of_ble_eq_true rfl) dX10_fail_10 (fun H locs hP hD hS => ?_)
    replace hP : va_P (dC, dI) vwCl [(a_this, .inr (10, mfs rm x_taped x_at x_end x_ended 2 x_badPlace x_fault x_faultPlace x_namePlace x_awayTold x_away x_coded x_statements x_isCrossing x_textKind x_askSecond x_redMany x_isOpen x_lastGreen x_greenTo x_isCycleGreen x_stillGreen x_rowMany x_fitMany x_fitRules x_fitGreen x_undoable x_newest x_seeded x_qCoded x_qWaits x_qOpened x_qBase x_qPiled x_qAnswer x_qIsNew x_octets))] H := hP
    replace hD := k_D hP hD
    refine lv_aload_n hx hb dX10_fail_13 rfl (lv_at hl 0 rfl) ?_
    refine lv_iload_n hx hb dX10_fail_14 rfl (lv_at hl 2 rfl) ?_
    refine k_put C0 fp_X10_282 hP hD hS 0 rfl rfl rfl (Nat.le_of_ble_eq_true rfl) dX10_fail_15 (fun H locs hP hD hS => ?_)
    replace hP : va_P (dC, dI) vwCl [(a_this, .inr (10, mfs rm x_taped x_at x_end x_ended 2 p1 x_fault x_faultPlace x_namePlace x_awayTold x_away x_coded x_statements x_isCrossing x_textKind x_askSecond x_redMany x_isOpen x_lastGreen x_greenTo x_isCycleGreen x_stillGreen x_rowMany x_fitMany x_fitRules x_fitGreen x_undoable x_newest x_seeded x_qCoded x_qWaits x_qOpened x_qBase x_qPiled x_qAnswer x_qIsNew x_octets))] H := hP
    replace hD := k_D hP hD
    subst hQ; exact k_vret hx hb hr hlk () hS True.intro hP hD (Nat.le_of_ble_eq_true rfl) (Nat.le_of_ble_eq_true rfl) dX10_fail_18
  · exact absurd (ib_one hx_bad rfl) c1
set_option maxHeartbeats 4000000 in
set_option maxRecDepth 100000 in
theorem s_X10_number_a0_0_a1_9999 (l : Launch) (dC : Nat → ClassId) (dI : Nat → Nat → Nat) (cy : Nat → ClassId) (sq : Nat → Nat) (a_this : Nat) (rm : Nat → Nat) (x_taped : Int32) (x_at : Int32) (x_end : Int32) (x_ended : Int32) (x_bad : Int32) (x_badPlace : Int32) (x_fault : Int32) (x_faultPlace : Int32) (x_namePlace : Int32) (x_awayTold : Int32) (x_away : Int32) (x_coded : Int32) (x_statements : Int32) (x_isCrossing : Int32) (x_textKind : Int32) (x_askSecond : Int32) (x_redMany : Int32) (x_isOpen : Int32) (x_lastGreen : Int32) (x_greenTo : Int32) (x_isCycleGreen : Int32) (x_stillGreen : Int32) (x_rowMany : Int32) (x_fitMany : Int32) (x_fitRules : Int32) (x_fitGreen : Int32) (x_undoable : Int32) (x_newest : Int32) (x_seeded : Int64) (x_qCoded : Int32) (x_qWaits : Int32) (x_qOpened : Int32) (x_qBase : Int32) (x_qPiled : Int32) (x_qAnswer : Int64) (x_qIsNew : Int32) (x_octets : Int32) (g_tape : Nat → Int32) (hx_at : ib x_at 0 1600) (hx_end : ib x_end 0 1600) (hg_tape : ia g_tape 1600 0 255) : k_Met l yX10_number cX10_number 5 (some .int) { frames := 1, cells := 0, slots := 0, locals := 25 } dC dI cy sq [.ref a_this, .int 0, .int 9999] [(a_this, .inr (10, mfs rm x_taped x_at x_end x_ended x_bad x_badPlace x_fault x_faultPlace x_namePlace x_awayTold x_away x_coded x_statements x_isCrossing x_textKind x_askSecond x_redMany x_isOpen x_lastGreen x_greenTo x_isCycleGreen x_stillGreen x_rowMany x_fitMany x_fitRules x_fitGreen x_undoable x_newest x_seeded x_qCoded x_qWaits x_qOpened x_qBase x_qPiled x_qAnswer x_qIsNew x_octets)), (wi_rm0_0_1600_0 rm cy g_tape)] (k_Qi dC dI (fun (r : Int32) (u : Int32 × Int32 × Int32 × Int32) => match u with | (n0, n1, n2, n3) => ib n0 0 1600 ∧ (n2 = 0 → x_bad = 0) ∧ (n2 = 0 → ib r 0 9999) ∧ (1 * x_at.toInt + (-1) * n0.toInt ≤ 0) ∧ (n2 = 0 → 1 * x_at.toInt + (-1) * n0.toInt ≤ (-1)) ∧ (F_X10_number_a0_0_a1_9999 (Int32.toInt x_at) (Int32.toInt x_end) (Int32.toInt x_ended) (Int32.toInt x_bad) (Int32.toInt x_badPlace) (lf_A g_tape) = ((Int32.toInt r), (Int32.toInt n0), (Int32.toInt n1), (Int32.toInt n2), (Int32.toInt n3)))) (fun u : Int32 × Int32 × Int32 × Int32 => match u with | (n0, n1, n2, n3) => [(a_this, .inr (10, mfs rm x_taped n0 x_end n1 n2 n3 x_fault x_faultPlace x_namePlace x_awayTold x_away x_coded x_statements x_isCrossing x_textKind x_askSecond x_redMany x_isOpen x_lastGreen x_greenTo x_isCycleGreen x_stillGreen x_rowMany x_fitMany x_fitRules x_fitGreen x_undoable x_newest x_seeded x_qCoded x_qWaits x_qOpened x_qBase x_qPiled x_qAnswer x_qIsNew x_octets)), (wi_rm0_0_1600_0 rm cy g_tape)])) := by
  refine k_ofW2 (by decide +kernel) (Nat.le_of_ble_eq_true rfl) ?_
  intro p e s m below meth c A ls H locs args Q hQ C0 hZ hr hlk hin hP hD hA hS hl
  have C0 : k_cx p s m args c cX10_number 5 RX10 dC dI cy sq := C0
  have hx := C0.1
  have hb := C0.2.1
  have hl : lv_has ls 5 [(0, .ref a_this), (1, .int 0), (2, .int 9999)] := hl
  obtain ⟨O, hO⟩ : ∃ o, o = F_X10_number_a0_0_a1_9999 (Int32.toInt x_at) (Int32.toInt x_end) (Int32.toInt x_ended) (Int32.toInt x_bad) (Int32.toInt x_badPlace) (lf_A g_tape) := ⟨_, rfl⟩
  have hq := hO
  unfold F_X10_number_a0_0_a1_9999 at hq
  have jn49 : ∀ (n : Nat) (J49_l3 : Int32) (J49_c0_2 : Int32) (J49_l4 : Int32) (H : Heap) (locs : List Loc) (ls : Array Slot), ib J49_l3 0 1599 → ib J49_c0_2 0 1600 → ib x_end 1 1600 → ib x_bad 0 0 → (1 * x_at.toInt + (-1) * J49_l3.toInt ≤ 0) → (1 * x_at.toInt + (-1) * J49_c0_2.toInt ≤ 0) → (O = F_X10_number_a0_0_a1_9999_49 (Int32.toInt x_end) (Int32.toInt x_ended) (Int32.toInt x_bad) (Int32.toInt x_badPlace) (lf_A g_tape) n (Int32.toInt J49_l3) (Int32.toInt J49_c0_2) (Int32.toInt J49_l4)) → (J49_l3.toInt + 1 ≤ J49_c0_2.toInt ∨ (J49_l3 = J49_c0_2 ∧ ib (g_tape (Int32.toNatClampNeg J49_c0_2)) 48 57 ∧ J49_c0_2.toInt < x_end.toInt)) → 1601 ≤ J49_c0_2.toInt + (n : Int) → va_P (dC, dI) vwCl [(a_this, .inr (10, mfs rm x_taped J49_c0_2 x_end x_ended x_bad x_badPlace x_fault x_faultPlace x_namePlace x_awayTold x_away x_coded x_statements x_isCrossing x_textKind x_askSecond x_redMany x_isOpen x_lastGreen x_greenTo x_isCycleGreen x_stillGreen x_rowMany x_fitMany x_fitRules x_fitGreen x_undoable x_newest x_seeded x_qCoded x_qWaits x_qOpened x_qBase x_qPiled x_qAnswer x_qIsNew x_octets)), (wi_rm0_0_1600_0 rm cy g_tape)] H → va_D A [(a_this, .inr (10, mfs rm x_taped J49_c0_2 x_end x_ended x_bad x_badPlace x_fault x_faultPlace x_namePlace x_awayTold x_away x_coded x_statements x_isCrossing x_textKind x_askSecond x_redMany x_isOpen x_lastGreen x_greenTo x_isCycleGreen x_stillGreen x_rowMany x_fitMany x_fitRules x_fitGreen x_undoable x_newest x_seeded x_qCoded x_qWaits x_qOpened x_qBase x_qPiled x_qAnswer x_qIsNew x_octets)), (wi_rm0_0_1600_0 rm cy g_tape)] → va_S A s.heap H locs → lv_has ls 5 [(0, .ref a_this), (1, .int 0), (2, .int 9999), (3, .int J49_l3), (4, .int J49_l4)] → W p l e { frames := 1, cells := 0, slots := 0, locals := 25 } s m args below meth c H locs 0 0 Q (F0 m 49 ls []) := by
    as_aux_lemma =>
      intro n
      induction n with
      | zero =>
        intro J49_l3 J49_c0_2 J49_l4 H locs ls hJ49_l3 hJ49_c0_2 hK49_x_end hK49_x_bad hJ49_lin0 hJ49_lin1 hq hJ49_gh hm
        exact absurd hm (by have := hJ49_c0_2; unfold ib at this; omega)
      | succ n ih =>
        intro J49_l3 J49_c0_2 J49_l4 H locs ls hJ49_l3 hJ49_c0_2 hK49_x_end hK49_x_bad hJ49_lin0 hJ49_lin1 hq hJ49_gh hm49 hP hD hS hl
        have ih49 := ih
        obtain ⟨K49, hK49⟩ : ∃ K, K = F_X10_number_a0_0_a1_9999_49 (Int32.toInt x_end) (Int32.toInt x_ended) (Int32.toInt x_bad) (Int32.toInt x_badPlace) (lf_A g_tape) n := ⟨_, rfl⟩
        have hq : O = F_X10_number_a0_0_a1_9999_49b (Int32.toInt x_end) (Int32.toInt x_ended) (Int32.toInt x_bad) (Int32.toInt x_badPlace) (lf_A g_tape) K49 (Int32.toInt J49_l3) (Int32.toInt J49_c0_2) (Int32.toInt J49_l4) := by rw [hK49]; exact hq
        unfold F_X10_number_a0_0_a1_9999_49b at hq
        refine lv_aload_n hx hb dX10_number_49 rfl (lv_at hl 0 rfl) ?_
        refine k_get C0 fg_X10_285 hP 0 rfl rfl dX10_number_50 ?_
        refine lv_aload_n hx hb dX10_number_53 rfl (lv_at hl 0 rfl) ?_
        refine k_get C0 fg_X10_288 hP 0 rfl rfl dX10_number_54 ?_
        refine lv_icmp_ge (tgt := 129) hx hb dX10_number_57 rfl (fun c1 => ?_) (fun c1 => ?_)
        · as_aux_lemma =>
            replace hq := lf_pos hq (lf_le (lf_rf x_end) (lf_rf J49_c0_2) c1)
            have h2 := ib_le hK49_x_end hJ49_c0_2 c1
            have h3 : ib J49_c0_2 1 1600 := ib_w 1 1600 h2.2 rfl
            have h4 : ib x_at 0 1599 := ⟨(hx_at).1, by have := (hx_at).2; have := hJ49_lin0; have := (hJ49_l3).2; omega⟩
            have h5 : J49_l3.toInt + 1 ≤ J49_c0_2.toInt := by rcases hJ49_gh with q | q; exact q; exact absurd q.2.2 (by have := (hK49_x_end).1; have := (hK49_x_end).2; have := (h3).1; have := (h3).2; have := hJ49_lin1; have := (h4).1; have := (h4).2; have := hJ49_lin0; have := (hJ49_l3).1; have := (hJ49_l3).2; have := Int32.le_iff_toInt_le.mp c1; omega)
            have h6 : 1 * J49_l3.toInt + (-1) * J49_c0_2.toInt ≤ (-1) := by omega
            refine lv_aload_n hx hb dX10_number_129 rfl (lv_at hl 0 rfl) ?_
            refine lv_aload_n hx hb dX10_number_130 rfl (lv_at hl 0 rfl) ?_
            refine k_get C0 fg_X10_285 hP 0 rfl rfl dX10_number_131 ?_
            refine k_put C0 fp_X10_299 hP hD hS 0 rfl rfl rfl (Nat.le_of_ble_eq_true rfl) dX10_number_134 (fun H locs hP hD hS => ?_)
            replace hP : va_P (dC, dI) vwCl [(a_this, .inr (10, mfs rm x_taped J49_c0_2 x_end J49_c0_2 x_bad x_badPlace x_fault x_faultPlace x_namePlace x_awayTold x_away x_coded x_statements x_isCrossing x_textKind x_askSecond x_redMany x_isOpen x_lastGreen x_greenTo x_isCycleGreen x_stillGreen x_rowMany x_fitMany x_fitRules x_fitGreen x_undoable x_newest x_seeded x_qCoded x_qWaits x_qOpened x_qBase x_qPiled x_qAnswer x_qIsNew x_octets)), (wi_rm0_0_1600_0 rm cy g_tape)] H := hP
            replace hD := k_D hP hD
            refine lv_iload hx hb dX10_number_137 (lv_at hl 4 rfl) ?_
            refine lv_i2l (v := J49_l4.toInt64) hx hb dX10_number_139 rfl ?_
            refine lv_iload_n hx hb dX10_number_140 rfl (lv_at hl 1 rfl) ?_
            refine lv_i2l (v := 0) hx hb dX10_number_141 (by decide) ?_
            refine lv_iload_n hx hb dX10_number_142 rfl (lv_at hl 2 rfl) ?_
            refine lv_i2l (v := 9999) hx hb dX10_number_143 (by decide) ?_
            refine k_jim hP hD hS hA [] [true, true] rfl rfl rfl 0 0 (Nat.le_of_ble_eq_true rfl) (Nat.le_of_ble_eq_true rfl) (fun hPc hDc => k_runS (As := [.long J49_l4.toInt64, .long 0, .long 9999]) (rest := []) C0 hZ hS hA (c_isIn l dC dI cy sq J49_l4.toInt64 0 9999) mS_X10_318 hPc hDc hl rfl rfl (Nat.le_of_ble_eq_true rfl) ⟨(Nat.le_of_ble_eq_true rfl), (Nat.le_of_ble_eq_true rfl)⟩ ⟨(Nat.le_of_ble_eq_true rfl), (Nat.le_of_ble_eq_true rfl)⟩ dX10_number_144) (fun r7 u8 H locs hw hP hD hS => ?_)
            replace hP : va_P (dC, dI) vwCl [(a_this, .inr (10, mfs rm x_taped J49_c0_2 x_end J49_c0_2 x_bad x_badPlace x_fault x_faultPlace x_namePlace x_awayTold x_away x_coded x_statements x_isCrossing x_textKind x_askSecond x_redMany x_isOpen x_lastGreen x_greenTo x_isCycleGreen x_stillGreen x_rowMany x_fitMany x_fitRules x_fitGreen x_undoable x_newest x_seeded x_qCoded x_qWaits x_qOpened x_qBase x_qPiled x_qAnswer x_qIsNew x_octets)), (wi_rm0_0_1600_0 rm cy g_tape)] H := hP
            replace hD := k_D hP hD
            have h9 := hw
            have h10 : ib r7 0 1 := by rw [h9]; exact k_isf_01 _ _ _
            have Er7 := lf_isine h9 (lf_i2l (lf_rf J49_l4)) (lf_ll 0 (0 : Int) rfl) (lf_ll 9999 (9999 : Int) rfl)
            refine lv_if_ne (tgt := 156) hx hb dX10_number_147 rfl (fun c11 => ?_) (fun c11 => ?_)
            · replace hq := lf_neg hq (lf_ne Er7 (lf_lc 0 (0 : Int) rfl) c11)
              have h12 : ib r7 1 1 := ib_w 1 1 (ib_ne_lo 0 h10 rfl c11) rfl
              have h13 : ib J49_l4 0 9999 := ib_w 0 9999 (ib_two (ib_any J49_l4) (k_isf_v h9 (show 0 ≤ (0 : Int64).toInt by decide) (show (9999 : Int64).toInt ≤ 9999 by decide) (ib_nz h12 rfl))) rfl
              refine lv_iload hx hb dX10_number_156 (lv_at hl 4 rfl) ?_
              subst hQ; exact k_iret hx hb hr hlk rfl ((J49_c0_2, J49_c0_2, x_bad, x_badPlace)) hS ⟨ib_w 0 1600 h3 rfl, fun q => q, fun _ => ib_w 0 9999 h13 rfl, (by have := hJ49_lin1; omega), fun hq9 => (by have := hJ49_lin1; have := h6; have := hJ49_lin0; omega), (hO.symm.trans (by exact hq))⟩ hP hD (Nat.le_of_ble_eq_true rfl) (Nat.le_of_ble_eq_true rfl) dX10_number_158
            · replace hq := lf_pos hq (lf_eq Er7 (lf_lc 0 (0 : Int) rfl) c11)
              have h14 := ib_eq h10 (ib_c 0 0 0 rfl) c11
              have h15 : ib r7 0 0 := ib_w 0 0 h14.1 rfl
              refine lv_aload_n hx hb dX10_number_150 rfl (lv_at hl 0 rfl) ?_
              refine lv_iconst (v := 2) hx hb dX10_number_151 rfl ?_
              refine lv_iload_n hx hb dX10_number_152 rfl (lv_at hl 3 rfl) ?_
              refine k_jvm hP hD hS hA [0] [false, true] rfl rfl rfl 0 0 (Nat.le_of_ble_eq_true rfl) (Nat.le_of_ble_eq_true rfl) (fun hPc hDc => k_runV (As := [.int 2, .int J49_l3]) (rest := []) C0 hZ hS hA (s_X10_fail_a0_2_f_bad_0_0 l dC dI cy sq a_this rm x_taped J49_c0_2 x_end J49_c0_2 x_bad x_badPlace x_fault x_faultPlace x_namePlace x_awayTold x_away x_coded x_statements x_isCrossing x_textKind x_askSecond x_redMany x_isOpen x_lastGreen x_greenTo x_isCycleGreen x_stillGreen x_rowMany x_fitMany x_fitRules x_fitGreen x_undoable x_newest x_seeded x_qCoded x_qWaits x_qOpened x_qBase x_qPiled x_qAnswer x_qIsNew x_octets J49_l3 (ib_w 0 0 hK49_x_bad rfl)) mV_X10_308 hPc hDc rfl rfl rfl hl rfl rfl (Nat.le_of_ble_eq_true rfl) ⟨(Nat.le_of_ble_eq_true rfl), (Nat.le_of_ble_eq_true rfl)⟩ ⟨(Nat.le_of_ble_eq_true rfl), (Nat.le_of_ble_eq_true rfl)⟩ dX10_number_153) (fun u17 H locs hw hP hD hS => ?_)
              try dsimp only at hP hD hw
              replace hP : va_P (dC, dI) vwCl [(wi_rm0_0_1600_0 rm cy g_tape), (a_this, .inr (10, mfs rm x_taped J49_c0_2 x_end J49_c0_2 2 J49_l3 x_fault x_faultPlace x_namePlace x_awayTold x_away x_coded x_statements x_isCrossing x_textKind x_askSecond x_redMany x_isOpen x_lastGreen x_greenTo x_isCycleGreen x_stillGreen x_rowMany x_fitMany x_fitRules x_fitGreen x_undoable x_newest x_seeded x_qCoded x_qWaits x_qOpened x_qBase x_qPiled x_qAnswer x_qIsNew x_octets))] H := hP
              replace hD := k_D hP hD
              refine lv_iload hx hb dX10_number_156 (lv_at hl 4 rfl) ?_
              subst hQ; exact k_iret hx hb hr hlk rfl ((J49_c0_2, J49_c0_2, 2, J49_l3)) hS ⟨ib_w 0 1600 h3 rfl, fun q => absurd q (by decide), fun q => absurd q (by decide), (by have := hJ49_lin1; omega), fun q => absurd q (by decide), (hO.symm.trans (by try simp only [show (2 : Int32).toInt = (2 : Int) from rfl]; exact hq))⟩ (hP.sub [1, 0] rfl) (hD.sub [1, 0] rfl rfl) (Nat.le_of_ble_eq_true rfl) (Nat.le_of_ble_eq_true rfl) dX10_number_158
        · as_aux_lemma =>
            replace hq := lf_neg hq (lf_nle (lf_rf x_end) (lf_rf J49_c0_2) c1)
            have h18 := ib_nle hK49_x_end hJ49_c0_2 c1
            have h19 : ib J49_c0_2 0 1599 := ib_w 0 1599 h18.2 rfl
            have h20 : ib x_at 0 1599 := ⟨(hx_at).1, by have := (hx_at).2; have := hJ49_lin0; have := (hJ49_l3).2; omega⟩
            refine lv_aload_n hx hb dX10_number_60 rfl (lv_at hl 0 rfl) ?_
            refine k_get C0 fg_X10_7 hP 0 rfl rfl dX10_number_61 ?_
            refine lv_aload_n hx hb dX10_number_64 rfl (lv_at hl 0 rfl) ?_
            refine k_get C0 fg_X10_285 hP 0 rfl rfl dX10_number_65 ?_
            refine va_iald hx hb C0.2.2.2.2.2.1 hP 1 0 rfl rfl (ib_in 1600 h19 rfl) dX10_number_68 ?_
            refine lv_topi (fun z21 ez21 => ?_)
            have h22 : ib z21 0 255 := by rw [ez21]; exact ia_at hg_tape (ib_in 1600 h19 rfl)
            have Ez21 := lf_ld ez21 (lf_ra g_tape) (lf_rf J49_c0_2)
            refine k_jim hP hD hS hA [] [true, true] rfl rfl rfl 0 0 (Nat.le_of_ble_eq_true rfl) (Nat.le_of_ble_eq_true rfl) (fun hPc hDc => k_runS (As := [.int z21]) (rest := []) C0 hZ hS hA (s_X10_isDigit l dC dI cy sq z21 ) mS_X10_315 hPc hDc hl rfl rfl (Nat.le_of_ble_eq_true rfl) ⟨(Nat.le_of_ble_eq_true rfl), (Nat.le_of_ble_eq_true rfl)⟩ ⟨(Nat.le_of_ble_eq_true rfl), (Nat.le_of_ble_eq_true rfl)⟩ dX10_number_69) (fun r23 u24 H locs hw hP hD hS => ?_)
            try dsimp only at hP hD hw
            replace hP : va_P (dC, dI) vwCl [(a_this, .inr (10, mfs rm x_taped J49_c0_2 x_end x_ended x_bad x_badPlace x_fault x_faultPlace x_namePlace x_awayTold x_away x_coded x_statements x_isCrossing x_textKind x_askSecond x_redMany x_isOpen x_lastGreen x_greenTo x_isCycleGreen x_stillGreen x_rowMany x_fitMany x_fitRules x_fitGreen x_undoable x_newest x_seeded x_qCoded x_qWaits x_qOpened x_qBase x_qPiled x_qAnswer x_qIsNew x_octets)), (wi_rm0_0_1600_0 rm cy g_tape)] H := hP
            replace hD := k_D hP hD
            obtain ⟨h25, h26, h27, h28⟩ := hw
            have h28 := by have h9 := h28; rw [lf_u Ez21] at h9; exact h9
            replace hq := lf_b1 hq h28
            refine lv_if_eq (tgt := 129) hx hb dX10_number_72 rfl (fun c29 => ?_) (fun c29 => ?_)
            · as_aux_lemma =>
                replace hq := lf_pos hq (lf_eq (lf_rf r23) (lf_lc 0 (0 : Int) rfl) c29)
                have h30 := ib_eq h25 (ib_c 0 0 0 rfl) c29
                have h31 : ib r23 0 0 := ib_w 0 0 h30.1 rfl
                have h32 : J49_l3.toInt + 1 ≤ J49_c0_2.toInt := by rcases hJ49_gh with q | q; exact q; exact absurd (show ib z21 48 57 by rw [ez21]; exact q.2.1) (h27 (ib_one h31 rfl))
                have h33 : 1 * J49_l3.toInt + (-1) * J49_c0_2.toInt ≤ (-1) := by omega
                refine lv_aload_n hx hb dX10_number_129 rfl (lv_at hl 0 rfl) ?_
                refine lv_aload_n hx hb dX10_number_130 rfl (lv_at hl 0 rfl) ?_
                refine k_get C0 fg_X10_285 hP 0 rfl rfl dX10_number_131 ?_
                refine k_put C0 fp_X10_299 hP hD hS 0 rfl rfl rfl (Nat.le_of_ble_eq_true rfl) dX10_number_134 (fun H locs hP hD hS => ?_)
                replace hP : va_P (dC, dI) vwCl [(a_this, .inr (10, mfs rm x_taped J49_c0_2 x_end J49_c0_2 x_bad x_badPlace x_fault x_faultPlace x_namePlace x_awayTold x_away x_coded x_statements x_isCrossing x_textKind x_askSecond x_redMany x_isOpen x_lastGreen x_greenTo x_isCycleGreen x_stillGreen x_rowMany x_fitMany x_fitRules x_fitGreen x_undoable x_newest x_seeded x_qCoded x_qWaits x_qOpened x_qBase x_qPiled x_qAnswer x_qIsNew x_octets)), (wi_rm0_0_1600_0 rm cy g_tape)] H := hP
                replace hD := k_D hP hD
                refine lv_iload hx hb dX10_number_137 (lv_at hl 4 rfl) ?_
                refine lv_i2l (v := J49_l4.toInt64) hx hb dX10_number_139 rfl ?_
                refine lv_iload_n hx hb dX10_number_140 rfl (lv_at hl 1 rfl) ?_
                refine lv_i2l (v := 0) hx hb dX10_number_141 (by decide) ?_
                refine lv_iload_n hx hb dX10_number_142 rfl (lv_at hl 2 rfl) ?_
                refine lv_i2l (v := 9999) hx hb dX10_number_143 (by decide) ?_
                refine k_jim hP hD hS hA [] [true, true] rfl rfl rfl 0 0 (Nat.le_of_ble_eq_true rfl) (Nat.le_of_ble_eq_true rfl) (fun hPc hDc => k_runS (As := [.long J49_l4.toInt64, .long 0, .long 9999]) (rest := []) C0 hZ hS hA (c_isIn l dC dI cy sq J49_l4.toInt64 0 9999) mS_X10_318 hPc hDc hl rfl rfl (Nat.le_of_ble_eq_true rfl) ⟨(Nat.le_of_ble_eq_true rfl), (Nat.le_of_ble_eq_true rfl)⟩ ⟨(Nat.le_of_ble_eq_true rfl), (Nat.le_of_ble_eq_true rfl)⟩ dX10_number_144) (fun r34 u35 H locs hw hP hD hS => ?_)
                replace hP : va_P (dC, dI) vwCl [(a_this, .inr (10, mfs rm x_taped J49_c0_2 x_end J49_c0_2 x_bad x_badPlace x_fault x_faultPlace x_namePlace x_awayTold x_away x_coded x_statements x_isCrossing x_textKind x_askSecond x_redMany x_isOpen x_lastGreen x_greenTo x_isCycleGreen x_stillGreen x_rowMany x_fitMany x_fitRules x_fitGreen x_undoable x_newest x_seeded x_qCoded x_qWaits x_qOpened x_qBase x_qPiled x_qAnswer x_qIsNew x_octets)), (wi_rm0_0_1600_0 rm cy g_tape)] H := hP
                replace hD := k_D hP hD
                have h36 := hw
                have h37 : ib r34 0 1 := by rw [h36]; exact k_isf_01 _ _ _
                have Er34 := lf_isine h36 (lf_i2l (lf_rf J49_l4)) (lf_ll 0 (0 : Int) rfl) (lf_ll 9999 (9999 : Int) rfl)
                refine lv_if_ne (tgt := 156) hx hb dX10_number_147 rfl (fun c38 => ?_) (fun c38 => ?_)
                · replace hq := lf_neg hq (lf_ne Er34 (lf_lc 0 (0 : Int) rfl) c38)
                  have h39 : ib r34 1 1 := ib_w 1 1 (ib_ne_lo 0 h37 rfl c38) rfl
                  have h40 : ib J49_l4 0 9999 := ib_w 0 9999 (ib_two (ib_any J49_l4) (k_isf_v h36 (show 0 ≤ (0 : Int64).toInt by decide) (show (9999 : Int64).toInt ≤ 9999 by decide) (ib_nz h39 rfl))) rfl
                  have h41 : ib J49_l3 0 1598 := ⟨(hJ49_l3).1, by have := (hJ49_l3).2; have := h33; have := (h19).2; omega⟩
                  have h42 : ib J49_c0_2 1 1599 := ⟨by have := (h19).1; have := h33; have := (h41).1; omega, (h19).2⟩
                  refine lv_iload hx hb dX10_number_156 (lv_at hl 4 rfl) ?_
                  subst hQ; exact k_iret hx hb hr hlk rfl ((J49_c0_2, J49_c0_2, x_bad, x_badPlace)) hS ⟨ib_w 0 1600 h42 rfl, fun q => q, fun _ => ib_w 0 9999 h40 rfl, (by have := hJ49_lin1; omega), fun hq9 => (by have := hJ49_lin1; have := h33; have := hJ49_lin0; omega), (hO.symm.trans (by exact hq))⟩ hP hD (Nat.le_of_ble_eq_true rfl) (Nat.le_of_ble_eq_true rfl) dX10_number_158
                · replace hq := lf_pos hq (lf_eq Er34 (lf_lc 0 (0 : Int) rfl) c38)
                  have h43 := ib_eq h37 (ib_c 0 0 0 rfl) c38
                  have h44 : ib r34 0 0 := ib_w 0 0 h43.1 rfl
                  have h45 : ib J49_l3 0 1598 := ⟨(hJ49_l3).1, by have := (hJ49_l3).2; have := h33; have := (h19).2; omega⟩
                  have h46 : ib J49_c0_2 1 1599 := ⟨by have := (h19).1; have := h33; have := (h45).1; omega, (h19).2⟩
                  have h47 : ib x_at 0 1598 := ⟨(h20).1, by have := (h20).2; have := hJ49_lin0; have := (h45).2; omega⟩
                  refine lv_aload_n hx hb dX10_number_150 rfl (lv_at hl 0 rfl) ?_
                  refine lv_iconst (v := 2) hx hb dX10_number_151 rfl ?_
                  refine lv_iload_n hx hb dX10_number_152 rfl (lv_at hl 3 rfl) ?_
                  refine k_jvm hP hD hS hA [0] [false, true] rfl rfl rfl 0 0 (Nat.le_of_ble_eq_true rfl) (Nat.le_of_ble_eq_true rfl) (fun hPc hDc => k_runV (As := [.int 2, .int J49_l3]) (rest := []) C0 hZ hS hA (s_X10_fail_a0_2_f_bad_0_0 l dC dI cy sq a_this rm x_taped J49_c0_2 x_end J49_c0_2 x_bad x_badPlace x_fault x_faultPlace x_namePlace x_awayTold x_away x_coded x_statements x_isCrossing x_textKind x_askSecond x_redMany x_isOpen x_lastGreen x_greenTo x_isCycleGreen x_stillGreen x_rowMany x_fitMany x_fitRules x_fitGreen x_undoable x_newest x_seeded x_qCoded x_qWaits x_qOpened x_qBase x_qPiled x_qAnswer x_qIsNew x_octets J49_l3 (ib_w 0 0 hK49_x_bad rfl)) mV_X10_308 hPc hDc rfl rfl rfl hl rfl rfl (Nat.le_of_ble_eq_true rfl) ⟨(Nat.le_of_ble_eq_true rfl), (Nat.le_of_ble_eq_true rfl)⟩ ⟨(Nat.le_of_ble_eq_true rfl), (Nat.le_of_ble_eq_true rfl)⟩ dX10_number_153) (fun u49 H locs hw hP hD hS => ?_)
                  try dsimp only at hP hD hw
                  replace hP : va_P (dC, dI) vwCl [(wi_rm0_0_1600_0 rm cy g_tape), (a_this, .inr (10, mfs rm x_taped J49_c0_2 x_end J49_c0_2 2 J49_l3 x_fault x_faultPlace x_namePlace x_awayTold x_away x_coded x_statements x_isCrossing x_textKind x_askSecond x_redMany x_isOpen x_lastGreen x_greenTo x_isCycleGreen x_stillGreen x_rowMany x_fitMany x_fitRules x_fitGreen x_undoable x_newest x_seeded x_qCoded x_qWaits x_qOpened x_qBase x_qPiled x_qAnswer x_qIsNew x_octets))] H := hP
                  replace hD := k_D hP hD
                  refine lv_iload hx hb dX10_number_156 (lv_at hl 4 rfl) ?_
                  subst hQ; exact k_iret hx hb hr hlk rfl ((J49_c0_2, J49_c0_2, 2, J49_l3)) hS ⟨ib_w 0 1600 h46 rfl, fun q => absurd q (by decide), fun q => absurd q (by decide), (by have := hJ49_lin1; omega), fun q => absurd q (by decide), (hO.symm.trans (by try simp only [show (2 : Int32).toInt = (2 : Int) from rfl]; exact hq))⟩ (hP.sub [1, 0] rfl) (hD.sub [1, 0] rfl rfl) (Nat.le_of_ble_eq_true rfl) (Nat.le_of_ble_eq_true rfl) dX10_number_158
            · as_aux_lemma =>
                replace hq := lf_neg hq (lf_ne (lf_rf r23) (lf_lc 0 (0 : Int) rfl) c29)
                have h50 : ib r23 1 1 := ib_w 1 1 (ib_ne_lo 0 h25 rfl c29) rfl
                have h51 : ib z21 48 57 := ib_w 48 57 (ib_two h22 (h26 (ib_nz h50 rfl))) rfl
                refine lv_aload_n hx hb dX10_number_75 rfl (lv_at hl 0 rfl) ?_
                refine k_get C0 fg_X10_285 hP 0 rfl rfl dX10_number_76 ?_
                refine lv_iload_n hx hb dX10_number_79 rfl (lv_at hl 3 rfl) ?_
                refine lv_isub hx hb dX10_number_80 ?_
                refine lv_topi (fun z52 ez52 => ?_)
                have h53 := ib_sub h19 hJ49_l3 rfl
                rw [← ez52] at h53
                have h54 : ib z52 (-1599) 1599 := ib_w (-1599) 1599 h53.1 rfl
                have Ez52 := lf_sub h53.2 (lf_rf J49_c0_2) (lf_rf J49_l3)
                refine lv_iconst (v := 4) hx hb dX10_number_81 rfl ?_
                refine lv_icmp_ne (tgt := 96) hx hb dX10_number_82 rfl (fun c55 => ?_) (fun c55 => ?_)
                · as_aux_lemma =>
                    replace hq := lf_neg hq (lf_ne Ez52 (lf_lc 4 (4 : Int) rfl) c55)
                    refine lv_bipush (v := 10) hx hb dX10_number_96 rfl ?_
                    refine lv_iload hx hb dX10_number_98 (lv_at hl 4 rfl) ?_
                    refine lv_imul hx hb dX10_number_100 ?_
                    refine lv_topi (fun z56 ez56 => ?_)
                    have Ez56 := lf_op lf_imul ez56 (lf_lc 10 (10 : Int) rfl) (lf_rf J49_l4)
                    refine lv_aload_n hx hb dX10_number_101 rfl (lv_at hl 0 rfl) ?_
                    refine k_get C0 fg_X10_7 hP 0 rfl rfl dX10_number_102 ?_
                    refine lv_aload_n hx hb dX10_number_105 rfl (lv_at hl 0 rfl) ?_
                    refine k_get C0 fg_X10_285 hP 0 rfl rfl dX10_number_106 ?_
                    refine va_iald hx hb C0.2.2.2.2.2.1 hP 1 0 rfl rfl (ib_in 1600 h19 rfl) dX10_number_109 ?_
                    refine lv_topi (fun z57 ez57 => ?_)
                    obtain rfl : z21 = z57 := ez21.trans ez57.symm
                    refine lv_iadd hx hb dX10_number_110 ?_
                    refine lv_topi (fun z58 ez58 => ?_)
                    have Ez58 := lf_op lf_iadd ez58 Ez56 Ez21
                    refine lv_bipush (v := 48) hx hb dX10_number_111 rfl ?_
                    refine lv_isub hx hb dX10_number_113 ?_
                    refine lv_topi (fun z59 ez59 => ?_)
                    have Ez59 := lf_op lf_isub ez59 Ez58 (lf_lc 48 (48 : Int) rfl)
                    refine lv_istore (lv' := [(4, .int z59), (0, .ref a_this), (1, .int 0), (2, .int 9999), (3, .int J49_l3)]) hx hb dX10_number_114 hl (Nat.le_of_ble_eq_true rfl) rfl (fun ls hl => ?_)
                    refine lv_aload_n hx hb dX10_number_116 rfl (lv_at hl 1 rfl) ?_
                    refine lv_dup hx hb dX10_number_117 rfl ?_
                    refine k_get C0 fg_X10_285 hP 0 rfl rfl dX10_number_118 ?_
                    refine lv_iconst (v := 1) hx hb dX10_number_121 rfl ?_
                    refine lv_iadd hx hb dX10_number_122 ?_
                    refine lv_topi (fun z60 ez60 => ?_)
                    have h61 := ib_add h19 (ib_c 1 1 1 rfl) rfl
                    rw [← ez60] at h61
                    have h62 : ib z60 1 1600 := ib_w 1 1600 h61.1 rfl
                    have Ez60 := lf_add h61.2 (lf_rf J49_c0_2) (lf_lc 1 (1 : Int) rfl)
                    refine k_put C0 fp_X10_285 hP hD hS 0 rfl rfl rfl (Nat.le_of_ble_eq_true rfl) dX10_number_123 (fun H locs hP hD hS => ?_)
                    replace hP : va_P (dC, dI) vwCl [(a_this, .inr (10, mfs rm x_taped z60 x_end x_ended x_bad x_badPlace x_fault x_faultPlace x_namePlace x_awayTold x_away x_coded x_statements x_isCrossing x_textKind x_askSecond x_redMany x_isOpen x_lastGreen x_greenTo x_isCycleGreen x_stillGreen x_rowMany x_fitMany x_fitRules x_fitGreen x_undoable x_newest x_seeded x_qCoded x_qWaits x_qOpened x_qBase x_qPiled x_qAnswer x_qIsNew x_octets)), (wi_rm0_0_1600_0 rm cy g_tape)] H := hP
                    replace hD := k_D hP hD
                    refine lv_goto (tgt := 49) hx hb dX10_number_126 rfl ?_
                    exact ih49 J49_l3 z60 z59 H locs ls (ib_w 0 1599 hJ49_l3 rfl) (ib_w 0 1600 h62 rfl) (ib_w 1 1600 hK49_x_end rfl) (ib_w 0 0 hK49_x_bad rfl) (by have := hJ49_lin0; omega) (by have := h61.2; have : (1 : Int32).toInt = 1 := rfl; have := hJ49_lin1; omega) (by rw [← hK49]; rw [lf_u Ez60]; rw [lf_u Ez59]; exact hq) (Or.inl (by have q0 := h61.2; have q1 : (1 : Int32).toInt = 1 := rfl; rcases hJ49_gh with q | q <;> first | omega | (have := congrArg Int32.toInt q.1; omega))) (by have := h61.2; have : (1 : Int32).toInt = 1 := rfl; omega) hP hD hS (lv_sub hl [1, 2, 3, 4, 0] rfl)
                · replace hq := lf_pos hq (lf_eq Ez52 (lf_lc 4 (4 : Int) rfl) c55)
                  have h63 := ib_eq h54 (ib_c 4 4 4 rfl) c55
                  have h64 : ib z52 4 4 := ib_w 4 4 h63.1 rfl
                  have h65 : ib J49_c0_2 4 1599 := ⟨by have := h53.2; have := (h64).1; have := (h64).2; have := (h19).1; have := (h19).2; have := (hJ49_l3).1; have := (hJ49_l3).2; omega, by have := h53.2; have := (h64).1; have := (h64).2; have := (h19).1; have := (h19).2; have := (hJ49_l3).1; have := (hJ49_l3).2; omega⟩
                  have h66 : ib J49_l3 0 1595 := ⟨by have := h53.2; have := (h64).1; have := (h64).2; have := (h19).1; have := (h19).2; have := (hJ49_l3).1; have := (hJ49_l3).2; omega, by have := h53.2; have := (h64).1; have := (h64).2; have := (h19).1; have := (h19).2; have := (hJ49_l3).1; have := (hJ49_l3).2; omega⟩
                  have h67 : ib x_at 0 1595 := ⟨(h20).1, by have := (h20).2; have := hJ49_lin0; have := (h66).2; omega⟩
                  refine lv_aload_n hx hb dX10_number_85 rfl (lv_at hl 0 rfl) ?_
                  refine lv_iconst (v := 1) hx hb dX10_number_86 rfl ?_
                  refine lv_aload_n hx hb dX10_number_87 rfl (lv_at hl 0 rfl) ?_
                  refine k_get C0 fg_X10_285 hP 0 rfl rfl dX10_number_88 ?_
                  refine k_jvm hP hD hS hA [0] [false, true] rfl rfl rfl 0 0 (Nat.le_of_ble_eq_true rfl) (Nat.le_of_ble_eq_true rfl) (fun hPc hDc => k_runV (As := [.int 1, .int J49_c0_2]) (rest := []) C0 hZ hS hA (s_X10_fail_a0_1_f_bad_0_0 l dC dI cy sq a_this rm x_taped J49_c0_2 x_end x_ended x_bad x_badPlace x_fault x_faultPlace x_namePlace x_awayTold x_away x_coded x_statements x_isCrossing x_textKind x_askSecond x_redMany x_isOpen x_lastGreen x_greenTo x_isCycleGreen x_stillGreen x_rowMany x_fitMany x_fitRules x_fitGreen x_undoable x_newest x_seeded x_qCoded x_qWaits x_qOpened x_qBase x_qPiled x_qAnswer x_qIsNew x_octets J49_c0_2 (ib_w 0 0 hK49_x_bad rfl)) mV_X10_308 hPc hDc rfl rfl rfl hl rfl rfl (Nat.le_of_ble_eq_true rfl) ⟨(Nat.le_of_ble_eq_true rfl), (Nat.le_of_ble_eq_true rfl)⟩ ⟨(Nat.le_of_ble_eq_true rfl), (Nat.le_of_ble_eq_true rfl)⟩ dX10_number_91) (fun u69 H locs hw hP hD hS => ?_)
                  try dsimp only at hP hD hw
                  replace hP : va_P (dC, dI) vwCl [(wi_rm0_0_1600_0 rm cy g_tape), (a_this, .inr (10, mfs rm x_taped J49_c0_2 x_end x_ended 1 J49_c0_2 x_fault x_faultPlace x_namePlace x_awayTold x_away x_coded x_statements x_isCrossing x_textKind x_askSecond x_redMany x_isOpen x_lastGreen x_greenTo x_isCycleGreen x_stillGreen x_rowMany x_fitMany x_fitRules x_fitGreen x_undoable x_newest x_seeded x_qCoded x_qWaits x_qOpened x_qBase x_qPiled x_qAnswer x_qIsNew x_octets))] H := hP
                  replace hD := k_D hP hD
                  refine lv_iconst (v := 0) hx hb dX10_number_94 rfl ?_
                  subst hQ; exact k_iret hx hb hr hlk rfl ((J49_c0_2, x_ended, 1, J49_c0_2)) hS ⟨ib_w 0 1600 h65 rfl, fun q => absurd q (by decide), fun q => absurd q (by decide), (by have := hJ49_lin1; omega), fun q => absurd q (by decide), (hO.symm.trans (by try simp only [show (0 : Int32).toInt = (0 : Int) from rfl]; try simp only [show (1 : Int32).toInt = (1 : Int) from rfl]; exact hq))⟩ (hP.sub [1, 0] rfl) (hD.sub [1, 0] rfl rfl) (Nat.le_of_ble_eq_true rfl) (Nat.le_of_ble_eq_true rfl) dX10_number_95
  refine lv_aload_n hx hb dX10_number_0 rfl (lv_at hl 0 rfl) ?_
  refine k_get C0 fg_X10_279 hP 0 rfl rfl dX10_number_1 ?_
  refine lv_if_eq (tgt := 9) hx hb dX10_number_4 rfl (fun c70 => ?_) (fun c70 => ?_)
  · as_aux_lemma =>
      replace hq := lf_pos hq (lf_eq (lf_rf x_bad) (lf_lc 0 (0 : Int) rfl) c70)
      have h71 := ib_eq (ib_any x_bad) (ib_c 0 0 0 rfl) c70
      have h72 : ib x_bad 0 0 := ib_w 0 0 h71.1 rfl
      refine lv_aload_n hx hb dX10_number_9 rfl (lv_at hl 0 rfl) ?_
      refine k_jim hP hD hS hA [0, 1] [] rfl rfl rfl 0 0 (Nat.le_of_ble_eq_true rfl) (Nat.le_of_ble_eq_true rfl) (fun hPc hDc => k_runV (As := []) (rest := []) C0 hZ hS hA (s_X10_look l dC dI cy sq a_this rm x_taped x_at x_end x_ended x_bad x_badPlace x_fault x_faultPlace x_namePlace x_awayTold x_away x_coded x_statements x_isCrossing x_textKind x_askSecond x_redMany x_isOpen x_lastGreen x_greenTo x_isCycleGreen x_stillGreen x_rowMany x_fitMany x_fitRules x_fitGreen x_undoable x_newest x_seeded x_qCoded x_qWaits x_qOpened x_qBase x_qPiled x_qAnswer x_qIsNew x_octets g_tape (ib_w 0 1600 hx_at rfl) (ib_w 0 1600 hx_end rfl) hg_tape) mV_X10_291 hPc hDc rfl rfl rfl hl rfl rfl (Nat.le_of_ble_eq_true rfl) ⟨(Nat.le_of_ble_eq_true rfl), (Nat.le_of_ble_eq_true rfl)⟩ ⟨(Nat.le_of_ble_eq_true rfl), (Nat.le_of_ble_eq_true rfl)⟩ dX10_number_10) (fun r73 u74 H locs hw hP hD hS => ?_)
      obtain ⟨v75, ev75⟩ : ∃ z, z = u74 := ⟨_, rfl⟩; subst ev75
      try dsimp only at hP hD hw
      replace hP : va_P (dC, dI) vwCl [(a_this, .inr (10, mfs rm x_taped v75 x_end x_ended x_bad x_badPlace x_fault x_faultPlace x_namePlace x_awayTold x_away x_coded x_statements x_isCrossing x_textKind x_askSecond x_redMany x_isOpen x_lastGreen x_greenTo x_isCycleGreen x_stillGreen x_rowMany x_fitMany x_fitRules x_fitGreen x_undoable x_newest x_seeded x_qCoded x_qWaits x_qOpened x_qBase x_qPiled x_qAnswer x_qIsNew x_octets)), (wi_rm0_0_1600_0 rm cy g_tape)] H := hP
      replace hD := k_D hP hD
      obtain ⟨h76, h77, h78, h79, h80, h81, h82, h83, h84, h85⟩ := hw
      replace hq := lf_p1 hq h85
      refine k_jim hP hD hS hA [] [true, true] rfl rfl rfl 0 0 (Nat.le_of_ble_eq_true rfl) (Nat.le_of_ble_eq_true rfl) (fun hPc hDc => k_runS (As := [.int r73]) (rest := []) C0 hZ hS hA (s_X10_isDigit l dC dI cy sq r73 ) mS_X10_315 hPc hDc hl rfl rfl (Nat.le_of_ble_eq_true rfl) ⟨(Nat.le_of_ble_eq_true rfl), (Nat.le_of_ble_eq_true rfl)⟩ ⟨(Nat.le_of_ble_eq_true rfl), (Nat.le_of_ble_eq_true rfl)⟩ dX10_number_13) (fun r86 u87 H locs hw hP hD hS => ?_)
      try dsimp only at hP hD hw
      replace hP : va_P (dC, dI) vwCl [(a_this, .inr (10, mfs rm x_taped v75 x_end x_ended x_bad x_badPlace x_fault x_faultPlace x_namePlace x_awayTold x_away x_coded x_statements x_isCrossing x_textKind x_askSecond x_redMany x_isOpen x_lastGreen x_greenTo x_isCycleGreen x_stillGreen x_rowMany x_fitMany x_fitRules x_fitGreen x_undoable x_newest x_seeded x_qCoded x_qWaits x_qOpened x_qBase x_qPiled x_qAnswer x_qIsNew x_octets)), (wi_rm0_0_1600_0 rm cy g_tape)] H := hP
      replace hD := k_D hP hD
      obtain ⟨h88, h89, h90, h91⟩ := hw
      replace hq := lf_b1 hq h91
      refine lv_if_eq (tgt := 30) hx hb dX10_number_16 rfl (fun c92 => ?_) (fun c92 => ?_)
      · replace hq := lf_pos hq (lf_eq (lf_rf r86) (lf_lc 0 (0 : Int) rfl) c92)
        have h93 := ib_eq h88 (ib_c 0 0 0 rfl) c92
        have h94 : ib r86 0 0 := ib_w 0 0 h93.1 rfl
        refine lv_aload_n hx hb dX10_number_30 rfl (lv_at hl 0 rfl) ?_
        refine lv_iconst (v := 1) hx hb dX10_number_31 rfl ?_
        refine lv_aload_n hx hb dX10_number_32 rfl (lv_at hl 0 rfl) ?_
        refine k_get C0 fg_X10_285 hP 0 rfl rfl dX10_number_33 ?_
        refine k_jvm hP hD hS hA [0] [false, true] rfl rfl rfl 0 0 (Nat.le_of_ble_eq_true rfl) (Nat.le_of_ble_eq_true rfl) (fun hPc hDc => k_runV (As := [.int 1, .int v75]) (rest := []) C0 hZ hS hA (s_X10_fail_a0_1_f_bad_0_0 l dC dI cy sq a_this rm x_taped v75 x_end x_ended x_bad x_badPlace x_fault x_faultPlace x_namePlace x_awayTold x_away x_coded x_statements x_isCrossing x_textKind x_askSecond x_redMany x_isOpen x_lastGreen x_greenTo x_isCycleGreen x_stillGreen x_rowMany x_fitMany x_fitRules x_fitGreen x_undoable x_newest x_seeded x_qCoded x_qWaits x_qOpened x_qBase x_qPiled x_qAnswer x_qIsNew x_octets v75 (ib_w 0 0 h72 rfl)) mV_X10_308 hPc hDc rfl rfl rfl hl rfl rfl (Nat.le_of_ble_eq_true rfl) ⟨(Nat.le_of_ble_eq_true rfl), (Nat.le_of_ble_eq_true rfl)⟩ ⟨(Nat.le_of_ble_eq_true rfl), (Nat.le_of_ble_eq_true rfl)⟩ dX10_number_36) (fun u96 H locs hw hP hD hS => ?_)
        try dsimp only at hP hD hw
        replace hP : va_P (dC, dI) vwCl [(wi_rm0_0_1600_0 rm cy g_tape), (a_this, .inr (10, mfs rm x_taped v75 x_end x_ended 1 v75 x_fault x_faultPlace x_namePlace x_awayTold x_away x_coded x_statements x_isCrossing x_textKind x_askSecond x_redMany x_isOpen x_lastGreen x_greenTo x_isCycleGreen x_stillGreen x_rowMany x_fitMany x_fitRules x_fitGreen x_undoable x_newest x_seeded x_qCoded x_qWaits x_qOpened x_qBase x_qPiled x_qAnswer x_qIsNew x_octets))] H := hP
        replace hD := k_D hP hD
        refine lv_iconst (v := 0) hx hb dX10_number_39 rfl ?_
        subst hQ; exact k_iret hx hb hr hlk rfl ((v75, x_ended, 1, v75)) hS ⟨ib_w 0 1600 h76 rfl, fun q => absurd q (by decide), fun q => absurd q (by decide), (by have := h81; omega), fun q => absurd q (by decide), (hO.symm.trans (by try simp only [show (0 : Int32).toInt = (0 : Int) from rfl]; try simp only [show (1 : Int32).toInt = (1 : Int) from rfl]; exact hq))⟩ (hP.sub [1, 0] rfl) (hD.sub [1, 0] rfl rfl) (Nat.le_of_ble_eq_true rfl) (Nat.le_of_ble_eq_true rfl) dX10_number_40
      · as_aux_lemma =>
          replace hq := lf_neg hq (lf_ne (lf_rf r86) (lf_lc 0 (0 : Int) rfl) c92)
          have h97 : ib r86 1 1 := ib_w 1 1 (ib_ne_lo 0 h88 rfl c92) rfl
          have h98 : ib r73 48 57 := ib_w 48 57 (ib_two h77 (h89 (ib_nz h97 rfl))) rfl
          have h99 : ib v75 0 1599 := ib_w 0 1599 (ib_two h76 (h78 (ib_nc (-1) h98 rfl))) rfl
          have h100 : ib x_at 0 1599 := ib_w 0 1599 (ib_two hx_at (h79 (ib_nc (-1) h98 rfl))) rfl
          have h101 : ib x_end 1 1600 := ib_w 1 1600 (ib_two hx_end (h80 (ib_nc (-1) h98 rfl))) rfl
          refine lv_aload_n hx hb dX10_number_19 rfl (lv_at hl 0 rfl) ?_
          refine k_get C0 fg_X10_285 hP 0 rfl rfl dX10_number_20 ?_
          refine lv_aload_n hx hb dX10_number_23 rfl (lv_at hl 0 rfl) ?_
          refine k_get C0 fg_X10_299 hP 0 rfl rfl dX10_number_24 ?_
          refine lv_icmp_ne (tgt := 41) hx hb dX10_number_27 rfl (fun c102 => ?_) (fun c102 => ?_)
          · replace hq := lf_neg hq (lf_ne (lf_rf v75) (lf_rf x_ended) c102)
            refine lv_aload_n hx hb dX10_number_41 rfl (lv_at hl 0 rfl) ?_
            refine k_get C0 fg_X10_285 hP 0 rfl rfl dX10_number_42 ?_
            refine lv_istore_n (lv' := [(3, .int v75), (0, .ref a_this), (1, .int 0), (2, .int 9999)]) hx hb dX10_number_45 rfl hl (Nat.le_of_ble_eq_true rfl) rfl (fun ls hl => ?_)
            refine lv_iconst (v := 0) hx hb dX10_number_46 rfl ?_
            refine lv_istore (lv' := [(4, .int 0), (3, .int v75), (0, .ref a_this), (1, .int 0), (2, .int 9999)]) hx hb dX10_number_47 hl (Nat.le_of_ble_eq_true rfl) rfl (fun ls hl => ?_)
            exact jn49 1602 v75 v75 0 H locs ls (ib_w 0 1599 h99 rfl) (ib_w 0 1600 h99 rfl) (ib_w 1 1600 h101 rfl) (ib_w 0 0 h72 rfl) (by have := h81; omega) (by have := h81; omega) (by try simp only [show (0 : Int32).toInt = (0 : Int) from rfl]; exact hq) (Or.inr ⟨rfl, by rw [(h82 (ib_nc (-1) h98 rfl)).1]; exact ib_w 48 57 h98 rfl, (h82 (ib_nc (-1) h98 rfl)).2⟩) (by have := h99; unfold ib at this; omega) hP hD hS (lv_sub hl [2, 3, 4, 1, 0] rfl)
          · replace hq := lf_pos hq (lf_eq (lf_rf v75) (lf_rf x_ended) c102)
            have h103 := ib_eq h99 (ib_any x_ended) c102
            have h104 : ib x_ended 0 1599 := ib_w 0 1599 h103.2 rfl
            refine lv_aload_n hx hb dX10_number_30 rfl (lv_at hl 0 rfl) ?_
            refine lv_iconst (v := 1) hx hb dX10_number_31 rfl ?_
            refine lv_aload_n hx hb dX10_number_32 rfl (lv_at hl 0 rfl) ?_
            refine k_get C0 fg_X10_285 hP 0 rfl rfl dX10_number_33 ?_
            refine k_jvm hP hD hS hA [0] [false, true] rfl rfl rfl 0 0 (Nat.le_of_ble_eq_true rfl) (Nat.le_of_ble_eq_true rfl) (fun hPc hDc => k_runV (As := [.int 1, .int v75]) (rest := []) C0 hZ hS hA (s_X10_fail_a0_1_f_bad_0_0 l dC dI cy sq a_this rm x_taped v75 x_end x_ended x_bad x_badPlace x_fault x_faultPlace x_namePlace x_awayTold x_away x_coded x_statements x_isCrossing x_textKind x_askSecond x_redMany x_isOpen x_lastGreen x_greenTo x_isCycleGreen x_stillGreen x_rowMany x_fitMany x_fitRules x_fitGreen x_undoable x_newest x_seeded x_qCoded x_qWaits x_qOpened x_qBase x_qPiled x_qAnswer x_qIsNew x_octets v75 (ib_w 0 0 h72 rfl)) mV_X10_308 hPc hDc rfl rfl rfl hl rfl rfl (Nat.le_of_ble_eq_true rfl) ⟨(Nat.le_of_ble_eq_true rfl), (Nat.le_of_ble_eq_true rfl)⟩ ⟨(Nat.le_of_ble_eq_true rfl), (Nat.le_of_ble_eq_true rfl)⟩ dX10_number_36) (fun u106 H locs hw hP hD hS => ?_)
            try dsimp only at hP hD hw
            replace hP : va_P (dC, dI) vwCl [(wi_rm0_0_1600_0 rm cy g_tape), (a_this, .inr (10, mfs rm x_taped v75 x_end x_ended 1 v75 x_fault x_faultPlace x_namePlace x_awayTold x_away x_coded x_statements x_isCrossing x_textKind x_askSecond x_redMany x_isOpen x_lastGreen x_greenTo x_isCycleGreen x_stillGreen x_rowMany x_fitMany x_fitRules x_fitGreen x_undoable x_newest x_seeded x_qCoded x_qWaits x_qOpened x_qBase x_qPiled x_qAnswer x_qIsNew x_octets))] H := hP
            replace hD := k_D hP hD
            refine lv_iconst (v := 0) hx hb dX10_number_39 rfl ?_
            subst hQ; exact k_iret hx hb hr hlk rfl ((v75, x_ended, 1, v75)) hS ⟨ib_w 0 1600 h99 rfl, fun q => absurd q (by decide), fun q => absurd q (by decide), (by have := h81; omega), fun q => absurd q (by decide), (hO.symm.trans (by try simp only [show (0 : Int32).toInt = (0 : Int) from rfl]; try simp only [show (1 : Int32).toInt = (1 : Int) from rfl]; exact hq))⟩ (hP.sub [1, 0] rfl) (hD.sub [1, 0] rfl rfl) (Nat.le_of_ble_eq_true rfl) (Nat.le_of_ble_eq_true rfl) dX10_number_40
  · replace hq := lf_neg hq (lf_ne (lf_rf x_bad) (lf_lc 0 (0 : Int) rfl) c70)
    refine lv_iconst (v := 0) hx hb dX10_number_7 rfl ?_
    subst hQ; exact k_iret hx hb hr hlk rfl ((x_at, x_ended, x_bad, x_badPlace)) hS ⟨ib_w 0 1600 hx_at rfl, fun q => q, fun _ => ib_w 0 9999 (ib_c 0 0 0 rfl) rfl, (by omega), fun q => absurd q c70, (hO.symm.trans (by try simp only [show (0 : Int32).toInt = (0 : Int) from rfl]; exact hq))⟩ hP hD (Nat.le_of_ble_eq_true rfl) (Nat.le_of_ble_eq_true rfl) dX10_number_8
set_option maxHeartbeats 4000000 in
set_option maxRecDepth 100000 in
theorem s_X10_qCode (l : Launch) (dC : Nat → ClassId) (dI : Nat → Nat → Nat) (cy : Nat → ClassId) (sq : Nat → Nat) (a_this : Nat) (rm : Nat → Nat) (x_taped : Int32) (x_at : Int32) (x_end : Int32) (x_ended : Int32) (x_bad : Int32) (x_badPlace : Int32) (x_fault : Int32) (x_faultPlace : Int32) (x_namePlace : Int32) (x_awayTold : Int32) (x_away : Int32) (x_coded : Int32) (x_statements : Int32) (x_isCrossing : Int32) (x_textKind : Int32) (x_askSecond : Int32) (x_redMany : Int32) (x_isOpen : Int32) (x_lastGreen : Int32) (x_greenTo : Int32) (x_isCycleGreen : Int32) (x_stillGreen : Int32) (x_rowMany : Int32) (x_fitMany : Int32) (x_fitRules : Int32) (x_fitGreen : Int32) (x_undoable : Int32) (x_newest : Int32) (x_seeded : Int64) (x_qCoded : Int32) (x_qWaits : Int32) (x_qOpened : Int32) (x_qBase : Int32) (x_qPiled : Int32) (x_qAnswer : Int64) (x_qIsNew : Int32) (x_octets : Int32) (g_qCodes : Nat → Int32) (p0 : Int32) (hx_qCoded : ib x_qCoded 0 1699) : k_Met l yX10_qCode cX10_qCode 2 none { frames := 0, cells := 0, slots := 0, locals := 0 } dC dI cy sq [.ref a_this, .int p0] [(a_this, .inr (10, mfs rm x_taped x_at x_end x_ended x_bad x_badPlace x_fault x_faultPlace x_namePlace x_awayTold x_away x_coded x_statements x_isCrossing x_textKind x_askSecond x_redMany x_isOpen x_lastGreen x_greenTo x_isCycleGreen x_stillGreen x_rowMany x_fitMany x_fitRules x_fitGreen x_undoable x_newest x_seeded x_qCoded x_qWaits x_qOpened x_qBase x_qPiled x_qAnswer x_qIsNew x_octets)), (wi_rm110_0_1700_0 rm cy g_qCodes)] (k_Qv dC dI (fun (u : Int32 × (Nat → Int32)) => match u with | (n0, n1) => ib n0 1 1700 ∧ n0.toInt = x_qCoded.toInt + 1 ∧ n1 = upd g_qCodes (Int32.toNatClampNeg x_qCoded) p0 ∧ (F_X10_qCode (Int32.toInt x_qCoded) (lf_A g_qCodes) (Int32.toInt p0) = ((Int32.toInt n0), (lf_A n1)))) (fun u : Int32 × (Nat → Int32) => match u with | (n0, n1) => [(a_this, .inr (10, mfs rm x_taped x_at x_end x_ended x_bad x_badPlace x_fault x_faultPlace x_namePlace x_awayTold x_away x_coded x_statements x_isCrossing x_textKind x_askSecond x_redMany x_isOpen x_lastGreen x_greenTo x_isCycleGreen x_stillGreen x_rowMany x_fitMany x_fitRules x_fitGreen x_undoable x_newest x_seeded n0 x_qWaits x_qOpened x_qBase x_qPiled x_qAnswer x_qIsNew x_octets)), (wi_rm110_0_1700_0 rm cy n1)])) := by
  refine k_ofW2 (by decide +kernel) (Nat.le_of_ble_eq_true rfl) ?_
  intro p e s m below meth c A ls H locs args Q hQ C0 hZ hr hlk hin hP hD hA hS hl
  have C0 : k_cx p s m args c cX10_qCode 2 RX10 dC dI cy sq := C0
  have hx := C0.1
  have hb := C0.2.1
  have hl : lv_has ls 2 [(0, .ref a_this), (1, .int p0)] := hl
  obtain ⟨O, hO⟩ : ∃ o, o = F_X10_qCode (Int32.toInt x_qCoded) (lf_A g_qCodes) (Int32.toInt p0) := ⟨_, rfl⟩
  have hq := hO
  unfold F_X10_qCode at hq
  refine lv_aload_n hx hb dX10_qCode_0 rfl (lv_at hl 0 rfl) ?_
  refine k_get C0 fg_X10_264 hP 0 rfl rfl dX10_qCode_1 ?_
  refine lv_aload_n hx hb dX10_qCode_4 rfl (lv_at hl 0 rfl) ?_
  refine k_get C0 fg_X10_369 hP 0 rfl rfl dX10_qCode_5 ?_
  refine lv_iload_n hx hb dX10_qCode_8 rfl (lv_at hl 1 rfl) ?_
  refine va_iast hx hb C0.2.2.2.2.2.1 hP hD hS 1 0 rfl rfl (ib_in 1700 hx_qCoded rfl) dX10_qCode_9 (fun H locs hP hD hS => ?_)
  replace hP : va_P (dC, dI) vwCl [(a_this, .inr (10, mfs rm x_taped x_at x_end x_ended x_bad x_badPlace x_fault x_faultPlace x_namePlace x_awayTold x_away x_coded x_statements x_isCrossing x_textKind x_askSecond x_redMany x_isOpen x_lastGreen x_greenTo x_isCycleGreen x_stillGreen x_rowMany x_fitMany x_fitRules x_fitGreen x_undoable x_newest x_seeded x_qCoded x_qWaits x_qOpened x_qBase x_qPiled x_qAnswer x_qIsNew x_octets)), (wi_rm110_0_1700_0 rm cy (upd g_qCodes (Int32.toNatClampNeg x_qCoded) p0))] H := hP
  replace hD := k_D hP hD
  generalize h2E : upd g_qCodes (Int32.toNatClampNeg x_qCoded) p0 = f1 at hP hD
  have ef1 := h2E
  have Ef1 := lf_st ef1 (lf_ra g_qCodes) (lf_rf x_qCoded) (lf_rf p0)
  refine lv_aload_n hx hb dX10_qCode_10 rfl (lv_at hl 0 rfl) ?_
  refine lv_dup hx hb dX10_qCode_11 rfl ?_
  refine k_get C0 fg_X10_369 hP 0 rfl rfl dX10_qCode_12 ?_
  refine lv_iconst (v := 1) hx hb dX10_qCode_15 rfl ?_
  refine lv_iadd hx hb dX10_qCode_16 ?_
  refine lv_topi (fun z3 ez3 => ?_)
  have h4 := ib_add hx_qCoded (ib_c 1 1 1 rfl) rfl
  rw [← ez3] at h4
  have h5 : ib z3 1 1700 := ib_w 1 1700 h4.1 rfl
  have Ez3 := lf_add h4.2 (lf_rf x_qCoded) (lf_lc 1 (1 : Int) rfl)
  refine k_put C0 fp_X10_369 hP hD hS 0 rfl rfl rfl (Nat.le_of_ble_eq_true rfl) dX10_qCode_17 (fun H locs hP hD hS => ?_)
  replace hP : va_P (dC, dI) vwCl [(a_this, .inr (10, mfs rm x_taped x_at x_end x_ended x_bad x_badPlace x_fault x_faultPlace x_namePlace x_awayTold x_away x_coded x_statements x_isCrossing x_textKind x_askSecond x_redMany x_isOpen x_lastGreen x_greenTo x_isCycleGreen x_stillGreen x_rowMany x_fitMany x_fitRules x_fitGreen x_undoable x_newest x_seeded z3 x_qWaits x_qOpened x_qBase x_qPiled x_qAnswer x_qIsNew x_octets)), (wi_rm110_0_1700_0 rm cy f1)] H := hP
  replace hD := k_D hP hD
  subst hQ; exact k_vret hx hb hr hlk ((z3, f1)) hS ⟨ib_w 1 1700 h5 rfl, (by have := (hx_qCoded).1; have := (hx_qCoded).2; have := (h5).1; have := (h5).2; have := h4.2; have : (1 : Int32).toInt = 1 := rfl; omega), h2E.symm, (hO.symm.trans (by rw [lf_u Ez3]; rw [lf_ua Ef1]; exact hq))⟩ hP hD (Nat.le_of_ble_eq_true rfl) (Nat.le_of_ble_eq_true rfl) dX10_qCode_20
set_option maxHeartbeats 4000000 in
set_option maxRecDepth 100000 in
theorem s_X10_qDrops (l : Launch) (dC : Nat → ClassId) (dI : Nat → Nat → Nat) (cy : Nat → ClassId) (sq : Nat → Nat) (a_this : Nat) (rm : Nat → Nat) (x_taped : Int32) (x_at : Int32) (x_end : Int32) (x_ended : Int32) (x_bad : Int32) (x_badPlace : Int32) (x_fault : Int32) (x_faultPlace : Int32) (x_namePlace : Int32) (x_awayTold : Int32) (x_away : Int32) (x_coded : Int32) (x_statements : Int32) (x_isCrossing : Int32) (x_textKind : Int32) (x_askSecond : Int32) (x_redMany : Int32) (x_isOpen : Int32) (x_lastGreen : Int32) (x_greenTo : Int32) (x_isCycleGreen : Int32) (x_stillGreen : Int32) (x_rowMany : Int32) (x_fitMany : Int32) (x_fitRules : Int32) (x_fitGreen : Int32) (x_undoable : Int32) (x_newest : Int32) (x_seeded : Int64) (x_qCoded : Int32) (x_qWaits : Int32) (x_qOpened : Int32) (x_qBase : Int32) (x_qPiled : Int32) (x_qAnswer : Int64) (x_qIsNew : Int32) (x_octets : Int32) (g_qCodes : Nat → Int32) (g_qWait : Nat → Int32) (hx_qCoded : ib x_qCoded 0 1699) (hx_qWaits : ib x_qWaits 1 1700) : k_Met l yX10_qDrops cX10_qDrops 1 none { frames := 1, cells := 0, slots := 0, locals := 21 } dC dI cy sq [.ref a_this] [(a_this, .inr (10, mfs rm x_taped x_at x_end x_ended x_bad x_badPlace x_fault x_faultPlace x_namePlace x_awayTold x_away x_coded x_statements x_isCrossing x_textKind x_askSecond x_redMany x_isOpen x_lastGreen x_greenTo x_isCycleGreen x_stillGreen x_rowMany x_fitMany x_fitRules x_fitGreen x_undoable x_newest x_seeded x_qCoded x_qWaits x_qOpened x_qBase x_qPiled x_qAnswer x_qIsNew x_octets)), (wi_rm112_0_1700_0 rm cy g_qWait), (wi_rm110_0_1700_0 rm cy g_qCodes)] (k_Qv dC dI (fun (u : Int32 × Int32 × (Nat → Int32)) => match u with | (n0, n1, n2) => ib n0 1 1700 ∧ n0.toInt = x_qCoded.toInt + 1 ∧ ib n1 0 1699 ∧ n1.toInt = x_qWaits.toInt + (-1) ∧ n2 = upd g_qCodes (Int32.toNatClampNeg x_qCoded) (g_qWait (Int32.toNatClampNeg n1)) ∧ (F_X10_qDrops (Int32.toInt x_qCoded) (Int32.toInt x_qWaits) (lf_A g_qCodes) (lf_A g_qWait) = ((Int32.toInt n0), (Int32.toInt n1), (lf_A n2)))) (fun u : Int32 × Int32 × (Nat → Int32) => match u with | (n0, n1, n2) => [(a_this, .inr (10, mfs rm x_taped x_at x_end x_ended x_bad x_badPlace x_fault x_faultPlace x_namePlace x_awayTold x_away x_coded x_statements x_isCrossing x_textKind x_askSecond x_redMany x_isOpen x_lastGreen x_greenTo x_isCycleGreen x_stillGreen x_rowMany x_fitMany x_fitRules x_fitGreen x_undoable x_newest x_seeded n0 n1 x_qOpened x_qBase x_qPiled x_qAnswer x_qIsNew x_octets)), (wi_rm112_0_1700_0 rm cy g_qWait), (wi_rm110_0_1700_0 rm cy n2)])) := by
  refine k_ofW2 (by decide +kernel) (Nat.le_of_ble_eq_true rfl) ?_
  intro p e s m below meth c A ls H locs args Q hQ C0 hZ hr hlk hin hP hD hA hS hl
  have C0 : k_cx p s m args c cX10_qDrops 1 RX10 dC dI cy sq := C0
  have hx := C0.1
  have hb := C0.2.1
  have hl : lv_has ls 1 [(0, .ref a_this)] := hl
  obtain ⟨O, hO⟩ : ∃ o, o = F_X10_qDrops (Int32.toInt x_qCoded) (Int32.toInt x_qWaits) (lf_A g_qCodes) (lf_A g_qWait) := ⟨_, rfl⟩
  have hq := hO
  unfold F_X10_qDrops at hq
  refine lv_aload_n hx hb dX10_qDrops_0 rfl (lv_at hl 0 rfl) ?_
  refine lv_dup hx hb dX10_qDrops_1 rfl ?_
  refine k_get C0 fg_X10_372 hP 0 rfl rfl dX10_qDrops_2 ?_
  refine lv_iconst (v := 1) hx hb dX10_qDrops_5 rfl ?_
  refine lv_isub hx hb dX10_qDrops_6 ?_
  refine lv_topi (fun z1 ez1 => ?_)
  have h2 := ib_sub hx_qWaits (ib_c 1 1 1 rfl) rfl
  rw [← ez1] at h2
  have h3 : ib z1 0 1699 := ib_w 0 1699 h2.1 rfl
  have Ez1 := lf_sub h2.2 (lf_rf x_qWaits) (lf_lc 1 (1 : Int) rfl)
  refine k_put C0 fp_X10_372 hP hD hS 0 rfl rfl rfl (Nat.le_of_ble_eq_true rfl) dX10_qDrops_7 (fun H locs hP hD hS => ?_)
  replace hP : va_P (dC, dI) vwCl [(a_this, .inr (10, mfs rm x_taped x_at x_end x_ended x_bad x_badPlace x_fault x_faultPlace x_namePlace x_awayTold x_away x_coded x_statements x_isCrossing x_textKind x_askSecond x_redMany x_isOpen x_lastGreen x_greenTo x_isCycleGreen x_stillGreen x_rowMany x_fitMany x_fitRules x_fitGreen x_undoable x_newest x_seeded x_qCoded z1 x_qOpened x_qBase x_qPiled x_qAnswer x_qIsNew x_octets)), (wi_rm112_0_1700_0 rm cy g_qWait), (wi_rm110_0_1700_0 rm cy g_qCodes)] H := hP
  replace hD := k_D hP hD
  refine lv_aload_n hx hb dX10_qDrops_10 rfl (lv_at hl 0 rfl) ?_
  refine lv_aload_n hx hb dX10_qDrops_11 rfl (lv_at hl 0 rfl) ?_
  refine k_get C0 fg_X10_267 hP 0 rfl rfl dX10_qDrops_12 ?_
  refine lv_aload_n hx hb dX10_qDrops_15 rfl (lv_at hl 0 rfl) ?_
  refine k_get C0 fg_X10_372 hP 0 rfl rfl dX10_qDrops_16 ?_
  refine va_iald hx hb C0.2.2.2.2.2.1 hP 1 0 rfl rfl (ib_in 1700 h3 rfl) dX10_qDrops_19 ?_
  refine lv_topi (fun z4 ez4 => ?_)
  have Ez4 := lf_ld ez4 (lf_ra g_qWait) Ez1
  refine k_jvm hP hD hS hA [0, 2] [false, true] rfl rfl rfl 0 0 (Nat.le_of_ble_eq_true rfl) (Nat.le_of_ble_eq_true rfl) (fun hPc hDc => k_runV (As := [.int z4]) (rest := []) C0 hZ hS hA (s_X10_qCode l dC dI cy sq a_this rm x_taped x_at x_end x_ended x_bad x_badPlace x_fault x_faultPlace x_namePlace x_awayTold x_away x_coded x_statements x_isCrossing x_textKind x_askSecond x_redMany x_isOpen x_lastGreen x_greenTo x_isCycleGreen x_stillGreen x_rowMany x_fitMany x_fitRules x_fitGreen x_undoable x_newest x_seeded x_qCoded z1 x_qOpened x_qBase x_qPiled x_qAnswer x_qIsNew x_octets g_qCodes z4 (ib_w 0 1699 hx_qCoded rfl)) mV_X10_608 hPc hDc rfl rfl rfl hl rfl rfl (Nat.le_of_ble_eq_true rfl) ⟨(Nat.le_of_ble_eq_true rfl), (Nat.le_of_ble_eq_true rfl)⟩ ⟨(Nat.le_of_ble_eq_true rfl), (Nat.le_of_ble_eq_true rfl)⟩ dX10_qDrops_20) (fun u6 H locs hw hP hD hS => ?_)
  obtain ⟨v7, f8⟩ := u6
  try dsimp only at hP hD hw
  replace hP : va_P (dC, dI) vwCl [(wi_rm112_0_1700_0 rm cy g_qWait), (a_this, .inr (10, mfs rm x_taped x_at x_end x_ended x_bad x_badPlace x_fault x_faultPlace x_namePlace x_awayTold x_away x_coded x_statements x_isCrossing x_textKind x_askSecond x_redMany x_isOpen x_lastGreen x_greenTo x_isCycleGreen x_stillGreen x_rowMany x_fitMany x_fitRules x_fitGreen x_undoable x_newest x_seeded v7 z1 x_qOpened x_qBase x_qPiled x_qAnswer x_qIsNew x_octets)), (wi_rm110_0_1700_0 rm cy f8)] H := hP
  replace hD := k_D hP hD
  obtain ⟨h9, h10, h11, h12⟩ := hw
  have h13 : v7.toInt = (x_qCoded : Int32).toInt + (1 : Int32).toInt := by have q1 := h10; have q2 : (1 : Int32).toInt = 1 := rfl; omega
  have h12 := by have h9 := h12; rw [lf_u Ez4] at h9; exact h9
  replace hq := lf_p1 hq h12
  subst hQ; exact k_vret hx hb hr hlk ((v7, z1, f8)) hS ⟨ib_w 1 1700 h9 rfl, (by have := (hx_qCoded).1; have := (hx_qCoded).2; have := (h9).1; have := (h9).2; have := h13; have : (1 : Int32).toInt = 1 := rfl; omega), ib_w 0 1699 h3 rfl, (by have := (hx_qWaits).1; have := (hx_qWaits).2; have := (h3).1; have := (h3).2; have := h2.2; have : (1 : Int32).toInt = 1 := rfl; omega), (by rw [h11, ez4]), (hO.symm.trans (by rw [lf_u Ez1]; exact hq))⟩ (hP.sub [1, 0, 2] rfl) (hD.sub [1, 0, 2] rfl rfl) (Nat.le_of_ble_eq_true rfl) (Nat.le_of_ble_eq_true rfl) dX10_qDrops_23
set_option maxHeartbeats 4000000 in
set_option maxRecDepth 100000 in
theorem s_X10_qEndsPart (l : Launch) (dC : Nat → ClassId) (dI : Nat → Nat → Nat) (cy : Nat → ClassId) (sq : Nat → Nat) (a_this : Nat) (rm : Nat → Nat) (x_taped : Int32) (x_at : Int32) (x_end : Int32) (x_ended : Int32) (x_bad : Int32) (x_badPlace : Int32) (x_fault : Int32) (x_faultPlace : Int32) (x_namePlace : Int32) (x_awayTold : Int32) (x_away : Int32) (x_coded : Int32) (x_statements : Int32) (x_isCrossing : Int32) (x_textKind : Int32) (x_askSecond : Int32) (x_redMany : Int32) (x_isOpen : Int32) (x_lastGreen : Int32) (x_greenTo : Int32) (x_isCycleGreen : Int32) (x_stillGreen : Int32) (x_rowMany : Int32) (x_fitMany : Int32) (x_fitRules : Int32) (x_fitGreen : Int32) (x_undoable : Int32) (x_newest : Int32) (x_seeded : Int64) (x_qCoded : Int32) (x_qWaits : Int32) (x_qOpened : Int32) (x_qBase : Int32) (x_qPiled : Int32) (x_qAnswer : Int64) (x_qIsNew : Int32) (x_octets : Int32) (g_qCodes : Nat → Int32) (g_qWait : Nat → Int32) (cc : Nat) (hx_qCoded : ib x_qCoded 0 1700) (hx_qWaits : ib x_qWaits 0 1700) (hx_qBase : ib x_qBase 0 1700) (hL0 : 1 * x_qCoded.toInt + 1 * x_qWaits.toInt ≤ 1700) (hL1 : 1 * x_qBase.toInt + (-1) * x_qWaits.toInt ≤ 0) (hGS : x_bad = 0 → GS g_qCodes x_qCoded g_qWait x_qWaits x_qBase x_textKind (cc + 1)) : k_Met l yX10_qEndsPart cX10_qEndsPart 1 none { frames := 2, cells := 0, slots := 0, locals := 41 } dC dI cy sq [.ref a_this] [(a_this, .inr (10, mfs rm x_taped x_at x_end x_ended x_bad x_badPlace x_fault x_faultPlace x_namePlace x_awayTold x_away x_coded x_statements x_isCrossing x_textKind x_askSecond x_redMany x_isOpen x_lastGreen x_greenTo x_isCycleGreen x_stillGreen x_rowMany x_fitMany x_fitRules x_fitGreen x_undoable x_newest x_seeded x_qCoded x_qWaits x_qOpened x_qBase x_qPiled x_qAnswer x_qIsNew x_octets)), (wi_rm112_0_1700_0 rm cy g_qWait), (wi_rm110_0_1700_0 rm cy g_qCodes)] (k_Qv dC dI (fun (u : Int32 × Int32 × Int32 × (Nat → Int32)) => match u with | (n0, n1, n2, n3) => ib n0 0 1700 ∧ ib n1 0 1700 ∧ (1 * n0.toInt + 1 * n1.toInt + (-1) * x_qCoded.toInt + (-1) * x_qWaits.toInt ≤ 0) ∧ ((-1) * n0.toInt + (-1) * n1.toInt + 1 * x_qCoded.toInt + 1 * x_qWaits.toInt ≤ 0) ∧ (1 * n1.toInt + (-1) * x_qWaits.toInt ≤ 0) ∧ (1 * x_qBase.toInt + (-1) * n1.toInt ≤ 0) ∧ (x_bad = 0 → GS n3 n0 g_qWait n1 x_qBase x_textKind (cc + 1)) ∧ (F_X10_qEndsPart (Int32.toInt x_bad) (Int32.toInt x_qCoded) (Int32.toInt x_qWaits) (Int32.toInt x_qOpened) (Int32.toInt x_qBase) (lf_A g_qCodes) (lf_A g_qWait) = ((Int32.toInt n0), (Int32.toInt n1), (Int32.toInt n2), (lf_A n3)))) (fun u : Int32 × Int32 × Int32 × (Nat → Int32) => match u with | (n0, n1, n2, n3) => [(a_this, .inr (10, mfs rm x_taped x_at x_end x_ended x_bad x_badPlace x_fault x_faultPlace x_namePlace x_awayTold x_away x_coded x_statements x_isCrossing x_textKind x_askSecond x_redMany x_isOpen x_lastGreen x_greenTo x_isCycleGreen x_stillGreen x_rowMany x_fitMany x_fitRules x_fitGreen x_undoable x_newest x_seeded n0 n1 n2 x_qBase x_qPiled x_qAnswer x_qIsNew x_octets)), (wi_rm112_0_1700_0 rm cy g_qWait), (wi_rm110_0_1700_0 rm cy n3)])) := by
  refine k_ofW2 (by decide +kernel) (Nat.le_of_ble_eq_true rfl) ?_
  intro p e s m below meth c A ls H locs args Q hQ C0 hZ hr hlk hin hP hD hA hS hl
  have C0 : k_cx p s m args c cX10_qEndsPart 1 RX10 dC dI cy sq := C0
  have hx := C0.1
  have hb := C0.2.1
  have hl : lv_has ls 1 [(0, .ref a_this)] := hl
  obtain ⟨O, hO⟩ : ∃ o, o = F_X10_qEndsPart (Int32.toInt x_bad) (Int32.toInt x_qCoded) (Int32.toInt x_qWaits) (Int32.toInt x_qOpened) (Int32.toInt x_qBase) (lf_A g_qCodes) (lf_A g_qWait) := ⟨_, rfl⟩
  have hq := hO
  unfold F_X10_qEndsPart at hq
  have jn0 : ∀ (n : Nat) (J0_c0_111 : Int32) (J0_c0_113 : Int32) (J0_c0_114 : Int32) (J0_a2 : Nat → Int32) (H : Heap) (locs : List Loc) (ls : Array Slot), ib J0_c0_111 0 1700 → ib J0_c0_113 0 1700 → (1 * J0_c0_111.toInt + 1 * J0_c0_113.toInt ≤ 1700) → (1 * J0_c0_111.toInt + 1 * J0_c0_113.toInt + (-1) * x_qCoded.toInt + (-1) * x_qWaits.toInt ≤ 0) → ((-1) * J0_c0_111.toInt + (-1) * J0_c0_113.toInt + 1 * x_qCoded.toInt + 1 * x_qWaits.toInt ≤ 0) → (1 * J0_c0_113.toInt + (-1) * x_qWaits.toInt ≤ 0) → (1 * x_qBase.toInt + (-1) * J0_c0_113.toInt ≤ 0) → (x_bad = 0 → GS J0_a2 J0_c0_111 g_qWait J0_c0_113 x_qBase x_textKind (cc + 1)) → (O = F_X10_qEndsPart_0 (Int32.toInt x_bad) (Int32.toInt x_qBase) (lf_A g_qWait) n (Int32.toInt J0_c0_111) (Int32.toInt J0_c0_113) (Int32.toInt J0_c0_114) (lf_A J0_a2)) → 1701 ≤ J0_c0_111.toInt + (n : Int) → va_P (dC, dI) vwCl [(a_this, .inr (10, mfs rm x_taped x_at x_end x_ended x_bad x_badPlace x_fault x_faultPlace x_namePlace x_awayTold x_away x_coded x_statements x_isCrossing x_textKind x_askSecond x_redMany x_isOpen x_lastGreen x_greenTo x_isCycleGreen x_stillGreen x_rowMany x_fitMany x_fitRules x_fitGreen x_undoable x_newest x_seeded J0_c0_111 J0_c0_113 J0_c0_114 x_qBase x_qPiled x_qAnswer x_qIsNew x_octets)), (wi_rm112_0_1700_0 rm cy g_qWait), (wi_rm110_0_1700_0 rm cy J0_a2)] H → va_D A [(a_this, .inr (10, mfs rm x_taped x_at x_end x_ended x_bad x_badPlace x_fault x_faultPlace x_namePlace x_awayTold x_away x_coded x_statements x_isCrossing x_textKind x_askSecond x_redMany x_isOpen x_lastGreen x_greenTo x_isCycleGreen x_stillGreen x_rowMany x_fitMany x_fitRules x_fitGreen x_undoable x_newest x_seeded J0_c0_111 J0_c0_113 J0_c0_114 x_qBase x_qPiled x_qAnswer x_qIsNew x_octets)), (wi_rm112_0_1700_0 rm cy g_qWait), (wi_rm110_0_1700_0 rm cy J0_a2)] → va_S A s.heap H locs → lv_has ls 1 [(0, .ref a_this)] → W p l e { frames := 2, cells := 0, slots := 0, locals := 41 } s m args below meth c H locs 0 0 Q (F0 m 0 ls []) := by
    as_aux_lemma =>
      intro n
      induction n with
      | zero =>
        intro J0_c0_111 J0_c0_113 J0_c0_114 J0_a2 H locs ls hJ0_c0_111 hJ0_c0_113 hJ0_lin0 hJ0_lin1 hJ0_lin2 hJ0_lin3 hJ0_lin4 hJ0_go hq hm
        exact absurd hm (by have := hJ0_c0_111; unfold ib at this; omega)
      | succ n ih =>
        intro J0_c0_111 J0_c0_113 J0_c0_114 J0_a2 H locs ls hJ0_c0_111 hJ0_c0_113 hJ0_lin0 hJ0_lin1 hJ0_lin2 hJ0_lin3 hJ0_lin4 hJ0_go hq hm0 hP hD hS hl
        have ih0 := ih
        obtain ⟨K0, hK0⟩ : ∃ K, K = F_X10_qEndsPart_0 (Int32.toInt x_bad) (Int32.toInt x_qBase) (lf_A g_qWait) n := ⟨_, rfl⟩
        have hq : O = F_X10_qEndsPart_0b (Int32.toInt x_bad) (Int32.toInt x_qBase) (lf_A g_qWait) K0 (Int32.toInt J0_c0_111) (Int32.toInt J0_c0_113) (Int32.toInt J0_c0_114) (lf_A J0_a2) := by rw [hK0]; exact hq
        unfold F_X10_qEndsPart_0b at hq
        refine lv_aload_n hx hb dX10_qEndsPart_0 rfl (lv_at hl 0 rfl) ?_
        refine k_get C0 fg_X10_279 hP 0 rfl rfl dX10_qEndsPart_1 ?_
        refine lv_if_ne (tgt := 51) hx hb dX10_qEndsPart_4 rfl (fun c1 => ?_) (fun c1 => ?_)
        · replace hq := lf_neg hq (lf_ne (lf_rf x_bad) (lf_lc 0 (0 : Int) rfl) c1)
          subst hQ; exact k_vret hx hb hr hlk ((J0_c0_111, J0_c0_113, J0_c0_114, J0_a2)) hS ⟨ib_w 0 1700 hJ0_c0_111 rfl, ib_w 0 1700 hJ0_c0_113 rfl, (by have := hJ0_lin1; omega), (by have := hJ0_lin2; omega), (by have := hJ0_lin3; omega), (by have := hJ0_lin4; omega), fun q => absurd q c1, (hO.symm.trans (by exact hq))⟩ hP hD (Nat.le_of_ble_eq_true rfl) (Nat.le_of_ble_eq_true rfl) dX10_qEndsPart_51
        · as_aux_lemma =>
            replace hq := lf_pos hq (lf_eq (lf_rf x_bad) (lf_lc 0 (0 : Int) rfl) c1)
            have h2 := ib_eq (ib_any x_bad) (ib_c 0 0 0 rfl) c1
            have h3 : ib x_bad 0 0 := ib_w 0 0 h2.1 rfl
            refine lv_aload_n hx hb dX10_qEndsPart_7 rfl (lv_at hl 0 rfl) ?_
            refine k_get C0 fg_X10_372 hP 0 rfl rfl dX10_qEndsPart_8 ?_
            refine lv_aload_n hx hb dX10_qEndsPart_11 rfl (lv_at hl 0 rfl) ?_
            refine k_get C0 fg_X10_378 hP 0 rfl rfl dX10_qEndsPart_12 ?_
            refine lv_icmp_le (tgt := 51) hx hb dX10_qEndsPart_15 rfl (fun c4 => ?_) (fun c4 => ?_)
            · replace hq := lf_pos hq (lf_le (lf_rf J0_c0_113) (lf_rf x_qBase) c4)
              have h5 := ib_le hJ0_c0_113 hx_qBase c4
              subst hQ; exact k_vret hx hb hr hlk ((J0_c0_111, J0_c0_113, J0_c0_114, J0_a2)) hS ⟨ib_w 0 1700 hJ0_c0_111 rfl, ib_w 0 1700 hJ0_c0_113 rfl, (by have := hJ0_lin1; omega), (by have := hJ0_lin2; omega), (by have := hJ0_lin3; omega), (by have := hJ0_lin4; omega), fun q => (hJ0_go q), (hO.symm.trans (by exact hq))⟩ hP hD (Nat.le_of_ble_eq_true rfl) (Nat.le_of_ble_eq_true rfl) dX10_qEndsPart_51
            · as_aux_lemma =>
                replace hq := lf_neg hq (lf_nle (lf_rf J0_c0_113) (lf_rf x_qBase) c4)
                have h6 := ib_nle hJ0_c0_113 hx_qBase c4
                have h7 : ib J0_c0_113 1 1700 := ib_w 1 1700 h6.1 rfl
                have h8 : ib x_qBase 0 1699 := ib_w 0 1699 h6.2 rfl
                have h9 : ib J0_c0_111 0 1699 := ⟨(hJ0_c0_111).1, by have := (hJ0_c0_111).2; have := hJ0_lin0; have := (h7).1; omega⟩
                have h10 : ib x_qWaits 1 1700 := ⟨by have := (hx_qWaits).1; have := hJ0_lin3; have := (h7).1; omega, (hx_qWaits).2⟩
                have h11 : ib x_qCoded 0 1699 := ⟨(hx_qCoded).1, by have := (hx_qCoded).2; have := hL0; have := (h10).1; omega⟩
                refine lv_aload_n hx hb dX10_qEndsPart_18 rfl (lv_at hl 0 rfl) ?_
                refine k_get C0 fg_X10_267 hP 0 rfl rfl dX10_qEndsPart_19 ?_
                refine lv_aload_n hx hb dX10_qEndsPart_22 rfl (lv_at hl 0 rfl) ?_
                refine k_get C0 fg_X10_372 hP 0 rfl rfl dX10_qEndsPart_23 ?_
                refine lv_iconst (v := 1) hx hb dX10_qEndsPart_26 rfl ?_
                refine lv_isub hx hb dX10_qEndsPart_27 ?_
                refine lv_topi (fun z12 ez12 => ?_)
                have h13 := ib_sub h7 (ib_c 1 1 1 rfl) rfl
                rw [← ez12] at h13
                have h14 : ib z12 0 1699 := ib_w 0 1699 h13.1 rfl
                have Ez12 := lf_sub h13.2 (lf_rf J0_c0_113) (lf_lc 1 (1 : Int) rfl)
                refine va_iald hx hb C0.2.2.2.2.2.1 hP 1 0 rfl rfl (ib_in 1700 h14 rfl) dX10_qEndsPart_28 ?_
                refine lv_topi (fun z15 ez15 => ?_)
                have Ez15 := lf_ld ez15 (lf_ra g_qWait) Ez12
                refine lv_bipush (v := 60) hx hb dX10_qEndsPart_29 rfl ?_
                refine lv_icmp_lt (tgt := 51) hx hb dX10_qEndsPart_31 rfl (fun c16 => ?_) (fun c16 => ?_)
                · replace hq := lf_pos hq (lf_lt Ez15 (lf_lc 60 (60 : Int) rfl) c16)
                  have h17 := ib_lt (ib_any z15) (ib_c 60 60 60 rfl) c16
                  have h18 : ib z15 (-2147483648) 59 := ib_w (-2147483648) 59 h17.1 rfl
                  subst hQ; exact k_vret hx hb hr hlk ((J0_c0_111, J0_c0_113, J0_c0_114, J0_a2)) hS ⟨ib_w 0 1700 h9 rfl, ib_w 0 1700 h7 rfl, (by have := hJ0_lin1; omega), (by have := hJ0_lin2; omega), (by have := hJ0_lin3; omega), (by have := mt Int32.le_iff_toInt_le.mpr c4; omega), fun q => (hJ0_go q), (hO.symm.trans (by exact hq))⟩ hP hD (Nat.le_of_ble_eq_true rfl) (Nat.le_of_ble_eq_true rfl) dX10_qEndsPart_51
                · as_aux_lemma =>
                    replace hq := lf_neg hq (lf_nlt Ez15 (lf_lc 60 (60 : Int) rfl) c16)
                    have h19 := ib_nlt (ib_any z15) (ib_c 60 60 60 rfl) c16
                    have h20 : ib z15 60 2147483647 := ib_w 60 2147483647 h19.1 rfl
                    refine lv_aload_n hx hb dX10_qEndsPart_34 rfl (lv_at hl 0 rfl) ?_
                    refine lv_dup hx hb dX10_qEndsPart_35 rfl ?_
                    refine k_get C0 fg_X10_375 hP 0 rfl rfl dX10_qEndsPart_36 ?_
                    refine lv_iconst (v := 1) hx hb dX10_qEndsPart_39 rfl ?_
                    refine lv_isub hx hb dX10_qEndsPart_40 ?_
                    refine lv_topi (fun z21 ez21 => ?_)
                    have Ez21 := lf_op lf_isub ez21 (lf_rf J0_c0_114) (lf_lc 1 (1 : Int) rfl)
                    refine k_put C0 fp_X10_375 hP hD hS 0 rfl rfl rfl (Nat.le_of_ble_eq_true rfl) dX10_qEndsPart_41 (fun H locs hP hD hS => ?_)
                    replace hP : va_P (dC, dI) vwCl [(a_this, .inr (10, mfs rm x_taped x_at x_end x_ended x_bad x_badPlace x_fault x_faultPlace x_namePlace x_awayTold x_away x_coded x_statements x_isCrossing x_textKind x_askSecond x_redMany x_isOpen x_lastGreen x_greenTo x_isCycleGreen x_stillGreen x_rowMany x_fitMany x_fitRules x_fitGreen x_undoable x_newest x_seeded J0_c0_111 J0_c0_113 z21 x_qBase x_qPiled x_qAnswer x_qIsNew x_octets)), (wi_rm112_0_1700_0 rm cy g_qWait), (wi_rm110_0_1700_0 rm cy J0_a2)] H := hP
                    replace hD := k_D hP hD
                    refine lv_aload_n hx hb dX10_qEndsPart_44 rfl (lv_at hl 0 rfl) ?_
                    refine k_jvm hP hD hS hA [0, 1, 2] [] rfl rfl rfl 0 0 (Nat.le_of_ble_eq_true rfl) (Nat.le_of_ble_eq_true rfl) (fun hPc hDc => k_runV (As := []) (rest := []) C0 hZ hS hA (s_X10_qDrops l dC dI cy sq a_this rm x_taped x_at x_end x_ended x_bad x_badPlace x_fault x_faultPlace x_namePlace x_awayTold x_away x_coded x_statements x_isCrossing x_textKind x_askSecond x_redMany x_isOpen x_lastGreen x_greenTo x_isCycleGreen x_stillGreen x_rowMany x_fitMany x_fitRules x_fitGreen x_undoable x_newest x_seeded J0_c0_111 J0_c0_113 z21 x_qBase x_qPiled x_qAnswer x_qIsNew x_octets J0_a2 g_qWait (ib_w 0 1699 h9 rfl) (ib_w 1 1700 h7 rfl)) mV_X10_614 hPc hDc rfl rfl rfl hl rfl rfl (Nat.le_of_ble_eq_true rfl) ⟨(Nat.le_of_ble_eq_true rfl), (Nat.le_of_ble_eq_true rfl)⟩ ⟨(Nat.le_of_ble_eq_true rfl), (Nat.le_of_ble_eq_true rfl)⟩ dX10_qEndsPart_45) (fun u23 H locs hw hP hD hS => ?_)
                    obtain ⟨v24, v25, f26⟩ := u23
                    try dsimp only at hP hD hw
                    replace hP : va_P (dC, dI) vwCl [(a_this, .inr (10, mfs rm x_taped x_at x_end x_ended x_bad x_badPlace x_fault x_faultPlace x_namePlace x_awayTold x_away x_coded x_statements x_isCrossing x_textKind x_askSecond x_redMany x_isOpen x_lastGreen x_greenTo x_isCycleGreen x_stillGreen x_rowMany x_fitMany x_fitRules x_fitGreen x_undoable x_newest x_seeded v24 v25 z21 x_qBase x_qPiled x_qAnswer x_qIsNew x_octets)), (wi_rm112_0_1700_0 rm cy g_qWait), (wi_rm110_0_1700_0 rm cy f26)] H := hP
                    replace hD := k_D hP hD
                    obtain ⟨h27, h28, h29, h30, h31, h32⟩ := hw
                    have h33 : v24.toInt = (J0_c0_111 : Int32).toInt + (1 : Int32).toInt := by have q1 := h28; have q2 : (1 : Int32).toInt = 1 := rfl; omega
                    have h34 : v25.toInt = (J0_c0_113 : Int32).toInt + ((-1) : Int32).toInt := by have q1 := h30; have q2 : ((-1) : Int32).toInt = (-1) := rfl; omega
                    replace hq := lf_p1 hq h32
                    replace hq := lf_p1 hq rfl
                    have h35 : x_bad = 0 → GS f26 v24 g_qWait v25 x_qBase x_textKind (cc + 1) := fun _ => (by rw [h31]; exact GS_dropS (hJ0_go (ib_one h3 rfl)) (by have := h33; have : (1 : Int32).toInt = 1 := rfl; omega) (by have := h34; have : ((-1) : Int32).toInt = (-1) := rfl; omega) (by have := h34; have : ((-1) : Int32).toInt = (-1) := rfl; have := mt Int32.le_iff_toInt_le.mpr c4; omega) rfl (by rw [show v25 = z12 from cn (by have := h13.2; have : (1 : Int32).toInt = 1 := rfl; have := h34; have : ((-1) : Int32).toInt = (-1) := rfl; omega), ← ez15]; exact fun q => absurd q.2 (by have := (h20).1; omega)))
                    refine lv_goto (tgt := 0) hx hb dX10_qEndsPart_48 rfl ?_
                    exact ih0 v24 v25 z21 f26 H locs ls (ib_w 0 1700 h27 rfl) (ib_w 0 1700 h29 rfl) (by have := (h29).2; have := h34; have : ((-1) : Int32).toInt = (-1) := rfl; have := hJ0_lin0; have := (h27).2; have := h33; have : (1 : Int32).toInt = 1 := rfl; omega) (by have := hJ0_lin1; have := h34; have : ((-1) : Int32).toInt = (-1) := rfl; have := h33; have : (1 : Int32).toInt = 1 := rfl; omega) (by have := hJ0_lin2; have := h34; have : ((-1) : Int32).toInt = (-1) := rfl; have := h33; have : (1 : Int32).toInt = 1 := rfl; omega) (by have := hJ0_lin3; have := h34; have : ((-1) : Int32).toInt = (-1) := rfl; omega) (by have := h34; have : ((-1) : Int32).toInt = (-1) := rfl; have := mt Int32.le_iff_toInt_le.mpr c4; omega) (fun q => (h35 q)) (by rw [← hK0]; rw [lf_u Ez21]; exact hq) (by have := h33; have : (1 : Int32).toInt = 1 := rfl; omega) hP hD hS (lv_sub hl [0] rfl)
  exact jn0 1702 x_qCoded x_qWaits x_qOpened g_qCodes H locs ls (ib_w 0 1700 hx_qCoded rfl) (ib_w 0 1700 hx_qWaits rfl) (by have := hL0; omega) (by omega) (by omega) (by omega) (by have := hL1; omega) (fun q => (hGS q)) (by exact hq) (by have := hx_qCoded; unfold ib at this; omega) hP hD hS (lv_sub hl [0] rfl)
set_option maxHeartbeats 4000000 in
set_option maxRecDepth 100000 in
theorem s_X10_takes_r6 (l : Launch) (dC : Nat → ClassId) (dI : Nat → Nat → Nat) (cy : Nat → ClassId) (sq : Nat → Nat) (a_this : Nat) (rm : Nat → Nat) (x_taped : Int32) (x_at : Int32) (x_end : Int32) (x_ended : Int32) (x_bad : Int32) (x_badPlace : Int32) (x_fault : Int32) (x_faultPlace : Int32) (x_namePlace : Int32) (x_awayTold : Int32) (x_away : Int32) (x_coded : Int32) (x_statements : Int32) (x_isCrossing : Int32) (x_textKind : Int32) (x_askSecond : Int32) (x_redMany : Int32) (x_isOpen : Int32) (x_lastGreen : Int32) (x_greenTo : Int32) (x_isCycleGreen : Int32) (x_stillGreen : Int32) (x_rowMany : Int32) (x_fitMany : Int32) (x_fitRules : Int32) (x_fitGreen : Int32) (x_undoable : Int32) (x_newest : Int32) (x_seeded : Int64) (x_qCoded : Int32) (x_qWaits : Int32) (x_qOpened : Int32) (x_qBase : Int32) (x_qPiled : Int32) (x_qAnswer : Int64) (x_qIsNew : Int32) (x_octets : Int32) (g_tape : Nat → Int32) (a_arg0 : Nat) (g_arg0 : Nat → Int32) (hx_at : ib x_at 0 1600) (hx_end : ib x_end 0 1600) (hg_tape : ia g_tape 1600 0 255) : k_Met l yX10_takes cX10_takes 2 (some .boolean) { frames := 2, cells := 0, slots := 0, locals := 43 } dC dI cy sq [.ref a_this, .ref a_arg0] [(a_this, .inr (10, mfs rm x_taped x_at x_end x_ended x_bad x_badPlace x_fault x_faultPlace x_namePlace x_awayTold x_away x_coded x_statements x_isCrossing x_textKind x_askSecond x_redMany x_isOpen x_lastGreen x_greenTo x_isCycleGreen x_stillGreen x_rowMany x_fitMany x_fitRules x_fitGreen x_undoable x_newest x_seeded x_qCoded x_qWaits x_qOpened x_qBase x_qPiled x_qAnswer x_qIsNew x_octets)), (wi_rm0_0_1600_0 rm cy g_tape), (wi_2_6_0 a_arg0 cy g_arg0)] (k_Qi dC dI (fun (r : Int32) (u : Int32 × Int32) => match u with | (n0, n1) => ib n0 0 1600 ∧ ib r 0 1 ∧ (¬ r = 0 → ib n0 6 1600) ∧ (¬ r = 0 → ib n1 6 1600) ∧ (¬ r = 0 → ib x_at 0 1594) ∧ (¬ r = 0 → ib x_end 1 1600) ∧ (¬ r = 0 → ib x_bad 0 0) ∧ (1 * x_at.toInt + (-1) * n0.toInt ≤ 0) ∧ (¬ r = 0 → 1 * x_at.toInt + (-1) * n0.toInt ≤ (-6)) ∧ (F_X10_takes_r6 (Int32.toInt x_at) (Int32.toInt x_end) (Int32.toInt x_ended) (Int32.toInt x_bad) (lf_A g_tape) (lf_A g_arg0) = ((Int32.toInt r), (Int32.toInt n0), (Int32.toInt n1)))) (fun u : Int32 × Int32 => match u with | (n0, n1) => [(a_this, .inr (10, mfs rm x_taped n0 x_end n1 x_bad x_badPlace x_fault x_faultPlace x_namePlace x_awayTold x_away x_coded x_statements x_isCrossing x_textKind x_askSecond x_redMany x_isOpen x_lastGreen x_greenTo x_isCycleGreen x_stillGreen x_rowMany x_fitMany x_fitRules x_fitGreen x_undoable x_newest x_seeded x_qCoded x_qWaits x_qOpened x_qBase x_qPiled x_qAnswer x_qIsNew x_octets)), (wi_rm0_0_1600_0 rm cy g_tape), (wi_2_6_0 a_arg0 cy g_arg0)])) := by
  refine k_ofW2 (by decide +kernel) (Nat.le_of_ble_eq_true rfl) ?_
  intro p e s m below meth c A ls H locs args Q hQ C0 hZ hr hlk hin hP hD hA hS hl
  have C0 : k_cx p s m args c cX10_takes 2 RX10 dC dI cy sq := C0
  have hx := C0.1
  have hb := C0.2.1
  have hl : lv_has ls 2 [(0, .ref a_this), (1, .ref a_arg0)] := hl
  obtain ⟨O, hO⟩ : ∃ o, o = F_X10_takes_r6 (Int32.toInt x_at) (Int32.toInt x_end) (Int32.toInt x_ended) (Int32.toInt x_bad) (lf_A g_tape) (lf_A g_arg0) := ⟨_, rfl⟩
  have hq := hO
  unfold F_X10_takes_r6 at hq
  refine lv_aload_n hx hb dX10_takes_0 rfl (lv_at hl 0 rfl) ?_
  refine lv_aload_n hx hb dX10_takes_1 rfl (lv_at hl 1 rfl) ?_
  refine k_jim hP hD hS hA [0, 1, 2] [] rfl rfl rfl 0 0 (Nat.le_of_ble_eq_true rfl) (Nat.le_of_ble_eq_true rfl) (fun hPc hDc => k_runV (As := [.ref a_arg0]) (rest := []) C0 hZ hS hA (s_X10_isHere_r6 l dC dI cy sq a_this rm x_taped x_at x_end x_ended x_bad x_badPlace x_fault x_faultPlace x_namePlace x_awayTold x_away x_coded x_statements x_isCrossing x_textKind x_askSecond x_redMany x_isOpen x_lastGreen x_greenTo x_isCycleGreen x_stillGreen x_rowMany x_fitMany x_fitRules x_fitGreen x_undoable x_newest x_seeded x_qCoded x_qWaits x_qOpened x_qBase x_qPiled x_qAnswer x_qIsNew x_octets g_tape a_arg0 g_arg0 (ib_w 0 1600 hx_at rfl) (ib_w 0 1600 hx_end rfl) hg_tape) mV_X10_302 hPc hDc rfl rfl rfl hl rfl rfl (Nat.le_of_ble_eq_true rfl) ⟨(Nat.le_of_ble_eq_true rfl), (Nat.le_of_ble_eq_true rfl)⟩ ⟨(Nat.le_of_ble_eq_true rfl), (Nat.le_of_ble_eq_true rfl)⟩ dX10_takes_2) (fun r1 u2 H locs hw hP hD hS => ?_)
  obtain ⟨v3, ev3⟩ : ∃ z, z = u2 := ⟨_, rfl⟩; subst ev3
  try dsimp only at hP hD hw
  replace hP : va_P (dC, dI) vwCl [(a_this, .inr (10, mfs rm x_taped v3 x_end x_ended x_bad x_badPlace x_fault x_faultPlace x_namePlace x_awayTold x_away x_coded x_statements x_isCrossing x_textKind x_askSecond x_redMany x_isOpen x_lastGreen x_greenTo x_isCycleGreen x_stillGreen x_rowMany x_fitMany x_fitRules x_fitGreen x_undoable x_newest x_seeded x_qCoded x_qWaits x_qOpened x_qBase x_qPiled x_qAnswer x_qIsNew x_octets)), (wi_rm0_0_1600_0 rm cy g_tape), (wi_2_6_0 a_arg0 cy g_arg0)] H := hP
  replace hD := k_D hP hD
  obtain ⟨h4, h5, h6, h7, h8, h9, h10, h11, h12⟩ := hw
  replace hq := lf_p1 hq h12
  refine lv_if_ne (tgt := 10) hx hb dX10_takes_5 rfl (fun c13 => ?_) (fun c13 => ?_)
  · replace hq := lf_neg hq (lf_ne (lf_rf r1) (lf_lc 0 (0 : Int) rfl) c13)
    have h14 : ib r1 1 1 := ib_w 1 1 (ib_ne_lo 0 h5 rfl c13) rfl
    have h15 : ib v3 0 1594 := ib_w 0 1594 (ib_two h4 (h6 (ib_nz h14 rfl))) rfl
    have h16 : ib x_at 0 1594 := ib_w 0 1594 (ib_two hx_at (h7 (ib_nz h14 rfl))) rfl
    have h17 : ib x_end 1 1600 := ib_w 1 1600 (ib_two hx_end (h8 (ib_nz h14 rfl))) rfl
    have h18 : ib x_bad 0 0 := ib_w 0 0 (ib_two (ib_any x_bad) (h9 (ib_nz h14 rfl))) rfl
    refine lv_aload_n hx hb dX10_takes_10 rfl (lv_at hl 0 rfl) ?_
    refine lv_dup hx hb dX10_takes_11 rfl ?_
    refine k_get C0 fg_X10_285 hP 0 rfl rfl dX10_takes_12 ?_
    refine lv_aload_n hx hb dX10_takes_15 rfl (lv_at hl 1 rfl) ?_
    refine va_alen hx hb C0.2.2.2.2.2.1 hP 2 2 rfl rfl (v := 6) (show Int32.ofNat 6 = 6 by decide) dX10_takes_16 ?_
    refine lv_iadd hx hb dX10_takes_17 ?_
    refine lv_topi (fun z19 ez19 => ?_)
    have h20 := ib_add h15 (ib_c 6 6 6 rfl) rfl
    rw [← ez19] at h20
    have h21 : ib z19 6 1600 := ib_w 6 1600 h20.1 rfl
    have Ez19 := lf_add h20.2 (lf_rf v3) (lf_lc 6 (6 : Int) rfl)
    refine k_put C0 fp_X10_285 hP hD hS 0 rfl rfl rfl (Nat.le_of_ble_eq_true rfl) dX10_takes_18 (fun H locs hP hD hS => ?_)
    replace hP : va_P (dC, dI) vwCl [(a_this, .inr (10, mfs rm x_taped z19 x_end x_ended x_bad x_badPlace x_fault x_faultPlace x_namePlace x_awayTold x_away x_coded x_statements x_isCrossing x_textKind x_askSecond x_redMany x_isOpen x_lastGreen x_greenTo x_isCycleGreen x_stillGreen x_rowMany x_fitMany x_fitRules x_fitGreen x_undoable x_newest x_seeded x_qCoded x_qWaits x_qOpened x_qBase x_qPiled x_qAnswer x_qIsNew x_octets)), (wi_rm0_0_1600_0 rm cy g_tape), (wi_2_6_0 a_arg0 cy g_arg0)] H := hP
    replace hD := k_D hP hD
    refine lv_aload_n hx hb dX10_takes_21 rfl (lv_at hl 0 rfl) ?_
    refine lv_aload_n hx hb dX10_takes_22 rfl (lv_at hl 0 rfl) ?_
    refine k_get C0 fg_X10_285 hP 0 rfl rfl dX10_takes_23 ?_
    refine k_put C0 fp_X10_299 hP hD hS 0 rfl rfl rfl (Nat.le_of_ble_eq_true rfl) dX10_takes_26 (fun H locs hP hD hS => ?_)
    replace hP : va_P (dC, dI) vwCl [(a_this, .inr (10, mfs rm x_taped z19 x_end z19 x_bad x_badPlace x_fault x_faultPlace x_namePlace x_awayTold x_away x_coded x_statements x_isCrossing x_textKind x_askSecond x_redMany x_isOpen x_lastGreen x_greenTo x_isCycleGreen x_stillGreen x_rowMany x_fitMany x_fitRules x_fitGreen x_undoable x_newest x_seeded x_qCoded x_qWaits x_qOpened x_qBase x_qPiled x_qAnswer x_qIsNew x_octets)), (wi_rm0_0_1600_0 rm cy g_tape), (wi_2_6_0 a_arg0 cy g_arg0)] H := hP
    replace hD := k_D hP hD
    refine lv_iconst (v := 1) hx hb dX10_takes_29 rfl ?_
    subst hQ; exact k_iret hx hb hr hlk (k_nb 1 rfl) ((z19, z19)) hS ⟨ib_w 0 1600 h21 rfl, ib_w 0 1 (ib_c 1 1 1 rfl) rfl, fun _ => ib_w 6 1600 h21 rfl, fun _ => ib_w 6 1600 h21 rfl, fun _ => ib_w 0 1594 h16 rfl, fun _ => ib_w 1 1600 h17 rfl, fun _ => ib_w 0 0 h18 rfl, (by have := h20.2; have : (6 : Int32).toInt = 6 := rfl; have := h10; omega), fun _ => (by have := h20.2; have : (6 : Int32).toInt = 6 := rfl; have := h10; omega), (hO.symm.trans (by try simp only [show (1 : Int32).toInt = (1 : Int) from rfl]; rw [lf_u Ez19]; exact hq))⟩ hP hD (Nat.le_of_ble_eq_true rfl) (Nat.le_of_ble_eq_true rfl) dX10_takes_30
  · replace hq := lf_pos hq (lf_eq (lf_rf r1) (lf_lc 0 (0 : Int) rfl) c13)
    have h22 := ib_eq h5 (ib_c 0 0 0 rfl) c13
    have h23 : ib r1 0 0 := ib_w 0 0 h22.1 rfl
    refine lv_iconst (v := 0) hx hb dX10_takes_8 rfl ?_
    subst hQ; exact k_iret hx hb hr hlk (k_nb 0 rfl) ((v3, x_ended)) hS ⟨ib_w 0 1600 h4 rfl, ib_w 0 1 (ib_c 0 0 0 rfl) rfl, fun hq9 => absurd rfl hq9, fun hq9 => absurd rfl hq9, fun hq9 => absurd rfl hq9, fun hq9 => absurd rfl hq9, fun hq9 => absurd rfl hq9, (by have := h10; omega), fun hq9 => absurd rfl hq9, (hO.symm.trans (by try simp only [show (0 : Int32).toInt = (0 : Int) from rfl]; exact hq))⟩ hP hD (Nat.le_of_ble_eq_true rfl) (Nat.le_of_ble_eq_true rfl) dX10_takes_9
set_option maxHeartbeats 4000000 in
set_option maxRecDepth 100000 in
theorem s_X10_asks_r6 (l : Launch) (dC : Nat → ClassId) (dI : Nat → Nat → Nat) (cy : Nat → ClassId) (sq : Nat → Nat) (a_this : Nat) (rm : Nat → Nat) (x_taped : Int32) (x_at : Int32) (x_end : Int32) (x_ended : Int32) (x_bad : Int32) (x_badPlace : Int32) (x_fault : Int32) (x_faultPlace : Int32) (x_namePlace : Int32) (x_awayTold : Int32) (x_away : Int32) (x_coded : Int32) (x_statements : Int32) (x_isCrossing : Int32) (x_textKind : Int32) (x_askSecond : Int32) (x_redMany : Int32) (x_isOpen : Int32) (x_lastGreen : Int32) (x_greenTo : Int32) (x_isCycleGreen : Int32) (x_stillGreen : Int32) (x_rowMany : Int32) (x_fitMany : Int32) (x_fitRules : Int32) (x_fitGreen : Int32) (x_undoable : Int32) (x_newest : Int32) (x_seeded : Int64) (x_qCoded : Int32) (x_qWaits : Int32) (x_qOpened : Int32) (x_qBase : Int32) (x_qPiled : Int32) (x_qAnswer : Int64) (x_qIsNew : Int32) (x_octets : Int32) (g_tape : Nat → Int32) (a_arg0 : Nat) (g_arg0 : Nat → Int32) (hx_at : ib x_at 0 1600) (hx_end : ib x_end 0 1600) (hg_tape : ia g_tape 1600 0 255) : k_Met l yX10_asks cX10_asks 2 none { frames := 3, cells := 0, slots := 0, locals := 64 } dC dI cy sq [.ref a_this, .ref a_arg0] [(a_this, .inr (10, mfs rm x_taped x_at x_end x_ended x_bad x_badPlace x_fault x_faultPlace x_namePlace x_awayTold x_away x_coded x_statements x_isCrossing x_textKind x_askSecond x_redMany x_isOpen x_lastGreen x_greenTo x_isCycleGreen x_stillGreen x_rowMany x_fitMany x_fitRules x_fitGreen x_undoable x_newest x_seeded x_qCoded x_qWaits x_qOpened x_qBase x_qPiled x_qAnswer x_qIsNew x_octets)), (wi_rm0_0_1600_0 rm cy g_tape), (wi_2_6_0 a_arg0 cy g_arg0)] (k_Qv dC dI (fun (u : Int32 × Int32 × Int32 × Int32) => match u with | (n0, n1, n2, n3) => ib n0 0 1600 ∧ (n2 = 0 → x_bad = 0) ∧ (1 * x_at.toInt + (-1) * n0.toInt ≤ 0) ∧ (n2 = 0 → 1 * x_at.toInt + (-1) * n0.toInt ≤ (-6)) ∧ (F_X10_asks_r6 (Int32.toInt x_at) (Int32.toInt x_end) (Int32.toInt x_ended) (Int32.toInt x_bad) (Int32.toInt x_badPlace) (lf_A g_tape) (lf_A g_arg0) = ((Int32.toInt n0), (Int32.toInt n1), (Int32.toInt n2), (Int32.toInt n3)))) (fun u : Int32 × Int32 × Int32 × Int32 => match u with | (n0, n1, n2, n3) => [(a_this, .inr (10, mfs rm x_taped n0 x_end n1 n2 n3 x_fault x_faultPlace x_namePlace x_awayTold x_away x_coded x_statements x_isCrossing x_textKind x_askSecond x_redMany x_isOpen x_lastGreen x_greenTo x_isCycleGreen x_stillGreen x_rowMany x_fitMany x_fitRules x_fitGreen x_undoable x_newest x_seeded x_qCoded x_qWaits x_qOpened x_qBase x_qPiled x_qAnswer x_qIsNew x_octets)), (wi_rm0_0_1600_0 rm cy g_tape), (wi_2_6_0 a_arg0 cy g_arg0)])) := by
  refine k_ofW2 (by decide +kernel) (Nat.le_of_ble_eq_true rfl) ?_
  intro p e s m below meth c A ls H locs args Q hQ C0 hZ hr hlk hin hP hD hA hS hl
  have C0 : k_cx p s m args c cX10_asks 2 RX10 dC dI cy sq := C0
  have hx := C0.1
  have hb := C0.2.1
  have hl : lv_has ls 2 [(0, .ref a_this), (1, .ref a_arg0)] := hl
  obtain ⟨O, hO⟩ : ∃ o, o = F_X10_asks_r6 (Int32.toInt x_at) (Int32.toInt x_end) (Int32.toInt x_ended) (Int32.toInt x_bad) (Int32.toInt x_badPlace) (lf_A g_tape) (lf_A g_arg0) := ⟨_, rfl⟩
  have hq := hO
  unfold F_X10_asks_r6 at hq
  refine lv_aload_n hx hb dX10_asks_0 rfl (lv_at hl 0 rfl) ?_
  refine k_get C0 fg_X10_279 hP 0 rfl rfl dX10_asks_1 ?_
  refine lv_if_ne (tgt := 24) hx hb dX10_asks_4 rfl (fun c1 => ?_) (fun c1 => ?_)
  · replace hq := lf_neg hq (lf_ne (lf_rf x_bad) (lf_lc 0 (0 : Int) rfl) c1)
    subst hQ; exact k_vret hx hb hr hlk ((x_at, x_ended, x_bad, x_badPlace)) hS ⟨ib_w 0 1600 hx_at rfl, fun q => q, (by omega), fun q => absurd q c1, (hO.symm.trans (by exact hq))⟩ hP hD (Nat.le_of_ble_eq_true rfl) (Nat.le_of_ble_eq_true rfl) dX10_asks_24
  · replace hq := lf_pos hq (lf_eq (lf_rf x_bad) (lf_lc 0 (0 : Int) rfl) c1)
    have h2 := ib_eq (ib_any x_bad) (ib_c 0 0 0 rfl) c1
    have h3 : ib x_bad 0 0 := ib_w 0 0 h2.1 rfl
    refine lv_aload_n hx hb dX10_asks_7 rfl (lv_at hl 0 rfl) ?_
    refine lv_aload_n hx hb dX10_asks_8 rfl (lv_at hl 1 rfl) ?_
    refine k_jim hP hD hS hA [0, 1, 2] [] rfl rfl rfl 0 0 (Nat.le_of_ble_eq_true rfl) (Nat.le_of_ble_eq_true rfl) (fun hPc hDc => k_runV (As := [.ref a_arg0]) (rest := []) C0 hZ hS hA (s_X10_takes_r6 l dC dI cy sq a_this rm x_taped x_at x_end x_ended x_bad x_badPlace x_fault x_faultPlace x_namePlace x_awayTold x_away x_coded x_statements x_isCrossing x_textKind x_askSecond x_redMany x_isOpen x_lastGreen x_greenTo x_isCycleGreen x_stillGreen x_rowMany x_fitMany x_fitRules x_fitGreen x_undoable x_newest x_seeded x_qCoded x_qWaits x_qOpened x_qBase x_qPiled x_qAnswer x_qIsNew x_octets g_tape a_arg0 g_arg0 (ib_w 0 1600 hx_at rfl) (ib_w 0 1600 hx_end rfl) hg_tape) mV_X10_305 hPc hDc rfl rfl rfl hl rfl rfl (Nat.le_of_ble_eq_true rfl) ⟨(Nat.le_of_ble_eq_true rfl), (Nat.le_of_ble_eq_true rfl)⟩ ⟨(Nat.le_of_ble_eq_true rfl), (Nat.le_of_ble_eq_true rfl)⟩ dX10_asks_9) (fun r4 u5 H locs hw hP hD hS => ?_)
    obtain ⟨v6, v7⟩ := u5
    try dsimp only at hP hD hw
    replace hP : va_P (dC, dI) vwCl [(a_this, .inr (10, mfs rm x_taped v6 x_end v7 x_bad x_badPlace x_fault x_faultPlace x_namePlace x_awayTold x_away x_coded x_statements x_isCrossing x_textKind x_askSecond x_redMany x_isOpen x_lastGreen x_greenTo x_isCycleGreen x_stillGreen x_rowMany x_fitMany x_fitRules x_fitGreen x_undoable x_newest x_seeded x_qCoded x_qWaits x_qOpened x_qBase x_qPiled x_qAnswer x_qIsNew x_octets)), (wi_rm0_0_1600_0 rm cy g_tape), (wi_2_6_0 a_arg0 cy g_arg0)] H := hP
    replace hD := k_D hP hD
    obtain ⟨h8, h9, h10, h11, h12, h13, h14, h15, h16, h17⟩ := hw
    replace hq := lf_p1 hq h17
    replace hq := lf_p1 hq rfl
    refine lv_if_ne (tgt := 24) hx hb dX10_asks_12 rfl (fun c18 => ?_) (fun c18 => ?_)
    · replace hq := lf_neg hq (lf_ne (lf_rf r4) (lf_lc 0 (0 : Int) rfl) c18)
      have h19 : ib r4 1 1 := ib_w 1 1 (ib_ne_lo 0 h9 rfl c18) rfl
      have h20 := h16 (ib_nz h19 rfl)
      have h21 : ib x_at 0 1594 := ⟨(hx_at).1, by have := (hx_at).2; have := h20; have := (h8).2; omega⟩
      have h22 : ib v6 6 1600 := ⟨by have := (h8).1; have := h20; have := (h21).1; omega, (h8).2⟩
      have h23 : ib v7 6 1600 := ib_w 6 1600 (ib_two (ib_any v7) (h11 (ib_nz h19 rfl))) rfl
      have h24 : ib x_end 1 1600 := ib_w 1 1600 (ib_two hx_end (h13 (ib_nz h19 rfl))) rfl
      subst hQ; exact k_vret hx hb hr hlk ((v6, v7, x_bad, x_badPlace)) hS ⟨ib_w 0 1600 h22 rfl, fun q => q, (by have := h20; omega), fun hq9 => (by have := h20; omega), (hO.symm.trans (by exact hq))⟩ hP hD (Nat.le_of_ble_eq_true rfl) (Nat.le_of_ble_eq_true rfl) dX10_asks_24
    · replace hq := lf_pos hq (lf_eq (lf_rf r4) (lf_lc 0 (0 : Int) rfl) c18)
      have h25 := ib_eq h9 (ib_c 0 0 0 rfl) c18
      have h26 : ib r4 0 0 := ib_w 0 0 h25.1 rfl
      refine lv_aload_n hx hb dX10_asks_15 rfl (lv_at hl 0 rfl) ?_
      refine lv_iconst (v := 1) hx hb dX10_asks_16 rfl ?_
      refine lv_aload_n hx hb dX10_asks_17 rfl (lv_at hl 0 rfl) ?_
      refine k_get C0 fg_X10_285 hP 0 rfl rfl dX10_asks_18 ?_
      refine k_jvm hP hD hS hA [0] [false, true, true] rfl rfl rfl 0 0 (Nat.le_of_ble_eq_true rfl) (Nat.le_of_ble_eq_true rfl) (fun hPc hDc => k_runV (As := [.int 1, .int v6]) (rest := []) C0 hZ hS hA (s_X10_fail_a0_1_f_bad_0_0 l dC dI cy sq a_this rm x_taped v6 x_end v7 x_bad x_badPlace x_fault x_faultPlace x_namePlace x_awayTold x_away x_coded x_statements x_isCrossing x_textKind x_askSecond x_redMany x_isOpen x_lastGreen x_greenTo x_isCycleGreen x_stillGreen x_rowMany x_fitMany x_fitRules x_fitGreen x_undoable x_newest x_seeded x_qCoded x_qWaits x_qOpened x_qBase x_qPiled x_qAnswer x_qIsNew x_octets v6 (ib_w 0 0 h3 rfl)) mV_X10_308 hPc hDc rfl rfl rfl hl rfl rfl (Nat.le_of_ble_eq_true rfl) ⟨(Nat.le_of_ble_eq_true rfl), (Nat.le_of_ble_eq_true rfl)⟩ ⟨(Nat.le_of_ble_eq_true rfl), (Nat.le_of_ble_eq_true rfl)⟩ dX10_asks_21) (fun u28 H locs hw hP hD hS => ?_)
      try dsimp only at hP hD hw
      replace hP : va_P (dC, dI) vwCl [(wi_rm0_0_1600_0 rm cy g_tape), (wi_2_6_0 a_arg0 cy g_arg0), (a_this, .inr (10, mfs rm x_taped v6 x_end v7 1 v6 x_fault x_faultPlace x_namePlace x_awayTold x_away x_coded x_statements x_isCrossing x_textKind x_askSecond x_redMany x_isOpen x_lastGreen x_greenTo x_isCycleGreen x_stillGreen x_rowMany x_fitMany x_fitRules x_fitGreen x_undoable x_newest x_seeded x_qCoded x_qWaits x_qOpened x_qBase x_qPiled x_qAnswer x_qIsNew x_octets))] H := hP
      replace hD := k_D hP hD
      subst hQ; exact k_vret hx hb hr hlk ((v6, v7, 1, v6)) hS ⟨ib_w 0 1600 h8 rfl, fun q => absurd q (by decide), (by have := h15; omega), fun q => absurd q (by decide), (hO.symm.trans (by try simp only [show (1 : Int32).toInt = (1 : Int) from rfl]; exact hq))⟩ (hP.sub [2, 0, 1] rfl) (hD.sub [2, 0, 1] rfl rfl) (Nat.le_of_ble_eq_true rfl) (Nat.le_of_ble_eq_true rfl) dX10_asks_24
set_option maxHeartbeats 4000000 in
set_option maxRecDepth 100000 in
theorem s_X10_asks_r4 (l : Launch) (dC : Nat → ClassId) (dI : Nat → Nat → Nat) (cy : Nat → ClassId) (sq : Nat → Nat) (a_this : Nat) (rm : Nat → Nat) (x_taped : Int32) (x_at : Int32) (x_end : Int32) (x_ended : Int32) (x_bad : Int32) (x_badPlace : Int32) (x_fault : Int32) (x_faultPlace : Int32) (x_namePlace : Int32) (x_awayTold : Int32) (x_away : Int32) (x_coded : Int32) (x_statements : Int32) (x_isCrossing : Int32) (x_textKind : Int32) (x_askSecond : Int32) (x_redMany : Int32) (x_isOpen : Int32) (x_lastGreen : Int32) (x_greenTo : Int32) (x_isCycleGreen : Int32) (x_stillGreen : Int32) (x_rowMany : Int32) (x_fitMany : Int32) (x_fitRules : Int32) (x_fitGreen : Int32) (x_undoable : Int32) (x_newest : Int32) (x_seeded : Int64) (x_qCoded : Int32) (x_qWaits : Int32) (x_qOpened : Int32) (x_qBase : Int32) (x_qPiled : Int32) (x_qAnswer : Int64) (x_qIsNew : Int32) (x_octets : Int32) (g_tape : Nat → Int32) (a_arg0 : Nat) (g_arg0 : Nat → Int32) (hx_at : ib x_at 0 1600) (hx_end : ib x_end 0 1600) (hg_tape : ia g_tape 1600 0 255) : k_Met l yX10_asks cX10_asks 2 none { frames := 3, cells := 0, slots := 0, locals := 64 } dC dI cy sq [.ref a_this, .ref a_arg0] [(a_this, .inr (10, mfs rm x_taped x_at x_end x_ended x_bad x_badPlace x_fault x_faultPlace x_namePlace x_awayTold x_away x_coded x_statements x_isCrossing x_textKind x_askSecond x_redMany x_isOpen x_lastGreen x_greenTo x_isCycleGreen x_stillGreen x_rowMany x_fitMany x_fitRules x_fitGreen x_undoable x_newest x_seeded x_qCoded x_qWaits x_qOpened x_qBase x_qPiled x_qAnswer x_qIsNew x_octets)), (wi_rm0_0_1600_0 rm cy g_tape), (wi_2_4_0 a_arg0 cy g_arg0)] (k_Qv dC dI (fun (u : Int32 × Int32 × Int32 × Int32) => match u with | (n0, n1, n2, n3) => ib n0 0 1600 ∧ (n2 = 0 → x_bad = 0) ∧ (1 * x_at.toInt + (-1) * n0.toInt ≤ 0) ∧ (n2 = 0 → 1 * x_at.toInt + (-1) * n0.toInt ≤ (-4)) ∧ (F_X10_asks_r4 (Int32.toInt x_at) (Int32.toInt x_end) (Int32.toInt x_ended) (Int32.toInt x_bad) (Int32.toInt x_badPlace) (lf_A g_tape) (lf_A g_arg0) = ((Int32.toInt n0), (Int32.toInt n1), (Int32.toInt n2), (Int32.toInt n3)))) (fun u : Int32 × Int32 × Int32 × Int32 => match u with | (n0, n1, n2, n3) => [(a_this, .inr (10, mfs rm x_taped n0 x_end n1 n2 n3 x_fault x_faultPlace x_namePlace x_awayTold x_away x_coded x_statements x_isCrossing x_textKind x_askSecond x_redMany x_isOpen x_lastGreen x_greenTo x_isCycleGreen x_stillGreen x_rowMany x_fitMany x_fitRules x_fitGreen x_undoable x_newest x_seeded x_qCoded x_qWaits x_qOpened x_qBase x_qPiled x_qAnswer x_qIsNew x_octets)), (wi_rm0_0_1600_0 rm cy g_tape), (wi_2_4_0 a_arg0 cy g_arg0)])) := by
  refine k_ofW2 (by decide +kernel) (Nat.le_of_ble_eq_true rfl) ?_
  intro p e s m below meth c A ls H locs args Q hQ C0 hZ hr hlk hin hP hD hA hS hl
  have C0 : k_cx p s m args c cX10_asks 2 RX10 dC dI cy sq := C0
  have hx := C0.1
  have hb := C0.2.1
  have hl : lv_has ls 2 [(0, .ref a_this), (1, .ref a_arg0)] := hl
  obtain ⟨O, hO⟩ : ∃ o, o = F_X10_asks_r4 (Int32.toInt x_at) (Int32.toInt x_end) (Int32.toInt x_ended) (Int32.toInt x_bad) (Int32.toInt x_badPlace) (lf_A g_tape) (lf_A g_arg0) := ⟨_, rfl⟩
  have hq := hO
  unfold F_X10_asks_r4 at hq
  refine lv_aload_n hx hb dX10_asks_0 rfl (lv_at hl 0 rfl) ?_
  refine k_get C0 fg_X10_279 hP 0 rfl rfl dX10_asks_1 ?_
  refine lv_if_ne (tgt := 24) hx hb dX10_asks_4 rfl (fun c1 => ?_) (fun c1 => ?_)
  · replace hq := lf_neg hq (lf_ne (lf_rf x_bad) (lf_lc 0 (0 : Int) rfl) c1)
    subst hQ; exact k_vret hx hb hr hlk ((x_at, x_ended, x_bad, x_badPlace)) hS ⟨ib_w 0 1600 hx_at rfl, fun q => q, (by omega), fun q => absurd q c1, (hO.symm.trans (by exact hq))⟩ hP hD (Nat.le_of_ble_eq_true rfl) (Nat.le_of_ble_eq_true rfl) dX10_asks_24
  · replace hq := lf_pos hq (lf_eq (lf_rf x_bad) (lf_lc 0 (0 : Int) rfl) c1)
    have h2 := ib_eq (ib_any x_bad) (ib_c 0 0 0 rfl) c1
    have h3 : ib x_bad 0 0 := ib_w 0 0 h2.1 rfl
    refine lv_aload_n hx hb dX10_asks_7 rfl (lv_at hl 0 rfl) ?_
    refine lv_aload_n hx hb dX10_asks_8 rfl (lv_at hl 1 rfl) ?_
    refine k_jim hP hD hS hA [0, 1, 2] [] rfl rfl rfl 0 0 (Nat.le_of_ble_eq_true rfl) (Nat.le_of_ble_eq_true rfl) (fun hPc hDc => k_runV (As := [.ref a_arg0]) (rest := []) C0 hZ hS hA (s_X10_takes_r4 l dC dI cy sq a_this rm x_taped x_at x_end x_ended x_bad x_badPlace x_fault x_faultPlace x_namePlace x_awayTold x_away x_coded x_statements x_isCrossing x_textKind x_askSecond x_redMany x_isOpen x_lastGreen x_greenTo x_isCycleGreen x_stillGreen x_rowMany x_fitMany x_fitRules x_fitGreen x_undoable x_newest x_seeded x_qCoded x_qWaits x_qOpened x_qBase x_qPiled x_qAnswer x_qIsNew x_octets g_tape a_arg0 g_arg0 (ib_w 0 1600 hx_at rfl) (ib_w 0 1600 hx_end rfl) hg_tape) mV_X10_305 hPc hDc rfl rfl rfl hl rfl rfl (Nat.le_of_ble_eq_true rfl) ⟨(Nat.le_of_ble_eq_true rfl), (Nat.le_of_ble_eq_true rfl)⟩ ⟨(Nat.le_of_ble_eq_true rfl), (Nat.le_of_ble_eq_true rfl)⟩ dX10_asks_9) (fun r4 u5 H locs hw hP hD hS => ?_)
    obtain ⟨v6, v7⟩ := u5
    try dsimp only at hP hD hw
    replace hP : va_P (dC, dI) vwCl [(a_this, .inr (10, mfs rm x_taped v6 x_end v7 x_bad x_badPlace x_fault x_faultPlace x_namePlace x_awayTold x_away x_coded x_statements x_isCrossing x_textKind x_askSecond x_redMany x_isOpen x_lastGreen x_greenTo x_isCycleGreen x_stillGreen x_rowMany x_fitMany x_fitRules x_fitGreen x_undoable x_newest x_seeded x_qCoded x_qWaits x_qOpened x_qBase x_qPiled x_qAnswer x_qIsNew x_octets)), (wi_rm0_0_1600_0 rm cy g_tape), (wi_2_4_0 a_arg0 cy g_arg0)] H := hP
    replace hD := k_D hP hD
    obtain ⟨h8, h9, h10, h11, h12, h13, h14, h15, h16, h17⟩ := hw
    replace hq := lf_p1 hq h17
    replace hq := lf_p1 hq rfl
    refine lv_if_ne (tgt := 24) hx hb dX10_asks_12 rfl (fun c18 => ?_) (fun c18 => ?_)
    · replace hq := lf_neg hq (lf_ne (lf_rf r4) (lf_lc 0 (0 : Int) rfl) c18)
      have h19 : ib r4 1 1 := ib_w 1 1 (ib_ne_lo 0 h9 rfl c18) rfl
      have h20 := h16 (ib_nz h19 rfl)
      have h21 : ib x_at 0 1596 := ⟨(hx_at).1, by have := (hx_at).2; have := h20; have := (h8).2; omega⟩
      have h22 : ib v6 4 1600 := ⟨by have := (h8).1; have := h20; have := (h21).1; omega, (h8).2⟩
      have h23 : ib v7 4 1600 := ib_w 4 1600 (ib_two (ib_any v7) (h11 (ib_nz h19 rfl))) rfl
      have h24 : ib x_end 1 1600 := ib_w 1 1600 (ib_two hx_end (h13 (ib_nz h19 rfl))) rfl
      subst hQ; exact k_vret hx hb hr hlk ((v6, v7, x_bad, x_badPlace)) hS ⟨ib_w 0 1600 h22 rfl, fun q => q, (by have := h20; omega), fun hq9 => (by have := h20; omega), (hO.symm.trans (by exact hq))⟩ hP hD (Nat.le_of_ble_eq_true rfl) (Nat.le_of_ble_eq_true rfl) dX10_asks_24
    · replace hq := lf_pos hq (lf_eq (lf_rf r4) (lf_lc 0 (0 : Int) rfl) c18)
      have h25 := ib_eq h9 (ib_c 0 0 0 rfl) c18
      have h26 : ib r4 0 0 := ib_w 0 0 h25.1 rfl
      refine lv_aload_n hx hb dX10_asks_15 rfl (lv_at hl 0 rfl) ?_
      refine lv_iconst (v := 1) hx hb dX10_asks_16 rfl ?_
      refine lv_aload_n hx hb dX10_asks_17 rfl (lv_at hl 0 rfl) ?_
      refine k_get C0 fg_X10_285 hP 0 rfl rfl dX10_asks_18 ?_
      refine k_jvm hP hD hS hA [0] [false, true, true] rfl rfl rfl 0 0 (Nat.le_of_ble_eq_true rfl) (Nat.le_of_ble_eq_true rfl) (fun hPc hDc => k_runV (As := [.int 1, .int v6]) (rest := []) C0 hZ hS hA (s_X10_fail_a0_1_f_bad_0_0 l dC dI cy sq a_this rm x_taped v6 x_end v7 x_bad x_badPlace x_fault x_faultPlace x_namePlace x_awayTold x_away x_coded x_statements x_isCrossing x_textKind x_askSecond x_redMany x_isOpen x_lastGreen x_greenTo x_isCycleGreen x_stillGreen x_rowMany x_fitMany x_fitRules x_fitGreen x_undoable x_newest x_seeded x_qCoded x_qWaits x_qOpened x_qBase x_qPiled x_qAnswer x_qIsNew x_octets v6 (ib_w 0 0 h3 rfl)) mV_X10_308 hPc hDc rfl rfl rfl hl rfl rfl (Nat.le_of_ble_eq_true rfl) ⟨(Nat.le_of_ble_eq_true rfl), (Nat.le_of_ble_eq_true rfl)⟩ ⟨(Nat.le_of_ble_eq_true rfl), (Nat.le_of_ble_eq_true rfl)⟩ dX10_asks_21) (fun u28 H locs hw hP hD hS => ?_)
      try dsimp only at hP hD hw
      replace hP : va_P (dC, dI) vwCl [(wi_rm0_0_1600_0 rm cy g_tape), (wi_2_4_0 a_arg0 cy g_arg0), (a_this, .inr (10, mfs rm x_taped v6 x_end v7 1 v6 x_fault x_faultPlace x_namePlace x_awayTold x_away x_coded x_statements x_isCrossing x_textKind x_askSecond x_redMany x_isOpen x_lastGreen x_greenTo x_isCycleGreen x_stillGreen x_rowMany x_fitMany x_fitRules x_fitGreen x_undoable x_newest x_seeded x_qCoded x_qWaits x_qOpened x_qBase x_qPiled x_qAnswer x_qIsNew x_octets))] H := hP
      replace hD := k_D hP hD
      subst hQ; exact k_vret hx hb hr hlk ((v6, v7, 1, v6)) hS ⟨ib_w 0 1600 h8 rfl, fun q => absurd q (by decide), (by have := h15; omega), fun q => absurd q (by decide), (hO.symm.trans (by try simp only [show (1 : Int32).toInt = (1 : Int) from rfl]; exact hq))⟩ (hP.sub [2, 0, 1] rfl) (hD.sub [2, 0, 1] rfl rfl) (Nat.le_of_ble_eq_true rfl) (Nat.le_of_ble_eq_true rfl) dX10_asks_24
set_option maxHeartbeats 4000000 in
set_option maxRecDepth 100000 in
theorem s_X10_qAsksWord (l : Launch) (dC : Nat → ClassId) (dI : Nat → Nat → Nat) (cy : Nat → ClassId) (sq : Nat → Nat) (a_this : Nat) (rm : Nat → Nat) (x_taped : Int32) (x_at : Int32) (x_end : Int32) (x_ended : Int32) (x_bad : Int32) (x_badPlace : Int32) (x_fault : Int32) (x_faultPlace : Int32) (x_namePlace : Int32) (x_awayTold : Int32) (x_away : Int32) (x_coded : Int32) (x_statements : Int32) (x_isCrossing : Int32) (x_textKind : Int32) (x_askSecond : Int32) (x_redMany : Int32) (x_isOpen : Int32) (x_lastGreen : Int32) (x_greenTo : Int32) (x_isCycleGreen : Int32) (x_stillGreen : Int32) (x_rowMany : Int32) (x_fitMany : Int32) (x_fitRules : Int32) (x_fitGreen : Int32) (x_undoable : Int32) (x_newest : Int32) (x_seeded : Int64) (x_qCoded : Int32) (x_qWaits : Int32) (x_qOpened : Int32) (x_qBase : Int32) (x_qPiled : Int32) (x_qAnswer : Int64) (x_qIsNew : Int32) (x_octets : Int32) (g_tape : Nat → Int32) (g_secondAsked : Nat → Int32) (g_dayAsked : Nat → Int32) (g_phaseAsked : Nat → Int32) (g_waitedAsked : Nat → Int32) (g_calmAsked : Nat → Int32) (g_paceAsked : Nat → Int32) (g_trustsAsked : Nat → Int32) (g_gapAsked : Nat → Int32) (g_redsAsked : Nat → Int32) (g_numberAsked : Nat → Int32) (g_wentAsked : Nat → Int32) (g_harmAsked : Nat → Int32) (g_kindofAsked : Nat → Int32) (p0 : Int32) (hx_at : ib x_at 0 1600) (hx_end : ib x_end 0 1600) (hg_tape : ia g_tape 1600 0 255) : k_Met l yX10_qAsksWord cX10_qAsksWord 2 none { frames := 4, cells := 0, slots := 0, locals := 85 } dC dI cy sq [.ref a_this, .int p0] [(a_this, .inr (10, mfs rm x_taped x_at x_end x_ended x_bad x_badPlace x_fault x_faultPlace x_namePlace x_awayTold x_away x_coded x_statements x_isCrossing x_textKind x_askSecond x_redMany x_isOpen x_lastGreen x_greenTo x_isCycleGreen x_stillGreen x_rowMany x_fitMany x_fitRules x_fitGreen x_undoable x_newest x_seeded x_qCoded x_qWaits x_qOpened x_qBase x_qPiled x_qAnswer x_qIsNew x_octets)), (wi_rm0_0_1600_0 rm cy g_tape), (wi_rm97_2_6_0 rm cy g_secondAsked), (wi_rm98_2_3_0 rm cy g_dayAsked), (wi_rm99_2_5_0 rm cy g_phaseAsked), (wi_rm100_2_6_0 rm cy g_waitedAsked), (wi_rm101_2_4_0 rm cy g_calmAsked), (wi_rm102_2_4_0 rm cy g_paceAsked), (wi_rm103_2_6_0 rm cy g_trustsAsked), (wi_rm104_2_3_0 rm cy g_gapAsked), (wi_rm105_2_4_0 rm cy g_redsAsked), (wi_rm106_2_6_0 rm cy g_numberAsked), (wi_rm107_2_4_0 rm cy g_wentAsked), (wi_rm108_2_4_0 rm cy g_harmAsked), (wi_rm109_2_4_0 rm cy g_kindofAsked)] (k_Qv dC dI (fun (u : Int32 × Int32 × Int32 × Int32) => match u with | (n0, n1, n2, n3) => ib n0 0 1600 ∧ (n2 = 0 → x_bad = 0) ∧ (1 * x_at.toInt + (-1) * n0.toInt ≤ 0) ∧ (n2 = 0 → 1 * x_at.toInt + (-1) * n0.toInt ≤ (-1)) ∧ (F_X10_qAsksWord (Int32.toInt x_at) (Int32.toInt x_end) (Int32.toInt x_ended) (Int32.toInt x_bad) (Int32.toInt x_badPlace) (lf_A g_tape) (lf_A g_secondAsked) (lf_A g_dayAsked) (lf_A g_phaseAsked) (lf_A g_waitedAsked) (lf_A g_calmAsked) (lf_A g_paceAsked) (lf_A g_trustsAsked) (lf_A g_gapAsked) (lf_A g_redsAsked) (lf_A g_numberAsked) (lf_A g_wentAsked) (lf_A g_harmAsked) (lf_A g_kindofAsked) (Int32.toInt p0) = ((Int32.toInt n0), (Int32.toInt n1), (Int32.toInt n2), (Int32.toInt n3)))) (fun u : Int32 × Int32 × Int32 × Int32 => match u with | (n0, n1, n2, n3) => [(a_this, .inr (10, mfs rm x_taped n0 x_end n1 n2 n3 x_fault x_faultPlace x_namePlace x_awayTold x_away x_coded x_statements x_isCrossing x_textKind x_askSecond x_redMany x_isOpen x_lastGreen x_greenTo x_isCycleGreen x_stillGreen x_rowMany x_fitMany x_fitRules x_fitGreen x_undoable x_newest x_seeded x_qCoded x_qWaits x_qOpened x_qBase x_qPiled x_qAnswer x_qIsNew x_octets)), (wi_rm0_0_1600_0 rm cy g_tape), (wi_rm97_2_6_0 rm cy g_secondAsked), (wi_rm98_2_3_0 rm cy g_dayAsked), (wi_rm99_2_5_0 rm cy g_phaseAsked), (wi_rm100_2_6_0 rm cy g_waitedAsked), (wi_rm101_2_4_0 rm cy g_calmAsked), (wi_rm102_2_4_0 rm cy g_paceAsked), (wi_rm103_2_6_0 rm cy g_trustsAsked), (wi_rm104_2_3_0 rm cy g_gapAsked), (wi_rm105_2_4_0 rm cy g_redsAsked), (wi_rm106_2_6_0 rm cy g_numberAsked), (wi_rm107_2_4_0 rm cy g_wentAsked), (wi_rm108_2_4_0 rm cy g_harmAsked), (wi_rm109_2_4_0 rm cy g_kindofAsked)])) := by
  refine k_ofW2 (by decide +kernel) (Nat.le_of_ble_eq_true rfl) ?_
  intro p e s m below meth c A ls H locs args Q hQ C0 hZ hr hlk hin hP hD hA hS hl
  have C0 : k_cx p s m args c cX10_qAsksWord 2 RX10 dC dI cy sq := C0
  have hx := C0.1
  have hb := C0.2.1
  have hl : lv_has ls 2 [(0, .ref a_this), (1, .int p0)] := hl
  obtain ⟨O, hO⟩ : ∃ o, o = F_X10_qAsksWord (Int32.toInt x_at) (Int32.toInt x_end) (Int32.toInt x_ended) (Int32.toInt x_bad) (Int32.toInt x_badPlace) (lf_A g_tape) (lf_A g_secondAsked) (lf_A g_dayAsked) (lf_A g_phaseAsked) (lf_A g_waitedAsked) (lf_A g_calmAsked) (lf_A g_paceAsked) (lf_A g_trustsAsked) (lf_A g_gapAsked) (lf_A g_redsAsked) (lf_A g_numberAsked) (lf_A g_wentAsked) (lf_A g_harmAsked) (lf_A g_kindofAsked) (Int32.toInt p0) := ⟨_, rfl⟩
  have hq := hO
  unfold F_X10_qAsksWord at hq
  refine lv_iload_n hx hb dX10_qAsksWord_0 rfl (lv_at hl 1 rfl) ?_
  rcases Decidable.em (p0 = 0) with s1_0 | s1_0
  · skip
    replace hq := lf_pos hq (lf_eq (lf_rf p0) (lf_lc 0 (0 : Int) rfl) s1_0)
    have h2 : ib p0 0 0 := by rw [s1_0]; exact ib_c 0 0 0 rfl
    refine lv_tableIn (off := 63) (tgt := 64) hx hb dX10_qAsksWord_1 (by rw [s1_0]; decide) (by rw [s1_0]; decide) (by rw [s1_0]; decide) (by decide) ?_
    refine lv_aload_n hx hb dX10_qAsksWord_64 rfl (lv_at hl 0 rfl) ?_
    refine lv_aload_n hx hb dX10_qAsksWord_65 rfl (lv_at hl 0 rfl) ?_
    refine k_get C0 fg_X10_225 hP 0 rfl rfl dX10_qAsksWord_66 ?_
    refine k_jvm hP hD hS hA [0, 1, 2] [false, false, false, true, true, true, true, true, true, true, true, true, true, true, true] rfl rfl (by decide +kernel) 0 0 (Nat.le_of_ble_eq_true rfl) (Nat.le_of_ble_eq_true rfl) (fun hPc hDc => k_runV (As := [.ref (rm 97)]) (rest := []) C0 hZ hS hA (s_X10_asks_r6 l dC dI cy sq a_this rm x_taped x_at x_end x_ended x_bad x_badPlace x_fault x_faultPlace x_namePlace x_awayTold x_away x_coded x_statements x_isCrossing x_textKind x_askSecond x_redMany x_isOpen x_lastGreen x_greenTo x_isCycleGreen x_stillGreen x_rowMany x_fitMany x_fitRules x_fitGreen x_undoable x_newest x_seeded x_qCoded x_qWaits x_qOpened x_qBase x_qPiled x_qAnswer x_qIsNew x_octets g_tape (rm 97) g_secondAsked (ib_w 0 1600 hx_at rfl) (ib_w 0 1600 hx_end rfl) hg_tape) mV_X10_350 hPc hDc rfl rfl rfl hl rfl rfl (Nat.le_of_ble_eq_true rfl) ⟨(Nat.le_of_ble_eq_true rfl), (Nat.le_of_ble_eq_true rfl)⟩ ⟨(Nat.le_of_ble_eq_true rfl), (Nat.le_of_ble_eq_true rfl)⟩ dX10_qAsksWord_69) (fun u4 H locs hw hP hD hS => ?_)
    obtain ⟨v5, v6, v7, v8⟩ := u4
    try dsimp only at hP hD hw
    replace hP : va_P (dC, dI) vwCl [(wi_rm98_2_3_0 rm cy g_dayAsked), (wi_rm99_2_5_0 rm cy g_phaseAsked), (wi_rm100_2_6_0 rm cy g_waitedAsked), (wi_rm101_2_4_0 rm cy g_calmAsked), (wi_rm102_2_4_0 rm cy g_paceAsked), (wi_rm103_2_6_0 rm cy g_trustsAsked), (wi_rm104_2_3_0 rm cy g_gapAsked), (wi_rm105_2_4_0 rm cy g_redsAsked), (wi_rm106_2_6_0 rm cy g_numberAsked), (wi_rm107_2_4_0 rm cy g_wentAsked), (wi_rm108_2_4_0 rm cy g_harmAsked), (wi_rm109_2_4_0 rm cy g_kindofAsked), (a_this, .inr (10, mfs rm x_taped v5 x_end v6 v7 v8 x_fault x_faultPlace x_namePlace x_awayTold x_away x_coded x_statements x_isCrossing x_textKind x_askSecond x_redMany x_isOpen x_lastGreen x_greenTo x_isCycleGreen x_stillGreen x_rowMany x_fitMany x_fitRules x_fitGreen x_undoable x_newest x_seeded x_qCoded x_qWaits x_qOpened x_qBase x_qPiled x_qAnswer x_qIsNew x_octets)), (wi_rm0_0_1600_0 rm cy g_tape), (wi_rm97_2_6_0 rm cy g_secondAsked)] H := hP
    replace hD := k_D hP hD
    obtain ⟨h9, h10, h11, h12, h13⟩ := hw
    replace hq := lf_p1 hq h13
    replace hq := lf_p1 hq rfl
    replace hq := lf_p1 hq rfl
    refine lv_goto (tgt := 204) hx hb dX10_qAsksWord_72 rfl ?_
    subst hQ; exact k_vret hx hb hr hlk ((v5, v6, v7, v8)) hS ⟨ib_w 0 1600 h9 rfl, fun q => (fun q => q) (h10 q), (by have := h11; omega), fun hq9 => (by have := (h12 hq9); omega), (hO.symm.trans (by exact hq))⟩ (hP.sub [12, 13, 14, 0, 1, 2, 3, 4, 5, 6, 7, 8, 9, 10, 11] rfl) (hD.sub [12, 13, 14, 0, 1, 2, 3, 4, 5, 6, 7, 8, 9, 10, 11] (by decide +kernel) rfl) (Nat.le_of_ble_eq_true rfl) (Nat.le_of_ble_eq_true rfl) dX10_qAsksWord_204
  replace hq := lf_neg hq (lf_ne (lf_rf p0) (lf_lc 0 (0 : Int) rfl) s1_0)
  rcases Decidable.em (p0 = 1) with s1_1 | s1_1
  · skip
    replace hq := lf_pos hq (lf_eq (lf_rf p0) (lf_lc 1 (1 : Int) rfl) s1_1)
    have h14 : ib p0 1 1 := by rw [s1_1]; exact ib_c 1 1 1 rfl
    refine lv_tableIn (off := 74) (tgt := 75) hx hb dX10_qAsksWord_1 (by rw [s1_1]; decide) (by rw [s1_1]; decide) (by rw [s1_1]; decide) (by decide) ?_
    refine lv_aload_n hx hb dX10_qAsksWord_75 rfl (lv_at hl 0 rfl) ?_
    refine lv_aload_n hx hb dX10_qAsksWord_76 rfl (lv_at hl 0 rfl) ?_
    refine k_get C0 fg_X10_228 hP 0 rfl rfl dX10_qAsksWord_77 ?_
    refine k_jvm hP hD hS hA [0, 1, 3] [false, false, true, false, true, true, true, true, true, true, true, true, true, true, true] rfl rfl (by decide +kernel) 0 0 (Nat.le_of_ble_eq_true rfl) (Nat.le_of_ble_eq_true rfl) (fun hPc hDc => k_runV (As := [.ref (rm 98)]) (rest := []) C0 hZ hS hA (s_X10_asks l dC dI cy sq a_this rm x_taped x_at x_end x_ended x_bad x_badPlace x_fault x_faultPlace x_namePlace x_awayTold x_away x_coded x_statements x_isCrossing x_textKind x_askSecond x_redMany x_isOpen x_lastGreen x_greenTo x_isCycleGreen x_stillGreen x_rowMany x_fitMany x_fitRules x_fitGreen x_undoable x_newest x_seeded x_qCoded x_qWaits x_qOpened x_qBase x_qPiled x_qAnswer x_qIsNew x_octets g_tape (rm 98) g_dayAsked (ib_w 0 1600 hx_at rfl) (ib_w 0 1600 hx_end rfl) hg_tape) mV_X10_350 hPc hDc rfl rfl rfl hl rfl rfl (Nat.le_of_ble_eq_true rfl) ⟨(Nat.le_of_ble_eq_true rfl), (Nat.le_of_ble_eq_true rfl)⟩ ⟨(Nat.le_of_ble_eq_true rfl), (Nat.le_of_ble_eq_true rfl)⟩ dX10_qAsksWord_80) (fun u16 H locs hw hP hD hS => ?_)
    obtain ⟨v17, v18, v19, v20⟩ := u16
    try dsimp only at hP hD hw
    replace hP : va_P (dC, dI) vwCl [(wi_rm97_2_6_0 rm cy g_secondAsked), (wi_rm99_2_5_0 rm cy g_phaseAsked), (wi_rm100_2_6_0 rm cy g_waitedAsked), (wi_rm101_2_4_0 rm cy g_calmAsked), (wi_rm102_2_4_0 rm cy g_paceAsked), (wi_rm103_2_6_0 rm cy g_trustsAsked), (wi_rm104_2_3_0 rm cy g_gapAsked), (wi_rm105_2_4_0 rm cy g_redsAsked), (wi_rm106_2_6_0 rm cy g_numberAsked), (wi_rm107_2_4_0 rm cy g_wentAsked), (wi_rm108_2_4_0 rm cy g_harmAsked), (wi_rm109_2_4_0 rm cy g_kindofAsked), (a_this, .inr (10, mfs rm x_taped v17 x_end v18 v19 v20 x_fault x_faultPlace x_namePlace x_awayTold x_away x_coded x_statements x_isCrossing x_textKind x_askSecond x_redMany x_isOpen x_lastGreen x_greenTo x_isCycleGreen x_stillGreen x_rowMany x_fitMany x_fitRules x_fitGreen x_undoable x_newest x_seeded x_qCoded x_qWaits x_qOpened x_qBase x_qPiled x_qAnswer x_qIsNew x_octets)), (wi_rm0_0_1600_0 rm cy g_tape), (wi_rm98_2_3_0 rm cy g_dayAsked)] H := hP
    replace hD := k_D hP hD
    obtain ⟨h21, h22, h23, h24, h25⟩ := hw
    replace hq := lf_p1 hq h25
    replace hq := lf_p1 hq rfl
    replace hq := lf_p1 hq rfl
    refine lv_goto (tgt := 204) hx hb dX10_qAsksWord_83 rfl ?_
    subst hQ; exact k_vret hx hb hr hlk ((v17, v18, v19, v20)) hS ⟨ib_w 0 1600 h21 rfl, fun q => (fun q => q) (h22 q), (by have := h23; omega), fun hq9 => (by have := (h24 hq9); omega), (hO.symm.trans (by exact hq))⟩ (hP.sub [12, 13, 0, 14, 1, 2, 3, 4, 5, 6, 7, 8, 9, 10, 11] rfl) (hD.sub [12, 13, 0, 14, 1, 2, 3, 4, 5, 6, 7, 8, 9, 10, 11] (by decide +kernel) rfl) (Nat.le_of_ble_eq_true rfl) (Nat.le_of_ble_eq_true rfl) dX10_qAsksWord_204
  replace hq := lf_neg hq (lf_ne (lf_rf p0) (lf_lc 1 (1 : Int) rfl) s1_1)
  rcases Decidable.em (p0 = 2) with s1_2 | s1_2
  · skip
    replace hq := lf_pos hq (lf_eq (lf_rf p0) (lf_lc 2 (2 : Int) rfl) s1_2)
    have h26 : ib p0 2 2 := by rw [s1_2]; exact ib_c 2 2 2 rfl
    refine lv_tableIn (off := 85) (tgt := 86) hx hb dX10_qAsksWord_1 (by rw [s1_2]; decide) (by rw [s1_2]; decide) (by rw [s1_2]; decide) (by decide) ?_
    refine lv_aload_n hx hb dX10_qAsksWord_86 rfl (lv_at hl 0 rfl) ?_
    refine lv_aload_n hx hb dX10_qAsksWord_87 rfl (lv_at hl 0 rfl) ?_
    refine k_get C0 fg_X10_231 hP 0 rfl rfl dX10_qAsksWord_88 ?_
    refine k_jvm hP hD hS hA [0, 1, 4] [false, false, true, true, false, true, true, true, true, true, true, true, true, true, true] rfl rfl (by decide +kernel) 0 0 (Nat.le_of_ble_eq_true rfl) (Nat.le_of_ble_eq_true rfl) (fun hPc hDc => k_runV (As := [.ref (rm 99)]) (rest := []) C0 hZ hS hA (s_X10_asks_r5 l dC dI cy sq a_this rm x_taped x_at x_end x_ended x_bad x_badPlace x_fault x_faultPlace x_namePlace x_awayTold x_away x_coded x_statements x_isCrossing x_textKind x_askSecond x_redMany x_isOpen x_lastGreen x_greenTo x_isCycleGreen x_stillGreen x_rowMany x_fitMany x_fitRules x_fitGreen x_undoable x_newest x_seeded x_qCoded x_qWaits x_qOpened x_qBase x_qPiled x_qAnswer x_qIsNew x_octets g_tape (rm 99) g_phaseAsked (ib_w 0 1600 hx_at rfl) (ib_w 0 1600 hx_end rfl) hg_tape) mV_X10_350 hPc hDc rfl rfl rfl hl rfl rfl (Nat.le_of_ble_eq_true rfl) ⟨(Nat.le_of_ble_eq_true rfl), (Nat.le_of_ble_eq_true rfl)⟩ ⟨(Nat.le_of_ble_eq_true rfl), (Nat.le_of_ble_eq_true rfl)⟩ dX10_qAsksWord_91) (fun u28 H locs hw hP hD hS => ?_)
    obtain ⟨v29, v30, v31, v32⟩ := u28
    try dsimp only at hP hD hw
    replace hP : va_P (dC, dI) vwCl [(wi_rm97_2_6_0 rm cy g_secondAsked), (wi_rm98_2_3_0 rm cy g_dayAsked), (wi_rm100_2_6_0 rm cy g_waitedAsked), (wi_rm101_2_4_0 rm cy g_calmAsked), (wi_rm102_2_4_0 rm cy g_paceAsked), (wi_rm103_2_6_0 rm cy g_trustsAsked), (wi_rm104_2_3_0 rm cy g_gapAsked), (wi_rm105_2_4_0 rm cy g_redsAsked), (wi_rm106_2_6_0 rm cy g_numberAsked), (wi_rm107_2_4_0 rm cy g_wentAsked), (wi_rm108_2_4_0 rm cy g_harmAsked), (wi_rm109_2_4_0 rm cy g_kindofAsked), (a_this, .inr (10, mfs rm x_taped v29 x_end v30 v31 v32 x_fault x_faultPlace x_namePlace x_awayTold x_away x_coded x_statements x_isCrossing x_textKind x_askSecond x_redMany x_isOpen x_lastGreen x_greenTo x_isCycleGreen x_stillGreen x_rowMany x_fitMany x_fitRules x_fitGreen x_undoable x_newest x_seeded x_qCoded x_qWaits x_qOpened x_qBase x_qPiled x_qAnswer x_qIsNew x_octets)), (wi_rm0_0_1600_0 rm cy g_tape), (wi_rm99_2_5_0 rm cy g_phaseAsked)] H := hP
    replace hD := k_D hP hD
    obtain ⟨h33, h34, h35, h36, h37⟩ := hw
    replace hq := lf_p1 hq h37
    replace hq := lf_p1 hq rfl
    replace hq := lf_p1 hq rfl
    refine lv_goto (tgt := 204) hx hb dX10_qAsksWord_94 rfl ?_
    subst hQ; exact k_vret hx hb hr hlk ((v29, v30, v31, v32)) hS ⟨ib_w 0 1600 h33 rfl, fun q => (fun q => q) (h34 q), (by have := h35; omega), fun hq9 => (by have := (h36 hq9); omega), (hO.symm.trans (by exact hq))⟩ (hP.sub [12, 13, 0, 1, 14, 2, 3, 4, 5, 6, 7, 8, 9, 10, 11] rfl) (hD.sub [12, 13, 0, 1, 14, 2, 3, 4, 5, 6, 7, 8, 9, 10, 11] (by decide +kernel) rfl) (Nat.le_of_ble_eq_true rfl) (Nat.le_of_ble_eq_true rfl) dX10_qAsksWord_204
  replace hq := lf_neg hq (lf_ne (lf_rf p0) (lf_lc 2 (2 : Int) rfl) s1_2)
  rcases Decidable.em (p0 = 3) with s1_3 | s1_3
  · skip
    replace hq := lf_pos hq (lf_eq (lf_rf p0) (lf_lc 3 (3 : Int) rfl) s1_3)
    have h38 : ib p0 3 3 := by rw [s1_3]; exact ib_c 3 3 3 rfl
    refine lv_tableIn (off := 96) (tgt := 97) hx hb dX10_qAsksWord_1 (by rw [s1_3]; decide) (by rw [s1_3]; decide) (by rw [s1_3]; decide) (by decide) ?_
    refine lv_aload_n hx hb dX10_qAsksWord_97 rfl (lv_at hl 0 rfl) ?_
    refine lv_aload_n hx hb dX10_qAsksWord_98 rfl (lv_at hl 0 rfl) ?_
    refine k_get C0 fg_X10_234 hP 0 rfl rfl dX10_qAsksWord_99 ?_
    refine k_jvm hP hD hS hA [0, 1, 5] [false, false, true, true, true, false, true, true, true, true, true, true, true, true, true] rfl rfl (by decide +kernel) 0 0 (Nat.le_of_ble_eq_true rfl) (Nat.le_of_ble_eq_true rfl) (fun hPc hDc => k_runV (As := [.ref (rm 100)]) (rest := []) C0 hZ hS hA (s_X10_asks_r6 l dC dI cy sq a_this rm x_taped x_at x_end x_ended x_bad x_badPlace x_fault x_faultPlace x_namePlace x_awayTold x_away x_coded x_statements x_isCrossing x_textKind x_askSecond x_redMany x_isOpen x_lastGreen x_greenTo x_isCycleGreen x_stillGreen x_rowMany x_fitMany x_fitRules x_fitGreen x_undoable x_newest x_seeded x_qCoded x_qWaits x_qOpened x_qBase x_qPiled x_qAnswer x_qIsNew x_octets g_tape (rm 100) g_waitedAsked (ib_w 0 1600 hx_at rfl) (ib_w 0 1600 hx_end rfl) hg_tape) mV_X10_350 hPc hDc rfl rfl rfl hl rfl rfl (Nat.le_of_ble_eq_true rfl) ⟨(Nat.le_of_ble_eq_true rfl), (Nat.le_of_ble_eq_true rfl)⟩ ⟨(Nat.le_of_ble_eq_true rfl), (Nat.le_of_ble_eq_true rfl)⟩ dX10_qAsksWord_102) (fun u40 H locs hw hP hD hS => ?_)
    obtain ⟨v41, v42, v43, v44⟩ := u40
    try dsimp only at hP hD hw
    replace hP : va_P (dC, dI) vwCl [(wi_rm97_2_6_0 rm cy g_secondAsked), (wi_rm98_2_3_0 rm cy g_dayAsked), (wi_rm99_2_5_0 rm cy g_phaseAsked), (wi_rm101_2_4_0 rm cy g_calmAsked), (wi_rm102_2_4_0 rm cy g_paceAsked), (wi_rm103_2_6_0 rm cy g_trustsAsked), (wi_rm104_2_3_0 rm cy g_gapAsked), (wi_rm105_2_4_0 rm cy g_redsAsked), (wi_rm106_2_6_0 rm cy g_numberAsked), (wi_rm107_2_4_0 rm cy g_wentAsked), (wi_rm108_2_4_0 rm cy g_harmAsked), (wi_rm109_2_4_0 rm cy g_kindofAsked), (a_this, .inr (10, mfs rm x_taped v41 x_end v42 v43 v44 x_fault x_faultPlace x_namePlace x_awayTold x_away x_coded x_statements x_isCrossing x_textKind x_askSecond x_redMany x_isOpen x_lastGreen x_greenTo x_isCycleGreen x_stillGreen x_rowMany x_fitMany x_fitRules x_fitGreen x_undoable x_newest x_seeded x_qCoded x_qWaits x_qOpened x_qBase x_qPiled x_qAnswer x_qIsNew x_octets)), (wi_rm0_0_1600_0 rm cy g_tape), (wi_rm100_2_6_0 rm cy g_waitedAsked)] H := hP
    replace hD := k_D hP hD
    obtain ⟨h45, h46, h47, h48, h49⟩ := hw
    replace hq := lf_p1 hq h49
    replace hq := lf_p1 hq rfl
    replace hq := lf_p1 hq rfl
    refine lv_goto (tgt := 204) hx hb dX10_qAsksWord_105 rfl ?_
    subst hQ; exact k_vret hx hb hr hlk ((v41, v42, v43, v44)) hS ⟨ib_w 0 1600 h45 rfl, fun q => (fun q => q) (h46 q), (by have := h47; omega), fun hq9 => (by have := (h48 hq9); omega), (hO.symm.trans (by exact hq))⟩ (hP.sub [12, 13, 0, 1, 2, 14, 3, 4, 5, 6, 7, 8, 9, 10, 11] rfl) (hD.sub [12, 13, 0, 1, 2, 14, 3, 4, 5, 6, 7, 8, 9, 10, 11] (by decide +kernel) rfl) (Nat.le_of_ble_eq_true rfl) (Nat.le_of_ble_eq_true rfl) dX10_qAsksWord_204
  replace hq := lf_neg hq (lf_ne (lf_rf p0) (lf_lc 3 (3 : Int) rfl) s1_3)
  rcases Decidable.em (p0 = 4) with s1_4 | s1_4
  · skip
    replace hq := lf_pos hq (lf_eq (lf_rf p0) (lf_lc 4 (4 : Int) rfl) s1_4)
    have h50 : ib p0 4 4 := by rw [s1_4]; exact ib_c 4 4 4 rfl
    refine lv_tableIn (off := 107) (tgt := 108) hx hb dX10_qAsksWord_1 (by rw [s1_4]; decide) (by rw [s1_4]; decide) (by rw [s1_4]; decide) (by decide) ?_
    refine lv_aload_n hx hb dX10_qAsksWord_108 rfl (lv_at hl 0 rfl) ?_
    refine lv_aload_n hx hb dX10_qAsksWord_109 rfl (lv_at hl 0 rfl) ?_
    refine k_get C0 fg_X10_237 hP 0 rfl rfl dX10_qAsksWord_110 ?_
    refine k_jvm hP hD hS hA [0, 1, 6] [false, false, true, true, true, true, false, true, true, true, true, true, true, true, true] rfl rfl (by decide +kernel) 0 0 (Nat.le_of_ble_eq_true rfl) (Nat.le_of_ble_eq_true rfl) (fun hPc hDc => k_runV (As := [.ref (rm 101)]) (rest := []) C0 hZ hS hA (s_X10_asks_r4 l dC dI cy sq a_this rm x_taped x_at x_end x_ended x_bad x_badPlace x_fault x_faultPlace x_namePlace x_awayTold x_away x_coded x_statements x_isCrossing x_textKind x_askSecond x_redMany x_isOpen x_lastGreen x_greenTo x_isCycleGreen x_stillGreen x_rowMany x_fitMany x_fitRules x_fitGreen x_undoable x_newest x_seeded x_qCoded x_qWaits x_qOpened x_qBase x_qPiled x_qAnswer x_qIsNew x_octets g_tape (rm 101) g_calmAsked (ib_w 0 1600 hx_at rfl) (ib_w 0 1600 hx_end rfl) hg_tape) mV_X10_350 hPc hDc rfl rfl rfl hl rfl rfl (Nat.le_of_ble_eq_true rfl) ⟨(Nat.le_of_ble_eq_true rfl), (Nat.le_of_ble_eq_true rfl)⟩ ⟨(Nat.le_of_ble_eq_true rfl), (Nat.le_of_ble_eq_true rfl)⟩ dX10_qAsksWord_113) (fun u52 H locs hw hP hD hS => ?_)
    obtain ⟨v53, v54, v55, v56⟩ := u52
    try dsimp only at hP hD hw
    replace hP : va_P (dC, dI) vwCl [(wi_rm97_2_6_0 rm cy g_secondAsked), (wi_rm98_2_3_0 rm cy g_dayAsked), (wi_rm99_2_5_0 rm cy g_phaseAsked), (wi_rm100_2_6_0 rm cy g_waitedAsked), (wi_rm102_2_4_0 rm cy g_paceAsked), (wi_rm103_2_6_0 rm cy g_trustsAsked), (wi_rm104_2_3_0 rm cy g_gapAsked), (wi_rm105_2_4_0 rm cy g_redsAsked), (wi_rm106_2_6_0 rm cy g_numberAsked), (wi_rm107_2_4_0 rm cy g_wentAsked), (wi_rm108_2_4_0 rm cy g_harmAsked), (wi_rm109_2_4_0 rm cy g_kindofAsked), (a_this, .inr (10, mfs rm x_taped v53 x_end v54 v55 v56 x_fault x_faultPlace x_namePlace x_awayTold x_away x_coded x_statements x_isCrossing x_textKind x_askSecond x_redMany x_isOpen x_lastGreen x_greenTo x_isCycleGreen x_stillGreen x_rowMany x_fitMany x_fitRules x_fitGreen x_undoable x_newest x_seeded x_qCoded x_qWaits x_qOpened x_qBase x_qPiled x_qAnswer x_qIsNew x_octets)), (wi_rm0_0_1600_0 rm cy g_tape), (wi_rm101_2_4_0 rm cy g_calmAsked)] H := hP
    replace hD := k_D hP hD
    obtain ⟨h57, h58, h59, h60, h61⟩ := hw
    replace hq := lf_p1 hq h61
    replace hq := lf_p1 hq rfl
    replace hq := lf_p1 hq rfl
    refine lv_goto (tgt := 204) hx hb dX10_qAsksWord_116 rfl ?_
    subst hQ; exact k_vret hx hb hr hlk ((v53, v54, v55, v56)) hS ⟨ib_w 0 1600 h57 rfl, fun q => (fun q => q) (h58 q), (by have := h59; omega), fun hq9 => (by have := (h60 hq9); omega), (hO.symm.trans (by exact hq))⟩ (hP.sub [12, 13, 0, 1, 2, 3, 14, 4, 5, 6, 7, 8, 9, 10, 11] rfl) (hD.sub [12, 13, 0, 1, 2, 3, 14, 4, 5, 6, 7, 8, 9, 10, 11] (by decide +kernel) rfl) (Nat.le_of_ble_eq_true rfl) (Nat.le_of_ble_eq_true rfl) dX10_qAsksWord_204
  replace hq := lf_neg hq (lf_ne (lf_rf p0) (lf_lc 4 (4 : Int) rfl) s1_4)
  rcases Decidable.em (p0 = 5) with s1_5 | s1_5
  · skip
    replace hq := lf_pos hq (lf_eq (lf_rf p0) (lf_lc 5 (5 : Int) rfl) s1_5)
    have h62 : ib p0 5 5 := by rw [s1_5]; exact ib_c 5 5 5 rfl
    refine lv_tableIn (off := 118) (tgt := 119) hx hb dX10_qAsksWord_1 (by rw [s1_5]; decide) (by rw [s1_5]; decide) (by rw [s1_5]; decide) (by decide) ?_
    refine lv_aload_n hx hb dX10_qAsksWord_119 rfl (lv_at hl 0 rfl) ?_
    refine lv_aload_n hx hb dX10_qAsksWord_120 rfl (lv_at hl 0 rfl) ?_
    refine k_get C0 fg_X10_240 hP 0 rfl rfl dX10_qAsksWord_121 ?_
    refine k_jvm hP hD hS hA [0, 1, 7] [false, false, true, true, true, true, true, false, true, true, true, true, true, true, true] rfl rfl (by decide +kernel) 0 0 (Nat.le_of_ble_eq_true rfl) (Nat.le_of_ble_eq_true rfl) (fun hPc hDc => k_runV (As := [.ref (rm 102)]) (rest := []) C0 hZ hS hA (s_X10_asks_r4 l dC dI cy sq a_this rm x_taped x_at x_end x_ended x_bad x_badPlace x_fault x_faultPlace x_namePlace x_awayTold x_away x_coded x_statements x_isCrossing x_textKind x_askSecond x_redMany x_isOpen x_lastGreen x_greenTo x_isCycleGreen x_stillGreen x_rowMany x_fitMany x_fitRules x_fitGreen x_undoable x_newest x_seeded x_qCoded x_qWaits x_qOpened x_qBase x_qPiled x_qAnswer x_qIsNew x_octets g_tape (rm 102) g_paceAsked (ib_w 0 1600 hx_at rfl) (ib_w 0 1600 hx_end rfl) hg_tape) mV_X10_350 hPc hDc rfl rfl rfl hl rfl rfl (Nat.le_of_ble_eq_true rfl) ⟨(Nat.le_of_ble_eq_true rfl), (Nat.le_of_ble_eq_true rfl)⟩ ⟨(Nat.le_of_ble_eq_true rfl), (Nat.le_of_ble_eq_true rfl)⟩ dX10_qAsksWord_124) (fun u64 H locs hw hP hD hS => ?_)
    obtain ⟨v65, v66, v67, v68⟩ := u64
    try dsimp only at hP hD hw
    replace hP : va_P (dC, dI) vwCl [(wi_rm97_2_6_0 rm cy g_secondAsked), (wi_rm98_2_3_0 rm cy g_dayAsked), (wi_rm99_2_5_0 rm cy g_phaseAsked), (wi_rm100_2_6_0 rm cy g_waitedAsked), (wi_rm101_2_4_0 rm cy g_calmAsked), (wi_rm103_2_6_0 rm cy g_trustsAsked), (wi_rm104_2_3_0 rm cy g_gapAsked), (wi_rm105_2_4_0 rm cy g_redsAsked), (wi_rm106_2_6_0 rm cy g_numberAsked), (wi_rm107_2_4_0 rm cy g_wentAsked), (wi_rm108_2_4_0 rm cy g_harmAsked), (wi_rm109_2_4_0 rm cy g_kindofAsked), (a_this, .inr (10, mfs rm x_taped v65 x_end v66 v67 v68 x_fault x_faultPlace x_namePlace x_awayTold x_away x_coded x_statements x_isCrossing x_textKind x_askSecond x_redMany x_isOpen x_lastGreen x_greenTo x_isCycleGreen x_stillGreen x_rowMany x_fitMany x_fitRules x_fitGreen x_undoable x_newest x_seeded x_qCoded x_qWaits x_qOpened x_qBase x_qPiled x_qAnswer x_qIsNew x_octets)), (wi_rm0_0_1600_0 rm cy g_tape), (wi_rm102_2_4_0 rm cy g_paceAsked)] H := hP
    replace hD := k_D hP hD
    obtain ⟨h69, h70, h71, h72, h73⟩ := hw
    replace hq := lf_p1 hq h73
    replace hq := lf_p1 hq rfl
    replace hq := lf_p1 hq rfl
    refine lv_goto (tgt := 204) hx hb dX10_qAsksWord_127 rfl ?_
    subst hQ; exact k_vret hx hb hr hlk ((v65, v66, v67, v68)) hS ⟨ib_w 0 1600 h69 rfl, fun q => (fun q => q) (h70 q), (by have := h71; omega), fun hq9 => (by have := (h72 hq9); omega), (hO.symm.trans (by exact hq))⟩ (hP.sub [12, 13, 0, 1, 2, 3, 4, 14, 5, 6, 7, 8, 9, 10, 11] rfl) (hD.sub [12, 13, 0, 1, 2, 3, 4, 14, 5, 6, 7, 8, 9, 10, 11] (by decide +kernel) rfl) (Nat.le_of_ble_eq_true rfl) (Nat.le_of_ble_eq_true rfl) dX10_qAsksWord_204
  replace hq := lf_neg hq (lf_ne (lf_rf p0) (lf_lc 5 (5 : Int) rfl) s1_5)
  rcases Decidable.em (p0 = 6) with s1_6 | s1_6
  · skip
    replace hq := lf_pos hq (lf_eq (lf_rf p0) (lf_lc 6 (6 : Int) rfl) s1_6)
    have h74 : ib p0 6 6 := by rw [s1_6]; exact ib_c 6 6 6 rfl
    refine lv_tableIn (off := 129) (tgt := 130) hx hb dX10_qAsksWord_1 (by rw [s1_6]; decide) (by rw [s1_6]; decide) (by rw [s1_6]; decide) (by decide) ?_
    refine lv_aload_n hx hb dX10_qAsksWord_130 rfl (lv_at hl 0 rfl) ?_
    refine lv_aload_n hx hb dX10_qAsksWord_131 rfl (lv_at hl 0 rfl) ?_
    refine k_get C0 fg_X10_243 hP 0 rfl rfl dX10_qAsksWord_132 ?_
    refine k_jvm hP hD hS hA [0, 1, 8] [false, false, true, true, true, true, true, true, false, true, true, true, true, true, true] rfl rfl (by decide +kernel) 0 0 (Nat.le_of_ble_eq_true rfl) (Nat.le_of_ble_eq_true rfl) (fun hPc hDc => k_runV (As := [.ref (rm 103)]) (rest := []) C0 hZ hS hA (s_X10_asks_r6 l dC dI cy sq a_this rm x_taped x_at x_end x_ended x_bad x_badPlace x_fault x_faultPlace x_namePlace x_awayTold x_away x_coded x_statements x_isCrossing x_textKind x_askSecond x_redMany x_isOpen x_lastGreen x_greenTo x_isCycleGreen x_stillGreen x_rowMany x_fitMany x_fitRules x_fitGreen x_undoable x_newest x_seeded x_qCoded x_qWaits x_qOpened x_qBase x_qPiled x_qAnswer x_qIsNew x_octets g_tape (rm 103) g_trustsAsked (ib_w 0 1600 hx_at rfl) (ib_w 0 1600 hx_end rfl) hg_tape) mV_X10_350 hPc hDc rfl rfl rfl hl rfl rfl (Nat.le_of_ble_eq_true rfl) ⟨(Nat.le_of_ble_eq_true rfl), (Nat.le_of_ble_eq_true rfl)⟩ ⟨(Nat.le_of_ble_eq_true rfl), (Nat.le_of_ble_eq_true rfl)⟩ dX10_qAsksWord_135) (fun u76 H locs hw hP hD hS => ?_)
    obtain ⟨v77, v78, v79, v80⟩ := u76
    try dsimp only at hP hD hw
    replace hP : va_P (dC, dI) vwCl [(wi_rm97_2_6_0 rm cy g_secondAsked), (wi_rm98_2_3_0 rm cy g_dayAsked), (wi_rm99_2_5_0 rm cy g_phaseAsked), (wi_rm100_2_6_0 rm cy g_waitedAsked), (wi_rm101_2_4_0 rm cy g_calmAsked), (wi_rm102_2_4_0 rm cy g_paceAsked), (wi_rm104_2_3_0 rm cy g_gapAsked), (wi_rm105_2_4_0 rm cy g_redsAsked), (wi_rm106_2_6_0 rm cy g_numberAsked), (wi_rm107_2_4_0 rm cy g_wentAsked), (wi_rm108_2_4_0 rm cy g_harmAsked), (wi_rm109_2_4_0 rm cy g_kindofAsked), (a_this, .inr (10, mfs rm x_taped v77 x_end v78 v79 v80 x_fault x_faultPlace x_namePlace x_awayTold x_away x_coded x_statements x_isCrossing x_textKind x_askSecond x_redMany x_isOpen x_lastGreen x_greenTo x_isCycleGreen x_stillGreen x_rowMany x_fitMany x_fitRules x_fitGreen x_undoable x_newest x_seeded x_qCoded x_qWaits x_qOpened x_qBase x_qPiled x_qAnswer x_qIsNew x_octets)), (wi_rm0_0_1600_0 rm cy g_tape), (wi_rm103_2_6_0 rm cy g_trustsAsked)] H := hP
    replace hD := k_D hP hD
    obtain ⟨h81, h82, h83, h84, h85⟩ := hw
    replace hq := lf_p1 hq h85
    replace hq := lf_p1 hq rfl
    replace hq := lf_p1 hq rfl
    refine lv_goto (tgt := 204) hx hb dX10_qAsksWord_138 rfl ?_
    subst hQ; exact k_vret hx hb hr hlk ((v77, v78, v79, v80)) hS ⟨ib_w 0 1600 h81 rfl, fun q => (fun q => q) (h82 q), (by have := h83; omega), fun hq9 => (by have := (h84 hq9); omega), (hO.symm.trans (by exact hq))⟩ (hP.sub [12, 13, 0, 1, 2, 3, 4, 5, 14, 6, 7, 8, 9, 10, 11] rfl) (hD.sub [12, 13, 0, 1, 2, 3, 4, 5, 14, 6, 7, 8, 9, 10, 11] (by decide +kernel) rfl) (Nat.le_of_ble_eq_true rfl) (Nat.le_of_ble_eq_true rfl) dX10_qAsksWord_204
  replace hq := lf_neg hq (lf_ne (lf_rf p0) (lf_lc 6 (6 : Int) rfl) s1_6)
  as_aux_lemma =>
    rcases Decidable.em (p0 = 7) with s1_7 | s1_7
    · skip
      replace hq := lf_pos hq (lf_eq (lf_rf p0) (lf_lc 7 (7 : Int) rfl) s1_7)
      have h86 : ib p0 7 7 := by rw [s1_7]; exact ib_c 7 7 7 rfl
      refine lv_tableIn (off := 140) (tgt := 141) hx hb dX10_qAsksWord_1 (by rw [s1_7]; decide) (by rw [s1_7]; decide) (by rw [s1_7]; decide) (by decide) ?_
      refine lv_aload_n hx hb dX10_qAsksWord_141 rfl (lv_at hl 0 rfl) ?_
      refine lv_aload_n hx hb dX10_qAsksWord_142 rfl (lv_at hl 0 rfl) ?_
      refine k_get C0 fg_X10_246 hP 0 rfl rfl dX10_qAsksWord_143 ?_
      refine k_jvm hP hD hS hA [0, 1, 9] [false, false, true, true, true, true, true, true, true, false, true, true, true, true, true] rfl rfl (by decide +kernel) 0 0 (Nat.le_of_ble_eq_true rfl) (Nat.le_of_ble_eq_true rfl) (fun hPc hDc => k_runV (As := [.ref (rm 104)]) (rest := []) C0 hZ hS hA (s_X10_asks l dC dI cy sq a_this rm x_taped x_at x_end x_ended x_bad x_badPlace x_fault x_faultPlace x_namePlace x_awayTold x_away x_coded x_statements x_isCrossing x_textKind x_askSecond x_redMany x_isOpen x_lastGreen x_greenTo x_isCycleGreen x_stillGreen x_rowMany x_fitMany x_fitRules x_fitGreen x_undoable x_newest x_seeded x_qCoded x_qWaits x_qOpened x_qBase x_qPiled x_qAnswer x_qIsNew x_octets g_tape (rm 104) g_gapAsked (ib_w 0 1600 hx_at rfl) (ib_w 0 1600 hx_end rfl) hg_tape) mV_X10_350 hPc hDc rfl rfl rfl hl rfl rfl (Nat.le_of_ble_eq_true rfl) ⟨(Nat.le_of_ble_eq_true rfl), (Nat.le_of_ble_eq_true rfl)⟩ ⟨(Nat.le_of_ble_eq_true rfl), (Nat.le_of_ble_eq_true rfl)⟩ dX10_qAsksWord_146) (fun u88 H locs hw hP hD hS => ?_)
      obtain ⟨v89, v90, v91, v92⟩ := u88
      try dsimp only at hP hD hw
      replace hP : va_P (dC, dI) vwCl [(wi_rm97_2_6_0 rm cy g_secondAsked), (wi_rm98_2_3_0 rm cy g_dayAsked), (wi_rm99_2_5_0 rm cy g_phaseAsked), (wi_rm100_2_6_0 rm cy g_waitedAsked), (wi_rm101_2_4_0 rm cy g_calmAsked), (wi_rm102_2_4_0 rm cy g_paceAsked), (wi_rm103_2_6_0 rm cy g_trustsAsked), (wi_rm105_2_4_0 rm cy g_redsAsked), (wi_rm106_2_6_0 rm cy g_numberAsked), (wi_rm107_2_4_0 rm cy g_wentAsked), (wi_rm108_2_4_0 rm cy g_harmAsked), (wi_rm109_2_4_0 rm cy g_kindofAsked), (a_this, .inr (10, mfs rm x_taped v89 x_end v90 v91 v92 x_fault x_faultPlace x_namePlace x_awayTold x_away x_coded x_statements x_isCrossing x_textKind x_askSecond x_redMany x_isOpen x_lastGreen x_greenTo x_isCycleGreen x_stillGreen x_rowMany x_fitMany x_fitRules x_fitGreen x_undoable x_newest x_seeded x_qCoded x_qWaits x_qOpened x_qBase x_qPiled x_qAnswer x_qIsNew x_octets)), (wi_rm0_0_1600_0 rm cy g_tape), (wi_rm104_2_3_0 rm cy g_gapAsked)] H := hP
      replace hD := k_D hP hD
      obtain ⟨h93, h94, h95, h96, h97⟩ := hw
      replace hq := lf_p1 hq h97
      replace hq := lf_p1 hq rfl
      replace hq := lf_p1 hq rfl
      refine lv_goto (tgt := 204) hx hb dX10_qAsksWord_149 rfl ?_
      subst hQ; exact k_vret hx hb hr hlk ((v89, v90, v91, v92)) hS ⟨ib_w 0 1600 h93 rfl, fun q => (fun q => q) (h94 q), (by have := h95; omega), fun hq9 => (by have := (h96 hq9); omega), (hO.symm.trans (by exact hq))⟩ (hP.sub [12, 13, 0, 1, 2, 3, 4, 5, 6, 14, 7, 8, 9, 10, 11] rfl) (hD.sub [12, 13, 0, 1, 2, 3, 4, 5, 6, 14, 7, 8, 9, 10, 11] (by decide +kernel) rfl) (Nat.le_of_ble_eq_true rfl) (Nat.le_of_ble_eq_true rfl) dX10_qAsksWord_204
    replace hq := lf_neg hq (lf_ne (lf_rf p0) (lf_lc 7 (7 : Int) rfl) s1_7)
    rcases Decidable.em (p0 = 8) with s1_8 | s1_8
    · skip
      replace hq := lf_pos hq (lf_eq (lf_rf p0) (lf_lc 8 (8 : Int) rfl) s1_8)
      have h98 : ib p0 8 8 := by rw [s1_8]; exact ib_c 8 8 8 rfl
      refine lv_tableIn (off := 151) (tgt := 152) hx hb dX10_qAsksWord_1 (by rw [s1_8]; decide) (by rw [s1_8]; decide) (by rw [s1_8]; decide) (by decide) ?_
      refine lv_aload_n hx hb dX10_qAsksWord_152 rfl (lv_at hl 0 rfl) ?_
      refine lv_aload_n hx hb dX10_qAsksWord_153 rfl (lv_at hl 0 rfl) ?_
      refine k_get C0 fg_X10_249 hP 0 rfl rfl dX10_qAsksWord_154 ?_
      refine k_jvm hP hD hS hA [0, 1, 10] [false, false, true, true, true, true, true, true, true, true, false, true, true, true, true] rfl rfl (by decide +kernel) 0 0 (Nat.le_of_ble_eq_true rfl) (Nat.le_of_ble_eq_true rfl) (fun hPc hDc => k_runV (As := [.ref (rm 105)]) (rest := []) C0 hZ hS hA (s_X10_asks_r4 l dC dI cy sq a_this rm x_taped x_at x_end x_ended x_bad x_badPlace x_fault x_faultPlace x_namePlace x_awayTold x_away x_coded x_statements x_isCrossing x_textKind x_askSecond x_redMany x_isOpen x_lastGreen x_greenTo x_isCycleGreen x_stillGreen x_rowMany x_fitMany x_fitRules x_fitGreen x_undoable x_newest x_seeded x_qCoded x_qWaits x_qOpened x_qBase x_qPiled x_qAnswer x_qIsNew x_octets g_tape (rm 105) g_redsAsked (ib_w 0 1600 hx_at rfl) (ib_w 0 1600 hx_end rfl) hg_tape) mV_X10_350 hPc hDc rfl rfl rfl hl rfl rfl (Nat.le_of_ble_eq_true rfl) ⟨(Nat.le_of_ble_eq_true rfl), (Nat.le_of_ble_eq_true rfl)⟩ ⟨(Nat.le_of_ble_eq_true rfl), (Nat.le_of_ble_eq_true rfl)⟩ dX10_qAsksWord_157) (fun u100 H locs hw hP hD hS => ?_)
      obtain ⟨v101, v102, v103, v104⟩ := u100
      try dsimp only at hP hD hw
      replace hP : va_P (dC, dI) vwCl [(wi_rm97_2_6_0 rm cy g_secondAsked), (wi_rm98_2_3_0 rm cy g_dayAsked), (wi_rm99_2_5_0 rm cy g_phaseAsked), (wi_rm100_2_6_0 rm cy g_waitedAsked), (wi_rm101_2_4_0 rm cy g_calmAsked), (wi_rm102_2_4_0 rm cy g_paceAsked), (wi_rm103_2_6_0 rm cy g_trustsAsked), (wi_rm104_2_3_0 rm cy g_gapAsked), (wi_rm106_2_6_0 rm cy g_numberAsked), (wi_rm107_2_4_0 rm cy g_wentAsked), (wi_rm108_2_4_0 rm cy g_harmAsked), (wi_rm109_2_4_0 rm cy g_kindofAsked), (a_this, .inr (10, mfs rm x_taped v101 x_end v102 v103 v104 x_fault x_faultPlace x_namePlace x_awayTold x_away x_coded x_statements x_isCrossing x_textKind x_askSecond x_redMany x_isOpen x_lastGreen x_greenTo x_isCycleGreen x_stillGreen x_rowMany x_fitMany x_fitRules x_fitGreen x_undoable x_newest x_seeded x_qCoded x_qWaits x_qOpened x_qBase x_qPiled x_qAnswer x_qIsNew x_octets)), (wi_rm0_0_1600_0 rm cy g_tape), (wi_rm105_2_4_0 rm cy g_redsAsked)] H := hP
      replace hD := k_D hP hD
      obtain ⟨h105, h106, h107, h108, h109⟩ := hw
      replace hq := lf_p1 hq h109
      replace hq := lf_p1 hq rfl
      replace hq := lf_p1 hq rfl
      refine lv_goto (tgt := 204) hx hb dX10_qAsksWord_160 rfl ?_
      subst hQ; exact k_vret hx hb hr hlk ((v101, v102, v103, v104)) hS ⟨ib_w 0 1600 h105 rfl, fun q => (fun q => q) (h106 q), (by have := h107; omega), fun hq9 => (by have := (h108 hq9); omega), (hO.symm.trans (by exact hq))⟩ (hP.sub [12, 13, 0, 1, 2, 3, 4, 5, 6, 7, 14, 8, 9, 10, 11] rfl) (hD.sub [12, 13, 0, 1, 2, 3, 4, 5, 6, 7, 14, 8, 9, 10, 11] (by decide +kernel) rfl) (Nat.le_of_ble_eq_true rfl) (Nat.le_of_ble_eq_true rfl) dX10_qAsksWord_204
    replace hq := lf_neg hq (lf_ne (lf_rf p0) (lf_lc 8 (8 : Int) rfl) s1_8)
    rcases Decidable.em (p0 = 9) with s1_9 | s1_9
    · skip
      replace hq := lf_pos hq (lf_eq (lf_rf p0) (lf_lc 9 (9 : Int) rfl) s1_9)
      have h110 : ib p0 9 9 := by rw [s1_9]; exact ib_c 9 9 9 rfl
      refine lv_tableIn (off := 162) (tgt := 163) hx hb dX10_qAsksWord_1 (by rw [s1_9]; decide) (by rw [s1_9]; decide) (by rw [s1_9]; decide) (by decide) ?_
      refine lv_aload_n hx hb dX10_qAsksWord_163 rfl (lv_at hl 0 rfl) ?_
      refine lv_aload_n hx hb dX10_qAsksWord_164 rfl (lv_at hl 0 rfl) ?_
      refine k_get C0 fg_X10_252 hP 0 rfl rfl dX10_qAsksWord_165 ?_
      refine k_jvm hP hD hS hA [0, 1, 11] [false, false, true, true, true, true, true, true, true, true, true, false, true, true, true] rfl rfl (by decide +kernel) 0 0 (Nat.le_of_ble_eq_true rfl) (Nat.le_of_ble_eq_true rfl) (fun hPc hDc => k_runV (As := [.ref (rm 106)]) (rest := []) C0 hZ hS hA (s_X10_asks_r6 l dC dI cy sq a_this rm x_taped x_at x_end x_ended x_bad x_badPlace x_fault x_faultPlace x_namePlace x_awayTold x_away x_coded x_statements x_isCrossing x_textKind x_askSecond x_redMany x_isOpen x_lastGreen x_greenTo x_isCycleGreen x_stillGreen x_rowMany x_fitMany x_fitRules x_fitGreen x_undoable x_newest x_seeded x_qCoded x_qWaits x_qOpened x_qBase x_qPiled x_qAnswer x_qIsNew x_octets g_tape (rm 106) g_numberAsked (ib_w 0 1600 hx_at rfl) (ib_w 0 1600 hx_end rfl) hg_tape) mV_X10_350 hPc hDc rfl rfl rfl hl rfl rfl (Nat.le_of_ble_eq_true rfl) ⟨(Nat.le_of_ble_eq_true rfl), (Nat.le_of_ble_eq_true rfl)⟩ ⟨(Nat.le_of_ble_eq_true rfl), (Nat.le_of_ble_eq_true rfl)⟩ dX10_qAsksWord_168) (fun u112 H locs hw hP hD hS => ?_)
      obtain ⟨v113, v114, v115, v116⟩ := u112
      try dsimp only at hP hD hw
      replace hP : va_P (dC, dI) vwCl [(wi_rm97_2_6_0 rm cy g_secondAsked), (wi_rm98_2_3_0 rm cy g_dayAsked), (wi_rm99_2_5_0 rm cy g_phaseAsked), (wi_rm100_2_6_0 rm cy g_waitedAsked), (wi_rm101_2_4_0 rm cy g_calmAsked), (wi_rm102_2_4_0 rm cy g_paceAsked), (wi_rm103_2_6_0 rm cy g_trustsAsked), (wi_rm104_2_3_0 rm cy g_gapAsked), (wi_rm105_2_4_0 rm cy g_redsAsked), (wi_rm107_2_4_0 rm cy g_wentAsked), (wi_rm108_2_4_0 rm cy g_harmAsked), (wi_rm109_2_4_0 rm cy g_kindofAsked), (a_this, .inr (10, mfs rm x_taped v113 x_end v114 v115 v116 x_fault x_faultPlace x_namePlace x_awayTold x_away x_coded x_statements x_isCrossing x_textKind x_askSecond x_redMany x_isOpen x_lastGreen x_greenTo x_isCycleGreen x_stillGreen x_rowMany x_fitMany x_fitRules x_fitGreen x_undoable x_newest x_seeded x_qCoded x_qWaits x_qOpened x_qBase x_qPiled x_qAnswer x_qIsNew x_octets)), (wi_rm0_0_1600_0 rm cy g_tape), (wi_rm106_2_6_0 rm cy g_numberAsked)] H := hP
      replace hD := k_D hP hD
      obtain ⟨h117, h118, h119, h120, h121⟩ := hw
      replace hq := lf_p1 hq h121
      replace hq := lf_p1 hq rfl
      replace hq := lf_p1 hq rfl
      refine lv_goto (tgt := 204) hx hb dX10_qAsksWord_171 rfl ?_
      subst hQ; exact k_vret hx hb hr hlk ((v113, v114, v115, v116)) hS ⟨ib_w 0 1600 h117 rfl, fun q => (fun q => q) (h118 q), (by have := h119; omega), fun hq9 => (by have := (h120 hq9); omega), (hO.symm.trans (by exact hq))⟩ (hP.sub [12, 13, 0, 1, 2, 3, 4, 5, 6, 7, 8, 14, 9, 10, 11] rfl) (hD.sub [12, 13, 0, 1, 2, 3, 4, 5, 6, 7, 8, 14, 9, 10, 11] (by decide +kernel) rfl) (Nat.le_of_ble_eq_true rfl) (Nat.le_of_ble_eq_true rfl) dX10_qAsksWord_204
    replace hq := lf_neg hq (lf_ne (lf_rf p0) (lf_lc 9 (9 : Int) rfl) s1_9)
    rcases Decidable.em (p0 = 10) with s1_10 | s1_10
    · skip
      replace hq := lf_pos hq (lf_eq (lf_rf p0) (lf_lc 10 (10 : Int) rfl) s1_10)
      have h122 : ib p0 10 10 := by rw [s1_10]; exact ib_c 10 10 10 rfl
      refine lv_tableIn (off := 173) (tgt := 174) hx hb dX10_qAsksWord_1 (by rw [s1_10]; decide) (by rw [s1_10]; decide) (by rw [s1_10]; decide) (by decide) ?_
      refine lv_aload_n hx hb dX10_qAsksWord_174 rfl (lv_at hl 0 rfl) ?_
      refine lv_aload_n hx hb dX10_qAsksWord_175 rfl (lv_at hl 0 rfl) ?_
      refine k_get C0 fg_X10_255 hP 0 rfl rfl dX10_qAsksWord_176 ?_
      refine k_jvm hP hD hS hA [0, 1, 12] [false, false, true, true, true, true, true, true, true, true, true, true, false, true, true] rfl rfl (by decide +kernel) 0 0 (Nat.le_of_ble_eq_true rfl) (Nat.le_of_ble_eq_true rfl) (fun hPc hDc => k_runV (As := [.ref (rm 107)]) (rest := []) C0 hZ hS hA (s_X10_asks_r4 l dC dI cy sq a_this rm x_taped x_at x_end x_ended x_bad x_badPlace x_fault x_faultPlace x_namePlace x_awayTold x_away x_coded x_statements x_isCrossing x_textKind x_askSecond x_redMany x_isOpen x_lastGreen x_greenTo x_isCycleGreen x_stillGreen x_rowMany x_fitMany x_fitRules x_fitGreen x_undoable x_newest x_seeded x_qCoded x_qWaits x_qOpened x_qBase x_qPiled x_qAnswer x_qIsNew x_octets g_tape (rm 107) g_wentAsked (ib_w 0 1600 hx_at rfl) (ib_w 0 1600 hx_end rfl) hg_tape) mV_X10_350 hPc hDc rfl rfl rfl hl rfl rfl (Nat.le_of_ble_eq_true rfl) ⟨(Nat.le_of_ble_eq_true rfl), (Nat.le_of_ble_eq_true rfl)⟩ ⟨(Nat.le_of_ble_eq_true rfl), (Nat.le_of_ble_eq_true rfl)⟩ dX10_qAsksWord_179) (fun u124 H locs hw hP hD hS => ?_)
      obtain ⟨v125, v126, v127, v128⟩ := u124
      try dsimp only at hP hD hw
      replace hP : va_P (dC, dI) vwCl [(wi_rm97_2_6_0 rm cy g_secondAsked), (wi_rm98_2_3_0 rm cy g_dayAsked), (wi_rm99_2_5_0 rm cy g_phaseAsked), (wi_rm100_2_6_0 rm cy g_waitedAsked), (wi_rm101_2_4_0 rm cy g_calmAsked), (wi_rm102_2_4_0 rm cy g_paceAsked), (wi_rm103_2_6_0 rm cy g_trustsAsked), (wi_rm104_2_3_0 rm cy g_gapAsked), (wi_rm105_2_4_0 rm cy g_redsAsked), (wi_rm106_2_6_0 rm cy g_numberAsked), (wi_rm108_2_4_0 rm cy g_harmAsked), (wi_rm109_2_4_0 rm cy g_kindofAsked), (a_this, .inr (10, mfs rm x_taped v125 x_end v126 v127 v128 x_fault x_faultPlace x_namePlace x_awayTold x_away x_coded x_statements x_isCrossing x_textKind x_askSecond x_redMany x_isOpen x_lastGreen x_greenTo x_isCycleGreen x_stillGreen x_rowMany x_fitMany x_fitRules x_fitGreen x_undoable x_newest x_seeded x_qCoded x_qWaits x_qOpened x_qBase x_qPiled x_qAnswer x_qIsNew x_octets)), (wi_rm0_0_1600_0 rm cy g_tape), (wi_rm107_2_4_0 rm cy g_wentAsked)] H := hP
      replace hD := k_D hP hD
      obtain ⟨h129, h130, h131, h132, h133⟩ := hw
      replace hq := lf_p1 hq h133
      replace hq := lf_p1 hq rfl
      replace hq := lf_p1 hq rfl
      refine lv_goto (tgt := 204) hx hb dX10_qAsksWord_182 rfl ?_
      subst hQ; exact k_vret hx hb hr hlk ((v125, v126, v127, v128)) hS ⟨ib_w 0 1600 h129 rfl, fun q => (fun q => q) (h130 q), (by have := h131; omega), fun hq9 => (by have := (h132 hq9); omega), (hO.symm.trans (by exact hq))⟩ (hP.sub [12, 13, 0, 1, 2, 3, 4, 5, 6, 7, 8, 9, 14, 10, 11] rfl) (hD.sub [12, 13, 0, 1, 2, 3, 4, 5, 6, 7, 8, 9, 14, 10, 11] (by decide +kernel) rfl) (Nat.le_of_ble_eq_true rfl) (Nat.le_of_ble_eq_true rfl) dX10_qAsksWord_204
    replace hq := lf_neg hq (lf_ne (lf_rf p0) (lf_lc 10 (10 : Int) rfl) s1_10)
    rcases Decidable.em (p0 = 11) with s1_11 | s1_11
    · skip
      replace hq := lf_pos hq (lf_eq (lf_rf p0) (lf_lc 11 (11 : Int) rfl) s1_11)
      have h134 : ib p0 11 11 := by rw [s1_11]; exact ib_c 11 11 11 rfl
      refine lv_tableIn (off := 184) (tgt := 185) hx hb dX10_qAsksWord_1 (by rw [s1_11]; decide) (by rw [s1_11]; decide) (by rw [s1_11]; decide) (by decide) ?_
      refine lv_aload_n hx hb dX10_qAsksWord_185 rfl (lv_at hl 0 rfl) ?_
      refine lv_aload_n hx hb dX10_qAsksWord_186 rfl (lv_at hl 0 rfl) ?_
      refine k_get C0 fg_X10_258 hP 0 rfl rfl dX10_qAsksWord_187 ?_
      refine k_jvm hP hD hS hA [0, 1, 13] [false, false, true, true, true, true, true, true, true, true, true, true, true, false, true] rfl rfl (by decide +kernel) 0 0 (Nat.le_of_ble_eq_true rfl) (Nat.le_of_ble_eq_true rfl) (fun hPc hDc => k_runV (As := [.ref (rm 108)]) (rest := []) C0 hZ hS hA (s_X10_asks_r4 l dC dI cy sq a_this rm x_taped x_at x_end x_ended x_bad x_badPlace x_fault x_faultPlace x_namePlace x_awayTold x_away x_coded x_statements x_isCrossing x_textKind x_askSecond x_redMany x_isOpen x_lastGreen x_greenTo x_isCycleGreen x_stillGreen x_rowMany x_fitMany x_fitRules x_fitGreen x_undoable x_newest x_seeded x_qCoded x_qWaits x_qOpened x_qBase x_qPiled x_qAnswer x_qIsNew x_octets g_tape (rm 108) g_harmAsked (ib_w 0 1600 hx_at rfl) (ib_w 0 1600 hx_end rfl) hg_tape) mV_X10_350 hPc hDc rfl rfl rfl hl rfl rfl (Nat.le_of_ble_eq_true rfl) ⟨(Nat.le_of_ble_eq_true rfl), (Nat.le_of_ble_eq_true rfl)⟩ ⟨(Nat.le_of_ble_eq_true rfl), (Nat.le_of_ble_eq_true rfl)⟩ dX10_qAsksWord_190) (fun u136 H locs hw hP hD hS => ?_)
      obtain ⟨v137, v138, v139, v140⟩ := u136
      try dsimp only at hP hD hw
      replace hP : va_P (dC, dI) vwCl [(wi_rm97_2_6_0 rm cy g_secondAsked), (wi_rm98_2_3_0 rm cy g_dayAsked), (wi_rm99_2_5_0 rm cy g_phaseAsked), (wi_rm100_2_6_0 rm cy g_waitedAsked), (wi_rm101_2_4_0 rm cy g_calmAsked), (wi_rm102_2_4_0 rm cy g_paceAsked), (wi_rm103_2_6_0 rm cy g_trustsAsked), (wi_rm104_2_3_0 rm cy g_gapAsked), (wi_rm105_2_4_0 rm cy g_redsAsked), (wi_rm106_2_6_0 rm cy g_numberAsked), (wi_rm107_2_4_0 rm cy g_wentAsked), (wi_rm109_2_4_0 rm cy g_kindofAsked), (a_this, .inr (10, mfs rm x_taped v137 x_end v138 v139 v140 x_fault x_faultPlace x_namePlace x_awayTold x_away x_coded x_statements x_isCrossing x_textKind x_askSecond x_redMany x_isOpen x_lastGreen x_greenTo x_isCycleGreen x_stillGreen x_rowMany x_fitMany x_fitRules x_fitGreen x_undoable x_newest x_seeded x_qCoded x_qWaits x_qOpened x_qBase x_qPiled x_qAnswer x_qIsNew x_octets)), (wi_rm0_0_1600_0 rm cy g_tape), (wi_rm108_2_4_0 rm cy g_harmAsked)] H := hP
      replace hD := k_D hP hD
      obtain ⟨h141, h142, h143, h144, h145⟩ := hw
      replace hq := lf_p1 hq h145
      replace hq := lf_p1 hq rfl
      replace hq := lf_p1 hq rfl
      refine lv_goto (tgt := 204) hx hb dX10_qAsksWord_193 rfl ?_
      subst hQ; exact k_vret hx hb hr hlk ((v137, v138, v139, v140)) hS ⟨ib_w 0 1600 h141 rfl, fun q => (fun q => q) (h142 q), (by have := h143; omega), fun hq9 => (by have := (h144 hq9); omega), (hO.symm.trans (by exact hq))⟩ (hP.sub [12, 13, 0, 1, 2, 3, 4, 5, 6, 7, 8, 9, 10, 14, 11] rfl) (hD.sub [12, 13, 0, 1, 2, 3, 4, 5, 6, 7, 8, 9, 10, 14, 11] (by decide +kernel) rfl) (Nat.le_of_ble_eq_true rfl) (Nat.le_of_ble_eq_true rfl) dX10_qAsksWord_204
    replace hq := lf_neg hq (lf_ne (lf_rf p0) (lf_lc 11 (11 : Int) rfl) s1_11)
    refine lv_tableOut (tgt := 196) hx hb dX10_qAsksWord_1 (by have q0 := ib_nei 0 0 rfl s1_0; have q1 := ib_nei 1 1 rfl s1_1; have q2 := ib_nei 2 2 rfl s1_2; have q3 := ib_nei 3 3 rfl s1_3; have q4 := ib_nei 4 4 rfl s1_4; have q5 := ib_nei 5 5 rfl s1_5; have q6 := ib_nei 6 6 rfl s1_6; have q7 := ib_nei 7 7 rfl s1_7; have q8 := ib_nei 8 8 rfl s1_8; have q9 := ib_nei 9 9 rfl s1_9; have q10 := ib_nei 10 10 rfl s1_10; have q11 := ib_nei 11 11 rfl s1_11; omega) (by decide) ?_
    refine lv_aload_n hx hb dX10_qAsksWord_196 rfl (lv_at hl 0 rfl) ?_
    refine lv_aload_n hx hb dX10_qAsksWord_197 rfl (lv_at hl 0 rfl) ?_
    refine k_get C0 fg_X10_261 hP 0 rfl rfl dX10_qAsksWord_198 ?_
    refine k_jvm hP hD hS hA [0, 1, 14] [false, false, true, true, true, true, true, true, true, true, true, true, true, true] rfl rfl (by decide +kernel) 0 0 (Nat.le_of_ble_eq_true rfl) (Nat.le_of_ble_eq_true rfl) (fun hPc hDc => k_runV (As := [.ref (rm 109)]) (rest := []) C0 hZ hS hA (s_X10_asks_r4 l dC dI cy sq a_this rm x_taped x_at x_end x_ended x_bad x_badPlace x_fault x_faultPlace x_namePlace x_awayTold x_away x_coded x_statements x_isCrossing x_textKind x_askSecond x_redMany x_isOpen x_lastGreen x_greenTo x_isCycleGreen x_stillGreen x_rowMany x_fitMany x_fitRules x_fitGreen x_undoable x_newest x_seeded x_qCoded x_qWaits x_qOpened x_qBase x_qPiled x_qAnswer x_qIsNew x_octets g_tape (rm 109) g_kindofAsked (ib_w 0 1600 hx_at rfl) (ib_w 0 1600 hx_end rfl) hg_tape) mV_X10_350 hPc hDc rfl rfl rfl hl rfl rfl (Nat.le_of_ble_eq_true rfl) ⟨(Nat.le_of_ble_eq_true rfl), (Nat.le_of_ble_eq_true rfl)⟩ ⟨(Nat.le_of_ble_eq_true rfl), (Nat.le_of_ble_eq_true rfl)⟩ dX10_qAsksWord_201) (fun u147 H locs hw hP hD hS => ?_)
    obtain ⟨v148, v149, v150, v151⟩ := u147
    try dsimp only at hP hD hw
    replace hP : va_P (dC, dI) vwCl [(wi_rm97_2_6_0 rm cy g_secondAsked), (wi_rm98_2_3_0 rm cy g_dayAsked), (wi_rm99_2_5_0 rm cy g_phaseAsked), (wi_rm100_2_6_0 rm cy g_waitedAsked), (wi_rm101_2_4_0 rm cy g_calmAsked), (wi_rm102_2_4_0 rm cy g_paceAsked), (wi_rm103_2_6_0 rm cy g_trustsAsked), (wi_rm104_2_3_0 rm cy g_gapAsked), (wi_rm105_2_4_0 rm cy g_redsAsked), (wi_rm106_2_6_0 rm cy g_numberAsked), (wi_rm107_2_4_0 rm cy g_wentAsked), (wi_rm108_2_4_0 rm cy g_harmAsked), (a_this, .inr (10, mfs rm x_taped v148 x_end v149 v150 v151 x_fault x_faultPlace x_namePlace x_awayTold x_away x_coded x_statements x_isCrossing x_textKind x_askSecond x_redMany x_isOpen x_lastGreen x_greenTo x_isCycleGreen x_stillGreen x_rowMany x_fitMany x_fitRules x_fitGreen x_undoable x_newest x_seeded x_qCoded x_qWaits x_qOpened x_qBase x_qPiled x_qAnswer x_qIsNew x_octets)), (wi_rm0_0_1600_0 rm cy g_tape), (wi_rm109_2_4_0 rm cy g_kindofAsked)] H := hP
    replace hD := k_D hP hD
    obtain ⟨h152, h153, h154, h155, h156⟩ := hw
    replace hq := lf_p1 hq h156
    replace hq := lf_p1 hq rfl
    replace hq := lf_p1 hq rfl
    subst hQ; exact k_vret hx hb hr hlk ((v148, v149, v150, v151)) hS ⟨ib_w 0 1600 h152 rfl, fun q => (fun q => q) (h153 q), (by have := h154; omega), fun hq9 => (by have := (h155 hq9); omega), (hO.symm.trans (by exact hq))⟩ (hP.sub [12, 13, 0, 1, 2, 3, 4, 5, 6, 7, 8, 9, 10, 11, 14] rfl) (hD.sub [12, 13, 0, 1, 2, 3, 4, 5, 6, 7, 8, 9, 10, 11, 14] (by decide +kernel) rfl) (Nat.le_of_ble_eq_true rfl) (Nat.le_of_ble_eq_true rfl) dX10_qAsksWord_204
