set_option maxHeartbeats 4000000 in
set_option maxRecDepth 100000 in
theorem s_X10_kindMany (l : Launch) (dC : Nat → ClassId) (dI : Nat → Nat → Nat) (cy : Nat → ClassId) (sq : Nat → Nat) (a_this : Nat) (rm : Nat → Nat) (x_taped : Int32) (x_at : Int32) (x_end : Int32) (x_ended : Int32) (x_bad : Int32) (x_badPlace : Int32) (x_fault : Int32) (x_faultPlace : Int32) (x_namePlace : Int32) (x_awayTold : Int32) (x_away : Int32) (x_coded : Int32) (x_statements : Int32) (x_isCrossing : Int32) (x_textKind : Int32) (x_askSecond : Int32) (x_redMany : Int32) (x_isOpen : Int32) (x_lastGreen : Int32) (x_greenTo : Int32) (x_isCycleGreen : Int32) (x_stillGreen : Int32) (x_rowMany : Int32) (x_fitMany : Int32) (x_fitRules : Int32) (x_fitGreen : Int32) (x_undoable : Int32) (x_newest : Int32) (x_seeded : Int64) (x_qCoded : Int32) (x_qWaits : Int32) (x_qOpened : Int32) (x_qBase : Int32) (x_qPiled : Int32) (x_qAnswer : Int64) (x_qIsNew : Int32) (x_octets : Int32) (g_many : Nat → Int32)  : k_Met l yX10_kindMany cX10_kindMany 1 (some .int) { frames := 0, cells := 0, slots := 0, locals := 0 } dC dI cy sq [.ref a_this] [(a_this, .inr (10, mfs rm x_taped x_at x_end x_ended x_bad x_badPlace x_fault x_faultPlace x_namePlace x_awayTold x_away x_coded x_statements x_isCrossing x_textKind x_askSecond x_redMany x_isOpen x_lastGreen x_greenTo x_isCycleGreen x_stillGreen x_rowMany x_fitMany x_fitRules x_fitGreen x_undoable x_newest x_seeded x_qCoded x_qWaits x_qOpened x_qBase x_qPiled x_qAnswer x_qIsNew x_octets)), (wi_rm41_0_4_0 rm cy g_many)] (k_Qi dC dI (fun (r : Int32) (_ : Unit) => r = (g_many 2) ∧ (F_X10_kindMany (lf_A g_many) = ((Int32.toInt r)))) (fun _ : Unit => [(a_this, .inr (10, mfs rm x_taped x_at x_end x_ended x_bad x_badPlace x_fault x_faultPlace x_namePlace x_awayTold x_away x_coded x_statements x_isCrossing x_textKind x_askSecond x_redMany x_isOpen x_lastGreen x_greenTo x_isCycleGreen x_stillGreen x_rowMany x_fitMany x_fitRules x_fitGreen x_undoable x_newest x_seeded x_qCoded x_qWaits x_qOpened x_qBase x_qPiled x_qAnswer x_qIsNew x_octets)), (wi_rm41_0_4_0 rm cy g_many)])) := by
  refine k_ofW2 (by decide +kernel) (Nat.le_of_ble_eq_true rfl) ?_
  intro p e s m below meth c A ls H locs args Q hQ C0 hZ hr hlk hin hP hD hA hS hl
  have C0 : k_cx p s m args c cX10_kindMany 1 RX10 dC dI cy sq := C0
  have hx := C0.1
  have hb := C0.2.1
  have hl : lv_has ls 1 [(0, .ref a_this)] := hl
  obtain ⟨O, hO⟩ : ∃ o, o = F_X10_kindMany (lf_A g_many) := ⟨_, rfl⟩
  have hq := hO
  unfold F_X10_kindMany at hq
  refine lv_aload_n hx hb dX10_kindMany_0 rfl (lv_at hl 0 rfl) ?_
  refine k_get C0 fg_X10_111 hP 0 rfl rfl dX10_kindMany_1 ?_
  refine lv_iconst (v := 2) hx hb dX10_kindMany_4 rfl ?_
  refine va_iald hx hb C0.2.2.2.2.2.1 hP 1 0 rfl rfl (k_in 2 4 rfl) dX10_kindMany_5 ?_
  refine k_topi (y := g_many 2) rfl ?_
  subst hQ; exact k_iret hx hb hr hlk rfl () hS ⟨rfl, (hO.symm.trans (by rw [lf_u (lf_pt (lf_ra g_many) 2)]; exact hq))⟩ hP hD (Nat.le_of_ble_eq_true rfl) (Nat.le_of_ble_eq_true rfl) dX10_kindMany_6
set_option maxHeartbeats 4000000 in
set_option maxRecDepth 100000 in
theorem s_X10_isKind (l : Launch) (dC : Nat → ClassId) (dI : Nat → Nat → Nat) (cy : Nat → ClassId) (sq : Nat → Nat) (a_this : Nat) (rm : Nat → Nat) (x_taped : Int32) (x_at : Int32) (x_end : Int32) (x_ended : Int32) (x_bad : Int32) (x_badPlace : Int32) (x_fault : Int32) (x_faultPlace : Int32) (x_namePlace : Int32) (x_awayTold : Int32) (x_away : Int32) (x_coded : Int32) (x_statements : Int32) (x_isCrossing : Int32) (x_textKind : Int32) (x_askSecond : Int32) (x_redMany : Int32) (x_isOpen : Int32) (x_lastGreen : Int32) (x_greenTo : Int32) (x_isCycleGreen : Int32) (x_stillGreen : Int32) (x_rowMany : Int32) (x_fitMany : Int32) (x_fitRules : Int32) (x_fitGreen : Int32) (x_undoable : Int32) (x_newest : Int32) (x_seeded : Int64) (x_qCoded : Int32) (x_qWaits : Int32) (x_qOpened : Int32) (x_qBase : Int32) (x_qPiled : Int32) (x_qAnswer : Int64) (x_qIsNew : Int32) (x_octets : Int32) (g_many : Nat → Int32) (p0 : Int32) (hg_many_2 : ib (g_many 2) 0 6) : k_Met l yX10_isKind cX10_isKind 2 (some .boolean) { frames := 1, cells := 0, slots := 0, locals := 25 } dC dI cy sq [.ref a_this, .int p0] [(a_this, .inr (10, mfs rm x_taped x_at x_end x_ended x_bad x_badPlace x_fault x_faultPlace x_namePlace x_awayTold x_away x_coded x_statements x_isCrossing x_textKind x_askSecond x_redMany x_isOpen x_lastGreen x_greenTo x_isCycleGreen x_stillGreen x_rowMany x_fitMany x_fitRules x_fitGreen x_undoable x_newest x_seeded x_qCoded x_qWaits x_qOpened x_qBase x_qPiled x_qAnswer x_qIsNew x_octets)), (wi_rm41_0_4_0 rm cy g_many)] (k_Qi dC dI (fun (r : Int32) (_ : Unit) => ib r 0 1 ∧ (¬ r = 0 → ib (g_many 2) 1 6) ∧ (¬ r = 0 → ib p0 0 5) ∧ (F_X10_isKind (lf_A g_many) (Int32.toInt p0) = ((Int32.toInt r)))) (fun _ : Unit => [(a_this, .inr (10, mfs rm x_taped x_at x_end x_ended x_bad x_badPlace x_fault x_faultPlace x_namePlace x_awayTold x_away x_coded x_statements x_isCrossing x_textKind x_askSecond x_redMany x_isOpen x_lastGreen x_greenTo x_isCycleGreen x_stillGreen x_rowMany x_fitMany x_fitRules x_fitGreen x_undoable x_newest x_seeded x_qCoded x_qWaits x_qOpened x_qBase x_qPiled x_qAnswer x_qIsNew x_octets)), (wi_rm41_0_4_0 rm cy g_many)])) := by
  refine k_ofW2 (by decide +kernel) (Nat.le_of_ble_eq_true rfl) ?_
  intro p e s m below meth c A ls H locs args Q hQ C0 hZ hr hlk hin hP hD hA hS hl
  have C0 : k_cx p s m args c cX10_isKind 2 RX10 dC dI cy sq := C0
  have hx := C0.1
  have hb := C0.2.1
  have hl : lv_has ls 2 [(0, .ref a_this), (1, .int p0)] := hl
  obtain ⟨O, hO⟩ : ∃ o, o = F_X10_isKind (lf_A g_many) (Int32.toInt p0) := ⟨_, rfl⟩
  have hq := hO
  unfold F_X10_isKind at hq
  refine lv_iload_n hx hb dX10_isKind_0 rfl (lv_at hl 1 rfl) ?_
  refine lv_i2l (v := p0.toInt64) hx hb dX10_isKind_1 rfl ?_
  refine lv_lconst (v := 0) hx hb dX10_isKind_2 (by decide) ?_
  refine lv_aload_n hx hb dX10_isKind_3 rfl (lv_at hl 0 rfl) ?_
  refine k_jim hP hD hS hA [0, 1] [] rfl rfl rfl 0 0 (Nat.le_of_ble_eq_true rfl) (Nat.le_of_ble_eq_true rfl) (fun hPc hDc => k_runV (As := []) (rest := [.long 0, .long p0.toInt64]) C0 hZ hS hA (s_X10_kindMany l dC dI cy sq a_this rm x_taped x_at x_end x_ended x_bad x_badPlace x_fault x_faultPlace x_namePlace x_awayTold x_away x_coded x_statements x_isCrossing x_textKind x_askSecond x_redMany x_isOpen x_lastGreen x_greenTo x_isCycleGreen x_stillGreen x_rowMany x_fitMany x_fitRules x_fitGreen x_undoable x_newest x_seeded x_qCoded x_qWaits x_qOpened x_qBase x_qPiled x_qAnswer x_qIsNew x_octets g_many ) mV_X10_430 hPc hDc rfl rfl rfl hl rfl rfl (Nat.le_of_ble_eq_true rfl) ⟨(Nat.le_of_ble_eq_true rfl), (Nat.le_of_ble_eq_true rfl)⟩ ⟨(Nat.le_of_ble_eq_true rfl), (Nat.le_of_ble_eq_true rfl)⟩ dX10_isKind_4) (fun r1 u2 H locs hw hP hD hS => ?_)
  try dsimp only at hP hD hw
  replace hP : va_P (dC, dI) vwCl [(a_this, .inr (10, mfs rm x_taped x_at x_end x_ended x_bad x_badPlace x_fault x_faultPlace x_namePlace x_awayTold x_away x_coded x_statements x_isCrossing x_textKind x_askSecond x_redMany x_isOpen x_lastGreen x_greenTo x_isCycleGreen x_stillGreen x_rowMany x_fitMany x_fitRules x_fitGreen x_undoable x_newest x_seeded x_qCoded x_qWaits x_qOpened x_qBase x_qPiled x_qAnswer x_qIsNew x_octets)), (wi_rm41_0_4_0 rm cy g_many)] H := hP
  replace hD := k_D hP hD
  obtain ⟨h3, h4⟩ := hw
  subst h3
  replace hq := lf_b1 hq h4
  refine lv_iconst (v := 1) hx hb dX10_isKind_7 rfl ?_
  refine lv_isub hx hb dX10_isKind_8 ?_
  refine lv_topi (fun z5 ez5 => ?_)
  have h6 := ib_sub hg_many_2 (ib_c 1 1 1 rfl) rfl
  rw [← ez5] at h6
  have h7 : ib z5 (-1) 5 := ib_w (-1) 5 h6.1 rfl
  have Ez5 := lf_sub h6.2 (lf_pt (lf_ra g_many) 2) (lf_lc 1 (1 : Int) rfl)
  refine lv_i2l (v := z5.toInt64) hx hb dX10_isKind_9 rfl ?_
  refine k_jim hP hD hS hA [] [true, true] rfl rfl rfl 0 0 (Nat.le_of_ble_eq_true rfl) (Nat.le_of_ble_eq_true rfl) (fun hPc hDc => k_runS (As := [.long p0.toInt64, .long 0, .long z5.toInt64]) (rest := []) C0 hZ hS hA (c_isIn l dC dI cy sq p0.toInt64 0 z5.toInt64) mS_X10_318 hPc hDc hl rfl rfl (Nat.le_of_ble_eq_true rfl) ⟨(Nat.le_of_ble_eq_true rfl), (Nat.le_of_ble_eq_true rfl)⟩ ⟨(Nat.le_of_ble_eq_true rfl), (Nat.le_of_ble_eq_true rfl)⟩ dX10_isKind_10) (fun r8 u9 H locs hw hP hD hS => ?_)
  replace hP : va_P (dC, dI) vwCl [(a_this, .inr (10, mfs rm x_taped x_at x_end x_ended x_bad x_badPlace x_fault x_faultPlace x_namePlace x_awayTold x_away x_coded x_statements x_isCrossing x_textKind x_askSecond x_redMany x_isOpen x_lastGreen x_greenTo x_isCycleGreen x_stillGreen x_rowMany x_fitMany x_fitRules x_fitGreen x_undoable x_newest x_seeded x_qCoded x_qWaits x_qOpened x_qBase x_qPiled x_qAnswer x_qIsNew x_octets)), (wi_rm41_0_4_0 rm cy g_many)] H := hP
  replace hD := k_D hP hD
  have h10 := hw
  have h11 : ib r8 0 1 := by rw [h10]; exact k_isf_01 _ _ _
  have Er8 := lf_isine h10 (lf_i2l (lf_rf p0)) (lf_ll 0 (0 : Int) rfl) (lf_i2l Ez5)
  subst hQ; exact k_iret hx hb hr hlk (ib_bool (ib_w 0 1 h11 rfl)) () hS ⟨ib_w 0 1 h11 rfl, fun hq9 => ib_w 1 6 (ib_two hg_many_2 ((fun q9 => (show ib (g_many 2) 1 6 from ⟨by have q1 := k_isf_u h10 (show 0 ≤ (0 : Int64).toInt by decide) h7 q9; have q3 := q1.1; have q4 := q1.2; have q2 := h6.2; have : (1 : Int32).toInt = 1 := rfl; have := (hg_many_2).1; have := (hg_many_2).2; omega, by have q1 := k_isf_u h10 (show 0 ≤ (0 : Int64).toInt by decide) h7 q9; have q3 := q1.1; have q4 := q1.2; have q2 := h6.2; have : (1 : Int32).toInt = 1 := rfl; have := (hg_many_2).1; have := (hg_many_2).2; omega⟩)) hq9)) rfl, fun hq9 => ib_w 0 5 (ib_two (ib_any p0) (k_isf_v h10 (show 0 ≤ (0 : Int64).toInt by decide) (by rw [Int32.toInt_toInt64]; exact (h7).2) hq9)) rfl, (hO.symm.trans (by rw [lf_u Er8]; exact hq))⟩ hP hD (Nat.le_of_ble_eq_true rfl) (Nat.le_of_ble_eq_true rfl) dX10_isKind_13
set_option maxHeartbeats 4000000 in
set_option maxRecDepth 100000 in
theorem s_X10_putsAside (l : Launch) (dC : Nat → ClassId) (dI : Nat → Nat → Nat) (cy : Nat → ClassId) (sq : Nat → Nat) (a_this : Nat) (rm : Nat → Nat) (x_taped : Int32) (x_at : Int32) (x_end : Int32) (x_ended : Int32) (x_bad : Int32) (x_badPlace : Int32) (x_fault : Int32) (x_faultPlace : Int32) (x_namePlace : Int32) (x_awayTold : Int32) (x_away : Int32) (x_coded : Int32) (x_statements : Int32) (x_isCrossing : Int32) (x_textKind : Int32) (x_askSecond : Int32) (x_redMany : Int32) (x_isOpen : Int32) (x_lastGreen : Int32) (x_greenTo : Int32) (x_isCycleGreen : Int32) (x_stillGreen : Int32) (x_rowMany : Int32) (x_fitMany : Int32) (x_fitRules : Int32) (x_fitGreen : Int32) (x_undoable : Int32) (x_newest : Int32) (x_seeded : Int64) (x_qCoded : Int32) (x_qWaits : Int32) (x_qOpened : Int32) (x_qBase : Int32) (x_qPiled : Int32) (x_qAnswer : Int64) (x_qIsNew : Int32) (x_octets : Int32) (g_now : Nat → Int32) (g_aside : Nat → Int32)  : k_Met l yX10_putsAside cX10_putsAside 2 none { frames := 0, cells := 0, slots := 0, locals := 0 } dC dI cy sq [.ref a_this] [(a_this, .inr (10, mfs rm x_taped x_at x_end x_ended x_bad x_badPlace x_fault x_faultPlace x_namePlace x_awayTold x_away x_coded x_statements x_isCrossing x_textKind x_askSecond x_redMany x_isOpen x_lastGreen x_greenTo x_isCycleGreen x_stillGreen x_rowMany x_fitMany x_fitRules x_fitGreen x_undoable x_newest x_seeded x_qCoded x_qWaits x_qOpened x_qBase x_qPiled x_qAnswer x_qIsNew x_octets)), (wi_rm56_0_9_0 rm cy g_now), (wi_rm57_0_9_0 rm cy g_aside)] (k_Qv dC dI (fun (n0 : (Nat → Int32)) => (F_X10_putsAside (lf_A g_now) (lf_A g_aside) = ((lf_A n0)))) (fun n0 : (Nat → Int32) => [(a_this, .inr (10, mfs rm x_taped x_at x_end x_ended x_bad x_badPlace x_fault x_faultPlace x_namePlace x_awayTold x_away x_coded x_statements x_isCrossing x_textKind x_askSecond x_redMany x_isOpen x_lastGreen x_greenTo x_isCycleGreen x_stillGreen x_rowMany x_fitMany x_fitRules x_fitGreen x_undoable x_newest x_seeded x_qCoded x_qWaits x_qOpened x_qBase x_qPiled x_qAnswer x_qIsNew x_octets)), (wi_rm56_0_9_0 rm cy g_now), (wi_rm57_0_9_0 rm cy n0)])) := by
  refine k_ofW2 (by decide +kernel) (Nat.le_of_ble_eq_true rfl) ?_
  intro p e s m below meth c A ls H locs args Q hQ C0 hZ hr hlk hin hP hD hA hS hl
  have C0 : k_cx p s m args c cX10_putsAside 2 RX10 dC dI cy sq := C0
  have hx := C0.1
  have hb := C0.2.1
  have hl : lv_has ls 2 [(0, .ref a_this)] := hl
  obtain ⟨O, hO⟩ : ∃ o, o = F_X10_putsAside (lf_A g_now) (lf_A g_aside) := ⟨_, rfl⟩
  have hq := hO
  unfold F_X10_putsAside at hq
  have jn2 : ∀ (n : Nat) (J2_l1 : Int32) (J2_a2 : Nat → Int32) (H : Heap) (locs : List Loc) (ls : Array Slot), ib J2_l1 0 9 → (O = F_X10_putsAside_2 (lf_A g_now) n (Int32.toInt J2_l1) (lf_A J2_a2)) → 10 ≤ J2_l1.toInt + (n : Int) → va_P (dC, dI) vwCl [(a_this, .inr (10, mfs rm x_taped x_at x_end x_ended x_bad x_badPlace x_fault x_faultPlace x_namePlace x_awayTold x_away x_coded x_statements x_isCrossing x_textKind x_askSecond x_redMany x_isOpen x_lastGreen x_greenTo x_isCycleGreen x_stillGreen x_rowMany x_fitMany x_fitRules x_fitGreen x_undoable x_newest x_seeded x_qCoded x_qWaits x_qOpened x_qBase x_qPiled x_qAnswer x_qIsNew x_octets)), (wi_rm56_0_9_0 rm cy g_now), (wi_rm57_0_9_0 rm cy J2_a2)] H → va_D A [(a_this, .inr (10, mfs rm x_taped x_at x_end x_ended x_bad x_badPlace x_fault x_faultPlace x_namePlace x_awayTold x_away x_coded x_statements x_isCrossing x_textKind x_askSecond x_redMany x_isOpen x_lastGreen x_greenTo x_isCycleGreen x_stillGreen x_rowMany x_fitMany x_fitRules x_fitGreen x_undoable x_newest x_seeded x_qCoded x_qWaits x_qOpened x_qBase x_qPiled x_qAnswer x_qIsNew x_octets)), (wi_rm56_0_9_0 rm cy g_now), (wi_rm57_0_9_0 rm cy J2_a2)] → va_S A s.heap H locs → lv_has ls 2 [(0, .ref a_this), (1, .int J2_l1)] → W p l e { frames := 0, cells := 0, slots := 0, locals := 0 } s m args below meth c H locs 0 0 Q (F0 m 2 ls []) := by
    intro n
    induction n with
    | zero =>
      intro J2_l1 J2_a2 H locs ls hJ2_l1 hq hm
      exact absurd hm (by have := hJ2_l1; unfold ib at this; omega)
    | succ n ih =>
      intro J2_l1 J2_a2 H locs ls hJ2_l1 hq hm2 hP hD hS hl
      have ih2 := ih
      obtain ⟨K2, hK2⟩ : ∃ K, K = F_X10_putsAside_2 (lf_A g_now) n := ⟨_, rfl⟩
      have hq : O = F_X10_putsAside_2b (lf_A g_now) K2 (Int32.toInt J2_l1) (lf_A J2_a2) := by rw [hK2]; exact hq
      unfold F_X10_putsAside_2b at hq
      refine lv_iload_n hx hb dX10_putsAside_2 rfl (lv_at hl 1 rfl) ?_
      refine lv_bipush (v := 9) hx hb dX10_putsAside_3 rfl ?_
      refine lv_icmp_ge (tgt := 26) hx hb dX10_putsAside_5 rfl (fun c1 => ?_) (fun c1 => ?_)
      · replace hq := lf_pos hq (lf_le (lf_lc 9 (9 : Int) rfl) (lf_rf J2_l1) c1)
        have h2 := ib_le (ib_c 9 9 9 rfl) hJ2_l1 c1
        have h3 : ib J2_l1 9 9 := ib_w 9 9 h2.2 rfl
        subst hQ; exact k_vret hx hb hr hlk J2_a2 hS ((hO.symm.trans (by exact hq))) hP hD (Nat.le_of_ble_eq_true rfl) (Nat.le_of_ble_eq_true rfl) dX10_putsAside_26
      · replace hq := lf_neg hq (lf_nle (lf_lc 9 (9 : Int) rfl) (lf_rf J2_l1) c1)
        have h4 := ib_nle (ib_c 9 9 9 rfl) hJ2_l1 c1
        have h5 : ib J2_l1 0 8 := ib_w 0 8 h4.2 rfl
        refine lv_aload_n hx hb dX10_putsAside_8 rfl (lv_at hl 0 rfl) ?_
        refine k_get C0 fg_X10_142 hP 0 rfl rfl dX10_putsAside_9 ?_
        refine lv_iload_n hx hb dX10_putsAside_12 rfl (lv_at hl 1 rfl) ?_
        refine lv_aload_n hx hb dX10_putsAside_13 rfl (lv_at hl 0 rfl) ?_
        refine k_get C0 fg_X10_139 hP 0 rfl rfl dX10_putsAside_14 ?_
        refine lv_iload_n hx hb dX10_putsAside_17 rfl (lv_at hl 1 rfl) ?_
        refine va_iald hx hb C0.2.2.2.2.2.1 hP 1 0 rfl rfl (ib_in 9 h5 rfl) dX10_putsAside_18 ?_
        refine lv_topi (fun z6 ez6 => ?_)
        have Ez6 := lf_ld ez6 (lf_ra g_now) (lf_rf J2_l1)
        refine va_iast hx hb C0.2.2.2.2.2.1 hP hD hS 2 0 rfl rfl (ib_in 9 h5 rfl) dX10_putsAside_19 (fun H locs hP hD hS => ?_)
        replace hP : va_P (dC, dI) vwCl [(a_this, .inr (10, mfs rm x_taped x_at x_end x_ended x_bad x_badPlace x_fault x_faultPlace x_namePlace x_awayTold x_away x_coded x_statements x_isCrossing x_textKind x_askSecond x_redMany x_isOpen x_lastGreen x_greenTo x_isCycleGreen x_stillGreen x_rowMany x_fitMany x_fitRules x_fitGreen x_undoable x_newest x_seeded x_qCoded x_qWaits x_qOpened x_qBase x_qPiled x_qAnswer x_qIsNew x_octets)), (wi_rm56_0_9_0 rm cy g_now), (wi_rm57_0_9_0 rm cy (upd J2_a2 (Int32.toNatClampNeg J2_l1) z6))] H := hP
        replace hD := k_D hP hD
        generalize ef7 : upd J2_a2 (Int32.toNatClampNeg J2_l1) z6 = f7 at hP hD
        have Ef7 := lf_st ef7 (lf_ra J2_a2) (lf_rf J2_l1) Ez6
        obtain ⟨z8, ez8⟩ : ∃ y : Int32, y = J2_l1 + 1 := ⟨_, rfl⟩
        refine lv_iinc (v := z8) (lv' := [(1, .int z8), (0, .ref a_this)]) hx hb dX10_putsAside_20 hl (k := 1) rfl (by rw [ez8]; rfl) (Nat.le_of_ble_eq_true rfl) rfl (fun ls hl => ?_)
        have h9 := ib_add h5 (ib_c 1 1 1 rfl) rfl
        rw [← ez8] at h9
        have h10 : ib z8 1 9 := ib_w 1 9 h9.1 rfl
        have Ez8 := lf_add h9.2 (lf_rf J2_l1) (lf_lc 1 (1 : Int) rfl)
        refine lv_goto (tgt := 2) hx hb dX10_putsAside_23 rfl ?_
        exact ih2 z8 f7 H locs ls (ib_w 0 9 h10 rfl) (by rw [← hK2]; rw [lf_u Ez8]; rw [lf_ua Ef7]; exact hq) (by have := h9.2; have : (1 : Int32).toInt = 1 := rfl; omega) hP hD hS (lv_sub hl [1, 0] rfl)
  refine lv_iconst (v := 0) hx hb dX10_putsAside_0 rfl ?_
  refine lv_istore_n (lv' := [(1, .int 0), (0, .ref a_this)]) hx hb dX10_putsAside_1 rfl hl (Nat.le_of_ble_eq_true rfl) rfl (fun ls hl => ?_)
  exact jn2 11 0 g_aside H locs ls (ib_w 0 9 (ib_c 0 0 0 rfl) rfl) (by try simp only [show (0 : Int32).toInt = (0 : Int) from rfl]; exact hq) (by have := (ib_c 0 0 0 rfl); unfold ib at this; omega) hP hD hS (lv_sub hl [1, 0] rfl)
set_option maxHeartbeats 4000000 in
set_option maxRecDepth 100000 in
theorem s_X10_takesBack (l : Launch) (dC : Nat → ClassId) (dI : Nat → Nat → Nat) (cy : Nat → ClassId) (sq : Nat → Nat) (a_this : Nat) (rm : Nat → Nat) (x_taped : Int32) (x_at : Int32) (x_end : Int32) (x_ended : Int32) (x_bad : Int32) (x_badPlace : Int32) (x_fault : Int32) (x_faultPlace : Int32) (x_namePlace : Int32) (x_awayTold : Int32) (x_away : Int32) (x_coded : Int32) (x_statements : Int32) (x_isCrossing : Int32) (x_textKind : Int32) (x_askSecond : Int32) (x_redMany : Int32) (x_isOpen : Int32) (x_lastGreen : Int32) (x_greenTo : Int32) (x_isCycleGreen : Int32) (x_stillGreen : Int32) (x_rowMany : Int32) (x_fitMany : Int32) (x_fitRules : Int32) (x_fitGreen : Int32) (x_undoable : Int32) (x_newest : Int32) (x_seeded : Int64) (x_qCoded : Int32) (x_qWaits : Int32) (x_qOpened : Int32) (x_qBase : Int32) (x_qPiled : Int32) (x_qAnswer : Int64) (x_qIsNew : Int32) (x_octets : Int32) (g_now : Nat → Int32) (g_aside : Nat → Int32)  : k_Met l yX10_takesBack cX10_takesBack 2 none { frames := 0, cells := 0, slots := 0, locals := 0 } dC dI cy sq [.ref a_this] [(a_this, .inr (10, mfs rm x_taped x_at x_end x_ended x_bad x_badPlace x_fault x_faultPlace x_namePlace x_awayTold x_away x_coded x_statements x_isCrossing x_textKind x_askSecond x_redMany x_isOpen x_lastGreen x_greenTo x_isCycleGreen x_stillGreen x_rowMany x_fitMany x_fitRules x_fitGreen x_undoable x_newest x_seeded x_qCoded x_qWaits x_qOpened x_qBase x_qPiled x_qAnswer x_qIsNew x_octets)), (wi_rm57_0_9_0 rm cy g_aside), (wi_rm56_0_9_0 rm cy g_now)] (k_Qv dC dI (fun (n0 : (Nat → Int32)) => (F_X10_takesBack (lf_A g_now) (lf_A g_aside) = ((lf_A n0)))) (fun n0 : (Nat → Int32) => [(a_this, .inr (10, mfs rm x_taped x_at x_end x_ended x_bad x_badPlace x_fault x_faultPlace x_namePlace x_awayTold x_away x_coded x_statements x_isCrossing x_textKind x_askSecond x_redMany x_isOpen x_lastGreen x_greenTo x_isCycleGreen x_stillGreen x_rowMany x_fitMany x_fitRules x_fitGreen x_undoable x_newest x_seeded x_qCoded x_qWaits x_qOpened x_qBase x_qPiled x_qAnswer x_qIsNew x_octets)), (wi_rm57_0_9_0 rm cy g_aside), (wi_rm56_0_9_0 rm cy n0)])) := by
  refine k_ofW2 (by decide +kernel) (Nat.le_of_ble_eq_true rfl) ?_
  intro p e s m below meth c A ls H locs args Q hQ C0 hZ hr hlk hin hP hD hA hS hl
  have C0 : k_cx p s m args c cX10_takesBack 2 RX10 dC dI cy sq := C0
  have hx := C0.1
  have hb := C0.2.1
  have hl : lv_has ls 2 [(0, .ref a_this)] := hl
  obtain ⟨O, hO⟩ : ∃ o, o = F_X10_takesBack (lf_A g_now) (lf_A g_aside) := ⟨_, rfl⟩
  have hq := hO
  unfold F_X10_takesBack at hq
  have jn2 : ∀ (n : Nat) (J2_l1 : Int32) (J2_a2 : Nat → Int32) (H : Heap) (locs : List Loc) (ls : Array Slot), ib J2_l1 0 9 → (O = F_X10_takesBack_2 (lf_A g_aside) n (Int32.toInt J2_l1) (lf_A J2_a2)) → 10 ≤ J2_l1.toInt + (n : Int) → va_P (dC, dI) vwCl [(a_this, .inr (10, mfs rm x_taped x_at x_end x_ended x_bad x_badPlace x_fault x_faultPlace x_namePlace x_awayTold x_away x_coded x_statements x_isCrossing x_textKind x_askSecond x_redMany x_isOpen x_lastGreen x_greenTo x_isCycleGreen x_stillGreen x_rowMany x_fitMany x_fitRules x_fitGreen x_undoable x_newest x_seeded x_qCoded x_qWaits x_qOpened x_qBase x_qPiled x_qAnswer x_qIsNew x_octets)), (wi_rm57_0_9_0 rm cy g_aside), (wi_rm56_0_9_0 rm cy J2_a2)] H → va_D A [(a_this, .inr (10, mfs rm x_taped x_at x_end x_ended x_bad x_badPlace x_fault x_faultPlace x_namePlace x_awayTold x_away x_coded x_statements x_isCrossing x_textKind x_askSecond x_redMany x_isOpen x_lastGreen x_greenTo x_isCycleGreen x_stillGreen x_rowMany x_fitMany x_fitRules x_fitGreen x_undoable x_newest x_seeded x_qCoded x_qWaits x_qOpened x_qBase x_qPiled x_qAnswer x_qIsNew x_octets)), (wi_rm57_0_9_0 rm cy g_aside), (wi_rm56_0_9_0 rm cy J2_a2)] → va_S A s.heap H locs → lv_has ls 2 [(0, .ref a_this), (1, .int J2_l1)] → W p l e { frames := 0, cells := 0, slots := 0, locals := 0 } s m args below meth c H locs 0 0 Q (F0 m 2 ls []) := by
    intro n
    induction n with
    | zero =>
      intro J2_l1 J2_a2 H locs ls hJ2_l1 hq hm
      exact absurd hm (by have := hJ2_l1; unfold ib at this; omega)
    | succ n ih =>
      intro J2_l1 J2_a2 H locs ls hJ2_l1 hq hm2 hP hD hS hl
      have ih2 := ih
      obtain ⟨K2, hK2⟩ : ∃ K, K = F_X10_takesBack_2 (lf_A g_aside) n := ⟨_, rfl⟩
      have hq : O = F_X10_takesBack_2b (lf_A g_aside) K2 (Int32.toInt J2_l1) (lf_A J2_a2) := by rw [hK2]; exact hq
      unfold F_X10_takesBack_2b at hq
      refine lv_iload_n hx hb dX10_takesBack_2 rfl (lv_at hl 1 rfl) ?_
      refine lv_bipush (v := 9) hx hb dX10_takesBack_3 rfl ?_
      refine lv_icmp_ge (tgt := 26) hx hb dX10_takesBack_5 rfl (fun c1 => ?_) (fun c1 => ?_)
      · replace hq := lf_pos hq (lf_le (lf_lc 9 (9 : Int) rfl) (lf_rf J2_l1) c1)
        have h2 := ib_le (ib_c 9 9 9 rfl) hJ2_l1 c1
        have h3 : ib J2_l1 9 9 := ib_w 9 9 h2.2 rfl
        subst hQ; exact k_vret hx hb hr hlk J2_a2 hS ((hO.symm.trans (by exact hq))) hP hD (Nat.le_of_ble_eq_true rfl) (Nat.le_of_ble_eq_true rfl) dX10_takesBack_26
      · replace hq := lf_neg hq (lf_nle (lf_lc 9 (9 : Int) rfl) (lf_rf J2_l1) c1)
        have h4 := ib_nle (ib_c 9 9 9 rfl) hJ2_l1 c1
        have h5 : ib J2_l1 0 8 := ib_w 0 8 h4.2 rfl
        refine lv_aload_n hx hb dX10_takesBack_8 rfl (lv_at hl 0 rfl) ?_
        refine k_get C0 fg_X10_139 hP 0 rfl rfl dX10_takesBack_9 ?_
        refine lv_iload_n hx hb dX10_takesBack_12 rfl (lv_at hl 1 rfl) ?_
        refine lv_aload_n hx hb dX10_takesBack_13 rfl (lv_at hl 0 rfl) ?_
        refine k_get C0 fg_X10_142 hP 0 rfl rfl dX10_takesBack_14 ?_
        refine lv_iload_n hx hb dX10_takesBack_17 rfl (lv_at hl 1 rfl) ?_
        refine va_iald hx hb C0.2.2.2.2.2.1 hP 1 0 rfl rfl (ib_in 9 h5 rfl) dX10_takesBack_18 ?_
        refine lv_topi (fun z6 ez6 => ?_)
        have Ez6 := lf_ld ez6 (lf_ra g_aside) (lf_rf J2_l1)
        refine va_iast hx hb C0.2.2.2.2.2.1 hP hD hS 2 0 rfl rfl (ib_in 9 h5 rfl) dX10_takesBack_19 (fun H locs hP hD hS => ?_)
        replace hP : va_P (dC, dI) vwCl [(a_this, .inr (10, mfs rm x_taped x_at x_end x_ended x_bad x_badPlace x_fault x_faultPlace x_namePlace x_awayTold x_away x_coded x_statements x_isCrossing x_textKind x_askSecond x_redMany x_isOpen x_lastGreen x_greenTo x_isCycleGreen x_stillGreen x_rowMany x_fitMany x_fitRules x_fitGreen x_undoable x_newest x_seeded x_qCoded x_qWaits x_qOpened x_qBase x_qPiled x_qAnswer x_qIsNew x_octets)), (wi_rm57_0_9_0 rm cy g_aside), (wi_rm56_0_9_0 rm cy (upd J2_a2 (Int32.toNatClampNeg J2_l1) z6))] H := hP
        replace hD := k_D hP hD
        generalize ef7 : upd J2_a2 (Int32.toNatClampNeg J2_l1) z6 = f7 at hP hD
        have Ef7 := lf_st ef7 (lf_ra J2_a2) (lf_rf J2_l1) Ez6
        obtain ⟨z8, ez8⟩ : ∃ y : Int32, y = J2_l1 + 1 := ⟨_, rfl⟩
        refine lv_iinc (v := z8) (lv' := [(1, .int z8), (0, .ref a_this)]) hx hb dX10_takesBack_20 hl (k := 1) rfl (by rw [ez8]; rfl) (Nat.le_of_ble_eq_true rfl) rfl (fun ls hl => ?_)
        have h9 := ib_add h5 (ib_c 1 1 1 rfl) rfl
        rw [← ez8] at h9
        have h10 : ib z8 1 9 := ib_w 1 9 h9.1 rfl
        have Ez8 := lf_add h9.2 (lf_rf J2_l1) (lf_lc 1 (1 : Int) rfl)
        refine lv_goto (tgt := 2) hx hb dX10_takesBack_23 rfl ?_
        exact ih2 z8 f7 H locs ls (ib_w 0 9 h10 rfl) (by rw [← hK2]; rw [lf_u Ez8]; rw [lf_ua Ef7]; exact hq) (by have := h9.2; have : (1 : Int32).toInt = 1 := rfl; omega) hP hD hS (lv_sub hl [1, 0] rfl)
  refine lv_iconst (v := 0) hx hb dX10_takesBack_0 rfl ?_
  refine lv_istore_n (lv' := [(1, .int 0), (0, .ref a_this)]) hx hb dX10_takesBack_1 rfl hl (Nat.le_of_ble_eq_true rfl) rfl (fun ls hl => ?_)
  exact jn2 11 0 g_now H locs ls (ib_w 0 9 (ib_c 0 0 0 rfl) rfl) (by try simp only [show (0 : Int32).toInt = (0 : Int) from rfl]; exact hq) (by have := (ib_c 0 0 0 rfl); unfold ib at this; omega) hP hD hS (lv_sub hl [1, 0] rfl)
set_option maxHeartbeats 4000000 in
set_option maxRecDepth 100000 in
theorem s_X10_doubts (l : Launch) (dC : Nat → ClassId) (dI : Nat → Nat → Nat) (cy : Nat → ClassId) (sq : Nat → Nat) (a_this : Nat) (rm : Nat → Nat) (x_taped : Int32) (x_at : Int32) (x_end : Int32) (x_ended : Int32) (x_bad : Int32) (x_badPlace : Int32) (x_fault : Int32) (x_faultPlace : Int32) (x_namePlace : Int32) (x_awayTold : Int32) (x_away : Int32) (x_coded : Int32) (x_statements : Int32) (x_isCrossing : Int32) (x_textKind : Int32) (x_askSecond : Int32) (x_redMany : Int32) (x_isOpen : Int32) (x_lastGreen : Int32) (x_greenTo : Int32) (x_isCycleGreen : Int32) (x_stillGreen : Int32) (x_rowMany : Int32) (x_fitMany : Int32) (x_fitRules : Int32) (x_fitGreen : Int32) (x_undoable : Int32) (x_newest : Int32) (x_seeded : Int64) (x_qCoded : Int32) (x_qWaits : Int32) (x_qOpened : Int32) (x_qBase : Int32) (x_qPiled : Int32) (x_qAnswer : Int64) (x_qIsNew : Int32) (x_octets : Int32) (g_many : Nat → Int32) (g_bar : Nat → Int32) (g_kinds : Nat → Int32) (g_walkers : Nat → Int32) (g_codeFrom : Nat → Int32) (g_codeEnd : Nat → Int32) (g_codes : Nat → Int32) (g_now : Nat → Int32) (g_aside : Nat → Int32) (g_isCar : Nat → Int32) (g_gaps : Nat → Int32) (g_isGreen : Nat → Int32) (g_isHere : Nat → Int32) (g_crosses : Nat → Int32) (g_waits : Nat → Int32) (g_goes : Nat → Int32) (g_harms : Nat → Int32) (g_presses : Nat → Int32) (g_crossedIn : Nat → Int32) (g_qPile : Nat → Int64) (p0 : Int32) (hx_isOpen : ib x_isOpen 0 1) (hx_isCycleGreen : ib x_isCycleGreen 0 1) (hx_qPiled : ib x_qPiled 0 1700) (hg_many_2 : ib (g_many 2) 0 6) (hg_many_3 : ib (g_many 3) 0 12) (hg_bar_4 : ib (g_bar 4) 0 120) (hpg_walkers : ip g_walkers 48 2 0 0 5) (hg_codeFrom_3 : ib (g_codeFrom 3) (-1) 1600) (hg_codeFrom_4 : ib (g_codeFrom 4) (-1) 1600) (hg_codeFrom_5 : ib (g_codeFrom 5) (-1) 1600) (hg_codeEnd_3 : ib (g_codeEnd 3) 0 1600) (hg_codeEnd_4 : ib (g_codeEnd 4) 0 1600) (hg_codeEnd_5 : ib (g_codeEnd 5) 0 1600) (hg_gaps : ia g_gaps 300 0 20) (hG0 : ¬ g_codeFrom 3 = (-1) → okc g_codes 1600 false (g_codeFrom 3) (g_codeEnd 3)) (hG1 : ¬ g_codeFrom 4 = (-1) → okc g_codes 1600 true (g_codeFrom 4) (g_codeEnd 4)) (hG2 : ¬ g_codeFrom 5 = (-1) → okc g_codes 1600 false (g_codeFrom 5) (g_codeEnd 5)) (hc_m2 : ¬ (g_many 2) = 0 → ib (g_bar 4) 10 120) : k_Met l yX10_doubts cX10_doubts 4 (some .int) { frames := 7, cells := 0, slots := 0, locals := 159 } dC dI cy sq [.ref a_this, .int p0] [(a_this, .inr (10, mfs rm x_taped x_at x_end x_ended x_bad x_badPlace x_fault x_faultPlace x_namePlace x_awayTold x_away x_coded x_statements x_isCrossing x_textKind x_askSecond x_redMany x_isOpen x_lastGreen x_greenTo x_isCycleGreen x_stillGreen x_rowMany x_fitMany x_fitRules x_fitGreen x_undoable x_newest x_seeded x_qCoded x_qWaits x_qOpened x_qBase x_qPiled x_qAnswer x_qIsNew x_octets)), (wi_rm41_0_4_0 rm cy g_many), (wi_rm56_0_9_0 rm cy g_now), (wi_rm57_0_9_0 rm cy g_aside), (wi_rm49_0_6_0 rm cy g_codeFrom), (wi_rm50_0_6_0 rm cy g_codeEnd), (wi_rm116_1_1700_1 rm cy g_qPile), (wi_rm51_0_3200_0 rm cy g_codes), (wi_rm46_0_48_0 rm cy g_walkers), (wi_rm43_0_8_0 rm cy g_bar), (wi_rm65_0_12_0 rm cy g_waits), (wi_rm44_0_24_0 rm cy g_kinds), (wi_rm61_0_300_0 rm cy g_gaps), (wi_rm66_3_12_0 rm cy g_goes), (wi_rm67_3_12_0 rm cy g_harms), (wi_rm60_3_320_0 rm cy g_isCar), (wi_rm63_3_12_0 rm cy g_isHere), (wi_rm64_0_12_0 rm cy g_crosses), (wi_rm68_3_12_0 rm cy g_presses), (wi_rm69_3_300_0 rm cy g_crossedIn), (wi_rm62_3_300_0 rm cy g_isGreen)] (k_Qi dC dI (fun (r : Int32) (u : Int32 × Int32 × Int32 × Int32 × Int32 × Int32 × Int32 × Int32 × Int32 × (Nat → Int32) × (Nat → Int32) × (Nat → Int64) × (Nat → Int32) × (Nat → Int32) × (Nat → Int32) × (Nat → Int32) × (Nat → Int32) × (Nat → Int32) × (Nat → Int32) × (Nat → Int32) × (Nat → Int32) × (Nat → Int32)) => match u with | (n0, n1, n2, n3, n4, n5, n6, n7, n8, n9, n10, n11, n12, n13, n14, n15, n16, n17, n18, n19, n20, n21) => ib n3 0 1 ∧ ib n6 0 1 ∧ ib n8 0 1700 ∧ ia n13 300 0 20 ∧ ib r (-1) 30 ∧ (F_X10_doubts (Int32.toInt x_textKind) (Int32.toInt x_askSecond) (Int32.toInt x_redMany) (Int32.toInt x_isOpen) (Int32.toInt x_lastGreen) (Int32.toInt x_greenTo) (Int32.toInt x_isCycleGreen) (Int32.toInt x_stillGreen) (Int32.toInt x_qPiled) (lf_A g_many) (lf_A g_bar) (lf_A g_kinds) (lf_A g_walkers) (lf_A g_codeFrom) (lf_A g_codeEnd) (lf_A g_codes) (lf_A g_now) (lf_A g_aside) (lf_A g_isCar) (lf_A g_gaps) (lf_A g_isGreen) (lf_A g_isHere) (lf_A g_crosses) (lf_A g_waits) (lf_A g_goes) (lf_A g_harms) (lf_A g_presses) (lf_A g_crossedIn) (lf_L g_qPile) (Int32.toInt p0) = ((Int32.toInt r), (Int32.toInt n0), (Int32.toInt n1), (Int32.toInt n2), (Int32.toInt n3), (Int32.toInt n4), (Int32.toInt n5), (Int32.toInt n6), (Int32.toInt n7), (Int32.toInt n8), (lf_A n9), (lf_A n10), (lf_L n11), (lf_A n12), (lf_A n13), (lf_A n14), (lf_A n15), (lf_A n16), (lf_A n17), (lf_A n18), (lf_A n19), (lf_A n20), (lf_A n21)))) (fun u : Int32 × Int32 × Int32 × Int32 × Int32 × Int32 × Int32 × Int32 × Int32 × (Nat → Int32) × (Nat → Int32) × (Nat → Int64) × (Nat → Int32) × (Nat → Int32) × (Nat → Int32) × (Nat → Int32) × (Nat → Int32) × (Nat → Int32) × (Nat → Int32) × (Nat → Int32) × (Nat → Int32) × (Nat → Int32) => match u with | (n0, n1, n2, n3, n4, n5, n6, n7, n8, n9, n10, n11, n12, n13, n14, n15, n16, n17, n18, n19, n20, n21) => [(a_this, .inr (10, mfs rm x_taped x_at x_end x_ended x_bad x_badPlace x_fault x_faultPlace x_namePlace x_awayTold x_away x_coded x_statements x_isCrossing n0 n1 n2 n3 n4 n5 n6 n7 x_rowMany x_fitMany x_fitRules x_fitGreen x_undoable x_newest x_seeded x_qCoded x_qWaits x_qOpened x_qBase n8 x_qAnswer x_qIsNew x_octets)), (wi_rm41_0_4_0 rm cy g_many), (wi_rm56_0_9_0 rm cy n9), (wi_rm57_0_9_0 rm cy n10), (wi_rm49_0_6_0 rm cy g_codeFrom), (wi_rm50_0_6_0 rm cy g_codeEnd), (wi_rm116_1_1700_1 rm cy n11), (wi_rm51_0_3200_0 rm cy g_codes), (wi_rm46_0_48_0 rm cy g_walkers), (wi_rm43_0_8_0 rm cy g_bar), (wi_rm65_0_12_0 rm cy n12), (wi_rm44_0_24_0 rm cy g_kinds), (wi_rm61_0_300_0 rm cy n13), (wi_rm66_3_12_0 rm cy n14), (wi_rm67_3_12_0 rm cy n15), (wi_rm60_3_320_0 rm cy n16), (wi_rm63_3_12_0 rm cy n17), (wi_rm64_0_12_0 rm cy n18), (wi_rm68_3_12_0 rm cy n19), (wi_rm69_3_300_0 rm cy n20), (wi_rm62_3_300_0 rm cy n21)])) := by
  refine k_ofW2 (by decide +kernel) (Nat.le_of_ble_eq_true rfl) ?_
  intro p e s m below meth c A ls H locs args Q hQ C0 hZ hr hlk hin hP hD hA hS hl
  have C0 : k_cx p s m args c cX10_doubts 4 RX10 dC dI cy sq := C0
  have hx := C0.1
  have hb := C0.2.1
  have hl : lv_has ls 4 [(0, .ref a_this), (1, .int p0)] := hl
  obtain ⟨O, hO⟩ : ∃ o, o = F_X10_doubts (Int32.toInt x_textKind) (Int32.toInt x_askSecond) (Int32.toInt x_redMany) (Int32.toInt x_isOpen) (Int32.toInt x_lastGreen) (Int32.toInt x_greenTo) (Int32.toInt x_isCycleGreen) (Int32.toInt x_stillGreen) (Int32.toInt x_qPiled) (lf_A g_many) (lf_A g_bar) (lf_A g_kinds) (lf_A g_walkers) (lf_A g_codeFrom) (lf_A g_codeEnd) (lf_A g_codes) (lf_A g_now) (lf_A g_aside) (lf_A g_isCar) (lf_A g_gaps) (lf_A g_isGreen) (lf_A g_isHere) (lf_A g_crosses) (lf_A g_waits) (lf_A g_goes) (lf_A g_harms) (lf_A g_presses) (lf_A g_crossedIn) (lf_L g_qPile) (Int32.toInt p0) := ⟨_, rfl⟩
  have hq := hO
  unfold F_X10_doubts at hq
  have jn67 : ∀ (J67_l2 : Int32) (J67_c0_55 : Int32) (J67_c0_58 : Int32) (J67_c0_59 : Int32) (J67_c0_70 : Int32) (J67_c0_71 : Int32) (J67_c0_72 : Int32) (J67_c0_73 : Int32) (J67_c0_74 : Int32) (J67_c0_117 : Int32) (J67_a2 : Nat → Int32) (J67_a3 : Nat → Int32) (J67_a6 : Nat → Int64) (J67_a10 : Nat → Int32) (J67_a12 : Nat → Int32) (J67_a13 : Nat → Int32) (J67_a14 : Nat → Int32) (J67_a15 : Nat → Int32) (J67_a16 : Nat → Int32) (J67_a17 : Nat → Int32) (J67_a18 : Nat → Int32) (J67_a19 : Nat → Int32) (J67_a20 : Nat → Int32) (J67_s0 : Int32) (H : Heap) (locs : List Loc) (ls : Array Slot), ib p0 0 5 → ib J67_l2 0 30 → ib J67_c0_70 0 1 → ib J67_c0_73 0 1 → ib J67_c0_117 0 1700 → ib (g_many 2) 1 6 → ib (g_bar 4) 10 120 → ib J67_s0 0 1 → ia J67_a12 300 0 20 → (O = F_X10_doubts_67 (Int32.toInt J67_l2) (Int32.toInt J67_c0_55) (Int32.toInt J67_c0_58) (Int32.toInt J67_c0_59) (Int32.toInt J67_c0_70) (Int32.toInt J67_c0_71) (Int32.toInt J67_c0_72) (Int32.toInt J67_c0_73) (Int32.toInt J67_c0_74) (Int32.toInt J67_c0_117) (lf_A J67_a2) (lf_A J67_a3) (lf_L J67_a6) (lf_A J67_a10) (lf_A J67_a12) (lf_A J67_a13) (lf_A J67_a14) (lf_A J67_a15) (lf_A J67_a16) (lf_A J67_a17) (lf_A J67_a18) (lf_A J67_a19) (lf_A J67_a20) (Int32.toInt J67_s0)) → va_P (dC, dI) vwCl [(a_this, .inr (10, mfs rm x_taped x_at x_end x_ended x_bad x_badPlace x_fault x_faultPlace x_namePlace x_awayTold x_away x_coded x_statements x_isCrossing J67_c0_55 J67_c0_58 J67_c0_59 J67_c0_70 J67_c0_71 J67_c0_72 J67_c0_73 J67_c0_74 x_rowMany x_fitMany x_fitRules x_fitGreen x_undoable x_newest x_seeded x_qCoded x_qWaits x_qOpened x_qBase J67_c0_117 x_qAnswer x_qIsNew x_octets)), (wi_rm41_0_4_0 rm cy g_many), (wi_rm56_0_9_0 rm cy J67_a2), (wi_rm57_0_9_0 rm cy J67_a3), (wi_rm49_0_6_0 rm cy g_codeFrom), (wi_rm50_0_6_0 rm cy g_codeEnd), (wi_rm116_1_1700_1 rm cy J67_a6), (wi_rm51_0_3200_0 rm cy g_codes), (wi_rm46_0_48_0 rm cy g_walkers), (wi_rm43_0_8_0 rm cy g_bar), (wi_rm65_0_12_0 rm cy J67_a10), (wi_rm44_0_24_0 rm cy g_kinds), (wi_rm61_0_300_0 rm cy J67_a12), (wi_rm66_3_12_0 rm cy J67_a13), (wi_rm67_3_12_0 rm cy J67_a14), (wi_rm60_3_320_0 rm cy J67_a15), (wi_rm63_3_12_0 rm cy J67_a16), (wi_rm64_0_12_0 rm cy J67_a17), (wi_rm68_3_12_0 rm cy J67_a18), (wi_rm69_3_300_0 rm cy J67_a19), (wi_rm62_3_300_0 rm cy J67_a20)] H → va_D A [(a_this, .inr (10, mfs rm x_taped x_at x_end x_ended x_bad x_badPlace x_fault x_faultPlace x_namePlace x_awayTold x_away x_coded x_statements x_isCrossing J67_c0_55 J67_c0_58 J67_c0_59 J67_c0_70 J67_c0_71 J67_c0_72 J67_c0_73 J67_c0_74 x_rowMany x_fitMany x_fitRules x_fitGreen x_undoable x_newest x_seeded x_qCoded x_qWaits x_qOpened x_qBase J67_c0_117 x_qAnswer x_qIsNew x_octets)), (wi_rm41_0_4_0 rm cy g_many), (wi_rm56_0_9_0 rm cy J67_a2), (wi_rm57_0_9_0 rm cy J67_a3), (wi_rm49_0_6_0 rm cy g_codeFrom), (wi_rm50_0_6_0 rm cy g_codeEnd), (wi_rm116_1_1700_1 rm cy J67_a6), (wi_rm51_0_3200_0 rm cy g_codes), (wi_rm46_0_48_0 rm cy g_walkers), (wi_rm43_0_8_0 rm cy g_bar), (wi_rm65_0_12_0 rm cy J67_a10), (wi_rm44_0_24_0 rm cy g_kinds), (wi_rm61_0_300_0 rm cy J67_a12), (wi_rm66_3_12_0 rm cy J67_a13), (wi_rm67_3_12_0 rm cy J67_a14), (wi_rm60_3_320_0 rm cy J67_a15), (wi_rm63_3_12_0 rm cy J67_a16), (wi_rm64_0_12_0 rm cy J67_a17), (wi_rm68_3_12_0 rm cy J67_a18), (wi_rm69_3_300_0 rm cy J67_a19), (wi_rm62_3_300_0 rm cy J67_a20)] → va_S A s.heap H locs → lv_has ls 4 [(0, .ref a_this), (1, .int p0), (2, .int J67_l2)] → W p l e { frames := 7, cells := 0, slots := 0, locals := 159 } s m args below meth c H locs 0 0 Q (F0 m 67 ls [.int J67_s0]) := by
    as_aux_lemma =>
      intro J67_l2 J67_c0_55 J67_c0_58 J67_c0_59 J67_c0_70 J67_c0_71 J67_c0_72 J67_c0_73 J67_c0_74 J67_c0_117 J67_a2 J67_a3 J67_a6 J67_a10 J67_a12 J67_a13 J67_a14 J67_a15 J67_a16 J67_a17 J67_a18 J67_a19 J67_a20 J67_s0 H locs ls hK67_p0 hJ67_l2 hJ67_c0_70 hJ67_c0_73 hJ67_c0_117 hJ67_a1_2 hJ67_a9_4 hJ67_s0 hJ67_a12 hq hP hD hS hl
      unfold F_X10_doubts_67 at hq
      refine lv_istore_n (lv' := [(3, .int J67_s0), (0, .ref a_this), (1, .int p0), (2, .int J67_l2)]) hx hb dX10_doubts_67 rfl hl (Nat.le_of_ble_eq_true rfl) rfl (fun ls hl => ?_)
      refine lv_aload_n hx hb dX10_doubts_68 rfl (lv_at hl 1 rfl) ?_
      refine k_jvm hP hD hS hA [0, 3, 2] [false, true, false, false, true, true, true, true, true, true, true, true, true, true, true, true, true, true, true, true, true] rfl rfl (by decide +kernel) 0 0 (Nat.le_of_ble_eq_true rfl) (Nat.le_of_ble_eq_true rfl) (fun hPc hDc => k_runV (As := []) (rest := []) C0 hZ hS hA (s_X10_takesBack l dC dI cy sq a_this rm x_taped x_at x_end x_ended x_bad x_badPlace x_fault x_faultPlace x_namePlace x_awayTold x_away x_coded x_statements x_isCrossing J67_c0_55 J67_c0_58 J67_c0_59 J67_c0_70 J67_c0_71 J67_c0_72 J67_c0_73 J67_c0_74 x_rowMany x_fitMany x_fitRules x_fitGreen x_undoable x_newest x_seeded x_qCoded x_qWaits x_qOpened x_qBase J67_c0_117 x_qAnswer x_qIsNew x_octets J67_a2 J67_a3 ) mV_X10_563 hPc hDc rfl rfl rfl hl rfl rfl (Nat.le_of_ble_eq_true rfl) ⟨(Nat.le_of_ble_eq_true rfl), (Nat.le_of_ble_eq_true rfl)⟩ ⟨(Nat.le_of_ble_eq_true rfl), (Nat.le_of_ble_eq_true rfl)⟩ dX10_doubts_69) (fun u2 H locs hw hP hD hS => ?_)
      obtain ⟨f3, ef3⟩ : ∃ z, z = u2 := ⟨_, rfl⟩; subst ef3
      try dsimp only at hP hD hw
      replace hP : va_P (dC, dI) vwCl [(wi_rm41_0_4_0 rm cy g_many), (wi_rm49_0_6_0 rm cy g_codeFrom), (wi_rm50_0_6_0 rm cy g_codeEnd), (wi_rm116_1_1700_1 rm cy J67_a6), (wi_rm51_0_3200_0 rm cy g_codes), (wi_rm46_0_48_0 rm cy g_walkers), (wi_rm43_0_8_0 rm cy g_bar), (wi_rm65_0_12_0 rm cy J67_a10), (wi_rm44_0_24_0 rm cy g_kinds), (wi_rm61_0_300_0 rm cy J67_a12), (wi_rm66_3_12_0 rm cy J67_a13), (wi_rm67_3_12_0 rm cy J67_a14), (wi_rm60_3_320_0 rm cy J67_a15), (wi_rm63_3_12_0 rm cy J67_a16), (wi_rm64_0_12_0 rm cy J67_a17), (wi_rm68_3_12_0 rm cy J67_a18), (wi_rm69_3_300_0 rm cy J67_a19), (wi_rm62_3_300_0 rm cy J67_a20), (a_this, .inr (10, mfs rm x_taped x_at x_end x_ended x_bad x_badPlace x_fault x_faultPlace x_namePlace x_awayTold x_away x_coded x_statements x_isCrossing J67_c0_55 J67_c0_58 J67_c0_59 J67_c0_70 J67_c0_71 J67_c0_72 J67_c0_73 J67_c0_74 x_rowMany x_fitMany x_fitRules x_fitGreen x_undoable x_newest x_seeded x_qCoded x_qWaits x_qOpened x_qBase J67_c0_117 x_qAnswer x_qIsNew x_octets)), (wi_rm57_0_9_0 rm cy J67_a3), (wi_rm56_0_9_0 rm cy f3)] H := hP
      replace hD := k_D hP hD
      have h4 := hw
      replace hq := lf_b1 hq h4
      refine lv_iload_n hx hb dX10_doubts_72 rfl (lv_at hl 0 rfl) ?_
      refine lv_if_eq (tgt := 80) hx hb dX10_doubts_73 rfl (fun c5 => ?_) (fun c5 => ?_)
      · replace hq := lf_pos hq (lf_eq (lf_rf J67_s0) (lf_lc 0 (0 : Int) rfl) c5)
        have h6 := ib_eq hJ67_s0 (ib_c 0 0 0 rfl) c5
        have h7 : ib J67_s0 0 0 := ib_w 0 0 h6.1 rfl
        refine lv_iconst (v := (-1)) hx hb dX10_doubts_80 rfl ?_
        subst hQ; exact k_iret hx hb hr hlk rfl ((J67_c0_55, J67_c0_58, J67_c0_59, J67_c0_70, J67_c0_71, J67_c0_72, J67_c0_73, J67_c0_74, J67_c0_117, f3, J67_a3, J67_a6, J67_a10, J67_a12, J67_a13, J67_a14, J67_a15, J67_a16, J67_a17, J67_a18, J67_a19, J67_a20)) hS ⟨ib_w 0 1 hJ67_c0_70 rfl, ib_w 0 1 hJ67_c0_73 rfl, ib_w 0 1700 hJ67_c0_117 rfl, hJ67_a12, ib_w (-1) 30 (ib_c (-1) (-1) (-1) rfl) rfl, (hO.symm.trans (by try simp only [show ((-1) : Int32).toInt = (-1 : Int) from rfl]; exact hq))⟩ (hP.sub [18, 0, 20, 19, 1, 2, 3, 4, 5, 6, 7, 8, 9, 10, 11, 12, 13, 14, 15, 16, 17] rfl) (hD.sub [18, 0, 20, 19, 1, 2, 3, 4, 5, 6, 7, 8, 9, 10, 11, 12, 13, 14, 15, 16, 17] (by decide +kernel) rfl) (Nat.le_of_ble_eq_true rfl) (Nat.le_of_ble_eq_true rfl) dX10_doubts_81
      · replace hq := lf_neg hq (lf_ne (lf_rf J67_s0) (lf_lc 0 (0 : Int) rfl) c5)
        have h8 : ib J67_s0 1 1 := ib_w 1 1 (ib_ne_lo 0 hJ67_s0 rfl c5) rfl
        refine lv_iload_n hx hb dX10_doubts_76 rfl (lv_at hl 3 rfl) ?_
        refine lv_goto (tgt := 81) hx hb dX10_doubts_77 rfl ?_
        subst hQ; exact k_iret hx hb hr hlk rfl ((J67_c0_55, J67_c0_58, J67_c0_59, J67_c0_70, J67_c0_71, J67_c0_72, J67_c0_73, J67_c0_74, J67_c0_117, f3, J67_a3, J67_a6, J67_a10, J67_a12, J67_a13, J67_a14, J67_a15, J67_a16, J67_a17, J67_a18, J67_a19, J67_a20)) hS ⟨ib_w 0 1 hJ67_c0_70 rfl, ib_w 0 1 hJ67_c0_73 rfl, ib_w 0 1700 hJ67_c0_117 rfl, hJ67_a12, ib_w (-1) 30 hJ67_l2 rfl, (hO.symm.trans (by exact hq))⟩ (hP.sub [18, 0, 20, 19, 1, 2, 3, 4, 5, 6, 7, 8, 9, 10, 11, 12, 13, 14, 15, 16, 17] rfl) (hD.sub [18, 0, 20, 19, 1, 2, 3, 4, 5, 6, 7, 8, 9, 10, 11, 12, 13, 14, 15, 16, 17] (by decide +kernel) rfl) (Nat.le_of_ble_eq_true rfl) (Nat.le_of_ble_eq_true rfl) dX10_doubts_81
  have jn54 : ∀ (J54_a3 : Nat → Int32) (J54_l2 : Int32) (J54_c0_55 : Int32) (J54_c0_58 : Int32) (J54_c0_59 : Int32) (J54_c0_70 : Int32) (J54_c0_71 : Int32) (J54_c0_72 : Int32) (J54_c0_73 : Int32) (J54_c0_74 : Int32) (J54_c0_117 : Int32) (J54_a2 : Nat → Int32) (J54_a6 : Nat → Int64) (J54_a10 : Nat → Int32) (J54_a12 : Nat → Int32) (J54_a13 : Nat → Int32) (J54_a14 : Nat → Int32) (J54_a15 : Nat → Int32) (J54_a16 : Nat → Int32) (J54_a17 : Nat → Int32) (J54_a18 : Nat → Int32) (J54_a19 : Nat → Int32) (J54_a20 : Nat → Int32) (H : Heap) (locs : List Loc) (ls : Array Slot), ib p0 0 5 → ib (g_many 2) 1 6 → ib (g_bar 4) 10 120 → ib J54_l2 0 30 → ib J54_c0_70 0 1 → ib J54_c0_73 0 1 → ib J54_c0_117 0 1700 → ia J54_a12 300 0 20 → (O = F_X10_doubts_54 (Int32.toInt p0) (lf_A J54_a3) (Int32.toInt J54_l2) (Int32.toInt J54_c0_55) (Int32.toInt J54_c0_58) (Int32.toInt J54_c0_59) (Int32.toInt J54_c0_70) (Int32.toInt J54_c0_71) (Int32.toInt J54_c0_72) (Int32.toInt J54_c0_73) (Int32.toInt J54_c0_74) (Int32.toInt J54_c0_117) (lf_A J54_a2) (lf_L J54_a6) (lf_A J54_a10) (lf_A J54_a12) (lf_A J54_a13) (lf_A J54_a14) (lf_A J54_a15) (lf_A J54_a16) (lf_A J54_a17) (lf_A J54_a18) (lf_A J54_a19) (lf_A J54_a20)) → va_P (dC, dI) vwCl [(a_this, .inr (10, mfs rm x_taped x_at x_end x_ended x_bad x_badPlace x_fault x_faultPlace x_namePlace x_awayTold x_away x_coded x_statements x_isCrossing J54_c0_55 J54_c0_58 J54_c0_59 J54_c0_70 J54_c0_71 J54_c0_72 J54_c0_73 J54_c0_74 x_rowMany x_fitMany x_fitRules x_fitGreen x_undoable x_newest x_seeded x_qCoded x_qWaits x_qOpened x_qBase J54_c0_117 x_qAnswer x_qIsNew x_octets)), (wi_rm41_0_4_0 rm cy g_many), (wi_rm56_0_9_0 rm cy J54_a2), (wi_rm57_0_9_0 rm cy J54_a3), (wi_rm49_0_6_0 rm cy g_codeFrom), (wi_rm50_0_6_0 rm cy g_codeEnd), (wi_rm116_1_1700_1 rm cy J54_a6), (wi_rm51_0_3200_0 rm cy g_codes), (wi_rm46_0_48_0 rm cy g_walkers), (wi_rm43_0_8_0 rm cy g_bar), (wi_rm65_0_12_0 rm cy J54_a10), (wi_rm44_0_24_0 rm cy g_kinds), (wi_rm61_0_300_0 rm cy J54_a12), (wi_rm66_3_12_0 rm cy J54_a13), (wi_rm67_3_12_0 rm cy J54_a14), (wi_rm60_3_320_0 rm cy J54_a15), (wi_rm63_3_12_0 rm cy J54_a16), (wi_rm64_0_12_0 rm cy J54_a17), (wi_rm68_3_12_0 rm cy J54_a18), (wi_rm69_3_300_0 rm cy J54_a19), (wi_rm62_3_300_0 rm cy J54_a20)] H → va_D A [(a_this, .inr (10, mfs rm x_taped x_at x_end x_ended x_bad x_badPlace x_fault x_faultPlace x_namePlace x_awayTold x_away x_coded x_statements x_isCrossing J54_c0_55 J54_c0_58 J54_c0_59 J54_c0_70 J54_c0_71 J54_c0_72 J54_c0_73 J54_c0_74 x_rowMany x_fitMany x_fitRules x_fitGreen x_undoable x_newest x_seeded x_qCoded x_qWaits x_qOpened x_qBase J54_c0_117 x_qAnswer x_qIsNew x_octets)), (wi_rm41_0_4_0 rm cy g_many), (wi_rm56_0_9_0 rm cy J54_a2), (wi_rm57_0_9_0 rm cy J54_a3), (wi_rm49_0_6_0 rm cy g_codeFrom), (wi_rm50_0_6_0 rm cy g_codeEnd), (wi_rm116_1_1700_1 rm cy J54_a6), (wi_rm51_0_3200_0 rm cy g_codes), (wi_rm46_0_48_0 rm cy g_walkers), (wi_rm43_0_8_0 rm cy g_bar), (wi_rm65_0_12_0 rm cy J54_a10), (wi_rm44_0_24_0 rm cy g_kinds), (wi_rm61_0_300_0 rm cy J54_a12), (wi_rm66_3_12_0 rm cy J54_a13), (wi_rm67_3_12_0 rm cy J54_a14), (wi_rm60_3_320_0 rm cy J54_a15), (wi_rm63_3_12_0 rm cy J54_a16), (wi_rm64_0_12_0 rm cy J54_a17), (wi_rm68_3_12_0 rm cy J54_a18), (wi_rm69_3_300_0 rm cy J54_a19), (wi_rm62_3_300_0 rm cy J54_a20)] → va_S A s.heap H locs → lv_has ls 4 [(0, .ref a_this), (1, .int p0), (2, .int J54_l2)] → W p l e { frames := 7, cells := 0, slots := 0, locals := 159 } s m args below meth c H locs 0 0 Q (F0 m 54 ls []) := by
    as_aux_lemma =>
      intro J54_a3 J54_l2 J54_c0_55 J54_c0_58 J54_c0_59 J54_c0_70 J54_c0_71 J54_c0_72 J54_c0_73 J54_c0_74 J54_c0_117 J54_a2 J54_a6 J54_a10 J54_a12 J54_a13 J54_a14 J54_a15 J54_a16 J54_a17 J54_a18 J54_a19 J54_a20 H locs ls hK54_p0 hJ54_a1_2 hJ54_a9_4 hJ54_l2 hJ54_c0_70 hJ54_c0_73 hJ54_c0_117 hJ54_a12 hq hP hD hS hl
      unfold F_X10_doubts_54 at hq
      refine lv_aload_n hx hb dX10_doubts_54 rfl (lv_at hl 0 rfl) ?_
      refine lv_iload_n hx hb dX10_doubts_55 rfl (lv_at hl 1 rfl) ?_
      refine k_jim hP hD hS hA [0, 2] [false, true, false, true, true, true, true, true, true, true, true, true, true, true, true, true, true, true, true, true, true] rfl rfl (by decide +kernel) 0 0 (Nat.le_of_ble_eq_true rfl) (Nat.le_of_ble_eq_true rfl) (fun hPc hDc => k_runV (As := [.int p0]) (rest := []) C0 hZ hS hA (s_X10_trustsOf l dC dI cy sq a_this rm x_taped x_at x_end x_ended x_bad x_badPlace x_fault x_faultPlace x_namePlace x_awayTold x_away x_coded x_statements x_isCrossing J54_c0_55 J54_c0_58 J54_c0_59 J54_c0_70 J54_c0_71 J54_c0_72 J54_c0_73 J54_c0_74 x_rowMany x_fitMany x_fitRules x_fitGreen x_undoable x_newest x_seeded x_qCoded x_qWaits x_qOpened x_qBase J54_c0_117 x_qAnswer x_qIsNew x_octets J54_a2 p0 (ib_w 0 5 hK54_p0 rfl)) mV_X10_463 hPc hDc rfl rfl rfl hl rfl rfl (Nat.le_of_ble_eq_true rfl) ⟨(Nat.le_of_ble_eq_true rfl), (Nat.le_of_ble_eq_true rfl)⟩ ⟨(Nat.le_of_ble_eq_true rfl), (Nat.le_of_ble_eq_true rfl)⟩ dX10_doubts_56) (fun r9 u10 H locs hw hP hD hS => ?_)
      try dsimp only at hP hD hw
      replace hP : va_P (dC, dI) vwCl [(wi_rm41_0_4_0 rm cy g_many), (wi_rm57_0_9_0 rm cy J54_a3), (wi_rm49_0_6_0 rm cy g_codeFrom), (wi_rm50_0_6_0 rm cy g_codeEnd), (wi_rm116_1_1700_1 rm cy J54_a6), (wi_rm51_0_3200_0 rm cy g_codes), (wi_rm46_0_48_0 rm cy g_walkers), (wi_rm43_0_8_0 rm cy g_bar), (wi_rm65_0_12_0 rm cy J54_a10), (wi_rm44_0_24_0 rm cy g_kinds), (wi_rm61_0_300_0 rm cy J54_a12), (wi_rm66_3_12_0 rm cy J54_a13), (wi_rm67_3_12_0 rm cy J54_a14), (wi_rm60_3_320_0 rm cy J54_a15), (wi_rm63_3_12_0 rm cy J54_a16), (wi_rm64_0_12_0 rm cy J54_a17), (wi_rm68_3_12_0 rm cy J54_a18), (wi_rm69_3_300_0 rm cy J54_a19), (wi_rm62_3_300_0 rm cy J54_a20), (a_this, .inr (10, mfs rm x_taped x_at x_end x_ended x_bad x_badPlace x_fault x_faultPlace x_namePlace x_awayTold x_away x_coded x_statements x_isCrossing J54_c0_55 J54_c0_58 J54_c0_59 J54_c0_70 J54_c0_71 J54_c0_72 J54_c0_73 J54_c0_74 x_rowMany x_fitMany x_fitRules x_fitGreen x_undoable x_newest x_seeded x_qCoded x_qWaits x_qOpened x_qBase J54_c0_117 x_qAnswer x_qIsNew x_octets)), (wi_rm56_0_9_0 rm cy J54_a2)] H := hP
      replace hD := k_D hP hD
      have h11 := hw
      replace hq := lf_b1 hq h11
      refine lv_if_ne (tgt := 66) hx hb dX10_doubts_59 rfl (fun c12 => ?_) (fun c12 => ?_)
      · replace hq := lf_neg hq (lf_ne (lf_rf r9) (lf_lc 0 (0 : Int) rfl) c12)
        refine lv_iconst (v := 0) hx hb dX10_doubts_66 rfl ?_
        exact jn67 J54_l2 J54_c0_55 J54_c0_58 J54_c0_59 J54_c0_70 J54_c0_71 J54_c0_72 J54_c0_73 J54_c0_74 J54_c0_117 J54_a2 J54_a3 J54_a6 J54_a10 J54_a12 J54_a13 J54_a14 J54_a15 J54_a16 J54_a17 J54_a18 J54_a19 J54_a20 0 H locs ls (ib_w 0 5 hK54_p0 rfl) (ib_w 0 30 hJ54_l2 rfl) (ib_w 0 1 hJ54_c0_70 rfl) (ib_w 0 1 hJ54_c0_73 rfl) (ib_w 0 1700 hJ54_c0_117 rfl) (ib_w 1 6 hJ54_a1_2 rfl) (ib_w 10 120 hJ54_a9_4 rfl) (ib_w 0 1 (ib_c 0 0 0 rfl) rfl) hJ54_a12 (by try simp only [show (0 : Int32).toInt = (0 : Int) from rfl]; exact hq) (hP.sub [19, 0, 20, 1, 2, 3, 4, 5, 6, 7, 8, 9, 10, 11, 12, 13, 14, 15, 16, 17, 18] rfl) (hD.sub [19, 0, 20, 1, 2, 3, 4, 5, 6, 7, 8, 9, 10, 11, 12, 13, 14, 15, 16, 17, 18] (by decide +kernel) rfl) hS (lv_sub hl [0, 1, 2] rfl)
      · replace hq := lf_pos hq (lf_eq (lf_rf r9) (lf_lc 0 (0 : Int) rfl) c12)
        have h13 := ib_eq (ib_any r9) (ib_c 0 0 0 rfl) c12
        have h14 : ib r9 0 0 := ib_w 0 0 h13.1 rfl
        refine lv_iconst (v := 1) hx hb dX10_doubts_62 rfl ?_
        refine lv_goto (tgt := 67) hx hb dX10_doubts_63 rfl ?_
        exact jn67 J54_l2 J54_c0_55 J54_c0_58 J54_c0_59 J54_c0_70 J54_c0_71 J54_c0_72 J54_c0_73 J54_c0_74 J54_c0_117 J54_a2 J54_a3 J54_a6 J54_a10 J54_a12 J54_a13 J54_a14 J54_a15 J54_a16 J54_a17 J54_a18 J54_a19 J54_a20 1 H locs ls (ib_w 0 5 hK54_p0 rfl) (ib_w 0 30 hJ54_l2 rfl) (ib_w 0 1 hJ54_c0_70 rfl) (ib_w 0 1 hJ54_c0_73 rfl) (ib_w 0 1700 hJ54_c0_117 rfl) (ib_w 1 6 hJ54_a1_2 rfl) (ib_w 10 120 hJ54_a9_4 rfl) (ib_w 0 1 (ib_c 1 1 1 rfl) rfl) hJ54_a12 (by try simp only [show (1 : Int32).toInt = (1 : Int) from rfl]; exact hq) (hP.sub [19, 0, 20, 1, 2, 3, 4, 5, 6, 7, 8, 9, 10, 11, 12, 13, 14, 15, 16, 17, 18] rfl) (hD.sub [19, 0, 20, 1, 2, 3, 4, 5, 6, 7, 8, 9, 10, 11, 12, 13, 14, 15, 16, 17, 18] (by decide +kernel) rfl) hS (lv_sub hl [0, 1, 2] rfl)
  have jn16 : ∀ (n : Nat) (J16_a3 : Nat → Int32) (J16_l2 : Int32) (J16_c0_55 : Int32) (J16_c0_58 : Int32) (J16_c0_59 : Int32) (J16_c0_70 : Int32) (J16_c0_71 : Int32) (J16_c0_72 : Int32) (J16_c0_73 : Int32) (J16_c0_74 : Int32) (J16_c0_117 : Int32) (J16_a2 : Nat → Int32) (J16_a6 : Nat → Int64) (J16_a10 : Nat → Int32) (J16_a12 : Nat → Int32) (J16_a13 : Nat → Int32) (J16_a14 : Nat → Int32) (J16_a15 : Nat → Int32) (J16_a16 : Nat → Int32) (J16_a17 : Nat → Int32) (J16_a18 : Nat → Int32) (J16_a19 : Nat → Int32) (J16_a20 : Nat → Int32) (H : Heap) (locs : List Loc) (ls : Array Slot), ib p0 0 5 → ib (g_many 2) 1 6 → ib (g_bar 4) 10 120 → ib J16_l2 0 30 → ib J16_c0_70 0 1 → ib J16_c0_73 0 1 → ib J16_c0_117 0 1700 → ia J16_a12 300 0 20 → (O = F_X10_doubts_16 (lf_A g_many) (lf_A g_bar) (lf_A g_kinds) (lf_A g_walkers) (lf_A g_codeFrom) (lf_A g_codeEnd) (lf_A g_codes) (Int32.toInt p0) n (lf_A J16_a3) (Int32.toInt J16_l2) (Int32.toInt J16_c0_55) (Int32.toInt J16_c0_58) (Int32.toInt J16_c0_59) (Int32.toInt J16_c0_70) (Int32.toInt J16_c0_71) (Int32.toInt J16_c0_72) (Int32.toInt J16_c0_73) (Int32.toInt J16_c0_74) (Int32.toInt J16_c0_117) (lf_A J16_a2) (lf_L J16_a6) (lf_A J16_a10) (lf_A J16_a12) (lf_A J16_a13) (lf_A J16_a14) (lf_A J16_a15) (lf_A J16_a16) (lf_A J16_a17) (lf_A J16_a18) (lf_A J16_a19) (lf_A J16_a20)) → 31 ≤ J16_l2.toInt + (n : Int) → va_P (dC, dI) vwCl [(a_this, .inr (10, mfs rm x_taped x_at x_end x_ended x_bad x_badPlace x_fault x_faultPlace x_namePlace x_awayTold x_away x_coded x_statements x_isCrossing J16_c0_55 J16_c0_58 J16_c0_59 J16_c0_70 J16_c0_71 J16_c0_72 J16_c0_73 J16_c0_74 x_rowMany x_fitMany x_fitRules x_fitGreen x_undoable x_newest x_seeded x_qCoded x_qWaits x_qOpened x_qBase J16_c0_117 x_qAnswer x_qIsNew x_octets)), (wi_rm41_0_4_0 rm cy g_many), (wi_rm56_0_9_0 rm cy J16_a2), (wi_rm57_0_9_0 rm cy J16_a3), (wi_rm49_0_6_0 rm cy g_codeFrom), (wi_rm50_0_6_0 rm cy g_codeEnd), (wi_rm116_1_1700_1 rm cy J16_a6), (wi_rm51_0_3200_0 rm cy g_codes), (wi_rm46_0_48_0 rm cy g_walkers), (wi_rm43_0_8_0 rm cy g_bar), (wi_rm65_0_12_0 rm cy J16_a10), (wi_rm44_0_24_0 rm cy g_kinds), (wi_rm61_0_300_0 rm cy J16_a12), (wi_rm66_3_12_0 rm cy J16_a13), (wi_rm67_3_12_0 rm cy J16_a14), (wi_rm60_3_320_0 rm cy J16_a15), (wi_rm63_3_12_0 rm cy J16_a16), (wi_rm64_0_12_0 rm cy J16_a17), (wi_rm68_3_12_0 rm cy J16_a18), (wi_rm69_3_300_0 rm cy J16_a19), (wi_rm62_3_300_0 rm cy J16_a20)] H → va_D A [(a_this, .inr (10, mfs rm x_taped x_at x_end x_ended x_bad x_badPlace x_fault x_faultPlace x_namePlace x_awayTold x_away x_coded x_statements x_isCrossing J16_c0_55 J16_c0_58 J16_c0_59 J16_c0_70 J16_c0_71 J16_c0_72 J16_c0_73 J16_c0_74 x_rowMany x_fitMany x_fitRules x_fitGreen x_undoable x_newest x_seeded x_qCoded x_qWaits x_qOpened x_qBase J16_c0_117 x_qAnswer x_qIsNew x_octets)), (wi_rm41_0_4_0 rm cy g_many), (wi_rm56_0_9_0 rm cy J16_a2), (wi_rm57_0_9_0 rm cy J16_a3), (wi_rm49_0_6_0 rm cy g_codeFrom), (wi_rm50_0_6_0 rm cy g_codeEnd), (wi_rm116_1_1700_1 rm cy J16_a6), (wi_rm51_0_3200_0 rm cy g_codes), (wi_rm46_0_48_0 rm cy g_walkers), (wi_rm43_0_8_0 rm cy g_bar), (wi_rm65_0_12_0 rm cy J16_a10), (wi_rm44_0_24_0 rm cy g_kinds), (wi_rm61_0_300_0 rm cy J16_a12), (wi_rm66_3_12_0 rm cy J16_a13), (wi_rm67_3_12_0 rm cy J16_a14), (wi_rm60_3_320_0 rm cy J16_a15), (wi_rm63_3_12_0 rm cy J16_a16), (wi_rm64_0_12_0 rm cy J16_a17), (wi_rm68_3_12_0 rm cy J16_a18), (wi_rm69_3_300_0 rm cy J16_a19), (wi_rm62_3_300_0 rm cy J16_a20)] → va_S A s.heap H locs → lv_has ls 4 [(0, .ref a_this), (1, .int p0), (2, .int J16_l2)] → W p l e { frames := 7, cells := 0, slots := 0, locals := 159 } s m args below meth c H locs 0 0 Q (F0 m 16 ls []) := by
    as_aux_lemma =>
      intro n
      induction n with
      | zero =>
        intro J16_a3 J16_l2 J16_c0_55 J16_c0_58 J16_c0_59 J16_c0_70 J16_c0_71 J16_c0_72 J16_c0_73 J16_c0_74 J16_c0_117 J16_a2 J16_a6 J16_a10 J16_a12 J16_a13 J16_a14 J16_a15 J16_a16 J16_a17 J16_a18 J16_a19 J16_a20 H locs ls hK16_p0 hJ16_a1_2 hJ16_a9_4 hJ16_l2 hJ16_c0_70 hJ16_c0_73 hJ16_c0_117 hJ16_a12 hq hm
        exact absurd hm (by have := hJ16_l2; unfold ib at this; omega)
      | succ n ih =>
        intro J16_a3 J16_l2 J16_c0_55 J16_c0_58 J16_c0_59 J16_c0_70 J16_c0_71 J16_c0_72 J16_c0_73 J16_c0_74 J16_c0_117 J16_a2 J16_a6 J16_a10 J16_a12 J16_a13 J16_a14 J16_a15 J16_a16 J16_a17 J16_a18 J16_a19 J16_a20 H locs ls hK16_p0 hJ16_a1_2 hJ16_a9_4 hJ16_l2 hJ16_c0_70 hJ16_c0_73 hJ16_c0_117 hJ16_a12 hq hm16 hP hD hS hl
        have ih16 := ih
        obtain ⟨K16, hK16⟩ : ∃ K, K = F_X10_doubts_16 (lf_A g_many) (lf_A g_bar) (lf_A g_kinds) (lf_A g_walkers) (lf_A g_codeFrom) (lf_A g_codeEnd) (lf_A g_codes) (Int32.toInt p0) n := ⟨_, rfl⟩
        have hq : O = F_X10_doubts_16b (lf_A g_many) (lf_A g_bar) (lf_A g_kinds) (lf_A g_walkers) (lf_A g_codeFrom) (lf_A g_codeEnd) (lf_A g_codes) (Int32.toInt p0) K16 (lf_A J16_a3) (Int32.toInt J16_l2) (Int32.toInt J16_c0_55) (Int32.toInt J16_c0_58) (Int32.toInt J16_c0_59) (Int32.toInt J16_c0_70) (Int32.toInt J16_c0_71) (Int32.toInt J16_c0_72) (Int32.toInt J16_c0_73) (Int32.toInt J16_c0_74) (Int32.toInt J16_c0_117) (lf_A J16_a2) (lf_L J16_a6) (lf_A J16_a10) (lf_A J16_a12) (lf_A J16_a13) (lf_A J16_a14) (lf_A J16_a15) (lf_A J16_a16) (lf_A J16_a17) (lf_A J16_a18) (lf_A J16_a19) (lf_A J16_a20) := by rw [hK16]; exact hq
        unfold F_X10_doubts_16b at hq
        refine lv_aload_n hx hb dX10_doubts_16 rfl (lv_at hl 0 rfl) ?_
        refine lv_iload_n hx hb dX10_doubts_17 rfl (lv_at hl 1 rfl) ?_
        refine k_jim hP hD hS hA [0, 2] [false, true, false, true, true, true, true, true, true, true, true, true, true, true, true, true, true, true, true, true, true] rfl rfl (by decide +kernel) 0 0 (Nat.le_of_ble_eq_true rfl) (Nat.le_of_ble_eq_true rfl) (fun hPc hDc => k_runV (As := [.int p0]) (rest := []) C0 hZ hS hA (s_X10_trustsOf l dC dI cy sq a_this rm x_taped x_at x_end x_ended x_bad x_badPlace x_fault x_faultPlace x_namePlace x_awayTold x_away x_coded x_statements x_isCrossing J16_c0_55 J16_c0_58 J16_c0_59 J16_c0_70 J16_c0_71 J16_c0_72 J16_c0_73 J16_c0_74 x_rowMany x_fitMany x_fitRules x_fitGreen x_undoable x_newest x_seeded x_qCoded x_qWaits x_qOpened x_qBase J16_c0_117 x_qAnswer x_qIsNew x_octets J16_a2 p0 (ib_w 0 5 hK16_p0 rfl)) mV_X10_463 hPc hDc rfl rfl rfl hl rfl rfl (Nat.le_of_ble_eq_true rfl) ⟨(Nat.le_of_ble_eq_true rfl), (Nat.le_of_ble_eq_true rfl)⟩ ⟨(Nat.le_of_ble_eq_true rfl), (Nat.le_of_ble_eq_true rfl)⟩ dX10_doubts_18) (fun r15 u16 H locs hw hP hD hS => ?_)
        try dsimp only at hP hD hw
        replace hP : va_P (dC, dI) vwCl [(wi_rm41_0_4_0 rm cy g_many), (wi_rm57_0_9_0 rm cy J16_a3), (wi_rm49_0_6_0 rm cy g_codeFrom), (wi_rm50_0_6_0 rm cy g_codeEnd), (wi_rm116_1_1700_1 rm cy J16_a6), (wi_rm51_0_3200_0 rm cy g_codes), (wi_rm46_0_48_0 rm cy g_walkers), (wi_rm43_0_8_0 rm cy g_bar), (wi_rm65_0_12_0 rm cy J16_a10), (wi_rm44_0_24_0 rm cy g_kinds), (wi_rm61_0_300_0 rm cy J16_a12), (wi_rm66_3_12_0 rm cy J16_a13), (wi_rm67_3_12_0 rm cy J16_a14), (wi_rm60_3_320_0 rm cy J16_a15), (wi_rm63_3_12_0 rm cy J16_a16), (wi_rm64_0_12_0 rm cy J16_a17), (wi_rm68_3_12_0 rm cy J16_a18), (wi_rm69_3_300_0 rm cy J16_a19), (wi_rm62_3_300_0 rm cy J16_a20), (a_this, .inr (10, mfs rm x_taped x_at x_end x_ended x_bad x_badPlace x_fault x_faultPlace x_namePlace x_awayTold x_away x_coded x_statements x_isCrossing J16_c0_55 J16_c0_58 J16_c0_59 J16_c0_70 J16_c0_71 J16_c0_72 J16_c0_73 J16_c0_74 x_rowMany x_fitMany x_fitRules x_fitGreen x_undoable x_newest x_seeded x_qCoded x_qWaits x_qOpened x_qBase J16_c0_117 x_qAnswer x_qIsNew x_octets)), (wi_rm56_0_9_0 rm cy J16_a2)] H := hP
        replace hD := k_D hP hD
        have h17 := hw
        replace hq := lf_b1 hq h17
        refine lv_if_le (tgt := 54) hx hb dX10_doubts_21 rfl (fun c18 => ?_) (fun c18 => ?_)
        · replace hq := lf_pos hq (lf_le (lf_rf r15) (lf_lc 0 (0 : Int) rfl) c18)
          have h19 := ib_le (ib_any r15) (ib_c 0 0 0 rfl) c18
          have h20 : ib r15 (-2147483648) 0 := ib_w (-2147483648) 0 h19.1 rfl
          exact jn54 J16_a3 J16_l2 J16_c0_55 J16_c0_58 J16_c0_59 J16_c0_70 J16_c0_71 J16_c0_72 J16_c0_73 J16_c0_74 J16_c0_117 J16_a2 J16_a6 J16_a10 J16_a12 J16_a13 J16_a14 J16_a15 J16_a16 J16_a17 J16_a18 J16_a19 J16_a20 H locs ls (ib_w 0 5 hK16_p0 rfl) (ib_w 1 6 hJ16_a1_2 rfl) (ib_w 10 120 hJ16_a9_4 rfl) (ib_w 0 30 hJ16_l2 rfl) (ib_w 0 1 hJ16_c0_70 rfl) (ib_w 0 1 hJ16_c0_73 rfl) (ib_w 0 1700 hJ16_c0_117 rfl) hJ16_a12 (by exact hq) (hP.sub [19, 0, 20, 1, 2, 3, 4, 5, 6, 7, 8, 9, 10, 11, 12, 13, 14, 15, 16, 17, 18] rfl) (hD.sub [19, 0, 20, 1, 2, 3, 4, 5, 6, 7, 8, 9, 10, 11, 12, 13, 14, 15, 16, 17, 18] (by decide +kernel) rfl) hS (lv_sub hl [0, 1, 2] rfl)
        · as_aux_lemma =>
            replace hq := lf_neg hq (lf_nle (lf_rf r15) (lf_lc 0 (0 : Int) rfl) c18)
            have h21 := ib_nle (ib_any r15) (ib_c 0 0 0 rfl) c18
            have h22 : ib r15 1 2147483647 := ib_w 1 2147483647 h21.1 rfl
            refine lv_iload_n hx hb dX10_doubts_24 rfl (lv_at hl 2 rfl) ?_
            refine lv_bipush (v := 30) hx hb dX10_doubts_25 rfl ?_
            refine lv_icmp_ge (tgt := 54) hx hb dX10_doubts_27 rfl (fun c23 => ?_) (fun c23 => ?_)
            · replace hq := lf_pos hq (lf_le (lf_lc 30 (30 : Int) rfl) (lf_rf J16_l2) c23)
              have h24 := ib_le (ib_c 30 30 30 rfl) hJ16_l2 c23
              have h25 : ib J16_l2 30 30 := ib_w 30 30 h24.2 rfl
              exact jn54 J16_a3 J16_l2 J16_c0_55 J16_c0_58 J16_c0_59 J16_c0_70 J16_c0_71 J16_c0_72 J16_c0_73 J16_c0_74 J16_c0_117 J16_a2 J16_a6 J16_a10 J16_a12 J16_a13 J16_a14 J16_a15 J16_a16 J16_a17 J16_a18 J16_a19 J16_a20 H locs ls (ib_w 0 5 hK16_p0 rfl) (ib_w 1 6 hJ16_a1_2 rfl) (ib_w 10 120 hJ16_a9_4 rfl) (ib_w 0 30 h25 rfl) (ib_w 0 1 hJ16_c0_70 rfl) (ib_w 0 1 hJ16_c0_73 rfl) (ib_w 0 1700 hJ16_c0_117 rfl) hJ16_a12 (by exact hq) (hP.sub [19, 0, 20, 1, 2, 3, 4, 5, 6, 7, 8, 9, 10, 11, 12, 13, 14, 15, 16, 17, 18] rfl) (hD.sub [19, 0, 20, 1, 2, 3, 4, 5, 6, 7, 8, 9, 10, 11, 12, 13, 14, 15, 16, 17, 18] (by decide +kernel) rfl) hS (lv_sub hl [0, 1, 2] rfl)
            · as_aux_lemma =>
                replace hq := lf_neg hq (lf_nle (lf_lc 30 (30 : Int) rfl) (lf_rf J16_l2) c23)
                have h26 := ib_nle (ib_c 30 30 30 rfl) hJ16_l2 c23
                have h27 : ib J16_l2 0 29 := ib_w 0 29 h26.2 rfl
                refine lv_aload_n hx hb dX10_doubts_30 rfl (lv_at hl 0 rfl) ?_
                refine k_get C0 fg_X10_139 hP 19 rfl rfl dX10_doubts_31 ?_
                refine lv_iconst (v := 0) hx hb dX10_doubts_34 rfl ?_
                refine va_iald hx hb C0.2.2.2.2.2.1 hP 20 0 rfl rfl (k_in 0 9 rfl) dX10_doubts_35 ?_
                refine lv_topi (fun z28 ez28 => ?_)
                have Ez28 := lf_ld ez28 (lf_ra J16_a2) (lf_lc 0 (0 : Int) rfl)
                refine lv_sipush (v := 999) hx hb dX10_doubts_36 rfl ?_
                refine lv_icmp_ge (tgt := 54) hx hb dX10_doubts_39 rfl (fun c29 => ?_) (fun c29 => ?_)
                · replace hq := lf_pos hq (lf_le (lf_lc 999 (999 : Int) rfl) Ez28 c29)
                  have h30 := ib_le (ib_c 999 999 999 rfl) (ib_any z28) c29
                  have h31 : ib z28 999 2147483647 := ib_w 999 2147483647 h30.2 rfl
                  exact jn54 J16_a3 J16_l2 J16_c0_55 J16_c0_58 J16_c0_59 J16_c0_70 J16_c0_71 J16_c0_72 J16_c0_73 J16_c0_74 J16_c0_117 J16_a2 J16_a6 J16_a10 J16_a12 J16_a13 J16_a14 J16_a15 J16_a16 J16_a17 J16_a18 J16_a19 J16_a20 H locs ls (ib_w 0 5 hK16_p0 rfl) (ib_w 1 6 hJ16_a1_2 rfl) (ib_w 10 120 hJ16_a9_4 rfl) (ib_w 0 30 h27 rfl) (ib_w 0 1 hJ16_c0_70 rfl) (ib_w 0 1 hJ16_c0_73 rfl) (ib_w 0 1700 hJ16_c0_117 rfl) hJ16_a12 (by exact hq) (hP.sub [19, 0, 20, 1, 2, 3, 4, 5, 6, 7, 8, 9, 10, 11, 12, 13, 14, 15, 16, 17, 18] rfl) (hD.sub [19, 0, 20, 1, 2, 3, 4, 5, 6, 7, 8, 9, 10, 11, 12, 13, 14, 15, 16, 17, 18] (by decide +kernel) rfl) hS (lv_sub hl [0, 1, 2] rfl)
                · as_aux_lemma =>
                    replace hq := lf_neg hq (lf_nle (lf_lc 999 (999 : Int) rfl) Ez28 c29)
                    have h32 := ib_nle (ib_c 999 999 999 rfl) (ib_any z28) c29
                    have h33 : ib z28 (-2147483648) 998 := ib_w (-2147483648) 998 h32.2 rfl
                    refine lv_aload_n hx hb dX10_doubts_42 rfl (lv_at hl 0 rfl) ?_
                    refine lv_iconst (v := 0) hx hb dX10_doubts_43 rfl ?_
                    refine k_jim hP hD hS hA [19, 2, 3, 4, 5, 6, 20, 7, 8, 9, 10, 11, 12, 13, 14, 15, 16, 17, 0, 18] [false, true] rfl rfl (by decide +kernel) 0 0 (Nat.le_of_ble_eq_true rfl) (Nat.le_of_ble_eq_true rfl) (fun hPc hDc => k_runV (As := [.int 0]) (rest := []) C0 hZ hS hA (s_X10_dayGoes l dC dI cy sq a_this rm x_taped x_at x_end x_ended x_bad x_badPlace x_fault x_faultPlace x_namePlace x_awayTold x_away x_coded x_statements x_isCrossing J16_c0_55 J16_c0_58 J16_c0_59 J16_c0_70 J16_c0_71 J16_c0_72 J16_c0_73 J16_c0_74 x_rowMany x_fitMany x_fitRules x_fitGreen x_undoable x_newest x_seeded x_qCoded x_qWaits x_qOpened x_qBase J16_c0_117 x_qAnswer x_qIsNew x_octets g_many g_bar g_kinds g_walkers g_codeFrom g_codeEnd g_codes J16_a2 J16_a15 J16_a12 J16_a20 J16_a16 J16_a17 J16_a10 J16_a13 J16_a14 J16_a18 J16_a19 J16_a6 0 (ib_w 0 1700 hJ16_c0_117 rfl) (ib_w 0 12 hg_many_3 rfl) (ib_w 10 120 hJ16_a9_4 rfl) hpg_walkers (ib_w (-1) 1600 hg_codeFrom_3 rfl) (ib_w (-1) 1600 hg_codeFrom_4 rfl) (ib_w (-1) 1600 hg_codeFrom_5 rfl) (ib_w 0 1600 hg_codeEnd_3 rfl) (ib_w 0 1600 hg_codeEnd_4 rfl) (ib_w 0 1600 hg_codeEnd_5 rfl) hJ16_a12 hG0 hG1 hG2) mV_X10_560 hPc hDc rfl rfl rfl hl rfl rfl (Nat.le_of_ble_eq_true rfl) ⟨(Nat.le_of_ble_eq_true rfl), (Nat.le_of_ble_eq_true rfl)⟩ ⟨(Nat.le_of_ble_eq_true rfl), (Nat.le_of_ble_eq_true rfl)⟩ dX10_doubts_44) (fun r34 u35 H locs hw hP hD hS => ?_)
                    obtain ⟨v36, v37, v38, v39, v40, v41, v42, v43, v44, f45, f46, f47, f48, f49, f50, f51, f52, f53, f54, f55, f56⟩ := u35
                    try dsimp only at hP hD hw
                    replace hP : va_P (dC, dI) vwCl [(wi_rm57_0_9_0 rm cy J16_a3), (a_this, .inr (10, mfs rm x_taped x_at x_end x_ended x_bad x_badPlace x_fault x_faultPlace x_namePlace x_awayTold x_away x_coded x_statements x_isCrossing v36 v37 v38 v39 v40 v41 v42 v43 x_rowMany x_fitMany x_fitRules x_fitGreen x_undoable x_newest x_seeded x_qCoded x_qWaits x_qOpened x_qBase v44 x_qAnswer x_qIsNew x_octets)), (wi_rm49_0_6_0 rm cy g_codeFrom), (wi_rm50_0_6_0 rm cy g_codeEnd), (wi_rm116_1_1700_1 rm cy f45), (wi_rm51_0_3200_0 rm cy g_codes), (wi_rm46_0_48_0 rm cy g_walkers), (wi_rm56_0_9_0 rm cy f46), (wi_rm43_0_8_0 rm cy g_bar), (wi_rm65_0_12_0 rm cy f47), (wi_rm44_0_24_0 rm cy g_kinds), (wi_rm61_0_300_0 rm cy f48), (wi_rm66_3_12_0 rm cy f49), (wi_rm67_3_12_0 rm cy f50), (wi_rm60_3_320_0 rm cy f51), (wi_rm63_3_12_0 rm cy f52), (wi_rm64_0_12_0 rm cy f53), (wi_rm68_3_12_0 rm cy f54), (wi_rm69_3_300_0 rm cy f55), (wi_rm41_0_4_0 rm cy g_many), (wi_rm62_3_300_0 rm cy f56)] H := hP
                    replace hD := k_D hP hD
                    obtain ⟨h57, h58, h59, h60, h61⟩ := hw
                    have h61 := by have h9 := h61; try simp only [show (0 : Int32).toInt = (0 : Int) from rfl] at h9; exact h9
                    replace hq := lf_p1 hq h61
                    replace hq := lf_p1 hq rfl
                    replace hq := lf_p1 hq rfl
                    replace hq := lf_p1 hq rfl
                    replace hq := lf_p1 hq rfl
                    replace hq := lf_p1 hq rfl
                    replace hq := lf_p1 hq rfl
                    replace hq := lf_p1 hq rfl
                    replace hq := lf_p1 hq rfl
                    replace hq := lf_p1 hq rfl
                    replace hq := lf_p1 hq rfl
                    replace hq := lf_p1 hq rfl
                    replace hq := lf_p1 hq rfl
                    replace hq := lf_p1 hq rfl
                    replace hq := lf_p1 hq rfl
                    replace hq := lf_p1 hq rfl
                    replace hq := lf_p1 hq rfl
                    replace hq := lf_p1 hq rfl
                    replace hq := lf_p1 hq rfl
                    replace hq := lf_p1 hq rfl
                    replace hq := lf_p1 hq rfl
                    refine lv_pop hx hb dX10_doubts_47 rfl ?_
                    obtain ⟨z62, ez62⟩ : ∃ y : Int32, y = J16_l2 + 1 := ⟨_, rfl⟩
                    refine lv_iinc (v := z62) (lv' := [(2, .int z62), (0, .ref a_this), (1, .int p0)]) hx hb dX10_doubts_48 hl (k := 2) rfl (by rw [ez62]; rfl) (Nat.le_of_ble_eq_true rfl) rfl (fun ls hl => ?_)
                    have h63 := ib_add h27 (ib_c 1 1 1 rfl) rfl
                    rw [← ez62] at h63
                    have h64 : ib z62 1 30 := ib_w 1 30 h63.1 rfl
                    have Ez62 := lf_add h63.2 (lf_rf J16_l2) (lf_lc 1 (1 : Int) rfl)
                    refine lv_goto (tgt := 16) hx hb dX10_doubts_51 rfl ?_
                    exact ih16 J16_a3 z62 v36 v37 v38 v39 v40 v41 v42 v43 v44 f46 f45 f47 f48 f49 f50 f51 f52 f53 f54 f55 f56 H locs ls (ib_w 0 5 hK16_p0 rfl) (ib_w 1 6 hJ16_a1_2 rfl) (ib_w 10 120 hJ16_a9_4 rfl) (ib_w 0 30 h64 rfl) (ib_w 0 1 h57 rfl) (ib_w 0 1 h58 rfl) (ib_w 0 1700 h59 rfl) h60 (by rw [← hK16]; rw [lf_u Ez62]; exact hq) (by have := h63.2; have : (1 : Int32).toInt = 1 := rfl; omega) (hP.sub [1, 19, 7, 0, 2, 3, 4, 5, 6, 8, 9, 10, 11, 12, 13, 14, 15, 16, 17, 18, 20] rfl) (hD.sub [1, 19, 7, 0, 2, 3, 4, 5, 6, 8, 9, 10, 11, 12, 13, 14, 15, 16, 17, 18, 20] (by decide +kernel) rfl) hS (lv_sub hl [1, 2, 0] rfl)
  refine lv_aload_n hx hb dX10_doubts_0 rfl (lv_at hl 0 rfl) ?_
  refine lv_iload_n hx hb dX10_doubts_1 rfl (lv_at hl 1 rfl) ?_
  refine k_jim hP hD hS hA [0, 1] [false, false, true, true, true, true, true, true, true, true, true, true, true, true, true, true, true, true, true, true, true] rfl rfl (by decide +kernel) 0 0 (Nat.le_of_ble_eq_true rfl) (Nat.le_of_ble_eq_true rfl) (fun hPc hDc => k_runV (As := [.int p0]) (rest := []) C0 hZ hS hA (s_X10_isKind l dC dI cy sq a_this rm x_taped x_at x_end x_ended x_bad x_badPlace x_fault x_faultPlace x_namePlace x_awayTold x_away x_coded x_statements x_isCrossing x_textKind x_askSecond x_redMany x_isOpen x_lastGreen x_greenTo x_isCycleGreen x_stillGreen x_rowMany x_fitMany x_fitRules x_fitGreen x_undoable x_newest x_seeded x_qCoded x_qWaits x_qOpened x_qBase x_qPiled x_qAnswer x_qIsNew x_octets g_many p0 (ib_w 0 6 hg_many_2 rfl)) mV_X10_528 hPc hDc rfl rfl rfl hl rfl rfl (Nat.le_of_ble_eq_true rfl) ⟨(Nat.le_of_ble_eq_true rfl), (Nat.le_of_ble_eq_true rfl)⟩ ⟨(Nat.le_of_ble_eq_true rfl), (Nat.le_of_ble_eq_true rfl)⟩ dX10_doubts_2) (fun r65 u66 H locs hw hP hD hS => ?_)
  try dsimp only at hP hD hw
  replace hP : va_P (dC, dI) vwCl [(wi_rm56_0_9_0 rm cy g_now), (wi_rm57_0_9_0 rm cy g_aside), (wi_rm49_0_6_0 rm cy g_codeFrom), (wi_rm50_0_6_0 rm cy g_codeEnd), (wi_rm116_1_1700_1 rm cy g_qPile), (wi_rm51_0_3200_0 rm cy g_codes), (wi_rm46_0_48_0 rm cy g_walkers), (wi_rm43_0_8_0 rm cy g_bar), (wi_rm65_0_12_0 rm cy g_waits), (wi_rm44_0_24_0 rm cy g_kinds), (wi_rm61_0_300_0 rm cy g_gaps), (wi_rm66_3_12_0 rm cy g_goes), (wi_rm67_3_12_0 rm cy g_harms), (wi_rm60_3_320_0 rm cy g_isCar), (wi_rm63_3_12_0 rm cy g_isHere), (wi_rm64_0_12_0 rm cy g_crosses), (wi_rm68_3_12_0 rm cy g_presses), (wi_rm69_3_300_0 rm cy g_crossedIn), (wi_rm62_3_300_0 rm cy g_isGreen), (a_this, .inr (10, mfs rm x_taped x_at x_end x_ended x_bad x_badPlace x_fault x_faultPlace x_namePlace x_awayTold x_away x_coded x_statements x_isCrossing x_textKind x_askSecond x_redMany x_isOpen x_lastGreen x_greenTo x_isCycleGreen x_stillGreen x_rowMany x_fitMany x_fitRules x_fitGreen x_undoable x_newest x_seeded x_qCoded x_qWaits x_qOpened x_qBase x_qPiled x_qAnswer x_qIsNew x_octets)), (wi_rm41_0_4_0 rm cy g_many)] H := hP
  replace hD := k_D hP hD
  obtain ⟨h67, h68, h69, h70⟩ := hw
  replace hq := lf_b1 hq h70
  refine lv_if_ne (tgt := 10) hx hb dX10_doubts_5 rfl (fun c71 => ?_) (fun c71 => ?_)
  · replace hq := lf_neg hq (lf_ne (lf_rf r65) (lf_lc 0 (0 : Int) rfl) c71)
    have h72 : ib r65 1 1 := ib_w 1 1 (ib_ne_lo 0 h67 rfl c71) rfl
    have h73 : ib (g_many 2) 1 6 := ib_w 1 6 (ib_two hg_many_2 (h68 (ib_nz h72 rfl))) rfl
    have h74 : ib (g_bar 4) 10 120 := ib_w 10 120 (ib_two hg_bar_4 (hc_m2 (ib_nz h73 rfl))) rfl
    have h75 : ib p0 0 5 := ib_w 0 5 (ib_two (ib_any p0) (h69 (ib_nz h72 rfl))) rfl
    refine lv_iconst (v := 0) hx hb dX10_doubts_10 rfl ?_
    refine lv_istore_n (lv' := [(2, .int 0), (0, .ref a_this), (1, .int p0)]) hx hb dX10_doubts_11 rfl hl (Nat.le_of_ble_eq_true rfl) rfl (fun ls hl => ?_)
    refine lv_aload_n hx hb dX10_doubts_12 rfl (lv_at hl 1 rfl) ?_
    refine k_jvm hP hD hS hA [19, 0, 1] [false, false, true, true, true, true, true, true, true, true, true, true, true, true, true, true, true, true, true, false, true] rfl rfl (by decide +kernel) 0 0 (Nat.le_of_ble_eq_true rfl) (Nat.le_of_ble_eq_true rfl) (fun hPc hDc => k_runV (As := []) (rest := []) C0 hZ hS hA (s_X10_putsAside l dC dI cy sq a_this rm x_taped x_at x_end x_ended x_bad x_badPlace x_fault x_faultPlace x_namePlace x_awayTold x_away x_coded x_statements x_isCrossing x_textKind x_askSecond x_redMany x_isOpen x_lastGreen x_greenTo x_isCycleGreen x_stillGreen x_rowMany x_fitMany x_fitRules x_fitGreen x_undoable x_newest x_seeded x_qCoded x_qWaits x_qOpened x_qBase x_qPiled x_qAnswer x_qIsNew x_octets g_now g_aside ) mV_X10_557 hPc hDc rfl rfl rfl hl rfl rfl (Nat.le_of_ble_eq_true rfl) ⟨(Nat.le_of_ble_eq_true rfl), (Nat.le_of_ble_eq_true rfl)⟩ ⟨(Nat.le_of_ble_eq_true rfl), (Nat.le_of_ble_eq_true rfl)⟩ dX10_doubts_13) (fun u77 H locs hw hP hD hS => ?_)
    obtain ⟨f78, ef78⟩ : ∃ z, z = u77 := ⟨_, rfl⟩; subst ef78
    try dsimp only at hP hD hw
    replace hP : va_P (dC, dI) vwCl [(wi_rm49_0_6_0 rm cy g_codeFrom), (wi_rm50_0_6_0 rm cy g_codeEnd), (wi_rm116_1_1700_1 rm cy g_qPile), (wi_rm51_0_3200_0 rm cy g_codes), (wi_rm46_0_48_0 rm cy g_walkers), (wi_rm43_0_8_0 rm cy g_bar), (wi_rm65_0_12_0 rm cy g_waits), (wi_rm44_0_24_0 rm cy g_kinds), (wi_rm61_0_300_0 rm cy g_gaps), (wi_rm66_3_12_0 rm cy g_goes), (wi_rm67_3_12_0 rm cy g_harms), (wi_rm60_3_320_0 rm cy g_isCar), (wi_rm63_3_12_0 rm cy g_isHere), (wi_rm64_0_12_0 rm cy g_crosses), (wi_rm68_3_12_0 rm cy g_presses), (wi_rm69_3_300_0 rm cy g_crossedIn), (wi_rm62_3_300_0 rm cy g_isGreen), (wi_rm41_0_4_0 rm cy g_many), (a_this, .inr (10, mfs rm x_taped x_at x_end x_ended x_bad x_badPlace x_fault x_faultPlace x_namePlace x_awayTold x_away x_coded x_statements x_isCrossing x_textKind x_askSecond x_redMany x_isOpen x_lastGreen x_greenTo x_isCycleGreen x_stillGreen x_rowMany x_fitMany x_fitRules x_fitGreen x_undoable x_newest x_seeded x_qCoded x_qWaits x_qOpened x_qBase x_qPiled x_qAnswer x_qIsNew x_octets)), (wi_rm56_0_9_0 rm cy g_now), (wi_rm57_0_9_0 rm cy f78)] H := hP
    replace hD := k_D hP hD
    have h79 := hw
    replace hq := lf_b1 hq h79
    exact jn16 32 f78 0 x_textKind x_askSecond x_redMany x_isOpen x_lastGreen x_greenTo x_isCycleGreen x_stillGreen x_qPiled g_now g_qPile g_waits g_gaps g_goes g_harms g_isCar g_isHere g_crosses g_presses g_crossedIn g_isGreen H locs ls (ib_w 0 5 h75 rfl) (ib_w 1 6 h73 rfl) (ib_w 10 120 h74 rfl) (ib_w 0 30 (ib_c 0 0 0 rfl) rfl) (ib_w 0 1 hx_isOpen rfl) (ib_w 0 1 hx_isCycleGreen rfl) (ib_w 0 1700 hx_qPiled rfl) hg_gaps (by try simp only [show (0 : Int32).toInt = (0 : Int) from rfl]; exact hq) (by have := (ib_c 0 0 0 rfl); unfold ib at this; omega) (hP.sub [18, 17, 19, 20, 0, 1, 2, 3, 4, 5, 6, 7, 8, 9, 10, 11, 12, 13, 14, 15, 16] rfl) (hD.sub [18, 17, 19, 20, 0, 1, 2, 3, 4, 5, 6, 7, 8, 9, 10, 11, 12, 13, 14, 15, 16] (by decide +kernel) rfl) hS (lv_sub hl [1, 2, 0] rfl)
  · replace hq := lf_pos hq (lf_eq (lf_rf r65) (lf_lc 0 (0 : Int) rfl) c71)
    have h80 := ib_eq h67 (ib_c 0 0 0 rfl) c71
    have h81 : ib r65 0 0 := ib_w 0 0 h80.1 rfl
    refine lv_iconst (v := (-1)) hx hb dX10_doubts_8 rfl ?_
    subst hQ; exact k_iret hx hb hr hlk rfl ((x_textKind, x_askSecond, x_redMany, x_isOpen, x_lastGreen, x_greenTo, x_isCycleGreen, x_stillGreen, x_qPiled, g_now, g_aside, g_qPile, g_waits, g_gaps, g_goes, g_harms, g_isCar, g_isHere, g_crosses, g_presses, g_crossedIn, g_isGreen)) hS ⟨ib_w 0 1 hx_isOpen rfl, ib_w 0 1 hx_isCycleGreen rfl, ib_w 0 1700 hx_qPiled rfl, hg_gaps, ib_w (-1) 30 (ib_c (-1) (-1) (-1) rfl) rfl, (hO.symm.trans (by try simp only [show ((-1) : Int32).toInt = (-1 : Int) from rfl]; exact hq))⟩ (hP.sub [19, 20, 0, 1, 2, 3, 4, 5, 6, 7, 8, 9, 10, 11, 12, 13, 14, 15, 16, 17, 18] rfl) (hD.sub [19, 20, 0, 1, 2, 3, 4, 5, 6, 7, 8, 9, 10, 11, 12, 13, 14, 15, 16, 17, 18] (by decide +kernel) rfl) (Nat.le_of_ble_eq_true rfl) (Nat.le_of_ble_eq_true rfl) dX10_doubts_9
set_option maxHeartbeats 4000000 in
set_option maxRecDepth 100000 in
theorem s_X10_end (l : Launch) (dC : Nat → ClassId) (dI : Nat → Nat → Nat) (cy : Nat → ClassId) (sq : Nat → Nat) (a_this : Nat) (rm : Nat → Nat) (x_taped : Int32) (x_at : Int32) (x_end : Int32) (x_ended : Int32) (x_bad : Int32) (x_badPlace : Int32) (x_fault : Int32) (x_faultPlace : Int32) (x_namePlace : Int32) (x_awayTold : Int32) (x_away : Int32) (x_coded : Int32) (x_statements : Int32) (x_isCrossing : Int32) (x_textKind : Int32) (x_askSecond : Int32) (x_redMany : Int32) (x_isOpen : Int32) (x_lastGreen : Int32) (x_greenTo : Int32) (x_isCycleGreen : Int32) (x_stillGreen : Int32) (x_rowMany : Int32) (x_fitMany : Int32) (x_fitRules : Int32) (x_fitGreen : Int32) (x_undoable : Int32) (x_newest : Int32) (x_seeded : Int64) (x_qCoded : Int32) (x_qWaits : Int32) (x_qOpened : Int32) (x_qBase : Int32) (x_qPiled : Int32) (x_qAnswer : Int64) (x_qIsNew : Int32) (x_octets : Int32) (g_refused : Nat → Int32) (p0 : Int32) (hx_taped : ib x_taped 0 1600) : k_Met l yX10_end cX10_end 2 (some .boolean) { frames := 0, cells := 0, slots := 0, locals := 0 } dC dI cy sq [.ref a_this, .int p0] [(a_this, .inr (10, mfs rm x_taped x_at x_end x_ended x_bad x_badPlace x_fault x_faultPlace x_namePlace x_awayTold x_away x_coded x_statements x_isCrossing x_textKind x_askSecond x_redMany x_isOpen x_lastGreen x_greenTo x_isCycleGreen x_stillGreen x_rowMany x_fitMany x_fitRules x_fitGreen x_undoable x_newest x_seeded x_qCoded x_qWaits x_qOpened x_qBase x_qPiled x_qAnswer x_qIsNew x_octets)), (wi_rm9_0_6_0 rm cy g_refused)] (k_Qi dC dI (fun (r : Int32) (u : Int32 × (Nat → Int32)) => match u with | (n0, n1) => ib n0 0 1600 ∧ ib r 0 1 ∧ (¬ r = 0 → ib p0 0 1600) ∧ ((0 ≤ p0.toInt ∧ p0.toInt ≤ x_taped.toInt ∧ n0 = p0 ∧ r = 1) ∨ (¬ (0 ≤ p0.toInt ∧ p0.toInt ≤ x_taped.toInt) ∧ n0 = x_taped ∧ r = 0)) ∧ (F_X10_end (Int32.toInt x_taped) (lf_A g_refused) (Int32.toInt p0) = ((Int32.toInt r), (Int32.toInt n0), (lf_A n1)))) (fun u : Int32 × (Nat → Int32) => match u with | (n0, n1) => [(a_this, .inr (10, mfs rm n0 x_at x_end x_ended x_bad x_badPlace x_fault x_faultPlace x_namePlace x_awayTold x_away x_coded x_statements x_isCrossing x_textKind x_askSecond x_redMany x_isOpen x_lastGreen x_greenTo x_isCycleGreen x_stillGreen x_rowMany x_fitMany x_fitRules x_fitGreen x_undoable x_newest x_seeded x_qCoded x_qWaits x_qOpened x_qBase x_qPiled x_qAnswer x_qIsNew x_octets)), (wi_rm9_0_6_0 rm cy n1)])) := by
  refine k_ofW2 (by decide +kernel) (Nat.le_of_ble_eq_true rfl) ?_
  intro p e s m below meth c A ls H locs args Q hQ C0 hZ hr hlk hin hP hD hA hS hl
  have C0 : k_cx p s m args c cX10_end 2 RX10 dC dI cy sq := C0
  have hx := C0.1
  have hb := C0.2.1
  have hl : lv_has ls 2 [(0, .ref a_this), (1, .int p0)] := hl
  obtain ⟨O, hO⟩ : ∃ o, o = F_X10_end (Int32.toInt x_taped) (lf_A g_refused) (Int32.toInt p0) := ⟨_, rfl⟩
  have hq := hO
  unfold F_X10_end at hq
  refine lv_iload_n hx hb dX10_end_0 rfl (lv_at hl 1 rfl) ?_
  refine lv_if_lt (tgt := 12) hx hb dX10_end_1 rfl (fun c1 => ?_) (fun c1 => ?_)
  · as_aux_lemma =>
      replace hq := lf_pos hq (lf_lt (lf_rf p0) (lf_lc 0 (0 : Int) rfl) c1)
      have h2 := ib_lt (ib_any p0) (ib_c 0 0 0 rfl) c1
      have h3 : ib p0 (-2147483648) (-1) := ib_w (-2147483648) (-1) h2.1 rfl
      refine lv_aload_n hx hb dX10_end_12 rfl (lv_at hl 0 rfl) ?_
      refine k_get C0 fg_X10_17 hP 0 rfl rfl dX10_end_13 ?_
      refine lv_iconst (v := 0) hx hb dX10_end_16 rfl ?_
      refine lv_dup2_11 hx hb dX10_end_17 rfl rfl ?_
      refine va_iald hx hb C0.2.2.2.2.2.1 hP 1 0 rfl rfl (k_in 0 6 rfl) dX10_end_18 ?_
      refine lv_topi (fun z4 ez4 => ?_)
      have Ez4 := lf_ld ez4 (lf_ra g_refused) (lf_lc 0 (0 : Int) rfl)
      refine lv_iconst (v := 1) hx hb dX10_end_19 rfl ?_
      refine lv_iadd hx hb dX10_end_20 ?_
      refine lv_topi (fun z5 ez5 => ?_)
      have Ez5 := lf_op lf_iadd ez5 Ez4 (lf_lc 1 (1 : Int) rfl)
      refine va_iast hx hb C0.2.2.2.2.2.1 hP hD hS 1 0 rfl rfl (k_in 0 6 rfl) dX10_end_21 (fun H locs hP hD hS => ?_)
      replace hP : va_P (dC, dI) vwCl [(a_this, .inr (10, mfs rm x_taped x_at x_end x_ended x_bad x_badPlace x_fault x_faultPlace x_namePlace x_awayTold x_away x_coded x_statements x_isCrossing x_textKind x_askSecond x_redMany x_isOpen x_lastGreen x_greenTo x_isCycleGreen x_stillGreen x_rowMany x_fitMany x_fitRules x_fitGreen x_undoable x_newest x_seeded x_qCoded x_qWaits x_qOpened x_qBase x_qPiled x_qAnswer x_qIsNew x_octets)), (wi_rm9_0_6_0 rm cy (upd g_refused 0 z5))] H := hP
      replace hD := k_D hP hD
      generalize ef6 : upd g_refused 0 z5 = f6 at hP hD
      have Ef6 := lf_stn (X := (0 : Int)) ef6 (lf_ra g_refused) rfl Ez5
      refine lv_iconst (v := 0) hx hb dX10_end_22 rfl ?_
      subst hQ; exact k_iret hx hb hr hlk (k_nb 0 rfl) ((x_taped, f6)) hS ⟨ib_w 0 1600 hx_taped rfl, ib_w 0 1 (ib_c 0 0 0 rfl) rfl, fun hq9 => absurd rfl hq9, Or.inr ⟨by have := (hx_taped).1; have := (hx_taped).2; have := (h3).1; have := (h3).2; omega, rfl, rfl⟩, (hO.symm.trans (by try simp only [show (0 : Int32).toInt = (0 : Int) from rfl]; rw [lf_ua Ef6]; exact hq))⟩ hP hD (Nat.le_of_ble_eq_true rfl) (Nat.le_of_ble_eq_true rfl) dX10_end_23
  · as_aux_lemma =>
      replace hq := lf_neg hq (lf_nlt (lf_rf p0) (lf_lc 0 (0 : Int) rfl) c1)
      have h7 := ib_nlt (ib_any p0) (ib_c 0 0 0 rfl) c1
      have h8 : ib p0 0 2147483647 := ib_w 0 2147483647 h7.1 rfl
      refine lv_iload_n hx hb dX10_end_4 rfl (lv_at hl 1 rfl) ?_
      refine lv_aload_n hx hb dX10_end_5 rfl (lv_at hl 0 rfl) ?_
      refine k_get C0 fg_X10_276 hP 0 rfl rfl dX10_end_6 ?_
      refine lv_icmp_le (tgt := 24) hx hb dX10_end_9 rfl (fun c9 => ?_) (fun c9 => ?_)
      · replace hq := lf_pos hq (lf_le (lf_rf p0) (lf_rf x_taped) c9)
        have h10 := ib_le h8 hx_taped c9
        have h11 : ib p0 0 1600 := ib_w 0 1600 h10.1 rfl
        refine lv_aload_n hx hb dX10_end_24 rfl (lv_at hl 0 rfl) ?_
        refine lv_iload_n hx hb dX10_end_25 rfl (lv_at hl 1 rfl) ?_
        refine k_put C0 fp_X10_276 hP hD hS 0 rfl rfl rfl (Nat.le_of_ble_eq_true rfl) dX10_end_26 (fun H locs hP hD hS => ?_)
        replace hP : va_P (dC, dI) vwCl [(a_this, .inr (10, mfs rm p0 x_at x_end x_ended x_bad x_badPlace x_fault x_faultPlace x_namePlace x_awayTold x_away x_coded x_statements x_isCrossing x_textKind x_askSecond x_redMany x_isOpen x_lastGreen x_greenTo x_isCycleGreen x_stillGreen x_rowMany x_fitMany x_fitRules x_fitGreen x_undoable x_newest x_seeded x_qCoded x_qWaits x_qOpened x_qBase x_qPiled x_qAnswer x_qIsNew x_octets)), (wi_rm9_0_6_0 rm cy g_refused)] H := hP
        replace hD := k_D hP hD
        refine lv_iconst (v := 1) hx hb dX10_end_29 rfl ?_
        subst hQ; exact k_iret hx hb hr hlk (k_nb 1 rfl) ((p0, g_refused)) hS ⟨ib_w 0 1600 h11 rfl, ib_w 0 1 (ib_c 1 1 1 rfl) rfl, fun _ => ib_w 0 1600 h11 rfl, Or.inl ⟨by have := (hx_taped).1; have := (hx_taped).2; have := (h11).1; have := (h11).2; have := Int32.le_iff_toInt_le.mp c9; omega, by have := (hx_taped).1; have := (hx_taped).2; have := (h11).1; have := (h11).2; have := Int32.le_iff_toInt_le.mp c9; omega, rfl, rfl⟩, (hO.symm.trans (by try simp only [show (1 : Int32).toInt = (1 : Int) from rfl]; exact hq))⟩ hP hD (Nat.le_of_ble_eq_true rfl) (Nat.le_of_ble_eq_true rfl) dX10_end_30
      · as_aux_lemma =>
          replace hq := lf_neg hq (lf_nle (lf_rf p0) (lf_rf x_taped) c9)
          have h12 := ib_nle h8 hx_taped c9
          have h13 : ib p0 1 2147483647 := ib_w 1 2147483647 h12.1 rfl
          refine lv_aload_n hx hb dX10_end_12 rfl (lv_at hl 0 rfl) ?_
          refine k_get C0 fg_X10_17 hP 0 rfl rfl dX10_end_13 ?_
          refine lv_iconst (v := 0) hx hb dX10_end_16 rfl ?_
          refine lv_dup2_11 hx hb dX10_end_17 rfl rfl ?_
          refine va_iald hx hb C0.2.2.2.2.2.1 hP 1 0 rfl rfl (k_in 0 6 rfl) dX10_end_18 ?_
          refine lv_topi (fun z14 ez14 => ?_)
          have Ez14 := lf_ld ez14 (lf_ra g_refused) (lf_lc 0 (0 : Int) rfl)
          refine lv_iconst (v := 1) hx hb dX10_end_19 rfl ?_
          refine lv_iadd hx hb dX10_end_20 ?_
          refine lv_topi (fun z15 ez15 => ?_)
          have Ez15 := lf_op lf_iadd ez15 Ez14 (lf_lc 1 (1 : Int) rfl)
          refine va_iast hx hb C0.2.2.2.2.2.1 hP hD hS 1 0 rfl rfl (k_in 0 6 rfl) dX10_end_21 (fun H locs hP hD hS => ?_)
          replace hP : va_P (dC, dI) vwCl [(a_this, .inr (10, mfs rm x_taped x_at x_end x_ended x_bad x_badPlace x_fault x_faultPlace x_namePlace x_awayTold x_away x_coded x_statements x_isCrossing x_textKind x_askSecond x_redMany x_isOpen x_lastGreen x_greenTo x_isCycleGreen x_stillGreen x_rowMany x_fitMany x_fitRules x_fitGreen x_undoable x_newest x_seeded x_qCoded x_qWaits x_qOpened x_qBase x_qPiled x_qAnswer x_qIsNew x_octets)), (wi_rm9_0_6_0 rm cy (upd g_refused 0 z15))] H := hP
          replace hD := k_D hP hD
          generalize ef16 : upd g_refused 0 z15 = f16 at hP hD
          have Ef16 := lf_stn (X := (0 : Int)) ef16 (lf_ra g_refused) rfl Ez15
          refine lv_iconst (v := 0) hx hb dX10_end_22 rfl ?_
          subst hQ; exact k_iret hx hb hr hlk (k_nb 0 rfl) ((x_taped, f16)) hS ⟨ib_w 0 1600 hx_taped rfl, ib_w 0 1 (ib_c 0 0 0 rfl) rfl, fun hq9 => absurd rfl hq9, Or.inr ⟨by have := (hx_taped).1; have := (hx_taped).2; have := (h13).1; have := (h13).2; have := mt Int32.le_iff_toInt_le.mpr c9; omega, rfl, rfl⟩, (hO.symm.trans (by try simp only [show (0 : Int32).toInt = (0 : Int) from rfl]; rw [lf_ua Ef16]; exact hq))⟩ hP hD (Nat.le_of_ble_eq_true rfl) (Nat.le_of_ble_eq_true rfl) dX10_end_23
set_option maxHeartbeats 4000000 in
set_option maxRecDepth 100000 in
theorem s_X10_fail (l : Launch) (dC : Nat → ClassId) (dI : Nat → Nat → Nat) (cy : Nat → ClassId) (sq : Nat → Nat) (a_this : Nat) (rm : Nat → Nat) (x_taped : Int32) (x_at : Int32) (x_end : Int32) (x_ended : Int32) (x_bad : Int32) (x_badPlace : Int32) (x_fault : Int32) (x_faultPlace : Int32) (x_namePlace : Int32) (x_awayTold : Int32) (x_away : Int32) (x_coded : Int32) (x_statements : Int32) (x_isCrossing : Int32) (x_textKind : Int32) (x_askSecond : Int32) (x_redMany : Int32) (x_isOpen : Int32) (x_lastGreen : Int32) (x_greenTo : Int32) (x_isCycleGreen : Int32) (x_stillGreen : Int32) (x_rowMany : Int32) (x_fitMany : Int32) (x_fitRules : Int32) (x_fitGreen : Int32) (x_undoable : Int32) (x_newest : Int32) (x_seeded : Int64) (x_qCoded : Int32) (x_qWaits : Int32) (x_qOpened : Int32) (x_qBase : Int32) (x_qPiled : Int32) (x_qAnswer : Int64) (x_qIsNew : Int32) (x_octets : Int32) (p0 : Int32) (p1 : Int32)  : k_Met l yX10_fail cX10_fail 3 none { frames := 0, cells := 0, slots := 0, locals := 0 } dC dI cy sq [.ref a_this, .int p0, .int p1] [(a_this, .inr (10, mfs rm x_taped x_at x_end x_ended x_bad x_badPlace x_fault x_faultPlace x_namePlace x_awayTold x_away x_coded x_statements x_isCrossing x_textKind x_askSecond x_redMany x_isOpen x_lastGreen x_greenTo x_isCycleGreen x_stillGreen x_rowMany x_fitMany x_fitRules x_fitGreen x_undoable x_newest x_seeded x_qCoded x_qWaits x_qOpened x_qBase x_qPiled x_qAnswer x_qIsNew x_octets))] (k_Qv dC dI (fun (u : Int32 × Int32) => match u with | (n0, n1) => (n0 = 0 → x_bad = 0) ∧ (F_X10_fail (Int32.toInt x_bad) (Int32.toInt x_badPlace) (Int32.toInt p0) (Int32.toInt p1) = ((Int32.toInt n0), (Int32.toInt n1)))) (fun u : Int32 × Int32 => match u with | (n0, n1) => [(a_this, .inr (10, mfs rm x_taped x_at x_end x_ended n0 n1 x_fault x_faultPlace x_namePlace x_awayTold x_away x_coded x_statements x_isCrossing x_textKind x_askSecond x_redMany x_isOpen x_lastGreen x_greenTo x_isCycleGreen x_stillGreen x_rowMany x_fitMany x_fitRules x_fitGreen x_undoable x_newest x_seeded x_qCoded x_qWaits x_qOpened x_qBase x_qPiled x_qAnswer x_qIsNew x_octets))])) := by
  refine k_ofW2 (by decide +kernel) (Nat.le_of_ble_eq_true rfl) ?_
  intro p e s m below meth c A ls H locs args Q hQ C0 hZ hr hlk hin hP hD hA hS hl
  have C0 : k_cx p s m args c cX10_fail 3 RX10 dC dI cy sq := C0
  have hx := C0.1
  have hb := C0.2.1
  have hl : lv_has ls 3 [(0, .ref a_this), (1, .int p0), (2, .int p1)] := hl
  obtain ⟨O, hO⟩ : ∃ o, o = F_X10_fail (Int32.toInt x_bad) (Int32.toInt x_badPlace) (Int32.toInt p0) (Int32.toInt p1) := ⟨_, rfl⟩
  have hq := hO
  unfold F_X10_fail at hq
  refine lv_aload_n hx hb dX10_fail_0 rfl (lv_at hl 0 rfl) ?_
  refine k_get C0 fg_X10_279 hP 0 rfl rfl dX10_fail_1 ?_
  refine lv_if_eq (tgt := 8) hx hb dX10_fail_4 rfl (fun c1 => ?_) (fun c1 => ?_)
  · replace hq := lf_pos hq (lf_eq (lf_rf x_bad) (lf_lc 0 (0 : Int) rfl) c1)
    have h2 := ib_eq (ib_any x_bad) (ib_c 0 0 0 rfl) c1
    have h3 : ib x_bad 0 0 := ib_w 0 0 h2.1 rfl
    refine lv_aload_n hx hb dX10_fail_8 rfl (lv_at hl 0 rfl) ?_
    refine lv_iload_n hx hb dX10_fail_9 rfl (lv_at hl 1 rfl) ?_
    refine k_put C0 fp_X10_279 hP hD hS 0 rfl rfl rfl (Nat.le_of_ble_eq_true rfl) dX10_fail_10 (fun H locs hP hD hS => ?_)
    replace hP : va_P (dC, dI) vwCl [(a_this, .inr (10, mfs rm x_taped x_at x_end x_ended p0 x_badPlace x_fault x_faultPlace x_namePlace x_awayTold x_away x_coded x_statements x_isCrossing x_textKind x_askSecond x_redMany x_isOpen x_lastGreen x_greenTo x_isCycleGreen x_stillGreen x_rowMany x_fitMany x_fitRules x_fitGreen x_undoable x_newest x_seeded x_qCoded x_qWaits x_qOpened x_qBase x_qPiled x_qAnswer x_qIsNew x_octets))] H := hP
    replace hD := k_D hP hD
    refine lv_aload_n hx hb dX10_fail_13 rfl (lv_at hl 0 rfl) ?_
    refine lv_iload_n hx hb dX10_fail_14 rfl (lv_at hl 2 rfl) ?_
    refine k_put C0 fp_X10_282 hP hD hS 0 rfl rfl rfl (Nat.le_of_ble_eq_true rfl) dX10_fail_15 (fun H locs hP hD hS => ?_)
    replace hP : va_P (dC, dI) vwCl [(a_this, .inr (10, mfs rm x_taped x_at x_end x_ended p0 p1 x_fault x_faultPlace x_namePlace x_awayTold x_away x_coded x_statements x_isCrossing x_textKind x_askSecond x_redMany x_isOpen x_lastGreen x_greenTo x_isCycleGreen x_stillGreen x_rowMany x_fitMany x_fitRules x_fitGreen x_undoable x_newest x_seeded x_qCoded x_qWaits x_qOpened x_qBase x_qPiled x_qAnswer x_qIsNew x_octets))] H := hP
    replace hD := k_D hP hD
    subst hQ; exact k_vret hx hb hr hlk ((p0, p1)) hS ⟨fun _ => ib_one h3 rfl, (hO.symm.trans (by exact hq))⟩ hP hD (Nat.le_of_ble_eq_true rfl) (Nat.le_of_ble_eq_true rfl) dX10_fail_18
  · replace hq := lf_neg hq (lf_ne (lf_rf x_bad) (lf_lc 0 (0 : Int) rfl) c1)
    subst hQ; exact k_vret hx hb hr hlk ((x_bad, x_badPlace)) hS ⟨fun q => q, (hO.symm.trans (by exact hq))⟩ hP hD (Nat.le_of_ble_eq_true rfl) (Nat.le_of_ble_eq_true rfl) dX10_fail_7
set_option maxHeartbeats 4000000 in
set_option maxRecDepth 100000 in
theorem s_X10_fault (l : Launch) (dC : Nat → ClassId) (dI : Nat → Nat → Nat) (cy : Nat → ClassId) (sq : Nat → Nat) (a_this : Nat) (rm : Nat → Nat) (x_taped : Int32) (x_at : Int32) (x_end : Int32) (x_ended : Int32) (x_bad : Int32) (x_badPlace : Int32) (x_fault : Int32) (x_faultPlace : Int32) (x_namePlace : Int32) (x_awayTold : Int32) (x_away : Int32) (x_coded : Int32) (x_statements : Int32) (x_isCrossing : Int32) (x_textKind : Int32) (x_askSecond : Int32) (x_redMany : Int32) (x_isOpen : Int32) (x_lastGreen : Int32) (x_greenTo : Int32) (x_isCycleGreen : Int32) (x_stillGreen : Int32) (x_rowMany : Int32) (x_fitMany : Int32) (x_fitRules : Int32) (x_fitGreen : Int32) (x_undoable : Int32) (x_newest : Int32) (x_seeded : Int64) (x_qCoded : Int32) (x_qWaits : Int32) (x_qOpened : Int32) (x_qBase : Int32) (x_qPiled : Int32) (x_qAnswer : Int64) (x_qIsNew : Int32) (x_octets : Int32) (p0 : Int32)  : k_Met l yX10_fault cX10_fault 2 (some .int) { frames := 0, cells := 0, slots := 0, locals := 0 } dC dI cy sq [.ref a_this, .int p0] [(a_this, .inr (10, mfs rm x_taped x_at x_end x_ended x_bad x_badPlace x_fault x_faultPlace x_namePlace x_awayTold x_away x_coded x_statements x_isCrossing x_textKind x_askSecond x_redMany x_isOpen x_lastGreen x_greenTo x_isCycleGreen x_stillGreen x_rowMany x_fitMany x_fitRules x_fitGreen x_undoable x_newest x_seeded x_qCoded x_qWaits x_qOpened x_qBase x_qPiled x_qAnswer x_qIsNew x_octets))] (k_Qi dC dI (fun (r : Int32) (_ : Unit) => (F_X10_fault (Int32.toInt x_fault) (Int32.toInt x_faultPlace) (Int32.toInt p0) = ((Int32.toInt r)))) (fun _ : Unit => [(a_this, .inr (10, mfs rm x_taped x_at x_end x_ended x_bad x_badPlace x_fault x_faultPlace x_namePlace x_awayTold x_away x_coded x_statements x_isCrossing x_textKind x_askSecond x_redMany x_isOpen x_lastGreen x_greenTo x_isCycleGreen x_stillGreen x_rowMany x_fitMany x_fitRules x_fitGreen x_undoable x_newest x_seeded x_qCoded x_qWaits x_qOpened x_qBase x_qPiled x_qAnswer x_qIsNew x_octets))])) := by
  refine k_ofW2 (by decide +kernel) (Nat.le_of_ble_eq_true rfl) ?_
  intro p e s m below meth c A ls H locs args Q hQ C0 hZ hr hlk hin hP hD hA hS hl
  have C0 : k_cx p s m args c cX10_fault 2 RX10 dC dI cy sq := C0
  have hx := C0.1
  have hb := C0.2.1
  have hl : lv_has ls 2 [(0, .ref a_this), (1, .int p0)] := hl
  obtain ⟨O, hO⟩ : ∃ o, o = F_X10_fault (Int32.toInt x_fault) (Int32.toInt x_faultPlace) (Int32.toInt p0) := ⟨_, rfl⟩
  have hq := hO
  unfold F_X10_fault at hq
  refine lv_iload_n hx hb dX10_fault_0 rfl (lv_at hl 1 rfl) ?_
  refine lv_if_ne (tgt := 11) hx hb dX10_fault_1 rfl (fun c1 => ?_) (fun c1 => ?_)
  · replace hq := lf_neg hq (lf_ne (lf_rf p0) (lf_lc 0 (0 : Int) rfl) c1)
    refine lv_iload_n hx hb dX10_fault_11 rfl (lv_at hl 1 rfl) ?_
    refine lv_iconst (v := 1) hx hb dX10_fault_12 rfl ?_
    refine lv_icmp_ne (tgt := 23) hx hb dX10_fault_13 rfl (fun c2 => ?_) (fun c2 => ?_)
    · replace hq := lf_neg hq (lf_ne (lf_rf p0) (lf_lc 1 (1 : Int) rfl) c2)
      refine lv_iconst (v := (-1)) hx hb dX10_fault_23 rfl ?_
      subst hQ; exact k_iret hx hb hr hlk rfl () hS ((hO.symm.trans (by try simp only [show ((-1) : Int32).toInt = (-1 : Int) from rfl]; exact hq))) hP hD (Nat.le_of_ble_eq_true rfl) (Nat.le_of_ble_eq_true rfl) dX10_fault_24
    · replace hq := lf_pos hq (lf_eq (lf_rf p0) (lf_lc 1 (1 : Int) rfl) c2)
      have h3 := ib_eq (ib_any p0) (ib_c 1 1 1 rfl) c2
      have h4 : ib p0 1 1 := ib_w 1 1 h3.1 rfl
      refine lv_aload_n hx hb dX10_fault_16 rfl (lv_at hl 0 rfl) ?_
      refine k_get C0 fg_X10_13 hP 0 rfl rfl dX10_fault_17 ?_
      refine lv_goto (tgt := 24) hx hb dX10_fault_20 rfl ?_
      subst hQ; exact k_iret hx hb hr hlk rfl () hS ((hO.symm.trans (by exact hq))) hP hD (Nat.le_of_ble_eq_true rfl) (Nat.le_of_ble_eq_true rfl) dX10_fault_24
  · replace hq := lf_pos hq (lf_eq (lf_rf p0) (lf_lc 0 (0 : Int) rfl) c1)
    have h5 := ib_eq (ib_any p0) (ib_c 0 0 0 rfl) c1
    have h6 : ib p0 0 0 := ib_w 0 0 h5.1 rfl
    refine lv_aload_n hx hb dX10_fault_4 rfl (lv_at hl 0 rfl) ?_
    refine k_get C0 fg_X10_411 hP 0 rfl rfl dX10_fault_5 ?_
    refine lv_goto (tgt := 24) hx hb dX10_fault_8 rfl ?_
    subst hQ; exact k_iret hx hb hr hlk rfl () hS ((hO.symm.trans (by exact hq))) hP hD (Nat.le_of_ble_eq_true rfl) (Nat.le_of_ble_eq_true rfl) dX10_fault_24
set_option maxHeartbeats 4000000 in
set_option maxRecDepth 100000 in
theorem s_X10_feed (l : Launch) (dC : Nat → ClassId) (dI : Nat → Nat → Nat) (cy : Nat → ClassId) (sq : Nat → Nat) (a_this : Nat) (rm : Nat → Nat) (x_taped : Int32) (x_at : Int32) (x_end : Int32) (x_ended : Int32) (x_bad : Int32) (x_badPlace : Int32) (x_fault : Int32) (x_faultPlace : Int32) (x_namePlace : Int32) (x_awayTold : Int32) (x_away : Int32) (x_coded : Int32) (x_statements : Int32) (x_isCrossing : Int32) (x_textKind : Int32) (x_askSecond : Int32) (x_redMany : Int32) (x_isOpen : Int32) (x_lastGreen : Int32) (x_greenTo : Int32) (x_isCycleGreen : Int32) (x_stillGreen : Int32) (x_rowMany : Int32) (x_fitMany : Int32) (x_fitRules : Int32) (x_fitGreen : Int32) (x_undoable : Int32) (x_newest : Int32) (x_seeded : Int64) (x_qCoded : Int32) (x_qWaits : Int32) (x_qOpened : Int32) (x_qBase : Int32) (x_qPiled : Int32) (x_qAnswer : Int64) (x_qIsNew : Int32) (x_octets : Int32) (g_tape : Nat → Int32) (g_refused : Nat → Int32) (p0 : Int32) (p1 : Int32) (p2 : Int32) (p3 : Int32) (p4 : Int32) (hx_taped : ib x_taped 0 1600) (hg_tape : ia g_tape 1600 0 255) : k_Met l yX10_feed cX10_feed 8 (some .int) { frames := 0, cells := 0, slots := 0, locals := 0 } dC dI cy sq [.ref a_this, .int p0, .int p1, .int p2, .int p3, .int p4] [(a_this, .inr (10, mfs rm x_taped x_at x_end x_ended x_bad x_badPlace x_fault x_faultPlace x_namePlace x_awayTold x_away x_coded x_statements x_isCrossing x_textKind x_askSecond x_redMany x_isOpen x_lastGreen x_greenTo x_isCycleGreen x_stillGreen x_rowMany x_fitMany x_fitRules x_fitGreen x_undoable x_newest x_seeded x_qCoded x_qWaits x_qOpened x_qBase x_qPiled x_qAnswer x_qIsNew x_octets)), (wi_rm9_0_6_0 rm cy g_refused), (wi_rm0_0_1600_0 rm cy g_tape)] (k_Qi dC dI (fun (r : Int32) (u : Int32 × (Nat → Int32) × (Nat → Int32)) => match u with | (n0, n1, n2) => ib n0 20 1600 ∧ ia n2 1600 0 255 ∧ ib r (-1) 1600 ∧ ((x_taped.toInt + 20 ≤ 1600 ∧ n0.toInt = x_taped.toInt + 20 ∧ r = n0) ∨ (1600 < x_taped.toInt + 20 ∧ n0 = x_taped ∧ r = -1)) ∧ (F_X10_feed (Int32.toInt x_taped) (lf_A g_tape) (lf_A g_refused) (Int32.toInt p0) (Int32.toInt p1) (Int32.toInt p2) (Int32.toInt p3) (Int32.toInt p4) = ((Int32.toInt r), (Int32.toInt n0), (lf_A n1), (lf_A n2)))) (fun u : Int32 × (Nat → Int32) × (Nat → Int32) => match u with | (n0, n1, n2) => [(a_this, .inr (10, mfs rm n0 x_at x_end x_ended x_bad x_badPlace x_fault x_faultPlace x_namePlace x_awayTold x_away x_coded x_statements x_isCrossing x_textKind x_askSecond x_redMany x_isOpen x_lastGreen x_greenTo x_isCycleGreen x_stillGreen x_rowMany x_fitMany x_fitRules x_fitGreen x_undoable x_newest x_seeded x_qCoded x_qWaits x_qOpened x_qBase x_qPiled x_qAnswer x_qIsNew x_octets)), (wi_rm9_0_6_0 rm cy n1), (wi_rm0_0_1600_0 rm cy n2)])) := by
  refine k_ofW2 (by decide +kernel) (Nat.le_of_ble_eq_true rfl) ?_
  intro p e s m below meth c A ls H locs args Q hQ C0 hZ hr hlk hin hP hD hA hS hl
  have C0 : k_cx p s m args c cX10_feed 8 RX10 dC dI cy sq := C0
  have hx := C0.1
  have hb := C0.2.1
  have hl : lv_has ls 8 [(0, .ref a_this), (1, .int p0), (2, .int p1), (3, .int p2), (4, .int p3), (5, .int p4)] := hl
  obtain ⟨O, hO⟩ : ∃ o, o = F_X10_feed (Int32.toInt x_taped) (lf_A g_tape) (lf_A g_refused) (Int32.toInt p0) (Int32.toInt p1) (Int32.toInt p2) (Int32.toInt p3) (Int32.toInt p4) := ⟨_, rfl⟩
  have hq := hO
  unfold F_X10_feed at hq
  have jn28 : ∀ (n : Nat) (J28_l6 : Int32) (J28_c0_1 : Int32) (J28_a2 : Nat → Int32) (H : Heap) (locs : List Loc) (ls : Array Slot), ib J28_l6 0 20 → ib J28_c0_1 0 1600 → ia J28_a2 1600 0 255 → (1 * J28_c0_1.toInt + (-1) * J28_l6.toInt ≤ 1580) → (1 * J28_c0_1.toInt + (-1) * J28_l6.toInt + (-1) * x_taped.toInt ≤ 0) → ((-1) * J28_c0_1.toInt + 1 * J28_l6.toInt + 1 * x_taped.toInt ≤ 0) → (O = F_X10_feed_28 (lf_A g_refused) (Int32.toInt p0) (Int32.toInt p1) (Int32.toInt p2) (Int32.toInt p3) (Int32.toInt p4) n (Int32.toInt J28_l6) (Int32.toInt J28_c0_1) (lf_A J28_a2)) → 1601 ≤ J28_c0_1.toInt + (n : Int) → va_P (dC, dI) vwCl [(a_this, .inr (10, mfs rm J28_c0_1 x_at x_end x_ended x_bad x_badPlace x_fault x_faultPlace x_namePlace x_awayTold x_away x_coded x_statements x_isCrossing x_textKind x_askSecond x_redMany x_isOpen x_lastGreen x_greenTo x_isCycleGreen x_stillGreen x_rowMany x_fitMany x_fitRules x_fitGreen x_undoable x_newest x_seeded x_qCoded x_qWaits x_qOpened x_qBase x_qPiled x_qAnswer x_qIsNew x_octets)), (wi_rm9_0_6_0 rm cy g_refused), (wi_rm0_0_1600_0 rm cy J28_a2)] H → va_D A [(a_this, .inr (10, mfs rm J28_c0_1 x_at x_end x_ended x_bad x_badPlace x_fault x_faultPlace x_namePlace x_awayTold x_away x_coded x_statements x_isCrossing x_textKind x_askSecond x_redMany x_isOpen x_lastGreen x_greenTo x_isCycleGreen x_stillGreen x_rowMany x_fitMany x_fitRules x_fitGreen x_undoable x_newest x_seeded x_qCoded x_qWaits x_qOpened x_qBase x_qPiled x_qAnswer x_qIsNew x_octets)), (wi_rm9_0_6_0 rm cy g_refused), (wi_rm0_0_1600_0 rm cy J28_a2)] → va_S A s.heap H locs → lv_has ls 8 [(0, .ref a_this), (1, .int p0), (2, .int p1), (3, .int p2), (4, .int p3), (5, .int p4), (6, .int J28_l6)] → W p l e { frames := 0, cells := 0, slots := 0, locals := 0 } s m args below meth c H locs 0 0 Q (F0 m 28 ls []) := by
    as_aux_lemma =>
      intro n
      induction n with
      | zero =>
        intro J28_l6 J28_c0_1 J28_a2 H locs ls hJ28_l6 hJ28_c0_1 hJ28_a2 hJ28_lin0 hJ28_lin1 hJ28_lin2 hq hm
        exact absurd hm (by have := hJ28_c0_1; unfold ib at this; omega)
      | succ n ih =>
        intro J28_l6 J28_c0_1 J28_a2 H locs ls hJ28_l6 hJ28_c0_1 hJ28_a2 hJ28_lin0 hJ28_lin1 hJ28_lin2 hq hm28 hP hD hS hl
        have ih28 := ih
        obtain ⟨K28, hK28⟩ : ∃ K, K = F_X10_feed_28 (lf_A g_refused) (Int32.toInt p0) (Int32.toInt p1) (Int32.toInt p2) (Int32.toInt p3) (Int32.toInt p4) n := ⟨_, rfl⟩
        have hq : O = F_X10_feed_28b (lf_A g_refused) (Int32.toInt p0) (Int32.toInt p1) (Int32.toInt p2) (Int32.toInt p3) (Int32.toInt p4) K28 (Int32.toInt J28_l6) (Int32.toInt J28_c0_1) (lf_A J28_a2) := by rw [hK28]; exact hq
        unfold F_X10_feed_28b at hq
        have jn81 : ∀ (J81_s0 : Int32) (H : Heap) (locs : List Loc) (ls : Array Slot), ib J28_l6 0 19 → ib J28_c0_1 0 1599 → (O = F_X10_feed_81 (Int32.toInt J28_l6) (Int32.toInt J28_c0_1) (lf_A J28_a2) K28 (Int32.toInt J81_s0)) → va_P (dC, dI) vwCl [(a_this, .inr (10, mfs rm J28_c0_1 x_at x_end x_ended x_bad x_badPlace x_fault x_faultPlace x_namePlace x_awayTold x_away x_coded x_statements x_isCrossing x_textKind x_askSecond x_redMany x_isOpen x_lastGreen x_greenTo x_isCycleGreen x_stillGreen x_rowMany x_fitMany x_fitRules x_fitGreen x_undoable x_newest x_seeded x_qCoded x_qWaits x_qOpened x_qBase x_qPiled x_qAnswer x_qIsNew x_octets)), (wi_rm9_0_6_0 rm cy g_refused), (wi_rm0_0_1600_0 rm cy J28_a2)] H → va_D A [(a_this, .inr (10, mfs rm J28_c0_1 x_at x_end x_ended x_bad x_badPlace x_fault x_faultPlace x_namePlace x_awayTold x_away x_coded x_statements x_isCrossing x_textKind x_askSecond x_redMany x_isOpen x_lastGreen x_greenTo x_isCycleGreen x_stillGreen x_rowMany x_fitMany x_fitRules x_fitGreen x_undoable x_newest x_seeded x_qCoded x_qWaits x_qOpened x_qBase x_qPiled x_qAnswer x_qIsNew x_octets)), (wi_rm9_0_6_0 rm cy g_refused), (wi_rm0_0_1600_0 rm cy J28_a2)] → va_S A s.heap H locs → lv_has ls 8 [(0, .ref a_this), (1, .int p0), (2, .int p1), (3, .int p2), (4, .int p3), (5, .int p4), (6, .int J28_l6)] → W p l e { frames := 0, cells := 0, slots := 0, locals := 0 } s m args below meth c H locs 0 0 Q (F0 m 81 ls [.int J81_s0]) := by
          as_aux_lemma =>
            intro J81_s0 H locs ls hK81_J28_l6 hK81_J28_c0_1 hq hP hD hS hl
            unfold F_X10_feed_81 at hq
            refine lv_istore (lv' := [(7, .int J81_s0), (0, .ref a_this), (1, .int p0), (2, .int p1), (3, .int p2), (4, .int p3), (5, .int p4), (6, .int J28_l6)]) hx hb dX10_feed_81 hl (Nat.le_of_ble_eq_true rfl) rfl (fun ls hl => ?_)
            refine lv_aload_n hx hb dX10_feed_83 rfl (lv_at hl 1 rfl) ?_
            refine k_get C0 fg_X10_7 hP 0 rfl rfl dX10_feed_84 ?_
            refine lv_aload_n hx hb dX10_feed_87 rfl (lv_at hl 1 rfl) ?_
            refine k_get C0 fg_X10_276 hP 0 rfl rfl dX10_feed_88 ?_
            refine lv_iload hx hb dX10_feed_91 (lv_at hl 0 rfl) ?_
            refine lv_bipush (v := 8) hx hb dX10_feed_93 rfl ?_
            refine lv_iconst (v := 3) hx hb dX10_feed_95 rfl ?_
            refine lv_iload hx hb dX10_feed_96 (lv_at hl 7 rfl) ?_
            refine lv_iconst (v := 4) hx hb dX10_feed_98 rfl ?_
            refine lv_irem hx hb dX10_feed_99 (by decide) ?_
            refine lv_topi (fun z1 ez1 => ?_)
            have h2 : ib z1 0 3 := by rw [ez1]; exact ib_w 0 3 (ib_rem hK81_J28_l6 (ib_c 4 4 4 rfl) rfl) rfl
            have Ez1 := lf_op lf_irem ez1 (lf_rf J28_l6) (lf_lc 4 (4 : Int) rfl)
            refine lv_isub hx hb dX10_feed_100 ?_
            refine lv_topi (fun z3 ez3 => ?_)
            have h4 := ib_sub (ib_c 3 3 3 rfl) h2 rfl
            rw [← ez3] at h4
            have h5 : ib z3 0 3 := ib_w 0 3 h4.1 rfl
            have Ez3 := lf_sub h4.2 (lf_lc 3 (3 : Int) rfl) Ez1
            refine lv_imul hx hb dX10_feed_101 ?_
            refine lv_topi (fun z6 ez6 => ?_)
            have h7 := ib_mul (ib_c 8 8 8 rfl) h5 rfl
            rw [← ez6] at h7
            have h8 : ib z6 0 24 := ib_w 0 24 h7.1 rfl
            have h9 : z6.toInt = 8 * z3.toInt := by have q0 := h7.2; rw [show (8 : Int32).toInt = 8 from by decide] at q0; omega
            have Ez6 := lf_mul h7.2 (lf_lc 8 (8 : Int) rfl) Ez3
            refine lv_ishr hx hb dX10_feed_102 ?_
            as_aux_lemma =>
              refine lv_topi (fun z10 ez10 => ?_)
              have Ez10 := lf_op lf_ishr ez10 (lf_rf J81_s0) Ez6
              refine lv_sipush (v := 255) hx hb dX10_feed_103 rfl ?_
              refine lv_iand hx hb dX10_feed_106 ?_
              refine lv_topi (fun z11 ez11 => ?_)
              have h12 : ib z11 0 255 := by rw [ez11]; exact ib_and 8 (by decide) (by decide) 255 (by decide)
              have Ez11 := lf_op lf_iand ez11 Ez10 (lf_lc 255 (255 : Int) rfl)
              refine va_iast hx hb C0.2.2.2.2.2.1 hP hD hS 2 0 rfl rfl (ib_in 1600 hK81_J28_c0_1 rfl) dX10_feed_107 (fun H locs hP hD hS => ?_)
              have h14 := ia_upd hJ28_a2 (Int32.toNatClampNeg J28_c0_1) (ib_w 0 255 h12 rfl)
              replace hP : va_P (dC, dI) vwCl [(a_this, .inr (10, mfs rm J28_c0_1 x_at x_end x_ended x_bad x_badPlace x_fault x_faultPlace x_namePlace x_awayTold x_away x_coded x_statements x_isCrossing x_textKind x_askSecond x_redMany x_isOpen x_lastGreen x_greenTo x_isCycleGreen x_stillGreen x_rowMany x_fitMany x_fitRules x_fitGreen x_undoable x_newest x_seeded x_qCoded x_qWaits x_qOpened x_qBase x_qPiled x_qAnswer x_qIsNew x_octets)), (wi_rm9_0_6_0 rm cy g_refused), (wi_rm0_0_1600_0 rm cy (upd J28_a2 (Int32.toNatClampNeg J28_c0_1) z11))] H := hP
              replace hD := k_D hP hD
              generalize ef13 : upd J28_a2 (Int32.toNatClampNeg J28_c0_1) z11 = f13 at hP hD h14
              have Ef13 := lf_st ef13 (lf_ra J28_a2) (lf_rf J28_c0_1) Ez11
              refine lv_aload_n hx hb dX10_feed_108 rfl (lv_at hl 1 rfl) ?_
              refine lv_dup hx hb dX10_feed_109 rfl ?_
              refine k_get C0 fg_X10_276 hP 0 rfl rfl dX10_feed_110 ?_
              refine lv_iconst (v := 1) hx hb dX10_feed_113 rfl ?_
              refine lv_iadd hx hb dX10_feed_114 ?_
              refine lv_topi (fun z15 ez15 => ?_)
              have h16 := ib_add hK81_J28_c0_1 (ib_c 1 1 1 rfl) rfl
              rw [← ez15] at h16
              have h17 : ib z15 1 1600 := ib_w 1 1600 h16.1 rfl
              have Ez15 := lf_add h16.2 (lf_rf J28_c0_1) (lf_lc 1 (1 : Int) rfl)
              refine k_put C0 fp_X10_276 hP hD hS 0 rfl rfl rfl (Nat.le_of_ble_eq_true rfl) dX10_feed_115 (fun H locs hP hD hS => ?_)
              replace hP : va_P (dC, dI) vwCl [(a_this, .inr (10, mfs rm z15 x_at x_end x_ended x_bad x_badPlace x_fault x_faultPlace x_namePlace x_awayTold x_away x_coded x_statements x_isCrossing x_textKind x_askSecond x_redMany x_isOpen x_lastGreen x_greenTo x_isCycleGreen x_stillGreen x_rowMany x_fitMany x_fitRules x_fitGreen x_undoable x_newest x_seeded x_qCoded x_qWaits x_qOpened x_qBase x_qPiled x_qAnswer x_qIsNew x_octets)), (wi_rm9_0_6_0 rm cy g_refused), (wi_rm0_0_1600_0 rm cy f13)] H := hP
              replace hD := k_D hP hD
              obtain ⟨z18, ez18⟩ : ∃ y : Int32, y = J28_l6 + 1 := ⟨_, rfl⟩
              refine lv_iinc (v := z18) (lv' := [(6, .int z18), (7, .int J81_s0), (0, .ref a_this), (1, .int p0), (2, .int p1), (3, .int p2), (4, .int p3), (5, .int p4)]) hx hb dX10_feed_118 hl (k := 7) rfl (by rw [ez18]; rfl) (Nat.le_of_ble_eq_true rfl) rfl (fun ls hl => ?_)
              have h19 := ib_add hK81_J28_l6 (ib_c 1 1 1 rfl) rfl
              rw [← ez18] at h19
              have h20 : ib z18 1 20 := ib_w 1 20 h19.1 rfl
              have Ez18 := lf_add h19.2 (lf_rf J28_l6) (lf_lc 1 (1 : Int) rfl)
              refine lv_goto (tgt := 28) hx hb dX10_feed_121 rfl ?_
              exact ih28 z18 z15 f13 H locs ls (ib_w 0 20 h20 rfl) (ib_w 0 1600 h17 rfl) h14 (by have := (h20).1; have := h19.2; have : (1 : Int32).toInt = 1 := rfl; have := hJ28_lin0; have := (h17).2; have := h16.2; omega) (by have := hJ28_lin1; have := h19.2; have : (1 : Int32).toInt = 1 := rfl; have := h16.2; omega) (by have := hJ28_lin2; have := h19.2; have : (1 : Int32).toInt = 1 := rfl; have := h16.2; omega) (by rw [← hK28]; rw [lf_u Ez18]; rw [lf_u Ez15]; rw [lf_ua Ef13]; exact hq) (by have := h16.2; have : (1 : Int32).toInt = 1 := rfl; omega) hP hD hS (lv_sub hl [2, 3, 4, 5, 6, 7, 0] rfl)
        refine lv_iload hx hb dX10_feed_28 (lv_at hl 6 rfl) ?_
        refine lv_bipush (v := 20) hx hb dX10_feed_30 rfl ?_
        refine lv_icmp_ge (tgt := 124) hx hb dX10_feed_32 rfl (fun c21 => ?_) (fun c21 => ?_)
        · replace hq := lf_pos hq (lf_le (lf_lc 20 (20 : Int) rfl) (lf_rf J28_l6) c21)
          have h22 := ib_le (ib_c 20 20 20 rfl) hJ28_l6 c21
          have h23 : ib J28_l6 20 20 := ib_w 20 20 h22.2 rfl
          have h24 : ib J28_c0_1 20 1600 := ⟨by have := (hJ28_c0_1).1; have := hJ28_lin2; have := (hx_taped).1; have := (h23).1; omega, (hJ28_c0_1).2⟩
          have h25 : ib x_taped 0 1580 := ⟨(hx_taped).1, by have := (hx_taped).2; have := hJ28_lin2; have := hJ28_lin0; omega⟩
          refine lv_aload_n hx hb dX10_feed_124 rfl (lv_at hl 0 rfl) ?_
          refine k_get C0 fg_X10_276 hP 0 rfl rfl dX10_feed_125 ?_
          subst hQ; exact k_iret hx hb hr hlk rfl ((J28_c0_1, g_refused, J28_a2)) hS ⟨ib_w 20 1600 h24 rfl, hJ28_a2, ib_w (-1) 1600 h24 rfl, Or.inl ⟨by have := (h25).1; have := (h25).2; have := hJ28_lin1; have := hJ28_lin2; have := (h23).1; have := (h23).2; have := hJ28_lin0; have := (h24).1; have := (h24).2; omega, by have := (h25).1; have := (h25).2; have := hJ28_lin1; have := hJ28_lin2; have := (h23).1; have := (h23).2; have := hJ28_lin0; have := (h24).1; have := (h24).2; omega, rfl⟩, (hO.symm.trans (by exact hq))⟩ hP hD (Nat.le_of_ble_eq_true rfl) (Nat.le_of_ble_eq_true rfl) dX10_feed_128
        · as_aux_lemma =>
            replace hq := lf_neg hq (lf_nle (lf_lc 20 (20 : Int) rfl) (lf_rf J28_l6) c21)
            have h26 := ib_nle (ib_c 20 20 20 rfl) hJ28_l6 c21
            have h27 : ib J28_l6 0 19 := ib_w 0 19 h26.2 rfl
            have h28 : ib J28_c0_1 0 1599 := ⟨(hJ28_c0_1).1, by have := (hJ28_c0_1).2; have := hJ28_lin0; have := (h27).2; omega⟩
            have h29 : ib x_taped 0 1599 := ⟨(hx_taped).1, by have := (hx_taped).2; have := hJ28_lin2; have := hJ28_lin0; omega⟩
            refine lv_iload hx hb dX10_feed_35 (lv_at hl 6 rfl) ?_
            refine lv_iconst (v := 4) hx hb dX10_feed_37 rfl ?_
            refine lv_icmp_ge (tgt := 45) hx hb dX10_feed_38 rfl (fun c30 => ?_) (fun c30 => ?_)
            · as_aux_lemma =>
                replace hq := lf_pos hq (lf_le (lf_lc 4 (4 : Int) rfl) (lf_rf J28_l6) c30)
                have h31 := ib_le (ib_c 4 4 4 rfl) h27 c30
                have h32 : ib J28_l6 4 19 := ib_w 4 19 h31.2 rfl
                have h33 : ib J28_c0_1 4 1599 := ⟨by have := (h28).1; have := hJ28_lin2; have := (h29).1; have := (h32).1; omega, (h28).2⟩
                have h34 : ib x_taped 0 1595 := ⟨(h29).1, by have := (h29).2; have := hJ28_lin2; have := hJ28_lin0; omega⟩
                refine lv_iload hx hb dX10_feed_45 (lv_at hl 6 rfl) ?_
                refine lv_bipush (v := 8) hx hb dX10_feed_47 rfl ?_
                refine lv_icmp_ge (tgt := 56) hx hb dX10_feed_49 rfl (fun c35 => ?_) (fun c35 => ?_)
                · as_aux_lemma =>
                    replace hq := lf_pos hq (lf_le (lf_lc 8 (8 : Int) rfl) (lf_rf J28_l6) c35)
                    have h36 := ib_le (ib_c 8 8 8 rfl) h32 c35
                    have h37 : ib J28_l6 8 19 := ib_w 8 19 h36.2 rfl
                    have h38 : ib J28_c0_1 8 1599 := ⟨by have := (h33).1; have := hJ28_lin2; have := (h34).1; have := (h37).1; omega, (h33).2⟩
                    have h39 : ib x_taped 0 1591 := ⟨(h34).1, by have := (h34).2; have := hJ28_lin2; have := hJ28_lin0; omega⟩
                    refine lv_iload hx hb dX10_feed_56 (lv_at hl 6 rfl) ?_
                    refine lv_bipush (v := 12) hx hb dX10_feed_58 rfl ?_
                    refine lv_icmp_ge (tgt := 67) hx hb dX10_feed_60 rfl (fun c40 => ?_) (fun c40 => ?_)
                    · as_aux_lemma =>
                        replace hq := lf_pos hq (lf_le (lf_lc 12 (12 : Int) rfl) (lf_rf J28_l6) c40)
                        have h41 := ib_le (ib_c 12 12 12 rfl) h37 c40
                        have h42 : ib J28_l6 12 19 := ib_w 12 19 h41.2 rfl
                        have h43 : ib J28_c0_1 12 1599 := ⟨by have := (h38).1; have := hJ28_lin2; have := (h39).1; have := (h42).1; omega, (h38).2⟩
                        have h44 : ib x_taped 0 1587 := ⟨(h39).1, by have := (h39).2; have := hJ28_lin2; have := hJ28_lin0; omega⟩
                        refine lv_iload hx hb dX10_feed_67 (lv_at hl 6 rfl) ?_
                        refine lv_bipush (v := 16) hx hb dX10_feed_69 rfl ?_
                        refine lv_icmp_ge (tgt := 79) hx hb dX10_feed_71 rfl (fun c45 => ?_) (fun c45 => ?_)
                        · replace hq := lf_pos hq (lf_le (lf_lc 16 (16 : Int) rfl) (lf_rf J28_l6) c45)
                          have h46 := ib_le (ib_c 16 16 16 rfl) h42 c45
                          have h47 : ib J28_l6 16 19 := ib_w 16 19 h46.2 rfl
                          have h48 : ib J28_c0_1 16 1599 := ⟨by have := (h43).1; have := hJ28_lin2; have := (h44).1; have := (h47).1; omega, (h43).2⟩
                          have h49 : ib x_taped 0 1583 := ⟨(h44).1, by have := (h44).2; have := hJ28_lin2; have := hJ28_lin0; omega⟩
                          refine lv_iload hx hb dX10_feed_79 (lv_at hl 5 rfl) ?_
                          exact jn81 p4 H locs ls (ib_w 0 19 h47 rfl) (ib_w 0 1599 h48 rfl) (by exact hq) hP hD hS (lv_sub hl [0, 1, 2, 3, 4, 5, 6] rfl)
                        · replace hq := lf_neg hq (lf_nle (lf_lc 16 (16 : Int) rfl) (lf_rf J28_l6) c45)
                          have h50 := ib_nle (ib_c 16 16 16 rfl) h42 c45
                          have h51 : ib J28_l6 12 15 := ib_w 12 15 h50.2 rfl
                          have h52 : ib J28_c0_1 12 1595 := ⟨(h43).1, by have := (h43).2; have := hJ28_lin0; have := (h51).2; omega⟩
                          have h53 : ib x_taped 0 1583 := ⟨(h44).1, by have := (h44).2; have := hJ28_lin2; have := hJ28_lin0; omega⟩
                          refine lv_iload hx hb dX10_feed_74 (lv_at hl 4 rfl) ?_
                          refine lv_goto (tgt := 81) hx hb dX10_feed_76 rfl ?_
                          exact jn81 p3 H locs ls (ib_w 0 19 h51 rfl) (ib_w 0 1599 h52 rfl) (by exact hq) hP hD hS (lv_sub hl [0, 1, 2, 3, 4, 5, 6] rfl)
                    · replace hq := lf_neg hq (lf_nle (lf_lc 12 (12 : Int) rfl) (lf_rf J28_l6) c40)
                      have h54 := ib_nle (ib_c 12 12 12 rfl) h37 c40
                      have h55 : ib J28_l6 8 11 := ib_w 8 11 h54.2 rfl
                      have h56 : ib J28_c0_1 8 1591 := ⟨(h38).1, by have := (h38).2; have := hJ28_lin0; have := (h55).2; omega⟩
                      have h57 : ib x_taped 0 1583 := ⟨(h39).1, by have := (h39).2; have := hJ28_lin2; have := hJ28_lin0; omega⟩
                      refine lv_iload_n hx hb dX10_feed_63 rfl (lv_at hl 3 rfl) ?_
                      refine lv_goto (tgt := 81) hx hb dX10_feed_64 rfl ?_
                      exact jn81 p2 H locs ls (ib_w 0 19 h55 rfl) (ib_w 0 1599 h56 rfl) (by exact hq) hP hD hS (lv_sub hl [0, 1, 2, 3, 4, 5, 6] rfl)
                · replace hq := lf_neg hq (lf_nle (lf_lc 8 (8 : Int) rfl) (lf_rf J28_l6) c35)
                  have h58 := ib_nle (ib_c 8 8 8 rfl) h32 c35
                  have h59 : ib J28_l6 4 7 := ib_w 4 7 h58.2 rfl
                  have h60 : ib J28_c0_1 4 1587 := ⟨(h33).1, by have := (h33).2; have := hJ28_lin0; have := (h59).2; omega⟩
                  have h61 : ib x_taped 0 1583 := ⟨(h34).1, by have := (h34).2; have := hJ28_lin2; have := hJ28_lin0; omega⟩
                  refine lv_iload_n hx hb dX10_feed_52 rfl (lv_at hl 2 rfl) ?_
                  refine lv_goto (tgt := 81) hx hb dX10_feed_53 rfl ?_
                  exact jn81 p1 H locs ls (ib_w 0 19 h59 rfl) (ib_w 0 1599 h60 rfl) (by exact hq) hP hD hS (lv_sub hl [0, 1, 2, 3, 4, 5, 6] rfl)
            · replace hq := lf_neg hq (lf_nle (lf_lc 4 (4 : Int) rfl) (lf_rf J28_l6) c30)
              have h62 := ib_nle (ib_c 4 4 4 rfl) h27 c30
              have h63 : ib J28_l6 0 3 := ib_w 0 3 h62.2 rfl
              have h64 : ib J28_c0_1 0 1583 := ⟨(h28).1, by have := (h28).2; have := hJ28_lin0; have := (h63).2; omega⟩
              have h65 : ib x_taped 0 1583 := ⟨(h29).1, by have := (h29).2; have := hJ28_lin2; have := hJ28_lin0; omega⟩
              refine lv_iload_n hx hb dX10_feed_41 rfl (lv_at hl 1 rfl) ?_
              refine lv_goto (tgt := 81) hx hb dX10_feed_42 rfl ?_
              exact jn81 p0 H locs ls (ib_w 0 19 h63 rfl) (ib_w 0 1599 h64 rfl) (by exact hq) hP hD hS (lv_sub hl [0, 1, 2, 3, 4, 5, 6] rfl)
  refine lv_aload_n hx hb dX10_feed_0 rfl (lv_at hl 0 rfl) ?_
  refine k_get C0 fg_X10_276 hP 0 rfl rfl dX10_feed_1 ?_
  refine lv_bipush (v := 20) hx hb dX10_feed_4 rfl ?_
  refine lv_iadd hx hb dX10_feed_6 ?_
  refine lv_topi (fun z66 ez66 => ?_)
  have h67 := ib_add hx_taped (ib_c 20 20 20 rfl) rfl
  rw [← ez66] at h67
  have h68 : ib z66 20 1620 := ib_w 20 1620 h67.1 rfl
  have Ez66 := lf_add h67.2 (lf_rf x_taped) (lf_lc 20 (20 : Int) rfl)
  refine lv_sipush (v := 1600) hx hb dX10_feed_7 rfl ?_
  refine lv_icmp_le (tgt := 25) hx hb dX10_feed_10 rfl (fun c69 => ?_) (fun c69 => ?_)
  · replace hq := lf_pos hq (lf_le Ez66 (lf_lc 1600 (1600 : Int) rfl) c69)
    have h70 := ib_le h68 (ib_c 1600 1600 1600 rfl) c69
    have h71 : ib z66 20 1600 := ib_w 20 1600 h70.1 rfl
    have h72 : ib x_taped 0 1580 := ⟨by have := h67.2; have := (h71).1; have := (h71).2; have := (hx_taped).1; have := (hx_taped).2; have := ((ib_c 20 20 20 rfl)).1; have := ((ib_c 20 20 20 rfl)).2; omega, by have := h67.2; have := (h71).1; have := (h71).2; have := (hx_taped).1; have := (hx_taped).2; have := ((ib_c 20 20 20 rfl)).1; have := ((ib_c 20 20 20 rfl)).2; omega⟩
    refine lv_iconst (v := 0) hx hb dX10_feed_25 rfl ?_
    refine lv_istore (lv' := [(6, .int 0), (0, .ref a_this), (1, .int p0), (2, .int p1), (3, .int p2), (4, .int p3), (5, .int p4)]) hx hb dX10_feed_26 hl (Nat.le_of_ble_eq_true rfl) rfl (fun ls hl => ?_)
    exact jn28 1602 0 x_taped g_tape H locs ls (ib_w 0 20 (ib_c 0 0 0 rfl) rfl) (ib_w 0 1600 h72 rfl) hg_tape (by have : (0 : Int32).toInt = 0 := rfl; have := (h72).2; omega) (by have : (0 : Int32).toInt = 0 := rfl; omega) (by have : (0 : Int32).toInt = 0 := rfl; omega) (by try simp only [show (0 : Int32).toInt = (0 : Int) from rfl]; exact hq) (by have := h72; unfold ib at this; omega) hP hD hS (lv_sub hl [1, 2, 3, 4, 5, 6, 0] rfl)
  · as_aux_lemma =>
      replace hq := lf_neg hq (lf_nle Ez66 (lf_lc 1600 (1600 : Int) rfl) c69)
      have h73 := ib_nle h68 (ib_c 1600 1600 1600 rfl) c69
      have h74 : ib z66 1601 1620 := ib_w 1601 1620 h73.1 rfl
      have h75 : ib x_taped 1581 1600 := ⟨by have := h67.2; have := (h74).1; have := (h74).2; have := (hx_taped).1; have := (hx_taped).2; have := ((ib_c 20 20 20 rfl)).1; have := ((ib_c 20 20 20 rfl)).2; omega, by have := h67.2; have := (h74).1; have := (h74).2; have := (hx_taped).1; have := (hx_taped).2; have := ((ib_c 20 20 20 rfl)).1; have := ((ib_c 20 20 20 rfl)).2; omega⟩
      refine lv_aload_n hx hb dX10_feed_13 rfl (lv_at hl 0 rfl) ?_
      refine k_get C0 fg_X10_17 hP 0 rfl rfl dX10_feed_14 ?_
      refine lv_iconst (v := 0) hx hb dX10_feed_17 rfl ?_
      refine lv_dup2_11 hx hb dX10_feed_18 rfl rfl ?_
      refine va_iald hx hb C0.2.2.2.2.2.1 hP 1 0 rfl rfl (k_in 0 6 rfl) dX10_feed_19 ?_
      refine lv_topi (fun z76 ez76 => ?_)
      have Ez76 := lf_ld ez76 (lf_ra g_refused) (lf_lc 0 (0 : Int) rfl)
      refine lv_iconst (v := 1) hx hb dX10_feed_20 rfl ?_
      refine lv_iadd hx hb dX10_feed_21 ?_
      refine lv_topi (fun z77 ez77 => ?_)
      have Ez77 := lf_op lf_iadd ez77 Ez76 (lf_lc 1 (1 : Int) rfl)
      refine va_iast hx hb C0.2.2.2.2.2.1 hP hD hS 1 0 rfl rfl (k_in 0 6 rfl) dX10_feed_22 (fun H locs hP hD hS => ?_)
      replace hP : va_P (dC, dI) vwCl [(a_this, .inr (10, mfs rm x_taped x_at x_end x_ended x_bad x_badPlace x_fault x_faultPlace x_namePlace x_awayTold x_away x_coded x_statements x_isCrossing x_textKind x_askSecond x_redMany x_isOpen x_lastGreen x_greenTo x_isCycleGreen x_stillGreen x_rowMany x_fitMany x_fitRules x_fitGreen x_undoable x_newest x_seeded x_qCoded x_qWaits x_qOpened x_qBase x_qPiled x_qAnswer x_qIsNew x_octets)), (wi_rm9_0_6_0 rm cy (upd g_refused 0 z77)), (wi_rm0_0_1600_0 rm cy g_tape)] H := hP
      replace hD := k_D hP hD
      generalize ef78 : upd g_refused 0 z77 = f78 at hP hD
      have Ef78 := lf_stn (X := (0 : Int)) ef78 (lf_ra g_refused) rfl Ez77
      refine lv_iconst (v := (-1)) hx hb dX10_feed_23 rfl ?_
      subst hQ; exact k_iret hx hb hr hlk rfl ((x_taped, f78, g_tape)) hS ⟨ib_w 20 1600 h75 rfl, hg_tape, ib_w (-1) 1600 (ib_c (-1) (-1) (-1) rfl) rfl, Or.inr ⟨by have := (h75).1; have := (h75).2; omega, rfl, rfl⟩, (hO.symm.trans (by try simp only [show ((-1) : Int32).toInt = (-1 : Int) from rfl]; rw [lf_ua Ef78]; exact hq))⟩ hP hD (Nat.le_of_ble_eq_true rfl) (Nat.le_of_ble_eq_true rfl) dX10_feed_24
set_option maxHeartbeats 4000000 in
set_option maxRecDepth 100000 in
theorem s_X10_isGreenLong_a1_20 (l : Launch) (dC : Nat → ClassId) (dI : Nat → Nat → Nat) (cy : Nat → ClassId) (sq : Nat → Nat) (a_this : Nat) (rm : Nat → Nat) (x_taped : Int32) (x_at : Int32) (x_end : Int32) (x_ended : Int32) (x_bad : Int32) (x_badPlace : Int32) (x_fault : Int32) (x_faultPlace : Int32) (x_namePlace : Int32) (x_awayTold : Int32) (x_away : Int32) (x_coded : Int32) (x_statements : Int32) (x_isCrossing : Int32) (x_textKind : Int32) (x_askSecond : Int32) (x_redMany : Int32) (x_isOpen : Int32) (x_lastGreen : Int32) (x_greenTo : Int32) (x_isCycleGreen : Int32) (x_stillGreen : Int32) (x_rowMany : Int32) (x_fitMany : Int32) (x_fitRules : Int32) (x_fitGreen : Int32) (x_undoable : Int32) (x_newest : Int32) (x_seeded : Int64) (x_qCoded : Int32) (x_qWaits : Int32) (x_qOpened : Int32) (x_qBase : Int32) (x_qPiled : Int32) (x_qAnswer : Int64) (x_qIsNew : Int32) (x_octets : Int32) (g_bar : Nat → Int32) (p0 : Int32) (hg_bar_4 : ib (g_bar 4) 0 120) : k_Met l yX10_isGreenLong cX10_isGreenLong 3 (some .boolean) { frames := 1, cells := 0, slots := 0, locals := 25 } dC dI cy sq [.ref a_this, .int p0, .int 20] [(a_this, .inr (10, mfs rm x_taped x_at x_end x_ended x_bad x_badPlace x_fault x_faultPlace x_namePlace x_awayTold x_away x_coded x_statements x_isCrossing x_textKind x_askSecond x_redMany x_isOpen x_lastGreen x_greenTo x_isCycleGreen x_stillGreen x_rowMany x_fitMany x_fitRules x_fitGreen x_undoable x_newest x_seeded x_qCoded x_qWaits x_qOpened x_qBase x_qPiled x_qAnswer x_qIsNew x_octets)), (wi_rm43_0_8_0 rm cy g_bar)] (k_Qi dC dI (fun (r : Int32) (_ : Unit) => ib r 0 1 ∧ (¬ r = 0 → ib (g_bar 4) 2 120) ∧ (¬ r = 0 → ib p0 1 20) ∧ (F_X10_isGreenLong_a1_20 (lf_A g_bar) (Int32.toInt p0) = ((Int32.toInt r)))) (fun _ : Unit => [(a_this, .inr (10, mfs rm x_taped x_at x_end x_ended x_bad x_badPlace x_fault x_faultPlace x_namePlace x_awayTold x_away x_coded x_statements x_isCrossing x_textKind x_askSecond x_redMany x_isOpen x_lastGreen x_greenTo x_isCycleGreen x_stillGreen x_rowMany x_fitMany x_fitRules x_fitGreen x_undoable x_newest x_seeded x_qCoded x_qWaits x_qOpened x_qBase x_qPiled x_qAnswer x_qIsNew x_octets)), (wi_rm43_0_8_0 rm cy g_bar)])) := by
  refine k_ofW2 (by decide +kernel) (Nat.le_of_ble_eq_true rfl) ?_
  intro p e s m below meth c A ls H locs args Q hQ C0 hZ hr hlk hin hP hD hA hS hl
  have C0 : k_cx p s m args c cX10_isGreenLong 3 RX10 dC dI cy sq := C0
  have hx := C0.1
  have hb := C0.2.1
  have hl : lv_has ls 3 [(0, .ref a_this), (1, .int p0), (2, .int 20)] := hl
  obtain ⟨O, hO⟩ : ∃ o, o = F_X10_isGreenLong_a1_20 (lf_A g_bar) (Int32.toInt p0) := ⟨_, rfl⟩
  have hq := hO
  unfold F_X10_isGreenLong_a1_20 at hq
  have jn25 : ∀  (H : Heap) (locs : List Loc) (ls : Array Slot), (O = F_X10_isGreenLong_a1_20_25 ) → va_P (dC, dI) vwCl [(a_this, .inr (10, mfs rm x_taped x_at x_end x_ended x_bad x_badPlace x_fault x_faultPlace x_namePlace x_awayTold x_away x_coded x_statements x_isCrossing x_textKind x_askSecond x_redMany x_isOpen x_lastGreen x_greenTo x_isCycleGreen x_stillGreen x_rowMany x_fitMany x_fitRules x_fitGreen x_undoable x_newest x_seeded x_qCoded x_qWaits x_qOpened x_qBase x_qPiled x_qAnswer x_qIsNew x_octets)), (wi_rm43_0_8_0 rm cy g_bar)] H → va_D A [(a_this, .inr (10, mfs rm x_taped x_at x_end x_ended x_bad x_badPlace x_fault x_faultPlace x_namePlace x_awayTold x_away x_coded x_statements x_isCrossing x_textKind x_askSecond x_redMany x_isOpen x_lastGreen x_greenTo x_isCycleGreen x_stillGreen x_rowMany x_fitMany x_fitRules x_fitGreen x_undoable x_newest x_seeded x_qCoded x_qWaits x_qOpened x_qBase x_qPiled x_qAnswer x_qIsNew x_octets)), (wi_rm43_0_8_0 rm cy g_bar)] → va_S A s.heap H locs → lv_has ls 3 [(0, .ref a_this), (1, .int p0), (2, .int 20)] → W p l e { frames := 1, cells := 0, slots := 0, locals := 25 } s m args below meth c H locs 0 0 Q (F0 m 25 ls []) := by
    intro H locs ls hq hP hD hS hl
    unfold F_X10_isGreenLong_a1_20_25 at hq
    refine lv_iconst (v := 0) hx hb dX10_isGreenLong_25 rfl ?_
    subst hQ; exact k_iret hx hb hr hlk (k_nb 0 rfl) () hS ⟨ib_w 0 1 (ib_c 0 0 0 rfl) rfl, fun hq9 => absurd rfl hq9, fun hq9 => absurd rfl hq9, (hO.symm.trans (by try simp only [show (0 : Int32).toInt = (0 : Int) from rfl]; exact hq))⟩ hP hD (Nat.le_of_ble_eq_true rfl) (Nat.le_of_ble_eq_true rfl) dX10_isGreenLong_26
  refine lv_iload_n hx hb dX10_isGreenLong_0 rfl (lv_at hl 1 rfl) ?_
  refine lv_i2l (v := p0.toInt64) hx hb dX10_isGreenLong_1 rfl ?_
  refine lv_lconst (v := 1) hx hb dX10_isGreenLong_2 (by decide) ?_
  refine lv_iload_n hx hb dX10_isGreenLong_3 rfl (lv_at hl 2 rfl) ?_
  refine lv_i2l (v := 20) hx hb dX10_isGreenLong_4 (by decide) ?_
  refine k_jim hP hD hS hA [] [true, true] rfl rfl rfl 0 0 (Nat.le_of_ble_eq_true rfl) (Nat.le_of_ble_eq_true rfl) (fun hPc hDc => k_runS (As := [.long p0.toInt64, .long 1, .long 20]) (rest := []) C0 hZ hS hA (c_isIn l dC dI cy sq p0.toInt64 1 20) mS_X10_318 hPc hDc hl rfl rfl (Nat.le_of_ble_eq_true rfl) ⟨(Nat.le_of_ble_eq_true rfl), (Nat.le_of_ble_eq_true rfl)⟩ ⟨(Nat.le_of_ble_eq_true rfl), (Nat.le_of_ble_eq_true rfl)⟩ dX10_isGreenLong_5) (fun r1 u2 H locs hw hP hD hS => ?_)
  replace hP : va_P (dC, dI) vwCl [(a_this, .inr (10, mfs rm x_taped x_at x_end x_ended x_bad x_badPlace x_fault x_faultPlace x_namePlace x_awayTold x_away x_coded x_statements x_isCrossing x_textKind x_askSecond x_redMany x_isOpen x_lastGreen x_greenTo x_isCycleGreen x_stillGreen x_rowMany x_fitMany x_fitRules x_fitGreen x_undoable x_newest x_seeded x_qCoded x_qWaits x_qOpened x_qBase x_qPiled x_qAnswer x_qIsNew x_octets)), (wi_rm43_0_8_0 rm cy g_bar)] H := hP
  replace hD := k_D hP hD
  have h3 := hw
  have h4 : ib r1 0 1 := by rw [h3]; exact k_isf_01 _ _ _
  have Er1 := lf_isine h3 (lf_i2l (lf_rf p0)) (lf_ll 1 (1 : Int) rfl) (lf_ll 20 (20 : Int) rfl)
  refine lv_if_eq (tgt := 25) hx hb dX10_isGreenLong_8 rfl (fun c5 => ?_) (fun c5 => ?_)
  · replace hq := lf_pos hq (lf_eq Er1 (lf_lc 0 (0 : Int) rfl) c5)
    have h6 := ib_eq h4 (ib_c 0 0 0 rfl) c5
    have h7 : ib r1 0 0 := ib_w 0 0 h6.1 rfl
    exact jn25  H locs ls (by exact hq) hP hD hS (lv_sub hl [0, 1, 2] rfl)
  · replace hq := lf_neg hq (lf_ne Er1 (lf_lc 0 (0 : Int) rfl) c5)
    have h8 : ib r1 1 1 := ib_w 1 1 (ib_ne_lo 0 h4 rfl c5) rfl
    have h9 : ib p0 1 20 := ib_w 1 20 (ib_two (ib_any p0) (k_isf_v h3 (show 1 ≤ (1 : Int64).toInt by decide) (show (20 : Int64).toInt ≤ 20 by decide) (ib_nz h8 rfl))) rfl
    refine lv_iload_n hx hb dX10_isGreenLong_11 rfl (lv_at hl 1 rfl) ?_
    refine lv_aload_n hx hb dX10_isGreenLong_12 rfl (lv_at hl 0 rfl) ?_
    refine k_get C0 fg_X10_118 hP 0 rfl rfl dX10_isGreenLong_13 ?_
    refine lv_iconst (v := 4) hx hb dX10_isGreenLong_16 rfl ?_
    refine va_iald hx hb C0.2.2.2.2.2.1 hP 1 0 rfl rfl (k_in 4 8 rfl) dX10_isGreenLong_17 ?_
    refine k_topi (y := g_bar 4) rfl ?_
    refine lv_icmp_ge (tgt := 25) hx hb dX10_isGreenLong_18 rfl (fun c10 => ?_) (fun c10 => ?_)
    · replace hq := lf_pos hq (lf_le (lf_pt (lf_ra g_bar) 4) (lf_rf p0) c10)
      have h11 := ib_le hg_bar_4 h9 c10
      have h12 : ib (g_bar 4) 0 20 := ib_w 0 20 h11.1 rfl
      exact jn25  H locs ls (by exact hq) hP hD hS (lv_sub hl [0, 1, 2] rfl)
    · replace hq := lf_neg hq (lf_nle (lf_pt (lf_ra g_bar) 4) (lf_rf p0) c10)
      have h13 := ib_nle hg_bar_4 h9 c10
      have h14 : ib (g_bar 4) 2 120 := ib_w 2 120 h13.1 rfl
      refine lv_iconst (v := 1) hx hb dX10_isGreenLong_21 rfl ?_
      refine lv_goto (tgt := 26) hx hb dX10_isGreenLong_22 rfl ?_
      subst hQ; exact k_iret hx hb hr hlk (k_nb 1 rfl) () hS ⟨ib_w 0 1 (ib_c 1 1 1 rfl) rfl, fun _ => ib_w 2 120 h14 rfl, fun _ => ib_w 1 20 h9 rfl, (hO.symm.trans (by try simp only [show (1 : Int32).toInt = (1 : Int) from rfl]; exact hq))⟩ hP hD (Nat.le_of_ble_eq_true rfl) (Nat.le_of_ble_eq_true rfl) dX10_isGreenLong_26
set_option maxHeartbeats 4000000 in
set_option maxRecDepth 100000 in
theorem s_X10_isAsSeen (l : Launch) (dC : Nat → ClassId) (dI : Nat → Nat → Nat) (cy : Nat → ClassId) (sq : Nat → Nat) (a_this : Nat) (rm : Nat → Nat) (x_taped : Int32) (x_at : Int32) (x_end : Int32) (x_ended : Int32) (x_bad : Int32) (x_badPlace : Int32) (x_fault : Int32) (x_faultPlace : Int32) (x_namePlace : Int32) (x_awayTold : Int32) (x_away : Int32) (x_coded : Int32) (x_statements : Int32) (x_isCrossing : Int32) (x_textKind : Int32) (x_askSecond : Int32) (x_redMany : Int32) (x_isOpen : Int32) (x_lastGreen : Int32) (x_greenTo : Int32) (x_isCycleGreen : Int32) (x_stillGreen : Int32) (x_rowMany : Int32) (x_fitMany : Int32) (x_fitRules : Int32) (x_fitGreen : Int32) (x_undoable : Int32) (x_newest : Int32) (x_seeded : Int64) (x_qCoded : Int32) (x_qWaits : Int32) (x_qOpened : Int32) (x_qBase : Int32) (x_qPiled : Int32) (x_qAnswer : Int64) (x_qIsNew : Int32) (x_octets : Int32) (g_crosses : Nat → Int32) (g_rows : Nat → Int32) (hx_rowMany : ib x_rowMany 0 16) (hpg_rows : ip g_rows 32 2 0 0 11) : k_Met l yX10_isAsSeen cX10_isAsSeen 2 (some .boolean) { frames := 0, cells := 0, slots := 0, locals := 0 } dC dI cy sq [.ref a_this] [(a_this, .inr (10, mfs rm x_taped x_at x_end x_ended x_bad x_badPlace x_fault x_faultPlace x_namePlace x_awayTold x_away x_coded x_statements x_isCrossing x_textKind x_askSecond x_redMany x_isOpen x_lastGreen x_greenTo x_isCycleGreen x_stillGreen x_rowMany x_fitMany x_fitRules x_fitGreen x_undoable x_newest x_seeded x_qCoded x_qWaits x_qOpened x_qBase x_qPiled x_qAnswer x_qIsNew x_octets)), (wi_rm76_0_32_0 rm cy g_rows), (wi_rm64_0_12_0 rm cy g_crosses)] (k_Qi dC dI (fun (r : Int32) (_ : Unit) => ib r 0 1 ∧ (F_X10_isAsSeen (Int32.toInt x_rowMany) (lf_A g_crosses) (lf_A g_rows) = ((Int32.toInt r)))) (fun _ : Unit => [(a_this, .inr (10, mfs rm x_taped x_at x_end x_ended x_bad x_badPlace x_fault x_faultPlace x_namePlace x_awayTold x_away x_coded x_statements x_isCrossing x_textKind x_askSecond x_redMany x_isOpen x_lastGreen x_greenTo x_isCycleGreen x_stillGreen x_rowMany x_fitMany x_fitRules x_fitGreen x_undoable x_newest x_seeded x_qCoded x_qWaits x_qOpened x_qBase x_qPiled x_qAnswer x_qIsNew x_octets)), (wi_rm76_0_32_0 rm cy g_rows), (wi_rm64_0_12_0 rm cy g_crosses)])) := by
  refine k_ofW2 (by decide +kernel) (Nat.le_of_ble_eq_true rfl) ?_
  intro p e s m below meth c A ls H locs args Q hQ C0 hZ hr hlk hin hP hD hA hS hl
  have C0 : k_cx p s m args c cX10_isAsSeen 2 RX10 dC dI cy sq := C0
  have hx := C0.1
  have hb := C0.2.1
  have hl : lv_has ls 2 [(0, .ref a_this)] := hl
  obtain ⟨O, hO⟩ : ∃ o, o = F_X10_isAsSeen (Int32.toInt x_rowMany) (lf_A g_crosses) (lf_A g_rows) := ⟨_, rfl⟩
  have hq := hO
  unfold F_X10_isAsSeen at hq
  have jn2 : ∀ (n : Nat) (J2_l1 : Int32) (H : Heap) (locs : List Loc) (ls : Array Slot), ib J2_l1 0 16 → (O = F_X10_isAsSeen_2 (Int32.toInt x_rowMany) (lf_A g_crosses) (lf_A g_rows) n (Int32.toInt J2_l1)) → 17 ≤ J2_l1.toInt + (n : Int) → va_P (dC, dI) vwCl [(a_this, .inr (10, mfs rm x_taped x_at x_end x_ended x_bad x_badPlace x_fault x_faultPlace x_namePlace x_awayTold x_away x_coded x_statements x_isCrossing x_textKind x_askSecond x_redMany x_isOpen x_lastGreen x_greenTo x_isCycleGreen x_stillGreen x_rowMany x_fitMany x_fitRules x_fitGreen x_undoable x_newest x_seeded x_qCoded x_qWaits x_qOpened x_qBase x_qPiled x_qAnswer x_qIsNew x_octets)), (wi_rm76_0_32_0 rm cy g_rows), (wi_rm64_0_12_0 rm cy g_crosses)] H → va_D A [(a_this, .inr (10, mfs rm x_taped x_at x_end x_ended x_bad x_badPlace x_fault x_faultPlace x_namePlace x_awayTold x_away x_coded x_statements x_isCrossing x_textKind x_askSecond x_redMany x_isOpen x_lastGreen x_greenTo x_isCycleGreen x_stillGreen x_rowMany x_fitMany x_fitRules x_fitGreen x_undoable x_newest x_seeded x_qCoded x_qWaits x_qOpened x_qBase x_qPiled x_qAnswer x_qIsNew x_octets)), (wi_rm76_0_32_0 rm cy g_rows), (wi_rm64_0_12_0 rm cy g_crosses)] → va_S A s.heap H locs → lv_has ls 2 [(0, .ref a_this), (1, .int J2_l1)] → W p l e { frames := 0, cells := 0, slots := 0, locals := 0 } s m args below meth c H locs 0 0 Q (F0 m 2 ls []) := by
    as_aux_lemma =>
      intro n
      induction n with
      | zero =>
        intro J2_l1 H locs ls hJ2_l1 hq hm
        exact absurd hm (by have := hJ2_l1; unfold ib at this; omega)
      | succ n ih =>
        intro J2_l1 H locs ls hJ2_l1 hq hm2 hP hD hS hl
        have ih2 := ih
        obtain ⟨K2, hK2⟩ : ∃ K, K = F_X10_isAsSeen_2 (Int32.toInt x_rowMany) (lf_A g_crosses) (lf_A g_rows) n := ⟨_, rfl⟩
        have hq : O = F_X10_isAsSeen_2b (Int32.toInt x_rowMany) (lf_A g_crosses) (lf_A g_rows) K2 (Int32.toInt J2_l1) := by rw [hK2]; exact hq
        unfold F_X10_isAsSeen_2b at hq
        refine lv_iload_n hx hb dX10_isAsSeen_2 rfl (lv_at hl 1 rfl) ?_
        refine lv_aload_n hx hb dX10_isAsSeen_3 rfl (lv_at hl 0 rfl) ?_
        refine k_get C0 fg_X10_427 hP 0 rfl rfl dX10_isAsSeen_4 ?_
        refine lv_icmp_ge (tgt := 44) hx hb dX10_isAsSeen_7 rfl (fun c1 => ?_) (fun c1 => ?_)
        · replace hq := lf_pos hq (lf_le (lf_rf x_rowMany) (lf_rf J2_l1) c1)
          have h2 := ib_le hx_rowMany hJ2_l1 c1
          refine lv_iconst (v := 1) hx hb dX10_isAsSeen_44 rfl ?_
          subst hQ; exact k_iret hx hb hr hlk (k_nb 1 rfl) () hS ⟨ib_w 0 1 (ib_c 1 1 1 rfl) rfl, (hO.symm.trans (by try simp only [show (1 : Int32).toInt = (1 : Int) from rfl]; exact hq))⟩ hP hD (Nat.le_of_ble_eq_true rfl) (Nat.le_of_ble_eq_true rfl) dX10_isAsSeen_45
        · as_aux_lemma =>
            replace hq := lf_neg hq (lf_nle (lf_rf x_rowMany) (lf_rf J2_l1) c1)
            have h3 := ib_nle hx_rowMany hJ2_l1 c1
            have h4 : ib x_rowMany 1 16 := ib_w 1 16 h3.1 rfl
            have h5 : ib J2_l1 0 15 := ib_w 0 15 h3.2 rfl
            refine lv_aload_n hx hb dX10_isAsSeen_10 rfl (lv_at hl 0 rfl) ?_
            refine k_get C0 fg_X10_158 hP 0 rfl rfl dX10_isAsSeen_11 ?_
            refine lv_aload_n hx hb dX10_isAsSeen_14 rfl (lv_at hl 0 rfl) ?_
            refine k_get C0 fg_X10_176 hP 0 rfl rfl dX10_isAsSeen_15 ?_
            refine lv_iconst (v := 2) hx hb dX10_isAsSeen_18 rfl ?_
            refine lv_iload_n hx hb dX10_isAsSeen_19 rfl (lv_at hl 1 rfl) ?_
            refine lv_imul hx hb dX10_isAsSeen_20 ?_
            refine lv_topi (fun z6 ez6 => ?_)
            have h7 := ib_mul (ib_c 2 2 2 rfl) h5 rfl
            rw [← ez6] at h7
            have h8 : ib z6 0 30 := ib_w 0 30 h7.1 rfl
            have h9 : z6.toInt = 2 * J2_l1.toInt := by have q0 := h7.2; rw [show (2 : Int32).toInt = 2 from by decide] at q0; omega
            have Ez6 := lf_mul h7.2 (lf_lc 2 (2 : Int) rfl) (lf_rf J2_l1)
            refine va_iald hx hb C0.2.2.2.2.2.1 hP 1 0 rfl rfl (ib_in 32 h8 rfl) dX10_isAsSeen_21 ?_
            refine lv_topi (fun z10 ez10 => ?_)
            have h11 : Int32.toNatClampNeg z6 % 2 = 0 → ib z10 0 11 := fun q => by rw [ez10]; exact ip_at hpg_rows (ib_in 32 h8 rfl) q
            have h12 : ib z10 0 11 := h11 (by show (Int32.toInt z6).toNat % 2 = 0; have := (h8).1; have := (h8).2; have := h9; have := (h5).1; have := (h5).2; omega)
            have Ez10 := lf_ld ez10 (lf_ra g_rows) Ez6
            refine va_iald hx hb C0.2.2.2.2.2.1 hP 2 0 rfl rfl (ib_in 12 h12 rfl) dX10_isAsSeen_22 ?_
            refine lv_topi (fun z13 ez13 => ?_)
            have Ez13 := lf_ld ez13 (lf_ra g_crosses) Ez10
            refine lv_aload_n hx hb dX10_isAsSeen_23 rfl (lv_at hl 0 rfl) ?_
            refine k_get C0 fg_X10_176 hP 0 rfl rfl dX10_isAsSeen_24 ?_
            refine lv_iconst (v := 2) hx hb dX10_isAsSeen_27 rfl ?_
            refine lv_iload_n hx hb dX10_isAsSeen_28 rfl (lv_at hl 1 rfl) ?_
            refine lv_imul hx hb dX10_isAsSeen_29 ?_
            as_aux_lemma =>
              refine lv_topi (fun z14 ez14 => ?_)
              obtain rfl : z6 = z14 := ez6.trans ez14.symm
              refine lv_iconst (v := 1) hx hb dX10_isAsSeen_30 rfl ?_
              refine lv_iadd hx hb dX10_isAsSeen_31 ?_
              refine lv_topi (fun z15 ez15 => ?_)
              have h16 := ib_add h8 (ib_c 1 1 1 rfl) rfl
              rw [← ez15] at h16
              have h17 : ib z15 1 31 := ib_w 1 31 h16.1 rfl
              have Ez15 := lf_add h16.2 Ez6 (lf_lc 1 (1 : Int) rfl)
              refine va_iald hx hb C0.2.2.2.2.2.1 hP 1 0 rfl rfl (ib_in 32 h17 rfl) dX10_isAsSeen_32 ?_
              refine lv_topi (fun z18 ez18 => ?_)
              have h19 : Int32.toNatClampNeg z15 % 2 = 0 → ib z18 0 11 := fun q => by rw [ez18]; exact ip_at hpg_rows (ib_in 32 h17 rfl) q
              have Ez18 := lf_ld ez18 (lf_ra g_rows) Ez15
              refine lv_icmp_eq (tgt := 38) hx hb dX10_isAsSeen_33 rfl (fun c20 => ?_) (fun c20 => ?_)
              · replace hq := lf_pos hq (lf_eq Ez13 Ez18 c20)
                have h21 := ib_eq (ib_any z13) (ib_any z18) c20
                obtain ⟨z22, ez22⟩ : ∃ y : Int32, y = J2_l1 + 1 := ⟨_, rfl⟩
                refine lv_iinc (v := z22) (lv' := [(1, .int z22), (0, .ref a_this)]) hx hb dX10_isAsSeen_38 hl (k := 1) rfl (by rw [ez22]; rfl) (Nat.le_of_ble_eq_true rfl) rfl (fun ls hl => ?_)
                have h23 := ib_add h5 (ib_c 1 1 1 rfl) rfl
                rw [← ez22] at h23
                have h24 : ib z22 1 16 := ib_w 1 16 h23.1 rfl
                have Ez22 := lf_add h23.2 (lf_rf J2_l1) (lf_lc 1 (1 : Int) rfl)
                refine lv_goto (tgt := 2) hx hb dX10_isAsSeen_41 rfl ?_
                exact ih2 z22 H locs ls (ib_w 0 16 h24 rfl) (by rw [← hK2]; rw [lf_u Ez22]; exact hq) (by have := h23.2; have : (1 : Int32).toInt = 1 := rfl; omega) hP hD hS (lv_sub hl [1, 0] rfl)
              · replace hq := lf_neg hq (lf_ne Ez13 Ez18 c20)
                refine lv_iconst (v := 0) hx hb dX10_isAsSeen_36 rfl ?_
                subst hQ; exact k_iret hx hb hr hlk (k_nb 0 rfl) () hS ⟨ib_w 0 1 (ib_c 0 0 0 rfl) rfl, (hO.symm.trans (by try simp only [show (0 : Int32).toInt = (0 : Int) from rfl]; exact hq))⟩ hP hD (Nat.le_of_ble_eq_true rfl) (Nat.le_of_ble_eq_true rfl) dX10_isAsSeen_37
  refine lv_iconst (v := 0) hx hb dX10_isAsSeen_0 rfl ?_
  refine lv_istore_n (lv' := [(1, .int 0), (0, .ref a_this)]) hx hb dX10_isAsSeen_1 rfl hl (Nat.le_of_ble_eq_true rfl) rfl (fun ls hl => ?_)
  exact jn2 18 0 H locs ls (ib_w 0 16 (ib_c 0 0 0 rfl) rfl) (by try simp only [show (0 : Int32).toInt = (0 : Int) from rfl]; exact hq) (by have := (ib_c 0 0 0 rfl); unfold ib at this; omega) hP hD hS (lv_sub hl [1, 0] rfl)
set_option maxHeartbeats 4000000 in
set_option maxRecDepth 100000 in
theorem s_X10_laysFits (l : Launch) (dC : Nat → ClassId) (dI : Nat → Nat → Nat) (cy : Nat → ClassId) (sq : Nat → Nat) (a_this : Nat) (rm : Nat → Nat) (x_taped : Int32) (x_at : Int32) (x_end : Int32) (x_ended : Int32) (x_bad : Int32) (x_badPlace : Int32) (x_fault : Int32) (x_faultPlace : Int32) (x_namePlace : Int32) (x_awayTold : Int32) (x_away : Int32) (x_coded : Int32) (x_statements : Int32) (x_isCrossing : Int32) (x_textKind : Int32) (x_askSecond : Int32) (x_redMany : Int32) (x_isOpen : Int32) (x_lastGreen : Int32) (x_greenTo : Int32) (x_isCycleGreen : Int32) (x_stillGreen : Int32) (x_rowMany : Int32) (x_fitMany : Int32) (x_fitRules : Int32) (x_fitGreen : Int32) (x_undoable : Int32) (x_newest : Int32) (x_seeded : Int64) (x_qCoded : Int32) (x_qWaits : Int32) (x_qOpened : Int32) (x_qBase : Int32) (x_qPiled : Int32) (x_qAnswer : Int64) (x_qIsNew : Int32) (x_octets : Int32) (g_many : Nat → Int32) (g_bar : Nat → Int32) (g_kinds : Nat → Int32) (g_walkers : Nat → Int32) (g_codeFrom : Nat → Int32) (g_codeEnd : Nat → Int32) (g_codes : Nat → Int32) (g_now : Nat → Int32) (g_isCar : Nat → Int32) (g_gaps : Nat → Int32) (g_isGreen : Nat → Int32) (g_isHere : Nat → Int32) (g_crosses : Nat → Int32) (g_waits : Nat → Int32) (g_goes : Nat → Int32) (g_harms : Nat → Int32) (g_presses : Nat → Int32) (g_crossedIn : Nat → Int32) (g_rows : Nat → Int32) (g_when : Nat → Int32) (g_qPile : Nat → Int64) (hx_isOpen : ib x_isOpen 0 1) (hx_isCycleGreen : ib x_isCycleGreen 0 1) (hx_rowMany : ib x_rowMany 0 16) (hx_qPiled : ib x_qPiled 0 1700) (hg_many_3 : ib (g_many 3) 0 12) (hg_bar_4 : ib (g_bar 4) 10 120) (hpg_walkers : ip g_walkers 48 2 0 0 5) (hg_codeFrom_3 : ib (g_codeFrom 3) (-1) 1600) (hg_codeFrom_4 : ib (g_codeFrom 4) (-1) 1600) (hg_codeEnd_3 : ib (g_codeEnd 3) 0 1600) (hg_codeEnd_4 : ib (g_codeEnd 4) 0 1600) (hg_gaps : ia g_gaps 300 0 20) (hpg_rows : ip g_rows 32 2 0 0 11) (hG0 : ¬ g_codeFrom 3 = (-1) → okc g_codes 1600 false (g_codeFrom 3) (g_codeEnd 3)) (hG1 : ¬ g_codeFrom 4 = (-1) → okc g_codes 1600 true (g_codeFrom 4) (g_codeEnd 4)) : k_Met l yX10_laysFits cX10_laysFits 4 none { frames := 6, cells := 0, slots := 0, locals := 137 } dC dI cy sq [.ref a_this] [(a_this, .inr (10, mfs rm x_taped x_at x_end x_ended x_bad x_badPlace x_fault x_faultPlace x_namePlace x_awayTold x_away x_coded x_statements x_isCrossing x_textKind x_askSecond x_redMany x_isOpen x_lastGreen x_greenTo x_isCycleGreen x_stillGreen x_rowMany x_fitMany x_fitRules x_fitGreen x_undoable x_newest x_seeded x_qCoded x_qWaits x_qOpened x_qBase x_qPiled x_qAnswer x_qIsNew x_octets)), (wi_rm49_0_6_0 rm cy g_codeFrom), (wi_rm50_0_6_0 rm cy g_codeEnd), (wi_rm116_1_1700_1 rm cy g_qPile), (wi_rm51_0_3200_0 rm cy g_codes), (wi_rm46_0_48_0 rm cy g_walkers), (wi_rm56_0_9_0 rm cy g_now), (wi_rm43_0_8_0 rm cy g_bar), (wi_rm65_0_12_0 rm cy g_waits), (wi_rm44_0_24_0 rm cy g_kinds), (wi_rm61_0_300_0 rm cy g_gaps), (wi_rm66_3_12_0 rm cy g_goes), (wi_rm67_3_12_0 rm cy g_harms), (wi_rm60_3_320_0 rm cy g_isCar), (wi_rm63_3_12_0 rm cy g_isHere), (wi_rm64_0_12_0 rm cy g_crosses), (wi_rm68_3_12_0 rm cy g_presses), (wi_rm69_3_300_0 rm cy g_crossedIn), (wi_rm41_0_4_0 rm cy g_many), (wi_rm62_3_300_0 rm cy g_isGreen), (wi_rm76_0_32_0 rm cy g_rows), (wi_rm77_0_720_0 rm cy g_when)] (k_Qv dC dI (fun (u : Int32 × Int32 × Int32 × Int32 × Int32 × Int32 × Int32 × Int32 × Int32 × Int32 × Int32 × Int32 × (Nat → Int64) × (Nat → Int32) × (Nat → Int32) × (Nat → Int32) × (Nat → Int32) × (Nat → Int32) × (Nat → Int32) × (Nat → Int32) × (Nat → Int32) × (Nat → Int32) × (Nat → Int32) × (Nat → Int32)) => match u with | (n0, n1, n2, n3, n4, n5, n6, n7, n8, n9, n10, n11, n12, n13, n14, n15, n16, n17, n18, n19, n20, n21, n22, n23) => ib n3 0 1 ∧ ib n6 0 1 ∧ ib n8 0 60 ∧ ib n10 (-1) 20 ∧ ib n11 0 1700 ∧ ia n14 300 0 20 ∧ (F_X10_laysFits (Int32.toInt x_textKind) (Int32.toInt x_askSecond) (Int32.toInt x_redMany) (Int32.toInt x_isOpen) (Int32.toInt x_lastGreen) (Int32.toInt x_greenTo) (Int32.toInt x_isCycleGreen) (Int32.toInt x_stillGreen) (Int32.toInt x_rowMany) (Int32.toInt x_qPiled) (lf_A g_many) (lf_A g_bar) (lf_A g_kinds) (lf_A g_walkers) (lf_A g_codeFrom) (lf_A g_codeEnd) (lf_A g_codes) (lf_A g_now) (lf_A g_isCar) (lf_A g_gaps) (lf_A g_isGreen) (lf_A g_isHere) (lf_A g_crosses) (lf_A g_waits) (lf_A g_goes) (lf_A g_harms) (lf_A g_presses) (lf_A g_crossedIn) (lf_A g_rows) (lf_A g_when) (lf_L g_qPile) = ((Int32.toInt n0), (Int32.toInt n1), (Int32.toInt n2), (Int32.toInt n3), (Int32.toInt n4), (Int32.toInt n5), (Int32.toInt n6), (Int32.toInt n7), (Int32.toInt n8), (Int32.toInt n9), (Int32.toInt n10), (Int32.toInt n11), (lf_L n12), (lf_A n13), (lf_A n14), (lf_A n15), (lf_A n16), (lf_A n17), (lf_A n18), (lf_A n19), (lf_A n20), (lf_A n21), (lf_A n22), (lf_A n23)))) (fun u : Int32 × Int32 × Int32 × Int32 × Int32 × Int32 × Int32 × Int32 × Int32 × Int32 × Int32 × Int32 × (Nat → Int64) × (Nat → Int32) × (Nat → Int32) × (Nat → Int32) × (Nat → Int32) × (Nat → Int32) × (Nat → Int32) × (Nat → Int32) × (Nat → Int32) × (Nat → Int32) × (Nat → Int32) × (Nat → Int32) => match u with | (n0, n1, n2, n3, n4, n5, n6, n7, n8, n9, n10, n11, n12, n13, n14, n15, n16, n17, n18, n19, n20, n21, n22, n23) => [(a_this, .inr (10, mfs rm x_taped x_at x_end x_ended x_bad x_badPlace x_fault x_faultPlace x_namePlace x_awayTold x_away x_coded x_statements x_isCrossing n0 n1 n2 n3 n4 n5 n6 n7 x_rowMany n8 n9 n10 x_undoable x_newest x_seeded x_qCoded x_qWaits x_qOpened x_qBase n11 x_qAnswer x_qIsNew x_octets)), (wi_rm49_0_6_0 rm cy g_codeFrom), (wi_rm50_0_6_0 rm cy g_codeEnd), (wi_rm116_1_1700_1 rm cy n12), (wi_rm51_0_3200_0 rm cy g_codes), (wi_rm46_0_48_0 rm cy g_walkers), (wi_rm56_0_9_0 rm cy g_now), (wi_rm43_0_8_0 rm cy g_bar), (wi_rm65_0_12_0 rm cy n13), (wi_rm44_0_24_0 rm cy g_kinds), (wi_rm61_0_300_0 rm cy n14), (wi_rm66_3_12_0 rm cy n15), (wi_rm67_3_12_0 rm cy n16), (wi_rm60_3_320_0 rm cy n17), (wi_rm63_3_12_0 rm cy n18), (wi_rm64_0_12_0 rm cy n19), (wi_rm68_3_12_0 rm cy n20), (wi_rm69_3_300_0 rm cy n21), (wi_rm41_0_4_0 rm cy g_many), (wi_rm62_3_300_0 rm cy n22), (wi_rm76_0_32_0 rm cy g_rows), (wi_rm77_0_720_0 rm cy n23)])) := by
  refine k_ofW2 (by decide +kernel) (Nat.le_of_ble_eq_true rfl) ?_
  intro p e s m below meth c A ls H locs args Q hQ C0 hZ hr hlk hin hP hD hA hS hl
  have C0 : k_cx p s m args c cX10_laysFits 4 RX10 dC dI cy sq := C0
  have hx := C0.1
  have hb := C0.2.1
  have hl : lv_has ls 4 [(0, .ref a_this)] := hl
  obtain ⟨O, hO⟩ : ∃ o, o = F_X10_laysFits (Int32.toInt x_textKind) (Int32.toInt x_askSecond) (Int32.toInt x_redMany) (Int32.toInt x_isOpen) (Int32.toInt x_lastGreen) (Int32.toInt x_greenTo) (Int32.toInt x_isCycleGreen) (Int32.toInt x_stillGreen) (Int32.toInt x_rowMany) (Int32.toInt x_qPiled) (lf_A g_many) (lf_A g_bar) (lf_A g_kinds) (lf_A g_walkers) (lf_A g_codeFrom) (lf_A g_codeEnd) (lf_A g_codes) (lf_A g_now) (lf_A g_isCar) (lf_A g_gaps) (lf_A g_isGreen) (lf_A g_isHere) (lf_A g_crosses) (lf_A g_waits) (lf_A g_goes) (lf_A g_harms) (lf_A g_presses) (lf_A g_crossedIn) (lf_A g_rows) (lf_A g_when) (lf_L g_qPile) := ⟨_, rfl⟩
  have hq := hO
  unfold F_X10_laysFits at hq
  have jn21 : ∀ (n : Nat) (J21_c0_55 : Int32) (J21_c0_58 : Int32) (J21_c0_117 : Int32) (J21_a3 : Nat → Int64) (J21_a10 : Nat → Int32) (J21_a13 : Nat → Int32) (J21_l1 : Int32) (J21_c0_59 : Int32) (J21_c0_70 : Int32) (J21_c0_71 : Int32) (J21_c0_72 : Int32) (J21_c0_73 : Int32) (J21_c0_74 : Int32) (J21_c0_78 : Int32) (J21_c0_79 : Int32) (J21_c0_80 : Int32) (J21_a8 : Nat → Int32) (J21_a11 : Nat → Int32) (J21_a12 : Nat → Int32) (J21_a14 : Nat → Int32) (J21_a15 : Nat → Int32) (J21_a16 : Nat → Int32) (J21_a17 : Nat → Int32) (J21_a19 : Nat → Int32) (J21_a21 : Nat → Int32) (H : Heap) (locs : List Loc) (ls : Array Slot), ib J21_c0_117 0 1700 → ib J21_l1 1 21 → ib J21_c0_70 0 1 → ib J21_c0_73 0 1 → ib J21_c0_78 0 60 → ib J21_c0_80 (-1) 20 → ia J21_a10 300 0 20 → (1 * J21_c0_78.toInt + (-3) * J21_l1.toInt ≤ (-3)) → (O = F_X10_laysFits_21 (Int32.toInt x_rowMany) (lf_A g_many) (lf_A g_bar) (lf_A g_kinds) (lf_A g_walkers) (lf_A g_codeFrom) (lf_A g_codeEnd) (lf_A g_codes) (lf_A g_now) (lf_A g_rows) n (Int32.toInt J21_c0_55) (Int32.toInt J21_c0_58) (Int32.toInt J21_c0_117) (lf_L J21_a3) (lf_A J21_a10) (lf_A J21_a13) (Int32.toInt J21_l1) (Int32.toInt J21_c0_59) (Int32.toInt J21_c0_70) (Int32.toInt J21_c0_71) (Int32.toInt J21_c0_72) (Int32.toInt J21_c0_73) (Int32.toInt J21_c0_74) (Int32.toInt J21_c0_78) (Int32.toInt J21_c0_79) (Int32.toInt J21_c0_80) (lf_A J21_a8) (lf_A J21_a11) (lf_A J21_a12) (lf_A J21_a14) (lf_A J21_a15) (lf_A J21_a16) (lf_A J21_a17) (lf_A J21_a19) (lf_A J21_a21)) → 22 ≤ J21_l1.toInt + (n : Int) → va_P (dC, dI) vwCl [(a_this, .inr (10, mfs rm x_taped x_at x_end x_ended x_bad x_badPlace x_fault x_faultPlace x_namePlace x_awayTold x_away x_coded x_statements x_isCrossing J21_c0_55 J21_c0_58 J21_c0_59 J21_c0_70 J21_c0_71 J21_c0_72 J21_c0_73 J21_c0_74 x_rowMany J21_c0_78 J21_c0_79 J21_c0_80 x_undoable x_newest x_seeded x_qCoded x_qWaits x_qOpened x_qBase J21_c0_117 x_qAnswer x_qIsNew x_octets)), (wi_rm49_0_6_0 rm cy g_codeFrom), (wi_rm50_0_6_0 rm cy g_codeEnd), (wi_rm116_1_1700_1 rm cy J21_a3), (wi_rm51_0_3200_0 rm cy g_codes), (wi_rm46_0_48_0 rm cy g_walkers), (wi_rm56_0_9_0 rm cy g_now), (wi_rm43_0_8_0 rm cy g_bar), (wi_rm65_0_12_0 rm cy J21_a8), (wi_rm44_0_24_0 rm cy g_kinds), (wi_rm61_0_300_0 rm cy J21_a10), (wi_rm66_3_12_0 rm cy J21_a11), (wi_rm67_3_12_0 rm cy J21_a12), (wi_rm60_3_320_0 rm cy J21_a13), (wi_rm63_3_12_0 rm cy J21_a14), (wi_rm64_0_12_0 rm cy J21_a15), (wi_rm68_3_12_0 rm cy J21_a16), (wi_rm69_3_300_0 rm cy J21_a17), (wi_rm41_0_4_0 rm cy g_many), (wi_rm62_3_300_0 rm cy J21_a19), (wi_rm76_0_32_0 rm cy g_rows), (wi_rm77_0_720_0 rm cy J21_a21)] H → va_D A [(a_this, .inr (10, mfs rm x_taped x_at x_end x_ended x_bad x_badPlace x_fault x_faultPlace x_namePlace x_awayTold x_away x_coded x_statements x_isCrossing J21_c0_55 J21_c0_58 J21_c0_59 J21_c0_70 J21_c0_71 J21_c0_72 J21_c0_73 J21_c0_74 x_rowMany J21_c0_78 J21_c0_79 J21_c0_80 x_undoable x_newest x_seeded x_qCoded x_qWaits x_qOpened x_qBase J21_c0_117 x_qAnswer x_qIsNew x_octets)), (wi_rm49_0_6_0 rm cy g_codeFrom), (wi_rm50_0_6_0 rm cy g_codeEnd), (wi_rm116_1_1700_1 rm cy J21_a3), (wi_rm51_0_3200_0 rm cy g_codes), (wi_rm46_0_48_0 rm cy g_walkers), (wi_rm56_0_9_0 rm cy g_now), (wi_rm43_0_8_0 rm cy g_bar), (wi_rm65_0_12_0 rm cy J21_a8), (wi_rm44_0_24_0 rm cy g_kinds), (wi_rm61_0_300_0 rm cy J21_a10), (wi_rm66_3_12_0 rm cy J21_a11), (wi_rm67_3_12_0 rm cy J21_a12), (wi_rm60_3_320_0 rm cy J21_a13), (wi_rm63_3_12_0 rm cy J21_a14), (wi_rm64_0_12_0 rm cy J21_a15), (wi_rm68_3_12_0 rm cy J21_a16), (wi_rm69_3_300_0 rm cy J21_a17), (wi_rm41_0_4_0 rm cy g_many), (wi_rm62_3_300_0 rm cy J21_a19), (wi_rm76_0_32_0 rm cy g_rows), (wi_rm77_0_720_0 rm cy J21_a21)] → va_S A s.heap H locs → lv_has ls 4 [(0, .ref a_this), (1, .int J21_l1)] → W p l e { frames := 6, cells := 0, slots := 0, locals := 137 } s m args below meth c H locs 0 0 Q (F0 m 21 ls []) := by
    as_aux_lemma =>
      intro n
      induction n with
      | zero =>
        intro J21_c0_55 J21_c0_58 J21_c0_117 J21_a3 J21_a10 J21_a13 J21_l1 J21_c0_59 J21_c0_70 J21_c0_71 J21_c0_72 J21_c0_73 J21_c0_74 J21_c0_78 J21_c0_79 J21_c0_80 J21_a8 J21_a11 J21_a12 J21_a14 J21_a15 J21_a16 J21_a17 J21_a19 J21_a21 H locs ls hJ21_c0_117 hJ21_l1 hJ21_c0_70 hJ21_c0_73 hJ21_c0_78 hJ21_c0_80 hJ21_a10 hJ21_lin0 hq hm
        exact absurd hm (by have := hJ21_l1; unfold ib at this; omega)
      | succ n ih =>
        intro J21_c0_55 J21_c0_58 J21_c0_117 J21_a3 J21_a10 J21_a13 J21_l1 J21_c0_59 J21_c0_70 J21_c0_71 J21_c0_72 J21_c0_73 J21_c0_74 J21_c0_78 J21_c0_79 J21_c0_80 J21_a8 J21_a11 J21_a12 J21_a14 J21_a15 J21_a16 J21_a17 J21_a19 J21_a21 H locs ls hJ21_c0_117 hJ21_l1 hJ21_c0_70 hJ21_c0_73 hJ21_c0_78 hJ21_c0_80 hJ21_a10 hJ21_lin0 hq hm21 hP hD hS hl
        have ih21 := ih
        obtain ⟨K21, hK21⟩ : ∃ K, K = F_X10_laysFits_21 (Int32.toInt x_rowMany) (lf_A g_many) (lf_A g_bar) (lf_A g_kinds) (lf_A g_walkers) (lf_A g_codeFrom) (lf_A g_codeEnd) (lf_A g_codes) (lf_A g_now) (lf_A g_rows) n := ⟨_, rfl⟩
        have hq : O = F_X10_laysFits_21b (Int32.toInt x_rowMany) (lf_A g_many) (lf_A g_bar) (lf_A g_kinds) (lf_A g_walkers) (lf_A g_codeFrom) (lf_A g_codeEnd) (lf_A g_codes) (lf_A g_now) (lf_A g_rows) K21 (Int32.toInt J21_c0_55) (Int32.toInt J21_c0_58) (Int32.toInt J21_c0_117) (lf_L J21_a3) (lf_A J21_a10) (lf_A J21_a13) (Int32.toInt J21_l1) (Int32.toInt J21_c0_59) (Int32.toInt J21_c0_70) (Int32.toInt J21_c0_71) (Int32.toInt J21_c0_72) (Int32.toInt J21_c0_73) (Int32.toInt J21_c0_74) (Int32.toInt J21_c0_78) (Int32.toInt J21_c0_79) (Int32.toInt J21_c0_80) (lf_A J21_a8) (lf_A J21_a11) (lf_A J21_a12) (lf_A J21_a14) (lf_A J21_a15) (lf_A J21_a16) (lf_A J21_a17) (lf_A J21_a19) (lf_A J21_a21) := by rw [hK21]; exact hq
        unfold F_X10_laysFits_21b at hq
        have jn33 : ∀ (n : Nat) (J33_l2 : Int32) (J33_c0_55 : Int32) (J33_c0_58 : Int32) (J33_c0_59 : Int32) (J33_c0_70 : Int32) (J33_c0_71 : Int32) (J33_c0_72 : Int32) (J33_c0_73 : Int32) (J33_c0_74 : Int32) (J33_c0_78 : Int32) (J33_c0_79 : Int32) (J33_c0_80 : Int32) (J33_c0_117 : Int32) (J33_a3 : Nat → Int64) (J33_a8 : Nat → Int32) (J33_a11 : Nat → Int32) (J33_a12 : Nat → Int32) (J33_a14 : Nat → Int32) (J33_a15 : Nat → Int32) (J33_a16 : Nat → Int32) (J33_a17 : Nat → Int32) (J33_a19 : Nat → Int32) (J33_a21 : Nat → Int32) (H : Heap) (locs : List Loc) (ls : Array Slot), ib J21_l1 1 20 → ib J33_l2 0 3 → ib J33_c0_70 0 1 → ib J33_c0_73 0 1 → ib J33_c0_78 0 60 → ib J33_c0_80 (-1) 20 → ib J33_c0_117 0 1700 → (1 * J33_c0_78.toInt + (-3) * J21_l1.toInt + (-1) * J33_l2.toInt ≤ (-3)) → (O = F_X10_laysFits_33 (Int32.toInt x_rowMany) (lf_A g_many) (lf_A g_bar) (lf_A g_kinds) (lf_A g_walkers) (lf_A g_codeFrom) (lf_A g_codeEnd) (lf_A g_codes) (lf_A g_now) (lf_A g_rows) (lf_A J21_a10) (lf_A J21_a13) (Int32.toInt J21_l1) K21 n (Int32.toInt J33_l2) (Int32.toInt J33_c0_55) (Int32.toInt J33_c0_58) (Int32.toInt J33_c0_59) (Int32.toInt J33_c0_70) (Int32.toInt J33_c0_71) (Int32.toInt J33_c0_72) (Int32.toInt J33_c0_73) (Int32.toInt J33_c0_74) (Int32.toInt J33_c0_78) (Int32.toInt J33_c0_79) (Int32.toInt J33_c0_80) (Int32.toInt J33_c0_117) (lf_L J33_a3) (lf_A J33_a8) (lf_A J33_a11) (lf_A J33_a12) (lf_A J33_a14) (lf_A J33_a15) (lf_A J33_a16) (lf_A J33_a17) (lf_A J33_a19) (lf_A J33_a21)) → 4 ≤ J33_l2.toInt + (n : Int) → va_P (dC, dI) vwCl [(a_this, .inr (10, mfs rm x_taped x_at x_end x_ended x_bad x_badPlace x_fault x_faultPlace x_namePlace x_awayTold x_away x_coded x_statements x_isCrossing J33_c0_55 J33_c0_58 J33_c0_59 J33_c0_70 J33_c0_71 J33_c0_72 J33_c0_73 J33_c0_74 x_rowMany J33_c0_78 J33_c0_79 J33_c0_80 x_undoable x_newest x_seeded x_qCoded x_qWaits x_qOpened x_qBase J33_c0_117 x_qAnswer x_qIsNew x_octets)), (wi_rm49_0_6_0 rm cy g_codeFrom), (wi_rm50_0_6_0 rm cy g_codeEnd), (wi_rm116_1_1700_1 rm cy J33_a3), (wi_rm51_0_3200_0 rm cy g_codes), (wi_rm46_0_48_0 rm cy g_walkers), (wi_rm56_0_9_0 rm cy g_now), (wi_rm43_0_8_0 rm cy g_bar), (wi_rm65_0_12_0 rm cy J33_a8), (wi_rm44_0_24_0 rm cy g_kinds), (wi_rm61_0_300_0 rm cy J21_a10), (wi_rm66_3_12_0 rm cy J33_a11), (wi_rm67_3_12_0 rm cy J33_a12), (wi_rm60_3_320_0 rm cy J21_a13), (wi_rm63_3_12_0 rm cy J33_a14), (wi_rm64_0_12_0 rm cy J33_a15), (wi_rm68_3_12_0 rm cy J33_a16), (wi_rm69_3_300_0 rm cy J33_a17), (wi_rm41_0_4_0 rm cy g_many), (wi_rm62_3_300_0 rm cy J33_a19), (wi_rm76_0_32_0 rm cy g_rows), (wi_rm77_0_720_0 rm cy J33_a21)] H → va_D A [(a_this, .inr (10, mfs rm x_taped x_at x_end x_ended x_bad x_badPlace x_fault x_faultPlace x_namePlace x_awayTold x_away x_coded x_statements x_isCrossing J33_c0_55 J33_c0_58 J33_c0_59 J33_c0_70 J33_c0_71 J33_c0_72 J33_c0_73 J33_c0_74 x_rowMany J33_c0_78 J33_c0_79 J33_c0_80 x_undoable x_newest x_seeded x_qCoded x_qWaits x_qOpened x_qBase J33_c0_117 x_qAnswer x_qIsNew x_octets)), (wi_rm49_0_6_0 rm cy g_codeFrom), (wi_rm50_0_6_0 rm cy g_codeEnd), (wi_rm116_1_1700_1 rm cy J33_a3), (wi_rm51_0_3200_0 rm cy g_codes), (wi_rm46_0_48_0 rm cy g_walkers), (wi_rm56_0_9_0 rm cy g_now), (wi_rm43_0_8_0 rm cy g_bar), (wi_rm65_0_12_0 rm cy J33_a8), (wi_rm44_0_24_0 rm cy g_kinds), (wi_rm61_0_300_0 rm cy J21_a10), (wi_rm66_3_12_0 rm cy J33_a11), (wi_rm67_3_12_0 rm cy J33_a12), (wi_rm60_3_320_0 rm cy J21_a13), (wi_rm63_3_12_0 rm cy J33_a14), (wi_rm64_0_12_0 rm cy J33_a15), (wi_rm68_3_12_0 rm cy J33_a16), (wi_rm69_3_300_0 rm cy J33_a17), (wi_rm41_0_4_0 rm cy g_many), (wi_rm62_3_300_0 rm cy J33_a19), (wi_rm76_0_32_0 rm cy g_rows), (wi_rm77_0_720_0 rm cy J33_a21)] → va_S A s.heap H locs → lv_has ls 4 [(0, .ref a_this), (1, .int J21_l1), (2, .int J33_l2)] → W p l e { frames := 6, cells := 0, slots := 0, locals := 137 } s m args below meth c H locs 0 0 Q (F0 m 33 ls []) := by
          as_aux_lemma =>
            intro n
            induction n with
            | zero =>
              intro J33_l2 J33_c0_55 J33_c0_58 J33_c0_59 J33_c0_70 J33_c0_71 J33_c0_72 J33_c0_73 J33_c0_74 J33_c0_78 J33_c0_79 J33_c0_80 J33_c0_117 J33_a3 J33_a8 J33_a11 J33_a12 J33_a14 J33_a15 J33_a16 J33_a17 J33_a19 J33_a21 H locs ls hK33_J21_l1 hJ33_l2 hJ33_c0_70 hJ33_c0_73 hJ33_c0_78 hJ33_c0_80 hJ33_c0_117 hJ33_lin0 hq hm
              exact absurd hm (by have := hJ33_l2; unfold ib at this; omega)
            | succ n ih =>
              intro J33_l2 J33_c0_55 J33_c0_58 J33_c0_59 J33_c0_70 J33_c0_71 J33_c0_72 J33_c0_73 J33_c0_74 J33_c0_78 J33_c0_79 J33_c0_80 J33_c0_117 J33_a3 J33_a8 J33_a11 J33_a12 J33_a14 J33_a15 J33_a16 J33_a17 J33_a19 J33_a21 H locs ls hK33_J21_l1 hJ33_l2 hJ33_c0_70 hJ33_c0_73 hJ33_c0_78 hJ33_c0_80 hJ33_c0_117 hJ33_lin0 hq hm33 hP hD hS hl
              have ih33 := ih
              obtain ⟨K33, hK33⟩ : ∃ K, K = F_X10_laysFits_33 (Int32.toInt x_rowMany) (lf_A g_many) (lf_A g_bar) (lf_A g_kinds) (lf_A g_walkers) (lf_A g_codeFrom) (lf_A g_codeEnd) (lf_A g_codes) (lf_A g_now) (lf_A g_rows) (lf_A J21_a10) (lf_A J21_a13) (Int32.toInt J21_l1) K21 n := ⟨_, rfl⟩
              have hq : O = F_X10_laysFits_33b (Int32.toInt x_rowMany) (lf_A g_many) (lf_A g_bar) (lf_A g_kinds) (lf_A g_walkers) (lf_A g_codeFrom) (lf_A g_codeEnd) (lf_A g_codes) (lf_A g_now) (lf_A g_rows) (lf_A J21_a10) (lf_A J21_a13) (Int32.toInt J21_l1) K21 K33 (Int32.toInt J33_l2) (Int32.toInt J33_c0_55) (Int32.toInt J33_c0_58) (Int32.toInt J33_c0_59) (Int32.toInt J33_c0_70) (Int32.toInt J33_c0_71) (Int32.toInt J33_c0_72) (Int32.toInt J33_c0_73) (Int32.toInt J33_c0_74) (Int32.toInt J33_c0_78) (Int32.toInt J33_c0_79) (Int32.toInt J33_c0_80) (Int32.toInt J33_c0_117) (lf_L J33_a3) (lf_A J33_a8) (lf_A J33_a11) (lf_A J33_a12) (lf_A J33_a14) (lf_A J33_a15) (lf_A J33_a16) (lf_A J33_a17) (lf_A J33_a19) (lf_A J33_a21) := by rw [hK33]; exact hq
              unfold F_X10_laysFits_33b at hq
              have jn125 : ∀ (J125_c0_55 : Int32) (J125_c0_58 : Int32) (J125_c0_59 : Int32) (J125_c0_70 : Int32) (J125_c0_71 : Int32) (J125_c0_72 : Int32) (J125_c0_73 : Int32) (J125_c0_74 : Int32) (J125_c0_117 : Int32) (J125_a3 : Nat → Int64) (J125_a8 : Nat → Int32) (J125_a11 : Nat → Int32) (J125_a12 : Nat → Int32) (J125_a14 : Nat → Int32) (J125_a15 : Nat → Int32) (J125_a16 : Nat → Int32) (J125_a17 : Nat → Int32) (J125_a19 : Nat → Int32) (J125_c0_78 : Int32) (J125_c0_79 : Int32) (J125_a21 : Nat → Int32) (J125_c0_80 : Int32) (H : Heap) (locs : List Loc) (ls : Array Slot), ib J21_l1 1 20 → ib J33_l2 0 2 → ib J125_c0_70 0 1 → ib J125_c0_73 0 1 → ib J125_c0_117 0 1700 → ib J125_c0_78 0 60 → ib J125_c0_80 (-1) 20 → (1 * J125_c0_78.toInt + (-3) * J21_l1.toInt + (-1) * J33_l2.toInt ≤ (-2)) → (O = F_X10_laysFits_125 (Int32.toInt J33_l2) K33 (Int32.toInt J125_c0_55) (Int32.toInt J125_c0_58) (Int32.toInt J125_c0_59) (Int32.toInt J125_c0_70) (Int32.toInt J125_c0_71) (Int32.toInt J125_c0_72) (Int32.toInt J125_c0_73) (Int32.toInt J125_c0_74) (Int32.toInt J125_c0_117) (lf_L J125_a3) (lf_A J125_a8) (lf_A J125_a11) (lf_A J125_a12) (lf_A J125_a14) (lf_A J125_a15) (lf_A J125_a16) (lf_A J125_a17) (lf_A J125_a19) (Int32.toInt J125_c0_78) (Int32.toInt J125_c0_79) (lf_A J125_a21) (Int32.toInt J125_c0_80)) → va_P (dC, dI) vwCl [(a_this, .inr (10, mfs rm x_taped x_at x_end x_ended x_bad x_badPlace x_fault x_faultPlace x_namePlace x_awayTold x_away x_coded x_statements x_isCrossing J125_c0_55 J125_c0_58 J125_c0_59 J125_c0_70 J125_c0_71 J125_c0_72 J125_c0_73 J125_c0_74 x_rowMany J125_c0_78 J125_c0_79 J125_c0_80 x_undoable x_newest x_seeded x_qCoded x_qWaits x_qOpened x_qBase J125_c0_117 x_qAnswer x_qIsNew x_octets)), (wi_rm49_0_6_0 rm cy g_codeFrom), (wi_rm50_0_6_0 rm cy g_codeEnd), (wi_rm116_1_1700_1 rm cy J125_a3), (wi_rm51_0_3200_0 rm cy g_codes), (wi_rm46_0_48_0 rm cy g_walkers), (wi_rm56_0_9_0 rm cy g_now), (wi_rm43_0_8_0 rm cy g_bar), (wi_rm65_0_12_0 rm cy J125_a8), (wi_rm44_0_24_0 rm cy g_kinds), (wi_rm61_0_300_0 rm cy J21_a10), (wi_rm66_3_12_0 rm cy J125_a11), (wi_rm67_3_12_0 rm cy J125_a12), (wi_rm60_3_320_0 rm cy J21_a13), (wi_rm63_3_12_0 rm cy J125_a14), (wi_rm64_0_12_0 rm cy J125_a15), (wi_rm68_3_12_0 rm cy J125_a16), (wi_rm69_3_300_0 rm cy J125_a17), (wi_rm41_0_4_0 rm cy g_many), (wi_rm62_3_300_0 rm cy J125_a19), (wi_rm76_0_32_0 rm cy g_rows), (wi_rm77_0_720_0 rm cy J125_a21)] H → va_D A [(a_this, .inr (10, mfs rm x_taped x_at x_end x_ended x_bad x_badPlace x_fault x_faultPlace x_namePlace x_awayTold x_away x_coded x_statements x_isCrossing J125_c0_55 J125_c0_58 J125_c0_59 J125_c0_70 J125_c0_71 J125_c0_72 J125_c0_73 J125_c0_74 x_rowMany J125_c0_78 J125_c0_79 J125_c0_80 x_undoable x_newest x_seeded x_qCoded x_qWaits x_qOpened x_qBase J125_c0_117 x_qAnswer x_qIsNew x_octets)), (wi_rm49_0_6_0 rm cy g_codeFrom), (wi_rm50_0_6_0 rm cy g_codeEnd), (wi_rm116_1_1700_1 rm cy J125_a3), (wi_rm51_0_3200_0 rm cy g_codes), (wi_rm46_0_48_0 rm cy g_walkers), (wi_rm56_0_9_0 rm cy g_now), (wi_rm43_0_8_0 rm cy g_bar), (wi_rm65_0_12_0 rm cy J125_a8), (wi_rm44_0_24_0 rm cy g_kinds), (wi_rm61_0_300_0 rm cy J21_a10), (wi_rm66_3_12_0 rm cy J125_a11), (wi_rm67_3_12_0 rm cy J125_a12), (wi_rm60_3_320_0 rm cy J21_a13), (wi_rm63_3_12_0 rm cy J125_a14), (wi_rm64_0_12_0 rm cy J125_a15), (wi_rm68_3_12_0 rm cy J125_a16), (wi_rm69_3_300_0 rm cy J125_a17), (wi_rm41_0_4_0 rm cy g_many), (wi_rm62_3_300_0 rm cy J125_a19), (wi_rm76_0_32_0 rm cy g_rows), (wi_rm77_0_720_0 rm cy J125_a21)] → va_S A s.heap H locs → lv_has ls 4 [(0, .ref a_this), (1, .int J21_l1), (2, .int J33_l2)] → W p l e { frames := 6, cells := 0, slots := 0, locals := 137 } s m args below meth c H locs 0 0 Q (F0 m 125 ls []) := by
                intro J125_c0_55 J125_c0_58 J125_c0_59 J125_c0_70 J125_c0_71 J125_c0_72 J125_c0_73 J125_c0_74 J125_c0_117 J125_a3 J125_a8 J125_a11 J125_a12 J125_a14 J125_a15 J125_a16 J125_a17 J125_a19 J125_c0_78 J125_c0_79 J125_a21 J125_c0_80 H locs ls hK125_J21_l1 hK125_J33_l2 hJ125_c0_70 hJ125_c0_73 hJ125_c0_117 hJ125_c0_78 hJ125_c0_80 hJ125_lin0 hq hP hD hS hl
                unfold F_X10_laysFits_125 at hq
                obtain ⟨z1, ez1⟩ : ∃ y : Int32, y = J33_l2 + 1 := ⟨_, rfl⟩
                refine lv_iinc (v := z1) (lv' := [(2, .int z1), (0, .ref a_this), (1, .int J21_l1)]) hx hb dX10_laysFits_125 hl (k := 2) rfl (by rw [ez1]; rfl) (Nat.le_of_ble_eq_true rfl) rfl (fun ls hl => ?_)
                have h2 := ib_add hK125_J33_l2 (ib_c 1 1 1 rfl) rfl
                rw [← ez1] at h2
                have h3 : ib z1 1 3 := ib_w 1 3 h2.1 rfl
                have Ez1 := lf_add h2.2 (lf_rf J33_l2) (lf_lc 1 (1 : Int) rfl)
                refine lv_goto (tgt := 33) hx hb dX10_laysFits_128 rfl ?_
                exact ih33 z1 J125_c0_55 J125_c0_58 J125_c0_59 J125_c0_70 J125_c0_71 J125_c0_72 J125_c0_73 J125_c0_74 J125_c0_78 J125_c0_79 J125_c0_80 J125_c0_117 J125_a3 J125_a8 J125_a11 J125_a12 J125_a14 J125_a15 J125_a16 J125_a17 J125_a19 J125_a21 H locs ls (ib_w 1 20 hK125_J21_l1 rfl) (ib_w 0 3 h3 rfl) (ib_w 0 1 hJ125_c0_70 rfl) (ib_w 0 1 hJ125_c0_73 rfl) (ib_w 0 60 hJ125_c0_78 rfl) (ib_w (-1) 20 hJ125_c0_80 rfl) (ib_w 0 1700 hJ125_c0_117 rfl) (by have := h2.2; have : (1 : Int32).toInt = 1 := rfl; have := hJ125_lin0; omega) (by rw [← hK33]; rw [lf_u Ez1]; exact hq) (by have := h2.2; have : (1 : Int32).toInt = 1 := rfl; omega) hP hD hS (lv_sub hl [1, 2, 0] rfl)
              have jn58 : ∀ (n : Nat) (J58_c0_55 : Int32) (J58_c0_58 : Int32) (J58_c0_59 : Int32) (J58_c0_70 : Int32) (J58_c0_71 : Int32) (J58_c0_72 : Int32) (J58_c0_73 : Int32) (J58_c0_74 : Int32) (J58_c0_117 : Int32) (J58_a3 : Nat → Int64) (J58_a8 : Nat → Int32) (J58_a11 : Nat → Int32) (J58_a12 : Nat → Int32) (J58_a14 : Nat → Int32) (J58_a15 : Nat → Int32) (J58_a16 : Nat → Int32) (J58_a17 : Nat → Int32) (J58_a19 : Nat → Int32) (J58_l3 : Int32) (J58_a21 : Nat → Int32) (H : Heap) (locs : List Loc) (ls : Array Slot), ib J21_l1 1 20 → ib J33_l2 0 2 → ib J58_c0_70 0 1 → ib J58_c0_73 0 1 → ib J33_c0_78 0 59 → ib J33_c0_80 (-1) 20 → ib J58_c0_117 0 1700 → ib J58_l3 0 12 → (O = F_X10_laysFits_58 (Int32.toInt J21_l1) (Int32.toInt J33_l2) (Int32.toInt J33_c0_78) (Int32.toInt J33_c0_79) (Int32.toInt J33_c0_80) K33 n (Int32.toInt J58_c0_55) (Int32.toInt J58_c0_58) (Int32.toInt J58_c0_59) (Int32.toInt J58_c0_70) (Int32.toInt J58_c0_71) (Int32.toInt J58_c0_72) (Int32.toInt J58_c0_73) (Int32.toInt J58_c0_74) (Int32.toInt J58_c0_117) (lf_L J58_a3) (lf_A J58_a8) (lf_A J58_a11) (lf_A J58_a12) (lf_A J58_a14) (lf_A J58_a15) (lf_A J58_a16) (lf_A J58_a17) (lf_A J58_a19) (Int32.toInt J58_l3) (lf_A J58_a21)) → 13 ≤ J58_l3.toInt + (n : Int) → va_P (dC, dI) vwCl [(a_this, .inr (10, mfs rm x_taped x_at x_end x_ended x_bad x_badPlace x_fault x_faultPlace x_namePlace x_awayTold x_away x_coded x_statements x_isCrossing J58_c0_55 J58_c0_58 J58_c0_59 J58_c0_70 J58_c0_71 J58_c0_72 J58_c0_73 J58_c0_74 x_rowMany J33_c0_78 J33_c0_79 J33_c0_80 x_undoable x_newest x_seeded x_qCoded x_qWaits x_qOpened x_qBase J58_c0_117 x_qAnswer x_qIsNew x_octets)), (wi_rm49_0_6_0 rm cy g_codeFrom), (wi_rm50_0_6_0 rm cy g_codeEnd), (wi_rm116_1_1700_1 rm cy J58_a3), (wi_rm51_0_3200_0 rm cy g_codes), (wi_rm46_0_48_0 rm cy g_walkers), (wi_rm56_0_9_0 rm cy g_now), (wi_rm43_0_8_0 rm cy g_bar), (wi_rm65_0_12_0 rm cy J58_a8), (wi_rm44_0_24_0 rm cy g_kinds), (wi_rm61_0_300_0 rm cy J21_a10), (wi_rm66_3_12_0 rm cy J58_a11), (wi_rm67_3_12_0 rm cy J58_a12), (wi_rm60_3_320_0 rm cy J21_a13), (wi_rm63_3_12_0 rm cy J58_a14), (wi_rm64_0_12_0 rm cy J58_a15), (wi_rm68_3_12_0 rm cy J58_a16), (wi_rm69_3_300_0 rm cy J58_a17), (wi_rm41_0_4_0 rm cy g_many), (wi_rm62_3_300_0 rm cy J58_a19), (wi_rm76_0_32_0 rm cy g_rows), (wi_rm77_0_720_0 rm cy J58_a21)] H → va_D A [(a_this, .inr (10, mfs rm x_taped x_at x_end x_ended x_bad x_badPlace x_fault x_faultPlace x_namePlace x_awayTold x_away x_coded x_statements x_isCrossing J58_c0_55 J58_c0_58 J58_c0_59 J58_c0_70 J58_c0_71 J58_c0_72 J58_c0_73 J58_c0_74 x_rowMany J33_c0_78 J33_c0_79 J33_c0_80 x_undoable x_newest x_seeded x_qCoded x_qWaits x_qOpened x_qBase J58_c0_117 x_qAnswer x_qIsNew x_octets)), (wi_rm49_0_6_0 rm cy g_codeFrom), (wi_rm50_0_6_0 rm cy g_codeEnd), (wi_rm116_1_1700_1 rm cy J58_a3), (wi_rm51_0_3200_0 rm cy g_codes), (wi_rm46_0_48_0 rm cy g_walkers), (wi_rm56_0_9_0 rm cy g_now), (wi_rm43_0_8_0 rm cy g_bar), (wi_rm65_0_12_0 rm cy J58_a8), (wi_rm44_0_24_0 rm cy g_kinds), (wi_rm61_0_300_0 rm cy J21_a10), (wi_rm66_3_12_0 rm cy J58_a11), (wi_rm67_3_12_0 rm cy J58_a12), (wi_rm60_3_320_0 rm cy J21_a13), (wi_rm63_3_12_0 rm cy J58_a14), (wi_rm64_0_12_0 rm cy J58_a15), (wi_rm68_3_12_0 rm cy J58_a16), (wi_rm69_3_300_0 rm cy J58_a17), (wi_rm41_0_4_0 rm cy g_many), (wi_rm62_3_300_0 rm cy J58_a19), (wi_rm76_0_32_0 rm cy g_rows), (wi_rm77_0_720_0 rm cy J58_a21)] → va_S A s.heap H locs → lv_has ls 4 [(0, .ref a_this), (1, .int J21_l1), (2, .int J33_l2), (3, .int J58_l3)] → W p l e { frames := 6, cells := 0, slots := 0, locals := 137 } s m args below meth c H locs 0 0 Q (F0 m 58 ls []) := by
                as_aux_lemma =>
                  intro n
                  induction n with
                  | zero =>
                    intro J58_c0_55 J58_c0_58 J58_c0_59 J58_c0_70 J58_c0_71 J58_c0_72 J58_c0_73 J58_c0_74 J58_c0_117 J58_a3 J58_a8 J58_a11 J58_a12 J58_a14 J58_a15 J58_a16 J58_a17 J58_a19 J58_l3 J58_a21 H locs ls hK58_J21_l1 hK58_J33_l2 hJ58_c0_70 hJ58_c0_73 hK58_J33_c0_78 hK58_J33_c0_80 hJ58_c0_117 hJ58_l3 hq hm
                    exact absurd hm (by have := hJ58_l3; unfold ib at this; omega)
                  | succ n ih =>
                    intro J58_c0_55 J58_c0_58 J58_c0_59 J58_c0_70 J58_c0_71 J58_c0_72 J58_c0_73 J58_c0_74 J58_c0_117 J58_a3 J58_a8 J58_a11 J58_a12 J58_a14 J58_a15 J58_a16 J58_a17 J58_a19 J58_l3 J58_a21 H locs ls hK58_J21_l1 hK58_J33_l2 hJ58_c0_70 hJ58_c0_73 hK58_J33_c0_78 hK58_J33_c0_80 hJ58_c0_117 hJ58_l3 hq hm58 hP hD hS hl
                    have ih58 := ih
                    obtain ⟨K58, hK58⟩ : ∃ K, K = F_X10_laysFits_58 (Int32.toInt J21_l1) (Int32.toInt J33_l2) (Int32.toInt J33_c0_78) (Int32.toInt J33_c0_79) (Int32.toInt J33_c0_80) K33 n := ⟨_, rfl⟩
                    have hq : O = F_X10_laysFits_58b (Int32.toInt J21_l1) (Int32.toInt J33_l2) (Int32.toInt J33_c0_78) (Int32.toInt J33_c0_79) (Int32.toInt J33_c0_80) K33 K58 (Int32.toInt J58_c0_55) (Int32.toInt J58_c0_58) (Int32.toInt J58_c0_59) (Int32.toInt J58_c0_70) (Int32.toInt J58_c0_71) (Int32.toInt J58_c0_72) (Int32.toInt J58_c0_73) (Int32.toInt J58_c0_74) (Int32.toInt J58_c0_117) (lf_L J58_a3) (lf_A J58_a8) (lf_A J58_a11) (lf_A J58_a12) (lf_A J58_a14) (lf_A J58_a15) (lf_A J58_a16) (lf_A J58_a17) (lf_A J58_a19) (Int32.toInt J58_l3) (lf_A J58_a21) := by rw [hK58]; exact hq
                    unfold F_X10_laysFits_58b at hq
                    refine lv_iload_n hx hb dX10_laysFits_58 rfl (lv_at hl 3 rfl) ?_
                    refine lv_bipush (v := 12) hx hb dX10_laysFits_59 rfl ?_
                    refine lv_icmp_ge (tgt := 90) hx hb dX10_laysFits_61 rfl (fun c4 => ?_) (fun c4 => ?_)
                    · as_aux_lemma =>
                        replace hq := lf_pos hq (lf_le (lf_lc 12 (12 : Int) rfl) (lf_rf J58_l3) c4)
                        have h5 := ib_le (ib_c 12 12 12 rfl) hJ58_l3 c4
                        have h6 : ib J58_l3 12 12 := ib_w 12 12 h5.2 rfl
                        have h7 : ib J21_c0_78 0 57 := ⟨(hJ21_c0_78).1, by have := (hJ21_c0_78).2; have := hJ21_lin0; have := (hK58_J21_l1).2; omega⟩
                        refine lv_aload_n hx hb dX10_laysFits_90 rfl (lv_at hl 0 rfl) ?_
                        refine lv_dup hx hb dX10_laysFits_91 rfl ?_
                        refine k_get C0 fg_X10_570 hP 0 rfl rfl dX10_laysFits_92 ?_
                        refine lv_iconst (v := 1) hx hb dX10_laysFits_95 rfl ?_
                        refine lv_iadd hx hb dX10_laysFits_96 ?_
                        refine lv_topi (fun z8 ez8 => ?_)
                        have h9 := ib_add hK58_J33_c0_78 (ib_c 1 1 1 rfl) rfl
                        rw [← ez8] at h9
                        have h10 : ib z8 1 60 := ib_w 1 60 h9.1 rfl
                        have Ez8 := lf_add h9.2 (lf_rf J33_c0_78) (lf_lc 1 (1 : Int) rfl)
                        refine k_put C0 fp_X10_570 hP hD hS 0 rfl rfl rfl (Nat.le_of_ble_eq_true rfl) dX10_laysFits_97 (fun H locs hP hD hS => ?_)
                        replace hP : va_P (dC, dI) vwCl [(a_this, .inr (10, mfs rm x_taped x_at x_end x_ended x_bad x_badPlace x_fault x_faultPlace x_namePlace x_awayTold x_away x_coded x_statements x_isCrossing J58_c0_55 J58_c0_58 J58_c0_59 J58_c0_70 J58_c0_71 J58_c0_72 J58_c0_73 J58_c0_74 x_rowMany z8 J33_c0_79 J33_c0_80 x_undoable x_newest x_seeded x_qCoded x_qWaits x_qOpened x_qBase J58_c0_117 x_qAnswer x_qIsNew x_octets)), (wi_rm49_0_6_0 rm cy g_codeFrom), (wi_rm50_0_6_0 rm cy g_codeEnd), (wi_rm116_1_1700_1 rm cy J58_a3), (wi_rm51_0_3200_0 rm cy g_codes), (wi_rm46_0_48_0 rm cy g_walkers), (wi_rm56_0_9_0 rm cy g_now), (wi_rm43_0_8_0 rm cy g_bar), (wi_rm65_0_12_0 rm cy J58_a8), (wi_rm44_0_24_0 rm cy g_kinds), (wi_rm61_0_300_0 rm cy J21_a10), (wi_rm66_3_12_0 rm cy J58_a11), (wi_rm67_3_12_0 rm cy J58_a12), (wi_rm60_3_320_0 rm cy J21_a13), (wi_rm63_3_12_0 rm cy J58_a14), (wi_rm64_0_12_0 rm cy J58_a15), (wi_rm68_3_12_0 rm cy J58_a16), (wi_rm69_3_300_0 rm cy J58_a17), (wi_rm41_0_4_0 rm cy g_many), (wi_rm62_3_300_0 rm cy J58_a19), (wi_rm76_0_32_0 rm cy g_rows), (wi_rm77_0_720_0 rm cy J58_a21)] H := hP
                        replace hD := k_D hP hD
                        refine lv_aload_n hx hb dX10_laysFits_100 rfl (lv_at hl 0 rfl) ?_
                        refine lv_dup hx hb dX10_laysFits_101 rfl ?_
                        refine k_get C0 fg_X10_573 hP 0 rfl rfl dX10_laysFits_102 ?_
                        refine lv_iconst (v := 1) hx hb dX10_laysFits_105 rfl ?_
                        refine lv_iload_n hx hb dX10_laysFits_106 rfl (lv_at hl 2 rfl) ?_
                        refine lv_ishl hx hb dX10_laysFits_107 ?_
                        refine lv_topi (fun z11 ez11 => ?_)
                        have h12 : ib z11 1 4 := by rw [ez11]; exact ib_w 1 4 (ib_shl1 2 (ib_w 0 2 hK58_J33_l2 rfl) (by decide)) rfl
                        have Ez11 := lf_op lf_ishl ez11 (lf_lc 1 (1 : Int) rfl) (lf_rf J33_l2)
                        refine lv_ior hx hb dX10_laysFits_108 ?_
                        refine lv_topi (fun z13 ez13 => ?_)
                        have Ez13 := lf_op lf_ior ez13 (lf_rf J33_c0_79) Ez11
                        refine k_put C0 fp_X10_573 hP hD hS 0 rfl rfl rfl (Nat.le_of_ble_eq_true rfl) dX10_laysFits_109 (fun H locs hP hD hS => ?_)
                        replace hP : va_P (dC, dI) vwCl [(a_this, .inr (10, mfs rm x_taped x_at x_end x_ended x_bad x_badPlace x_fault x_faultPlace x_namePlace x_awayTold x_away x_coded x_statements x_isCrossing J58_c0_55 J58_c0_58 J58_c0_59 J58_c0_70 J58_c0_71 J58_c0_72 J58_c0_73 J58_c0_74 x_rowMany z8 z13 J33_c0_80 x_undoable x_newest x_seeded x_qCoded x_qWaits x_qOpened x_qBase J58_c0_117 x_qAnswer x_qIsNew x_octets)), (wi_rm49_0_6_0 rm cy g_codeFrom), (wi_rm50_0_6_0 rm cy g_codeEnd), (wi_rm116_1_1700_1 rm cy J58_a3), (wi_rm51_0_3200_0 rm cy g_codes), (wi_rm46_0_48_0 rm cy g_walkers), (wi_rm56_0_9_0 rm cy g_now), (wi_rm43_0_8_0 rm cy g_bar), (wi_rm65_0_12_0 rm cy J58_a8), (wi_rm44_0_24_0 rm cy g_kinds), (wi_rm61_0_300_0 rm cy J21_a10), (wi_rm66_3_12_0 rm cy J58_a11), (wi_rm67_3_12_0 rm cy J58_a12), (wi_rm60_3_320_0 rm cy J21_a13), (wi_rm63_3_12_0 rm cy J58_a14), (wi_rm64_0_12_0 rm cy J58_a15), (wi_rm68_3_12_0 rm cy J58_a16), (wi_rm69_3_300_0 rm cy J58_a17), (wi_rm41_0_4_0 rm cy g_many), (wi_rm62_3_300_0 rm cy J58_a19), (wi_rm76_0_32_0 rm cy g_rows), (wi_rm77_0_720_0 rm cy J58_a21)] H := hP
                        replace hD := k_D hP hD
                        refine lv_aload_n hx hb dX10_laysFits_112 rfl (lv_at hl 0 rfl) ?_
                        refine k_get C0 fg_X10_576 hP 0 rfl rfl dX10_laysFits_113 ?_
                        refine lv_iconst (v := (-1)) hx hb dX10_laysFits_116 rfl ?_
                        refine lv_icmp_ne (tgt := 125) hx hb dX10_laysFits_117 rfl (fun c14 => ?_) (fun c14 => ?_)
                        · replace hq := lf_neg hq (lf_ne (lf_rf J33_c0_80) (lf_lc (-1) (-1 : Int) rfl) c14)
                          have h15 : ib J33_c0_80 0 20 := ib_w 0 20 (ib_ne_lo (-1) hK58_J33_c0_80 rfl c14) rfl
                          exact jn125 J58_c0_55 J58_c0_58 J58_c0_59 J58_c0_70 J58_c0_71 J58_c0_72 J58_c0_73 J58_c0_74 J58_c0_117 J58_a3 J58_a8 J58_a11 J58_a12 J58_a14 J58_a15 J58_a16 J58_a17 J58_a19 z8 z13 J58_a21 J33_c0_80 H locs ls (ib_w 1 20 hK58_J21_l1 rfl) (ib_w 0 2 hK58_J33_l2 rfl) (ib_w 0 1 hJ58_c0_70 rfl) (ib_w 0 1 hJ58_c0_73 rfl) (ib_w 0 1700 hJ58_c0_117 rfl) (ib_w 0 60 h10 rfl) (ib_w (-1) 20 h15 rfl) (by have := hJ33_lin0; have := h9.2; have : (1 : Int32).toInt = 1 := rfl; omega) (by rw [lf_u Ez8]; rw [lf_u Ez13]; exact hq) hP hD hS (lv_sub hl [0, 1, 2] rfl)
                        · replace hq := lf_pos hq (lf_eq (lf_rf J33_c0_80) (lf_lc (-1) (-1 : Int) rfl) c14)
                          have h16 := ib_eq hK58_J33_c0_80 (ib_c (-1) (-1) (-1) rfl) c14
                          have h17 : ib J33_c0_80 (-1) (-1) := ib_w (-1) (-1) h16.1 rfl
                          refine lv_aload_n hx hb dX10_laysFits_120 rfl (lv_at hl 0 rfl) ?_
                          refine lv_iload_n hx hb dX10_laysFits_121 rfl (lv_at hl 1 rfl) ?_
                          refine k_put C0 fp_X10_576 hP hD hS 0 rfl rfl rfl (Nat.le_of_ble_eq_true rfl) dX10_laysFits_122 (fun H locs hP hD hS => ?_)
                          replace hP : va_P (dC, dI) vwCl [(a_this, .inr (10, mfs rm x_taped x_at x_end x_ended x_bad x_badPlace x_fault x_faultPlace x_namePlace x_awayTold x_away x_coded x_statements x_isCrossing J58_c0_55 J58_c0_58 J58_c0_59 J58_c0_70 J58_c0_71 J58_c0_72 J58_c0_73 J58_c0_74 x_rowMany z8 z13 J21_l1 x_undoable x_newest x_seeded x_qCoded x_qWaits x_qOpened x_qBase J58_c0_117 x_qAnswer x_qIsNew x_octets)), (wi_rm49_0_6_0 rm cy g_codeFrom), (wi_rm50_0_6_0 rm cy g_codeEnd), (wi_rm116_1_1700_1 rm cy J58_a3), (wi_rm51_0_3200_0 rm cy g_codes), (wi_rm46_0_48_0 rm cy g_walkers), (wi_rm56_0_9_0 rm cy g_now), (wi_rm43_0_8_0 rm cy g_bar), (wi_rm65_0_12_0 rm cy J58_a8), (wi_rm44_0_24_0 rm cy g_kinds), (wi_rm61_0_300_0 rm cy J21_a10), (wi_rm66_3_12_0 rm cy J58_a11), (wi_rm67_3_12_0 rm cy J58_a12), (wi_rm60_3_320_0 rm cy J21_a13), (wi_rm63_3_12_0 rm cy J58_a14), (wi_rm64_0_12_0 rm cy J58_a15), (wi_rm68_3_12_0 rm cy J58_a16), (wi_rm69_3_300_0 rm cy J58_a17), (wi_rm41_0_4_0 rm cy g_many), (wi_rm62_3_300_0 rm cy J58_a19), (wi_rm76_0_32_0 rm cy g_rows), (wi_rm77_0_720_0 rm cy J58_a21)] H := hP
                          replace hD := k_D hP hD
                          exact jn125 J58_c0_55 J58_c0_58 J58_c0_59 J58_c0_70 J58_c0_71 J58_c0_72 J58_c0_73 J58_c0_74 J58_c0_117 J58_a3 J58_a8 J58_a11 J58_a12 J58_a14 J58_a15 J58_a16 J58_a17 J58_a19 z8 z13 J58_a21 J21_l1 H locs ls (ib_w 1 20 hK58_J21_l1 rfl) (ib_w 0 2 hK58_J33_l2 rfl) (ib_w 0 1 hJ58_c0_70 rfl) (ib_w 0 1 hJ58_c0_73 rfl) (ib_w 0 1700 hJ58_c0_117 rfl) (ib_w 0 60 h10 rfl) (ib_w (-1) 20 hK58_J21_l1 rfl) (by have := hJ33_lin0; have := h9.2; have : (1 : Int32).toInt = 1 := rfl; omega) (by rw [lf_u Ez8]; rw [lf_u Ez13]; exact hq) hP hD hS (lv_sub hl [0, 1, 2] rfl)
                    · as_aux_lemma =>
                        replace hq := lf_neg hq (lf_nle (lf_lc 12 (12 : Int) rfl) (lf_rf J58_l3) c4)
                        have h18 := ib_nle (ib_c 12 12 12 rfl) hJ58_l3 c4
                        have h19 : ib J58_l3 0 11 := ib_w 0 11 h18.2 rfl
                        have h20 : ib J21_c0_78 0 57 := ⟨(hJ21_c0_78).1, by have := (hJ21_c0_78).2; have := hJ21_lin0; have := (hK58_J21_l1).2; omega⟩
                        refine lv_aload_n hx hb dX10_laysFits_64 rfl (lv_at hl 0 rfl) ?_
                        refine k_get C0 fg_X10_179 hP 0 rfl rfl dX10_laysFits_65 ?_
                        refine lv_bipush (v := 12) hx hb dX10_laysFits_68 rfl ?_
                        refine lv_aload_n hx hb dX10_laysFits_70 rfl (lv_at hl 0 rfl) ?_
                        refine k_get C0 fg_X10_570 hP 0 rfl rfl dX10_laysFits_71 ?_
                        refine lv_imul hx hb dX10_laysFits_74 ?_
                        refine lv_topi (fun z21 ez21 => ?_)
                        have h22 := ib_mul (ib_c 12 12 12 rfl) hK58_J33_c0_78 rfl
                        rw [← ez21] at h22
                        have h23 : ib z21 0 708 := ib_w 0 708 h22.1 rfl
                        have h24 : z21.toInt = 12 * J33_c0_78.toInt := by have q0 := h22.2; rw [show (12 : Int32).toInt = 12 from by decide] at q0; omega
                        have Ez21 := lf_mul h22.2 (lf_lc 12 (12 : Int) rfl) (lf_rf J33_c0_78)
                        refine lv_iload_n hx hb dX10_laysFits_75 rfl (lv_at hl 3 rfl) ?_
                        refine lv_iadd hx hb dX10_laysFits_76 ?_
                        refine lv_topi (fun z25 ez25 => ?_)
                        have h26 := ib_add h23 h19 rfl
                        rw [← ez25] at h26
                        have h27 : ib z25 0 719 := ib_w 0 719 h26.1 rfl
                        have Ez25 := lf_add h26.2 Ez21 (lf_rf J58_l3)
                        refine lv_aload_n hx hb dX10_laysFits_77 rfl (lv_at hl 0 rfl) ?_
                        refine k_get C0 fg_X10_158 hP 0 rfl rfl dX10_laysFits_78 ?_
                        refine lv_iload_n hx hb dX10_laysFits_81 rfl (lv_at hl 3 rfl) ?_
                        refine va_iald hx hb C0.2.2.2.2.2.1 hP 15 0 rfl rfl (ib_in 12 h19 rfl) dX10_laysFits_82 ?_
                        refine lv_topi (fun z28 ez28 => ?_)
                        have Ez28 := lf_ld ez28 (lf_ra J58_a15) (lf_rf J58_l3)
                        refine va_iast hx hb C0.2.2.2.2.2.1 hP hD hS 21 0 rfl rfl (ib_in 720 h27 rfl) dX10_laysFits_83 (fun H locs hP hD hS => ?_)
                        replace hP : va_P (dC, dI) vwCl [(a_this, .inr (10, mfs rm x_taped x_at x_end x_ended x_bad x_badPlace x_fault x_faultPlace x_namePlace x_awayTold x_away x_coded x_statements x_isCrossing J58_c0_55 J58_c0_58 J58_c0_59 J58_c0_70 J58_c0_71 J58_c0_72 J58_c0_73 J58_c0_74 x_rowMany J33_c0_78 J33_c0_79 J33_c0_80 x_undoable x_newest x_seeded x_qCoded x_qWaits x_qOpened x_qBase J58_c0_117 x_qAnswer x_qIsNew x_octets)), (wi_rm49_0_6_0 rm cy g_codeFrom), (wi_rm50_0_6_0 rm cy g_codeEnd), (wi_rm116_1_1700_1 rm cy J58_a3), (wi_rm51_0_3200_0 rm cy g_codes), (wi_rm46_0_48_0 rm cy g_walkers), (wi_rm56_0_9_0 rm cy g_now), (wi_rm43_0_8_0 rm cy g_bar), (wi_rm65_0_12_0 rm cy J58_a8), (wi_rm44_0_24_0 rm cy g_kinds), (wi_rm61_0_300_0 rm cy J21_a10), (wi_rm66_3_12_0 rm cy J58_a11), (wi_rm67_3_12_0 rm cy J58_a12), (wi_rm60_3_320_0 rm cy J21_a13), (wi_rm63_3_12_0 rm cy J58_a14), (wi_rm64_0_12_0 rm cy J58_a15), (wi_rm68_3_12_0 rm cy J58_a16), (wi_rm69_3_300_0 rm cy J58_a17), (wi_rm41_0_4_0 rm cy g_many), (wi_rm62_3_300_0 rm cy J58_a19), (wi_rm76_0_32_0 rm cy g_rows), (wi_rm77_0_720_0 rm cy (upd J58_a21 (Int32.toNatClampNeg z25) z28))] H := hP
                        replace hD := k_D hP hD
                        generalize ef29 : upd J58_a21 (Int32.toNatClampNeg z25) z28 = f29 at hP hD
                        have Ef29 := lf_st ef29 (lf_ra J58_a21) Ez25 Ez28
                        obtain ⟨z30, ez30⟩ : ∃ y : Int32, y = J58_l3 + 1 := ⟨_, rfl⟩
                        refine lv_iinc (v := z30) (lv' := [(3, .int z30), (0, .ref a_this), (1, .int J21_l1), (2, .int J33_l2)]) hx hb dX10_laysFits_84 hl (k := 3) rfl (by rw [ez30]; rfl) (Nat.le_of_ble_eq_true rfl) rfl (fun ls hl => ?_)
                        have h31 := ib_add h19 (ib_c 1 1 1 rfl) rfl
                        rw [← ez30] at h31
                        have h32 : ib z30 1 12 := ib_w 1 12 h31.1 rfl
                        have Ez30 := lf_add h31.2 (lf_rf J58_l3) (lf_lc 1 (1 : Int) rfl)
                        refine lv_goto (tgt := 58) hx hb dX10_laysFits_87 rfl ?_
                        exact ih58 J58_c0_55 J58_c0_58 J58_c0_59 J58_c0_70 J58_c0_71 J58_c0_72 J58_c0_73 J58_c0_74 J58_c0_117 J58_a3 J58_a8 J58_a11 J58_a12 J58_a14 J58_a15 J58_a16 J58_a17 J58_a19 z30 f29 H locs ls (ib_w 1 20 hK58_J21_l1 rfl) (ib_w 0 2 hK58_J33_l2 rfl) (ib_w 0 1 hJ58_c0_70 rfl) (ib_w 0 1 hJ58_c0_73 rfl) (ib_w 0 59 hK58_J33_c0_78 rfl) (ib_w (-1) 20 hK58_J33_c0_80 rfl) (ib_w 0 1700 hJ58_c0_117 rfl) (ib_w 0 12 h32 rfl) (by rw [← hK58]; rw [lf_u Ez30]; rw [lf_ua Ef29]; exact hq) (by have := h31.2; have : (1 : Int32).toInt = 1 := rfl; omega) hP hD hS (lv_sub hl [1, 2, 3, 0] rfl)
              refine lv_iload_n hx hb dX10_laysFits_33 rfl (lv_at hl 2 rfl) ?_
              refine lv_iconst (v := 3) hx hb dX10_laysFits_34 rfl ?_
              refine lv_icmp_ge (tgt := 131) hx hb dX10_laysFits_35 rfl (fun c33 => ?_) (fun c33 => ?_)
              · replace hq := lf_pos hq (lf_le (lf_lc 3 (3 : Int) rfl) (lf_rf J33_l2) c33)
                have h34 := ib_le (ib_c 3 3 3 rfl) hJ33_l2 c33
                have h35 : ib J33_l2 3 3 := ib_w 3 3 h34.2 rfl
                have h36 : ib J21_c0_78 0 57 := ⟨(hJ21_c0_78).1, by have := (hJ21_c0_78).2; have := hJ21_lin0; have := (hK33_J21_l1).2; omega⟩
                obtain ⟨z37, ez37⟩ : ∃ y : Int32, y = J21_l1 + 1 := ⟨_, rfl⟩
                refine lv_iinc (v := z37) (lv' := [(1, .int z37), (0, .ref a_this), (2, .int J33_l2)]) hx hb dX10_laysFits_131 hl (k := 1) rfl (by rw [ez37]; rfl) (Nat.le_of_ble_eq_true rfl) rfl (fun ls hl => ?_)
                have h38 := ib_add hK33_J21_l1 (ib_c 1 1 1 rfl) rfl
                rw [← ez37] at h38
                have h39 : ib z37 2 21 := ib_w 2 21 h38.1 rfl
                have Ez37 := lf_add h38.2 (lf_rf J21_l1) (lf_lc 1 (1 : Int) rfl)
                refine lv_goto (tgt := 21) hx hb dX10_laysFits_134 rfl ?_
                exact ih21 J33_c0_55 J33_c0_58 J33_c0_117 J33_a3 J21_a10 J21_a13 z37 J33_c0_59 J33_c0_70 J33_c0_71 J33_c0_72 J33_c0_73 J33_c0_74 J33_c0_78 J33_c0_79 J33_c0_80 J33_a8 J33_a11 J33_a12 J33_a14 J33_a15 J33_a16 J33_a17 J33_a19 J33_a21 H locs ls (ib_w 0 1700 hJ33_c0_117 rfl) (ib_w 1 21 h39 rfl) (ib_w 0 1 hJ33_c0_70 rfl) (ib_w 0 1 hJ33_c0_73 rfl) (ib_w 0 60 hJ33_c0_78 rfl) (ib_w (-1) 20 hJ33_c0_80 rfl) hJ21_a10 (by have := (h39).1; have := h38.2; have : (1 : Int32).toInt = 1 := rfl; have := hJ33_lin0; have := (h35).2; have := (hJ33_c0_78).2; omega) (by rw [← hK21]; rw [lf_u Ez37]; exact hq) (by have := h38.2; have : (1 : Int32).toInt = 1 := rfl; omega) hP hD hS (lv_sub hl [1, 0] rfl)
              · as_aux_lemma =>
                  replace hq := lf_neg hq (lf_nle (lf_lc 3 (3 : Int) rfl) (lf_rf J33_l2) c33)
                  have h40 := ib_nle (ib_c 3 3 3 rfl) hJ33_l2 c33
                  have h41 : ib J33_l2 0 2 := ib_w 0 2 h40.2 rfl
                  have h42 : ib J21_c0_78 0 57 := ⟨(hJ21_c0_78).1, by have := (hJ21_c0_78).2; have := hJ21_lin0; have := (hK33_J21_l1).2; omega⟩
                  have h43 : ib J33_c0_78 0 59 := ⟨(hJ33_c0_78).1, by have := (hJ33_c0_78).2; have := hJ33_lin0; have := (h41).2; have := (hK33_J21_l1).2; omega⟩
                  refine lv_aload_n hx hb dX10_laysFits_38 rfl (lv_at hl 0 rfl) ?_
                  refine lv_iload_n hx hb dX10_laysFits_39 rfl (lv_at hl 2 rfl) ?_
                  refine lv_iload_n hx hb dX10_laysFits_40 rfl (lv_at hl 1 rfl) ?_
                  refine lv_iconst (v := 0) hx hb dX10_laysFits_41 rfl ?_
                  refine lv_iconst (v := 0) hx hb dX10_laysFits_42 rfl ?_
                  refine k_jvm hP hD hS hA [0, 14, 15, 8, 11, 12, 16, 17, 18, 5, 6, 19, 7, 9, 1, 2, 3, 4, 10] [false, false, false, false, false, false, false, false, false, false, false, false, false, true, false, false, false, false, false, false, true, true] rfl rfl (by decide +kernel) 0 0 (Nat.le_of_ble_eq_true rfl) (Nat.le_of_ble_eq_true rfl) (fun hPc hDc => k_runV (As := [.int J33_l2, .int J21_l1, .int 0, .int 0]) (rest := []) C0 hZ hS hA (s_X10_dayBy l dC dI cy sq a_this rm x_taped x_at x_end x_ended x_bad x_badPlace x_fault x_faultPlace x_namePlace x_awayTold x_away x_coded x_statements x_isCrossing J33_c0_55 J33_c0_58 J33_c0_59 J33_c0_70 J33_c0_71 J33_c0_72 J33_c0_73 J33_c0_74 x_rowMany J33_c0_78 J33_c0_79 J33_c0_80 x_undoable x_newest x_seeded x_qCoded x_qWaits x_qOpened x_qBase J33_c0_117 x_qAnswer x_qIsNew x_octets g_many g_bar g_kinds g_walkers g_codeFrom g_codeEnd g_codes g_now J21_a10 J33_a19 J33_a14 J33_a15 J33_a8 J33_a11 J33_a12 J33_a16 J33_a17 J33_a3 J33_l2 J21_l1 0 0 (ib_w 0 1700 hJ33_c0_117 rfl) (ib_w 0 12 hg_many_3 rfl) (ib_w 10 120 hg_bar_4 rfl) hpg_walkers (ib_w (-1) 1600 hg_codeFrom_4 rfl) (ib_w 0 1600 hg_codeEnd_4 rfl) hJ21_a10 hG1) mV_X10_504 hPc hDc rfl rfl rfl hl rfl rfl (Nat.le_of_ble_eq_true rfl) ⟨(Nat.le_of_ble_eq_true rfl), (Nat.le_of_ble_eq_true rfl)⟩ ⟨(Nat.le_of_ble_eq_true rfl), (Nat.le_of_ble_eq_true rfl)⟩ dX10_laysFits_43) (fun u45 H locs hw hP hD hS => ?_)
                  obtain ⟨v46, v47, v48, v49, v50, v51, v52, v53, v54, f55, f56, f57, f58, f59, f60, f61, f62, f63⟩ := u45
                  try dsimp only at hP hD hw
                  replace hP : va_P (dC, dI) vwCl [(wi_rm60_3_320_0 rm cy J21_a13), (wi_rm76_0_32_0 rm cy g_rows), (wi_rm77_0_720_0 rm cy J33_a21), (a_this, .inr (10, mfs rm x_taped x_at x_end x_ended x_bad x_badPlace x_fault x_faultPlace x_namePlace x_awayTold x_away x_coded x_statements x_isCrossing v46 v47 v48 v49 v50 v51 v52 v53 x_rowMany J33_c0_78 J33_c0_79 J33_c0_80 x_undoable x_newest x_seeded x_qCoded x_qWaits x_qOpened x_qBase v54 x_qAnswer x_qIsNew x_octets)), (wi_rm63_3_12_0 rm cy f55), (wi_rm64_0_12_0 rm cy f56), (wi_rm65_0_12_0 rm cy f57), (wi_rm66_3_12_0 rm cy f58), (wi_rm67_3_12_0 rm cy f59), (wi_rm68_3_12_0 rm cy f60), (wi_rm69_3_300_0 rm cy f61), (wi_rm41_0_4_0 rm cy g_many), (wi_rm46_0_48_0 rm cy g_walkers), (wi_rm56_0_9_0 rm cy g_now), (wi_rm62_3_300_0 rm cy f62), (wi_rm43_0_8_0 rm cy g_bar), (wi_rm44_0_24_0 rm cy g_kinds), (wi_rm49_0_6_0 rm cy g_codeFrom), (wi_rm50_0_6_0 rm cy g_codeEnd), (wi_rm116_1_1700_1 rm cy f63), (wi_rm51_0_3200_0 rm cy g_codes), (wi_rm61_0_300_0 rm cy J21_a10)] H := hP
                  replace hD := k_D hP hD
                  obtain ⟨h64, h65, h66, h67⟩ := hw
                  have h67 := by have h9 := h67; try simp only [show (0 : Int32).toInt = (0 : Int) from rfl] at h9; exact h9
                  replace hq := lf_p1 hq h67
                  replace hq := lf_p1 hq rfl
                  replace hq := lf_p1 hq rfl
                  replace hq := lf_p1 hq rfl
                  replace hq := lf_p1 hq rfl
                  replace hq := lf_p1 hq rfl
                  replace hq := lf_p1 hq rfl
                  replace hq := lf_p1 hq rfl
                  replace hq := lf_p1 hq rfl
                  replace hq := lf_p1 hq rfl
                  replace hq := lf_p1 hq rfl
                  replace hq := lf_p1 hq rfl
                  replace hq := lf_p1 hq rfl
                  as_aux_lemma =>
                    replace hq := lf_p1 hq rfl
                    replace hq := lf_p1 hq rfl
                    replace hq := lf_p1 hq rfl
                    replace hq := lf_p1 hq rfl
                    refine lv_aload_n hx hb dX10_laysFits_46 rfl (lv_at hl 0 rfl) ?_
                    refine k_jim hP hD hS hA [3, 1, 5] [true, false, true, false, true, false, true, true, true, true, true, true, true, true, true, true, true, true, true, true, true, true] rfl rfl (by decide +kernel) 0 0 (Nat.le_of_ble_eq_true rfl) (Nat.le_of_ble_eq_true rfl) (fun hPc hDc => k_runV (As := []) (rest := []) C0 hZ hS hA (s_X10_isAsSeen l dC dI cy sq a_this rm x_taped x_at x_end x_ended x_bad x_badPlace x_fault x_faultPlace x_namePlace x_awayTold x_away x_coded x_statements x_isCrossing v46 v47 v48 v49 v50 v51 v52 v53 x_rowMany J33_c0_78 J33_c0_79 J33_c0_80 x_undoable x_newest x_seeded x_qCoded x_qWaits x_qOpened x_qBase v54 x_qAnswer x_qIsNew x_octets f56 g_rows (ib_w 0 16 hx_rowMany rfl) hpg_rows) mV_X10_579 hPc hDc rfl rfl rfl hl rfl rfl (Nat.le_of_ble_eq_true rfl) ⟨(Nat.le_of_ble_eq_true rfl), (Nat.le_of_ble_eq_true rfl)⟩ ⟨(Nat.le_of_ble_eq_true rfl), (Nat.le_of_ble_eq_true rfl)⟩ dX10_laysFits_47) (fun r68 u69 H locs hw hP hD hS => ?_)
                    try dsimp only at hP hD hw
                    replace hP : va_P (dC, dI) vwCl [(wi_rm60_3_320_0 rm cy J21_a13), (wi_rm77_0_720_0 rm cy J33_a21), (wi_rm63_3_12_0 rm cy f55), (wi_rm65_0_12_0 rm cy f57), (wi_rm66_3_12_0 rm cy f58), (wi_rm67_3_12_0 rm cy f59), (wi_rm68_3_12_0 rm cy f60), (wi_rm69_3_300_0 rm cy f61), (wi_rm41_0_4_0 rm cy g_many), (wi_rm46_0_48_0 rm cy g_walkers), (wi_rm56_0_9_0 rm cy g_now), (wi_rm62_3_300_0 rm cy f62), (wi_rm43_0_8_0 rm cy g_bar), (wi_rm44_0_24_0 rm cy g_kinds), (wi_rm49_0_6_0 rm cy g_codeFrom), (wi_rm50_0_6_0 rm cy g_codeEnd), (wi_rm116_1_1700_1 rm cy f63), (wi_rm51_0_3200_0 rm cy g_codes), (wi_rm61_0_300_0 rm cy J21_a10), (a_this, .inr (10, mfs rm x_taped x_at x_end x_ended x_bad x_badPlace x_fault x_faultPlace x_namePlace x_awayTold x_away x_coded x_statements x_isCrossing v46 v47 v48 v49 v50 v51 v52 v53 x_rowMany J33_c0_78 J33_c0_79 J33_c0_80 x_undoable x_newest x_seeded x_qCoded x_qWaits x_qOpened x_qBase v54 x_qAnswer x_qIsNew x_octets)), (wi_rm76_0_32_0 rm cy g_rows), (wi_rm64_0_12_0 rm cy f56)] H := hP
                    replace hD := k_D hP hD
                    obtain ⟨h70, h71⟩ := hw
                    replace hq := lf_b1 hq h71
                    refine lv_if_ne (tgt := 56) hx hb dX10_laysFits_50 rfl (fun c72 => ?_) (fun c72 => ?_)
                    · replace hq := lf_neg hq (lf_ne (lf_rf r68) (lf_lc 0 (0 : Int) rfl) c72)
                      have h73 : ib r68 1 1 := ib_w 1 1 (ib_ne_lo 0 h70 rfl c72) rfl
                      refine lv_iconst (v := 0) hx hb dX10_laysFits_56 rfl ?_
                      refine lv_istore_n (lv' := [(3, .int 0), (0, .ref a_this), (1, .int J21_l1), (2, .int J33_l2)]) hx hb dX10_laysFits_57 rfl hl (Nat.le_of_ble_eq_true rfl) rfl (fun ls hl => ?_)
                      exact jn58 14 v46 v47 v48 v49 v50 v51 v52 v53 v54 f63 f57 f58 f59 f55 f56 f60 f61 f62 0 J33_a21 H locs ls (ib_w 1 20 hK33_J21_l1 rfl) (ib_w 0 2 h41 rfl) (ib_w 0 1 h64 rfl) (ib_w 0 1 h65 rfl) (ib_w 0 59 h43 rfl) (ib_w (-1) 20 hJ33_c0_80 rfl) (ib_w 0 1700 h66 rfl) (ib_w 0 12 (ib_c 0 0 0 rfl) rfl) (by try simp only [show (0 : Int32).toInt = (0 : Int) from rfl]; exact hq) (by have := (ib_c 0 0 0 rfl); unfold ib at this; omega) (hP.sub [19, 14, 15, 16, 17, 9, 10, 12, 3, 13, 18, 4, 5, 0, 2, 21, 6, 7, 8, 11, 20, 1] rfl) (hD.sub [19, 14, 15, 16, 17, 9, 10, 12, 3, 13, 18, 4, 5, 0, 2, 21, 6, 7, 8, 11, 20, 1] (by decide +kernel) rfl) hS (lv_sub hl [1, 2, 3, 0] rfl)
                    · replace hq := lf_pos hq (lf_eq (lf_rf r68) (lf_lc 0 (0 : Int) rfl) c72)
                      have h74 := ib_eq h70 (ib_c 0 0 0 rfl) c72
                      have h75 : ib r68 0 0 := ib_w 0 0 h74.1 rfl
                      refine lv_goto (tgt := 125) hx hb dX10_laysFits_53 rfl ?_
                      exact jn125 v46 v47 v48 v49 v50 v51 v52 v53 v54 f63 f57 f58 f59 f55 f56 f60 f61 f62 J33_c0_78 J33_c0_79 J33_a21 J33_c0_80 H locs ls (ib_w 1 20 hK33_J21_l1 rfl) (ib_w 0 2 h41 rfl) (ib_w 0 1 h64 rfl) (ib_w 0 1 h65 rfl) (ib_w 0 1700 h66 rfl) (ib_w 0 60 h43 rfl) (ib_w (-1) 20 hJ33_c0_80 rfl) (by have := hJ33_lin0; omega) (by exact hq) (hP.sub [19, 14, 15, 16, 17, 9, 10, 12, 3, 13, 18, 4, 5, 0, 2, 21, 6, 7, 8, 11, 20, 1] rfl) (hD.sub [19, 14, 15, 16, 17, 9, 10, 12, 3, 13, 18, 4, 5, 0, 2, 21, 6, 7, 8, 11, 20, 1] (by decide +kernel) rfl) hS (lv_sub hl [0, 1, 2] rfl)
        refine lv_aload_n hx hb dX10_laysFits_21 rfl (lv_at hl 0 rfl) ?_
        refine lv_iload_n hx hb dX10_laysFits_22 rfl (lv_at hl 1 rfl) ?_
        refine lv_bipush (v := 20) hx hb dX10_laysFits_23 rfl ?_
        refine k_jim hP hD hS hA [0, 7] [false, true, true, true, true, true, true, false, true, true, true, true, true, true, true, true, true, true, true, true, true, true] rfl rfl (by decide +kernel) 0 0 (Nat.le_of_ble_eq_true rfl) (Nat.le_of_ble_eq_true rfl) (fun hPc hDc => k_runV (As := [.int J21_l1, .int 20]) (rest := []) C0 hZ hS hA (s_X10_isGreenLong_a1_20 l dC dI cy sq a_this rm x_taped x_at x_end x_ended x_bad x_badPlace x_fault x_faultPlace x_namePlace x_awayTold x_away x_coded x_statements x_isCrossing J21_c0_55 J21_c0_58 J21_c0_59 J21_c0_70 J21_c0_71 J21_c0_72 J21_c0_73 J21_c0_74 x_rowMany J21_c0_78 J21_c0_79 J21_c0_80 x_undoable x_newest x_seeded x_qCoded x_qWaits x_qOpened x_qBase J21_c0_117 x_qAnswer x_qIsNew x_octets g_bar J21_l1 (ib_w 0 120 hg_bar_4 rfl)) mV_X10_548 hPc hDc rfl rfl rfl hl rfl rfl (Nat.le_of_ble_eq_true rfl) ⟨(Nat.le_of_ble_eq_true rfl), (Nat.le_of_ble_eq_true rfl)⟩ ⟨(Nat.le_of_ble_eq_true rfl), (Nat.le_of_ble_eq_true rfl)⟩ dX10_laysFits_25) (fun r76 u77 H locs hw hP hD hS => ?_)
        try dsimp only at hP hD hw
        replace hP : va_P (dC, dI) vwCl [(wi_rm49_0_6_0 rm cy g_codeFrom), (wi_rm50_0_6_0 rm cy g_codeEnd), (wi_rm116_1_1700_1 rm cy J21_a3), (wi_rm51_0_3200_0 rm cy g_codes), (wi_rm46_0_48_0 rm cy g_walkers), (wi_rm56_0_9_0 rm cy g_now), (wi_rm65_0_12_0 rm cy J21_a8), (wi_rm44_0_24_0 rm cy g_kinds), (wi_rm61_0_300_0 rm cy J21_a10), (wi_rm66_3_12_0 rm cy J21_a11), (wi_rm67_3_12_0 rm cy J21_a12), (wi_rm60_3_320_0 rm cy J21_a13), (wi_rm63_3_12_0 rm cy J21_a14), (wi_rm64_0_12_0 rm cy J21_a15), (wi_rm68_3_12_0 rm cy J21_a16), (wi_rm69_3_300_0 rm cy J21_a17), (wi_rm41_0_4_0 rm cy g_many), (wi_rm62_3_300_0 rm cy J21_a19), (wi_rm76_0_32_0 rm cy g_rows), (wi_rm77_0_720_0 rm cy J21_a21), (a_this, .inr (10, mfs rm x_taped x_at x_end x_ended x_bad x_badPlace x_fault x_faultPlace x_namePlace x_awayTold x_away x_coded x_statements x_isCrossing J21_c0_55 J21_c0_58 J21_c0_59 J21_c0_70 J21_c0_71 J21_c0_72 J21_c0_73 J21_c0_74 x_rowMany J21_c0_78 J21_c0_79 J21_c0_80 x_undoable x_newest x_seeded x_qCoded x_qWaits x_qOpened x_qBase J21_c0_117 x_qAnswer x_qIsNew x_octets)), (wi_rm43_0_8_0 rm cy g_bar)] H := hP
        replace hD := k_D hP hD
        obtain ⟨h78, h79, h80, h81⟩ := hw
        replace hq := lf_b1 hq h81
        refine lv_if_eq (tgt := 137) hx hb dX10_laysFits_28 rfl (fun c82 => ?_) (fun c82 => ?_)
        · replace hq := lf_pos hq (lf_eq (lf_rf r76) (lf_lc 0 (0 : Int) rfl) c82)
          have h83 := ib_eq h78 (ib_c 0 0 0 rfl) c82
          have h84 : ib r76 0 0 := ib_w 0 0 h83.1 rfl
          subst hQ; exact k_vret hx hb hr hlk ((J21_c0_55, J21_c0_58, J21_c0_59, J21_c0_70, J21_c0_71, J21_c0_72, J21_c0_73, J21_c0_74, J21_c0_78, J21_c0_79, J21_c0_80, J21_c0_117, J21_a3, J21_a8, J21_a10, J21_a11, J21_a12, J21_a13, J21_a14, J21_a15, J21_a16, J21_a17, J21_a19, J21_a21)) hS ⟨ib_w 0 1 hJ21_c0_70 rfl, ib_w 0 1 hJ21_c0_73 rfl, ib_w 0 60 hJ21_c0_78 rfl, ib_w (-1) 20 hJ21_c0_80 rfl, ib_w 0 1700 hJ21_c0_117 rfl, hJ21_a10, (hO.symm.trans (by exact hq))⟩ (hP.sub [20, 0, 1, 2, 3, 4, 5, 21, 6, 7, 8, 9, 10, 11, 12, 13, 14, 15, 16, 17, 18, 19] rfl) (hD.sub [20, 0, 1, 2, 3, 4, 5, 21, 6, 7, 8, 9, 10, 11, 12, 13, 14, 15, 16, 17, 18, 19] (by decide +kernel) rfl) (Nat.le_of_ble_eq_true rfl) (Nat.le_of_ble_eq_true rfl) dX10_laysFits_137
        · replace hq := lf_neg hq (lf_ne (lf_rf r76) (lf_lc 0 (0 : Int) rfl) c82)
          have h85 : ib r76 1 1 := ib_w 1 1 (ib_ne_lo 0 h78 rfl c82) rfl
          have h86 : ib J21_l1 1 20 := ib_w 1 20 (ib_two hJ21_l1 (h80 (ib_nz h85 rfl))) rfl
          have h87 : ib J21_c0_78 0 57 := ⟨(hJ21_c0_78).1, by have := (hJ21_c0_78).2; have := hJ21_lin0; have := (h86).2; omega⟩
          refine lv_iconst (v := 0) hx hb dX10_laysFits_31 rfl ?_
          refine lv_istore_n (lv' := [(2, .int 0), (0, .ref a_this), (1, .int J21_l1)]) hx hb dX10_laysFits_32 rfl hl (Nat.le_of_ble_eq_true rfl) rfl (fun ls hl => ?_)
          exact jn33 5 0 J21_c0_55 J21_c0_58 J21_c0_59 J21_c0_70 J21_c0_71 J21_c0_72 J21_c0_73 J21_c0_74 J21_c0_78 J21_c0_79 J21_c0_80 J21_c0_117 J21_a3 J21_a8 J21_a11 J21_a12 J21_a14 J21_a15 J21_a16 J21_a17 J21_a19 J21_a21 H locs ls (ib_w 1 20 h86 rfl) (ib_w 0 3 (ib_c 0 0 0 rfl) rfl) (ib_w 0 1 hJ21_c0_70 rfl) (ib_w 0 1 hJ21_c0_73 rfl) (ib_w 0 60 h87 rfl) (ib_w (-1) 20 hJ21_c0_80 rfl) (ib_w 0 1700 hJ21_c0_117 rfl) (by have : (0 : Int32).toInt = 0 := rfl; have := hJ21_lin0; omega) (by try simp only [show (0 : Int32).toInt = (0 : Int) from rfl]; exact hq) (by have := (ib_c 0 0 0 rfl); unfold ib at this; omega) (hP.sub [20, 0, 1, 2, 3, 4, 5, 21, 6, 7, 8, 9, 10, 11, 12, 13, 14, 15, 16, 17, 18, 19] rfl) (hD.sub [20, 0, 1, 2, 3, 4, 5, 21, 6, 7, 8, 9, 10, 11, 12, 13, 14, 15, 16, 17, 18, 19] (by decide +kernel) rfl) hS (lv_sub hl [1, 2, 0] rfl)
  refine lv_aload_n hx hb dX10_laysFits_0 rfl (lv_at hl 0 rfl) ?_
  refine k_jvm hP hD hS hA [0, 1, 2, 3, 4, 5, 6, 7, 8, 9, 10, 11, 12, 13] [false, false, false, false, false, false, false, false, false, false, false, false, false, false, true, true, true, true, true, true, true, true] rfl rfl (by decide +kernel) 0 0 (Nat.le_of_ble_eq_true rfl) (Nat.le_of_ble_eq_true rfl) (fun hPc hDc => k_runV (As := []) (rest := []) C0 hZ hS hA (s_X10_laysCars l dC dI cy sq a_this rm x_taped x_at x_end x_ended x_bad x_badPlace x_fault x_faultPlace x_namePlace x_awayTold x_away x_coded x_statements x_isCrossing x_textKind x_askSecond x_redMany x_isOpen x_lastGreen x_greenTo x_isCycleGreen x_stillGreen x_rowMany x_fitMany x_fitRules x_fitGreen x_undoable x_newest x_seeded x_qCoded x_qWaits x_qOpened x_qBase x_qPiled x_qAnswer x_qIsNew x_octets g_bar g_kinds g_walkers g_codeFrom g_codeEnd g_codes g_now g_isCar g_gaps g_waits g_goes g_harms g_qPile (ib_w 0 1700 hx_qPiled rfl) (ib_w 10 120 hg_bar_4 rfl) hpg_walkers (ib_w (-1) 1600 hg_codeFrom_3 rfl) (ib_w 0 1600 hg_codeEnd_3 rfl) hg_gaps hG0) mV_X10_501 hPc hDc rfl rfl rfl hl rfl rfl (Nat.le_of_ble_eq_true rfl) ⟨(Nat.le_of_ble_eq_true rfl), (Nat.le_of_ble_eq_true rfl)⟩ ⟨(Nat.le_of_ble_eq_true rfl), (Nat.le_of_ble_eq_true rfl)⟩ dX10_laysFits_1) (fun u89 H locs hw hP hD hS => ?_)
  obtain ⟨v90, v91, v92, f93, f94, f95⟩ := u89
  try dsimp only at hP hD hw
  replace hP : va_P (dC, dI) vwCl [(wi_rm63_3_12_0 rm cy g_isHere), (wi_rm64_0_12_0 rm cy g_crosses), (wi_rm68_3_12_0 rm cy g_presses), (wi_rm69_3_300_0 rm cy g_crossedIn), (wi_rm41_0_4_0 rm cy g_many), (wi_rm62_3_300_0 rm cy g_isGreen), (wi_rm76_0_32_0 rm cy g_rows), (wi_rm77_0_720_0 rm cy g_when), (a_this, .inr (10, mfs rm x_taped x_at x_end x_ended x_bad x_badPlace x_fault x_faultPlace x_namePlace x_awayTold x_away x_coded x_statements x_isCrossing v90 v91 x_redMany x_isOpen x_lastGreen x_greenTo x_isCycleGreen x_stillGreen x_rowMany x_fitMany x_fitRules x_fitGreen x_undoable x_newest x_seeded x_qCoded x_qWaits x_qOpened x_qBase v92 x_qAnswer x_qIsNew x_octets)), (wi_rm49_0_6_0 rm cy g_codeFrom), (wi_rm50_0_6_0 rm cy g_codeEnd), (wi_rm116_1_1700_1 rm cy f93), (wi_rm51_0_3200_0 rm cy g_codes), (wi_rm46_0_48_0 rm cy g_walkers), (wi_rm56_0_9_0 rm cy g_now), (wi_rm43_0_8_0 rm cy g_bar), (wi_rm65_0_12_0 rm cy g_waits), (wi_rm44_0_24_0 rm cy g_kinds), (wi_rm61_0_300_0 rm cy f94), (wi_rm66_3_12_0 rm cy g_goes), (wi_rm67_3_12_0 rm cy g_harms), (wi_rm60_3_320_0 rm cy f95)] H := hP
  replace hD := k_D hP hD
  obtain ⟨h96, h97, h98⟩ := hw
  replace hq := lf_p1 hq h98
  replace hq := lf_p1 hq rfl
  replace hq := lf_p1 hq rfl
  replace hq := lf_p1 hq rfl
  replace hq := lf_p1 hq rfl
  refine lv_aload_n hx hb dX10_laysFits_4 rfl (lv_at hl 0 rfl) ?_
  refine lv_iconst (v := 0) hx hb dX10_laysFits_5 rfl ?_
  refine k_put C0 fp_X10_570 hP hD hS 8 rfl rfl rfl (Nat.le_of_ble_eq_true rfl) dX10_laysFits_6 (fun H locs hP hD hS => ?_)
  replace hP : va_P (dC, dI) vwCl [(wi_rm63_3_12_0 rm cy g_isHere), (wi_rm64_0_12_0 rm cy g_crosses), (wi_rm68_3_12_0 rm cy g_presses), (wi_rm69_3_300_0 rm cy g_crossedIn), (wi_rm41_0_4_0 rm cy g_many), (wi_rm62_3_300_0 rm cy g_isGreen), (wi_rm76_0_32_0 rm cy g_rows), (wi_rm77_0_720_0 rm cy g_when), (a_this, .inr (10, mfs rm x_taped x_at x_end x_ended x_bad x_badPlace x_fault x_faultPlace x_namePlace x_awayTold x_away x_coded x_statements x_isCrossing v90 v91 x_redMany x_isOpen x_lastGreen x_greenTo x_isCycleGreen x_stillGreen x_rowMany 0 x_fitRules x_fitGreen x_undoable x_newest x_seeded x_qCoded x_qWaits x_qOpened x_qBase v92 x_qAnswer x_qIsNew x_octets)), (wi_rm49_0_6_0 rm cy g_codeFrom), (wi_rm50_0_6_0 rm cy g_codeEnd), (wi_rm116_1_1700_1 rm cy f93), (wi_rm51_0_3200_0 rm cy g_codes), (wi_rm46_0_48_0 rm cy g_walkers), (wi_rm56_0_9_0 rm cy g_now), (wi_rm43_0_8_0 rm cy g_bar), (wi_rm65_0_12_0 rm cy g_waits), (wi_rm44_0_24_0 rm cy g_kinds), (wi_rm61_0_300_0 rm cy f94), (wi_rm66_3_12_0 rm cy g_goes), (wi_rm67_3_12_0 rm cy g_harms), (wi_rm60_3_320_0 rm cy f95)] H := hP
  replace hD := k_D hP hD
  refine lv_aload_n hx hb dX10_laysFits_9 rfl (lv_at hl 0 rfl) ?_
  refine lv_iconst (v := 0) hx hb dX10_laysFits_10 rfl ?_
  refine k_put C0 fp_X10_573 hP hD hS 8 rfl rfl rfl (Nat.le_of_ble_eq_true rfl) dX10_laysFits_11 (fun H locs hP hD hS => ?_)
  replace hP : va_P (dC, dI) vwCl [(wi_rm63_3_12_0 rm cy g_isHere), (wi_rm64_0_12_0 rm cy g_crosses), (wi_rm68_3_12_0 rm cy g_presses), (wi_rm69_3_300_0 rm cy g_crossedIn), (wi_rm41_0_4_0 rm cy g_many), (wi_rm62_3_300_0 rm cy g_isGreen), (wi_rm76_0_32_0 rm cy g_rows), (wi_rm77_0_720_0 rm cy g_when), (a_this, .inr (10, mfs rm x_taped x_at x_end x_ended x_bad x_badPlace x_fault x_faultPlace x_namePlace x_awayTold x_away x_coded x_statements x_isCrossing v90 v91 x_redMany x_isOpen x_lastGreen x_greenTo x_isCycleGreen x_stillGreen x_rowMany 0 0 x_fitGreen x_undoable x_newest x_seeded x_qCoded x_qWaits x_qOpened x_qBase v92 x_qAnswer x_qIsNew x_octets)), (wi_rm49_0_6_0 rm cy g_codeFrom), (wi_rm50_0_6_0 rm cy g_codeEnd), (wi_rm116_1_1700_1 rm cy f93), (wi_rm51_0_3200_0 rm cy g_codes), (wi_rm46_0_48_0 rm cy g_walkers), (wi_rm56_0_9_0 rm cy g_now), (wi_rm43_0_8_0 rm cy g_bar), (wi_rm65_0_12_0 rm cy g_waits), (wi_rm44_0_24_0 rm cy g_kinds), (wi_rm61_0_300_0 rm cy f94), (wi_rm66_3_12_0 rm cy g_goes), (wi_rm67_3_12_0 rm cy g_harms), (wi_rm60_3_320_0 rm cy f95)] H := hP
  replace hD := k_D hP hD
  refine lv_aload_n hx hb dX10_laysFits_14 rfl (lv_at hl 0 rfl) ?_
  refine lv_iconst (v := (-1)) hx hb dX10_laysFits_15 rfl ?_
  refine k_put C0 fp_X10_576 hP hD hS 8 rfl rfl rfl (Nat.le_of_ble_eq_true rfl) dX10_laysFits_16 (fun H locs hP hD hS => ?_)
  replace hP : va_P (dC, dI) vwCl [(wi_rm63_3_12_0 rm cy g_isHere), (wi_rm64_0_12_0 rm cy g_crosses), (wi_rm68_3_12_0 rm cy g_presses), (wi_rm69_3_300_0 rm cy g_crossedIn), (wi_rm41_0_4_0 rm cy g_many), (wi_rm62_3_300_0 rm cy g_isGreen), (wi_rm76_0_32_0 rm cy g_rows), (wi_rm77_0_720_0 rm cy g_when), (a_this, .inr (10, mfs rm x_taped x_at x_end x_ended x_bad x_badPlace x_fault x_faultPlace x_namePlace x_awayTold x_away x_coded x_statements x_isCrossing v90 v91 x_redMany x_isOpen x_lastGreen x_greenTo x_isCycleGreen x_stillGreen x_rowMany 0 0 (-1) x_undoable x_newest x_seeded x_qCoded x_qWaits x_qOpened x_qBase v92 x_qAnswer x_qIsNew x_octets)), (wi_rm49_0_6_0 rm cy g_codeFrom), (wi_rm50_0_6_0 rm cy g_codeEnd), (wi_rm116_1_1700_1 rm cy f93), (wi_rm51_0_3200_0 rm cy g_codes), (wi_rm46_0_48_0 rm cy g_walkers), (wi_rm56_0_9_0 rm cy g_now), (wi_rm43_0_8_0 rm cy g_bar), (wi_rm65_0_12_0 rm cy g_waits), (wi_rm44_0_24_0 rm cy g_kinds), (wi_rm61_0_300_0 rm cy f94), (wi_rm66_3_12_0 rm cy g_goes), (wi_rm67_3_12_0 rm cy g_harms), (wi_rm60_3_320_0 rm cy f95)] H := hP
  replace hD := k_D hP hD
  refine lv_iconst (v := 1) hx hb dX10_laysFits_19 rfl ?_
  refine lv_istore_n (lv' := [(1, .int 1), (0, .ref a_this)]) hx hb dX10_laysFits_20 rfl hl (Nat.le_of_ble_eq_true rfl) rfl (fun ls hl => ?_)
  exact jn21 22 v90 v91 v92 f93 f94 f95 1 x_redMany x_isOpen x_lastGreen x_greenTo x_isCycleGreen x_stillGreen 0 0 (-1) g_waits g_goes g_harms g_isHere g_crosses g_presses g_crossedIn g_isGreen g_when H locs ls (ib_w 0 1700 h96 rfl) (ib_w 1 21 (ib_c 1 1 1 rfl) rfl) (ib_w 0 1 hx_isOpen rfl) (ib_w 0 1 hx_isCycleGreen rfl) (ib_w 0 60 (ib_c 0 0 0 rfl) rfl) (ib_w (-1) 20 (ib_c (-1) (-1) (-1) rfl) rfl) h97 (by have : (0 : Int32).toInt = 0 := rfl; have : (1 : Int32).toInt = 1 := rfl; omega) (by try simp only [show (1 : Int32).toInt = (1 : Int) from rfl]; try simp only [show (0 : Int32).toInt = (0 : Int) from rfl]; try simp only [show ((-1) : Int32).toInt = (-1 : Int) from rfl]; exact hq) (by have := (ib_c 1 1 1 rfl); unfold ib at this; omega) (hP.sub [8, 9, 10, 11, 12, 13, 14, 15, 16, 17, 18, 19, 20, 21, 0, 1, 2, 3, 4, 5, 6, 7] rfl) (hD.sub [8, 9, 10, 11, 12, 13, 14, 15, 16, 17, 18, 19, 20, 21, 0, 1, 2, 3, 4, 5, 6, 7] (by decide +kernel) rfl) hS (lv_sub hl [1, 0] rfl)
set_option maxHeartbeats 4000000 in
set_option maxRecDepth 100000 in
theorem s_X10_fits (l : Launch) (dC : Nat → ClassId) (dI : Nat → Nat → Nat) (cy : Nat → ClassId) (sq : Nat → Nat) (a_this : Nat) (rm : Nat → Nat) (x_taped : Int32) (x_at : Int32) (x_end : Int32) (x_ended : Int32) (x_bad : Int32) (x_badPlace : Int32) (x_fault : Int32) (x_faultPlace : Int32) (x_namePlace : Int32) (x_awayTold : Int32) (x_away : Int32) (x_coded : Int32) (x_statements : Int32) (x_isCrossing : Int32) (x_textKind : Int32) (x_askSecond : Int32) (x_redMany : Int32) (x_isOpen : Int32) (x_lastGreen : Int32) (x_greenTo : Int32) (x_isCycleGreen : Int32) (x_stillGreen : Int32) (x_rowMany : Int32) (x_fitMany : Int32) (x_fitRules : Int32) (x_fitGreen : Int32) (x_undoable : Int32) (x_newest : Int32) (x_seeded : Int64) (x_qCoded : Int32) (x_qWaits : Int32) (x_qOpened : Int32) (x_qBase : Int32) (x_qPiled : Int32) (x_qAnswer : Int64) (x_qIsNew : Int32) (x_octets : Int32) (g_many : Nat → Int32) (g_bar : Nat → Int32) (g_kinds : Nat → Int32) (g_walkers : Nat → Int32) (g_codeFrom : Nat → Int32) (g_codeEnd : Nat → Int32) (g_codes : Nat → Int32) (g_now : Nat → Int32) (g_isCar : Nat → Int32) (g_gaps : Nat → Int32) (g_isGreen : Nat → Int32) (g_isHere : Nat → Int32) (g_crosses : Nat → Int32) (g_waits : Nat → Int32) (g_goes : Nat → Int32) (g_harms : Nat → Int32) (g_presses : Nat → Int32) (g_crossedIn : Nat → Int32) (g_rows : Nat → Int32) (g_when : Nat → Int32) (g_qPile : Nat → Int64) (p0 : Int32) (hx_isCrossing : ib x_isCrossing 0 1) (hx_isOpen : ib x_isOpen 0 1) (hx_isCycleGreen : ib x_isCycleGreen 0 1) (hx_rowMany : ib x_rowMany 0 16) (hx_fitMany : ib x_fitMany 0 60) (hx_qPiled : ib x_qPiled 0 1700) (hg_many_3 : ib (g_many 3) 0 12) (hg_bar_4 : ib (g_bar 4) 0 120) (hpg_walkers : ip g_walkers 48 2 0 0 5) (hg_codeFrom_3 : ib (g_codeFrom 3) (-1) 1600) (hg_codeFrom_4 : ib (g_codeFrom 4) (-1) 1600) (hg_codeEnd_3 : ib (g_codeEnd 3) 0 1600) (hg_codeEnd_4 : ib (g_codeEnd 4) 0 1600) (hg_gaps : ia g_gaps 300 0 20) (hpg_rows : ip g_rows 32 2 0 0 11) (hG0 : ¬ g_codeFrom 3 = (-1) → okc g_codes 1600 false (g_codeFrom 3) (g_codeEnd 3)) (hG1 : ¬ g_codeFrom 4 = (-1) → okc g_codes 1600 true (g_codeFrom 4) (g_codeEnd 4)) (hc_cr : ¬ x_isCrossing = 0 → ib (g_bar 4) 10 120) : k_Met l yX10_fits cX10_fits 2 (some .int) { frames := 7, cells := 0, slots := 0, locals := 160 } dC dI cy sq [.ref a_this, .int p0] [(a_this, .inr (10, mfs rm x_taped x_at x_end x_ended x_bad x_badPlace x_fault x_faultPlace x_namePlace x_awayTold x_away x_coded x_statements x_isCrossing x_textKind x_askSecond x_redMany x_isOpen x_lastGreen x_greenTo x_isCycleGreen x_stillGreen x_rowMany x_fitMany x_fitRules x_fitGreen x_undoable x_newest x_seeded x_qCoded x_qWaits x_qOpened x_qBase x_qPiled x_qAnswer x_qIsNew x_octets)), (wi_rm49_0_6_0 rm cy g_codeFrom), (wi_rm50_0_6_0 rm cy g_codeEnd), (wi_rm116_1_1700_1 rm cy g_qPile), (wi_rm51_0_3200_0 rm cy g_codes), (wi_rm46_0_48_0 rm cy g_walkers), (wi_rm56_0_9_0 rm cy g_now), (wi_rm43_0_8_0 rm cy g_bar), (wi_rm65_0_12_0 rm cy g_waits), (wi_rm44_0_24_0 rm cy g_kinds), (wi_rm61_0_300_0 rm cy g_gaps), (wi_rm66_3_12_0 rm cy g_goes), (wi_rm67_3_12_0 rm cy g_harms), (wi_rm60_3_320_0 rm cy g_isCar), (wi_rm63_3_12_0 rm cy g_isHere), (wi_rm64_0_12_0 rm cy g_crosses), (wi_rm68_3_12_0 rm cy g_presses), (wi_rm69_3_300_0 rm cy g_crossedIn), (wi_rm41_0_4_0 rm cy g_many), (wi_rm62_3_300_0 rm cy g_isGreen), (wi_rm76_0_32_0 rm cy g_rows), (wi_rm77_0_720_0 rm cy g_when)] (k_Qi dC dI (fun (r : Int32) (u : Int32 × Int32 × Int32 × Int32 × Int32 × Int32 × Int32 × Int32 × Int32 × Int32 × Int32 × Int32 × (Nat → Int64) × (Nat → Int32) × (Nat → Int32) × (Nat → Int32) × (Nat → Int32) × (Nat → Int32) × (Nat → Int32) × (Nat → Int32) × (Nat → Int32) × (Nat → Int32) × (Nat → Int32) × (Nat → Int32)) => match u with | (n0, n1, n2, n3, n4, n5, n6, n7, n8, n9, n10, n11, n12, n13, n14, n15, n16, n17, n18, n19, n20, n21, n22, n23) => ib n3 0 1 ∧ ib n6 0 1 ∧ ib n8 0 60 ∧ ib n11 0 1700 ∧ ia n14 300 0 20 ∧ (F_X10_fits (Int32.toInt x_isCrossing) (Int32.toInt x_textKind) (Int32.toInt x_askSecond) (Int32.toInt x_redMany) (Int32.toInt x_isOpen) (Int32.toInt x_lastGreen) (Int32.toInt x_greenTo) (Int32.toInt x_isCycleGreen) (Int32.toInt x_stillGreen) (Int32.toInt x_rowMany) (Int32.toInt x_fitMany) (Int32.toInt x_fitRules) (Int32.toInt x_fitGreen) (Int32.toInt x_qPiled) (lf_A g_many) (lf_A g_bar) (lf_A g_kinds) (lf_A g_walkers) (lf_A g_codeFrom) (lf_A g_codeEnd) (lf_A g_codes) (lf_A g_now) (lf_A g_isCar) (lf_A g_gaps) (lf_A g_isGreen) (lf_A g_isHere) (lf_A g_crosses) (lf_A g_waits) (lf_A g_goes) (lf_A g_harms) (lf_A g_presses) (lf_A g_crossedIn) (lf_A g_rows) (lf_A g_when) (lf_L g_qPile) (Int32.toInt p0) = ((Int32.toInt r), (Int32.toInt n0), (Int32.toInt n1), (Int32.toInt n2), (Int32.toInt n3), (Int32.toInt n4), (Int32.toInt n5), (Int32.toInt n6), (Int32.toInt n7), (Int32.toInt n8), (Int32.toInt n9), (Int32.toInt n10), (Int32.toInt n11), (lf_L n12), (lf_A n13), (lf_A n14), (lf_A n15), (lf_A n16), (lf_A n17), (lf_A n18), (lf_A n19), (lf_A n20), (lf_A n21), (lf_A n22), (lf_A n23)))) (fun u : Int32 × Int32 × Int32 × Int32 × Int32 × Int32 × Int32 × Int32 × Int32 × Int32 × Int32 × Int32 × (Nat → Int64) × (Nat → Int32) × (Nat → Int32) × (Nat → Int32) × (Nat → Int32) × (Nat → Int32) × (Nat → Int32) × (Nat → Int32) × (Nat → Int32) × (Nat → Int32) × (Nat → Int32) × (Nat → Int32) => match u with | (n0, n1, n2, n3, n4, n5, n6, n7, n8, n9, n10, n11, n12, n13, n14, n15, n16, n17, n18, n19, n20, n21, n22, n23) => [(a_this, .inr (10, mfs rm x_taped x_at x_end x_ended x_bad x_badPlace x_fault x_faultPlace x_namePlace x_awayTold x_away x_coded x_statements x_isCrossing n0 n1 n2 n3 n4 n5 n6 n7 x_rowMany n8 n9 n10 x_undoable x_newest x_seeded x_qCoded x_qWaits x_qOpened x_qBase n11 x_qAnswer x_qIsNew x_octets)), (wi_rm49_0_6_0 rm cy g_codeFrom), (wi_rm50_0_6_0 rm cy g_codeEnd), (wi_rm116_1_1700_1 rm cy n12), (wi_rm51_0_3200_0 rm cy g_codes), (wi_rm46_0_48_0 rm cy g_walkers), (wi_rm56_0_9_0 rm cy g_now), (wi_rm43_0_8_0 rm cy g_bar), (wi_rm65_0_12_0 rm cy n13), (wi_rm44_0_24_0 rm cy g_kinds), (wi_rm61_0_300_0 rm cy n14), (wi_rm66_3_12_0 rm cy n15), (wi_rm67_3_12_0 rm cy n16), (wi_rm60_3_320_0 rm cy n17), (wi_rm63_3_12_0 rm cy n18), (wi_rm64_0_12_0 rm cy n19), (wi_rm68_3_12_0 rm cy n20), (wi_rm69_3_300_0 rm cy n21), (wi_rm41_0_4_0 rm cy g_many), (wi_rm62_3_300_0 rm cy n22), (wi_rm76_0_32_0 rm cy g_rows), (wi_rm77_0_720_0 rm cy n23)])) := by
  refine k_ofW2 (by decide +kernel) (Nat.le_of_ble_eq_true rfl) ?_
  intro p e s m below meth c A ls H locs args Q hQ C0 hZ hr hlk hin hP hD hA hS hl
  have C0 : k_cx p s m args c cX10_fits 2 RX10 dC dI cy sq := C0
  have hx := C0.1
  have hb := C0.2.1
  have hl : lv_has ls 2 [(0, .ref a_this), (1, .int p0)] := hl
  obtain ⟨O, hO⟩ : ∃ o, o = F_X10_fits (Int32.toInt x_isCrossing) (Int32.toInt x_textKind) (Int32.toInt x_askSecond) (Int32.toInt x_redMany) (Int32.toInt x_isOpen) (Int32.toInt x_lastGreen) (Int32.toInt x_greenTo) (Int32.toInt x_isCycleGreen) (Int32.toInt x_stillGreen) (Int32.toInt x_rowMany) (Int32.toInt x_fitMany) (Int32.toInt x_fitRules) (Int32.toInt x_fitGreen) (Int32.toInt x_qPiled) (lf_A g_many) (lf_A g_bar) (lf_A g_kinds) (lf_A g_walkers) (lf_A g_codeFrom) (lf_A g_codeEnd) (lf_A g_codes) (lf_A g_now) (lf_A g_isCar) (lf_A g_gaps) (lf_A g_isGreen) (lf_A g_isHere) (lf_A g_crosses) (lf_A g_waits) (lf_A g_goes) (lf_A g_harms) (lf_A g_presses) (lf_A g_crossedIn) (lf_A g_rows) (lf_A g_when) (lf_L g_qPile) (Int32.toInt p0) := ⟨_, rfl⟩
  have hq := hO
  unfold F_X10_fits at hq
  have jn19 : ∀  (H : Heap) (locs : List Loc) (ls : Array Slot), (O = F_X10_fits_19 (Int32.toInt x_textKind) (Int32.toInt x_askSecond) (Int32.toInt x_redMany) (Int32.toInt x_isOpen) (Int32.toInt x_lastGreen) (Int32.toInt x_greenTo) (Int32.toInt x_isCycleGreen) (Int32.toInt x_stillGreen) (Int32.toInt x_fitMany) (Int32.toInt x_fitRules) (Int32.toInt x_fitGreen) (Int32.toInt x_qPiled) (lf_A g_isCar) (lf_A g_gaps) (lf_A g_isGreen) (lf_A g_isHere) (lf_A g_crosses) (lf_A g_waits) (lf_A g_goes) (lf_A g_harms) (lf_A g_presses) (lf_A g_crossedIn) (lf_A g_when) (lf_L g_qPile) ) → va_P (dC, dI) vwCl [(a_this, .inr (10, mfs rm x_taped x_at x_end x_ended x_bad x_badPlace x_fault x_faultPlace x_namePlace x_awayTold x_away x_coded x_statements x_isCrossing x_textKind x_askSecond x_redMany x_isOpen x_lastGreen x_greenTo x_isCycleGreen x_stillGreen x_rowMany x_fitMany x_fitRules x_fitGreen x_undoable x_newest x_seeded x_qCoded x_qWaits x_qOpened x_qBase x_qPiled x_qAnswer x_qIsNew x_octets)), (wi_rm49_0_6_0 rm cy g_codeFrom), (wi_rm50_0_6_0 rm cy g_codeEnd), (wi_rm116_1_1700_1 rm cy g_qPile), (wi_rm51_0_3200_0 rm cy g_codes), (wi_rm46_0_48_0 rm cy g_walkers), (wi_rm56_0_9_0 rm cy g_now), (wi_rm43_0_8_0 rm cy g_bar), (wi_rm65_0_12_0 rm cy g_waits), (wi_rm44_0_24_0 rm cy g_kinds), (wi_rm61_0_300_0 rm cy g_gaps), (wi_rm66_3_12_0 rm cy g_goes), (wi_rm67_3_12_0 rm cy g_harms), (wi_rm60_3_320_0 rm cy g_isCar), (wi_rm63_3_12_0 rm cy g_isHere), (wi_rm64_0_12_0 rm cy g_crosses), (wi_rm68_3_12_0 rm cy g_presses), (wi_rm69_3_300_0 rm cy g_crossedIn), (wi_rm41_0_4_0 rm cy g_many), (wi_rm62_3_300_0 rm cy g_isGreen), (wi_rm76_0_32_0 rm cy g_rows), (wi_rm77_0_720_0 rm cy g_when)] H → va_D A [(a_this, .inr (10, mfs rm x_taped x_at x_end x_ended x_bad x_badPlace x_fault x_faultPlace x_namePlace x_awayTold x_away x_coded x_statements x_isCrossing x_textKind x_askSecond x_redMany x_isOpen x_lastGreen x_greenTo x_isCycleGreen x_stillGreen x_rowMany x_fitMany x_fitRules x_fitGreen x_undoable x_newest x_seeded x_qCoded x_qWaits x_qOpened x_qBase x_qPiled x_qAnswer x_qIsNew x_octets)), (wi_rm49_0_6_0 rm cy g_codeFrom), (wi_rm50_0_6_0 rm cy g_codeEnd), (wi_rm116_1_1700_1 rm cy g_qPile), (wi_rm51_0_3200_0 rm cy g_codes), (wi_rm46_0_48_0 rm cy g_walkers), (wi_rm56_0_9_0 rm cy g_now), (wi_rm43_0_8_0 rm cy g_bar), (wi_rm65_0_12_0 rm cy g_waits), (wi_rm44_0_24_0 rm cy g_kinds), (wi_rm61_0_300_0 rm cy g_gaps), (wi_rm66_3_12_0 rm cy g_goes), (wi_rm67_3_12_0 rm cy g_harms), (wi_rm60_3_320_0 rm cy g_isCar), (wi_rm63_3_12_0 rm cy g_isHere), (wi_rm64_0_12_0 rm cy g_crosses), (wi_rm68_3_12_0 rm cy g_presses), (wi_rm69_3_300_0 rm cy g_crossedIn), (wi_rm41_0_4_0 rm cy g_many), (wi_rm62_3_300_0 rm cy g_isGreen), (wi_rm76_0_32_0 rm cy g_rows), (wi_rm77_0_720_0 rm cy g_when)] → va_S A s.heap H locs → lv_has ls 2 [(0, .ref a_this), (1, .int p0)] → W p l e { frames := 7, cells := 0, slots := 0, locals := 160 } s m args below meth c H locs 0 0 Q (F0 m 19 ls []) := by
    intro H locs ls hq hP hD hS hl
    unfold F_X10_fits_19 at hq
    refine lv_iconst (v := (-1)) hx hb dX10_fits_19 rfl ?_
    subst hQ; exact k_iret hx hb hr hlk rfl ((x_textKind, x_askSecond, x_redMany, x_isOpen, x_lastGreen, x_greenTo, x_isCycleGreen, x_stillGreen, x_fitMany, x_fitRules, x_fitGreen, x_qPiled, g_qPile, g_waits, g_gaps, g_goes, g_harms, g_isCar, g_isHere, g_crosses, g_presses, g_crossedIn, g_isGreen, g_when)) hS ⟨ib_w 0 1 hx_isOpen rfl, ib_w 0 1 hx_isCycleGreen rfl, ib_w 0 60 hx_fitMany rfl, ib_w 0 1700 hx_qPiled rfl, hg_gaps, (hO.symm.trans (by try simp only [show ((-1) : Int32).toInt = (-1 : Int) from rfl]; exact hq))⟩ hP hD (Nat.le_of_ble_eq_true rfl) (Nat.le_of_ble_eq_true rfl) dX10_fits_20
  refine lv_aload_n hx hb dX10_fits_0 rfl (lv_at hl 0 rfl) ?_
  refine k_get C0 fg_X10_417 hP 0 rfl rfl dX10_fits_1 ?_
  refine lv_if_eq (tgt := 19) hx hb dX10_fits_4 rfl (fun c1 => ?_) (fun c1 => ?_)
  · replace hq := lf_pos hq (lf_eq (lf_rf x_isCrossing) (lf_lc 0 (0 : Int) rfl) c1)
    have h2 := ib_eq hx_isCrossing (ib_c 0 0 0 rfl) c1
    have h3 : ib x_isCrossing 0 0 := ib_w 0 0 h2.1 rfl
    exact jn19  H locs ls (by exact hq) hP hD hS (lv_sub hl [0, 1] rfl)
  · as_aux_lemma =>
      replace hq := lf_neg hq (lf_ne (lf_rf x_isCrossing) (lf_lc 0 (0 : Int) rfl) c1)
      have h4 : ib x_isCrossing 1 1 := ib_w 1 1 (ib_ne_lo 0 hx_isCrossing rfl c1) rfl
      have h5 : ib (g_bar 4) 10 120 := ib_w 10 120 (ib_two hg_bar_4 (hc_cr (ib_nz h4 rfl))) rfl
      refine lv_iload_n hx hb dX10_fits_7 rfl (lv_at hl 1 rfl) ?_
      refine lv_i2l (v := p0.toInt64) hx hb dX10_fits_8 rfl ?_
      refine lv_lconst (v := 0) hx hb dX10_fits_9 (by decide) ?_
      refine lv_ldc2 hx hb C0.2.2.2.1 (C0.2.2.2.2.1 _ wd1089) dX10_fits_10 ?_
      refine k_jim hP hD hS hA [] [true, true, true, true, true, true, true, true, true, true, true, true, true, true, true, true, true, true, true, true, true, true] rfl rfl (by decide +kernel) 0 0 (Nat.le_of_ble_eq_true rfl) (Nat.le_of_ble_eq_true rfl) (fun hPc hDc => k_runS (As := [.long p0.toInt64, .long 0, .long 2]) (rest := []) C0 hZ hS hA (c_isIn l dC dI cy sq p0.toInt64 0 2) mS_X10_318 hPc hDc hl rfl rfl (Nat.le_of_ble_eq_true rfl) ⟨(Nat.le_of_ble_eq_true rfl), (Nat.le_of_ble_eq_true rfl)⟩ ⟨(Nat.le_of_ble_eq_true rfl), (Nat.le_of_ble_eq_true rfl)⟩ dX10_fits_13) (fun r6 u7 H locs hw hP hD hS => ?_)
      replace hP : va_P (dC, dI) vwCl [(a_this, .inr (10, mfs rm x_taped x_at x_end x_ended x_bad x_badPlace x_fault x_faultPlace x_namePlace x_awayTold x_away x_coded x_statements x_isCrossing x_textKind x_askSecond x_redMany x_isOpen x_lastGreen x_greenTo x_isCycleGreen x_stillGreen x_rowMany x_fitMany x_fitRules x_fitGreen x_undoable x_newest x_seeded x_qCoded x_qWaits x_qOpened x_qBase x_qPiled x_qAnswer x_qIsNew x_octets)), (wi_rm49_0_6_0 rm cy g_codeFrom), (wi_rm50_0_6_0 rm cy g_codeEnd), (wi_rm116_1_1700_1 rm cy g_qPile), (wi_rm51_0_3200_0 rm cy g_codes), (wi_rm46_0_48_0 rm cy g_walkers), (wi_rm56_0_9_0 rm cy g_now), (wi_rm43_0_8_0 rm cy g_bar), (wi_rm65_0_12_0 rm cy g_waits), (wi_rm44_0_24_0 rm cy g_kinds), (wi_rm61_0_300_0 rm cy g_gaps), (wi_rm66_3_12_0 rm cy g_goes), (wi_rm67_3_12_0 rm cy g_harms), (wi_rm60_3_320_0 rm cy g_isCar), (wi_rm63_3_12_0 rm cy g_isHere), (wi_rm64_0_12_0 rm cy g_crosses), (wi_rm68_3_12_0 rm cy g_presses), (wi_rm69_3_300_0 rm cy g_crossedIn), (wi_rm41_0_4_0 rm cy g_many), (wi_rm62_3_300_0 rm cy g_isGreen), (wi_rm76_0_32_0 rm cy g_rows), (wi_rm77_0_720_0 rm cy g_when)] H := hP
      replace hD := k_D hP hD
      have h8 := hw
      have h9 : ib r6 0 1 := by rw [h8]; exact k_isf_01 _ _ _
      have Er6 := lf_isine h8 (lf_i2l (lf_rf p0)) (lf_ll 0 (0 : Int) rfl) (lf_ll 2 (2 : Int) rfl)
      refine lv_if_ne (tgt := 21) hx hb dX10_fits_16 rfl (fun c10 => ?_) (fun c10 => ?_)
      · as_aux_lemma =>
          replace hq := lf_neg hq (lf_ne Er6 (lf_lc 0 (0 : Int) rfl) c10)
          have h11 : ib r6 1 1 := ib_w 1 1 (ib_ne_lo 0 h9 rfl c10) rfl
          have h12 : ib p0 0 2 := ib_w 0 2 (ib_two (ib_any p0) (k_isf_v h8 (show 0 ≤ (0 : Int64).toInt by decide) (show (2 : Int64).toInt ≤ 2 by decide) (ib_nz h11 rfl))) rfl
          refine lv_aload_n hx hb dX10_fits_21 rfl (lv_at hl 0 rfl) ?_
          refine k_jvm hP hD hS hA [0, 1, 2, 3, 4, 5, 6, 7, 8, 9, 10, 11, 12, 13, 14, 15, 16, 17, 18, 19, 20, 21] [] rfl rfl (by decide +kernel) 0 0 (Nat.le_of_ble_eq_true rfl) (Nat.le_of_ble_eq_true rfl) (fun hPc hDc => k_runV (As := []) (rest := []) C0 hZ hS hA (s_X10_laysFits l dC dI cy sq a_this rm x_taped x_at x_end x_ended x_bad x_badPlace x_fault x_faultPlace x_namePlace x_awayTold x_away x_coded x_statements x_isCrossing x_textKind x_askSecond x_redMany x_isOpen x_lastGreen x_greenTo x_isCycleGreen x_stillGreen x_rowMany x_fitMany x_fitRules x_fitGreen x_undoable x_newest x_seeded x_qCoded x_qWaits x_qOpened x_qBase x_qPiled x_qAnswer x_qIsNew x_octets g_many g_bar g_kinds g_walkers g_codeFrom g_codeEnd g_codes g_now g_isCar g_gaps g_isGreen g_isHere g_crosses g_waits g_goes g_harms g_presses g_crossedIn g_rows g_when g_qPile (ib_w 0 1 hx_isOpen rfl) (ib_w 0 1 hx_isCycleGreen rfl) (ib_w 0 16 hx_rowMany rfl) (ib_w 0 1700 hx_qPiled rfl) (ib_w 0 12 hg_many_3 rfl) (ib_w 10 120 h5 rfl) hpg_walkers (ib_w (-1) 1600 hg_codeFrom_3 rfl) (ib_w (-1) 1600 hg_codeFrom_4 rfl) (ib_w 0 1600 hg_codeEnd_3 rfl) (ib_w 0 1600 hg_codeEnd_4 rfl) hg_gaps hpg_rows hG0 hG1) mV_X10_582 hPc hDc rfl rfl rfl hl rfl rfl (Nat.le_of_ble_eq_true rfl) ⟨(Nat.le_of_ble_eq_true rfl), (Nat.le_of_ble_eq_true rfl)⟩ ⟨(Nat.le_of_ble_eq_true rfl), (Nat.le_of_ble_eq_true rfl)⟩ dX10_fits_22) (fun u14 H locs hw hP hD hS => ?_)
          obtain ⟨v15, v16, v17, v18, v19, v20, v21, v22, v23, v24, v25, v26, f27, f28, f29, f30, f31, f32, f33, f34, f35, f36, f37, f38⟩ := u14
          try dsimp only at hP hD hw
          replace hP : va_P (dC, dI) vwCl [(a_this, .inr (10, mfs rm x_taped x_at x_end x_ended x_bad x_badPlace x_fault x_faultPlace x_namePlace x_awayTold x_away x_coded x_statements x_isCrossing v15 v16 v17 v18 v19 v20 v21 v22 x_rowMany v23 v24 v25 x_undoable x_newest x_seeded x_qCoded x_qWaits x_qOpened x_qBase v26 x_qAnswer x_qIsNew x_octets)), (wi_rm49_0_6_0 rm cy g_codeFrom), (wi_rm50_0_6_0 rm cy g_codeEnd), (wi_rm116_1_1700_1 rm cy f27), (wi_rm51_0_3200_0 rm cy g_codes), (wi_rm46_0_48_0 rm cy g_walkers), (wi_rm56_0_9_0 rm cy g_now), (wi_rm43_0_8_0 rm cy g_bar), (wi_rm65_0_12_0 rm cy f28), (wi_rm44_0_24_0 rm cy g_kinds), (wi_rm61_0_300_0 rm cy f29), (wi_rm66_3_12_0 rm cy f30), (wi_rm67_3_12_0 rm cy f31), (wi_rm60_3_320_0 rm cy f32), (wi_rm63_3_12_0 rm cy f33), (wi_rm64_0_12_0 rm cy f34), (wi_rm68_3_12_0 rm cy f35), (wi_rm69_3_300_0 rm cy f36), (wi_rm41_0_4_0 rm cy g_many), (wi_rm62_3_300_0 rm cy f37), (wi_rm76_0_32_0 rm cy g_rows), (wi_rm77_0_720_0 rm cy f38)] H := hP
          replace hD := k_D hP hD
          obtain ⟨h39, h40, h41, h42, h43, h44, h45⟩ := hw
          replace hq := lf_p1 hq h45
          replace hq := lf_p1 hq rfl
          replace hq := lf_p1 hq rfl
          replace hq := lf_p1 hq rfl
          replace hq := lf_p1 hq rfl
          replace hq := lf_p1 hq rfl
          replace hq := lf_p1 hq rfl
          replace hq := lf_p1 hq rfl
          replace hq := lf_p1 hq rfl
          replace hq := lf_p1 hq rfl
          replace hq := lf_p1 hq rfl
          replace hq := lf_p1 hq rfl
          replace hq := lf_p1 hq rfl
          replace hq := lf_p1 hq rfl
          replace hq := lf_p1 hq rfl
          replace hq := lf_p1 hq rfl
          replace hq := lf_p1 hq rfl
          replace hq := lf_p1 hq rfl
          replace hq := lf_p1 hq rfl
          replace hq := lf_p1 hq rfl
          as_aux_lemma =>
            replace hq := lf_p1 hq rfl
            replace hq := lf_p1 hq rfl
            replace hq := lf_p1 hq rfl
            refine lv_iload_n hx hb dX10_fits_25 rfl (lv_at hl 1 rfl) ?_
            refine lv_if_ne (tgt := 36) hx hb dX10_fits_26 rfl (fun c46 => ?_) (fun c46 => ?_)
            · replace hq := lf_neg hq (lf_ne (lf_rf p0) (lf_lc 0 (0 : Int) rfl) c46)
              have h47 : ib p0 1 2 := ib_w 1 2 (ib_ne_lo 0 h12 rfl c46) rfl
              refine lv_iload_n hx hb dX10_fits_36 rfl (lv_at hl 1 rfl) ?_
              refine lv_iconst (v := 1) hx hb dX10_fits_37 rfl ?_
              refine lv_icmp_ne (tgt := 48) hx hb dX10_fits_38 rfl (fun c48 => ?_) (fun c48 => ?_)
              · replace hq := lf_neg hq (lf_ne (lf_rf p0) (lf_lc 1 (1 : Int) rfl) c48)
                have h49 : ib p0 2 2 := ib_w 2 2 (ib_ne_lo 1 h47 rfl c48) rfl
                refine lv_aload_n hx hb dX10_fits_48 rfl (lv_at hl 0 rfl) ?_
                refine k_get C0 fg_X10_576 hP 0 rfl rfl dX10_fits_49 ?_
                subst hQ; exact k_iret hx hb hr hlk rfl ((v15, v16, v17, v18, v19, v20, v21, v22, v23, v24, v25, v26, f27, f28, f29, f30, f31, f32, f33, f34, f35, f36, f37, f38)) hS ⟨ib_w 0 1 h39 rfl, ib_w 0 1 h40 rfl, ib_w 0 60 h41 rfl, ib_w 0 1700 h43 rfl, h44, (hO.symm.trans (by exact hq))⟩ hP hD (Nat.le_of_ble_eq_true rfl) (Nat.le_of_ble_eq_true rfl) dX10_fits_52
              · replace hq := lf_pos hq (lf_eq (lf_rf p0) (lf_lc 1 (1 : Int) rfl) c48)
                have h50 := ib_eq h47 (ib_c 1 1 1 rfl) c48
                have h51 : ib p0 1 1 := ib_w 1 1 h50.1 rfl
                refine lv_aload_n hx hb dX10_fits_41 rfl (lv_at hl 0 rfl) ?_
                refine k_get C0 fg_X10_573 hP 0 rfl rfl dX10_fits_42 ?_
                refine lv_goto (tgt := 52) hx hb dX10_fits_45 rfl ?_
                subst hQ; exact k_iret hx hb hr hlk rfl ((v15, v16, v17, v18, v19, v20, v21, v22, v23, v24, v25, v26, f27, f28, f29, f30, f31, f32, f33, f34, f35, f36, f37, f38)) hS ⟨ib_w 0 1 h39 rfl, ib_w 0 1 h40 rfl, ib_w 0 60 h41 rfl, ib_w 0 1700 h43 rfl, h44, (hO.symm.trans (by exact hq))⟩ hP hD (Nat.le_of_ble_eq_true rfl) (Nat.le_of_ble_eq_true rfl) dX10_fits_52
            · replace hq := lf_pos hq (lf_eq (lf_rf p0) (lf_lc 0 (0 : Int) rfl) c46)
              have h52 := ib_eq h12 (ib_c 0 0 0 rfl) c46
              have h53 : ib p0 0 0 := ib_w 0 0 h52.1 rfl
              refine lv_aload_n hx hb dX10_fits_29 rfl (lv_at hl 0 rfl) ?_
              refine k_get C0 fg_X10_570 hP 0 rfl rfl dX10_fits_30 ?_
              refine lv_goto (tgt := 52) hx hb dX10_fits_33 rfl ?_
              subst hQ; exact k_iret hx hb hr hlk rfl ((v15, v16, v17, v18, v19, v20, v21, v22, v23, v24, v25, v26, f27, f28, f29, f30, f31, f32, f33, f34, f35, f36, f37, f38)) hS ⟨ib_w 0 1 h39 rfl, ib_w 0 1 h40 rfl, ib_w 0 60 h41 rfl, ib_w 0 1700 h43 rfl, h44, (hO.symm.trans (by exact hq))⟩ hP hD (Nat.le_of_ble_eq_true rfl) (Nat.le_of_ble_eq_true rfl) dX10_fits_52
      · replace hq := lf_pos hq (lf_eq Er6 (lf_lc 0 (0 : Int) rfl) c10)
        have h54 := ib_eq h9 (ib_c 0 0 0 rfl) c10
        have h55 : ib r6 0 0 := ib_w 0 0 h54.1 rfl
        exact jn19  H locs ls (by exact hq) hP hD hS (lv_sub hl [0, 1] rfl)
set_option maxHeartbeats 4000000 in
set_option maxRecDepth 100000 in
theorem s_X10_isGreenLong_a1_60 (l : Launch) (dC : Nat → ClassId) (dI : Nat → Nat → Nat) (cy : Nat → ClassId) (sq : Nat → Nat) (a_this : Nat) (rm : Nat → Nat) (x_taped : Int32) (x_at : Int32) (x_end : Int32) (x_ended : Int32) (x_bad : Int32) (x_badPlace : Int32) (x_fault : Int32) (x_faultPlace : Int32) (x_namePlace : Int32) (x_awayTold : Int32) (x_away : Int32) (x_coded : Int32) (x_statements : Int32) (x_isCrossing : Int32) (x_textKind : Int32) (x_askSecond : Int32) (x_redMany : Int32) (x_isOpen : Int32) (x_lastGreen : Int32) (x_greenTo : Int32) (x_isCycleGreen : Int32) (x_stillGreen : Int32) (x_rowMany : Int32) (x_fitMany : Int32) (x_fitRules : Int32) (x_fitGreen : Int32) (x_undoable : Int32) (x_newest : Int32) (x_seeded : Int64) (x_qCoded : Int32) (x_qWaits : Int32) (x_qOpened : Int32) (x_qBase : Int32) (x_qPiled : Int32) (x_qAnswer : Int64) (x_qIsNew : Int32) (x_octets : Int32) (g_bar : Nat → Int32) (p0 : Int32) (hg_bar_4 : ib (g_bar 4) 0 120) : k_Met l yX10_isGreenLong cX10_isGreenLong 3 (some .boolean) { frames := 1, cells := 0, slots := 0, locals := 25 } dC dI cy sq [.ref a_this, .int p0, .int 60] [(a_this, .inr (10, mfs rm x_taped x_at x_end x_ended x_bad x_badPlace x_fault x_faultPlace x_namePlace x_awayTold x_away x_coded x_statements x_isCrossing x_textKind x_askSecond x_redMany x_isOpen x_lastGreen x_greenTo x_isCycleGreen x_stillGreen x_rowMany x_fitMany x_fitRules x_fitGreen x_undoable x_newest x_seeded x_qCoded x_qWaits x_qOpened x_qBase x_qPiled x_qAnswer x_qIsNew x_octets)), (wi_rm43_0_8_0 rm cy g_bar)] (k_Qi dC dI (fun (r : Int32) (_ : Unit) => ib r 0 1 ∧ (¬ r = 0 → ib (g_bar 4) 2 120) ∧ (¬ r = 0 → ib p0 1 60) ∧ (F_X10_isGreenLong_a1_60 (lf_A g_bar) (Int32.toInt p0) = ((Int32.toInt r)))) (fun _ : Unit => [(a_this, .inr (10, mfs rm x_taped x_at x_end x_ended x_bad x_badPlace x_fault x_faultPlace x_namePlace x_awayTold x_away x_coded x_statements x_isCrossing x_textKind x_askSecond x_redMany x_isOpen x_lastGreen x_greenTo x_isCycleGreen x_stillGreen x_rowMany x_fitMany x_fitRules x_fitGreen x_undoable x_newest x_seeded x_qCoded x_qWaits x_qOpened x_qBase x_qPiled x_qAnswer x_qIsNew x_octets)), (wi_rm43_0_8_0 rm cy g_bar)])) := by
  refine k_ofW2 (by decide +kernel) (Nat.le_of_ble_eq_true rfl) ?_
  intro p e s m below meth c A ls H locs args Q hQ C0 hZ hr hlk hin hP hD hA hS hl
  have C0 : k_cx p s m args c cX10_isGreenLong 3 RX10 dC dI cy sq := C0
  have hx := C0.1
  have hb := C0.2.1
  have hl : lv_has ls 3 [(0, .ref a_this), (1, .int p0), (2, .int 60)] := hl
  obtain ⟨O, hO⟩ : ∃ o, o = F_X10_isGreenLong_a1_60 (lf_A g_bar) (Int32.toInt p0) := ⟨_, rfl⟩
  have hq := hO
  unfold F_X10_isGreenLong_a1_60 at hq
  have jn25 : ∀  (H : Heap) (locs : List Loc) (ls : Array Slot), (O = F_X10_isGreenLong_a1_60_25 ) → va_P (dC, dI) vwCl [(a_this, .inr (10, mfs rm x_taped x_at x_end x_ended x_bad x_badPlace x_fault x_faultPlace x_namePlace x_awayTold x_away x_coded x_statements x_isCrossing x_textKind x_askSecond x_redMany x_isOpen x_lastGreen x_greenTo x_isCycleGreen x_stillGreen x_rowMany x_fitMany x_fitRules x_fitGreen x_undoable x_newest x_seeded x_qCoded x_qWaits x_qOpened x_qBase x_qPiled x_qAnswer x_qIsNew x_octets)), (wi_rm43_0_8_0 rm cy g_bar)] H → va_D A [(a_this, .inr (10, mfs rm x_taped x_at x_end x_ended x_bad x_badPlace x_fault x_faultPlace x_namePlace x_awayTold x_away x_coded x_statements x_isCrossing x_textKind x_askSecond x_redMany x_isOpen x_lastGreen x_greenTo x_isCycleGreen x_stillGreen x_rowMany x_fitMany x_fitRules x_fitGreen x_undoable x_newest x_seeded x_qCoded x_qWaits x_qOpened x_qBase x_qPiled x_qAnswer x_qIsNew x_octets)), (wi_rm43_0_8_0 rm cy g_bar)] → va_S A s.heap H locs → lv_has ls 3 [(0, .ref a_this), (1, .int p0), (2, .int 60)] → W p l e { frames := 1, cells := 0, slots := 0, locals := 25 } s m args below meth c H locs 0 0 Q (F0 m 25 ls []) := by
    intro H locs ls hq hP hD hS hl
    unfold F_X10_isGreenLong_a1_60_25 at hq
    refine lv_iconst (v := 0) hx hb dX10_isGreenLong_25 rfl ?_
    subst hQ; exact k_iret hx hb hr hlk (k_nb 0 rfl) () hS ⟨ib_w 0 1 (ib_c 0 0 0 rfl) rfl, fun hq9 => absurd rfl hq9, fun hq9 => absurd rfl hq9, (hO.symm.trans (by try simp only [show (0 : Int32).toInt = (0 : Int) from rfl]; exact hq))⟩ hP hD (Nat.le_of_ble_eq_true rfl) (Nat.le_of_ble_eq_true rfl) dX10_isGreenLong_26
  refine lv_iload_n hx hb dX10_isGreenLong_0 rfl (lv_at hl 1 rfl) ?_
  refine lv_i2l (v := p0.toInt64) hx hb dX10_isGreenLong_1 rfl ?_
  refine lv_lconst (v := 1) hx hb dX10_isGreenLong_2 (by decide) ?_
  refine lv_iload_n hx hb dX10_isGreenLong_3 rfl (lv_at hl 2 rfl) ?_
  refine lv_i2l (v := 60) hx hb dX10_isGreenLong_4 (by decide) ?_
  refine k_jim hP hD hS hA [] [true, true] rfl rfl rfl 0 0 (Nat.le_of_ble_eq_true rfl) (Nat.le_of_ble_eq_true rfl) (fun hPc hDc => k_runS (As := [.long p0.toInt64, .long 1, .long 60]) (rest := []) C0 hZ hS hA (c_isIn l dC dI cy sq p0.toInt64 1 60) mS_X10_318 hPc hDc hl rfl rfl (Nat.le_of_ble_eq_true rfl) ⟨(Nat.le_of_ble_eq_true rfl), (Nat.le_of_ble_eq_true rfl)⟩ ⟨(Nat.le_of_ble_eq_true rfl), (Nat.le_of_ble_eq_true rfl)⟩ dX10_isGreenLong_5) (fun r1 u2 H locs hw hP hD hS => ?_)
  replace hP : va_P (dC, dI) vwCl [(a_this, .inr (10, mfs rm x_taped x_at x_end x_ended x_bad x_badPlace x_fault x_faultPlace x_namePlace x_awayTold x_away x_coded x_statements x_isCrossing x_textKind x_askSecond x_redMany x_isOpen x_lastGreen x_greenTo x_isCycleGreen x_stillGreen x_rowMany x_fitMany x_fitRules x_fitGreen x_undoable x_newest x_seeded x_qCoded x_qWaits x_qOpened x_qBase x_qPiled x_qAnswer x_qIsNew x_octets)), (wi_rm43_0_8_0 rm cy g_bar)] H := hP
  replace hD := k_D hP hD
  have h3 := hw
  have h4 : ib r1 0 1 := by rw [h3]; exact k_isf_01 _ _ _
  have Er1 := lf_isine h3 (lf_i2l (lf_rf p0)) (lf_ll 1 (1 : Int) rfl) (lf_ll 60 (60 : Int) rfl)
  refine lv_if_eq (tgt := 25) hx hb dX10_isGreenLong_8 rfl (fun c5 => ?_) (fun c5 => ?_)
  · replace hq := lf_pos hq (lf_eq Er1 (lf_lc 0 (0 : Int) rfl) c5)
    have h6 := ib_eq h4 (ib_c 0 0 0 rfl) c5
    have h7 : ib r1 0 0 := ib_w 0 0 h6.1 rfl
    exact jn25  H locs ls (by exact hq) hP hD hS (lv_sub hl [0, 1, 2] rfl)
  · replace hq := lf_neg hq (lf_ne Er1 (lf_lc 0 (0 : Int) rfl) c5)
    have h8 : ib r1 1 1 := ib_w 1 1 (ib_ne_lo 0 h4 rfl c5) rfl
    have h9 : ib p0 1 60 := ib_w 1 60 (ib_two (ib_any p0) (k_isf_v h3 (show 1 ≤ (1 : Int64).toInt by decide) (show (60 : Int64).toInt ≤ 60 by decide) (ib_nz h8 rfl))) rfl
    refine lv_iload_n hx hb dX10_isGreenLong_11 rfl (lv_at hl 1 rfl) ?_
    refine lv_aload_n hx hb dX10_isGreenLong_12 rfl (lv_at hl 0 rfl) ?_
    refine k_get C0 fg_X10_118 hP 0 rfl rfl dX10_isGreenLong_13 ?_
    refine lv_iconst (v := 4) hx hb dX10_isGreenLong_16 rfl ?_
    refine va_iald hx hb C0.2.2.2.2.2.1 hP 1 0 rfl rfl (k_in 4 8 rfl) dX10_isGreenLong_17 ?_
    refine k_topi (y := g_bar 4) rfl ?_
    refine lv_icmp_ge (tgt := 25) hx hb dX10_isGreenLong_18 rfl (fun c10 => ?_) (fun c10 => ?_)
    · replace hq := lf_pos hq (lf_le (lf_pt (lf_ra g_bar) 4) (lf_rf p0) c10)
      have h11 := ib_le hg_bar_4 h9 c10
      have h12 : ib (g_bar 4) 0 60 := ib_w 0 60 h11.1 rfl
      exact jn25  H locs ls (by exact hq) hP hD hS (lv_sub hl [0, 1, 2] rfl)
    · replace hq := lf_neg hq (lf_nle (lf_pt (lf_ra g_bar) 4) (lf_rf p0) c10)
      have h13 := ib_nle hg_bar_4 h9 c10
      have h14 : ib (g_bar 4) 2 120 := ib_w 2 120 h13.1 rfl
      refine lv_iconst (v := 1) hx hb dX10_isGreenLong_21 rfl ?_
      refine lv_goto (tgt := 26) hx hb dX10_isGreenLong_22 rfl ?_
      subst hQ; exact k_iret hx hb hr hlk (k_nb 1 rfl) () hS ⟨ib_w 0 1 (ib_c 1 1 1 rfl) rfl, fun _ => ib_w 2 120 h14 rfl, fun _ => ib_w 1 60 h9 rfl, (hO.symm.trans (by try simp only [show (1 : Int32).toInt = (1 : Int) from rfl]; exact hq))⟩ hP hD (Nat.le_of_ble_eq_true rfl) (Nat.le_of_ble_eq_true rfl) dX10_isGreenLong_26
set_option maxHeartbeats 4000000 in
set_option maxRecDepth 100000 in
theorem s_X10_isRefused (l : Launch) (dC : Nat → ClassId) (dI : Nat → Nat → Nat) (cy : Nat → ClassId) (sq : Nat → Nat) (a_this : Nat) (rm : Nat → Nat) (x_taped : Int32) (x_at : Int32) (x_end : Int32) (x_ended : Int32) (x_bad : Int32) (x_badPlace : Int32) (x_fault : Int32) (x_faultPlace : Int32) (x_namePlace : Int32) (x_awayTold : Int32) (x_away : Int32) (x_coded : Int32) (x_statements : Int32) (x_isCrossing : Int32) (x_textKind : Int32) (x_askSecond : Int32) (x_redMany : Int32) (x_isOpen : Int32) (x_lastGreen : Int32) (x_greenTo : Int32) (x_isCycleGreen : Int32) (x_stillGreen : Int32) (x_rowMany : Int32) (x_fitMany : Int32) (x_fitRules : Int32) (x_fitGreen : Int32) (x_undoable : Int32) (x_newest : Int32) (x_seeded : Int64) (x_qCoded : Int32) (x_qWaits : Int32) (x_qOpened : Int32) (x_qBase : Int32) (x_qPiled : Int32) (x_qAnswer : Int64) (x_qIsNew : Int32) (x_octets : Int32) (g_refused : Nat → Int32)  : k_Met l yX10_isRefused cX10_isRefused 1 (some .boolean) { frames := 0, cells := 0, slots := 0, locals := 0 } dC dI cy sq [.ref a_this] [(a_this, .inr (10, mfs rm x_taped x_at x_end x_ended x_bad x_badPlace x_fault x_faultPlace x_namePlace x_awayTold x_away x_coded x_statements x_isCrossing x_textKind x_askSecond x_redMany x_isOpen x_lastGreen x_greenTo x_isCycleGreen x_stillGreen x_rowMany x_fitMany x_fitRules x_fitGreen x_undoable x_newest x_seeded x_qCoded x_qWaits x_qOpened x_qBase x_qPiled x_qAnswer x_qIsNew x_octets)), (wi_rm9_0_6_0 rm cy g_refused)] (k_Qi dC dI (fun (r : Int32) (n0 : (Nat → Int32)) => ib r 0 0 ∧ (F_X10_isRefused (lf_A g_refused) = ((Int32.toInt r), (lf_A n0)))) (fun n0 : (Nat → Int32) => [(a_this, .inr (10, mfs rm x_taped x_at x_end x_ended x_bad x_badPlace x_fault x_faultPlace x_namePlace x_awayTold x_away x_coded x_statements x_isCrossing x_textKind x_askSecond x_redMany x_isOpen x_lastGreen x_greenTo x_isCycleGreen x_stillGreen x_rowMany x_fitMany x_fitRules x_fitGreen x_undoable x_newest x_seeded x_qCoded x_qWaits x_qOpened x_qBase x_qPiled x_qAnswer x_qIsNew x_octets)), (wi_rm9_0_6_0 rm cy n0)])) := by
  refine k_ofW2 (by decide +kernel) (Nat.le_of_ble_eq_true rfl) ?_
  intro p e s m below meth c A ls H locs args Q hQ C0 hZ hr hlk hin hP hD hA hS hl
  have C0 : k_cx p s m args c cX10_isRefused 1 RX10 dC dI cy sq := C0
  have hx := C0.1
  have hb := C0.2.1
  have hl : lv_has ls 1 [(0, .ref a_this)] := hl
  obtain ⟨O, hO⟩ : ∃ o, o = F_X10_isRefused (lf_A g_refused) := ⟨_, rfl⟩
  have hq := hO
  unfold F_X10_isRefused at hq
  refine lv_aload_n hx hb dX10_isRefused_0 rfl (lv_at hl 0 rfl) ?_
  refine k_get C0 fg_X10_17 hP 0 rfl rfl dX10_isRefused_1 ?_
  refine lv_iconst (v := 2) hx hb dX10_isRefused_4 rfl ?_
  refine lv_dup2_11 hx hb dX10_isRefused_5 rfl rfl ?_
  refine va_iald hx hb C0.2.2.2.2.2.1 hP 1 0 rfl rfl (k_in 2 6 rfl) dX10_isRefused_6 ?_
  refine lv_topi (fun z1 ez1 => ?_)
  have Ez1 := lf_ld ez1 (lf_ra g_refused) (lf_lc 2 (2 : Int) rfl)
  refine lv_iconst (v := 1) hx hb dX10_isRefused_7 rfl ?_
  refine lv_iadd hx hb dX10_isRefused_8 ?_
  refine lv_topi (fun z2 ez2 => ?_)
  have Ez2 := lf_op lf_iadd ez2 Ez1 (lf_lc 1 (1 : Int) rfl)
  refine va_iast hx hb C0.2.2.2.2.2.1 hP hD hS 1 0 rfl rfl (k_in 2 6 rfl) dX10_isRefused_9 (fun H locs hP hD hS => ?_)
  replace hP : va_P (dC, dI) vwCl [(a_this, .inr (10, mfs rm x_taped x_at x_end x_ended x_bad x_badPlace x_fault x_faultPlace x_namePlace x_awayTold x_away x_coded x_statements x_isCrossing x_textKind x_askSecond x_redMany x_isOpen x_lastGreen x_greenTo x_isCycleGreen x_stillGreen x_rowMany x_fitMany x_fitRules x_fitGreen x_undoable x_newest x_seeded x_qCoded x_qWaits x_qOpened x_qBase x_qPiled x_qAnswer x_qIsNew x_octets)), (wi_rm9_0_6_0 rm cy (upd g_refused 2 z2))] H := hP
  replace hD := k_D hP hD
  generalize ef3 : upd g_refused 2 z2 = f3 at hP hD
  have Ef3 := lf_stn (X := (2 : Int)) ef3 (lf_ra g_refused) rfl Ez2
  refine lv_iconst (v := 0) hx hb dX10_isRefused_10 rfl ?_
  subst hQ; exact k_iret hx hb hr hlk (k_nb 0 rfl) f3 hS ⟨ib_w 0 0 (ib_c 0 0 0 rfl) rfl, (hO.symm.trans (by try simp only [show (0 : Int32).toInt = (0 : Int) from rfl]; rw [lf_ua Ef3]; exact hq))⟩ hP hD (Nat.le_of_ble_eq_true rfl) (Nat.le_of_ble_eq_true rfl) dX10_isRefused_11
set_option maxHeartbeats 4000000 in
set_option maxRecDepth 100000 in
theorem s_X10_green (l : Launch) (dC : Nat → ClassId) (dI : Nat → Nat → Nat) (cy : Nat → ClassId) (sq : Nat → Nat) (a_this : Nat) (rm : Nat → Nat) (x_taped : Int32) (x_at : Int32) (x_end : Int32) (x_ended : Int32) (x_bad : Int32) (x_badPlace : Int32) (x_fault : Int32) (x_faultPlace : Int32) (x_namePlace : Int32) (x_awayTold : Int32) (x_away : Int32) (x_coded : Int32) (x_statements : Int32) (x_isCrossing : Int32) (x_textKind : Int32) (x_askSecond : Int32) (x_redMany : Int32) (x_isOpen : Int32) (x_lastGreen : Int32) (x_greenTo : Int32) (x_isCycleGreen : Int32) (x_stillGreen : Int32) (x_rowMany : Int32) (x_fitMany : Int32) (x_fitRules : Int32) (x_fitGreen : Int32) (x_undoable : Int32) (x_newest : Int32) (x_seeded : Int64) (x_qCoded : Int32) (x_qWaits : Int32) (x_qOpened : Int32) (x_qBase : Int32) (x_qPiled : Int32) (x_qAnswer : Int64) (x_qIsNew : Int32) (x_octets : Int32) (g_refused : Nat → Int32) (g_bar : Nat → Int32) (g_now : Nat → Int32) (g_kept0 : Nat → Int32) (p0 : Int32) (hx_isCrossing : ib x_isCrossing 0 1) (hx_undoable : ib x_undoable 0 20) (hx_newest : ib x_newest 0 19) (hg_bar_4 : ib (g_bar 4) 0 120) (hc_cr : ¬ x_isCrossing = 0 → ib (g_bar 4) 10 120) : k_Met l yX10_green cX10_green 2 (some .boolean) { frames := 2, cells := 0, slots := 0, locals := 47 } dC dI cy sq [.ref a_this, .int p0] [(a_this, .inr (10, mfs rm x_taped x_at x_end x_ended x_bad x_badPlace x_fault x_faultPlace x_namePlace x_awayTold x_away x_coded x_statements x_isCrossing x_textKind x_askSecond x_redMany x_isOpen x_lastGreen x_greenTo x_isCycleGreen x_stillGreen x_rowMany x_fitMany x_fitRules x_fitGreen x_undoable x_newest x_seeded x_qCoded x_qWaits x_qOpened x_qBase x_qPiled x_qAnswer x_qIsNew x_octets)), (wi_rm43_0_8_0 rm cy g_bar), (wi_rm56_0_9_0 rm cy g_now), (wi_rm81_0_180_0 rm cy g_kept0), (wi_rm9_0_6_0 rm cy g_refused)] (k_Qi dC dI (fun (r : Int32) (u : Int32 × Int32 × (Nat → Int32) × (Nat → Int32) × (Nat → Int32)) => match u with | (n0, n1, n2, n3, n4) => ib n0 0 20 ∧ ib n1 0 19 ∧ ib r 0 1 ∧ (¬ r = 0 → ib n0 1 20) ∧ (¬ r = 0 → ib (g_bar 4) 10 120) ∧ (¬ r = 0 → ib x_isCrossing 1 1) ∧ (¬ r = 0 → ib p0 1 60) ∧ (F_X10_green (Int32.toInt x_isCrossing) (Int32.toInt x_undoable) (Int32.toInt x_newest) (lf_A g_refused) (lf_A g_bar) (lf_A g_now) (lf_A g_kept0) (Int32.toInt p0) = ((Int32.toInt r), (Int32.toInt n0), (Int32.toInt n1), (lf_A n2), (lf_A n3), (lf_A n4)))) (fun u : Int32 × Int32 × (Nat → Int32) × (Nat → Int32) × (Nat → Int32) => match u with | (n0, n1, n2, n3, n4) => [(a_this, .inr (10, mfs rm x_taped x_at x_end x_ended x_bad x_badPlace x_fault x_faultPlace x_namePlace x_awayTold x_away x_coded x_statements x_isCrossing x_textKind x_askSecond x_redMany x_isOpen x_lastGreen x_greenTo x_isCycleGreen x_stillGreen x_rowMany x_fitMany x_fitRules x_fitGreen n0 n1 x_seeded x_qCoded x_qWaits x_qOpened x_qBase x_qPiled x_qAnswer x_qIsNew x_octets)), (wi_rm43_0_8_0 rm cy g_bar), (wi_rm56_0_9_0 rm cy n2), (wi_rm81_0_180_0 rm cy n3), (wi_rm9_0_6_0 rm cy n4)])) := by
  refine k_ofW2 (by decide +kernel) (Nat.le_of_ble_eq_true rfl) ?_
  intro p e s m below meth c A ls H locs args Q hQ C0 hZ hr hlk hin hP hD hA hS hl
  have C0 : k_cx p s m args c cX10_green 2 RX10 dC dI cy sq := C0
  have hx := C0.1
  have hb := C0.2.1
  have hl : lv_has ls 2 [(0, .ref a_this), (1, .int p0)] := hl
  obtain ⟨O, hO⟩ : ∃ o, o = F_X10_green (Int32.toInt x_isCrossing) (Int32.toInt x_undoable) (Int32.toInt x_newest) (lf_A g_refused) (lf_A g_bar) (lf_A g_now) (lf_A g_kept0) (Int32.toInt p0) := ⟨_, rfl⟩
  have hq := hO
  unfold F_X10_green at hq
  have jn27 : ∀  (H : Heap) (locs : List Loc) (ls : Array Slot), (O = F_X10_green_27 (Int32.toInt x_undoable) (Int32.toInt x_newest) (lf_A g_refused) (lf_A g_now) (lf_A g_kept0) ) → va_P (dC, dI) vwCl [(a_this, .inr (10, mfs rm x_taped x_at x_end x_ended x_bad x_badPlace x_fault x_faultPlace x_namePlace x_awayTold x_away x_coded x_statements x_isCrossing x_textKind x_askSecond x_redMany x_isOpen x_lastGreen x_greenTo x_isCycleGreen x_stillGreen x_rowMany x_fitMany x_fitRules x_fitGreen x_undoable x_newest x_seeded x_qCoded x_qWaits x_qOpened x_qBase x_qPiled x_qAnswer x_qIsNew x_octets)), (wi_rm43_0_8_0 rm cy g_bar), (wi_rm56_0_9_0 rm cy g_now), (wi_rm81_0_180_0 rm cy g_kept0), (wi_rm9_0_6_0 rm cy g_refused)] H → va_D A [(a_this, .inr (10, mfs rm x_taped x_at x_end x_ended x_bad x_badPlace x_fault x_faultPlace x_namePlace x_awayTold x_away x_coded x_statements x_isCrossing x_textKind x_askSecond x_redMany x_isOpen x_lastGreen x_greenTo x_isCycleGreen x_stillGreen x_rowMany x_fitMany x_fitRules x_fitGreen x_undoable x_newest x_seeded x_qCoded x_qWaits x_qOpened x_qBase x_qPiled x_qAnswer x_qIsNew x_octets)), (wi_rm43_0_8_0 rm cy g_bar), (wi_rm56_0_9_0 rm cy g_now), (wi_rm81_0_180_0 rm cy g_kept0), (wi_rm9_0_6_0 rm cy g_refused)] → va_S A s.heap H locs → lv_has ls 2 [(0, .ref a_this), (1, .int p0)] → W p l e { frames := 2, cells := 0, slots := 0, locals := 47 } s m args below meth c H locs 0 0 Q (F0 m 27 ls []) := by
    intro H locs ls hq hP hD hS hl
    unfold F_X10_green_27 at hq
    refine lv_aload_n hx hb dX10_green_27 rfl (lv_at hl 0 rfl) ?_
    refine k_jim hP hD hS hA [0, 4] [false, true, true, true] rfl rfl rfl 0 0 (Nat.le_of_ble_eq_true rfl) (Nat.le_of_ble_eq_true rfl) (fun hPc hDc => k_runV (As := []) (rest := []) C0 hZ hS hA (s_X10_isRefused l dC dI cy sq a_this rm x_taped x_at x_end x_ended x_bad x_badPlace x_fault x_faultPlace x_namePlace x_awayTold x_away x_coded x_statements x_isCrossing x_textKind x_askSecond x_redMany x_isOpen x_lastGreen x_greenTo x_isCycleGreen x_stillGreen x_rowMany x_fitMany x_fitRules x_fitGreen x_undoable x_newest x_seeded x_qCoded x_qWaits x_qOpened x_qBase x_qPiled x_qAnswer x_qIsNew x_octets g_refused ) mV_X10_591 hPc hDc rfl rfl rfl hl rfl rfl (Nat.le_of_ble_eq_true rfl) ⟨(Nat.le_of_ble_eq_true rfl), (Nat.le_of_ble_eq_true rfl)⟩ ⟨(Nat.le_of_ble_eq_true rfl), (Nat.le_of_ble_eq_true rfl)⟩ dX10_green_28) (fun r1 u2 H locs hw hP hD hS => ?_)
    obtain ⟨f3, ef3⟩ : ∃ z, z = u2 := ⟨_, rfl⟩; subst ef3
    try dsimp only at hP hD hw
    replace hP : va_P (dC, dI) vwCl [(wi_rm43_0_8_0 rm cy g_bar), (wi_rm56_0_9_0 rm cy g_now), (wi_rm81_0_180_0 rm cy g_kept0), (a_this, .inr (10, mfs rm x_taped x_at x_end x_ended x_bad x_badPlace x_fault x_faultPlace x_namePlace x_awayTold x_away x_coded x_statements x_isCrossing x_textKind x_askSecond x_redMany x_isOpen x_lastGreen x_greenTo x_isCycleGreen x_stillGreen x_rowMany x_fitMany x_fitRules x_fitGreen x_undoable x_newest x_seeded x_qCoded x_qWaits x_qOpened x_qBase x_qPiled x_qAnswer x_qIsNew x_octets)), (wi_rm9_0_6_0 rm cy f3)] H := hP
    replace hD := k_D hP hD
    obtain ⟨h4, h5⟩ := hw
    replace hq := lf_p1 hq h5
    subst hQ; exact k_iret hx hb hr hlk (ib_bool (ib_w 0 1 h4 rfl)) ((x_undoable, x_newest, g_now, g_kept0, f3)) hS ⟨ib_w 0 20 hx_undoable rfl, ib_w 0 19 hx_newest rfl, ib_w 0 1 h4 rfl, fun hq9 => absurd (ib_one h4 rfl) hq9, fun hq9 => absurd (ib_one h4 rfl) hq9, fun hq9 => absurd (ib_one h4 rfl) hq9, fun hq9 => absurd (ib_one h4 rfl) hq9, (hO.symm.trans (by exact hq))⟩ (hP.sub [3, 0, 1, 2, 4] rfl) (hD.sub [3, 0, 1, 2, 4] rfl rfl) (Nat.le_of_ble_eq_true rfl) (Nat.le_of_ble_eq_true rfl) dX10_green_31
  refine lv_aload_n hx hb dX10_green_0 rfl (lv_at hl 0 rfl) ?_
  refine k_get C0 fg_X10_417 hP 0 rfl rfl dX10_green_1 ?_
  refine lv_if_eq (tgt := 27) hx hb dX10_green_4 rfl (fun c6 => ?_) (fun c6 => ?_)
  · replace hq := lf_pos hq (lf_eq (lf_rf x_isCrossing) (lf_lc 0 (0 : Int) rfl) c6)
    have h7 := ib_eq hx_isCrossing (ib_c 0 0 0 rfl) c6
    have h8 : ib x_isCrossing 0 0 := ib_w 0 0 h7.1 rfl
    exact jn27  H locs ls (by exact hq) hP hD hS (lv_sub hl [0, 1] rfl)
  · as_aux_lemma =>
      replace hq := lf_neg hq (lf_ne (lf_rf x_isCrossing) (lf_lc 0 (0 : Int) rfl) c6)
      have h9 : ib x_isCrossing 1 1 := ib_w 1 1 (ib_ne_lo 0 hx_isCrossing rfl c6) rfl
      have h10 : ib (g_bar 4) 10 120 := ib_w 10 120 (ib_two hg_bar_4 (hc_cr (ib_nz h9 rfl))) rfl
      refine lv_aload_n hx hb dX10_green_7 rfl (lv_at hl 0 rfl) ?_
      refine lv_iload_n hx hb dX10_green_8 rfl (lv_at hl 1 rfl) ?_
      refine lv_bipush (v := 60) hx hb dX10_green_9 rfl ?_
      refine k_jim hP hD hS hA [0, 1] [false, false, true, true, true] rfl rfl rfl 0 0 (Nat.le_of_ble_eq_true rfl) (Nat.le_of_ble_eq_true rfl) (fun hPc hDc => k_runV (As := [.int p0, .int 60]) (rest := []) C0 hZ hS hA (s_X10_isGreenLong_a1_60 l dC dI cy sq a_this rm x_taped x_at x_end x_ended x_bad x_badPlace x_fault x_faultPlace x_namePlace x_awayTold x_away x_coded x_statements x_isCrossing x_textKind x_askSecond x_redMany x_isOpen x_lastGreen x_greenTo x_isCycleGreen x_stillGreen x_rowMany x_fitMany x_fitRules x_fitGreen x_undoable x_newest x_seeded x_qCoded x_qWaits x_qOpened x_qBase x_qPiled x_qAnswer x_qIsNew x_octets g_bar p0 (ib_w 0 120 h10 rfl)) mV_X10_548 hPc hDc rfl rfl rfl hl rfl rfl (Nat.le_of_ble_eq_true rfl) ⟨(Nat.le_of_ble_eq_true rfl), (Nat.le_of_ble_eq_true rfl)⟩ ⟨(Nat.le_of_ble_eq_true rfl), (Nat.le_of_ble_eq_true rfl)⟩ dX10_green_11) (fun r11 u12 H locs hw hP hD hS => ?_)
      try dsimp only at hP hD hw
      replace hP : va_P (dC, dI) vwCl [(wi_rm56_0_9_0 rm cy g_now), (wi_rm81_0_180_0 rm cy g_kept0), (wi_rm9_0_6_0 rm cy g_refused), (a_this, .inr (10, mfs rm x_taped x_at x_end x_ended x_bad x_badPlace x_fault x_faultPlace x_namePlace x_awayTold x_away x_coded x_statements x_isCrossing x_textKind x_askSecond x_redMany x_isOpen x_lastGreen x_greenTo x_isCycleGreen x_stillGreen x_rowMany x_fitMany x_fitRules x_fitGreen x_undoable x_newest x_seeded x_qCoded x_qWaits x_qOpened x_qBase x_qPiled x_qAnswer x_qIsNew x_octets)), (wi_rm43_0_8_0 rm cy g_bar)] H := hP
      replace hD := k_D hP hD
      obtain ⟨h13, h14, h15, h16⟩ := hw
      replace hq := lf_b1 hq h16
      refine lv_if_eq (tgt := 27) hx hb dX10_green_14 rfl (fun c17 => ?_) (fun c17 => ?_)
      · replace hq := lf_pos hq (lf_eq (lf_rf r11) (lf_lc 0 (0 : Int) rfl) c17)
        have h18 := ib_eq h13 (ib_c 0 0 0 rfl) c17
        have h19 : ib r11 0 0 := ib_w 0 0 h18.1 rfl
        exact jn27  H locs ls (by exact hq) (hP.sub [3, 4, 0, 1, 2] rfl) (hD.sub [3, 4, 0, 1, 2] rfl rfl) hS (lv_sub hl [0, 1] rfl)
      · as_aux_lemma =>
          replace hq := lf_neg hq (lf_ne (lf_rf r11) (lf_lc 0 (0 : Int) rfl) c17)
          have h20 : ib r11 1 1 := ib_w 1 1 (ib_ne_lo 0 h13 rfl c17) rfl
          have h21 : ib p0 1 60 := ib_w 1 60 (ib_two (ib_any p0) (h15 (ib_nz h20 rfl))) rfl
          refine lv_aload_n hx hb dX10_green_17 rfl (lv_at hl 0 rfl) ?_
          refine k_get C0 fg_X10_139 hP 3 rfl rfl dX10_green_18 ?_
          refine lv_iconst (v := 2) hx hb dX10_green_21 rfl ?_
          refine va_iald hx hb C0.2.2.2.2.2.1 hP 0 0 rfl rfl (k_in 2 9 rfl) dX10_green_22 ?_
          refine lv_topi (fun z22 ez22 => ?_)
          have Ez22 := lf_ld ez22 (lf_ra g_now) (lf_lc 2 (2 : Int) rfl)
          refine lv_iload_n hx hb dX10_green_23 rfl (lv_at hl 1 rfl) ?_
          refine lv_icmp_ne (tgt := 32) hx hb dX10_green_24 rfl (fun c23 => ?_) (fun c23 => ?_)
          · as_aux_lemma =>
              replace hq := lf_neg hq (lf_ne Ez22 (lf_rf p0) c23)
              refine lv_aload_n hx hb dX10_green_32 rfl (lv_at hl 0 rfl) ?_
              refine k_jvm hP hD hS hA [3, 0, 1] [false, false, true, false, true] rfl rfl rfl 0 0 (Nat.le_of_ble_eq_true rfl) (Nat.le_of_ble_eq_true rfl) (fun hPc hDc => k_runV (As := []) (rest := []) C0 hZ hS hA (s_X10_keeps l dC dI cy sq a_this rm x_taped x_at x_end x_ended x_bad x_badPlace x_fault x_faultPlace x_namePlace x_awayTold x_away x_coded x_statements x_isCrossing x_textKind x_askSecond x_redMany x_isOpen x_lastGreen x_greenTo x_isCycleGreen x_stillGreen x_rowMany x_fitMany x_fitRules x_fitGreen x_undoable x_newest x_seeded x_qCoded x_qWaits x_qOpened x_qBase x_qPiled x_qAnswer x_qIsNew x_octets g_now g_kept0 (ib_w 0 20 hx_undoable rfl) (ib_w 0 19 hx_newest rfl)) mV_X10_594 hPc hDc rfl rfl rfl hl rfl rfl (Nat.le_of_ble_eq_true rfl) ⟨(Nat.le_of_ble_eq_true rfl), (Nat.le_of_ble_eq_true rfl)⟩ ⟨(Nat.le_of_ble_eq_true rfl), (Nat.le_of_ble_eq_true rfl)⟩ dX10_green_33) (fun u25 H locs hw hP hD hS => ?_)
              obtain ⟨v26, v27, f28⟩ := u25
              try dsimp only at hP hD hw
              replace hP : va_P (dC, dI) vwCl [(wi_rm9_0_6_0 rm cy g_refused), (wi_rm43_0_8_0 rm cy g_bar), (a_this, .inr (10, mfs rm x_taped x_at x_end x_ended x_bad x_badPlace x_fault x_faultPlace x_namePlace x_awayTold x_away x_coded x_statements x_isCrossing x_textKind x_askSecond x_redMany x_isOpen x_lastGreen x_greenTo x_isCycleGreen x_stillGreen x_rowMany x_fitMany x_fitRules x_fitGreen v26 v27 x_seeded x_qCoded x_qWaits x_qOpened x_qBase x_qPiled x_qAnswer x_qIsNew x_octets)), (wi_rm56_0_9_0 rm cy g_now), (wi_rm81_0_180_0 rm cy f28)] H := hP
              replace hD := k_D hP hD
              obtain ⟨h29, h30, h31⟩ := hw
              replace hq := lf_p1 hq h31
              replace hq := lf_p1 hq rfl
              refine lv_aload_n hx hb dX10_green_36 rfl (lv_at hl 0 rfl) ?_
              refine k_get C0 fg_X10_139 hP 2 rfl rfl dX10_green_37 ?_
              refine lv_iconst (v := 2) hx hb dX10_green_40 rfl ?_
              refine lv_iload_n hx hb dX10_green_41 rfl (lv_at hl 1 rfl) ?_
              refine va_iast hx hb C0.2.2.2.2.2.1 hP hD hS 3 0 rfl rfl (k_in 2 9 rfl) dX10_green_42 (fun H locs hP hD hS => ?_)
              replace hP : va_P (dC, dI) vwCl [(wi_rm9_0_6_0 rm cy g_refused), (wi_rm43_0_8_0 rm cy g_bar), (a_this, .inr (10, mfs rm x_taped x_at x_end x_ended x_bad x_badPlace x_fault x_faultPlace x_namePlace x_awayTold x_away x_coded x_statements x_isCrossing x_textKind x_askSecond x_redMany x_isOpen x_lastGreen x_greenTo x_isCycleGreen x_stillGreen x_rowMany x_fitMany x_fitRules x_fitGreen v26 v27 x_seeded x_qCoded x_qWaits x_qOpened x_qBase x_qPiled x_qAnswer x_qIsNew x_octets)), (wi_rm56_0_9_0 rm cy (upd g_now 2 p0)), (wi_rm81_0_180_0 rm cy f28)] H := hP
              replace hD := k_D hP hD
              generalize ef32 : upd g_now 2 p0 = f32 at hP hD
              have Ef32 := lf_stn (X := (2 : Int)) ef32 (lf_ra g_now) rfl (lf_rf p0)
              refine lv_iconst (v := 1) hx hb dX10_green_43 rfl ?_
              subst hQ; exact k_iret hx hb hr hlk (k_nb 1 rfl) ((v26, v27, f32, f28, g_refused)) hS ⟨ib_w 0 20 h29 rfl, ib_w 0 19 h30 rfl, ib_w 0 1 (ib_c 1 1 1 rfl) rfl, fun _ => ib_w 1 20 h29 rfl, fun _ => ib_w 10 120 h10 rfl, fun _ => ib_w 1 1 h9 rfl, fun _ => ib_w 1 60 h21 rfl, (hO.symm.trans (by try simp only [show (1 : Int32).toInt = (1 : Int) from rfl]; rw [lf_ua Ef32]; exact hq))⟩ (hP.sub [2, 1, 3, 4, 0] rfl) (hD.sub [2, 1, 3, 4, 0] rfl rfl) (Nat.le_of_ble_eq_true rfl) (Nat.le_of_ble_eq_true rfl) dX10_green_44
          · replace hq := lf_pos hq (lf_eq Ez22 (lf_rf p0) c23)
            have h33 := ib_eq (ib_any z22) h21 c23
            have h34 : ib z22 1 60 := ib_w 1 60 h33.1 rfl
            exact jn27  H locs ls (by exact hq) (hP.sub [3, 4, 0, 1, 2] rfl) (hD.sub [3, 4, 0, 1, 2] rfl rfl) hS (lv_sub hl [0, 1] rfl)
set_option maxHeartbeats 4000000 in
set_option maxRecDepth 100000 in
theorem s_X10_has (l : Launch) (dC : Nat → ClassId) (dI : Nat → Nat → Nat) (cy : Nat → ClassId) (sq : Nat → Nat) (a_this : Nat) (rm : Nat → Nat) (x_taped : Int32) (x_at : Int32) (x_end : Int32) (x_ended : Int32) (x_bad : Int32) (x_badPlace : Int32) (x_fault : Int32) (x_faultPlace : Int32) (x_namePlace : Int32) (x_awayTold : Int32) (x_away : Int32) (x_coded : Int32) (x_statements : Int32) (x_isCrossing : Int32) (x_textKind : Int32) (x_askSecond : Int32) (x_redMany : Int32) (x_isOpen : Int32) (x_lastGreen : Int32) (x_greenTo : Int32) (x_isCycleGreen : Int32) (x_stillGreen : Int32) (x_rowMany : Int32) (x_fitMany : Int32) (x_fitRules : Int32) (x_fitGreen : Int32) (x_undoable : Int32) (x_newest : Int32) (x_seeded : Int64) (x_qCoded : Int32) (x_qWaits : Int32) (x_qOpened : Int32) (x_qBase : Int32) (x_qPiled : Int32) (x_qAnswer : Int64) (x_qIsNew : Int32) (x_octets : Int32) (g_many : Nat → Int32) (g_bar : Nat → Int32) (g_now : Nat → Int32) (p0 : Int32)  : k_Met l yX10_has cX10_has 2 (some .int) { frames := 1, cells := 0, slots := 0, locals := 20 } dC dI cy sq [.ref a_this, .int p0] [(a_this, .inr (10, mfs rm x_taped x_at x_end x_ended x_bad x_badPlace x_fault x_faultPlace x_namePlace x_awayTold x_away x_coded x_statements x_isCrossing x_textKind x_askSecond x_redMany x_isOpen x_lastGreen x_greenTo x_isCycleGreen x_stillGreen x_rowMany x_fitMany x_fitRules x_fitGreen x_undoable x_newest x_seeded x_qCoded x_qWaits x_qOpened x_qBase x_qPiled x_qAnswer x_qIsNew x_octets)), (wi_rm43_0_8_0 rm cy g_bar), (wi_rm41_0_4_0 rm cy g_many), (wi_rm56_0_9_0 rm cy g_now)] (k_Qi dC dI (fun (r : Int32) (_ : Unit) => (F_X10_has (Int32.toInt x_rowMany) (Int32.toInt x_undoable) (lf_A g_many) (lf_A g_bar) (lf_A g_now) (Int32.toInt p0) = ((Int32.toInt r)))) (fun _ : Unit => [(a_this, .inr (10, mfs rm x_taped x_at x_end x_ended x_bad x_badPlace x_fault x_faultPlace x_namePlace x_awayTold x_away x_coded x_statements x_isCrossing x_textKind x_askSecond x_redMany x_isOpen x_lastGreen x_greenTo x_isCycleGreen x_stillGreen x_rowMany x_fitMany x_fitRules x_fitGreen x_undoable x_newest x_seeded x_qCoded x_qWaits x_qOpened x_qBase x_qPiled x_qAnswer x_qIsNew x_octets)), (wi_rm43_0_8_0 rm cy g_bar), (wi_rm41_0_4_0 rm cy g_many), (wi_rm56_0_9_0 rm cy g_now)])) := by
  refine k_ofW2 (by decide +kernel) (Nat.le_of_ble_eq_true rfl) ?_
  intro p e s m below meth c A ls H locs args Q hQ C0 hZ hr hlk hin hP hD hA hS hl
  have C0 : k_cx p s m args c cX10_has 2 RX10 dC dI cy sq := C0
  have hx := C0.1
  have hb := C0.2.1
  have hl : lv_has ls 2 [(0, .ref a_this), (1, .int p0)] := hl
  obtain ⟨O, hO⟩ : ∃ o, o = F_X10_has (Int32.toInt x_rowMany) (Int32.toInt x_undoable) (lf_A g_many) (lf_A g_bar) (lf_A g_now) (Int32.toInt p0) := ⟨_, rfl⟩
  have hq := hO
  unfold F_X10_has at hq
  have jn65 : ∀  (H : Heap) (locs : List Loc) (ls : Array Slot), ib p0 3 5 → (O = F_X10_has_65 (lf_A g_now) (Int32.toInt p0) ) → va_P (dC, dI) vwCl [(a_this, .inr (10, mfs rm x_taped x_at x_end x_ended x_bad x_badPlace x_fault x_faultPlace x_namePlace x_awayTold x_away x_coded x_statements x_isCrossing x_textKind x_askSecond x_redMany x_isOpen x_lastGreen x_greenTo x_isCycleGreen x_stillGreen x_rowMany x_fitMany x_fitRules x_fitGreen x_undoable x_newest x_seeded x_qCoded x_qWaits x_qOpened x_qBase x_qPiled x_qAnswer x_qIsNew x_octets)), (wi_rm43_0_8_0 rm cy g_bar), (wi_rm41_0_4_0 rm cy g_many), (wi_rm56_0_9_0 rm cy g_now)] H → va_D A [(a_this, .inr (10, mfs rm x_taped x_at x_end x_ended x_bad x_badPlace x_fault x_faultPlace x_namePlace x_awayTold x_away x_coded x_statements x_isCrossing x_textKind x_askSecond x_redMany x_isOpen x_lastGreen x_greenTo x_isCycleGreen x_stillGreen x_rowMany x_fitMany x_fitRules x_fitGreen x_undoable x_newest x_seeded x_qCoded x_qWaits x_qOpened x_qBase x_qPiled x_qAnswer x_qIsNew x_octets)), (wi_rm43_0_8_0 rm cy g_bar), (wi_rm41_0_4_0 rm cy g_many), (wi_rm56_0_9_0 rm cy g_now)] → va_S A s.heap H locs → lv_has ls 2 [(0, .ref a_this), (1, .int p0)] → W p l e { frames := 1, cells := 0, slots := 0, locals := 20 } s m args below meth c H locs 0 0 Q (F0 m 65 ls []) := by
    intro H locs ls hK65_p0 hq hP hD hS hl
    unfold F_X10_has_65 at hq
    refine lv_aload_n hx hb dX10_has_65 rfl (lv_at hl 0 rfl) ?_
    refine k_get C0 fg_X10_139 hP 0 rfl rfl dX10_has_66 ?_
    refine lv_iload_n hx hb dX10_has_69 rfl (lv_at hl 1 rfl) ?_
    refine lv_iconst (v := 3) hx hb dX10_has_70 rfl ?_
    refine lv_isub hx hb dX10_has_71 ?_
    refine lv_topi (fun z1 ez1 => ?_)
    have h2 := ib_sub hK65_p0 (ib_c 3 3 3 rfl) rfl
    rw [← ez1] at h2
    have h3 : ib z1 0 2 := ib_w 0 2 h2.1 rfl
    have Ez1 := lf_sub h2.2 (lf_rf p0) (lf_lc 3 (3 : Int) rfl)
    refine va_iald hx hb C0.2.2.2.2.2.1 hP 3 0 rfl rfl (ib_in 9 h3 rfl) dX10_has_72 ?_
    refine lv_topi (fun z4 ez4 => ?_)
    have Ez4 := lf_ld ez4 (lf_ra g_now) Ez1
    subst hQ; exact k_iret hx hb hr hlk rfl () hS ((hO.symm.trans (by rw [lf_u Ez4]; exact hq))) hP hD (Nat.le_of_ble_eq_true rfl) (Nat.le_of_ble_eq_true rfl) dX10_has_73
  refine lv_iload_n hx hb dX10_has_0 rfl (lv_at hl 1 rfl) ?_
  rcases Decidable.em (p0 = 0) with s5_0 | s5_0
  · skip
    replace hq := lf_pos hq (lf_eq (lf_rf p0) (lf_lc 0 (0 : Int) rfl) s5_0)
    have h6 : ib p0 0 0 := by rw [s5_0]; exact ib_c 0 0 0 rfl
    refine lv_tableIn (off := 47) (tgt := 48) hx hb dX10_has_1 (by rw [s5_0]; decide) (by rw [s5_0]; decide) (by rw [s5_0]; decide) (by decide) ?_
    refine lv_aload_n hx hb dX10_has_48 rfl (lv_at hl 0 rfl) ?_
    refine k_get C0 fg_X10_118 hP 0 rfl rfl dX10_has_49 ?_
    refine lv_iconst (v := 4) hx hb dX10_has_52 rfl ?_
    refine va_iald hx hb C0.2.2.2.2.2.1 hP 1 0 rfl rfl (k_in 4 8 rfl) dX10_has_53 ?_
    refine k_topi (y := g_bar 4) rfl ?_
    subst hQ; exact k_iret hx hb hr hlk rfl () hS ((hO.symm.trans (by rw [lf_u (lf_pt (lf_ra g_bar) 4)]; exact hq))) hP hD (Nat.le_of_ble_eq_true rfl) (Nat.le_of_ble_eq_true rfl) dX10_has_54
  replace hq := lf_neg hq (lf_ne (lf_rf p0) (lf_lc 0 (0 : Int) rfl) s5_0)
  rcases Decidable.em (p0 = 1) with s5_1 | s5_1
  · skip
    replace hq := lf_pos hq (lf_eq (lf_rf p0) (lf_lc 1 (1 : Int) rfl) s5_1)
    have h7 : ib p0 1 1 := by rw [s5_1]; exact ib_c 1 1 1 rfl
    refine lv_tableIn (off := 54) (tgt := 55) hx hb dX10_has_1 (by rw [s5_1]; decide) (by rw [s5_1]; decide) (by rw [s5_1]; decide) (by decide) ?_
    refine lv_aload_n hx hb dX10_has_55 rfl (lv_at hl 0 rfl) ?_
    refine k_jim hP hD hS hA [0, 2] [false, true, false, true] rfl rfl rfl 0 0 (Nat.le_of_ble_eq_true rfl) (Nat.le_of_ble_eq_true rfl) (fun hPc hDc => k_runV (As := []) (rest := []) C0 hZ hS hA (s_X10_kindMany l dC dI cy sq a_this rm x_taped x_at x_end x_ended x_bad x_badPlace x_fault x_faultPlace x_namePlace x_awayTold x_away x_coded x_statements x_isCrossing x_textKind x_askSecond x_redMany x_isOpen x_lastGreen x_greenTo x_isCycleGreen x_stillGreen x_rowMany x_fitMany x_fitRules x_fitGreen x_undoable x_newest x_seeded x_qCoded x_qWaits x_qOpened x_qBase x_qPiled x_qAnswer x_qIsNew x_octets g_many ) mV_X10_430 hPc hDc rfl rfl rfl hl rfl rfl (Nat.le_of_ble_eq_true rfl) ⟨(Nat.le_of_ble_eq_true rfl), (Nat.le_of_ble_eq_true rfl)⟩ ⟨(Nat.le_of_ble_eq_true rfl), (Nat.le_of_ble_eq_true rfl)⟩ dX10_has_56) (fun r8 u9 H locs hw hP hD hS => ?_)
    try dsimp only at hP hD hw
    replace hP : va_P (dC, dI) vwCl [(wi_rm43_0_8_0 rm cy g_bar), (wi_rm56_0_9_0 rm cy g_now), (a_this, .inr (10, mfs rm x_taped x_at x_end x_ended x_bad x_badPlace x_fault x_faultPlace x_namePlace x_awayTold x_away x_coded x_statements x_isCrossing x_textKind x_askSecond x_redMany x_isOpen x_lastGreen x_greenTo x_isCycleGreen x_stillGreen x_rowMany x_fitMany x_fitRules x_fitGreen x_undoable x_newest x_seeded x_qCoded x_qWaits x_qOpened x_qBase x_qPiled x_qAnswer x_qIsNew x_octets)), (wi_rm41_0_4_0 rm cy g_many)] H := hP
    replace hD := k_D hP hD
    obtain ⟨h10, h11⟩ := hw
    subst h10
    replace hq := lf_b1 hq h11
    subst hQ; exact k_iret hx hb hr hlk rfl () hS ((hO.symm.trans (by rw [lf_u (lf_pt (lf_ra g_many) 2)]; exact hq))) (hP.sub [2, 0, 3, 1] rfl) (hD.sub [2, 0, 3, 1] rfl rfl) (Nat.le_of_ble_eq_true rfl) (Nat.le_of_ble_eq_true rfl) dX10_has_59
  replace hq := lf_neg hq (lf_ne (lf_rf p0) (lf_lc 1 (1 : Int) rfl) s5_1)
  rcases Decidable.em (p0 = 2) with s5_2 | s5_2
  · skip
    replace hq := lf_pos hq (lf_eq (lf_rf p0) (lf_lc 2 (2 : Int) rfl) s5_2)
    have h12 : ib p0 2 2 := by rw [s5_2]; exact ib_c 2 2 2 rfl
    refine lv_tableIn (off := 59) (tgt := 60) hx hb dX10_has_1 (by rw [s5_2]; decide) (by rw [s5_2]; decide) (by rw [s5_2]; decide) (by decide) ?_
    refine lv_aload_n hx hb dX10_has_60 rfl (lv_at hl 0 rfl) ?_
    refine k_jim hP hD hS hA [0, 2] [false, true, false, true] rfl rfl rfl 0 0 (Nat.le_of_ble_eq_true rfl) (Nat.le_of_ble_eq_true rfl) (fun hPc hDc => k_runV (As := []) (rest := []) C0 hZ hS hA (s_X10_walkerMany l dC dI cy sq a_this rm x_taped x_at x_end x_ended x_bad x_badPlace x_fault x_faultPlace x_namePlace x_awayTold x_away x_coded x_statements x_isCrossing x_textKind x_askSecond x_redMany x_isOpen x_lastGreen x_greenTo x_isCycleGreen x_stillGreen x_rowMany x_fitMany x_fitRules x_fitGreen x_undoable x_newest x_seeded x_qCoded x_qWaits x_qOpened x_qBase x_qPiled x_qAnswer x_qIsNew x_octets g_many ) mV_X10_433 hPc hDc rfl rfl rfl hl rfl rfl (Nat.le_of_ble_eq_true rfl) ⟨(Nat.le_of_ble_eq_true rfl), (Nat.le_of_ble_eq_true rfl)⟩ ⟨(Nat.le_of_ble_eq_true rfl), (Nat.le_of_ble_eq_true rfl)⟩ dX10_has_61) (fun r13 u14 H locs hw hP hD hS => ?_)
    try dsimp only at hP hD hw
    replace hP : va_P (dC, dI) vwCl [(wi_rm43_0_8_0 rm cy g_bar), (wi_rm56_0_9_0 rm cy g_now), (a_this, .inr (10, mfs rm x_taped x_at x_end x_ended x_bad x_badPlace x_fault x_faultPlace x_namePlace x_awayTold x_away x_coded x_statements x_isCrossing x_textKind x_askSecond x_redMany x_isOpen x_lastGreen x_greenTo x_isCycleGreen x_stillGreen x_rowMany x_fitMany x_fitRules x_fitGreen x_undoable x_newest x_seeded x_qCoded x_qWaits x_qOpened x_qBase x_qPiled x_qAnswer x_qIsNew x_octets)), (wi_rm41_0_4_0 rm cy g_many)] H := hP
    replace hD := k_D hP hD
    obtain ⟨h15, h16⟩ := hw
    subst h15
    replace hq := lf_b1 hq h16
    subst hQ; exact k_iret hx hb hr hlk rfl () hS ((hO.symm.trans (by rw [lf_u (lf_pt (lf_ra g_many) 3)]; exact hq))) (hP.sub [2, 0, 3, 1] rfl) (hD.sub [2, 0, 3, 1] rfl rfl) (Nat.le_of_ble_eq_true rfl) (Nat.le_of_ble_eq_true rfl) dX10_has_64
  replace hq := lf_neg hq (lf_ne (lf_rf p0) (lf_lc 2 (2 : Int) rfl) s5_2)
  rcases Decidable.em (p0 = 3) with s5_3 | s5_3
  · skip
    replace hq := lf_pos hq (lf_eq (lf_rf p0) (lf_lc 3 (3 : Int) rfl) s5_3)
    have h17 : ib p0 3 3 := by rw [s5_3]; exact ib_c 3 3 3 rfl
    refine lv_tableIn (off := 64) (tgt := 65) hx hb dX10_has_1 (by rw [s5_3]; decide) (by rw [s5_3]; decide) (by rw [s5_3]; decide) (by decide) ?_
    exact jn65  H locs ls (ib_w 3 5 h17 rfl) (by exact hq) hP hD hS (lv_sub hl [0, 1] rfl)
  replace hq := lf_neg hq (lf_ne (lf_rf p0) (lf_lc 3 (3 : Int) rfl) s5_3)
  rcases Decidable.em (p0 = 4) with s5_4 | s5_4
  · skip
    replace hq := lf_pos hq (lf_eq (lf_rf p0) (lf_lc 4 (4 : Int) rfl) s5_4)
    have h18 : ib p0 4 4 := by rw [s5_4]; exact ib_c 4 4 4 rfl
    refine lv_tableIn (off := 64) (tgt := 65) hx hb dX10_has_1 (by rw [s5_4]; decide) (by rw [s5_4]; decide) (by rw [s5_4]; decide) (by decide) ?_
    exact jn65  H locs ls (ib_w 3 5 h18 rfl) (by exact hq) hP hD hS (lv_sub hl [0, 1] rfl)
  replace hq := lf_neg hq (lf_ne (lf_rf p0) (lf_lc 4 (4 : Int) rfl) s5_4)
  rcases Decidable.em (p0 = 5) with s5_5 | s5_5
  · skip
    replace hq := lf_pos hq (lf_eq (lf_rf p0) (lf_lc 5 (5 : Int) rfl) s5_5)
    have h19 : ib p0 5 5 := by rw [s5_5]; exact ib_c 5 5 5 rfl
    refine lv_tableIn (off := 64) (tgt := 65) hx hb dX10_has_1 (by rw [s5_5]; decide) (by rw [s5_5]; decide) (by rw [s5_5]; decide) (by decide) ?_
    exact jn65  H locs ls (ib_w 3 5 h19 rfl) (by exact hq) hP hD hS (lv_sub hl [0, 1] rfl)
  replace hq := lf_neg hq (lf_ne (lf_rf p0) (lf_lc 5 (5 : Int) rfl) s5_5)
  rcases Decidable.em (p0 = 6) with s5_6 | s5_6
  · skip
    replace hq := lf_pos hq (lf_eq (lf_rf p0) (lf_lc 6 (6 : Int) rfl) s5_6)
    have h20 : ib p0 6 6 := by rw [s5_6]; exact ib_c 6 6 6 rfl
    refine lv_tableIn (off := 73) (tgt := 74) hx hb dX10_has_1 (by rw [s5_6]; decide) (by rw [s5_6]; decide) (by rw [s5_6]; decide) (by decide) ?_
    refine lv_aload_n hx hb dX10_has_74 rfl (lv_at hl 0 rfl) ?_
    refine k_get C0 fg_X10_427 hP 0 rfl rfl dX10_has_75 ?_
    subst hQ; exact k_iret hx hb hr hlk rfl () hS ((hO.symm.trans (by exact hq))) hP hD (Nat.le_of_ble_eq_true rfl) (Nat.le_of_ble_eq_true rfl) dX10_has_78
  replace hq := lf_neg hq (lf_ne (lf_rf p0) (lf_lc 6 (6 : Int) rfl) s5_6)
  rcases Decidable.em (p0 = 7) with s5_7 | s5_7
  · skip
    replace hq := lf_pos hq (lf_eq (lf_rf p0) (lf_lc 7 (7 : Int) rfl) s5_7)
    have h21 : ib p0 7 7 := by rw [s5_7]; exact ib_c 7 7 7 rfl
    refine lv_tableIn (off := 78) (tgt := 79) hx hb dX10_has_1 (by rw [s5_7]; decide) (by rw [s5_7]; decide) (by rw [s5_7]; decide) (by decide) ?_
    refine lv_aload_n hx hb dX10_has_79 rfl (lv_at hl 0 rfl) ?_
    refine k_get C0 fg_X10_424 hP 0 rfl rfl dX10_has_80 ?_
    subst hQ; exact k_iret hx hb hr hlk rfl () hS ((hO.symm.trans (by exact hq))) hP hD (Nat.le_of_ble_eq_true rfl) (Nat.le_of_ble_eq_true rfl) dX10_has_83
  replace hq := lf_neg hq (lf_ne (lf_rf p0) (lf_lc 7 (7 : Int) rfl) s5_7)
  refine lv_tableOut (tgt := 84) hx hb dX10_has_1 (by have q0 := ib_nei 0 0 rfl s5_0; have q1 := ib_nei 1 1 rfl s5_1; have q2 := ib_nei 2 2 rfl s5_2; have q3 := ib_nei 3 3 rfl s5_3; have q4 := ib_nei 4 4 rfl s5_4; have q5 := ib_nei 5 5 rfl s5_5; have q6 := ib_nei 6 6 rfl s5_6; have q7 := ib_nei 7 7 rfl s5_7; omega) (by decide) ?_
  refine lv_iconst (v := (-1)) hx hb dX10_has_84 rfl ?_
  subst hQ; exact k_iret hx hb hr hlk rfl () hS ((hO.symm.trans (by try simp only [show ((-1) : Int32).toInt = (-1 : Int) from rfl]; exact hq))) hP hD (Nat.le_of_ble_eq_true rfl) (Nat.le_of_ble_eq_true rfl) dX10_has_85
set_option maxHeartbeats 4000000 in
set_option maxRecDepth 100000 in
theorem s_X10_toldOfDay_a0_1 (l : Launch) (dC : Nat → ClassId) (dI : Nat → Nat → Nat) (cy : Nat → ClassId) (sq : Nat → Nat) (a_this : Nat) (rm : Nat → Nat) (x_taped : Int32) (x_at : Int32) (x_end : Int32) (x_ended : Int32) (x_bad : Int32) (x_badPlace : Int32) (x_fault : Int32) (x_faultPlace : Int32) (x_namePlace : Int32) (x_awayTold : Int32) (x_away : Int32) (x_coded : Int32) (x_statements : Int32) (x_isCrossing : Int32) (x_textKind : Int32) (x_askSecond : Int32) (x_redMany : Int32) (x_isOpen : Int32) (x_lastGreen : Int32) (x_greenTo : Int32) (x_isCycleGreen : Int32) (x_stillGreen : Int32) (x_rowMany : Int32) (x_fitMany : Int32) (x_fitRules : Int32) (x_fitGreen : Int32) (x_undoable : Int32) (x_newest : Int32) (x_seeded : Int64) (x_qCoded : Int32) (x_qWaits : Int32) (x_qOpened : Int32) (x_qBase : Int32) (x_qPiled : Int32) (x_qAnswer : Int64) (x_qIsNew : Int32) (x_octets : Int32) (g_many : Nat → Int32) (g_goes : Nat → Int32) (hg_many_3 : ib (g_many 3) 0 12) : k_Met l yX10_toldOfDay cX10_toldOfDay 2 (some .int) { frames := 1, cells := 0, slots := 0, locals := 23 } dC dI cy sq [.ref a_this, .int 1] [(a_this, .inr (10, mfs rm x_taped x_at x_end x_ended x_bad x_badPlace x_fault x_faultPlace x_namePlace x_awayTold x_away x_coded x_statements x_isCrossing x_textKind x_askSecond x_redMany x_isOpen x_lastGreen x_greenTo x_isCycleGreen x_stillGreen x_rowMany x_fitMany x_fitRules x_fitGreen x_undoable x_newest x_seeded x_qCoded x_qWaits x_qOpened x_qBase x_qPiled x_qAnswer x_qIsNew x_octets)), (wi_rm41_0_4_0 rm cy g_many), (wi_rm66_3_12_0 rm cy g_goes)] (k_Qi dC dI (fun (r : Int32) (_ : Unit) => (F_X10_toldOfDay_a0_1 (lf_A g_many) (lf_A g_goes) = ((Int32.toInt r)))) (fun _ : Unit => [(a_this, .inr (10, mfs rm x_taped x_at x_end x_ended x_bad x_badPlace x_fault x_faultPlace x_namePlace x_awayTold x_away x_coded x_statements x_isCrossing x_textKind x_askSecond x_redMany x_isOpen x_lastGreen x_greenTo x_isCycleGreen x_stillGreen x_rowMany x_fitMany x_fitRules x_fitGreen x_undoable x_newest x_seeded x_qCoded x_qWaits x_qOpened x_qBase x_qPiled x_qAnswer x_qIsNew x_octets)), (wi_rm41_0_4_0 rm cy g_many), (wi_rm66_3_12_0 rm cy g_goes)])) := by
  refine k_ofW2 (by decide +kernel) (Nat.le_of_ble_eq_true rfl) ?_
  intro p e s m below meth c A ls H locs args Q hQ C0 hZ hr hlk hin hP hD hA hS hl
  have C0 : k_cx p s m args c cX10_toldOfDay 2 RX10 dC dI cy sq := C0
  have hx := C0.1
  have hb := C0.2.1
  have hl : lv_has ls 2 [(0, .ref a_this), (1, .int 1)] := hl
  obtain ⟨O, hO⟩ : ∃ o, o = F_X10_toldOfDay_a0_1 (lf_A g_many) (lf_A g_goes) := ⟨_, rfl⟩
  have hq := hO
  unfold F_X10_toldOfDay_a0_1 at hq
  refine lv_iload_n hx hb dX10_toldOfDay_0 rfl (lv_at hl 1 rfl) ?_
  refine lv_tableIn (off := 40) (tgt := 41) hx hb dX10_toldOfDay_1 (by decide) (by decide) (by decide) (by decide) ?_
  refine lv_aload_n hx hb dX10_toldOfDay_41 rfl (lv_at hl 0 rfl) ?_
  refine k_get C0 fg_X10_164 hP 0 rfl rfl dX10_toldOfDay_42 ?_
  refine lv_aload_n hx hb dX10_toldOfDay_45 rfl (lv_at hl 0 rfl) ?_
  refine k_jim hP hD hS hA [0, 1] [false, false, true] rfl rfl rfl 0 0 (Nat.le_of_ble_eq_true rfl) (Nat.le_of_ble_eq_true rfl) (fun hPc hDc => k_runV (As := []) (rest := [.ref (rm 66)]) C0 hZ hS hA (s_X10_walkerMany l dC dI cy sq a_this rm x_taped x_at x_end x_ended x_bad x_badPlace x_fault x_faultPlace x_namePlace x_awayTold x_away x_coded x_statements x_isCrossing x_textKind x_askSecond x_redMany x_isOpen x_lastGreen x_greenTo x_isCycleGreen x_stillGreen x_rowMany x_fitMany x_fitRules x_fitGreen x_undoable x_newest x_seeded x_qCoded x_qWaits x_qOpened x_qBase x_qPiled x_qAnswer x_qIsNew x_octets g_many ) mV_X10_433 hPc hDc rfl rfl rfl hl rfl rfl (Nat.le_of_ble_eq_true rfl) ⟨(Nat.le_of_ble_eq_true rfl), (Nat.le_of_ble_eq_true rfl)⟩ ⟨(Nat.le_of_ble_eq_true rfl), (Nat.le_of_ble_eq_true rfl)⟩ dX10_toldOfDay_46) (fun r1 u2 H locs hw hP hD hS => ?_)
  try dsimp only at hP hD hw
  replace hP : va_P (dC, dI) vwCl [(wi_rm66_3_12_0 rm cy g_goes), (a_this, .inr (10, mfs rm x_taped x_at x_end x_ended x_bad x_badPlace x_fault x_faultPlace x_namePlace x_awayTold x_away x_coded x_statements x_isCrossing x_textKind x_askSecond x_redMany x_isOpen x_lastGreen x_greenTo x_isCycleGreen x_stillGreen x_rowMany x_fitMany x_fitRules x_fitGreen x_undoable x_newest x_seeded x_qCoded x_qWaits x_qOpened x_qBase x_qPiled x_qAnswer x_qIsNew x_octets)), (wi_rm41_0_4_0 rm cy g_many)] H := hP
  replace hD := k_D hP hD
  obtain ⟨h3, h4⟩ := hw
  subst h3
  replace hq := lf_b1 hq h4
  refine k_jim hP hD hS hA [0] [false, true, true] rfl rfl rfl 0 0 (Nat.le_of_ble_eq_true rfl) (Nat.le_of_ble_eq_true rfl) (fun hPc hDc => k_runS (As := [.ref (rm 66), .int (g_many 3)]) (rest := []) C0 hZ hS hA (s_X10_counted l dC dI cy sq (rm 66) g_goes (g_many 3) (ib_w 0 12 hg_many_3 rfl)) mS_X10_511 hPc hDc hl rfl rfl (Nat.le_of_ble_eq_true rfl) ⟨(Nat.le_of_ble_eq_true rfl), (Nat.le_of_ble_eq_true rfl)⟩ ⟨(Nat.le_of_ble_eq_true rfl), (Nat.le_of_ble_eq_true rfl)⟩ dX10_toldOfDay_49) (fun r5 u6 H locs hw hP hD hS => ?_)
  try dsimp only at hP hD hw
  replace hP : va_P (dC, dI) vwCl [(a_this, .inr (10, mfs rm x_taped x_at x_end x_ended x_bad x_badPlace x_fault x_faultPlace x_namePlace x_awayTold x_away x_coded x_statements x_isCrossing x_textKind x_askSecond x_redMany x_isOpen x_lastGreen x_greenTo x_isCycleGreen x_stillGreen x_rowMany x_fitMany x_fitRules x_fitGreen x_undoable x_newest x_seeded x_qCoded x_qWaits x_qOpened x_qBase x_qPiled x_qAnswer x_qIsNew x_octets)), (wi_rm41_0_4_0 rm cy g_many), (wi_rm66_3_12_0 rm cy g_goes)] H := hP
  replace hD := k_D hP hD
  have h7 := hw
  have h7 := by have h9 := h7; rw [lf_u (lf_pt (lf_ra g_many) 3)] at h9; exact h9
  replace hq := lf_b1 hq h7
  subst hQ; exact k_iret hx hb hr hlk rfl () hS ((hO.symm.trans (by exact hq))) hP hD (Nat.le_of_ble_eq_true rfl) (Nat.le_of_ble_eq_true rfl) dX10_toldOfDay_52
set_option maxHeartbeats 4000000 in
set_option maxRecDepth 100000 in
theorem s_X10_hold (l : Launch) (dC : Nat → ClassId) (dI : Nat → Nat → Nat) (cy : Nat → ClassId) (sq : Nat → Nat) (a_this : Nat) (rm : Nat → Nat) (x_taped : Int32) (x_at : Int32) (x_end : Int32) (x_ended : Int32) (x_bad : Int32) (x_badPlace : Int32) (x_fault : Int32) (x_faultPlace : Int32) (x_namePlace : Int32) (x_awayTold : Int32) (x_away : Int32) (x_coded : Int32) (x_statements : Int32) (x_isCrossing : Int32) (x_textKind : Int32) (x_askSecond : Int32) (x_redMany : Int32) (x_isOpen : Int32) (x_lastGreen : Int32) (x_greenTo : Int32) (x_isCycleGreen : Int32) (x_stillGreen : Int32) (x_rowMany : Int32) (x_fitMany : Int32) (x_fitRules : Int32) (x_fitGreen : Int32) (x_undoable : Int32) (x_newest : Int32) (x_seeded : Int64) (x_qCoded : Int32) (x_qWaits : Int32) (x_qOpened : Int32) (x_qBase : Int32) (x_qPiled : Int32) (x_qAnswer : Int64) (x_qIsNew : Int32) (x_octets : Int32) (g_many : Nat → Int32) (g_bar : Nat → Int32) (g_kinds : Nat → Int32) (g_walkers : Nat → Int32) (g_codeFrom : Nat → Int32) (g_codeEnd : Nat → Int32) (g_codes : Nat → Int32) (g_now : Nat → Int32) (g_isCar : Nat → Int32) (g_gaps : Nat → Int32) (g_isGreen : Nat → Int32) (g_isHere : Nat → Int32) (g_crosses : Nat → Int32) (g_waits : Nat → Int32) (g_goes : Nat → Int32) (g_harms : Nat → Int32) (g_presses : Nat → Int32) (g_crossedIn : Nat → Int32) (g_qPile : Nat → Int64) (hx_isCrossing : ib x_isCrossing 0 1) (hx_isOpen : ib x_isOpen 0 1) (hx_isCycleGreen : ib x_isCycleGreen 0 1) (hx_qPiled : ib x_qPiled 0 1700) (hg_many_3 : ib (g_many 3) 0 12) (hg_bar_4 : ib (g_bar 4) 0 120) (hpg_walkers : ip g_walkers 48 2 0 0 5) (hg_codeFrom_3 : ib (g_codeFrom 3) (-1) 1600) (hg_codeFrom_4 : ib (g_codeFrom 4) (-1) 1600) (hg_codeEnd_3 : ib (g_codeEnd 3) 0 1600) (hg_codeEnd_4 : ib (g_codeEnd 4) 0 1600) (hg_gaps : ia g_gaps 300 0 20) (hG0 : ¬ g_codeFrom 3 = (-1) → okc g_codes 1600 false (g_codeFrom 3) (g_codeEnd 3)) (hG1 : ¬ g_codeFrom 4 = (-1) → okc g_codes 1600 true (g_codeFrom 4) (g_codeEnd 4)) (hc_cr : ¬ x_isCrossing = 0 → ib (g_bar 4) 10 120) : k_Met l yX10_hold cX10_hold 3 (some .int) { frames := 6, cells := 0, slots := 0, locals := 137 } dC dI cy sq [.ref a_this] [(a_this, .inr (10, mfs rm x_taped x_at x_end x_ended x_bad x_badPlace x_fault x_faultPlace x_namePlace x_awayTold x_away x_coded x_statements x_isCrossing x_textKind x_askSecond x_redMany x_isOpen x_lastGreen x_greenTo x_isCycleGreen x_stillGreen x_rowMany x_fitMany x_fitRules x_fitGreen x_undoable x_newest x_seeded x_qCoded x_qWaits x_qOpened x_qBase x_qPiled x_qAnswer x_qIsNew x_octets)), (wi_rm49_0_6_0 rm cy g_codeFrom), (wi_rm50_0_6_0 rm cy g_codeEnd), (wi_rm116_1_1700_1 rm cy g_qPile), (wi_rm51_0_3200_0 rm cy g_codes), (wi_rm46_0_48_0 rm cy g_walkers), (wi_rm56_0_9_0 rm cy g_now), (wi_rm43_0_8_0 rm cy g_bar), (wi_rm65_0_12_0 rm cy g_waits), (wi_rm44_0_24_0 rm cy g_kinds), (wi_rm61_0_300_0 rm cy g_gaps), (wi_rm66_3_12_0 rm cy g_goes), (wi_rm67_3_12_0 rm cy g_harms), (wi_rm60_3_320_0 rm cy g_isCar), (wi_rm41_0_4_0 rm cy g_many), (wi_rm63_3_12_0 rm cy g_isHere), (wi_rm64_0_12_0 rm cy g_crosses), (wi_rm68_3_12_0 rm cy g_presses), (wi_rm69_3_300_0 rm cy g_crossedIn), (wi_rm62_3_300_0 rm cy g_isGreen)] (k_Qi dC dI (fun (r : Int32) (u : Int32 × Int32 × Int32 × Int32 × Int32 × Int32 × Int32 × Int32 × Int32 × (Nat → Int64) × (Nat → Int32) × (Nat → Int32) × (Nat → Int32) × (Nat → Int32) × (Nat → Int32) × (Nat → Int32) × (Nat → Int32) × (Nat → Int32) × (Nat → Int32) × (Nat → Int32)) => match u with | (n0, n1, n2, n3, n4, n5, n6, n7, n8, n9, n10, n11, n12, n13, n14, n15, n16, n17, n18, n19) => ib n3 0 1 ∧ ib n6 0 1 ∧ ib n8 0 1700 ∧ ia n11 300 0 20 ∧ ib r (-1) 4095 ∧ (F_X10_hold (Int32.toInt x_isCrossing) (Int32.toInt x_textKind) (Int32.toInt x_askSecond) (Int32.toInt x_redMany) (Int32.toInt x_isOpen) (Int32.toInt x_lastGreen) (Int32.toInt x_greenTo) (Int32.toInt x_isCycleGreen) (Int32.toInt x_stillGreen) (Int32.toInt x_qPiled) (lf_A g_many) (lf_A g_bar) (lf_A g_kinds) (lf_A g_walkers) (lf_A g_codeFrom) (lf_A g_codeEnd) (lf_A g_codes) (lf_A g_now) (lf_A g_isCar) (lf_A g_gaps) (lf_A g_isGreen) (lf_A g_isHere) (lf_A g_crosses) (lf_A g_waits) (lf_A g_goes) (lf_A g_harms) (lf_A g_presses) (lf_A g_crossedIn) (lf_L g_qPile) = ((Int32.toInt r), (Int32.toInt n0), (Int32.toInt n1), (Int32.toInt n2), (Int32.toInt n3), (Int32.toInt n4), (Int32.toInt n5), (Int32.toInt n6), (Int32.toInt n7), (Int32.toInt n8), (lf_L n9), (lf_A n10), (lf_A n11), (lf_A n12), (lf_A n13), (lf_A n14), (lf_A n15), (lf_A n16), (lf_A n17), (lf_A n18), (lf_A n19)))) (fun u : Int32 × Int32 × Int32 × Int32 × Int32 × Int32 × Int32 × Int32 × Int32 × (Nat → Int64) × (Nat → Int32) × (Nat → Int32) × (Nat → Int32) × (Nat → Int32) × (Nat → Int32) × (Nat → Int32) × (Nat → Int32) × (Nat → Int32) × (Nat → Int32) × (Nat → Int32) => match u with | (n0, n1, n2, n3, n4, n5, n6, n7, n8, n9, n10, n11, n12, n13, n14, n15, n16, n17, n18, n19) => [(a_this, .inr (10, mfs rm x_taped x_at x_end x_ended x_bad x_badPlace x_fault x_faultPlace x_namePlace x_awayTold x_away x_coded x_statements x_isCrossing n0 n1 n2 n3 n4 n5 n6 n7 x_rowMany x_fitMany x_fitRules x_fitGreen x_undoable x_newest x_seeded x_qCoded x_qWaits x_qOpened x_qBase n8 x_qAnswer x_qIsNew x_octets)), (wi_rm49_0_6_0 rm cy g_codeFrom), (wi_rm50_0_6_0 rm cy g_codeEnd), (wi_rm116_1_1700_1 rm cy n9), (wi_rm51_0_3200_0 rm cy g_codes), (wi_rm46_0_48_0 rm cy g_walkers), (wi_rm56_0_9_0 rm cy g_now), (wi_rm43_0_8_0 rm cy g_bar), (wi_rm65_0_12_0 rm cy n10), (wi_rm44_0_24_0 rm cy g_kinds), (wi_rm61_0_300_0 rm cy n11), (wi_rm66_3_12_0 rm cy n12), (wi_rm67_3_12_0 rm cy n13), (wi_rm60_3_320_0 rm cy n14), (wi_rm41_0_4_0 rm cy g_many), (wi_rm63_3_12_0 rm cy n15), (wi_rm64_0_12_0 rm cy n16), (wi_rm68_3_12_0 rm cy n17), (wi_rm69_3_300_0 rm cy n18), (wi_rm62_3_300_0 rm cy n19)])) := by
  refine k_ofW2 (by decide +kernel) (Nat.le_of_ble_eq_true rfl) ?_
  intro p e s m below meth c A ls H locs args Q hQ C0 hZ hr hlk hin hP hD hA hS hl
  have C0 : k_cx p s m args c cX10_hold 3 RX10 dC dI cy sq := C0
  have hx := C0.1
  have hb := C0.2.1
  have hl : lv_has ls 3 [(0, .ref a_this)] := hl
  obtain ⟨O, hO⟩ : ∃ o, o = F_X10_hold (Int32.toInt x_isCrossing) (Int32.toInt x_textKind) (Int32.toInt x_askSecond) (Int32.toInt x_redMany) (Int32.toInt x_isOpen) (Int32.toInt x_lastGreen) (Int32.toInt x_greenTo) (Int32.toInt x_isCycleGreen) (Int32.toInt x_stillGreen) (Int32.toInt x_qPiled) (lf_A g_many) (lf_A g_bar) (lf_A g_kinds) (lf_A g_walkers) (lf_A g_codeFrom) (lf_A g_codeEnd) (lf_A g_codes) (lf_A g_now) (lf_A g_isCar) (lf_A g_gaps) (lf_A g_isGreen) (lf_A g_isHere) (lf_A g_crosses) (lf_A g_waits) (lf_A g_goes) (lf_A g_harms) (lf_A g_presses) (lf_A g_crossedIn) (lf_L g_qPile) := ⟨_, rfl⟩
  have hq := hO
  unfold F_X10_hold at hq
  have jn15 : ∀ (n : Nat) (J15_c0_55 : Int32) (J15_c0_58 : Int32) (J15_c0_117 : Int32) (J15_a3 : Nat → Int64) (J15_a10 : Nat → Int32) (J15_a13 : Nat → Int32) (J15_l1 : Int32) (J15_c0_59 : Int32) (J15_c0_70 : Int32) (J15_c0_71 : Int32) (J15_c0_72 : Int32) (J15_c0_73 : Int32) (J15_c0_74 : Int32) (J15_a8 : Nat → Int32) (J15_a11 : Nat → Int32) (J15_a12 : Nat → Int32) (J15_a15 : Nat → Int32) (J15_a16 : Nat → Int32) (J15_a17 : Nat → Int32) (J15_a18 : Nat → Int32) (J15_a19 : Nat → Int32) (H : Heap) (locs : List Loc) (ls : Array Slot), ib x_isCrossing 1 1 → ib J15_c0_117 0 1700 → ib (g_bar 4) 10 120 → ib J15_l1 0 4 → ib J15_c0_70 0 1 → ib J15_c0_73 0 1 → ia J15_a10 300 0 20 → (O = F_X10_hold_15 (lf_A g_many) (lf_A g_bar) (lf_A g_kinds) (lf_A g_walkers) (lf_A g_codeFrom) (lf_A g_codeEnd) (lf_A g_codes) (lf_A g_now) n (Int32.toInt J15_c0_55) (Int32.toInt J15_c0_58) (Int32.toInt J15_c0_117) (lf_L J15_a3) (lf_A J15_a10) (lf_A J15_a13) (Int32.toInt J15_l1) (Int32.toInt J15_c0_59) (Int32.toInt J15_c0_70) (Int32.toInt J15_c0_71) (Int32.toInt J15_c0_72) (Int32.toInt J15_c0_73) (Int32.toInt J15_c0_74) (lf_A J15_a8) (lf_A J15_a11) (lf_A J15_a12) (lf_A J15_a15) (lf_A J15_a16) (lf_A J15_a17) (lf_A J15_a18) (lf_A J15_a19)) → 5 ≤ J15_l1.toInt + (n : Int) → va_P (dC, dI) vwCl [(a_this, .inr (10, mfs rm x_taped x_at x_end x_ended x_bad x_badPlace x_fault x_faultPlace x_namePlace x_awayTold x_away x_coded x_statements x_isCrossing J15_c0_55 J15_c0_58 J15_c0_59 J15_c0_70 J15_c0_71 J15_c0_72 J15_c0_73 J15_c0_74 x_rowMany x_fitMany x_fitRules x_fitGreen x_undoable x_newest x_seeded x_qCoded x_qWaits x_qOpened x_qBase J15_c0_117 x_qAnswer x_qIsNew x_octets)), (wi_rm49_0_6_0 rm cy g_codeFrom), (wi_rm50_0_6_0 rm cy g_codeEnd), (wi_rm116_1_1700_1 rm cy J15_a3), (wi_rm51_0_3200_0 rm cy g_codes), (wi_rm46_0_48_0 rm cy g_walkers), (wi_rm56_0_9_0 rm cy g_now), (wi_rm43_0_8_0 rm cy g_bar), (wi_rm65_0_12_0 rm cy J15_a8), (wi_rm44_0_24_0 rm cy g_kinds), (wi_rm61_0_300_0 rm cy J15_a10), (wi_rm66_3_12_0 rm cy J15_a11), (wi_rm67_3_12_0 rm cy J15_a12), (wi_rm60_3_320_0 rm cy J15_a13), (wi_rm41_0_4_0 rm cy g_many), (wi_rm63_3_12_0 rm cy J15_a15), (wi_rm64_0_12_0 rm cy J15_a16), (wi_rm68_3_12_0 rm cy J15_a17), (wi_rm69_3_300_0 rm cy J15_a18), (wi_rm62_3_300_0 rm cy J15_a19)] H → va_D A [(a_this, .inr (10, mfs rm x_taped x_at x_end x_ended x_bad x_badPlace x_fault x_faultPlace x_namePlace x_awayTold x_away x_coded x_statements x_isCrossing J15_c0_55 J15_c0_58 J15_c0_59 J15_c0_70 J15_c0_71 J15_c0_72 J15_c0_73 J15_c0_74 x_rowMany x_fitMany x_fitRules x_fitGreen x_undoable x_newest x_seeded x_qCoded x_qWaits x_qOpened x_qBase J15_c0_117 x_qAnswer x_qIsNew x_octets)), (wi_rm49_0_6_0 rm cy g_codeFrom), (wi_rm50_0_6_0 rm cy g_codeEnd), (wi_rm116_1_1700_1 rm cy J15_a3), (wi_rm51_0_3200_0 rm cy g_codes), (wi_rm46_0_48_0 rm cy g_walkers), (wi_rm56_0_9_0 rm cy g_now), (wi_rm43_0_8_0 rm cy g_bar), (wi_rm65_0_12_0 rm cy J15_a8), (wi_rm44_0_24_0 rm cy g_kinds), (wi_rm61_0_300_0 rm cy J15_a10), (wi_rm66_3_12_0 rm cy J15_a11), (wi_rm67_3_12_0 rm cy J15_a12), (wi_rm60_3_320_0 rm cy J15_a13), (wi_rm41_0_4_0 rm cy g_many), (wi_rm63_3_12_0 rm cy J15_a15), (wi_rm64_0_12_0 rm cy J15_a16), (wi_rm68_3_12_0 rm cy J15_a17), (wi_rm69_3_300_0 rm cy J15_a18), (wi_rm62_3_300_0 rm cy J15_a19)] → va_S A s.heap H locs → lv_has ls 3 [(0, .ref a_this), (1, .int J15_l1)] → W p l e { frames := 6, cells := 0, slots := 0, locals := 137 } s m args below meth c H locs 0 0 Q (F0 m 15 ls []) := by
    as_aux_lemma =>
      intro n
      induction n with
      | zero =>
        intro J15_c0_55 J15_c0_58 J15_c0_117 J15_a3 J15_a10 J15_a13 J15_l1 J15_c0_59 J15_c0_70 J15_c0_71 J15_c0_72 J15_c0_73 J15_c0_74 J15_a8 J15_a11 J15_a12 J15_a15 J15_a16 J15_a17 J15_a18 J15_a19 H locs ls hK15_x_isCrossing hJ15_c0_117 hJ15_a7_4 hJ15_l1 hJ15_c0_70 hJ15_c0_73 hJ15_a10 hq hm
        exact absurd hm (by have := hJ15_l1; unfold ib at this; omega)
      | succ n ih =>
        intro J15_c0_55 J15_c0_58 J15_c0_117 J15_a3 J15_a10 J15_a13 J15_l1 J15_c0_59 J15_c0_70 J15_c0_71 J15_c0_72 J15_c0_73 J15_c0_74 J15_a8 J15_a11 J15_a12 J15_a15 J15_a16 J15_a17 J15_a18 J15_a19 H locs ls hK15_x_isCrossing hJ15_c0_117 hJ15_a7_4 hJ15_l1 hJ15_c0_70 hJ15_c0_73 hJ15_a10 hq hm15 hP hD hS hl
        have ih15 := ih
        obtain ⟨K15, hK15⟩ : ∃ K, K = F_X10_hold_15 (lf_A g_many) (lf_A g_bar) (lf_A g_kinds) (lf_A g_walkers) (lf_A g_codeFrom) (lf_A g_codeEnd) (lf_A g_codes) (lf_A g_now) n := ⟨_, rfl⟩
        have hq : O = F_X10_hold_15b (lf_A g_many) (lf_A g_bar) (lf_A g_kinds) (lf_A g_walkers) (lf_A g_codeFrom) (lf_A g_codeEnd) (lf_A g_codes) (lf_A g_now) K15 (Int32.toInt J15_c0_55) (Int32.toInt J15_c0_58) (Int32.toInt J15_c0_117) (lf_L J15_a3) (lf_A J15_a10) (lf_A J15_a13) (Int32.toInt J15_l1) (Int32.toInt J15_c0_59) (Int32.toInt J15_c0_70) (Int32.toInt J15_c0_71) (Int32.toInt J15_c0_72) (Int32.toInt J15_c0_73) (Int32.toInt J15_c0_74) (lf_A J15_a8) (lf_A J15_a11) (lf_A J15_a12) (lf_A J15_a15) (lf_A J15_a16) (lf_A J15_a17) (lf_A J15_a18) (lf_A J15_a19) := by rw [hK15]; exact hq
        unfold F_X10_hold_15b at hq
        have jn22 : ∀ (n : Nat) (J22_l2 : Int32) (J22_c0_55 : Int32) (J22_c0_58 : Int32) (J22_c0_59 : Int32) (J22_c0_70 : Int32) (J22_c0_71 : Int32) (J22_c0_72 : Int32) (J22_c0_73 : Int32) (J22_c0_74 : Int32) (J22_c0_117 : Int32) (J22_a3 : Nat → Int64) (J22_a8 : Nat → Int32) (J22_a11 : Nat → Int32) (J22_a12 : Nat → Int32) (J22_a15 : Nat → Int32) (J22_a16 : Nat → Int32) (J22_a17 : Nat → Int32) (J22_a18 : Nat → Int32) (J22_a19 : Nat → Int32) (H : Heap) (locs : List Loc) (ls : Array Slot), ib J15_l1 0 3 → ib x_isCrossing 1 1 → ib (g_bar 4) 10 120 → ib J22_l2 0 4096 → ib J22_c0_70 0 1 → ib J22_c0_73 0 1 → ib J22_c0_117 0 1700 → (O = F_X10_hold_22 (lf_A g_many) (lf_A g_bar) (lf_A g_kinds) (lf_A g_walkers) (lf_A g_codeFrom) (lf_A g_codeEnd) (lf_A g_codes) (lf_A g_now) (lf_A J15_a10) (lf_A J15_a13) (Int32.toInt J15_l1) K15 n (Int32.toInt J22_l2) (Int32.toInt J22_c0_55) (Int32.toInt J22_c0_58) (Int32.toInt J22_c0_59) (Int32.toInt J22_c0_70) (Int32.toInt J22_c0_71) (Int32.toInt J22_c0_72) (Int32.toInt J22_c0_73) (Int32.toInt J22_c0_74) (Int32.toInt J22_c0_117) (lf_L J22_a3) (lf_A J22_a8) (lf_A J22_a11) (lf_A J22_a12) (lf_A J22_a15) (lf_A J22_a16) (lf_A J22_a17) (lf_A J22_a18) (lf_A J22_a19)) → 4097 ≤ J22_l2.toInt + (n : Int) → va_P (dC, dI) vwCl [(a_this, .inr (10, mfs rm x_taped x_at x_end x_ended x_bad x_badPlace x_fault x_faultPlace x_namePlace x_awayTold x_away x_coded x_statements x_isCrossing J22_c0_55 J22_c0_58 J22_c0_59 J22_c0_70 J22_c0_71 J22_c0_72 J22_c0_73 J22_c0_74 x_rowMany x_fitMany x_fitRules x_fitGreen x_undoable x_newest x_seeded x_qCoded x_qWaits x_qOpened x_qBase J22_c0_117 x_qAnswer x_qIsNew x_octets)), (wi_rm49_0_6_0 rm cy g_codeFrom), (wi_rm50_0_6_0 rm cy g_codeEnd), (wi_rm116_1_1700_1 rm cy J22_a3), (wi_rm51_0_3200_0 rm cy g_codes), (wi_rm46_0_48_0 rm cy g_walkers), (wi_rm56_0_9_0 rm cy g_now), (wi_rm43_0_8_0 rm cy g_bar), (wi_rm65_0_12_0 rm cy J22_a8), (wi_rm44_0_24_0 rm cy g_kinds), (wi_rm61_0_300_0 rm cy J15_a10), (wi_rm66_3_12_0 rm cy J22_a11), (wi_rm67_3_12_0 rm cy J22_a12), (wi_rm60_3_320_0 rm cy J15_a13), (wi_rm41_0_4_0 rm cy g_many), (wi_rm63_3_12_0 rm cy J22_a15), (wi_rm64_0_12_0 rm cy J22_a16), (wi_rm68_3_12_0 rm cy J22_a17), (wi_rm69_3_300_0 rm cy J22_a18), (wi_rm62_3_300_0 rm cy J22_a19)] H → va_D A [(a_this, .inr (10, mfs rm x_taped x_at x_end x_ended x_bad x_badPlace x_fault x_faultPlace x_namePlace x_awayTold x_away x_coded x_statements x_isCrossing J22_c0_55 J22_c0_58 J22_c0_59 J22_c0_70 J22_c0_71 J22_c0_72 J22_c0_73 J22_c0_74 x_rowMany x_fitMany x_fitRules x_fitGreen x_undoable x_newest x_seeded x_qCoded x_qWaits x_qOpened x_qBase J22_c0_117 x_qAnswer x_qIsNew x_octets)), (wi_rm49_0_6_0 rm cy g_codeFrom), (wi_rm50_0_6_0 rm cy g_codeEnd), (wi_rm116_1_1700_1 rm cy J22_a3), (wi_rm51_0_3200_0 rm cy g_codes), (wi_rm46_0_48_0 rm cy g_walkers), (wi_rm56_0_9_0 rm cy g_now), (wi_rm43_0_8_0 rm cy g_bar), (wi_rm65_0_12_0 rm cy J22_a8), (wi_rm44_0_24_0 rm cy g_kinds), (wi_rm61_0_300_0 rm cy J15_a10), (wi_rm66_3_12_0 rm cy J22_a11), (wi_rm67_3_12_0 rm cy J22_a12), (wi_rm60_3_320_0 rm cy J15_a13), (wi_rm41_0_4_0 rm cy g_many), (wi_rm63_3_12_0 rm cy J22_a15), (wi_rm64_0_12_0 rm cy J22_a16), (wi_rm68_3_12_0 rm cy J22_a17), (wi_rm69_3_300_0 rm cy J22_a18), (wi_rm62_3_300_0 rm cy J22_a19)] → va_S A s.heap H locs → lv_has ls 3 [(0, .ref a_this), (1, .int J15_l1), (2, .int J22_l2)] → W p l e { frames := 6, cells := 0, slots := 0, locals := 137 } s m args below meth c H locs 0 0 Q (F0 m 22 ls []) := by
          as_aux_lemma =>
            intro n
            induction n with
            | zero =>
              intro J22_l2 J22_c0_55 J22_c0_58 J22_c0_59 J22_c0_70 J22_c0_71 J22_c0_72 J22_c0_73 J22_c0_74 J22_c0_117 J22_a3 J22_a8 J22_a11 J22_a12 J22_a15 J22_a16 J22_a17 J22_a18 J22_a19 H locs ls hK22_J15_l1 hK22_x_isCrossing hJ22_a7_4 hJ22_l2 hJ22_c0_70 hJ22_c0_73 hJ22_c0_117 hq hm
              exact absurd hm (by have := hJ22_l2; unfold ib at this; omega)
            | succ n ih =>
              intro J22_l2 J22_c0_55 J22_c0_58 J22_c0_59 J22_c0_70 J22_c0_71 J22_c0_72 J22_c0_73 J22_c0_74 J22_c0_117 J22_a3 J22_a8 J22_a11 J22_a12 J22_a15 J22_a16 J22_a17 J22_a18 J22_a19 H locs ls hK22_J15_l1 hK22_x_isCrossing hJ22_a7_4 hJ22_l2 hJ22_c0_70 hJ22_c0_73 hJ22_c0_117 hq hm22 hP hD hS hl
              have ih22 := ih
              obtain ⟨K22, hK22⟩ : ∃ K, K = F_X10_hold_22 (lf_A g_many) (lf_A g_bar) (lf_A g_kinds) (lf_A g_walkers) (lf_A g_codeFrom) (lf_A g_codeEnd) (lf_A g_codes) (lf_A g_now) (lf_A J15_a10) (lf_A J15_a13) (Int32.toInt J15_l1) K15 n := ⟨_, rfl⟩
              have hq : O = F_X10_hold_22b (lf_A g_many) (lf_A g_bar) (lf_A g_kinds) (lf_A g_walkers) (lf_A g_codeFrom) (lf_A g_codeEnd) (lf_A g_codes) (lf_A g_now) (lf_A J15_a10) (lf_A J15_a13) (Int32.toInt J15_l1) K15 K22 (Int32.toInt J22_l2) (Int32.toInt J22_c0_55) (Int32.toInt J22_c0_58) (Int32.toInt J22_c0_59) (Int32.toInt J22_c0_70) (Int32.toInt J22_c0_71) (Int32.toInt J22_c0_72) (Int32.toInt J22_c0_73) (Int32.toInt J22_c0_74) (Int32.toInt J22_c0_117) (lf_L J22_a3) (lf_A J22_a8) (lf_A J22_a11) (lf_A J22_a12) (lf_A J22_a15) (lf_A J22_a16) (lf_A J22_a17) (lf_A J22_a18) (lf_A J22_a19) := by rw [hK22]; exact hq
              unfold F_X10_hold_22b at hq
              have jn71 : ∀ (J71_c0_55 : Int32) (J71_c0_58 : Int32) (J71_c0_59 : Int32) (J71_c0_70 : Int32) (J71_c0_71 : Int32) (J71_c0_72 : Int32) (J71_c0_73 : Int32) (J71_c0_74 : Int32) (J71_c0_117 : Int32) (J71_a3 : Nat → Int64) (J71_a8 : Nat → Int32) (J71_a11 : Nat → Int32) (J71_a12 : Nat → Int32) (J71_a15 : Nat → Int32) (J71_a16 : Nat → Int32) (J71_a17 : Nat → Int32) (J71_a18 : Nat → Int32) (J71_a19 : Nat → Int32) (H : Heap) (locs : List Loc) (ls : Array Slot), ib J15_l1 0 3 → ib J22_l2 0 4095 → ib x_isCrossing 1 1 → ib J71_c0_70 0 1 → ib J71_c0_73 0 1 → ib J71_c0_117 0 1700 → ib (g_bar 4) 10 120 → (O = F_X10_hold_71 (Int32.toInt J22_l2) K22 (Int32.toInt J71_c0_55) (Int32.toInt J71_c0_58) (Int32.toInt J71_c0_59) (Int32.toInt J71_c0_70) (Int32.toInt J71_c0_71) (Int32.toInt J71_c0_72) (Int32.toInt J71_c0_73) (Int32.toInt J71_c0_74) (Int32.toInt J71_c0_117) (lf_L J71_a3) (lf_A J71_a8) (lf_A J71_a11) (lf_A J71_a12) (lf_A J71_a15) (lf_A J71_a16) (lf_A J71_a17) (lf_A J71_a18) (lf_A J71_a19)) → va_P (dC, dI) vwCl [(a_this, .inr (10, mfs rm x_taped x_at x_end x_ended x_bad x_badPlace x_fault x_faultPlace x_namePlace x_awayTold x_away x_coded x_statements x_isCrossing J71_c0_55 J71_c0_58 J71_c0_59 J71_c0_70 J71_c0_71 J71_c0_72 J71_c0_73 J71_c0_74 x_rowMany x_fitMany x_fitRules x_fitGreen x_undoable x_newest x_seeded x_qCoded x_qWaits x_qOpened x_qBase J71_c0_117 x_qAnswer x_qIsNew x_octets)), (wi_rm49_0_6_0 rm cy g_codeFrom), (wi_rm50_0_6_0 rm cy g_codeEnd), (wi_rm116_1_1700_1 rm cy J71_a3), (wi_rm51_0_3200_0 rm cy g_codes), (wi_rm46_0_48_0 rm cy g_walkers), (wi_rm56_0_9_0 rm cy g_now), (wi_rm43_0_8_0 rm cy g_bar), (wi_rm65_0_12_0 rm cy J71_a8), (wi_rm44_0_24_0 rm cy g_kinds), (wi_rm61_0_300_0 rm cy J15_a10), (wi_rm66_3_12_0 rm cy J71_a11), (wi_rm67_3_12_0 rm cy J71_a12), (wi_rm60_3_320_0 rm cy J15_a13), (wi_rm41_0_4_0 rm cy g_many), (wi_rm63_3_12_0 rm cy J71_a15), (wi_rm64_0_12_0 rm cy J71_a16), (wi_rm68_3_12_0 rm cy J71_a17), (wi_rm69_3_300_0 rm cy J71_a18), (wi_rm62_3_300_0 rm cy J71_a19)] H → va_D A [(a_this, .inr (10, mfs rm x_taped x_at x_end x_ended x_bad x_badPlace x_fault x_faultPlace x_namePlace x_awayTold x_away x_coded x_statements x_isCrossing J71_c0_55 J71_c0_58 J71_c0_59 J71_c0_70 J71_c0_71 J71_c0_72 J71_c0_73 J71_c0_74 x_rowMany x_fitMany x_fitRules x_fitGreen x_undoable x_newest x_seeded x_qCoded x_qWaits x_qOpened x_qBase J71_c0_117 x_qAnswer x_qIsNew x_octets)), (wi_rm49_0_6_0 rm cy g_codeFrom), (wi_rm50_0_6_0 rm cy g_codeEnd), (wi_rm116_1_1700_1 rm cy J71_a3), (wi_rm51_0_3200_0 rm cy g_codes), (wi_rm46_0_48_0 rm cy g_walkers), (wi_rm56_0_9_0 rm cy g_now), (wi_rm43_0_8_0 rm cy g_bar), (wi_rm65_0_12_0 rm cy J71_a8), (wi_rm44_0_24_0 rm cy g_kinds), (wi_rm61_0_300_0 rm cy J15_a10), (wi_rm66_3_12_0 rm cy J71_a11), (wi_rm67_3_12_0 rm cy J71_a12), (wi_rm60_3_320_0 rm cy J15_a13), (wi_rm41_0_4_0 rm cy g_many), (wi_rm63_3_12_0 rm cy J71_a15), (wi_rm64_0_12_0 rm cy J71_a16), (wi_rm68_3_12_0 rm cy J71_a17), (wi_rm69_3_300_0 rm cy J71_a18), (wi_rm62_3_300_0 rm cy J71_a19)] → va_S A s.heap H locs → lv_has ls 3 [(0, .ref a_this), (1, .int J15_l1), (2, .int J22_l2)] → W p l e { frames := 6, cells := 0, slots := 0, locals := 137 } s m args below meth c H locs 0 0 Q (F0 m 71 ls []) := by
                intro J71_c0_55 J71_c0_58 J71_c0_59 J71_c0_70 J71_c0_71 J71_c0_72 J71_c0_73 J71_c0_74 J71_c0_117 J71_a3 J71_a8 J71_a11 J71_a12 J71_a15 J71_a16 J71_a17 J71_a18 J71_a19 H locs ls hK71_J15_l1 hK71_J22_l2 hK71_x_isCrossing hJ71_c0_70 hJ71_c0_73 hJ71_c0_117 hJ71_a7_4 hq hP hD hS hl
                unfold F_X10_hold_71 at hq
                obtain ⟨z1, ez1⟩ : ∃ y : Int32, y = J22_l2 + 1 := ⟨_, rfl⟩
                refine lv_iinc (v := z1) (lv' := [(2, .int z1), (0, .ref a_this), (1, .int J15_l1)]) hx hb dX10_hold_71 hl (k := 2) rfl (by rw [ez1]; rfl) (Nat.le_of_ble_eq_true rfl) rfl (fun ls hl => ?_)
                have h2 := ib_add hK71_J22_l2 (ib_c 1 1 1 rfl) rfl
                rw [← ez1] at h2
                have h3 : ib z1 1 4096 := ib_w 1 4096 h2.1 rfl
                have Ez1 := lf_add h2.2 (lf_rf J22_l2) (lf_lc 1 (1 : Int) rfl)
                refine lv_goto (tgt := 22) hx hb dX10_hold_74 rfl ?_
                exact ih22 z1 J71_c0_55 J71_c0_58 J71_c0_59 J71_c0_70 J71_c0_71 J71_c0_72 J71_c0_73 J71_c0_74 J71_c0_117 J71_a3 J71_a8 J71_a11 J71_a12 J71_a15 J71_a16 J71_a17 J71_a18 J71_a19 H locs ls (ib_w 0 3 hK71_J15_l1 rfl) (ib_w 1 1 hK71_x_isCrossing rfl) (ib_w 10 120 hJ71_a7_4 rfl) (ib_w 0 4096 h3 rfl) (ib_w 0 1 hJ71_c0_70 rfl) (ib_w 0 1 hJ71_c0_73 rfl) (ib_w 0 1700 hJ71_c0_117 rfl) (by rw [← hK22]; rw [lf_u Ez1]; exact hq) (by have := h2.2; have : (1 : Int32).toInt = 1 := rfl; omega) hP hD hS (lv_sub hl [1, 2, 0] rfl)
              refine lv_iload_n hx hb dX10_hold_22 rfl (lv_at hl 2 rfl) ?_
              refine lv_iconst (v := 1) hx hb dX10_hold_23 rfl ?_
              refine lv_aload_n hx hb dX10_hold_24 rfl (lv_at hl 0 rfl) ?_
              refine k_jim hP hD hS hA [0, 14] [false, true, true, true, true, true, true, true, true, true, true, true, true, true, false, true, true, true, true, true] rfl rfl (by decide +kernel) 0 0 (Nat.le_of_ble_eq_true rfl) (Nat.le_of_ble_eq_true rfl) (fun hPc hDc => k_runV (As := []) (rest := [.int 1, .int J22_l2]) C0 hZ hS hA (s_X10_walkerMany l dC dI cy sq a_this rm x_taped x_at x_end x_ended x_bad x_badPlace x_fault x_faultPlace x_namePlace x_awayTold x_away x_coded x_statements x_isCrossing J22_c0_55 J22_c0_58 J22_c0_59 J22_c0_70 J22_c0_71 J22_c0_72 J22_c0_73 J22_c0_74 x_rowMany x_fitMany x_fitRules x_fitGreen x_undoable x_newest x_seeded x_qCoded x_qWaits x_qOpened x_qBase J22_c0_117 x_qAnswer x_qIsNew x_octets g_many ) mV_X10_433 hPc hDc rfl rfl rfl hl rfl rfl (Nat.le_of_ble_eq_true rfl) ⟨(Nat.le_of_ble_eq_true rfl), (Nat.le_of_ble_eq_true rfl)⟩ ⟨(Nat.le_of_ble_eq_true rfl), (Nat.le_of_ble_eq_true rfl)⟩ dX10_hold_25) (fun r4 u5 H locs hw hP hD hS => ?_)
              try dsimp only at hP hD hw
              replace hP : va_P (dC, dI) vwCl [(wi_rm49_0_6_0 rm cy g_codeFrom), (wi_rm50_0_6_0 rm cy g_codeEnd), (wi_rm116_1_1700_1 rm cy J22_a3), (wi_rm51_0_3200_0 rm cy g_codes), (wi_rm46_0_48_0 rm cy g_walkers), (wi_rm56_0_9_0 rm cy g_now), (wi_rm43_0_8_0 rm cy g_bar), (wi_rm65_0_12_0 rm cy J22_a8), (wi_rm44_0_24_0 rm cy g_kinds), (wi_rm61_0_300_0 rm cy J15_a10), (wi_rm66_3_12_0 rm cy J22_a11), (wi_rm67_3_12_0 rm cy J22_a12), (wi_rm60_3_320_0 rm cy J15_a13), (wi_rm63_3_12_0 rm cy J22_a15), (wi_rm64_0_12_0 rm cy J22_a16), (wi_rm68_3_12_0 rm cy J22_a17), (wi_rm69_3_300_0 rm cy J22_a18), (wi_rm62_3_300_0 rm cy J22_a19), (a_this, .inr (10, mfs rm x_taped x_at x_end x_ended x_bad x_badPlace x_fault x_faultPlace x_namePlace x_awayTold x_away x_coded x_statements x_isCrossing J22_c0_55 J22_c0_58 J22_c0_59 J22_c0_70 J22_c0_71 J22_c0_72 J22_c0_73 J22_c0_74 x_rowMany x_fitMany x_fitRules x_fitGreen x_undoable x_newest x_seeded x_qCoded x_qWaits x_qOpened x_qBase J22_c0_117 x_qAnswer x_qIsNew x_octets)), (wi_rm41_0_4_0 rm cy g_many)] H := hP
              replace hD := k_D hP hD
              obtain ⟨h6, h7⟩ := hw
              subst h6
              replace hq := lf_b1 hq h7
              refine lv_ishl hx hb dX10_hold_28 ?_
              refine lv_topi (fun z8 ez8 => ?_)
              have h9 : ib z8 1 4096 := by rw [ez8]; exact ib_w 1 4096 (ib_shl1 12 (ib_w 0 12 hg_many_3 rfl) (by decide)) rfl
              have Ez8 := lf_op lf_ishl ez8 (lf_lc 1 (1 : Int) rfl) (lf_pt (lf_ra g_many) 3)
              refine lv_icmp_ge (tgt := 77) hx hb dX10_hold_29 rfl (fun c10 => ?_) (fun c10 => ?_)
              · replace hq := lf_pos hq (lf_le Ez8 (lf_rf J22_l2) c10)
                have h11 := ib_le h9 hJ22_l2 c10
                have h12 : ib J22_l2 1 4096 := ib_w 1 4096 h11.2 rfl
                obtain ⟨z13, ez13⟩ : ∃ y : Int32, y = J15_l1 + 1 := ⟨_, rfl⟩
                refine lv_iinc (v := z13) (lv' := [(1, .int z13), (0, .ref a_this), (2, .int J22_l2)]) hx hb dX10_hold_77 hl (k := 1) rfl (by rw [ez13]; rfl) (Nat.le_of_ble_eq_true rfl) rfl (fun ls hl => ?_)
                have h14 := ib_add hK22_J15_l1 (ib_c 1 1 1 rfl) rfl
                rw [← ez13] at h14
                have h15 : ib z13 1 4 := ib_w 1 4 h14.1 rfl
                have Ez13 := lf_add h14.2 (lf_rf J15_l1) (lf_lc 1 (1 : Int) rfl)
                refine lv_goto (tgt := 15) hx hb dX10_hold_80 rfl ?_
                exact ih15 J22_c0_55 J22_c0_58 J22_c0_117 J22_a3 J15_a10 J15_a13 z13 J22_c0_59 J22_c0_70 J22_c0_71 J22_c0_72 J22_c0_73 J22_c0_74 J22_a8 J22_a11 J22_a12 J22_a15 J22_a16 J22_a17 J22_a18 J22_a19 H locs ls (ib_w 1 1 hK22_x_isCrossing rfl) (ib_w 0 1700 hJ22_c0_117 rfl) (ib_w 10 120 hJ22_a7_4 rfl) (ib_w 0 4 h15 rfl) (ib_w 0 1 hJ22_c0_70 rfl) (ib_w 0 1 hJ22_c0_73 rfl) hJ15_a10 (by rw [← hK15]; rw [lf_u Ez13]; exact hq) (by have := h14.2; have : (1 : Int32).toInt = 1 := rfl; omega) (hP.sub [18, 0, 1, 2, 3, 4, 5, 6, 7, 8, 9, 10, 11, 12, 19, 13, 14, 15, 16, 17] rfl) (hD.sub [18, 0, 1, 2, 3, 4, 5, 6, 7, 8, 9, 10, 11, 12, 19, 13, 14, 15, 16, 17] (by decide +kernel) rfl) hS (lv_sub hl [1, 0] rfl)
              · as_aux_lemma =>
                  replace hq := lf_neg hq (lf_nle Ez8 (lf_rf J22_l2) c10)
                  have h16 := ib_nle h9 hJ22_l2 c10
                  have h17 : ib J22_l2 0 4095 := ib_w 0 4095 h16.2 rfl
                  refine lv_iload_n hx hb dX10_hold_32 rfl (lv_at hl 2 rfl) ?_
                  refine k_jim hP hD hS hA [] [true, true, true, true, true, true, true, true, true, true, true, true, true, true, true, true, true, true, true, true] rfl rfl (by decide +kernel) 0 0 (Nat.le_of_ble_eq_true rfl) (Nat.le_of_ble_eq_true rfl) (fun hPc hDc => k_runS (As := [.int J22_l2]) (rest := []) C0 hZ hS hA (s_X10_bits l dC dI cy sq J22_l2 (ib_w 0 4095 h17 rfl)) mS_X10_551 hPc hDc hl rfl rfl (Nat.le_of_ble_eq_true rfl) ⟨(Nat.le_of_ble_eq_true rfl), (Nat.le_of_ble_eq_true rfl)⟩ ⟨(Nat.le_of_ble_eq_true rfl), (Nat.le_of_ble_eq_true rfl)⟩ dX10_hold_33) (fun r18 u19 H locs hw hP hD hS => ?_)
                  try dsimp only at hP hD hw
                  replace hP : va_P (dC, dI) vwCl [(wi_rm49_0_6_0 rm cy g_codeFrom), (wi_rm50_0_6_0 rm cy g_codeEnd), (wi_rm116_1_1700_1 rm cy J22_a3), (wi_rm51_0_3200_0 rm cy g_codes), (wi_rm46_0_48_0 rm cy g_walkers), (wi_rm56_0_9_0 rm cy g_now), (wi_rm43_0_8_0 rm cy g_bar), (wi_rm65_0_12_0 rm cy J22_a8), (wi_rm44_0_24_0 rm cy g_kinds), (wi_rm61_0_300_0 rm cy J15_a10), (wi_rm66_3_12_0 rm cy J22_a11), (wi_rm67_3_12_0 rm cy J22_a12), (wi_rm60_3_320_0 rm cy J15_a13), (wi_rm63_3_12_0 rm cy J22_a15), (wi_rm64_0_12_0 rm cy J22_a16), (wi_rm68_3_12_0 rm cy J22_a17), (wi_rm69_3_300_0 rm cy J22_a18), (wi_rm62_3_300_0 rm cy J22_a19), (a_this, .inr (10, mfs rm x_taped x_at x_end x_ended x_bad x_badPlace x_fault x_faultPlace x_namePlace x_awayTold x_away x_coded x_statements x_isCrossing J22_c0_55 J22_c0_58 J22_c0_59 J22_c0_70 J22_c0_71 J22_c0_72 J22_c0_73 J22_c0_74 x_rowMany x_fitMany x_fitRules x_fitGreen x_undoable x_newest x_seeded x_qCoded x_qWaits x_qOpened x_qBase J22_c0_117 x_qAnswer x_qIsNew x_octets)), (wi_rm41_0_4_0 rm cy g_many)] H := hP
                  replace hD := k_D hP hD
                  have h20 := hw
                  replace hq := lf_b1 hq h20
                  refine lv_iload_n hx hb dX10_hold_36 rfl (lv_at hl 1 rfl) ?_
                  refine lv_icmp_eq (tgt := 43) hx hb dX10_hold_37 rfl (fun c21 => ?_) (fun c21 => ?_)
                  · as_aux_lemma =>
                      replace hq := lf_pos hq (lf_eq (lf_rf r18) (lf_rf J15_l1) c21)
                      have h22 := ib_eq (ib_any r18) hK22_J15_l1 c21
                      have h23 : ib r18 0 3 := ib_w 0 3 h22.1 rfl
                      refine lv_aload_n hx hb dX10_hold_43 rfl (lv_at hl 0 rfl) ?_
                      refine lv_aload_n hx hb dX10_hold_44 rfl (lv_at hl 0 rfl) ?_
                      refine k_get C0 fg_X10_139 hP 18 rfl rfl dX10_hold_45 ?_
                      refine lv_iconst (v := 1) hx hb dX10_hold_48 rfl ?_
                      refine va_iald hx hb C0.2.2.2.2.2.1 hP 5 0 rfl rfl (k_in 1 9 rfl) dX10_hold_49 ?_
                      refine lv_topi (fun z24 ez24 => ?_)
                      have Ez24 := lf_ld ez24 (lf_ra g_now) (lf_lc 1 (1 : Int) rfl)
                      refine lv_aload_n hx hb dX10_hold_50 rfl (lv_at hl 0 rfl) ?_
                      refine k_get C0 fg_X10_139 hP 18 rfl rfl dX10_hold_51 ?_
                      refine lv_iconst (v := 2) hx hb dX10_hold_54 rfl ?_
                      refine va_iald hx hb C0.2.2.2.2.2.1 hP 5 0 rfl rfl (k_in 2 9 rfl) dX10_hold_55 ?_
                      refine lv_topi (fun z25 ez25 => ?_)
                      have Ez25 := lf_ld ez25 (lf_ra g_now) (lf_lc 2 (2 : Int) rfl)
                      refine lv_iconst (v := 0) hx hb dX10_hold_56 rfl ?_
                      refine lv_iload_n hx hb dX10_hold_57 rfl (lv_at hl 2 rfl) ?_
                      refine k_jvm hP hD hS hA [18, 13, 14, 7, 10, 11, 15, 16, 19, 4, 5, 17, 6, 8, 0, 1, 2, 3, 9] [false, false, false, false, false, false, false, false, false, false, false, false, true] rfl rfl (by decide +kernel) 0 0 (Nat.le_of_ble_eq_true rfl) (Nat.le_of_ble_eq_true rfl) (fun hPc hDc => k_runV (As := [.int z24, .int z25, .int 0, .int J22_l2]) (rest := []) C0 hZ hS hA (s_X10_dayBy l dC dI cy sq a_this rm x_taped x_at x_end x_ended x_bad x_badPlace x_fault x_faultPlace x_namePlace x_awayTold x_away x_coded x_statements x_isCrossing J22_c0_55 J22_c0_58 J22_c0_59 J22_c0_70 J22_c0_71 J22_c0_72 J22_c0_73 J22_c0_74 x_rowMany x_fitMany x_fitRules x_fitGreen x_undoable x_newest x_seeded x_qCoded x_qWaits x_qOpened x_qBase J22_c0_117 x_qAnswer x_qIsNew x_octets g_many g_bar g_kinds g_walkers g_codeFrom g_codeEnd g_codes g_now J15_a10 J22_a19 J22_a15 J22_a16 J22_a8 J22_a11 J22_a12 J22_a17 J22_a18 J22_a3 z24 z25 0 J22_l2 (ib_w 0 1700 hJ22_c0_117 rfl) (ib_w 0 12 hg_many_3 rfl) (ib_w 10 120 hJ22_a7_4 rfl) hpg_walkers (ib_w (-1) 1600 hg_codeFrom_4 rfl) (ib_w 0 1600 hg_codeEnd_4 rfl) hJ15_a10 hG1) mV_X10_504 hPc hDc rfl rfl rfl hl rfl rfl (Nat.le_of_ble_eq_true rfl) ⟨(Nat.le_of_ble_eq_true rfl), (Nat.le_of_ble_eq_true rfl)⟩ ⟨(Nat.le_of_ble_eq_true rfl), (Nat.le_of_ble_eq_true rfl)⟩ dX10_hold_58) (fun u27 H locs hw hP hD hS => ?_)
                      obtain ⟨v28, v29, v30, v31, v32, v33, v34, v35, v36, f37, f38, f39, f40, f41, f42, f43, f44, f45⟩ := u27
                      try dsimp only at hP hD hw
                      replace hP : va_P (dC, dI) vwCl [(wi_rm60_3_320_0 rm cy J15_a13), (a_this, .inr (10, mfs rm x_taped x_at x_end x_ended x_bad x_badPlace x_fault x_faultPlace x_namePlace x_awayTold x_away x_coded x_statements x_isCrossing v28 v29 v30 v31 v32 v33 v34 v35 x_rowMany x_fitMany x_fitRules x_fitGreen x_undoable x_newest x_seeded x_qCoded x_qWaits x_qOpened x_qBase v36 x_qAnswer x_qIsNew x_octets)), (wi_rm63_3_12_0 rm cy f37), (wi_rm64_0_12_0 rm cy f38), (wi_rm65_0_12_0 rm cy f39), (wi_rm66_3_12_0 rm cy f40), (wi_rm67_3_12_0 rm cy f41), (wi_rm68_3_12_0 rm cy f42), (wi_rm69_3_300_0 rm cy f43), (wi_rm41_0_4_0 rm cy g_many), (wi_rm46_0_48_0 rm cy g_walkers), (wi_rm56_0_9_0 rm cy g_now), (wi_rm62_3_300_0 rm cy f44), (wi_rm43_0_8_0 rm cy g_bar), (wi_rm44_0_24_0 rm cy g_kinds), (wi_rm49_0_6_0 rm cy g_codeFrom), (wi_rm50_0_6_0 rm cy g_codeEnd), (wi_rm116_1_1700_1 rm cy f45), (wi_rm51_0_3200_0 rm cy g_codes), (wi_rm61_0_300_0 rm cy J15_a10)] H := hP
                      replace hD := k_D hP hD
                      obtain ⟨h46, h47, h48, h49⟩ := hw
                      have h49 := by have h9 := h49; rw [lf_u Ez24] at h9; rw [lf_u Ez25] at h9; try simp only [show (0 : Int32).toInt = (0 : Int) from rfl] at h9; exact h9
                      replace hq := lf_p1 hq h49
                      replace hq := lf_p1 hq rfl
                      replace hq := lf_p1 hq rfl
                      replace hq := lf_p1 hq rfl
                      replace hq := lf_p1 hq rfl
                      as_aux_lemma =>
                        replace hq := lf_p1 hq rfl
                        replace hq := lf_p1 hq rfl
                        replace hq := lf_p1 hq rfl
                        replace hq := lf_p1 hq rfl
                        replace hq := lf_p1 hq rfl
                        replace hq := lf_p1 hq rfl
                        replace hq := lf_p1 hq rfl
                        replace hq := lf_p1 hq rfl
                        replace hq := lf_p1 hq rfl
                        replace hq := lf_p1 hq rfl
                        replace hq := lf_p1 hq rfl
                        replace hq := lf_p1 hq rfl
                        refine lv_aload_n hx hb dX10_hold_61 rfl (lv_at hl 0 rfl) ?_
                        refine lv_iconst (v := 1) hx hb dX10_hold_62 rfl ?_
                        refine k_jim hP hD hS hA [1, 9, 5] [true, false, true, true, true, false, true, true, true, false, true, true, true, true, true, true, true, true, true, true] rfl rfl (by decide +kernel) 0 0 (Nat.le_of_ble_eq_true rfl) (Nat.le_of_ble_eq_true rfl) (fun hPc hDc => k_runV (As := [.int 1]) (rest := []) C0 hZ hS hA (s_X10_toldOfDay_a0_1 l dC dI cy sq a_this rm x_taped x_at x_end x_ended x_bad x_badPlace x_fault x_faultPlace x_namePlace x_awayTold x_away x_coded x_statements x_isCrossing v28 v29 v30 v31 v32 v33 v34 v35 x_rowMany x_fitMany x_fitRules x_fitGreen x_undoable x_newest x_seeded x_qCoded x_qWaits x_qOpened x_qBase v36 x_qAnswer x_qIsNew x_octets g_many f40 (ib_w 0 12 hg_many_3 rfl)) mV_X10_541 hPc hDc rfl rfl rfl hl rfl rfl (Nat.le_of_ble_eq_true rfl) ⟨(Nat.le_of_ble_eq_true rfl), (Nat.le_of_ble_eq_true rfl)⟩ ⟨(Nat.le_of_ble_eq_true rfl), (Nat.le_of_ble_eq_true rfl)⟩ dX10_hold_63) (fun r50 u51 H locs hw hP hD hS => ?_)
                        try dsimp only at hP hD hw
                        replace hP : va_P (dC, dI) vwCl [(wi_rm60_3_320_0 rm cy J15_a13), (wi_rm63_3_12_0 rm cy f37), (wi_rm64_0_12_0 rm cy f38), (wi_rm65_0_12_0 rm cy f39), (wi_rm67_3_12_0 rm cy f41), (wi_rm68_3_12_0 rm cy f42), (wi_rm69_3_300_0 rm cy f43), (wi_rm46_0_48_0 rm cy g_walkers), (wi_rm56_0_9_0 rm cy g_now), (wi_rm62_3_300_0 rm cy f44), (wi_rm43_0_8_0 rm cy g_bar), (wi_rm44_0_24_0 rm cy g_kinds), (wi_rm49_0_6_0 rm cy g_codeFrom), (wi_rm50_0_6_0 rm cy g_codeEnd), (wi_rm116_1_1700_1 rm cy f45), (wi_rm51_0_3200_0 rm cy g_codes), (wi_rm61_0_300_0 rm cy J15_a10), (a_this, .inr (10, mfs rm x_taped x_at x_end x_ended x_bad x_badPlace x_fault x_faultPlace x_namePlace x_awayTold x_away x_coded x_statements x_isCrossing v28 v29 v30 v31 v32 v33 v34 v35 x_rowMany x_fitMany x_fitRules x_fitGreen x_undoable x_newest x_seeded x_qCoded x_qWaits x_qOpened x_qBase v36 x_qAnswer x_qIsNew x_octets)), (wi_rm41_0_4_0 rm cy g_many), (wi_rm66_3_12_0 rm cy f40)] H := hP
                        replace hD := k_D hP hD
                        have h52 := hw
                        replace hq := lf_b1 hq h52
                        refine lv_if_ne (tgt := 71) hx hb dX10_hold_66 rfl (fun c53 => ?_) (fun c53 => ?_)
                        · replace hq := lf_neg hq (lf_ne (lf_rf r50) (lf_lc 0 (0 : Int) rfl) c53)
                          exact jn71 v28 v29 v30 v31 v32 v33 v34 v35 v36 f45 f39 f40 f41 f37 f38 f42 f43 f44 H locs ls (ib_w 0 3 hK22_J15_l1 rfl) (ib_w 0 4095 h17 rfl) (ib_w 1 1 hK22_x_isCrossing rfl) (ib_w 0 1 h46 rfl) (ib_w 0 1 h47 rfl) (ib_w 0 1700 h48 rfl) (ib_w 10 120 hJ22_a7_4 rfl) (by exact hq) (hP.sub [17, 12, 13, 14, 15, 7, 8, 10, 3, 11, 16, 19, 4, 0, 18, 1, 2, 5, 6, 9] rfl) (hD.sub [17, 12, 13, 14, 15, 7, 8, 10, 3, 11, 16, 19, 4, 0, 18, 1, 2, 5, 6, 9] (by decide +kernel) rfl) hS (lv_sub hl [0, 1, 2] rfl)
                        · replace hq := lf_pos hq (lf_eq (lf_rf r50) (lf_lc 0 (0 : Int) rfl) c53)
                          have h54 := ib_eq (ib_any r50) (ib_c 0 0 0 rfl) c53
                          have h55 : ib r50 0 0 := ib_w 0 0 h54.1 rfl
                          refine lv_iload_n hx hb dX10_hold_69 rfl (lv_at hl 2 rfl) ?_
                          subst hQ; exact k_iret hx hb hr hlk rfl ((v28, v29, v30, v31, v32, v33, v34, v35, v36, f45, f39, J15_a10, f40, f41, J15_a13, f37, f38, f42, f43, f44)) hS ⟨ib_w 0 1 h46 rfl, ib_w 0 1 h47 rfl, ib_w 0 1700 h48 rfl, hJ15_a10, ib_w (-1) 4095 h17 rfl, (hO.symm.trans (by exact hq))⟩ (hP.sub [17, 12, 13, 14, 15, 7, 8, 10, 3, 11, 16, 19, 4, 0, 18, 1, 2, 5, 6, 9] rfl) (hD.sub [17, 12, 13, 14, 15, 7, 8, 10, 3, 11, 16, 19, 4, 0, 18, 1, 2, 5, 6, 9] (by decide +kernel) rfl) (Nat.le_of_ble_eq_true rfl) (Nat.le_of_ble_eq_true rfl) dX10_hold_70
                  · replace hq := lf_neg hq (lf_ne (lf_rf r18) (lf_rf J15_l1) c21)
                    refine lv_goto (tgt := 71) hx hb dX10_hold_40 rfl ?_
                    exact jn71 J22_c0_55 J22_c0_58 J22_c0_59 J22_c0_70 J22_c0_71 J22_c0_72 J22_c0_73 J22_c0_74 J22_c0_117 J22_a3 J22_a8 J22_a11 J22_a12 J22_a15 J22_a16 J22_a17 J22_a18 J22_a19 H locs ls (ib_w 0 3 hK22_J15_l1 rfl) (ib_w 0 4095 h17 rfl) (ib_w 1 1 hK22_x_isCrossing rfl) (ib_w 0 1 hJ22_c0_70 rfl) (ib_w 0 1 hJ22_c0_73 rfl) (ib_w 0 1700 hJ22_c0_117 rfl) (ib_w 10 120 hJ22_a7_4 rfl) (by exact hq) (hP.sub [18, 0, 1, 2, 3, 4, 5, 6, 7, 8, 9, 10, 11, 12, 19, 13, 14, 15, 16, 17] rfl) (hD.sub [18, 0, 1, 2, 3, 4, 5, 6, 7, 8, 9, 10, 11, 12, 19, 13, 14, 15, 16, 17] (by decide +kernel) rfl) hS (lv_sub hl [0, 1, 2] rfl)
        refine lv_iload_n hx hb dX10_hold_15 rfl (lv_at hl 1 rfl) ?_
        refine lv_iconst (v := 3) hx hb dX10_hold_16 rfl ?_
        refine lv_icmp_gt (tgt := 83) hx hb dX10_hold_17 rfl (fun c56 => ?_) (fun c56 => ?_)
        · replace hq := lf_pos hq (lf_lt (lf_lc 3 (3 : Int) rfl) (lf_rf J15_l1) c56)
          have h57 := ib_lt (ib_c 3 3 3 rfl) hJ15_l1 c56
          have h58 : ib J15_l1 4 4 := ib_w 4 4 h57.2 rfl
          refine lv_iconst (v := (-1)) hx hb dX10_hold_83 rfl ?_
          subst hQ; exact k_iret hx hb hr hlk rfl ((J15_c0_55, J15_c0_58, J15_c0_59, J15_c0_70, J15_c0_71, J15_c0_72, J15_c0_73, J15_c0_74, J15_c0_117, J15_a3, J15_a8, J15_a10, J15_a11, J15_a12, J15_a13, J15_a15, J15_a16, J15_a17, J15_a18, J15_a19)) hS ⟨ib_w 0 1 hJ15_c0_70 rfl, ib_w 0 1 hJ15_c0_73 rfl, ib_w 0 1700 hJ15_c0_117 rfl, hJ15_a10, ib_w (-1) 4095 (ib_c (-1) (-1) (-1) rfl) rfl, (hO.symm.trans (by try simp only [show ((-1) : Int32).toInt = (-1 : Int) from rfl]; exact hq))⟩ hP hD (Nat.le_of_ble_eq_true rfl) (Nat.le_of_ble_eq_true rfl) dX10_hold_84
        · replace hq := lf_neg hq (lf_nlt (lf_lc 3 (3 : Int) rfl) (lf_rf J15_l1) c56)
          have h59 := ib_nlt (ib_c 3 3 3 rfl) hJ15_l1 c56
          have h60 : ib J15_l1 0 3 := ib_w 0 3 h59.2 rfl
          refine lv_iconst (v := 0) hx hb dX10_hold_20 rfl ?_
          refine lv_istore_n (lv' := [(2, .int 0), (0, .ref a_this), (1, .int J15_l1)]) hx hb dX10_hold_21 rfl hl (Nat.le_of_ble_eq_true rfl) rfl (fun ls hl => ?_)
          exact jn22 4098 0 J15_c0_55 J15_c0_58 J15_c0_59 J15_c0_70 J15_c0_71 J15_c0_72 J15_c0_73 J15_c0_74 J15_c0_117 J15_a3 J15_a8 J15_a11 J15_a12 J15_a15 J15_a16 J15_a17 J15_a18 J15_a19 H locs ls (ib_w 0 3 h60 rfl) (ib_w 1 1 hK15_x_isCrossing rfl) (ib_w 10 120 hJ15_a7_4 rfl) (ib_w 0 4096 (ib_c 0 0 0 rfl) rfl) (ib_w 0 1 hJ15_c0_70 rfl) (ib_w 0 1 hJ15_c0_73 rfl) (ib_w 0 1700 hJ15_c0_117 rfl) (by try simp only [show (0 : Int32).toInt = (0 : Int) from rfl]; exact hq) (by have := (ib_c 0 0 0 rfl); unfold ib at this; omega) hP hD hS (lv_sub hl [1, 2, 0] rfl)
  refine lv_aload_n hx hb dX10_hold_0 rfl (lv_at hl 0 rfl) ?_
  refine k_get C0 fg_X10_417 hP 0 rfl rfl dX10_hold_1 ?_
  refine lv_if_ne (tgt := 9) hx hb dX10_hold_4 rfl (fun c61 => ?_) (fun c61 => ?_)
  · replace hq := lf_neg hq (lf_ne (lf_rf x_isCrossing) (lf_lc 0 (0 : Int) rfl) c61)
    have h62 : ib x_isCrossing 1 1 := ib_w 1 1 (ib_ne_lo 0 hx_isCrossing rfl c61) rfl
    have h63 : ib (g_bar 4) 10 120 := ib_w 10 120 (ib_two hg_bar_4 (hc_cr (ib_nz h62 rfl))) rfl
    refine lv_aload_n hx hb dX10_hold_9 rfl (lv_at hl 0 rfl) ?_
    refine k_jvm hP hD hS hA [0, 1, 2, 3, 4, 5, 6, 7, 8, 9, 10, 11, 12, 13] [false, false, false, false, false, false, false, false, false, false, false, false, false, false, true, true, true, true, true, true] rfl rfl (by decide +kernel) 0 0 (Nat.le_of_ble_eq_true rfl) (Nat.le_of_ble_eq_true rfl) (fun hPc hDc => k_runV (As := []) (rest := []) C0 hZ hS hA (s_X10_laysCars l dC dI cy sq a_this rm x_taped x_at x_end x_ended x_bad x_badPlace x_fault x_faultPlace x_namePlace x_awayTold x_away x_coded x_statements x_isCrossing x_textKind x_askSecond x_redMany x_isOpen x_lastGreen x_greenTo x_isCycleGreen x_stillGreen x_rowMany x_fitMany x_fitRules x_fitGreen x_undoable x_newest x_seeded x_qCoded x_qWaits x_qOpened x_qBase x_qPiled x_qAnswer x_qIsNew x_octets g_bar g_kinds g_walkers g_codeFrom g_codeEnd g_codes g_now g_isCar g_gaps g_waits g_goes g_harms g_qPile (ib_w 0 1700 hx_qPiled rfl) (ib_w 10 120 h63 rfl) hpg_walkers (ib_w (-1) 1600 hg_codeFrom_3 rfl) (ib_w 0 1600 hg_codeEnd_3 rfl) hg_gaps hG0) mV_X10_501 hPc hDc rfl rfl rfl hl rfl rfl (Nat.le_of_ble_eq_true rfl) ⟨(Nat.le_of_ble_eq_true rfl), (Nat.le_of_ble_eq_true rfl)⟩ ⟨(Nat.le_of_ble_eq_true rfl), (Nat.le_of_ble_eq_true rfl)⟩ dX10_hold_10) (fun u65 H locs hw hP hD hS => ?_)
    obtain ⟨v66, v67, v68, f69, f70, f71⟩ := u65
    try dsimp only at hP hD hw
    replace hP : va_P (dC, dI) vwCl [(wi_rm41_0_4_0 rm cy g_many), (wi_rm63_3_12_0 rm cy g_isHere), (wi_rm64_0_12_0 rm cy g_crosses), (wi_rm68_3_12_0 rm cy g_presses), (wi_rm69_3_300_0 rm cy g_crossedIn), (wi_rm62_3_300_0 rm cy g_isGreen), (a_this, .inr (10, mfs rm x_taped x_at x_end x_ended x_bad x_badPlace x_fault x_faultPlace x_namePlace x_awayTold x_away x_coded x_statements x_isCrossing v66 v67 x_redMany x_isOpen x_lastGreen x_greenTo x_isCycleGreen x_stillGreen x_rowMany x_fitMany x_fitRules x_fitGreen x_undoable x_newest x_seeded x_qCoded x_qWaits x_qOpened x_qBase v68 x_qAnswer x_qIsNew x_octets)), (wi_rm49_0_6_0 rm cy g_codeFrom), (wi_rm50_0_6_0 rm cy g_codeEnd), (wi_rm116_1_1700_1 rm cy f69), (wi_rm51_0_3200_0 rm cy g_codes), (wi_rm46_0_48_0 rm cy g_walkers), (wi_rm56_0_9_0 rm cy g_now), (wi_rm43_0_8_0 rm cy g_bar), (wi_rm65_0_12_0 rm cy g_waits), (wi_rm44_0_24_0 rm cy g_kinds), (wi_rm61_0_300_0 rm cy f70), (wi_rm66_3_12_0 rm cy g_goes), (wi_rm67_3_12_0 rm cy g_harms), (wi_rm60_3_320_0 rm cy f71)] H := hP
    replace hD := k_D hP hD
    obtain ⟨h72, h73, h74⟩ := hw
    replace hq := lf_p1 hq h74
    replace hq := lf_p1 hq rfl
    replace hq := lf_p1 hq rfl
    replace hq := lf_p1 hq rfl
    replace hq := lf_p1 hq rfl
    refine lv_iconst (v := 0) hx hb dX10_hold_13 rfl ?_
    refine lv_istore_n (lv' := [(1, .int 0), (0, .ref a_this)]) hx hb dX10_hold_14 rfl hl (Nat.le_of_ble_eq_true rfl) rfl (fun ls hl => ?_)
    exact jn15 6 v66 v67 v68 f69 f70 f71 0 x_redMany x_isOpen x_lastGreen x_greenTo x_isCycleGreen x_stillGreen g_waits g_goes g_harms g_isHere g_crosses g_presses g_crossedIn g_isGreen H locs ls (ib_w 1 1 h62 rfl) (ib_w 0 1700 h72 rfl) (ib_w 10 120 h63 rfl) (ib_w 0 4 (ib_c 0 0 0 rfl) rfl) (ib_w 0 1 hx_isOpen rfl) (ib_w 0 1 hx_isCycleGreen rfl) h73 (by try simp only [show (0 : Int32).toInt = (0 : Int) from rfl]; exact hq) (by have := (ib_c 0 0 0 rfl); unfold ib at this; omega) (hP.sub [6, 7, 8, 9, 10, 11, 12, 13, 14, 15, 16, 17, 18, 19, 0, 1, 2, 3, 4, 5] rfl) (hD.sub [6, 7, 8, 9, 10, 11, 12, 13, 14, 15, 16, 17, 18, 19, 0, 1, 2, 3, 4, 5] (by decide +kernel) rfl) hS (lv_sub hl [1, 0] rfl)
  · replace hq := lf_pos hq (lf_eq (lf_rf x_isCrossing) (lf_lc 0 (0 : Int) rfl) c61)
    have h75 := ib_eq hx_isCrossing (ib_c 0 0 0 rfl) c61
    have h76 : ib x_isCrossing 0 0 := ib_w 0 0 h75.1 rfl
    refine lv_iconst (v := (-1)) hx hb dX10_hold_7 rfl ?_
    subst hQ; exact k_iret hx hb hr hlk rfl ((x_textKind, x_askSecond, x_redMany, x_isOpen, x_lastGreen, x_greenTo, x_isCycleGreen, x_stillGreen, x_qPiled, g_qPile, g_waits, g_gaps, g_goes, g_harms, g_isCar, g_isHere, g_crosses, g_presses, g_crossedIn, g_isGreen)) hS ⟨ib_w 0 1 hx_isOpen rfl, ib_w 0 1 hx_isCycleGreen rfl, ib_w 0 1700 hx_qPiled rfl, hg_gaps, ib_w (-1) 4095 (ib_c (-1) (-1) (-1) rfl) rfl, (hO.symm.trans (by try simp only [show ((-1) : Int32).toInt = (-1 : Int) from rfl]; exact hq))⟩ hP hD (Nat.le_of_ble_eq_true rfl) (Nat.le_of_ble_eq_true rfl) dX10_hold_8
set_option maxHeartbeats 4000000 in
set_option maxRecDepth 100000 in
theorem s_X10_writes_f_octets_0_10 (l : Launch) (dC : Nat → ClassId) (dI : Nat → Nat → Nat) (cy : Nat → ClassId) (sq : Nat → Nat) (a_this : Nat) (rm : Nat → Nat) (x_taped : Int32) (x_at : Int32) (x_end : Int32) (x_ended : Int32) (x_bad : Int32) (x_badPlace : Int32) (x_fault : Int32) (x_faultPlace : Int32) (x_namePlace : Int32) (x_awayTold : Int32) (x_away : Int32) (x_coded : Int32) (x_statements : Int32) (x_isCrossing : Int32) (x_textKind : Int32) (x_askSecond : Int32) (x_redMany : Int32) (x_isOpen : Int32) (x_lastGreen : Int32) (x_greenTo : Int32) (x_isCycleGreen : Int32) (x_stillGreen : Int32) (x_rowMany : Int32) (x_fitMany : Int32) (x_fitRules : Int32) (x_fitGreen : Int32) (x_undoable : Int32) (x_newest : Int32) (x_seeded : Int64) (x_qCoded : Int32) (x_qWaits : Int32) (x_qOpened : Int32) (x_qBase : Int32) (x_qPiled : Int32) (x_qAnswer : Int64) (x_qIsNew : Int32) (x_octets : Int32) (g_octet : Nat → Int32) (p0 : Int32) (hx_octets : ib x_octets 0 10) : k_Met l yX10_writes cX10_writes 2 none { frames := 0, cells := 0, slots := 0, locals := 0 } dC dI cy sq [.ref a_this, .int p0] [(a_this, .inr (10, mfs rm x_taped x_at x_end x_ended x_bad x_badPlace x_fault x_faultPlace x_namePlace x_awayTold x_away x_coded x_statements x_isCrossing x_textKind x_askSecond x_redMany x_isOpen x_lastGreen x_greenTo x_isCycleGreen x_stillGreen x_rowMany x_fitMany x_fitRules x_fitGreen x_undoable x_newest x_seeded x_qCoded x_qWaits x_qOpened x_qBase x_qPiled x_qAnswer x_qIsNew x_octets)), (wi_rm120_0_11_0 rm cy g_octet)] (k_Qv dC dI (fun (u : Int32 × (Nat → Int32)) => match u with | (n0, n1) => ib n0 1 11 ∧ n0.toInt = x_octets.toInt + 1 ∧ (F_X10_writes_f_octets_0_10 (Int32.toInt x_octets) (lf_A g_octet) (Int32.toInt p0) = ((Int32.toInt n0), (lf_A n1)))) (fun u : Int32 × (Nat → Int32) => match u with | (n0, n1) => [(a_this, .inr (10, mfs rm x_taped x_at x_end x_ended x_bad x_badPlace x_fault x_faultPlace x_namePlace x_awayTold x_away x_coded x_statements x_isCrossing x_textKind x_askSecond x_redMany x_isOpen x_lastGreen x_greenTo x_isCycleGreen x_stillGreen x_rowMany x_fitMany x_fitRules x_fitGreen x_undoable x_newest x_seeded x_qCoded x_qWaits x_qOpened x_qBase x_qPiled x_qAnswer x_qIsNew n0)), (wi_rm120_0_11_0 rm cy n1)])) := by
  refine k_ofW2 (by decide +kernel) (Nat.le_of_ble_eq_true rfl) ?_
  intro p e s m below meth c A ls H locs args Q hQ C0 hZ hr hlk hin hP hD hA hS hl
  have C0 : k_cx p s m args c cX10_writes 2 RX10 dC dI cy sq := C0
  have hx := C0.1
  have hb := C0.2.1
  have hl : lv_has ls 2 [(0, .ref a_this), (1, .int p0)] := hl
  obtain ⟨O, hO⟩ : ∃ o, o = F_X10_writes_f_octets_0_10 (Int32.toInt x_octets) (lf_A g_octet) (Int32.toInt p0) := ⟨_, rfl⟩
  have hq := hO
  unfold F_X10_writes_f_octets_0_10 at hq
  refine lv_aload_n hx hb dX10_writes_0 rfl (lv_at hl 0 rfl) ?_
  refine k_get C0 fg_X10_273 hP 0 rfl rfl dX10_writes_1 ?_
  refine lv_aload_n hx hb dX10_writes_4 rfl (lv_at hl 0 rfl) ?_
  refine k_get C0 fg_X10_699 hP 0 rfl rfl dX10_writes_5 ?_
  refine lv_iload_n hx hb dX10_writes_8 rfl (lv_at hl 1 rfl) ?_
  refine va_iast hx hb C0.2.2.2.2.2.1 hP hD hS 1 0 rfl rfl (ib_in 11 hx_octets rfl) dX10_writes_9 (fun H locs hP hD hS => ?_)
  replace hP : va_P (dC, dI) vwCl [(a_this, .inr (10, mfs rm x_taped x_at x_end x_ended x_bad x_badPlace x_fault x_faultPlace x_namePlace x_awayTold x_away x_coded x_statements x_isCrossing x_textKind x_askSecond x_redMany x_isOpen x_lastGreen x_greenTo x_isCycleGreen x_stillGreen x_rowMany x_fitMany x_fitRules x_fitGreen x_undoable x_newest x_seeded x_qCoded x_qWaits x_qOpened x_qBase x_qPiled x_qAnswer x_qIsNew x_octets)), (wi_rm120_0_11_0 rm cy (upd g_octet (Int32.toNatClampNeg x_octets) p0))] H := hP
  replace hD := k_D hP hD
  generalize ef1 : upd g_octet (Int32.toNatClampNeg x_octets) p0 = f1 at hP hD
  have Ef1 := lf_st ef1 (lf_ra g_octet) (lf_rf x_octets) (lf_rf p0)
  refine lv_aload_n hx hb dX10_writes_10 rfl (lv_at hl 0 rfl) ?_
  refine lv_dup hx hb dX10_writes_11 rfl ?_
  refine k_get C0 fg_X10_699 hP 0 rfl rfl dX10_writes_12 ?_
  refine lv_iconst (v := 1) hx hb dX10_writes_15 rfl ?_
  refine lv_iadd hx hb dX10_writes_16 ?_
  refine lv_topi (fun z2 ez2 => ?_)
  have h3 := ib_add hx_octets (ib_c 1 1 1 rfl) rfl
  rw [← ez2] at h3
  have h4 : ib z2 1 11 := ib_w 1 11 h3.1 rfl
  have Ez2 := lf_add h3.2 (lf_rf x_octets) (lf_lc 1 (1 : Int) rfl)
  refine k_put C0 fp_X10_699 hP hD hS 0 rfl rfl rfl (Nat.le_of_ble_eq_true rfl) dX10_writes_17 (fun H locs hP hD hS => ?_)
  replace hP : va_P (dC, dI) vwCl [(a_this, .inr (10, mfs rm x_taped x_at x_end x_ended x_bad x_badPlace x_fault x_faultPlace x_namePlace x_awayTold x_away x_coded x_statements x_isCrossing x_textKind x_askSecond x_redMany x_isOpen x_lastGreen x_greenTo x_isCycleGreen x_stillGreen x_rowMany x_fitMany x_fitRules x_fitGreen x_undoable x_newest x_seeded x_qCoded x_qWaits x_qOpened x_qBase x_qPiled x_qAnswer x_qIsNew z2)), (wi_rm120_0_11_0 rm cy f1)] H := hP
  replace hD := k_D hP hD
  subst hQ; exact k_vret hx hb hr hlk ((z2, f1)) hS ⟨ib_w 1 11 h4 rfl, (by have := (hx_octets).1; have := (hx_octets).2; have := (h4).1; have := (h4).2; have := h3.2; have : (1 : Int32).toInt = 1 := rfl; omega), (hO.symm.trans (by rw [lf_u Ez2]; rw [lf_ua Ef1]; exact hq))⟩ hP hD (Nat.le_of_ble_eq_true rfl) (Nat.le_of_ble_eq_true rfl) dX10_writes_20
set_option maxHeartbeats 4000000 in
set_option maxRecDepth 100000 in
theorem s_X10_checked_i1_0_10_r11 (l : Launch) (dC : Nat → ClassId) (dI : Nat → Nat → Nat) (cy : Nat → ClassId) (sq : Nat → Nat) (a_arg0 : Nat) (g_arg0 : Nat → Int32) (p1 : Int32) (hp1 : ib p1 0 10) : k_Met l yX10_checked cX10_checked 4 (some .int) { frames := 0, cells := 0, slots := 0, locals := 0 } dC dI cy sq [.ref a_arg0, .int p1] [(wi_0_11_0 a_arg0 cy g_arg0)] (k_Qi dC dI (fun (r : Int32) (_ : Unit) => (F_X10_checked_i1_0_10_r11 (lf_A g_arg0) (Int32.toInt p1) = ((Int32.toInt r)))) (fun _ : Unit => [(wi_0_11_0 a_arg0 cy g_arg0)])) := by
  refine k_ofW2 (by decide +kernel) (Nat.le_of_ble_eq_true rfl) ?_
  intro p e s m below meth c A ls H locs args Q hQ C0 hZ hr hlk hin hP hD hA hS hl
  have C0 : k_cx p s m args c cX10_checked 4 RX10 dC dI cy sq := C0
  have hx := C0.1
  have hb := C0.2.1
  have hl : lv_has ls 4 [(0, .ref a_arg0), (1, .int p1)] := hl
  obtain ⟨O, hO⟩ : ∃ o, o = F_X10_checked_i1_0_10_r11 (lf_A g_arg0) (Int32.toInt p1) := ⟨_, rfl⟩
  have hq := hO
  unfold F_X10_checked_i1_0_10_r11 at hq
  have jn5 : ∀ (n : Nat) (J5_l2 : Int32) (J5_l3 : Int32) (H : Heap) (locs : List Loc) (ls : Array Slot), ib J5_l3 0 10 → (O = F_X10_checked_i1_0_10_r11_5 (lf_A g_arg0) (Int32.toInt p1) n (Int32.toInt J5_l2) (Int32.toInt J5_l3)) → 11 ≤ J5_l3.toInt + (n : Int) → va_P (dC, dI) vwCl [(wi_0_11_0 a_arg0 cy g_arg0)] H → va_D A [(wi_0_11_0 a_arg0 cy g_arg0)] → va_S A s.heap H locs → lv_has ls 4 [(0, .ref a_arg0), (1, .int p1), (2, .int J5_l2), (3, .int J5_l3)] → W p l e { frames := 0, cells := 0, slots := 0, locals := 0 } s m args below meth c H locs 0 0 Q (F0 m 5 ls []) := by
    as_aux_lemma =>
      intro n
      induction n with
      | zero =>
        intro J5_l2 J5_l3 H locs ls hJ5_l3 hq hm
        exact absurd hm (by have := hJ5_l3; unfold ib at this; omega)
      | succ n ih =>
        intro J5_l2 J5_l3 H locs ls hJ5_l3 hq hm5 hP hD hS hl
        have ih5 := ih
        obtain ⟨K5, hK5⟩ : ∃ K, K = F_X10_checked_i1_0_10_r11_5 (lf_A g_arg0) (Int32.toInt p1) n := ⟨_, rfl⟩
        have hq : O = F_X10_checked_i1_0_10_r11_5b (lf_A g_arg0) (Int32.toInt p1) K5 (Int32.toInt J5_l2) (Int32.toInt J5_l3) := by rw [hK5]; exact hq
        unfold F_X10_checked_i1_0_10_r11_5b at hq
        refine lv_iload_n hx hb dX10_checked_5 rfl (lv_at hl 3 rfl) ?_
        refine lv_iload_n hx hb dX10_checked_6 rfl (lv_at hl 1 rfl) ?_
        refine lv_icmp_ge (tgt := 28) hx hb dX10_checked_7 rfl (fun c1 => ?_) (fun c1 => ?_)
        · replace hq := lf_pos hq (lf_le (lf_rf p1) (lf_rf J5_l3) c1)
          have h2 := ib_le hp1 hJ5_l3 c1
          refine lv_iload_n hx hb dX10_checked_28 rfl (lv_at hl 2 rfl) ?_
          subst hQ; exact k_iret hx hb hr hlk rfl () hS ((hO.symm.trans (by exact hq))) hP hD (Nat.le_of_ble_eq_true rfl) (Nat.le_of_ble_eq_true rfl) dX10_checked_29
        · as_aux_lemma =>
            replace hq := lf_neg hq (lf_nle (lf_rf p1) (lf_rf J5_l3) c1)
            have h3 := ib_nle hp1 hJ5_l3 c1
            have h4 : ib p1 1 10 := ib_w 1 10 h3.1 rfl
            have h5 : ib J5_l3 0 9 := ib_w 0 9 h3.2 rfl
            refine lv_iconst (v := 3) hx hb dX10_checked_10 rfl ?_
            refine lv_iload_n hx hb dX10_checked_11 rfl (lv_at hl 2 rfl) ?_
            refine lv_imul hx hb dX10_checked_12 ?_
            refine lv_topi (fun z6 ez6 => ?_)
            have Ez6 := lf_op lf_imul ez6 (lf_lc 3 (3 : Int) rfl) (lf_rf J5_l2)
            refine lv_aload_n hx hb dX10_checked_13 rfl (lv_at hl 0 rfl) ?_
            refine lv_iload_n hx hb dX10_checked_14 rfl (lv_at hl 3 rfl) ?_
            refine va_iald hx hb C0.2.2.2.2.2.1 hP 0 0 rfl rfl (ib_in 11 h5 rfl) dX10_checked_15 ?_
            refine lv_topi (fun z7 ez7 => ?_)
            have Ez7 := lf_ld ez7 (lf_ra g_arg0) (lf_rf J5_l3)
            refine lv_iadd hx hb dX10_checked_16 ?_
            refine lv_topi (fun z8 ez8 => ?_)
            have Ez8 := lf_op lf_iadd ez8 Ez6 Ez7
            refine lv_sipush (v := 251) hx hb dX10_checked_17 rfl ?_
            refine lv_irem hx hb dX10_checked_20 (by decide) ?_
            refine lv_topi (fun z9 ez9 => ?_)
            have Ez9 := lf_op lf_irem ez9 Ez8 (lf_lc 251 (251 : Int) rfl)
            refine lv_istore_n (lv' := [(2, .int z9), (0, .ref a_arg0), (1, .int p1), (3, .int J5_l3)]) hx hb dX10_checked_21 rfl hl (Nat.le_of_ble_eq_true rfl) rfl (fun ls hl => ?_)
            obtain ⟨z10, ez10⟩ : ∃ y : Int32, y = J5_l3 + 1 := ⟨_, rfl⟩
            refine lv_iinc (v := z10) (lv' := [(3, .int z10), (2, .int z9), (0, .ref a_arg0), (1, .int p1)]) hx hb dX10_checked_22 hl (k := 3) rfl (by rw [ez10]; rfl) (Nat.le_of_ble_eq_true rfl) rfl (fun ls hl => ?_)
            have h11 := ib_add h5 (ib_c 1 1 1 rfl) rfl
            rw [← ez10] at h11
            have h12 : ib z10 1 10 := ib_w 1 10 h11.1 rfl
            have Ez10 := lf_add h11.2 (lf_rf J5_l3) (lf_lc 1 (1 : Int) rfl)
            refine lv_goto (tgt := 5) hx hb dX10_checked_25 rfl ?_
            exact ih5 z9 z10 H locs ls (ib_w 0 10 h12 rfl) (by rw [← hK5]; rw [lf_u Ez9]; rw [lf_u Ez10]; exact hq) (by have := h11.2; have : (1 : Int32).toInt = 1 := rfl; omega) hP hD hS (lv_sub hl [2, 3, 1, 0] rfl)
  refine lv_bipush (v := 101) hx hb dX10_checked_0 rfl ?_
  refine lv_istore_n (lv' := [(2, .int 101), (0, .ref a_arg0), (1, .int p1)]) hx hb dX10_checked_2 rfl hl (Nat.le_of_ble_eq_true rfl) rfl (fun ls hl => ?_)
  refine lv_iconst (v := 0) hx hb dX10_checked_3 rfl ?_
  refine lv_istore_n (lv' := [(3, .int 0), (2, .int 101), (0, .ref a_arg0), (1, .int p1)]) hx hb dX10_checked_4 rfl hl (Nat.le_of_ble_eq_true rfl) rfl (fun ls hl => ?_)
  exact jn5 12 101 0 H locs ls (ib_w 0 10 (ib_c 0 0 0 rfl) rfl) (by try simp only [show (101 : Int32).toInt = (101 : Int) from rfl]; try simp only [show (0 : Int32).toInt = (0 : Int) from rfl]; exact hq) (by have := (ib_c 0 0 0 rfl); unfold ib at this; omega) hP hD hS (lv_sub hl [2, 3, 1, 0] rfl)
set_option maxHeartbeats 4000000 in
set_option maxRecDepth 100000 in
theorem s_X10_writes (l : Launch) (dC : Nat → ClassId) (dI : Nat → Nat → Nat) (cy : Nat → ClassId) (sq : Nat → Nat) (a_this : Nat) (rm : Nat → Nat) (x_taped : Int32) (x_at : Int32) (x_end : Int32) (x_ended : Int32) (x_bad : Int32) (x_badPlace : Int32) (x_fault : Int32) (x_faultPlace : Int32) (x_namePlace : Int32) (x_awayTold : Int32) (x_away : Int32) (x_coded : Int32) (x_statements : Int32) (x_isCrossing : Int32) (x_textKind : Int32) (x_askSecond : Int32) (x_redMany : Int32) (x_isOpen : Int32) (x_lastGreen : Int32) (x_greenTo : Int32) (x_isCycleGreen : Int32) (x_stillGreen : Int32) (x_rowMany : Int32) (x_fitMany : Int32) (x_fitRules : Int32) (x_fitGreen : Int32) (x_undoable : Int32) (x_newest : Int32) (x_seeded : Int64) (x_qCoded : Int32) (x_qWaits : Int32) (x_qOpened : Int32) (x_qBase : Int32) (x_qPiled : Int32) (x_qAnswer : Int64) (x_qIsNew : Int32) (x_octets : Int32) (g_octet : Nat → Int32) (p0 : Int32) (hx_octets : ib x_octets 0 10) : k_Met l yX10_writes cX10_writes 2 none { frames := 0, cells := 0, slots := 0, locals := 0 } dC dI cy sq [.ref a_this, .int p0] [(a_this, .inr (10, mfs rm x_taped x_at x_end x_ended x_bad x_badPlace x_fault x_faultPlace x_namePlace x_awayTold x_away x_coded x_statements x_isCrossing x_textKind x_askSecond x_redMany x_isOpen x_lastGreen x_greenTo x_isCycleGreen x_stillGreen x_rowMany x_fitMany x_fitRules x_fitGreen x_undoable x_newest x_seeded x_qCoded x_qWaits x_qOpened x_qBase x_qPiled x_qAnswer x_qIsNew x_octets)), (wi_rm120_0_11_0 rm cy g_octet)] (k_Qv dC dI (fun (u : Int32 × (Nat → Int32)) => match u with | (n0, n1) => ib n0 1 11 ∧ n0.toInt = x_octets.toInt + 1 ∧ (F_X10_writes (Int32.toInt x_octets) (lf_A g_octet) (Int32.toInt p0) = ((Int32.toInt n0), (lf_A n1)))) (fun u : Int32 × (Nat → Int32) => match u with | (n0, n1) => [(a_this, .inr (10, mfs rm x_taped x_at x_end x_ended x_bad x_badPlace x_fault x_faultPlace x_namePlace x_awayTold x_away x_coded x_statements x_isCrossing x_textKind x_askSecond x_redMany x_isOpen x_lastGreen x_greenTo x_isCycleGreen x_stillGreen x_rowMany x_fitMany x_fitRules x_fitGreen x_undoable x_newest x_seeded x_qCoded x_qWaits x_qOpened x_qBase x_qPiled x_qAnswer x_qIsNew n0)), (wi_rm120_0_11_0 rm cy n1)])) := by
  refine k_ofW2 (by decide +kernel) (Nat.le_of_ble_eq_true rfl) ?_
  intro p e s m below meth c A ls H locs args Q hQ C0 hZ hr hlk hin hP hD hA hS hl
  have C0 : k_cx p s m args c cX10_writes 2 RX10 dC dI cy sq := C0
  have hx := C0.1
  have hb := C0.2.1
  have hl : lv_has ls 2 [(0, .ref a_this), (1, .int p0)] := hl
  obtain ⟨O, hO⟩ : ∃ o, o = F_X10_writes (Int32.toInt x_octets) (lf_A g_octet) (Int32.toInt p0) := ⟨_, rfl⟩
  have hq := hO
  unfold F_X10_writes at hq
  refine lv_aload_n hx hb dX10_writes_0 rfl (lv_at hl 0 rfl) ?_
  refine k_get C0 fg_X10_273 hP 0 rfl rfl dX10_writes_1 ?_
  refine lv_aload_n hx hb dX10_writes_4 rfl (lv_at hl 0 rfl) ?_
  refine k_get C0 fg_X10_699 hP 0 rfl rfl dX10_writes_5 ?_
  refine lv_iload_n hx hb dX10_writes_8 rfl (lv_at hl 1 rfl) ?_
  refine va_iast hx hb C0.2.2.2.2.2.1 hP hD hS 1 0 rfl rfl (ib_in 11 hx_octets rfl) dX10_writes_9 (fun H locs hP hD hS => ?_)
  replace hP : va_P (dC, dI) vwCl [(a_this, .inr (10, mfs rm x_taped x_at x_end x_ended x_bad x_badPlace x_fault x_faultPlace x_namePlace x_awayTold x_away x_coded x_statements x_isCrossing x_textKind x_askSecond x_redMany x_isOpen x_lastGreen x_greenTo x_isCycleGreen x_stillGreen x_rowMany x_fitMany x_fitRules x_fitGreen x_undoable x_newest x_seeded x_qCoded x_qWaits x_qOpened x_qBase x_qPiled x_qAnswer x_qIsNew x_octets)), (wi_rm120_0_11_0 rm cy (upd g_octet (Int32.toNatClampNeg x_octets) p0))] H := hP
  replace hD := k_D hP hD
  generalize ef1 : upd g_octet (Int32.toNatClampNeg x_octets) p0 = f1 at hP hD
  have Ef1 := lf_st ef1 (lf_ra g_octet) (lf_rf x_octets) (lf_rf p0)
  refine lv_aload_n hx hb dX10_writes_10 rfl (lv_at hl 0 rfl) ?_
  refine lv_dup hx hb dX10_writes_11 rfl ?_
  refine k_get C0 fg_X10_699 hP 0 rfl rfl dX10_writes_12 ?_
  refine lv_iconst (v := 1) hx hb dX10_writes_15 rfl ?_
  refine lv_iadd hx hb dX10_writes_16 ?_
  refine lv_topi (fun z2 ez2 => ?_)
  have h3 := ib_add hx_octets (ib_c 1 1 1 rfl) rfl
  rw [← ez2] at h3
  have h4 : ib z2 1 11 := ib_w 1 11 h3.1 rfl
  have Ez2 := lf_add h3.2 (lf_rf x_octets) (lf_lc 1 (1 : Int) rfl)
  refine k_put C0 fp_X10_699 hP hD hS 0 rfl rfl rfl (Nat.le_of_ble_eq_true rfl) dX10_writes_17 (fun H locs hP hD hS => ?_)
  replace hP : va_P (dC, dI) vwCl [(a_this, .inr (10, mfs rm x_taped x_at x_end x_ended x_bad x_badPlace x_fault x_faultPlace x_namePlace x_awayTold x_away x_coded x_statements x_isCrossing x_textKind x_askSecond x_redMany x_isOpen x_lastGreen x_greenTo x_isCycleGreen x_stillGreen x_rowMany x_fitMany x_fitRules x_fitGreen x_undoable x_newest x_seeded x_qCoded x_qWaits x_qOpened x_qBase x_qPiled x_qAnswer x_qIsNew z2)), (wi_rm120_0_11_0 rm cy f1)] H := hP
  replace hD := k_D hP hD
  subst hQ; exact k_vret hx hb hr hlk ((z2, f1)) hS ⟨ib_w 1 11 h4 rfl, (by have := (hx_octets).1; have := (hx_octets).2; have := (h4).1; have := (h4).2; have := h3.2; have : (1 : Int32).toInt = 1 := rfl; omega), (hO.symm.trans (by rw [lf_u Ez2]; rw [lf_ua Ef1]; exact hq))⟩ hP hD (Nat.le_of_ble_eq_true rfl) (Nat.le_of_ble_eq_true rfl) dX10_writes_20
set_option maxHeartbeats 4000000 in
set_option maxRecDepth 100000 in
theorem s_X10_image (l : Launch) (dC : Nat → ClassId) (dI : Nat → Nat → Nat) (cy : Nat → ClassId) (sq : Nat → Nat) (a_this : Nat) (rm : Nat → Nat) (x_taped : Int32) (x_at : Int32) (x_end : Int32) (x_ended : Int32) (x_bad : Int32) (x_badPlace : Int32) (x_fault : Int32) (x_faultPlace : Int32) (x_namePlace : Int32) (x_awayTold : Int32) (x_away : Int32) (x_coded : Int32) (x_statements : Int32) (x_isCrossing : Int32) (x_textKind : Int32) (x_askSecond : Int32) (x_redMany : Int32) (x_isOpen : Int32) (x_lastGreen : Int32) (x_greenTo : Int32) (x_isCycleGreen : Int32) (x_stillGreen : Int32) (x_rowMany : Int32) (x_fitMany : Int32) (x_fitRules : Int32) (x_fitGreen : Int32) (x_undoable : Int32) (x_newest : Int32) (x_seeded : Int64) (x_qCoded : Int32) (x_qWaits : Int32) (x_qOpened : Int32) (x_qBase : Int32) (x_qPiled : Int32) (x_qAnswer : Int64) (x_qIsNew : Int32) (x_octets : Int32) (g_many : Nat → Int32) (g_now : Nat → Int32) (g_octet : Nat → Int32) (hg_many_2 : ib (g_many 2) 0 6) : k_Met l yX10_image cX10_image 2 (some .int) { frames := 1, cells := 0, slots := 0, locals := 23 } dC dI cy sq [.ref a_this] [(a_this, .inr (10, mfs rm x_taped x_at x_end x_ended x_bad x_badPlace x_fault x_faultPlace x_namePlace x_awayTold x_away x_coded x_statements x_isCrossing x_textKind x_askSecond x_redMany x_isOpen x_lastGreen x_greenTo x_isCycleGreen x_stillGreen x_rowMany x_fitMany x_fitRules x_fitGreen x_undoable x_newest x_seeded x_qCoded x_qWaits x_qOpened x_qBase x_qPiled x_qAnswer x_qIsNew x_octets)), (wi_rm56_0_9_0 rm cy g_now), (wi_rm120_0_11_0 rm cy g_octet), (wi_rm41_0_4_0 rm cy g_many)] (k_Qi dC dI (fun (r : Int32) (u : Int32 × (Nat → Int32)) => match u with | (n0, n1) => ib n0 5 11 ∧ ib r 5 11 ∧ (F_X10_image (lf_A g_many) (lf_A g_now) (lf_A g_octet) = ((Int32.toInt r), (Int32.toInt n0), (lf_A n1)))) (fun u : Int32 × (Nat → Int32) => match u with | (n0, n1) => [(a_this, .inr (10, mfs rm x_taped x_at x_end x_ended x_bad x_badPlace x_fault x_faultPlace x_namePlace x_awayTold x_away x_coded x_statements x_isCrossing x_textKind x_askSecond x_redMany x_isOpen x_lastGreen x_greenTo x_isCycleGreen x_stillGreen x_rowMany x_fitMany x_fitRules x_fitGreen x_undoable x_newest x_seeded x_qCoded x_qWaits x_qOpened x_qBase x_qPiled x_qAnswer x_qIsNew n0)), (wi_rm56_0_9_0 rm cy g_now), (wi_rm120_0_11_0 rm cy n1), (wi_rm41_0_4_0 rm cy g_many)])) := by
  refine k_ofW2 (by decide +kernel) (Nat.le_of_ble_eq_true rfl) ?_
  intro p e s m below meth c A ls H locs args Q hQ C0 hZ hr hlk hin hP hD hA hS hl
  have C0 : k_cx p s m args c cX10_image 2 RX10 dC dI cy sq := C0
  have hx := C0.1
  have hb := C0.2.1
  have hl : lv_has ls 2 [(0, .ref a_this)] := hl
  obtain ⟨O, hO⟩ : ∃ o, o = F_X10_image (lf_A g_many) (lf_A g_now) (lf_A g_octet) := ⟨_, rfl⟩
  have hq := hO
  unfold F_X10_image at hq
  have jn55 : ∀ (n : Nat) (J55_c0_121 : Int32) (J55_a2 : Nat → Int32) (J55_l1 : Int32) (H : Heap) (locs : List Loc) (ls : Array Slot), ib J55_c0_121 4 10 → ib J55_l1 0 6 → (1 * J55_c0_121.toInt + (-1) * J55_l1.toInt ≤ 4) → (O = F_X10_image_55 (lf_A g_many) (lf_A g_now) n (Int32.toInt J55_c0_121) (lf_A J55_a2) (Int32.toInt J55_l1)) → 7 ≤ J55_l1.toInt + (n : Int) → va_P (dC, dI) vwCl [(a_this, .inr (10, mfs rm x_taped x_at x_end x_ended x_bad x_badPlace x_fault x_faultPlace x_namePlace x_awayTold x_away x_coded x_statements x_isCrossing x_textKind x_askSecond x_redMany x_isOpen x_lastGreen x_greenTo x_isCycleGreen x_stillGreen x_rowMany x_fitMany x_fitRules x_fitGreen x_undoable x_newest x_seeded x_qCoded x_qWaits x_qOpened x_qBase x_qPiled x_qAnswer x_qIsNew J55_c0_121)), (wi_rm56_0_9_0 rm cy g_now), (wi_rm120_0_11_0 rm cy J55_a2), (wi_rm41_0_4_0 rm cy g_many)] H → va_D A [(a_this, .inr (10, mfs rm x_taped x_at x_end x_ended x_bad x_badPlace x_fault x_faultPlace x_namePlace x_awayTold x_away x_coded x_statements x_isCrossing x_textKind x_askSecond x_redMany x_isOpen x_lastGreen x_greenTo x_isCycleGreen x_stillGreen x_rowMany x_fitMany x_fitRules x_fitGreen x_undoable x_newest x_seeded x_qCoded x_qWaits x_qOpened x_qBase x_qPiled x_qAnswer x_qIsNew J55_c0_121)), (wi_rm56_0_9_0 rm cy g_now), (wi_rm120_0_11_0 rm cy J55_a2), (wi_rm41_0_4_0 rm cy g_many)] → va_S A s.heap H locs → lv_has ls 2 [(0, .ref a_this), (1, .int J55_l1)] → W p l e { frames := 1, cells := 0, slots := 0, locals := 23 } s m args below meth c H locs 0 0 Q (F0 m 55 ls []) := by
    as_aux_lemma =>
      intro n
      induction n with
      | zero =>
        intro J55_c0_121 J55_a2 J55_l1 H locs ls hJ55_c0_121 hJ55_l1 hJ55_lin0 hq hm
        exact absurd hm (by have := hJ55_l1; unfold ib at this; omega)
      | succ n ih =>
        intro J55_c0_121 J55_a2 J55_l1 H locs ls hJ55_c0_121 hJ55_l1 hJ55_lin0 hq hm55 hP hD hS hl
        have ih55 := ih
        obtain ⟨K55, hK55⟩ : ∃ K, K = F_X10_image_55 (lf_A g_many) (lf_A g_now) n := ⟨_, rfl⟩
        have hq : O = F_X10_image_55b (lf_A g_many) (lf_A g_now) K55 (Int32.toInt J55_c0_121) (lf_A J55_a2) (Int32.toInt J55_l1) := by rw [hK55]; exact hq
        unfold F_X10_image_55b at hq
        refine lv_iload_n hx hb dX10_image_55 rfl (lv_at hl 1 rfl) ?_
        refine lv_aload_n hx hb dX10_image_56 rfl (lv_at hl 0 rfl) ?_
        refine k_jim hP hD hS hA [0, 3] [false, true, true] rfl rfl rfl 0 0 (Nat.le_of_ble_eq_true rfl) (Nat.le_of_ble_eq_true rfl) (fun hPc hDc => k_runV (As := []) (rest := [.int J55_l1]) C0 hZ hS hA (s_X10_kindMany l dC dI cy sq a_this rm x_taped x_at x_end x_ended x_bad x_badPlace x_fault x_faultPlace x_namePlace x_awayTold x_away x_coded x_statements x_isCrossing x_textKind x_askSecond x_redMany x_isOpen x_lastGreen x_greenTo x_isCycleGreen x_stillGreen x_rowMany x_fitMany x_fitRules x_fitGreen x_undoable x_newest x_seeded x_qCoded x_qWaits x_qOpened x_qBase x_qPiled x_qAnswer x_qIsNew J55_c0_121 g_many ) mV_X10_430 hPc hDc rfl rfl rfl hl rfl rfl (Nat.le_of_ble_eq_true rfl) ⟨(Nat.le_of_ble_eq_true rfl), (Nat.le_of_ble_eq_true rfl)⟩ ⟨(Nat.le_of_ble_eq_true rfl), (Nat.le_of_ble_eq_true rfl)⟩ dX10_image_57) (fun r1 u2 H locs hw hP hD hS => ?_)
        try dsimp only at hP hD hw
        replace hP : va_P (dC, dI) vwCl [(wi_rm56_0_9_0 rm cy g_now), (wi_rm120_0_11_0 rm cy J55_a2), (a_this, .inr (10, mfs rm x_taped x_at x_end x_ended x_bad x_badPlace x_fault x_faultPlace x_namePlace x_awayTold x_away x_coded x_statements x_isCrossing x_textKind x_askSecond x_redMany x_isOpen x_lastGreen x_greenTo x_isCycleGreen x_stillGreen x_rowMany x_fitMany x_fitRules x_fitGreen x_undoable x_newest x_seeded x_qCoded x_qWaits x_qOpened x_qBase x_qPiled x_qAnswer x_qIsNew J55_c0_121)), (wi_rm41_0_4_0 rm cy g_many)] H := hP
        replace hD := k_D hP hD
        obtain ⟨h3, h4⟩ := hw
        subst h3
        replace hq := lf_b1 hq h4
        refine lv_icmp_ge (tgt := 78) hx hb dX10_image_60 rfl (fun c5 => ?_) (fun c5 => ?_)
        · as_aux_lemma =>
            replace hq := lf_pos hq (lf_le (lf_pt (lf_ra g_many) 2) (lf_rf J55_l1) c5)
            have h6 := ib_le hg_many_2 hJ55_l1 c5
            refine lv_aload_n hx hb dX10_image_78 rfl (lv_at hl 0 rfl) ?_
            refine lv_aload_n hx hb dX10_image_79 rfl (lv_at hl 0 rfl) ?_
            refine k_get C0 fg_X10_273 hP 2 rfl rfl dX10_image_80 ?_
            refine lv_aload_n hx hb dX10_image_83 rfl (lv_at hl 0 rfl) ?_
            refine k_get C0 fg_X10_699 hP 2 rfl rfl dX10_image_84 ?_
            refine k_jim hP hD hS hA [1] [true, false, true, true] rfl rfl rfl 0 0 (Nat.le_of_ble_eq_true rfl) (Nat.le_of_ble_eq_true rfl) (fun hPc hDc => k_runS (As := [.ref (rm 120), .int J55_c0_121]) (rest := [.ref a_this]) C0 hZ hS hA (s_X10_checked_i1_0_10_r11 l dC dI cy sq (rm 120) J55_a2 J55_c0_121 (ib_w 0 10 hJ55_c0_121 rfl)) mS_X10_705 hPc hDc hl rfl rfl (Nat.le_of_ble_eq_true rfl) ⟨(Nat.le_of_ble_eq_true rfl), (Nat.le_of_ble_eq_true rfl)⟩ ⟨(Nat.le_of_ble_eq_true rfl), (Nat.le_of_ble_eq_true rfl)⟩ dX10_image_87) (fun r7 u8 H locs hw hP hD hS => ?_)
            try dsimp only at hP hD hw
            replace hP : va_P (dC, dI) vwCl [(wi_rm56_0_9_0 rm cy g_now), (a_this, .inr (10, mfs rm x_taped x_at x_end x_ended x_bad x_badPlace x_fault x_faultPlace x_namePlace x_awayTold x_away x_coded x_statements x_isCrossing x_textKind x_askSecond x_redMany x_isOpen x_lastGreen x_greenTo x_isCycleGreen x_stillGreen x_rowMany x_fitMany x_fitRules x_fitGreen x_undoable x_newest x_seeded x_qCoded x_qWaits x_qOpened x_qBase x_qPiled x_qAnswer x_qIsNew J55_c0_121)), (wi_rm41_0_4_0 rm cy g_many), (wi_rm120_0_11_0 rm cy J55_a2)] H := hP
            replace hD := k_D hP hD
            have h9 := hw
            replace hq := lf_b1 hq h9
            refine k_jvm hP hD hS hA [1, 3] [true, false, true] rfl rfl rfl 0 0 (Nat.le_of_ble_eq_true rfl) (Nat.le_of_ble_eq_true rfl) (fun hPc hDc => k_runV (As := [.int r7]) (rest := []) C0 hZ hS hA (s_X10_writes_f_octets_0_10 l dC dI cy sq a_this rm x_taped x_at x_end x_ended x_bad x_badPlace x_fault x_faultPlace x_namePlace x_awayTold x_away x_coded x_statements x_isCrossing x_textKind x_askSecond x_redMany x_isOpen x_lastGreen x_greenTo x_isCycleGreen x_stillGreen x_rowMany x_fitMany x_fitRules x_fitGreen x_undoable x_newest x_seeded x_qCoded x_qWaits x_qOpened x_qBase x_qPiled x_qAnswer x_qIsNew J55_c0_121 J55_a2 r7 (ib_w 0 10 hJ55_c0_121 rfl)) mV_X10_702 hPc hDc rfl rfl rfl hl rfl rfl (Nat.le_of_ble_eq_true rfl) ⟨(Nat.le_of_ble_eq_true rfl), (Nat.le_of_ble_eq_true rfl)⟩ ⟨(Nat.le_of_ble_eq_true rfl), (Nat.le_of_ble_eq_true rfl)⟩ dX10_image_90) (fun u11 H locs hw hP hD hS => ?_)
            obtain ⟨v12, f13⟩ := u11
            try dsimp only at hP hD hw
            replace hP : va_P (dC, dI) vwCl [(wi_rm56_0_9_0 rm cy g_now), (wi_rm41_0_4_0 rm cy g_many), (a_this, .inr (10, mfs rm x_taped x_at x_end x_ended x_bad x_badPlace x_fault x_faultPlace x_namePlace x_awayTold x_away x_coded x_statements x_isCrossing x_textKind x_askSecond x_redMany x_isOpen x_lastGreen x_greenTo x_isCycleGreen x_stillGreen x_rowMany x_fitMany x_fitRules x_fitGreen x_undoable x_newest x_seeded x_qCoded x_qWaits x_qOpened x_qBase x_qPiled x_qAnswer x_qIsNew v12)), (wi_rm120_0_11_0 rm cy f13)] H := hP
            replace hD := k_D hP hD
            obtain ⟨h14, h15, h16⟩ := hw
            have h17 : v12.toInt = (J55_c0_121 : Int32).toInt + (1 : Int32).toInt := by have q1 := h15; have q2 : (1 : Int32).toInt = 1 := rfl; omega
            have h18 : ib v12 5 11 := ⟨by have q1 := h15; have := (hJ55_c0_121).1; have := (h14).1; omega, by have q1 := h15; have := (hJ55_c0_121).2; have := (h14).2; omega⟩
            replace hq := lf_p1 hq h16
            refine lv_aload_n hx hb dX10_image_93 rfl (lv_at hl 0 rfl) ?_
            refine k_get C0 fg_X10_699 hP 2 rfl rfl dX10_image_94 ?_
            subst hQ; exact k_iret hx hb hr hlk rfl ((v12, f13)) hS ⟨ib_w 5 11 h18 rfl, ib_w 5 11 h18 rfl, (hO.symm.trans (by exact hq))⟩ (hP.sub [2, 0, 3, 1] rfl) (hD.sub [2, 0, 3, 1] rfl rfl) (Nat.le_of_ble_eq_true rfl) (Nat.le_of_ble_eq_true rfl) dX10_image_97
        · as_aux_lemma =>
            replace hq := lf_neg hq (lf_nle (lf_pt (lf_ra g_many) 2) (lf_rf J55_l1) c5)
            have h19 := ib_nle hg_many_2 hJ55_l1 c5
            have h20 : ib (g_many 2) 1 6 := ib_w 1 6 h19.1 rfl
            have h21 : ib J55_l1 0 5 := ib_w 0 5 h19.2 rfl
            have h22 : ib J55_c0_121 4 9 := ⟨(hJ55_c0_121).1, by have := (hJ55_c0_121).2; have := hJ55_lin0; have := (h21).2; omega⟩
            refine lv_aload_n hx hb dX10_image_63 rfl (lv_at hl 0 rfl) ?_
            refine lv_aload_n hx hb dX10_image_64 rfl (lv_at hl 0 rfl) ?_
            refine lv_iload_n hx hb dX10_image_65 rfl (lv_at hl 1 rfl) ?_
            refine k_jim hP hD hS hA [2, 0] [false, true, false, true] rfl rfl rfl 0 0 (Nat.le_of_ble_eq_true rfl) (Nat.le_of_ble_eq_true rfl) (fun hPc hDc => k_runV (As := [.int J55_l1]) (rest := [.ref a_this]) C0 hZ hS hA (s_X10_trustsOf l dC dI cy sq a_this rm x_taped x_at x_end x_ended x_bad x_badPlace x_fault x_faultPlace x_namePlace x_awayTold x_away x_coded x_statements x_isCrossing x_textKind x_askSecond x_redMany x_isOpen x_lastGreen x_greenTo x_isCycleGreen x_stillGreen x_rowMany x_fitMany x_fitRules x_fitGreen x_undoable x_newest x_seeded x_qCoded x_qWaits x_qOpened x_qBase x_qPiled x_qAnswer x_qIsNew J55_c0_121 g_now J55_l1 (ib_w 0 5 h21 rfl)) mV_X10_463 hPc hDc rfl rfl rfl hl rfl rfl (Nat.le_of_ble_eq_true rfl) ⟨(Nat.le_of_ble_eq_true rfl), (Nat.le_of_ble_eq_true rfl)⟩ ⟨(Nat.le_of_ble_eq_true rfl), (Nat.le_of_ble_eq_true rfl)⟩ dX10_image_66) (fun r23 u24 H locs hw hP hD hS => ?_)
            try dsimp only at hP hD hw
            replace hP : va_P (dC, dI) vwCl [(wi_rm120_0_11_0 rm cy J55_a2), (wi_rm41_0_4_0 rm cy g_many), (a_this, .inr (10, mfs rm x_taped x_at x_end x_ended x_bad x_badPlace x_fault x_faultPlace x_namePlace x_awayTold x_away x_coded x_statements x_isCrossing x_textKind x_askSecond x_redMany x_isOpen x_lastGreen x_greenTo x_isCycleGreen x_stillGreen x_rowMany x_fitMany x_fitRules x_fitGreen x_undoable x_newest x_seeded x_qCoded x_qWaits x_qOpened x_qBase x_qPiled x_qAnswer x_qIsNew J55_c0_121)), (wi_rm56_0_9_0 rm cy g_now)] H := hP
            replace hD := k_D hP hD
            have h25 := hw
            replace hq := lf_b1 hq h25
            refine k_jvm hP hD hS hA [2, 0] [false, true, false, true] rfl rfl rfl 0 0 (Nat.le_of_ble_eq_true rfl) (Nat.le_of_ble_eq_true rfl) (fun hPc hDc => k_runV (As := [.int r23]) (rest := []) C0 hZ hS hA (s_X10_writes_f_octets_0_10 l dC dI cy sq a_this rm x_taped x_at x_end x_ended x_bad x_badPlace x_fault x_faultPlace x_namePlace x_awayTold x_away x_coded x_statements x_isCrossing x_textKind x_askSecond x_redMany x_isOpen x_lastGreen x_greenTo x_isCycleGreen x_stillGreen x_rowMany x_fitMany x_fitRules x_fitGreen x_undoable x_newest x_seeded x_qCoded x_qWaits x_qOpened x_qBase x_qPiled x_qAnswer x_qIsNew J55_c0_121 J55_a2 r23 (ib_w 0 10 h22 rfl)) mV_X10_702 hPc hDc rfl rfl rfl hl rfl rfl (Nat.le_of_ble_eq_true rfl) ⟨(Nat.le_of_ble_eq_true rfl), (Nat.le_of_ble_eq_true rfl)⟩ ⟨(Nat.le_of_ble_eq_true rfl), (Nat.le_of_ble_eq_true rfl)⟩ dX10_image_69) (fun u27 H locs hw hP hD hS => ?_)
            obtain ⟨v28, f29⟩ := u27
            try dsimp only at hP hD hw
            replace hP : va_P (dC, dI) vwCl [(wi_rm41_0_4_0 rm cy g_many), (wi_rm56_0_9_0 rm cy g_now), (a_this, .inr (10, mfs rm x_taped x_at x_end x_ended x_bad x_badPlace x_fault x_faultPlace x_namePlace x_awayTold x_away x_coded x_statements x_isCrossing x_textKind x_askSecond x_redMany x_isOpen x_lastGreen x_greenTo x_isCycleGreen x_stillGreen x_rowMany x_fitMany x_fitRules x_fitGreen x_undoable x_newest x_seeded x_qCoded x_qWaits x_qOpened x_qBase x_qPiled x_qAnswer x_qIsNew v28)), (wi_rm120_0_11_0 rm cy f29)] H := hP
            replace hD := k_D hP hD
            obtain ⟨h30, h31, h32⟩ := hw
            have h33 : v28.toInt = (J55_c0_121 : Int32).toInt + (1 : Int32).toInt := by have q1 := h31; have q2 : (1 : Int32).toInt = 1 := rfl; omega
            have h34 : ib v28 5 10 := ⟨by have q1 := h31; have := (h22).1; have := (h30).1; omega, by have q1 := h31; have := (h22).2; have := (h30).2; omega⟩
            replace hq := lf_p1 hq h32
            obtain ⟨z35, ez35⟩ : ∃ y : Int32, y = J55_l1 + 1 := ⟨_, rfl⟩
            refine lv_iinc (v := z35) (lv' := [(1, .int z35), (0, .ref a_this)]) hx hb dX10_image_72 hl (k := 1) rfl (by rw [ez35]; rfl) (Nat.le_of_ble_eq_true rfl) rfl (fun ls hl => ?_)
            have h36 := ib_add h21 (ib_c 1 1 1 rfl) rfl
            rw [← ez35] at h36
            have h37 : ib z35 1 6 := ib_w 1 6 h36.1 rfl
            have Ez35 := lf_add h36.2 (lf_rf J55_l1) (lf_lc 1 (1 : Int) rfl)
            refine lv_goto (tgt := 55) hx hb dX10_image_75 rfl ?_
            exact ih55 v28 f29 z35 H locs ls (ib_w 4 10 h34 rfl) (ib_w 0 6 h37 rfl) (by have := (h37).1; have := h36.2; have : (1 : Int32).toInt = 1 := rfl; have := hJ55_lin0; have := (h34).2; have := h33; omega) (by rw [← hK55]; rw [lf_u Ez35]; exact hq) (by have := h36.2; have : (1 : Int32).toInt = 1 := rfl; omega) (hP.sub [2, 1, 3, 0] rfl) (hD.sub [2, 1, 3, 0] rfl rfl) hS (lv_sub hl [1, 0] rfl)
  refine lv_aload_n hx hb dX10_image_0 rfl (lv_at hl 0 rfl) ?_
  refine lv_iconst (v := 0) hx hb dX10_image_1 rfl ?_
  refine k_put C0 fp_X10_699 hP hD hS 0 rfl rfl rfl (Nat.le_of_ble_eq_true rfl) dX10_image_2 (fun H locs hP hD hS => ?_)
  replace hP : va_P (dC, dI) vwCl [(a_this, .inr (10, mfs rm x_taped x_at x_end x_ended x_bad x_badPlace x_fault x_faultPlace x_namePlace x_awayTold x_away x_coded x_statements x_isCrossing x_textKind x_askSecond x_redMany x_isOpen x_lastGreen x_greenTo x_isCycleGreen x_stillGreen x_rowMany x_fitMany x_fitRules x_fitGreen x_undoable x_newest x_seeded x_qCoded x_qWaits x_qOpened x_qBase x_qPiled x_qAnswer x_qIsNew 0)), (wi_rm56_0_9_0 rm cy g_now), (wi_rm120_0_11_0 rm cy g_octet), (wi_rm41_0_4_0 rm cy g_many)] H := hP
  replace hD := k_D hP hD
  refine lv_aload_n hx hb dX10_image_5 rfl (lv_at hl 0 rfl) ?_
  refine lv_aload_n hx hb dX10_image_6 rfl (lv_at hl 0 rfl) ?_
  refine k_get C0 fg_X10_139 hP 0 rfl rfl dX10_image_7 ?_
  refine lv_iconst (v := 0) hx hb dX10_image_10 rfl ?_
  refine va_iald hx hb C0.2.2.2.2.2.1 hP 1 0 rfl rfl (k_in 0 9 rfl) dX10_image_11 ?_
  refine lv_topi (fun z38 ez38 => ?_)
  have Ez38 := lf_ld ez38 (lf_ra g_now) (lf_lc 0 (0 : Int) rfl)
  refine lv_sipush (v := 256) hx hb dX10_image_12 rfl ?_
  refine lv_idiv hx hb dX10_image_15 (by decide) ?_
  refine lv_topi (fun z39 ez39 => ?_)
  have Ez39 := lf_op lf_idiv ez39 Ez38 (lf_lc 256 (256 : Int) rfl)
  refine k_jvm hP hD hS hA [0, 2] [false, true, false, true] rfl rfl rfl 0 0 (Nat.le_of_ble_eq_true rfl) (Nat.le_of_ble_eq_true rfl) (fun hPc hDc => k_runV (As := [.int z39]) (rest := []) C0 hZ hS hA (s_X10_writes_f_octets_0_10 l dC dI cy sq a_this rm x_taped x_at x_end x_ended x_bad x_badPlace x_fault x_faultPlace x_namePlace x_awayTold x_away x_coded x_statements x_isCrossing x_textKind x_askSecond x_redMany x_isOpen x_lastGreen x_greenTo x_isCycleGreen x_stillGreen x_rowMany x_fitMany x_fitRules x_fitGreen x_undoable x_newest x_seeded x_qCoded x_qWaits x_qOpened x_qBase x_qPiled x_qAnswer x_qIsNew 0 g_octet z39 (ib_w 0 10 (ib_c 0 0 0 rfl) rfl)) mV_X10_702 hPc hDc rfl rfl rfl hl rfl rfl (Nat.le_of_ble_eq_true rfl) ⟨(Nat.le_of_ble_eq_true rfl), (Nat.le_of_ble_eq_true rfl)⟩ ⟨(Nat.le_of_ble_eq_true rfl), (Nat.le_of_ble_eq_true rfl)⟩ dX10_image_16) (fun u41 H locs hw hP hD hS => ?_)
  obtain ⟨v42, f43⟩ := u41
  try dsimp only at hP hD hw
  replace hP : va_P (dC, dI) vwCl [(wi_rm56_0_9_0 rm cy g_now), (wi_rm41_0_4_0 rm cy g_many), (a_this, .inr (10, mfs rm x_taped x_at x_end x_ended x_bad x_badPlace x_fault x_faultPlace x_namePlace x_awayTold x_away x_coded x_statements x_isCrossing x_textKind x_askSecond x_redMany x_isOpen x_lastGreen x_greenTo x_isCycleGreen x_stillGreen x_rowMany x_fitMany x_fitRules x_fitGreen x_undoable x_newest x_seeded x_qCoded x_qWaits x_qOpened x_qBase x_qPiled x_qAnswer x_qIsNew v42)), (wi_rm120_0_11_0 rm cy f43)] H := hP
  as_aux_lemma =>
    replace hD := k_D hP hD
    obtain ⟨h44, h45, h46⟩ := hw
    have h47 : v42.toInt = (0 : Int32).toInt + (1 : Int32).toInt := by have q1 := h45; have q2 : (1 : Int32).toInt = 1 := rfl; omega
    have h48 : ib v42 1 1 := ⟨by have q1 := h45; have := ((ib_c 0 0 0 rfl)).1; have := (h44).1; omega, by have q1 := h45; have := ((ib_c 0 0 0 rfl)).2; have := (h44).2; omega⟩
    have h46 := by have h9 := h46; try simp only [show (0 : Int32).toInt = (0 : Int) from rfl] at h9; rw [lf_u Ez39] at h9; exact h9
    replace hq := lf_p1 hq h46
    refine lv_aload_n hx hb dX10_image_19 rfl (lv_at hl 0 rfl) ?_
    refine lv_aload_n hx hb dX10_image_20 rfl (lv_at hl 0 rfl) ?_
    refine k_get C0 fg_X10_139 hP 2 rfl rfl dX10_image_21 ?_
    refine lv_iconst (v := 0) hx hb dX10_image_24 rfl ?_
    refine va_iald hx hb C0.2.2.2.2.2.1 hP 0 0 rfl rfl (k_in 0 9 rfl) dX10_image_25 ?_
    refine lv_topi (fun z49 ez49 => ?_)
    obtain rfl : z38 = z49 := ez38.trans ez49.symm
    refine lv_sipush (v := 256) hx hb dX10_image_26 rfl ?_
    refine lv_irem hx hb dX10_image_29 (by decide) ?_
    refine lv_topi (fun z50 ez50 => ?_)
    have Ez50 := lf_op lf_irem ez50 Ez38 (lf_lc 256 (256 : Int) rfl)
    refine k_jvm hP hD hS hA [2, 3] [true, true] rfl rfl rfl 0 0 (Nat.le_of_ble_eq_true rfl) (Nat.le_of_ble_eq_true rfl) (fun hPc hDc => k_runV (As := [.int z50]) (rest := []) C0 hZ hS hA (s_X10_writes_f_octets_0_10 l dC dI cy sq a_this rm x_taped x_at x_end x_ended x_bad x_badPlace x_fault x_faultPlace x_namePlace x_awayTold x_away x_coded x_statements x_isCrossing x_textKind x_askSecond x_redMany x_isOpen x_lastGreen x_greenTo x_isCycleGreen x_stillGreen x_rowMany x_fitMany x_fitRules x_fitGreen x_undoable x_newest x_seeded x_qCoded x_qWaits x_qOpened x_qBase x_qPiled x_qAnswer x_qIsNew v42 f43 z50 (ib_w 0 10 h48 rfl)) mV_X10_702 hPc hDc rfl rfl rfl hl rfl rfl (Nat.le_of_ble_eq_true rfl) ⟨(Nat.le_of_ble_eq_true rfl), (Nat.le_of_ble_eq_true rfl)⟩ ⟨(Nat.le_of_ble_eq_true rfl), (Nat.le_of_ble_eq_true rfl)⟩ dX10_image_30) (fun u52 H locs hw hP hD hS => ?_)
    obtain ⟨v53, f54⟩ := u52
    try dsimp only at hP hD hw
    replace hP : va_P (dC, dI) vwCl [(wi_rm56_0_9_0 rm cy g_now), (wi_rm41_0_4_0 rm cy g_many), (a_this, .inr (10, mfs rm x_taped x_at x_end x_ended x_bad x_badPlace x_fault x_faultPlace x_namePlace x_awayTold x_away x_coded x_statements x_isCrossing x_textKind x_askSecond x_redMany x_isOpen x_lastGreen x_greenTo x_isCycleGreen x_stillGreen x_rowMany x_fitMany x_fitRules x_fitGreen x_undoable x_newest x_seeded x_qCoded x_qWaits x_qOpened x_qBase x_qPiled x_qAnswer x_qIsNew v53)), (wi_rm120_0_11_0 rm cy f54)] H := hP
    replace hD := k_D hP hD
    obtain ⟨h55, h56, h57⟩ := hw
    have h58 : v53.toInt = (v42 : Int32).toInt + (1 : Int32).toInt := by have q1 := h56; have q2 : (1 : Int32).toInt = 1 := rfl; omega
    have h59 : ib v53 2 2 := ⟨by have q1 := h56; have := (h48).1; have := (h55).1; omega, by have q1 := h56; have := (h48).2; have := (h55).2; omega⟩
    have h57 := by have h9 := h57; rw [lf_u Ez50] at h9; exact h9
    replace hq := lf_p1 hq h57
    refine lv_aload_n hx hb dX10_image_33 rfl (lv_at hl 0 rfl) ?_
    refine lv_aload_n hx hb dX10_image_34 rfl (lv_at hl 0 rfl) ?_
    refine k_get C0 fg_X10_139 hP 2 rfl rfl dX10_image_35 ?_
    as_aux_lemma =>
      refine lv_iconst (v := 1) hx hb dX10_image_38 rfl ?_
      refine va_iald hx hb C0.2.2.2.2.2.1 hP 0 0 rfl rfl (k_in 1 9 rfl) dX10_image_39 ?_
      refine lv_topi (fun z60 ez60 => ?_)
      have Ez60 := lf_ld ez60 (lf_ra g_now) (lf_lc 1 (1 : Int) rfl)
      refine k_jvm hP hD hS hA [2, 3] [true, true] rfl rfl rfl 0 0 (Nat.le_of_ble_eq_true rfl) (Nat.le_of_ble_eq_true rfl) (fun hPc hDc => k_runV (As := [.int z60]) (rest := []) C0 hZ hS hA (s_X10_writes_f_octets_0_10 l dC dI cy sq a_this rm x_taped x_at x_end x_ended x_bad x_badPlace x_fault x_faultPlace x_namePlace x_awayTold x_away x_coded x_statements x_isCrossing x_textKind x_askSecond x_redMany x_isOpen x_lastGreen x_greenTo x_isCycleGreen x_stillGreen x_rowMany x_fitMany x_fitRules x_fitGreen x_undoable x_newest x_seeded x_qCoded x_qWaits x_qOpened x_qBase x_qPiled x_qAnswer x_qIsNew v53 f54 z60 (ib_w 0 10 h59 rfl)) mV_X10_702 hPc hDc rfl rfl rfl hl rfl rfl (Nat.le_of_ble_eq_true rfl) ⟨(Nat.le_of_ble_eq_true rfl), (Nat.le_of_ble_eq_true rfl)⟩ ⟨(Nat.le_of_ble_eq_true rfl), (Nat.le_of_ble_eq_true rfl)⟩ dX10_image_40) (fun u62 H locs hw hP hD hS => ?_)
      obtain ⟨v63, f64⟩ := u62
      try dsimp only at hP hD hw
      replace hP : va_P (dC, dI) vwCl [(wi_rm56_0_9_0 rm cy g_now), (wi_rm41_0_4_0 rm cy g_many), (a_this, .inr (10, mfs rm x_taped x_at x_end x_ended x_bad x_badPlace x_fault x_faultPlace x_namePlace x_awayTold x_away x_coded x_statements x_isCrossing x_textKind x_askSecond x_redMany x_isOpen x_lastGreen x_greenTo x_isCycleGreen x_stillGreen x_rowMany x_fitMany x_fitRules x_fitGreen x_undoable x_newest x_seeded x_qCoded x_qWaits x_qOpened x_qBase x_qPiled x_qAnswer x_qIsNew v63)), (wi_rm120_0_11_0 rm cy f64)] H := hP
      replace hD := k_D hP hD
      obtain ⟨h65, h66, h67⟩ := hw
      have h68 : v63.toInt = (v53 : Int32).toInt + (1 : Int32).toInt := by have q1 := h66; have q2 : (1 : Int32).toInt = 1 := rfl; omega
      have h69 : ib v63 3 3 := ⟨by have q1 := h66; have := (h59).1; have := (h65).1; omega, by have q1 := h66; have := (h59).2; have := (h65).2; omega⟩
      have h67 := by have h9 := h67; rw [lf_u Ez60] at h9; exact h9
      replace hq := lf_p1 hq h67
      refine lv_aload_n hx hb dX10_image_43 rfl (lv_at hl 0 rfl) ?_
      refine lv_aload_n hx hb dX10_image_44 rfl (lv_at hl 0 rfl) ?_
      refine k_get C0 fg_X10_139 hP 2 rfl rfl dX10_image_45 ?_
      refine lv_iconst (v := 2) hx hb dX10_image_48 rfl ?_
      refine va_iald hx hb C0.2.2.2.2.2.1 hP 0 0 rfl rfl (k_in 2 9 rfl) dX10_image_49 ?_
      refine lv_topi (fun z70 ez70 => ?_)
      have Ez70 := lf_ld ez70 (lf_ra g_now) (lf_lc 2 (2 : Int) rfl)
      refine k_jvm hP hD hS hA [2, 3] [true, true] rfl rfl rfl 0 0 (Nat.le_of_ble_eq_true rfl) (Nat.le_of_ble_eq_true rfl) (fun hPc hDc => k_runV (As := [.int z70]) (rest := []) C0 hZ hS hA (s_X10_writes_f_octets_0_10 l dC dI cy sq a_this rm x_taped x_at x_end x_ended x_bad x_badPlace x_fault x_faultPlace x_namePlace x_awayTold x_away x_coded x_statements x_isCrossing x_textKind x_askSecond x_redMany x_isOpen x_lastGreen x_greenTo x_isCycleGreen x_stillGreen x_rowMany x_fitMany x_fitRules x_fitGreen x_undoable x_newest x_seeded x_qCoded x_qWaits x_qOpened x_qBase x_qPiled x_qAnswer x_qIsNew v63 f64 z70 (ib_w 0 10 h69 rfl)) mV_X10_702 hPc hDc rfl rfl rfl hl rfl rfl (Nat.le_of_ble_eq_true rfl) ⟨(Nat.le_of_ble_eq_true rfl), (Nat.le_of_ble_eq_true rfl)⟩ ⟨(Nat.le_of_ble_eq_true rfl), (Nat.le_of_ble_eq_true rfl)⟩ dX10_image_50) (fun u72 H locs hw hP hD hS => ?_)
      obtain ⟨v73, f74⟩ := u72
      try dsimp only at hP hD hw
      replace hP : va_P (dC, dI) vwCl [(wi_rm56_0_9_0 rm cy g_now), (wi_rm41_0_4_0 rm cy g_many), (a_this, .inr (10, mfs rm x_taped x_at x_end x_ended x_bad x_badPlace x_fault x_faultPlace x_namePlace x_awayTold x_away x_coded x_statements x_isCrossing x_textKind x_askSecond x_redMany x_isOpen x_lastGreen x_greenTo x_isCycleGreen x_stillGreen x_rowMany x_fitMany x_fitRules x_fitGreen x_undoable x_newest x_seeded x_qCoded x_qWaits x_qOpened x_qBase x_qPiled x_qAnswer x_qIsNew v73)), (wi_rm120_0_11_0 rm cy f74)] H := hP
      replace hD := k_D hP hD
      obtain ⟨h75, h76, h77⟩ := hw
      have h78 : v73.toInt = (v63 : Int32).toInt + (1 : Int32).toInt := by have q1 := h76; have q2 : (1 : Int32).toInt = 1 := rfl; omega
      have h79 : ib v73 4 4 := ⟨by have q1 := h76; have := (h69).1; have := (h75).1; omega, by have q1 := h76; have := (h69).2; have := (h75).2; omega⟩
      have h77 := by have h9 := h77; rw [lf_u Ez70] at h9; exact h9
      replace hq := lf_p1 hq h77
      refine lv_iconst (v := 0) hx hb dX10_image_53 rfl ?_
      refine lv_istore_n (lv' := [(1, .int 0), (0, .ref a_this)]) hx hb dX10_image_54 rfl hl (Nat.le_of_ble_eq_true rfl) rfl (fun ls hl => ?_)
      exact jn55 8 v73 f74 0 H locs ls (ib_w 4 10 h79 rfl) (ib_w 0 6 (ib_c 0 0 0 rfl) rfl) (by have : (0 : Int32).toInt = 0 := rfl; have := (h79).2; omega) (by try simp only [show (0 : Int32).toInt = (0 : Int) from rfl]; exact hq) (by have := (ib_c 0 0 0 rfl); unfold ib at this; omega) (hP.sub [2, 0, 3, 1] rfl) (hD.sub [2, 0, 3, 1] rfl rfl) hS (lv_sub hl [1, 0] rfl)
set_option maxHeartbeats 4000000 in
set_option maxRecDepth 100000 in
theorem s_X10_isAhead (l : Launch) (dC : Nat → ClassId) (dI : Nat → Nat → Nat) (cy : Nat → ClassId) (sq : Nat → Nat) (a_this : Nat) (rm : Nat → Nat) (x_taped : Int32) (x_at : Int32) (x_end : Int32) (x_ended : Int32) (x_bad : Int32) (x_badPlace : Int32) (x_fault : Int32) (x_faultPlace : Int32) (x_namePlace : Int32) (x_awayTold : Int32) (x_away : Int32) (x_coded : Int32) (x_statements : Int32) (x_isCrossing : Int32) (x_textKind : Int32) (x_askSecond : Int32) (x_redMany : Int32) (x_isOpen : Int32) (x_lastGreen : Int32) (x_greenTo : Int32) (x_isCycleGreen : Int32) (x_stillGreen : Int32) (x_rowMany : Int32) (x_fitMany : Int32) (x_fitRules : Int32) (x_fitGreen : Int32) (x_undoable : Int32) (x_newest : Int32) (x_seeded : Int64) (x_qCoded : Int32) (x_qWaits : Int32) (x_qOpened : Int32) (x_qBase : Int32) (x_qPiled : Int32) (x_qAnswer : Int64) (x_qIsNew : Int32) (x_octets : Int32) (g_now : Nat → Int32) (p0 : Int32) (p1 : Int32) (p2 : Int32) (hx_isCrossing : ib x_isCrossing 0 1) : k_Met l yX10_isAhead cX10_isAhead 4 (some .boolean) { frames := 1, cells := 0, slots := 0, locals := 25 } dC dI cy sq [.ref a_this, .int p0, .int p1, .int p2] [(a_this, .inr (10, mfs rm x_taped x_at x_end x_ended x_bad x_badPlace x_fault x_faultPlace x_namePlace x_awayTold x_away x_coded x_statements x_isCrossing x_textKind x_askSecond x_redMany x_isOpen x_lastGreen x_greenTo x_isCycleGreen x_stillGreen x_rowMany x_fitMany x_fitRules x_fitGreen x_undoable x_newest x_seeded x_qCoded x_qWaits x_qOpened x_qBase x_qPiled x_qAnswer x_qIsNew x_octets)), (wi_rm56_0_9_0 rm cy g_now)] (k_Qi dC dI (fun (r : Int32) (_ : Unit) => ib r 0 1 ∧ (¬ r = 0 → ib x_isCrossing 1 1) ∧ (F_X10_isAhead (Int32.toInt x_isCrossing) (lf_A g_now) (Int32.toInt p0) (Int32.toInt p1) (Int32.toInt p2) = ((Int32.toInt r)))) (fun _ : Unit => [(a_this, .inr (10, mfs rm x_taped x_at x_end x_ended x_bad x_badPlace x_fault x_faultPlace x_namePlace x_awayTold x_away x_coded x_statements x_isCrossing x_textKind x_askSecond x_redMany x_isOpen x_lastGreen x_greenTo x_isCycleGreen x_stillGreen x_rowMany x_fitMany x_fitRules x_fitGreen x_undoable x_newest x_seeded x_qCoded x_qWaits x_qOpened x_qBase x_qPiled x_qAnswer x_qIsNew x_octets)), (wi_rm56_0_9_0 rm cy g_now)])) := by
  refine k_ofW2 (by decide +kernel) (Nat.le_of_ble_eq_true rfl) ?_
  intro p e s m below meth c A ls H locs args Q hQ C0 hZ hr hlk hin hP hD hA hS hl
  have C0 : k_cx p s m args c cX10_isAhead 4 RX10 dC dI cy sq := C0
  have hx := C0.1
  have hb := C0.2.1
  have hl : lv_has ls 4 [(0, .ref a_this), (1, .int p0), (2, .int p1), (3, .int p2)] := hl
  obtain ⟨O, hO⟩ : ∃ o, o = F_X10_isAhead (Int32.toInt x_isCrossing) (lf_A g_now) (Int32.toInt p0) (Int32.toInt p1) (Int32.toInt p2) := ⟨_, rfl⟩
  have hq := hO
  unfold F_X10_isAhead at hq
  have jn37 : ∀  (H : Heap) (locs : List Loc) (ls : Array Slot), (O = F_X10_isAhead_37 ) → va_P (dC, dI) vwCl [(a_this, .inr (10, mfs rm x_taped x_at x_end x_ended x_bad x_badPlace x_fault x_faultPlace x_namePlace x_awayTold x_away x_coded x_statements x_isCrossing x_textKind x_askSecond x_redMany x_isOpen x_lastGreen x_greenTo x_isCycleGreen x_stillGreen x_rowMany x_fitMany x_fitRules x_fitGreen x_undoable x_newest x_seeded x_qCoded x_qWaits x_qOpened x_qBase x_qPiled x_qAnswer x_qIsNew x_octets)), (wi_rm56_0_9_0 rm cy g_now)] H → va_D A [(a_this, .inr (10, mfs rm x_taped x_at x_end x_ended x_bad x_badPlace x_fault x_faultPlace x_namePlace x_awayTold x_away x_coded x_statements x_isCrossing x_textKind x_askSecond x_redMany x_isOpen x_lastGreen x_greenTo x_isCycleGreen x_stillGreen x_rowMany x_fitMany x_fitRules x_fitGreen x_undoable x_newest x_seeded x_qCoded x_qWaits x_qOpened x_qBase x_qPiled x_qAnswer x_qIsNew x_octets)), (wi_rm56_0_9_0 rm cy g_now)] → va_S A s.heap H locs → lv_has ls 4 [(0, .ref a_this), (1, .int p0), (2, .int p1), (3, .int p2)] → W p l e { frames := 1, cells := 0, slots := 0, locals := 25 } s m args below meth c H locs 0 0 Q (F0 m 37 ls []) := by
    intro H locs ls hq hP hD hS hl
    unfold F_X10_isAhead_37 at hq
    refine lv_iconst (v := 0) hx hb dX10_isAhead_37 rfl ?_
    subst hQ; exact k_iret hx hb hr hlk (k_nb 0 rfl) () hS ⟨ib_w 0 1 (ib_c 0 0 0 rfl) rfl, fun hq9 => absurd rfl hq9, (hO.symm.trans (by try simp only [show (0 : Int32).toInt = (0 : Int) from rfl]; exact hq))⟩ hP hD (Nat.le_of_ble_eq_true rfl) (Nat.le_of_ble_eq_true rfl) dX10_isAhead_38
  refine lv_aload_n hx hb dX10_isAhead_0 rfl (lv_at hl 0 rfl) ?_
  refine k_get C0 fg_X10_417 hP 0 rfl rfl dX10_isAhead_1 ?_
  refine lv_if_eq (tgt := 37) hx hb dX10_isAhead_4 rfl (fun c1 => ?_) (fun c1 => ?_)
  · replace hq := lf_pos hq (lf_eq (lf_rf x_isCrossing) (lf_lc 0 (0 : Int) rfl) c1)
    have h2 := ib_eq hx_isCrossing (ib_c 0 0 0 rfl) c1
    have h3 : ib x_isCrossing 0 0 := ib_w 0 0 h2.1 rfl
    exact jn37  H locs ls (by exact hq) hP hD hS (lv_sub hl [0, 1, 2, 3] rfl)
  · as_aux_lemma =>
      replace hq := lf_neg hq (lf_ne (lf_rf x_isCrossing) (lf_lc 0 (0 : Int) rfl) c1)
      have h4 : ib x_isCrossing 1 1 := ib_w 1 1 (ib_ne_lo 0 hx_isCrossing rfl c1) rfl
      refine lv_iload_n hx hb dX10_isAhead_7 rfl (lv_at hl 1 rfl) ?_
      refine lv_i2l (v := p0.toInt64) hx hb dX10_isAhead_8 rfl ?_
      refine lv_iload_n hx hb dX10_isAhead_9 rfl (lv_at hl 2 rfl) ?_
      refine lv_i2l (v := p1.toInt64) hx hb dX10_isAhead_10 rfl ?_
      refine lv_iload_n hx hb dX10_isAhead_11 rfl (lv_at hl 3 rfl) ?_
      refine lv_i2l (v := p2.toInt64) hx hb dX10_isAhead_12 rfl ?_
      refine k_jim hP hD hS hA [] [true, true] rfl rfl rfl 0 0 (Nat.le_of_ble_eq_true rfl) (Nat.le_of_ble_eq_true rfl) (fun hPc hDc => k_runS (As := [.long p0.toInt64, .long p1.toInt64, .long p2.toInt64]) (rest := []) C0 hZ hS hA (c_isIn l dC dI cy sq p0.toInt64 p1.toInt64 p2.toInt64) mS_X10_318 hPc hDc hl rfl rfl (Nat.le_of_ble_eq_true rfl) ⟨(Nat.le_of_ble_eq_true rfl), (Nat.le_of_ble_eq_true rfl)⟩ ⟨(Nat.le_of_ble_eq_true rfl), (Nat.le_of_ble_eq_true rfl)⟩ dX10_isAhead_13) (fun r5 u6 H locs hw hP hD hS => ?_)
      replace hP : va_P (dC, dI) vwCl [(a_this, .inr (10, mfs rm x_taped x_at x_end x_ended x_bad x_badPlace x_fault x_faultPlace x_namePlace x_awayTold x_away x_coded x_statements x_isCrossing x_textKind x_askSecond x_redMany x_isOpen x_lastGreen x_greenTo x_isCycleGreen x_stillGreen x_rowMany x_fitMany x_fitRules x_fitGreen x_undoable x_newest x_seeded x_qCoded x_qWaits x_qOpened x_qBase x_qPiled x_qAnswer x_qIsNew x_octets)), (wi_rm56_0_9_0 rm cy g_now)] H := hP
      replace hD := k_D hP hD
      have h7 := hw
      have h8 : ib r5 0 1 := by rw [h7]; exact k_isf_01 _ _ _
      have Er5 := lf_isine h7 (lf_i2l (lf_rf p0)) (lf_i2l (lf_rf p1)) (lf_i2l (lf_rf p2))
      refine lv_if_eq (tgt := 37) hx hb dX10_isAhead_16 rfl (fun c9 => ?_) (fun c9 => ?_)
      · replace hq := lf_pos hq (lf_eq Er5 (lf_lc 0 (0 : Int) rfl) c9)
        have h10 := ib_eq h8 (ib_c 0 0 0 rfl) c9
        have h11 : ib r5 0 0 := ib_w 0 0 h10.1 rfl
        exact jn37  H locs ls (by exact hq) hP hD hS (lv_sub hl [0, 1, 2, 3] rfl)
      · as_aux_lemma =>
          replace hq := lf_neg hq (lf_ne Er5 (lf_lc 0 (0 : Int) rfl) c9)
          have h12 : ib r5 1 1 := ib_w 1 1 (ib_ne_lo 0 h8 rfl c9) rfl
          refine lv_aload_n hx hb dX10_isAhead_19 rfl (lv_at hl 0 rfl) ?_
          refine k_get C0 fg_X10_139 hP 0 rfl rfl dX10_isAhead_20 ?_
          refine lv_iconst (v := 0) hx hb dX10_isAhead_23 rfl ?_
          refine va_iald hx hb C0.2.2.2.2.2.1 hP 1 0 rfl rfl (k_in 0 9 rfl) dX10_isAhead_24 ?_
          refine lv_topi (fun z13 ez13 => ?_)
          have Ez13 := lf_ld ez13 (lf_ra g_now) (lf_lc 0 (0 : Int) rfl)
          refine lv_iload_n hx hb dX10_isAhead_25 rfl (lv_at hl 1 rfl) ?_
          refine lv_iadd hx hb dX10_isAhead_26 ?_
          refine lv_topi (fun z14 ez14 => ?_)
          have Ez14 := lf_op lf_iadd ez14 Ez13 (lf_rf p0)
          refine lv_sipush (v := 999) hx hb dX10_isAhead_27 rfl ?_
          refine lv_icmp_gt (tgt := 37) hx hb dX10_isAhead_30 rfl (fun c15 => ?_) (fun c15 => ?_)
          · replace hq := lf_pos hq (lf_lt (lf_lc 999 (999 : Int) rfl) Ez14 c15)
            have h16 := ib_lt (ib_c 999 999 999 rfl) (ib_any z14) c15
            have h17 : ib z14 1000 2147483647 := ib_w 1000 2147483647 h16.2 rfl
            exact jn37  H locs ls (by exact hq) hP hD hS (lv_sub hl [0, 1, 2, 3] rfl)
          · replace hq := lf_neg hq (lf_nlt (lf_lc 999 (999 : Int) rfl) Ez14 c15)
            have h18 := ib_nlt (ib_c 999 999 999 rfl) (ib_any z14) c15
            have h19 : ib z14 (-2147483648) 999 := ib_w (-2147483648) 999 h18.2 rfl
            refine lv_iconst (v := 1) hx hb dX10_isAhead_33 rfl ?_
            refine lv_goto (tgt := 38) hx hb dX10_isAhead_34 rfl ?_
            subst hQ; exact k_iret hx hb hr hlk (k_nb 1 rfl) () hS ⟨ib_w 0 1 (ib_c 1 1 1 rfl) rfl, fun _ => ib_w 1 1 h4 rfl, (hO.symm.trans (by try simp only [show (1 : Int32).toInt = (1 : Int) from rfl]; exact hq))⟩ hP hD (Nat.le_of_ble_eq_true rfl) (Nat.le_of_ble_eq_true rfl) dX10_isAhead_38
set_option maxHeartbeats 4000000 in
set_option maxRecDepth 100000 in
theorem s_X10_isFull (l : Launch) (dC : Nat → ClassId) (dI : Nat → Nat → Nat) (cy : Nat → ClassId) (sq : Nat → Nat) (a_this : Nat) (rm : Nat → Nat) (x_taped : Int32) (x_at : Int32) (x_end : Int32) (x_ended : Int32) (x_bad : Int32) (x_badPlace : Int32) (x_fault : Int32) (x_faultPlace : Int32) (x_namePlace : Int32) (x_awayTold : Int32) (x_away : Int32) (x_coded : Int32) (x_statements : Int32) (x_isCrossing : Int32) (x_textKind : Int32) (x_askSecond : Int32) (x_redMany : Int32) (x_isOpen : Int32) (x_lastGreen : Int32) (x_greenTo : Int32) (x_isCycleGreen : Int32) (x_stillGreen : Int32) (x_rowMany : Int32) (x_fitMany : Int32) (x_fitRules : Int32) (x_fitGreen : Int32) (x_undoable : Int32) (x_newest : Int32) (x_seeded : Int64) (x_qCoded : Int32) (x_qWaits : Int32) (x_qOpened : Int32) (x_qBase : Int32) (x_qPiled : Int32) (x_qAnswer : Int64) (x_qIsNew : Int32) (x_octets : Int32) (g_many : Nat → Int32) (p0 : Int32) (p1 : Int32) (p2 : Int32) (hg_many : ia g_many 4 0 12) (hp0 : ib p0 0 1) : k_Met l yX10_isFull cX10_isFull 4 (some .boolean) { frames := 1, cells := 0, slots := 0, locals := 22 } dC dI cy sq [.ref a_this, .int p0, .int p1, .int p2] [(a_this, .inr (10, mfs rm x_taped x_at x_end x_ended x_bad x_badPlace x_fault x_faultPlace x_namePlace x_awayTold x_away x_coded x_statements x_isCrossing x_textKind x_askSecond x_redMany x_isOpen x_lastGreen x_greenTo x_isCycleGreen x_stillGreen x_rowMany x_fitMany x_fitRules x_fitGreen x_undoable x_newest x_seeded x_qCoded x_qWaits x_qOpened x_qBase x_qPiled x_qAnswer x_qIsNew x_octets)), (wi_rm41_0_4_0 rm cy g_many)] (k_Qi dC dI (fun (r : Int32) (u : Int32 × Int32) => match u with | (n0, n1) => ib r 0 1 ∧ (r = 0 → ib n0 0 0) ∧ (r = 0 → ib x_bad 0 0) ∧ (n0 = 0 → x_bad = 0) ∧ (F_X10_isFull (Int32.toInt x_bad) (Int32.toInt x_badPlace) (lf_A g_many) (Int32.toInt p0) (Int32.toInt p1) (Int32.toInt p2) = ((Int32.toInt r), (Int32.toInt n0), (Int32.toInt n1)))) (fun u : Int32 × Int32 => match u with | (n0, n1) => [(a_this, .inr (10, mfs rm x_taped x_at x_end x_ended n0 n1 x_fault x_faultPlace x_namePlace x_awayTold x_away x_coded x_statements x_isCrossing x_textKind x_askSecond x_redMany x_isOpen x_lastGreen x_greenTo x_isCycleGreen x_stillGreen x_rowMany x_fitMany x_fitRules x_fitGreen x_undoable x_newest x_seeded x_qCoded x_qWaits x_qOpened x_qBase x_qPiled x_qAnswer x_qIsNew x_octets)), (wi_rm41_0_4_0 rm cy g_many)])) := by
  refine k_ofW2 (by decide +kernel) (Nat.le_of_ble_eq_true rfl) ?_
  intro p e s m below meth c A ls H locs args Q hQ C0 hZ hr hlk hin hP hD hA hS hl
  have C0 : k_cx p s m args c cX10_isFull 4 RX10 dC dI cy sq := C0
  have hx := C0.1
  have hb := C0.2.1
  have hl : lv_has ls 4 [(0, .ref a_this), (1, .int p0), (2, .int p1), (3, .int p2)] := hl
  obtain ⟨O, hO⟩ : ∃ o, o = F_X10_isFull (Int32.toInt x_bad) (Int32.toInt x_badPlace) (lf_A g_many) (Int32.toInt p0) (Int32.toInt p1) (Int32.toInt p2) := ⟨_, rfl⟩
  have hq := hO
  unfold F_X10_isFull at hq
  refine lv_aload_n hx hb dX10_isFull_0 rfl (lv_at hl 0 rfl) ?_
  refine k_get C0 fg_X10_279 hP 0 rfl rfl dX10_isFull_1 ?_
  refine lv_if_ne (tgt := 23) hx hb dX10_isFull_4 rfl (fun c1 => ?_) (fun c1 => ?_)
  · replace hq := lf_neg hq (lf_ne (lf_rf x_bad) (lf_lc 0 (0 : Int) rfl) c1)
    refine lv_aload_n hx hb dX10_isFull_23 rfl (lv_at hl 0 rfl) ?_
    refine k_get C0 fg_X10_279 hP 0 rfl rfl dX10_isFull_24 ?_
    refine lv_if_eq (tgt := 34) hx hb dX10_isFull_27 rfl (fun c2 => ?_) (fun c2 => ?_)
    · skip
      exact absurd c2 c1
    · skip
      refine lv_iconst (v := 1) hx hb dX10_isFull_30 rfl ?_
      refine lv_goto (tgt := 35) hx hb dX10_isFull_31 rfl ?_
      subst hQ; exact k_iret hx hb hr hlk (k_nb 1 rfl) ((x_bad, x_badPlace)) hS ⟨ib_w 0 1 (ib_c 1 1 1 rfl) rfl, fun hq9 => absurd hq9 (by decide), fun hq9 => absurd hq9 (by decide), fun q => q, (hO.symm.trans (by try simp only [show (1 : Int32).toInt = (1 : Int) from rfl]; exact hq))⟩ hP hD (Nat.le_of_ble_eq_true rfl) (Nat.le_of_ble_eq_true rfl) dX10_isFull_35
  · as_aux_lemma =>
      replace hq := lf_pos hq (lf_eq (lf_rf x_bad) (lf_lc 0 (0 : Int) rfl) c1)
      have h3 := ib_eq (ib_any x_bad) (ib_c 0 0 0 rfl) c1
      have h4 : ib x_bad 0 0 := ib_w 0 0 h3.1 rfl
      refine lv_aload_n hx hb dX10_isFull_7 rfl (lv_at hl 0 rfl) ?_
      refine k_get C0 fg_X10_111 hP 0 rfl rfl dX10_isFull_8 ?_
      refine lv_iload_n hx hb dX10_isFull_11 rfl (lv_at hl 1 rfl) ?_
      refine va_iald hx hb C0.2.2.2.2.2.1 hP 1 0 rfl rfl (ib_in 4 hp0 rfl) dX10_isFull_12 ?_
      refine lv_topi (fun z5 ez5 => ?_)
      have h6 : ib z5 0 12 := by rw [ez5]; exact ia_at hg_many (ib_in 4 hp0 rfl)
      have Ez5 := lf_ld ez5 (lf_ra g_many) (lf_rf p0)
      refine lv_iload_n hx hb dX10_isFull_13 rfl (lv_at hl 2 rfl) ?_
      refine lv_icmp_ne (tgt := 23) hx hb dX10_isFull_14 rfl (fun c7 => ?_) (fun c7 => ?_)
      · replace hq := lf_neg hq (lf_ne Ez5 (lf_rf p1) c7)
        refine lv_aload_n hx hb dX10_isFull_23 rfl (lv_at hl 0 rfl) ?_
        refine k_get C0 fg_X10_279 hP 0 rfl rfl dX10_isFull_24 ?_
        refine lv_if_eq (tgt := 34) hx hb dX10_isFull_27 rfl (fun c8 => ?_) (fun c8 => ?_)
        · skip
          have h9 := ib_eq h4 (ib_c 0 0 0 rfl) c8
          refine lv_iconst (v := 0) hx hb dX10_isFull_34 rfl ?_
          subst hQ; exact k_iret hx hb hr hlk (k_nb 0 rfl) ((x_bad, x_badPlace)) hS ⟨ib_w 0 1 (ib_c 0 0 0 rfl) rfl, fun _ => ib_w 0 0 h4 rfl, fun _ => ib_w 0 0 h4 rfl, fun q => q, (hO.symm.trans (by try simp only [show (0 : Int32).toInt = (0 : Int) from rfl]; exact hq))⟩ hP hD (Nat.le_of_ble_eq_true rfl) (Nat.le_of_ble_eq_true rfl) dX10_isFull_35
        · skip
          exact absurd (ib_one h4 rfl) c8
      · replace hq := lf_pos hq (lf_eq Ez5 (lf_rf p1) c7)
        have h10 := ib_eq h6 (ib_any p1) c7
        have h11 : ib p1 0 12 := ib_w 0 12 h10.2 rfl
        refine lv_aload_n hx hb dX10_isFull_17 rfl (lv_at hl 0 rfl) ?_
        refine lv_iconst (v := 5) hx hb dX10_isFull_18 rfl ?_
        refine lv_iload_n hx hb dX10_isFull_19 rfl (lv_at hl 3 rfl) ?_
        refine k_jvm hP hD hS hA [0] [false, true] rfl rfl rfl 0 0 (Nat.le_of_ble_eq_true rfl) (Nat.le_of_ble_eq_true rfl) (fun hPc hDc => k_runV (As := [.int 5, .int p2]) (rest := []) C0 hZ hS hA (s_X10_fail_a0_5_f_bad_0_0 l dC dI cy sq a_this rm x_taped x_at x_end x_ended x_bad x_badPlace x_fault x_faultPlace x_namePlace x_awayTold x_away x_coded x_statements x_isCrossing x_textKind x_askSecond x_redMany x_isOpen x_lastGreen x_greenTo x_isCycleGreen x_stillGreen x_rowMany x_fitMany x_fitRules x_fitGreen x_undoable x_newest x_seeded x_qCoded x_qWaits x_qOpened x_qBase x_qPiled x_qAnswer x_qIsNew x_octets p2 (ib_w 0 0 h4 rfl)) mV_X10_308 hPc hDc rfl rfl rfl hl rfl rfl (Nat.le_of_ble_eq_true rfl) ⟨(Nat.le_of_ble_eq_true rfl), (Nat.le_of_ble_eq_true rfl)⟩ ⟨(Nat.le_of_ble_eq_true rfl), (Nat.le_of_ble_eq_true rfl)⟩ dX10_isFull_20) (fun u13 H locs hw hP hD hS => ?_)
        try dsimp only at hP hD hw
        replace hP : va_P (dC, dI) vwCl [(wi_rm41_0_4_0 rm cy g_many), (a_this, .inr (10, mfs rm x_taped x_at x_end x_ended 5 p2 x_fault x_faultPlace x_namePlace x_awayTold x_away x_coded x_statements x_isCrossing x_textKind x_askSecond x_redMany x_isOpen x_lastGreen x_greenTo x_isCycleGreen x_stillGreen x_rowMany x_fitMany x_fitRules x_fitGreen x_undoable x_newest x_seeded x_qCoded x_qWaits x_qOpened x_qBase x_qPiled x_qAnswer x_qIsNew x_octets))] H := hP
        replace hD := k_D hP hD
        refine lv_aload_n hx hb dX10_isFull_23 rfl (lv_at hl 0 rfl) ?_
        refine k_get C0 fg_X10_279 hP 1 rfl rfl dX10_isFull_24 ?_
        refine lv_if_eq (tgt := 34) hx hb dX10_isFull_27 rfl (fun h9 => absurd h9 (by decide)) (fun _ => ?_)
        refine lv_iconst (v := 1) hx hb dX10_isFull_30 rfl ?_
        refine lv_goto (tgt := 35) hx hb dX10_isFull_31 rfl ?_
        subst hQ; exact k_iret hx hb hr hlk (k_nb 1 rfl) ((5, p2)) hS ⟨ib_w 0 1 (ib_c 1 1 1 rfl) rfl, fun hq9 => absurd hq9 (by decide), fun hq9 => absurd hq9 (by decide), fun q => absurd q (by decide), (hO.symm.trans (by try simp only [show (1 : Int32).toInt = (1 : Int) from rfl]; try simp only [show (5 : Int32).toInt = (5 : Int) from rfl]; exact hq))⟩ (hP.sub [1, 0] rfl) (hD.sub [1, 0] rfl rfl) (Nat.le_of_ble_eq_true rfl) (Nat.le_of_ble_eq_true rfl) dX10_isFull_35
set_option maxHeartbeats 4000000 in
set_option maxRecDepth 100000 in
theorem s_X10_isGreenLong (l : Launch) (dC : Nat → ClassId) (dI : Nat → Nat → Nat) (cy : Nat → ClassId) (sq : Nat → Nat) (a_this : Nat) (rm : Nat → Nat) (x_taped : Int32) (x_at : Int32) (x_end : Int32) (x_ended : Int32) (x_bad : Int32) (x_badPlace : Int32) (x_fault : Int32) (x_faultPlace : Int32) (x_namePlace : Int32) (x_awayTold : Int32) (x_away : Int32) (x_coded : Int32) (x_statements : Int32) (x_isCrossing : Int32) (x_textKind : Int32) (x_askSecond : Int32) (x_redMany : Int32) (x_isOpen : Int32) (x_lastGreen : Int32) (x_greenTo : Int32) (x_isCycleGreen : Int32) (x_stillGreen : Int32) (x_rowMany : Int32) (x_fitMany : Int32) (x_fitRules : Int32) (x_fitGreen : Int32) (x_undoable : Int32) (x_newest : Int32) (x_seeded : Int64) (x_qCoded : Int32) (x_qWaits : Int32) (x_qOpened : Int32) (x_qBase : Int32) (x_qPiled : Int32) (x_qAnswer : Int64) (x_qIsNew : Int32) (x_octets : Int32) (g_bar : Nat → Int32) (p0 : Int32) (p1 : Int32) (hg_bar_4 : ib (g_bar 4) 0 120) : k_Met l yX10_isGreenLong cX10_isGreenLong 3 (some .boolean) { frames := 1, cells := 0, slots := 0, locals := 25 } dC dI cy sq [.ref a_this, .int p0, .int p1] [(a_this, .inr (10, mfs rm x_taped x_at x_end x_ended x_bad x_badPlace x_fault x_faultPlace x_namePlace x_awayTold x_away x_coded x_statements x_isCrossing x_textKind x_askSecond x_redMany x_isOpen x_lastGreen x_greenTo x_isCycleGreen x_stillGreen x_rowMany x_fitMany x_fitRules x_fitGreen x_undoable x_newest x_seeded x_qCoded x_qWaits x_qOpened x_qBase x_qPiled x_qAnswer x_qIsNew x_octets)), (wi_rm43_0_8_0 rm cy g_bar)] (k_Qi dC dI (fun (r : Int32) (_ : Unit) => ib r 0 1 ∧ (¬ r = 0 → ib (g_bar 4) 2 120) ∧ (¬ r = 0 → ib p0 1 119) ∧ (¬ r = 0 → ib p1 1 2147483647) ∧ (F_X10_isGreenLong (lf_A g_bar) (Int32.toInt p0) (Int32.toInt p1) = ((Int32.toInt r)))) (fun _ : Unit => [(a_this, .inr (10, mfs rm x_taped x_at x_end x_ended x_bad x_badPlace x_fault x_faultPlace x_namePlace x_awayTold x_away x_coded x_statements x_isCrossing x_textKind x_askSecond x_redMany x_isOpen x_lastGreen x_greenTo x_isCycleGreen x_stillGreen x_rowMany x_fitMany x_fitRules x_fitGreen x_undoable x_newest x_seeded x_qCoded x_qWaits x_qOpened x_qBase x_qPiled x_qAnswer x_qIsNew x_octets)), (wi_rm43_0_8_0 rm cy g_bar)])) := by
  refine k_ofW2 (by decide +kernel) (Nat.le_of_ble_eq_true rfl) ?_
  intro p e s m below meth c A ls H locs args Q hQ C0 hZ hr hlk hin hP hD hA hS hl
  have C0 : k_cx p s m args c cX10_isGreenLong 3 RX10 dC dI cy sq := C0
  have hx := C0.1
  have hb := C0.2.1
  have hl : lv_has ls 3 [(0, .ref a_this), (1, .int p0), (2, .int p1)] := hl
  obtain ⟨O, hO⟩ : ∃ o, o = F_X10_isGreenLong (lf_A g_bar) (Int32.toInt p0) (Int32.toInt p1) := ⟨_, rfl⟩
  have hq := hO
  unfold F_X10_isGreenLong at hq
  have jn25 : ∀  (H : Heap) (locs : List Loc) (ls : Array Slot), (O = F_X10_isGreenLong_25 ) → va_P (dC, dI) vwCl [(a_this, .inr (10, mfs rm x_taped x_at x_end x_ended x_bad x_badPlace x_fault x_faultPlace x_namePlace x_awayTold x_away x_coded x_statements x_isCrossing x_textKind x_askSecond x_redMany x_isOpen x_lastGreen x_greenTo x_isCycleGreen x_stillGreen x_rowMany x_fitMany x_fitRules x_fitGreen x_undoable x_newest x_seeded x_qCoded x_qWaits x_qOpened x_qBase x_qPiled x_qAnswer x_qIsNew x_octets)), (wi_rm43_0_8_0 rm cy g_bar)] H → va_D A [(a_this, .inr (10, mfs rm x_taped x_at x_end x_ended x_bad x_badPlace x_fault x_faultPlace x_namePlace x_awayTold x_away x_coded x_statements x_isCrossing x_textKind x_askSecond x_redMany x_isOpen x_lastGreen x_greenTo x_isCycleGreen x_stillGreen x_rowMany x_fitMany x_fitRules x_fitGreen x_undoable x_newest x_seeded x_qCoded x_qWaits x_qOpened x_qBase x_qPiled x_qAnswer x_qIsNew x_octets)), (wi_rm43_0_8_0 rm cy g_bar)] → va_S A s.heap H locs → lv_has ls 3 [(0, .ref a_this), (1, .int p0), (2, .int p1)] → W p l e { frames := 1, cells := 0, slots := 0, locals := 25 } s m args below meth c H locs 0 0 Q (F0 m 25 ls []) := by
    intro H locs ls hq hP hD hS hl
    unfold F_X10_isGreenLong_25 at hq
    refine lv_iconst (v := 0) hx hb dX10_isGreenLong_25 rfl ?_
    subst hQ; exact k_iret hx hb hr hlk (k_nb 0 rfl) () hS ⟨ib_w 0 1 (ib_c 0 0 0 rfl) rfl, fun hq9 => absurd rfl hq9, fun hq9 => absurd rfl hq9, fun hq9 => absurd rfl hq9, (hO.symm.trans (by try simp only [show (0 : Int32).toInt = (0 : Int) from rfl]; exact hq))⟩ hP hD (Nat.le_of_ble_eq_true rfl) (Nat.le_of_ble_eq_true rfl) dX10_isGreenLong_26
  refine lv_iload_n hx hb dX10_isGreenLong_0 rfl (lv_at hl 1 rfl) ?_
  refine lv_i2l (v := p0.toInt64) hx hb dX10_isGreenLong_1 rfl ?_
  refine lv_lconst (v := 1) hx hb dX10_isGreenLong_2 (by decide) ?_
  refine lv_iload_n hx hb dX10_isGreenLong_3 rfl (lv_at hl 2 rfl) ?_
  refine lv_i2l (v := p1.toInt64) hx hb dX10_isGreenLong_4 rfl ?_
  refine k_jim hP hD hS hA [] [true, true] rfl rfl rfl 0 0 (Nat.le_of_ble_eq_true rfl) (Nat.le_of_ble_eq_true rfl) (fun hPc hDc => k_runS (As := [.long p0.toInt64, .long 1, .long p1.toInt64]) (rest := []) C0 hZ hS hA (c_isIn l dC dI cy sq p0.toInt64 1 p1.toInt64) mS_X10_318 hPc hDc hl rfl rfl (Nat.le_of_ble_eq_true rfl) ⟨(Nat.le_of_ble_eq_true rfl), (Nat.le_of_ble_eq_true rfl)⟩ ⟨(Nat.le_of_ble_eq_true rfl), (Nat.le_of_ble_eq_true rfl)⟩ dX10_isGreenLong_5) (fun r1 u2 H locs hw hP hD hS => ?_)
  replace hP : va_P (dC, dI) vwCl [(a_this, .inr (10, mfs rm x_taped x_at x_end x_ended x_bad x_badPlace x_fault x_faultPlace x_namePlace x_awayTold x_away x_coded x_statements x_isCrossing x_textKind x_askSecond x_redMany x_isOpen x_lastGreen x_greenTo x_isCycleGreen x_stillGreen x_rowMany x_fitMany x_fitRules x_fitGreen x_undoable x_newest x_seeded x_qCoded x_qWaits x_qOpened x_qBase x_qPiled x_qAnswer x_qIsNew x_octets)), (wi_rm43_0_8_0 rm cy g_bar)] H := hP
  replace hD := k_D hP hD
  have h3 := hw
  have h4 : ib r1 0 1 := by rw [h3]; exact k_isf_01 _ _ _
  have Er1 := lf_isine h3 (lf_i2l (lf_rf p0)) (lf_ll 1 (1 : Int) rfl) (lf_i2l (lf_rf p1))
  refine lv_if_eq (tgt := 25) hx hb dX10_isGreenLong_8 rfl (fun c5 => ?_) (fun c5 => ?_)
  · replace hq := lf_pos hq (lf_eq Er1 (lf_lc 0 (0 : Int) rfl) c5)
    have h6 := ib_eq h4 (ib_c 0 0 0 rfl) c5
    have h7 : ib r1 0 0 := ib_w 0 0 h6.1 rfl
    exact jn25  H locs ls (by exact hq) hP hD hS (lv_sub hl [0, 1, 2] rfl)
  · replace hq := lf_neg hq (lf_ne Er1 (lf_lc 0 (0 : Int) rfl) c5)
    have h8 : ib r1 1 1 := ib_w 1 1 (ib_ne_lo 0 h4 rfl c5) rfl
    have h9 : ib p0 1 2147483647 := ib_w 1 2147483647 (ib_two (ib_any p0) (k_isf_v h3 (show 1 ≤ (1 : Int64).toInt by decide) (by rw [Int32.toInt_toInt64]; exact ((ib_any p1)).2) (ib_nz h8 rfl))) rfl
    have h10 : ib p1 1 2147483647 := ib_w 1 2147483647 (ib_two (ib_any p1) (k_isf_u h3 (show 1 ≤ (1 : Int64).toInt by decide) (ib_any p1) (ib_nz h8 rfl))) rfl
    refine lv_iload_n hx hb dX10_isGreenLong_11 rfl (lv_at hl 1 rfl) ?_
    refine lv_aload_n hx hb dX10_isGreenLong_12 rfl (lv_at hl 0 rfl) ?_
    refine k_get C0 fg_X10_118 hP 0 rfl rfl dX10_isGreenLong_13 ?_
    refine lv_iconst (v := 4) hx hb dX10_isGreenLong_16 rfl ?_
    refine va_iald hx hb C0.2.2.2.2.2.1 hP 1 0 rfl rfl (k_in 4 8 rfl) dX10_isGreenLong_17 ?_
    refine k_topi (y := g_bar 4) rfl ?_
    refine lv_icmp_ge (tgt := 25) hx hb dX10_isGreenLong_18 rfl (fun c11 => ?_) (fun c11 => ?_)
    · replace hq := lf_pos hq (lf_le (lf_pt (lf_ra g_bar) 4) (lf_rf p0) c11)
      have h12 := ib_le hg_bar_4 h9 c11
      exact jn25  H locs ls (by exact hq) hP hD hS (lv_sub hl [0, 1, 2] rfl)
    · replace hq := lf_neg hq (lf_nle (lf_pt (lf_ra g_bar) 4) (lf_rf p0) c11)
      have h13 := ib_nle hg_bar_4 h9 c11
      have h14 : ib (g_bar 4) 2 120 := ib_w 2 120 h13.1 rfl
      have h15 : ib p0 1 119 := ib_w 1 119 h13.2 rfl
      refine lv_iconst (v := 1) hx hb dX10_isGreenLong_21 rfl ?_
      refine lv_goto (tgt := 26) hx hb dX10_isGreenLong_22 rfl ?_
      subst hQ; exact k_iret hx hb hr hlk (k_nb 1 rfl) () hS ⟨ib_w 0 1 (ib_c 1 1 1 rfl) rfl, fun _ => ib_w 2 120 h14 rfl, fun _ => ib_w 1 119 h15 rfl, fun _ => ib_w 1 2147483647 h10 rfl, (hO.symm.trans (by try simp only [show (1 : Int32).toInt = (1 : Int) from rfl]; exact hq))⟩ hP hD (Nat.le_of_ble_eq_true rfl) (Nat.le_of_ble_eq_true rfl) dX10_isGreenLong_26
set_option maxHeartbeats 4000000 in
set_option maxRecDepth 100000 in
theorem s_X10_checked_i1_0_10 (l : Launch) (dC : Nat → ClassId) (dI : Nat → Nat → Nat) (cy : Nat → ClassId) (sq : Nat → Nat) (a_arg0 : Nat) (g_arg0 : Nat → Int32) (p1 : Int32) (hg_arg0 : ia g_arg0 1600 0 255) (hp1 : ib p1 0 10) : k_Met l yX10_checked cX10_checked 4 (some .int) { frames := 0, cells := 0, slots := 0, locals := 0 } dC dI cy sq [.ref a_arg0, .int p1] [(wi_0_1600_0 a_arg0 cy g_arg0)] (k_Qi dC dI (fun (r : Int32) (_ : Unit) => ib r 0 250 ∧ (F_X10_checked_i1_0_10 (lf_A g_arg0) (Int32.toInt p1) = ((Int32.toInt r)))) (fun _ : Unit => [(wi_0_1600_0 a_arg0 cy g_arg0)])) := by
  refine k_ofW2 (by decide +kernel) (Nat.le_of_ble_eq_true rfl) ?_
  intro p e s m below meth c A ls H locs args Q hQ C0 hZ hr hlk hin hP hD hA hS hl
  have C0 : k_cx p s m args c cX10_checked 4 RX10 dC dI cy sq := C0
  have hx := C0.1
  have hb := C0.2.1
  have hl : lv_has ls 4 [(0, .ref a_arg0), (1, .int p1)] := hl
  obtain ⟨O, hO⟩ : ∃ o, o = F_X10_checked_i1_0_10 (lf_A g_arg0) (Int32.toInt p1) := ⟨_, rfl⟩
  have hq := hO
  unfold F_X10_checked_i1_0_10 at hq
  have jn5 : ∀ (n : Nat) (J5_l2 : Int32) (J5_l3 : Int32) (H : Heap) (locs : List Loc) (ls : Array Slot), ib J5_l2 0 250 → ib J5_l3 0 10 → (O = F_X10_checked_i1_0_10_5 (lf_A g_arg0) (Int32.toInt p1) n (Int32.toInt J5_l2) (Int32.toInt J5_l3)) → 11 ≤ J5_l3.toInt + (n : Int) → va_P (dC, dI) vwCl [(wi_0_1600_0 a_arg0 cy g_arg0)] H → va_D A [(wi_0_1600_0 a_arg0 cy g_arg0)] → va_S A s.heap H locs → lv_has ls 4 [(0, .ref a_arg0), (1, .int p1), (2, .int J5_l2), (3, .int J5_l3)] → W p l e { frames := 0, cells := 0, slots := 0, locals := 0 } s m args below meth c H locs 0 0 Q (F0 m 5 ls []) := by
    as_aux_lemma =>
      intro n
      induction n with
      | zero =>
        intro J5_l2 J5_l3 H locs ls hJ5_l2 hJ5_l3 hq hm
        exact absurd hm (by have := hJ5_l3; unfold ib at this; omega)
      | succ n ih =>
        intro J5_l2 J5_l3 H locs ls hJ5_l2 hJ5_l3 hq hm5 hP hD hS hl
        have ih5 := ih
        obtain ⟨K5, hK5⟩ : ∃ K, K = F_X10_checked_i1_0_10_5 (lf_A g_arg0) (Int32.toInt p1) n := ⟨_, rfl⟩
        have hq : O = F_X10_checked_i1_0_10_5b (lf_A g_arg0) (Int32.toInt p1) K5 (Int32.toInt J5_l2) (Int32.toInt J5_l3) := by rw [hK5]; exact hq
        unfold F_X10_checked_i1_0_10_5b at hq
        refine lv_iload_n hx hb dX10_checked_5 rfl (lv_at hl 3 rfl) ?_
        refine lv_iload_n hx hb dX10_checked_6 rfl (lv_at hl 1 rfl) ?_
        refine lv_icmp_ge (tgt := 28) hx hb dX10_checked_7 rfl (fun c1 => ?_) (fun c1 => ?_)
        · replace hq := lf_pos hq (lf_le (lf_rf p1) (lf_rf J5_l3) c1)
          have h2 := ib_le hp1 hJ5_l3 c1
          refine lv_iload_n hx hb dX10_checked_28 rfl (lv_at hl 2 rfl) ?_
          subst hQ; exact k_iret hx hb hr hlk rfl () hS ⟨ib_w 0 250 hJ5_l2 rfl, (hO.symm.trans (by exact hq))⟩ hP hD (Nat.le_of_ble_eq_true rfl) (Nat.le_of_ble_eq_true rfl) dX10_checked_29
        · as_aux_lemma =>
            replace hq := lf_neg hq (lf_nle (lf_rf p1) (lf_rf J5_l3) c1)
            have h3 := ib_nle hp1 hJ5_l3 c1
            have h4 : ib p1 1 10 := ib_w 1 10 h3.1 rfl
            have h5 : ib J5_l3 0 9 := ib_w 0 9 h3.2 rfl
            refine lv_iconst (v := 3) hx hb dX10_checked_10 rfl ?_
            refine lv_iload_n hx hb dX10_checked_11 rfl (lv_at hl 2 rfl) ?_
            refine lv_imul hx hb dX10_checked_12 ?_
            refine lv_topi (fun z6 ez6 => ?_)
            have h7 := ib_mul (ib_c 3 3 3 rfl) hJ5_l2 rfl
            rw [← ez6] at h7
            have h8 : ib z6 0 750 := ib_w 0 750 h7.1 rfl
            have h9 : z6.toInt = 3 * J5_l2.toInt := by have q0 := h7.2; rw [show (3 : Int32).toInt = 3 from by decide] at q0; omega
            have Ez6 := lf_mul h7.2 (lf_lc 3 (3 : Int) rfl) (lf_rf J5_l2)
            refine lv_aload_n hx hb dX10_checked_13 rfl (lv_at hl 0 rfl) ?_
            refine lv_iload_n hx hb dX10_checked_14 rfl (lv_at hl 3 rfl) ?_
            refine va_iald hx hb C0.2.2.2.2.2.1 hP 0 0 rfl rfl (ib_in 1600 h5 rfl) dX10_checked_15 ?_
            refine lv_topi (fun z10 ez10 => ?_)
            have h11 : ib z10 0 255 := by rw [ez10]; exact ia_at hg_arg0 (ib_in 1600 h5 rfl)
            have Ez10 := lf_ld ez10 (lf_ra g_arg0) (lf_rf J5_l3)
            refine lv_iadd hx hb dX10_checked_16 ?_
            refine lv_topi (fun z12 ez12 => ?_)
            have h13 := ib_add h8 h11 rfl
            rw [← ez12] at h13
            have h14 : ib z12 0 1005 := ib_w 0 1005 h13.1 rfl
            have Ez12 := lf_add h13.2 Ez6 Ez10
            refine lv_sipush (v := 251) hx hb dX10_checked_17 rfl ?_
            refine lv_irem hx hb dX10_checked_20 (by decide) ?_
            refine lv_topi (fun z15 ez15 => ?_)
            have h16 : ib z15 0 250 := by rw [ez15]; exact ib_w 0 250 (ib_rem h14 (ib_c 251 251 251 rfl) rfl) rfl
            have Ez15 := lf_op lf_irem ez15 Ez12 (lf_lc 251 (251 : Int) rfl)
            refine lv_istore_n (lv' := [(2, .int z15), (0, .ref a_arg0), (1, .int p1), (3, .int J5_l3)]) hx hb dX10_checked_21 rfl hl (Nat.le_of_ble_eq_true rfl) rfl (fun ls hl => ?_)
            obtain ⟨z17, ez17⟩ : ∃ y : Int32, y = J5_l3 + 1 := ⟨_, rfl⟩
            refine lv_iinc (v := z17) (lv' := [(3, .int z17), (2, .int z15), (0, .ref a_arg0), (1, .int p1)]) hx hb dX10_checked_22 hl (k := 3) rfl (by rw [ez17]; rfl) (Nat.le_of_ble_eq_true rfl) rfl (fun ls hl => ?_)
            have h18 := ib_add h5 (ib_c 1 1 1 rfl) rfl
            rw [← ez17] at h18
            have h19 : ib z17 1 10 := ib_w 1 10 h18.1 rfl
            have Ez17 := lf_add h18.2 (lf_rf J5_l3) (lf_lc 1 (1 : Int) rfl)
            refine lv_goto (tgt := 5) hx hb dX10_checked_25 rfl ?_
            exact ih5 z15 z17 H locs ls (ib_w 0 250 h16 rfl) (ib_w 0 10 h19 rfl) (by rw [← hK5]; rw [lf_u Ez15]; rw [lf_u Ez17]; exact hq) (by have := h18.2; have : (1 : Int32).toInt = 1 := rfl; omega) hP hD hS (lv_sub hl [2, 3, 1, 0] rfl)
  refine lv_bipush (v := 101) hx hb dX10_checked_0 rfl ?_
  refine lv_istore_n (lv' := [(2, .int 101), (0, .ref a_arg0), (1, .int p1)]) hx hb dX10_checked_2 rfl hl (Nat.le_of_ble_eq_true rfl) rfl (fun ls hl => ?_)
  refine lv_iconst (v := 0) hx hb dX10_checked_3 rfl ?_
  refine lv_istore_n (lv' := [(3, .int 0), (2, .int 101), (0, .ref a_arg0), (1, .int p1)]) hx hb dX10_checked_4 rfl hl (Nat.le_of_ble_eq_true rfl) rfl (fun ls hl => ?_)
  exact jn5 12 101 0 H locs ls (ib_w 0 250 (ib_c 101 101 101 rfl) rfl) (ib_w 0 10 (ib_c 0 0 0 rfl) rfl) (by try simp only [show (101 : Int32).toInt = (101 : Int) from rfl]; try simp only [show (0 : Int32).toInt = (0 : Int) from rfl]; exact hq) (by have := (ib_c 0 0 0 rfl); unfold ib at this; omega) hP hD hS (lv_sub hl [2, 3, 1, 0] rfl)
set_option maxHeartbeats 4000000 in
set_option maxRecDepth 100000 in
theorem s_X10_isImage (l : Launch) (dC : Nat → ClassId) (dI : Nat → Nat → Nat) (cy : Nat → ClassId) (sq : Nat → Nat) (a_this : Nat) (rm : Nat → Nat) (x_taped : Int32) (x_at : Int32) (x_end : Int32) (x_ended : Int32) (x_bad : Int32) (x_badPlace : Int32) (x_fault : Int32) (x_faultPlace : Int32) (x_namePlace : Int32) (x_awayTold : Int32) (x_away : Int32) (x_coded : Int32) (x_statements : Int32) (x_isCrossing : Int32) (x_textKind : Int32) (x_askSecond : Int32) (x_redMany : Int32) (x_isOpen : Int32) (x_lastGreen : Int32) (x_greenTo : Int32) (x_isCycleGreen : Int32) (x_stillGreen : Int32) (x_rowMany : Int32) (x_fitMany : Int32) (x_fitRules : Int32) (x_fitGreen : Int32) (x_undoable : Int32) (x_newest : Int32) (x_seeded : Int64) (x_qCoded : Int32) (x_qWaits : Int32) (x_qOpened : Int32) (x_qBase : Int32) (x_qPiled : Int32) (x_qAnswer : Int64) (x_qIsNew : Int32) (x_octets : Int32) (g_tape : Nat → Int32) (g_many : Nat → Int32) (g_bar : Nat → Int32) (p0 : Int32) (hx_isCrossing : ib x_isCrossing 0 1) (hg_tape : ia g_tape 1600 0 255) (hg_many_2 : ib (g_many 2) 0 6) (hg_bar_4 : ib (g_bar 4) 0 120) (hc_cr : ¬ x_isCrossing = 0 → ib (g_bar 4) 10 120) (hp0 : ib p0 0 1600) : k_Met l yX10_isImage cX10_isImage 3 (some .boolean) { frames := 2, cells := 0, slots := 0, locals := 47 } dC dI cy sq [.ref a_this, .int p0] [(a_this, .inr (10, mfs rm x_taped x_at x_end x_ended x_bad x_badPlace x_fault x_faultPlace x_namePlace x_awayTold x_away x_coded x_statements x_isCrossing x_textKind x_askSecond x_redMany x_isOpen x_lastGreen x_greenTo x_isCycleGreen x_stillGreen x_rowMany x_fitMany x_fitRules x_fitGreen x_undoable x_newest x_seeded x_qCoded x_qWaits x_qOpened x_qBase x_qPiled x_qAnswer x_qIsNew x_octets)), (wi_rm41_0_4_0 rm cy g_many), (wi_rm0_0_1600_0 rm cy g_tape), (wi_rm43_0_8_0 rm cy g_bar)] (k_Qi dC dI (fun (r : Int32) (_ : Unit) => ib r 0 1 ∧ (¬ r = 0 → ib (g_bar 4) 10 120) ∧ (¬ r = 0 → ib x_isCrossing 1 1) ∧ (¬ r = 0 → ib p0 5 11) ∧ (F_X10_isImage (Int32.toInt x_isCrossing) (lf_A g_tape) (lf_A g_many) (lf_A g_bar) (Int32.toInt p0) = ((Int32.toInt r)))) (fun _ : Unit => [(a_this, .inr (10, mfs rm x_taped x_at x_end x_ended x_bad x_badPlace x_fault x_faultPlace x_namePlace x_awayTold x_away x_coded x_statements x_isCrossing x_textKind x_askSecond x_redMany x_isOpen x_lastGreen x_greenTo x_isCycleGreen x_stillGreen x_rowMany x_fitMany x_fitRules x_fitGreen x_undoable x_newest x_seeded x_qCoded x_qWaits x_qOpened x_qBase x_qPiled x_qAnswer x_qIsNew x_octets)), (wi_rm41_0_4_0 rm cy g_many), (wi_rm0_0_1600_0 rm cy g_tape), (wi_rm43_0_8_0 rm cy g_bar)])) := by
  refine k_ofW2 (by decide +kernel) (Nat.le_of_ble_eq_true rfl) ?_
  intro p e s m below meth c A ls H locs args Q hQ C0 hZ hr hlk hin hP hD hA hS hl
  have C0 : k_cx p s m args c cX10_isImage 3 RX10 dC dI cy sq := C0
  have hx := C0.1
  have hb := C0.2.1
  have hl : lv_has ls 3 [(0, .ref a_this), (1, .int p0)] := hl
  obtain ⟨O, hO⟩ : ∃ o, o = F_X10_isImage (Int32.toInt x_isCrossing) (lf_A g_tape) (lf_A g_many) (lf_A g_bar) (Int32.toInt p0) := ⟨_, rfl⟩
  have hq := hO
  unfold F_X10_isImage at hq
  have jn90 : ∀ (n : Nat) (J90_l2 : Int32) (H : Heap) (locs : List Loc) (ls : Array Slot), ib p0 5 11 → ib x_isCrossing 1 1 → ib (g_bar 4) 10 120 → ib J90_l2 0 6 → (O = F_X10_isImage_90 (lf_A g_tape) (lf_A g_many) n (Int32.toInt J90_l2)) → 7 ≤ J90_l2.toInt + (n : Int) → va_P (dC, dI) vwCl [(a_this, .inr (10, mfs rm x_taped x_at x_end x_ended x_bad x_badPlace x_fault x_faultPlace x_namePlace x_awayTold x_away x_coded x_statements x_isCrossing x_textKind x_askSecond x_redMany x_isOpen x_lastGreen x_greenTo x_isCycleGreen x_stillGreen x_rowMany x_fitMany x_fitRules x_fitGreen x_undoable x_newest x_seeded x_qCoded x_qWaits x_qOpened x_qBase x_qPiled x_qAnswer x_qIsNew x_octets)), (wi_rm41_0_4_0 rm cy g_many), (wi_rm0_0_1600_0 rm cy g_tape), (wi_rm43_0_8_0 rm cy g_bar)] H → va_D A [(a_this, .inr (10, mfs rm x_taped x_at x_end x_ended x_bad x_badPlace x_fault x_faultPlace x_namePlace x_awayTold x_away x_coded x_statements x_isCrossing x_textKind x_askSecond x_redMany x_isOpen x_lastGreen x_greenTo x_isCycleGreen x_stillGreen x_rowMany x_fitMany x_fitRules x_fitGreen x_undoable x_newest x_seeded x_qCoded x_qWaits x_qOpened x_qBase x_qPiled x_qAnswer x_qIsNew x_octets)), (wi_rm41_0_4_0 rm cy g_many), (wi_rm0_0_1600_0 rm cy g_tape), (wi_rm43_0_8_0 rm cy g_bar)] → va_S A s.heap H locs → lv_has ls 3 [(0, .ref a_this), (1, .int p0), (2, .int J90_l2)] → W p l e { frames := 2, cells := 0, slots := 0, locals := 47 } s m args below meth c H locs 0 0 Q (F0 m 90 ls []) := by
    as_aux_lemma =>
      intro n
      induction n with
      | zero =>
        intro J90_l2 H locs ls hK90_p0 hK90_x_isCrossing hJ90_a3_4 hJ90_l2 hq hm
        exact absurd hm (by have := hJ90_l2; unfold ib at this; omega)
      | succ n ih =>
        intro J90_l2 H locs ls hK90_p0 hK90_x_isCrossing hJ90_a3_4 hJ90_l2 hq hm90 hP hD hS hl
        have ih90 := ih
        obtain ⟨K90, hK90⟩ : ∃ K, K = F_X10_isImage_90 (lf_A g_tape) (lf_A g_many) n := ⟨_, rfl⟩
        have hq : O = F_X10_isImage_90b (lf_A g_tape) (lf_A g_many) K90 (Int32.toInt J90_l2) := by rw [hK90]; exact hq
        unfold F_X10_isImage_90b at hq
        refine lv_iload_n hx hb dX10_isImage_90 rfl (lv_at hl 2 rfl) ?_
        refine lv_aload_n hx hb dX10_isImage_91 rfl (lv_at hl 0 rfl) ?_
        refine k_jim hP hD hS hA [0, 1] [false, false, true, true] rfl rfl rfl 0 0 (Nat.le_of_ble_eq_true rfl) (Nat.le_of_ble_eq_true rfl) (fun hPc hDc => k_runV (As := []) (rest := [.int J90_l2]) C0 hZ hS hA (s_X10_kindMany l dC dI cy sq a_this rm x_taped x_at x_end x_ended x_bad x_badPlace x_fault x_faultPlace x_namePlace x_awayTold x_away x_coded x_statements x_isCrossing x_textKind x_askSecond x_redMany x_isOpen x_lastGreen x_greenTo x_isCycleGreen x_stillGreen x_rowMany x_fitMany x_fitRules x_fitGreen x_undoable x_newest x_seeded x_qCoded x_qWaits x_qOpened x_qBase x_qPiled x_qAnswer x_qIsNew x_octets g_many ) mV_X10_430 hPc hDc rfl rfl rfl hl rfl rfl (Nat.le_of_ble_eq_true rfl) ⟨(Nat.le_of_ble_eq_true rfl), (Nat.le_of_ble_eq_true rfl)⟩ ⟨(Nat.le_of_ble_eq_true rfl), (Nat.le_of_ble_eq_true rfl)⟩ dX10_isImage_92) (fun r1 u2 H locs hw hP hD hS => ?_)
        try dsimp only at hP hD hw
        replace hP : va_P (dC, dI) vwCl [(wi_rm0_0_1600_0 rm cy g_tape), (wi_rm43_0_8_0 rm cy g_bar), (a_this, .inr (10, mfs rm x_taped x_at x_end x_ended x_bad x_badPlace x_fault x_faultPlace x_namePlace x_awayTold x_away x_coded x_statements x_isCrossing x_textKind x_askSecond x_redMany x_isOpen x_lastGreen x_greenTo x_isCycleGreen x_stillGreen x_rowMany x_fitMany x_fitRules x_fitGreen x_undoable x_newest x_seeded x_qCoded x_qWaits x_qOpened x_qBase x_qPiled x_qAnswer x_qIsNew x_octets)), (wi_rm41_0_4_0 rm cy g_many)] H := hP
        replace hD := k_D hP hD
        obtain ⟨h3, h4⟩ := hw
        subst h3
        replace hq := lf_b1 hq h4
        refine lv_icmp_ge (tgt := 119) hx hb dX10_isImage_95 rfl (fun c5 => ?_) (fun c5 => ?_)
        · replace hq := lf_pos hq (lf_le (lf_pt (lf_ra g_many) 2) (lf_rf J90_l2) c5)
          have h6 := ib_le hg_many_2 hJ90_l2 c5
          refine lv_iconst (v := 1) hx hb dX10_isImage_119 rfl ?_
          subst hQ; exact k_iret hx hb hr hlk (k_nb 1 rfl) () hS ⟨ib_w 0 1 (ib_c 1 1 1 rfl) rfl, fun _ => ib_w 10 120 hJ90_a3_4 rfl, fun _ => ib_w 1 1 hK90_x_isCrossing rfl, fun _ => ib_w 5 11 hK90_p0 rfl, (hO.symm.trans (by try simp only [show (1 : Int32).toInt = (1 : Int) from rfl]; exact hq))⟩ (hP.sub [2, 3, 0, 1] rfl) (hD.sub [2, 3, 0, 1] rfl rfl) (Nat.le_of_ble_eq_true rfl) (Nat.le_of_ble_eq_true rfl) dX10_isImage_120
        · as_aux_lemma =>
            replace hq := lf_neg hq (lf_nle (lf_pt (lf_ra g_many) 2) (lf_rf J90_l2) c5)
            have h7 := ib_nle hg_many_2 hJ90_l2 c5
            have h8 : ib (g_many 2) 1 6 := ib_w 1 6 h7.1 rfl
            have h9 : ib J90_l2 0 5 := ib_w 0 5 h7.2 rfl
            refine lv_aload_n hx hb dX10_isImage_98 rfl (lv_at hl 0 rfl) ?_
            refine k_get C0 fg_X10_7 hP 2 rfl rfl dX10_isImage_99 ?_
            refine lv_iconst (v := 4) hx hb dX10_isImage_102 rfl ?_
            refine lv_iload_n hx hb dX10_isImage_103 rfl (lv_at hl 2 rfl) ?_
            refine lv_iadd hx hb dX10_isImage_104 ?_
            refine lv_topi (fun z10 ez10 => ?_)
            have h11 := ib_add (ib_c 4 4 4 rfl) h9 rfl
            rw [← ez10] at h11
            have h12 : ib z10 4 9 := ib_w 4 9 h11.1 rfl
            have Ez10 := lf_add h11.2 (lf_lc 4 (4 : Int) rfl) (lf_rf J90_l2)
            refine va_iald hx hb C0.2.2.2.2.2.1 hP 0 0 rfl rfl (ib_in 1600 h12 rfl) dX10_isImage_105 ?_
            refine lv_topi (fun z13 ez13 => ?_)
            have h14 : ib z13 0 255 := by rw [ez13]; exact ia_at hg_tape (ib_in 1600 h12 rfl)
            have Ez13 := lf_ld ez13 (lf_ra g_tape) Ez10
            refine lv_bipush (v := 9) hx hb dX10_isImage_106 rfl ?_
            refine lv_icmp_le (tgt := 113) hx hb dX10_isImage_108 rfl (fun c15 => ?_) (fun c15 => ?_)
            · replace hq := lf_pos hq (lf_le Ez13 (lf_lc 9 (9 : Int) rfl) c15)
              have h16 := ib_le h14 (ib_c 9 9 9 rfl) c15
              have h17 : ib z13 0 9 := ib_w 0 9 h16.1 rfl
              obtain ⟨z18, ez18⟩ : ∃ y : Int32, y = J90_l2 + 1 := ⟨_, rfl⟩
              refine lv_iinc (v := z18) (lv' := [(2, .int z18), (0, .ref a_this), (1, .int p0)]) hx hb dX10_isImage_113 hl (k := 2) rfl (by rw [ez18]; rfl) (Nat.le_of_ble_eq_true rfl) rfl (fun ls hl => ?_)
              have h19 := ib_add h9 (ib_c 1 1 1 rfl) rfl
              rw [← ez18] at h19
              have h20 : ib z18 1 6 := ib_w 1 6 h19.1 rfl
              have Ez18 := lf_add h19.2 (lf_rf J90_l2) (lf_lc 1 (1 : Int) rfl)
              refine lv_goto (tgt := 90) hx hb dX10_isImage_116 rfl ?_
              exact ih90 z18 H locs ls (ib_w 5 11 hK90_p0 rfl) (ib_w 1 1 hK90_x_isCrossing rfl) (ib_w 10 120 hJ90_a3_4 rfl) (ib_w 0 6 h20 rfl) (by rw [← hK90]; rw [lf_u Ez18]; exact hq) (by have := h19.2; have : (1 : Int32).toInt = 1 := rfl; omega) (hP.sub [2, 3, 0, 1] rfl) (hD.sub [2, 3, 0, 1] rfl rfl) hS (lv_sub hl [1, 2, 0] rfl)
            · replace hq := lf_neg hq (lf_nle Ez13 (lf_lc 9 (9 : Int) rfl) c15)
              have h21 := ib_nle h14 (ib_c 9 9 9 rfl) c15
              have h22 : ib z13 10 255 := ib_w 10 255 h21.1 rfl
              refine lv_iconst (v := 0) hx hb dX10_isImage_111 rfl ?_
              subst hQ; exact k_iret hx hb hr hlk (k_nb 0 rfl) () hS ⟨ib_w 0 1 (ib_c 0 0 0 rfl) rfl, fun hq9 => absurd rfl hq9, fun hq9 => absurd rfl hq9, fun hq9 => absurd rfl hq9, (hO.symm.trans (by try simp only [show (0 : Int32).toInt = (0 : Int) from rfl]; exact hq))⟩ (hP.sub [2, 3, 0, 1] rfl) (hD.sub [2, 3, 0, 1] rfl rfl) (Nat.le_of_ble_eq_true rfl) (Nat.le_of_ble_eq_true rfl) dX10_isImage_112
  have jn86 : ∀  (H : Heap) (locs : List Loc) (ls : Array Slot), (O = F_X10_isImage_86 ) → va_P (dC, dI) vwCl [(a_this, .inr (10, mfs rm x_taped x_at x_end x_ended x_bad x_badPlace x_fault x_faultPlace x_namePlace x_awayTold x_away x_coded x_statements x_isCrossing x_textKind x_askSecond x_redMany x_isOpen x_lastGreen x_greenTo x_isCycleGreen x_stillGreen x_rowMany x_fitMany x_fitRules x_fitGreen x_undoable x_newest x_seeded x_qCoded x_qWaits x_qOpened x_qBase x_qPiled x_qAnswer x_qIsNew x_octets)), (wi_rm41_0_4_0 rm cy g_many), (wi_rm0_0_1600_0 rm cy g_tape), (wi_rm43_0_8_0 rm cy g_bar)] H → va_D A [(a_this, .inr (10, mfs rm x_taped x_at x_end x_ended x_bad x_badPlace x_fault x_faultPlace x_namePlace x_awayTold x_away x_coded x_statements x_isCrossing x_textKind x_askSecond x_redMany x_isOpen x_lastGreen x_greenTo x_isCycleGreen x_stillGreen x_rowMany x_fitMany x_fitRules x_fitGreen x_undoable x_newest x_seeded x_qCoded x_qWaits x_qOpened x_qBase x_qPiled x_qAnswer x_qIsNew x_octets)), (wi_rm41_0_4_0 rm cy g_many), (wi_rm0_0_1600_0 rm cy g_tape), (wi_rm43_0_8_0 rm cy g_bar)] → va_S A s.heap H locs → lv_has ls 3 [(0, .ref a_this), (1, .int p0)] → W p l e { frames := 2, cells := 0, slots := 0, locals := 47 } s m args below meth c H locs 0 0 Q (F0 m 86 ls []) := by
    intro H locs ls hq hP hD hS hl
    unfold F_X10_isImage_86 at hq
    refine lv_iconst (v := 0) hx hb dX10_isImage_86 rfl ?_
    subst hQ; exact k_iret hx hb hr hlk (k_nb 0 rfl) () hS ⟨ib_w 0 1 (ib_c 0 0 0 rfl) rfl, fun hq9 => absurd rfl hq9, fun hq9 => absurd rfl hq9, fun hq9 => absurd rfl hq9, (hO.symm.trans (by try simp only [show (0 : Int32).toInt = (0 : Int) from rfl]; exact hq))⟩ hP hD (Nat.le_of_ble_eq_true rfl) (Nat.le_of_ble_eq_true rfl) dX10_isImage_87
  refine lv_aload_n hx hb dX10_isImage_0 rfl (lv_at hl 0 rfl) ?_
  refine k_get C0 fg_X10_417 hP 0 rfl rfl dX10_isImage_1 ?_
  refine lv_if_eq (tgt := 86) hx hb dX10_isImage_4 rfl (fun c23 => ?_) (fun c23 => ?_)
  · replace hq := lf_pos hq (lf_eq (lf_rf x_isCrossing) (lf_lc 0 (0 : Int) rfl) c23)
    have h24 := ib_eq hx_isCrossing (ib_c 0 0 0 rfl) c23
    have h25 : ib x_isCrossing 0 0 := ib_w 0 0 h24.1 rfl
    exact jn86  H locs ls (by exact hq) hP hD hS (lv_sub hl [0, 1] rfl)
  · as_aux_lemma =>
      replace hq := lf_neg hq (lf_ne (lf_rf x_isCrossing) (lf_lc 0 (0 : Int) rfl) c23)
      have h26 : ib x_isCrossing 1 1 := ib_w 1 1 (ib_ne_lo 0 hx_isCrossing rfl c23) rfl
      have h27 : ib (g_bar 4) 10 120 := ib_w 10 120 (ib_two hg_bar_4 (hc_cr (ib_nz h26 rfl))) rfl
      refine lv_iload_n hx hb dX10_isImage_7 rfl (lv_at hl 1 rfl) ?_
      refine lv_iconst (v := 5) hx hb dX10_isImage_8 rfl ?_
      refine lv_aload_n hx hb dX10_isImage_9 rfl (lv_at hl 0 rfl) ?_
      refine k_jim hP hD hS hA [0, 1] [false, false, true, true] rfl rfl rfl 0 0 (Nat.le_of_ble_eq_true rfl) (Nat.le_of_ble_eq_true rfl) (fun hPc hDc => k_runV (As := []) (rest := [.int 5, .int p0]) C0 hZ hS hA (s_X10_kindMany l dC dI cy sq a_this rm x_taped x_at x_end x_ended x_bad x_badPlace x_fault x_faultPlace x_namePlace x_awayTold x_away x_coded x_statements x_isCrossing x_textKind x_askSecond x_redMany x_isOpen x_lastGreen x_greenTo x_isCycleGreen x_stillGreen x_rowMany x_fitMany x_fitRules x_fitGreen x_undoable x_newest x_seeded x_qCoded x_qWaits x_qOpened x_qBase x_qPiled x_qAnswer x_qIsNew x_octets g_many ) mV_X10_430 hPc hDc rfl rfl rfl hl rfl rfl (Nat.le_of_ble_eq_true rfl) ⟨(Nat.le_of_ble_eq_true rfl), (Nat.le_of_ble_eq_true rfl)⟩ ⟨(Nat.le_of_ble_eq_true rfl), (Nat.le_of_ble_eq_true rfl)⟩ dX10_isImage_10) (fun r28 u29 H locs hw hP hD hS => ?_)
      try dsimp only at hP hD hw
      replace hP : va_P (dC, dI) vwCl [(wi_rm0_0_1600_0 rm cy g_tape), (wi_rm43_0_8_0 rm cy g_bar), (a_this, .inr (10, mfs rm x_taped x_at x_end x_ended x_bad x_badPlace x_fault x_faultPlace x_namePlace x_awayTold x_away x_coded x_statements x_isCrossing x_textKind x_askSecond x_redMany x_isOpen x_lastGreen x_greenTo x_isCycleGreen x_stillGreen x_rowMany x_fitMany x_fitRules x_fitGreen x_undoable x_newest x_seeded x_qCoded x_qWaits x_qOpened x_qBase x_qPiled x_qAnswer x_qIsNew x_octets)), (wi_rm41_0_4_0 rm cy g_many)] H := hP
      replace hD := k_D hP hD
      obtain ⟨h30, h31⟩ := hw
      subst h30
      replace hq := lf_b1 hq h31
      refine lv_iadd hx hb dX10_isImage_13 ?_
      refine lv_topi (fun z32 ez32 => ?_)
      have h33 := ib_add (ib_c 5 5 5 rfl) hg_many_2 rfl
      rw [← ez32] at h33
      have h34 : ib z32 5 11 := ib_w 5 11 h33.1 rfl
      have Ez32 := lf_add h33.2 (lf_lc 5 (5 : Int) rfl) (lf_pt (lf_ra g_many) 2)
      refine lv_icmp_ne (tgt := 86) hx hb dX10_isImage_14 rfl (fun c35 => ?_) (fun c35 => ?_)
      · replace hq := lf_neg hq (lf_ne (lf_rf p0) Ez32 c35)
        exact jn86  H locs ls (by exact hq) (hP.sub [2, 3, 0, 1] rfl) (hD.sub [2, 3, 0, 1] rfl rfl) hS (lv_sub hl [0, 1] rfl)
      · as_aux_lemma =>
          replace hq := lf_pos hq (lf_eq (lf_rf p0) Ez32 c35)
          have h36 := ib_eq hp0 h34 c35
          have h37 : ib p0 5 11 := ib_w 5 11 h36.1 rfl
          refine lv_aload_n hx hb dX10_isImage_17 rfl (lv_at hl 0 rfl) ?_
          refine k_get C0 fg_X10_7 hP 2 rfl rfl dX10_isImage_18 ?_
          refine lv_iload_n hx hb dX10_isImage_21 rfl (lv_at hl 1 rfl) ?_
          refine lv_iconst (v := 1) hx hb dX10_isImage_22 rfl ?_
          refine lv_isub hx hb dX10_isImage_23 ?_
          refine lv_topi (fun z38 ez38 => ?_)
          have h39 := ib_sub h37 (ib_c 1 1 1 rfl) rfl
          rw [← ez38] at h39
          have h40 : ib z38 4 10 := ib_w 4 10 h39.1 rfl
          have Ez38 := lf_sub h39.2 (lf_rf p0) (lf_lc 1 (1 : Int) rfl)
          refine va_iald hx hb C0.2.2.2.2.2.1 hP 0 0 rfl rfl (ib_in 1600 h40 rfl) dX10_isImage_24 ?_
          refine lv_topi (fun z41 ez41 => ?_)
          have h42 : ib z41 0 255 := by rw [ez41]; exact ia_at hg_tape (ib_in 1600 h40 rfl)
          have Ez41 := lf_ld ez41 (lf_ra g_tape) Ez38
          refine lv_aload_n hx hb dX10_isImage_25 rfl (lv_at hl 0 rfl) ?_
          refine k_get C0 fg_X10_7 hP 2 rfl rfl dX10_isImage_26 ?_
          refine lv_iload_n hx hb dX10_isImage_29 rfl (lv_at hl 1 rfl) ?_
          refine lv_iconst (v := 1) hx hb dX10_isImage_30 rfl ?_
          refine lv_isub hx hb dX10_isImage_31 ?_
          refine lv_topi (fun z43 ez43 => ?_)
          obtain rfl : z38 = z43 := ez38.trans ez43.symm
          refine k_jim hP hD hS hA [0] [false, true, true, true] rfl rfl rfl 0 0 (Nat.le_of_ble_eq_true rfl) (Nat.le_of_ble_eq_true rfl) (fun hPc hDc => k_runS (As := [.ref (rm 0), .int z38]) (rest := [.int z41]) C0 hZ hS hA (s_X10_checked_i1_0_10 l dC dI cy sq (rm 0) g_tape z38 hg_tape (ib_w 0 10 h40 rfl)) mS_X10_705 hPc hDc hl rfl rfl (Nat.le_of_ble_eq_true rfl) ⟨(Nat.le_of_ble_eq_true rfl), (Nat.le_of_ble_eq_true rfl)⟩ ⟨(Nat.le_of_ble_eq_true rfl), (Nat.le_of_ble_eq_true rfl)⟩ dX10_isImage_32) (fun r44 u45 H locs hw hP hD hS => ?_)
          try dsimp only at hP hD hw
          replace hP : va_P (dC, dI) vwCl [(wi_rm43_0_8_0 rm cy g_bar), (a_this, .inr (10, mfs rm x_taped x_at x_end x_ended x_bad x_badPlace x_fault x_faultPlace x_namePlace x_awayTold x_away x_coded x_statements x_isCrossing x_textKind x_askSecond x_redMany x_isOpen x_lastGreen x_greenTo x_isCycleGreen x_stillGreen x_rowMany x_fitMany x_fitRules x_fitGreen x_undoable x_newest x_seeded x_qCoded x_qWaits x_qOpened x_qBase x_qPiled x_qAnswer x_qIsNew x_octets)), (wi_rm41_0_4_0 rm cy g_many), (wi_rm0_0_1600_0 rm cy g_tape)] H := hP
          replace hD := k_D hP hD
          obtain ⟨h46, h47⟩ := hw
          have h47 := by have h9 := h47; rw [lf_u Ez38] at h9; exact h9
          as_aux_lemma =>
            replace hq := lf_b1 hq h47
            refine lv_icmp_ne (tgt := 86) hx hb dX10_isImage_35 rfl (fun c48 => ?_) (fun c48 => ?_)
            · replace hq := lf_neg hq (lf_ne Ez41 (lf_rf r44) c48)
              exact jn86  H locs ls (by exact hq) (hP.sub [1, 2, 3, 0] rfl) (hD.sub [1, 2, 3, 0] rfl rfl) hS (lv_sub hl [0, 1] rfl)
            · as_aux_lemma =>
                replace hq := lf_pos hq (lf_eq Ez41 (lf_rf r44) c48)
                have h49 := ib_eq h42 h46 c48
                have h50 : ib z41 0 250 := ib_w 0 250 h49.1 rfl
                refine lv_sipush (v := 256) hx hb dX10_isImage_38 rfl ?_
                refine lv_aload_n hx hb dX10_isImage_41 rfl (lv_at hl 0 rfl) ?_
                refine k_get C0 fg_X10_7 hP 1 rfl rfl dX10_isImage_42 ?_
                refine lv_iconst (v := 0) hx hb dX10_isImage_45 rfl ?_
                refine va_iald hx hb C0.2.2.2.2.2.1 hP 3 0 rfl rfl (k_in 0 1600 rfl) dX10_isImage_46 ?_
                refine lv_topi (fun z51 ez51 => ?_)
                have h52 : ib z51 0 255 := by rw [ez51]; exact ia_at hg_tape (k_in 0 1600 rfl)
                have Ez51 := lf_ld ez51 (lf_ra g_tape) (lf_lc 0 (0 : Int) rfl)
                refine lv_imul hx hb dX10_isImage_47 ?_
                refine lv_topi (fun z53 ez53 => ?_)
                have h54 := ib_mul (ib_c 256 256 256 rfl) h52 rfl
                rw [← ez53] at h54
                have h55 : ib z53 0 65280 := ib_w 0 65280 h54.1 rfl
                have h56 : z53.toInt = 256 * z51.toInt := by have q0 := h54.2; rw [show (256 : Int32).toInt = 256 from by decide] at q0; omega
                have Ez53 := lf_mul h54.2 (lf_lc 256 (256 : Int) rfl) Ez51
                refine lv_aload_n hx hb dX10_isImage_48 rfl (lv_at hl 0 rfl) ?_
                refine k_get C0 fg_X10_7 hP 1 rfl rfl dX10_isImage_49 ?_
                refine lv_iconst (v := 1) hx hb dX10_isImage_52 rfl ?_
                refine va_iald hx hb C0.2.2.2.2.2.1 hP 3 0 rfl rfl (k_in 1 1600 rfl) dX10_isImage_53 ?_
                refine lv_topi (fun z57 ez57 => ?_)
                have h58 : ib z57 0 255 := by rw [ez57]; exact ia_at hg_tape (k_in 1 1600 rfl)
                have Ez57 := lf_ld ez57 (lf_ra g_tape) (lf_lc 1 (1 : Int) rfl)
                refine lv_iadd hx hb dX10_isImage_54 ?_
                refine lv_topi (fun z59 ez59 => ?_)
                have h60 := ib_add h55 h58 rfl
                rw [← ez59] at h60
                have h61 : ib z59 0 65535 := ib_w 0 65535 h60.1 rfl
                as_aux_lemma =>
                  have Ez59 := lf_add h60.2 Ez53 Ez57
                  refine lv_sipush (v := 999) hx hb dX10_isImage_55 rfl ?_
                  refine lv_icmp_gt (tgt := 86) hx hb dX10_isImage_58 rfl (fun c62 => ?_) (fun c62 => ?_)
                  · replace hq := lf_pos hq (lf_lt (lf_lc 999 (999 : Int) rfl) Ez59 c62)
                    have h63 := ib_lt (ib_c 999 999 999 rfl) h61 c62
                    have h64 : ib z59 1000 65535 := ib_w 1000 65535 h63.2 rfl
                    have h65 : ib z53 745 65280 := ⟨by have := h60.2; have := (h64).1; have := (h64).2; have := (h55).1; have := (h55).2; have := (h58).1; have := (h58).2; omega, by have := h60.2; have := (h64).1; have := (h64).2; have := (h55).1; have := (h55).2; have := (h58).1; have := (h58).2; omega⟩
                    exact jn86  H locs ls (by exact hq) (hP.sub [1, 2, 3, 0] rfl) (hD.sub [1, 2, 3, 0] rfl rfl) hS (lv_sub hl [0, 1] rfl)
                  · as_aux_lemma =>
                      replace hq := lf_neg hq (lf_nlt (lf_lc 999 (999 : Int) rfl) Ez59 c62)
                      have h66 := ib_nlt (ib_c 999 999 999 rfl) h61 c62
                      have h67 : ib z59 0 999 := ib_w 0 999 h66.2 rfl
                      have h68 : ib z53 0 999 := ⟨by have := h60.2; have := (h67).1; have := (h67).2; have := (h55).1; have := (h55).2; have := (h58).1; have := (h58).2; omega, by have := h60.2; have := (h67).1; have := (h67).2; have := (h55).1; have := (h55).2; have := (h58).1; have := (h58).2; omega⟩
                      refine lv_aload_n hx hb dX10_isImage_61 rfl (lv_at hl 0 rfl) ?_
                      refine k_get C0 fg_X10_7 hP 1 rfl rfl dX10_isImage_62 ?_
                      refine lv_iconst (v := 2) hx hb dX10_isImage_65 rfl ?_
                      refine va_iald hx hb C0.2.2.2.2.2.1 hP 3 0 rfl rfl (k_in 2 1600 rfl) dX10_isImage_66 ?_
                      refine lv_topi (fun z69 ez69 => ?_)
                      have h70 : ib z69 0 255 := by rw [ez69]; exact ia_at hg_tape (k_in 2 1600 rfl)
                      have Ez69 := lf_ld ez69 (lf_ra g_tape) (lf_lc 2 (2 : Int) rfl)
                      refine lv_iconst (v := 2) hx hb dX10_isImage_67 rfl ?_
                      refine lv_icmp_gt (tgt := 86) hx hb dX10_isImage_68 rfl (fun c71 => ?_) (fun c71 => ?_)
                      · replace hq := lf_pos hq (lf_lt (lf_lc 2 (2 : Int) rfl) Ez69 c71)
                        have h72 := ib_lt (ib_c 2 2 2 rfl) h70 c71
                        have h73 : ib z69 3 255 := ib_w 3 255 h72.2 rfl
                        exact jn86  H locs ls (by exact hq) (hP.sub [1, 2, 3, 0] rfl) (hD.sub [1, 2, 3, 0] rfl rfl) hS (lv_sub hl [0, 1] rfl)
                      · as_aux_lemma =>
                          replace hq := lf_neg hq (lf_nlt (lf_lc 2 (2 : Int) rfl) Ez69 c71)
                          have h74 := ib_nlt (ib_c 2 2 2 rfl) h70 c71
                          have h75 : ib z69 0 2 := ib_w 0 2 h74.2 rfl
                          refine lv_aload_n hx hb dX10_isImage_71 rfl (lv_at hl 0 rfl) ?_
                          refine lv_aload_n hx hb dX10_isImage_72 rfl (lv_at hl 0 rfl) ?_
                          refine k_get C0 fg_X10_7 hP 1 rfl rfl dX10_isImage_73 ?_
                          refine lv_iconst (v := 3) hx hb dX10_isImage_76 rfl ?_
                          refine va_iald hx hb C0.2.2.2.2.2.1 hP 3 0 rfl rfl (k_in 3 1600 rfl) dX10_isImage_77 ?_
                          refine lv_topi (fun z76 ez76 => ?_)
                          have h77 : ib z76 0 255 := by rw [ez76]; exact ia_at hg_tape (k_in 3 1600 rfl)
                          have Ez76 := lf_ld ez76 (lf_ra g_tape) (lf_lc 3 (3 : Int) rfl)
                          refine lv_bipush (v := 60) hx hb dX10_isImage_78 rfl ?_
                          refine k_jim hP hD hS hA [1, 0] [false, false, true, true] rfl rfl rfl 0 0 (Nat.le_of_ble_eq_true rfl) (Nat.le_of_ble_eq_true rfl) (fun hPc hDc => k_runV (As := [.int z76, .int 60]) (rest := []) C0 hZ hS hA (s_X10_isGreenLong_a1_60 l dC dI cy sq a_this rm x_taped x_at x_end x_ended x_bad x_badPlace x_fault x_faultPlace x_namePlace x_awayTold x_away x_coded x_statements x_isCrossing x_textKind x_askSecond x_redMany x_isOpen x_lastGreen x_greenTo x_isCycleGreen x_stillGreen x_rowMany x_fitMany x_fitRules x_fitGreen x_undoable x_newest x_seeded x_qCoded x_qWaits x_qOpened x_qBase x_qPiled x_qAnswer x_qIsNew x_octets g_bar z76 (ib_w 0 120 h27 rfl)) mV_X10_548 hPc hDc rfl rfl rfl hl rfl rfl (Nat.le_of_ble_eq_true rfl) ⟨(Nat.le_of_ble_eq_true rfl), (Nat.le_of_ble_eq_true rfl)⟩ ⟨(Nat.le_of_ble_eq_true rfl), (Nat.le_of_ble_eq_true rfl)⟩ dX10_isImage_80) (fun r78 u79 H locs hw hP hD hS => ?_)
                          try dsimp only at hP hD hw
                          replace hP : va_P (dC, dI) vwCl [(wi_rm41_0_4_0 rm cy g_many), (wi_rm0_0_1600_0 rm cy g_tape), (a_this, .inr (10, mfs rm x_taped x_at x_end x_ended x_bad x_badPlace x_fault x_faultPlace x_namePlace x_awayTold x_away x_coded x_statements x_isCrossing x_textKind x_askSecond x_redMany x_isOpen x_lastGreen x_greenTo x_isCycleGreen x_stillGreen x_rowMany x_fitMany x_fitRules x_fitGreen x_undoable x_newest x_seeded x_qCoded x_qWaits x_qOpened x_qBase x_qPiled x_qAnswer x_qIsNew x_octets)), (wi_rm43_0_8_0 rm cy g_bar)] H := hP
                          replace hD := k_D hP hD
                          obtain ⟨h80, h81, h82, h83⟩ := hw
                          have h83 := by have h9 := h83; rw [lf_u Ez76] at h9; exact h9
                          replace hq := lf_b1 hq h83
                          refine lv_if_ne (tgt := 88) hx hb dX10_isImage_83 rfl (fun c84 => ?_) (fun c84 => ?_)
                          · replace hq := lf_neg hq (lf_ne (lf_rf r78) (lf_lc 0 (0 : Int) rfl) c84)
                            have h85 : ib r78 1 1 := ib_w 1 1 (ib_ne_lo 0 h80 rfl c84) rfl
                            have h86 : ib z76 1 60 := ib_w 1 60 (ib_two h77 (h82 (ib_nz h85 rfl))) rfl
                            refine lv_iconst (v := 0) hx hb dX10_isImage_88 rfl ?_
                            refine lv_istore_n (lv' := [(2, .int 0), (0, .ref a_this), (1, .int p0)]) hx hb dX10_isImage_89 rfl hl (Nat.le_of_ble_eq_true rfl) rfl (fun ls hl => ?_)
                            exact jn90 8 0 H locs ls (ib_w 5 11 h37 rfl) (ib_w 1 1 h26 rfl) (ib_w 10 120 h27 rfl) (ib_w 0 6 (ib_c 0 0 0 rfl) rfl) (by try simp only [show (0 : Int32).toInt = (0 : Int) from rfl]; exact hq) (by have := (ib_c 0 0 0 rfl); unfold ib at this; omega) (hP.sub [2, 0, 1, 3] rfl) (hD.sub [2, 0, 1, 3] rfl rfl) hS (lv_sub hl [1, 2, 0] rfl)
                          · replace hq := lf_pos hq (lf_eq (lf_rf r78) (lf_lc 0 (0 : Int) rfl) c84)
                            have h87 := ib_eq h80 (ib_c 0 0 0 rfl) c84
                            have h88 : ib r78 0 0 := ib_w 0 0 h87.1 rfl
                            exact jn86  H locs ls (by exact hq) (hP.sub [2, 0, 1, 3] rfl) (hD.sub [2, 0, 1, 3] rfl rfl) hS (lv_sub hl [0, 1] rfl)
