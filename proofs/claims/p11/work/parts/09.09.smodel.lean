set_option maxHeartbeats 4000000 in
set_option maxRecDepth 100000 in
theorem s_X10_isWalker (l : Launch) (dC : Nat → ClassId) (dI : Nat → Nat → Nat) (cy : Nat → ClassId) (sq : Nat → Nat) (a_this : Nat) (rm : Nat → Nat) (x_taped : Int32) (x_at : Int32) (x_end : Int32) (x_ended : Int32) (x_bad : Int32) (x_badPlace : Int32) (x_fault : Int32) (x_faultPlace : Int32) (x_namePlace : Int32) (x_awayTold : Int32) (x_away : Int32) (x_coded : Int32) (x_statements : Int32) (x_isCrossing : Int32) (x_textKind : Int32) (x_askSecond : Int32) (x_redMany : Int32) (x_isOpen : Int32) (x_lastGreen : Int32) (x_greenTo : Int32) (x_isCycleGreen : Int32) (x_stillGreen : Int32) (x_rowMany : Int32) (x_fitMany : Int32) (x_fitRules : Int32) (x_fitGreen : Int32) (x_undoable : Int32) (x_newest : Int32) (x_seeded : Int64) (x_qCoded : Int32) (x_qWaits : Int32) (x_qOpened : Int32) (x_qBase : Int32) (x_qPiled : Int32) (x_qAnswer : Int64) (x_qIsNew : Int32) (x_octets : Int32) (g_many : Nat → Int32) (p0 : Int32) (hg_many_3 : ib (g_many 3) 0 12) : k_Met l yX10_isWalker cX10_isWalker 2 (some .boolean) { frames := 1, cells := 0, slots := 0, locals := 25 } dC dI cy sq [.ref a_this, .int p0] [(a_this, .inr (10, mfs rm x_taped x_at x_end x_ended x_bad x_badPlace x_fault x_faultPlace x_namePlace x_awayTold x_away x_coded x_statements x_isCrossing x_textKind x_askSecond x_redMany x_isOpen x_lastGreen x_greenTo x_isCycleGreen x_stillGreen x_rowMany x_fitMany x_fitRules x_fitGreen x_undoable x_newest x_seeded x_qCoded x_qWaits x_qOpened x_qBase x_qPiled x_qAnswer x_qIsNew x_octets)), (wi_rm41_0_4_0 rm cy g_many)] (k_Qi dC dI (fun (r : Int32) (_ : Unit) => ib r 0 1 ∧ (¬ r = 0 → ib (g_many 3) 1 12) ∧ (¬ r = 0 → ib p0 0 11) ∧ (F_X10_isWalker (lf_A g_many) (Int32.toInt p0) = ((Int32.toInt r)))) (fun _ : Unit => [(a_this, .inr (10, mfs rm x_taped x_at x_end x_ended x_bad x_badPlace x_fault x_faultPlace x_namePlace x_awayTold x_away x_coded x_statements x_isCrossing x_textKind x_askSecond x_redMany x_isOpen x_lastGreen x_greenTo x_isCycleGreen x_stillGreen x_rowMany x_fitMany x_fitRules x_fitGreen x_undoable x_newest x_seeded x_qCoded x_qWaits x_qOpened x_qBase x_qPiled x_qAnswer x_qIsNew x_octets)), (wi_rm41_0_4_0 rm cy g_many)])) := by
  refine k_ofW2 (by decide +kernel) (Nat.le_of_ble_eq_true rfl) ?_
  intro p e s m below meth c A ls H locs args Q hQ C0 hZ hr hlk hin hP hD hA hS hl
  have C0 : k_cx p s m args c cX10_isWalker 2 RX10 dC dI cy sq := C0
  have hx := C0.1
  have hb := C0.2.1
  have hl : lv_has ls 2 [(0, .ref a_this), (1, .int p0)] := hl
  obtain ⟨O, hO⟩ : ∃ o, o = F_X10_isWalker (lf_A g_many) (Int32.toInt p0) := ⟨_, rfl⟩
  have hq := hO
  unfold F_X10_isWalker at hq
  refine lv_iload_n hx hb dX10_isWalker_0 rfl (lv_at hl 1 rfl) ?_
  refine lv_i2l (v := p0.toInt64) hx hb dX10_isWalker_1 rfl ?_
  refine lv_lconst (v := 0) hx hb dX10_isWalker_2 (by decide) ?_
  refine lv_aload_n hx hb dX10_isWalker_3 rfl (lv_at hl 0 rfl) ?_
  refine k_jim hP hD hS hA [0, 1] [] rfl rfl rfl 0 0 (Nat.le_of_ble_eq_true rfl) (Nat.le_of_ble_eq_true rfl) (fun hPc hDc => k_runV (As := []) (rest := [.long 0, .long p0.toInt64]) C0 hZ hS hA (s_X10_walkerMany l dC dI cy sq a_this rm x_taped x_at x_end x_ended x_bad x_badPlace x_fault x_faultPlace x_namePlace x_awayTold x_away x_coded x_statements x_isCrossing x_textKind x_askSecond x_redMany x_isOpen x_lastGreen x_greenTo x_isCycleGreen x_stillGreen x_rowMany x_fitMany x_fitRules x_fitGreen x_undoable x_newest x_seeded x_qCoded x_qWaits x_qOpened x_qBase x_qPiled x_qAnswer x_qIsNew x_octets g_many ) mV_X10_433 hPc hDc rfl rfl rfl hl rfl rfl (Nat.le_of_ble_eq_true rfl) ⟨(Nat.le_of_ble_eq_true rfl), (Nat.le_of_ble_eq_true rfl)⟩ ⟨(Nat.le_of_ble_eq_true rfl), (Nat.le_of_ble_eq_true rfl)⟩ dX10_isWalker_4) (fun r1 u2 H locs hw hP hD hS => ?_)
  try dsimp only at hP hD hw
  replace hP : va_P (dC, dI) vwCl [(a_this, .inr (10, mfs rm x_taped x_at x_end x_ended x_bad x_badPlace x_fault x_faultPlace x_namePlace x_awayTold x_away x_coded x_statements x_isCrossing x_textKind x_askSecond x_redMany x_isOpen x_lastGreen x_greenTo x_isCycleGreen x_stillGreen x_rowMany x_fitMany x_fitRules x_fitGreen x_undoable x_newest x_seeded x_qCoded x_qWaits x_qOpened x_qBase x_qPiled x_qAnswer x_qIsNew x_octets)), (wi_rm41_0_4_0 rm cy g_many)] H := hP
  replace hD := k_D hP hD
  obtain ⟨h3, h4⟩ := hw
  subst h3
  replace hq := lf_b1 hq h4
  refine lv_iconst (v := 1) hx hb dX10_isWalker_7 rfl ?_
  refine lv_isub hx hb dX10_isWalker_8 ?_
  refine lv_topi (fun z5 ez5 => ?_)
  have h6 := ib_sub hg_many_3 (ib_c 1 1 1 rfl) rfl
  rw [← ez5] at h6
  have h7 : ib z5 (-1) 11 := ib_w (-1) 11 h6.1 rfl
  have Ez5 := lf_sub h6.2 (lf_pt (lf_ra g_many) 3) (lf_lc 1 (1 : Int) rfl)
  refine lv_i2l (v := z5.toInt64) hx hb dX10_isWalker_9 rfl ?_
  refine k_jim hP hD hS hA [] [true, true] rfl rfl rfl 0 0 (Nat.le_of_ble_eq_true rfl) (Nat.le_of_ble_eq_true rfl) (fun hPc hDc => k_runS (As := [.long p0.toInt64, .long 0, .long z5.toInt64]) (rest := []) C0 hZ hS hA (c_isIn l dC dI cy sq p0.toInt64 0 z5.toInt64) mS_X10_318 hPc hDc hl rfl rfl (Nat.le_of_ble_eq_true rfl) ⟨(Nat.le_of_ble_eq_true rfl), (Nat.le_of_ble_eq_true rfl)⟩ ⟨(Nat.le_of_ble_eq_true rfl), (Nat.le_of_ble_eq_true rfl)⟩ dX10_isWalker_10) (fun r8 u9 H locs hw hP hD hS => ?_)
  replace hP : va_P (dC, dI) vwCl [(a_this, .inr (10, mfs rm x_taped x_at x_end x_ended x_bad x_badPlace x_fault x_faultPlace x_namePlace x_awayTold x_away x_coded x_statements x_isCrossing x_textKind x_askSecond x_redMany x_isOpen x_lastGreen x_greenTo x_isCycleGreen x_stillGreen x_rowMany x_fitMany x_fitRules x_fitGreen x_undoable x_newest x_seeded x_qCoded x_qWaits x_qOpened x_qBase x_qPiled x_qAnswer x_qIsNew x_octets)), (wi_rm41_0_4_0 rm cy g_many)] H := hP
  replace hD := k_D hP hD
  have h10 := hw
  have h11 : ib r8 0 1 := by rw [h10]; exact k_isf_01 _ _ _
  have Er8 := lf_isine h10 (lf_i2l (lf_rf p0)) (lf_ll 0 (0 : Int) rfl) (lf_i2l Ez5)
  subst hQ; exact k_iret hx hb hr hlk (ib_bool (ib_w 0 1 h11 rfl)) () hS ⟨ib_w 0 1 h11 rfl, fun hq9 => ib_w 1 12 (ib_two hg_many_3 ((fun q9 => (show ib (g_many 3) 1 12 from ⟨by have q1 := k_isf_u h10 (show 0 ≤ (0 : Int64).toInt by decide) h7 q9; have q3 := q1.1; have q4 := q1.2; have q2 := h6.2; have : (1 : Int32).toInt = 1 := rfl; have := (hg_many_3).1; have := (hg_many_3).2; omega, by have q1 := k_isf_u h10 (show 0 ≤ (0 : Int64).toInt by decide) h7 q9; have q3 := q1.1; have q4 := q1.2; have q2 := h6.2; have : (1 : Int32).toInt = 1 := rfl; have := (hg_many_3).1; have := (hg_many_3).2; omega⟩)) hq9)) rfl, fun hq9 => ib_w 0 11 (ib_two (ib_any p0) (k_isf_v h10 (show 0 ≤ (0 : Int64).toInt by decide) (by rw [Int32.toInt_toInt64]; exact (h7).2) hq9)) rfl, (hO.symm.trans (by rw [lf_u Er8]; exact hq))⟩ hP hD (Nat.le_of_ble_eq_true rfl) (Nat.le_of_ble_eq_true rfl) dX10_isWalker_13
set_option maxHeartbeats 4000000 in
set_option maxRecDepth 100000 in
theorem s_X10_kind (l : Launch) (dC : Nat → ClassId) (dI : Nat → Nat → Nat) (cy : Nat → ClassId) (sq : Nat → Nat) (a_this : Nat) (rm : Nat → Nat) (x_taped : Int32) (x_at : Int32) (x_end : Int32) (x_ended : Int32) (x_bad : Int32) (x_badPlace : Int32) (x_fault : Int32) (x_faultPlace : Int32) (x_namePlace : Int32) (x_awayTold : Int32) (x_away : Int32) (x_coded : Int32) (x_statements : Int32) (x_isCrossing : Int32) (x_textKind : Int32) (x_askSecond : Int32) (x_redMany : Int32) (x_isOpen : Int32) (x_lastGreen : Int32) (x_greenTo : Int32) (x_isCycleGreen : Int32) (x_stillGreen : Int32) (x_rowMany : Int32) (x_fitMany : Int32) (x_fitRules : Int32) (x_fitGreen : Int32) (x_undoable : Int32) (x_newest : Int32) (x_seeded : Int64) (x_qCoded : Int32) (x_qWaits : Int32) (x_qOpened : Int32) (x_qBase : Int32) (x_qPiled : Int32) (x_qAnswer : Int64) (x_qIsNew : Int32) (x_octets : Int32) (g_many : Nat → Int32) (g_kinds : Nat → Int32) (g_walkers : Nat → Int32) (g_now : Nat → Int32) (p0 : Int32) (p1 : Int32) (hg_many_2 : ib (g_many 2) 0 6) (hg_many_3 : ib (g_many 3) 0 12) (hpg_walkers : ip g_walkers 48 2 0 0 5) : k_Met l yX10_kind cX10_kind 5 (some .int) { frames := 2, cells := 0, slots := 0, locals := 46 } dC dI cy sq [.ref a_this, .int p0, .int p1] [(a_this, .inr (10, mfs rm x_taped x_at x_end x_ended x_bad x_badPlace x_fault x_faultPlace x_namePlace x_awayTold x_away x_coded x_statements x_isCrossing x_textKind x_askSecond x_redMany x_isOpen x_lastGreen x_greenTo x_isCycleGreen x_stillGreen x_rowMany x_fitMany x_fitRules x_fitGreen x_undoable x_newest x_seeded x_qCoded x_qWaits x_qOpened x_qBase x_qPiled x_qAnswer x_qIsNew x_octets)), (wi_rm41_0_4_0 rm cy g_many), (wi_rm56_0_9_0 rm cy g_now), (wi_rm44_0_24_0 rm cy g_kinds), (wi_rm46_0_48_0 rm cy g_walkers)] (k_Qi dC dI (fun (r : Int32) (_ : Unit) => (F_X10_kind (lf_A g_many) (lf_A g_kinds) (lf_A g_walkers) (lf_A g_now) (Int32.toInt p0) (Int32.toInt p1) = ((Int32.toInt r)))) (fun _ : Unit => [(a_this, .inr (10, mfs rm x_taped x_at x_end x_ended x_bad x_badPlace x_fault x_faultPlace x_namePlace x_awayTold x_away x_coded x_statements x_isCrossing x_textKind x_askSecond x_redMany x_isOpen x_lastGreen x_greenTo x_isCycleGreen x_stillGreen x_rowMany x_fitMany x_fitRules x_fitGreen x_undoable x_newest x_seeded x_qCoded x_qWaits x_qOpened x_qBase x_qPiled x_qAnswer x_qIsNew x_octets)), (wi_rm41_0_4_0 rm cy g_many), (wi_rm56_0_9_0 rm cy g_now), (wi_rm44_0_24_0 rm cy g_kinds), (wi_rm46_0_48_0 rm cy g_walkers)])) := by
  refine k_ofW2 (by decide +kernel) (Nat.le_of_ble_eq_true rfl) ?_
  intro p e s m below meth c A ls H locs args Q hQ C0 hZ hr hlk hin hP hD hA hS hl
  have C0 : k_cx p s m args c cX10_kind 5 RX10 dC dI cy sq := C0
  have hx := C0.1
  have hb := C0.2.1
  have hl : lv_has ls 5 [(0, .ref a_this), (1, .int p0), (2, .int p1)] := hl
  obtain ⟨O, hO⟩ : ∃ o, o = F_X10_kind (lf_A g_many) (lf_A g_kinds) (lf_A g_walkers) (lf_A g_now) (Int32.toInt p0) (Int32.toInt p1) := ⟨_, rfl⟩
  have hq := hO
  unfold F_X10_kind at hq
  have jn15 : ∀ (n : Nat) (J15_l3 : Int32) (J15_l4 : Int32) (H : Heap) (locs : List Loc) (ls : Array Slot), ib p0 0 5 → ib (g_many 2) 1 6 → ib J15_l4 0 12 → (O = F_X10_kind_15 (lf_A g_many) (lf_A g_kinds) (lf_A g_walkers) (lf_A g_now) (Int32.toInt p0) (Int32.toInt p1) n (Int32.toInt J15_l3) (Int32.toInt J15_l4)) → 13 ≤ J15_l4.toInt + (n : Int) → va_P (dC, dI) vwCl [(a_this, .inr (10, mfs rm x_taped x_at x_end x_ended x_bad x_badPlace x_fault x_faultPlace x_namePlace x_awayTold x_away x_coded x_statements x_isCrossing x_textKind x_askSecond x_redMany x_isOpen x_lastGreen x_greenTo x_isCycleGreen x_stillGreen x_rowMany x_fitMany x_fitRules x_fitGreen x_undoable x_newest x_seeded x_qCoded x_qWaits x_qOpened x_qBase x_qPiled x_qAnswer x_qIsNew x_octets)), (wi_rm41_0_4_0 rm cy g_many), (wi_rm56_0_9_0 rm cy g_now), (wi_rm44_0_24_0 rm cy g_kinds), (wi_rm46_0_48_0 rm cy g_walkers)] H → va_D A [(a_this, .inr (10, mfs rm x_taped x_at x_end x_ended x_bad x_badPlace x_fault x_faultPlace x_namePlace x_awayTold x_away x_coded x_statements x_isCrossing x_textKind x_askSecond x_redMany x_isOpen x_lastGreen x_greenTo x_isCycleGreen x_stillGreen x_rowMany x_fitMany x_fitRules x_fitGreen x_undoable x_newest x_seeded x_qCoded x_qWaits x_qOpened x_qBase x_qPiled x_qAnswer x_qIsNew x_octets)), (wi_rm41_0_4_0 rm cy g_many), (wi_rm56_0_9_0 rm cy g_now), (wi_rm44_0_24_0 rm cy g_kinds), (wi_rm46_0_48_0 rm cy g_walkers)] → va_S A s.heap H locs → lv_has ls 5 [(0, .ref a_this), (1, .int p0), (2, .int p1), (3, .int J15_l3), (4, .int J15_l4)] → W p l e { frames := 2, cells := 0, slots := 0, locals := 46 } s m args below meth c H locs 0 0 Q (F0 m 15 ls []) := by
    as_aux_lemma =>
      intro n
      induction n with
      | zero =>
        intro J15_l3 J15_l4 H locs ls hK15_p0 hJ15_a1_2 hJ15_l4 hq hm
        exact absurd hm (by have := hJ15_l4; unfold ib at this; omega)
      | succ n ih =>
        intro J15_l3 J15_l4 H locs ls hK15_p0 hJ15_a1_2 hJ15_l4 hq hm15 hP hD hS hl
        have ih15 := ih
        obtain ⟨K15, hK15⟩ : ∃ K, K = F_X10_kind_15 (lf_A g_many) (lf_A g_kinds) (lf_A g_walkers) (lf_A g_now) (Int32.toInt p0) (Int32.toInt p1) n := ⟨_, rfl⟩
        have hq : O = F_X10_kind_15b (lf_A g_many) (lf_A g_kinds) (lf_A g_walkers) (lf_A g_now) (Int32.toInt p0) (Int32.toInt p1) K15 (Int32.toInt J15_l3) (Int32.toInt J15_l4) := by rw [hK15]; exact hq
        unfold F_X10_kind_15b at hq
        have jn41 : ∀ (J41_l3 : Int32) (H : Heap) (locs : List Loc) (ls : Array Slot), ib p0 0 5 → ib J15_l4 0 11 → ib (g_many 2) 1 6 → ib (g_many 3) 1 12 → (O = F_X10_kind_41 (Int32.toInt J15_l4) K15 (Int32.toInt J41_l3)) → va_P (dC, dI) vwCl [(a_this, .inr (10, mfs rm x_taped x_at x_end x_ended x_bad x_badPlace x_fault x_faultPlace x_namePlace x_awayTold x_away x_coded x_statements x_isCrossing x_textKind x_askSecond x_redMany x_isOpen x_lastGreen x_greenTo x_isCycleGreen x_stillGreen x_rowMany x_fitMany x_fitRules x_fitGreen x_undoable x_newest x_seeded x_qCoded x_qWaits x_qOpened x_qBase x_qPiled x_qAnswer x_qIsNew x_octets)), (wi_rm41_0_4_0 rm cy g_many), (wi_rm56_0_9_0 rm cy g_now), (wi_rm44_0_24_0 rm cy g_kinds), (wi_rm46_0_48_0 rm cy g_walkers)] H → va_D A [(a_this, .inr (10, mfs rm x_taped x_at x_end x_ended x_bad x_badPlace x_fault x_faultPlace x_namePlace x_awayTold x_away x_coded x_statements x_isCrossing x_textKind x_askSecond x_redMany x_isOpen x_lastGreen x_greenTo x_isCycleGreen x_stillGreen x_rowMany x_fitMany x_fitRules x_fitGreen x_undoable x_newest x_seeded x_qCoded x_qWaits x_qOpened x_qBase x_qPiled x_qAnswer x_qIsNew x_octets)), (wi_rm41_0_4_0 rm cy g_many), (wi_rm56_0_9_0 rm cy g_now), (wi_rm44_0_24_0 rm cy g_kinds), (wi_rm46_0_48_0 rm cy g_walkers)] → va_S A s.heap H locs → lv_has ls 5 [(0, .ref a_this), (1, .int p0), (2, .int p1), (3, .int J41_l3), (4, .int J15_l4)] → W p l e { frames := 2, cells := 0, slots := 0, locals := 46 } s m args below meth c H locs 0 0 Q (F0 m 41 ls []) := by
          intro J41_l3 H locs ls hK41_p0 hK41_J15_l4 hJ41_a1_2 hJ41_a1_3 hq hP hD hS hl
          unfold F_X10_kind_41 at hq
          obtain ⟨z1, ez1⟩ : ∃ y : Int32, y = J15_l4 + 1 := ⟨_, rfl⟩
          refine lv_iinc (v := z1) (lv' := [(4, .int z1), (0, .ref a_this), (1, .int p0), (2, .int p1), (3, .int J41_l3)]) hx hb dX10_kind_41 hl (k := 4) rfl (by rw [ez1]; rfl) (Nat.le_of_ble_eq_true rfl) rfl (fun ls hl => ?_)
          have h2 := ib_add hK41_J15_l4 (ib_c 1 1 1 rfl) rfl
          rw [← ez1] at h2
          have h3 : ib z1 1 12 := ib_w 1 12 h2.1 rfl
          have Ez1 := lf_add h2.2 (lf_rf J15_l4) (lf_lc 1 (1 : Int) rfl)
          refine lv_goto (tgt := 15) hx hb dX10_kind_44 rfl ?_
          exact ih15 J41_l3 z1 H locs ls (ib_w 0 5 hK41_p0 rfl) (ib_w 1 6 hJ41_a1_2 rfl) (ib_w 0 12 h3 rfl) (by rw [← hK15]; rw [lf_u Ez1]; exact hq) (by have := h2.2; have : (1 : Int32).toInt = 1 := rfl; omega) hP hD hS (lv_sub hl [1, 2, 3, 4, 0] rfl)
        refine lv_iload hx hb dX10_kind_15 (lv_at hl 4 rfl) ?_
        refine lv_aload_n hx hb dX10_kind_17 rfl (lv_at hl 0 rfl) ?_
        refine k_jim hP hD hS hA [0, 1] [false, false, true, true, true] rfl rfl rfl 0 0 (Nat.le_of_ble_eq_true rfl) (Nat.le_of_ble_eq_true rfl) (fun hPc hDc => k_runV (As := []) (rest := [.int J15_l4]) C0 hZ hS hA (s_X10_walkerMany l dC dI cy sq a_this rm x_taped x_at x_end x_ended x_bad x_badPlace x_fault x_faultPlace x_namePlace x_awayTold x_away x_coded x_statements x_isCrossing x_textKind x_askSecond x_redMany x_isOpen x_lastGreen x_greenTo x_isCycleGreen x_stillGreen x_rowMany x_fitMany x_fitRules x_fitGreen x_undoable x_newest x_seeded x_qCoded x_qWaits x_qOpened x_qBase x_qPiled x_qAnswer x_qIsNew x_octets g_many ) mV_X10_433 hPc hDc rfl rfl rfl hl rfl rfl (Nat.le_of_ble_eq_true rfl) ⟨(Nat.le_of_ble_eq_true rfl), (Nat.le_of_ble_eq_true rfl)⟩ ⟨(Nat.le_of_ble_eq_true rfl), (Nat.le_of_ble_eq_true rfl)⟩ dX10_kind_18) (fun r4 u5 H locs hw hP hD hS => ?_)
        try dsimp only at hP hD hw
        replace hP : va_P (dC, dI) vwCl [(wi_rm56_0_9_0 rm cy g_now), (wi_rm44_0_24_0 rm cy g_kinds), (wi_rm46_0_48_0 rm cy g_walkers), (a_this, .inr (10, mfs rm x_taped x_at x_end x_ended x_bad x_badPlace x_fault x_faultPlace x_namePlace x_awayTold x_away x_coded x_statements x_isCrossing x_textKind x_askSecond x_redMany x_isOpen x_lastGreen x_greenTo x_isCycleGreen x_stillGreen x_rowMany x_fitMany x_fitRules x_fitGreen x_undoable x_newest x_seeded x_qCoded x_qWaits x_qOpened x_qBase x_qPiled x_qAnswer x_qIsNew x_octets)), (wi_rm41_0_4_0 rm cy g_many)] H := hP
        replace hD := k_D hP hD
        obtain ⟨h6, h7⟩ := hw
        subst h6
        replace hq := lf_b1 hq h7
        refine lv_icmp_ge (tgt := 47) hx hb dX10_kind_21 rfl (fun c8 => ?_) (fun c8 => ?_)
        · as_aux_lemma =>
            replace hq := lf_pos hq (lf_le (lf_pt (lf_ra g_many) 3) (lf_rf J15_l4) c8)
            have h9 := ib_le hg_many_3 hJ15_l4 c8
            refine lv_iload_n hx hb dX10_kind_47 rfl (lv_at hl 2 rfl) ?_
            refine lv_i2l (v := p1.toInt64) hx hb dX10_kind_48 rfl ?_
            refine lv_lconst (v := 0) hx hb dX10_kind_49 (by decide) ?_
            refine lv_lconst (v := 1) hx hb dX10_kind_50 (by decide) ?_
            refine k_jim hP hD hS hA [] [true, true, true, true, true] rfl rfl rfl 0 0 (Nat.le_of_ble_eq_true rfl) (Nat.le_of_ble_eq_true rfl) (fun hPc hDc => k_runS (As := [.long p1.toInt64, .long 0, .long 1]) (rest := []) C0 hZ hS hA (c_isIn l dC dI cy sq p1.toInt64 0 1) mS_X10_318 hPc hDc hl rfl rfl (Nat.le_of_ble_eq_true rfl) ⟨(Nat.le_of_ble_eq_true rfl), (Nat.le_of_ble_eq_true rfl)⟩ ⟨(Nat.le_of_ble_eq_true rfl), (Nat.le_of_ble_eq_true rfl)⟩ dX10_kind_51) (fun r10 u11 H locs hw hP hD hS => ?_)
            replace hP : va_P (dC, dI) vwCl [(wi_rm56_0_9_0 rm cy g_now), (wi_rm44_0_24_0 rm cy g_kinds), (wi_rm46_0_48_0 rm cy g_walkers), (a_this, .inr (10, mfs rm x_taped x_at x_end x_ended x_bad x_badPlace x_fault x_faultPlace x_namePlace x_awayTold x_away x_coded x_statements x_isCrossing x_textKind x_askSecond x_redMany x_isOpen x_lastGreen x_greenTo x_isCycleGreen x_stillGreen x_rowMany x_fitMany x_fitRules x_fitGreen x_undoable x_newest x_seeded x_qCoded x_qWaits x_qOpened x_qBase x_qPiled x_qAnswer x_qIsNew x_octets)), (wi_rm41_0_4_0 rm cy g_many)] H := hP
            replace hD := k_D hP hD
            have h12 := hw
            have h13 : ib r10 0 1 := by rw [h12]; exact k_isf_01 _ _ _
            have Er10 := lf_isine h12 (lf_i2l (lf_rf p1)) (lf_ll 0 (0 : Int) rfl) (lf_ll 1 (1 : Int) rfl)
            refine lv_if_eq (tgt := 73) hx hb dX10_kind_54 rfl (fun c14 => ?_) (fun c14 => ?_)
            · as_aux_lemma =>
                replace hq := lf_pos hq (lf_eq Er10 (lf_lc 0 (0 : Int) rfl) c14)
                have h15 := ib_eq h13 (ib_c 0 0 0 rfl) c14
                have h16 : ib r10 0 0 := ib_w 0 0 h15.1 rfl
                refine lv_iload_n hx hb dX10_kind_73 rfl (lv_at hl 2 rfl) ?_
                refine lv_iconst (v := 2) hx hb dX10_kind_74 rfl ?_
                refine lv_icmp_ne (tgt := 86) hx hb dX10_kind_75 rfl (fun c17 => ?_) (fun c17 => ?_)
                · replace hq := lf_neg hq (lf_ne (lf_rf p1) (lf_lc 2 (2 : Int) rfl) c17)
                  refine lv_iload_n hx hb dX10_kind_86 rfl (lv_at hl 2 rfl) ?_
                  refine lv_iconst (v := 3) hx hb dX10_kind_87 rfl ?_
                  refine lv_icmp_ne (tgt := 95) hx hb dX10_kind_88 rfl (fun c18 => ?_) (fun c18 => ?_)
                  · replace hq := lf_neg hq (lf_ne (lf_rf p1) (lf_lc 3 (3 : Int) rfl) c18)
                    refine lv_iconst (v := (-1)) hx hb dX10_kind_95 rfl ?_
                    subst hQ; exact k_iret hx hb hr hlk rfl () hS ((hO.symm.trans (by try simp only [show ((-1) : Int32).toInt = (-1 : Int) from rfl]; exact hq))) (hP.sub [3, 4, 0, 1, 2] rfl) (hD.sub [3, 4, 0, 1, 2] rfl rfl) (Nat.le_of_ble_eq_true rfl) (Nat.le_of_ble_eq_true rfl) dX10_kind_96
                  · replace hq := lf_pos hq (lf_eq (lf_rf p1) (lf_lc 3 (3 : Int) rfl) c18)
                    have h19 := ib_eq (ib_any p1) (ib_c 3 3 3 rfl) c18
                    have h20 : ib p1 3 3 := ib_w 3 3 h19.1 rfl
                    refine lv_iload_n hx hb dX10_kind_91 rfl (lv_at hl 3 rfl) ?_
                    refine lv_goto (tgt := 96) hx hb dX10_kind_92 rfl ?_
                    subst hQ; exact k_iret hx hb hr hlk rfl () hS ((hO.symm.trans (by exact hq))) (hP.sub [3, 4, 0, 1, 2] rfl) (hD.sub [3, 4, 0, 1, 2] rfl rfl) (Nat.le_of_ble_eq_true rfl) (Nat.le_of_ble_eq_true rfl) dX10_kind_96
                · replace hq := lf_pos hq (lf_eq (lf_rf p1) (lf_lc 2 (2 : Int) rfl) c17)
                  have h21 := ib_eq (ib_any p1) (ib_c 2 2 2 rfl) c17
                  have h22 : ib p1 2 2 := ib_w 2 2 h21.1 rfl
                  refine lv_aload_n hx hb dX10_kind_78 rfl (lv_at hl 0 rfl) ?_
                  refine lv_iload_n hx hb dX10_kind_79 rfl (lv_at hl 1 rfl) ?_
                  refine k_jim hP hD hS hA [3, 0] [false, true, true, false, true] rfl rfl rfl 0 0 (Nat.le_of_ble_eq_true rfl) (Nat.le_of_ble_eq_true rfl) (fun hPc hDc => k_runV (As := [.int p0]) (rest := []) C0 hZ hS hA (s_X10_trustsOf l dC dI cy sq a_this rm x_taped x_at x_end x_ended x_bad x_badPlace x_fault x_faultPlace x_namePlace x_awayTold x_away x_coded x_statements x_isCrossing x_textKind x_askSecond x_redMany x_isOpen x_lastGreen x_greenTo x_isCycleGreen x_stillGreen x_rowMany x_fitMany x_fitRules x_fitGreen x_undoable x_newest x_seeded x_qCoded x_qWaits x_qOpened x_qBase x_qPiled x_qAnswer x_qIsNew x_octets g_now p0 (ib_w 0 5 hK15_p0 rfl)) mV_X10_463 hPc hDc rfl rfl rfl hl rfl rfl (Nat.le_of_ble_eq_true rfl) ⟨(Nat.le_of_ble_eq_true rfl), (Nat.le_of_ble_eq_true rfl)⟩ ⟨(Nat.le_of_ble_eq_true rfl), (Nat.le_of_ble_eq_true rfl)⟩ dX10_kind_80) (fun r23 u24 H locs hw hP hD hS => ?_)
                  try dsimp only at hP hD hw
                  replace hP : va_P (dC, dI) vwCl [(wi_rm44_0_24_0 rm cy g_kinds), (wi_rm46_0_48_0 rm cy g_walkers), (wi_rm41_0_4_0 rm cy g_many), (a_this, .inr (10, mfs rm x_taped x_at x_end x_ended x_bad x_badPlace x_fault x_faultPlace x_namePlace x_awayTold x_away x_coded x_statements x_isCrossing x_textKind x_askSecond x_redMany x_isOpen x_lastGreen x_greenTo x_isCycleGreen x_stillGreen x_rowMany x_fitMany x_fitRules x_fitGreen x_undoable x_newest x_seeded x_qCoded x_qWaits x_qOpened x_qBase x_qPiled x_qAnswer x_qIsNew x_octets)), (wi_rm56_0_9_0 rm cy g_now)] H := hP
                  replace hD := k_D hP hD
                  have h25 := hw
                  replace hq := lf_b1 hq h25
                  refine lv_goto (tgt := 96) hx hb dX10_kind_83 rfl ?_
                  subst hQ; exact k_iret hx hb hr hlk rfl () hS ((hO.symm.trans (by exact hq))) (hP.sub [3, 2, 4, 0, 1] rfl) (hD.sub [3, 2, 4, 0, 1] rfl rfl) (Nat.le_of_ble_eq_true rfl) (Nat.le_of_ble_eq_true rfl) dX10_kind_96
            · as_aux_lemma =>
                replace hq := lf_neg hq (lf_ne Er10 (lf_lc 0 (0 : Int) rfl) c14)
                have h26 : ib r10 1 1 := ib_w 1 1 (ib_ne_lo 0 h13 rfl c14) rfl
                have h27 : ib p1 0 1 := ib_w 0 1 (ib_two (ib_any p1) (k_isf_v h12 (show 0 ≤ (0 : Int64).toInt by decide) (show (1 : Int64).toInt ≤ 1 by decide) (ib_nz h26 rfl))) rfl
                refine lv_aload_n hx hb dX10_kind_57 rfl (lv_at hl 0 rfl) ?_
                refine k_get C0 fg_X10_121 hP 3 rfl rfl dX10_kind_58 ?_
                refine lv_bipush (v := 12) hx hb dX10_kind_61 rfl ?_
                refine lv_iconst (v := 2) hx hb dX10_kind_63 rfl ?_
                refine lv_iload_n hx hb dX10_kind_64 rfl (lv_at hl 1 rfl) ?_
                refine lv_imul hx hb dX10_kind_65 ?_
                refine lv_topi (fun z28 ez28 => ?_)
                have h29 := ib_mul (ib_c 2 2 2 rfl) hK15_p0 rfl
                rw [← ez28] at h29
                have h30 : ib z28 0 10 := ib_w 0 10 h29.1 rfl
                have h31 : z28.toInt = 2 * p0.toInt := by have q0 := h29.2; rw [show (2 : Int32).toInt = 2 from by decide] at q0; omega
                have Ez28 := lf_mul h29.2 (lf_lc 2 (2 : Int) rfl) (lf_rf p0)
                refine lv_iadd hx hb dX10_kind_66 ?_
                refine lv_topi (fun z32 ez32 => ?_)
                have h33 := ib_add (ib_c 12 12 12 rfl) h30 rfl
                rw [← ez32] at h33
                have h34 : ib z32 12 22 := ib_w 12 22 h33.1 rfl
                have Ez32 := lf_add h33.2 (lf_lc 12 (12 : Int) rfl) Ez28
                refine lv_iload_n hx hb dX10_kind_67 rfl (lv_at hl 2 rfl) ?_
                refine lv_iadd hx hb dX10_kind_68 ?_
                refine lv_topi (fun z35 ez35 => ?_)
                have h36 := ib_add h34 h27 rfl
                rw [← ez35] at h36
                have h37 : ib z35 12 23 := ib_w 12 23 h36.1 rfl
                have Ez35 := lf_add h36.2 Ez32 (lf_rf p1)
                refine va_iald hx hb C0.2.2.2.2.2.1 hP 1 0 rfl rfl (ib_in 24 h37 rfl) dX10_kind_69 ?_
                refine lv_topi (fun z38 ez38 => ?_)
                have Ez38 := lf_ld ez38 (lf_ra g_kinds) Ez35
                refine lv_goto (tgt := 96) hx hb dX10_kind_70 rfl ?_
                subst hQ; exact k_iret hx hb hr hlk rfl () hS ((hO.symm.trans (by rw [lf_u Ez38]; exact hq))) (hP.sub [3, 4, 0, 1, 2] rfl) (hD.sub [3, 4, 0, 1, 2] rfl rfl) (Nat.le_of_ble_eq_true rfl) (Nat.le_of_ble_eq_true rfl) dX10_kind_96
        · as_aux_lemma =>
            replace hq := lf_neg hq (lf_nle (lf_pt (lf_ra g_many) 3) (lf_rf J15_l4) c8)
            have h39 := ib_nle hg_many_3 hJ15_l4 c8
            have h40 : ib (g_many 3) 1 12 := ib_w 1 12 h39.1 rfl
            have h41 : ib J15_l4 0 11 := ib_w 0 11 h39.2 rfl
            refine lv_aload_n hx hb dX10_kind_24 rfl (lv_at hl 0 rfl) ?_
            refine lv_iload hx hb dX10_kind_25 (lv_at hl 4 rfl) ?_
            refine k_jim hP hD hS hA [3, 2] [true, true, false, false, true] rfl rfl rfl 0 0 (Nat.le_of_ble_eq_true rfl) (Nat.le_of_ble_eq_true rfl) (fun hPc hDc => k_runV (As := [.int J15_l4]) (rest := []) C0 hZ hS hA (s_X10_kindOf l dC dI cy sq a_this rm x_taped x_at x_end x_ended x_bad x_badPlace x_fault x_faultPlace x_namePlace x_awayTold x_away x_coded x_statements x_isCrossing x_textKind x_askSecond x_redMany x_isOpen x_lastGreen x_greenTo x_isCycleGreen x_stillGreen x_rowMany x_fitMany x_fitRules x_fitGreen x_undoable x_newest x_seeded x_qCoded x_qWaits x_qOpened x_qBase x_qPiled x_qAnswer x_qIsNew x_octets g_walkers J15_l4 hpg_walkers (ib_w 0 11 h41 rfl)) mV_X10_436 hPc hDc rfl rfl rfl hl rfl rfl (Nat.le_of_ble_eq_true rfl) ⟨(Nat.le_of_ble_eq_true rfl), (Nat.le_of_ble_eq_true rfl)⟩ ⟨(Nat.le_of_ble_eq_true rfl), (Nat.le_of_ble_eq_true rfl)⟩ dX10_kind_27) (fun r42 u43 H locs hw hP hD hS => ?_)
            try dsimp only at hP hD hw
            replace hP : va_P (dC, dI) vwCl [(wi_rm56_0_9_0 rm cy g_now), (wi_rm44_0_24_0 rm cy g_kinds), (wi_rm41_0_4_0 rm cy g_many), (a_this, .inr (10, mfs rm x_taped x_at x_end x_ended x_bad x_badPlace x_fault x_faultPlace x_namePlace x_awayTold x_away x_coded x_statements x_isCrossing x_textKind x_askSecond x_redMany x_isOpen x_lastGreen x_greenTo x_isCycleGreen x_stillGreen x_rowMany x_fitMany x_fitRules x_fitGreen x_undoable x_newest x_seeded x_qCoded x_qWaits x_qOpened x_qBase x_qPiled x_qAnswer x_qIsNew x_octets)), (wi_rm46_0_48_0 rm cy g_walkers)] H := hP
            replace hD := k_D hP hD
            obtain ⟨h44, h45⟩ := hw
            replace hq := lf_b1 hq h45
            refine lv_iload_n hx hb dX10_kind_30 rfl (lv_at hl 1 rfl) ?_
            refine lv_icmp_ne (tgt := 41) hx hb dX10_kind_31 rfl (fun c46 => ?_) (fun c46 => ?_)
            · replace hq := lf_neg hq (lf_ne (lf_rf r42) (lf_rf p0) c46)
              exact jn41 J15_l3 H locs ls (ib_w 0 5 hK15_p0 rfl) (ib_w 0 11 h41 rfl) (ib_w 1 6 hJ15_a1_2 rfl) (ib_w 1 12 h40 rfl) (by exact hq) (hP.sub [3, 2, 0, 1, 4] rfl) (hD.sub [3, 2, 0, 1, 4] rfl rfl) hS (lv_sub hl [0, 1, 2, 3, 4] rfl)
            · replace hq := lf_pos hq (lf_eq (lf_rf r42) (lf_rf p0) c46)
              have h47 := ib_eq h44 hK15_p0 c46
              refine lv_iload_n hx hb dX10_kind_34 rfl (lv_at hl 3 rfl) ?_
              refine lv_iconst (v := 1) hx hb dX10_kind_35 rfl ?_
              refine lv_iload hx hb dX10_kind_36 (lv_at hl 4 rfl) ?_
              refine lv_ishl hx hb dX10_kind_38 ?_
              refine lv_topi (fun z48 ez48 => ?_)
              have h49 : ib z48 1 2048 := by rw [ez48]; exact ib_w 1 2048 (ib_shl1 11 (ib_w 0 11 h41 rfl) (by decide)) rfl
              have Ez48 := lf_op lf_ishl ez48 (lf_lc 1 (1 : Int) rfl) (lf_rf J15_l4)
              refine lv_ior hx hb dX10_kind_39 ?_
              refine lv_topi (fun z50 ez50 => ?_)
              have Ez50 := lf_op lf_ior ez50 (lf_rf J15_l3) Ez48
              refine lv_istore_n (lv' := [(3, .int z50), (0, .ref a_this), (1, .int p0), (2, .int p1), (4, .int J15_l4)]) hx hb dX10_kind_40 rfl hl (Nat.le_of_ble_eq_true rfl) rfl (fun ls hl => ?_)
              exact jn41 z50 H locs ls (ib_w 0 5 hK15_p0 rfl) (ib_w 0 11 h41 rfl) (ib_w 1 6 hJ15_a1_2 rfl) (ib_w 1 12 h40 rfl) (by rw [lf_u Ez50]; exact hq) (hP.sub [3, 2, 0, 1, 4] rfl) (hD.sub [3, 2, 0, 1, 4] rfl rfl) hS (lv_sub hl [1, 2, 3, 0, 4] rfl)
  refine lv_aload_n hx hb dX10_kind_0 rfl (lv_at hl 0 rfl) ?_
  refine lv_iload_n hx hb dX10_kind_1 rfl (lv_at hl 1 rfl) ?_
  refine k_jim hP hD hS hA [0, 1] [false, false, true, true, true] rfl rfl rfl 0 0 (Nat.le_of_ble_eq_true rfl) (Nat.le_of_ble_eq_true rfl) (fun hPc hDc => k_runV (As := [.int p0]) (rest := []) C0 hZ hS hA (s_X10_isKind l dC dI cy sq a_this rm x_taped x_at x_end x_ended x_bad x_badPlace x_fault x_faultPlace x_namePlace x_awayTold x_away x_coded x_statements x_isCrossing x_textKind x_askSecond x_redMany x_isOpen x_lastGreen x_greenTo x_isCycleGreen x_stillGreen x_rowMany x_fitMany x_fitRules x_fitGreen x_undoable x_newest x_seeded x_qCoded x_qWaits x_qOpened x_qBase x_qPiled x_qAnswer x_qIsNew x_octets g_many p0 (ib_w 0 6 hg_many_2 rfl)) mV_X10_528 hPc hDc rfl rfl rfl hl rfl rfl (Nat.le_of_ble_eq_true rfl) ⟨(Nat.le_of_ble_eq_true rfl), (Nat.le_of_ble_eq_true rfl)⟩ ⟨(Nat.le_of_ble_eq_true rfl), (Nat.le_of_ble_eq_true rfl)⟩ dX10_kind_2) (fun r51 u52 H locs hw hP hD hS => ?_)
  try dsimp only at hP hD hw
  replace hP : va_P (dC, dI) vwCl [(wi_rm56_0_9_0 rm cy g_now), (wi_rm44_0_24_0 rm cy g_kinds), (wi_rm46_0_48_0 rm cy g_walkers), (a_this, .inr (10, mfs rm x_taped x_at x_end x_ended x_bad x_badPlace x_fault x_faultPlace x_namePlace x_awayTold x_away x_coded x_statements x_isCrossing x_textKind x_askSecond x_redMany x_isOpen x_lastGreen x_greenTo x_isCycleGreen x_stillGreen x_rowMany x_fitMany x_fitRules x_fitGreen x_undoable x_newest x_seeded x_qCoded x_qWaits x_qOpened x_qBase x_qPiled x_qAnswer x_qIsNew x_octets)), (wi_rm41_0_4_0 rm cy g_many)] H := hP
  replace hD := k_D hP hD
  obtain ⟨h53, h54, h55, h56⟩ := hw
  replace hq := lf_b1 hq h56
  refine lv_if_ne (tgt := 10) hx hb dX10_kind_5 rfl (fun c57 => ?_) (fun c57 => ?_)
  · replace hq := lf_neg hq (lf_ne (lf_rf r51) (lf_lc 0 (0 : Int) rfl) c57)
    have h58 : ib r51 1 1 := ib_w 1 1 (ib_ne_lo 0 h53 rfl c57) rfl
    have h59 : ib (g_many 2) 1 6 := ib_w 1 6 (ib_two hg_many_2 (h54 (ib_nz h58 rfl))) rfl
    have h60 : ib p0 0 5 := ib_w 0 5 (ib_two (ib_any p0) (h55 (ib_nz h58 rfl))) rfl
    refine lv_iconst (v := 0) hx hb dX10_kind_10 rfl ?_
    refine lv_istore_n (lv' := [(3, .int 0), (0, .ref a_this), (1, .int p0), (2, .int p1)]) hx hb dX10_kind_11 rfl hl (Nat.le_of_ble_eq_true rfl) rfl (fun ls hl => ?_)
    refine lv_iconst (v := 0) hx hb dX10_kind_12 rfl ?_
    refine lv_istore (lv' := [(4, .int 0), (3, .int 0), (0, .ref a_this), (1, .int p0), (2, .int p1)]) hx hb dX10_kind_13 hl (Nat.le_of_ble_eq_true rfl) rfl (fun ls hl => ?_)
    exact jn15 14 0 0 H locs ls (ib_w 0 5 h60 rfl) (ib_w 1 6 h59 rfl) (ib_w 0 12 (ib_c 0 0 0 rfl) rfl) (by try simp only [show (0 : Int32).toInt = (0 : Int) from rfl]; exact hq) (by have := (ib_c 0 0 0 rfl); unfold ib at this; omega) (hP.sub [3, 4, 0, 1, 2] rfl) (hD.sub [3, 4, 0, 1, 2] rfl rfl) hS (lv_sub hl [2, 3, 4, 1, 0] rfl)
  · replace hq := lf_pos hq (lf_eq (lf_rf r51) (lf_lc 0 (0 : Int) rfl) c57)
    have h61 := ib_eq h53 (ib_c 0 0 0 rfl) c57
    have h62 : ib r51 0 0 := ib_w 0 0 h61.1 rfl
    refine lv_iconst (v := (-1)) hx hb dX10_kind_8 rfl ?_
    subst hQ; exact k_iret hx hb hr hlk rfl () hS ((hO.symm.trans (by try simp only [show ((-1) : Int32).toInt = (-1 : Int) from rfl]; exact hq))) (hP.sub [3, 4, 0, 1, 2] rfl) (hD.sub [3, 4, 0, 1, 2] rfl rfl) (Nat.le_of_ble_eq_true rfl) (Nat.le_of_ble_eq_true rfl) dX10_kind_9
set_option maxHeartbeats 4000000 in
set_option maxRecDepth 100000 in
theorem s_X10_isAhead_a1_0_a2_29 (l : Launch) (dC : Nat → ClassId) (dI : Nat → Nat → Nat) (cy : Nat → ClassId) (sq : Nat → Nat) (a_this : Nat) (rm : Nat → Nat) (x_taped : Int32) (x_at : Int32) (x_end : Int32) (x_ended : Int32) (x_bad : Int32) (x_badPlace : Int32) (x_fault : Int32) (x_faultPlace : Int32) (x_namePlace : Int32) (x_awayTold : Int32) (x_away : Int32) (x_coded : Int32) (x_statements : Int32) (x_isCrossing : Int32) (x_textKind : Int32) (x_askSecond : Int32) (x_redMany : Int32) (x_isOpen : Int32) (x_lastGreen : Int32) (x_greenTo : Int32) (x_isCycleGreen : Int32) (x_stillGreen : Int32) (x_rowMany : Int32) (x_fitMany : Int32) (x_fitRules : Int32) (x_fitGreen : Int32) (x_undoable : Int32) (x_newest : Int32) (x_seeded : Int64) (x_qCoded : Int32) (x_qWaits : Int32) (x_qOpened : Int32) (x_qBase : Int32) (x_qPiled : Int32) (x_qAnswer : Int64) (x_qIsNew : Int32) (x_octets : Int32) (g_now : Nat → Int32) (p0 : Int32) (hx_isCrossing : ib x_isCrossing 0 1) : k_Met l yX10_isAhead cX10_isAhead 4 (some .boolean) { frames := 1, cells := 0, slots := 0, locals := 25 } dC dI cy sq [.ref a_this, .int p0, .int 0, .int 29] [(a_this, .inr (10, mfs rm x_taped x_at x_end x_ended x_bad x_badPlace x_fault x_faultPlace x_namePlace x_awayTold x_away x_coded x_statements x_isCrossing x_textKind x_askSecond x_redMany x_isOpen x_lastGreen x_greenTo x_isCycleGreen x_stillGreen x_rowMany x_fitMany x_fitRules x_fitGreen x_undoable x_newest x_seeded x_qCoded x_qWaits x_qOpened x_qBase x_qPiled x_qAnswer x_qIsNew x_octets)), (wi_rm56_0_9_0 rm cy g_now)] (k_Qi dC dI (fun (r : Int32) (_ : Unit) => ib r 0 1 ∧ (¬ r = 0 → ib x_isCrossing 1 1) ∧ (¬ r = 0 → ib p0 0 29) ∧ (F_X10_isAhead_a1_0_a2_29 (Int32.toInt x_isCrossing) (lf_A g_now) (Int32.toInt p0) = ((Int32.toInt r)))) (fun _ : Unit => [(a_this, .inr (10, mfs rm x_taped x_at x_end x_ended x_bad x_badPlace x_fault x_faultPlace x_namePlace x_awayTold x_away x_coded x_statements x_isCrossing x_textKind x_askSecond x_redMany x_isOpen x_lastGreen x_greenTo x_isCycleGreen x_stillGreen x_rowMany x_fitMany x_fitRules x_fitGreen x_undoable x_newest x_seeded x_qCoded x_qWaits x_qOpened x_qBase x_qPiled x_qAnswer x_qIsNew x_octets)), (wi_rm56_0_9_0 rm cy g_now)])) := by
  refine k_ofW2 (by decide +kernel) (Nat.le_of_ble_eq_true rfl) ?_
  intro p e s m below meth c A ls H locs args Q hQ C0 hZ hr hlk hin hP hD hA hS hl
  have C0 : k_cx p s m args c cX10_isAhead 4 RX10 dC dI cy sq := C0
  have hx := C0.1
  have hb := C0.2.1
  have hl : lv_has ls 4 [(0, .ref a_this), (1, .int p0), (2, .int 0), (3, .int 29)] := hl
  obtain ⟨O, hO⟩ : ∃ o, o = F_X10_isAhead_a1_0_a2_29 (Int32.toInt x_isCrossing) (lf_A g_now) (Int32.toInt p0) := ⟨_, rfl⟩
  have hq := hO
  unfold F_X10_isAhead_a1_0_a2_29 at hq
  have jn37 : ∀  (H : Heap) (locs : List Loc) (ls : Array Slot), (O = F_X10_isAhead_a1_0_a2_29_37 ) → va_P (dC, dI) vwCl [(a_this, .inr (10, mfs rm x_taped x_at x_end x_ended x_bad x_badPlace x_fault x_faultPlace x_namePlace x_awayTold x_away x_coded x_statements x_isCrossing x_textKind x_askSecond x_redMany x_isOpen x_lastGreen x_greenTo x_isCycleGreen x_stillGreen x_rowMany x_fitMany x_fitRules x_fitGreen x_undoable x_newest x_seeded x_qCoded x_qWaits x_qOpened x_qBase x_qPiled x_qAnswer x_qIsNew x_octets)), (wi_rm56_0_9_0 rm cy g_now)] H → va_D A [(a_this, .inr (10, mfs rm x_taped x_at x_end x_ended x_bad x_badPlace x_fault x_faultPlace x_namePlace x_awayTold x_away x_coded x_statements x_isCrossing x_textKind x_askSecond x_redMany x_isOpen x_lastGreen x_greenTo x_isCycleGreen x_stillGreen x_rowMany x_fitMany x_fitRules x_fitGreen x_undoable x_newest x_seeded x_qCoded x_qWaits x_qOpened x_qBase x_qPiled x_qAnswer x_qIsNew x_octets)), (wi_rm56_0_9_0 rm cy g_now)] → va_S A s.heap H locs → lv_has ls 4 [(0, .ref a_this), (1, .int p0), (2, .int 0), (3, .int 29)] → W p l e { frames := 1, cells := 0, slots := 0, locals := 25 } s m args below meth c H locs 0 0 Q (F0 m 37 ls []) := by
    intro H locs ls hq hP hD hS hl
    unfold F_X10_isAhead_a1_0_a2_29_37 at hq
    refine lv_iconst (v := 0) hx hb dX10_isAhead_37 rfl ?_
    subst hQ; exact k_iret hx hb hr hlk (k_nb 0 rfl) () hS ⟨ib_w 0 1 (ib_c 0 0 0 rfl) rfl, fun hq9 => absurd rfl hq9, fun hq9 => absurd rfl hq9, (hO.symm.trans (by try simp only [show (0 : Int32).toInt = (0 : Int) from rfl]; exact hq))⟩ hP hD (Nat.le_of_ble_eq_true rfl) (Nat.le_of_ble_eq_true rfl) dX10_isAhead_38
  refine lv_aload_n hx hb dX10_isAhead_0 rfl (lv_at hl 0 rfl) ?_
  refine k_get C0 fg_X10_417 hP 0 rfl rfl dX10_isAhead_1 ?_
  refine lv_if_eq (tgt := 37) hx hb dX10_isAhead_4 rfl (fun c1 => ?_) (fun c1 => ?_)
  · replace hq := lf_pos hq (lf_eq (lf_rf x_isCrossing) (lf_lc 0 (0 : Int) rfl) c1)
    have h2 := ib_eq hx_isCrossing (ib_c 0 0 0 rfl) c1
    have h3 : ib x_isCrossing 0 0 := ib_w 0 0 h2.1 rfl
    exact jn37  H locs ls (by exact hq) hP hD hS (lv_sub hl [0, 1, 2, 3] rfl)
  · as_aux_lemma =>
      replace hq := lf_neg hq (lf_ne (lf_rf x_isCrossing) (lf_lc 0 (0 : Int) rfl) c1)
      have h4 : ib x_isCrossing 1 1 := ib_w 1 1 (ib_ne_lo 0 hx_isCrossing rfl c1) rfl
      refine lv_iload_n hx hb dX10_isAhead_7 rfl (lv_at hl 1 rfl) ?_
      refine lv_i2l (v := p0.toInt64) hx hb dX10_isAhead_8 rfl ?_
      refine lv_iload_n hx hb dX10_isAhead_9 rfl (lv_at hl 2 rfl) ?_
      refine lv_i2l (v := 0) hx hb dX10_isAhead_10 (by decide) ?_
      refine lv_iload_n hx hb dX10_isAhead_11 rfl (lv_at hl 3 rfl) ?_
      refine lv_i2l (v := 29) hx hb dX10_isAhead_12 (by decide) ?_
      refine k_jim hP hD hS hA [] [true, true] rfl rfl rfl 0 0 (Nat.le_of_ble_eq_true rfl) (Nat.le_of_ble_eq_true rfl) (fun hPc hDc => k_runS (As := [.long p0.toInt64, .long 0, .long 29]) (rest := []) C0 hZ hS hA (c_isIn l dC dI cy sq p0.toInt64 0 29) mS_X10_318 hPc hDc hl rfl rfl (Nat.le_of_ble_eq_true rfl) ⟨(Nat.le_of_ble_eq_true rfl), (Nat.le_of_ble_eq_true rfl)⟩ ⟨(Nat.le_of_ble_eq_true rfl), (Nat.le_of_ble_eq_true rfl)⟩ dX10_isAhead_13) (fun r5 u6 H locs hw hP hD hS => ?_)
      replace hP : va_P (dC, dI) vwCl [(a_this, .inr (10, mfs rm x_taped x_at x_end x_ended x_bad x_badPlace x_fault x_faultPlace x_namePlace x_awayTold x_away x_coded x_statements x_isCrossing x_textKind x_askSecond x_redMany x_isOpen x_lastGreen x_greenTo x_isCycleGreen x_stillGreen x_rowMany x_fitMany x_fitRules x_fitGreen x_undoable x_newest x_seeded x_qCoded x_qWaits x_qOpened x_qBase x_qPiled x_qAnswer x_qIsNew x_octets)), (wi_rm56_0_9_0 rm cy g_now)] H := hP
      replace hD := k_D hP hD
      have h7 := hw
      have h8 : ib r5 0 1 := by rw [h7]; exact k_isf_01 _ _ _
      have Er5 := lf_isine h7 (lf_i2l (lf_rf p0)) (lf_ll 0 (0 : Int) rfl) (lf_ll 29 (29 : Int) rfl)
      refine lv_if_eq (tgt := 37) hx hb dX10_isAhead_16 rfl (fun c9 => ?_) (fun c9 => ?_)
      · replace hq := lf_pos hq (lf_eq Er5 (lf_lc 0 (0 : Int) rfl) c9)
        have h10 := ib_eq h8 (ib_c 0 0 0 rfl) c9
        have h11 : ib r5 0 0 := ib_w 0 0 h10.1 rfl
        exact jn37  H locs ls (by exact hq) hP hD hS (lv_sub hl [0, 1, 2, 3] rfl)
      · as_aux_lemma =>
          replace hq := lf_neg hq (lf_ne Er5 (lf_lc 0 (0 : Int) rfl) c9)
          have h12 : ib r5 1 1 := ib_w 1 1 (ib_ne_lo 0 h8 rfl c9) rfl
          have h13 : ib p0 0 29 := ib_w 0 29 (ib_two (ib_any p0) (k_isf_v h7 (show 0 ≤ (0 : Int64).toInt by decide) (show (29 : Int64).toInt ≤ 29 by decide) (ib_nz h12 rfl))) rfl
          refine lv_aload_n hx hb dX10_isAhead_19 rfl (lv_at hl 0 rfl) ?_
          refine k_get C0 fg_X10_139 hP 0 rfl rfl dX10_isAhead_20 ?_
          refine lv_iconst (v := 0) hx hb dX10_isAhead_23 rfl ?_
          refine va_iald hx hb C0.2.2.2.2.2.1 hP 1 0 rfl rfl (k_in 0 9 rfl) dX10_isAhead_24 ?_
          refine lv_topi (fun z14 ez14 => ?_)
          have Ez14 := lf_ld ez14 (lf_ra g_now) (lf_lc 0 (0 : Int) rfl)
          refine lv_iload_n hx hb dX10_isAhead_25 rfl (lv_at hl 1 rfl) ?_
          refine lv_iadd hx hb dX10_isAhead_26 ?_
          refine lv_topi (fun z15 ez15 => ?_)
          have Ez15 := lf_op lf_iadd ez15 Ez14 (lf_rf p0)
          refine lv_sipush (v := 999) hx hb dX10_isAhead_27 rfl ?_
          refine lv_icmp_gt (tgt := 37) hx hb dX10_isAhead_30 rfl (fun c16 => ?_) (fun c16 => ?_)
          · replace hq := lf_pos hq (lf_lt (lf_lc 999 (999 : Int) rfl) Ez15 c16)
            have h17 := ib_lt (ib_c 999 999 999 rfl) (ib_any z15) c16
            have h18 : ib z15 1000 2147483647 := ib_w 1000 2147483647 h17.2 rfl
            exact jn37  H locs ls (by exact hq) hP hD hS (lv_sub hl [0, 1, 2, 3] rfl)
          · replace hq := lf_neg hq (lf_nlt (lf_lc 999 (999 : Int) rfl) Ez15 c16)
            have h19 := ib_nlt (ib_c 999 999 999 rfl) (ib_any z15) c16
            have h20 : ib z15 (-2147483648) 999 := ib_w (-2147483648) 999 h19.2 rfl
            refine lv_iconst (v := 1) hx hb dX10_isAhead_33 rfl ?_
            refine lv_goto (tgt := 38) hx hb dX10_isAhead_34 rfl ?_
            subst hQ; exact k_iret hx hb hr hlk (k_nb 1 rfl) () hS ⟨ib_w 0 1 (ib_c 1 1 1 rfl) rfl, fun _ => ib_w 1 1 h4 rfl, fun _ => ib_w 0 29 h13 rfl, (hO.symm.trans (by try simp only [show (1 : Int32).toInt = (1 : Int) from rfl]; exact hq))⟩ hP hD (Nat.le_of_ble_eq_true rfl) (Nat.le_of_ble_eq_true rfl) dX10_isAhead_38
set_option maxHeartbeats 4000000 in
set_option maxRecDepth 100000 in
theorem s_X10_later (l : Launch) (dC : Nat → ClassId) (dI : Nat → Nat → Nat) (cy : Nat → ClassId) (sq : Nat → Nat) (a_this : Nat) (rm : Nat → Nat) (x_taped : Int32) (x_at : Int32) (x_end : Int32) (x_ended : Int32) (x_bad : Int32) (x_badPlace : Int32) (x_fault : Int32) (x_faultPlace : Int32) (x_namePlace : Int32) (x_awayTold : Int32) (x_away : Int32) (x_coded : Int32) (x_statements : Int32) (x_isCrossing : Int32) (x_textKind : Int32) (x_askSecond : Int32) (x_redMany : Int32) (x_isOpen : Int32) (x_lastGreen : Int32) (x_greenTo : Int32) (x_isCycleGreen : Int32) (x_stillGreen : Int32) (x_rowMany : Int32) (x_fitMany : Int32) (x_fitRules : Int32) (x_fitGreen : Int32) (x_undoable : Int32) (x_newest : Int32) (x_seeded : Int64) (x_qCoded : Int32) (x_qWaits : Int32) (x_qOpened : Int32) (x_qBase : Int32) (x_qPiled : Int32) (x_qAnswer : Int64) (x_qIsNew : Int32) (x_octets : Int32) (g_many : Nat → Int32) (g_bar : Nat → Int32) (g_kinds : Nat → Int32) (g_walkers : Nat → Int32) (g_codeFrom : Nat → Int32) (g_codeEnd : Nat → Int32) (g_codes : Nat → Int32) (g_now : Nat → Int32) (g_aside : Nat → Int32) (g_isCar : Nat → Int32) (g_gaps : Nat → Int32) (g_isGreen : Nat → Int32) (g_isHere : Nat → Int32) (g_crosses : Nat → Int32) (g_waits : Nat → Int32) (g_goes : Nat → Int32) (g_harms : Nat → Int32) (g_presses : Nat → Int32) (g_crossedIn : Nat → Int32) (g_qPile : Nat → Int64) (p0 : Int32) (p1 : Int32) (hx_isCrossing : ib x_isCrossing 0 1) (hx_isOpen : ib x_isOpen 0 1) (hx_isCycleGreen : ib x_isCycleGreen 0 1) (hx_qPiled : ib x_qPiled 0 1700) (hg_many_3 : ib (g_many 3) 0 12) (hg_bar_4 : ib (g_bar 4) 0 120) (hpg_walkers : ip g_walkers 48 2 0 0 5) (hg_codeFrom_3 : ib (g_codeFrom 3) (-1) 1600) (hg_codeFrom_4 : ib (g_codeFrom 4) (-1) 1600) (hg_codeFrom_5 : ib (g_codeFrom 5) (-1) 1600) (hg_codeEnd_3 : ib (g_codeEnd 3) 0 1600) (hg_codeEnd_4 : ib (g_codeEnd 4) 0 1600) (hg_codeEnd_5 : ib (g_codeEnd 5) 0 1600) (hg_gaps : ia g_gaps 300 0 20) (hG0 : ¬ g_codeFrom 3 = (-1) → okc g_codes 1600 false (g_codeFrom 3) (g_codeEnd 3)) (hG1 : ¬ g_codeFrom 4 = (-1) → okc g_codes 1600 true (g_codeFrom 4) (g_codeEnd 4)) (hG2 : ¬ g_codeFrom 5 = (-1) → okc g_codes 1600 false (g_codeFrom 5) (g_codeEnd 5)) (hc_cr : ¬ x_isCrossing = 0 → ib (g_bar 4) 10 120) : k_Met l yX10_later cX10_later 4 (some .int) { frames := 7, cells := 0, slots := 0, locals := 159 } dC dI cy sq [.ref a_this, .int p0, .int p1] [(a_this, .inr (10, mfs rm x_taped x_at x_end x_ended x_bad x_badPlace x_fault x_faultPlace x_namePlace x_awayTold x_away x_coded x_statements x_isCrossing x_textKind x_askSecond x_redMany x_isOpen x_lastGreen x_greenTo x_isCycleGreen x_stillGreen x_rowMany x_fitMany x_fitRules x_fitGreen x_undoable x_newest x_seeded x_qCoded x_qWaits x_qOpened x_qBase x_qPiled x_qAnswer x_qIsNew x_octets)), (wi_rm56_0_9_0 rm cy g_now), (wi_rm57_0_9_0 rm cy g_aside), (wi_rm49_0_6_0 rm cy g_codeFrom), (wi_rm50_0_6_0 rm cy g_codeEnd), (wi_rm116_1_1700_1 rm cy g_qPile), (wi_rm51_0_3200_0 rm cy g_codes), (wi_rm46_0_48_0 rm cy g_walkers), (wi_rm43_0_8_0 rm cy g_bar), (wi_rm65_0_12_0 rm cy g_waits), (wi_rm44_0_24_0 rm cy g_kinds), (wi_rm61_0_300_0 rm cy g_gaps), (wi_rm66_3_12_0 rm cy g_goes), (wi_rm67_3_12_0 rm cy g_harms), (wi_rm60_3_320_0 rm cy g_isCar), (wi_rm63_3_12_0 rm cy g_isHere), (wi_rm64_0_12_0 rm cy g_crosses), (wi_rm68_3_12_0 rm cy g_presses), (wi_rm69_3_300_0 rm cy g_crossedIn), (wi_rm41_0_4_0 rm cy g_many), (wi_rm62_3_300_0 rm cy g_isGreen)] (k_Qi dC dI (fun (r : Int32) (u : Int32 × Int32 × Int32 × Int32 × Int32 × Int32 × Int32 × Int32 × Int32 × (Nat → Int32) × (Nat → Int32) × (Nat → Int64) × (Nat → Int32) × (Nat → Int32) × (Nat → Int32) × (Nat → Int32) × (Nat → Int32) × (Nat → Int32) × (Nat → Int32) × (Nat → Int32) × (Nat → Int32) × (Nat → Int32)) => match u with | (n0, n1, n2, n3, n4, n5, n6, n7, n8, n9, n10, n11, n12, n13, n14, n15, n16, n17, n18, n19, n20, n21) => ib n3 0 1 ∧ ib n6 0 1 ∧ ib n8 0 1700 ∧ ia n13 300 0 20 ∧ (F_X10_later (Int32.toInt x_isCrossing) (Int32.toInt x_textKind) (Int32.toInt x_askSecond) (Int32.toInt x_redMany) (Int32.toInt x_isOpen) (Int32.toInt x_lastGreen) (Int32.toInt x_greenTo) (Int32.toInt x_isCycleGreen) (Int32.toInt x_stillGreen) (Int32.toInt x_qPiled) (lf_A g_many) (lf_A g_bar) (lf_A g_kinds) (lf_A g_walkers) (lf_A g_codeFrom) (lf_A g_codeEnd) (lf_A g_codes) (lf_A g_now) (lf_A g_aside) (lf_A g_isCar) (lf_A g_gaps) (lf_A g_isGreen) (lf_A g_isHere) (lf_A g_crosses) (lf_A g_waits) (lf_A g_goes) (lf_A g_harms) (lf_A g_presses) (lf_A g_crossedIn) (lf_L g_qPile) (Int32.toInt p0) (Int32.toInt p1) = ((Int32.toInt r), (Int32.toInt n0), (Int32.toInt n1), (Int32.toInt n2), (Int32.toInt n3), (Int32.toInt n4), (Int32.toInt n5), (Int32.toInt n6), (Int32.toInt n7), (Int32.toInt n8), (lf_A n9), (lf_A n10), (lf_L n11), (lf_A n12), (lf_A n13), (lf_A n14), (lf_A n15), (lf_A n16), (lf_A n17), (lf_A n18), (lf_A n19), (lf_A n20), (lf_A n21)))) (fun u : Int32 × Int32 × Int32 × Int32 × Int32 × Int32 × Int32 × Int32 × Int32 × (Nat → Int32) × (Nat → Int32) × (Nat → Int64) × (Nat → Int32) × (Nat → Int32) × (Nat → Int32) × (Nat → Int32) × (Nat → Int32) × (Nat → Int32) × (Nat → Int32) × (Nat → Int32) × (Nat → Int32) × (Nat → Int32) => match u with | (n0, n1, n2, n3, n4, n5, n6, n7, n8, n9, n10, n11, n12, n13, n14, n15, n16, n17, n18, n19, n20, n21) => [(a_this, .inr (10, mfs rm x_taped x_at x_end x_ended x_bad x_badPlace x_fault x_faultPlace x_namePlace x_awayTold x_away x_coded x_statements x_isCrossing n0 n1 n2 n3 n4 n5 n6 n7 x_rowMany x_fitMany x_fitRules x_fitGreen x_undoable x_newest x_seeded x_qCoded x_qWaits x_qOpened x_qBase n8 x_qAnswer x_qIsNew x_octets)), (wi_rm56_0_9_0 rm cy n9), (wi_rm57_0_9_0 rm cy n10), (wi_rm49_0_6_0 rm cy g_codeFrom), (wi_rm50_0_6_0 rm cy g_codeEnd), (wi_rm116_1_1700_1 rm cy n11), (wi_rm51_0_3200_0 rm cy g_codes), (wi_rm46_0_48_0 rm cy g_walkers), (wi_rm43_0_8_0 rm cy g_bar), (wi_rm65_0_12_0 rm cy n12), (wi_rm44_0_24_0 rm cy g_kinds), (wi_rm61_0_300_0 rm cy n13), (wi_rm66_3_12_0 rm cy n14), (wi_rm67_3_12_0 rm cy n15), (wi_rm60_3_320_0 rm cy n16), (wi_rm63_3_12_0 rm cy n17), (wi_rm64_0_12_0 rm cy n18), (wi_rm68_3_12_0 rm cy n19), (wi_rm69_3_300_0 rm cy n20), (wi_rm41_0_4_0 rm cy g_many), (wi_rm62_3_300_0 rm cy n21)])) := by
  refine k_ofW2 (by decide +kernel) (Nat.le_of_ble_eq_true rfl) ?_
  intro p e s m below meth c A ls H locs args Q hQ C0 hZ hr hlk hin hP hD hA hS hl
  have C0 : k_cx p s m args c cX10_later 4 RX10 dC dI cy sq := C0
  have hx := C0.1
  have hb := C0.2.1
  have hl : lv_has ls 4 [(0, .ref a_this), (1, .int p0), (2, .int p1)] := hl
  obtain ⟨O, hO⟩ : ∃ o, o = F_X10_later (Int32.toInt x_isCrossing) (Int32.toInt x_textKind) (Int32.toInt x_askSecond) (Int32.toInt x_redMany) (Int32.toInt x_isOpen) (Int32.toInt x_lastGreen) (Int32.toInt x_greenTo) (Int32.toInt x_isCycleGreen) (Int32.toInt x_stillGreen) (Int32.toInt x_qPiled) (lf_A g_many) (lf_A g_bar) (lf_A g_kinds) (lf_A g_walkers) (lf_A g_codeFrom) (lf_A g_codeEnd) (lf_A g_codes) (lf_A g_now) (lf_A g_aside) (lf_A g_isCar) (lf_A g_gaps) (lf_A g_isGreen) (lf_A g_isHere) (lf_A g_crosses) (lf_A g_waits) (lf_A g_goes) (lf_A g_harms) (lf_A g_presses) (lf_A g_crossedIn) (lf_L g_qPile) (Int32.toInt p0) (Int32.toInt p1) := ⟨_, rfl⟩
  have hq := hO
  unfold F_X10_later at hq
  have jn31 : ∀ (n : Nat) (J31_a2 : Nat → Int32) (J31_l3 : Int32) (J31_c0_55 : Int32) (J31_c0_58 : Int32) (J31_c0_59 : Int32) (J31_c0_70 : Int32) (J31_c0_71 : Int32) (J31_c0_72 : Int32) (J31_c0_73 : Int32) (J31_c0_74 : Int32) (J31_c0_117 : Int32) (J31_a1 : Nat → Int32) (J31_a5 : Nat → Int64) (J31_a9 : Nat → Int32) (J31_a11 : Nat → Int32) (J31_a12 : Nat → Int32) (J31_a13 : Nat → Int32) (J31_a14 : Nat → Int32) (J31_a15 : Nat → Int32) (J31_a16 : Nat → Int32) (J31_a17 : Nat → Int32) (J31_a18 : Nat → Int32) (J31_a20 : Nat → Int32) (H : Heap) (locs : List Loc) (ls : Array Slot), ib p0 0 29 → ib p1 0 5 → ib x_isCrossing 1 1 → ib (g_bar 4) 10 120 → ib J31_l3 0 29 → ib J31_c0_70 0 1 → ib J31_c0_73 0 1 → ib J31_c0_117 0 1700 → ia J31_a11 300 0 20 → (O = F_X10_later_31 (lf_A g_many) (lf_A g_bar) (lf_A g_kinds) (lf_A g_walkers) (lf_A g_codeFrom) (lf_A g_codeEnd) (lf_A g_codes) (Int32.toInt p0) (Int32.toInt p1) n (lf_A J31_a2) (Int32.toInt J31_l3) (Int32.toInt J31_c0_55) (Int32.toInt J31_c0_58) (Int32.toInt J31_c0_59) (Int32.toInt J31_c0_70) (Int32.toInt J31_c0_71) (Int32.toInt J31_c0_72) (Int32.toInt J31_c0_73) (Int32.toInt J31_c0_74) (Int32.toInt J31_c0_117) (lf_A J31_a1) (lf_L J31_a5) (lf_A J31_a9) (lf_A J31_a11) (lf_A J31_a12) (lf_A J31_a13) (lf_A J31_a14) (lf_A J31_a15) (lf_A J31_a16) (lf_A J31_a17) (lf_A J31_a18) (lf_A J31_a20)) → 30 ≤ J31_l3.toInt + (n : Int) → va_P (dC, dI) vwCl [(a_this, .inr (10, mfs rm x_taped x_at x_end x_ended x_bad x_badPlace x_fault x_faultPlace x_namePlace x_awayTold x_away x_coded x_statements x_isCrossing J31_c0_55 J31_c0_58 J31_c0_59 J31_c0_70 J31_c0_71 J31_c0_72 J31_c0_73 J31_c0_74 x_rowMany x_fitMany x_fitRules x_fitGreen x_undoable x_newest x_seeded x_qCoded x_qWaits x_qOpened x_qBase J31_c0_117 x_qAnswer x_qIsNew x_octets)), (wi_rm56_0_9_0 rm cy J31_a1), (wi_rm57_0_9_0 rm cy J31_a2), (wi_rm49_0_6_0 rm cy g_codeFrom), (wi_rm50_0_6_0 rm cy g_codeEnd), (wi_rm116_1_1700_1 rm cy J31_a5), (wi_rm51_0_3200_0 rm cy g_codes), (wi_rm46_0_48_0 rm cy g_walkers), (wi_rm43_0_8_0 rm cy g_bar), (wi_rm65_0_12_0 rm cy J31_a9), (wi_rm44_0_24_0 rm cy g_kinds), (wi_rm61_0_300_0 rm cy J31_a11), (wi_rm66_3_12_0 rm cy J31_a12), (wi_rm67_3_12_0 rm cy J31_a13), (wi_rm60_3_320_0 rm cy J31_a14), (wi_rm63_3_12_0 rm cy J31_a15), (wi_rm64_0_12_0 rm cy J31_a16), (wi_rm68_3_12_0 rm cy J31_a17), (wi_rm69_3_300_0 rm cy J31_a18), (wi_rm41_0_4_0 rm cy g_many), (wi_rm62_3_300_0 rm cy J31_a20)] H → va_D A [(a_this, .inr (10, mfs rm x_taped x_at x_end x_ended x_bad x_badPlace x_fault x_faultPlace x_namePlace x_awayTold x_away x_coded x_statements x_isCrossing J31_c0_55 J31_c0_58 J31_c0_59 J31_c0_70 J31_c0_71 J31_c0_72 J31_c0_73 J31_c0_74 x_rowMany x_fitMany x_fitRules x_fitGreen x_undoable x_newest x_seeded x_qCoded x_qWaits x_qOpened x_qBase J31_c0_117 x_qAnswer x_qIsNew x_octets)), (wi_rm56_0_9_0 rm cy J31_a1), (wi_rm57_0_9_0 rm cy J31_a2), (wi_rm49_0_6_0 rm cy g_codeFrom), (wi_rm50_0_6_0 rm cy g_codeEnd), (wi_rm116_1_1700_1 rm cy J31_a5), (wi_rm51_0_3200_0 rm cy g_codes), (wi_rm46_0_48_0 rm cy g_walkers), (wi_rm43_0_8_0 rm cy g_bar), (wi_rm65_0_12_0 rm cy J31_a9), (wi_rm44_0_24_0 rm cy g_kinds), (wi_rm61_0_300_0 rm cy J31_a11), (wi_rm66_3_12_0 rm cy J31_a12), (wi_rm67_3_12_0 rm cy J31_a13), (wi_rm60_3_320_0 rm cy J31_a14), (wi_rm63_3_12_0 rm cy J31_a15), (wi_rm64_0_12_0 rm cy J31_a16), (wi_rm68_3_12_0 rm cy J31_a17), (wi_rm69_3_300_0 rm cy J31_a18), (wi_rm41_0_4_0 rm cy g_many), (wi_rm62_3_300_0 rm cy J31_a20)] → va_S A s.heap H locs → lv_has ls 4 [(0, .ref a_this), (1, .int p0), (2, .int p1), (3, .int J31_l3)] → W p l e { frames := 7, cells := 0, slots := 0, locals := 159 } s m args below meth c H locs 0 0 Q (F0 m 31 ls []) := by
    as_aux_lemma =>
      intro n
      induction n with
      | zero =>
        intro J31_a2 J31_l3 J31_c0_55 J31_c0_58 J31_c0_59 J31_c0_70 J31_c0_71 J31_c0_72 J31_c0_73 J31_c0_74 J31_c0_117 J31_a1 J31_a5 J31_a9 J31_a11 J31_a12 J31_a13 J31_a14 J31_a15 J31_a16 J31_a17 J31_a18 J31_a20 H locs ls hK31_p0 hK31_p1 hK31_x_isCrossing hJ31_a8_4 hJ31_l3 hJ31_c0_70 hJ31_c0_73 hJ31_c0_117 hJ31_a11 hq hm
        exact absurd hm (by have := hJ31_l3; unfold ib at this; omega)
      | succ n ih =>
        intro J31_a2 J31_l3 J31_c0_55 J31_c0_58 J31_c0_59 J31_c0_70 J31_c0_71 J31_c0_72 J31_c0_73 J31_c0_74 J31_c0_117 J31_a1 J31_a5 J31_a9 J31_a11 J31_a12 J31_a13 J31_a14 J31_a15 J31_a16 J31_a17 J31_a18 J31_a20 H locs ls hK31_p0 hK31_p1 hK31_x_isCrossing hJ31_a8_4 hJ31_l3 hJ31_c0_70 hJ31_c0_73 hJ31_c0_117 hJ31_a11 hq hm31 hP hD hS hl
        have ih31 := ih
        obtain ⟨K31, hK31⟩ : ∃ K, K = F_X10_later_31 (lf_A g_many) (lf_A g_bar) (lf_A g_kinds) (lf_A g_walkers) (lf_A g_codeFrom) (lf_A g_codeEnd) (lf_A g_codes) (Int32.toInt p0) (Int32.toInt p1) n := ⟨_, rfl⟩
        have hq : O = F_X10_later_31b (lf_A g_many) (lf_A g_bar) (lf_A g_kinds) (lf_A g_walkers) (lf_A g_codeFrom) (lf_A g_codeEnd) (lf_A g_codes) (Int32.toInt p0) (Int32.toInt p1) K31 (lf_A J31_a2) (Int32.toInt J31_l3) (Int32.toInt J31_c0_55) (Int32.toInt J31_c0_58) (Int32.toInt J31_c0_59) (Int32.toInt J31_c0_70) (Int32.toInt J31_c0_71) (Int32.toInt J31_c0_72) (Int32.toInt J31_c0_73) (Int32.toInt J31_c0_74) (Int32.toInt J31_c0_117) (lf_A J31_a1) (lf_L J31_a5) (lf_A J31_a9) (lf_A J31_a11) (lf_A J31_a12) (lf_A J31_a13) (lf_A J31_a14) (lf_A J31_a15) (lf_A J31_a16) (lf_A J31_a17) (lf_A J31_a18) (lf_A J31_a20) := by rw [hK31]; exact hq
        unfold F_X10_later_31b at hq
        refine lv_iload_n hx hb dX10_later_31 rfl (lv_at hl 3 rfl) ?_
        refine lv_iload_n hx hb dX10_later_32 rfl (lv_at hl 1 rfl) ?_
        refine lv_icmp_ge (tgt := 48) hx hb dX10_later_33 rfl (fun c1 => ?_) (fun c1 => ?_)
        · as_aux_lemma =>
            replace hq := lf_pos hq (lf_le (lf_rf p0) (lf_rf J31_l3) c1)
            have h2 := ib_le hK31_p0 hJ31_l3 c1
            refine lv_aload_n hx hb dX10_later_48 rfl (lv_at hl 0 rfl) ?_
            refine k_jvm hP hD hS hA [0, 3, 4, 5, 6, 7, 1, 8, 9, 10, 11, 12, 13, 14, 15, 16, 17, 18, 19, 20] [false, false, true] rfl rfl (by decide +kernel) 0 0 (Nat.le_of_ble_eq_true rfl) (Nat.le_of_ble_eq_true rfl) (fun hPc hDc => k_runV (As := []) (rest := []) C0 hZ hS hA (s_X10_dayNow l dC dI cy sq a_this rm x_taped x_at x_end x_ended x_bad x_badPlace x_fault x_faultPlace x_namePlace x_awayTold x_away x_coded x_statements x_isCrossing J31_c0_55 J31_c0_58 J31_c0_59 J31_c0_70 J31_c0_71 J31_c0_72 J31_c0_73 J31_c0_74 x_rowMany x_fitMany x_fitRules x_fitGreen x_undoable x_newest x_seeded x_qCoded x_qWaits x_qOpened x_qBase J31_c0_117 x_qAnswer x_qIsNew x_octets g_many g_bar g_kinds g_walkers g_codeFrom g_codeEnd g_codes J31_a1 J31_a14 J31_a11 J31_a20 J31_a15 J31_a16 J31_a9 J31_a12 J31_a13 J31_a17 J31_a18 J31_a5 (ib_w 0 1700 hJ31_c0_117 rfl) (ib_w 0 12 hg_many_3 rfl) (ib_w 10 120 hJ31_a8_4 rfl) hpg_walkers (ib_w (-1) 1600 hg_codeFrom_3 rfl) (ib_w (-1) 1600 hg_codeFrom_4 rfl) (ib_w 0 1600 hg_codeEnd_3 rfl) (ib_w 0 1600 hg_codeEnd_4 rfl) hJ31_a11 hG0 hG1) mV_X10_534 hPc hDc rfl rfl rfl hl rfl rfl (Nat.le_of_ble_eq_true rfl) ⟨(Nat.le_of_ble_eq_true rfl), (Nat.le_of_ble_eq_true rfl)⟩ ⟨(Nat.le_of_ble_eq_true rfl), (Nat.le_of_ble_eq_true rfl)⟩ dX10_later_49) (fun u4 H locs hw hP hD hS => ?_)
            obtain ⟨v5, v6, v7, v8, v9, v10, v11, v12, v13, f14, f15, f16, f17, f18, f19, f20, f21, f22, f23, f24⟩ := u4
            try dsimp only at hP hD hw
            replace hP : va_P (dC, dI) vwCl [(wi_rm57_0_9_0 rm cy J31_a2), (a_this, .inr (10, mfs rm x_taped x_at x_end x_ended x_bad x_badPlace x_fault x_faultPlace x_namePlace x_awayTold x_away x_coded x_statements x_isCrossing v5 v6 v7 v8 v9 v10 v11 v12 x_rowMany x_fitMany x_fitRules x_fitGreen x_undoable x_newest x_seeded x_qCoded x_qWaits x_qOpened x_qBase v13 x_qAnswer x_qIsNew x_octets)), (wi_rm49_0_6_0 rm cy g_codeFrom), (wi_rm50_0_6_0 rm cy g_codeEnd), (wi_rm116_1_1700_1 rm cy f14), (wi_rm51_0_3200_0 rm cy g_codes), (wi_rm46_0_48_0 rm cy g_walkers), (wi_rm56_0_9_0 rm cy J31_a1), (wi_rm43_0_8_0 rm cy g_bar), (wi_rm65_0_12_0 rm cy f15), (wi_rm44_0_24_0 rm cy g_kinds), (wi_rm61_0_300_0 rm cy f16), (wi_rm66_3_12_0 rm cy f17), (wi_rm67_3_12_0 rm cy f18), (wi_rm60_3_320_0 rm cy f19), (wi_rm63_3_12_0 rm cy f20), (wi_rm64_0_12_0 rm cy f21), (wi_rm68_3_12_0 rm cy f22), (wi_rm69_3_300_0 rm cy f23), (wi_rm41_0_4_0 rm cy g_many), (wi_rm62_3_300_0 rm cy f24)] H := hP
            replace hD := k_D hP hD
            obtain ⟨h25, h26, h27, h28, h29⟩ := hw
            replace hq := lf_p1 hq h29
            replace hq := lf_p1 hq rfl
            replace hq := lf_p1 hq rfl
            replace hq := lf_p1 hq rfl
            replace hq := lf_p1 hq rfl
            replace hq := lf_p1 hq rfl
            replace hq := lf_p1 hq rfl
            replace hq := lf_p1 hq rfl
            replace hq := lf_p1 hq rfl
            replace hq := lf_p1 hq rfl
            replace hq := lf_p1 hq rfl
            replace hq := lf_p1 hq rfl
            replace hq := lf_p1 hq rfl
            replace hq := lf_p1 hq rfl
            replace hq := lf_p1 hq rfl
            replace hq := lf_p1 hq rfl
            replace hq := lf_p1 hq rfl
            replace hq := lf_p1 hq rfl
            replace hq := lf_p1 hq rfl
            refine lv_aload_n hx hb dX10_later_52 rfl (lv_at hl 0 rfl) ?_
            refine lv_iload_n hx hb dX10_later_53 rfl (lv_at hl 2 rfl) ?_
            refine k_jim hP hD hS hA [1, 19, 9, 12, 13, 15, 20, 18, 17] [true, false, true, true, true, true, true, true, true, false, true, true, false, false, true, false, true] rfl rfl (by decide +kernel) 0 0 (Nat.le_of_ble_eq_true rfl) (Nat.le_of_ble_eq_true rfl) (fun hPc hDc => k_runV (As := [.int p1]) (rest := []) C0 hZ hS hA (s_X10_toldOfDay l dC dI cy sq a_this rm x_taped x_at x_end x_ended x_bad x_badPlace x_fault x_faultPlace x_namePlace x_awayTold x_away x_coded x_statements x_isCrossing v5 v6 v7 v8 v9 v10 v11 v12 x_rowMany x_fitMany x_fitRules x_fitGreen x_undoable x_newest x_seeded x_qCoded x_qWaits x_qOpened x_qBase v13 x_qAnswer x_qIsNew x_octets g_many f24 f20 f15 f17 f18 f22 f23 p1 (ib_w 0 12 hg_many_3 rfl)) mV_X10_541 hPc hDc rfl rfl rfl hl rfl rfl (Nat.le_of_ble_eq_true rfl) ⟨(Nat.le_of_ble_eq_true rfl), (Nat.le_of_ble_eq_true rfl)⟩ ⟨(Nat.le_of_ble_eq_true rfl), (Nat.le_of_ble_eq_true rfl)⟩ dX10_later_54) (fun r30 u31 H locs hw hP hD hS => ?_)
            try dsimp only at hP hD hw
            replace hP : va_P (dC, dI) vwCl [(wi_rm57_0_9_0 rm cy J31_a2), (wi_rm49_0_6_0 rm cy g_codeFrom), (wi_rm50_0_6_0 rm cy g_codeEnd), (wi_rm116_1_1700_1 rm cy f14), (wi_rm51_0_3200_0 rm cy g_codes), (wi_rm46_0_48_0 rm cy g_walkers), (wi_rm56_0_9_0 rm cy J31_a1), (wi_rm43_0_8_0 rm cy g_bar), (wi_rm44_0_24_0 rm cy g_kinds), (wi_rm61_0_300_0 rm cy f16), (wi_rm60_3_320_0 rm cy f19), (wi_rm64_0_12_0 rm cy f21), (a_this, .inr (10, mfs rm x_taped x_at x_end x_ended x_bad x_badPlace x_fault x_faultPlace x_namePlace x_awayTold x_away x_coded x_statements x_isCrossing v5 v6 v7 v8 v9 v10 v11 v12 x_rowMany x_fitMany x_fitRules x_fitGreen x_undoable x_newest x_seeded x_qCoded x_qWaits x_qOpened x_qBase v13 x_qAnswer x_qIsNew x_octets)), (wi_rm41_0_4_0 rm cy g_many), (wi_rm65_0_12_0 rm cy f15), (wi_rm66_3_12_0 rm cy f17), (wi_rm67_3_12_0 rm cy f18), (wi_rm63_3_12_0 rm cy f20), (wi_rm62_3_300_0 rm cy f24), (wi_rm69_3_300_0 rm cy f23), (wi_rm68_3_12_0 rm cy f22)] H := hP
            replace hD := k_D hP hD
            have h32 := hw
            replace hq := lf_b1 hq h32
            refine lv_istore_n (lv' := [(3, .int r30), (0, .ref a_this), (1, .int p0), (2, .int p1)]) hx hb dX10_later_57 rfl hl (Nat.le_of_ble_eq_true rfl) rfl (fun ls hl => ?_)
            refine lv_aload_n hx hb dX10_later_58 rfl (lv_at hl 1 rfl) ?_
            refine k_jvm hP hD hS hA [12, 0, 6] [false, true, true, true, true, true, false, true, true, true, true, true, false, true, true, true, true, true, true, true, true] rfl rfl (by decide +kernel) 0 0 (Nat.le_of_ble_eq_true rfl) (Nat.le_of_ble_eq_true rfl) (fun hPc hDc => k_runV (As := []) (rest := []) C0 hZ hS hA (s_X10_takesBack l dC dI cy sq a_this rm x_taped x_at x_end x_ended x_bad x_badPlace x_fault x_faultPlace x_namePlace x_awayTold x_away x_coded x_statements x_isCrossing v5 v6 v7 v8 v9 v10 v11 v12 x_rowMany x_fitMany x_fitRules x_fitGreen x_undoable x_newest x_seeded x_qCoded x_qWaits x_qOpened x_qBase v13 x_qAnswer x_qIsNew x_octets J31_a1 J31_a2 ) mV_X10_563 hPc hDc rfl rfl rfl hl rfl rfl (Nat.le_of_ble_eq_true rfl) ⟨(Nat.le_of_ble_eq_true rfl), (Nat.le_of_ble_eq_true rfl)⟩ ⟨(Nat.le_of_ble_eq_true rfl), (Nat.le_of_ble_eq_true rfl)⟩ dX10_later_59) (fun u34 H locs hw hP hD hS => ?_)
            obtain ⟨f35, ef35⟩ : ∃ z, z = u34 := ⟨_, rfl⟩; subst ef35
            try dsimp only at hP hD hw
            replace hP : va_P (dC, dI) vwCl [(wi_rm49_0_6_0 rm cy g_codeFrom), (wi_rm50_0_6_0 rm cy g_codeEnd), (wi_rm116_1_1700_1 rm cy f14), (wi_rm51_0_3200_0 rm cy g_codes), (wi_rm46_0_48_0 rm cy g_walkers), (wi_rm43_0_8_0 rm cy g_bar), (wi_rm44_0_24_0 rm cy g_kinds), (wi_rm61_0_300_0 rm cy f16), (wi_rm60_3_320_0 rm cy f19), (wi_rm64_0_12_0 rm cy f21), (wi_rm41_0_4_0 rm cy g_many), (wi_rm65_0_12_0 rm cy f15), (wi_rm66_3_12_0 rm cy f17), (wi_rm67_3_12_0 rm cy f18), (wi_rm63_3_12_0 rm cy f20), (wi_rm62_3_300_0 rm cy f24), (wi_rm69_3_300_0 rm cy f23), (wi_rm68_3_12_0 rm cy f22), (a_this, .inr (10, mfs rm x_taped x_at x_end x_ended x_bad x_badPlace x_fault x_faultPlace x_namePlace x_awayTold x_away x_coded x_statements x_isCrossing v5 v6 v7 v8 v9 v10 v11 v12 x_rowMany x_fitMany x_fitRules x_fitGreen x_undoable x_newest x_seeded x_qCoded x_qWaits x_qOpened x_qBase v13 x_qAnswer x_qIsNew x_octets)), (wi_rm57_0_9_0 rm cy J31_a2), (wi_rm56_0_9_0 rm cy f35)] H := hP
            replace hD := k_D hP hD
            have h36 := hw
            replace hq := lf_b1 hq h36
            refine lv_iload_n hx hb dX10_later_62 rfl (lv_at hl 0 rfl) ?_
            subst hQ; exact k_iret hx hb hr hlk rfl ((v5, v6, v7, v8, v9, v10, v11, v12, v13, f35, J31_a2, f14, f15, f16, f17, f18, f19, f20, f21, f22, f23, f24)) hS ⟨ib_w 0 1 h25 rfl, ib_w 0 1 h26 rfl, ib_w 0 1700 h27 rfl, h28, (hO.symm.trans (by exact hq))⟩ (hP.sub [18, 20, 19, 0, 1, 2, 3, 4, 5, 11, 6, 7, 12, 13, 8, 14, 9, 17, 16, 10, 15] rfl) (hD.sub [18, 20, 19, 0, 1, 2, 3, 4, 5, 11, 6, 7, 12, 13, 8, 14, 9, 17, 16, 10, 15] (by decide +kernel) rfl) (Nat.le_of_ble_eq_true rfl) (Nat.le_of_ble_eq_true rfl) dX10_later_63
        · as_aux_lemma =>
            replace hq := lf_neg hq (lf_nle (lf_rf p0) (lf_rf J31_l3) c1)
            have h37 := ib_nle hK31_p0 hJ31_l3 c1
            have h38 : ib p0 1 29 := ib_w 1 29 h37.1 rfl
            have h39 : ib J31_l3 0 28 := ib_w 0 28 h37.2 rfl
            refine lv_aload_n hx hb dX10_later_36 rfl (lv_at hl 0 rfl) ?_
            refine lv_iconst (v := 0) hx hb dX10_later_37 rfl ?_
            refine k_jim hP hD hS hA [0, 3, 4, 5, 6, 7, 1, 8, 9, 10, 11, 12, 13, 14, 15, 16, 17, 18, 19, 20] [false, false, true] rfl rfl (by decide +kernel) 0 0 (Nat.le_of_ble_eq_true rfl) (Nat.le_of_ble_eq_true rfl) (fun hPc hDc => k_runV (As := [.int 0]) (rest := []) C0 hZ hS hA (s_X10_dayGoes l dC dI cy sq a_this rm x_taped x_at x_end x_ended x_bad x_badPlace x_fault x_faultPlace x_namePlace x_awayTold x_away x_coded x_statements x_isCrossing J31_c0_55 J31_c0_58 J31_c0_59 J31_c0_70 J31_c0_71 J31_c0_72 J31_c0_73 J31_c0_74 x_rowMany x_fitMany x_fitRules x_fitGreen x_undoable x_newest x_seeded x_qCoded x_qWaits x_qOpened x_qBase J31_c0_117 x_qAnswer x_qIsNew x_octets g_many g_bar g_kinds g_walkers g_codeFrom g_codeEnd g_codes J31_a1 J31_a14 J31_a11 J31_a20 J31_a15 J31_a16 J31_a9 J31_a12 J31_a13 J31_a17 J31_a18 J31_a5 0 (ib_w 0 1700 hJ31_c0_117 rfl) (ib_w 0 12 hg_many_3 rfl) (ib_w 10 120 hJ31_a8_4 rfl) hpg_walkers (ib_w (-1) 1600 hg_codeFrom_3 rfl) (ib_w (-1) 1600 hg_codeFrom_4 rfl) (ib_w (-1) 1600 hg_codeFrom_5 rfl) (ib_w 0 1600 hg_codeEnd_3 rfl) (ib_w 0 1600 hg_codeEnd_4 rfl) (ib_w 0 1600 hg_codeEnd_5 rfl) hJ31_a11 hG0 hG1 hG2) mV_X10_560 hPc hDc rfl rfl rfl hl rfl rfl (Nat.le_of_ble_eq_true rfl) ⟨(Nat.le_of_ble_eq_true rfl), (Nat.le_of_ble_eq_true rfl)⟩ ⟨(Nat.le_of_ble_eq_true rfl), (Nat.le_of_ble_eq_true rfl)⟩ dX10_later_38) (fun r40 u41 H locs hw hP hD hS => ?_)
            obtain ⟨v42, v43, v44, v45, v46, v47, v48, v49, v50, f51, f52, f53, f54, f55, f56, f57, f58, f59, f60, f61, f62⟩ := u41
            try dsimp only at hP hD hw
            replace hP : va_P (dC, dI) vwCl [(wi_rm57_0_9_0 rm cy J31_a2), (a_this, .inr (10, mfs rm x_taped x_at x_end x_ended x_bad x_badPlace x_fault x_faultPlace x_namePlace x_awayTold x_away x_coded x_statements x_isCrossing v42 v43 v44 v45 v46 v47 v48 v49 x_rowMany x_fitMany x_fitRules x_fitGreen x_undoable x_newest x_seeded x_qCoded x_qWaits x_qOpened x_qBase v50 x_qAnswer x_qIsNew x_octets)), (wi_rm49_0_6_0 rm cy g_codeFrom), (wi_rm50_0_6_0 rm cy g_codeEnd), (wi_rm116_1_1700_1 rm cy f51), (wi_rm51_0_3200_0 rm cy g_codes), (wi_rm46_0_48_0 rm cy g_walkers), (wi_rm56_0_9_0 rm cy f52), (wi_rm43_0_8_0 rm cy g_bar), (wi_rm65_0_12_0 rm cy f53), (wi_rm44_0_24_0 rm cy g_kinds), (wi_rm61_0_300_0 rm cy f54), (wi_rm66_3_12_0 rm cy f55), (wi_rm67_3_12_0 rm cy f56), (wi_rm60_3_320_0 rm cy f57), (wi_rm63_3_12_0 rm cy f58), (wi_rm64_0_12_0 rm cy f59), (wi_rm68_3_12_0 rm cy f60), (wi_rm69_3_300_0 rm cy f61), (wi_rm41_0_4_0 rm cy g_many), (wi_rm62_3_300_0 rm cy f62)] H := hP
            replace hD := k_D hP hD
            obtain ⟨h63, h64, h65, h66, h67⟩ := hw
            have h67 := by have h9 := h67; try simp only [show (0 : Int32).toInt = (0 : Int) from rfl] at h9; exact h9
            replace hq := lf_p1 hq h67
            replace hq := lf_p1 hq rfl
            replace hq := lf_p1 hq rfl
            replace hq := lf_p1 hq rfl
            replace hq := lf_p1 hq rfl
            replace hq := lf_p1 hq rfl
            replace hq := lf_p1 hq rfl
            replace hq := lf_p1 hq rfl
            replace hq := lf_p1 hq rfl
            replace hq := lf_p1 hq rfl
            replace hq := lf_p1 hq rfl
            replace hq := lf_p1 hq rfl
            replace hq := lf_p1 hq rfl
            replace hq := lf_p1 hq rfl
            replace hq := lf_p1 hq rfl
            replace hq := lf_p1 hq rfl
            replace hq := lf_p1 hq rfl
            replace hq := lf_p1 hq rfl
            replace hq := lf_p1 hq rfl
            replace hq := lf_p1 hq rfl
            replace hq := lf_p1 hq rfl
            refine lv_pop hx hb dX10_later_41 rfl ?_
            obtain ⟨z68, ez68⟩ : ∃ y : Int32, y = J31_l3 + 1 := ⟨_, rfl⟩
            refine lv_iinc (v := z68) (lv' := [(3, .int z68), (0, .ref a_this), (1, .int p0), (2, .int p1)]) hx hb dX10_later_42 hl (k := 3) rfl (by rw [ez68]; rfl) (Nat.le_of_ble_eq_true rfl) rfl (fun ls hl => ?_)
            have h69 := ib_add h39 (ib_c 1 1 1 rfl) rfl
            rw [← ez68] at h69
            have h70 : ib z68 1 29 := ib_w 1 29 h69.1 rfl
            have Ez68 := lf_add h69.2 (lf_rf J31_l3) (lf_lc 1 (1 : Int) rfl)
            refine lv_goto (tgt := 31) hx hb dX10_later_45 rfl ?_
            exact ih31 J31_a2 z68 v42 v43 v44 v45 v46 v47 v48 v49 v50 f52 f51 f53 f54 f55 f56 f57 f58 f59 f60 f61 f62 H locs ls (ib_w 0 29 h38 rfl) (ib_w 0 5 hK31_p1 rfl) (ib_w 1 1 hK31_x_isCrossing rfl) (ib_w 10 120 hJ31_a8_4 rfl) (ib_w 0 29 h70 rfl) (ib_w 0 1 h63 rfl) (ib_w 0 1 h64 rfl) (ib_w 0 1700 h65 rfl) h66 (by rw [← hK31]; rw [lf_u Ez68]; exact hq) (by have := h69.2; have : (1 : Int32).toInt = 1 := rfl; omega) (hP.sub [1, 7, 0, 2, 3, 4, 5, 6, 8, 9, 10, 11, 12, 13, 14, 15, 16, 17, 18, 19, 20] rfl) (hD.sub [1, 7, 0, 2, 3, 4, 5, 6, 8, 9, 10, 11, 12, 13, 14, 15, 16, 17, 18, 19, 20] (by decide +kernel) rfl) hS (lv_sub hl [1, 2, 3, 0] rfl)
  have jn23 : ∀  (H : Heap) (locs : List Loc) (ls : Array Slot), (O = F_X10_later_23 (Int32.toInt x_textKind) (Int32.toInt x_askSecond) (Int32.toInt x_redMany) (Int32.toInt x_isOpen) (Int32.toInt x_lastGreen) (Int32.toInt x_greenTo) (Int32.toInt x_isCycleGreen) (Int32.toInt x_stillGreen) (Int32.toInt x_qPiled) (lf_A g_now) (lf_A g_aside) (lf_A g_isCar) (lf_A g_gaps) (lf_A g_isGreen) (lf_A g_isHere) (lf_A g_crosses) (lf_A g_waits) (lf_A g_goes) (lf_A g_harms) (lf_A g_presses) (lf_A g_crossedIn) (lf_L g_qPile) ) → va_P (dC, dI) vwCl [(a_this, .inr (10, mfs rm x_taped x_at x_end x_ended x_bad x_badPlace x_fault x_faultPlace x_namePlace x_awayTold x_away x_coded x_statements x_isCrossing x_textKind x_askSecond x_redMany x_isOpen x_lastGreen x_greenTo x_isCycleGreen x_stillGreen x_rowMany x_fitMany x_fitRules x_fitGreen x_undoable x_newest x_seeded x_qCoded x_qWaits x_qOpened x_qBase x_qPiled x_qAnswer x_qIsNew x_octets)), (wi_rm56_0_9_0 rm cy g_now), (wi_rm57_0_9_0 rm cy g_aside), (wi_rm49_0_6_0 rm cy g_codeFrom), (wi_rm50_0_6_0 rm cy g_codeEnd), (wi_rm116_1_1700_1 rm cy g_qPile), (wi_rm51_0_3200_0 rm cy g_codes), (wi_rm46_0_48_0 rm cy g_walkers), (wi_rm43_0_8_0 rm cy g_bar), (wi_rm65_0_12_0 rm cy g_waits), (wi_rm44_0_24_0 rm cy g_kinds), (wi_rm61_0_300_0 rm cy g_gaps), (wi_rm66_3_12_0 rm cy g_goes), (wi_rm67_3_12_0 rm cy g_harms), (wi_rm60_3_320_0 rm cy g_isCar), (wi_rm63_3_12_0 rm cy g_isHere), (wi_rm64_0_12_0 rm cy g_crosses), (wi_rm68_3_12_0 rm cy g_presses), (wi_rm69_3_300_0 rm cy g_crossedIn), (wi_rm41_0_4_0 rm cy g_many), (wi_rm62_3_300_0 rm cy g_isGreen)] H → va_D A [(a_this, .inr (10, mfs rm x_taped x_at x_end x_ended x_bad x_badPlace x_fault x_faultPlace x_namePlace x_awayTold x_away x_coded x_statements x_isCrossing x_textKind x_askSecond x_redMany x_isOpen x_lastGreen x_greenTo x_isCycleGreen x_stillGreen x_rowMany x_fitMany x_fitRules x_fitGreen x_undoable x_newest x_seeded x_qCoded x_qWaits x_qOpened x_qBase x_qPiled x_qAnswer x_qIsNew x_octets)), (wi_rm56_0_9_0 rm cy g_now), (wi_rm57_0_9_0 rm cy g_aside), (wi_rm49_0_6_0 rm cy g_codeFrom), (wi_rm50_0_6_0 rm cy g_codeEnd), (wi_rm116_1_1700_1 rm cy g_qPile), (wi_rm51_0_3200_0 rm cy g_codes), (wi_rm46_0_48_0 rm cy g_walkers), (wi_rm43_0_8_0 rm cy g_bar), (wi_rm65_0_12_0 rm cy g_waits), (wi_rm44_0_24_0 rm cy g_kinds), (wi_rm61_0_300_0 rm cy g_gaps), (wi_rm66_3_12_0 rm cy g_goes), (wi_rm67_3_12_0 rm cy g_harms), (wi_rm60_3_320_0 rm cy g_isCar), (wi_rm63_3_12_0 rm cy g_isHere), (wi_rm64_0_12_0 rm cy g_crosses), (wi_rm68_3_12_0 rm cy g_presses), (wi_rm69_3_300_0 rm cy g_crossedIn), (wi_rm41_0_4_0 rm cy g_many), (wi_rm62_3_300_0 rm cy g_isGreen)] → va_S A s.heap H locs → lv_has ls 4 [(0, .ref a_this), (1, .int p0), (2, .int p1)] → W p l e { frames := 7, cells := 0, slots := 0, locals := 159 } s m args below meth c H locs 0 0 Q (F0 m 23 ls []) := by
    intro H locs ls hq hP hD hS hl
    unfold F_X10_later_23 at hq
    refine lv_iconst (v := (-1)) hx hb dX10_later_23 rfl ?_
    subst hQ; exact k_iret hx hb hr hlk rfl ((x_textKind, x_askSecond, x_redMany, x_isOpen, x_lastGreen, x_greenTo, x_isCycleGreen, x_stillGreen, x_qPiled, g_now, g_aside, g_qPile, g_waits, g_gaps, g_goes, g_harms, g_isCar, g_isHere, g_crosses, g_presses, g_crossedIn, g_isGreen)) hS ⟨ib_w 0 1 hx_isOpen rfl, ib_w 0 1 hx_isCycleGreen rfl, ib_w 0 1700 hx_qPiled rfl, hg_gaps, (hO.symm.trans (by try simp only [show ((-1) : Int32).toInt = (-1 : Int) from rfl]; exact hq))⟩ hP hD (Nat.le_of_ble_eq_true rfl) (Nat.le_of_ble_eq_true rfl) dX10_later_24
  refine lv_aload_n hx hb dX10_later_0 rfl (lv_at hl 0 rfl) ?_
  refine lv_iload_n hx hb dX10_later_1 rfl (lv_at hl 1 rfl) ?_
  refine lv_iconst (v := 0) hx hb dX10_later_2 rfl ?_
  refine lv_bipush (v := 29) hx hb dX10_later_3 rfl ?_
  refine k_jim hP hD hS hA [0, 1] [false, false, true, true, true, true, true, true, true, true, true, true, true, true, true, true, true, true, true, true, true] rfl rfl (by decide +kernel) 0 0 (Nat.le_of_ble_eq_true rfl) (Nat.le_of_ble_eq_true rfl) (fun hPc hDc => k_runV (As := [.int p0, .int 0, .int 29]) (rest := []) C0 hZ hS hA (s_X10_isAhead_a1_0_a2_29 l dC dI cy sq a_this rm x_taped x_at x_end x_ended x_bad x_badPlace x_fault x_faultPlace x_namePlace x_awayTold x_away x_coded x_statements x_isCrossing x_textKind x_askSecond x_redMany x_isOpen x_lastGreen x_greenTo x_isCycleGreen x_stillGreen x_rowMany x_fitMany x_fitRules x_fitGreen x_undoable x_newest x_seeded x_qCoded x_qWaits x_qOpened x_qBase x_qPiled x_qAnswer x_qIsNew x_octets g_now p0 (ib_w 0 1 hx_isCrossing rfl)) mV_X10_554 hPc hDc rfl rfl rfl hl rfl rfl (Nat.le_of_ble_eq_true rfl) ⟨(Nat.le_of_ble_eq_true rfl), (Nat.le_of_ble_eq_true rfl)⟩ ⟨(Nat.le_of_ble_eq_true rfl), (Nat.le_of_ble_eq_true rfl)⟩ dX10_later_5) (fun r71 u72 H locs hw hP hD hS => ?_)
  try dsimp only at hP hD hw
  replace hP : va_P (dC, dI) vwCl [(wi_rm57_0_9_0 rm cy g_aside), (wi_rm49_0_6_0 rm cy g_codeFrom), (wi_rm50_0_6_0 rm cy g_codeEnd), (wi_rm116_1_1700_1 rm cy g_qPile), (wi_rm51_0_3200_0 rm cy g_codes), (wi_rm46_0_48_0 rm cy g_walkers), (wi_rm43_0_8_0 rm cy g_bar), (wi_rm65_0_12_0 rm cy g_waits), (wi_rm44_0_24_0 rm cy g_kinds), (wi_rm61_0_300_0 rm cy g_gaps), (wi_rm66_3_12_0 rm cy g_goes), (wi_rm67_3_12_0 rm cy g_harms), (wi_rm60_3_320_0 rm cy g_isCar), (wi_rm63_3_12_0 rm cy g_isHere), (wi_rm64_0_12_0 rm cy g_crosses), (wi_rm68_3_12_0 rm cy g_presses), (wi_rm69_3_300_0 rm cy g_crossedIn), (wi_rm41_0_4_0 rm cy g_many), (wi_rm62_3_300_0 rm cy g_isGreen), (a_this, .inr (10, mfs rm x_taped x_at x_end x_ended x_bad x_badPlace x_fault x_faultPlace x_namePlace x_awayTold x_away x_coded x_statements x_isCrossing x_textKind x_askSecond x_redMany x_isOpen x_lastGreen x_greenTo x_isCycleGreen x_stillGreen x_rowMany x_fitMany x_fitRules x_fitGreen x_undoable x_newest x_seeded x_qCoded x_qWaits x_qOpened x_qBase x_qPiled x_qAnswer x_qIsNew x_octets)), (wi_rm56_0_9_0 rm cy g_now)] H := hP
  replace hD := k_D hP hD
  obtain ⟨h73, h74, h75, h76⟩ := hw
  replace hq := lf_b1 hq h76
  refine lv_if_eq (tgt := 23) hx hb dX10_later_8 rfl (fun c77 => ?_) (fun c77 => ?_)
  · replace hq := lf_pos hq (lf_eq (lf_rf r71) (lf_lc 0 (0 : Int) rfl) c77)
    have h78 := ib_eq h73 (ib_c 0 0 0 rfl) c77
    have h79 : ib r71 0 0 := ib_w 0 0 h78.1 rfl
    exact jn23  H locs ls (by exact hq) (hP.sub [19, 20, 0, 1, 2, 3, 4, 5, 6, 7, 8, 9, 10, 11, 12, 13, 14, 15, 16, 17, 18] rfl) (hD.sub [19, 20, 0, 1, 2, 3, 4, 5, 6, 7, 8, 9, 10, 11, 12, 13, 14, 15, 16, 17, 18] (by decide +kernel) rfl) hS (lv_sub hl [0, 1, 2] rfl)
  · as_aux_lemma =>
      replace hq := lf_neg hq (lf_ne (lf_rf r71) (lf_lc 0 (0 : Int) rfl) c77)
      have h80 : ib r71 1 1 := ib_w 1 1 (ib_ne_lo 0 h73 rfl c77) rfl
      have h81 : ib x_isCrossing 1 1 := ib_w 1 1 (ib_two hx_isCrossing (h74 (ib_nz h80 rfl))) rfl
      have h82 : ib (g_bar 4) 10 120 := ib_w 10 120 (ib_two hg_bar_4 (hc_cr (ib_nz h81 rfl))) rfl
      have h83 : ib p0 0 29 := ib_w 0 29 (ib_two (ib_any p0) (h75 (ib_nz h80 rfl))) rfl
      refine lv_iload_n hx hb dX10_later_11 rfl (lv_at hl 2 rfl) ?_
      refine lv_i2l (v := p1.toInt64) hx hb dX10_later_12 rfl ?_
      refine lv_lconst (v := 0) hx hb dX10_later_13 (by decide) ?_
      refine lv_ldc2 hx hb C0.2.2.2.1 (C0.2.2.2.2.1 _ wd789) dX10_later_14 ?_
      refine k_jim hP hD hS hA [] [true, true, true, true, true, true, true, true, true, true, true, true, true, true, true, true, true, true, true, true, true] rfl rfl (by decide +kernel) 0 0 (Nat.le_of_ble_eq_true rfl) (Nat.le_of_ble_eq_true rfl) (fun hPc hDc => k_runS (As := [.long p1.toInt64, .long 0, .long 5]) (rest := []) C0 hZ hS hA (c_isIn l dC dI cy sq p1.toInt64 0 5) mS_X10_318 hPc hDc hl rfl rfl (Nat.le_of_ble_eq_true rfl) ⟨(Nat.le_of_ble_eq_true rfl), (Nat.le_of_ble_eq_true rfl)⟩ ⟨(Nat.le_of_ble_eq_true rfl), (Nat.le_of_ble_eq_true rfl)⟩ dX10_later_17) (fun r84 u85 H locs hw hP hD hS => ?_)
      replace hP : va_P (dC, dI) vwCl [(wi_rm57_0_9_0 rm cy g_aside), (wi_rm49_0_6_0 rm cy g_codeFrom), (wi_rm50_0_6_0 rm cy g_codeEnd), (wi_rm116_1_1700_1 rm cy g_qPile), (wi_rm51_0_3200_0 rm cy g_codes), (wi_rm46_0_48_0 rm cy g_walkers), (wi_rm43_0_8_0 rm cy g_bar), (wi_rm65_0_12_0 rm cy g_waits), (wi_rm44_0_24_0 rm cy g_kinds), (wi_rm61_0_300_0 rm cy g_gaps), (wi_rm66_3_12_0 rm cy g_goes), (wi_rm67_3_12_0 rm cy g_harms), (wi_rm60_3_320_0 rm cy g_isCar), (wi_rm63_3_12_0 rm cy g_isHere), (wi_rm64_0_12_0 rm cy g_crosses), (wi_rm68_3_12_0 rm cy g_presses), (wi_rm69_3_300_0 rm cy g_crossedIn), (wi_rm41_0_4_0 rm cy g_many), (wi_rm62_3_300_0 rm cy g_isGreen), (a_this, .inr (10, mfs rm x_taped x_at x_end x_ended x_bad x_badPlace x_fault x_faultPlace x_namePlace x_awayTold x_away x_coded x_statements x_isCrossing x_textKind x_askSecond x_redMany x_isOpen x_lastGreen x_greenTo x_isCycleGreen x_stillGreen x_rowMany x_fitMany x_fitRules x_fitGreen x_undoable x_newest x_seeded x_qCoded x_qWaits x_qOpened x_qBase x_qPiled x_qAnswer x_qIsNew x_octets)), (wi_rm56_0_9_0 rm cy g_now)] H := hP
      replace hD := k_D hP hD
      have h86 := hw
      have h87 : ib r84 0 1 := by rw [h86]; exact k_isf_01 _ _ _
      have Er84 := lf_isine h86 (lf_i2l (lf_rf p1)) (lf_ll 0 (0 : Int) rfl) (lf_ll 5 (5 : Int) rfl)
      refine lv_if_ne (tgt := 25) hx hb dX10_later_20 rfl (fun c88 => ?_) (fun c88 => ?_)
      · replace hq := lf_neg hq (lf_ne Er84 (lf_lc 0 (0 : Int) rfl) c88)
        have h89 : ib r84 1 1 := ib_w 1 1 (ib_ne_lo 0 h87 rfl c88) rfl
        have h90 : ib p1 0 5 := ib_w 0 5 (ib_two (ib_any p1) (k_isf_v h86 (show 0 ≤ (0 : Int64).toInt by decide) (show (5 : Int64).toInt ≤ 5 by decide) (ib_nz h89 rfl))) rfl
        refine lv_aload_n hx hb dX10_later_25 rfl (lv_at hl 0 rfl) ?_
        refine k_jvm hP hD hS hA [19, 20, 0] [false, true, true, true, true, true, true, true, true, true, true, true, true, true, true, true, true, true, true] rfl rfl (by decide +kernel) 0 0 (Nat.le_of_ble_eq_true rfl) (Nat.le_of_ble_eq_true rfl) (fun hPc hDc => k_runV (As := []) (rest := []) C0 hZ hS hA (s_X10_putsAside l dC dI cy sq a_this rm x_taped x_at x_end x_ended x_bad x_badPlace x_fault x_faultPlace x_namePlace x_awayTold x_away x_coded x_statements x_isCrossing x_textKind x_askSecond x_redMany x_isOpen x_lastGreen x_greenTo x_isCycleGreen x_stillGreen x_rowMany x_fitMany x_fitRules x_fitGreen x_undoable x_newest x_seeded x_qCoded x_qWaits x_qOpened x_qBase x_qPiled x_qAnswer x_qIsNew x_octets g_now g_aside ) mV_X10_557 hPc hDc rfl rfl rfl hl rfl rfl (Nat.le_of_ble_eq_true rfl) ⟨(Nat.le_of_ble_eq_true rfl), (Nat.le_of_ble_eq_true rfl)⟩ ⟨(Nat.le_of_ble_eq_true rfl), (Nat.le_of_ble_eq_true rfl)⟩ dX10_later_26) (fun u92 H locs hw hP hD hS => ?_)
        obtain ⟨f93, ef93⟩ : ∃ z, z = u92 := ⟨_, rfl⟩; subst ef93
        try dsimp only at hP hD hw
        replace hP : va_P (dC, dI) vwCl [(wi_rm49_0_6_0 rm cy g_codeFrom), (wi_rm50_0_6_0 rm cy g_codeEnd), (wi_rm116_1_1700_1 rm cy g_qPile), (wi_rm51_0_3200_0 rm cy g_codes), (wi_rm46_0_48_0 rm cy g_walkers), (wi_rm43_0_8_0 rm cy g_bar), (wi_rm65_0_12_0 rm cy g_waits), (wi_rm44_0_24_0 rm cy g_kinds), (wi_rm61_0_300_0 rm cy g_gaps), (wi_rm66_3_12_0 rm cy g_goes), (wi_rm67_3_12_0 rm cy g_harms), (wi_rm60_3_320_0 rm cy g_isCar), (wi_rm63_3_12_0 rm cy g_isHere), (wi_rm64_0_12_0 rm cy g_crosses), (wi_rm68_3_12_0 rm cy g_presses), (wi_rm69_3_300_0 rm cy g_crossedIn), (wi_rm41_0_4_0 rm cy g_many), (wi_rm62_3_300_0 rm cy g_isGreen), (a_this, .inr (10, mfs rm x_taped x_at x_end x_ended x_bad x_badPlace x_fault x_faultPlace x_namePlace x_awayTold x_away x_coded x_statements x_isCrossing x_textKind x_askSecond x_redMany x_isOpen x_lastGreen x_greenTo x_isCycleGreen x_stillGreen x_rowMany x_fitMany x_fitRules x_fitGreen x_undoable x_newest x_seeded x_qCoded x_qWaits x_qOpened x_qBase x_qPiled x_qAnswer x_qIsNew x_octets)), (wi_rm56_0_9_0 rm cy g_now), (wi_rm57_0_9_0 rm cy f93)] H := hP
        replace hD := k_D hP hD
        have h94 := hw
        replace hq := lf_b1 hq h94
        refine lv_iconst (v := 0) hx hb dX10_later_29 rfl ?_
        refine lv_istore_n (lv' := [(3, .int 0), (0, .ref a_this), (1, .int p0), (2, .int p1)]) hx hb dX10_later_30 rfl hl (Nat.le_of_ble_eq_true rfl) rfl (fun ls hl => ?_)
        exact jn31 31 f93 0 x_textKind x_askSecond x_redMany x_isOpen x_lastGreen x_greenTo x_isCycleGreen x_stillGreen x_qPiled g_now g_qPile g_waits g_gaps g_goes g_harms g_isCar g_isHere g_crosses g_presses g_crossedIn g_isGreen H locs ls (ib_w 0 29 h83 rfl) (ib_w 0 5 h90 rfl) (ib_w 1 1 h81 rfl) (ib_w 10 120 h82 rfl) (ib_w 0 29 (ib_c 0 0 0 rfl) rfl) (ib_w 0 1 hx_isOpen rfl) (ib_w 0 1 hx_isCycleGreen rfl) (ib_w 0 1700 hx_qPiled rfl) hg_gaps (by try simp only [show (0 : Int32).toInt = (0 : Int) from rfl]; exact hq) (by have := (ib_c 0 0 0 rfl); unfold ib at this; omega) (hP.sub [18, 19, 20, 0, 1, 2, 3, 4, 5, 6, 7, 8, 9, 10, 11, 12, 13, 14, 15, 16, 17] rfl) (hD.sub [18, 19, 20, 0, 1, 2, 3, 4, 5, 6, 7, 8, 9, 10, 11, 12, 13, 14, 15, 16, 17] (by decide +kernel) rfl) hS (lv_sub hl [1, 2, 3, 0] rfl)
      · replace hq := lf_pos hq (lf_eq Er84 (lf_lc 0 (0 : Int) rfl) c88)
        have h95 := ib_eq h87 (ib_c 0 0 0 rfl) c88
        have h96 : ib r84 0 0 := ib_w 0 0 h95.1 rfl
        exact jn23  H locs ls (by exact hq) (hP.sub [19, 20, 0, 1, 2, 3, 4, 5, 6, 7, 8, 9, 10, 11, 12, 13, 14, 15, 16, 17, 18] rfl) (hD.sub [19, 20, 0, 1, 2, 3, 4, 5, 6, 7, 8, 9, 10, 11, 12, 13, 14, 15, 16, 17, 18] (by decide +kernel) rfl) hS (lv_sub hl [0, 1, 2] rfl)
set_option maxHeartbeats 4000000 in
set_option maxRecDepth 100000 in
theorem s_X10_toldOfDay_a0_3 (l : Launch) (dC : Nat → ClassId) (dI : Nat → Nat → Nat) (cy : Nat → ClassId) (sq : Nat → Nat) (a_this : Nat) (rm : Nat → Nat) (x_taped : Int32) (x_at : Int32) (x_end : Int32) (x_ended : Int32) (x_bad : Int32) (x_badPlace : Int32) (x_fault : Int32) (x_faultPlace : Int32) (x_namePlace : Int32) (x_awayTold : Int32) (x_away : Int32) (x_coded : Int32) (x_statements : Int32) (x_isCrossing : Int32) (x_textKind : Int32) (x_askSecond : Int32) (x_redMany : Int32) (x_isOpen : Int32) (x_lastGreen : Int32) (x_greenTo : Int32) (x_isCycleGreen : Int32) (x_stillGreen : Int32) (x_rowMany : Int32) (x_fitMany : Int32) (x_fitRules : Int32) (x_fitGreen : Int32) (x_undoable : Int32) (x_newest : Int32) (x_seeded : Int64) (x_qCoded : Int32) (x_qWaits : Int32) (x_qOpened : Int32) (x_qBase : Int32) (x_qPiled : Int32) (x_qAnswer : Int64) (x_qIsNew : Int32) (x_octets : Int32) (g_many : Nat → Int32) (g_isHere : Nat → Int32) (hg_many_3 : ib (g_many 3) 0 12) : k_Met l yX10_toldOfDay cX10_toldOfDay 2 (some .int) { frames := 2, cells := 0, slots := 0, locals := 42 } dC dI cy sq [.ref a_this, .int 3] [(a_this, .inr (10, mfs rm x_taped x_at x_end x_ended x_bad x_badPlace x_fault x_faultPlace x_namePlace x_awayTold x_away x_coded x_statements x_isCrossing x_textKind x_askSecond x_redMany x_isOpen x_lastGreen x_greenTo x_isCycleGreen x_stillGreen x_rowMany x_fitMany x_fitRules x_fitGreen x_undoable x_newest x_seeded x_qCoded x_qWaits x_qOpened x_qBase x_qPiled x_qAnswer x_qIsNew x_octets)), (wi_rm41_0_4_0 rm cy g_many), (wi_rm63_3_12_0 rm cy g_isHere)] (k_Qi dC dI (fun (r : Int32) (_ : Unit) => (F_X10_toldOfDay_a0_3 (lf_A g_many) (lf_A g_isHere) = ((Int32.toInt r)))) (fun _ : Unit => [(a_this, .inr (10, mfs rm x_taped x_at x_end x_ended x_bad x_badPlace x_fault x_faultPlace x_namePlace x_awayTold x_away x_coded x_statements x_isCrossing x_textKind x_askSecond x_redMany x_isOpen x_lastGreen x_greenTo x_isCycleGreen x_stillGreen x_rowMany x_fitMany x_fitRules x_fitGreen x_undoable x_newest x_seeded x_qCoded x_qWaits x_qOpened x_qBase x_qPiled x_qAnswer x_qIsNew x_octets)), (wi_rm41_0_4_0 rm cy g_many), (wi_rm63_3_12_0 rm cy g_isHere)])) := by
  refine k_ofW2 (by decide +kernel) (Nat.le_of_ble_eq_true rfl) ?_
  intro p e s m below meth c A ls H locs args Q hQ C0 hZ hr hlk hin hP hD hA hS hl
  have C0 : k_cx p s m args c cX10_toldOfDay 2 RX10 dC dI cy sq := C0
  have hx := C0.1
  have hb := C0.2.1
  have hl : lv_has ls 2 [(0, .ref a_this), (1, .int 3)] := hl
  obtain ⟨O, hO⟩ : ∃ o, o = F_X10_toldOfDay_a0_3 (lf_A g_many) (lf_A g_isHere) := ⟨_, rfl⟩
  have hq := hO
  unfold F_X10_toldOfDay_a0_3 at hq
  refine lv_iload_n hx hb dX10_toldOfDay_0 rfl (lv_at hl 1 rfl) ?_
  refine lv_tableIn (off := 64) (tgt := 65) hx hb dX10_toldOfDay_1 (by decide) (by decide) (by decide) (by decide) ?_
  refine lv_aload_n hx hb dX10_toldOfDay_65 rfl (lv_at hl 0 rfl) ?_
  refine k_jim hP hD hS hA [0, 1, 2] [] rfl rfl rfl 0 0 (Nat.le_of_ble_eq_true rfl) (Nat.le_of_ble_eq_true rfl) (fun hPc hDc => k_runV (As := []) (rest := []) C0 hZ hS hA (s_X10_notCrossed l dC dI cy sq a_this rm x_taped x_at x_end x_ended x_bad x_badPlace x_fault x_faultPlace x_namePlace x_awayTold x_away x_coded x_statements x_isCrossing x_textKind x_askSecond x_redMany x_isOpen x_lastGreen x_greenTo x_isCycleGreen x_stillGreen x_rowMany x_fitMany x_fitRules x_fitGreen x_undoable x_newest x_seeded x_qCoded x_qWaits x_qOpened x_qBase x_qPiled x_qAnswer x_qIsNew x_octets g_many g_isHere (ib_w 0 12 hg_many_3 rfl)) mV_X10_515 hPc hDc rfl rfl rfl hl rfl rfl (Nat.le_of_ble_eq_true rfl) ⟨(Nat.le_of_ble_eq_true rfl), (Nat.le_of_ble_eq_true rfl)⟩ ⟨(Nat.le_of_ble_eq_true rfl), (Nat.le_of_ble_eq_true rfl)⟩ dX10_toldOfDay_66) (fun r1 u2 H locs hw hP hD hS => ?_)
  try dsimp only at hP hD hw
  replace hP : va_P (dC, dI) vwCl [(a_this, .inr (10, mfs rm x_taped x_at x_end x_ended x_bad x_badPlace x_fault x_faultPlace x_namePlace x_awayTold x_away x_coded x_statements x_isCrossing x_textKind x_askSecond x_redMany x_isOpen x_lastGreen x_greenTo x_isCycleGreen x_stillGreen x_rowMany x_fitMany x_fitRules x_fitGreen x_undoable x_newest x_seeded x_qCoded x_qWaits x_qOpened x_qBase x_qPiled x_qAnswer x_qIsNew x_octets)), (wi_rm41_0_4_0 rm cy g_many), (wi_rm63_3_12_0 rm cy g_isHere)] H := hP
  replace hD := k_D hP hD
  have h3 := hw
  replace hq := lf_b1 hq h3
  subst hQ; exact k_iret hx hb hr hlk rfl () hS ((hO.symm.trans (by exact hq))) hP hD (Nat.le_of_ble_eq_true rfl) (Nat.le_of_ble_eq_true rfl) dX10_toldOfDay_69
set_option maxHeartbeats 4000000 in
set_option maxRecDepth 100000 in
theorem s_X10_least (l : Launch) (dC : Nat → ClassId) (dI : Nat → Nat → Nat) (cy : Nat → ClassId) (sq : Nat → Nat) (a_this : Nat) (rm : Nat → Nat) (x_taped : Int32) (x_at : Int32) (x_end : Int32) (x_ended : Int32) (x_bad : Int32) (x_badPlace : Int32) (x_fault : Int32) (x_faultPlace : Int32) (x_namePlace : Int32) (x_awayTold : Int32) (x_away : Int32) (x_coded : Int32) (x_statements : Int32) (x_isCrossing : Int32) (x_textKind : Int32) (x_askSecond : Int32) (x_redMany : Int32) (x_isOpen : Int32) (x_lastGreen : Int32) (x_greenTo : Int32) (x_isCycleGreen : Int32) (x_stillGreen : Int32) (x_rowMany : Int32) (x_fitMany : Int32) (x_fitRules : Int32) (x_fitGreen : Int32) (x_undoable : Int32) (x_newest : Int32) (x_seeded : Int64) (x_qCoded : Int32) (x_qWaits : Int32) (x_qOpened : Int32) (x_qBase : Int32) (x_qPiled : Int32) (x_qAnswer : Int64) (x_qIsNew : Int32) (x_octets : Int32) (g_many : Nat → Int32) (g_bar : Nat → Int32) (g_kinds : Nat → Int32) (g_walkers : Nat → Int32) (g_codeFrom : Nat → Int32) (g_codeEnd : Nat → Int32) (g_codes : Nat → Int32) (g_now : Nat → Int32) (g_isCar : Nat → Int32) (g_gaps : Nat → Int32) (g_isGreen : Nat → Int32) (g_isHere : Nat → Int32) (g_crosses : Nat → Int32) (g_waits : Nat → Int32) (g_goes : Nat → Int32) (g_harms : Nat → Int32) (g_presses : Nat → Int32) (g_crossedIn : Nat → Int32) (g_qPile : Nat → Int64) (hx_isCrossing : ib x_isCrossing 0 1) (hx_isOpen : ib x_isOpen 0 1) (hx_isCycleGreen : ib x_isCycleGreen 0 1) (hx_qPiled : ib x_qPiled 0 1700) (hg_many_3 : ib (g_many 3) 0 12) (hg_bar_4 : ib (g_bar 4) 0 120) (hpg_walkers : ip g_walkers 48 2 0 0 5) (hg_codeFrom_3 : ib (g_codeFrom 3) (-1) 1600) (hg_codeFrom_4 : ib (g_codeFrom 4) (-1) 1600) (hg_codeEnd_3 : ib (g_codeEnd 3) 0 1600) (hg_codeEnd_4 : ib (g_codeEnd 4) 0 1600) (hg_gaps : ia g_gaps 300 0 20) (hG0 : ¬ g_codeFrom 3 = (-1) → okc g_codes 1600 false (g_codeFrom 3) (g_codeEnd 3)) (hG1 : ¬ g_codeFrom 4 = (-1) → okc g_codes 1600 true (g_codeFrom 4) (g_codeEnd 4)) (hc_cr : ¬ x_isCrossing = 0 → ib (g_bar 4) 10 120) : k_Met l yX10_least cX10_least 2 (some .int) { frames := 6, cells := 0, slots := 0, locals := 137 } dC dI cy sq [.ref a_this] [(a_this, .inr (10, mfs rm x_taped x_at x_end x_ended x_bad x_badPlace x_fault x_faultPlace x_namePlace x_awayTold x_away x_coded x_statements x_isCrossing x_textKind x_askSecond x_redMany x_isOpen x_lastGreen x_greenTo x_isCycleGreen x_stillGreen x_rowMany x_fitMany x_fitRules x_fitGreen x_undoable x_newest x_seeded x_qCoded x_qWaits x_qOpened x_qBase x_qPiled x_qAnswer x_qIsNew x_octets)), (wi_rm49_0_6_0 rm cy g_codeFrom), (wi_rm50_0_6_0 rm cy g_codeEnd), (wi_rm116_1_1700_1 rm cy g_qPile), (wi_rm51_0_3200_0 rm cy g_codes), (wi_rm46_0_48_0 rm cy g_walkers), (wi_rm56_0_9_0 rm cy g_now), (wi_rm43_0_8_0 rm cy g_bar), (wi_rm65_0_12_0 rm cy g_waits), (wi_rm44_0_24_0 rm cy g_kinds), (wi_rm61_0_300_0 rm cy g_gaps), (wi_rm66_3_12_0 rm cy g_goes), (wi_rm67_3_12_0 rm cy g_harms), (wi_rm60_3_320_0 rm cy g_isCar), (wi_rm63_3_12_0 rm cy g_isHere), (wi_rm64_0_12_0 rm cy g_crosses), (wi_rm68_3_12_0 rm cy g_presses), (wi_rm69_3_300_0 rm cy g_crossedIn), (wi_rm41_0_4_0 rm cy g_many), (wi_rm62_3_300_0 rm cy g_isGreen)] (k_Qi dC dI (fun (r : Int32) (u : Int32 × Int32 × Int32 × Int32 × Int32 × Int32 × Int32 × Int32 × Int32 × (Nat → Int64) × (Nat → Int32) × (Nat → Int32) × (Nat → Int32) × (Nat → Int32) × (Nat → Int32) × (Nat → Int32) × (Nat → Int32) × (Nat → Int32) × (Nat → Int32) × (Nat → Int32)) => match u with | (n0, n1, n2, n3, n4, n5, n6, n7, n8, n9, n10, n11, n12, n13, n14, n15, n16, n17, n18, n19) => ib n3 0 1 ∧ ib n6 0 1 ∧ ib n8 0 1700 ∧ ia n11 300 0 20 ∧ ib r (-1) 60 ∧ (F_X10_least (Int32.toInt x_isCrossing) (Int32.toInt x_textKind) (Int32.toInt x_askSecond) (Int32.toInt x_redMany) (Int32.toInt x_isOpen) (Int32.toInt x_lastGreen) (Int32.toInt x_greenTo) (Int32.toInt x_isCycleGreen) (Int32.toInt x_stillGreen) (Int32.toInt x_qPiled) (lf_A g_many) (lf_A g_bar) (lf_A g_kinds) (lf_A g_walkers) (lf_A g_codeFrom) (lf_A g_codeEnd) (lf_A g_codes) (lf_A g_now) (lf_A g_isCar) (lf_A g_gaps) (lf_A g_isGreen) (lf_A g_isHere) (lf_A g_crosses) (lf_A g_waits) (lf_A g_goes) (lf_A g_harms) (lf_A g_presses) (lf_A g_crossedIn) (lf_L g_qPile) = ((Int32.toInt r), (Int32.toInt n0), (Int32.toInt n1), (Int32.toInt n2), (Int32.toInt n3), (Int32.toInt n4), (Int32.toInt n5), (Int32.toInt n6), (Int32.toInt n7), (Int32.toInt n8), (lf_L n9), (lf_A n10), (lf_A n11), (lf_A n12), (lf_A n13), (lf_A n14), (lf_A n15), (lf_A n16), (lf_A n17), (lf_A n18), (lf_A n19)))) (fun u : Int32 × Int32 × Int32 × Int32 × Int32 × Int32 × Int32 × Int32 × Int32 × (Nat → Int64) × (Nat → Int32) × (Nat → Int32) × (Nat → Int32) × (Nat → Int32) × (Nat → Int32) × (Nat → Int32) × (Nat → Int32) × (Nat → Int32) × (Nat → Int32) × (Nat → Int32) => match u with | (n0, n1, n2, n3, n4, n5, n6, n7, n8, n9, n10, n11, n12, n13, n14, n15, n16, n17, n18, n19) => [(a_this, .inr (10, mfs rm x_taped x_at x_end x_ended x_bad x_badPlace x_fault x_faultPlace x_namePlace x_awayTold x_away x_coded x_statements x_isCrossing n0 n1 n2 n3 n4 n5 n6 n7 x_rowMany x_fitMany x_fitRules x_fitGreen x_undoable x_newest x_seeded x_qCoded x_qWaits x_qOpened x_qBase n8 x_qAnswer x_qIsNew x_octets)), (wi_rm49_0_6_0 rm cy g_codeFrom), (wi_rm50_0_6_0 rm cy g_codeEnd), (wi_rm116_1_1700_1 rm cy n9), (wi_rm51_0_3200_0 rm cy g_codes), (wi_rm46_0_48_0 rm cy g_walkers), (wi_rm56_0_9_0 rm cy g_now), (wi_rm43_0_8_0 rm cy g_bar), (wi_rm65_0_12_0 rm cy n10), (wi_rm44_0_24_0 rm cy g_kinds), (wi_rm61_0_300_0 rm cy n11), (wi_rm66_3_12_0 rm cy n12), (wi_rm67_3_12_0 rm cy n13), (wi_rm60_3_320_0 rm cy n14), (wi_rm63_3_12_0 rm cy n15), (wi_rm64_0_12_0 rm cy n16), (wi_rm68_3_12_0 rm cy n17), (wi_rm69_3_300_0 rm cy n18), (wi_rm41_0_4_0 rm cy g_many), (wi_rm62_3_300_0 rm cy n19)])) := by
  refine k_ofW2 (by decide +kernel) (Nat.le_of_ble_eq_true rfl) ?_
  intro p e s m below meth c A ls H locs args Q hQ C0 hZ hr hlk hin hP hD hA hS hl
  have C0 : k_cx p s m args c cX10_least 2 RX10 dC dI cy sq := C0
  have hx := C0.1
  have hb := C0.2.1
  have hl : lv_has ls 2 [(0, .ref a_this)] := hl
  obtain ⟨O, hO⟩ : ∃ o, o = F_X10_least (Int32.toInt x_isCrossing) (Int32.toInt x_textKind) (Int32.toInt x_askSecond) (Int32.toInt x_redMany) (Int32.toInt x_isOpen) (Int32.toInt x_lastGreen) (Int32.toInt x_greenTo) (Int32.toInt x_isCycleGreen) (Int32.toInt x_stillGreen) (Int32.toInt x_qPiled) (lf_A g_many) (lf_A g_bar) (lf_A g_kinds) (lf_A g_walkers) (lf_A g_codeFrom) (lf_A g_codeEnd) (lf_A g_codes) (lf_A g_now) (lf_A g_isCar) (lf_A g_gaps) (lf_A g_isGreen) (lf_A g_isHere) (lf_A g_crosses) (lf_A g_waits) (lf_A g_goes) (lf_A g_harms) (lf_A g_presses) (lf_A g_crossedIn) (lf_L g_qPile) := ⟨_, rfl⟩
  have hq := hO
  unfold F_X10_least at hq
  have jn15 : ∀ (n : Nat) (J15_c0_55 : Int32) (J15_c0_58 : Int32) (J15_c0_117 : Int32) (J15_a3 : Nat → Int64) (J15_a10 : Nat → Int32) (J15_a13 : Nat → Int32) (J15_l1 : Int32) (J15_c0_59 : Int32) (J15_c0_70 : Int32) (J15_c0_71 : Int32) (J15_c0_72 : Int32) (J15_c0_73 : Int32) (J15_c0_74 : Int32) (J15_a8 : Nat → Int32) (J15_a11 : Nat → Int32) (J15_a12 : Nat → Int32) (J15_a14 : Nat → Int32) (J15_a15 : Nat → Int32) (J15_a16 : Nat → Int32) (J15_a17 : Nat → Int32) (J15_a19 : Nat → Int32) (H : Heap) (locs : List Loc) (ls : Array Slot), ib x_isCrossing 1 1 → ib J15_c0_117 0 1700 → ib (g_bar 4) 10 120 → ib J15_l1 1 61 → ib J15_c0_70 0 1 → ib J15_c0_73 0 1 → ia J15_a10 300 0 20 → (O = F_X10_least_15 (lf_A g_many) (lf_A g_bar) (lf_A g_kinds) (lf_A g_walkers) (lf_A g_codeFrom) (lf_A g_codeEnd) (lf_A g_codes) (lf_A g_now) n (Int32.toInt J15_c0_55) (Int32.toInt J15_c0_58) (Int32.toInt J15_c0_117) (lf_L J15_a3) (lf_A J15_a10) (lf_A J15_a13) (Int32.toInt J15_l1) (Int32.toInt J15_c0_59) (Int32.toInt J15_c0_70) (Int32.toInt J15_c0_71) (Int32.toInt J15_c0_72) (Int32.toInt J15_c0_73) (Int32.toInt J15_c0_74) (lf_A J15_a8) (lf_A J15_a11) (lf_A J15_a12) (lf_A J15_a14) (lf_A J15_a15) (lf_A J15_a16) (lf_A J15_a17) (lf_A J15_a19)) → 62 ≤ J15_l1.toInt + (n : Int) → va_P (dC, dI) vwCl [(a_this, .inr (10, mfs rm x_taped x_at x_end x_ended x_bad x_badPlace x_fault x_faultPlace x_namePlace x_awayTold x_away x_coded x_statements x_isCrossing J15_c0_55 J15_c0_58 J15_c0_59 J15_c0_70 J15_c0_71 J15_c0_72 J15_c0_73 J15_c0_74 x_rowMany x_fitMany x_fitRules x_fitGreen x_undoable x_newest x_seeded x_qCoded x_qWaits x_qOpened x_qBase J15_c0_117 x_qAnswer x_qIsNew x_octets)), (wi_rm49_0_6_0 rm cy g_codeFrom), (wi_rm50_0_6_0 rm cy g_codeEnd), (wi_rm116_1_1700_1 rm cy J15_a3), (wi_rm51_0_3200_0 rm cy g_codes), (wi_rm46_0_48_0 rm cy g_walkers), (wi_rm56_0_9_0 rm cy g_now), (wi_rm43_0_8_0 rm cy g_bar), (wi_rm65_0_12_0 rm cy J15_a8), (wi_rm44_0_24_0 rm cy g_kinds), (wi_rm61_0_300_0 rm cy J15_a10), (wi_rm66_3_12_0 rm cy J15_a11), (wi_rm67_3_12_0 rm cy J15_a12), (wi_rm60_3_320_0 rm cy J15_a13), (wi_rm63_3_12_0 rm cy J15_a14), (wi_rm64_0_12_0 rm cy J15_a15), (wi_rm68_3_12_0 rm cy J15_a16), (wi_rm69_3_300_0 rm cy J15_a17), (wi_rm41_0_4_0 rm cy g_many), (wi_rm62_3_300_0 rm cy J15_a19)] H → va_D A [(a_this, .inr (10, mfs rm x_taped x_at x_end x_ended x_bad x_badPlace x_fault x_faultPlace x_namePlace x_awayTold x_away x_coded x_statements x_isCrossing J15_c0_55 J15_c0_58 J15_c0_59 J15_c0_70 J15_c0_71 J15_c0_72 J15_c0_73 J15_c0_74 x_rowMany x_fitMany x_fitRules x_fitGreen x_undoable x_newest x_seeded x_qCoded x_qWaits x_qOpened x_qBase J15_c0_117 x_qAnswer x_qIsNew x_octets)), (wi_rm49_0_6_0 rm cy g_codeFrom), (wi_rm50_0_6_0 rm cy g_codeEnd), (wi_rm116_1_1700_1 rm cy J15_a3), (wi_rm51_0_3200_0 rm cy g_codes), (wi_rm46_0_48_0 rm cy g_walkers), (wi_rm56_0_9_0 rm cy g_now), (wi_rm43_0_8_0 rm cy g_bar), (wi_rm65_0_12_0 rm cy J15_a8), (wi_rm44_0_24_0 rm cy g_kinds), (wi_rm61_0_300_0 rm cy J15_a10), (wi_rm66_3_12_0 rm cy J15_a11), (wi_rm67_3_12_0 rm cy J15_a12), (wi_rm60_3_320_0 rm cy J15_a13), (wi_rm63_3_12_0 rm cy J15_a14), (wi_rm64_0_12_0 rm cy J15_a15), (wi_rm68_3_12_0 rm cy J15_a16), (wi_rm69_3_300_0 rm cy J15_a17), (wi_rm41_0_4_0 rm cy g_many), (wi_rm62_3_300_0 rm cy J15_a19)] → va_S A s.heap H locs → lv_has ls 2 [(0, .ref a_this), (1, .int J15_l1)] → W p l e { frames := 6, cells := 0, slots := 0, locals := 137 } s m args below meth c H locs 0 0 Q (F0 m 15 ls []) := by
    as_aux_lemma =>
      intro n
      induction n with
      | zero =>
        intro J15_c0_55 J15_c0_58 J15_c0_117 J15_a3 J15_a10 J15_a13 J15_l1 J15_c0_59 J15_c0_70 J15_c0_71 J15_c0_72 J15_c0_73 J15_c0_74 J15_a8 J15_a11 J15_a12 J15_a14 J15_a15 J15_a16 J15_a17 J15_a19 H locs ls hK15_x_isCrossing hJ15_c0_117 hJ15_a7_4 hJ15_l1 hJ15_c0_70 hJ15_c0_73 hJ15_a10 hq hm
        exact absurd hm (by have := hJ15_l1; unfold ib at this; omega)
      | succ n ih =>
        intro J15_c0_55 J15_c0_58 J15_c0_117 J15_a3 J15_a10 J15_a13 J15_l1 J15_c0_59 J15_c0_70 J15_c0_71 J15_c0_72 J15_c0_73 J15_c0_74 J15_a8 J15_a11 J15_a12 J15_a14 J15_a15 J15_a16 J15_a17 J15_a19 H locs ls hK15_x_isCrossing hJ15_c0_117 hJ15_a7_4 hJ15_l1 hJ15_c0_70 hJ15_c0_73 hJ15_a10 hq hm15 hP hD hS hl
        have ih15 := ih
        obtain ⟨K15, hK15⟩ : ∃ K, K = F_X10_least_15 (lf_A g_many) (lf_A g_bar) (lf_A g_kinds) (lf_A g_walkers) (lf_A g_codeFrom) (lf_A g_codeEnd) (lf_A g_codes) (lf_A g_now) n := ⟨_, rfl⟩
        have hq : O = F_X10_least_15b (lf_A g_many) (lf_A g_bar) (lf_A g_kinds) (lf_A g_walkers) (lf_A g_codeFrom) (lf_A g_codeEnd) (lf_A g_codes) (lf_A g_now) K15 (Int32.toInt J15_c0_55) (Int32.toInt J15_c0_58) (Int32.toInt J15_c0_117) (lf_L J15_a3) (lf_A J15_a10) (lf_A J15_a13) (Int32.toInt J15_l1) (Int32.toInt J15_c0_59) (Int32.toInt J15_c0_70) (Int32.toInt J15_c0_71) (Int32.toInt J15_c0_72) (Int32.toInt J15_c0_73) (Int32.toInt J15_c0_74) (lf_A J15_a8) (lf_A J15_a11) (lf_A J15_a12) (lf_A J15_a14) (lf_A J15_a15) (lf_A J15_a16) (lf_A J15_a17) (lf_A J15_a19) := by rw [hK15]; exact hq
        unfold F_X10_least_15b at hq
        have jn56 : ∀ (J56_c0_55 : Int32) (J56_c0_58 : Int32) (J56_c0_59 : Int32) (J56_c0_70 : Int32) (J56_c0_71 : Int32) (J56_c0_72 : Int32) (J56_c0_73 : Int32) (J56_c0_74 : Int32) (J56_c0_117 : Int32) (J56_a3 : Nat → Int64) (J56_a8 : Nat → Int32) (J56_a11 : Nat → Int32) (J56_a12 : Nat → Int32) (J56_a14 : Nat → Int32) (J56_a15 : Nat → Int32) (J56_a16 : Nat → Int32) (J56_a17 : Nat → Int32) (J56_a19 : Nat → Int32) (H : Heap) (locs : List Loc) (ls : Array Slot), ib J15_l1 1 60 → ib x_isCrossing 1 1 → ib J56_c0_70 0 1 → ib J56_c0_73 0 1 → ib J56_c0_117 0 1700 → ib (g_bar 4) 10 120 → (O = F_X10_least_56 (lf_A J15_a10) (lf_A J15_a13) (Int32.toInt J15_l1) K15 (Int32.toInt J56_c0_55) (Int32.toInt J56_c0_58) (Int32.toInt J56_c0_59) (Int32.toInt J56_c0_70) (Int32.toInt J56_c0_71) (Int32.toInt J56_c0_72) (Int32.toInt J56_c0_73) (Int32.toInt J56_c0_74) (Int32.toInt J56_c0_117) (lf_L J56_a3) (lf_A J56_a8) (lf_A J56_a11) (lf_A J56_a12) (lf_A J56_a14) (lf_A J56_a15) (lf_A J56_a16) (lf_A J56_a17) (lf_A J56_a19)) → va_P (dC, dI) vwCl [(a_this, .inr (10, mfs rm x_taped x_at x_end x_ended x_bad x_badPlace x_fault x_faultPlace x_namePlace x_awayTold x_away x_coded x_statements x_isCrossing J56_c0_55 J56_c0_58 J56_c0_59 J56_c0_70 J56_c0_71 J56_c0_72 J56_c0_73 J56_c0_74 x_rowMany x_fitMany x_fitRules x_fitGreen x_undoable x_newest x_seeded x_qCoded x_qWaits x_qOpened x_qBase J56_c0_117 x_qAnswer x_qIsNew x_octets)), (wi_rm49_0_6_0 rm cy g_codeFrom), (wi_rm50_0_6_0 rm cy g_codeEnd), (wi_rm116_1_1700_1 rm cy J56_a3), (wi_rm51_0_3200_0 rm cy g_codes), (wi_rm46_0_48_0 rm cy g_walkers), (wi_rm56_0_9_0 rm cy g_now), (wi_rm43_0_8_0 rm cy g_bar), (wi_rm65_0_12_0 rm cy J56_a8), (wi_rm44_0_24_0 rm cy g_kinds), (wi_rm61_0_300_0 rm cy J15_a10), (wi_rm66_3_12_0 rm cy J56_a11), (wi_rm67_3_12_0 rm cy J56_a12), (wi_rm60_3_320_0 rm cy J15_a13), (wi_rm63_3_12_0 rm cy J56_a14), (wi_rm64_0_12_0 rm cy J56_a15), (wi_rm68_3_12_0 rm cy J56_a16), (wi_rm69_3_300_0 rm cy J56_a17), (wi_rm41_0_4_0 rm cy g_many), (wi_rm62_3_300_0 rm cy J56_a19)] H → va_D A [(a_this, .inr (10, mfs rm x_taped x_at x_end x_ended x_bad x_badPlace x_fault x_faultPlace x_namePlace x_awayTold x_away x_coded x_statements x_isCrossing J56_c0_55 J56_c0_58 J56_c0_59 J56_c0_70 J56_c0_71 J56_c0_72 J56_c0_73 J56_c0_74 x_rowMany x_fitMany x_fitRules x_fitGreen x_undoable x_newest x_seeded x_qCoded x_qWaits x_qOpened x_qBase J56_c0_117 x_qAnswer x_qIsNew x_octets)), (wi_rm49_0_6_0 rm cy g_codeFrom), (wi_rm50_0_6_0 rm cy g_codeEnd), (wi_rm116_1_1700_1 rm cy J56_a3), (wi_rm51_0_3200_0 rm cy g_codes), (wi_rm46_0_48_0 rm cy g_walkers), (wi_rm56_0_9_0 rm cy g_now), (wi_rm43_0_8_0 rm cy g_bar), (wi_rm65_0_12_0 rm cy J56_a8), (wi_rm44_0_24_0 rm cy g_kinds), (wi_rm61_0_300_0 rm cy J15_a10), (wi_rm66_3_12_0 rm cy J56_a11), (wi_rm67_3_12_0 rm cy J56_a12), (wi_rm60_3_320_0 rm cy J15_a13), (wi_rm63_3_12_0 rm cy J56_a14), (wi_rm64_0_12_0 rm cy J56_a15), (wi_rm68_3_12_0 rm cy J56_a16), (wi_rm69_3_300_0 rm cy J56_a17), (wi_rm41_0_4_0 rm cy g_many), (wi_rm62_3_300_0 rm cy J56_a19)] → va_S A s.heap H locs → lv_has ls 2 [(0, .ref a_this), (1, .int J15_l1)] → W p l e { frames := 6, cells := 0, slots := 0, locals := 137 } s m args below meth c H locs 0 0 Q (F0 m 56 ls []) := by
          intro J56_c0_55 J56_c0_58 J56_c0_59 J56_c0_70 J56_c0_71 J56_c0_72 J56_c0_73 J56_c0_74 J56_c0_117 J56_a3 J56_a8 J56_a11 J56_a12 J56_a14 J56_a15 J56_a16 J56_a17 J56_a19 H locs ls hK56_J15_l1 hK56_x_isCrossing hJ56_c0_70 hJ56_c0_73 hJ56_c0_117 hJ56_a7_4 hq hP hD hS hl
          unfold F_X10_least_56 at hq
          obtain ⟨z1, ez1⟩ : ∃ y : Int32, y = J15_l1 + 1 := ⟨_, rfl⟩
          refine lv_iinc (v := z1) (lv' := [(1, .int z1), (0, .ref a_this)]) hx hb dX10_least_56 hl (k := 1) rfl (by rw [ez1]; rfl) (Nat.le_of_ble_eq_true rfl) rfl (fun ls hl => ?_)
          have h2 := ib_add hK56_J15_l1 (ib_c 1 1 1 rfl) rfl
          rw [← ez1] at h2
          have h3 : ib z1 2 61 := ib_w 2 61 h2.1 rfl
          have Ez1 := lf_add h2.2 (lf_rf J15_l1) (lf_lc 1 (1 : Int) rfl)
          refine lv_goto (tgt := 15) hx hb dX10_least_59 rfl ?_
          exact ih15 J56_c0_55 J56_c0_58 J56_c0_117 J56_a3 J15_a10 J15_a13 z1 J56_c0_59 J56_c0_70 J56_c0_71 J56_c0_72 J56_c0_73 J56_c0_74 J56_a8 J56_a11 J56_a12 J56_a14 J56_a15 J56_a16 J56_a17 J56_a19 H locs ls (ib_w 1 1 hK56_x_isCrossing rfl) (ib_w 0 1700 hJ56_c0_117 rfl) (ib_w 10 120 hJ56_a7_4 rfl) (ib_w 1 61 h3 rfl) (ib_w 0 1 hJ56_c0_70 rfl) (ib_w 0 1 hJ56_c0_73 rfl) hJ15_a10 (by rw [← hK15]; rw [lf_u Ez1]; exact hq) (by have := h2.2; have : (1 : Int32).toInt = 1 := rfl; omega) hP hD hS (lv_sub hl [1, 0] rfl)
        refine lv_aload_n hx hb dX10_least_15 rfl (lv_at hl 0 rfl) ?_
        refine lv_iload_n hx hb dX10_least_16 rfl (lv_at hl 1 rfl) ?_
        refine lv_bipush (v := 60) hx hb dX10_least_17 rfl ?_
        refine k_jim hP hD hS hA [0, 7] [false, true, true, true, true, true, true, false, true, true, true, true, true, true, true, true, true, true, true, true] rfl rfl (by decide +kernel) 0 0 (Nat.le_of_ble_eq_true rfl) (Nat.le_of_ble_eq_true rfl) (fun hPc hDc => k_runV (As := [.int J15_l1, .int 60]) (rest := []) C0 hZ hS hA (s_X10_isGreenLong_a1_60 l dC dI cy sq a_this rm x_taped x_at x_end x_ended x_bad x_badPlace x_fault x_faultPlace x_namePlace x_awayTold x_away x_coded x_statements x_isCrossing J15_c0_55 J15_c0_58 J15_c0_59 J15_c0_70 J15_c0_71 J15_c0_72 J15_c0_73 J15_c0_74 x_rowMany x_fitMany x_fitRules x_fitGreen x_undoable x_newest x_seeded x_qCoded x_qWaits x_qOpened x_qBase J15_c0_117 x_qAnswer x_qIsNew x_octets g_bar J15_l1 (ib_w 0 120 hJ15_a7_4 rfl)) mV_X10_548 hPc hDc rfl rfl rfl hl rfl rfl (Nat.le_of_ble_eq_true rfl) ⟨(Nat.le_of_ble_eq_true rfl), (Nat.le_of_ble_eq_true rfl)⟩ ⟨(Nat.le_of_ble_eq_true rfl), (Nat.le_of_ble_eq_true rfl)⟩ dX10_least_19) (fun r4 u5 H locs hw hP hD hS => ?_)
        try dsimp only at hP hD hw
        replace hP : va_P (dC, dI) vwCl [(wi_rm49_0_6_0 rm cy g_codeFrom), (wi_rm50_0_6_0 rm cy g_codeEnd), (wi_rm116_1_1700_1 rm cy J15_a3), (wi_rm51_0_3200_0 rm cy g_codes), (wi_rm46_0_48_0 rm cy g_walkers), (wi_rm56_0_9_0 rm cy g_now), (wi_rm65_0_12_0 rm cy J15_a8), (wi_rm44_0_24_0 rm cy g_kinds), (wi_rm61_0_300_0 rm cy J15_a10), (wi_rm66_3_12_0 rm cy J15_a11), (wi_rm67_3_12_0 rm cy J15_a12), (wi_rm60_3_320_0 rm cy J15_a13), (wi_rm63_3_12_0 rm cy J15_a14), (wi_rm64_0_12_0 rm cy J15_a15), (wi_rm68_3_12_0 rm cy J15_a16), (wi_rm69_3_300_0 rm cy J15_a17), (wi_rm41_0_4_0 rm cy g_many), (wi_rm62_3_300_0 rm cy J15_a19), (a_this, .inr (10, mfs rm x_taped x_at x_end x_ended x_bad x_badPlace x_fault x_faultPlace x_namePlace x_awayTold x_away x_coded x_statements x_isCrossing J15_c0_55 J15_c0_58 J15_c0_59 J15_c0_70 J15_c0_71 J15_c0_72 J15_c0_73 J15_c0_74 x_rowMany x_fitMany x_fitRules x_fitGreen x_undoable x_newest x_seeded x_qCoded x_qWaits x_qOpened x_qBase J15_c0_117 x_qAnswer x_qIsNew x_octets)), (wi_rm43_0_8_0 rm cy g_bar)] H := hP
        replace hD := k_D hP hD
        obtain ⟨h6, h7, h8, h9⟩ := hw
        replace hq := lf_b1 hq h9
        refine lv_if_eq (tgt := 62) hx hb dX10_least_22 rfl (fun c10 => ?_) (fun c10 => ?_)
        · replace hq := lf_pos hq (lf_eq (lf_rf r4) (lf_lc 0 (0 : Int) rfl) c10)
          have h11 := ib_eq h6 (ib_c 0 0 0 rfl) c10
          have h12 : ib r4 0 0 := ib_w 0 0 h11.1 rfl
          refine lv_iconst (v := (-1)) hx hb dX10_least_62 rfl ?_
          subst hQ; exact k_iret hx hb hr hlk rfl ((J15_c0_55, J15_c0_58, J15_c0_59, J15_c0_70, J15_c0_71, J15_c0_72, J15_c0_73, J15_c0_74, J15_c0_117, J15_a3, J15_a8, J15_a10, J15_a11, J15_a12, J15_a13, J15_a14, J15_a15, J15_a16, J15_a17, J15_a19)) hS ⟨ib_w 0 1 hJ15_c0_70 rfl, ib_w 0 1 hJ15_c0_73 rfl, ib_w 0 1700 hJ15_c0_117 rfl, hJ15_a10, ib_w (-1) 60 (ib_c (-1) (-1) (-1) rfl) rfl, (hO.symm.trans (by try simp only [show ((-1) : Int32).toInt = (-1 : Int) from rfl]; exact hq))⟩ (hP.sub [18, 0, 1, 2, 3, 4, 5, 19, 6, 7, 8, 9, 10, 11, 12, 13, 14, 15, 16, 17] rfl) (hD.sub [18, 0, 1, 2, 3, 4, 5, 19, 6, 7, 8, 9, 10, 11, 12, 13, 14, 15, 16, 17] (by decide +kernel) rfl) (Nat.le_of_ble_eq_true rfl) (Nat.le_of_ble_eq_true rfl) dX10_least_63
        · as_aux_lemma =>
            replace hq := lf_neg hq (lf_ne (lf_rf r4) (lf_lc 0 (0 : Int) rfl) c10)
            have h13 : ib r4 1 1 := ib_w 1 1 (ib_ne_lo 0 h6 rfl c10) rfl
            have h14 : ib J15_l1 1 60 := ib_w 1 60 (ib_two hJ15_l1 (h8 (ib_nz h13 rfl))) rfl
            refine lv_aload_n hx hb dX10_least_25 rfl (lv_at hl 0 rfl) ?_
            refine lv_aload_n hx hb dX10_least_26 rfl (lv_at hl 0 rfl) ?_
            refine k_get C0 fg_X10_139 hP 18 rfl rfl dX10_least_27 ?_
            refine lv_iconst (v := 1) hx hb dX10_least_30 rfl ?_
            refine va_iald hx hb C0.2.2.2.2.2.1 hP 5 0 rfl rfl (k_in 1 9 rfl) dX10_least_31 ?_
            refine lv_topi (fun z15 ez15 => ?_)
            have Ez15 := lf_ld ez15 (lf_ra g_now) (lf_lc 1 (1 : Int) rfl)
            refine lv_iload_n hx hb dX10_least_32 rfl (lv_at hl 1 rfl) ?_
            refine lv_iconst (v := 0) hx hb dX10_least_33 rfl ?_
            refine lv_iconst (v := 0) hx hb dX10_least_34 rfl ?_
            refine k_jvm hP hD hS hA [18, 12, 13, 6, 9, 10, 14, 15, 16, 4, 5, 17, 19, 7, 0, 1, 2, 3, 8] [false, false, false, false, false, false, false, false, false, false, false, true] rfl rfl (by decide +kernel) 0 0 (Nat.le_of_ble_eq_true rfl) (Nat.le_of_ble_eq_true rfl) (fun hPc hDc => k_runV (As := [.int z15, .int J15_l1, .int 0, .int 0]) (rest := []) C0 hZ hS hA (s_X10_dayBy l dC dI cy sq a_this rm x_taped x_at x_end x_ended x_bad x_badPlace x_fault x_faultPlace x_namePlace x_awayTold x_away x_coded x_statements x_isCrossing J15_c0_55 J15_c0_58 J15_c0_59 J15_c0_70 J15_c0_71 J15_c0_72 J15_c0_73 J15_c0_74 x_rowMany x_fitMany x_fitRules x_fitGreen x_undoable x_newest x_seeded x_qCoded x_qWaits x_qOpened x_qBase J15_c0_117 x_qAnswer x_qIsNew x_octets g_many g_bar g_kinds g_walkers g_codeFrom g_codeEnd g_codes g_now J15_a10 J15_a19 J15_a14 J15_a15 J15_a8 J15_a11 J15_a12 J15_a16 J15_a17 J15_a3 z15 J15_l1 0 0 (ib_w 0 1700 hJ15_c0_117 rfl) (ib_w 0 12 hg_many_3 rfl) (ib_w 10 120 hJ15_a7_4 rfl) hpg_walkers (ib_w (-1) 1600 hg_codeFrom_4 rfl) (ib_w 0 1600 hg_codeEnd_4 rfl) hJ15_a10 hG1) mV_X10_504 hPc hDc rfl rfl rfl hl rfl rfl (Nat.le_of_ble_eq_true rfl) ⟨(Nat.le_of_ble_eq_true rfl), (Nat.le_of_ble_eq_true rfl)⟩ ⟨(Nat.le_of_ble_eq_true rfl), (Nat.le_of_ble_eq_true rfl)⟩ dX10_least_35) (fun u17 H locs hw hP hD hS => ?_)
            obtain ⟨v18, v19, v20, v21, v22, v23, v24, v25, v26, f27, f28, f29, f30, f31, f32, f33, f34, f35⟩ := u17
            try dsimp only at hP hD hw
            replace hP : va_P (dC, dI) vwCl [(wi_rm60_3_320_0 rm cy J15_a13), (a_this, .inr (10, mfs rm x_taped x_at x_end x_ended x_bad x_badPlace x_fault x_faultPlace x_namePlace x_awayTold x_away x_coded x_statements x_isCrossing v18 v19 v20 v21 v22 v23 v24 v25 x_rowMany x_fitMany x_fitRules x_fitGreen x_undoable x_newest x_seeded x_qCoded x_qWaits x_qOpened x_qBase v26 x_qAnswer x_qIsNew x_octets)), (wi_rm63_3_12_0 rm cy f27), (wi_rm64_0_12_0 rm cy f28), (wi_rm65_0_12_0 rm cy f29), (wi_rm66_3_12_0 rm cy f30), (wi_rm67_3_12_0 rm cy f31), (wi_rm68_3_12_0 rm cy f32), (wi_rm69_3_300_0 rm cy f33), (wi_rm41_0_4_0 rm cy g_many), (wi_rm46_0_48_0 rm cy g_walkers), (wi_rm56_0_9_0 rm cy g_now), (wi_rm62_3_300_0 rm cy f34), (wi_rm43_0_8_0 rm cy g_bar), (wi_rm44_0_24_0 rm cy g_kinds), (wi_rm49_0_6_0 rm cy g_codeFrom), (wi_rm50_0_6_0 rm cy g_codeEnd), (wi_rm116_1_1700_1 rm cy f35), (wi_rm51_0_3200_0 rm cy g_codes), (wi_rm61_0_300_0 rm cy J15_a10)] H := hP
            replace hD := k_D hP hD
            obtain ⟨h36, h37, h38, h39⟩ := hw
            have h39 := by have h9 := h39; rw [lf_u Ez15] at h9; try simp only [show (0 : Int32).toInt = (0 : Int) from rfl] at h9; exact h9
            replace hq := lf_p1 hq h39
            replace hq := lf_p1 hq rfl
            replace hq := lf_p1 hq rfl
            replace hq := lf_p1 hq rfl
            replace hq := lf_p1 hq rfl
            replace hq := lf_p1 hq rfl
            replace hq := lf_p1 hq rfl
            replace hq := lf_p1 hq rfl
            replace hq := lf_p1 hq rfl
            replace hq := lf_p1 hq rfl
            as_aux_lemma =>
              replace hq := lf_p1 hq rfl
              replace hq := lf_p1 hq rfl
              replace hq := lf_p1 hq rfl
              replace hq := lf_p1 hq rfl
              replace hq := lf_p1 hq rfl
              replace hq := lf_p1 hq rfl
              replace hq := lf_p1 hq rfl
              refine lv_aload_n hx hb dX10_least_38 rfl (lv_at hl 0 rfl) ?_
              refine lv_iconst (v := 1) hx hb dX10_least_39 rfl ?_
              refine k_jim hP hD hS hA [1, 9, 5] [true, false, true, true, true, false, true, true, true, false, true, true, true, true, true, true, true, true, true, true] rfl rfl (by decide +kernel) 0 0 (Nat.le_of_ble_eq_true rfl) (Nat.le_of_ble_eq_true rfl) (fun hPc hDc => k_runV (As := [.int 1]) (rest := []) C0 hZ hS hA (s_X10_toldOfDay_a0_1 l dC dI cy sq a_this rm x_taped x_at x_end x_ended x_bad x_badPlace x_fault x_faultPlace x_namePlace x_awayTold x_away x_coded x_statements x_isCrossing v18 v19 v20 v21 v22 v23 v24 v25 x_rowMany x_fitMany x_fitRules x_fitGreen x_undoable x_newest x_seeded x_qCoded x_qWaits x_qOpened x_qBase v26 x_qAnswer x_qIsNew x_octets g_many f30 (ib_w 0 12 hg_many_3 rfl)) mV_X10_541 hPc hDc rfl rfl rfl hl rfl rfl (Nat.le_of_ble_eq_true rfl) ⟨(Nat.le_of_ble_eq_true rfl), (Nat.le_of_ble_eq_true rfl)⟩ ⟨(Nat.le_of_ble_eq_true rfl), (Nat.le_of_ble_eq_true rfl)⟩ dX10_least_40) (fun r40 u41 H locs hw hP hD hS => ?_)
              try dsimp only at hP hD hw
              replace hP : va_P (dC, dI) vwCl [(wi_rm60_3_320_0 rm cy J15_a13), (wi_rm63_3_12_0 rm cy f27), (wi_rm64_0_12_0 rm cy f28), (wi_rm65_0_12_0 rm cy f29), (wi_rm67_3_12_0 rm cy f31), (wi_rm68_3_12_0 rm cy f32), (wi_rm69_3_300_0 rm cy f33), (wi_rm46_0_48_0 rm cy g_walkers), (wi_rm56_0_9_0 rm cy g_now), (wi_rm62_3_300_0 rm cy f34), (wi_rm43_0_8_0 rm cy g_bar), (wi_rm44_0_24_0 rm cy g_kinds), (wi_rm49_0_6_0 rm cy g_codeFrom), (wi_rm50_0_6_0 rm cy g_codeEnd), (wi_rm116_1_1700_1 rm cy f35), (wi_rm51_0_3200_0 rm cy g_codes), (wi_rm61_0_300_0 rm cy J15_a10), (a_this, .inr (10, mfs rm x_taped x_at x_end x_ended x_bad x_badPlace x_fault x_faultPlace x_namePlace x_awayTold x_away x_coded x_statements x_isCrossing v18 v19 v20 v21 v22 v23 v24 v25 x_rowMany x_fitMany x_fitRules x_fitGreen x_undoable x_newest x_seeded x_qCoded x_qWaits x_qOpened x_qBase v26 x_qAnswer x_qIsNew x_octets)), (wi_rm41_0_4_0 rm cy g_many), (wi_rm66_3_12_0 rm cy f30)] H := hP
              replace hD := k_D hP hD
              have h42 := hw
              replace hq := lf_b1 hq h42
              refine lv_if_ne (tgt := 56) hx hb dX10_least_43 rfl (fun c43 => ?_) (fun c43 => ?_)
              · replace hq := lf_neg hq (lf_ne (lf_rf r40) (lf_lc 0 (0 : Int) rfl) c43)
                exact jn56 v18 v19 v20 v21 v22 v23 v24 v25 v26 f35 f29 f30 f31 f27 f28 f32 f33 f34 H locs ls (ib_w 1 60 h14 rfl) (ib_w 1 1 hK15_x_isCrossing rfl) (ib_w 0 1 h36 rfl) (ib_w 0 1 h37 rfl) (ib_w 0 1700 h38 rfl) (ib_w 10 120 hJ15_a7_4 rfl) (by exact hq) (hP.sub [17, 12, 13, 14, 15, 7, 8, 10, 3, 11, 16, 19, 4, 0, 1, 2, 5, 6, 18, 9] rfl) (hD.sub [17, 12, 13, 14, 15, 7, 8, 10, 3, 11, 16, 19, 4, 0, 1, 2, 5, 6, 18, 9] (by decide +kernel) rfl) hS (lv_sub hl [0, 1] rfl)
              · replace hq := lf_pos hq (lf_eq (lf_rf r40) (lf_lc 0 (0 : Int) rfl) c43)
                have h44 := ib_eq (ib_any r40) (ib_c 0 0 0 rfl) c43
                have h45 : ib r40 0 0 := ib_w 0 0 h44.1 rfl
                refine lv_aload_n hx hb dX10_least_46 rfl (lv_at hl 0 rfl) ?_
                refine lv_iconst (v := 3) hx hb dX10_least_47 rfl ?_
                refine k_jim hP hD hS hA [17, 18, 1] [true, false, true, true, true, true, true, true, true, true, true, true, true, true, true, true, true, false, false, true] rfl rfl (by decide +kernel) 0 0 (Nat.le_of_ble_eq_true rfl) (Nat.le_of_ble_eq_true rfl) (fun hPc hDc => k_runV (As := [.int 3]) (rest := []) C0 hZ hS hA (s_X10_toldOfDay_a0_3 l dC dI cy sq a_this rm x_taped x_at x_end x_ended x_bad x_badPlace x_fault x_faultPlace x_namePlace x_awayTold x_away x_coded x_statements x_isCrossing v18 v19 v20 v21 v22 v23 v24 v25 x_rowMany x_fitMany x_fitRules x_fitGreen x_undoable x_newest x_seeded x_qCoded x_qWaits x_qOpened x_qBase v26 x_qAnswer x_qIsNew x_octets g_many f27 (ib_w 0 12 hg_many_3 rfl)) mV_X10_541 hPc hDc rfl rfl rfl hl rfl rfl (Nat.le_of_ble_eq_true rfl) ⟨(Nat.le_of_ble_eq_true rfl), (Nat.le_of_ble_eq_true rfl)⟩ ⟨(Nat.le_of_ble_eq_true rfl), (Nat.le_of_ble_eq_true rfl)⟩ dX10_least_48) (fun r46 u47 H locs hw hP hD hS => ?_)
                try dsimp only at hP hD hw
                replace hP : va_P (dC, dI) vwCl [(wi_rm60_3_320_0 rm cy J15_a13), (wi_rm64_0_12_0 rm cy f28), (wi_rm65_0_12_0 rm cy f29), (wi_rm67_3_12_0 rm cy f31), (wi_rm68_3_12_0 rm cy f32), (wi_rm69_3_300_0 rm cy f33), (wi_rm46_0_48_0 rm cy g_walkers), (wi_rm56_0_9_0 rm cy g_now), (wi_rm62_3_300_0 rm cy f34), (wi_rm43_0_8_0 rm cy g_bar), (wi_rm44_0_24_0 rm cy g_kinds), (wi_rm49_0_6_0 rm cy g_codeFrom), (wi_rm50_0_6_0 rm cy g_codeEnd), (wi_rm116_1_1700_1 rm cy f35), (wi_rm51_0_3200_0 rm cy g_codes), (wi_rm61_0_300_0 rm cy J15_a10), (wi_rm66_3_12_0 rm cy f30), (a_this, .inr (10, mfs rm x_taped x_at x_end x_ended x_bad x_badPlace x_fault x_faultPlace x_namePlace x_awayTold x_away x_coded x_statements x_isCrossing v18 v19 v20 v21 v22 v23 v24 v25 x_rowMany x_fitMany x_fitRules x_fitGreen x_undoable x_newest x_seeded x_qCoded x_qWaits x_qOpened x_qBase v26 x_qAnswer x_qIsNew x_octets)), (wi_rm41_0_4_0 rm cy g_many), (wi_rm63_3_12_0 rm cy f27)] H := hP
                replace hD := k_D hP hD
                have h48 := hw
                replace hq := lf_b1 hq h48
                refine lv_if_ne (tgt := 56) hx hb dX10_least_51 rfl (fun c49 => ?_) (fun c49 => ?_)
                · replace hq := lf_neg hq (lf_ne (lf_rf r46) (lf_lc 0 (0 : Int) rfl) c49)
                  exact jn56 v18 v19 v20 v21 v22 v23 v24 v25 v26 f35 f29 f30 f31 f27 f28 f32 f33 f34 H locs ls (ib_w 1 60 h14 rfl) (ib_w 1 1 hK15_x_isCrossing rfl) (ib_w 0 1 h36 rfl) (ib_w 0 1 h37 rfl) (ib_w 0 1700 h38 rfl) (ib_w 10 120 hJ15_a7_4 rfl) (by exact hq) (hP.sub [17, 11, 12, 13, 14, 6, 7, 9, 2, 10, 15, 16, 3, 0, 19, 1, 4, 5, 18, 8] rfl) (hD.sub [17, 11, 12, 13, 14, 6, 7, 9, 2, 10, 15, 16, 3, 0, 19, 1, 4, 5, 18, 8] (by decide +kernel) rfl) hS (lv_sub hl [0, 1] rfl)
                · replace hq := lf_pos hq (lf_eq (lf_rf r46) (lf_lc 0 (0 : Int) rfl) c49)
                  have h50 := ib_eq (ib_any r46) (ib_c 0 0 0 rfl) c49
                  have h51 : ib r46 0 0 := ib_w 0 0 h50.1 rfl
                  refine lv_iload_n hx hb dX10_least_54 rfl (lv_at hl 1 rfl) ?_
                  subst hQ; exact k_iret hx hb hr hlk rfl ((v18, v19, v20, v21, v22, v23, v24, v25, v26, f35, f29, J15_a10, f30, f31, J15_a13, f27, f28, f32, f33, f34)) hS ⟨ib_w 0 1 h36 rfl, ib_w 0 1 h37 rfl, ib_w 0 1700 h38 rfl, hJ15_a10, ib_w (-1) 60 h14 rfl, (hO.symm.trans (by exact hq))⟩ (hP.sub [17, 11, 12, 13, 14, 6, 7, 9, 2, 10, 15, 16, 3, 0, 19, 1, 4, 5, 18, 8] rfl) (hD.sub [17, 11, 12, 13, 14, 6, 7, 9, 2, 10, 15, 16, 3, 0, 19, 1, 4, 5, 18, 8] (by decide +kernel) rfl) (Nat.le_of_ble_eq_true rfl) (Nat.le_of_ble_eq_true rfl) dX10_least_55
  refine lv_aload_n hx hb dX10_least_0 rfl (lv_at hl 0 rfl) ?_
  refine k_get C0 fg_X10_417 hP 0 rfl rfl dX10_least_1 ?_
  refine lv_if_ne (tgt := 9) hx hb dX10_least_4 rfl (fun c52 => ?_) (fun c52 => ?_)
  · replace hq := lf_neg hq (lf_ne (lf_rf x_isCrossing) (lf_lc 0 (0 : Int) rfl) c52)
    have h53 : ib x_isCrossing 1 1 := ib_w 1 1 (ib_ne_lo 0 hx_isCrossing rfl c52) rfl
    have h54 : ib (g_bar 4) 10 120 := ib_w 10 120 (ib_two hg_bar_4 (hc_cr (ib_nz h53 rfl))) rfl
    refine lv_aload_n hx hb dX10_least_9 rfl (lv_at hl 0 rfl) ?_
    refine k_jvm hP hD hS hA [0, 1, 2, 3, 4, 5, 6, 7, 8, 9, 10, 11, 12, 13] [false, false, false, false, false, false, false, false, false, false, false, false, false, false, true, true, true, true, true, true] rfl rfl (by decide +kernel) 0 0 (Nat.le_of_ble_eq_true rfl) (Nat.le_of_ble_eq_true rfl) (fun hPc hDc => k_runV (As := []) (rest := []) C0 hZ hS hA (s_X10_laysCars l dC dI cy sq a_this rm x_taped x_at x_end x_ended x_bad x_badPlace x_fault x_faultPlace x_namePlace x_awayTold x_away x_coded x_statements x_isCrossing x_textKind x_askSecond x_redMany x_isOpen x_lastGreen x_greenTo x_isCycleGreen x_stillGreen x_rowMany x_fitMany x_fitRules x_fitGreen x_undoable x_newest x_seeded x_qCoded x_qWaits x_qOpened x_qBase x_qPiled x_qAnswer x_qIsNew x_octets g_bar g_kinds g_walkers g_codeFrom g_codeEnd g_codes g_now g_isCar g_gaps g_waits g_goes g_harms g_qPile (ib_w 0 1700 hx_qPiled rfl) (ib_w 10 120 h54 rfl) hpg_walkers (ib_w (-1) 1600 hg_codeFrom_3 rfl) (ib_w 0 1600 hg_codeEnd_3 rfl) hg_gaps hG0) mV_X10_501 hPc hDc rfl rfl rfl hl rfl rfl (Nat.le_of_ble_eq_true rfl) ⟨(Nat.le_of_ble_eq_true rfl), (Nat.le_of_ble_eq_true rfl)⟩ ⟨(Nat.le_of_ble_eq_true rfl), (Nat.le_of_ble_eq_true rfl)⟩ dX10_least_10) (fun u56 H locs hw hP hD hS => ?_)
    obtain ⟨v57, v58, v59, f60, f61, f62⟩ := u56
    try dsimp only at hP hD hw
    replace hP : va_P (dC, dI) vwCl [(wi_rm63_3_12_0 rm cy g_isHere), (wi_rm64_0_12_0 rm cy g_crosses), (wi_rm68_3_12_0 rm cy g_presses), (wi_rm69_3_300_0 rm cy g_crossedIn), (wi_rm41_0_4_0 rm cy g_many), (wi_rm62_3_300_0 rm cy g_isGreen), (a_this, .inr (10, mfs rm x_taped x_at x_end x_ended x_bad x_badPlace x_fault x_faultPlace x_namePlace x_awayTold x_away x_coded x_statements x_isCrossing v57 v58 x_redMany x_isOpen x_lastGreen x_greenTo x_isCycleGreen x_stillGreen x_rowMany x_fitMany x_fitRules x_fitGreen x_undoable x_newest x_seeded x_qCoded x_qWaits x_qOpened x_qBase v59 x_qAnswer x_qIsNew x_octets)), (wi_rm49_0_6_0 rm cy g_codeFrom), (wi_rm50_0_6_0 rm cy g_codeEnd), (wi_rm116_1_1700_1 rm cy f60), (wi_rm51_0_3200_0 rm cy g_codes), (wi_rm46_0_48_0 rm cy g_walkers), (wi_rm56_0_9_0 rm cy g_now), (wi_rm43_0_8_0 rm cy g_bar), (wi_rm65_0_12_0 rm cy g_waits), (wi_rm44_0_24_0 rm cy g_kinds), (wi_rm61_0_300_0 rm cy f61), (wi_rm66_3_12_0 rm cy g_goes), (wi_rm67_3_12_0 rm cy g_harms), (wi_rm60_3_320_0 rm cy f62)] H := hP
    replace hD := k_D hP hD
    obtain ⟨h63, h64, h65⟩ := hw
    replace hq := lf_p1 hq h65
    replace hq := lf_p1 hq rfl
    replace hq := lf_p1 hq rfl
    replace hq := lf_p1 hq rfl
    replace hq := lf_p1 hq rfl
    refine lv_iconst (v := 1) hx hb dX10_least_13 rfl ?_
    refine lv_istore_n (lv' := [(1, .int 1), (0, .ref a_this)]) hx hb dX10_least_14 rfl hl (Nat.le_of_ble_eq_true rfl) rfl (fun ls hl => ?_)
    exact jn15 62 v57 v58 v59 f60 f61 f62 1 x_redMany x_isOpen x_lastGreen x_greenTo x_isCycleGreen x_stillGreen g_waits g_goes g_harms g_isHere g_crosses g_presses g_crossedIn g_isGreen H locs ls (ib_w 1 1 h53 rfl) (ib_w 0 1700 h63 rfl) (ib_w 10 120 h54 rfl) (ib_w 1 61 (ib_c 1 1 1 rfl) rfl) (ib_w 0 1 hx_isOpen rfl) (ib_w 0 1 hx_isCycleGreen rfl) h64 (by try simp only [show (1 : Int32).toInt = (1 : Int) from rfl]; exact hq) (by have := (ib_c 1 1 1 rfl); unfold ib at this; omega) (hP.sub [6, 7, 8, 9, 10, 11, 12, 13, 14, 15, 16, 17, 18, 19, 0, 1, 2, 3, 4, 5] rfl) (hD.sub [6, 7, 8, 9, 10, 11, 12, 13, 14, 15, 16, 17, 18, 19, 0, 1, 2, 3, 4, 5] (by decide +kernel) rfl) hS (lv_sub hl [1, 0] rfl)
  · replace hq := lf_pos hq (lf_eq (lf_rf x_isCrossing) (lf_lc 0 (0 : Int) rfl) c52)
    have h66 := ib_eq hx_isCrossing (ib_c 0 0 0 rfl) c52
    have h67 : ib x_isCrossing 0 0 := ib_w 0 0 h66.1 rfl
    refine lv_iconst (v := (-1)) hx hb dX10_least_7 rfl ?_
    subst hQ; exact k_iret hx hb hr hlk rfl ((x_textKind, x_askSecond, x_redMany, x_isOpen, x_lastGreen, x_greenTo, x_isCycleGreen, x_stillGreen, x_qPiled, g_qPile, g_waits, g_gaps, g_goes, g_harms, g_isCar, g_isHere, g_crosses, g_presses, g_crossedIn, g_isGreen)) hS ⟨ib_w 0 1 hx_isOpen rfl, ib_w 0 1 hx_isCycleGreen rfl, ib_w 0 1700 hx_qPiled rfl, hg_gaps, ib_w (-1) 60 (ib_c (-1) (-1) (-1) rfl) rfl, (hO.symm.trans (by try simp only [show ((-1) : Int32).toInt = (-1 : Int) from rfl]; exact hq))⟩ hP hD (Nat.le_of_ble_eq_true rfl) (Nat.le_of_ble_eq_true rfl) dX10_least_8
set_option maxHeartbeats 4000000 in
set_option maxRecDepth 100000 in
theorem s_X10_letter (l : Launch) (dC : Nat → ClassId) (dI : Nat → Nat → Nat) (cy : Nat → ClassId) (sq : Nat → Nat) (a_this : Nat) (rm : Nat → Nat) (x_taped : Int32) (x_at : Int32) (x_end : Int32) (x_ended : Int32) (x_bad : Int32) (x_badPlace : Int32) (x_fault : Int32) (x_faultPlace : Int32) (x_namePlace : Int32) (x_awayTold : Int32) (x_away : Int32) (x_coded : Int32) (x_statements : Int32) (x_isCrossing : Int32) (x_textKind : Int32) (x_askSecond : Int32) (x_redMany : Int32) (x_isOpen : Int32) (x_lastGreen : Int32) (x_greenTo : Int32) (x_isCycleGreen : Int32) (x_stillGreen : Int32) (x_rowMany : Int32) (x_fitMany : Int32) (x_fitRules : Int32) (x_fitGreen : Int32) (x_undoable : Int32) (x_newest : Int32) (x_seeded : Int64) (x_qCoded : Int32) (x_qWaits : Int32) (x_qOpened : Int32) (x_qBase : Int32) (x_qPiled : Int32) (x_qAnswer : Int64) (x_qIsNew : Int32) (x_octets : Int32) (g_many : Nat → Int32) (g_names : Nat → Int64) (p0 : Int32) (p1 : Int32) (p2 : Int32) (hg_many : ia g_many 4 0 12) : k_Met l yX10_letter cX10_letter 9 (some .int) { frames := 1, cells := 0, slots := 0, locals := 25 } dC dI cy sq [.ref a_this, .int p0, .int p1, .int p2] [(a_this, .inr (10, mfs rm x_taped x_at x_end x_ended x_bad x_badPlace x_fault x_faultPlace x_namePlace x_awayTold x_away x_coded x_statements x_isCrossing x_textKind x_askSecond x_redMany x_isOpen x_lastGreen x_greenTo x_isCycleGreen x_stillGreen x_rowMany x_fitMany x_fitRules x_fitGreen x_undoable x_newest x_seeded x_qCoded x_qWaits x_qOpened x_qBase x_qPiled x_qAnswer x_qIsNew x_octets)), (wi_rm41_0_4_0 rm cy g_many), (wi_rm42_1_48_1 rm cy g_names)] (k_Qi dC dI (fun (r : Int32) (_ : Unit) => (F_X10_letter (lf_A g_many) (lf_L g_names) (Int32.toInt p0) (Int32.toInt p1) (Int32.toInt p2) = ((Int32.toInt r)))) (fun _ : Unit => [(a_this, .inr (10, mfs rm x_taped x_at x_end x_ended x_bad x_badPlace x_fault x_faultPlace x_namePlace x_awayTold x_away x_coded x_statements x_isCrossing x_textKind x_askSecond x_redMany x_isOpen x_lastGreen x_greenTo x_isCycleGreen x_stillGreen x_rowMany x_fitMany x_fitRules x_fitGreen x_undoable x_newest x_seeded x_qCoded x_qWaits x_qOpened x_qBase x_qPiled x_qAnswer x_qIsNew x_octets)), (wi_rm41_0_4_0 rm cy g_many), (wi_rm42_1_48_1 rm cy g_names)])) := by
  refine k_ofW2 (by decide +kernel) (Nat.le_of_ble_eq_true rfl) ?_
  intro p e s m below meth c A ls H locs args Q hQ C0 hZ hr hlk hin hP hD hA hS hl
  have C0 : k_cx p s m args c cX10_letter 9 RX10 dC dI cy sq := C0
  have hx := C0.1
  have hb := C0.2.1
  have hl : lv_has ls 9 [(0, .ref a_this), (1, .int p0), (2, .int p1), (3, .int p2)] := hl
  obtain ⟨O, hO⟩ : ∃ o, o = F_X10_letter (lf_A g_many) (lf_L g_names) (Int32.toInt p0) (Int32.toInt p1) (Int32.toInt p2) := ⟨_, rfl⟩
  have hq := hO
  unfold F_X10_letter at hq
  have jn102 : ∀ (n : Nat) (J102_l4 : Int64) (J102_l6 : Int32) (J102_l7 : Int32) (H : Heap) (locs : List Loc) (ls : Array Slot), ib p0 0 1 → ib p1 0 11 → ib p2 0 5 → ib J102_l6 1 2147483647 → ib J102_l7 0 2147483646 → (O = F_X10_letter_102 (Int32.toInt p2) n (Int64.toInt J102_l4) (Int32.toInt J102_l6) (Int32.toInt J102_l7)) → J102_l7.toInt - (-1) ≤ (n : Int) → va_P (dC, dI) vwCl [(a_this, .inr (10, mfs rm x_taped x_at x_end x_ended x_bad x_badPlace x_fault x_faultPlace x_namePlace x_awayTold x_away x_coded x_statements x_isCrossing x_textKind x_askSecond x_redMany x_isOpen x_lastGreen x_greenTo x_isCycleGreen x_stillGreen x_rowMany x_fitMany x_fitRules x_fitGreen x_undoable x_newest x_seeded x_qCoded x_qWaits x_qOpened x_qBase x_qPiled x_qAnswer x_qIsNew x_octets)), (wi_rm41_0_4_0 rm cy g_many), (wi_rm42_1_48_1 rm cy g_names)] H → va_D A [(a_this, .inr (10, mfs rm x_taped x_at x_end x_ended x_bad x_badPlace x_fault x_faultPlace x_namePlace x_awayTold x_away x_coded x_statements x_isCrossing x_textKind x_askSecond x_redMany x_isOpen x_lastGreen x_greenTo x_isCycleGreen x_stillGreen x_rowMany x_fitMany x_fitRules x_fitGreen x_undoable x_newest x_seeded x_qCoded x_qWaits x_qOpened x_qBase x_qPiled x_qAnswer x_qIsNew x_octets)), (wi_rm41_0_4_0 rm cy g_many), (wi_rm42_1_48_1 rm cy g_names)] → va_S A s.heap H locs → lv_has ls 9 [(0, .ref a_this), (1, .int p0), (2, .int p1), (3, .int p2), (4, .long J102_l4), (6, .int J102_l6), (7, .int J102_l7)] → W p l e { frames := 1, cells := 0, slots := 0, locals := 25 } s m args below meth c H locs 0 0 Q (F0 m 102 ls []) := by
    as_aux_lemma =>
      intro n
      induction n with
      | zero =>
        intro J102_l4 J102_l6 J102_l7 H locs ls hK102_p0 hK102_p1 hK102_p2 hJ102_l6 hJ102_l7 hq hm
        exact absurd hm (by have := hJ102_l7; unfold ib at this; omega)
      | succ n ih =>
        intro J102_l4 J102_l6 J102_l7 H locs ls hK102_p0 hK102_p1 hK102_p2 hJ102_l6 hJ102_l7 hq hm102 hP hD hS hl
        have ih102 := ih
        obtain ⟨K102, hK102⟩ : ∃ K, K = F_X10_letter_102 (Int32.toInt p2) n := ⟨_, rfl⟩
        have hq : O = F_X10_letter_102b (Int32.toInt p2) K102 (Int64.toInt J102_l4) (Int32.toInt J102_l6) (Int32.toInt J102_l7) := by rw [hK102]; exact hq
        unfold F_X10_letter_102b at hq
        refine lv_iload hx hb dX10_letter_102 (lv_at hl 6 rfl) ?_
        refine lv_iload_n hx hb dX10_letter_104 rfl (lv_at hl 3 rfl) ?_
        refine lv_icmp_le (tgt := 122) hx hb dX10_letter_105 rfl (fun c1 => ?_) (fun c1 => ?_)
        · replace hq := lf_pos hq (lf_le (lf_rf J102_l7) (lf_rf p2) c1)
          have h2 := ib_le hJ102_l7 hK102_p2 c1
          have h3 : ib J102_l7 0 5 := ib_w 0 5 h2.1 rfl
          refine lv_lload hx hb dX10_letter_122 (lv_at hl 4 rfl) ?_
          refine lv_ldc2 hx hb C0.2.2.2.1 (C0.2.2.2.2.1 _ wd626) dX10_letter_124 ?_
          refine lv_lrem hx hb dX10_letter_127 (by decide) ?_
          refine lv_topl (fun z4 ez4 => ?_)
          have Ez4 := lf_opl lf_lrem (ez4.trans (lf_lremt _ _)) (lf_rl J102_l4) (lf_ll 27 (27 : Int) rfl)
          refine lv_l2i hx hb dX10_letter_128 rfl ?_
          refine lv_topi (fun z5 ez5 => ?_)
          have Ez5 := lf_l2ie ez5 Ez4
          subst hQ; exact k_iret hx hb hr hlk rfl () hS ((hO.symm.trans (by rw [lf_u Ez5]; exact hq))) hP hD (Nat.le_of_ble_eq_true rfl) (Nat.le_of_ble_eq_true rfl) dX10_letter_129
        · replace hq := lf_neg hq (lf_nle (lf_rf J102_l7) (lf_rf p2) c1)
          have h6 := ib_nle hJ102_l7 hK102_p2 c1
          have h7 : ib J102_l7 1 2147483646 := ib_w 1 2147483646 h6.1 rfl
          refine lv_lload hx hb dX10_letter_108 (lv_at hl 4 rfl) ?_
          refine lv_ldc2 hx hb C0.2.2.2.1 (C0.2.2.2.2.1 _ wd626) dX10_letter_110 ?_
          refine lv_ldiv hx hb dX10_letter_113 (by decide) ?_
          refine lv_topl (fun z8 ez8 => ?_)
          have Ez8 := lf_opl lf_ldiv ez8 (lf_rl J102_l4) (lf_ll 27 (27 : Int) rfl)
          refine lv_lstore (lv' := [(4, .long z8), (0, .ref a_this), (1, .int p0), (2, .int p1), (3, .int p2), (6, .int J102_l6), (7, .int J102_l7)]) hx hb dX10_letter_114 hl (Nat.le_of_ble_eq_true rfl) rfl (fun ls hl => ?_)
          obtain ⟨z9, ez9⟩ : ∃ y : Int32, y = J102_l7 + (-1) := ⟨_, rfl⟩
          refine lv_iinc (v := z9) (lv' := [(7, .int z9), (4, .long z8), (0, .ref a_this), (1, .int p0), (2, .int p1), (3, .int p2), (6, .int J102_l6)]) hx hb dX10_letter_116 hl (k := 6) rfl (by rw [ez9]; rfl) (Nat.le_of_ble_eq_true rfl) rfl (fun ls hl => ?_)
          have h10 := ib_add h7 (ib_c (-1) (-1) (-1) rfl) rfl
          rw [← ez9] at h10
          have h11 : ib z9 0 2147483645 := ib_w 0 2147483645 h10.1 rfl
          have Ez9 := lf_add h10.2 (lf_rf J102_l7) (lf_lc (-1) (-1 : Int) rfl)
          refine lv_goto (tgt := 102) hx hb dX10_letter_119 rfl ?_
          exact ih102 z8 J102_l6 z9 H locs ls (ib_w 0 1 hK102_p0 rfl) (ib_w 0 11 hK102_p1 rfl) (ib_w 0 5 hK102_p2 rfl) (ib_w 1 2147483647 hJ102_l6 rfl) (ib_w 0 2147483646 h11 rfl) (by rw [← hK102]; rw [lf_ul Ez8]; rw [lf_u Ez9]; exact hq) (by have := h10.2; have : ((-1) : Int32).toInt = (-1) := rfl; omega) hP hD hS (lv_sub hl [2, 3, 4, 5, 1, 6, 0] rfl)
  have jn67 : ∀ (n : Nat) (J67_l4 : Int64) (J67_l7 : Int64) (J67_l6 : Int32) (H : Heap) (locs : List Loc) (ls : Array Slot), ib p0 0 1 → ib p1 0 11 → ib p2 0 5 → (O = F_X10_letter_67 (Int32.toInt p2) n (Int64.toInt J67_l4) (Int64.toInt J67_l7) (Int32.toInt J67_l6)) → J67_l7.toInt.toNat < n → va_P (dC, dI) vwCl [(a_this, .inr (10, mfs rm x_taped x_at x_end x_ended x_bad x_badPlace x_fault x_faultPlace x_namePlace x_awayTold x_away x_coded x_statements x_isCrossing x_textKind x_askSecond x_redMany x_isOpen x_lastGreen x_greenTo x_isCycleGreen x_stillGreen x_rowMany x_fitMany x_fitRules x_fitGreen x_undoable x_newest x_seeded x_qCoded x_qWaits x_qOpened x_qBase x_qPiled x_qAnswer x_qIsNew x_octets)), (wi_rm41_0_4_0 rm cy g_many), (wi_rm42_1_48_1 rm cy g_names)] H → va_D A [(a_this, .inr (10, mfs rm x_taped x_at x_end x_ended x_bad x_badPlace x_fault x_faultPlace x_namePlace x_awayTold x_away x_coded x_statements x_isCrossing x_textKind x_askSecond x_redMany x_isOpen x_lastGreen x_greenTo x_isCycleGreen x_stillGreen x_rowMany x_fitMany x_fitRules x_fitGreen x_undoable x_newest x_seeded x_qCoded x_qWaits x_qOpened x_qBase x_qPiled x_qAnswer x_qIsNew x_octets)), (wi_rm41_0_4_0 rm cy g_many), (wi_rm42_1_48_1 rm cy g_names)] → va_S A s.heap H locs → lv_has ls 9 [(0, .ref a_this), (1, .int p0), (2, .int p1), (3, .int p2), (4, .long J67_l4), (6, .int J67_l6), (7, .long J67_l7)] → W p l e { frames := 1, cells := 0, slots := 0, locals := 25 } s m args below meth c H locs 0 0 Q (F0 m 67 ls []) := by
    as_aux_lemma =>
      intro n
      induction n with
      | zero =>
        intro J67_l4 J67_l7 J67_l6 H locs ls hK67_p0 hK67_p1 hK67_p2 hq hm
        exact absurd hm (Nat.not_lt_zero _)
      | succ n ih =>
        intro J67_l4 J67_l7 J67_l6 H locs ls hK67_p0 hK67_p1 hK67_p2 hq hm67 hP hD hS hl
        have ih67 := ih
        obtain ⟨K67, hK67⟩ : ∃ K, K = F_X10_letter_67 (Int32.toInt p2) n := ⟨_, rfl⟩
        have hq : O = F_X10_letter_67b (Int32.toInt p2) K67 (Int64.toInt J67_l4) (Int64.toInt J67_l7) (Int32.toInt J67_l6) := by rw [hK67]; exact hq
        unfold F_X10_letter_67b at hq
        refine lv_lload hx hb dX10_letter_67 (lv_at hl 6 rfl) ?_
        refine lv_lconst (v := 0) hx hb dX10_letter_69 (by decide) ?_
        refine W.lcmp hx hb dX10_letter_70 ?_
        refine lv_topi (fun z12 ez12 => ?_)
        have h13 : ib z12 (-1) 1 := by rw [ez12]; exact ib_cmp _ _
        have Ez12 := lf_cmpe ez12 (lf_rl J67_l7) (lf_ll 0 (0 : Int) rfl)
        refine lv_if_le (tgt := 88) hx hb dX10_letter_71 rfl (fun c14 => ?_) (fun c14 => ?_)
        · as_aux_lemma =>
            replace hq := lf_pos hq (lf_le Ez12 (lf_lc 0 (0 : Int) rfl) c14)
            have h15 := ib_le h13 (ib_c 0 0 0 rfl) c14
            have h16 : ib z12 (-1) 0 := ib_w (-1) 0 h15.1 rfl
            refine lv_iload_n hx hb dX10_letter_88 rfl (lv_at hl 3 rfl) ?_
            refine lv_iload hx hb dX10_letter_89 (lv_at hl 5 rfl) ?_
            refine lv_icmp_lt (tgt := 96) hx hb dX10_letter_91 rfl (fun c17 => ?_) (fun c17 => ?_)
            · replace hq := lf_pos hq (lf_lt (lf_rf p2) (lf_rf J67_l6) c17)
              have h18 := ib_lt hK67_p2 (ib_any J67_l6) c17
              have h19 : ib J67_l6 1 2147483647 := ib_w 1 2147483647 h18.2 rfl
              refine lv_iload hx hb dX10_letter_96 (lv_at hl 5 rfl) ?_
              refine lv_iconst (v := 1) hx hb dX10_letter_98 rfl ?_
              refine lv_isub hx hb dX10_letter_99 ?_
              refine lv_topi (fun z20 ez20 => ?_)
              have h21 := ib_sub h19 (ib_c 1 1 1 rfl) rfl
              rw [← ez20] at h21
              have h22 : ib z20 0 2147483646 := ib_w 0 2147483646 h21.1 rfl
              have Ez20 := lf_sub h21.2 (lf_rf J67_l6) (lf_lc 1 (1 : Int) rfl)
              refine lv_istore (lv' := [(7, .int z20), (0, .ref a_this), (1, .int p0), (2, .int p1), (3, .int p2), (4, .long J67_l4), (6, .int J67_l6)]) hx hb dX10_letter_100 hl (Nat.le_of_ble_eq_true rfl) rfl (fun ls hl => ?_)
              exact jn102 2147483648 J67_l4 J67_l6 z20 H locs ls (ib_w 0 1 hK67_p0 rfl) (ib_w 0 11 hK67_p1 rfl) (ib_w 0 5 hK67_p2 rfl) (ib_w 1 2147483647 h19 rfl) (ib_w 0 2147483646 h22 rfl) (by rw [lf_u Ez20]; exact hq) (by have := h22; unfold ib at this; omega) hP hD hS (lv_sub hl [1, 2, 3, 4, 5, 6, 0] rfl)
            · replace hq := lf_neg hq (lf_nlt (lf_rf p2) (lf_rf J67_l6) c17)
              have h23 := ib_nlt hK67_p2 (ib_any J67_l6) c17
              have h24 : ib J67_l6 (-2147483648) 5 := ib_w (-2147483648) 5 h23.2 rfl
              refine lv_iconst (v := 0) hx hb dX10_letter_94 rfl ?_
              subst hQ; exact k_iret hx hb hr hlk rfl () hS ((hO.symm.trans (by try simp only [show (0 : Int32).toInt = (0 : Int) from rfl]; exact hq))) hP hD (Nat.le_of_ble_eq_true rfl) (Nat.le_of_ble_eq_true rfl) dX10_letter_95
        · replace hq := lf_neg hq (lf_nle Ez12 (lf_lc 0 (0 : Int) rfl) c14)
          have h25 := ib_nle h13 (ib_c 0 0 0 rfl) c14
          have h26 : ib z12 1 1 := ib_w 1 1 h25.1 rfl
          obtain ⟨z27, ez27⟩ : ∃ y : Int32, y = J67_l6 + 1 := ⟨_, rfl⟩
          refine lv_iinc (v := z27) (lv' := [(6, .int z27), (0, .ref a_this), (1, .int p0), (2, .int p1), (3, .int p2), (4, .long J67_l4), (7, .long J67_l7)]) hx hb dX10_letter_74 hl (k := 5) rfl (by rw [ez27]; rfl) (Nat.le_of_ble_eq_true rfl) rfl (fun ls hl => ?_)
          have Ez27 := lf_op lf_iadd ez27 (lf_rf J67_l6) (lf_lc 1 (1 : Int) rfl)
          refine lv_lload hx hb dX10_letter_77 (lv_at hl 6 rfl) ?_
          refine lv_ldc2 hx hb C0.2.2.2.1 (C0.2.2.2.2.1 _ wd626) dX10_letter_79 ?_
          refine lv_ldiv hx hb dX10_letter_82 (by decide) ?_
          refine lv_topl (fun z28 ez28 => ?_)
          have Ez28 := lf_opl lf_ldiv ez28 (lf_rl J67_l7) (lf_ll 27 (27 : Int) rfl)
          refine lv_lstore (lv' := [(7, .long z28), (6, .int z27), (0, .ref a_this), (1, .int p0), (2, .int p1), (3, .int p2), (4, .long J67_l4)]) hx hb dX10_letter_83 hl (Nat.le_of_ble_eq_true rfl) rfl (fun ls hl => ?_)
          refine lv_goto (tgt := 67) hx hb dX10_letter_85 rfl ?_
          exact ih67 J67_l4 z28 z27 H locs ls (ib_w 0 1 hK67_p0 rfl) (ib_w 0 11 hK67_p1 rfl) (ib_w 0 5 hK67_p2 rfl) (by rw [← hK67]; rw [lf_ul Ez28]; rw [lf_u Ez27]; exact hq) (ldv_lt ez28 (by rw [← ez12]; exact c14) hm67) hP hD hS (lv_sub hl [2, 3, 4, 5, 6, 1, 0] rfl)
  have jn42 : ∀  (H : Heap) (locs : List Loc) (ls : Array Slot), (O = F_X10_letter_42 ) → va_P (dC, dI) vwCl [(a_this, .inr (10, mfs rm x_taped x_at x_end x_ended x_bad x_badPlace x_fault x_faultPlace x_namePlace x_awayTold x_away x_coded x_statements x_isCrossing x_textKind x_askSecond x_redMany x_isOpen x_lastGreen x_greenTo x_isCycleGreen x_stillGreen x_rowMany x_fitMany x_fitRules x_fitGreen x_undoable x_newest x_seeded x_qCoded x_qWaits x_qOpened x_qBase x_qPiled x_qAnswer x_qIsNew x_octets)), (wi_rm41_0_4_0 rm cy g_many), (wi_rm42_1_48_1 rm cy g_names)] H → va_D A [(a_this, .inr (10, mfs rm x_taped x_at x_end x_ended x_bad x_badPlace x_fault x_faultPlace x_namePlace x_awayTold x_away x_coded x_statements x_isCrossing x_textKind x_askSecond x_redMany x_isOpen x_lastGreen x_greenTo x_isCycleGreen x_stillGreen x_rowMany x_fitMany x_fitRules x_fitGreen x_undoable x_newest x_seeded x_qCoded x_qWaits x_qOpened x_qBase x_qPiled x_qAnswer x_qIsNew x_octets)), (wi_rm41_0_4_0 rm cy g_many), (wi_rm42_1_48_1 rm cy g_names)] → va_S A s.heap H locs → lv_has ls 9 [(0, .ref a_this), (1, .int p0), (2, .int p1), (3, .int p2)] → W p l e { frames := 1, cells := 0, slots := 0, locals := 25 } s m args below meth c H locs 0 0 Q (F0 m 42 ls []) := by
    intro H locs ls hq hP hD hS hl
    unfold F_X10_letter_42 at hq
    refine lv_iconst (v := (-1)) hx hb dX10_letter_42 rfl ?_
    subst hQ; exact k_iret hx hb hr hlk rfl () hS ((hO.symm.trans (by try simp only [show ((-1) : Int32).toInt = (-1 : Int) from rfl]; exact hq))) hP hD (Nat.le_of_ble_eq_true rfl) (Nat.le_of_ble_eq_true rfl) dX10_letter_43
  refine lv_iload_n hx hb dX10_letter_0 rfl (lv_at hl 1 rfl) ?_
  refine lv_i2l (v := p0.toInt64) hx hb dX10_letter_1 rfl ?_
  refine lv_lconst (v := 0) hx hb dX10_letter_2 (by decide) ?_
  refine lv_lconst (v := 1) hx hb dX10_letter_3 (by decide) ?_
  refine k_jim hP hD hS hA [] [true, true, true] rfl rfl rfl 0 0 (Nat.le_of_ble_eq_true rfl) (Nat.le_of_ble_eq_true rfl) (fun hPc hDc => k_runS (As := [.long p0.toInt64, .long 0, .long 1]) (rest := []) C0 hZ hS hA (c_isIn l dC dI cy sq p0.toInt64 0 1) mS_X10_318 hPc hDc hl rfl rfl (Nat.le_of_ble_eq_true rfl) ⟨(Nat.le_of_ble_eq_true rfl), (Nat.le_of_ble_eq_true rfl)⟩ ⟨(Nat.le_of_ble_eq_true rfl), (Nat.le_of_ble_eq_true rfl)⟩ dX10_letter_4) (fun r29 u30 H locs hw hP hD hS => ?_)
  replace hP : va_P (dC, dI) vwCl [(a_this, .inr (10, mfs rm x_taped x_at x_end x_ended x_bad x_badPlace x_fault x_faultPlace x_namePlace x_awayTold x_away x_coded x_statements x_isCrossing x_textKind x_askSecond x_redMany x_isOpen x_lastGreen x_greenTo x_isCycleGreen x_stillGreen x_rowMany x_fitMany x_fitRules x_fitGreen x_undoable x_newest x_seeded x_qCoded x_qWaits x_qOpened x_qBase x_qPiled x_qAnswer x_qIsNew x_octets)), (wi_rm41_0_4_0 rm cy g_many), (wi_rm42_1_48_1 rm cy g_names)] H := hP
  replace hD := k_D hP hD
  have h31 := hw
  have h32 : ib r29 0 1 := by rw [h31]; exact k_isf_01 _ _ _
  have Er29 := lf_isine h31 (lf_i2l (lf_rf p0)) (lf_ll 0 (0 : Int) rfl) (lf_ll 1 (1 : Int) rfl)
  refine lv_if_eq (tgt := 42) hx hb dX10_letter_7 rfl (fun c33 => ?_) (fun c33 => ?_)
  · replace hq := lf_pos hq (lf_eq Er29 (lf_lc 0 (0 : Int) rfl) c33)
    have h34 := ib_eq h32 (ib_c 0 0 0 rfl) c33
    have h35 : ib r29 0 0 := ib_w 0 0 h34.1 rfl
    exact jn42  H locs ls (by exact hq) hP hD hS (lv_sub hl [0, 1, 2, 3] rfl)
  · as_aux_lemma =>
      replace hq := lf_neg hq (lf_ne Er29 (lf_lc 0 (0 : Int) rfl) c33)
      have h36 : ib r29 1 1 := ib_w 1 1 (ib_ne_lo 0 h32 rfl c33) rfl
      have h37 : ib p0 0 1 := ib_w 0 1 (ib_two (ib_any p0) (k_isf_v h31 (show 0 ≤ (0 : Int64).toInt by decide) (show (1 : Int64).toInt ≤ 1 by decide) (ib_nz h36 rfl))) rfl
      refine lv_iload_n hx hb dX10_letter_10 rfl (lv_at hl 2 rfl) ?_
      refine lv_i2l (v := p1.toInt64) hx hb dX10_letter_11 rfl ?_
      refine lv_lconst (v := 0) hx hb dX10_letter_12 (by decide) ?_
      refine lv_aload_n hx hb dX10_letter_13 rfl (lv_at hl 0 rfl) ?_
      refine k_get C0 fg_X10_111 hP 0 rfl rfl dX10_letter_14 ?_
      refine lv_iconst (v := 2) hx hb dX10_letter_17 rfl ?_
      refine lv_iload_n hx hb dX10_letter_18 rfl (lv_at hl 1 rfl) ?_
      refine lv_iadd hx hb dX10_letter_19 ?_
      refine lv_topi (fun z38 ez38 => ?_)
      have h39 := ib_add (ib_c 2 2 2 rfl) h37 rfl
      rw [← ez38] at h39
      have h40 : ib z38 2 3 := ib_w 2 3 h39.1 rfl
      have Ez38 := lf_add h39.2 (lf_lc 2 (2 : Int) rfl) (lf_rf p0)
      refine va_iald hx hb C0.2.2.2.2.2.1 hP 1 0 rfl rfl (ib_in 4 h40 rfl) dX10_letter_20 ?_
      refine lv_topi (fun z41 ez41 => ?_)
      have h42 : ib z41 0 12 := by rw [ez41]; exact ia_at hg_many (ib_in 4 h40 rfl)
      have Ez41 := lf_ld ez41 (lf_ra g_many) Ez38
      refine lv_iconst (v := 1) hx hb dX10_letter_21 rfl ?_
      refine lv_isub hx hb dX10_letter_22 ?_
      refine lv_topi (fun z43 ez43 => ?_)
      have h44 := ib_sub h42 (ib_c 1 1 1 rfl) rfl
      rw [← ez43] at h44
      have h45 : ib z43 (-1) 11 := ib_w (-1) 11 h44.1 rfl
      have Ez43 := lf_sub h44.2 Ez41 (lf_lc 1 (1 : Int) rfl)
      refine lv_i2l (v := z43.toInt64) hx hb dX10_letter_23 rfl ?_
      refine k_jim hP hD hS hA [] [true, true, true] rfl rfl rfl 0 0 (Nat.le_of_ble_eq_true rfl) (Nat.le_of_ble_eq_true rfl) (fun hPc hDc => k_runS (As := [.long p1.toInt64, .long 0, .long z43.toInt64]) (rest := []) C0 hZ hS hA (c_isIn l dC dI cy sq p1.toInt64 0 z43.toInt64) mS_X10_318 hPc hDc hl rfl rfl (Nat.le_of_ble_eq_true rfl) ⟨(Nat.le_of_ble_eq_true rfl), (Nat.le_of_ble_eq_true rfl)⟩ ⟨(Nat.le_of_ble_eq_true rfl), (Nat.le_of_ble_eq_true rfl)⟩ dX10_letter_24) (fun r46 u47 H locs hw hP hD hS => ?_)
      replace hP : va_P (dC, dI) vwCl [(a_this, .inr (10, mfs rm x_taped x_at x_end x_ended x_bad x_badPlace x_fault x_faultPlace x_namePlace x_awayTold x_away x_coded x_statements x_isCrossing x_textKind x_askSecond x_redMany x_isOpen x_lastGreen x_greenTo x_isCycleGreen x_stillGreen x_rowMany x_fitMany x_fitRules x_fitGreen x_undoable x_newest x_seeded x_qCoded x_qWaits x_qOpened x_qBase x_qPiled x_qAnswer x_qIsNew x_octets)), (wi_rm41_0_4_0 rm cy g_many), (wi_rm42_1_48_1 rm cy g_names)] H := hP
      as_aux_lemma =>
        replace hD := k_D hP hD
        have h48 := hw
        have h49 : ib r46 0 1 := by rw [h48]; exact k_isf_01 _ _ _
        have Er46 := lf_isine h48 (lf_i2l (lf_rf p1)) (lf_ll 0 (0 : Int) rfl) (lf_i2l Ez43)
        refine lv_if_eq (tgt := 42) hx hb dX10_letter_27 rfl (fun c50 => ?_) (fun c50 => ?_)
        · replace hq := lf_pos hq (lf_eq Er46 (lf_lc 0 (0 : Int) rfl) c50)
          have h51 := ib_eq h49 (ib_c 0 0 0 rfl) c50
          have h52 : ib r46 0 0 := ib_w 0 0 h51.1 rfl
          exact jn42  H locs ls (by exact hq) hP hD hS (lv_sub hl [0, 1, 2, 3] rfl)
        · as_aux_lemma =>
            replace hq := lf_neg hq (lf_ne Er46 (lf_lc 0 (0 : Int) rfl) c50)
            have h53 : ib r46 1 1 := ib_w 1 1 (ib_ne_lo 0 h49 rfl c50) rfl
            have h54 : ib p1 0 11 := ib_w 0 11 (ib_two (ib_any p1) (k_isf_v h48 (show 0 ≤ (0 : Int64).toInt by decide) (by rw [Int32.toInt_toInt64]; exact (h45).2) (ib_nz h53 rfl))) rfl
            have h55 : ib z43 0 11 := ib_w 0 11 (ib_two h45 (k_isf_u h48 (show 0 ≤ (0 : Int64).toInt by decide) h45 (ib_nz h53 rfl))) rfl
            have h56 : ib z41 1 12 := ⟨by have := h44.2; have := (h55).1; have := (h55).2; have := (h42).1; have := (h42).2; have := ((ib_c 1 1 1 rfl)).1; have := ((ib_c 1 1 1 rfl)).2; omega, by have := h44.2; have := (h55).1; have := (h55).2; have := (h42).1; have := (h42).2; have := ((ib_c 1 1 1 rfl)).1; have := ((ib_c 1 1 1 rfl)).2; omega⟩
            refine lv_iload_n hx hb dX10_letter_30 rfl (lv_at hl 3 rfl) ?_
            refine lv_i2l (v := p2.toInt64) hx hb dX10_letter_31 rfl ?_
            refine lv_lconst (v := 0) hx hb dX10_letter_32 (by decide) ?_
            refine lv_ldc2 hx hb C0.2.2.2.1 (C0.2.2.2.2.1 _ wd789) dX10_letter_33 ?_
            refine k_jim hP hD hS hA [] [true, true, true] rfl rfl rfl 0 0 (Nat.le_of_ble_eq_true rfl) (Nat.le_of_ble_eq_true rfl) (fun hPc hDc => k_runS (As := [.long p2.toInt64, .long 0, .long 5]) (rest := []) C0 hZ hS hA (c_isIn l dC dI cy sq p2.toInt64 0 5) mS_X10_318 hPc hDc hl rfl rfl (Nat.le_of_ble_eq_true rfl) ⟨(Nat.le_of_ble_eq_true rfl), (Nat.le_of_ble_eq_true rfl)⟩ ⟨(Nat.le_of_ble_eq_true rfl), (Nat.le_of_ble_eq_true rfl)⟩ dX10_letter_36) (fun r57 u58 H locs hw hP hD hS => ?_)
            replace hP : va_P (dC, dI) vwCl [(a_this, .inr (10, mfs rm x_taped x_at x_end x_ended x_bad x_badPlace x_fault x_faultPlace x_namePlace x_awayTold x_away x_coded x_statements x_isCrossing x_textKind x_askSecond x_redMany x_isOpen x_lastGreen x_greenTo x_isCycleGreen x_stillGreen x_rowMany x_fitMany x_fitRules x_fitGreen x_undoable x_newest x_seeded x_qCoded x_qWaits x_qOpened x_qBase x_qPiled x_qAnswer x_qIsNew x_octets)), (wi_rm41_0_4_0 rm cy g_many), (wi_rm42_1_48_1 rm cy g_names)] H := hP
            replace hD := k_D hP hD
            have h59 := hw
            have h60 : ib r57 0 1 := by rw [h59]; exact k_isf_01 _ _ _
            have Er57 := lf_isine h59 (lf_i2l (lf_rf p2)) (lf_ll 0 (0 : Int) rfl) (lf_ll 5 (5 : Int) rfl)
            refine lv_if_ne (tgt := 44) hx hb dX10_letter_39 rfl (fun c61 => ?_) (fun c61 => ?_)
            · as_aux_lemma =>
                replace hq := lf_neg hq (lf_ne Er57 (lf_lc 0 (0 : Int) rfl) c61)
                have h62 : ib r57 1 1 := ib_w 1 1 (ib_ne_lo 0 h60 rfl c61) rfl
                have h63 : ib p2 0 5 := ib_w 0 5 (ib_two (ib_any p2) (k_isf_v h59 (show 0 ≤ (0 : Int64).toInt by decide) (show (5 : Int64).toInt ≤ 5 by decide) (ib_nz h62 rfl))) rfl
                refine lv_aload_n hx hb dX10_letter_44 rfl (lv_at hl 0 rfl) ?_
                refine k_get C0 fg_X10_114 hP 0 rfl rfl dX10_letter_45 ?_
                refine lv_bipush (v := 24) hx hb dX10_letter_48 rfl ?_
                refine lv_bipush (v := 12) hx hb dX10_letter_50 rfl ?_
                refine lv_iload_n hx hb dX10_letter_52 rfl (lv_at hl 1 rfl) ?_
                refine lv_imul hx hb dX10_letter_53 ?_
                refine lv_topi (fun z64 ez64 => ?_)
                have h65 := ib_mul (ib_c 12 12 12 rfl) h37 rfl
                rw [← ez64] at h65
                have h66 : ib z64 0 12 := ib_w 0 12 h65.1 rfl
                have h67 : z64.toInt = 12 * p0.toInt := by have q0 := h65.2; rw [show (12 : Int32).toInt = 12 from by decide] at q0; omega
                have Ez64 := lf_mul h65.2 (lf_lc 12 (12 : Int) rfl) (lf_rf p0)
                refine lv_iadd hx hb dX10_letter_54 ?_
                refine lv_topi (fun z68 ez68 => ?_)
                have h69 := ib_add (ib_c 24 24 24 rfl) h66 rfl
                rw [← ez68] at h69
                have h70 : ib z68 24 36 := ib_w 24 36 h69.1 rfl
                have Ez68 := lf_add h69.2 (lf_lc 24 (24 : Int) rfl) Ez64
                refine lv_iload_n hx hb dX10_letter_55 rfl (lv_at hl 2 rfl) ?_
                refine lv_iadd hx hb dX10_letter_56 ?_
                refine lv_topi (fun z71 ez71 => ?_)
                have h72 := ib_add h70 h54 rfl
                rw [← ez71] at h72
                have h73 : ib z71 24 47 := ib_w 24 47 h72.1 rfl
                have Ez71 := lf_add h72.2 Ez68 (lf_rf p1)
                refine va_lald hx hb C0.2.2.2.2.2.1 hP 2 1 rfl rfl (ib_in 48 h73 rfl) dX10_letter_57 ?_
                refine lv_topl (fun z74 ez74 => ?_)
                have Ez74 := lf_ldl ez74 (lf_raL g_names) Ez71
                refine lv_lstore (lv' := [(4, .long z74), (0, .ref a_this), (1, .int p0), (2, .int p1), (3, .int p2)]) hx hb dX10_letter_58 hl (Nat.le_of_ble_eq_true rfl) rfl (fun ls hl => ?_)
                refine lv_iconst (v := 0) hx hb dX10_letter_60 rfl ?_
                refine lv_istore (lv' := [(6, .int 0), (4, .long z74), (0, .ref a_this), (1, .int p0), (2, .int p1), (3, .int p2)]) hx hb dX10_letter_61 hl (Nat.le_of_ble_eq_true rfl) rfl (fun ls hl => ?_)
                refine lv_lload hx hb dX10_letter_63 (lv_at hl 1 rfl) ?_
                refine lv_lstore (lv' := [(7, .long z74), (6, .int 0), (4, .long z74), (0, .ref a_this), (1, .int p0), (2, .int p1), (3, .int p2)]) hx hb dX10_letter_65 hl (Nat.le_of_ble_eq_true rfl) rfl (fun ls hl => ?_)
                exact jn67 (z74.toInt.toNat + 1) z74 z74 0 H locs ls (ib_w 0 1 h37 rfl) (ib_w 0 11 h54 rfl) (ib_w 0 5 h63 rfl) (by rw [lf_ul Ez74]; try simp only [show (0 : Int32).toInt = (0 : Int) from rfl]; exact hq) (Nat.lt_succ_self _) hP hD hS (lv_sub hl [3, 4, 5, 6, 2, 1, 0] rfl)
            · replace hq := lf_pos hq (lf_eq Er57 (lf_lc 0 (0 : Int) rfl) c61)
              have h75 := ib_eq h60 (ib_c 0 0 0 rfl) c61
              have h76 : ib r57 0 0 := ib_w 0 0 h75.1 rfl
              exact jn42  H locs ls (by exact hq) hP hD hS (lv_sub hl [0, 1, 2, 3] rfl)
set_option maxHeartbeats 4000000 in
set_option maxRecDepth 100000 in
theorem s_X10_light (l : Launch) (dC : Nat → ClassId) (dI : Nat → Nat → Nat) (cy : Nat → ClassId) (sq : Nat → Nat) (a_this : Nat) (rm : Nat → Nat) (x_taped : Int32) (x_at : Int32) (x_end : Int32) (x_ended : Int32) (x_bad : Int32) (x_badPlace : Int32) (x_fault : Int32) (x_faultPlace : Int32) (x_namePlace : Int32) (x_awayTold : Int32) (x_away : Int32) (x_coded : Int32) (x_statements : Int32) (x_isCrossing : Int32) (x_textKind : Int32) (x_askSecond : Int32) (x_redMany : Int32) (x_isOpen : Int32) (x_lastGreen : Int32) (x_greenTo : Int32) (x_isCycleGreen : Int32) (x_stillGreen : Int32) (x_rowMany : Int32) (x_fitMany : Int32) (x_fitRules : Int32) (x_fitGreen : Int32) (x_undoable : Int32) (x_newest : Int32) (x_seeded : Int64) (x_qCoded : Int32) (x_qWaits : Int32) (x_qOpened : Int32) (x_qBase : Int32) (x_qPiled : Int32) (x_qAnswer : Int64) (x_qIsNew : Int32) (x_octets : Int32) (g_many : Nat → Int32) (g_bar : Nat → Int32) (g_kinds : Nat → Int32) (g_walkers : Nat → Int32) (g_codeFrom : Nat → Int32) (g_codeEnd : Nat → Int32) (g_codes : Nat → Int32) (g_now : Nat → Int32) (g_isCar : Nat → Int32) (g_gaps : Nat → Int32) (g_isGreen : Nat → Int32) (g_isHere : Nat → Int32) (g_crosses : Nat → Int32) (g_waits : Nat → Int32) (g_goes : Nat → Int32) (g_harms : Nat → Int32) (g_presses : Nat → Int32) (g_crossedIn : Nat → Int32) (g_qPile : Nat → Int64) (p0 : Int32) (hx_isCrossing : ib x_isCrossing 0 1) (hx_isOpen : ib x_isOpen 0 1) (hx_isCycleGreen : ib x_isCycleGreen 0 1) (hx_qPiled : ib x_qPiled 0 1700) (hg_many_3 : ib (g_many 3) 0 12) (hg_bar_4 : ib (g_bar 4) 0 120) (hpg_walkers : ip g_walkers 48 2 0 0 5) (hg_codeFrom_3 : ib (g_codeFrom 3) (-1) 1600) (hg_codeFrom_4 : ib (g_codeFrom 4) (-1) 1600) (hg_codeEnd_3 : ib (g_codeEnd 3) 0 1600) (hg_codeEnd_4 : ib (g_codeEnd 4) 0 1600) (hg_gaps : ia g_gaps 300 0 20) (hG0 : ¬ g_codeFrom 3 = (-1) → okc g_codes 1600 false (g_codeFrom 3) (g_codeEnd 3)) (hG1 : ¬ g_codeFrom 4 = (-1) → okc g_codes 1600 true (g_codeFrom 4) (g_codeEnd 4)) (hc_cr : ¬ x_isCrossing = 0 → ib (g_bar 4) 10 120) : k_Met l yX10_light cX10_light 2 (some .int) { frames := 7, cells := 0, slots := 0, locals := 157 } dC dI cy sq [.ref a_this, .int p0] [(a_this, .inr (10, mfs rm x_taped x_at x_end x_ended x_bad x_badPlace x_fault x_faultPlace x_namePlace x_awayTold x_away x_coded x_statements x_isCrossing x_textKind x_askSecond x_redMany x_isOpen x_lastGreen x_greenTo x_isCycleGreen x_stillGreen x_rowMany x_fitMany x_fitRules x_fitGreen x_undoable x_newest x_seeded x_qCoded x_qWaits x_qOpened x_qBase x_qPiled x_qAnswer x_qIsNew x_octets)), (wi_rm49_0_6_0 rm cy g_codeFrom), (wi_rm50_0_6_0 rm cy g_codeEnd), (wi_rm116_1_1700_1 rm cy g_qPile), (wi_rm51_0_3200_0 rm cy g_codes), (wi_rm46_0_48_0 rm cy g_walkers), (wi_rm56_0_9_0 rm cy g_now), (wi_rm43_0_8_0 rm cy g_bar), (wi_rm65_0_12_0 rm cy g_waits), (wi_rm44_0_24_0 rm cy g_kinds), (wi_rm61_0_300_0 rm cy g_gaps), (wi_rm66_3_12_0 rm cy g_goes), (wi_rm67_3_12_0 rm cy g_harms), (wi_rm60_3_320_0 rm cy g_isCar), (wi_rm63_3_12_0 rm cy g_isHere), (wi_rm64_0_12_0 rm cy g_crosses), (wi_rm68_3_12_0 rm cy g_presses), (wi_rm69_3_300_0 rm cy g_crossedIn), (wi_rm41_0_4_0 rm cy g_many), (wi_rm62_3_300_0 rm cy g_isGreen)] (k_Qi dC dI (fun (r : Int32) (u : Int32 × Int32 × Int32 × Int32 × Int32 × Int32 × Int32 × Int32 × Int32 × (Nat → Int64) × (Nat → Int32) × (Nat → Int32) × (Nat → Int32) × (Nat → Int32) × (Nat → Int32) × (Nat → Int32) × (Nat → Int32) × (Nat → Int32) × (Nat → Int32) × (Nat → Int32)) => match u with | (n0, n1, n2, n3, n4, n5, n6, n7, n8, n9, n10, n11, n12, n13, n14, n15, n16, n17, n18, n19) => ib n3 0 1 ∧ ib n6 0 1 ∧ ib n8 0 1700 ∧ ia n11 300 0 20 ∧ ib r (-1) 1 ∧ (F_X10_light (Int32.toInt x_isCrossing) (Int32.toInt x_textKind) (Int32.toInt x_askSecond) (Int32.toInt x_redMany) (Int32.toInt x_isOpen) (Int32.toInt x_lastGreen) (Int32.toInt x_greenTo) (Int32.toInt x_isCycleGreen) (Int32.toInt x_stillGreen) (Int32.toInt x_qPiled) (lf_A g_many) (lf_A g_bar) (lf_A g_kinds) (lf_A g_walkers) (lf_A g_codeFrom) (lf_A g_codeEnd) (lf_A g_codes) (lf_A g_now) (lf_A g_isCar) (lf_A g_gaps) (lf_A g_isGreen) (lf_A g_isHere) (lf_A g_crosses) (lf_A g_waits) (lf_A g_goes) (lf_A g_harms) (lf_A g_presses) (lf_A g_crossedIn) (lf_L g_qPile) (Int32.toInt p0) = ((Int32.toInt r), (Int32.toInt n0), (Int32.toInt n1), (Int32.toInt n2), (Int32.toInt n3), (Int32.toInt n4), (Int32.toInt n5), (Int32.toInt n6), (Int32.toInt n7), (Int32.toInt n8), (lf_L n9), (lf_A n10), (lf_A n11), (lf_A n12), (lf_A n13), (lf_A n14), (lf_A n15), (lf_A n16), (lf_A n17), (lf_A n18), (lf_A n19)))) (fun u : Int32 × Int32 × Int32 × Int32 × Int32 × Int32 × Int32 × Int32 × Int32 × (Nat → Int64) × (Nat → Int32) × (Nat → Int32) × (Nat → Int32) × (Nat → Int32) × (Nat → Int32) × (Nat → Int32) × (Nat → Int32) × (Nat → Int32) × (Nat → Int32) × (Nat → Int32) => match u with | (n0, n1, n2, n3, n4, n5, n6, n7, n8, n9, n10, n11, n12, n13, n14, n15, n16, n17, n18, n19) => [(a_this, .inr (10, mfs rm x_taped x_at x_end x_ended x_bad x_badPlace x_fault x_faultPlace x_namePlace x_awayTold x_away x_coded x_statements x_isCrossing n0 n1 n2 n3 n4 n5 n6 n7 x_rowMany x_fitMany x_fitRules x_fitGreen x_undoable x_newest x_seeded x_qCoded x_qWaits x_qOpened x_qBase n8 x_qAnswer x_qIsNew x_octets)), (wi_rm49_0_6_0 rm cy g_codeFrom), (wi_rm50_0_6_0 rm cy g_codeEnd), (wi_rm116_1_1700_1 rm cy n9), (wi_rm51_0_3200_0 rm cy g_codes), (wi_rm46_0_48_0 rm cy g_walkers), (wi_rm56_0_9_0 rm cy g_now), (wi_rm43_0_8_0 rm cy g_bar), (wi_rm65_0_12_0 rm cy n10), (wi_rm44_0_24_0 rm cy g_kinds), (wi_rm61_0_300_0 rm cy n11), (wi_rm66_3_12_0 rm cy n12), (wi_rm67_3_12_0 rm cy n13), (wi_rm60_3_320_0 rm cy n14), (wi_rm63_3_12_0 rm cy n15), (wi_rm64_0_12_0 rm cy n16), (wi_rm68_3_12_0 rm cy n17), (wi_rm69_3_300_0 rm cy n18), (wi_rm41_0_4_0 rm cy g_many), (wi_rm62_3_300_0 rm cy n19)])) := by
  refine k_ofW2 (by decide +kernel) (Nat.le_of_ble_eq_true rfl) ?_
  intro p e s m below meth c A ls H locs args Q hQ C0 hZ hr hlk hin hP hD hA hS hl
  have C0 : k_cx p s m args c cX10_light 2 RX10 dC dI cy sq := C0
  have hx := C0.1
  have hb := C0.2.1
  have hl : lv_has ls 2 [(0, .ref a_this), (1, .int p0)] := hl
  obtain ⟨O, hO⟩ : ∃ o, o = F_X10_light (Int32.toInt x_isCrossing) (Int32.toInt x_textKind) (Int32.toInt x_askSecond) (Int32.toInt x_redMany) (Int32.toInt x_isOpen) (Int32.toInt x_lastGreen) (Int32.toInt x_greenTo) (Int32.toInt x_isCycleGreen) (Int32.toInt x_stillGreen) (Int32.toInt x_qPiled) (lf_A g_many) (lf_A g_bar) (lf_A g_kinds) (lf_A g_walkers) (lf_A g_codeFrom) (lf_A g_codeEnd) (lf_A g_codes) (lf_A g_now) (lf_A g_isCar) (lf_A g_gaps) (lf_A g_isGreen) (lf_A g_isHere) (lf_A g_crosses) (lf_A g_waits) (lf_A g_goes) (lf_A g_harms) (lf_A g_presses) (lf_A g_crossedIn) (lf_L g_qPile) (Int32.toInt p0) := ⟨_, rfl⟩
  have hq := hO
  unfold F_X10_light at hq
  have jn19 : ∀  (H : Heap) (locs : List Loc) (ls : Array Slot), (O = F_X10_light_19 (Int32.toInt x_textKind) (Int32.toInt x_askSecond) (Int32.toInt x_redMany) (Int32.toInt x_isOpen) (Int32.toInt x_lastGreen) (Int32.toInt x_greenTo) (Int32.toInt x_isCycleGreen) (Int32.toInt x_stillGreen) (Int32.toInt x_qPiled) (lf_A g_isCar) (lf_A g_gaps) (lf_A g_isGreen) (lf_A g_isHere) (lf_A g_crosses) (lf_A g_waits) (lf_A g_goes) (lf_A g_harms) (lf_A g_presses) (lf_A g_crossedIn) (lf_L g_qPile) ) → va_P (dC, dI) vwCl [(a_this, .inr (10, mfs rm x_taped x_at x_end x_ended x_bad x_badPlace x_fault x_faultPlace x_namePlace x_awayTold x_away x_coded x_statements x_isCrossing x_textKind x_askSecond x_redMany x_isOpen x_lastGreen x_greenTo x_isCycleGreen x_stillGreen x_rowMany x_fitMany x_fitRules x_fitGreen x_undoable x_newest x_seeded x_qCoded x_qWaits x_qOpened x_qBase x_qPiled x_qAnswer x_qIsNew x_octets)), (wi_rm49_0_6_0 rm cy g_codeFrom), (wi_rm50_0_6_0 rm cy g_codeEnd), (wi_rm116_1_1700_1 rm cy g_qPile), (wi_rm51_0_3200_0 rm cy g_codes), (wi_rm46_0_48_0 rm cy g_walkers), (wi_rm56_0_9_0 rm cy g_now), (wi_rm43_0_8_0 rm cy g_bar), (wi_rm65_0_12_0 rm cy g_waits), (wi_rm44_0_24_0 rm cy g_kinds), (wi_rm61_0_300_0 rm cy g_gaps), (wi_rm66_3_12_0 rm cy g_goes), (wi_rm67_3_12_0 rm cy g_harms), (wi_rm60_3_320_0 rm cy g_isCar), (wi_rm63_3_12_0 rm cy g_isHere), (wi_rm64_0_12_0 rm cy g_crosses), (wi_rm68_3_12_0 rm cy g_presses), (wi_rm69_3_300_0 rm cy g_crossedIn), (wi_rm41_0_4_0 rm cy g_many), (wi_rm62_3_300_0 rm cy g_isGreen)] H → va_D A [(a_this, .inr (10, mfs rm x_taped x_at x_end x_ended x_bad x_badPlace x_fault x_faultPlace x_namePlace x_awayTold x_away x_coded x_statements x_isCrossing x_textKind x_askSecond x_redMany x_isOpen x_lastGreen x_greenTo x_isCycleGreen x_stillGreen x_rowMany x_fitMany x_fitRules x_fitGreen x_undoable x_newest x_seeded x_qCoded x_qWaits x_qOpened x_qBase x_qPiled x_qAnswer x_qIsNew x_octets)), (wi_rm49_0_6_0 rm cy g_codeFrom), (wi_rm50_0_6_0 rm cy g_codeEnd), (wi_rm116_1_1700_1 rm cy g_qPile), (wi_rm51_0_3200_0 rm cy g_codes), (wi_rm46_0_48_0 rm cy g_walkers), (wi_rm56_0_9_0 rm cy g_now), (wi_rm43_0_8_0 rm cy g_bar), (wi_rm65_0_12_0 rm cy g_waits), (wi_rm44_0_24_0 rm cy g_kinds), (wi_rm61_0_300_0 rm cy g_gaps), (wi_rm66_3_12_0 rm cy g_goes), (wi_rm67_3_12_0 rm cy g_harms), (wi_rm60_3_320_0 rm cy g_isCar), (wi_rm63_3_12_0 rm cy g_isHere), (wi_rm64_0_12_0 rm cy g_crosses), (wi_rm68_3_12_0 rm cy g_presses), (wi_rm69_3_300_0 rm cy g_crossedIn), (wi_rm41_0_4_0 rm cy g_many), (wi_rm62_3_300_0 rm cy g_isGreen)] → va_S A s.heap H locs → lv_has ls 2 [(0, .ref a_this), (1, .int p0)] → W p l e { frames := 7, cells := 0, slots := 0, locals := 157 } s m args below meth c H locs 0 0 Q (F0 m 19 ls []) := by
    intro H locs ls hq hP hD hS hl
    unfold F_X10_light_19 at hq
    refine lv_iconst (v := (-1)) hx hb dX10_light_19 rfl ?_
    subst hQ; exact k_iret hx hb hr hlk rfl ((x_textKind, x_askSecond, x_redMany, x_isOpen, x_lastGreen, x_greenTo, x_isCycleGreen, x_stillGreen, x_qPiled, g_qPile, g_waits, g_gaps, g_goes, g_harms, g_isCar, g_isHere, g_crosses, g_presses, g_crossedIn, g_isGreen)) hS ⟨ib_w 0 1 hx_isOpen rfl, ib_w 0 1 hx_isCycleGreen rfl, ib_w 0 1700 hx_qPiled rfl, hg_gaps, ib_w (-1) 1 (ib_c (-1) (-1) (-1) rfl) rfl, (hO.symm.trans (by try simp only [show ((-1) : Int32).toInt = (-1 : Int) from rfl]; exact hq))⟩ hP hD (Nat.le_of_ble_eq_true rfl) (Nat.le_of_ble_eq_true rfl) dX10_light_20
  refine lv_aload_n hx hb dX10_light_0 rfl (lv_at hl 0 rfl) ?_
  refine k_get C0 fg_X10_417 hP 0 rfl rfl dX10_light_1 ?_
  refine lv_if_eq (tgt := 19) hx hb dX10_light_4 rfl (fun c1 => ?_) (fun c1 => ?_)
  · replace hq := lf_pos hq (lf_eq (lf_rf x_isCrossing) (lf_lc 0 (0 : Int) rfl) c1)
    have h2 := ib_eq hx_isCrossing (ib_c 0 0 0 rfl) c1
    have h3 : ib x_isCrossing 0 0 := ib_w 0 0 h2.1 rfl
    exact jn19  H locs ls (by exact hq) hP hD hS (lv_sub hl [0, 1] rfl)
  · as_aux_lemma =>
      replace hq := lf_neg hq (lf_ne (lf_rf x_isCrossing) (lf_lc 0 (0 : Int) rfl) c1)
      have h4 : ib x_isCrossing 1 1 := ib_w 1 1 (ib_ne_lo 0 hx_isCrossing rfl c1) rfl
      have h5 : ib (g_bar 4) 10 120 := ib_w 10 120 (ib_two hg_bar_4 (hc_cr (ib_nz h4 rfl))) rfl
      refine lv_iload_n hx hb dX10_light_7 rfl (lv_at hl 1 rfl) ?_
      refine lv_i2l (v := p0.toInt64) hx hb dX10_light_8 rfl ?_
      refine lv_lconst (v := 0) hx hb dX10_light_9 (by decide) ?_
      refine lv_ldc2 hx hb C0.2.2.2.1 (C0.2.2.2.2.1 _ wd1003) dX10_light_10 ?_
      refine k_jim hP hD hS hA [] [true, true, true, true, true, true, true, true, true, true, true, true, true, true, true, true, true, true, true, true] rfl rfl (by decide +kernel) 0 0 (Nat.le_of_ble_eq_true rfl) (Nat.le_of_ble_eq_true rfl) (fun hPc hDc => k_runS (As := [.long p0.toInt64, .long 0, .long 299]) (rest := []) C0 hZ hS hA (c_isIn l dC dI cy sq p0.toInt64 0 299) mS_X10_318 hPc hDc hl rfl rfl (Nat.le_of_ble_eq_true rfl) ⟨(Nat.le_of_ble_eq_true rfl), (Nat.le_of_ble_eq_true rfl)⟩ ⟨(Nat.le_of_ble_eq_true rfl), (Nat.le_of_ble_eq_true rfl)⟩ dX10_light_13) (fun r6 u7 H locs hw hP hD hS => ?_)
      replace hP : va_P (dC, dI) vwCl [(a_this, .inr (10, mfs rm x_taped x_at x_end x_ended x_bad x_badPlace x_fault x_faultPlace x_namePlace x_awayTold x_away x_coded x_statements x_isCrossing x_textKind x_askSecond x_redMany x_isOpen x_lastGreen x_greenTo x_isCycleGreen x_stillGreen x_rowMany x_fitMany x_fitRules x_fitGreen x_undoable x_newest x_seeded x_qCoded x_qWaits x_qOpened x_qBase x_qPiled x_qAnswer x_qIsNew x_octets)), (wi_rm49_0_6_0 rm cy g_codeFrom), (wi_rm50_0_6_0 rm cy g_codeEnd), (wi_rm116_1_1700_1 rm cy g_qPile), (wi_rm51_0_3200_0 rm cy g_codes), (wi_rm46_0_48_0 rm cy g_walkers), (wi_rm56_0_9_0 rm cy g_now), (wi_rm43_0_8_0 rm cy g_bar), (wi_rm65_0_12_0 rm cy g_waits), (wi_rm44_0_24_0 rm cy g_kinds), (wi_rm61_0_300_0 rm cy g_gaps), (wi_rm66_3_12_0 rm cy g_goes), (wi_rm67_3_12_0 rm cy g_harms), (wi_rm60_3_320_0 rm cy g_isCar), (wi_rm63_3_12_0 rm cy g_isHere), (wi_rm64_0_12_0 rm cy g_crosses), (wi_rm68_3_12_0 rm cy g_presses), (wi_rm69_3_300_0 rm cy g_crossedIn), (wi_rm41_0_4_0 rm cy g_many), (wi_rm62_3_300_0 rm cy g_isGreen)] H := hP
      replace hD := k_D hP hD
      have h8 := hw
      have h9 : ib r6 0 1 := by rw [h8]; exact k_isf_01 _ _ _
      have Er6 := lf_isine h8 (lf_i2l (lf_rf p0)) (lf_ll 0 (0 : Int) rfl) (lf_ll 299 (299 : Int) rfl)
      refine lv_if_ne (tgt := 21) hx hb dX10_light_16 rfl (fun c10 => ?_) (fun c10 => ?_)
      · as_aux_lemma =>
          replace hq := lf_neg hq (lf_ne Er6 (lf_lc 0 (0 : Int) rfl) c10)
          have h11 : ib r6 1 1 := ib_w 1 1 (ib_ne_lo 0 h9 rfl c10) rfl
          have h12 : ib p0 0 299 := ib_w 0 299 (ib_two (ib_any p0) (k_isf_v h8 (show 0 ≤ (0 : Int64).toInt by decide) (show (299 : Int64).toInt ≤ 299 by decide) (ib_nz h11 rfl))) rfl
          refine lv_aload_n hx hb dX10_light_21 rfl (lv_at hl 0 rfl) ?_
          refine k_jvm hP hD hS hA [0, 1, 2, 3, 4, 5, 6, 7, 8, 9, 10, 11, 12, 13, 14, 15, 16, 17, 18, 19] [] rfl rfl (by decide +kernel) 0 0 (Nat.le_of_ble_eq_true rfl) (Nat.le_of_ble_eq_true rfl) (fun hPc hDc => k_runV (As := []) (rest := []) C0 hZ hS hA (s_X10_dayNow l dC dI cy sq a_this rm x_taped x_at x_end x_ended x_bad x_badPlace x_fault x_faultPlace x_namePlace x_awayTold x_away x_coded x_statements x_isCrossing x_textKind x_askSecond x_redMany x_isOpen x_lastGreen x_greenTo x_isCycleGreen x_stillGreen x_rowMany x_fitMany x_fitRules x_fitGreen x_undoable x_newest x_seeded x_qCoded x_qWaits x_qOpened x_qBase x_qPiled x_qAnswer x_qIsNew x_octets g_many g_bar g_kinds g_walkers g_codeFrom g_codeEnd g_codes g_now g_isCar g_gaps g_isGreen g_isHere g_crosses g_waits g_goes g_harms g_presses g_crossedIn g_qPile (ib_w 0 1700 hx_qPiled rfl) (ib_w 0 12 hg_many_3 rfl) (ib_w 10 120 h5 rfl) hpg_walkers (ib_w (-1) 1600 hg_codeFrom_3 rfl) (ib_w (-1) 1600 hg_codeFrom_4 rfl) (ib_w 0 1600 hg_codeEnd_3 rfl) (ib_w 0 1600 hg_codeEnd_4 rfl) hg_gaps hG0 hG1) mV_X10_534 hPc hDc rfl rfl rfl hl rfl rfl (Nat.le_of_ble_eq_true rfl) ⟨(Nat.le_of_ble_eq_true rfl), (Nat.le_of_ble_eq_true rfl)⟩ ⟨(Nat.le_of_ble_eq_true rfl), (Nat.le_of_ble_eq_true rfl)⟩ dX10_light_22) (fun u14 H locs hw hP hD hS => ?_)
          obtain ⟨v15, v16, v17, v18, v19, v20, v21, v22, v23, f24, f25, f26, f27, f28, f29, f30, f31, f32, f33, f34⟩ := u14
          try dsimp only at hP hD hw
          replace hP : va_P (dC, dI) vwCl [(a_this, .inr (10, mfs rm x_taped x_at x_end x_ended x_bad x_badPlace x_fault x_faultPlace x_namePlace x_awayTold x_away x_coded x_statements x_isCrossing v15 v16 v17 v18 v19 v20 v21 v22 x_rowMany x_fitMany x_fitRules x_fitGreen x_undoable x_newest x_seeded x_qCoded x_qWaits x_qOpened x_qBase v23 x_qAnswer x_qIsNew x_octets)), (wi_rm49_0_6_0 rm cy g_codeFrom), (wi_rm50_0_6_0 rm cy g_codeEnd), (wi_rm116_1_1700_1 rm cy f24), (wi_rm51_0_3200_0 rm cy g_codes), (wi_rm46_0_48_0 rm cy g_walkers), (wi_rm56_0_9_0 rm cy g_now), (wi_rm43_0_8_0 rm cy g_bar), (wi_rm65_0_12_0 rm cy f25), (wi_rm44_0_24_0 rm cy g_kinds), (wi_rm61_0_300_0 rm cy f26), (wi_rm66_3_12_0 rm cy f27), (wi_rm67_3_12_0 rm cy f28), (wi_rm60_3_320_0 rm cy f29), (wi_rm63_3_12_0 rm cy f30), (wi_rm64_0_12_0 rm cy f31), (wi_rm68_3_12_0 rm cy f32), (wi_rm69_3_300_0 rm cy f33), (wi_rm41_0_4_0 rm cy g_many), (wi_rm62_3_300_0 rm cy f34)] H := hP
          replace hD := k_D hP hD
          obtain ⟨h35, h36, h37, h38, h39⟩ := hw
          replace hq := lf_p1 hq h39
          replace hq := lf_p1 hq rfl
          replace hq := lf_p1 hq rfl
          replace hq := lf_p1 hq rfl
          replace hq := lf_p1 hq rfl
          replace hq := lf_p1 hq rfl
          replace hq := lf_p1 hq rfl
          replace hq := lf_p1 hq rfl
          replace hq := lf_p1 hq rfl
          replace hq := lf_p1 hq rfl
          replace hq := lf_p1 hq rfl
          replace hq := lf_p1 hq rfl
          replace hq := lf_p1 hq rfl
          replace hq := lf_p1 hq rfl
          replace hq := lf_p1 hq rfl
          replace hq := lf_p1 hq rfl
          replace hq := lf_p1 hq rfl
          replace hq := lf_p1 hq rfl
          replace hq := lf_p1 hq rfl
          refine lv_aload_n hx hb dX10_light_25 rfl (lv_at hl 0 rfl) ?_
          refine k_get C0 fg_X10_152 hP 0 rfl rfl dX10_light_26 ?_
          refine lv_iload_n hx hb dX10_light_29 rfl (lv_at hl 1 rfl) ?_
          refine va_zald hx hb C0.2.2.2.2.2.1 hP 19 3 rfl rfl (ib_in 300 h12 rfl) dX10_light_30 ?_
          refine lv_topi (fun z40 ez40 => ?_)
          have Ez40 := lf_ld ez40 (lf_ra f34) (lf_rf p0)
          refine lv_if_eq (tgt := 38) hx hb dX10_light_31 rfl (fun c41 => ?_) (fun c41 => ?_)
          · replace hq := lf_pos hq (lf_eq Ez40 (lf_lc 0 (0 : Int) rfl) c41)
            have h42 := ib_eq (ib_any z40) (ib_c 0 0 0 rfl) c41
            have h43 : ib z40 0 0 := ib_w 0 0 h42.1 rfl
            refine lv_iconst (v := 0) hx hb dX10_light_38 rfl ?_
            subst hQ; exact k_iret hx hb hr hlk rfl ((v15, v16, v17, v18, v19, v20, v21, v22, v23, f24, f25, f26, f27, f28, f29, f30, f31, f32, f33, f34)) hS ⟨ib_w 0 1 h35 rfl, ib_w 0 1 h36 rfl, ib_w 0 1700 h37 rfl, h38, ib_w (-1) 1 (ib_c 0 0 0 rfl) rfl, (hO.symm.trans (by try simp only [show (0 : Int32).toInt = (0 : Int) from rfl]; exact hq))⟩ hP hD (Nat.le_of_ble_eq_true rfl) (Nat.le_of_ble_eq_true rfl) dX10_light_39
          · replace hq := lf_neg hq (lf_ne Ez40 (lf_lc 0 (0 : Int) rfl) c41)
            refine lv_iconst (v := 1) hx hb dX10_light_34 rfl ?_
            refine lv_goto (tgt := 39) hx hb dX10_light_35 rfl ?_
            subst hQ; exact k_iret hx hb hr hlk rfl ((v15, v16, v17, v18, v19, v20, v21, v22, v23, f24, f25, f26, f27, f28, f29, f30, f31, f32, f33, f34)) hS ⟨ib_w 0 1 h35 rfl, ib_w 0 1 h36 rfl, ib_w 0 1700 h37 rfl, h38, ib_w (-1) 1 (ib_c 1 1 1 rfl) rfl, (hO.symm.trans (by try simp only [show (1 : Int32).toInt = (1 : Int) from rfl]; exact hq))⟩ hP hD (Nat.le_of_ble_eq_true rfl) (Nat.le_of_ble_eq_true rfl) dX10_light_39
      · replace hq := lf_pos hq (lf_eq Er6 (lf_lc 0 (0 : Int) rfl) c10)
        have h44 := ib_eq h9 (ib_c 0 0 0 rfl) c10
        have h45 : ib r6 0 0 := ib_w 0 0 h44.1 rfl
        exact jn19  H locs ls (by exact hq) hP hD hS (lv_sub hl [0, 1] rfl)
set_option maxHeartbeats 4000000 in
set_option maxRecDepth 100000 in
theorem s_X10_mostAlike (l : Launch) (dC : Nat → ClassId) (dI : Nat → Nat → Nat) (cy : Nat → ClassId) (sq : Nat → Nat) (a_this : Nat) (rm : Nat → Nat) (x_taped : Int32) (x_at : Int32) (x_end : Int32) (x_ended : Int32) (x_bad : Int32) (x_badPlace : Int32) (x_fault : Int32) (x_faultPlace : Int32) (x_namePlace : Int32) (x_awayTold : Int32) (x_away : Int32) (x_coded : Int32) (x_statements : Int32) (x_isCrossing : Int32) (x_textKind : Int32) (x_askSecond : Int32) (x_redMany : Int32) (x_isOpen : Int32) (x_lastGreen : Int32) (x_greenTo : Int32) (x_isCycleGreen : Int32) (x_stillGreen : Int32) (x_rowMany : Int32) (x_fitMany : Int32) (x_fitRules : Int32) (x_fitGreen : Int32) (x_undoable : Int32) (x_newest : Int32) (x_seeded : Int64) (x_qCoded : Int32) (x_qWaits : Int32) (x_qOpened : Int32) (x_qBase : Int32) (x_qPiled : Int32) (x_qAnswer : Int64) (x_qIsNew : Int32) (x_octets : Int32) (g_when : Nat → Int32) (p0 : Int32) (hx_fitMany : ib x_fitMany 0 60) (hp0 : ib p0 0 11) : k_Met l yX10_mostAlike cX10_mostAlike 6 (some .int) { frames := 0, cells := 0, slots := 0, locals := 0 } dC dI cy sq [.ref a_this, .int p0] [(a_this, .inr (10, mfs rm x_taped x_at x_end x_ended x_bad x_badPlace x_fault x_faultPlace x_namePlace x_awayTold x_away x_coded x_statements x_isCrossing x_textKind x_askSecond x_redMany x_isOpen x_lastGreen x_greenTo x_isCycleGreen x_stillGreen x_rowMany x_fitMany x_fitRules x_fitGreen x_undoable x_newest x_seeded x_qCoded x_qWaits x_qOpened x_qBase x_qPiled x_qAnswer x_qIsNew x_octets)), (wi_rm77_0_720_0 rm cy g_when)] (k_Qi dC dI (fun (r : Int32) (_ : Unit) => ib r 0 2147483647 ∧ (F_X10_mostAlike (Int32.toInt x_fitMany) (lf_A g_when) (Int32.toInt p0) = ((Int32.toInt r)))) (fun _ : Unit => [(a_this, .inr (10, mfs rm x_taped x_at x_end x_ended x_bad x_badPlace x_fault x_faultPlace x_namePlace x_awayTold x_away x_coded x_statements x_isCrossing x_textKind x_askSecond x_redMany x_isOpen x_lastGreen x_greenTo x_isCycleGreen x_stillGreen x_rowMany x_fitMany x_fitRules x_fitGreen x_undoable x_newest x_seeded x_qCoded x_qWaits x_qOpened x_qBase x_qPiled x_qAnswer x_qIsNew x_octets)), (wi_rm77_0_720_0 rm cy g_when)])) := by
  refine k_ofW2 (by decide +kernel) (Nat.le_of_ble_eq_true rfl) ?_
  intro p e s m below meth c A ls H locs args Q hQ C0 hZ hr hlk hin hP hD hA hS hl
  have C0 : k_cx p s m args c cX10_mostAlike 6 RX10 dC dI cy sq := C0
  have hx := C0.1
  have hb := C0.2.1
  have hl : lv_has ls 6 [(0, .ref a_this), (1, .int p0)] := hl
  obtain ⟨O, hO⟩ : ∃ o, o = F_X10_mostAlike (Int32.toInt x_fitMany) (lf_A g_when) (Int32.toInt p0) := ⟨_, rfl⟩
  have hq := hO
  unfold F_X10_mostAlike at hq
  have jn4 : ∀ (n : Nat) (J4_l2 : Int32) (J4_l3 : Int32) (H : Heap) (locs : List Loc) (ls : Array Slot), ib J4_l2 0 2147483647 → ib J4_l3 0 60 → (O = F_X10_mostAlike_4 (Int32.toInt x_fitMany) (lf_A g_when) (Int32.toInt p0) n (Int32.toInt J4_l2) (Int32.toInt J4_l3)) → 61 ≤ J4_l3.toInt + (n : Int) → va_P (dC, dI) vwCl [(a_this, .inr (10, mfs rm x_taped x_at x_end x_ended x_bad x_badPlace x_fault x_faultPlace x_namePlace x_awayTold x_away x_coded x_statements x_isCrossing x_textKind x_askSecond x_redMany x_isOpen x_lastGreen x_greenTo x_isCycleGreen x_stillGreen x_rowMany x_fitMany x_fitRules x_fitGreen x_undoable x_newest x_seeded x_qCoded x_qWaits x_qOpened x_qBase x_qPiled x_qAnswer x_qIsNew x_octets)), (wi_rm77_0_720_0 rm cy g_when)] H → va_D A [(a_this, .inr (10, mfs rm x_taped x_at x_end x_ended x_bad x_badPlace x_fault x_faultPlace x_namePlace x_awayTold x_away x_coded x_statements x_isCrossing x_textKind x_askSecond x_redMany x_isOpen x_lastGreen x_greenTo x_isCycleGreen x_stillGreen x_rowMany x_fitMany x_fitRules x_fitGreen x_undoable x_newest x_seeded x_qCoded x_qWaits x_qOpened x_qBase x_qPiled x_qAnswer x_qIsNew x_octets)), (wi_rm77_0_720_0 rm cy g_when)] → va_S A s.heap H locs → lv_has ls 6 [(0, .ref a_this), (1, .int p0), (2, .int J4_l2), (3, .int J4_l3)] → W p l e { frames := 0, cells := 0, slots := 0, locals := 0 } s m args below meth c H locs 0 0 Q (F0 m 4 ls []) := by
    as_aux_lemma =>
      intro n
      induction n with
      | zero =>
        intro J4_l2 J4_l3 H locs ls hJ4_l2 hJ4_l3 hq hm
        exact absurd hm (by have := hJ4_l3; unfold ib at this; omega)
      | succ n ih =>
        intro J4_l2 J4_l3 H locs ls hJ4_l2 hJ4_l3 hq hm4 hP hD hS hl
        have ih4 := ih
        obtain ⟨K4, hK4⟩ : ∃ K, K = F_X10_mostAlike_4 (Int32.toInt x_fitMany) (lf_A g_when) (Int32.toInt p0) n := ⟨_, rfl⟩
        have hq : O = F_X10_mostAlike_4b (Int32.toInt x_fitMany) (lf_A g_when) (Int32.toInt p0) K4 (Int32.toInt J4_l2) (Int32.toInt J4_l3) := by rw [hK4]; exact hq
        unfold F_X10_mostAlike_4b at hq
        have jn71 : ∀ (J71_l4 : Int32) (J71_l5 : Int32) (J71_l2 : Int32) (H : Heap) (locs : List Loc) (ls : Array Slot), ib J4_l3 0 59 → ib J71_l5 1 60 → ib x_fitMany 1 60 → ib J71_l2 0 2147483647 → (O = F_X10_mostAlike_71 (Int32.toInt J4_l3) K4 (Int32.toInt J71_l4) (Int32.toInt J71_l5) (Int32.toInt J71_l2)) → va_P (dC, dI) vwCl [(a_this, .inr (10, mfs rm x_taped x_at x_end x_ended x_bad x_badPlace x_fault x_faultPlace x_namePlace x_awayTold x_away x_coded x_statements x_isCrossing x_textKind x_askSecond x_redMany x_isOpen x_lastGreen x_greenTo x_isCycleGreen x_stillGreen x_rowMany x_fitMany x_fitRules x_fitGreen x_undoable x_newest x_seeded x_qCoded x_qWaits x_qOpened x_qBase x_qPiled x_qAnswer x_qIsNew x_octets)), (wi_rm77_0_720_0 rm cy g_when)] H → va_D A [(a_this, .inr (10, mfs rm x_taped x_at x_end x_ended x_bad x_badPlace x_fault x_faultPlace x_namePlace x_awayTold x_away x_coded x_statements x_isCrossing x_textKind x_askSecond x_redMany x_isOpen x_lastGreen x_greenTo x_isCycleGreen x_stillGreen x_rowMany x_fitMany x_fitRules x_fitGreen x_undoable x_newest x_seeded x_qCoded x_qWaits x_qOpened x_qBase x_qPiled x_qAnswer x_qIsNew x_octets)), (wi_rm77_0_720_0 rm cy g_when)] → va_S A s.heap H locs → lv_has ls 6 [(0, .ref a_this), (1, .int p0), (2, .int J71_l2), (3, .int J4_l3), (4, .int J71_l4), (5, .int J71_l5)] → W p l e { frames := 0, cells := 0, slots := 0, locals := 0 } s m args below meth c H locs 0 0 Q (F0 m 71 ls []) := by
          intro J71_l4 J71_l5 J71_l2 H locs ls hK71_J4_l3 hJ71_l5 hK71_x_fitMany hJ71_l2 hq hP hD hS hl
          unfold F_X10_mostAlike_71 at hq
          obtain ⟨z1, ez1⟩ : ∃ y : Int32, y = J4_l3 + 1 := ⟨_, rfl⟩
          refine lv_iinc (v := z1) (lv' := [(3, .int z1), (0, .ref a_this), (1, .int p0), (2, .int J71_l2), (4, .int J71_l4), (5, .int J71_l5)]) hx hb dX10_mostAlike_71 hl (k := 3) rfl (by rw [ez1]; rfl) (Nat.le_of_ble_eq_true rfl) rfl (fun ls hl => ?_)
          have h2 := ib_add hK71_J4_l3 (ib_c 1 1 1 rfl) rfl
          rw [← ez1] at h2
          have h3 : ib z1 1 60 := ib_w 1 60 h2.1 rfl
          have Ez1 := lf_add h2.2 (lf_rf J4_l3) (lf_lc 1 (1 : Int) rfl)
          refine lv_goto (tgt := 4) hx hb dX10_mostAlike_74 rfl ?_
          exact ih4 J71_l2 z1 H locs ls (ib_w 0 2147483647 hJ71_l2 rfl) (ib_w 0 60 h3 rfl) (by rw [← hK4]; rw [lf_u Ez1]; exact hq) (by have := h2.2; have : (1 : Int32).toInt = 1 := rfl; omega) hP hD hS (lv_sub hl [1, 2, 3, 0] rfl)
        have jn18 : ∀ (n : Nat) (J18_l4 : Int32) (J18_l5 : Int32) (H : Heap) (locs : List Loc) (ls : Array Slot), ib J4_l2 0 2147483647 → ib J4_l3 0 59 → ib x_fitMany 1 60 → ib J18_l5 0 60 → (O = F_X10_mostAlike_18 (Int32.toInt x_fitMany) (lf_A g_when) (Int32.toInt p0) (Int32.toInt J4_l2) (Int32.toInt J4_l3) K4 n (Int32.toInt J18_l4) (Int32.toInt J18_l5)) → 61 ≤ J18_l5.toInt + (n : Int) → va_P (dC, dI) vwCl [(a_this, .inr (10, mfs rm x_taped x_at x_end x_ended x_bad x_badPlace x_fault x_faultPlace x_namePlace x_awayTold x_away x_coded x_statements x_isCrossing x_textKind x_askSecond x_redMany x_isOpen x_lastGreen x_greenTo x_isCycleGreen x_stillGreen x_rowMany x_fitMany x_fitRules x_fitGreen x_undoable x_newest x_seeded x_qCoded x_qWaits x_qOpened x_qBase x_qPiled x_qAnswer x_qIsNew x_octets)), (wi_rm77_0_720_0 rm cy g_when)] H → va_D A [(a_this, .inr (10, mfs rm x_taped x_at x_end x_ended x_bad x_badPlace x_fault x_faultPlace x_namePlace x_awayTold x_away x_coded x_statements x_isCrossing x_textKind x_askSecond x_redMany x_isOpen x_lastGreen x_greenTo x_isCycleGreen x_stillGreen x_rowMany x_fitMany x_fitRules x_fitGreen x_undoable x_newest x_seeded x_qCoded x_qWaits x_qOpened x_qBase x_qPiled x_qAnswer x_qIsNew x_octets)), (wi_rm77_0_720_0 rm cy g_when)] → va_S A s.heap H locs → lv_has ls 6 [(0, .ref a_this), (1, .int p0), (2, .int J4_l2), (3, .int J4_l3), (4, .int J18_l4), (5, .int J18_l5)] → W p l e { frames := 0, cells := 0, slots := 0, locals := 0 } s m args below meth c H locs 0 0 Q (F0 m 18 ls []) := by
          as_aux_lemma =>
            intro n
            induction n with
            | zero =>
              intro J18_l4 J18_l5 H locs ls hK18_J4_l2 hK18_J4_l3 hK18_x_fitMany hJ18_l5 hq hm
              exact absurd hm (by have := hJ18_l5; unfold ib at this; omega)
            | succ n ih =>
              intro J18_l4 J18_l5 H locs ls hK18_J4_l2 hK18_J4_l3 hK18_x_fitMany hJ18_l5 hq hm18 hP hD hS hl
              have ih18 := ih
              obtain ⟨K18, hK18⟩ : ∃ K, K = F_X10_mostAlike_18 (Int32.toInt x_fitMany) (lf_A g_when) (Int32.toInt p0) (Int32.toInt J4_l2) (Int32.toInt J4_l3) K4 n := ⟨_, rfl⟩
              have hq : O = F_X10_mostAlike_18b (Int32.toInt x_fitMany) (lf_A g_when) (Int32.toInt p0) (Int32.toInt J4_l2) (Int32.toInt J4_l3) K4 K18 (Int32.toInt J18_l4) (Int32.toInt J18_l5) := by rw [hK18]; exact hq
              unfold F_X10_mostAlike_18b at hq
              have jn56 : ∀ (J56_l4 : Int32) (H : Heap) (locs : List Loc) (ls : Array Slot), ib J4_l2 0 2147483647 → ib J4_l3 0 59 → ib J18_l5 0 59 → ib x_fitMany 1 60 → (O = F_X10_mostAlike_56 (Int32.toInt J18_l5) K18 (Int32.toInt J56_l4)) → va_P (dC, dI) vwCl [(a_this, .inr (10, mfs rm x_taped x_at x_end x_ended x_bad x_badPlace x_fault x_faultPlace x_namePlace x_awayTold x_away x_coded x_statements x_isCrossing x_textKind x_askSecond x_redMany x_isOpen x_lastGreen x_greenTo x_isCycleGreen x_stillGreen x_rowMany x_fitMany x_fitRules x_fitGreen x_undoable x_newest x_seeded x_qCoded x_qWaits x_qOpened x_qBase x_qPiled x_qAnswer x_qIsNew x_octets)), (wi_rm77_0_720_0 rm cy g_when)] H → va_D A [(a_this, .inr (10, mfs rm x_taped x_at x_end x_ended x_bad x_badPlace x_fault x_faultPlace x_namePlace x_awayTold x_away x_coded x_statements x_isCrossing x_textKind x_askSecond x_redMany x_isOpen x_lastGreen x_greenTo x_isCycleGreen x_stillGreen x_rowMany x_fitMany x_fitRules x_fitGreen x_undoable x_newest x_seeded x_qCoded x_qWaits x_qOpened x_qBase x_qPiled x_qAnswer x_qIsNew x_octets)), (wi_rm77_0_720_0 rm cy g_when)] → va_S A s.heap H locs → lv_has ls 6 [(0, .ref a_this), (1, .int p0), (2, .int J4_l2), (3, .int J4_l3), (4, .int J56_l4), (5, .int J18_l5)] → W p l e { frames := 0, cells := 0, slots := 0, locals := 0 } s m args below meth c H locs 0 0 Q (F0 m 56 ls []) := by
                intro J56_l4 H locs ls hK56_J4_l2 hK56_J4_l3 hK56_J18_l5 hK56_x_fitMany hq hP hD hS hl
                unfold F_X10_mostAlike_56 at hq
                obtain ⟨z4, ez4⟩ : ∃ y : Int32, y = J18_l5 + 1 := ⟨_, rfl⟩
                refine lv_iinc (v := z4) (lv' := [(5, .int z4), (0, .ref a_this), (1, .int p0), (2, .int J4_l2), (3, .int J4_l3), (4, .int J56_l4)]) hx hb dX10_mostAlike_56 hl (k := 5) rfl (by rw [ez4]; rfl) (Nat.le_of_ble_eq_true rfl) rfl (fun ls hl => ?_)
                have h5 := ib_add hK56_J18_l5 (ib_c 1 1 1 rfl) rfl
                rw [← ez4] at h5
                have h6 : ib z4 1 60 := ib_w 1 60 h5.1 rfl
                have Ez4 := lf_add h5.2 (lf_rf J18_l5) (lf_lc 1 (1 : Int) rfl)
                refine lv_goto (tgt := 18) hx hb dX10_mostAlike_59 rfl ?_
                exact ih18 J56_l4 z4 H locs ls (ib_w 0 2147483647 hK56_J4_l2 rfl) (ib_w 0 59 hK56_J4_l3 rfl) (ib_w 1 60 hK56_x_fitMany rfl) (ib_w 0 60 h6 rfl) (by rw [← hK18]; rw [lf_u Ez4]; exact hq) (by have := h5.2; have : (1 : Int32).toInt = 1 := rfl; omega) hP hD hS (lv_sub hl [1, 2, 3, 4, 5, 0] rfl)
              refine lv_iload hx hb dX10_mostAlike_18 (lv_at hl 5 rfl) ?_
              refine lv_aload_n hx hb dX10_mostAlike_20 rfl (lv_at hl 0 rfl) ?_
              refine k_get C0 fg_X10_570 hP 0 rfl rfl dX10_mostAlike_21 ?_
              refine lv_icmp_ge (tgt := 62) hx hb dX10_mostAlike_24 rfl (fun c7 => ?_) (fun c7 => ?_)
              · replace hq := lf_pos hq (lf_le (lf_rf x_fitMany) (lf_rf J18_l5) c7)
                have h8 := ib_le hK18_x_fitMany hJ18_l5 c7
                have h9 : ib J18_l5 1 60 := ib_w 1 60 h8.2 rfl
                refine lv_iload hx hb dX10_mostAlike_62 (lv_at hl 4 rfl) ?_
                refine lv_iload_n hx hb dX10_mostAlike_64 rfl (lv_at hl 2 rfl) ?_
                refine lv_icmp_le (tgt := 71) hx hb dX10_mostAlike_65 rfl (fun c10 => ?_) (fun c10 => ?_)
                · replace hq := lf_pos hq (lf_le (lf_rf J18_l4) (lf_rf J4_l2) c10)
                  have h11 := ib_le (ib_any J18_l4) hK18_J4_l2 c10
                  exact jn71 J18_l4 J18_l5 J4_l2 H locs ls (ib_w 0 59 hK18_J4_l3 rfl) (ib_w 1 60 h9 rfl) (ib_w 1 60 hK18_x_fitMany rfl) (ib_w 0 2147483647 hK18_J4_l2 rfl) (by exact hq) hP hD hS (lv_sub hl [0, 1, 2, 3, 4, 5] rfl)
                · replace hq := lf_neg hq (lf_nle (lf_rf J18_l4) (lf_rf J4_l2) c10)
                  have h12 := ib_nle (ib_any J18_l4) hK18_J4_l2 c10
                  have h13 : ib J18_l4 1 2147483647 := ib_w 1 2147483647 h12.1 rfl
                  have h14 : ib J4_l2 0 2147483646 := ib_w 0 2147483646 h12.2 rfl
                  refine lv_iload hx hb dX10_mostAlike_68 (lv_at hl 4 rfl) ?_
                  refine lv_istore_n (lv' := [(2, .int J18_l4), (0, .ref a_this), (1, .int p0), (3, .int J4_l3), (4, .int J18_l4), (5, .int J18_l5)]) hx hb dX10_mostAlike_70 rfl hl (Nat.le_of_ble_eq_true rfl) rfl (fun ls hl => ?_)
                  exact jn71 J18_l4 J18_l5 J18_l4 H locs ls (ib_w 0 59 hK18_J4_l3 rfl) (ib_w 1 60 h9 rfl) (ib_w 1 60 hK18_x_fitMany rfl) (ib_w 0 2147483647 h13 rfl) (by exact hq) hP hD hS (lv_sub hl [1, 2, 0, 3, 4, 5] rfl)
              · as_aux_lemma =>
                  replace hq := lf_neg hq (lf_nle (lf_rf x_fitMany) (lf_rf J18_l5) c7)
                  have h15 := ib_nle hK18_x_fitMany hJ18_l5 c7
                  have h16 : ib J18_l5 0 59 := ib_w 0 59 h15.2 rfl
                  refine lv_aload_n hx hb dX10_mostAlike_27 rfl (lv_at hl 0 rfl) ?_
                  refine k_get C0 fg_X10_179 hP 0 rfl rfl dX10_mostAlike_28 ?_
                  refine lv_bipush (v := 12) hx hb dX10_mostAlike_31 rfl ?_
                  refine lv_iload_n hx hb dX10_mostAlike_33 rfl (lv_at hl 3 rfl) ?_
                  refine lv_imul hx hb dX10_mostAlike_34 ?_
                  refine lv_topi (fun z17 ez17 => ?_)
                  have h18 := ib_mul (ib_c 12 12 12 rfl) hK18_J4_l3 rfl
                  rw [← ez17] at h18
                  have h19 : ib z17 0 708 := ib_w 0 708 h18.1 rfl
                  have h20 : z17.toInt = 12 * J4_l3.toInt := by have q0 := h18.2; rw [show (12 : Int32).toInt = 12 from by decide] at q0; omega
                  have Ez17 := lf_mul h18.2 (lf_lc 12 (12 : Int) rfl) (lf_rf J4_l3)
                  refine lv_iload_n hx hb dX10_mostAlike_35 rfl (lv_at hl 1 rfl) ?_
                  refine lv_iadd hx hb dX10_mostAlike_36 ?_
                  refine lv_topi (fun z21 ez21 => ?_)
                  have h22 := ib_add h19 hp0 rfl
                  rw [← ez21] at h22
                  have h23 : ib z21 0 719 := ib_w 0 719 h22.1 rfl
                  have Ez21 := lf_add h22.2 Ez17 (lf_rf p0)
                  refine va_iald hx hb C0.2.2.2.2.2.1 hP 1 0 rfl rfl (ib_in 720 h23 rfl) dX10_mostAlike_37 ?_
                  refine lv_topi (fun z24 ez24 => ?_)
                  have Ez24 := lf_ld ez24 (lf_ra g_when) Ez21
                  refine lv_aload_n hx hb dX10_mostAlike_38 rfl (lv_at hl 0 rfl) ?_
                  refine k_get C0 fg_X10_179 hP 0 rfl rfl dX10_mostAlike_39 ?_
                  refine lv_bipush (v := 12) hx hb dX10_mostAlike_42 rfl ?_
                  refine lv_iload hx hb dX10_mostAlike_44 (lv_at hl 5 rfl) ?_
                  refine lv_imul hx hb dX10_mostAlike_46 ?_
                  refine lv_topi (fun z25 ez25 => ?_)
                  as_aux_lemma =>
                    have h26 := ib_mul (ib_c 12 12 12 rfl) h16 rfl
                    rw [← ez25] at h26
                    have h27 : ib z25 0 708 := ib_w 0 708 h26.1 rfl
                    have h28 : z25.toInt = 12 * J18_l5.toInt := by have q0 := h26.2; rw [show (12 : Int32).toInt = 12 from by decide] at q0; omega
                    have Ez25 := lf_mul h26.2 (lf_lc 12 (12 : Int) rfl) (lf_rf J18_l5)
                    refine lv_iload_n hx hb dX10_mostAlike_47 rfl (lv_at hl 1 rfl) ?_
                    refine lv_iadd hx hb dX10_mostAlike_48 ?_
                    refine lv_topi (fun z29 ez29 => ?_)
                    have h30 := ib_add h27 hp0 rfl
                    rw [← ez29] at h30
                    have h31 : ib z29 0 719 := ib_w 0 719 h30.1 rfl
                    have Ez29 := lf_add h30.2 Ez25 (lf_rf p0)
                    refine va_iald hx hb C0.2.2.2.2.2.1 hP 1 0 rfl rfl (ib_in 720 h31 rfl) dX10_mostAlike_49 ?_
                    refine lv_topi (fun z32 ez32 => ?_)
                    have Ez32 := lf_ld ez32 (lf_ra g_when) Ez29
                    refine lv_icmp_ne (tgt := 56) hx hb dX10_mostAlike_50 rfl (fun c33 => ?_) (fun c33 => ?_)
                    · replace hq := lf_neg hq (lf_ne Ez24 Ez32 c33)
                      exact jn56 J18_l4 H locs ls (ib_w 0 2147483647 hK18_J4_l2 rfl) (ib_w 0 59 hK18_J4_l3 rfl) (ib_w 0 59 h16 rfl) (ib_w 1 60 hK18_x_fitMany rfl) (by exact hq) hP hD hS (lv_sub hl [0, 1, 2, 3, 4, 5] rfl)
                    · replace hq := lf_pos hq (lf_eq Ez24 Ez32 c33)
                      have h34 := ib_eq (ib_any z24) (ib_any z32) c33
                      obtain ⟨z35, ez35⟩ : ∃ y : Int32, y = J18_l4 + 1 := ⟨_, rfl⟩
                      refine lv_iinc (v := z35) (lv' := [(4, .int z35), (0, .ref a_this), (1, .int p0), (2, .int J4_l2), (3, .int J4_l3), (5, .int J18_l5)]) hx hb dX10_mostAlike_53 hl (k := 4) rfl (by rw [ez35]; rfl) (Nat.le_of_ble_eq_true rfl) rfl (fun ls hl => ?_)
                      have Ez35 := lf_op lf_iadd ez35 (lf_rf J18_l4) (lf_lc 1 (1 : Int) rfl)
                      exact jn56 z35 H locs ls (ib_w 0 2147483647 hK18_J4_l2 rfl) (ib_w 0 59 hK18_J4_l3 rfl) (ib_w 0 59 h16 rfl) (ib_w 1 60 hK18_x_fitMany rfl) (by rw [lf_u Ez35]; exact hq) hP hD hS (lv_sub hl [1, 2, 3, 4, 0, 5] rfl)
        refine lv_iload_n hx hb dX10_mostAlike_4 rfl (lv_at hl 3 rfl) ?_
        refine lv_aload_n hx hb dX10_mostAlike_5 rfl (lv_at hl 0 rfl) ?_
        refine k_get C0 fg_X10_570 hP 0 rfl rfl dX10_mostAlike_6 ?_
        refine lv_icmp_ge (tgt := 77) hx hb dX10_mostAlike_9 rfl (fun c36 => ?_) (fun c36 => ?_)
        · replace hq := lf_pos hq (lf_le (lf_rf x_fitMany) (lf_rf J4_l3) c36)
          have h37 := ib_le hx_fitMany hJ4_l3 c36
          refine lv_iload_n hx hb dX10_mostAlike_77 rfl (lv_at hl 2 rfl) ?_
          subst hQ; exact k_iret hx hb hr hlk rfl () hS ⟨ib_w 0 2147483647 hJ4_l2 rfl, (hO.symm.trans (by exact hq))⟩ hP hD (Nat.le_of_ble_eq_true rfl) (Nat.le_of_ble_eq_true rfl) dX10_mostAlike_78
        · replace hq := lf_neg hq (lf_nle (lf_rf x_fitMany) (lf_rf J4_l3) c36)
          have h38 := ib_nle hx_fitMany hJ4_l3 c36
          have h39 : ib x_fitMany 1 60 := ib_w 1 60 h38.1 rfl
          have h40 : ib J4_l3 0 59 := ib_w 0 59 h38.2 rfl
          refine lv_iconst (v := 0) hx hb dX10_mostAlike_12 rfl ?_
          refine lv_istore (lv' := [(4, .int 0), (0, .ref a_this), (1, .int p0), (2, .int J4_l2), (3, .int J4_l3)]) hx hb dX10_mostAlike_13 hl (Nat.le_of_ble_eq_true rfl) rfl (fun ls hl => ?_)
          refine lv_iconst (v := 0) hx hb dX10_mostAlike_15 rfl ?_
          refine lv_istore (lv' := [(5, .int 0), (4, .int 0), (0, .ref a_this), (1, .int p0), (2, .int J4_l2), (3, .int J4_l3)]) hx hb dX10_mostAlike_16 hl (Nat.le_of_ble_eq_true rfl) rfl (fun ls hl => ?_)
          exact jn18 62 0 0 H locs ls (ib_w 0 2147483647 hJ4_l2 rfl) (ib_w 0 59 h40 rfl) (ib_w 1 60 h39 rfl) (ib_w 0 60 (ib_c 0 0 0 rfl) rfl) (by try simp only [show (0 : Int32).toInt = (0 : Int) from rfl]; exact hq) (by have := (ib_c 0 0 0 rfl); unfold ib at this; omega) hP hD hS (lv_sub hl [2, 3, 4, 5, 1, 0] rfl)
  refine lv_iconst (v := 0) hx hb dX10_mostAlike_0 rfl ?_
  refine lv_istore_n (lv' := [(2, .int 0), (0, .ref a_this), (1, .int p0)]) hx hb dX10_mostAlike_1 rfl hl (Nat.le_of_ble_eq_true rfl) rfl (fun ls hl => ?_)
  refine lv_iconst (v := 0) hx hb dX10_mostAlike_2 rfl ?_
  refine lv_istore_n (lv' := [(3, .int 0), (2, .int 0), (0, .ref a_this), (1, .int p0)]) hx hb dX10_mostAlike_3 rfl hl (Nat.le_of_ble_eq_true rfl) rfl (fun ls hl => ?_)
  exact jn4 62 0 0 H locs ls (ib_w 0 2147483647 (ib_c 0 0 0 rfl) rfl) (ib_w 0 60 (ib_c 0 0 0 rfl) rfl) (by try simp only [show (0 : Int32).toInt = (0 : Int) from rfl]; exact hq) (by have := (ib_c 0 0 0 rfl); unfold ib at this; omega) hP hD hS (lv_sub hl [2, 3, 1, 0] rfl)
set_option maxHeartbeats 4000000 in
set_option maxRecDepth 100000 in
theorem s_X10_nameOf (l : Launch) (dC : Nat → ClassId) (dI : Nat → Nat → Nat) (cy : Nat → ClassId) (sq : Nat → Nat) (a_this : Nat) (rm : Nat → Nat) (x_taped : Int32) (x_at : Int32) (x_end : Int32) (x_ended : Int32) (x_bad : Int32) (x_badPlace : Int32) (x_fault : Int32) (x_faultPlace : Int32) (x_namePlace : Int32) (x_awayTold : Int32) (x_away : Int32) (x_coded : Int32) (x_statements : Int32) (x_isCrossing : Int32) (x_textKind : Int32) (x_askSecond : Int32) (x_redMany : Int32) (x_isOpen : Int32) (x_lastGreen : Int32) (x_greenTo : Int32) (x_isCycleGreen : Int32) (x_stillGreen : Int32) (x_rowMany : Int32) (x_fitMany : Int32) (x_fitRules : Int32) (x_fitGreen : Int32) (x_undoable : Int32) (x_newest : Int32) (x_seeded : Int64) (x_qCoded : Int32) (x_qWaits : Int32) (x_qOpened : Int32) (x_qBase : Int32) (x_qPiled : Int32) (x_qAnswer : Int64) (x_qIsNew : Int32) (x_octets : Int32) (g_many : Nat → Int32) (g_names : Nat → Int64) (p0 : Int32) (p1 : Int64) (hg_many : ia g_many 4 0 12) (hp0 : ib p0 0 1) : k_Met l yX10_nameOf cX10_nameOf 5 (some .int) { frames := 0, cells := 0, slots := 0, locals := 0 } dC dI cy sq [.ref a_this, .int p0, .long p1] [(a_this, .inr (10, mfs rm x_taped x_at x_end x_ended x_bad x_badPlace x_fault x_faultPlace x_namePlace x_awayTold x_away x_coded x_statements x_isCrossing x_textKind x_askSecond x_redMany x_isOpen x_lastGreen x_greenTo x_isCycleGreen x_stillGreen x_rowMany x_fitMany x_fitRules x_fitGreen x_undoable x_newest x_seeded x_qCoded x_qWaits x_qOpened x_qBase x_qPiled x_qAnswer x_qIsNew x_octets)), (wi_rm41_0_4_0 rm cy g_many), (wi_rm42_1_48_1 rm cy g_names)] (k_Qi dC dI (fun (r : Int32) (_ : Unit) => ib r (-1) 11 ∧ (F_X10_nameOf (lf_A g_many) (lf_L g_names) (Int32.toInt p0) (Int64.toInt p1) = ((Int32.toInt r)))) (fun _ : Unit => [(a_this, .inr (10, mfs rm x_taped x_at x_end x_ended x_bad x_badPlace x_fault x_faultPlace x_namePlace x_awayTold x_away x_coded x_statements x_isCrossing x_textKind x_askSecond x_redMany x_isOpen x_lastGreen x_greenTo x_isCycleGreen x_stillGreen x_rowMany x_fitMany x_fitRules x_fitGreen x_undoable x_newest x_seeded x_qCoded x_qWaits x_qOpened x_qBase x_qPiled x_qAnswer x_qIsNew x_octets)), (wi_rm41_0_4_0 rm cy g_many), (wi_rm42_1_48_1 rm cy g_names)])) := by
  refine k_ofW2 (by decide +kernel) (Nat.le_of_ble_eq_true rfl) ?_
  intro p e s m below meth c A ls H locs args Q hQ C0 hZ hr hlk hin hP hD hA hS hl
  have C0 : k_cx p s m args c cX10_nameOf 5 RX10 dC dI cy sq := C0
  have hx := C0.1
  have hb := C0.2.1
  have hl : lv_has ls 5 [(0, .ref a_this), (1, .int p0), (2, .long p1)] := hl
  obtain ⟨O, hO⟩ : ∃ o, o = F_X10_nameOf (lf_A g_many) (lf_L g_names) (Int32.toInt p0) (Int64.toInt p1) := ⟨_, rfl⟩
  have hq := hO
  unfold F_X10_nameOf at hq
  have jn3 : ∀ (n : Nat) (J3_l4 : Int32) (H : Heap) (locs : List Loc) (ls : Array Slot), ib J3_l4 0 12 → (O = F_X10_nameOf_3 (lf_A g_many) (lf_L g_names) (Int32.toInt p0) (Int64.toInt p1) n (Int32.toInt J3_l4)) → 13 ≤ J3_l4.toInt + (n : Int) → va_P (dC, dI) vwCl [(a_this, .inr (10, mfs rm x_taped x_at x_end x_ended x_bad x_badPlace x_fault x_faultPlace x_namePlace x_awayTold x_away x_coded x_statements x_isCrossing x_textKind x_askSecond x_redMany x_isOpen x_lastGreen x_greenTo x_isCycleGreen x_stillGreen x_rowMany x_fitMany x_fitRules x_fitGreen x_undoable x_newest x_seeded x_qCoded x_qWaits x_qOpened x_qBase x_qPiled x_qAnswer x_qIsNew x_octets)), (wi_rm41_0_4_0 rm cy g_many), (wi_rm42_1_48_1 rm cy g_names)] H → va_D A [(a_this, .inr (10, mfs rm x_taped x_at x_end x_ended x_bad x_badPlace x_fault x_faultPlace x_namePlace x_awayTold x_away x_coded x_statements x_isCrossing x_textKind x_askSecond x_redMany x_isOpen x_lastGreen x_greenTo x_isCycleGreen x_stillGreen x_rowMany x_fitMany x_fitRules x_fitGreen x_undoable x_newest x_seeded x_qCoded x_qWaits x_qOpened x_qBase x_qPiled x_qAnswer x_qIsNew x_octets)), (wi_rm41_0_4_0 rm cy g_many), (wi_rm42_1_48_1 rm cy g_names)] → va_S A s.heap H locs → lv_has ls 5 [(0, .ref a_this), (1, .int p0), (2, .long p1), (4, .int J3_l4)] → W p l e { frames := 0, cells := 0, slots := 0, locals := 0 } s m args below meth c H locs 0 0 Q (F0 m 3 ls []) := by
    as_aux_lemma =>
      intro n
      induction n with
      | zero =>
        intro J3_l4 H locs ls hJ3_l4 hq hm
        exact absurd hm (by have := hJ3_l4; unfold ib at this; omega)
      | succ n ih =>
        intro J3_l4 H locs ls hJ3_l4 hq hm3 hP hD hS hl
        have ih3 := ih
        obtain ⟨K3, hK3⟩ : ∃ K, K = F_X10_nameOf_3 (lf_A g_many) (lf_L g_names) (Int32.toInt p0) (Int64.toInt p1) n := ⟨_, rfl⟩
        have hq : O = F_X10_nameOf_3b (lf_A g_many) (lf_L g_names) (Int32.toInt p0) (Int64.toInt p1) K3 (Int32.toInt J3_l4) := by rw [hK3]; exact hq
        unfold F_X10_nameOf_3b at hq
        refine lv_iload hx hb dX10_nameOf_3 (lv_at hl 3 rfl) ?_
        refine lv_aload_n hx hb dX10_nameOf_5 rfl (lv_at hl 0 rfl) ?_
        refine k_get C0 fg_X10_111 hP 0 rfl rfl dX10_nameOf_6 ?_
        refine lv_iload_n hx hb dX10_nameOf_9 rfl (lv_at hl 1 rfl) ?_
        refine va_iald hx hb C0.2.2.2.2.2.1 hP 1 0 rfl rfl (ib_in 4 hp0 rfl) dX10_nameOf_10 ?_
        refine lv_topi (fun z1 ez1 => ?_)
        have h2 : ib z1 0 12 := by rw [ez1]; exact ia_at hg_many (ib_in 4 hp0 rfl)
        have Ez1 := lf_ld ez1 (lf_ra g_many) (lf_rf p0)
        refine lv_icmp_ge (tgt := 40) hx hb dX10_nameOf_11 rfl (fun c3 => ?_) (fun c3 => ?_)
        · replace hq := lf_pos hq (lf_le Ez1 (lf_rf J3_l4) c3)
          have h4 := ib_le h2 hJ3_l4 c3
          refine lv_iconst (v := (-1)) hx hb dX10_nameOf_40 rfl ?_
          subst hQ; exact k_iret hx hb hr hlk rfl () hS ⟨ib_w (-1) 11 (ib_c (-1) (-1) (-1) rfl) rfl, (hO.symm.trans (by try simp only [show ((-1) : Int32).toInt = (-1 : Int) from rfl]; exact hq))⟩ hP hD (Nat.le_of_ble_eq_true rfl) (Nat.le_of_ble_eq_true rfl) dX10_nameOf_41
        · as_aux_lemma =>
            replace hq := lf_neg hq (lf_nle Ez1 (lf_rf J3_l4) c3)
            have h5 := ib_nle h2 hJ3_l4 c3
            have h6 : ib z1 1 12 := ib_w 1 12 h5.1 rfl
            have h7 : ib J3_l4 0 11 := ib_w 0 11 h5.2 rfl
            refine lv_aload_n hx hb dX10_nameOf_14 rfl (lv_at hl 0 rfl) ?_
            refine k_get C0 fg_X10_114 hP 0 rfl rfl dX10_nameOf_15 ?_
            refine lv_bipush (v := 12) hx hb dX10_nameOf_18 rfl ?_
            refine lv_iload_n hx hb dX10_nameOf_20 rfl (lv_at hl 1 rfl) ?_
            refine lv_imul hx hb dX10_nameOf_21 ?_
            refine lv_topi (fun z8 ez8 => ?_)
            have h9 := ib_mul (ib_c 12 12 12 rfl) hp0 rfl
            rw [← ez8] at h9
            have h10 : ib z8 0 12 := ib_w 0 12 h9.1 rfl
            have h11 : z8.toInt = 12 * p0.toInt := by have q0 := h9.2; rw [show (12 : Int32).toInt = 12 from by decide] at q0; omega
            have Ez8 := lf_mul h9.2 (lf_lc 12 (12 : Int) rfl) (lf_rf p0)
            refine lv_iload hx hb dX10_nameOf_22 (lv_at hl 3 rfl) ?_
            refine lv_iadd hx hb dX10_nameOf_24 ?_
            refine lv_topi (fun z12 ez12 => ?_)
            have h13 := ib_add h10 h7 rfl
            rw [← ez12] at h13
            have h14 : ib z12 0 23 := ib_w 0 23 h13.1 rfl
            have Ez12 := lf_add h13.2 Ez8 (lf_rf J3_l4)
            refine va_lald hx hb C0.2.2.2.2.2.1 hP 2 1 rfl rfl (ib_in 48 h14 rfl) dX10_nameOf_25 ?_
            refine lv_topl (fun z15 ez15 => ?_)
            have Ez15 := lf_ldl ez15 (lf_raL g_names) Ez12
            refine lv_lload_n hx hb dX10_nameOf_26 rfl (lv_at hl 2 rfl) ?_
            refine W.lcmp hx hb dX10_nameOf_27 ?_
            refine lv_topi (fun z16 ez16 => ?_)
            have h17 : ib z16 (-1) 1 := by rw [ez16]; exact ib_cmp _ _
            have Ez16 := lf_cmpe ez16 Ez15 (lf_rl p1)
            refine lv_if_ne (tgt := 34) hx hb dX10_nameOf_28 rfl (fun c18 => ?_) (fun c18 => ?_)
            · replace hq := lf_neg hq (lf_ne Ez16 (lf_lc 0 (0 : Int) rfl) c18)
              obtain ⟨z19, ez19⟩ : ∃ y : Int32, y = J3_l4 + 1 := ⟨_, rfl⟩
              refine lv_iinc (v := z19) (lv' := [(4, .int z19), (0, .ref a_this), (1, .int p0), (2, .long p1)]) hx hb dX10_nameOf_34 hl (k := 3) rfl (by rw [ez19]; rfl) (Nat.le_of_ble_eq_true rfl) rfl (fun ls hl => ?_)
              have h20 := ib_add h7 (ib_c 1 1 1 rfl) rfl
              rw [← ez19] at h20
              have h21 : ib z19 1 12 := ib_w 1 12 h20.1 rfl
              have Ez19 := lf_add h20.2 (lf_rf J3_l4) (lf_lc 1 (1 : Int) rfl)
              refine lv_goto (tgt := 3) hx hb dX10_nameOf_37 rfl ?_
              exact ih3 z19 H locs ls (ib_w 0 12 h21 rfl) (by rw [← hK3]; rw [lf_u Ez19]; exact hq) (by have := h20.2; have : (1 : Int32).toInt = 1 := rfl; omega) hP hD hS (lv_sub hl [1, 2, 3, 0] rfl)
            · replace hq := lf_pos hq (lf_eq Ez16 (lf_lc 0 (0 : Int) rfl) c18)
              have h22 := ib_eq h17 (ib_c 0 0 0 rfl) c18
              have h23 : ib z16 0 0 := ib_w 0 0 h22.1 rfl
              refine lv_iload hx hb dX10_nameOf_31 (lv_at hl 3 rfl) ?_
              subst hQ; exact k_iret hx hb hr hlk rfl () hS ⟨ib_w (-1) 11 h7 rfl, (hO.symm.trans (by exact hq))⟩ hP hD (Nat.le_of_ble_eq_true rfl) (Nat.le_of_ble_eq_true rfl) dX10_nameOf_33
  refine lv_iconst (v := 0) hx hb dX10_nameOf_0 rfl ?_
  refine lv_istore (lv' := [(4, .int 0), (0, .ref a_this), (1, .int p0), (2, .long p1)]) hx hb dX10_nameOf_1 hl (Nat.le_of_ble_eq_true rfl) rfl (fun ls hl => ?_)
  exact jn3 14 0 H locs ls (ib_w 0 12 (ib_c 0 0 0 rfl) rfl) (by try simp only [show (0 : Int32).toInt = (0 : Int) from rfl]; exact hq) (by have := (ib_c 0 0 0 rfl); unfold ib at this; omega) hP hD hS (lv_sub hl [1, 2, 3, 0] rfl)
set_option maxHeartbeats 4000000 in
set_option maxRecDepth 100000 in
theorem s_X10_number (l : Launch) (dC : Nat → ClassId) (dI : Nat → Nat → Nat) (cy : Nat → ClassId) (sq : Nat → Nat) (a_this : Nat) (rm : Nat → Nat) (x_taped : Int32) (x_at : Int32) (x_end : Int32) (x_ended : Int32) (x_bad : Int32) (x_badPlace : Int32) (x_fault : Int32) (x_faultPlace : Int32) (x_namePlace : Int32) (x_awayTold : Int32) (x_away : Int32) (x_coded : Int32) (x_statements : Int32) (x_isCrossing : Int32) (x_textKind : Int32) (x_askSecond : Int32) (x_redMany : Int32) (x_isOpen : Int32) (x_lastGreen : Int32) (x_greenTo : Int32) (x_isCycleGreen : Int32) (x_stillGreen : Int32) (x_rowMany : Int32) (x_fitMany : Int32) (x_fitRules : Int32) (x_fitGreen : Int32) (x_undoable : Int32) (x_newest : Int32) (x_seeded : Int64) (x_qCoded : Int32) (x_qWaits : Int32) (x_qOpened : Int32) (x_qBase : Int32) (x_qPiled : Int32) (x_qAnswer : Int64) (x_qIsNew : Int32) (x_octets : Int32) (g_tape : Nat → Int32) (p0 : Int32) (p1 : Int32) (hx_at : ib x_at 0 1600) (hx_end : ib x_end 0 1600) (hg_tape : ia g_tape 1600 0 255) : k_Met l yX10_number cX10_number 5 (some .int) { frames := 1, cells := 0, slots := 0, locals := 25 } dC dI cy sq [.ref a_this, .int p0, .int p1] [(a_this, .inr (10, mfs rm x_taped x_at x_end x_ended x_bad x_badPlace x_fault x_faultPlace x_namePlace x_awayTold x_away x_coded x_statements x_isCrossing x_textKind x_askSecond x_redMany x_isOpen x_lastGreen x_greenTo x_isCycleGreen x_stillGreen x_rowMany x_fitMany x_fitRules x_fitGreen x_undoable x_newest x_seeded x_qCoded x_qWaits x_qOpened x_qBase x_qPiled x_qAnswer x_qIsNew x_octets)), (wi_rm0_0_1600_0 rm cy g_tape)] (k_Qi dC dI (fun (r : Int32) (u : Int32 × Int32 × Int32 × Int32) => match u with | (n0, n1, n2, n3) => ib n0 0 1600 ∧ (n2 = 0 → x_bad = 0) ∧ (1 * x_at.toInt + (-1) * n0.toInt ≤ 0) ∧ (n2 = 0 → 1 * x_at.toInt + (-1) * n0.toInt ≤ (-1)) ∧ (F_X10_number (Int32.toInt x_at) (Int32.toInt x_end) (Int32.toInt x_ended) (Int32.toInt x_bad) (Int32.toInt x_badPlace) (lf_A g_tape) (Int32.toInt p0) (Int32.toInt p1) = ((Int32.toInt r), (Int32.toInt n0), (Int32.toInt n1), (Int32.toInt n2), (Int32.toInt n3)))) (fun u : Int32 × Int32 × Int32 × Int32 => match u with | (n0, n1, n2, n3) => [(a_this, .inr (10, mfs rm x_taped n0 x_end n1 n2 n3 x_fault x_faultPlace x_namePlace x_awayTold x_away x_coded x_statements x_isCrossing x_textKind x_askSecond x_redMany x_isOpen x_lastGreen x_greenTo x_isCycleGreen x_stillGreen x_rowMany x_fitMany x_fitRules x_fitGreen x_undoable x_newest x_seeded x_qCoded x_qWaits x_qOpened x_qBase x_qPiled x_qAnswer x_qIsNew x_octets)), (wi_rm0_0_1600_0 rm cy g_tape)])) := by
  refine k_ofW2 (by decide +kernel) (Nat.le_of_ble_eq_true rfl) ?_
  intro p e s m below meth c A ls H locs args Q hQ C0 hZ hr hlk hin hP hD hA hS hl
  have C0 : k_cx p s m args c cX10_number 5 RX10 dC dI cy sq := C0
  have hx := C0.1
  have hb := C0.2.1
  have hl : lv_has ls 5 [(0, .ref a_this), (1, .int p0), (2, .int p1)] := hl
  obtain ⟨O, hO⟩ : ∃ o, o = F_X10_number (Int32.toInt x_at) (Int32.toInt x_end) (Int32.toInt x_ended) (Int32.toInt x_bad) (Int32.toInt x_badPlace) (lf_A g_tape) (Int32.toInt p0) (Int32.toInt p1) := ⟨_, rfl⟩
  have hq := hO
  unfold F_X10_number at hq
  have jn49 : ∀ (n : Nat) (J49_l3 : Int32) (J49_c0_2 : Int32) (J49_l4 : Int32) (H : Heap) (locs : List Loc) (ls : Array Slot), ib J49_l3 0 1599 → ib J49_c0_2 0 1600 → ib x_end 1 1600 → ib x_bad 0 0 → (1 * x_at.toInt + (-1) * J49_l3.toInt ≤ 0) → (1 * x_at.toInt + (-1) * J49_c0_2.toInt ≤ 0) → (O = F_X10_number_49 (Int32.toInt x_end) (Int32.toInt x_ended) (Int32.toInt x_bad) (Int32.toInt x_badPlace) (lf_A g_tape) (Int32.toInt p0) (Int32.toInt p1) n (Int32.toInt J49_l3) (Int32.toInt J49_c0_2) (Int32.toInt J49_l4)) → (J49_l3.toInt + 1 ≤ J49_c0_2.toInt ∨ (J49_l3 = J49_c0_2 ∧ ib (g_tape (Int32.toNatClampNeg J49_c0_2)) 48 57 ∧ J49_c0_2.toInt < x_end.toInt)) → 1601 ≤ J49_c0_2.toInt + (n : Int) → va_P (dC, dI) vwCl [(a_this, .inr (10, mfs rm x_taped J49_c0_2 x_end x_ended x_bad x_badPlace x_fault x_faultPlace x_namePlace x_awayTold x_away x_coded x_statements x_isCrossing x_textKind x_askSecond x_redMany x_isOpen x_lastGreen x_greenTo x_isCycleGreen x_stillGreen x_rowMany x_fitMany x_fitRules x_fitGreen x_undoable x_newest x_seeded x_qCoded x_qWaits x_qOpened x_qBase x_qPiled x_qAnswer x_qIsNew x_octets)), (wi_rm0_0_1600_0 rm cy g_tape)] H → va_D A [(a_this, .inr (10, mfs rm x_taped J49_c0_2 x_end x_ended x_bad x_badPlace x_fault x_faultPlace x_namePlace x_awayTold x_away x_coded x_statements x_isCrossing x_textKind x_askSecond x_redMany x_isOpen x_lastGreen x_greenTo x_isCycleGreen x_stillGreen x_rowMany x_fitMany x_fitRules x_fitGreen x_undoable x_newest x_seeded x_qCoded x_qWaits x_qOpened x_qBase x_qPiled x_qAnswer x_qIsNew x_octets)), (wi_rm0_0_1600_0 rm cy g_tape)] → va_S A s.heap H locs → lv_has ls 5 [(0, .ref a_this), (1, .int p0), (2, .int p1), (3, .int J49_l3), (4, .int J49_l4)] → W p l e { frames := 1, cells := 0, slots := 0, locals := 25 } s m args below meth c H locs 0 0 Q (F0 m 49 ls []) := by
    as_aux_lemma =>
      intro n
      induction n with
      | zero =>
        intro J49_l3 J49_c0_2 J49_l4 H locs ls hJ49_l3 hJ49_c0_2 hK49_x_end hK49_x_bad hJ49_lin0 hJ49_lin1 hq hJ49_gh hm
        exact absurd hm (by have := hJ49_c0_2; unfold ib at this; omega)
      | succ n ih =>
        intro J49_l3 J49_c0_2 J49_l4 H locs ls hJ49_l3 hJ49_c0_2 hK49_x_end hK49_x_bad hJ49_lin0 hJ49_lin1 hq hJ49_gh hm49 hP hD hS hl
        have ih49 := ih
        obtain ⟨K49, hK49⟩ : ∃ K, K = F_X10_number_49 (Int32.toInt x_end) (Int32.toInt x_ended) (Int32.toInt x_bad) (Int32.toInt x_badPlace) (lf_A g_tape) (Int32.toInt p0) (Int32.toInt p1) n := ⟨_, rfl⟩
        have hq : O = F_X10_number_49b (Int32.toInt x_end) (Int32.toInt x_ended) (Int32.toInt x_bad) (Int32.toInt x_badPlace) (lf_A g_tape) (Int32.toInt p0) (Int32.toInt p1) K49 (Int32.toInt J49_l3) (Int32.toInt J49_c0_2) (Int32.toInt J49_l4) := by rw [hK49]; exact hq
        unfold F_X10_number_49b at hq
        refine lv_aload_n hx hb dX10_number_49 rfl (lv_at hl 0 rfl) ?_
        refine k_get C0 fg_X10_285 hP 0 rfl rfl dX10_number_50 ?_
        refine lv_aload_n hx hb dX10_number_53 rfl (lv_at hl 0 rfl) ?_
        refine k_get C0 fg_X10_288 hP 0 rfl rfl dX10_number_54 ?_
        refine lv_icmp_ge (tgt := 129) hx hb dX10_number_57 rfl (fun c1 => ?_) (fun c1 => ?_)
        · as_aux_lemma =>
            replace hq := lf_pos hq (lf_le (lf_rf x_end) (lf_rf J49_c0_2) c1)
            have h2 := ib_le hK49_x_end hJ49_c0_2 c1
            have h3 : ib J49_c0_2 1 1600 := ib_w 1 1600 h2.2 rfl
            have h4 : ib x_at 0 1599 := ⟨(hx_at).1, by have := (hx_at).2; have := hJ49_lin0; have := (hJ49_l3).2; omega⟩
            have h5 : J49_l3.toInt + 1 ≤ J49_c0_2.toInt := by rcases hJ49_gh with q | q; exact q; exact absurd q.2.2 (by have := (hK49_x_end).1; have := (hK49_x_end).2; have := (h3).1; have := (h3).2; have := hJ49_lin1; have := (h4).1; have := (h4).2; have := hJ49_lin0; have := (hJ49_l3).1; have := (hJ49_l3).2; have := Int32.le_iff_toInt_le.mp c1; omega)
            have h6 : 1 * J49_l3.toInt + (-1) * J49_c0_2.toInt ≤ (-1) := by omega
            refine lv_aload_n hx hb dX10_number_129 rfl (lv_at hl 0 rfl) ?_
            refine lv_aload_n hx hb dX10_number_130 rfl (lv_at hl 0 rfl) ?_
            refine k_get C0 fg_X10_285 hP 0 rfl rfl dX10_number_131 ?_
            refine k_put C0 fp_X10_299 hP hD hS 0 rfl rfl rfl (Nat.le_of_ble_eq_true rfl) dX10_number_134 (fun H locs hP hD hS => ?_)
            replace hP : va_P (dC, dI) vwCl [(a_this, .inr (10, mfs rm x_taped J49_c0_2 x_end J49_c0_2 x_bad x_badPlace x_fault x_faultPlace x_namePlace x_awayTold x_away x_coded x_statements x_isCrossing x_textKind x_askSecond x_redMany x_isOpen x_lastGreen x_greenTo x_isCycleGreen x_stillGreen x_rowMany x_fitMany x_fitRules x_fitGreen x_undoable x_newest x_seeded x_qCoded x_qWaits x_qOpened x_qBase x_qPiled x_qAnswer x_qIsNew x_octets)), (wi_rm0_0_1600_0 rm cy g_tape)] H := hP
            replace hD := k_D hP hD
            refine lv_iload hx hb dX10_number_137 (lv_at hl 4 rfl) ?_
            refine lv_i2l (v := J49_l4.toInt64) hx hb dX10_number_139 rfl ?_
            refine lv_iload_n hx hb dX10_number_140 rfl (lv_at hl 1 rfl) ?_
            refine lv_i2l (v := p0.toInt64) hx hb dX10_number_141 rfl ?_
            refine lv_iload_n hx hb dX10_number_142 rfl (lv_at hl 2 rfl) ?_
            refine lv_i2l (v := p1.toInt64) hx hb dX10_number_143 rfl ?_
            refine k_jim hP hD hS hA [] [true, true] rfl rfl rfl 0 0 (Nat.le_of_ble_eq_true rfl) (Nat.le_of_ble_eq_true rfl) (fun hPc hDc => k_runS (As := [.long J49_l4.toInt64, .long p0.toInt64, .long p1.toInt64]) (rest := []) C0 hZ hS hA (c_isIn l dC dI cy sq J49_l4.toInt64 p0.toInt64 p1.toInt64) mS_X10_318 hPc hDc hl rfl rfl (Nat.le_of_ble_eq_true rfl) ⟨(Nat.le_of_ble_eq_true rfl), (Nat.le_of_ble_eq_true rfl)⟩ ⟨(Nat.le_of_ble_eq_true rfl), (Nat.le_of_ble_eq_true rfl)⟩ dX10_number_144) (fun r7 u8 H locs hw hP hD hS => ?_)
            replace hP : va_P (dC, dI) vwCl [(a_this, .inr (10, mfs rm x_taped J49_c0_2 x_end J49_c0_2 x_bad x_badPlace x_fault x_faultPlace x_namePlace x_awayTold x_away x_coded x_statements x_isCrossing x_textKind x_askSecond x_redMany x_isOpen x_lastGreen x_greenTo x_isCycleGreen x_stillGreen x_rowMany x_fitMany x_fitRules x_fitGreen x_undoable x_newest x_seeded x_qCoded x_qWaits x_qOpened x_qBase x_qPiled x_qAnswer x_qIsNew x_octets)), (wi_rm0_0_1600_0 rm cy g_tape)] H := hP
            replace hD := k_D hP hD
            have h9 := hw
            have h10 : ib r7 0 1 := by rw [h9]; exact k_isf_01 _ _ _
            have Er7 := lf_isine h9 (lf_i2l (lf_rf J49_l4)) (lf_i2l (lf_rf p0)) (lf_i2l (lf_rf p1))
            refine lv_if_ne (tgt := 156) hx hb dX10_number_147 rfl (fun c11 => ?_) (fun c11 => ?_)
            · replace hq := lf_neg hq (lf_ne Er7 (lf_lc 0 (0 : Int) rfl) c11)
              have h12 : ib r7 1 1 := ib_w 1 1 (ib_ne_lo 0 h10 rfl c11) rfl
              refine lv_iload hx hb dX10_number_156 (lv_at hl 4 rfl) ?_
              subst hQ; exact k_iret hx hb hr hlk rfl ((J49_c0_2, J49_c0_2, x_bad, x_badPlace)) hS ⟨ib_w 0 1600 h3 rfl, fun q => q, (by have := hJ49_lin1; omega), fun hq9 => (by have := hJ49_lin1; have := h6; have := hJ49_lin0; omega), (hO.symm.trans (by exact hq))⟩ hP hD (Nat.le_of_ble_eq_true rfl) (Nat.le_of_ble_eq_true rfl) dX10_number_158
            · replace hq := lf_pos hq (lf_eq Er7 (lf_lc 0 (0 : Int) rfl) c11)
              have h13 := ib_eq h10 (ib_c 0 0 0 rfl) c11
              have h14 : ib r7 0 0 := ib_w 0 0 h13.1 rfl
              refine lv_aload_n hx hb dX10_number_150 rfl (lv_at hl 0 rfl) ?_
              refine lv_iconst (v := 2) hx hb dX10_number_151 rfl ?_
              refine lv_iload_n hx hb dX10_number_152 rfl (lv_at hl 3 rfl) ?_
              refine k_jvm hP hD hS hA [0] [false, true] rfl rfl rfl 0 0 (Nat.le_of_ble_eq_true rfl) (Nat.le_of_ble_eq_true rfl) (fun hPc hDc => k_runV (As := [.int 2, .int J49_l3]) (rest := []) C0 hZ hS hA (s_X10_fail_a0_2_f_bad_0_0 l dC dI cy sq a_this rm x_taped J49_c0_2 x_end J49_c0_2 x_bad x_badPlace x_fault x_faultPlace x_namePlace x_awayTold x_away x_coded x_statements x_isCrossing x_textKind x_askSecond x_redMany x_isOpen x_lastGreen x_greenTo x_isCycleGreen x_stillGreen x_rowMany x_fitMany x_fitRules x_fitGreen x_undoable x_newest x_seeded x_qCoded x_qWaits x_qOpened x_qBase x_qPiled x_qAnswer x_qIsNew x_octets J49_l3 (ib_w 0 0 hK49_x_bad rfl)) mV_X10_308 hPc hDc rfl rfl rfl hl rfl rfl (Nat.le_of_ble_eq_true rfl) ⟨(Nat.le_of_ble_eq_true rfl), (Nat.le_of_ble_eq_true rfl)⟩ ⟨(Nat.le_of_ble_eq_true rfl), (Nat.le_of_ble_eq_true rfl)⟩ dX10_number_153) (fun u16 H locs hw hP hD hS => ?_)
              try dsimp only at hP hD hw
              replace hP : va_P (dC, dI) vwCl [(wi_rm0_0_1600_0 rm cy g_tape), (a_this, .inr (10, mfs rm x_taped J49_c0_2 x_end J49_c0_2 2 J49_l3 x_fault x_faultPlace x_namePlace x_awayTold x_away x_coded x_statements x_isCrossing x_textKind x_askSecond x_redMany x_isOpen x_lastGreen x_greenTo x_isCycleGreen x_stillGreen x_rowMany x_fitMany x_fitRules x_fitGreen x_undoable x_newest x_seeded x_qCoded x_qWaits x_qOpened x_qBase x_qPiled x_qAnswer x_qIsNew x_octets))] H := hP
              replace hD := k_D hP hD
              refine lv_iload hx hb dX10_number_156 (lv_at hl 4 rfl) ?_
              subst hQ; exact k_iret hx hb hr hlk rfl ((J49_c0_2, J49_c0_2, 2, J49_l3)) hS ⟨ib_w 0 1600 h3 rfl, fun q => absurd q (by decide), (by have := hJ49_lin1; omega), fun q => absurd q (by decide), (hO.symm.trans (by try simp only [show (2 : Int32).toInt = (2 : Int) from rfl]; exact hq))⟩ (hP.sub [1, 0] rfl) (hD.sub [1, 0] rfl rfl) (Nat.le_of_ble_eq_true rfl) (Nat.le_of_ble_eq_true rfl) dX10_number_158
        · as_aux_lemma =>
            replace hq := lf_neg hq (lf_nle (lf_rf x_end) (lf_rf J49_c0_2) c1)
            have h17 := ib_nle hK49_x_end hJ49_c0_2 c1
            have h18 : ib J49_c0_2 0 1599 := ib_w 0 1599 h17.2 rfl
            have h19 : ib x_at 0 1599 := ⟨(hx_at).1, by have := (hx_at).2; have := hJ49_lin0; have := (hJ49_l3).2; omega⟩
            refine lv_aload_n hx hb dX10_number_60 rfl (lv_at hl 0 rfl) ?_
            refine k_get C0 fg_X10_7 hP 0 rfl rfl dX10_number_61 ?_
            refine lv_aload_n hx hb dX10_number_64 rfl (lv_at hl 0 rfl) ?_
            refine k_get C0 fg_X10_285 hP 0 rfl rfl dX10_number_65 ?_
            refine va_iald hx hb C0.2.2.2.2.2.1 hP 1 0 rfl rfl (ib_in 1600 h18 rfl) dX10_number_68 ?_
            refine lv_topi (fun z20 ez20 => ?_)
            have h21 : ib z20 0 255 := by rw [ez20]; exact ia_at hg_tape (ib_in 1600 h18 rfl)
            have Ez20 := lf_ld ez20 (lf_ra g_tape) (lf_rf J49_c0_2)
            refine k_jim hP hD hS hA [] [true, true] rfl rfl rfl 0 0 (Nat.le_of_ble_eq_true rfl) (Nat.le_of_ble_eq_true rfl) (fun hPc hDc => k_runS (As := [.int z20]) (rest := []) C0 hZ hS hA (s_X10_isDigit l dC dI cy sq z20 ) mS_X10_315 hPc hDc hl rfl rfl (Nat.le_of_ble_eq_true rfl) ⟨(Nat.le_of_ble_eq_true rfl), (Nat.le_of_ble_eq_true rfl)⟩ ⟨(Nat.le_of_ble_eq_true rfl), (Nat.le_of_ble_eq_true rfl)⟩ dX10_number_69) (fun r22 u23 H locs hw hP hD hS => ?_)
            try dsimp only at hP hD hw
            replace hP : va_P (dC, dI) vwCl [(a_this, .inr (10, mfs rm x_taped J49_c0_2 x_end x_ended x_bad x_badPlace x_fault x_faultPlace x_namePlace x_awayTold x_away x_coded x_statements x_isCrossing x_textKind x_askSecond x_redMany x_isOpen x_lastGreen x_greenTo x_isCycleGreen x_stillGreen x_rowMany x_fitMany x_fitRules x_fitGreen x_undoable x_newest x_seeded x_qCoded x_qWaits x_qOpened x_qBase x_qPiled x_qAnswer x_qIsNew x_octets)), (wi_rm0_0_1600_0 rm cy g_tape)] H := hP
            replace hD := k_D hP hD
            obtain ⟨h24, h25, h26, h27⟩ := hw
            have h27 := by have h9 := h27; rw [lf_u Ez20] at h9; exact h9
            replace hq := lf_b1 hq h27
            refine lv_if_eq (tgt := 129) hx hb dX10_number_72 rfl (fun c28 => ?_) (fun c28 => ?_)
            · as_aux_lemma =>
                replace hq := lf_pos hq (lf_eq (lf_rf r22) (lf_lc 0 (0 : Int) rfl) c28)
                have h29 := ib_eq h24 (ib_c 0 0 0 rfl) c28
                have h30 : ib r22 0 0 := ib_w 0 0 h29.1 rfl
                have h31 : J49_l3.toInt + 1 ≤ J49_c0_2.toInt := by rcases hJ49_gh with q | q; exact q; exact absurd (show ib z20 48 57 by rw [ez20]; exact q.2.1) (h26 (ib_one h30 rfl))
                have h32 : 1 * J49_l3.toInt + (-1) * J49_c0_2.toInt ≤ (-1) := by omega
                refine lv_aload_n hx hb dX10_number_129 rfl (lv_at hl 0 rfl) ?_
                refine lv_aload_n hx hb dX10_number_130 rfl (lv_at hl 0 rfl) ?_
                refine k_get C0 fg_X10_285 hP 0 rfl rfl dX10_number_131 ?_
                refine k_put C0 fp_X10_299 hP hD hS 0 rfl rfl rfl (Nat.le_of_ble_eq_true rfl) dX10_number_134 (fun H locs hP hD hS => ?_)
                replace hP : va_P (dC, dI) vwCl [(a_this, .inr (10, mfs rm x_taped J49_c0_2 x_end J49_c0_2 x_bad x_badPlace x_fault x_faultPlace x_namePlace x_awayTold x_away x_coded x_statements x_isCrossing x_textKind x_askSecond x_redMany x_isOpen x_lastGreen x_greenTo x_isCycleGreen x_stillGreen x_rowMany x_fitMany x_fitRules x_fitGreen x_undoable x_newest x_seeded x_qCoded x_qWaits x_qOpened x_qBase x_qPiled x_qAnswer x_qIsNew x_octets)), (wi_rm0_0_1600_0 rm cy g_tape)] H := hP
                replace hD := k_D hP hD
                refine lv_iload hx hb dX10_number_137 (lv_at hl 4 rfl) ?_
                refine lv_i2l (v := J49_l4.toInt64) hx hb dX10_number_139 rfl ?_
                refine lv_iload_n hx hb dX10_number_140 rfl (lv_at hl 1 rfl) ?_
                refine lv_i2l (v := p0.toInt64) hx hb dX10_number_141 rfl ?_
                refine lv_iload_n hx hb dX10_number_142 rfl (lv_at hl 2 rfl) ?_
                refine lv_i2l (v := p1.toInt64) hx hb dX10_number_143 rfl ?_
                refine k_jim hP hD hS hA [] [true, true] rfl rfl rfl 0 0 (Nat.le_of_ble_eq_true rfl) (Nat.le_of_ble_eq_true rfl) (fun hPc hDc => k_runS (As := [.long J49_l4.toInt64, .long p0.toInt64, .long p1.toInt64]) (rest := []) C0 hZ hS hA (c_isIn l dC dI cy sq J49_l4.toInt64 p0.toInt64 p1.toInt64) mS_X10_318 hPc hDc hl rfl rfl (Nat.le_of_ble_eq_true rfl) ⟨(Nat.le_of_ble_eq_true rfl), (Nat.le_of_ble_eq_true rfl)⟩ ⟨(Nat.le_of_ble_eq_true rfl), (Nat.le_of_ble_eq_true rfl)⟩ dX10_number_144) (fun r33 u34 H locs hw hP hD hS => ?_)
                replace hP : va_P (dC, dI) vwCl [(a_this, .inr (10, mfs rm x_taped J49_c0_2 x_end J49_c0_2 x_bad x_badPlace x_fault x_faultPlace x_namePlace x_awayTold x_away x_coded x_statements x_isCrossing x_textKind x_askSecond x_redMany x_isOpen x_lastGreen x_greenTo x_isCycleGreen x_stillGreen x_rowMany x_fitMany x_fitRules x_fitGreen x_undoable x_newest x_seeded x_qCoded x_qWaits x_qOpened x_qBase x_qPiled x_qAnswer x_qIsNew x_octets)), (wi_rm0_0_1600_0 rm cy g_tape)] H := hP
                replace hD := k_D hP hD
                have h35 := hw
                have h36 : ib r33 0 1 := by rw [h35]; exact k_isf_01 _ _ _
                have Er33 := lf_isine h35 (lf_i2l (lf_rf J49_l4)) (lf_i2l (lf_rf p0)) (lf_i2l (lf_rf p1))
                refine lv_if_ne (tgt := 156) hx hb dX10_number_147 rfl (fun c37 => ?_) (fun c37 => ?_)
                · replace hq := lf_neg hq (lf_ne Er33 (lf_lc 0 (0 : Int) rfl) c37)
                  have h38 : ib r33 1 1 := ib_w 1 1 (ib_ne_lo 0 h36 rfl c37) rfl
                  have h39 : ib J49_l3 0 1598 := ⟨(hJ49_l3).1, by have := (hJ49_l3).2; have := h32; have := (h18).2; omega⟩
                  have h40 : ib J49_c0_2 1 1599 := ⟨by have := (h18).1; have := h32; have := (h39).1; omega, (h18).2⟩
                  refine lv_iload hx hb dX10_number_156 (lv_at hl 4 rfl) ?_
                  subst hQ; exact k_iret hx hb hr hlk rfl ((J49_c0_2, J49_c0_2, x_bad, x_badPlace)) hS ⟨ib_w 0 1600 h40 rfl, fun q => q, (by have := hJ49_lin1; omega), fun hq9 => (by have := hJ49_lin1; have := h32; have := hJ49_lin0; omega), (hO.symm.trans (by exact hq))⟩ hP hD (Nat.le_of_ble_eq_true rfl) (Nat.le_of_ble_eq_true rfl) dX10_number_158
                · replace hq := lf_pos hq (lf_eq Er33 (lf_lc 0 (0 : Int) rfl) c37)
                  have h41 := ib_eq h36 (ib_c 0 0 0 rfl) c37
                  have h42 : ib r33 0 0 := ib_w 0 0 h41.1 rfl
                  have h43 : ib J49_l3 0 1598 := ⟨(hJ49_l3).1, by have := (hJ49_l3).2; have := h32; have := (h18).2; omega⟩
                  have h44 : ib J49_c0_2 1 1599 := ⟨by have := (h18).1; have := h32; have := (h43).1; omega, (h18).2⟩
                  have h45 : ib x_at 0 1598 := ⟨(h19).1, by have := (h19).2; have := hJ49_lin0; have := (h43).2; omega⟩
                  refine lv_aload_n hx hb dX10_number_150 rfl (lv_at hl 0 rfl) ?_
                  refine lv_iconst (v := 2) hx hb dX10_number_151 rfl ?_
                  refine lv_iload_n hx hb dX10_number_152 rfl (lv_at hl 3 rfl) ?_
                  refine k_jvm hP hD hS hA [0] [false, true] rfl rfl rfl 0 0 (Nat.le_of_ble_eq_true rfl) (Nat.le_of_ble_eq_true rfl) (fun hPc hDc => k_runV (As := [.int 2, .int J49_l3]) (rest := []) C0 hZ hS hA (s_X10_fail_a0_2_f_bad_0_0 l dC dI cy sq a_this rm x_taped J49_c0_2 x_end J49_c0_2 x_bad x_badPlace x_fault x_faultPlace x_namePlace x_awayTold x_away x_coded x_statements x_isCrossing x_textKind x_askSecond x_redMany x_isOpen x_lastGreen x_greenTo x_isCycleGreen x_stillGreen x_rowMany x_fitMany x_fitRules x_fitGreen x_undoable x_newest x_seeded x_qCoded x_qWaits x_qOpened x_qBase x_qPiled x_qAnswer x_qIsNew x_octets J49_l3 (ib_w 0 0 hK49_x_bad rfl)) mV_X10_308 hPc hDc rfl rfl rfl hl rfl rfl (Nat.le_of_ble_eq_true rfl) ⟨(Nat.le_of_ble_eq_true rfl), (Nat.le_of_ble_eq_true rfl)⟩ ⟨(Nat.le_of_ble_eq_true rfl), (Nat.le_of_ble_eq_true rfl)⟩ dX10_number_153) (fun u47 H locs hw hP hD hS => ?_)
                  try dsimp only at hP hD hw
                  replace hP : va_P (dC, dI) vwCl [(wi_rm0_0_1600_0 rm cy g_tape), (a_this, .inr (10, mfs rm x_taped J49_c0_2 x_end J49_c0_2 2 J49_l3 x_fault x_faultPlace x_namePlace x_awayTold x_away x_coded x_statements x_isCrossing x_textKind x_askSecond x_redMany x_isOpen x_lastGreen x_greenTo x_isCycleGreen x_stillGreen x_rowMany x_fitMany x_fitRules x_fitGreen x_undoable x_newest x_seeded x_qCoded x_qWaits x_qOpened x_qBase x_qPiled x_qAnswer x_qIsNew x_octets))] H := hP
                  replace hD := k_D hP hD
                  refine lv_iload hx hb dX10_number_156 (lv_at hl 4 rfl) ?_
                  subst hQ; exact k_iret hx hb hr hlk rfl ((J49_c0_2, J49_c0_2, 2, J49_l3)) hS ⟨ib_w 0 1600 h44 rfl, fun q => absurd q (by decide), (by have := hJ49_lin1; omega), fun q => absurd q (by decide), (hO.symm.trans (by try simp only [show (2 : Int32).toInt = (2 : Int) from rfl]; exact hq))⟩ (hP.sub [1, 0] rfl) (hD.sub [1, 0] rfl rfl) (Nat.le_of_ble_eq_true rfl) (Nat.le_of_ble_eq_true rfl) dX10_number_158
            · as_aux_lemma =>
                replace hq := lf_neg hq (lf_ne (lf_rf r22) (lf_lc 0 (0 : Int) rfl) c28)
                have h48 : ib r22 1 1 := ib_w 1 1 (ib_ne_lo 0 h24 rfl c28) rfl
                have h49 : ib z20 48 57 := ib_w 48 57 (ib_two h21 (h25 (ib_nz h48 rfl))) rfl
                refine lv_aload_n hx hb dX10_number_75 rfl (lv_at hl 0 rfl) ?_
                refine k_get C0 fg_X10_285 hP 0 rfl rfl dX10_number_76 ?_
                refine lv_iload_n hx hb dX10_number_79 rfl (lv_at hl 3 rfl) ?_
                refine lv_isub hx hb dX10_number_80 ?_
                refine lv_topi (fun z50 ez50 => ?_)
                have h51 := ib_sub h18 hJ49_l3 rfl
                rw [← ez50] at h51
                have h52 : ib z50 (-1599) 1599 := ib_w (-1599) 1599 h51.1 rfl
                have Ez50 := lf_sub h51.2 (lf_rf J49_c0_2) (lf_rf J49_l3)
                refine lv_iconst (v := 4) hx hb dX10_number_81 rfl ?_
                refine lv_icmp_ne (tgt := 96) hx hb dX10_number_82 rfl (fun c53 => ?_) (fun c53 => ?_)
                · as_aux_lemma =>
                    replace hq := lf_neg hq (lf_ne Ez50 (lf_lc 4 (4 : Int) rfl) c53)
                    refine lv_bipush (v := 10) hx hb dX10_number_96 rfl ?_
                    refine lv_iload hx hb dX10_number_98 (lv_at hl 4 rfl) ?_
                    refine lv_imul hx hb dX10_number_100 ?_
                    refine lv_topi (fun z54 ez54 => ?_)
                    have Ez54 := lf_op lf_imul ez54 (lf_lc 10 (10 : Int) rfl) (lf_rf J49_l4)
                    refine lv_aload_n hx hb dX10_number_101 rfl (lv_at hl 0 rfl) ?_
                    refine k_get C0 fg_X10_7 hP 0 rfl rfl dX10_number_102 ?_
                    refine lv_aload_n hx hb dX10_number_105 rfl (lv_at hl 0 rfl) ?_
                    refine k_get C0 fg_X10_285 hP 0 rfl rfl dX10_number_106 ?_
                    refine va_iald hx hb C0.2.2.2.2.2.1 hP 1 0 rfl rfl (ib_in 1600 h18 rfl) dX10_number_109 ?_
                    refine lv_topi (fun z55 ez55 => ?_)
                    obtain rfl : z20 = z55 := ez20.trans ez55.symm
                    refine lv_iadd hx hb dX10_number_110 ?_
                    refine lv_topi (fun z56 ez56 => ?_)
                    have Ez56 := lf_op lf_iadd ez56 Ez54 Ez20
                    refine lv_bipush (v := 48) hx hb dX10_number_111 rfl ?_
                    refine lv_isub hx hb dX10_number_113 ?_
                    refine lv_topi (fun z57 ez57 => ?_)
                    have Ez57 := lf_op lf_isub ez57 Ez56 (lf_lc 48 (48 : Int) rfl)
                    refine lv_istore (lv' := [(4, .int z57), (0, .ref a_this), (1, .int p0), (2, .int p1), (3, .int J49_l3)]) hx hb dX10_number_114 hl (Nat.le_of_ble_eq_true rfl) rfl (fun ls hl => ?_)
                    refine lv_aload_n hx hb dX10_number_116 rfl (lv_at hl 1 rfl) ?_
                    refine lv_dup hx hb dX10_number_117 rfl ?_
                    refine k_get C0 fg_X10_285 hP 0 rfl rfl dX10_number_118 ?_
                    refine lv_iconst (v := 1) hx hb dX10_number_121 rfl ?_
                    refine lv_iadd hx hb dX10_number_122 ?_
                    refine lv_topi (fun z58 ez58 => ?_)
                    have h59 := ib_add h18 (ib_c 1 1 1 rfl) rfl
                    rw [← ez58] at h59
                    have h60 : ib z58 1 1600 := ib_w 1 1600 h59.1 rfl
                    have Ez58 := lf_add h59.2 (lf_rf J49_c0_2) (lf_lc 1 (1 : Int) rfl)
                    refine k_put C0 fp_X10_285 hP hD hS 0 rfl rfl rfl (Nat.le_of_ble_eq_true rfl) dX10_number_123 (fun H locs hP hD hS => ?_)
                    replace hP : va_P (dC, dI) vwCl [(a_this, .inr (10, mfs rm x_taped z58 x_end x_ended x_bad x_badPlace x_fault x_faultPlace x_namePlace x_awayTold x_away x_coded x_statements x_isCrossing x_textKind x_askSecond x_redMany x_isOpen x_lastGreen x_greenTo x_isCycleGreen x_stillGreen x_rowMany x_fitMany x_fitRules x_fitGreen x_undoable x_newest x_seeded x_qCoded x_qWaits x_qOpened x_qBase x_qPiled x_qAnswer x_qIsNew x_octets)), (wi_rm0_0_1600_0 rm cy g_tape)] H := hP
                    replace hD := k_D hP hD
                    refine lv_goto (tgt := 49) hx hb dX10_number_126 rfl ?_
                    exact ih49 J49_l3 z58 z57 H locs ls (ib_w 0 1599 hJ49_l3 rfl) (ib_w 0 1600 h60 rfl) (ib_w 1 1600 hK49_x_end rfl) (ib_w 0 0 hK49_x_bad rfl) (by have := hJ49_lin0; omega) (by have := h59.2; have : (1 : Int32).toInt = 1 := rfl; have := hJ49_lin1; omega) (by rw [← hK49]; rw [lf_u Ez58]; rw [lf_u Ez57]; exact hq) (Or.inl (by have q0 := h59.2; have q1 : (1 : Int32).toInt = 1 := rfl; rcases hJ49_gh with q | q <;> first | omega | (have := congrArg Int32.toInt q.1; omega))) (by have := h59.2; have : (1 : Int32).toInt = 1 := rfl; omega) hP hD hS (lv_sub hl [1, 2, 3, 4, 0] rfl)
                · replace hq := lf_pos hq (lf_eq Ez50 (lf_lc 4 (4 : Int) rfl) c53)
                  have h61 := ib_eq h52 (ib_c 4 4 4 rfl) c53
                  have h62 : ib z50 4 4 := ib_w 4 4 h61.1 rfl
                  have h63 : ib J49_c0_2 4 1599 := ⟨by have := h51.2; have := (h62).1; have := (h62).2; have := (h18).1; have := (h18).2; have := (hJ49_l3).1; have := (hJ49_l3).2; omega, by have := h51.2; have := (h62).1; have := (h62).2; have := (h18).1; have := (h18).2; have := (hJ49_l3).1; have := (hJ49_l3).2; omega⟩
                  have h64 : ib J49_l3 0 1595 := ⟨by have := h51.2; have := (h62).1; have := (h62).2; have := (h18).1; have := (h18).2; have := (hJ49_l3).1; have := (hJ49_l3).2; omega, by have := h51.2; have := (h62).1; have := (h62).2; have := (h18).1; have := (h18).2; have := (hJ49_l3).1; have := (hJ49_l3).2; omega⟩
                  have h65 : ib x_at 0 1595 := ⟨(h19).1, by have := (h19).2; have := hJ49_lin0; have := (h64).2; omega⟩
                  refine lv_aload_n hx hb dX10_number_85 rfl (lv_at hl 0 rfl) ?_
                  refine lv_iconst (v := 1) hx hb dX10_number_86 rfl ?_
                  refine lv_aload_n hx hb dX10_number_87 rfl (lv_at hl 0 rfl) ?_
                  refine k_get C0 fg_X10_285 hP 0 rfl rfl dX10_number_88 ?_
                  refine k_jvm hP hD hS hA [0] [false, true] rfl rfl rfl 0 0 (Nat.le_of_ble_eq_true rfl) (Nat.le_of_ble_eq_true rfl) (fun hPc hDc => k_runV (As := [.int 1, .int J49_c0_2]) (rest := []) C0 hZ hS hA (s_X10_fail_a0_1_f_bad_0_0 l dC dI cy sq a_this rm x_taped J49_c0_2 x_end x_ended x_bad x_badPlace x_fault x_faultPlace x_namePlace x_awayTold x_away x_coded x_statements x_isCrossing x_textKind x_askSecond x_redMany x_isOpen x_lastGreen x_greenTo x_isCycleGreen x_stillGreen x_rowMany x_fitMany x_fitRules x_fitGreen x_undoable x_newest x_seeded x_qCoded x_qWaits x_qOpened x_qBase x_qPiled x_qAnswer x_qIsNew x_octets J49_c0_2 (ib_w 0 0 hK49_x_bad rfl)) mV_X10_308 hPc hDc rfl rfl rfl hl rfl rfl (Nat.le_of_ble_eq_true rfl) ⟨(Nat.le_of_ble_eq_true rfl), (Nat.le_of_ble_eq_true rfl)⟩ ⟨(Nat.le_of_ble_eq_true rfl), (Nat.le_of_ble_eq_true rfl)⟩ dX10_number_91) (fun u67 H locs hw hP hD hS => ?_)
                  try dsimp only at hP hD hw
                  replace hP : va_P (dC, dI) vwCl [(wi_rm0_0_1600_0 rm cy g_tape), (a_this, .inr (10, mfs rm x_taped J49_c0_2 x_end x_ended 1 J49_c0_2 x_fault x_faultPlace x_namePlace x_awayTold x_away x_coded x_statements x_isCrossing x_textKind x_askSecond x_redMany x_isOpen x_lastGreen x_greenTo x_isCycleGreen x_stillGreen x_rowMany x_fitMany x_fitRules x_fitGreen x_undoable x_newest x_seeded x_qCoded x_qWaits x_qOpened x_qBase x_qPiled x_qAnswer x_qIsNew x_octets))] H := hP
                  replace hD := k_D hP hD
                  refine lv_iconst (v := 0) hx hb dX10_number_94 rfl ?_
                  subst hQ; exact k_iret hx hb hr hlk rfl ((J49_c0_2, x_ended, 1, J49_c0_2)) hS ⟨ib_w 0 1600 h63 rfl, fun q => absurd q (by decide), (by have := hJ49_lin1; omega), fun q => absurd q (by decide), (hO.symm.trans (by try simp only [show (0 : Int32).toInt = (0 : Int) from rfl]; try simp only [show (1 : Int32).toInt = (1 : Int) from rfl]; exact hq))⟩ (hP.sub [1, 0] rfl) (hD.sub [1, 0] rfl rfl) (Nat.le_of_ble_eq_true rfl) (Nat.le_of_ble_eq_true rfl) dX10_number_95
  refine lv_aload_n hx hb dX10_number_0 rfl (lv_at hl 0 rfl) ?_
  refine k_get C0 fg_X10_279 hP 0 rfl rfl dX10_number_1 ?_
  refine lv_if_eq (tgt := 9) hx hb dX10_number_4 rfl (fun c68 => ?_) (fun c68 => ?_)
  · as_aux_lemma =>
      replace hq := lf_pos hq (lf_eq (lf_rf x_bad) (lf_lc 0 (0 : Int) rfl) c68)
      have h69 := ib_eq (ib_any x_bad) (ib_c 0 0 0 rfl) c68
      have h70 : ib x_bad 0 0 := ib_w 0 0 h69.1 rfl
      refine lv_aload_n hx hb dX10_number_9 rfl (lv_at hl 0 rfl) ?_
      refine k_jim hP hD hS hA [0, 1] [] rfl rfl rfl 0 0 (Nat.le_of_ble_eq_true rfl) (Nat.le_of_ble_eq_true rfl) (fun hPc hDc => k_runV (As := []) (rest := []) C0 hZ hS hA (s_X10_look l dC dI cy sq a_this rm x_taped x_at x_end x_ended x_bad x_badPlace x_fault x_faultPlace x_namePlace x_awayTold x_away x_coded x_statements x_isCrossing x_textKind x_askSecond x_redMany x_isOpen x_lastGreen x_greenTo x_isCycleGreen x_stillGreen x_rowMany x_fitMany x_fitRules x_fitGreen x_undoable x_newest x_seeded x_qCoded x_qWaits x_qOpened x_qBase x_qPiled x_qAnswer x_qIsNew x_octets g_tape (ib_w 0 1600 hx_at rfl) (ib_w 0 1600 hx_end rfl) hg_tape) mV_X10_291 hPc hDc rfl rfl rfl hl rfl rfl (Nat.le_of_ble_eq_true rfl) ⟨(Nat.le_of_ble_eq_true rfl), (Nat.le_of_ble_eq_true rfl)⟩ ⟨(Nat.le_of_ble_eq_true rfl), (Nat.le_of_ble_eq_true rfl)⟩ dX10_number_10) (fun r71 u72 H locs hw hP hD hS => ?_)
      obtain ⟨v73, ev73⟩ : ∃ z, z = u72 := ⟨_, rfl⟩; subst ev73
      try dsimp only at hP hD hw
      replace hP : va_P (dC, dI) vwCl [(a_this, .inr (10, mfs rm x_taped v73 x_end x_ended x_bad x_badPlace x_fault x_faultPlace x_namePlace x_awayTold x_away x_coded x_statements x_isCrossing x_textKind x_askSecond x_redMany x_isOpen x_lastGreen x_greenTo x_isCycleGreen x_stillGreen x_rowMany x_fitMany x_fitRules x_fitGreen x_undoable x_newest x_seeded x_qCoded x_qWaits x_qOpened x_qBase x_qPiled x_qAnswer x_qIsNew x_octets)), (wi_rm0_0_1600_0 rm cy g_tape)] H := hP
      replace hD := k_D hP hD
      obtain ⟨h74, h75, h76, h77, h78, h79, h80, h81, h82, h83⟩ := hw
      replace hq := lf_p1 hq h83
      refine k_jim hP hD hS hA [] [true, true] rfl rfl rfl 0 0 (Nat.le_of_ble_eq_true rfl) (Nat.le_of_ble_eq_true rfl) (fun hPc hDc => k_runS (As := [.int r71]) (rest := []) C0 hZ hS hA (s_X10_isDigit l dC dI cy sq r71 ) mS_X10_315 hPc hDc hl rfl rfl (Nat.le_of_ble_eq_true rfl) ⟨(Nat.le_of_ble_eq_true rfl), (Nat.le_of_ble_eq_true rfl)⟩ ⟨(Nat.le_of_ble_eq_true rfl), (Nat.le_of_ble_eq_true rfl)⟩ dX10_number_13) (fun r84 u85 H locs hw hP hD hS => ?_)
      try dsimp only at hP hD hw
      replace hP : va_P (dC, dI) vwCl [(a_this, .inr (10, mfs rm x_taped v73 x_end x_ended x_bad x_badPlace x_fault x_faultPlace x_namePlace x_awayTold x_away x_coded x_statements x_isCrossing x_textKind x_askSecond x_redMany x_isOpen x_lastGreen x_greenTo x_isCycleGreen x_stillGreen x_rowMany x_fitMany x_fitRules x_fitGreen x_undoable x_newest x_seeded x_qCoded x_qWaits x_qOpened x_qBase x_qPiled x_qAnswer x_qIsNew x_octets)), (wi_rm0_0_1600_0 rm cy g_tape)] H := hP
      replace hD := k_D hP hD
      obtain ⟨h86, h87, h88, h89⟩ := hw
      replace hq := lf_b1 hq h89
      refine lv_if_eq (tgt := 30) hx hb dX10_number_16 rfl (fun c90 => ?_) (fun c90 => ?_)
      · replace hq := lf_pos hq (lf_eq (lf_rf r84) (lf_lc 0 (0 : Int) rfl) c90)
        have h91 := ib_eq h86 (ib_c 0 0 0 rfl) c90
        have h92 : ib r84 0 0 := ib_w 0 0 h91.1 rfl
        refine lv_aload_n hx hb dX10_number_30 rfl (lv_at hl 0 rfl) ?_
        refine lv_iconst (v := 1) hx hb dX10_number_31 rfl ?_
        refine lv_aload_n hx hb dX10_number_32 rfl (lv_at hl 0 rfl) ?_
        refine k_get C0 fg_X10_285 hP 0 rfl rfl dX10_number_33 ?_
        refine k_jvm hP hD hS hA [0] [false, true] rfl rfl rfl 0 0 (Nat.le_of_ble_eq_true rfl) (Nat.le_of_ble_eq_true rfl) (fun hPc hDc => k_runV (As := [.int 1, .int v73]) (rest := []) C0 hZ hS hA (s_X10_fail_a0_1_f_bad_0_0 l dC dI cy sq a_this rm x_taped v73 x_end x_ended x_bad x_badPlace x_fault x_faultPlace x_namePlace x_awayTold x_away x_coded x_statements x_isCrossing x_textKind x_askSecond x_redMany x_isOpen x_lastGreen x_greenTo x_isCycleGreen x_stillGreen x_rowMany x_fitMany x_fitRules x_fitGreen x_undoable x_newest x_seeded x_qCoded x_qWaits x_qOpened x_qBase x_qPiled x_qAnswer x_qIsNew x_octets v73 (ib_w 0 0 h70 rfl)) mV_X10_308 hPc hDc rfl rfl rfl hl rfl rfl (Nat.le_of_ble_eq_true rfl) ⟨(Nat.le_of_ble_eq_true rfl), (Nat.le_of_ble_eq_true rfl)⟩ ⟨(Nat.le_of_ble_eq_true rfl), (Nat.le_of_ble_eq_true rfl)⟩ dX10_number_36) (fun u94 H locs hw hP hD hS => ?_)
        try dsimp only at hP hD hw
        replace hP : va_P (dC, dI) vwCl [(wi_rm0_0_1600_0 rm cy g_tape), (a_this, .inr (10, mfs rm x_taped v73 x_end x_ended 1 v73 x_fault x_faultPlace x_namePlace x_awayTold x_away x_coded x_statements x_isCrossing x_textKind x_askSecond x_redMany x_isOpen x_lastGreen x_greenTo x_isCycleGreen x_stillGreen x_rowMany x_fitMany x_fitRules x_fitGreen x_undoable x_newest x_seeded x_qCoded x_qWaits x_qOpened x_qBase x_qPiled x_qAnswer x_qIsNew x_octets))] H := hP
        replace hD := k_D hP hD
        refine lv_iconst (v := 0) hx hb dX10_number_39 rfl ?_
        subst hQ; exact k_iret hx hb hr hlk rfl ((v73, x_ended, 1, v73)) hS ⟨ib_w 0 1600 h74 rfl, fun q => absurd q (by decide), (by have := h79; omega), fun q => absurd q (by decide), (hO.symm.trans (by try simp only [show (0 : Int32).toInt = (0 : Int) from rfl]; try simp only [show (1 : Int32).toInt = (1 : Int) from rfl]; exact hq))⟩ (hP.sub [1, 0] rfl) (hD.sub [1, 0] rfl rfl) (Nat.le_of_ble_eq_true rfl) (Nat.le_of_ble_eq_true rfl) dX10_number_40
      · as_aux_lemma =>
          replace hq := lf_neg hq (lf_ne (lf_rf r84) (lf_lc 0 (0 : Int) rfl) c90)
          have h95 : ib r84 1 1 := ib_w 1 1 (ib_ne_lo 0 h86 rfl c90) rfl
          have h96 : ib r71 48 57 := ib_w 48 57 (ib_two h75 (h87 (ib_nz h95 rfl))) rfl
          have h97 : ib v73 0 1599 := ib_w 0 1599 (ib_two h74 (h76 (ib_nc (-1) h96 rfl))) rfl
          have h98 : ib x_at 0 1599 := ib_w 0 1599 (ib_two hx_at (h77 (ib_nc (-1) h96 rfl))) rfl
          have h99 : ib x_end 1 1600 := ib_w 1 1600 (ib_two hx_end (h78 (ib_nc (-1) h96 rfl))) rfl
          refine lv_aload_n hx hb dX10_number_19 rfl (lv_at hl 0 rfl) ?_
          refine k_get C0 fg_X10_285 hP 0 rfl rfl dX10_number_20 ?_
          refine lv_aload_n hx hb dX10_number_23 rfl (lv_at hl 0 rfl) ?_
          refine k_get C0 fg_X10_299 hP 0 rfl rfl dX10_number_24 ?_
          refine lv_icmp_ne (tgt := 41) hx hb dX10_number_27 rfl (fun c100 => ?_) (fun c100 => ?_)
          · replace hq := lf_neg hq (lf_ne (lf_rf v73) (lf_rf x_ended) c100)
            refine lv_aload_n hx hb dX10_number_41 rfl (lv_at hl 0 rfl) ?_
            refine k_get C0 fg_X10_285 hP 0 rfl rfl dX10_number_42 ?_
            refine lv_istore_n (lv' := [(3, .int v73), (0, .ref a_this), (1, .int p0), (2, .int p1)]) hx hb dX10_number_45 rfl hl (Nat.le_of_ble_eq_true rfl) rfl (fun ls hl => ?_)
            refine lv_iconst (v := 0) hx hb dX10_number_46 rfl ?_
            refine lv_istore (lv' := [(4, .int 0), (3, .int v73), (0, .ref a_this), (1, .int p0), (2, .int p1)]) hx hb dX10_number_47 hl (Nat.le_of_ble_eq_true rfl) rfl (fun ls hl => ?_)
            exact jn49 1602 v73 v73 0 H locs ls (ib_w 0 1599 h97 rfl) (ib_w 0 1600 h97 rfl) (ib_w 1 1600 h99 rfl) (ib_w 0 0 h70 rfl) (by have := h79; omega) (by have := h79; omega) (by try simp only [show (0 : Int32).toInt = (0 : Int) from rfl]; exact hq) (Or.inr ⟨rfl, by rw [(h80 (ib_nc (-1) h96 rfl)).1]; exact ib_w 48 57 h96 rfl, (h80 (ib_nc (-1) h96 rfl)).2⟩) (by have := h97; unfold ib at this; omega) hP hD hS (lv_sub hl [2, 3, 4, 1, 0] rfl)
          · replace hq := lf_pos hq (lf_eq (lf_rf v73) (lf_rf x_ended) c100)
            have h101 := ib_eq h97 (ib_any x_ended) c100
            have h102 : ib x_ended 0 1599 := ib_w 0 1599 h101.2 rfl
            refine lv_aload_n hx hb dX10_number_30 rfl (lv_at hl 0 rfl) ?_
            refine lv_iconst (v := 1) hx hb dX10_number_31 rfl ?_
            refine lv_aload_n hx hb dX10_number_32 rfl (lv_at hl 0 rfl) ?_
            refine k_get C0 fg_X10_285 hP 0 rfl rfl dX10_number_33 ?_
            refine k_jvm hP hD hS hA [0] [false, true] rfl rfl rfl 0 0 (Nat.le_of_ble_eq_true rfl) (Nat.le_of_ble_eq_true rfl) (fun hPc hDc => k_runV (As := [.int 1, .int v73]) (rest := []) C0 hZ hS hA (s_X10_fail_a0_1_f_bad_0_0 l dC dI cy sq a_this rm x_taped v73 x_end x_ended x_bad x_badPlace x_fault x_faultPlace x_namePlace x_awayTold x_away x_coded x_statements x_isCrossing x_textKind x_askSecond x_redMany x_isOpen x_lastGreen x_greenTo x_isCycleGreen x_stillGreen x_rowMany x_fitMany x_fitRules x_fitGreen x_undoable x_newest x_seeded x_qCoded x_qWaits x_qOpened x_qBase x_qPiled x_qAnswer x_qIsNew x_octets v73 (ib_w 0 0 h70 rfl)) mV_X10_308 hPc hDc rfl rfl rfl hl rfl rfl (Nat.le_of_ble_eq_true rfl) ⟨(Nat.le_of_ble_eq_true rfl), (Nat.le_of_ble_eq_true rfl)⟩ ⟨(Nat.le_of_ble_eq_true rfl), (Nat.le_of_ble_eq_true rfl)⟩ dX10_number_36) (fun u104 H locs hw hP hD hS => ?_)
            try dsimp only at hP hD hw
            replace hP : va_P (dC, dI) vwCl [(wi_rm0_0_1600_0 rm cy g_tape), (a_this, .inr (10, mfs rm x_taped v73 x_end x_ended 1 v73 x_fault x_faultPlace x_namePlace x_awayTold x_away x_coded x_statements x_isCrossing x_textKind x_askSecond x_redMany x_isOpen x_lastGreen x_greenTo x_isCycleGreen x_stillGreen x_rowMany x_fitMany x_fitRules x_fitGreen x_undoable x_newest x_seeded x_qCoded x_qWaits x_qOpened x_qBase x_qPiled x_qAnswer x_qIsNew x_octets))] H := hP
            replace hD := k_D hP hD
            refine lv_iconst (v := 0) hx hb dX10_number_39 rfl ?_
            subst hQ; exact k_iret hx hb hr hlk rfl ((v73, x_ended, 1, v73)) hS ⟨ib_w 0 1600 h97 rfl, fun q => absurd q (by decide), (by have := h79; omega), fun q => absurd q (by decide), (hO.symm.trans (by try simp only [show (0 : Int32).toInt = (0 : Int) from rfl]; try simp only [show (1 : Int32).toInt = (1 : Int) from rfl]; exact hq))⟩ (hP.sub [1, 0] rfl) (hD.sub [1, 0] rfl rfl) (Nat.le_of_ble_eq_true rfl) (Nat.le_of_ble_eq_true rfl) dX10_number_40
  · replace hq := lf_neg hq (lf_ne (lf_rf x_bad) (lf_lc 0 (0 : Int) rfl) c68)
    refine lv_iconst (v := 0) hx hb dX10_number_7 rfl ?_
    subst hQ; exact k_iret hx hb hr hlk rfl ((x_at, x_ended, x_bad, x_badPlace)) hS ⟨ib_w 0 1600 hx_at rfl, fun q => q, (by omega), fun q => absurd q c68, (hO.symm.trans (by try simp only [show (0 : Int32).toInt = (0 : Int) from rfl]; exact hq))⟩ hP hD (Nat.le_of_ble_eq_true rfl) (Nat.le_of_ble_eq_true rfl) dX10_number_8
set_option maxHeartbeats 4000000 in
set_option maxRecDepth 100000 in
theorem s_X10_octet (l : Launch) (dC : Nat → ClassId) (dI : Nat → Nat → Nat) (cy : Nat → ClassId) (sq : Nat → Nat) (a_this : Nat) (rm : Nat → Nat) (x_taped : Int32) (x_at : Int32) (x_end : Int32) (x_ended : Int32) (x_bad : Int32) (x_badPlace : Int32) (x_fault : Int32) (x_faultPlace : Int32) (x_namePlace : Int32) (x_awayTold : Int32) (x_away : Int32) (x_coded : Int32) (x_statements : Int32) (x_isCrossing : Int32) (x_textKind : Int32) (x_askSecond : Int32) (x_redMany : Int32) (x_isOpen : Int32) (x_lastGreen : Int32) (x_greenTo : Int32) (x_isCycleGreen : Int32) (x_stillGreen : Int32) (x_rowMany : Int32) (x_fitMany : Int32) (x_fitRules : Int32) (x_fitGreen : Int32) (x_undoable : Int32) (x_newest : Int32) (x_seeded : Int64) (x_qCoded : Int32) (x_qWaits : Int32) (x_qOpened : Int32) (x_qBase : Int32) (x_qPiled : Int32) (x_qAnswer : Int64) (x_qIsNew : Int32) (x_octets : Int32) (g_octet : Nat → Int32) (p0 : Int32) (hx_octets : ib x_octets 0 11) : k_Met l yX10_octet cX10_octet 2 (some .int) { frames := 0, cells := 0, slots := 0, locals := 0 } dC dI cy sq [.ref a_this, .int p0] [(a_this, .inr (10, mfs rm x_taped x_at x_end x_ended x_bad x_badPlace x_fault x_faultPlace x_namePlace x_awayTold x_away x_coded x_statements x_isCrossing x_textKind x_askSecond x_redMany x_isOpen x_lastGreen x_greenTo x_isCycleGreen x_stillGreen x_rowMany x_fitMany x_fitRules x_fitGreen x_undoable x_newest x_seeded x_qCoded x_qWaits x_qOpened x_qBase x_qPiled x_qAnswer x_qIsNew x_octets)), (wi_rm120_0_11_0 rm cy g_octet)] (k_Qi dC dI (fun (r : Int32) (_ : Unit) => (F_X10_octet (Int32.toInt x_octets) (lf_A g_octet) (Int32.toInt p0) = ((Int32.toInt r)))) (fun _ : Unit => [(a_this, .inr (10, mfs rm x_taped x_at x_end x_ended x_bad x_badPlace x_fault x_faultPlace x_namePlace x_awayTold x_away x_coded x_statements x_isCrossing x_textKind x_askSecond x_redMany x_isOpen x_lastGreen x_greenTo x_isCycleGreen x_stillGreen x_rowMany x_fitMany x_fitRules x_fitGreen x_undoable x_newest x_seeded x_qCoded x_qWaits x_qOpened x_qBase x_qPiled x_qAnswer x_qIsNew x_octets)), (wi_rm120_0_11_0 rm cy g_octet)])) := by
  refine k_ofW2 (by decide +kernel) (Nat.le_of_ble_eq_true rfl) ?_
  intro p e s m below meth c A ls H locs args Q hQ C0 hZ hr hlk hin hP hD hA hS hl
  have C0 : k_cx p s m args c cX10_octet 2 RX10 dC dI cy sq := C0
  have hx := C0.1
  have hb := C0.2.1
  have hl : lv_has ls 2 [(0, .ref a_this), (1, .int p0)] := hl
  obtain ⟨O, hO⟩ : ∃ o, o = F_X10_octet (Int32.toInt x_octets) (lf_A g_octet) (Int32.toInt p0) := ⟨_, rfl⟩
  have hq := hO
  unfold F_X10_octet at hq
  have jn21 : ∀  (H : Heap) (locs : List Loc) (ls : Array Slot), (O = F_X10_octet_21 ) → va_P (dC, dI) vwCl [(a_this, .inr (10, mfs rm x_taped x_at x_end x_ended x_bad x_badPlace x_fault x_faultPlace x_namePlace x_awayTold x_away x_coded x_statements x_isCrossing x_textKind x_askSecond x_redMany x_isOpen x_lastGreen x_greenTo x_isCycleGreen x_stillGreen x_rowMany x_fitMany x_fitRules x_fitGreen x_undoable x_newest x_seeded x_qCoded x_qWaits x_qOpened x_qBase x_qPiled x_qAnswer x_qIsNew x_octets)), (wi_rm120_0_11_0 rm cy g_octet)] H → va_D A [(a_this, .inr (10, mfs rm x_taped x_at x_end x_ended x_bad x_badPlace x_fault x_faultPlace x_namePlace x_awayTold x_away x_coded x_statements x_isCrossing x_textKind x_askSecond x_redMany x_isOpen x_lastGreen x_greenTo x_isCycleGreen x_stillGreen x_rowMany x_fitMany x_fitRules x_fitGreen x_undoable x_newest x_seeded x_qCoded x_qWaits x_qOpened x_qBase x_qPiled x_qAnswer x_qIsNew x_octets)), (wi_rm120_0_11_0 rm cy g_octet)] → va_S A s.heap H locs → lv_has ls 2 [(0, .ref a_this), (1, .int p0)] → W p l e { frames := 0, cells := 0, slots := 0, locals := 0 } s m args below meth c H locs 0 0 Q (F0 m 21 ls []) := by
    intro H locs ls hq hP hD hS hl
    unfold F_X10_octet_21 at hq
    refine lv_iconst (v := (-1)) hx hb dX10_octet_21 rfl ?_
    subst hQ; exact k_iret hx hb hr hlk rfl () hS ((hO.symm.trans (by try simp only [show ((-1) : Int32).toInt = (-1 : Int) from rfl]; exact hq))) hP hD (Nat.le_of_ble_eq_true rfl) (Nat.le_of_ble_eq_true rfl) dX10_octet_22
  refine lv_iload_n hx hb dX10_octet_0 rfl (lv_at hl 1 rfl) ?_
  refine lv_if_lt (tgt := 21) hx hb dX10_octet_1 rfl (fun c1 => ?_) (fun c1 => ?_)
  · replace hq := lf_pos hq (lf_lt (lf_rf p0) (lf_lc 0 (0 : Int) rfl) c1)
    have h2 := ib_lt (ib_any p0) (ib_c 0 0 0 rfl) c1
    have h3 : ib p0 (-2147483648) (-1) := ib_w (-2147483648) (-1) h2.1 rfl
    exact jn21  H locs ls (by exact hq) hP hD hS (lv_sub hl [0, 1] rfl)
  · replace hq := lf_neg hq (lf_nlt (lf_rf p0) (lf_lc 0 (0 : Int) rfl) c1)
    have h4 := ib_nlt (ib_any p0) (ib_c 0 0 0 rfl) c1
    have h5 : ib p0 0 2147483647 := ib_w 0 2147483647 h4.1 rfl
    refine lv_iload_n hx hb dX10_octet_4 rfl (lv_at hl 1 rfl) ?_
    refine lv_aload_n hx hb dX10_octet_5 rfl (lv_at hl 0 rfl) ?_
    refine k_get C0 fg_X10_699 hP 0 rfl rfl dX10_octet_6 ?_
    refine lv_icmp_ge (tgt := 21) hx hb dX10_octet_9 rfl (fun c6 => ?_) (fun c6 => ?_)
    · replace hq := lf_pos hq (lf_le (lf_rf x_octets) (lf_rf p0) c6)
      have h7 := ib_le hx_octets h5 c6
      exact jn21  H locs ls (by exact hq) hP hD hS (lv_sub hl [0, 1] rfl)
    · replace hq := lf_neg hq (lf_nle (lf_rf x_octets) (lf_rf p0) c6)
      have h8 := ib_nle hx_octets h5 c6
      have h9 : ib x_octets 1 11 := ib_w 1 11 h8.1 rfl
      have h10 : ib p0 0 10 := ib_w 0 10 h8.2 rfl
      refine lv_aload_n hx hb dX10_octet_12 rfl (lv_at hl 0 rfl) ?_
      refine k_get C0 fg_X10_273 hP 0 rfl rfl dX10_octet_13 ?_
      refine lv_iload_n hx hb dX10_octet_16 rfl (lv_at hl 1 rfl) ?_
      refine va_iald hx hb C0.2.2.2.2.2.1 hP 1 0 rfl rfl (ib_in 11 h10 rfl) dX10_octet_17 ?_
      refine lv_topi (fun z11 ez11 => ?_)
      have Ez11 := lf_ld ez11 (lf_ra g_octet) (lf_rf p0)
      refine lv_goto (tgt := 22) hx hb dX10_octet_18 rfl ?_
      subst hQ; exact k_iret hx hb hr hlk rfl () hS ((hO.symm.trans (by rw [lf_u Ez11]; exact hq))) hP hD (Nat.le_of_ble_eq_true rfl) (Nat.le_of_ble_eq_true rfl) dX10_octet_22
set_option maxHeartbeats 4000000 in
set_option maxRecDepth 100000 in
theorem s_X10_on (l : Launch) (dC : Nat → ClassId) (dI : Nat → Nat → Nat) (cy : Nat → ClassId) (sq : Nat → Nat) (a_this : Nat) (rm : Nat → Nat) (x_taped : Int32) (x_at : Int32) (x_end : Int32) (x_ended : Int32) (x_bad : Int32) (x_badPlace : Int32) (x_fault : Int32) (x_faultPlace : Int32) (x_namePlace : Int32) (x_awayTold : Int32) (x_away : Int32) (x_coded : Int32) (x_statements : Int32) (x_isCrossing : Int32) (x_textKind : Int32) (x_askSecond : Int32) (x_redMany : Int32) (x_isOpen : Int32) (x_lastGreen : Int32) (x_greenTo : Int32) (x_isCycleGreen : Int32) (x_stillGreen : Int32) (x_rowMany : Int32) (x_fitMany : Int32) (x_fitRules : Int32) (x_fitGreen : Int32) (x_undoable : Int32) (x_newest : Int32) (x_seeded : Int64) (x_qCoded : Int32) (x_qWaits : Int32) (x_qOpened : Int32) (x_qBase : Int32) (x_qPiled : Int32) (x_qAnswer : Int64) (x_qIsNew : Int32) (x_octets : Int32) (g_tape : Nat → Int32) (g_refused : Nat → Int32) (g_many : Nat → Int32) (g_bar : Nat → Int32) (g_now : Nat → Int32) (hx_taped : ib x_taped 0 1600) (hx_isCrossing : ib x_isCrossing 0 1) (hx_undoable : ib x_undoable 0 20) (hg_tape : ia g_tape 1600 0 255) (hg_many_2 : ib (g_many 2) 0 6) (hg_bar_4 : ib (g_bar 4) 0 120) (hc_cr : ¬ x_isCrossing = 0 → ib (g_bar 4) 10 120) : k_Met l yX10_on cX10_on 3 (some .boolean) { frames := 3, cells := 0, slots := 0, locals := 69 } dC dI cy sq [.ref a_this] [(a_this, .inr (10, mfs rm x_taped x_at x_end x_ended x_bad x_badPlace x_fault x_faultPlace x_namePlace x_awayTold x_away x_coded x_statements x_isCrossing x_textKind x_askSecond x_redMany x_isOpen x_lastGreen x_greenTo x_isCycleGreen x_stillGreen x_rowMany x_fitMany x_fitRules x_fitGreen x_undoable x_newest x_seeded x_qCoded x_qWaits x_qOpened x_qBase x_qPiled x_qAnswer x_qIsNew x_octets)), (wi_rm41_0_4_0 rm cy g_many), (wi_rm0_0_1600_0 rm cy g_tape), (wi_rm43_0_8_0 rm cy g_bar), (wi_rm56_0_9_0 rm cy g_now), (wi_rm9_0_6_0 rm cy g_refused)] (k_Qi dC dI (fun (r : Int32) (u : Int32 × (Nat → Int32) × (Nat → Int32)) => match u with | (n0, n1, n2) => ib n0 0 20 ∧ ib r 0 1 ∧ (¬ r = 0 → ib n0 0 0) ∧ (¬ r = 0 → ib (g_bar 4) 10 120) ∧ (¬ r = 0 → ib x_taped 5 11) ∧ (¬ r = 0 → ib x_isCrossing 1 1) ∧ (F_X10_on (Int32.toInt x_taped) (Int32.toInt x_isCrossing) (Int32.toInt x_undoable) (lf_A g_tape) (lf_A g_refused) (lf_A g_many) (lf_A g_bar) (lf_A g_now) = ((Int32.toInt r), (Int32.toInt n0), (lf_A n1), (lf_A n2)))) (fun u : Int32 × (Nat → Int32) × (Nat → Int32) => match u with | (n0, n1, n2) => [(a_this, .inr (10, mfs rm 0 x_at x_end x_ended x_bad x_badPlace x_fault x_faultPlace x_namePlace x_awayTold x_away x_coded x_statements x_isCrossing x_textKind x_askSecond x_redMany x_isOpen x_lastGreen x_greenTo x_isCycleGreen x_stillGreen x_rowMany x_fitMany x_fitRules x_fitGreen n0 x_newest x_seeded x_qCoded x_qWaits x_qOpened x_qBase x_qPiled x_qAnswer x_qIsNew x_octets)), (wi_rm41_0_4_0 rm cy g_many), (wi_rm0_0_1600_0 rm cy g_tape), (wi_rm43_0_8_0 rm cy g_bar), (wi_rm56_0_9_0 rm cy n1), (wi_rm9_0_6_0 rm cy n2)])) := by
  refine k_ofW2 (by decide +kernel) (Nat.le_of_ble_eq_true rfl) ?_
  intro p e s m below meth c A ls H locs args Q hQ C0 hZ hr hlk hin hP hD hA hS hl
  have C0 : k_cx p s m args c cX10_on 3 RX10 dC dI cy sq := C0
  have hx := C0.1
  have hb := C0.2.1
  have hl : lv_has ls 3 [(0, .ref a_this)] := hl
  obtain ⟨O, hO⟩ : ∃ o, o = F_X10_on (Int32.toInt x_taped) (Int32.toInt x_isCrossing) (Int32.toInt x_undoable) (lf_A g_tape) (lf_A g_refused) (lf_A g_many) (lf_A g_bar) (lf_A g_now) := ⟨_, rfl⟩
  have hq := hO
  unfold F_X10_on at hq
  have jn79 : ∀ (n : Nat) (J79_a4 : Nat → Int32) (J79_l2 : Int32) (H : Heap) (locs : List Loc) (ls : Array Slot), ib x_taped 5 11 → ib x_isCrossing 1 1 → ib (g_bar 4) 10 120 → ib J79_l2 0 6 → (O = F_X10_on_79 (lf_A g_tape) (lf_A g_refused) (lf_A g_many) n (lf_A J79_a4) (Int32.toInt J79_l2)) → 7 ≤ J79_l2.toInt + (n : Int) → va_P (dC, dI) vwCl [(a_this, .inr (10, mfs rm 0 x_at x_end x_ended x_bad x_badPlace x_fault x_faultPlace x_namePlace x_awayTold x_away x_coded x_statements x_isCrossing x_textKind x_askSecond x_redMany x_isOpen x_lastGreen x_greenTo x_isCycleGreen x_stillGreen x_rowMany x_fitMany x_fitRules x_fitGreen x_undoable x_newest x_seeded x_qCoded x_qWaits x_qOpened x_qBase x_qPiled x_qAnswer x_qIsNew x_octets)), (wi_rm41_0_4_0 rm cy g_many), (wi_rm0_0_1600_0 rm cy g_tape), (wi_rm43_0_8_0 rm cy g_bar), (wi_rm56_0_9_0 rm cy J79_a4), (wi_rm9_0_6_0 rm cy g_refused)] H → va_D A [(a_this, .inr (10, mfs rm 0 x_at x_end x_ended x_bad x_badPlace x_fault x_faultPlace x_namePlace x_awayTold x_away x_coded x_statements x_isCrossing x_textKind x_askSecond x_redMany x_isOpen x_lastGreen x_greenTo x_isCycleGreen x_stillGreen x_rowMany x_fitMany x_fitRules x_fitGreen x_undoable x_newest x_seeded x_qCoded x_qWaits x_qOpened x_qBase x_qPiled x_qAnswer x_qIsNew x_octets)), (wi_rm41_0_4_0 rm cy g_many), (wi_rm0_0_1600_0 rm cy g_tape), (wi_rm43_0_8_0 rm cy g_bar), (wi_rm56_0_9_0 rm cy J79_a4), (wi_rm9_0_6_0 rm cy g_refused)] → va_S A s.heap H locs → lv_has ls 3 [(0, .ref a_this), (1, .int x_taped), (2, .int J79_l2)] → W p l e { frames := 3, cells := 0, slots := 0, locals := 69 } s m args below meth c H locs 0 0 Q (F0 m 79 ls []) := by
    as_aux_lemma =>
      intro n
      induction n with
      | zero =>
        intro J79_a4 J79_l2 H locs ls hK79_x_taped hK79_x_isCrossing hJ79_a3_4 hJ79_l2 hq hm
        exact absurd hm (by have := hJ79_l2; unfold ib at this; omega)
      | succ n ih =>
        intro J79_a4 J79_l2 H locs ls hK79_x_taped hK79_x_isCrossing hJ79_a3_4 hJ79_l2 hq hm79 hP hD hS hl
        have ih79 := ih
        obtain ⟨K79, hK79⟩ : ∃ K, K = F_X10_on_79 (lf_A g_tape) (lf_A g_refused) (lf_A g_many) n := ⟨_, rfl⟩
        have hq : O = F_X10_on_79b (lf_A g_tape) (lf_A g_refused) (lf_A g_many) K79 (lf_A J79_a4) (Int32.toInt J79_l2) := by rw [hK79]; exact hq
        unfold F_X10_on_79b at hq
        refine lv_iload_n hx hb dX10_on_79 rfl (lv_at hl 2 rfl) ?_
        refine lv_aload_n hx hb dX10_on_80 rfl (lv_at hl 0 rfl) ?_
        refine k_jim hP hD hS hA [0, 1] [false, false, true, true, true, true] rfl rfl rfl 0 0 (Nat.le_of_ble_eq_true rfl) (Nat.le_of_ble_eq_true rfl) (fun hPc hDc => k_runV (As := []) (rest := [.int J79_l2]) C0 hZ hS hA (s_X10_kindMany l dC dI cy sq a_this rm 0 x_at x_end x_ended x_bad x_badPlace x_fault x_faultPlace x_namePlace x_awayTold x_away x_coded x_statements x_isCrossing x_textKind x_askSecond x_redMany x_isOpen x_lastGreen x_greenTo x_isCycleGreen x_stillGreen x_rowMany x_fitMany x_fitRules x_fitGreen x_undoable x_newest x_seeded x_qCoded x_qWaits x_qOpened x_qBase x_qPiled x_qAnswer x_qIsNew x_octets g_many ) mV_X10_430 hPc hDc rfl rfl rfl hl rfl rfl (Nat.le_of_ble_eq_true rfl) ⟨(Nat.le_of_ble_eq_true rfl), (Nat.le_of_ble_eq_true rfl)⟩ ⟨(Nat.le_of_ble_eq_true rfl), (Nat.le_of_ble_eq_true rfl)⟩ dX10_on_81) (fun r1 u2 H locs hw hP hD hS => ?_)
        try dsimp only at hP hD hw
        replace hP : va_P (dC, dI) vwCl [(wi_rm0_0_1600_0 rm cy g_tape), (wi_rm43_0_8_0 rm cy g_bar), (wi_rm56_0_9_0 rm cy J79_a4), (wi_rm9_0_6_0 rm cy g_refused), (a_this, .inr (10, mfs rm 0 x_at x_end x_ended x_bad x_badPlace x_fault x_faultPlace x_namePlace x_awayTold x_away x_coded x_statements x_isCrossing x_textKind x_askSecond x_redMany x_isOpen x_lastGreen x_greenTo x_isCycleGreen x_stillGreen x_rowMany x_fitMany x_fitRules x_fitGreen x_undoable x_newest x_seeded x_qCoded x_qWaits x_qOpened x_qBase x_qPiled x_qAnswer x_qIsNew x_octets)), (wi_rm41_0_4_0 rm cy g_many)] H := hP
        replace hD := k_D hP hD
        obtain ⟨h3, h4⟩ := hw
        subst h3
        replace hq := lf_b1 hq h4
        refine lv_icmp_ge (tgt := 109) hx hb dX10_on_84 rfl (fun c5 => ?_) (fun c5 => ?_)
        · replace hq := lf_pos hq (lf_le (lf_pt (lf_ra g_many) 2) (lf_rf J79_l2) c5)
          have h6 := ib_le hg_many_2 hJ79_l2 c5
          refine lv_aload_n hx hb dX10_on_109 rfl (lv_at hl 0 rfl) ?_
          refine lv_iconst (v := 0) hx hb dX10_on_110 rfl ?_
          refine k_put C0 fp_X10_424 hP hD hS 4 rfl rfl rfl (Nat.le_of_ble_eq_true rfl) dX10_on_111 (fun H locs hP hD hS => ?_)
          replace hP : va_P (dC, dI) vwCl [(wi_rm0_0_1600_0 rm cy g_tape), (wi_rm43_0_8_0 rm cy g_bar), (wi_rm56_0_9_0 rm cy J79_a4), (wi_rm9_0_6_0 rm cy g_refused), (a_this, .inr (10, mfs rm 0 x_at x_end x_ended x_bad x_badPlace x_fault x_faultPlace x_namePlace x_awayTold x_away x_coded x_statements x_isCrossing x_textKind x_askSecond x_redMany x_isOpen x_lastGreen x_greenTo x_isCycleGreen x_stillGreen x_rowMany x_fitMany x_fitRules x_fitGreen 0 x_newest x_seeded x_qCoded x_qWaits x_qOpened x_qBase x_qPiled x_qAnswer x_qIsNew x_octets)), (wi_rm41_0_4_0 rm cy g_many)] H := hP
          replace hD := k_D hP hD
          refine lv_iconst (v := 1) hx hb dX10_on_114 rfl ?_
          subst hQ; exact k_iret hx hb hr hlk (k_nb 1 rfl) ((0, J79_a4, g_refused)) hS ⟨ib_w 0 20 (ib_c 0 0 0 rfl) rfl, ib_w 0 1 (ib_c 1 1 1 rfl) rfl, fun _ => ib_w 0 0 (ib_c 0 0 0 rfl) rfl, fun _ => ib_w 10 120 hJ79_a3_4 rfl, fun _ => ib_w 5 11 hK79_x_taped rfl, fun _ => ib_w 1 1 hK79_x_isCrossing rfl, (hO.symm.trans (by try simp only [show (1 : Int32).toInt = (1 : Int) from rfl]; try simp only [show (0 : Int32).toInt = (0 : Int) from rfl]; exact hq))⟩ (hP.sub [4, 5, 0, 1, 2, 3] rfl) (hD.sub [4, 5, 0, 1, 2, 3] rfl rfl) (Nat.le_of_ble_eq_true rfl) (Nat.le_of_ble_eq_true rfl) dX10_on_115
        · as_aux_lemma =>
            replace hq := lf_neg hq (lf_nle (lf_pt (lf_ra g_many) 2) (lf_rf J79_l2) c5)
            have h7 := ib_nle hg_many_2 hJ79_l2 c5
            have h8 : ib (g_many 2) 1 6 := ib_w 1 6 h7.1 rfl
            have h9 : ib J79_l2 0 5 := ib_w 0 5 h7.2 rfl
            refine lv_aload_n hx hb dX10_on_87 rfl (lv_at hl 0 rfl) ?_
            refine k_get C0 fg_X10_139 hP 4 rfl rfl dX10_on_88 ?_
            refine lv_iconst (v := 3) hx hb dX10_on_91 rfl ?_
            refine lv_iload_n hx hb dX10_on_92 rfl (lv_at hl 2 rfl) ?_
            refine lv_iadd hx hb dX10_on_93 ?_
            refine lv_topi (fun z10 ez10 => ?_)
            have h11 := ib_add (ib_c 3 3 3 rfl) h9 rfl
            rw [← ez10] at h11
            have h12 : ib z10 3 8 := ib_w 3 8 h11.1 rfl
            have Ez10 := lf_add h11.2 (lf_lc 3 (3 : Int) rfl) (lf_rf J79_l2)
            refine lv_aload_n hx hb dX10_on_94 rfl (lv_at hl 0 rfl) ?_
            refine k_get C0 fg_X10_7 hP 4 rfl rfl dX10_on_95 ?_
            refine lv_iconst (v := 4) hx hb dX10_on_98 rfl ?_
            refine lv_iload_n hx hb dX10_on_99 rfl (lv_at hl 2 rfl) ?_
            refine lv_iadd hx hb dX10_on_100 ?_
            refine lv_topi (fun z13 ez13 => ?_)
            have h14 := ib_add (ib_c 4 4 4 rfl) h9 rfl
            rw [← ez13] at h14
            have h15 : ib z13 4 9 := ib_w 4 9 h14.1 rfl
            have Ez13 := lf_add h14.2 (lf_lc 4 (4 : Int) rfl) (lf_rf J79_l2)
            refine va_iald hx hb C0.2.2.2.2.2.1 hP 0 0 rfl rfl (ib_in 1600 h15 rfl) dX10_on_101 ?_
            refine lv_topi (fun z16 ez16 => ?_)
            have h17 : ib z16 0 255 := by rw [ez16]; exact ia_at hg_tape (ib_in 1600 h15 rfl)
            have Ez16 := lf_ld ez16 (lf_ra g_tape) Ez13
            refine va_iast hx hb C0.2.2.2.2.2.1 hP hD hS 2 0 rfl rfl (ib_in 9 h12 rfl) dX10_on_102 (fun H locs hP hD hS => ?_)
            replace hP : va_P (dC, dI) vwCl [(wi_rm0_0_1600_0 rm cy g_tape), (wi_rm43_0_8_0 rm cy g_bar), (wi_rm56_0_9_0 rm cy (upd J79_a4 (Int32.toNatClampNeg z10) z16)), (wi_rm9_0_6_0 rm cy g_refused), (a_this, .inr (10, mfs rm 0 x_at x_end x_ended x_bad x_badPlace x_fault x_faultPlace x_namePlace x_awayTold x_away x_coded x_statements x_isCrossing x_textKind x_askSecond x_redMany x_isOpen x_lastGreen x_greenTo x_isCycleGreen x_stillGreen x_rowMany x_fitMany x_fitRules x_fitGreen x_undoable x_newest x_seeded x_qCoded x_qWaits x_qOpened x_qBase x_qPiled x_qAnswer x_qIsNew x_octets)), (wi_rm41_0_4_0 rm cy g_many)] H := hP
            replace hD := k_D hP hD
            generalize ef18 : upd J79_a4 (Int32.toNatClampNeg z10) z16 = f18 at hP hD
            have Ef18 := lf_st ef18 (lf_ra J79_a4) Ez10 Ez16
            obtain ⟨z19, ez19⟩ : ∃ y : Int32, y = J79_l2 + 1 := ⟨_, rfl⟩
            refine lv_iinc (v := z19) (lv' := [(2, .int z19), (0, .ref a_this), (1, .int x_taped)]) hx hb dX10_on_103 hl (k := 2) rfl (by rw [ez19]; rfl) (Nat.le_of_ble_eq_true rfl) rfl (fun ls hl => ?_)
            have h20 := ib_add h9 (ib_c 1 1 1 rfl) rfl
            rw [← ez19] at h20
            have h21 : ib z19 1 6 := ib_w 1 6 h20.1 rfl
            have Ez19 := lf_add h20.2 (lf_rf J79_l2) (lf_lc 1 (1 : Int) rfl)
            refine lv_goto (tgt := 79) hx hb dX10_on_106 rfl ?_
            exact ih79 f18 z19 H locs ls (ib_w 5 11 hK79_x_taped rfl) (ib_w 1 1 hK79_x_isCrossing rfl) (ib_w 10 120 hJ79_a3_4 rfl) (ib_w 0 6 h21 rfl) (by rw [← hK79]; rw [lf_ua Ef18]; rw [lf_u Ez19]; exact hq) (by have := h20.2; have : (1 : Int32).toInt = 1 := rfl; omega) (hP.sub [4, 5, 0, 1, 2, 3] rfl) (hD.sub [4, 5, 0, 1, 2, 3] rfl rfl) hS (lv_sub hl [1, 2, 0] rfl)
  refine lv_aload_n hx hb dX10_on_0 rfl (lv_at hl 0 rfl) ?_
  refine k_get C0 fg_X10_276 hP 0 rfl rfl dX10_on_1 ?_
  refine lv_istore_n (lv' := [(1, .int x_taped), (0, .ref a_this)]) hx hb dX10_on_4 rfl hl (Nat.le_of_ble_eq_true rfl) rfl (fun ls hl => ?_)
  refine lv_aload_n hx hb dX10_on_5 rfl (lv_at hl 1 rfl) ?_
  refine lv_iconst (v := 0) hx hb dX10_on_6 rfl ?_
  refine k_put C0 fp_X10_276 hP hD hS 0 rfl rfl rfl (Nat.le_of_ble_eq_true rfl) dX10_on_7 (fun H locs hP hD hS => ?_)
  replace hP : va_P (dC, dI) vwCl [(a_this, .inr (10, mfs rm 0 x_at x_end x_ended x_bad x_badPlace x_fault x_faultPlace x_namePlace x_awayTold x_away x_coded x_statements x_isCrossing x_textKind x_askSecond x_redMany x_isOpen x_lastGreen x_greenTo x_isCycleGreen x_stillGreen x_rowMany x_fitMany x_fitRules x_fitGreen x_undoable x_newest x_seeded x_qCoded x_qWaits x_qOpened x_qBase x_qPiled x_qAnswer x_qIsNew x_octets)), (wi_rm41_0_4_0 rm cy g_many), (wi_rm0_0_1600_0 rm cy g_tape), (wi_rm43_0_8_0 rm cy g_bar), (wi_rm56_0_9_0 rm cy g_now), (wi_rm9_0_6_0 rm cy g_refused)] H := hP
  replace hD := k_D hP hD
  refine lv_aload_n hx hb dX10_on_10 rfl (lv_at hl 1 rfl) ?_
  refine lv_iload_n hx hb dX10_on_11 rfl (lv_at hl 0 rfl) ?_
  refine k_jim hP hD hS hA [0, 1, 2, 3] [false, false, false, false, true, true] rfl rfl rfl 0 0 (Nat.le_of_ble_eq_true rfl) (Nat.le_of_ble_eq_true rfl) (fun hPc hDc => k_runV (As := [.int x_taped]) (rest := []) C0 hZ hS hA (s_X10_isImage l dC dI cy sq a_this rm 0 x_at x_end x_ended x_bad x_badPlace x_fault x_faultPlace x_namePlace x_awayTold x_away x_coded x_statements x_isCrossing x_textKind x_askSecond x_redMany x_isOpen x_lastGreen x_greenTo x_isCycleGreen x_stillGreen x_rowMany x_fitMany x_fitRules x_fitGreen x_undoable x_newest x_seeded x_qCoded x_qWaits x_qOpened x_qBase x_qPiled x_qAnswer x_qIsNew x_octets g_tape g_many g_bar x_taped (ib_w 0 1 hx_isCrossing rfl) hg_tape (ib_w 0 6 hg_many_2 rfl) (ib_w 0 120 hg_bar_4 rfl) (fun hq9 => ib_w 10 120 (hc_cr hq9) rfl) (ib_w 0 1600 hx_taped rfl)) mV_X10_709 hPc hDc rfl rfl rfl hl rfl rfl (Nat.le_of_ble_eq_true rfl) ⟨(Nat.le_of_ble_eq_true rfl), (Nat.le_of_ble_eq_true rfl)⟩ ⟨(Nat.le_of_ble_eq_true rfl), (Nat.le_of_ble_eq_true rfl)⟩ dX10_on_12) (fun r22 u23 H locs hw hP hD hS => ?_)
  try dsimp only at hP hD hw
  replace hP : va_P (dC, dI) vwCl [(wi_rm56_0_9_0 rm cy g_now), (wi_rm9_0_6_0 rm cy g_refused), (a_this, .inr (10, mfs rm 0 x_at x_end x_ended x_bad x_badPlace x_fault x_faultPlace x_namePlace x_awayTold x_away x_coded x_statements x_isCrossing x_textKind x_askSecond x_redMany x_isOpen x_lastGreen x_greenTo x_isCycleGreen x_stillGreen x_rowMany x_fitMany x_fitRules x_fitGreen x_undoable x_newest x_seeded x_qCoded x_qWaits x_qOpened x_qBase x_qPiled x_qAnswer x_qIsNew x_octets)), (wi_rm41_0_4_0 rm cy g_many), (wi_rm0_0_1600_0 rm cy g_tape), (wi_rm43_0_8_0 rm cy g_bar)] H := hP
  replace hD := k_D hP hD
  obtain ⟨h24, h25, h26, h27, h28⟩ := hw
  replace hq := lf_b1 hq h28
  refine lv_if_ne (tgt := 30) hx hb dX10_on_15 rfl (fun c29 => ?_) (fun c29 => ?_)
  · as_aux_lemma =>
      replace hq := lf_neg hq (lf_ne (lf_rf r22) (lf_lc 0 (0 : Int) rfl) c29)
      have h30 : ib r22 1 1 := ib_w 1 1 (ib_ne_lo 0 h24 rfl c29) rfl
      have h31 : ib (g_bar 4) 10 120 := ib_w 10 120 (ib_two hg_bar_4 (h25 (ib_nz h30 rfl))) rfl
      have h32 : ib x_isCrossing 1 1 := ib_w 1 1 (ib_two hx_isCrossing (h26 (ib_nz h30 rfl))) rfl
      have h33 : ib x_taped 5 11 := ib_w 5 11 (ib_two hx_taped (h27 (ib_nz h30 rfl))) rfl
      refine lv_aload_n hx hb dX10_on_30 rfl (lv_at hl 1 rfl) ?_
      refine k_get C0 fg_X10_139 hP 2 rfl rfl dX10_on_31 ?_
      refine lv_iconst (v := 0) hx hb dX10_on_34 rfl ?_
      refine lv_sipush (v := 256) hx hb dX10_on_35 rfl ?_
      refine lv_aload_n hx hb dX10_on_38 rfl (lv_at hl 1 rfl) ?_
      refine k_get C0 fg_X10_7 hP 2 rfl rfl dX10_on_39 ?_
      refine lv_iconst (v := 0) hx hb dX10_on_42 rfl ?_
      refine va_iald hx hb C0.2.2.2.2.2.1 hP 4 0 rfl rfl (k_in 0 1600 rfl) dX10_on_43 ?_
      refine lv_topi (fun z34 ez34 => ?_)
      have h35 : ib z34 0 255 := by rw [ez34]; exact ia_at hg_tape (k_in 0 1600 rfl)
      have Ez34 := lf_ld ez34 (lf_ra g_tape) (lf_lc 0 (0 : Int) rfl)
      refine lv_imul hx hb dX10_on_44 ?_
      refine lv_topi (fun z36 ez36 => ?_)
      have h37 := ib_mul (ib_c 256 256 256 rfl) h35 rfl
      rw [← ez36] at h37
      have h38 : ib z36 0 65280 := ib_w 0 65280 h37.1 rfl
      have h39 : z36.toInt = 256 * z34.toInt := by have q0 := h37.2; rw [show (256 : Int32).toInt = 256 from by decide] at q0; omega
      have Ez36 := lf_mul h37.2 (lf_lc 256 (256 : Int) rfl) Ez34
      refine lv_aload_n hx hb dX10_on_45 rfl (lv_at hl 1 rfl) ?_
      refine k_get C0 fg_X10_7 hP 2 rfl rfl dX10_on_46 ?_
      refine lv_iconst (v := 1) hx hb dX10_on_49 rfl ?_
      refine va_iald hx hb C0.2.2.2.2.2.1 hP 4 0 rfl rfl (k_in 1 1600 rfl) dX10_on_50 ?_
      refine lv_topi (fun z40 ez40 => ?_)
      have h41 : ib z40 0 255 := by rw [ez40]; exact ia_at hg_tape (k_in 1 1600 rfl)
      have Ez40 := lf_ld ez40 (lf_ra g_tape) (lf_lc 1 (1 : Int) rfl)
      as_aux_lemma =>
        refine lv_iadd hx hb dX10_on_51 ?_
        refine lv_topi (fun z42 ez42 => ?_)
        have h43 := ib_add h38 h41 rfl
        rw [← ez42] at h43
        have h44 : ib z42 0 65535 := ib_w 0 65535 h43.1 rfl
        have Ez42 := lf_add h43.2 Ez36 Ez40
        refine va_iast hx hb C0.2.2.2.2.2.1 hP hD hS 0 0 rfl rfl (k_in 0 9 rfl) dX10_on_52 (fun H locs hP hD hS => ?_)
        replace hP : va_P (dC, dI) vwCl [(wi_rm56_0_9_0 rm cy (upd g_now 0 z42)), (wi_rm9_0_6_0 rm cy g_refused), (a_this, .inr (10, mfs rm 0 x_at x_end x_ended x_bad x_badPlace x_fault x_faultPlace x_namePlace x_awayTold x_away x_coded x_statements x_isCrossing x_textKind x_askSecond x_redMany x_isOpen x_lastGreen x_greenTo x_isCycleGreen x_stillGreen x_rowMany x_fitMany x_fitRules x_fitGreen x_undoable x_newest x_seeded x_qCoded x_qWaits x_qOpened x_qBase x_qPiled x_qAnswer x_qIsNew x_octets)), (wi_rm41_0_4_0 rm cy g_many), (wi_rm0_0_1600_0 rm cy g_tape), (wi_rm43_0_8_0 rm cy g_bar)] H := hP
        replace hD := k_D hP hD
        generalize ef45 : upd g_now 0 z42 = f45 at hP hD
        have Ef45 := lf_stn (X := (0 : Int)) ef45 (lf_ra g_now) rfl Ez42
        refine lv_aload_n hx hb dX10_on_53 rfl (lv_at hl 1 rfl) ?_
        refine k_get C0 fg_X10_139 hP 2 rfl rfl dX10_on_54 ?_
        refine lv_iconst (v := 1) hx hb dX10_on_57 rfl ?_
        refine lv_aload_n hx hb dX10_on_58 rfl (lv_at hl 1 rfl) ?_
        refine k_get C0 fg_X10_7 hP 2 rfl rfl dX10_on_59 ?_
        refine lv_iconst (v := 2) hx hb dX10_on_62 rfl ?_
        refine va_iald hx hb C0.2.2.2.2.2.1 hP 4 0 rfl rfl (k_in 2 1600 rfl) dX10_on_63 ?_
        refine lv_topi (fun z46 ez46 => ?_)
        have h47 : ib z46 0 255 := by rw [ez46]; exact ia_at hg_tape (k_in 2 1600 rfl)
        have Ez46 := lf_ld ez46 (lf_ra g_tape) (lf_lc 2 (2 : Int) rfl)
        refine va_iast hx hb C0.2.2.2.2.2.1 hP hD hS 0 0 rfl rfl (k_in 1 9 rfl) dX10_on_64 (fun H locs hP hD hS => ?_)
        replace hP : va_P (dC, dI) vwCl [(wi_rm56_0_9_0 rm cy (upd f45 1 z46)), (wi_rm9_0_6_0 rm cy g_refused), (a_this, .inr (10, mfs rm 0 x_at x_end x_ended x_bad x_badPlace x_fault x_faultPlace x_namePlace x_awayTold x_away x_coded x_statements x_isCrossing x_textKind x_askSecond x_redMany x_isOpen x_lastGreen x_greenTo x_isCycleGreen x_stillGreen x_rowMany x_fitMany x_fitRules x_fitGreen x_undoable x_newest x_seeded x_qCoded x_qWaits x_qOpened x_qBase x_qPiled x_qAnswer x_qIsNew x_octets)), (wi_rm41_0_4_0 rm cy g_many), (wi_rm0_0_1600_0 rm cy g_tape), (wi_rm43_0_8_0 rm cy g_bar)] H := hP
        replace hD := k_D hP hD
        generalize ef48 : upd f45 1 z46 = f48 at hP hD
        have Ef48 := lf_stn (X := (1 : Int)) ef48 Ef45 rfl Ez46
        refine lv_aload_n hx hb dX10_on_65 rfl (lv_at hl 1 rfl) ?_
        refine k_get C0 fg_X10_139 hP 2 rfl rfl dX10_on_66 ?_
        refine lv_iconst (v := 2) hx hb dX10_on_69 rfl ?_
        refine lv_aload_n hx hb dX10_on_70 rfl (lv_at hl 1 rfl) ?_
        refine k_get C0 fg_X10_7 hP 2 rfl rfl dX10_on_71 ?_
        refine lv_iconst (v := 3) hx hb dX10_on_74 rfl ?_
        refine va_iald hx hb C0.2.2.2.2.2.1 hP 4 0 rfl rfl (k_in 3 1600 rfl) dX10_on_75 ?_
        refine lv_topi (fun z49 ez49 => ?_)
        have h50 : ib z49 0 255 := by rw [ez49]; exact ia_at hg_tape (k_in 3 1600 rfl)
        have Ez49 := lf_ld ez49 (lf_ra g_tape) (lf_lc 3 (3 : Int) rfl)
        refine va_iast hx hb C0.2.2.2.2.2.1 hP hD hS 0 0 rfl rfl (k_in 2 9 rfl) dX10_on_76 (fun H locs hP hD hS => ?_)
        replace hP : va_P (dC, dI) vwCl [(wi_rm56_0_9_0 rm cy (upd f48 2 z49)), (wi_rm9_0_6_0 rm cy g_refused), (a_this, .inr (10, mfs rm 0 x_at x_end x_ended x_bad x_badPlace x_fault x_faultPlace x_namePlace x_awayTold x_away x_coded x_statements x_isCrossing x_textKind x_askSecond x_redMany x_isOpen x_lastGreen x_greenTo x_isCycleGreen x_stillGreen x_rowMany x_fitMany x_fitRules x_fitGreen x_undoable x_newest x_seeded x_qCoded x_qWaits x_qOpened x_qBase x_qPiled x_qAnswer x_qIsNew x_octets)), (wi_rm41_0_4_0 rm cy g_many), (wi_rm0_0_1600_0 rm cy g_tape), (wi_rm43_0_8_0 rm cy g_bar)] H := hP
        replace hD := k_D hP hD
        generalize ef51 : upd f48 2 z49 = f51 at hP hD
        have Ef51 := lf_stn (X := (2 : Int)) ef51 Ef48 rfl Ez49
        refine lv_iconst (v := 0) hx hb dX10_on_77 rfl ?_
        refine lv_istore_n (lv' := [(2, .int 0), (1, .int x_taped), (0, .ref a_this)]) hx hb dX10_on_78 rfl hl (Nat.le_of_ble_eq_true rfl) rfl (fun ls hl => ?_)
        exact jn79 8 f51 0 H locs ls (ib_w 5 11 h33 rfl) (ib_w 1 1 h32 rfl) (ib_w 10 120 h31 rfl) (ib_w 0 6 (ib_c 0 0 0 rfl) rfl) (by rw [lf_ua Ef51]; try simp only [show (0 : Int32).toInt = (0 : Int) from rfl]; exact hq) (by have := (ib_c 0 0 0 rfl); unfold ib at this; omega) (hP.sub [2, 3, 4, 5, 0, 1] rfl) (hD.sub [2, 3, 4, 5, 0, 1] rfl rfl) hS (lv_sub hl [2, 1, 0] rfl)
  · as_aux_lemma =>
      replace hq := lf_pos hq (lf_eq (lf_rf r22) (lf_lc 0 (0 : Int) rfl) c29)
      have h52 := ib_eq h24 (ib_c 0 0 0 rfl) c29
      have h53 : ib r22 0 0 := ib_w 0 0 h52.1 rfl
      refine lv_aload_n hx hb dX10_on_18 rfl (lv_at hl 1 rfl) ?_
      refine k_get C0 fg_X10_17 hP 2 rfl rfl dX10_on_19 ?_
      refine lv_iconst (v := 5) hx hb dX10_on_22 rfl ?_
      refine lv_dup2_11 hx hb dX10_on_23 rfl rfl ?_
      refine va_iald hx hb C0.2.2.2.2.2.1 hP 1 0 rfl rfl (k_in 5 6 rfl) dX10_on_24 ?_
      refine lv_topi (fun z54 ez54 => ?_)
      have Ez54 := lf_ld ez54 (lf_ra g_refused) (lf_lc 5 (5 : Int) rfl)
      refine lv_iconst (v := 1) hx hb dX10_on_25 rfl ?_
      refine lv_iadd hx hb dX10_on_26 ?_
      refine lv_topi (fun z55 ez55 => ?_)
      have Ez55 := lf_op lf_iadd ez55 Ez54 (lf_lc 1 (1 : Int) rfl)
      refine va_iast hx hb C0.2.2.2.2.2.1 hP hD hS 1 0 rfl rfl (k_in 5 6 rfl) dX10_on_27 (fun H locs hP hD hS => ?_)
      replace hP : va_P (dC, dI) vwCl [(wi_rm56_0_9_0 rm cy g_now), (wi_rm9_0_6_0 rm cy (upd g_refused 5 z55)), (a_this, .inr (10, mfs rm 0 x_at x_end x_ended x_bad x_badPlace x_fault x_faultPlace x_namePlace x_awayTold x_away x_coded x_statements x_isCrossing x_textKind x_askSecond x_redMany x_isOpen x_lastGreen x_greenTo x_isCycleGreen x_stillGreen x_rowMany x_fitMany x_fitRules x_fitGreen x_undoable x_newest x_seeded x_qCoded x_qWaits x_qOpened x_qBase x_qPiled x_qAnswer x_qIsNew x_octets)), (wi_rm41_0_4_0 rm cy g_many), (wi_rm0_0_1600_0 rm cy g_tape), (wi_rm43_0_8_0 rm cy g_bar)] H := hP
      replace hD := k_D hP hD
      generalize ef56 : upd g_refused 5 z55 = f56 at hP hD
      have Ef56 := lf_stn (X := (5 : Int)) ef56 (lf_ra g_refused) rfl Ez55
      refine lv_iconst (v := 0) hx hb dX10_on_28 rfl ?_
      subst hQ; exact k_iret hx hb hr hlk (k_nb 0 rfl) ((x_undoable, g_now, f56)) hS ⟨ib_w 0 20 hx_undoable rfl, ib_w 0 1 (ib_c 0 0 0 rfl) rfl, fun hq9 => absurd rfl hq9, fun hq9 => absurd rfl hq9, fun hq9 => absurd rfl hq9, fun hq9 => absurd rfl hq9, (hO.symm.trans (by try simp only [show (0 : Int32).toInt = (0 : Int) from rfl]; rw [lf_ua Ef56]; exact hq))⟩ (hP.sub [2, 3, 4, 5, 0, 1] rfl) (hD.sub [2, 3, 4, 5, 0, 1] rfl rfl) (Nat.le_of_ble_eq_true rfl) (Nat.le_of_ble_eq_true rfl) dX10_on_29
set_option maxHeartbeats 4000000 in
set_option maxRecDepth 100000 in
theorem s_X10_qWordOf (l : Launch) (dC : Nat → ClassId) (dI : Nat → Nat → Nat) (cy : Nat → ClassId) (sq : Nat → Nat) (a_this : Nat) (rm : Nat → Nat) (x_taped : Int32) (x_at : Int32) (x_end : Int32) (x_ended : Int32) (x_bad : Int32) (x_badPlace : Int32) (x_fault : Int32) (x_faultPlace : Int32) (x_namePlace : Int32) (x_awayTold : Int32) (x_away : Int32) (x_coded : Int32) (x_statements : Int32) (x_isCrossing : Int32) (x_textKind : Int32) (x_askSecond : Int32) (x_redMany : Int32) (x_isOpen : Int32) (x_lastGreen : Int32) (x_greenTo : Int32) (x_isCycleGreen : Int32) (x_stillGreen : Int32) (x_rowMany : Int32) (x_fitMany : Int32) (x_fitRules : Int32) (x_fitGreen : Int32) (x_undoable : Int32) (x_newest : Int32) (x_seeded : Int64) (x_qCoded : Int32) (x_qWaits : Int32) (x_qOpened : Int32) (x_qBase : Int32) (x_qPiled : Int32) (x_qAnswer : Int64) (x_qIsNew : Int32) (x_octets : Int32) (g_tape : Nat → Int32) (g_secondAsked : Nat → Int32) (g_dayAsked : Nat → Int32) (g_phaseAsked : Nat → Int32) (g_waitedAsked : Nat → Int32) (g_calmAsked : Nat → Int32) (g_paceAsked : Nat → Int32) (g_trustsAsked : Nat → Int32) (g_gapAsked : Nat → Int32) (g_redsAsked : Nat → Int32) (g_numberAsked : Nat → Int32) (g_wentAsked : Nat → Int32) (g_harmAsked : Nat → Int32) (g_kindofAsked : Nat → Int32) (p0 : Int32) (p1 : Int32) (hx_at : ib x_at 0 1600) (hx_end : ib x_end 0 1600) (hg_tape : ia g_tape 1600 0 255) : k_Met l yX10_qWordOf cX10_qWordOf 4 (some .int) { frames := 3, cells := 0, slots := 0, locals := 63 } dC dI cy sq [.ref a_this, .int p0, .int p1] [(a_this, .inr (10, mfs rm x_taped x_at x_end x_ended x_bad x_badPlace x_fault x_faultPlace x_namePlace x_awayTold x_away x_coded x_statements x_isCrossing x_textKind x_askSecond x_redMany x_isOpen x_lastGreen x_greenTo x_isCycleGreen x_stillGreen x_rowMany x_fitMany x_fitRules x_fitGreen x_undoable x_newest x_seeded x_qCoded x_qWaits x_qOpened x_qBase x_qPiled x_qAnswer x_qIsNew x_octets)), (wi_rm0_0_1600_0 rm cy g_tape), (wi_rm97_2_6_0 rm cy g_secondAsked), (wi_rm98_2_3_0 rm cy g_dayAsked), (wi_rm99_2_5_0 rm cy g_phaseAsked), (wi_rm100_2_6_0 rm cy g_waitedAsked), (wi_rm101_2_4_0 rm cy g_calmAsked), (wi_rm102_2_4_0 rm cy g_paceAsked), (wi_rm103_2_6_0 rm cy g_trustsAsked), (wi_rm104_2_3_0 rm cy g_gapAsked), (wi_rm105_2_4_0 rm cy g_redsAsked), (wi_rm106_2_6_0 rm cy g_numberAsked), (wi_rm107_2_4_0 rm cy g_wentAsked), (wi_rm108_2_4_0 rm cy g_harmAsked), (wi_rm109_2_4_0 rm cy g_kindofAsked)] (k_Qi dC dI (fun (r : Int32) (n0 : Int32) => ib n0 0 1600 ∧ ib r (-1) 12 ∧ (1 * x_at.toInt + (-1) * n0.toInt ≤ 0) ∧ (¬ r = (-1) → ¬ x_textKind = 1 → ¬ r = 7) ∧ (NB g_tape x_at x_end → n0 = x_at) ∧ (¬ r = (-1) → ib r (-1) 12) ∧ (F_X10_qWordOf (Int32.toInt x_at) (Int32.toInt x_end) (Int32.toInt x_ended) (Int32.toInt x_bad) (Int32.toInt x_textKind) (lf_A g_tape) (lf_A g_secondAsked) (lf_A g_dayAsked) (lf_A g_phaseAsked) (lf_A g_waitedAsked) (lf_A g_calmAsked) (lf_A g_paceAsked) (lf_A g_trustsAsked) (lf_A g_gapAsked) (lf_A g_redsAsked) (lf_A g_numberAsked) (lf_A g_wentAsked) (lf_A g_harmAsked) (lf_A g_kindofAsked) (Int32.toInt p0) (Int32.toInt p1) = ((Int32.toInt r), (Int32.toInt n0)))) (fun n0 : Int32 => [(a_this, .inr (10, mfs rm x_taped n0 x_end x_ended x_bad x_badPlace x_fault x_faultPlace x_namePlace x_awayTold x_away x_coded x_statements x_isCrossing x_textKind x_askSecond x_redMany x_isOpen x_lastGreen x_greenTo x_isCycleGreen x_stillGreen x_rowMany x_fitMany x_fitRules x_fitGreen x_undoable x_newest x_seeded x_qCoded x_qWaits x_qOpened x_qBase x_qPiled x_qAnswer x_qIsNew x_octets)), (wi_rm0_0_1600_0 rm cy g_tape), (wi_rm97_2_6_0 rm cy g_secondAsked), (wi_rm98_2_3_0 rm cy g_dayAsked), (wi_rm99_2_5_0 rm cy g_phaseAsked), (wi_rm100_2_6_0 rm cy g_waitedAsked), (wi_rm101_2_4_0 rm cy g_calmAsked), (wi_rm102_2_4_0 rm cy g_paceAsked), (wi_rm103_2_6_0 rm cy g_trustsAsked), (wi_rm104_2_3_0 rm cy g_gapAsked), (wi_rm105_2_4_0 rm cy g_redsAsked), (wi_rm106_2_6_0 rm cy g_numberAsked), (wi_rm107_2_4_0 rm cy g_wentAsked), (wi_rm108_2_4_0 rm cy g_harmAsked), (wi_rm109_2_4_0 rm cy g_kindofAsked)])) := by
  refine k_ofW2 (by decide +kernel) (Nat.le_of_ble_eq_true rfl) ?_
  intro p e s m below meth c A ls H locs args Q hQ C0 hZ hr hlk hin hP hD hA hS hl
  have C0 : k_cx p s m args c cX10_qWordOf 4 RX10 dC dI cy sq := C0
  have hx := C0.1
  have hb := C0.2.1
  have hl : lv_has ls 4 [(0, .ref a_this), (1, .int p0), (2, .int p1)] := hl
  obtain ⟨O, hO⟩ : ∃ o, o = F_X10_qWordOf (Int32.toInt x_at) (Int32.toInt x_end) (Int32.toInt x_ended) (Int32.toInt x_bad) (Int32.toInt x_textKind) (lf_A g_tape) (lf_A g_secondAsked) (lf_A g_dayAsked) (lf_A g_phaseAsked) (lf_A g_waitedAsked) (lf_A g_calmAsked) (lf_A g_paceAsked) (lf_A g_trustsAsked) (lf_A g_gapAsked) (lf_A g_redsAsked) (lf_A g_numberAsked) (lf_A g_wentAsked) (lf_A g_harmAsked) (lf_A g_kindofAsked) (Int32.toInt p0) (Int32.toInt p1) := ⟨_, rfl⟩
  have hq := hO
  unfold F_X10_qWordOf at hq
  refine lv_aload_n hx hb dX10_qWordOf_0 rfl (lv_at hl 0 rfl) ?_
  refine k_jim hP hD hS hA [0, 1, 2, 3, 4, 5, 6, 7, 8, 9, 10, 11, 12, 13, 14] [] rfl rfl (by decide +kernel) 0 0 (Nat.le_of_ble_eq_true rfl) (Nat.le_of_ble_eq_true rfl) (fun hPc hDc => k_runV (As := []) (rest := []) C0 hZ hS hA (s_X10_qWordHere l dC dI cy sq a_this rm x_taped x_at x_end x_ended x_bad x_badPlace x_fault x_faultPlace x_namePlace x_awayTold x_away x_coded x_statements x_isCrossing x_textKind x_askSecond x_redMany x_isOpen x_lastGreen x_greenTo x_isCycleGreen x_stillGreen x_rowMany x_fitMany x_fitRules x_fitGreen x_undoable x_newest x_seeded x_qCoded x_qWaits x_qOpened x_qBase x_qPiled x_qAnswer x_qIsNew x_octets g_tape g_secondAsked g_dayAsked g_phaseAsked g_waitedAsked g_calmAsked g_paceAsked g_trustsAsked g_gapAsked g_redsAsked g_numberAsked g_wentAsked g_harmAsked g_kindofAsked (ib_w 0 1600 hx_at rfl) (ib_w 0 1600 hx_end rfl) hg_tape) mV_X10_617 hPc hDc rfl rfl rfl hl rfl rfl (Nat.le_of_ble_eq_true rfl) ⟨(Nat.le_of_ble_eq_true rfl), (Nat.le_of_ble_eq_true rfl)⟩ ⟨(Nat.le_of_ble_eq_true rfl), (Nat.le_of_ble_eq_true rfl)⟩ dX10_qWordOf_1) (fun r1 u2 H locs hw hP hD hS => ?_)
  obtain ⟨v3, ev3⟩ : ∃ z, z = u2 := ⟨_, rfl⟩; subst ev3
  try dsimp only at hP hD hw
  replace hP : va_P (dC, dI) vwCl [(a_this, .inr (10, mfs rm x_taped v3 x_end x_ended x_bad x_badPlace x_fault x_faultPlace x_namePlace x_awayTold x_away x_coded x_statements x_isCrossing x_textKind x_askSecond x_redMany x_isOpen x_lastGreen x_greenTo x_isCycleGreen x_stillGreen x_rowMany x_fitMany x_fitRules x_fitGreen x_undoable x_newest x_seeded x_qCoded x_qWaits x_qOpened x_qBase x_qPiled x_qAnswer x_qIsNew x_octets)), (wi_rm0_0_1600_0 rm cy g_tape), (wi_rm97_2_6_0 rm cy g_secondAsked), (wi_rm98_2_3_0 rm cy g_dayAsked), (wi_rm99_2_5_0 rm cy g_phaseAsked), (wi_rm100_2_6_0 rm cy g_waitedAsked), (wi_rm101_2_4_0 rm cy g_calmAsked), (wi_rm102_2_4_0 rm cy g_paceAsked), (wi_rm103_2_6_0 rm cy g_trustsAsked), (wi_rm104_2_3_0 rm cy g_gapAsked), (wi_rm105_2_4_0 rm cy g_redsAsked), (wi_rm106_2_6_0 rm cy g_numberAsked), (wi_rm107_2_4_0 rm cy g_wentAsked), (wi_rm108_2_4_0 rm cy g_harmAsked), (wi_rm109_2_4_0 rm cy g_kindofAsked)] H := hP
  replace hD := k_D hP hD
  obtain ⟨h4, h5, h6, h7, h8⟩ := hw
  replace hq := lf_p1 hq h8
  refine lv_istore_n (lv' := [(3, .int r1), (0, .ref a_this), (1, .int p0), (2, .int p1)]) hx hb dX10_qWordOf_4 rfl hl (Nat.le_of_ble_eq_true rfl) rfl (fun ls hl => ?_)
  refine lv_iload_n hx hb dX10_qWordOf_5 rfl (lv_at hl 0 rfl) ?_
  refine lv_iload_n hx hb dX10_qWordOf_6 rfl (lv_at hl 2 rfl) ?_
  refine lv_icmp_lt (tgt := 27) hx hb dX10_qWordOf_7 rfl (fun c9 => ?_) (fun c9 => ?_)
  · replace hq := lf_pos hq (lf_lt (lf_rf r1) (lf_rf p0) c9)
    have h10 := ib_lt h5 (ib_any p0) c9
    have h11 : ib p0 0 2147483647 := ib_w 0 2147483647 h10.2 rfl
    refine lv_iconst (v := (-1)) hx hb dX10_qWordOf_27 rfl ?_
    subst hQ; exact k_iret hx hb hr hlk rfl v3 hS ⟨ib_w 0 1600 h4 rfl, ib_w (-1) 12 (ib_c (-1) (-1) (-1) rfl) rfl, (by have := h6; omega), fun q => absurd rfl q, fun q9 => (by have e0n : v3 = x_at := h7 q9; exact e0n), fun q => absurd rfl q, (hO.symm.trans (by try simp only [show ((-1) : Int32).toInt = (-1 : Int) from rfl]; exact hq))⟩ hP hD (Nat.le_of_ble_eq_true rfl) (Nat.le_of_ble_eq_true rfl) dX10_qWordOf_28
  · replace hq := lf_neg hq (lf_nlt (lf_rf r1) (lf_rf p0) c9)
    have h12 := ib_nlt h5 (ib_any p0) c9
    have h13 : ib p0 (-2147483648) 12 := ib_w (-2147483648) 12 h12.2 rfl
    refine lv_iload_n hx hb dX10_qWordOf_10 rfl (lv_at hl 0 rfl) ?_
    refine lv_iload_n hx hb dX10_qWordOf_11 rfl (lv_at hl 3 rfl) ?_
    refine lv_icmp_ge (tgt := 27) hx hb dX10_qWordOf_12 rfl (fun c14 => ?_) (fun c14 => ?_)
    · replace hq := lf_pos hq (lf_le (lf_rf p1) (lf_rf r1) c14)
      have h15 := ib_le (ib_any p1) h5 c14
      have h16 : ib p1 (-2147483648) 12 := ib_w (-2147483648) 12 h15.1 rfl
      refine lv_iconst (v := (-1)) hx hb dX10_qWordOf_27 rfl ?_
      subst hQ; exact k_iret hx hb hr hlk rfl v3 hS ⟨ib_w 0 1600 h4 rfl, ib_w (-1) 12 (ib_c (-1) (-1) (-1) rfl) rfl, (by have := h6; omega), fun q => absurd rfl q, fun q9 => (by have e0n : v3 = x_at := h7 q9; exact e0n), fun q => absurd rfl q, (hO.symm.trans (by try simp only [show ((-1) : Int32).toInt = (-1 : Int) from rfl]; exact hq))⟩ hP hD (Nat.le_of_ble_eq_true rfl) (Nat.le_of_ble_eq_true rfl) dX10_qWordOf_28
    · replace hq := lf_neg hq (lf_nle (lf_rf p1) (lf_rf r1) c14)
      have h17 := ib_nle (ib_any p1) h5 c14
      have h18 : ib p1 0 2147483647 := ib_w 0 2147483647 h17.1 rfl
      refine lv_aload_n hx hb dX10_qWordOf_15 rfl (lv_at hl 1 rfl) ?_
      refine lv_iload_n hx hb dX10_qWordOf_16 rfl (lv_at hl 0 rfl) ?_
      refine k_jim hP hD hS hA [0] [false, true, true, true, true, true, true, true, true, true, true, true, true, true, true] rfl rfl (by decide +kernel) 0 0 (Nat.le_of_ble_eq_true rfl) (Nat.le_of_ble_eq_true rfl) (fun hPc hDc => k_runV (As := [.int r1]) (rest := []) C0 hZ hS hA (s_X10_isAllowed l dC dI cy sq a_this rm x_taped v3 x_end x_ended x_bad x_badPlace x_fault x_faultPlace x_namePlace x_awayTold x_away x_coded x_statements x_isCrossing x_textKind x_askSecond x_redMany x_isOpen x_lastGreen x_greenTo x_isCycleGreen x_stillGreen x_rowMany x_fitMany x_fitRules x_fitGreen x_undoable x_newest x_seeded x_qCoded x_qWaits x_qOpened x_qBase x_qPiled x_qAnswer x_qIsNew x_octets r1 ) mV_X10_620 hPc hDc rfl rfl rfl hl rfl rfl (Nat.le_of_ble_eq_true rfl) ⟨(Nat.le_of_ble_eq_true rfl), (Nat.le_of_ble_eq_true rfl)⟩ ⟨(Nat.le_of_ble_eq_true rfl), (Nat.le_of_ble_eq_true rfl)⟩ dX10_qWordOf_17) (fun r19 u20 H locs hw hP hD hS => ?_)
      try dsimp only at hP hD hw
      replace hP : va_P (dC, dI) vwCl [(wi_rm0_0_1600_0 rm cy g_tape), (wi_rm97_2_6_0 rm cy g_secondAsked), (wi_rm98_2_3_0 rm cy g_dayAsked), (wi_rm99_2_5_0 rm cy g_phaseAsked), (wi_rm100_2_6_0 rm cy g_waitedAsked), (wi_rm101_2_4_0 rm cy g_calmAsked), (wi_rm102_2_4_0 rm cy g_paceAsked), (wi_rm103_2_6_0 rm cy g_trustsAsked), (wi_rm104_2_3_0 rm cy g_gapAsked), (wi_rm105_2_4_0 rm cy g_redsAsked), (wi_rm106_2_6_0 rm cy g_numberAsked), (wi_rm107_2_4_0 rm cy g_wentAsked), (wi_rm108_2_4_0 rm cy g_harmAsked), (wi_rm109_2_4_0 rm cy g_kindofAsked), (a_this, .inr (10, mfs rm x_taped v3 x_end x_ended x_bad x_badPlace x_fault x_faultPlace x_namePlace x_awayTold x_away x_coded x_statements x_isCrossing x_textKind x_askSecond x_redMany x_isOpen x_lastGreen x_greenTo x_isCycleGreen x_stillGreen x_rowMany x_fitMany x_fitRules x_fitGreen x_undoable x_newest x_seeded x_qCoded x_qWaits x_qOpened x_qBase x_qPiled x_qAnswer x_qIsNew x_octets))] H := hP
      replace hD := k_D hP hD
      obtain ⟨h21, h22, h23⟩ := hw
      replace hq := lf_b1 hq h23
      refine lv_if_eq (tgt := 27) hx hb dX10_qWordOf_20 rfl (fun c24 => ?_) (fun c24 => ?_)
      · replace hq := lf_pos hq (lf_eq (lf_rf r19) (lf_lc 0 (0 : Int) rfl) c24)
        have h25 := ib_eq h21 (ib_c 0 0 0 rfl) c24
        have h26 : ib r19 0 0 := ib_w 0 0 h25.1 rfl
        refine lv_iconst (v := (-1)) hx hb dX10_qWordOf_27 rfl ?_
        subst hQ; exact k_iret hx hb hr hlk rfl v3 hS ⟨ib_w 0 1600 h4 rfl, ib_w (-1) 12 (ib_c (-1) (-1) (-1) rfl) rfl, (by have := h6; omega), fun q => absurd rfl q, fun q9 => (by have e0n : v3 = x_at := h7 q9; exact e0n), fun q => absurd rfl q, (hO.symm.trans (by try simp only [show ((-1) : Int32).toInt = (-1 : Int) from rfl]; exact hq))⟩ (hP.sub [14, 0, 1, 2, 3, 4, 5, 6, 7, 8, 9, 10, 11, 12, 13] rfl) (hD.sub [14, 0, 1, 2, 3, 4, 5, 6, 7, 8, 9, 10, 11, 12, 13] (by decide +kernel) rfl) (Nat.le_of_ble_eq_true rfl) (Nat.le_of_ble_eq_true rfl) dX10_qWordOf_28
      · replace hq := lf_neg hq (lf_ne (lf_rf r19) (lf_lc 0 (0 : Int) rfl) c24)
        have h27 : ib r19 1 1 := ib_w 1 1 (ib_ne_lo 0 h21 rfl c24) rfl
        refine lv_iload_n hx hb dX10_qWordOf_23 rfl (lv_at hl 0 rfl) ?_
        refine lv_goto (tgt := 28) hx hb dX10_qWordOf_24 rfl ?_
        subst hQ; exact k_iret hx hb hr hlk rfl v3 hS ⟨ib_w 0 1600 h4 rfl, ib_w (-1) 12 h5 rfl, (by have := h6; omega), fun _ q => h22 c24 q, fun q9 => (by have e0n : v3 = x_at := h7 q9; exact e0n), fun _ => ib_w (-1) 12 h5 rfl, (hO.symm.trans (by exact hq))⟩ (hP.sub [14, 0, 1, 2, 3, 4, 5, 6, 7, 8, 9, 10, 11, 12, 13] rfl) (hD.sub [14, 0, 1, 2, 3, 4, 5, 6, 7, 8, 9, 10, 11, 12, 13] (by decide +kernel) rfl) (Nat.le_of_ble_eq_true rfl) (Nat.le_of_ble_eq_true rfl) dX10_qWordOf_28
set_option maxHeartbeats 4000000 in
set_option maxRecDepth 100000 in
theorem s_X10_refuses (l : Launch) (dC : Nat → ClassId) (dI : Nat → Nat → Nat) (cy : Nat → ClassId) (sq : Nat → Nat) (a_this : Nat) (rm : Nat → Nat) (x_taped : Int32) (x_at : Int32) (x_end : Int32) (x_ended : Int32) (x_bad : Int32) (x_badPlace : Int32) (x_fault : Int32) (x_faultPlace : Int32) (x_namePlace : Int32) (x_awayTold : Int32) (x_away : Int32) (x_coded : Int32) (x_statements : Int32) (x_isCrossing : Int32) (x_textKind : Int32) (x_askSecond : Int32) (x_redMany : Int32) (x_isOpen : Int32) (x_lastGreen : Int32) (x_greenTo : Int32) (x_isCycleGreen : Int32) (x_stillGreen : Int32) (x_rowMany : Int32) (x_fitMany : Int32) (x_fitRules : Int32) (x_fitGreen : Int32) (x_undoable : Int32) (x_newest : Int32) (x_seeded : Int64) (x_qCoded : Int32) (x_qWaits : Int32) (x_qOpened : Int32) (x_qBase : Int32) (x_qPiled : Int32) (x_qAnswer : Int64) (x_qIsNew : Int32) (x_octets : Int32) (g_refused : Nat → Int32) (p0 : Int32) (hp0 : ib p0 0 5) : k_Met l yX10_refuses cX10_refuses 2 (some .int) { frames := 0, cells := 0, slots := 0, locals := 0 } dC dI cy sq [.ref a_this, .int p0] [(a_this, .inr (10, mfs rm x_taped x_at x_end x_ended x_bad x_badPlace x_fault x_faultPlace x_namePlace x_awayTold x_away x_coded x_statements x_isCrossing x_textKind x_askSecond x_redMany x_isOpen x_lastGreen x_greenTo x_isCycleGreen x_stillGreen x_rowMany x_fitMany x_fitRules x_fitGreen x_undoable x_newest x_seeded x_qCoded x_qWaits x_qOpened x_qBase x_qPiled x_qAnswer x_qIsNew x_octets)), (wi_rm9_0_6_0 rm cy g_refused)] (k_Qi dC dI (fun (r : Int32) (n0 : (Nat → Int32)) => ib r (-1) (-1) ∧ (F_X10_refuses (lf_A g_refused) (Int32.toInt p0) = ((Int32.toInt r), (lf_A n0)))) (fun n0 : (Nat → Int32) => [(a_this, .inr (10, mfs rm x_taped x_at x_end x_ended x_bad x_badPlace x_fault x_faultPlace x_namePlace x_awayTold x_away x_coded x_statements x_isCrossing x_textKind x_askSecond x_redMany x_isOpen x_lastGreen x_greenTo x_isCycleGreen x_stillGreen x_rowMany x_fitMany x_fitRules x_fitGreen x_undoable x_newest x_seeded x_qCoded x_qWaits x_qOpened x_qBase x_qPiled x_qAnswer x_qIsNew x_octets)), (wi_rm9_0_6_0 rm cy n0)])) := by
  refine k_ofW2 (by decide +kernel) (Nat.le_of_ble_eq_true rfl) ?_
  intro p e s m below meth c A ls H locs args Q hQ C0 hZ hr hlk hin hP hD hA hS hl
  have C0 : k_cx p s m args c cX10_refuses 2 RX10 dC dI cy sq := C0
  have hx := C0.1
  have hb := C0.2.1
  have hl : lv_has ls 2 [(0, .ref a_this), (1, .int p0)] := hl
  obtain ⟨O, hO⟩ : ∃ o, o = F_X10_refuses (lf_A g_refused) (Int32.toInt p0) := ⟨_, rfl⟩
  have hq := hO
  unfold F_X10_refuses at hq
  refine lv_aload_n hx hb dX10_refuses_0 rfl (lv_at hl 0 rfl) ?_
  refine k_get C0 fg_X10_17 hP 0 rfl rfl dX10_refuses_1 ?_
  refine lv_iload_n hx hb dX10_refuses_4 rfl (lv_at hl 1 rfl) ?_
  refine lv_dup2_11 hx hb dX10_refuses_5 rfl rfl ?_
  refine va_iald hx hb C0.2.2.2.2.2.1 hP 1 0 rfl rfl (ib_in 6 hp0 rfl) dX10_refuses_6 ?_
  refine lv_topi (fun z1 ez1 => ?_)
  have Ez1 := lf_ld ez1 (lf_ra g_refused) (lf_rf p0)
  refine lv_iconst (v := 1) hx hb dX10_refuses_7 rfl ?_
  refine lv_iadd hx hb dX10_refuses_8 ?_
  refine lv_topi (fun z2 ez2 => ?_)
  have Ez2 := lf_op lf_iadd ez2 Ez1 (lf_lc 1 (1 : Int) rfl)
  refine va_iast hx hb C0.2.2.2.2.2.1 hP hD hS 1 0 rfl rfl (ib_in 6 hp0 rfl) dX10_refuses_9 (fun H locs hP hD hS => ?_)
  replace hP : va_P (dC, dI) vwCl [(a_this, .inr (10, mfs rm x_taped x_at x_end x_ended x_bad x_badPlace x_fault x_faultPlace x_namePlace x_awayTold x_away x_coded x_statements x_isCrossing x_textKind x_askSecond x_redMany x_isOpen x_lastGreen x_greenTo x_isCycleGreen x_stillGreen x_rowMany x_fitMany x_fitRules x_fitGreen x_undoable x_newest x_seeded x_qCoded x_qWaits x_qOpened x_qBase x_qPiled x_qAnswer x_qIsNew x_octets)), (wi_rm9_0_6_0 rm cy (upd g_refused (Int32.toNatClampNeg p0) z2))] H := hP
  replace hD := k_D hP hD
  generalize ef3 : upd g_refused (Int32.toNatClampNeg p0) z2 = f3 at hP hD
  have Ef3 := lf_st ef3 (lf_ra g_refused) (lf_rf p0) Ez2
  refine lv_iconst (v := (-1)) hx hb dX10_refuses_10 rfl ?_
  subst hQ; exact k_iret hx hb hr hlk rfl f3 hS ⟨ib_w (-1) (-1) (ib_c (-1) (-1) (-1) rfl) rfl, (hO.symm.trans (by try simp only [show ((-1) : Int32).toInt = (-1 : Int) from rfl]; rw [lf_ua Ef3]; exact hq))⟩ hP hD (Nat.le_of_ble_eq_true rfl) (Nat.le_of_ble_eq_true rfl) dX10_refuses_11
set_option maxHeartbeats 4000000 in
set_option maxRecDepth 100000 in
theorem s_X10_rule (l : Launch) (dC : Nat → ClassId) (dI : Nat → Nat → Nat) (cy : Nat → ClassId) (sq : Nat → Nat) (a_this : Nat) (rm : Nat → Nat) (x_taped : Int32) (x_at : Int32) (x_end : Int32) (x_ended : Int32) (x_bad : Int32) (x_badPlace : Int32) (x_fault : Int32) (x_faultPlace : Int32) (x_namePlace : Int32) (x_awayTold : Int32) (x_away : Int32) (x_coded : Int32) (x_statements : Int32) (x_isCrossing : Int32) (x_textKind : Int32) (x_askSecond : Int32) (x_redMany : Int32) (x_isOpen : Int32) (x_lastGreen : Int32) (x_greenTo : Int32) (x_isCycleGreen : Int32) (x_stillGreen : Int32) (x_rowMany : Int32) (x_fitMany : Int32) (x_fitRules : Int32) (x_fitGreen : Int32) (x_undoable : Int32) (x_newest : Int32) (x_seeded : Int64) (x_qCoded : Int32) (x_qWaits : Int32) (x_qOpened : Int32) (x_qBase : Int32) (x_qPiled : Int32) (x_qAnswer : Int64) (x_qIsNew : Int32) (x_octets : Int32) (g_refused : Nat → Int32) (g_now : Nat → Int32) (g_kept0 : Nat → Int32) (p0 : Int32) (hx_isCrossing : ib x_isCrossing 0 1) (hx_undoable : ib x_undoable 0 20) (hx_newest : ib x_newest 0 19) : k_Met l yX10_rule cX10_rule 2 (some .boolean) { frames := 1, cells := 0, slots := 0, locals := 25 } dC dI cy sq [.ref a_this, .int p0] [(a_this, .inr (10, mfs rm x_taped x_at x_end x_ended x_bad x_badPlace x_fault x_faultPlace x_namePlace x_awayTold x_away x_coded x_statements x_isCrossing x_textKind x_askSecond x_redMany x_isOpen x_lastGreen x_greenTo x_isCycleGreen x_stillGreen x_rowMany x_fitMany x_fitRules x_fitGreen x_undoable x_newest x_seeded x_qCoded x_qWaits x_qOpened x_qBase x_qPiled x_qAnswer x_qIsNew x_octets)), (wi_rm56_0_9_0 rm cy g_now), (wi_rm81_0_180_0 rm cy g_kept0), (wi_rm9_0_6_0 rm cy g_refused)] (k_Qi dC dI (fun (r : Int32) (u : Int32 × Int32 × (Nat → Int32) × (Nat → Int32) × (Nat → Int32)) => match u with | (n0, n1, n2, n3, n4) => ib n0 0 20 ∧ ib n1 0 19 ∧ ib r 0 1 ∧ (¬ r = 0 → ib n0 1 20) ∧ (¬ r = 0 → ib x_isCrossing 1 1) ∧ (¬ r = 0 → ib p0 0 2) ∧ (F_X10_rule (Int32.toInt x_isCrossing) (Int32.toInt x_undoable) (Int32.toInt x_newest) (lf_A g_refused) (lf_A g_now) (lf_A g_kept0) (Int32.toInt p0) = ((Int32.toInt r), (Int32.toInt n0), (Int32.toInt n1), (lf_A n2), (lf_A n3), (lf_A n4)))) (fun u : Int32 × Int32 × (Nat → Int32) × (Nat → Int32) × (Nat → Int32) => match u with | (n0, n1, n2, n3, n4) => [(a_this, .inr (10, mfs rm x_taped x_at x_end x_ended x_bad x_badPlace x_fault x_faultPlace x_namePlace x_awayTold x_away x_coded x_statements x_isCrossing x_textKind x_askSecond x_redMany x_isOpen x_lastGreen x_greenTo x_isCycleGreen x_stillGreen x_rowMany x_fitMany x_fitRules x_fitGreen n0 n1 x_seeded x_qCoded x_qWaits x_qOpened x_qBase x_qPiled x_qAnswer x_qIsNew x_octets)), (wi_rm56_0_9_0 rm cy n2), (wi_rm81_0_180_0 rm cy n3), (wi_rm9_0_6_0 rm cy n4)])) := by
  refine k_ofW2 (by decide +kernel) (Nat.le_of_ble_eq_true rfl) ?_
  intro p e s m below meth c A ls H locs args Q hQ C0 hZ hr hlk hin hP hD hA hS hl
  have C0 : k_cx p s m args c cX10_rule 2 RX10 dC dI cy sq := C0
  have hx := C0.1
  have hb := C0.2.1
  have hl : lv_has ls 2 [(0, .ref a_this), (1, .int p0)] := hl
  obtain ⟨O, hO⟩ : ∃ o, o = F_X10_rule (Int32.toInt x_isCrossing) (Int32.toInt x_undoable) (Int32.toInt x_newest) (lf_A g_refused) (lf_A g_now) (lf_A g_kept0) (Int32.toInt p0) := ⟨_, rfl⟩
  have hq := hO
  unfold F_X10_rule at hq
  have jn29 : ∀  (H : Heap) (locs : List Loc) (ls : Array Slot), (O = F_X10_rule_29 (Int32.toInt x_undoable) (Int32.toInt x_newest) (lf_A g_refused) (lf_A g_now) (lf_A g_kept0) ) → va_P (dC, dI) vwCl [(a_this, .inr (10, mfs rm x_taped x_at x_end x_ended x_bad x_badPlace x_fault x_faultPlace x_namePlace x_awayTold x_away x_coded x_statements x_isCrossing x_textKind x_askSecond x_redMany x_isOpen x_lastGreen x_greenTo x_isCycleGreen x_stillGreen x_rowMany x_fitMany x_fitRules x_fitGreen x_undoable x_newest x_seeded x_qCoded x_qWaits x_qOpened x_qBase x_qPiled x_qAnswer x_qIsNew x_octets)), (wi_rm56_0_9_0 rm cy g_now), (wi_rm81_0_180_0 rm cy g_kept0), (wi_rm9_0_6_0 rm cy g_refused)] H → va_D A [(a_this, .inr (10, mfs rm x_taped x_at x_end x_ended x_bad x_badPlace x_fault x_faultPlace x_namePlace x_awayTold x_away x_coded x_statements x_isCrossing x_textKind x_askSecond x_redMany x_isOpen x_lastGreen x_greenTo x_isCycleGreen x_stillGreen x_rowMany x_fitMany x_fitRules x_fitGreen x_undoable x_newest x_seeded x_qCoded x_qWaits x_qOpened x_qBase x_qPiled x_qAnswer x_qIsNew x_octets)), (wi_rm56_0_9_0 rm cy g_now), (wi_rm81_0_180_0 rm cy g_kept0), (wi_rm9_0_6_0 rm cy g_refused)] → va_S A s.heap H locs → lv_has ls 2 [(0, .ref a_this), (1, .int p0)] → W p l e { frames := 1, cells := 0, slots := 0, locals := 25 } s m args below meth c H locs 0 0 Q (F0 m 29 ls []) := by
    intro H locs ls hq hP hD hS hl
    unfold F_X10_rule_29 at hq
    refine lv_aload_n hx hb dX10_rule_29 rfl (lv_at hl 0 rfl) ?_
    refine k_jim hP hD hS hA [0, 3] [false, true, true] rfl rfl rfl 0 0 (Nat.le_of_ble_eq_true rfl) (Nat.le_of_ble_eq_true rfl) (fun hPc hDc => k_runV (As := []) (rest := []) C0 hZ hS hA (s_X10_isRefused l dC dI cy sq a_this rm x_taped x_at x_end x_ended x_bad x_badPlace x_fault x_faultPlace x_namePlace x_awayTold x_away x_coded x_statements x_isCrossing x_textKind x_askSecond x_redMany x_isOpen x_lastGreen x_greenTo x_isCycleGreen x_stillGreen x_rowMany x_fitMany x_fitRules x_fitGreen x_undoable x_newest x_seeded x_qCoded x_qWaits x_qOpened x_qBase x_qPiled x_qAnswer x_qIsNew x_octets g_refused ) mV_X10_591 hPc hDc rfl rfl rfl hl rfl rfl (Nat.le_of_ble_eq_true rfl) ⟨(Nat.le_of_ble_eq_true rfl), (Nat.le_of_ble_eq_true rfl)⟩ ⟨(Nat.le_of_ble_eq_true rfl), (Nat.le_of_ble_eq_true rfl)⟩ dX10_rule_30) (fun r1 u2 H locs hw hP hD hS => ?_)
    obtain ⟨f3, ef3⟩ : ∃ z, z = u2 := ⟨_, rfl⟩; subst ef3
    try dsimp only at hP hD hw
    replace hP : va_P (dC, dI) vwCl [(wi_rm56_0_9_0 rm cy g_now), (wi_rm81_0_180_0 rm cy g_kept0), (a_this, .inr (10, mfs rm x_taped x_at x_end x_ended x_bad x_badPlace x_fault x_faultPlace x_namePlace x_awayTold x_away x_coded x_statements x_isCrossing x_textKind x_askSecond x_redMany x_isOpen x_lastGreen x_greenTo x_isCycleGreen x_stillGreen x_rowMany x_fitMany x_fitRules x_fitGreen x_undoable x_newest x_seeded x_qCoded x_qWaits x_qOpened x_qBase x_qPiled x_qAnswer x_qIsNew x_octets)), (wi_rm9_0_6_0 rm cy f3)] H := hP
    replace hD := k_D hP hD
    obtain ⟨h4, h5⟩ := hw
    replace hq := lf_p1 hq h5
    subst hQ; exact k_iret hx hb hr hlk (ib_bool (ib_w 0 1 h4 rfl)) ((x_undoable, x_newest, g_now, g_kept0, f3)) hS ⟨ib_w 0 20 hx_undoable rfl, ib_w 0 19 hx_newest rfl, ib_w 0 1 h4 rfl, fun hq9 => absurd (ib_one h4 rfl) hq9, fun hq9 => absurd (ib_one h4 rfl) hq9, fun hq9 => absurd (ib_one h4 rfl) hq9, (hO.symm.trans (by exact hq))⟩ (hP.sub [2, 0, 1, 3] rfl) (hD.sub [2, 0, 1, 3] rfl rfl) (Nat.le_of_ble_eq_true rfl) (Nat.le_of_ble_eq_true rfl) dX10_rule_33
  refine lv_aload_n hx hb dX10_rule_0 rfl (lv_at hl 0 rfl) ?_
  refine k_get C0 fg_X10_417 hP 0 rfl rfl dX10_rule_1 ?_
  refine lv_if_eq (tgt := 29) hx hb dX10_rule_4 rfl (fun c6 => ?_) (fun c6 => ?_)
  · replace hq := lf_pos hq (lf_eq (lf_rf x_isCrossing) (lf_lc 0 (0 : Int) rfl) c6)
    have h7 := ib_eq hx_isCrossing (ib_c 0 0 0 rfl) c6
    have h8 : ib x_isCrossing 0 0 := ib_w 0 0 h7.1 rfl
    exact jn29  H locs ls (by exact hq) hP hD hS (lv_sub hl [0, 1] rfl)
  · as_aux_lemma =>
      replace hq := lf_neg hq (lf_ne (lf_rf x_isCrossing) (lf_lc 0 (0 : Int) rfl) c6)
      have h9 : ib x_isCrossing 1 1 := ib_w 1 1 (ib_ne_lo 0 hx_isCrossing rfl c6) rfl
      refine lv_iload_n hx hb dX10_rule_7 rfl (lv_at hl 1 rfl) ?_
      refine lv_i2l (v := p0.toInt64) hx hb dX10_rule_8 rfl ?_
      refine lv_lconst (v := 0) hx hb dX10_rule_9 (by decide) ?_
      refine lv_ldc2 hx hb C0.2.2.2.1 (C0.2.2.2.2.1 _ wd1089) dX10_rule_10 ?_
      refine k_jim hP hD hS hA [] [true, true, true, true] rfl rfl rfl 0 0 (Nat.le_of_ble_eq_true rfl) (Nat.le_of_ble_eq_true rfl) (fun hPc hDc => k_runS (As := [.long p0.toInt64, .long 0, .long 2]) (rest := []) C0 hZ hS hA (c_isIn l dC dI cy sq p0.toInt64 0 2) mS_X10_318 hPc hDc hl rfl rfl (Nat.le_of_ble_eq_true rfl) ⟨(Nat.le_of_ble_eq_true rfl), (Nat.le_of_ble_eq_true rfl)⟩ ⟨(Nat.le_of_ble_eq_true rfl), (Nat.le_of_ble_eq_true rfl)⟩ dX10_rule_13) (fun r10 u11 H locs hw hP hD hS => ?_)
      replace hP : va_P (dC, dI) vwCl [(a_this, .inr (10, mfs rm x_taped x_at x_end x_ended x_bad x_badPlace x_fault x_faultPlace x_namePlace x_awayTold x_away x_coded x_statements x_isCrossing x_textKind x_askSecond x_redMany x_isOpen x_lastGreen x_greenTo x_isCycleGreen x_stillGreen x_rowMany x_fitMany x_fitRules x_fitGreen x_undoable x_newest x_seeded x_qCoded x_qWaits x_qOpened x_qBase x_qPiled x_qAnswer x_qIsNew x_octets)), (wi_rm56_0_9_0 rm cy g_now), (wi_rm81_0_180_0 rm cy g_kept0), (wi_rm9_0_6_0 rm cy g_refused)] H := hP
      replace hD := k_D hP hD
      have h12 := hw
      have h13 : ib r10 0 1 := by rw [h12]; exact k_isf_01 _ _ _
      have Er10 := lf_isine h12 (lf_i2l (lf_rf p0)) (lf_ll 0 (0 : Int) rfl) (lf_ll 2 (2 : Int) rfl)
      refine lv_if_eq (tgt := 29) hx hb dX10_rule_16 rfl (fun c14 => ?_) (fun c14 => ?_)
      · replace hq := lf_pos hq (lf_eq Er10 (lf_lc 0 (0 : Int) rfl) c14)
        have h15 := ib_eq h13 (ib_c 0 0 0 rfl) c14
        have h16 : ib r10 0 0 := ib_w 0 0 h15.1 rfl
        exact jn29  H locs ls (by exact hq) hP hD hS (lv_sub hl [0, 1] rfl)
      · as_aux_lemma =>
          replace hq := lf_neg hq (lf_ne Er10 (lf_lc 0 (0 : Int) rfl) c14)
          have h17 : ib r10 1 1 := ib_w 1 1 (ib_ne_lo 0 h13 rfl c14) rfl
          have h18 : ib p0 0 2 := ib_w 0 2 (ib_two (ib_any p0) (k_isf_v h12 (show 0 ≤ (0 : Int64).toInt by decide) (show (2 : Int64).toInt ≤ 2 by decide) (ib_nz h17 rfl))) rfl
          refine lv_aload_n hx hb dX10_rule_19 rfl (lv_at hl 0 rfl) ?_
          refine k_get C0 fg_X10_139 hP 0 rfl rfl dX10_rule_20 ?_
          refine lv_iconst (v := 1) hx hb dX10_rule_23 rfl ?_
          refine va_iald hx hb C0.2.2.2.2.2.1 hP 1 0 rfl rfl (k_in 1 9 rfl) dX10_rule_24 ?_
          refine lv_topi (fun z19 ez19 => ?_)
          have Ez19 := lf_ld ez19 (lf_ra g_now) (lf_lc 1 (1 : Int) rfl)
          refine lv_iload_n hx hb dX10_rule_25 rfl (lv_at hl 1 rfl) ?_
          refine lv_icmp_ne (tgt := 34) hx hb dX10_rule_26 rfl (fun c20 => ?_) (fun c20 => ?_)
          · as_aux_lemma =>
              replace hq := lf_neg hq (lf_ne Ez19 (lf_rf p0) c20)
              refine lv_aload_n hx hb dX10_rule_34 rfl (lv_at hl 0 rfl) ?_
              refine k_jvm hP hD hS hA [0, 1, 2] [false, false, false, true] rfl rfl rfl 0 0 (Nat.le_of_ble_eq_true rfl) (Nat.le_of_ble_eq_true rfl) (fun hPc hDc => k_runV (As := []) (rest := []) C0 hZ hS hA (s_X10_keeps l dC dI cy sq a_this rm x_taped x_at x_end x_ended x_bad x_badPlace x_fault x_faultPlace x_namePlace x_awayTold x_away x_coded x_statements x_isCrossing x_textKind x_askSecond x_redMany x_isOpen x_lastGreen x_greenTo x_isCycleGreen x_stillGreen x_rowMany x_fitMany x_fitRules x_fitGreen x_undoable x_newest x_seeded x_qCoded x_qWaits x_qOpened x_qBase x_qPiled x_qAnswer x_qIsNew x_octets g_now g_kept0 (ib_w 0 20 hx_undoable rfl) (ib_w 0 19 hx_newest rfl)) mV_X10_594 hPc hDc rfl rfl rfl hl rfl rfl (Nat.le_of_ble_eq_true rfl) ⟨(Nat.le_of_ble_eq_true rfl), (Nat.le_of_ble_eq_true rfl)⟩ ⟨(Nat.le_of_ble_eq_true rfl), (Nat.le_of_ble_eq_true rfl)⟩ dX10_rule_35) (fun u22 H locs hw hP hD hS => ?_)
              obtain ⟨v23, v24, f25⟩ := u22
              try dsimp only at hP hD hw
              replace hP : va_P (dC, dI) vwCl [(wi_rm9_0_6_0 rm cy g_refused), (a_this, .inr (10, mfs rm x_taped x_at x_end x_ended x_bad x_badPlace x_fault x_faultPlace x_namePlace x_awayTold x_away x_coded x_statements x_isCrossing x_textKind x_askSecond x_redMany x_isOpen x_lastGreen x_greenTo x_isCycleGreen x_stillGreen x_rowMany x_fitMany x_fitRules x_fitGreen v23 v24 x_seeded x_qCoded x_qWaits x_qOpened x_qBase x_qPiled x_qAnswer x_qIsNew x_octets)), (wi_rm56_0_9_0 rm cy g_now), (wi_rm81_0_180_0 rm cy f25)] H := hP
              replace hD := k_D hP hD
              obtain ⟨h26, h27, h28⟩ := hw
              replace hq := lf_p1 hq h28
              replace hq := lf_p1 hq rfl
              refine lv_aload_n hx hb dX10_rule_38 rfl (lv_at hl 0 rfl) ?_
              refine k_get C0 fg_X10_139 hP 1 rfl rfl dX10_rule_39 ?_
              refine lv_iconst (v := 1) hx hb dX10_rule_42 rfl ?_
              refine lv_iload_n hx hb dX10_rule_43 rfl (lv_at hl 1 rfl) ?_
              refine va_iast hx hb C0.2.2.2.2.2.1 hP hD hS 2 0 rfl rfl (k_in 1 9 rfl) dX10_rule_44 (fun H locs hP hD hS => ?_)
              replace hP : va_P (dC, dI) vwCl [(wi_rm9_0_6_0 rm cy g_refused), (a_this, .inr (10, mfs rm x_taped x_at x_end x_ended x_bad x_badPlace x_fault x_faultPlace x_namePlace x_awayTold x_away x_coded x_statements x_isCrossing x_textKind x_askSecond x_redMany x_isOpen x_lastGreen x_greenTo x_isCycleGreen x_stillGreen x_rowMany x_fitMany x_fitRules x_fitGreen v23 v24 x_seeded x_qCoded x_qWaits x_qOpened x_qBase x_qPiled x_qAnswer x_qIsNew x_octets)), (wi_rm56_0_9_0 rm cy (upd g_now 1 p0)), (wi_rm81_0_180_0 rm cy f25)] H := hP
              replace hD := k_D hP hD
              generalize ef29 : upd g_now 1 p0 = f29 at hP hD
              have Ef29 := lf_stn (X := (1 : Int)) ef29 (lf_ra g_now) rfl (lf_rf p0)
              refine lv_iconst (v := 1) hx hb dX10_rule_45 rfl ?_
              subst hQ; exact k_iret hx hb hr hlk (k_nb 1 rfl) ((v23, v24, f29, f25, g_refused)) hS ⟨ib_w 0 20 h26 rfl, ib_w 0 19 h27 rfl, ib_w 0 1 (ib_c 1 1 1 rfl) rfl, fun _ => ib_w 1 20 h26 rfl, fun _ => ib_w 1 1 h9 rfl, fun _ => ib_w 0 2 h18 rfl, (hO.symm.trans (by try simp only [show (1 : Int32).toInt = (1 : Int) from rfl]; rw [lf_ua Ef29]; exact hq))⟩ (hP.sub [1, 2, 3, 0] rfl) (hD.sub [1, 2, 3, 0] rfl rfl) (Nat.le_of_ble_eq_true rfl) (Nat.le_of_ble_eq_true rfl) dX10_rule_46
          · replace hq := lf_pos hq (lf_eq Ez19 (lf_rf p0) c20)
            have h30 := ib_eq (ib_any z19) h18 c20
            have h31 : ib z19 0 2 := ib_w 0 2 h30.1 rfl
            exact jn29  H locs ls (by exact hq) hP hD hS (lv_sub hl [0, 1] rfl)
set_option maxHeartbeats 4000000 in
set_option maxRecDepth 100000 in
theorem s_X10_refuses_a0_1 (l : Launch) (dC : Nat → ClassId) (dI : Nat → Nat → Nat) (cy : Nat → ClassId) (sq : Nat → Nat) (a_this : Nat) (rm : Nat → Nat) (x_taped : Int32) (x_at : Int32) (x_end : Int32) (x_ended : Int32) (x_bad : Int32) (x_badPlace : Int32) (x_fault : Int32) (x_faultPlace : Int32) (x_namePlace : Int32) (x_awayTold : Int32) (x_away : Int32) (x_coded : Int32) (x_statements : Int32) (x_isCrossing : Int32) (x_textKind : Int32) (x_askSecond : Int32) (x_redMany : Int32) (x_isOpen : Int32) (x_lastGreen : Int32) (x_greenTo : Int32) (x_isCycleGreen : Int32) (x_stillGreen : Int32) (x_rowMany : Int32) (x_fitMany : Int32) (x_fitRules : Int32) (x_fitGreen : Int32) (x_undoable : Int32) (x_newest : Int32) (x_seeded : Int64) (x_qCoded : Int32) (x_qWaits : Int32) (x_qOpened : Int32) (x_qBase : Int32) (x_qPiled : Int32) (x_qAnswer : Int64) (x_qIsNew : Int32) (x_octets : Int32) (g_refused : Nat → Int32)  : k_Met l yX10_refuses cX10_refuses 2 (some .int) { frames := 0, cells := 0, slots := 0, locals := 0 } dC dI cy sq [.ref a_this, .int 1] [(a_this, .inr (10, mfs rm x_taped x_at x_end x_ended x_bad x_badPlace x_fault x_faultPlace x_namePlace x_awayTold x_away x_coded x_statements x_isCrossing x_textKind x_askSecond x_redMany x_isOpen x_lastGreen x_greenTo x_isCycleGreen x_stillGreen x_rowMany x_fitMany x_fitRules x_fitGreen x_undoable x_newest x_seeded x_qCoded x_qWaits x_qOpened x_qBase x_qPiled x_qAnswer x_qIsNew x_octets)), (wi_rm9_0_6_0 rm cy g_refused)] (k_Qi dC dI (fun (r : Int32) (n0 : (Nat → Int32)) => ib r (-1) (-1) ∧ (F_X10_refuses_a0_1 (lf_A g_refused) = ((Int32.toInt r), (lf_A n0)))) (fun n0 : (Nat → Int32) => [(a_this, .inr (10, mfs rm x_taped x_at x_end x_ended x_bad x_badPlace x_fault x_faultPlace x_namePlace x_awayTold x_away x_coded x_statements x_isCrossing x_textKind x_askSecond x_redMany x_isOpen x_lastGreen x_greenTo x_isCycleGreen x_stillGreen x_rowMany x_fitMany x_fitRules x_fitGreen x_undoable x_newest x_seeded x_qCoded x_qWaits x_qOpened x_qBase x_qPiled x_qAnswer x_qIsNew x_octets)), (wi_rm9_0_6_0 rm cy n0)])) := by
  refine k_ofW2 (by decide +kernel) (Nat.le_of_ble_eq_true rfl) ?_
  intro p e s m below meth c A ls H locs args Q hQ C0 hZ hr hlk hin hP hD hA hS hl
  have C0 : k_cx p s m args c cX10_refuses 2 RX10 dC dI cy sq := C0
  have hx := C0.1
  have hb := C0.2.1
  have hl : lv_has ls 2 [(0, .ref a_this), (1, .int 1)] := hl
  obtain ⟨O, hO⟩ : ∃ o, o = F_X10_refuses_a0_1 (lf_A g_refused) := ⟨_, rfl⟩
  have hq := hO
  unfold F_X10_refuses_a0_1 at hq
  refine lv_aload_n hx hb dX10_refuses_0 rfl (lv_at hl 0 rfl) ?_
  refine k_get C0 fg_X10_17 hP 0 rfl rfl dX10_refuses_1 ?_
  refine lv_iload_n hx hb dX10_refuses_4 rfl (lv_at hl 1 rfl) ?_
  refine lv_dup2_11 hx hb dX10_refuses_5 rfl rfl ?_
  refine va_iald hx hb C0.2.2.2.2.2.1 hP 1 0 rfl rfl (k_in 1 6 rfl) dX10_refuses_6 ?_
  refine lv_topi (fun z1 ez1 => ?_)
  have Ez1 := lf_ld ez1 (lf_ra g_refused) (lf_lc 1 (1 : Int) rfl)
  refine lv_iconst (v := 1) hx hb dX10_refuses_7 rfl ?_
  refine lv_iadd hx hb dX10_refuses_8 ?_
  refine lv_topi (fun z2 ez2 => ?_)
  have Ez2 := lf_op lf_iadd ez2 Ez1 (lf_lc 1 (1 : Int) rfl)
  refine va_iast hx hb C0.2.2.2.2.2.1 hP hD hS 1 0 rfl rfl (k_in 1 6 rfl) dX10_refuses_9 (fun H locs hP hD hS => ?_)
  replace hP : va_P (dC, dI) vwCl [(a_this, .inr (10, mfs rm x_taped x_at x_end x_ended x_bad x_badPlace x_fault x_faultPlace x_namePlace x_awayTold x_away x_coded x_statements x_isCrossing x_textKind x_askSecond x_redMany x_isOpen x_lastGreen x_greenTo x_isCycleGreen x_stillGreen x_rowMany x_fitMany x_fitRules x_fitGreen x_undoable x_newest x_seeded x_qCoded x_qWaits x_qOpened x_qBase x_qPiled x_qAnswer x_qIsNew x_octets)), (wi_rm9_0_6_0 rm cy (upd g_refused 1 z2))] H := hP
  replace hD := k_D hP hD
  generalize ef3 : upd g_refused 1 z2 = f3 at hP hD
  have Ef3 := lf_stn (X := (1 : Int)) ef3 (lf_ra g_refused) rfl Ez2
  refine lv_iconst (v := (-1)) hx hb dX10_refuses_10 rfl ?_
  subst hQ; exact k_iret hx hb hr hlk rfl f3 hS ⟨ib_w (-1) (-1) (ib_c (-1) (-1) (-1) rfl) rfl, (hO.symm.trans (by try simp only [show ((-1) : Int32).toInt = (-1 : Int) from rfl]; rw [lf_ua Ef3]; exact hq))⟩ hP hD (Nat.le_of_ble_eq_true rfl) (Nat.le_of_ble_eq_true rfl) dX10_refuses_11
set_option maxHeartbeats 4000000 in
set_option maxRecDepth 100000 in
theorem s_X10_see (l : Launch) (dC : Nat → ClassId) (dI : Nat → Nat → Nat) (cy : Nat → ClassId) (sq : Nat → Nat) (a_this : Nat) (rm : Nat → Nat) (x_taped : Int32) (x_at : Int32) (x_end : Int32) (x_ended : Int32) (x_bad : Int32) (x_badPlace : Int32) (x_fault : Int32) (x_faultPlace : Int32) (x_namePlace : Int32) (x_awayTold : Int32) (x_away : Int32) (x_coded : Int32) (x_statements : Int32) (x_isCrossing : Int32) (x_textKind : Int32) (x_askSecond : Int32) (x_redMany : Int32) (x_isOpen : Int32) (x_lastGreen : Int32) (x_greenTo : Int32) (x_isCycleGreen : Int32) (x_stillGreen : Int32) (x_rowMany : Int32) (x_fitMany : Int32) (x_fitRules : Int32) (x_fitGreen : Int32) (x_undoable : Int32) (x_newest : Int32) (x_seeded : Int64) (x_qCoded : Int32) (x_qWaits : Int32) (x_qOpened : Int32) (x_qBase : Int32) (x_qPiled : Int32) (x_qAnswer : Int64) (x_qIsNew : Int32) (x_octets : Int32) (g_tape : Nat → Int32) (g_refused : Nat → Int32) (g_many : Nat → Int32) (g_rows : Nat → Int32) (hx_taped : ib x_taped 0 1600) (hx_rowMany : ib x_rowMany 0 16) (hg_tape : ia g_tape 1600 0 255) (hg_many_3 : ib (g_many 3) 0 12) (hpg_rows : ip g_rows 32 2 0 0 11) : k_Met l yX10_see cX10_see 5 (some .int) { frames := 2, cells := 0, slots := 0, locals := 46 } dC dI cy sq [.ref a_this] [(a_this, .inr (10, mfs rm x_taped x_at x_end x_ended x_bad x_badPlace x_fault x_faultPlace x_namePlace x_awayTold x_away x_coded x_statements x_isCrossing x_textKind x_askSecond x_redMany x_isOpen x_lastGreen x_greenTo x_isCycleGreen x_stillGreen x_rowMany x_fitMany x_fitRules x_fitGreen x_undoable x_newest x_seeded x_qCoded x_qWaits x_qOpened x_qBase x_qPiled x_qAnswer x_qIsNew x_octets)), (wi_rm0_0_1600_0 rm cy g_tape), (wi_rm41_0_4_0 rm cy g_many), (wi_rm9_0_6_0 rm cy g_refused), (wi_rm76_0_32_0 rm cy g_rows)] (k_Qi dC dI (fun (r : Int32) (u : Int32 × (Nat → Int32) × (Nat → Int32)) => match u with | (n0, n1, n2) => ib n0 0 16 ∧ ip n2 32 2 0 0 11 ∧ ib r (-1) 16 ∧ (F_X10_see (Int32.toInt x_taped) (Int32.toInt x_rowMany) (lf_A g_tape) (lf_A g_refused) (lf_A g_many) (lf_A g_rows) = ((Int32.toInt r), (Int32.toInt n0), (lf_A n1), (lf_A n2)))) (fun u : Int32 × (Nat → Int32) × (Nat → Int32) => match u with | (n0, n1, n2) => [(a_this, .inr (10, mfs rm 0 x_at x_end x_ended x_bad x_badPlace x_fault x_faultPlace x_namePlace x_awayTold x_away x_coded x_statements x_isCrossing x_textKind x_askSecond x_redMany x_isOpen x_lastGreen x_greenTo x_isCycleGreen x_stillGreen n0 x_fitMany x_fitRules x_fitGreen x_undoable x_newest x_seeded x_qCoded x_qWaits x_qOpened x_qBase x_qPiled x_qAnswer x_qIsNew x_octets)), (wi_rm0_0_1600_0 rm cy g_tape), (wi_rm41_0_4_0 rm cy g_many), (wi_rm9_0_6_0 rm cy n1), (wi_rm76_0_32_0 rm cy n2)])) := by
  refine k_ofW2 (by decide +kernel) (Nat.le_of_ble_eq_true rfl) ?_
  intro p e s m below meth c A ls H locs args Q hQ C0 hZ hr hlk hin hP hD hA hS hl
  have C0 : k_cx p s m args c cX10_see 5 RX10 dC dI cy sq := C0
  have hx := C0.1
  have hb := C0.2.1
  have hl : lv_has ls 5 [(0, .ref a_this)] := hl
  obtain ⟨O, hO⟩ : ∃ o, o = F_X10_see (Int32.toInt x_taped) (Int32.toInt x_rowMany) (lf_A g_tape) (lf_A g_refused) (lf_A g_many) (lf_A g_rows) := ⟨_, rfl⟩
  have hq := hO
  unfold F_X10_see at hq
  have jn121 : ∀ (n : Nat) (J121_l2 : Int32) (J121_l3 : Int32) (J121_a4 : Nat → Int32) (H : Heap) (locs : List Loc) (ls : Array Slot), ib x_taped 1 50 → ib J121_l2 1 1 → ib J121_l3 0 16 → ip J121_a4 32 2 0 0 11 → (O = F_X10_see_121 (Int32.toInt x_taped) (lf_A g_tape) (lf_A g_refused) n (Int32.toInt J121_l2) (Int32.toInt J121_l3) (lf_A J121_a4)) → (∀ j : Nat, 3 * (j : Int) < x_taped.toInt → ib (g_tape (3 * j)) 0 11) → 17 ≤ J121_l3.toInt + (n : Int) → va_P (dC, dI) vwCl [(a_this, .inr (10, mfs rm 0 x_at x_end x_ended x_bad x_badPlace x_fault x_faultPlace x_namePlace x_awayTold x_away x_coded x_statements x_isCrossing x_textKind x_askSecond x_redMany x_isOpen x_lastGreen x_greenTo x_isCycleGreen x_stillGreen x_rowMany x_fitMany x_fitRules x_fitGreen x_undoable x_newest x_seeded x_qCoded x_qWaits x_qOpened x_qBase x_qPiled x_qAnswer x_qIsNew x_octets)), (wi_rm0_0_1600_0 rm cy g_tape), (wi_rm41_0_4_0 rm cy g_many), (wi_rm9_0_6_0 rm cy g_refused), (wi_rm76_0_32_0 rm cy J121_a4)] H → va_D A [(a_this, .inr (10, mfs rm 0 x_at x_end x_ended x_bad x_badPlace x_fault x_faultPlace x_namePlace x_awayTold x_away x_coded x_statements x_isCrossing x_textKind x_askSecond x_redMany x_isOpen x_lastGreen x_greenTo x_isCycleGreen x_stillGreen x_rowMany x_fitMany x_fitRules x_fitGreen x_undoable x_newest x_seeded x_qCoded x_qWaits x_qOpened x_qBase x_qPiled x_qAnswer x_qIsNew x_octets)), (wi_rm0_0_1600_0 rm cy g_tape), (wi_rm41_0_4_0 rm cy g_many), (wi_rm9_0_6_0 rm cy g_refused), (wi_rm76_0_32_0 rm cy J121_a4)] → va_S A s.heap H locs → lv_has ls 5 [(0, .ref a_this), (1, .int x_taped), (2, .int J121_l2), (3, .int J121_l3)] → W p l e { frames := 2, cells := 0, slots := 0, locals := 46 } s m args below meth c H locs 0 0 Q (F0 m 121 ls []) := by
    as_aux_lemma =>
      intro n
      induction n with
      | zero =>
        intro J121_l2 J121_l3 J121_a4 H locs ls hK121_x_taped hJ121_l2 hJ121_l3 hJ121_a4p hq hJ121_gh hm
        exact absurd hm (by have := hJ121_l3; unfold ib at this; omega)
      | succ n ih =>
        intro J121_l2 J121_l3 J121_a4 H locs ls hK121_x_taped hJ121_l2 hJ121_l3 hJ121_a4p hq hJ121_gh hm121 hP hD hS hl
        have ih121 := ih
        obtain ⟨K121, hK121⟩ : ∃ K, K = F_X10_see_121 (Int32.toInt x_taped) (lf_A g_tape) (lf_A g_refused) n := ⟨_, rfl⟩
        have hq : O = F_X10_see_121b (Int32.toInt x_taped) (lf_A g_tape) (lf_A g_refused) K121 (Int32.toInt J121_l2) (Int32.toInt J121_l3) (lf_A J121_a4) := by rw [hK121]; exact hq
        unfold F_X10_see_121b at hq
        refine lv_iload_n hx hb dX10_see_121 rfl (lv_at hl 3 rfl) ?_
        refine lv_iload_n hx hb dX10_see_122 rfl (lv_at hl 1 rfl) ?_
        refine lv_iconst (v := 3) hx hb dX10_see_123 rfl ?_
        refine lv_idiv hx hb dX10_see_124 (by decide) ?_
        refine lv_topi (fun z1 ez1 => ?_)
        have h2 : 3 * z1.toInt ≤ x_taped.toInt ∧ x_taped.toInt < 3 * z1.toInt + 3 := by rw [ez1]; exact ib_dv2 3 3 rfl hK121_x_taped (by decide) (by decide)
        have h3 : ib z1 0 16 := by rw [ez1]; exact ib_w 0 16 (ib_div hK121_x_taped (ib_c 3 3 3 rfl) rfl) rfl
        have Ez1 := lf_op lf_idiv ez1 (lf_rf x_taped) (lf_lc 3 (3 : Int) rfl)
        refine lv_icmp_ge (tgt := 201) hx hb dX10_see_125 rfl (fun c4 => ?_) (fun c4 => ?_)
        · replace hq := lf_pos hq (lf_le Ez1 (lf_rf J121_l3) c4)
          have h5 := ib_le h3 hJ121_l3 c4
          refine lv_aload_n hx hb dX10_see_201 rfl (lv_at hl 0 rfl) ?_
          refine lv_iload_n hx hb dX10_see_202 rfl (lv_at hl 1 rfl) ?_
          refine lv_iconst (v := 3) hx hb dX10_see_203 rfl ?_
          refine lv_idiv hx hb dX10_see_204 (by decide) ?_
          refine lv_topi (fun z6 ez6 => ?_)
          have h7 : 3 * z6.toInt ≤ x_taped.toInt ∧ x_taped.toInt < 3 * z6.toInt + 3 := by rw [ez6]; exact ib_dv2 3 3 rfl hK121_x_taped (by decide) (by decide)
          have h8 : ib z6 0 16 := by rw [ez6]; exact ib_w 0 16 (ib_div hK121_x_taped (ib_c 3 3 3 rfl) rfl) rfl
          have Ez6 := lf_op lf_idiv ez6 (lf_rf x_taped) (lf_lc 3 (3 : Int) rfl)
          refine k_put C0 fp_X10_427 hP hD hS 0 rfl rfl rfl (Nat.le_of_ble_eq_true rfl) dX10_see_205 (fun H locs hP hD hS => ?_)
          replace hP : va_P (dC, dI) vwCl [(a_this, .inr (10, mfs rm 0 x_at x_end x_ended x_bad x_badPlace x_fault x_faultPlace x_namePlace x_awayTold x_away x_coded x_statements x_isCrossing x_textKind x_askSecond x_redMany x_isOpen x_lastGreen x_greenTo x_isCycleGreen x_stillGreen z6 x_fitMany x_fitRules x_fitGreen x_undoable x_newest x_seeded x_qCoded x_qWaits x_qOpened x_qBase x_qPiled x_qAnswer x_qIsNew x_octets)), (wi_rm0_0_1600_0 rm cy g_tape), (wi_rm41_0_4_0 rm cy g_many), (wi_rm9_0_6_0 rm cy g_refused), (wi_rm76_0_32_0 rm cy J121_a4)] H := hP
          replace hD := k_D hP hD
          refine lv_aload_n hx hb dX10_see_208 rfl (lv_at hl 0 rfl) ?_
          refine k_get C0 fg_X10_427 hP 0 rfl rfl dX10_see_209 ?_
          subst hQ; exact k_iret hx hb hr hlk rfl ((z6, g_refused, J121_a4)) hS ⟨ib_w 0 16 h8 rfl, hJ121_a4p, ib_w (-1) 16 h8 rfl, (hO.symm.trans (by rw [lf_u Ez6]; exact hq))⟩ hP hD (Nat.le_of_ble_eq_true rfl) (Nat.le_of_ble_eq_true rfl) dX10_see_212
        · as_aux_lemma =>
            replace hq := lf_neg hq (lf_nle Ez1 (lf_rf J121_l3) c4)
            have h9 := ib_nle h3 hJ121_l3 c4
            have h10 : ib z1 1 16 := ib_w 1 16 h9.1 rfl
            have h11 : ib J121_l3 0 15 := ib_w 0 15 h9.2 rfl
            have h12 : ib x_taped 3 50 := ⟨by have q1 := (h2).1; have q2 := (h2).2; have := (h10).1; have := (h10).2; have := (hK121_x_taped).1; have := (hK121_x_taped).2; omega, by have q1 := (h2).1; have q2 := (h2).2; have := (h10).1; have := (h10).2; have := (hK121_x_taped).1; have := (hK121_x_taped).2; omega⟩
            refine lv_sipush (v := 256) hx hb dX10_see_128 rfl ?_
            refine lv_aload_n hx hb dX10_see_131 rfl (lv_at hl 0 rfl) ?_
            refine k_get C0 fg_X10_7 hP 0 rfl rfl dX10_see_132 ?_
            refine lv_iconst (v := 3) hx hb dX10_see_135 rfl ?_
            refine lv_iload_n hx hb dX10_see_136 rfl (lv_at hl 3 rfl) ?_
            refine lv_imul hx hb dX10_see_137 ?_
            refine lv_topi (fun z13 ez13 => ?_)
            have h14 := ib_mul (ib_c 3 3 3 rfl) h11 rfl
            rw [← ez13] at h14
            have h15 : ib z13 0 45 := ib_w 0 45 h14.1 rfl
            have h16 : z13.toInt = 3 * J121_l3.toInt := by have q0 := h14.2; rw [show (3 : Int32).toInt = 3 from by decide] at q0; omega
            have Ez13 := lf_mul h14.2 (lf_lc 3 (3 : Int) rfl) (lf_rf J121_l3)
            refine lv_iconst (v := 1) hx hb dX10_see_138 rfl ?_
            refine lv_iadd hx hb dX10_see_139 ?_
            refine lv_topi (fun z17 ez17 => ?_)
            have h18 := ib_add h15 (ib_c 1 1 1 rfl) rfl
            rw [← ez17] at h18
            have h19 : ib z17 1 46 := ib_w 1 46 h18.1 rfl
            have Ez17 := lf_add h18.2 Ez13 (lf_lc 1 (1 : Int) rfl)
            refine va_iald hx hb C0.2.2.2.2.2.1 hP 1 0 rfl rfl (ib_in 1600 h19 rfl) dX10_see_140 ?_
            refine lv_topi (fun z20 ez20 => ?_)
            have h21 : ib z20 0 255 := by rw [ez20]; exact ia_at hg_tape (ib_in 1600 h19 rfl)
            have Ez20 := lf_ld ez20 (lf_ra g_tape) Ez17
            refine lv_imul hx hb dX10_see_141 ?_
            refine lv_topi (fun z22 ez22 => ?_)
            as_aux_lemma =>
              have h23 := ib_mul (ib_c 256 256 256 rfl) h21 rfl
              rw [← ez22] at h23
              have h24 : ib z22 0 65280 := ib_w 0 65280 h23.1 rfl
              have h25 : z22.toInt = 256 * z20.toInt := by have q0 := h23.2; rw [show (256 : Int32).toInt = 256 from by decide] at q0; omega
              have Ez22 := lf_mul h23.2 (lf_lc 256 (256 : Int) rfl) Ez20
              refine lv_aload_n hx hb dX10_see_142 rfl (lv_at hl 0 rfl) ?_
              refine k_get C0 fg_X10_7 hP 0 rfl rfl dX10_see_143 ?_
              refine lv_iconst (v := 3) hx hb dX10_see_146 rfl ?_
              refine lv_iload_n hx hb dX10_see_147 rfl (lv_at hl 3 rfl) ?_
              refine lv_imul hx hb dX10_see_148 ?_
              refine lv_topi (fun z26 ez26 => ?_)
              obtain rfl : z13 = z26 := ez13.trans ez26.symm
              refine lv_iconst (v := 2) hx hb dX10_see_149 rfl ?_
              refine lv_iadd hx hb dX10_see_150 ?_
              refine lv_topi (fun z27 ez27 => ?_)
              have h28 := ib_add h15 (ib_c 2 2 2 rfl) rfl
              rw [← ez27] at h28
              have h29 : ib z27 2 47 := ib_w 2 47 h28.1 rfl
              have Ez27 := lf_add h28.2 Ez13 (lf_lc 2 (2 : Int) rfl)
              refine va_iald hx hb C0.2.2.2.2.2.1 hP 1 0 rfl rfl (ib_in 1600 h29 rfl) dX10_see_151 ?_
              refine lv_topi (fun z30 ez30 => ?_)
              have h31 : ib z30 0 255 := by rw [ez30]; exact ia_at hg_tape (ib_in 1600 h29 rfl)
              have Ez30 := lf_ld ez30 (lf_ra g_tape) Ez27
              refine lv_iadd hx hb dX10_see_152 ?_
              refine lv_topi (fun z32 ez32 => ?_)
              have h33 := ib_add h24 h31 rfl
              rw [← ez32] at h33
              have h34 : ib z32 0 65535 := ib_w 0 65535 h33.1 rfl
              have Ez32 := lf_add h33.2 Ez22 Ez30
              refine lv_istore (lv' := [(4, .int z32), (0, .ref a_this), (1, .int x_taped), (2, .int J121_l2), (3, .int J121_l3)]) hx hb dX10_see_153 hl (Nat.le_of_ble_eq_true rfl) rfl (fun ls hl => ?_)
              as_aux_lemma =>
                refine lv_aload_n hx hb dX10_see_155 rfl (lv_at hl 1 rfl) ?_
                refine k_get C0 fg_X10_176 hP 0 rfl rfl dX10_see_156 ?_
                refine lv_iconst (v := 2) hx hb dX10_see_159 rfl ?_
                refine lv_iload_n hx hb dX10_see_160 rfl (lv_at hl 4 rfl) ?_
                refine lv_imul hx hb dX10_see_161 ?_
                refine lv_topi (fun z35 ez35 => ?_)
                have h36 := ib_mul (ib_c 2 2 2 rfl) h11 rfl
                rw [← ez35] at h36
                have h37 : ib z35 0 30 := ib_w 0 30 h36.1 rfl
                have h38 : z35.toInt = 2 * J121_l3.toInt := by have q0 := h36.2; rw [show (2 : Int32).toInt = 2 from by decide] at q0; omega
                have Ez35 := lf_mul h36.2 (lf_lc 2 (2 : Int) rfl) (lf_rf J121_l3)
                refine lv_aload_n hx hb dX10_see_162 rfl (lv_at hl 1 rfl) ?_
                refine k_get C0 fg_X10_7 hP 0 rfl rfl dX10_see_163 ?_
                refine lv_iconst (v := 3) hx hb dX10_see_166 rfl ?_
                refine lv_iload_n hx hb dX10_see_167 rfl (lv_at hl 4 rfl) ?_
                refine lv_imul hx hb dX10_see_168 ?_
                refine lv_topi (fun z39 ez39 => ?_)
                obtain rfl : z13 = z39 := ez13.trans ez39.symm
                refine va_iald hx hb C0.2.2.2.2.2.1 hP 1 0 rfl rfl (ib_in 1600 h15 rfl) dX10_see_169 ?_
                refine lv_topi (fun z40 ez40 => ?_)
                have h41 : ib z40 0 11 := by rw [ez40]; exact sd_use2 hJ121_gh z13 J121_l3 h16 (by have := (h11).1; omega) (by have := (h12).1; have := (h12).2; have := (h11).1; have := (h11).2; have := (h2).1; have := (h2).2; have := mt Int32.le_iff_toInt_le.mpr c4; omega)
                have Ez40 := lf_ld ez40 (lf_ra g_tape) Ez13
                refine va_iast hx hb C0.2.2.2.2.2.1 hP hD hS 4 0 rfl rfl (ib_in 32 h37 rfl) dX10_see_170 (fun H locs hP hD hS => ?_)
                have h43 := ip_upd (x := z40) hJ121_a4p (Int32.toNatClampNeg z35) (fun _ => ib_w 0 11 h41 rfl)
                replace hP : va_P (dC, dI) vwCl [(a_this, .inr (10, mfs rm 0 x_at x_end x_ended x_bad x_badPlace x_fault x_faultPlace x_namePlace x_awayTold x_away x_coded x_statements x_isCrossing x_textKind x_askSecond x_redMany x_isOpen x_lastGreen x_greenTo x_isCycleGreen x_stillGreen x_rowMany x_fitMany x_fitRules x_fitGreen x_undoable x_newest x_seeded x_qCoded x_qWaits x_qOpened x_qBase x_qPiled x_qAnswer x_qIsNew x_octets)), (wi_rm0_0_1600_0 rm cy g_tape), (wi_rm41_0_4_0 rm cy g_many), (wi_rm9_0_6_0 rm cy g_refused), (wi_rm76_0_32_0 rm cy (upd J121_a4 (Int32.toNatClampNeg z35) z40))] H := hP
                replace hD := k_D hP hD
                generalize ef42 : upd J121_a4 (Int32.toNatClampNeg z35) z40 = f42 at hP hD h43
                have Ef42 := lf_st ef42 (lf_ra J121_a4) Ez35 Ez40
                refine lv_aload_n hx hb dX10_see_171 rfl (lv_at hl 1 rfl) ?_
                refine k_get C0 fg_X10_176 hP 0 rfl rfl dX10_see_172 ?_
                as_aux_lemma =>
                  refine lv_iconst (v := 2) hx hb dX10_see_175 rfl ?_
                  refine lv_iload_n hx hb dX10_see_176 rfl (lv_at hl 4 rfl) ?_
                  refine lv_imul hx hb dX10_see_177 ?_
                  refine lv_topi (fun z44 ez44 => ?_)
                  obtain rfl : z35 = z44 := ez35.trans ez44.symm
                  refine lv_iconst (v := 1) hx hb dX10_see_178 rfl ?_
                  refine lv_iadd hx hb dX10_see_179 ?_
                  refine lv_topi (fun z45 ez45 => ?_)
                  have h46 := ib_add h37 (ib_c 1 1 1 rfl) rfl
                  rw [← ez45] at h46
                  have h47 : ib z45 1 31 := ib_w 1 31 h46.1 rfl
                  have Ez45 := lf_add h46.2 Ez35 (lf_lc 1 (1 : Int) rfl)
                  refine lv_iload hx hb dX10_see_180 (lv_at hl 0 rfl) ?_
                  refine lv_ldcw hx hb C0.2.2.2.1 (C0.2.2.2.2.1 _ wd1206) dX10_see_182 ?_
                  refine lv_icmp_ne (tgt := 192) hx hb dX10_see_185 rfl (fun c48 => ?_) (fun c48 => ?_)
                  · replace hq := lf_neg hq (lf_ne Ez32 (lf_lc 65535 (65535 : Int) rfl) c48)
                    have h49 : ib z32 0 65534 := ib_w 0 65534 (ib_ne_hi 65535 h34 rfl c48) rfl
                    refine lv_iload hx hb dX10_see_192 (lv_at hl 0 rfl) ?_
                    refine va_iast hx hb C0.2.2.2.2.2.1 hP hD hS 4 0 rfl rfl (ib_in 32 h47 rfl) dX10_see_194 (fun H locs hP hD hS => ?_)
                    have h51 := ip_upd (x := z32) h43 (Int32.toNatClampNeg z45) (fun q => absurd q (by show ¬ (Int32.toInt z45).toNat % 2 = 0; have := (h47).1; have := (h47).2; have := h46.2; have : (1 : Int32).toInt = 1 := rfl; have := (h37).1; have := (h37).2; have := h38; have := (h11).1; have := (h11).2; omega))
                    replace hP : va_P (dC, dI) vwCl [(a_this, .inr (10, mfs rm 0 x_at x_end x_ended x_bad x_badPlace x_fault x_faultPlace x_namePlace x_awayTold x_away x_coded x_statements x_isCrossing x_textKind x_askSecond x_redMany x_isOpen x_lastGreen x_greenTo x_isCycleGreen x_stillGreen x_rowMany x_fitMany x_fitRules x_fitGreen x_undoable x_newest x_seeded x_qCoded x_qWaits x_qOpened x_qBase x_qPiled x_qAnswer x_qIsNew x_octets)), (wi_rm0_0_1600_0 rm cy g_tape), (wi_rm41_0_4_0 rm cy g_many), (wi_rm9_0_6_0 rm cy g_refused), (wi_rm76_0_32_0 rm cy (upd f42 (Int32.toNatClampNeg z45) z32))] H := hP
                    replace hD := k_D hP hD
                    generalize ef50 : upd f42 (Int32.toNatClampNeg z45) z32 = f50 at hP hD h51
                    have Ef50 := lf_st ef50 Ef42 Ez45 Ez32
                    obtain ⟨z52, ez52⟩ : ∃ y : Int32, y = J121_l3 + 1 := ⟨_, rfl⟩
                    refine lv_iinc (v := z52) (lv' := [(3, .int z52), (4, .int z32), (0, .ref a_this), (1, .int x_taped), (2, .int J121_l2)]) hx hb dX10_see_195 hl (k := 4) rfl (by rw [ez52]; rfl) (Nat.le_of_ble_eq_true rfl) rfl (fun ls hl => ?_)
                    have h53 := ib_add h11 (ib_c 1 1 1 rfl) rfl
                    rw [← ez52] at h53
                    have h54 : ib z52 1 16 := ib_w 1 16 h53.1 rfl
                    have Ez52 := lf_add h53.2 (lf_rf J121_l3) (lf_lc 1 (1 : Int) rfl)
                    refine lv_goto (tgt := 121) hx hb dX10_see_198 rfl ?_
                    exact ih121 J121_l2 z52 f50 H locs ls (ib_w 1 50 h12 rfl) (ib_w 1 1 hJ121_l2 rfl) (ib_w 0 16 h54 rfl) h51 (by rw [← hK121]; rw [lf_u Ez52]; rw [lf_ua Ef50]; exact hq) (hJ121_gh) (by have := h53.2; have : (1 : Int32).toInt = 1 := rfl; omega) hP hD hS (lv_sub hl [2, 3, 4, 0] rfl)
                  · as_aux_lemma =>
                      replace hq := lf_pos hq (lf_eq Ez32 (lf_lc 65535 (65535 : Int) rfl) c48)
                      have h55 := ib_eq h34 (ib_c 65535 65535 65535 rfl) c48
                      have h56 : ib z32 65535 65535 := ib_w 65535 65535 h55.1 rfl
                      have h57 : ib z22 65280 65280 := ⟨by have := h33.2; have := (h56).1; have := (h56).2; have := (h24).1; have := (h24).2; have := (h31).1; have := (h31).2; omega, by have := h33.2; have := (h56).1; have := (h56).2; have := (h24).1; have := (h24).2; have := (h31).1; have := (h31).2; omega⟩
                      have h58 : ib z30 255 255 := ⟨by have := h33.2; have := (h56).1; have := (h56).2; have := (h24).1; have := (h24).2; have := (h31).1; have := (h31).2; omega, by have := h33.2; have := (h56).1; have := (h56).2; have := (h24).1; have := (h24).2; have := (h31).1; have := (h31).2; omega⟩
                      refine lv_iconst (v := (-1)) hx hb dX10_see_188 rfl ?_
                      refine lv_goto (tgt := 194) hx hb dX10_see_189 rfl ?_
                      refine va_iast hx hb C0.2.2.2.2.2.1 hP hD hS 4 0 rfl rfl (ib_in 32 h47 rfl) dX10_see_194 (fun H locs hP hD hS => ?_)
                      have h60 := ip_upd (x := (-1)) h43 (Int32.toNatClampNeg z45) (fun q => absurd q (by show ¬ (Int32.toInt z45).toNat % 2 = 0; have := (h47).1; have := (h47).2; have := h46.2; have : (1 : Int32).toInt = 1 := rfl; have := (h37).1; have := (h37).2; have := h38; have := (h11).1; have := (h11).2; omega))
                      replace hP : va_P (dC, dI) vwCl [(a_this, .inr (10, mfs rm 0 x_at x_end x_ended x_bad x_badPlace x_fault x_faultPlace x_namePlace x_awayTold x_away x_coded x_statements x_isCrossing x_textKind x_askSecond x_redMany x_isOpen x_lastGreen x_greenTo x_isCycleGreen x_stillGreen x_rowMany x_fitMany x_fitRules x_fitGreen x_undoable x_newest x_seeded x_qCoded x_qWaits x_qOpened x_qBase x_qPiled x_qAnswer x_qIsNew x_octets)), (wi_rm0_0_1600_0 rm cy g_tape), (wi_rm41_0_4_0 rm cy g_many), (wi_rm9_0_6_0 rm cy g_refused), (wi_rm76_0_32_0 rm cy (upd f42 (Int32.toNatClampNeg z45) (-1)))] H := hP
                      replace hD := k_D hP hD
                      generalize ef59 : upd f42 (Int32.toNatClampNeg z45) (-1) = f59 at hP hD h60
                      have Ef59 := lf_st ef59 Ef42 Ez45 (lf_lc (-1) (-1 : Int) rfl)
                      obtain ⟨z61, ez61⟩ : ∃ y : Int32, y = J121_l3 + 1 := ⟨_, rfl⟩
                      refine lv_iinc (v := z61) (lv' := [(3, .int z61), (4, .int z32), (0, .ref a_this), (1, .int x_taped), (2, .int J121_l2)]) hx hb dX10_see_195 hl (k := 4) rfl (by rw [ez61]; rfl) (Nat.le_of_ble_eq_true rfl) rfl (fun ls hl => ?_)
                      have h62 := ib_add h11 (ib_c 1 1 1 rfl) rfl
                      rw [← ez61] at h62
                      have h63 : ib z61 1 16 := ib_w 1 16 h62.1 rfl
                      have Ez61 := lf_add h62.2 (lf_rf J121_l3) (lf_lc 1 (1 : Int) rfl)
                      refine lv_goto (tgt := 121) hx hb dX10_see_198 rfl ?_
                      exact ih121 J121_l2 z61 f59 H locs ls (ib_w 1 50 h12 rfl) (ib_w 1 1 hJ121_l2 rfl) (ib_w 0 16 h63 rfl) h60 (by rw [← hK121]; rw [lf_u Ez61]; rw [lf_ua Ef59]; exact hq) (hJ121_gh) (by have := h62.2; have : (1 : Int32).toInt = 1 := rfl; omega) hP hD hS (lv_sub hl [2, 3, 4, 0] rfl)
  have jn109 : ∀ (J109_l2 : Int32) (J109_l3 : Int32) (H : Heap) (locs : List Loc) (ls : Array Slot), ib J109_l2 0 1 → ib J109_l3 0 52 → (O = F_X10_see_109 (Int32.toInt x_taped) (Int32.toInt x_rowMany) (lf_A g_tape) (lf_A g_refused) (lf_A g_rows) (Int32.toInt J109_l2) (Int32.toInt J109_l3)) → (¬ J109_l2 = 0 → (∀ j : Nat, 3 * (j : Int) < x_taped.toInt → ib (g_tape (3 * j)) 0 11) ∧ ib x_taped 1 50) → va_P (dC, dI) vwCl [(a_this, .inr (10, mfs rm 0 x_at x_end x_ended x_bad x_badPlace x_fault x_faultPlace x_namePlace x_awayTold x_away x_coded x_statements x_isCrossing x_textKind x_askSecond x_redMany x_isOpen x_lastGreen x_greenTo x_isCycleGreen x_stillGreen x_rowMany x_fitMany x_fitRules x_fitGreen x_undoable x_newest x_seeded x_qCoded x_qWaits x_qOpened x_qBase x_qPiled x_qAnswer x_qIsNew x_octets)), (wi_rm0_0_1600_0 rm cy g_tape), (wi_rm41_0_4_0 rm cy g_many), (wi_rm9_0_6_0 rm cy g_refused), (wi_rm76_0_32_0 rm cy g_rows)] H → va_D A [(a_this, .inr (10, mfs rm 0 x_at x_end x_ended x_bad x_badPlace x_fault x_faultPlace x_namePlace x_awayTold x_away x_coded x_statements x_isCrossing x_textKind x_askSecond x_redMany x_isOpen x_lastGreen x_greenTo x_isCycleGreen x_stillGreen x_rowMany x_fitMany x_fitRules x_fitGreen x_undoable x_newest x_seeded x_qCoded x_qWaits x_qOpened x_qBase x_qPiled x_qAnswer x_qIsNew x_octets)), (wi_rm0_0_1600_0 rm cy g_tape), (wi_rm41_0_4_0 rm cy g_many), (wi_rm9_0_6_0 rm cy g_refused), (wi_rm76_0_32_0 rm cy g_rows)] → va_S A s.heap H locs → lv_has ls 5 [(0, .ref a_this), (1, .int x_taped), (2, .int J109_l2), (3, .int J109_l3)] → W p l e { frames := 2, cells := 0, slots := 0, locals := 46 } s m args below meth c H locs 0 0 Q (F0 m 109 ls []) := by
    as_aux_lemma =>
      intro J109_l2 J109_l3 H locs ls hJ109_l2 hJ109_l3 hq hJ109_gh hP hD hS hl
      unfold F_X10_see_109 at hq
      refine lv_iload_n hx hb dX10_see_109 rfl (lv_at hl 2 rfl) ?_
      refine lv_if_ne (tgt := 119) hx hb dX10_see_110 rfl (fun c64 => ?_) (fun c64 => ?_)
      · replace hq := lf_neg hq (lf_ne (lf_rf J109_l2) (lf_lc 0 (0 : Int) rfl) c64)
        have h65 : ib J109_l2 1 1 := ib_w 1 1 (ib_ne_lo 0 hJ109_l2 rfl c64) rfl
        have h66 : ib x_taped 1 50 := (hJ109_gh c64).2
        refine lv_iconst (v := 0) hx hb dX10_see_119 rfl ?_
        refine lv_istore_n (lv' := [(3, .int 0), (0, .ref a_this), (1, .int x_taped), (2, .int J109_l2)]) hx hb dX10_see_120 rfl hl (Nat.le_of_ble_eq_true rfl) rfl (fun ls hl => ?_)
        exact jn121 18 J109_l2 0 g_rows H locs ls (ib_w 1 50 h66 rfl) (ib_w 1 1 h65 rfl) (ib_w 0 16 (ib_c 0 0 0 rfl) rfl) hpg_rows (by try simp only [show (0 : Int32).toInt = (0 : Int) from rfl]; exact hq) ((hJ109_gh c64).1) (by have := (ib_c 0 0 0 rfl); unfold ib at this; omega) hP hD hS (lv_sub hl [1, 2, 3, 0] rfl)
      · replace hq := lf_pos hq (lf_eq (lf_rf J109_l2) (lf_lc 0 (0 : Int) rfl) c64)
        have h67 := ib_eq hJ109_l2 (ib_c 0 0 0 rfl) c64
        have h68 : ib J109_l2 0 0 := ib_w 0 0 h67.1 rfl
        refine lv_aload_n hx hb dX10_see_113 rfl (lv_at hl 0 rfl) ?_
        refine lv_iconst (v := 1) hx hb dX10_see_114 rfl ?_
        refine k_jim hP hD hS hA [0, 3] [false, true, true, false, true] rfl rfl rfl 0 0 (Nat.le_of_ble_eq_true rfl) (Nat.le_of_ble_eq_true rfl) (fun hPc hDc => k_runV (As := [.int 1]) (rest := []) C0 hZ hS hA (s_X10_refuses_a0_1 l dC dI cy sq a_this rm 0 x_at x_end x_ended x_bad x_badPlace x_fault x_faultPlace x_namePlace x_awayTold x_away x_coded x_statements x_isCrossing x_textKind x_askSecond x_redMany x_isOpen x_lastGreen x_greenTo x_isCycleGreen x_stillGreen x_rowMany x_fitMany x_fitRules x_fitGreen x_undoable x_newest x_seeded x_qCoded x_qWaits x_qOpened x_qBase x_qPiled x_qAnswer x_qIsNew x_octets g_refused ) mV_X10_567 hPc hDc rfl rfl rfl hl rfl rfl (Nat.le_of_ble_eq_true rfl) ⟨(Nat.le_of_ble_eq_true rfl), (Nat.le_of_ble_eq_true rfl)⟩ ⟨(Nat.le_of_ble_eq_true rfl), (Nat.le_of_ble_eq_true rfl)⟩ dX10_see_115) (fun r69 u70 H locs hw hP hD hS => ?_)
        obtain ⟨f71, ef71⟩ : ∃ z, z = u70 := ⟨_, rfl⟩; subst ef71
        try dsimp only at hP hD hw
        replace hP : va_P (dC, dI) vwCl [(wi_rm0_0_1600_0 rm cy g_tape), (wi_rm41_0_4_0 rm cy g_many), (wi_rm76_0_32_0 rm cy g_rows), (a_this, .inr (10, mfs rm 0 x_at x_end x_ended x_bad x_badPlace x_fault x_faultPlace x_namePlace x_awayTold x_away x_coded x_statements x_isCrossing x_textKind x_askSecond x_redMany x_isOpen x_lastGreen x_greenTo x_isCycleGreen x_stillGreen x_rowMany x_fitMany x_fitRules x_fitGreen x_undoable x_newest x_seeded x_qCoded x_qWaits x_qOpened x_qBase x_qPiled x_qAnswer x_qIsNew x_octets)), (wi_rm9_0_6_0 rm cy f71)] H := hP
        replace hD := k_D hP hD
        obtain ⟨h72, h73⟩ := hw
        replace hq := lf_p1 hq h73
        subst hQ; exact k_iret hx hb hr hlk rfl ((x_rowMany, f71, g_rows)) hS ⟨ib_w 0 16 hx_rowMany rfl, hpg_rows, ib_w (-1) 16 h72 rfl, (hO.symm.trans (by exact hq))⟩ (hP.sub [3, 0, 1, 4, 2] rfl) (hD.sub [3, 0, 1, 4, 2] rfl rfl) (Nat.le_of_ble_eq_true rfl) (Nat.le_of_ble_eq_true rfl) dX10_see_118
  have jn36 : ∀ (n : Nat) (J36_l2 : Int32) (J36_l3 : Int32) (H : Heap) (locs : List Loc) (ls : Array Slot), ib J36_l2 0 1 → ib J36_l3 0 52 → (O = F_X10_see_36 (Int32.toInt x_taped) (Int32.toInt x_rowMany) (lf_A g_tape) (lf_A g_refused) (lf_A g_many) (lf_A g_rows) n (Int32.toInt J36_l2) (Int32.toInt J36_l3)) → (¬ J36_l2 = 0 → sd g_tape J36_l3 ∧ ib x_taped 1 50) → 53 ≤ J36_l3.toInt + (n : Int) → va_P (dC, dI) vwCl [(a_this, .inr (10, mfs rm 0 x_at x_end x_ended x_bad x_badPlace x_fault x_faultPlace x_namePlace x_awayTold x_away x_coded x_statements x_isCrossing x_textKind x_askSecond x_redMany x_isOpen x_lastGreen x_greenTo x_isCycleGreen x_stillGreen x_rowMany x_fitMany x_fitRules x_fitGreen x_undoable x_newest x_seeded x_qCoded x_qWaits x_qOpened x_qBase x_qPiled x_qAnswer x_qIsNew x_octets)), (wi_rm0_0_1600_0 rm cy g_tape), (wi_rm41_0_4_0 rm cy g_many), (wi_rm9_0_6_0 rm cy g_refused), (wi_rm76_0_32_0 rm cy g_rows)] H → va_D A [(a_this, .inr (10, mfs rm 0 x_at x_end x_ended x_bad x_badPlace x_fault x_faultPlace x_namePlace x_awayTold x_away x_coded x_statements x_isCrossing x_textKind x_askSecond x_redMany x_isOpen x_lastGreen x_greenTo x_isCycleGreen x_stillGreen x_rowMany x_fitMany x_fitRules x_fitGreen x_undoable x_newest x_seeded x_qCoded x_qWaits x_qOpened x_qBase x_qPiled x_qAnswer x_qIsNew x_octets)), (wi_rm0_0_1600_0 rm cy g_tape), (wi_rm41_0_4_0 rm cy g_many), (wi_rm9_0_6_0 rm cy g_refused), (wi_rm76_0_32_0 rm cy g_rows)] → va_S A s.heap H locs → lv_has ls 5 [(0, .ref a_this), (1, .int x_taped), (2, .int J36_l2), (3, .int J36_l3)] → W p l e { frames := 2, cells := 0, slots := 0, locals := 46 } s m args below meth c H locs 0 0 Q (F0 m 36 ls []) := by
    as_aux_lemma =>
      intro n
      induction n with
      | zero =>
        intro J36_l2 J36_l3 H locs ls hJ36_l2 hJ36_l3 hq hJ36_gh hm
        exact absurd hm (by have := hJ36_l3; unfold ib at this; omega)
      | succ n ih =>
        intro J36_l2 J36_l3 H locs ls hJ36_l2 hJ36_l3 hq hJ36_gh hm36 hP hD hS hl
        have ih36 := ih
        obtain ⟨K36, hK36⟩ : ∃ K, K = F_X10_see_36 (Int32.toInt x_taped) (Int32.toInt x_rowMany) (lf_A g_tape) (lf_A g_refused) (lf_A g_many) (lf_A g_rows) n := ⟨_, rfl⟩
        have hq : O = F_X10_see_36b (Int32.toInt x_taped) (Int32.toInt x_rowMany) (lf_A g_tape) (lf_A g_refused) (lf_A g_many) (lf_A g_rows) K36 (Int32.toInt J36_l2) (Int32.toInt J36_l3) := by rw [hK36]; exact hq
        unfold F_X10_see_36b at hq
        have jn102 : ∀ (J102_l4 : Int32) (J102_s0 : Int32) (H : Heap) (locs : List Loc) (ls : Array Slot), ib x_taped 1 50 → ib J36_l2 1 1 → ib J36_l3 0 49 → ib J102_l4 0 65535 → ib J102_s0 0 1 → (O = F_X10_see_102 (Int32.toInt J36_l3) K36 (Int32.toInt J102_l4) (Int32.toInt J102_s0)) → (¬ J102_s0 = 0 → ib (g_tape (Int32.toNatClampNeg J36_l3)) 0 11) → va_P (dC, dI) vwCl [(a_this, .inr (10, mfs rm 0 x_at x_end x_ended x_bad x_badPlace x_fault x_faultPlace x_namePlace x_awayTold x_away x_coded x_statements x_isCrossing x_textKind x_askSecond x_redMany x_isOpen x_lastGreen x_greenTo x_isCycleGreen x_stillGreen x_rowMany x_fitMany x_fitRules x_fitGreen x_undoable x_newest x_seeded x_qCoded x_qWaits x_qOpened x_qBase x_qPiled x_qAnswer x_qIsNew x_octets)), (wi_rm0_0_1600_0 rm cy g_tape), (wi_rm41_0_4_0 rm cy g_many), (wi_rm9_0_6_0 rm cy g_refused), (wi_rm76_0_32_0 rm cy g_rows)] H → va_D A [(a_this, .inr (10, mfs rm 0 x_at x_end x_ended x_bad x_badPlace x_fault x_faultPlace x_namePlace x_awayTold x_away x_coded x_statements x_isCrossing x_textKind x_askSecond x_redMany x_isOpen x_lastGreen x_greenTo x_isCycleGreen x_stillGreen x_rowMany x_fitMany x_fitRules x_fitGreen x_undoable x_newest x_seeded x_qCoded x_qWaits x_qOpened x_qBase x_qPiled x_qAnswer x_qIsNew x_octets)), (wi_rm0_0_1600_0 rm cy g_tape), (wi_rm41_0_4_0 rm cy g_many), (wi_rm9_0_6_0 rm cy g_refused), (wi_rm76_0_32_0 rm cy g_rows)] → va_S A s.heap H locs → lv_has ls 5 [(0, .ref a_this), (1, .int x_taped), (2, .int J36_l2), (3, .int J36_l3), (4, .int J102_l4)] → W p l e { frames := 2, cells := 0, slots := 0, locals := 46 } s m args below meth c H locs 0 0 Q (F0 m 102 ls [.int J102_s0]) := by
          intro J102_l4 J102_s0 H locs ls hK102_x_taped hK102_J36_l2 hK102_J36_l3 hJ102_l4 hJ102_s0 hq hJ102_gh hP hD hS hl
          unfold F_X10_see_102 at hq
          refine lv_istore_n (lv' := [(2, .int J102_s0), (0, .ref a_this), (1, .int x_taped), (3, .int J36_l3), (4, .int J102_l4)]) hx hb dX10_see_102 rfl hl (Nat.le_of_ble_eq_true rfl) rfl (fun ls hl => ?_)
          obtain ⟨z74, ez74⟩ : ∃ y : Int32, y = J36_l3 + 3 := ⟨_, rfl⟩
          refine lv_iinc (v := z74) (lv' := [(3, .int z74), (2, .int J102_s0), (0, .ref a_this), (1, .int x_taped), (4, .int J102_l4)]) hx hb dX10_see_103 hl (k := 3) rfl (by rw [ez74]; rfl) (Nat.le_of_ble_eq_true rfl) rfl (fun ls hl => ?_)
          have h75 := ib_add hK102_J36_l3 (ib_c 3 3 3 rfl) rfl
          rw [← ez74] at h75
          have h76 : ib z74 3 52 := ib_w 3 52 h75.1 rfl
          have Ez74 := lf_add h75.2 (lf_rf J36_l3) (lf_lc 3 (3 : Int) rfl)
          refine lv_goto (tgt := 36) hx hb dX10_see_106 rfl ?_
          exact ih36 J102_s0 z74 H locs ls (ib_w 0 1 hJ102_s0 rfl) (ib_w 0 52 h76 rfl) (by rw [← hK36]; rw [lf_u Ez74]; exact hq) (fun q => ⟨sd_step (hJ36_gh (ib_nz hK102_J36_l2 rfl)).1 (ib_w 0 50 hK102_J36_l3 rfl) (hJ102_gh q) h75.2, (hJ36_gh (ib_nz hK102_J36_l2 rfl)).2⟩) (by have := h75.2; have : (3 : Int32).toInt = 3 := rfl; omega) hP hD hS (lv_sub hl [2, 3, 1, 0] rfl)
        have jn101 : ∀ (J101_l4 : Int32) (H : Heap) (locs : List Loc) (ls : Array Slot), ib x_taped 1 50 → ib J36_l2 1 1 → ib J36_l3 0 49 → ib J101_l4 0 65535 → (O = F_X10_see_101 (Int32.toInt J36_l3) K36 (Int32.toInt J101_l4)) → va_P (dC, dI) vwCl [(a_this, .inr (10, mfs rm 0 x_at x_end x_ended x_bad x_badPlace x_fault x_faultPlace x_namePlace x_awayTold x_away x_coded x_statements x_isCrossing x_textKind x_askSecond x_redMany x_isOpen x_lastGreen x_greenTo x_isCycleGreen x_stillGreen x_rowMany x_fitMany x_fitRules x_fitGreen x_undoable x_newest x_seeded x_qCoded x_qWaits x_qOpened x_qBase x_qPiled x_qAnswer x_qIsNew x_octets)), (wi_rm0_0_1600_0 rm cy g_tape), (wi_rm41_0_4_0 rm cy g_many), (wi_rm9_0_6_0 rm cy g_refused), (wi_rm76_0_32_0 rm cy g_rows)] H → va_D A [(a_this, .inr (10, mfs rm 0 x_at x_end x_ended x_bad x_badPlace x_fault x_faultPlace x_namePlace x_awayTold x_away x_coded x_statements x_isCrossing x_textKind x_askSecond x_redMany x_isOpen x_lastGreen x_greenTo x_isCycleGreen x_stillGreen x_rowMany x_fitMany x_fitRules x_fitGreen x_undoable x_newest x_seeded x_qCoded x_qWaits x_qOpened x_qBase x_qPiled x_qAnswer x_qIsNew x_octets)), (wi_rm0_0_1600_0 rm cy g_tape), (wi_rm41_0_4_0 rm cy g_many), (wi_rm9_0_6_0 rm cy g_refused), (wi_rm76_0_32_0 rm cy g_rows)] → va_S A s.heap H locs → lv_has ls 5 [(0, .ref a_this), (1, .int x_taped), (2, .int J36_l2), (3, .int J36_l3), (4, .int J101_l4)] → W p l e { frames := 2, cells := 0, slots := 0, locals := 46 } s m args below meth c H locs 0 0 Q (F0 m 101 ls []) := by
          intro J101_l4 H locs ls hK101_x_taped hK101_J36_l2 hK101_J36_l3 hJ101_l4 hq hP hD hS hl
          unfold F_X10_see_101 at hq
          refine lv_iconst (v := 0) hx hb dX10_see_101 rfl ?_
          exact jn102 J101_l4 0 H locs ls (ib_w 1 50 hK101_x_taped rfl) (ib_w 1 1 hK101_J36_l2 rfl) (ib_w 0 49 hK101_J36_l3 rfl) (ib_w 0 65535 hJ101_l4 rfl) (ib_w 0 1 (ib_c 0 0 0 rfl) rfl) (by try simp only [show (0 : Int32).toInt = (0 : Int) from rfl]; exact hq) (fun q => absurd rfl q) hP hD hS (lv_sub hl [0, 1, 2, 3, 4] rfl)
        have jn97 : ∀ (J97_l4 : Int32) (H : Heap) (locs : List Loc) (ls : Array Slot), ib x_taped 1 50 → ib J36_l2 1 1 → ib J36_l3 0 49 → ib J97_l4 0 65535 → ib (g_many 3) 1 12 → (O = F_X10_see_97 (Int32.toInt J36_l3) K36 (Int32.toInt J97_l4)) → (ib (g_tape (Int32.toNatClampNeg J36_l3)) 0 11) → va_P (dC, dI) vwCl [(a_this, .inr (10, mfs rm 0 x_at x_end x_ended x_bad x_badPlace x_fault x_faultPlace x_namePlace x_awayTold x_away x_coded x_statements x_isCrossing x_textKind x_askSecond x_redMany x_isOpen x_lastGreen x_greenTo x_isCycleGreen x_stillGreen x_rowMany x_fitMany x_fitRules x_fitGreen x_undoable x_newest x_seeded x_qCoded x_qWaits x_qOpened x_qBase x_qPiled x_qAnswer x_qIsNew x_octets)), (wi_rm0_0_1600_0 rm cy g_tape), (wi_rm41_0_4_0 rm cy g_many), (wi_rm9_0_6_0 rm cy g_refused), (wi_rm76_0_32_0 rm cy g_rows)] H → va_D A [(a_this, .inr (10, mfs rm 0 x_at x_end x_ended x_bad x_badPlace x_fault x_faultPlace x_namePlace x_awayTold x_away x_coded x_statements x_isCrossing x_textKind x_askSecond x_redMany x_isOpen x_lastGreen x_greenTo x_isCycleGreen x_stillGreen x_rowMany x_fitMany x_fitRules x_fitGreen x_undoable x_newest x_seeded x_qCoded x_qWaits x_qOpened x_qBase x_qPiled x_qAnswer x_qIsNew x_octets)), (wi_rm0_0_1600_0 rm cy g_tape), (wi_rm41_0_4_0 rm cy g_many), (wi_rm9_0_6_0 rm cy g_refused), (wi_rm76_0_32_0 rm cy g_rows)] → va_S A s.heap H locs → lv_has ls 5 [(0, .ref a_this), (1, .int x_taped), (2, .int J36_l2), (3, .int J36_l3), (4, .int J97_l4)] → W p l e { frames := 2, cells := 0, slots := 0, locals := 46 } s m args below meth c H locs 0 0 Q (F0 m 97 ls []) := by
          intro J97_l4 H locs ls hK97_x_taped hK97_J36_l2 hK97_J36_l3 hJ97_l4 hJ97_a2_3 hq hJ97_gh hP hD hS hl
          unfold F_X10_see_97 at hq
          refine lv_iconst (v := 1) hx hb dX10_see_97 rfl ?_
          refine lv_goto (tgt := 102) hx hb dX10_see_98 rfl ?_
          exact jn102 J97_l4 1 H locs ls (ib_w 1 50 hK97_x_taped rfl) (ib_w 1 1 hK97_J36_l2 rfl) (ib_w 0 49 hK97_J36_l3 rfl) (ib_w 0 65535 hJ97_l4 rfl) (ib_w 0 1 (ib_c 1 1 1 rfl) rfl) (by try simp only [show (1 : Int32).toInt = (1 : Int) from rfl]; exact hq) (fun _ => hJ97_gh) hP hD hS (lv_sub hl [0, 1, 2, 3, 4] rfl)
        refine lv_iload_n hx hb dX10_see_36 rfl (lv_at hl 3 rfl) ?_
        refine lv_iload_n hx hb dX10_see_37 rfl (lv_at hl 1 rfl) ?_
        refine lv_icmp_ge (tgt := 109) hx hb dX10_see_38 rfl (fun c77 => ?_) (fun c77 => ?_)
        · replace hq := lf_pos hq (lf_le (lf_rf x_taped) (lf_rf J36_l3) c77)
          have h78 := ib_le hx_taped hJ36_l3 c77
          have h79 : ib x_taped 0 52 := ib_w 0 52 h78.1 rfl
          exact jn109 J36_l2 J36_l3 H locs ls (ib_w 0 1 hJ36_l2 rfl) (ib_w 0 52 hJ36_l3 rfl) (by exact hq) (fun q => ⟨sd_end (hJ36_gh q).1 c77, (hJ36_gh q).2⟩) hP hD hS (lv_sub hl [0, 1, 2, 3] rfl)
        · as_aux_lemma =>
            replace hq := lf_neg hq (lf_nle (lf_rf x_taped) (lf_rf J36_l3) c77)
            have h80 := ib_nle hx_taped hJ36_l3 c77
            have h81 : ib x_taped 1 1600 := ib_w 1 1600 h80.1 rfl
            refine lv_iload_n hx hb dX10_see_41 rfl (lv_at hl 2 rfl) ?_
            refine lv_if_eq (tgt := 109) hx hb dX10_see_42 rfl (fun c82 => ?_) (fun c82 => ?_)
            · replace hq := lf_pos hq (lf_eq (lf_rf J36_l2) (lf_lc 0 (0 : Int) rfl) c82)
              have h83 := ib_eq hJ36_l2 (ib_c 0 0 0 rfl) c82
              have h84 : ib J36_l2 0 0 := ib_w 0 0 h83.1 rfl
              exact jn109 J36_l2 J36_l3 H locs ls (ib_w 0 1 h84 rfl) (ib_w 0 52 hJ36_l3 rfl) (by exact hq) (fun q => absurd (ib_one h84 rfl) q) hP hD hS (lv_sub hl [0, 1, 2, 3] rfl)
            · as_aux_lemma =>
                replace hq := lf_neg hq (lf_ne (lf_rf J36_l2) (lf_lc 0 (0 : Int) rfl) c82)
                have h85 : ib J36_l2 1 1 := ib_w 1 1 (ib_ne_lo 0 hJ36_l2 rfl c82) rfl
                have h86 : ib x_taped 1 50 := (hJ36_gh c82).2
                have h87 : ib J36_l3 0 49 := ⟨(hJ36_l3).1, by have := (h86).1; have := (h86).2; have := (hJ36_l3).1; have := (hJ36_l3).2; have := mt Int32.le_iff_toInt_le.mpr c77; omega⟩
                refine lv_sipush (v := 256) hx hb dX10_see_45 rfl ?_
                refine lv_aload_n hx hb dX10_see_48 rfl (lv_at hl 0 rfl) ?_
                refine k_get C0 fg_X10_7 hP 0 rfl rfl dX10_see_49 ?_
                refine lv_iload_n hx hb dX10_see_52 rfl (lv_at hl 3 rfl) ?_
                refine lv_iconst (v := 1) hx hb dX10_see_53 rfl ?_
                refine lv_iadd hx hb dX10_see_54 ?_
                refine lv_topi (fun z88 ez88 => ?_)
                have h89 := ib_add h87 (ib_c 1 1 1 rfl) rfl
                rw [← ez88] at h89
                have h90 : ib z88 1 50 := ib_w 1 50 h89.1 rfl
                have Ez88 := lf_add h89.2 (lf_rf J36_l3) (lf_lc 1 (1 : Int) rfl)
                refine va_iald hx hb C0.2.2.2.2.2.1 hP 1 0 rfl rfl (ib_in 1600 h90 rfl) dX10_see_55 ?_
                refine lv_topi (fun z91 ez91 => ?_)
                have h92 : ib z91 0 255 := by rw [ez91]; exact ia_at hg_tape (ib_in 1600 h90 rfl)
                have Ez91 := lf_ld ez91 (lf_ra g_tape) Ez88
                refine lv_imul hx hb dX10_see_56 ?_
                refine lv_topi (fun z93 ez93 => ?_)
                have h94 := ib_mul (ib_c 256 256 256 rfl) h92 rfl
                rw [← ez93] at h94
                have h95 : ib z93 0 65280 := ib_w 0 65280 h94.1 rfl
                have h96 : z93.toInt = 256 * z91.toInt := by have q0 := h94.2; rw [show (256 : Int32).toInt = 256 from by decide] at q0; omega
                have Ez93 := lf_mul h94.2 (lf_lc 256 (256 : Int) rfl) Ez91
                refine lv_aload_n hx hb dX10_see_57 rfl (lv_at hl 0 rfl) ?_
                refine k_get C0 fg_X10_7 hP 0 rfl rfl dX10_see_58 ?_
                refine lv_iload_n hx hb dX10_see_61 rfl (lv_at hl 3 rfl) ?_
                refine lv_iconst (v := 2) hx hb dX10_see_62 rfl ?_
                as_aux_lemma =>
                  refine lv_iadd hx hb dX10_see_63 ?_
                  refine lv_topi (fun z97 ez97 => ?_)
                  have h98 := ib_add h87 (ib_c 2 2 2 rfl) rfl
                  rw [← ez97] at h98
                  have h99 : ib z97 2 51 := ib_w 2 51 h98.1 rfl
                  have Ez97 := lf_add h98.2 (lf_rf J36_l3) (lf_lc 2 (2 : Int) rfl)
                  refine va_iald hx hb C0.2.2.2.2.2.1 hP 1 0 rfl rfl (ib_in 1600 h99 rfl) dX10_see_64 ?_
                  refine lv_topi (fun z100 ez100 => ?_)
                  have h101 : ib z100 0 255 := by rw [ez100]; exact ia_at hg_tape (ib_in 1600 h99 rfl)
                  have Ez100 := lf_ld ez100 (lf_ra g_tape) Ez97
                  refine lv_iadd hx hb dX10_see_65 ?_
                  refine lv_topi (fun z102 ez102 => ?_)
                  have h103 := ib_add h95 h101 rfl
                  rw [← ez102] at h103
                  have h104 : ib z102 0 65535 := ib_w 0 65535 h103.1 rfl
                  have Ez102 := lf_add h103.2 Ez93 Ez100
                  refine lv_istore (lv' := [(4, .int z102), (0, .ref a_this), (1, .int x_taped), (2, .int J36_l2), (3, .int J36_l3)]) hx hb dX10_see_66 hl (Nat.le_of_ble_eq_true rfl) rfl (fun ls hl => ?_)
                  refine lv_aload_n hx hb dX10_see_68 rfl (lv_at hl 1 rfl) ?_
                  refine lv_aload_n hx hb dX10_see_69 rfl (lv_at hl 1 rfl) ?_
                  refine k_get C0 fg_X10_7 hP 0 rfl rfl dX10_see_70 ?_
                  refine lv_iload_n hx hb dX10_see_73 rfl (lv_at hl 4 rfl) ?_
                  refine va_iald hx hb C0.2.2.2.2.2.1 hP 1 0 rfl rfl (ib_in 1600 h87 rfl) dX10_see_74 ?_
                  refine lv_topi (fun z105 ez105 => ?_)
                  have h106 : ib z105 0 255 := by rw [ez105]; exact ia_at hg_tape (ib_in 1600 h87 rfl)
                  have Ez105 := lf_ld ez105 (lf_ra g_tape) (lf_rf J36_l3)
                  refine k_jim hP hD hS hA [0, 2] [false, true, false, true, true] rfl rfl rfl 0 0 (Nat.le_of_ble_eq_true rfl) (Nat.le_of_ble_eq_true rfl) (fun hPc hDc => k_runV (As := [.int z105]) (rest := []) C0 hZ hS hA (s_X10_isWalker l dC dI cy sq a_this rm 0 x_at x_end x_ended x_bad x_badPlace x_fault x_faultPlace x_namePlace x_awayTold x_away x_coded x_statements x_isCrossing x_textKind x_askSecond x_redMany x_isOpen x_lastGreen x_greenTo x_isCycleGreen x_stillGreen x_rowMany x_fitMany x_fitRules x_fitGreen x_undoable x_newest x_seeded x_qCoded x_qWaits x_qOpened x_qBase x_qPiled x_qAnswer x_qIsNew x_octets g_many z105 (ib_w 0 12 hg_many_3 rfl)) mV_X10_531 hPc hDc rfl rfl rfl hl rfl rfl (Nat.le_of_ble_eq_true rfl) ⟨(Nat.le_of_ble_eq_true rfl), (Nat.le_of_ble_eq_true rfl)⟩ ⟨(Nat.le_of_ble_eq_true rfl), (Nat.le_of_ble_eq_true rfl)⟩ dX10_see_75) (fun r107 u108 H locs hw hP hD hS => ?_)
                  try dsimp only at hP hD hw
                  replace hP : va_P (dC, dI) vwCl [(wi_rm0_0_1600_0 rm cy g_tape), (wi_rm9_0_6_0 rm cy g_refused), (wi_rm76_0_32_0 rm cy g_rows), (a_this, .inr (10, mfs rm 0 x_at x_end x_ended x_bad x_badPlace x_fault x_faultPlace x_namePlace x_awayTold x_away x_coded x_statements x_isCrossing x_textKind x_askSecond x_redMany x_isOpen x_lastGreen x_greenTo x_isCycleGreen x_stillGreen x_rowMany x_fitMany x_fitRules x_fitGreen x_undoable x_newest x_seeded x_qCoded x_qWaits x_qOpened x_qBase x_qPiled x_qAnswer x_qIsNew x_octets)), (wi_rm41_0_4_0 rm cy g_many)] H := hP
                  replace hD := k_D hP hD
                  obtain ⟨h109, h110, h111, h112⟩ := hw
                  as_aux_lemma =>
                    have h112 := by have h9 := h112; rw [lf_u Ez105] at h9; exact h9
                    replace hq := lf_b1 hq h112
                    refine lv_if_eq (tgt := 101) hx hb dX10_see_78 rfl (fun c113 => ?_) (fun c113 => ?_)
                    · replace hq := lf_pos hq (lf_eq (lf_rf r107) (lf_lc 0 (0 : Int) rfl) c113)
                      have h114 := ib_eq h109 (ib_c 0 0 0 rfl) c113
                      have h115 : ib r107 0 0 := ib_w 0 0 h114.1 rfl
                      exact jn101 z102 H locs ls (ib_w 1 50 h86 rfl) (ib_w 1 1 h85 rfl) (ib_w 0 49 h87 rfl) (ib_w 0 65535 h104 rfl) (by rw [lf_u Ez102]; exact hq) (hP.sub [3, 0, 4, 1, 2] rfl) (hD.sub [3, 0, 4, 1, 2] rfl rfl) hS (lv_sub hl [1, 2, 3, 4, 0] rfl)
                    · as_aux_lemma =>
                        replace hq := lf_neg hq (lf_ne (lf_rf r107) (lf_lc 0 (0 : Int) rfl) c113)
                        have h116 : ib r107 1 1 := ib_w 1 1 (ib_ne_lo 0 h109 rfl c113) rfl
                        have h117 : ib (g_many 3) 1 12 := ib_w 1 12 (ib_two hg_many_3 (h110 (ib_nz h116 rfl))) rfl
                        have h118 : ib z105 0 11 := ib_w 0 11 (ib_two h106 (h111 (ib_nz h116 rfl))) rfl
                        refine lv_iload hx hb dX10_see_81 (lv_at hl 0 rfl) ?_
                        refine lv_sipush (v := 300) hx hb dX10_see_83 rfl ?_
                        refine lv_icmp_lt (tgt := 97) hx hb dX10_see_86 rfl (fun c119 => ?_) (fun c119 => ?_)
                        · replace hq := lf_pos hq (lf_lt Ez102 (lf_lc 300 (300 : Int) rfl) c119)
                          have h120 := ib_lt h104 (ib_c 300 300 300 rfl) c119
                          have h121 : ib z102 0 299 := ib_w 0 299 h120.1 rfl
                          have h122 : ib z93 0 299 := ⟨by have := h103.2; have := (h121).1; have := (h121).2; have := (h95).1; have := (h95).2; have := (h101).1; have := (h101).2; omega, by have := h103.2; have := (h121).1; have := (h121).2; have := (h95).1; have := (h95).2; have := (h101).1; have := (h101).2; omega⟩
                          exact jn97 z102 H locs ls (ib_w 1 50 h86 rfl) (ib_w 1 1 h85 rfl) (ib_w 0 49 h87 rfl) (ib_w 0 65535 h121 rfl) (ib_w 1 12 h117 rfl) (by rw [lf_u Ez102]; exact hq) ((show ib (g_tape (Int32.toNatClampNeg J36_l3)) 0 11 by rw [← ez105]; exact ib_w 0 11 h118 rfl)) (hP.sub [3, 0, 4, 1, 2] rfl) (hD.sub [3, 0, 4, 1, 2] rfl rfl) hS (lv_sub hl [1, 2, 3, 4, 0] rfl)
                        · replace hq := lf_neg hq (lf_nlt Ez102 (lf_lc 300 (300 : Int) rfl) c119)
                          have h123 := ib_nlt h104 (ib_c 300 300 300 rfl) c119
                          have h124 : ib z102 300 65535 := ib_w 300 65535 h123.1 rfl
                          have h125 : ib z93 45 65280 := ⟨by have := h103.2; have := (h124).1; have := (h124).2; have := (h95).1; have := (h95).2; have := (h101).1; have := (h101).2; omega, by have := h103.2; have := (h124).1; have := (h124).2; have := (h95).1; have := (h95).2; have := (h101).1; have := (h101).2; omega⟩
                          refine lv_iload hx hb dX10_see_89 (lv_at hl 0 rfl) ?_
                          refine lv_ldcw hx hb C0.2.2.2.1 (C0.2.2.2.2.1 _ wd1206) dX10_see_91 ?_
                          refine lv_icmp_ne (tgt := 101) hx hb dX10_see_94 rfl (fun c126 => ?_) (fun c126 => ?_)
                          · replace hq := lf_neg hq (lf_ne Ez102 (lf_lc 65535 (65535 : Int) rfl) c126)
                            have h127 : ib z102 300 65534 := ib_w 300 65534 (ib_ne_hi 65535 h124 rfl c126) rfl
                            exact jn101 z102 H locs ls (ib_w 1 50 h86 rfl) (ib_w 1 1 h85 rfl) (ib_w 0 49 h87 rfl) (ib_w 0 65535 h127 rfl) (by rw [lf_u Ez102]; exact hq) (hP.sub [3, 0, 4, 1, 2] rfl) (hD.sub [3, 0, 4, 1, 2] rfl rfl) hS (lv_sub hl [1, 2, 3, 4, 0] rfl)
                          · replace hq := lf_pos hq (lf_eq Ez102 (lf_lc 65535 (65535 : Int) rfl) c126)
                            have h128 := ib_eq h124 (ib_c 65535 65535 65535 rfl) c126
                            have h129 : ib z102 65535 65535 := ib_w 65535 65535 h128.1 rfl
                            have h130 : ib z93 65280 65280 := ⟨by have := h103.2; have := (h129).1; have := (h129).2; have := (h125).1; have := (h125).2; have := (h101).1; have := (h101).2; omega, by have := h103.2; have := (h129).1; have := (h129).2; have := (h125).1; have := (h125).2; have := (h101).1; have := (h101).2; omega⟩
                            have h131 : ib z100 255 255 := ⟨by have := h103.2; have := (h129).1; have := (h129).2; have := (h125).1; have := (h125).2; have := (h101).1; have := (h101).2; omega, by have := h103.2; have := (h129).1; have := (h129).2; have := (h125).1; have := (h125).2; have := (h101).1; have := (h101).2; omega⟩
                            exact jn97 z102 H locs ls (ib_w 1 50 h86 rfl) (ib_w 1 1 h85 rfl) (ib_w 0 49 h87 rfl) (ib_w 0 65535 h129 rfl) (ib_w 1 12 h117 rfl) (by rw [lf_u Ez102]; exact hq) ((show ib (g_tape (Int32.toNatClampNeg J36_l3)) 0 11 by rw [← ez105]; exact ib_w 0 11 h118 rfl)) (hP.sub [3, 0, 4, 1, 2] rfl) (hD.sub [3, 0, 4, 1, 2] rfl rfl) hS (lv_sub hl [1, 2, 3, 4, 0] rfl)
  refine lv_aload_n hx hb dX10_see_0 rfl (lv_at hl 0 rfl) ?_
  refine k_get C0 fg_X10_276 hP 0 rfl rfl dX10_see_1 ?_
  refine lv_istore_n (lv' := [(1, .int x_taped), (0, .ref a_this)]) hx hb dX10_see_4 rfl hl (Nat.le_of_ble_eq_true rfl) rfl (fun ls hl => ?_)
  refine lv_aload_n hx hb dX10_see_5 rfl (lv_at hl 1 rfl) ?_
  refine lv_iconst (v := 0) hx hb dX10_see_6 rfl ?_
  refine k_put C0 fp_X10_276 hP hD hS 0 rfl rfl rfl (Nat.le_of_ble_eq_true rfl) dX10_see_7 (fun H locs hP hD hS => ?_)
  replace hP : va_P (dC, dI) vwCl [(a_this, .inr (10, mfs rm 0 x_at x_end x_ended x_bad x_badPlace x_fault x_faultPlace x_namePlace x_awayTold x_away x_coded x_statements x_isCrossing x_textKind x_askSecond x_redMany x_isOpen x_lastGreen x_greenTo x_isCycleGreen x_stillGreen x_rowMany x_fitMany x_fitRules x_fitGreen x_undoable x_newest x_seeded x_qCoded x_qWaits x_qOpened x_qBase x_qPiled x_qAnswer x_qIsNew x_octets)), (wi_rm0_0_1600_0 rm cy g_tape), (wi_rm41_0_4_0 rm cy g_many), (wi_rm9_0_6_0 rm cy g_refused), (wi_rm76_0_32_0 rm cy g_rows)] H := hP
  replace hD := k_D hP hD
  refine lv_iload_n hx hb dX10_see_10 rfl (lv_at hl 0 rfl) ?_
  refine lv_if_le (tgt := 32) hx hb dX10_see_11 rfl (fun c132 => ?_) (fun c132 => ?_)
  · replace hq := lf_pos hq (lf_le (lf_rf x_taped) (lf_lc 0 (0 : Int) rfl) c132)
    have h133 := ib_le hx_taped (ib_c 0 0 0 rfl) c132
    have h134 : ib x_taped 0 0 := ib_w 0 0 h133.1 rfl
    refine lv_iconst (v := 0) hx hb dX10_see_32 rfl ?_
    refine lv_istore_n (lv' := [(2, .int 0), (1, .int x_taped), (0, .ref a_this)]) hx hb dX10_see_33 rfl hl (Nat.le_of_ble_eq_true rfl) rfl (fun ls hl => ?_)
    refine lv_iconst (v := 0) hx hb dX10_see_34 rfl ?_
    refine lv_istore_n (lv' := [(3, .int 0), (2, .int 0), (1, .int x_taped), (0, .ref a_this)]) hx hb dX10_see_35 rfl hl (Nat.le_of_ble_eq_true rfl) rfl (fun ls hl => ?_)
    exact jn36 54 0 0 H locs ls (ib_w 0 1 (ib_c 0 0 0 rfl) rfl) (ib_w 0 52 (ib_c 0 0 0 rfl) rfl) (by try simp only [show (0 : Int32).toInt = (0 : Int) from rfl]; exact hq) (fun q => absurd rfl q) (by have := (ib_c 0 0 0 rfl); unfold ib at this; omega) hP hD hS (lv_sub hl [3, 2, 1, 0] rfl)
  · as_aux_lemma =>
      replace hq := lf_neg hq (lf_nle (lf_rf x_taped) (lf_lc 0 (0 : Int) rfl) c132)
      have h135 := ib_nle hx_taped (ib_c 0 0 0 rfl) c132
      have h136 : ib x_taped 1 1600 := ib_w 1 1600 h135.1 rfl
      refine lv_iload_n hx hb dX10_see_14 rfl (lv_at hl 0 rfl) ?_
      refine lv_iconst (v := 3) hx hb dX10_see_15 rfl ?_
      refine lv_irem hx hb dX10_see_16 (by decide) ?_
      refine lv_topi (fun z137 ez137 => ?_)
      have h138 : ib z137 0 2 := by rw [ez137]; exact ib_w 0 2 (ib_rem h136 (ib_c 3 3 3 rfl) rfl) rfl
      have Ez137 := lf_op lf_irem ez137 (lf_rf x_taped) (lf_lc 3 (3 : Int) rfl)
      refine lv_if_ne (tgt := 32) hx hb dX10_see_17 rfl (fun c139 => ?_) (fun c139 => ?_)
      · replace hq := lf_neg hq (lf_ne Ez137 (lf_lc 0 (0 : Int) rfl) c139)
        have h140 : ib z137 1 2 := ib_w 1 2 (ib_ne_lo 0 h138 rfl c139) rfl
        refine lv_iconst (v := 0) hx hb dX10_see_32 rfl ?_
        refine lv_istore_n (lv' := [(2, .int 0), (1, .int x_taped), (0, .ref a_this)]) hx hb dX10_see_33 rfl hl (Nat.le_of_ble_eq_true rfl) rfl (fun ls hl => ?_)
        refine lv_iconst (v := 0) hx hb dX10_see_34 rfl ?_
        refine lv_istore_n (lv' := [(3, .int 0), (2, .int 0), (1, .int x_taped), (0, .ref a_this)]) hx hb dX10_see_35 rfl hl (Nat.le_of_ble_eq_true rfl) rfl (fun ls hl => ?_)
        exact jn36 54 0 0 H locs ls (ib_w 0 1 (ib_c 0 0 0 rfl) rfl) (ib_w 0 52 (ib_c 0 0 0 rfl) rfl) (by try simp only [show (0 : Int32).toInt = (0 : Int) from rfl]; exact hq) (fun q => absurd rfl q) (by have := (ib_c 0 0 0 rfl); unfold ib at this; omega) hP hD hS (lv_sub hl [3, 2, 1, 0] rfl)
      · as_aux_lemma =>
          replace hq := lf_pos hq (lf_eq Ez137 (lf_lc 0 (0 : Int) rfl) c139)
          have h141 := ib_eq h138 (ib_c 0 0 0 rfl) c139
          have h142 : ib z137 0 0 := ib_w 0 0 h141.1 rfl
          refine lv_iload_n hx hb dX10_see_20 rfl (lv_at hl 0 rfl) ?_
          refine lv_iconst (v := 3) hx hb dX10_see_21 rfl ?_
          refine lv_idiv hx hb dX10_see_22 (by decide) ?_
          refine lv_topi (fun z143 ez143 => ?_)
          have h144 : 3 * z143.toInt ≤ x_taped.toInt ∧ x_taped.toInt < 3 * z143.toInt + 3 := by rw [ez143]; exact ib_dv2 3 3 rfl h136 (by decide) (by decide)
          have h145 : ib z143 0 533 := by rw [ez143]; exact ib_w 0 533 (ib_div h136 (ib_c 3 3 3 rfl) rfl) rfl
          have Ez143 := lf_op lf_idiv ez143 (lf_rf x_taped) (lf_lc 3 (3 : Int) rfl)
          refine lv_bipush (v := 16) hx hb dX10_see_23 rfl ?_
          refine lv_icmp_gt (tgt := 32) hx hb dX10_see_25 rfl (fun c146 => ?_) (fun c146 => ?_)
          · replace hq := lf_pos hq (lf_lt (lf_lc 16 (16 : Int) rfl) Ez143 c146)
            have h147 := ib_lt (ib_c 16 16 16 rfl) h145 c146
            have h148 : ib z143 17 533 := ib_w 17 533 h147.2 rfl
            have h149 : ib x_taped 51 1600 := ⟨by have q1 := (h144).1; have q2 := (h144).2; have := (h148).1; have := (h148).2; have := (h136).1; have := (h136).2; omega, by have q1 := (h144).1; have q2 := (h144).2; have := (h148).1; have := (h148).2; have := (h136).1; have := (h136).2; omega⟩
            refine lv_iconst (v := 0) hx hb dX10_see_32 rfl ?_
            refine lv_istore_n (lv' := [(2, .int 0), (1, .int x_taped), (0, .ref a_this)]) hx hb dX10_see_33 rfl hl (Nat.le_of_ble_eq_true rfl) rfl (fun ls hl => ?_)
            refine lv_iconst (v := 0) hx hb dX10_see_34 rfl ?_
            refine lv_istore_n (lv' := [(3, .int 0), (2, .int 0), (1, .int x_taped), (0, .ref a_this)]) hx hb dX10_see_35 rfl hl (Nat.le_of_ble_eq_true rfl) rfl (fun ls hl => ?_)
            exact jn36 54 0 0 H locs ls (ib_w 0 1 (ib_c 0 0 0 rfl) rfl) (ib_w 0 52 (ib_c 0 0 0 rfl) rfl) (by try simp only [show (0 : Int32).toInt = (0 : Int) from rfl]; exact hq) (fun q => absurd rfl q) (by have := (ib_c 0 0 0 rfl); unfold ib at this; omega) hP hD hS (lv_sub hl [3, 2, 1, 0] rfl)
          · replace hq := lf_neg hq (lf_nlt (lf_lc 16 (16 : Int) rfl) Ez143 c146)
            have h150 := ib_nlt (ib_c 16 16 16 rfl) h145 c146
            have h151 : ib z143 0 16 := ib_w 0 16 h150.2 rfl
            have h152 : ib x_taped 1 50 := ⟨by have q1 := (h144).1; have q2 := (h144).2; have := (h151).1; have := (h151).2; have := (h136).1; have := (h136).2; omega, by have q1 := (h144).1; have q2 := (h144).2; have := (h151).1; have := (h151).2; have := (h136).1; have := (h136).2; omega⟩
            refine lv_iconst (v := 1) hx hb dX10_see_28 rfl ?_
            refine lv_goto (tgt := 33) hx hb dX10_see_29 rfl ?_
            refine lv_istore_n (lv' := [(2, .int 1), (1, .int x_taped), (0, .ref a_this)]) hx hb dX10_see_33 rfl hl (Nat.le_of_ble_eq_true rfl) rfl (fun ls hl => ?_)
            refine lv_iconst (v := 0) hx hb dX10_see_34 rfl ?_
            refine lv_istore_n (lv' := [(3, .int 0), (2, .int 1), (1, .int x_taped), (0, .ref a_this)]) hx hb dX10_see_35 rfl hl (Nat.le_of_ble_eq_true rfl) rfl (fun ls hl => ?_)
            exact jn36 54 1 0 H locs ls (ib_w 0 1 (ib_c 1 1 1 rfl) rfl) (ib_w 0 52 (ib_c 0 0 0 rfl) rfl) (by try simp only [show (1 : Int32).toInt = (1 : Int) from rfl]; try simp only [show (0 : Int32).toInt = (0 : Int) from rfl]; exact hq) (fun _ => ⟨sd_0 _, ib_w 1 50 h152 rfl⟩) (by have := (ib_c 0 0 0 rfl); unfold ib at this; omega) hP hD hS (lv_sub hl [3, 2, 1, 0] rfl)
set_option maxHeartbeats 4000000 in
set_option maxRecDepth 100000 in
theorem s_X10_seed (l : Launch) (dC : Nat → ClassId) (dI : Nat → Nat → Nat) (cy : Nat → ClassId) (sq : Nat → Nat) (a_this : Nat) (rm : Nat → Nat) (x_taped : Int32) (x_at : Int32) (x_end : Int32) (x_ended : Int32) (x_bad : Int32) (x_badPlace : Int32) (x_fault : Int32) (x_faultPlace : Int32) (x_namePlace : Int32) (x_awayTold : Int32) (x_away : Int32) (x_coded : Int32) (x_statements : Int32) (x_isCrossing : Int32) (x_textKind : Int32) (x_askSecond : Int32) (x_redMany : Int32) (x_isOpen : Int32) (x_lastGreen : Int32) (x_greenTo : Int32) (x_isCycleGreen : Int32) (x_stillGreen : Int32) (x_rowMany : Int32) (x_fitMany : Int32) (x_fitRules : Int32) (x_fitGreen : Int32) (x_undoable : Int32) (x_newest : Int32) (x_seeded : Int64) (x_qCoded : Int32) (x_qWaits : Int32) (x_qOpened : Int32) (x_qBase : Int32) (x_qPiled : Int32) (x_qAnswer : Int64) (x_qIsNew : Int32) (x_octets : Int32) (g_refused : Nat → Int32) (p0 : Int32)  : k_Met l yX10_seed cX10_seed 2 (some .boolean) { frames := 0, cells := 0, slots := 0, locals := 0 } dC dI cy sq [.ref a_this, .int p0] [(a_this, .inr (10, mfs rm x_taped x_at x_end x_ended x_bad x_badPlace x_fault x_faultPlace x_namePlace x_awayTold x_away x_coded x_statements x_isCrossing x_textKind x_askSecond x_redMany x_isOpen x_lastGreen x_greenTo x_isCycleGreen x_stillGreen x_rowMany x_fitMany x_fitRules x_fitGreen x_undoable x_newest x_seeded x_qCoded x_qWaits x_qOpened x_qBase x_qPiled x_qAnswer x_qIsNew x_octets)), (wi_rm9_0_6_0 rm cy g_refused)] (k_Qi dC dI (fun (r : Int32) (u : Int64 × (Nat → Int32)) => match u with | (n0, n1) => ib r 0 1 ∧ (¬ r = 0 → ib p0 0 2147483647) ∧ (r = 0 ↔ ¬ 0 ≤ p0) ∧ (F_X10_seed (Int64.toInt x_seeded) (lf_A g_refused) (Int32.toInt p0) = ((Int32.toInt r), (Int64.toInt n0), (lf_A n1)))) (fun u : Int64 × (Nat → Int32) => match u with | (n0, n1) => [(a_this, .inr (10, mfs rm x_taped x_at x_end x_ended x_bad x_badPlace x_fault x_faultPlace x_namePlace x_awayTold x_away x_coded x_statements x_isCrossing x_textKind x_askSecond x_redMany x_isOpen x_lastGreen x_greenTo x_isCycleGreen x_stillGreen x_rowMany x_fitMany x_fitRules x_fitGreen x_undoable x_newest n0 x_qCoded x_qWaits x_qOpened x_qBase x_qPiled x_qAnswer x_qIsNew x_octets)), (wi_rm9_0_6_0 rm cy n1)])) := by
  refine k_ofW2 (by decide +kernel) (Nat.le_of_ble_eq_true rfl) ?_
  intro p e s m below meth c A ls H locs args Q hQ C0 hZ hr hlk hin hP hD hA hS hl
  have C0 : k_cx p s m args c cX10_seed 2 RX10 dC dI cy sq := C0
  have hx := C0.1
  have hb := C0.2.1
  have hl : lv_has ls 2 [(0, .ref a_this), (1, .int p0)] := hl
  obtain ⟨O, hO⟩ : ∃ o, o = F_X10_seed (Int64.toInt x_seeded) (lf_A g_refused) (Int32.toInt p0) := ⟨_, rfl⟩
  have hq := hO
  unfold F_X10_seed at hq
  refine lv_iload_n hx hb dX10_seed_0 rfl (lv_at hl 1 rfl) ?_
  refine lv_if_ge (tgt := 16) hx hb dX10_seed_1 rfl (fun c1 => ?_) (fun c1 => ?_)
  · replace hq := lf_pos hq (lf_le (lf_lc 0 (0 : Int) rfl) (lf_rf p0) c1)
    have h2 := ib_le (ib_c 0 0 0 rfl) (ib_any p0) c1
    have h3 : ib p0 0 2147483647 := ib_w 0 2147483647 h2.2 rfl
    refine lv_aload_n hx hb dX10_seed_16 rfl (lv_at hl 0 rfl) ?_
    refine lv_iload_n hx hb dX10_seed_17 rfl (lv_at hl 1 rfl) ?_
    refine lv_i2l (v := p0.toInt64) hx hb dX10_seed_18 rfl ?_
    refine k_put C0 fp_X10_185 hP hD hS 0 rfl rfl rfl (Nat.le_of_ble_eq_true rfl) dX10_seed_19 (fun H locs hP hD hS => ?_)
    replace hP : va_P (dC, dI) vwCl [(a_this, .inr (10, mfs rm x_taped x_at x_end x_ended x_bad x_badPlace x_fault x_faultPlace x_namePlace x_awayTold x_away x_coded x_statements x_isCrossing x_textKind x_askSecond x_redMany x_isOpen x_lastGreen x_greenTo x_isCycleGreen x_stillGreen x_rowMany x_fitMany x_fitRules x_fitGreen x_undoable x_newest p0.toInt64 x_qCoded x_qWaits x_qOpened x_qBase x_qPiled x_qAnswer x_qIsNew x_octets)), (wi_rm9_0_6_0 rm cy g_refused)] H := hP
    replace hD := k_D hP hD
    refine lv_iconst (v := 1) hx hb dX10_seed_22 rfl ?_
    subst hQ; exact k_iret hx hb hr hlk (k_nb 1 rfl) ((p0.toInt64, g_refused)) hS ⟨ib_w 0 1 (ib_c 1 1 1 rfl) rfl, fun _ => ib_w 0 2147483647 h3 rfl, ⟨fun q => absurd q (by decide), fun q => absurd c1 q⟩, (hO.symm.trans (by try simp only [show (1 : Int32).toInt = (1 : Int) from rfl]; rw [lf_ul (lf_i2l (lf_rf p0))]; exact hq))⟩ hP hD (Nat.le_of_ble_eq_true rfl) (Nat.le_of_ble_eq_true rfl) dX10_seed_23
  · replace hq := lf_neg hq (lf_nle (lf_lc 0 (0 : Int) rfl) (lf_rf p0) c1)
    have h4 := ib_nle (ib_c 0 0 0 rfl) (ib_any p0) c1
    have h5 : ib p0 (-2147483648) (-1) := ib_w (-2147483648) (-1) h4.2 rfl
    refine lv_aload_n hx hb dX10_seed_4 rfl (lv_at hl 0 rfl) ?_
    refine k_get C0 fg_X10_17 hP 0 rfl rfl dX10_seed_5 ?_
    refine lv_iconst (v := 5) hx hb dX10_seed_8 rfl ?_
    refine lv_dup2_11 hx hb dX10_seed_9 rfl rfl ?_
    refine va_iald hx hb C0.2.2.2.2.2.1 hP 1 0 rfl rfl (k_in 5 6 rfl) dX10_seed_10 ?_
    refine lv_topi (fun z6 ez6 => ?_)
    have Ez6 := lf_ld ez6 (lf_ra g_refused) (lf_lc 5 (5 : Int) rfl)
    refine lv_iconst (v := 1) hx hb dX10_seed_11 rfl ?_
    refine lv_iadd hx hb dX10_seed_12 ?_
    refine lv_topi (fun z7 ez7 => ?_)
    have Ez7 := lf_op lf_iadd ez7 Ez6 (lf_lc 1 (1 : Int) rfl)
    refine va_iast hx hb C0.2.2.2.2.2.1 hP hD hS 1 0 rfl rfl (k_in 5 6 rfl) dX10_seed_13 (fun H locs hP hD hS => ?_)
    replace hP : va_P (dC, dI) vwCl [(a_this, .inr (10, mfs rm x_taped x_at x_end x_ended x_bad x_badPlace x_fault x_faultPlace x_namePlace x_awayTold x_away x_coded x_statements x_isCrossing x_textKind x_askSecond x_redMany x_isOpen x_lastGreen x_greenTo x_isCycleGreen x_stillGreen x_rowMany x_fitMany x_fitRules x_fitGreen x_undoable x_newest x_seeded x_qCoded x_qWaits x_qOpened x_qBase x_qPiled x_qAnswer x_qIsNew x_octets)), (wi_rm9_0_6_0 rm cy (upd g_refused 5 z7))] H := hP
    replace hD := k_D hP hD
    generalize ef8 : upd g_refused 5 z7 = f8 at hP hD
    have Ef8 := lf_stn (X := (5 : Int)) ef8 (lf_ra g_refused) rfl Ez7
    refine lv_iconst (v := 0) hx hb dX10_seed_14 rfl ?_
    subst hQ; exact k_iret hx hb hr hlk (k_nb 0 rfl) ((x_seeded, f8)) hS ⟨ib_w 0 1 (ib_c 0 0 0 rfl) rfl, fun hq9 => absurd rfl hq9, ⟨fun _ => c1, fun _ => rfl⟩, (hO.symm.trans (by try simp only [show (0 : Int32).toInt = (0 : Int) from rfl]; rw [lf_ua Ef8]; exact hq))⟩ hP hD (Nat.le_of_ble_eq_true rfl) (Nat.le_of_ble_eq_true rfl) dX10_seed_15
set_option maxHeartbeats 4000000 in
set_option maxRecDepth 100000 in
theorem s_X10_status (l : Launch) (dC : Nat → ClassId) (dI : Nat → Nat → Nat) (cy : Nat → ClassId) (sq : Nat → Nat) (a_this : Nat) (rm : Nat → Nat) (x_taped : Int32) (x_at : Int32) (x_end : Int32) (x_ended : Int32) (x_bad : Int32) (x_badPlace : Int32) (x_fault : Int32) (x_faultPlace : Int32) (x_namePlace : Int32) (x_awayTold : Int32) (x_away : Int32) (x_coded : Int32) (x_statements : Int32) (x_isCrossing : Int32) (x_textKind : Int32) (x_askSecond : Int32) (x_redMany : Int32) (x_isOpen : Int32) (x_lastGreen : Int32) (x_greenTo : Int32) (x_isCycleGreen : Int32) (x_stillGreen : Int32) (x_rowMany : Int32) (x_fitMany : Int32) (x_fitRules : Int32) (x_fitGreen : Int32) (x_undoable : Int32) (x_newest : Int32) (x_seeded : Int64) (x_qCoded : Int32) (x_qWaits : Int32) (x_qOpened : Int32) (x_qBase : Int32) (x_qPiled : Int32) (x_qAnswer : Int64) (x_qIsNew : Int32) (x_octets : Int32) (g_refused : Nat → Int32) (p0 : Int32)  : k_Met l yX10_status cX10_status 2 (some .int) { frames := 1, cells := 0, slots := 0, locals := 25 } dC dI cy sq [.ref a_this, .int p0] [(a_this, .inr (10, mfs rm x_taped x_at x_end x_ended x_bad x_badPlace x_fault x_faultPlace x_namePlace x_awayTold x_away x_coded x_statements x_isCrossing x_textKind x_askSecond x_redMany x_isOpen x_lastGreen x_greenTo x_isCycleGreen x_stillGreen x_rowMany x_fitMany x_fitRules x_fitGreen x_undoable x_newest x_seeded x_qCoded x_qWaits x_qOpened x_qBase x_qPiled x_qAnswer x_qIsNew x_octets)), (wi_rm9_0_6_0 rm cy g_refused)] (k_Qi dC dI (fun (r : Int32) (_ : Unit) => (F_X10_status (lf_A g_refused) (Int32.toInt p0) = ((Int32.toInt r)))) (fun _ : Unit => [(a_this, .inr (10, mfs rm x_taped x_at x_end x_ended x_bad x_badPlace x_fault x_faultPlace x_namePlace x_awayTold x_away x_coded x_statements x_isCrossing x_textKind x_askSecond x_redMany x_isOpen x_lastGreen x_greenTo x_isCycleGreen x_stillGreen x_rowMany x_fitMany x_fitRules x_fitGreen x_undoable x_newest x_seeded x_qCoded x_qWaits x_qOpened x_qBase x_qPiled x_qAnswer x_qIsNew x_octets)), (wi_rm9_0_6_0 rm cy g_refused)])) := by
  refine k_ofW2 (by decide +kernel) (Nat.le_of_ble_eq_true rfl) ?_
  intro p e s m below meth c A ls H locs args Q hQ C0 hZ hr hlk hin hP hD hA hS hl
  have C0 : k_cx p s m args c cX10_status 2 RX10 dC dI cy sq := C0
  have hx := C0.1
  have hb := C0.2.1
  have hl : lv_has ls 2 [(0, .ref a_this), (1, .int p0)] := hl
  obtain ⟨O, hO⟩ : ∃ o, o = F_X10_status (lf_A g_refused) (Int32.toInt p0) := ⟨_, rfl⟩
  have hq := hO
  unfold F_X10_status at hq
  refine lv_iload_n hx hb dX10_status_0 rfl (lv_at hl 1 rfl) ?_
  refine lv_i2l (v := p0.toInt64) hx hb dX10_status_1 rfl ?_
  refine lv_lconst (v := 0) hx hb dX10_status_2 (by decide) ?_
  refine lv_ldc2 hx hb C0.2.2.2.1 (C0.2.2.2.2.1 _ wd789) dX10_status_3 ?_
  refine k_jim hP hD hS hA [] [true, true] rfl rfl rfl 0 0 (Nat.le_of_ble_eq_true rfl) (Nat.le_of_ble_eq_true rfl) (fun hPc hDc => k_runS (As := [.long p0.toInt64, .long 0, .long 5]) (rest := []) C0 hZ hS hA (c_isIn l dC dI cy sq p0.toInt64 0 5) mS_X10_318 hPc hDc hl rfl rfl (Nat.le_of_ble_eq_true rfl) ⟨(Nat.le_of_ble_eq_true rfl), (Nat.le_of_ble_eq_true rfl)⟩ ⟨(Nat.le_of_ble_eq_true rfl), (Nat.le_of_ble_eq_true rfl)⟩ dX10_status_6) (fun r1 u2 H locs hw hP hD hS => ?_)
  replace hP : va_P (dC, dI) vwCl [(a_this, .inr (10, mfs rm x_taped x_at x_end x_ended x_bad x_badPlace x_fault x_faultPlace x_namePlace x_awayTold x_away x_coded x_statements x_isCrossing x_textKind x_askSecond x_redMany x_isOpen x_lastGreen x_greenTo x_isCycleGreen x_stillGreen x_rowMany x_fitMany x_fitRules x_fitGreen x_undoable x_newest x_seeded x_qCoded x_qWaits x_qOpened x_qBase x_qPiled x_qAnswer x_qIsNew x_octets)), (wi_rm9_0_6_0 rm cy g_refused)] H := hP
  replace hD := k_D hP hD
  have h3 := hw
  have h4 : ib r1 0 1 := by rw [h3]; exact k_isf_01 _ _ _
  have Er1 := lf_isine h3 (lf_i2l (lf_rf p0)) (lf_ll 0 (0 : Int) rfl) (lf_ll 5 (5 : Int) rfl)
  refine lv_if_eq (tgt := 21) hx hb dX10_status_9 rfl (fun c5 => ?_) (fun c5 => ?_)
  · replace hq := lf_pos hq (lf_eq Er1 (lf_lc 0 (0 : Int) rfl) c5)
    have h6 := ib_eq h4 (ib_c 0 0 0 rfl) c5
    have h7 : ib r1 0 0 := ib_w 0 0 h6.1 rfl
    refine lv_iconst (v := (-1)) hx hb dX10_status_21 rfl ?_
    subst hQ; exact k_iret hx hb hr hlk rfl () hS ((hO.symm.trans (by try simp only [show ((-1) : Int32).toInt = (-1 : Int) from rfl]; exact hq))) hP hD (Nat.le_of_ble_eq_true rfl) (Nat.le_of_ble_eq_true rfl) dX10_status_22
  · replace hq := lf_neg hq (lf_ne Er1 (lf_lc 0 (0 : Int) rfl) c5)
    have h8 : ib r1 1 1 := ib_w 1 1 (ib_ne_lo 0 h4 rfl c5) rfl
    have h9 : ib p0 0 5 := ib_w 0 5 (ib_two (ib_any p0) (k_isf_v h3 (show 0 ≤ (0 : Int64).toInt by decide) (show (5 : Int64).toInt ≤ 5 by decide) (ib_nz h8 rfl))) rfl
    refine lv_aload_n hx hb dX10_status_12 rfl (lv_at hl 0 rfl) ?_
    refine k_get C0 fg_X10_17 hP 0 rfl rfl dX10_status_13 ?_
    refine lv_iload_n hx hb dX10_status_16 rfl (lv_at hl 1 rfl) ?_
    refine va_iald hx hb C0.2.2.2.2.2.1 hP 1 0 rfl rfl (ib_in 6 h9 rfl) dX10_status_17 ?_
    refine lv_topi (fun z10 ez10 => ?_)
    have Ez10 := lf_ld ez10 (lf_ra g_refused) (lf_rf p0)
    refine lv_goto (tgt := 22) hx hb dX10_status_18 rfl ?_
    subst hQ; exact k_iret hx hb hr hlk rfl () hS ((hO.symm.trans (by rw [lf_u Ez10]; exact hq))) hP hD (Nat.le_of_ble_eq_true rfl) (Nat.le_of_ble_eq_true rfl) dX10_status_22
set_option maxHeartbeats 4000000 in
set_option maxRecDepth 100000 in
theorem s_X10_trust (l : Launch) (dC : Nat → ClassId) (dI : Nat → Nat → Nat) (cy : Nat → ClassId) (sq : Nat → Nat) (a_this : Nat) (rm : Nat → Nat) (x_taped : Int32) (x_at : Int32) (x_end : Int32) (x_ended : Int32) (x_bad : Int32) (x_badPlace : Int32) (x_fault : Int32) (x_faultPlace : Int32) (x_namePlace : Int32) (x_awayTold : Int32) (x_away : Int32) (x_coded : Int32) (x_statements : Int32) (x_isCrossing : Int32) (x_textKind : Int32) (x_askSecond : Int32) (x_redMany : Int32) (x_isOpen : Int32) (x_lastGreen : Int32) (x_greenTo : Int32) (x_isCycleGreen : Int32) (x_stillGreen : Int32) (x_rowMany : Int32) (x_fitMany : Int32) (x_fitRules : Int32) (x_fitGreen : Int32) (x_undoable : Int32) (x_newest : Int32) (x_seeded : Int64) (x_qCoded : Int32) (x_qWaits : Int32) (x_qOpened : Int32) (x_qBase : Int32) (x_qPiled : Int32) (x_qAnswer : Int64) (x_qIsNew : Int32) (x_octets : Int32) (g_refused : Nat → Int32) (g_many : Nat → Int32) (g_now : Nat → Int32) (g_kept0 : Nat → Int32) (p0 : Int32) (p1 : Int32) (hx_undoable : ib x_undoable 0 20) (hx_newest : ib x_newest 0 19) (hg_many_2 : ib (g_many 2) 0 6) : k_Met l yX10_trust cX10_trust 3 (some .boolean) { frames := 2, cells := 0, slots := 0, locals := 46 } dC dI cy sq [.ref a_this, .int p0, .int p1] [(a_this, .inr (10, mfs rm x_taped x_at x_end x_ended x_bad x_badPlace x_fault x_faultPlace x_namePlace x_awayTold x_away x_coded x_statements x_isCrossing x_textKind x_askSecond x_redMany x_isOpen x_lastGreen x_greenTo x_isCycleGreen x_stillGreen x_rowMany x_fitMany x_fitRules x_fitGreen x_undoable x_newest x_seeded x_qCoded x_qWaits x_qOpened x_qBase x_qPiled x_qAnswer x_qIsNew x_octets)), (wi_rm41_0_4_0 rm cy g_many), (wi_rm56_0_9_0 rm cy g_now), (wi_rm81_0_180_0 rm cy g_kept0), (wi_rm9_0_6_0 rm cy g_refused)] (k_Qi dC dI (fun (r : Int32) (u : Int32 × Int32 × (Nat → Int32) × (Nat → Int32) × (Nat → Int32)) => match u with | (n0, n1, n2, n3, n4) => ib n0 0 20 ∧ ib n1 0 19 ∧ ib r 0 1 ∧ (¬ r = 0 → ib n0 1 20) ∧ (¬ r = 0 → ib (g_many 2) 1 6) ∧ (¬ r = 0 → ib p0 0 5) ∧ (¬ r = 0 → ib p1 0 9) ∧ (F_X10_trust (Int32.toInt x_undoable) (Int32.toInt x_newest) (lf_A g_refused) (lf_A g_many) (lf_A g_now) (lf_A g_kept0) (Int32.toInt p0) (Int32.toInt p1) = ((Int32.toInt r), (Int32.toInt n0), (Int32.toInt n1), (lf_A n2), (lf_A n3), (lf_A n4)))) (fun u : Int32 × Int32 × (Nat → Int32) × (Nat → Int32) × (Nat → Int32) => match u with | (n0, n1, n2, n3, n4) => [(a_this, .inr (10, mfs rm x_taped x_at x_end x_ended x_bad x_badPlace x_fault x_faultPlace x_namePlace x_awayTold x_away x_coded x_statements x_isCrossing x_textKind x_askSecond x_redMany x_isOpen x_lastGreen x_greenTo x_isCycleGreen x_stillGreen x_rowMany x_fitMany x_fitRules x_fitGreen n0 n1 x_seeded x_qCoded x_qWaits x_qOpened x_qBase x_qPiled x_qAnswer x_qIsNew x_octets)), (wi_rm41_0_4_0 rm cy g_many), (wi_rm56_0_9_0 rm cy n2), (wi_rm81_0_180_0 rm cy n3), (wi_rm9_0_6_0 rm cy n4)])) := by
  refine k_ofW2 (by decide +kernel) (Nat.le_of_ble_eq_true rfl) ?_
  intro p e s m below meth c A ls H locs args Q hQ C0 hZ hr hlk hin hP hD hA hS hl
  have C0 : k_cx p s m args c cX10_trust 3 RX10 dC dI cy sq := C0
  have hx := C0.1
  have hb := C0.2.1
  have hl : lv_has ls 3 [(0, .ref a_this), (1, .int p0), (2, .int p1)] := hl
  obtain ⟨O, hO⟩ : ∃ o, o = F_X10_trust (Int32.toInt x_undoable) (Int32.toInt x_newest) (lf_A g_refused) (lf_A g_many) (lf_A g_now) (lf_A g_kept0) (Int32.toInt p0) (Int32.toInt p1) := ⟨_, rfl⟩
  have hq := hO
  unfold F_X10_trust at hq
  have jn29 : ∀  (H : Heap) (locs : List Loc) (ls : Array Slot), (O = F_X10_trust_29 (Int32.toInt x_undoable) (Int32.toInt x_newest) (lf_A g_refused) (lf_A g_now) (lf_A g_kept0) ) → va_P (dC, dI) vwCl [(a_this, .inr (10, mfs rm x_taped x_at x_end x_ended x_bad x_badPlace x_fault x_faultPlace x_namePlace x_awayTold x_away x_coded x_statements x_isCrossing x_textKind x_askSecond x_redMany x_isOpen x_lastGreen x_greenTo x_isCycleGreen x_stillGreen x_rowMany x_fitMany x_fitRules x_fitGreen x_undoable x_newest x_seeded x_qCoded x_qWaits x_qOpened x_qBase x_qPiled x_qAnswer x_qIsNew x_octets)), (wi_rm41_0_4_0 rm cy g_many), (wi_rm56_0_9_0 rm cy g_now), (wi_rm81_0_180_0 rm cy g_kept0), (wi_rm9_0_6_0 rm cy g_refused)] H → va_D A [(a_this, .inr (10, mfs rm x_taped x_at x_end x_ended x_bad x_badPlace x_fault x_faultPlace x_namePlace x_awayTold x_away x_coded x_statements x_isCrossing x_textKind x_askSecond x_redMany x_isOpen x_lastGreen x_greenTo x_isCycleGreen x_stillGreen x_rowMany x_fitMany x_fitRules x_fitGreen x_undoable x_newest x_seeded x_qCoded x_qWaits x_qOpened x_qBase x_qPiled x_qAnswer x_qIsNew x_octets)), (wi_rm41_0_4_0 rm cy g_many), (wi_rm56_0_9_0 rm cy g_now), (wi_rm81_0_180_0 rm cy g_kept0), (wi_rm9_0_6_0 rm cy g_refused)] → va_S A s.heap H locs → lv_has ls 3 [(0, .ref a_this), (1, .int p0), (2, .int p1)] → W p l e { frames := 2, cells := 0, slots := 0, locals := 46 } s m args below meth c H locs 0 0 Q (F0 m 29 ls []) := by
    intro H locs ls hq hP hD hS hl
    unfold F_X10_trust_29 at hq
    refine lv_aload_n hx hb dX10_trust_29 rfl (lv_at hl 0 rfl) ?_
    refine k_jim hP hD hS hA [0, 4] [false, true, true, true] rfl rfl rfl 0 0 (Nat.le_of_ble_eq_true rfl) (Nat.le_of_ble_eq_true rfl) (fun hPc hDc => k_runV (As := []) (rest := []) C0 hZ hS hA (s_X10_isRefused l dC dI cy sq a_this rm x_taped x_at x_end x_ended x_bad x_badPlace x_fault x_faultPlace x_namePlace x_awayTold x_away x_coded x_statements x_isCrossing x_textKind x_askSecond x_redMany x_isOpen x_lastGreen x_greenTo x_isCycleGreen x_stillGreen x_rowMany x_fitMany x_fitRules x_fitGreen x_undoable x_newest x_seeded x_qCoded x_qWaits x_qOpened x_qBase x_qPiled x_qAnswer x_qIsNew x_octets g_refused ) mV_X10_591 hPc hDc rfl rfl rfl hl rfl rfl (Nat.le_of_ble_eq_true rfl) ⟨(Nat.le_of_ble_eq_true rfl), (Nat.le_of_ble_eq_true rfl)⟩ ⟨(Nat.le_of_ble_eq_true rfl), (Nat.le_of_ble_eq_true rfl)⟩ dX10_trust_30) (fun r1 u2 H locs hw hP hD hS => ?_)
    obtain ⟨f3, ef3⟩ : ∃ z, z = u2 := ⟨_, rfl⟩; subst ef3
    try dsimp only at hP hD hw
    replace hP : va_P (dC, dI) vwCl [(wi_rm41_0_4_0 rm cy g_many), (wi_rm56_0_9_0 rm cy g_now), (wi_rm81_0_180_0 rm cy g_kept0), (a_this, .inr (10, mfs rm x_taped x_at x_end x_ended x_bad x_badPlace x_fault x_faultPlace x_namePlace x_awayTold x_away x_coded x_statements x_isCrossing x_textKind x_askSecond x_redMany x_isOpen x_lastGreen x_greenTo x_isCycleGreen x_stillGreen x_rowMany x_fitMany x_fitRules x_fitGreen x_undoable x_newest x_seeded x_qCoded x_qWaits x_qOpened x_qBase x_qPiled x_qAnswer x_qIsNew x_octets)), (wi_rm9_0_6_0 rm cy f3)] H := hP
    replace hD := k_D hP hD
    obtain ⟨h4, h5⟩ := hw
    replace hq := lf_p1 hq h5
    subst hQ; exact k_iret hx hb hr hlk (ib_bool (ib_w 0 1 h4 rfl)) ((x_undoable, x_newest, g_now, g_kept0, f3)) hS ⟨ib_w 0 20 hx_undoable rfl, ib_w 0 19 hx_newest rfl, ib_w 0 1 h4 rfl, fun hq9 => absurd (ib_one h4 rfl) hq9, fun hq9 => absurd (ib_one h4 rfl) hq9, fun hq9 => absurd (ib_one h4 rfl) hq9, fun hq9 => absurd (ib_one h4 rfl) hq9, (hO.symm.trans (by exact hq))⟩ (hP.sub [3, 0, 1, 2, 4] rfl) (hD.sub [3, 0, 1, 2, 4] rfl rfl) (Nat.le_of_ble_eq_true rfl) (Nat.le_of_ble_eq_true rfl) dX10_trust_33
  refine lv_aload_n hx hb dX10_trust_0 rfl (lv_at hl 0 rfl) ?_
  refine lv_iload_n hx hb dX10_trust_1 rfl (lv_at hl 1 rfl) ?_
  refine k_jim hP hD hS hA [0, 1] [false, false, true, true, true] rfl rfl rfl 0 0 (Nat.le_of_ble_eq_true rfl) (Nat.le_of_ble_eq_true rfl) (fun hPc hDc => k_runV (As := [.int p0]) (rest := []) C0 hZ hS hA (s_X10_isKind l dC dI cy sq a_this rm x_taped x_at x_end x_ended x_bad x_badPlace x_fault x_faultPlace x_namePlace x_awayTold x_away x_coded x_statements x_isCrossing x_textKind x_askSecond x_redMany x_isOpen x_lastGreen x_greenTo x_isCycleGreen x_stillGreen x_rowMany x_fitMany x_fitRules x_fitGreen x_undoable x_newest x_seeded x_qCoded x_qWaits x_qOpened x_qBase x_qPiled x_qAnswer x_qIsNew x_octets g_many p0 (ib_w 0 6 hg_many_2 rfl)) mV_X10_528 hPc hDc rfl rfl rfl hl rfl rfl (Nat.le_of_ble_eq_true rfl) ⟨(Nat.le_of_ble_eq_true rfl), (Nat.le_of_ble_eq_true rfl)⟩ ⟨(Nat.le_of_ble_eq_true rfl), (Nat.le_of_ble_eq_true rfl)⟩ dX10_trust_2) (fun r6 u7 H locs hw hP hD hS => ?_)
  try dsimp only at hP hD hw
  replace hP : va_P (dC, dI) vwCl [(wi_rm56_0_9_0 rm cy g_now), (wi_rm81_0_180_0 rm cy g_kept0), (wi_rm9_0_6_0 rm cy g_refused), (a_this, .inr (10, mfs rm x_taped x_at x_end x_ended x_bad x_badPlace x_fault x_faultPlace x_namePlace x_awayTold x_away x_coded x_statements x_isCrossing x_textKind x_askSecond x_redMany x_isOpen x_lastGreen x_greenTo x_isCycleGreen x_stillGreen x_rowMany x_fitMany x_fitRules x_fitGreen x_undoable x_newest x_seeded x_qCoded x_qWaits x_qOpened x_qBase x_qPiled x_qAnswer x_qIsNew x_octets)), (wi_rm41_0_4_0 rm cy g_many)] H := hP
  replace hD := k_D hP hD
  obtain ⟨h8, h9, h10, h11⟩ := hw
  replace hq := lf_b1 hq h11
  refine lv_if_eq (tgt := 29) hx hb dX10_trust_5 rfl (fun c12 => ?_) (fun c12 => ?_)
  · replace hq := lf_pos hq (lf_eq (lf_rf r6) (lf_lc 0 (0 : Int) rfl) c12)
    have h13 := ib_eq h8 (ib_c 0 0 0 rfl) c12
    have h14 : ib r6 0 0 := ib_w 0 0 h13.1 rfl
    exact jn29  H locs ls (by exact hq) (hP.sub [3, 4, 0, 1, 2] rfl) (hD.sub [3, 4, 0, 1, 2] rfl rfl) hS (lv_sub hl [0, 1, 2] rfl)
  · as_aux_lemma =>
      replace hq := lf_neg hq (lf_ne (lf_rf r6) (lf_lc 0 (0 : Int) rfl) c12)
      have h15 : ib r6 1 1 := ib_w 1 1 (ib_ne_lo 0 h8 rfl c12) rfl
      have h16 : ib (g_many 2) 1 6 := ib_w 1 6 (ib_two hg_many_2 (h9 (ib_nz h15 rfl))) rfl
      have h17 : ib p0 0 5 := ib_w 0 5 (ib_two (ib_any p0) (h10 (ib_nz h15 rfl))) rfl
      refine lv_iload_n hx hb dX10_trust_8 rfl (lv_at hl 2 rfl) ?_
      refine lv_i2l (v := p1.toInt64) hx hb dX10_trust_9 rfl ?_
      refine lv_lconst (v := 0) hx hb dX10_trust_10 (by decide) ?_
      refine lv_ldc2 hx hb C0.2.2.2.1 (C0.2.2.2.2.1 _ wd1174) dX10_trust_11 ?_
      refine k_jim hP hD hS hA [] [true, true, true, true, true] rfl rfl rfl 0 0 (Nat.le_of_ble_eq_true rfl) (Nat.le_of_ble_eq_true rfl) (fun hPc hDc => k_runS (As := [.long p1.toInt64, .long 0, .long 9]) (rest := []) C0 hZ hS hA (c_isIn l dC dI cy sq p1.toInt64 0 9) mS_X10_318 hPc hDc hl rfl rfl (Nat.le_of_ble_eq_true rfl) ⟨(Nat.le_of_ble_eq_true rfl), (Nat.le_of_ble_eq_true rfl)⟩ ⟨(Nat.le_of_ble_eq_true rfl), (Nat.le_of_ble_eq_true rfl)⟩ dX10_trust_14) (fun r18 u19 H locs hw hP hD hS => ?_)
      replace hP : va_P (dC, dI) vwCl [(wi_rm56_0_9_0 rm cy g_now), (wi_rm81_0_180_0 rm cy g_kept0), (wi_rm9_0_6_0 rm cy g_refused), (a_this, .inr (10, mfs rm x_taped x_at x_end x_ended x_bad x_badPlace x_fault x_faultPlace x_namePlace x_awayTold x_away x_coded x_statements x_isCrossing x_textKind x_askSecond x_redMany x_isOpen x_lastGreen x_greenTo x_isCycleGreen x_stillGreen x_rowMany x_fitMany x_fitRules x_fitGreen x_undoable x_newest x_seeded x_qCoded x_qWaits x_qOpened x_qBase x_qPiled x_qAnswer x_qIsNew x_octets)), (wi_rm41_0_4_0 rm cy g_many)] H := hP
      replace hD := k_D hP hD
      have h20 := hw
      have h21 : ib r18 0 1 := by rw [h20]; exact k_isf_01 _ _ _
      have Er18 := lf_isine h20 (lf_i2l (lf_rf p1)) (lf_ll 0 (0 : Int) rfl) (lf_ll 9 (9 : Int) rfl)
      refine lv_if_eq (tgt := 29) hx hb dX10_trust_17 rfl (fun c22 => ?_) (fun c22 => ?_)
      · replace hq := lf_pos hq (lf_eq Er18 (lf_lc 0 (0 : Int) rfl) c22)
        have h23 := ib_eq h21 (ib_c 0 0 0 rfl) c22
        have h24 : ib r18 0 0 := ib_w 0 0 h23.1 rfl
        exact jn29  H locs ls (by exact hq) (hP.sub [3, 4, 0, 1, 2] rfl) (hD.sub [3, 4, 0, 1, 2] rfl rfl) hS (lv_sub hl [0, 1, 2] rfl)
      · as_aux_lemma =>
          replace hq := lf_neg hq (lf_ne Er18 (lf_lc 0 (0 : Int) rfl) c22)
          have h25 : ib r18 1 1 := ib_w 1 1 (ib_ne_lo 0 h21 rfl c22) rfl
          have h26 : ib p1 0 9 := ib_w 0 9 (ib_two (ib_any p1) (k_isf_v h20 (show 0 ≤ (0 : Int64).toInt by decide) (show (9 : Int64).toInt ≤ 9 by decide) (ib_nz h25 rfl))) rfl
          refine lv_aload_n hx hb dX10_trust_20 rfl (lv_at hl 0 rfl) ?_
          refine lv_iload_n hx hb dX10_trust_21 rfl (lv_at hl 1 rfl) ?_
          refine k_jim hP hD hS hA [3, 0] [false, true, true, false, true] rfl rfl rfl 0 0 (Nat.le_of_ble_eq_true rfl) (Nat.le_of_ble_eq_true rfl) (fun hPc hDc => k_runV (As := [.int p0]) (rest := []) C0 hZ hS hA (s_X10_trustsOf l dC dI cy sq a_this rm x_taped x_at x_end x_ended x_bad x_badPlace x_fault x_faultPlace x_namePlace x_awayTold x_away x_coded x_statements x_isCrossing x_textKind x_askSecond x_redMany x_isOpen x_lastGreen x_greenTo x_isCycleGreen x_stillGreen x_rowMany x_fitMany x_fitRules x_fitGreen x_undoable x_newest x_seeded x_qCoded x_qWaits x_qOpened x_qBase x_qPiled x_qAnswer x_qIsNew x_octets g_now p0 (ib_w 0 5 h17 rfl)) mV_X10_463 hPc hDc rfl rfl rfl hl rfl rfl (Nat.le_of_ble_eq_true rfl) ⟨(Nat.le_of_ble_eq_true rfl), (Nat.le_of_ble_eq_true rfl)⟩ ⟨(Nat.le_of_ble_eq_true rfl), (Nat.le_of_ble_eq_true rfl)⟩ dX10_trust_22) (fun r27 u28 H locs hw hP hD hS => ?_)
          try dsimp only at hP hD hw
          replace hP : va_P (dC, dI) vwCl [(wi_rm81_0_180_0 rm cy g_kept0), (wi_rm9_0_6_0 rm cy g_refused), (wi_rm41_0_4_0 rm cy g_many), (a_this, .inr (10, mfs rm x_taped x_at x_end x_ended x_bad x_badPlace x_fault x_faultPlace x_namePlace x_awayTold x_away x_coded x_statements x_isCrossing x_textKind x_askSecond x_redMany x_isOpen x_lastGreen x_greenTo x_isCycleGreen x_stillGreen x_rowMany x_fitMany x_fitRules x_fitGreen x_undoable x_newest x_seeded x_qCoded x_qWaits x_qOpened x_qBase x_qPiled x_qAnswer x_qIsNew x_octets)), (wi_rm56_0_9_0 rm cy g_now)] H := hP
          replace hD := k_D hP hD
          have h29 := hw
          replace hq := lf_b1 hq h29
          refine lv_iload_n hx hb dX10_trust_25 rfl (lv_at hl 2 rfl) ?_
          refine lv_icmp_ne (tgt := 34) hx hb dX10_trust_26 rfl (fun c30 => ?_) (fun c30 => ?_)
          · as_aux_lemma =>
              replace hq := lf_neg hq (lf_ne (lf_rf r27) (lf_rf p1) c30)
              refine lv_aload_n hx hb dX10_trust_34 rfl (lv_at hl 0 rfl) ?_
              refine k_jvm hP hD hS hA [3, 4, 0] [false, true, true] rfl rfl rfl 0 0 (Nat.le_of_ble_eq_true rfl) (Nat.le_of_ble_eq_true rfl) (fun hPc hDc => k_runV (As := []) (rest := []) C0 hZ hS hA (s_X10_keeps l dC dI cy sq a_this rm x_taped x_at x_end x_ended x_bad x_badPlace x_fault x_faultPlace x_namePlace x_awayTold x_away x_coded x_statements x_isCrossing x_textKind x_askSecond x_redMany x_isOpen x_lastGreen x_greenTo x_isCycleGreen x_stillGreen x_rowMany x_fitMany x_fitRules x_fitGreen x_undoable x_newest x_seeded x_qCoded x_qWaits x_qOpened x_qBase x_qPiled x_qAnswer x_qIsNew x_octets g_now g_kept0 (ib_w 0 20 hx_undoable rfl) (ib_w 0 19 hx_newest rfl)) mV_X10_594 hPc hDc rfl rfl rfl hl rfl rfl (Nat.le_of_ble_eq_true rfl) ⟨(Nat.le_of_ble_eq_true rfl), (Nat.le_of_ble_eq_true rfl)⟩ ⟨(Nat.le_of_ble_eq_true rfl), (Nat.le_of_ble_eq_true rfl)⟩ dX10_trust_35) (fun u32 H locs hw hP hD hS => ?_)
              obtain ⟨v33, v34, f35⟩ := u32
              try dsimp only at hP hD hw
              replace hP : va_P (dC, dI) vwCl [(wi_rm9_0_6_0 rm cy g_refused), (wi_rm41_0_4_0 rm cy g_many), (a_this, .inr (10, mfs rm x_taped x_at x_end x_ended x_bad x_badPlace x_fault x_faultPlace x_namePlace x_awayTold x_away x_coded x_statements x_isCrossing x_textKind x_askSecond x_redMany x_isOpen x_lastGreen x_greenTo x_isCycleGreen x_stillGreen x_rowMany x_fitMany x_fitRules x_fitGreen v33 v34 x_seeded x_qCoded x_qWaits x_qOpened x_qBase x_qPiled x_qAnswer x_qIsNew x_octets)), (wi_rm56_0_9_0 rm cy g_now), (wi_rm81_0_180_0 rm cy f35)] H := hP
              replace hD := k_D hP hD
              obtain ⟨h36, h37, h38⟩ := hw
              replace hq := lf_p1 hq h38
              replace hq := lf_p1 hq rfl
              refine lv_aload_n hx hb dX10_trust_38 rfl (lv_at hl 0 rfl) ?_
              refine k_get C0 fg_X10_139 hP 2 rfl rfl dX10_trust_39 ?_
              refine lv_iconst (v := 3) hx hb dX10_trust_42 rfl ?_
              refine lv_iload_n hx hb dX10_trust_43 rfl (lv_at hl 1 rfl) ?_
              refine lv_iadd hx hb dX10_trust_44 ?_
              refine lv_topi (fun z39 ez39 => ?_)
              have h40 := ib_add (ib_c 3 3 3 rfl) h17 rfl
              rw [← ez39] at h40
              have h41 : ib z39 3 8 := ib_w 3 8 h40.1 rfl
              have Ez39 := lf_add h40.2 (lf_lc 3 (3 : Int) rfl) (lf_rf p0)
              refine lv_iload_n hx hb dX10_trust_45 rfl (lv_at hl 2 rfl) ?_
              refine va_iast hx hb C0.2.2.2.2.2.1 hP hD hS 3 0 rfl rfl (ib_in 9 h41 rfl) dX10_trust_46 (fun H locs hP hD hS => ?_)
              replace hP : va_P (dC, dI) vwCl [(wi_rm9_0_6_0 rm cy g_refused), (wi_rm41_0_4_0 rm cy g_many), (a_this, .inr (10, mfs rm x_taped x_at x_end x_ended x_bad x_badPlace x_fault x_faultPlace x_namePlace x_awayTold x_away x_coded x_statements x_isCrossing x_textKind x_askSecond x_redMany x_isOpen x_lastGreen x_greenTo x_isCycleGreen x_stillGreen x_rowMany x_fitMany x_fitRules x_fitGreen v33 v34 x_seeded x_qCoded x_qWaits x_qOpened x_qBase x_qPiled x_qAnswer x_qIsNew x_octets)), (wi_rm56_0_9_0 rm cy (upd g_now (Int32.toNatClampNeg z39) p1)), (wi_rm81_0_180_0 rm cy f35)] H := hP
              replace hD := k_D hP hD
              generalize ef42 : upd g_now (Int32.toNatClampNeg z39) p1 = f42 at hP hD
              have Ef42 := lf_st ef42 (lf_ra g_now) Ez39 (lf_rf p1)
              refine lv_iconst (v := 1) hx hb dX10_trust_47 rfl ?_
              subst hQ; exact k_iret hx hb hr hlk (k_nb 1 rfl) ((v33, v34, f42, f35, g_refused)) hS ⟨ib_w 0 20 h36 rfl, ib_w 0 19 h37 rfl, ib_w 0 1 (ib_c 1 1 1 rfl) rfl, fun _ => ib_w 1 20 h36 rfl, fun _ => ib_w 1 6 h16 rfl, fun _ => ib_w 0 5 h17 rfl, fun _ => ib_w 0 9 h26 rfl, (hO.symm.trans (by try simp only [show (1 : Int32).toInt = (1 : Int) from rfl]; rw [lf_ua Ef42]; exact hq))⟩ (hP.sub [2, 1, 3, 4, 0] rfl) (hD.sub [2, 1, 3, 4, 0] rfl rfl) (Nat.le_of_ble_eq_true rfl) (Nat.le_of_ble_eq_true rfl) dX10_trust_48
          · replace hq := lf_pos hq (lf_eq (lf_rf r27) (lf_rf p1) c30)
            have h43 := ib_eq (ib_any r27) h26 c30
            have h44 : ib r27 0 9 := ib_w 0 9 h43.1 rfl
            exact jn29  H locs ls (by exact hq) (hP.sub [3, 2, 4, 0, 1] rfl) (hD.sub [3, 2, 4, 0, 1] rfl rfl) hS (lv_sub hl [0, 1, 2] rfl)
