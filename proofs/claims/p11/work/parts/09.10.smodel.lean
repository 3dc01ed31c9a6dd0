set_option maxHeartbeats 4000000 in
set_option maxRecDepth 100000 in
theorem s_X10_undo (l : Launch) (dC : Nat → ClassId) (dI : Nat → Nat → Nat) (cy : Nat → ClassId) (sq : Nat → Nat) (a_this : Nat) (rm : Nat → Nat) (x_taped : Int32) (x_at : Int32) (x_end : Int32) (x_ended : Int32) (x_bad : Int32) (x_badPlace : Int32) (x_fault : Int32) (x_faultPlace : Int32) (x_namePlace : Int32) (x_awayTold : Int32) (x_away : Int32) (x_coded : Int32) (x_statements : Int32) (x_isCrossing : Int32) (x_textKind : Int32) (x_askSecond : Int32) (x_redMany : Int32) (x_isOpen : Int32) (x_lastGreen : Int32) (x_greenTo : Int32) (x_isCycleGreen : Int32) (x_stillGreen : Int32) (x_rowMany : Int32) (x_fitMany : Int32) (x_fitRules : Int32) (x_fitGreen : Int32) (x_undoable : Int32) (x_newest : Int32) (x_seeded : Int64) (x_qCoded : Int32) (x_qWaits : Int32) (x_qOpened : Int32) (x_qBase : Int32) (x_qPiled : Int32) (x_qAnswer : Int64) (x_qIsNew : Int32) (x_octets : Int32) (g_refused : Nat → Int32) (g_now : Nat → Int32) (g_kept0 : Nat → Int32) (hx_undoable : ib x_undoable 0 20) (hx_newest : ib x_newest 0 19) : k_Met l yX10_undo cX10_undo 2 (some .boolean) { frames := 0, cells := 0, slots := 0, locals := 0 } dC dI cy sq [.ref a_this] [(a_this, .inr (10, mfs rm x_taped x_at x_end x_ended x_bad x_badPlace x_fault x_faultPlace x_namePlace x_awayTold x_away x_coded x_statements x_isCrossing x_textKind x_askSecond x_redMany x_isOpen x_lastGreen x_greenTo x_isCycleGreen x_stillGreen x_rowMany x_fitMany x_fitRules x_fitGreen x_undoable x_newest x_seeded x_qCoded x_qWaits x_qOpened x_qBase x_qPiled x_qAnswer x_qIsNew x_octets)), (wi_rm9_0_6_0 rm cy g_refused), (wi_rm81_0_180_0 rm cy g_kept0), (wi_rm56_0_9_0 rm cy g_now)] (k_Qi dC dI (fun (r : Int32) (u : Int32 × Int32 × (Nat → Int32) × (Nat → Int32)) => match u with | (n0, n1, n2, n3) => ib n0 0 19 ∧ ib n1 0 19 ∧ ib r 0 1 ∧ (¬ r = 0 → ib x_undoable 1 20) ∧ (F_X10_undo (Int32.toInt x_undoable) (Int32.toInt x_newest) (lf_A g_refused) (lf_A g_now) (lf_A g_kept0) = ((Int32.toInt r), (Int32.toInt n0), (Int32.toInt n1), (lf_A n2), (lf_A n3)))) (fun u : Int32 × Int32 × (Nat → Int32) × (Nat → Int32) => match u with | (n0, n1, n2, n3) => [(a_this, .inr (10, mfs rm x_taped x_at x_end x_ended x_bad x_badPlace x_fault x_faultPlace x_namePlace x_awayTold x_away x_coded x_statements x_isCrossing x_textKind x_askSecond x_redMany x_isOpen x_lastGreen x_greenTo x_isCycleGreen x_stillGreen x_rowMany x_fitMany x_fitRules x_fitGreen n0 n1 x_seeded x_qCoded x_qWaits x_qOpened x_qBase x_qPiled x_qAnswer x_qIsNew x_octets)), (wi_rm9_0_6_0 rm cy n2), (wi_rm81_0_180_0 rm cy g_kept0), (wi_rm56_0_9_0 rm cy n3)])) := by
  refine k_ofW2 (by decide +kernel) (Nat.le_of_ble_eq_true rfl) ?_
  intro p e s m below meth c A ls H locs args Q hQ C0 hZ hr hlk hin hP hD hA hS hl
  have C0 : k_cx p s m args c cX10_undo 2 RX10 dC dI cy sq := C0
  have hx := C0.1
  have hb := C0.2.1
  have hl : lv_has ls 2 [(0, .ref a_this)] := hl
  obtain ⟨O, hO⟩ : ∃ o, o = F_X10_undo (Int32.toInt x_undoable) (Int32.toInt x_newest) (lf_A g_refused) (lf_A g_now) (lf_A g_kept0) := ⟨_, rfl⟩
  have hq := hO
  unfold F_X10_undo at hq
  have jn21 : ∀ (n : Nat) (J21_l1 : Int32) (J21_a3 : Nat → Int32) (H : Heap) (locs : List Loc) (ls : Array Slot), ib x_undoable 1 20 → ib J21_l1 0 9 → (O = F_X10_undo_21 (Int32.toInt x_undoable) (Int32.toInt x_newest) (lf_A g_refused) (lf_A g_kept0) n (Int32.toInt J21_l1) (lf_A J21_a3)) → 10 ≤ J21_l1.toInt + (n : Int) → va_P (dC, dI) vwCl [(a_this, .inr (10, mfs rm x_taped x_at x_end x_ended x_bad x_badPlace x_fault x_faultPlace x_namePlace x_awayTold x_away x_coded x_statements x_isCrossing x_textKind x_askSecond x_redMany x_isOpen x_lastGreen x_greenTo x_isCycleGreen x_stillGreen x_rowMany x_fitMany x_fitRules x_fitGreen x_undoable x_newest x_seeded x_qCoded x_qWaits x_qOpened x_qBase x_qPiled x_qAnswer x_qIsNew x_octets)), (wi_rm9_0_6_0 rm cy g_refused), (wi_rm81_0_180_0 rm cy g_kept0), (wi_rm56_0_9_0 rm cy J21_a3)] H → va_D A [(a_this, .inr (10, mfs rm x_taped x_at x_end x_ended x_bad x_badPlace x_fault x_faultPlace x_namePlace x_awayTold x_away x_coded x_statements x_isCrossing x_textKind x_askSecond x_redMany x_isOpen x_lastGreen x_greenTo x_isCycleGreen x_stillGreen x_rowMany x_fitMany x_fitRules x_fitGreen x_undoable x_newest x_seeded x_qCoded x_qWaits x_qOpened x_qBase x_qPiled x_qAnswer x_qIsNew x_octets)), (wi_rm9_0_6_0 rm cy g_refused), (wi_rm81_0_180_0 rm cy g_kept0), (wi_rm56_0_9_0 rm cy J21_a3)] → va_S A s.heap H locs → lv_has ls 2 [(0, .ref a_this), (1, .int J21_l1)] → W p l e { frames := 0, cells := 0, slots := 0, locals := 0 } s m args below meth c H locs 0 0 Q (F0 m 21 ls []) := by
    as_aux_lemma =>
      intro n
      induction n with
      | zero =>
        intro J21_l1 J21_a3 H locs ls hK21_x_undoable hJ21_l1 hq hm
        exact absurd hm (by have := hJ21_l1; unfold ib at this; omega)
      | succ n ih =>
        intro J21_l1 J21_a3 H locs ls hK21_x_undoable hJ21_l1 hq hm21 hP hD hS hl
        have ih21 := ih
        obtain ⟨K21, hK21⟩ : ∃ K, K = F_X10_undo_21 (Int32.toInt x_undoable) (Int32.toInt x_newest) (lf_A g_refused) (lf_A g_kept0) n := ⟨_, rfl⟩
        have hq : O = F_X10_undo_21b (Int32.toInt x_undoable) (Int32.toInt x_newest) (lf_A g_refused) (lf_A g_kept0) K21 (Int32.toInt J21_l1) (lf_A J21_a3) := by rw [hK21]; exact hq
        unfold F_X10_undo_21b at hq
        refine lv_iload_n hx hb dX10_undo_21 rfl (lv_at hl 1 rfl) ?_
        refine lv_bipush (v := 9) hx hb dX10_undo_22 rfl ?_
        refine lv_icmp_ge (tgt := 53) hx hb dX10_undo_24 rfl (fun c1 => ?_) (fun c1 => ?_)
        · as_aux_lemma =>
            replace hq := lf_pos hq (lf_le (lf_lc 9 (9 : Int) rfl) (lf_rf J21_l1) c1)
            have h2 := ib_le (ib_c 9 9 9 rfl) hJ21_l1 c1
            have h3 : ib J21_l1 9 9 := ib_w 9 9 h2.2 rfl
            refine lv_aload_n hx hb dX10_undo_53 rfl (lv_at hl 0 rfl) ?_
            refine lv_aload_n hx hb dX10_undo_54 rfl (lv_at hl 0 rfl) ?_
            refine k_get C0 fg_X10_588 hP 0 rfl rfl dX10_undo_55 ?_
            refine lv_bipush (v := 20) hx hb dX10_undo_58 rfl ?_
            refine lv_iadd hx hb dX10_undo_60 ?_
            refine lv_topi (fun z4 ez4 => ?_)
            have h5 := ib_add hx_newest (ib_c 20 20 20 rfl) rfl
            rw [← ez4] at h5
            have h6 : ib z4 20 39 := ib_w 20 39 h5.1 rfl
            have Ez4 := lf_add h5.2 (lf_rf x_newest) (lf_lc 20 (20 : Int) rfl)
            refine lv_iconst (v := 1) hx hb dX10_undo_61 rfl ?_
            refine lv_isub hx hb dX10_undo_62 ?_
            refine lv_topi (fun z7 ez7 => ?_)
            have h8 := ib_sub h6 (ib_c 1 1 1 rfl) rfl
            rw [← ez7] at h8
            have h9 : ib z7 19 38 := ib_w 19 38 h8.1 rfl
            have Ez7 := lf_sub h8.2 Ez4 (lf_lc 1 (1 : Int) rfl)
            refine lv_bipush (v := 20) hx hb dX10_undo_63 rfl ?_
            refine lv_irem hx hb dX10_undo_65 (by decide) ?_
            refine lv_topi (fun z10 ez10 => ?_)
            have h11 : ib z10 0 19 := by rw [ez10]; exact ib_w 0 19 (ib_rem h9 (ib_c 20 20 20 rfl) rfl) rfl
            have Ez10 := lf_op lf_irem ez10 Ez7 (lf_lc 20 (20 : Int) rfl)
            refine k_put C0 fp_X10_588 hP hD hS 0 rfl rfl rfl (Nat.le_of_ble_eq_true rfl) dX10_undo_66 (fun H locs hP hD hS => ?_)
            replace hP : va_P (dC, dI) vwCl [(a_this, .inr (10, mfs rm x_taped x_at x_end x_ended x_bad x_badPlace x_fault x_faultPlace x_namePlace x_awayTold x_away x_coded x_statements x_isCrossing x_textKind x_askSecond x_redMany x_isOpen x_lastGreen x_greenTo x_isCycleGreen x_stillGreen x_rowMany x_fitMany x_fitRules x_fitGreen x_undoable z10 x_seeded x_qCoded x_qWaits x_qOpened x_qBase x_qPiled x_qAnswer x_qIsNew x_octets)), (wi_rm9_0_6_0 rm cy g_refused), (wi_rm81_0_180_0 rm cy g_kept0), (wi_rm56_0_9_0 rm cy J21_a3)] H := hP
            replace hD := k_D hP hD
            refine lv_aload_n hx hb dX10_undo_69 rfl (lv_at hl 0 rfl) ?_
            refine lv_dup hx hb dX10_undo_70 rfl ?_
            refine k_get C0 fg_X10_424 hP 0 rfl rfl dX10_undo_71 ?_
            refine lv_iconst (v := 1) hx hb dX10_undo_74 rfl ?_
            refine lv_isub hx hb dX10_undo_75 ?_
            refine lv_topi (fun z12 ez12 => ?_)
            have h13 := ib_sub hK21_x_undoable (ib_c 1 1 1 rfl) rfl
            rw [← ez12] at h13
            have h14 : ib z12 0 19 := ib_w 0 19 h13.1 rfl
            have Ez12 := lf_sub h13.2 (lf_rf x_undoable) (lf_lc 1 (1 : Int) rfl)
            refine k_put C0 fp_X10_424 hP hD hS 0 rfl rfl rfl (Nat.le_of_ble_eq_true rfl) dX10_undo_76 (fun H locs hP hD hS => ?_)
            replace hP : va_P (dC, dI) vwCl [(a_this, .inr (10, mfs rm x_taped x_at x_end x_ended x_bad x_badPlace x_fault x_faultPlace x_namePlace x_awayTold x_away x_coded x_statements x_isCrossing x_textKind x_askSecond x_redMany x_isOpen x_lastGreen x_greenTo x_isCycleGreen x_stillGreen x_rowMany x_fitMany x_fitRules x_fitGreen z12 z10 x_seeded x_qCoded x_qWaits x_qOpened x_qBase x_qPiled x_qAnswer x_qIsNew x_octets)), (wi_rm9_0_6_0 rm cy g_refused), (wi_rm81_0_180_0 rm cy g_kept0), (wi_rm56_0_9_0 rm cy J21_a3)] H := hP
            replace hD := k_D hP hD
            refine lv_iconst (v := 1) hx hb dX10_undo_79 rfl ?_
            subst hQ; exact k_iret hx hb hr hlk (k_nb 1 rfl) ((z12, z10, g_refused, J21_a3)) hS ⟨ib_w 0 19 h14 rfl, ib_w 0 19 h11 rfl, ib_w 0 1 (ib_c 1 1 1 rfl) rfl, fun _ => ib_w 1 20 hK21_x_undoable rfl, (hO.symm.trans (by try simp only [show (1 : Int32).toInt = (1 : Int) from rfl]; rw [lf_u Ez12]; rw [lf_u Ez10]; exact hq))⟩ hP hD (Nat.le_of_ble_eq_true rfl) (Nat.le_of_ble_eq_true rfl) dX10_undo_80
        · as_aux_lemma =>
            replace hq := lf_neg hq (lf_nle (lf_lc 9 (9 : Int) rfl) (lf_rf J21_l1) c1)
            have h15 := ib_nle (ib_c 9 9 9 rfl) hJ21_l1 c1
            have h16 : ib J21_l1 0 8 := ib_w 0 8 h15.2 rfl
            refine lv_aload_n hx hb dX10_undo_27 rfl (lv_at hl 0 rfl) ?_
            refine k_get C0 fg_X10_139 hP 0 rfl rfl dX10_undo_28 ?_
            refine lv_iload_n hx hb dX10_undo_31 rfl (lv_at hl 1 rfl) ?_
            refine lv_aload_n hx hb dX10_undo_32 rfl (lv_at hl 0 rfl) ?_
            refine k_get C0 fg_X10_182 hP 0 rfl rfl dX10_undo_33 ?_
            refine lv_bipush (v := 9) hx hb dX10_undo_36 rfl ?_
            refine lv_aload_n hx hb dX10_undo_38 rfl (lv_at hl 0 rfl) ?_
            refine k_get C0 fg_X10_588 hP 0 rfl rfl dX10_undo_39 ?_
            refine lv_imul hx hb dX10_undo_42 ?_
            refine lv_topi (fun z17 ez17 => ?_)
            have h18 := ib_mul (ib_c 9 9 9 rfl) hx_newest rfl
            rw [← ez17] at h18
            have h19 : ib z17 0 171 := ib_w 0 171 h18.1 rfl
            have h20 : z17.toInt = 9 * x_newest.toInt := by have q0 := h18.2; rw [show (9 : Int32).toInt = 9 from by decide] at q0; omega
            have Ez17 := lf_mul h18.2 (lf_lc 9 (9 : Int) rfl) (lf_rf x_newest)
            refine lv_iload_n hx hb dX10_undo_43 rfl (lv_at hl 1 rfl) ?_
            refine lv_iadd hx hb dX10_undo_44 ?_
            refine lv_topi (fun z21 ez21 => ?_)
            have h22 := ib_add h19 h16 rfl
            rw [← ez21] at h22
            have h23 : ib z21 0 179 := ib_w 0 179 h22.1 rfl
            have Ez21 := lf_add h22.2 Ez17 (lf_rf J21_l1)
            refine va_iald hx hb C0.2.2.2.2.2.1 hP 2 0 rfl rfl (ib_in 180 h23 rfl) dX10_undo_45 ?_
            refine lv_topi (fun z24 ez24 => ?_)
            have Ez24 := lf_ld ez24 (lf_ra g_kept0) Ez21
            refine va_iast hx hb C0.2.2.2.2.2.1 hP hD hS 3 0 rfl rfl (ib_in 9 h16 rfl) dX10_undo_46 (fun H locs hP hD hS => ?_)
            replace hP : va_P (dC, dI) vwCl [(a_this, .inr (10, mfs rm x_taped x_at x_end x_ended x_bad x_badPlace x_fault x_faultPlace x_namePlace x_awayTold x_away x_coded x_statements x_isCrossing x_textKind x_askSecond x_redMany x_isOpen x_lastGreen x_greenTo x_isCycleGreen x_stillGreen x_rowMany x_fitMany x_fitRules x_fitGreen x_undoable x_newest x_seeded x_qCoded x_qWaits x_qOpened x_qBase x_qPiled x_qAnswer x_qIsNew x_octets)), (wi_rm9_0_6_0 rm cy g_refused), (wi_rm81_0_180_0 rm cy g_kept0), (wi_rm56_0_9_0 rm cy (upd J21_a3 (Int32.toNatClampNeg J21_l1) z24))] H := hP
            replace hD := k_D hP hD
            generalize ef25 : upd J21_a3 (Int32.toNatClampNeg J21_l1) z24 = f25 at hP hD
            have Ef25 := lf_st ef25 (lf_ra J21_a3) (lf_rf J21_l1) Ez24
            obtain ⟨z26, ez26⟩ : ∃ y : Int32, y = J21_l1 + 1 := ⟨_, rfl⟩
            refine lv_iinc (v := z26) (lv' := [(1, .int z26), (0, .ref a_this)]) hx hb dX10_undo_47 hl (k := 1) rfl (by rw [ez26]; rfl) (Nat.le_of_ble_eq_true rfl) rfl (fun ls hl => ?_)
            have h27 := ib_add h16 (ib_c 1 1 1 rfl) rfl
            rw [← ez26] at h27
            have h28 : ib z26 1 9 := ib_w 1 9 h27.1 rfl
            have Ez26 := lf_add h27.2 (lf_rf J21_l1) (lf_lc 1 (1 : Int) rfl)
            refine lv_goto (tgt := 21) hx hb dX10_undo_50 rfl ?_
            exact ih21 z26 f25 H locs ls (ib_w 1 20 hK21_x_undoable rfl) (ib_w 0 9 h28 rfl) (by rw [← hK21]; rw [lf_u Ez26]; rw [lf_ua Ef25]; exact hq) (by have := h27.2; have : (1 : Int32).toInt = 1 := rfl; omega) hP hD hS (lv_sub hl [1, 0] rfl)
  refine lv_aload_n hx hb dX10_undo_0 rfl (lv_at hl 0 rfl) ?_
  refine k_get C0 fg_X10_424 hP 0 rfl rfl dX10_undo_1 ?_
  refine lv_if_ne (tgt := 19) hx hb dX10_undo_4 rfl (fun c29 => ?_) (fun c29 => ?_)
  · replace hq := lf_neg hq (lf_ne (lf_rf x_undoable) (lf_lc 0 (0 : Int) rfl) c29)
    have h30 : ib x_undoable 1 20 := ib_w 1 20 (ib_ne_lo 0 hx_undoable rfl c29) rfl
    refine lv_iconst (v := 0) hx hb dX10_undo_19 rfl ?_
    refine lv_istore_n (lv' := [(1, .int 0), (0, .ref a_this)]) hx hb dX10_undo_20 rfl hl (Nat.le_of_ble_eq_true rfl) rfl (fun ls hl => ?_)
    exact jn21 11 0 g_now H locs ls (ib_w 1 20 h30 rfl) (ib_w 0 9 (ib_c 0 0 0 rfl) rfl) (by try simp only [show (0 : Int32).toInt = (0 : Int) from rfl]; exact hq) (by have := (ib_c 0 0 0 rfl); unfold ib at this; omega) hP hD hS (lv_sub hl [1, 0] rfl)
  · as_aux_lemma =>
      replace hq := lf_pos hq (lf_eq (lf_rf x_undoable) (lf_lc 0 (0 : Int) rfl) c29)
      have h31 := ib_eq hx_undoable (ib_c 0 0 0 rfl) c29
      have h32 : ib x_undoable 0 0 := ib_w 0 0 h31.1 rfl
      refine lv_aload_n hx hb dX10_undo_7 rfl (lv_at hl 0 rfl) ?_
      refine k_get C0 fg_X10_17 hP 0 rfl rfl dX10_undo_8 ?_
      refine lv_iconst (v := 4) hx hb dX10_undo_11 rfl ?_
      refine lv_dup2_11 hx hb dX10_undo_12 rfl rfl ?_
      refine va_iald hx hb C0.2.2.2.2.2.1 hP 1 0 rfl rfl (k_in 4 6 rfl) dX10_undo_13 ?_
      refine lv_topi (fun z33 ez33 => ?_)
      have Ez33 := lf_ld ez33 (lf_ra g_refused) (lf_lc 4 (4 : Int) rfl)
      refine lv_iconst (v := 1) hx hb dX10_undo_14 rfl ?_
      refine lv_iadd hx hb dX10_undo_15 ?_
      refine lv_topi (fun z34 ez34 => ?_)
      have Ez34 := lf_op lf_iadd ez34 Ez33 (lf_lc 1 (1 : Int) rfl)
      refine va_iast hx hb C0.2.2.2.2.2.1 hP hD hS 1 0 rfl rfl (k_in 4 6 rfl) dX10_undo_16 (fun H locs hP hD hS => ?_)
      replace hP : va_P (dC, dI) vwCl [(a_this, .inr (10, mfs rm x_taped x_at x_end x_ended x_bad x_badPlace x_fault x_faultPlace x_namePlace x_awayTold x_away x_coded x_statements x_isCrossing x_textKind x_askSecond x_redMany x_isOpen x_lastGreen x_greenTo x_isCycleGreen x_stillGreen x_rowMany x_fitMany x_fitRules x_fitGreen x_undoable x_newest x_seeded x_qCoded x_qWaits x_qOpened x_qBase x_qPiled x_qAnswer x_qIsNew x_octets)), (wi_rm9_0_6_0 rm cy (upd g_refused 4 z34)), (wi_rm81_0_180_0 rm cy g_kept0), (wi_rm56_0_9_0 rm cy g_now)] H := hP
      replace hD := k_D hP hD
      generalize ef35 : upd g_refused 4 z34 = f35 at hP hD
      have Ef35 := lf_stn (X := (4 : Int)) ef35 (lf_ra g_refused) rfl Ez34
      refine lv_iconst (v := 0) hx hb dX10_undo_17 rfl ?_
      subst hQ; exact k_iret hx hb hr hlk (k_nb 0 rfl) ((x_undoable, x_newest, f35, g_now)) hS ⟨ib_w 0 19 h32 rfl, ib_w 0 19 hx_newest rfl, ib_w 0 1 (ib_c 0 0 0 rfl) rfl, fun hq9 => absurd rfl hq9, (hO.symm.trans (by try simp only [show (0 : Int32).toInt = (0 : Int) from rfl]; rw [lf_ua Ef35]; exact hq))⟩ hP hD (Nat.le_of_ble_eq_true rfl) (Nat.le_of_ble_eq_true rfl) dX10_undo_18
set_option maxHeartbeats 4000000 in
set_option maxRecDepth 100000 in
theorem s_X10_walker (l : Launch) (dC : Nat → ClassId) (dI : Nat → Nat → Nat) (cy : Nat → ClassId) (sq : Nat → Nat) (a_this : Nat) (rm : Nat → Nat) (x_taped : Int32) (x_at : Int32) (x_end : Int32) (x_ended : Int32) (x_bad : Int32) (x_badPlace : Int32) (x_fault : Int32) (x_faultPlace : Int32) (x_namePlace : Int32) (x_awayTold : Int32) (x_away : Int32) (x_coded : Int32) (x_statements : Int32) (x_isCrossing : Int32) (x_textKind : Int32) (x_askSecond : Int32) (x_redMany : Int32) (x_isOpen : Int32) (x_lastGreen : Int32) (x_greenTo : Int32) (x_isCycleGreen : Int32) (x_stillGreen : Int32) (x_rowMany : Int32) (x_fitMany : Int32) (x_fitRules : Int32) (x_fitGreen : Int32) (x_undoable : Int32) (x_newest : Int32) (x_seeded : Int64) (x_qCoded : Int32) (x_qWaits : Int32) (x_qOpened : Int32) (x_qBase : Int32) (x_qPiled : Int32) (x_qAnswer : Int64) (x_qIsNew : Int32) (x_octets : Int32) (g_many : Nat → Int32) (g_bar : Nat → Int32) (g_kinds : Nat → Int32) (g_walkers : Nat → Int32) (g_codeFrom : Nat → Int32) (g_codeEnd : Nat → Int32) (g_codes : Nat → Int32) (g_now : Nat → Int32) (g_isCar : Nat → Int32) (g_gaps : Nat → Int32) (g_isGreen : Nat → Int32) (g_isHere : Nat → Int32) (g_crosses : Nat → Int32) (g_waits : Nat → Int32) (g_goes : Nat → Int32) (g_harms : Nat → Int32) (g_presses : Nat → Int32) (g_crossedIn : Nat → Int32) (g_qPile : Nat → Int64) (p0 : Int32) (p1 : Int32) (hx_isOpen : ib x_isOpen 0 1) (hx_isCycleGreen : ib x_isCycleGreen 0 1) (hx_qPiled : ib x_qPiled 0 1700) (hg_many_3 : ib (g_many 3) 0 12) (hg_bar_4 : ib (g_bar 4) 0 120) (hpg_walkers : ip g_walkers 48 2 0 0 5) (hg_codeFrom_3 : ib (g_codeFrom 3) (-1) 1600) (hg_codeFrom_4 : ib (g_codeFrom 4) (-1) 1600) (hg_codeEnd_3 : ib (g_codeEnd 3) 0 1600) (hg_codeEnd_4 : ib (g_codeEnd 4) 0 1600) (hg_gaps : ia g_gaps 300 0 20) (hG0 : ¬ g_codeFrom 3 = (-1) → okc g_codes 1600 false (g_codeFrom 3) (g_codeEnd 3)) (hG1 : ¬ g_codeFrom 4 = (-1) → okc g_codes 1600 true (g_codeFrom 4) (g_codeEnd 4)) (hc_m3 : ¬ (g_many 3) = 0 → ib (g_bar 4) 10 120) : k_Met l yX10_walker cX10_walker 3 (some .int) { frames := 7, cells := 0, slots := 0, locals := 157 } dC dI cy sq [.ref a_this, .int p0, .int p1] [(a_this, .inr (10, mfs rm x_taped x_at x_end x_ended x_bad x_badPlace x_fault x_faultPlace x_namePlace x_awayTold x_away x_coded x_statements x_isCrossing x_textKind x_askSecond x_redMany x_isOpen x_lastGreen x_greenTo x_isCycleGreen x_stillGreen x_rowMany x_fitMany x_fitRules x_fitGreen x_undoable x_newest x_seeded x_qCoded x_qWaits x_qOpened x_qBase x_qPiled x_qAnswer x_qIsNew x_octets)), (wi_rm41_0_4_0 rm cy g_many), (wi_rm49_0_6_0 rm cy g_codeFrom), (wi_rm50_0_6_0 rm cy g_codeEnd), (wi_rm116_1_1700_1 rm cy g_qPile), (wi_rm51_0_3200_0 rm cy g_codes), (wi_rm46_0_48_0 rm cy g_walkers), (wi_rm56_0_9_0 rm cy g_now), (wi_rm43_0_8_0 rm cy g_bar), (wi_rm65_0_12_0 rm cy g_waits), (wi_rm44_0_24_0 rm cy g_kinds), (wi_rm61_0_300_0 rm cy g_gaps), (wi_rm66_3_12_0 rm cy g_goes), (wi_rm67_3_12_0 rm cy g_harms), (wi_rm60_3_320_0 rm cy g_isCar), (wi_rm63_3_12_0 rm cy g_isHere), (wi_rm64_0_12_0 rm cy g_crosses), (wi_rm68_3_12_0 rm cy g_presses), (wi_rm69_3_300_0 rm cy g_crossedIn), (wi_rm62_3_300_0 rm cy g_isGreen)] (k_Qi dC dI (fun (r : Int32) (u : Int32 × Int32 × Int32 × Int32 × Int32 × Int32 × Int32 × Int32 × Int32 × (Nat → Int64) × (Nat → Int32) × (Nat → Int32) × (Nat → Int32) × (Nat → Int32) × (Nat → Int32) × (Nat → Int32) × (Nat → Int32) × (Nat → Int32) × (Nat → Int32) × (Nat → Int32)) => match u with | (n0, n1, n2, n3, n4, n5, n6, n7, n8, n9, n10, n11, n12, n13, n14, n15, n16, n17, n18, n19) => ib n3 0 1 ∧ ib n6 0 1 ∧ ib n8 0 1700 ∧ ia n11 300 0 20 ∧ (F_X10_walker (Int32.toInt x_textKind) (Int32.toInt x_askSecond) (Int32.toInt x_redMany) (Int32.toInt x_isOpen) (Int32.toInt x_lastGreen) (Int32.toInt x_greenTo) (Int32.toInt x_isCycleGreen) (Int32.toInt x_stillGreen) (Int32.toInt x_qPiled) (lf_A g_many) (lf_A g_bar) (lf_A g_kinds) (lf_A g_walkers) (lf_A g_codeFrom) (lf_A g_codeEnd) (lf_A g_codes) (lf_A g_now) (lf_A g_isCar) (lf_A g_gaps) (lf_A g_isGreen) (lf_A g_isHere) (lf_A g_crosses) (lf_A g_waits) (lf_A g_goes) (lf_A g_harms) (lf_A g_presses) (lf_A g_crossedIn) (lf_L g_qPile) (Int32.toInt p0) (Int32.toInt p1) = ((Int32.toInt r), (Int32.toInt n0), (Int32.toInt n1), (Int32.toInt n2), (Int32.toInt n3), (Int32.toInt n4), (Int32.toInt n5), (Int32.toInt n6), (Int32.toInt n7), (Int32.toInt n8), (lf_L n9), (lf_A n10), (lf_A n11), (lf_A n12), (lf_A n13), (lf_A n14), (lf_A n15), (lf_A n16), (lf_A n17), (lf_A n18), (lf_A n19)))) (fun u : Int32 × Int32 × Int32 × Int32 × Int32 × Int32 × Int32 × Int32 × Int32 × (Nat → Int64) × (Nat → Int32) × (Nat → Int32) × (Nat → Int32) × (Nat → Int32) × (Nat → Int32) × (Nat → Int32) × (Nat → Int32) × (Nat → Int32) × (Nat → Int32) × (Nat → Int32) => match u with | (n0, n1, n2, n3, n4, n5, n6, n7, n8, n9, n10, n11, n12, n13, n14, n15, n16, n17, n18, n19) => [(a_this, .inr (10, mfs rm x_taped x_at x_end x_ended x_bad x_badPlace x_fault x_faultPlace x_namePlace x_awayTold x_away x_coded x_statements x_isCrossing n0 n1 n2 n3 n4 n5 n6 n7 x_rowMany x_fitMany x_fitRules x_fitGreen x_undoable x_newest x_seeded x_qCoded x_qWaits x_qOpened x_qBase n8 x_qAnswer x_qIsNew x_octets)), (wi_rm41_0_4_0 rm cy g_many), (wi_rm49_0_6_0 rm cy g_codeFrom), (wi_rm50_0_6_0 rm cy g_codeEnd), (wi_rm116_1_1700_1 rm cy n9), (wi_rm51_0_3200_0 rm cy g_codes), (wi_rm46_0_48_0 rm cy g_walkers), (wi_rm56_0_9_0 rm cy g_now), (wi_rm43_0_8_0 rm cy g_bar), (wi_rm65_0_12_0 rm cy n10), (wi_rm44_0_24_0 rm cy g_kinds), (wi_rm61_0_300_0 rm cy n11), (wi_rm66_3_12_0 rm cy n12), (wi_rm67_3_12_0 rm cy n13), (wi_rm60_3_320_0 rm cy n14), (wi_rm63_3_12_0 rm cy n15), (wi_rm64_0_12_0 rm cy n16), (wi_rm68_3_12_0 rm cy n17), (wi_rm69_3_300_0 rm cy n18), (wi_rm62_3_300_0 rm cy n19)])) := by
  refine k_ofW2 (by decide +kernel) (Nat.le_of_ble_eq_true rfl) ?_
  intro p e s m below meth c A ls H locs args Q hQ C0 hZ hr hlk hin hP hD hA hS hl
  have C0 : k_cx p s m args c cX10_walker 3 RX10 dC dI cy sq := C0
  have hx := C0.1
  have hb := C0.2.1
  have hl : lv_has ls 3 [(0, .ref a_this), (1, .int p0), (2, .int p1)] := hl
  obtain ⟨O, hO⟩ : ∃ o, o = F_X10_walker (Int32.toInt x_textKind) (Int32.toInt x_askSecond) (Int32.toInt x_redMany) (Int32.toInt x_isOpen) (Int32.toInt x_lastGreen) (Int32.toInt x_greenTo) (Int32.toInt x_isCycleGreen) (Int32.toInt x_stillGreen) (Int32.toInt x_qPiled) (lf_A g_many) (lf_A g_bar) (lf_A g_kinds) (lf_A g_walkers) (lf_A g_codeFrom) (lf_A g_codeEnd) (lf_A g_codes) (lf_A g_now) (lf_A g_isCar) (lf_A g_gaps) (lf_A g_isGreen) (lf_A g_isHere) (lf_A g_crosses) (lf_A g_waits) (lf_A g_goes) (lf_A g_harms) (lf_A g_presses) (lf_A g_crossedIn) (lf_L g_qPile) (Int32.toInt p0) (Int32.toInt p1) := ⟨_, rfl⟩
  have hq := hO
  unfold F_X10_walker at hq
  refine lv_aload_n hx hb dX10_walker_0 rfl (lv_at hl 0 rfl) ?_
  refine lv_iload_n hx hb dX10_walker_1 rfl (lv_at hl 1 rfl) ?_
  refine k_jim hP hD hS hA [0, 1] [false, false, true, true, true, true, true, true, true, true, true, true, true, true, true, true, true, true, true, true] rfl rfl (by decide +kernel) 0 0 (Nat.le_of_ble_eq_true rfl) (Nat.le_of_ble_eq_true rfl) (fun hPc hDc => k_runV (As := [.int p0]) (rest := []) C0 hZ hS hA (s_X10_isWalker l dC dI cy sq a_this rm x_taped x_at x_end x_ended x_bad x_badPlace x_fault x_faultPlace x_namePlace x_awayTold x_away x_coded x_statements x_isCrossing x_textKind x_askSecond x_redMany x_isOpen x_lastGreen x_greenTo x_isCycleGreen x_stillGreen x_rowMany x_fitMany x_fitRules x_fitGreen x_undoable x_newest x_seeded x_qCoded x_qWaits x_qOpened x_qBase x_qPiled x_qAnswer x_qIsNew x_octets g_many p0 (ib_w 0 12 hg_many_3 rfl)) mV_X10_531 hPc hDc rfl rfl rfl hl rfl rfl (Nat.le_of_ble_eq_true rfl) ⟨(Nat.le_of_ble_eq_true rfl), (Nat.le_of_ble_eq_true rfl)⟩ ⟨(Nat.le_of_ble_eq_true rfl), (Nat.le_of_ble_eq_true rfl)⟩ dX10_walker_2) (fun r1 u2 H locs hw hP hD hS => ?_)
  try dsimp only at hP hD hw
  replace hP : va_P (dC, dI) vwCl [(wi_rm49_0_6_0 rm cy g_codeFrom), (wi_rm50_0_6_0 rm cy g_codeEnd), (wi_rm116_1_1700_1 rm cy g_qPile), (wi_rm51_0_3200_0 rm cy g_codes), (wi_rm46_0_48_0 rm cy g_walkers), (wi_rm56_0_9_0 rm cy g_now), (wi_rm43_0_8_0 rm cy g_bar), (wi_rm65_0_12_0 rm cy g_waits), (wi_rm44_0_24_0 rm cy g_kinds), (wi_rm61_0_300_0 rm cy g_gaps), (wi_rm66_3_12_0 rm cy g_goes), (wi_rm67_3_12_0 rm cy g_harms), (wi_rm60_3_320_0 rm cy g_isCar), (wi_rm63_3_12_0 rm cy g_isHere), (wi_rm64_0_12_0 rm cy g_crosses), (wi_rm68_3_12_0 rm cy g_presses), (wi_rm69_3_300_0 rm cy g_crossedIn), (wi_rm62_3_300_0 rm cy g_isGreen), (a_this, .inr (10, mfs rm x_taped x_at x_end x_ended x_bad x_badPlace x_fault x_faultPlace x_namePlace x_awayTold x_away x_coded x_statements x_isCrossing x_textKind x_askSecond x_redMany x_isOpen x_lastGreen x_greenTo x_isCycleGreen x_stillGreen x_rowMany x_fitMany x_fitRules x_fitGreen x_undoable x_newest x_seeded x_qCoded x_qWaits x_qOpened x_qBase x_qPiled x_qAnswer x_qIsNew x_octets)), (wi_rm41_0_4_0 rm cy g_many)] H := hP
  replace hD := k_D hP hD
  obtain ⟨h3, h4, h5, h6⟩ := hw
  replace hq := lf_b1 hq h6
  refine lv_if_ne (tgt := 10) hx hb dX10_walker_5 rfl (fun c7 => ?_) (fun c7 => ?_)
  · as_aux_lemma =>
      replace hq := lf_neg hq (lf_ne (lf_rf r1) (lf_lc 0 (0 : Int) rfl) c7)
      have h8 : ib r1 1 1 := ib_w 1 1 (ib_ne_lo 0 h3 rfl c7) rfl
      have h9 : ib (g_many 3) 1 12 := ib_w 1 12 (ib_two hg_many_3 (h4 (ib_nz h8 rfl))) rfl
      have h10 : ib (g_bar 4) 10 120 := ib_w 10 120 (ib_two hg_bar_4 (hc_m3 (ib_nz h9 rfl))) rfl
      have h11 : ib p0 0 11 := ib_w 0 11 (ib_two (ib_any p0) (h5 (ib_nz h8 rfl))) rfl
      refine lv_aload_n hx hb dX10_walker_10 rfl (lv_at hl 0 rfl) ?_
      refine k_jvm hP hD hS hA [18, 0, 1, 2, 3, 4, 5, 6, 7, 8, 9, 10, 11, 12, 13, 14, 15, 16, 19, 17] [] rfl rfl (by decide +kernel) 0 0 (Nat.le_of_ble_eq_true rfl) (Nat.le_of_ble_eq_true rfl) (fun hPc hDc => k_runV (As := []) (rest := []) C0 hZ hS hA (s_X10_dayNow l dC dI cy sq a_this rm x_taped x_at x_end x_ended x_bad x_badPlace x_fault x_faultPlace x_namePlace x_awayTold x_away x_coded x_statements x_isCrossing x_textKind x_askSecond x_redMany x_isOpen x_lastGreen x_greenTo x_isCycleGreen x_stillGreen x_rowMany x_fitMany x_fitRules x_fitGreen x_undoable x_newest x_seeded x_qCoded x_qWaits x_qOpened x_qBase x_qPiled x_qAnswer x_qIsNew x_octets g_many g_bar g_kinds g_walkers g_codeFrom g_codeEnd g_codes g_now g_isCar g_gaps g_isGreen g_isHere g_crosses g_waits g_goes g_harms g_presses g_crossedIn g_qPile (ib_w 0 1700 hx_qPiled rfl) (ib_w 0 12 h9 rfl) (ib_w 10 120 h10 rfl) hpg_walkers (ib_w (-1) 1600 hg_codeFrom_3 rfl) (ib_w (-1) 1600 hg_codeFrom_4 rfl) (ib_w 0 1600 hg_codeEnd_3 rfl) (ib_w 0 1600 hg_codeEnd_4 rfl) hg_gaps hG0 hG1) mV_X10_534 hPc hDc rfl rfl rfl hl rfl rfl (Nat.le_of_ble_eq_true rfl) ⟨(Nat.le_of_ble_eq_true rfl), (Nat.le_of_ble_eq_true rfl)⟩ ⟨(Nat.le_of_ble_eq_true rfl), (Nat.le_of_ble_eq_true rfl)⟩ dX10_walker_11) (fun u13 H locs hw hP hD hS => ?_)
      obtain ⟨v14, v15, v16, v17, v18, v19, v20, v21, v22, f23, f24, f25, f26, f27, f28, f29, f30, f31, f32, f33⟩ := u13
      try dsimp only at hP hD hw
      replace hP : va_P (dC, dI) vwCl [(a_this, .inr (10, mfs rm x_taped x_at x_end x_ended x_bad x_badPlace x_fault x_faultPlace x_namePlace x_awayTold x_away x_coded x_statements x_isCrossing v14 v15 v16 v17 v18 v19 v20 v21 x_rowMany x_fitMany x_fitRules x_fitGreen x_undoable x_newest x_seeded x_qCoded x_qWaits x_qOpened x_qBase v22 x_qAnswer x_qIsNew x_octets)), (wi_rm49_0_6_0 rm cy g_codeFrom), (wi_rm50_0_6_0 rm cy g_codeEnd), (wi_rm116_1_1700_1 rm cy f23), (wi_rm51_0_3200_0 rm cy g_codes), (wi_rm46_0_48_0 rm cy g_walkers), (wi_rm56_0_9_0 rm cy g_now), (wi_rm43_0_8_0 rm cy g_bar), (wi_rm65_0_12_0 rm cy f24), (wi_rm44_0_24_0 rm cy g_kinds), (wi_rm61_0_300_0 rm cy f25), (wi_rm66_3_12_0 rm cy f26), (wi_rm67_3_12_0 rm cy f27), (wi_rm60_3_320_0 rm cy f28), (wi_rm63_3_12_0 rm cy f29), (wi_rm64_0_12_0 rm cy f30), (wi_rm68_3_12_0 rm cy f31), (wi_rm69_3_300_0 rm cy f32), (wi_rm41_0_4_0 rm cy g_many), (wi_rm62_3_300_0 rm cy f33)] H := hP
      replace hD := k_D hP hD
      obtain ⟨h34, h35, h36, h37, h38⟩ := hw
      replace hq := lf_p1 hq h38
      replace hq := lf_p1 hq rfl
      replace hq := lf_p1 hq rfl
      replace hq := lf_p1 hq rfl
      replace hq := lf_p1 hq rfl
      replace hq := lf_p1 hq rfl
      replace hq := lf_p1 hq rfl
      replace hq := lf_p1 hq rfl
      replace hq := lf_p1 hq rfl
      replace hq := lf_p1 hq rfl
      replace hq := lf_p1 hq rfl
      replace hq := lf_p1 hq rfl
      replace hq := lf_p1 hq rfl
      replace hq := lf_p1 hq rfl
      replace hq := lf_p1 hq rfl
      replace hq := lf_p1 hq rfl
      replace hq := lf_p1 hq rfl
      replace hq := lf_p1 hq rfl
      as_aux_lemma =>
        replace hq := lf_p1 hq rfl
        refine lv_iload_n hx hb dX10_walker_14 rfl (lv_at hl 2 rfl) ?_
        rcases Decidable.em (p1 = 0) with s39_0 | s39_0
        · skip
          replace hq := lf_pos hq (lf_eq (lf_rf p1) (lf_lc 0 (0 : Int) rfl) s39_0)
          have h40 : ib p1 0 0 := by rw [s39_0]; exact ib_c 0 0 0 rfl
          refine lv_tableIn (off := 41) (tgt := 56) hx hb dX10_walker_15 (by rw [s39_0]; decide) (by rw [s39_0]; decide) (by rw [s39_0]; decide) (by decide) ?_
          refine lv_aload_n hx hb dX10_walker_56 rfl (lv_at hl 0 rfl) ?_
          refine lv_iload_n hx hb dX10_walker_57 rfl (lv_at hl 1 rfl) ?_
          refine k_jim hP hD hS hA [0, 5] [false, true, true, true, true, false, true, true, true, true, true, true, true, true, true, true, true, true, true, true] rfl rfl (by decide +kernel) 0 0 (Nat.le_of_ble_eq_true rfl) (Nat.le_of_ble_eq_true rfl) (fun hPc hDc => k_runV (As := [.int p0]) (rest := []) C0 hZ hS hA (s_X10_kindOf l dC dI cy sq a_this rm x_taped x_at x_end x_ended x_bad x_badPlace x_fault x_faultPlace x_namePlace x_awayTold x_away x_coded x_statements x_isCrossing v14 v15 v16 v17 v18 v19 v20 v21 x_rowMany x_fitMany x_fitRules x_fitGreen x_undoable x_newest x_seeded x_qCoded x_qWaits x_qOpened x_qBase v22 x_qAnswer x_qIsNew x_octets g_walkers p0 hpg_walkers (ib_w 0 11 h11 rfl)) mV_X10_436 hPc hDc rfl rfl rfl hl rfl rfl (Nat.le_of_ble_eq_true rfl) ⟨(Nat.le_of_ble_eq_true rfl), (Nat.le_of_ble_eq_true rfl)⟩ ⟨(Nat.le_of_ble_eq_true rfl), (Nat.le_of_ble_eq_true rfl)⟩ dX10_walker_58) (fun r41 u42 H locs hw hP hD hS => ?_)
          try dsimp only at hP hD hw
          replace hP : va_P (dC, dI) vwCl [(wi_rm49_0_6_0 rm cy g_codeFrom), (wi_rm50_0_6_0 rm cy g_codeEnd), (wi_rm116_1_1700_1 rm cy f23), (wi_rm51_0_3200_0 rm cy g_codes), (wi_rm56_0_9_0 rm cy g_now), (wi_rm43_0_8_0 rm cy g_bar), (wi_rm65_0_12_0 rm cy f24), (wi_rm44_0_24_0 rm cy g_kinds), (wi_rm61_0_300_0 rm cy f25), (wi_rm66_3_12_0 rm cy f26), (wi_rm67_3_12_0 rm cy f27), (wi_rm60_3_320_0 rm cy f28), (wi_rm63_3_12_0 rm cy f29), (wi_rm64_0_12_0 rm cy f30), (wi_rm68_3_12_0 rm cy f31), (wi_rm69_3_300_0 rm cy f32), (wi_rm41_0_4_0 rm cy g_many), (wi_rm62_3_300_0 rm cy f33), (a_this, .inr (10, mfs rm x_taped x_at x_end x_ended x_bad x_badPlace x_fault x_faultPlace x_namePlace x_awayTold x_away x_coded x_statements x_isCrossing v14 v15 v16 v17 v18 v19 v20 v21 x_rowMany x_fitMany x_fitRules x_fitGreen x_undoable x_newest x_seeded x_qCoded x_qWaits x_qOpened x_qBase v22 x_qAnswer x_qIsNew x_octets)), (wi_rm46_0_48_0 rm cy g_walkers)] H := hP
          replace hD := k_D hP hD
          obtain ⟨h43, h44⟩ := hw
          replace hq := lf_b1 hq h44
          subst hQ; exact k_iret hx hb hr hlk rfl ((v14, v15, v16, v17, v18, v19, v20, v21, v22, f23, f24, f25, f26, f27, f28, f29, f30, f31, f32, f33)) hS ⟨ib_w 0 1 h34 rfl, ib_w 0 1 h35 rfl, ib_w 0 1700 h36 rfl, h37, (hO.symm.trans (by exact hq))⟩ (hP.sub [18, 16, 0, 1, 2, 3, 19, 4, 5, 6, 7, 8, 9, 10, 11, 12, 13, 14, 15, 17] rfl) (hD.sub [18, 16, 0, 1, 2, 3, 19, 4, 5, 6, 7, 8, 9, 10, 11, 12, 13, 14, 15, 17] (by decide +kernel) rfl) (Nat.le_of_ble_eq_true rfl) (Nat.le_of_ble_eq_true rfl) dX10_walker_61
        replace hq := lf_neg hq (lf_ne (lf_rf p1) (lf_lc 0 (0 : Int) rfl) s39_0)
        rcases Decidable.em (p1 = 1) with s39_1 | s39_1
        · skip
          replace hq := lf_pos hq (lf_eq (lf_rf p1) (lf_lc 1 (1 : Int) rfl) s39_1)
          have h45 : ib p1 1 1 := by rw [s39_1]; exact ib_c 1 1 1 rfl
          refine lv_tableIn (off := 47) (tgt := 62) hx hb dX10_walker_15 (by rw [s39_1]; decide) (by rw [s39_1]; decide) (by rw [s39_1]; decide) (by decide) ?_
          refine lv_aload_n hx hb dX10_walker_62 rfl (lv_at hl 0 rfl) ?_
          refine lv_iload_n hx hb dX10_walker_63 rfl (lv_at hl 1 rfl) ?_
          refine k_jim hP hD hS hA [0, 5] [false, true, true, true, true, false, true, true, true, true, true, true, true, true, true, true, true, true, true, true] rfl rfl (by decide +kernel) 0 0 (Nat.le_of_ble_eq_true rfl) (Nat.le_of_ble_eq_true rfl) (fun hPc hDc => k_runV (As := [.int p0]) (rest := []) C0 hZ hS hA (s_X10_secondOf l dC dI cy sq a_this rm x_taped x_at x_end x_ended x_bad x_badPlace x_fault x_faultPlace x_namePlace x_awayTold x_away x_coded x_statements x_isCrossing v14 v15 v16 v17 v18 v19 v20 v21 x_rowMany x_fitMany x_fitRules x_fitGreen x_undoable x_newest x_seeded x_qCoded x_qWaits x_qOpened x_qBase v22 x_qAnswer x_qIsNew x_octets g_walkers p0 hpg_walkers (ib_w 0 11 h11 rfl)) mV_X10_460 hPc hDc rfl rfl rfl hl rfl rfl (Nat.le_of_ble_eq_true rfl) ⟨(Nat.le_of_ble_eq_true rfl), (Nat.le_of_ble_eq_true rfl)⟩ ⟨(Nat.le_of_ble_eq_true rfl), (Nat.le_of_ble_eq_true rfl)⟩ dX10_walker_64) (fun r46 u47 H locs hw hP hD hS => ?_)
          try dsimp only at hP hD hw
          replace hP : va_P (dC, dI) vwCl [(wi_rm49_0_6_0 rm cy g_codeFrom), (wi_rm50_0_6_0 rm cy g_codeEnd), (wi_rm116_1_1700_1 rm cy f23), (wi_rm51_0_3200_0 rm cy g_codes), (wi_rm56_0_9_0 rm cy g_now), (wi_rm43_0_8_0 rm cy g_bar), (wi_rm65_0_12_0 rm cy f24), (wi_rm44_0_24_0 rm cy g_kinds), (wi_rm61_0_300_0 rm cy f25), (wi_rm66_3_12_0 rm cy f26), (wi_rm67_3_12_0 rm cy f27), (wi_rm60_3_320_0 rm cy f28), (wi_rm63_3_12_0 rm cy f29), (wi_rm64_0_12_0 rm cy f30), (wi_rm68_3_12_0 rm cy f31), (wi_rm69_3_300_0 rm cy f32), (wi_rm41_0_4_0 rm cy g_many), (wi_rm62_3_300_0 rm cy f33), (a_this, .inr (10, mfs rm x_taped x_at x_end x_ended x_bad x_badPlace x_fault x_faultPlace x_namePlace x_awayTold x_away x_coded x_statements x_isCrossing v14 v15 v16 v17 v18 v19 v20 v21 x_rowMany x_fitMany x_fitRules x_fitGreen x_undoable x_newest x_seeded x_qCoded x_qWaits x_qOpened x_qBase v22 x_qAnswer x_qIsNew x_octets)), (wi_rm46_0_48_0 rm cy g_walkers)] H := hP
          replace hD := k_D hP hD
          have h48 := hw
          replace hq := lf_b1 hq h48
          subst hQ; exact k_iret hx hb hr hlk rfl ((v14, v15, v16, v17, v18, v19, v20, v21, v22, f23, f24, f25, f26, f27, f28, f29, f30, f31, f32, f33)) hS ⟨ib_w 0 1 h34 rfl, ib_w 0 1 h35 rfl, ib_w 0 1700 h36 rfl, h37, (hO.symm.trans (by exact hq))⟩ (hP.sub [18, 16, 0, 1, 2, 3, 19, 4, 5, 6, 7, 8, 9, 10, 11, 12, 13, 14, 15, 17] rfl) (hD.sub [18, 16, 0, 1, 2, 3, 19, 4, 5, 6, 7, 8, 9, 10, 11, 12, 13, 14, 15, 17] (by decide +kernel) rfl) (Nat.le_of_ble_eq_true rfl) (Nat.le_of_ble_eq_true rfl) dX10_walker_67
        replace hq := lf_neg hq (lf_ne (lf_rf p1) (lf_lc 1 (1 : Int) rfl) s39_1)
        rcases Decidable.em (p1 = 2) with s39_2 | s39_2
        · skip
          replace hq := lf_pos hq (lf_eq (lf_rf p1) (lf_lc 2 (2 : Int) rfl) s39_2)
          have h49 : ib p1 2 2 := by rw [s39_2]; exact ib_c 2 2 2 rfl
          refine lv_tableIn (off := 53) (tgt := 68) hx hb dX10_walker_15 (by rw [s39_2]; decide) (by rw [s39_2]; decide) (by rw [s39_2]; decide) (by decide) ?_
          refine lv_aload_n hx hb dX10_walker_68 rfl (lv_at hl 0 rfl) ?_
          refine k_get C0 fg_X10_158 hP 0 rfl rfl dX10_walker_69 ?_
          refine lv_iload_n hx hb dX10_walker_72 rfl (lv_at hl 1 rfl) ?_
          refine va_iald hx hb C0.2.2.2.2.2.1 hP 15 0 rfl rfl (ib_in 12 h11 rfl) dX10_walker_73 ?_
          refine lv_topi (fun z50 ez50 => ?_)
          have Ez50 := lf_ld ez50 (lf_ra f30) (lf_rf p0)
          subst hQ; exact k_iret hx hb hr hlk rfl ((v14, v15, v16, v17, v18, v19, v20, v21, v22, f23, f24, f25, f26, f27, f28, f29, f30, f31, f32, f33)) hS ⟨ib_w 0 1 h34 rfl, ib_w 0 1 h35 rfl, ib_w 0 1700 h36 rfl, h37, (hO.symm.trans (by rw [lf_u Ez50]; exact hq))⟩ (hP.sub [0, 18, 1, 2, 3, 4, 5, 6, 7, 8, 9, 10, 11, 12, 13, 14, 15, 16, 17, 19] rfl) (hD.sub [0, 18, 1, 2, 3, 4, 5, 6, 7, 8, 9, 10, 11, 12, 13, 14, 15, 16, 17, 19] (by decide +kernel) rfl) (Nat.le_of_ble_eq_true rfl) (Nat.le_of_ble_eq_true rfl) dX10_walker_74
        replace hq := lf_neg hq (lf_ne (lf_rf p1) (lf_lc 2 (2 : Int) rfl) s39_2)
        rcases Decidable.em (p1 = 3) with s39_3 | s39_3
        · skip
          replace hq := lf_pos hq (lf_eq (lf_rf p1) (lf_lc 3 (3 : Int) rfl) s39_3)
          have h51 : ib p1 3 3 := by rw [s39_3]; exact ib_c 3 3 3 rfl
          refine lv_tableIn (off := 60) (tgt := 75) hx hb dX10_walker_15 (by rw [s39_3]; decide) (by rw [s39_3]; decide) (by rw [s39_3]; decide) (by decide) ?_
          refine lv_aload_n hx hb dX10_walker_75 rfl (lv_at hl 0 rfl) ?_
          refine k_get C0 fg_X10_161 hP 0 rfl rfl dX10_walker_76 ?_
          refine lv_iload_n hx hb dX10_walker_79 rfl (lv_at hl 1 rfl) ?_
          refine va_iald hx hb C0.2.2.2.2.2.1 hP 8 0 rfl rfl (ib_in 12 h11 rfl) dX10_walker_80 ?_
          refine lv_topi (fun z52 ez52 => ?_)
          have Ez52 := lf_ld ez52 (lf_ra f24) (lf_rf p0)
          subst hQ; exact k_iret hx hb hr hlk rfl ((v14, v15, v16, v17, v18, v19, v20, v21, v22, f23, f24, f25, f26, f27, f28, f29, f30, f31, f32, f33)) hS ⟨ib_w 0 1 h34 rfl, ib_w 0 1 h35 rfl, ib_w 0 1700 h36 rfl, h37, (hO.symm.trans (by rw [lf_u Ez52]; exact hq))⟩ (hP.sub [0, 18, 1, 2, 3, 4, 5, 6, 7, 8, 9, 10, 11, 12, 13, 14, 15, 16, 17, 19] rfl) (hD.sub [0, 18, 1, 2, 3, 4, 5, 6, 7, 8, 9, 10, 11, 12, 13, 14, 15, 16, 17, 19] (by decide +kernel) rfl) (Nat.le_of_ble_eq_true rfl) (Nat.le_of_ble_eq_true rfl) dX10_walker_81
        replace hq := lf_neg hq (lf_ne (lf_rf p1) (lf_lc 3 (3 : Int) rfl) s39_3)
        rcases Decidable.em (p1 = 4) with s39_4 | s39_4
        · as_aux_lemma =>
            skip
            replace hq := lf_pos hq (lf_eq (lf_rf p1) (lf_lc 4 (4 : Int) rfl) s39_4)
            have h53 : ib p1 4 4 := by rw [s39_4]; exact ib_c 4 4 4 rfl
            refine lv_tableIn (off := 67) (tgt := 82) hx hb dX10_walker_15 (by rw [s39_4]; decide) (by rw [s39_4]; decide) (by rw [s39_4]; decide) (by decide) ?_
            refine lv_aload_n hx hb dX10_walker_82 rfl (lv_at hl 0 rfl) ?_
            refine k_get C0 fg_X10_164 hP 0 rfl rfl dX10_walker_83 ?_
            refine lv_iload_n hx hb dX10_walker_86 rfl (lv_at hl 1 rfl) ?_
            refine va_zald hx hb C0.2.2.2.2.2.1 hP 11 3 rfl rfl (ib_in 12 h11 rfl) dX10_walker_87 ?_
            refine lv_topi (fun z54 ez54 => ?_)
            have Ez54 := lf_ld ez54 (lf_ra f26) (lf_rf p0)
            refine lv_if_eq (tgt := 95) hx hb dX10_walker_88 rfl (fun c55 => ?_) (fun c55 => ?_)
            · replace hq := lf_pos hq (lf_eq Ez54 (lf_lc 0 (0 : Int) rfl) c55)
              have h56 := ib_eq (ib_any z54) (ib_c 0 0 0 rfl) c55
              have h57 : ib z54 0 0 := ib_w 0 0 h56.1 rfl
              refine lv_iconst (v := 0) hx hb dX10_walker_95 rfl ?_
              subst hQ; exact k_iret hx hb hr hlk rfl ((v14, v15, v16, v17, v18, v19, v20, v21, v22, f23, f24, f25, f26, f27, f28, f29, f30, f31, f32, f33)) hS ⟨ib_w 0 1 h34 rfl, ib_w 0 1 h35 rfl, ib_w 0 1700 h36 rfl, h37, (hO.symm.trans (by try simp only [show (0 : Int32).toInt = (0 : Int) from rfl]; exact hq))⟩ (hP.sub [0, 18, 1, 2, 3, 4, 5, 6, 7, 8, 9, 10, 11, 12, 13, 14, 15, 16, 17, 19] rfl) (hD.sub [0, 18, 1, 2, 3, 4, 5, 6, 7, 8, 9, 10, 11, 12, 13, 14, 15, 16, 17, 19] (by decide +kernel) rfl) (Nat.le_of_ble_eq_true rfl) (Nat.le_of_ble_eq_true rfl) dX10_walker_96
            · replace hq := lf_neg hq (lf_ne Ez54 (lf_lc 0 (0 : Int) rfl) c55)
              refine lv_iconst (v := 1) hx hb dX10_walker_91 rfl ?_
              refine lv_goto (tgt := 96) hx hb dX10_walker_92 rfl ?_
              subst hQ; exact k_iret hx hb hr hlk rfl ((v14, v15, v16, v17, v18, v19, v20, v21, v22, f23, f24, f25, f26, f27, f28, f29, f30, f31, f32, f33)) hS ⟨ib_w 0 1 h34 rfl, ib_w 0 1 h35 rfl, ib_w 0 1700 h36 rfl, h37, (hO.symm.trans (by try simp only [show (1 : Int32).toInt = (1 : Int) from rfl]; exact hq))⟩ (hP.sub [0, 18, 1, 2, 3, 4, 5, 6, 7, 8, 9, 10, 11, 12, 13, 14, 15, 16, 17, 19] rfl) (hD.sub [0, 18, 1, 2, 3, 4, 5, 6, 7, 8, 9, 10, 11, 12, 13, 14, 15, 16, 17, 19] (by decide +kernel) rfl) (Nat.le_of_ble_eq_true rfl) (Nat.le_of_ble_eq_true rfl) dX10_walker_96
        replace hq := lf_neg hq (lf_ne (lf_rf p1) (lf_lc 4 (4 : Int) rfl) s39_4)
        rcases Decidable.em (p1 = 5) with s39_5 | s39_5
        · as_aux_lemma =>
            skip
            replace hq := lf_pos hq (lf_eq (lf_rf p1) (lf_lc 5 (5 : Int) rfl) s39_5)
            have h58 : ib p1 5 5 := by rw [s39_5]; exact ib_c 5 5 5 rfl
            refine lv_tableIn (off := 82) (tgt := 97) hx hb dX10_walker_15 (by rw [s39_5]; decide) (by rw [s39_5]; decide) (by rw [s39_5]; decide) (by decide) ?_
            refine lv_aload_n hx hb dX10_walker_97 rfl (lv_at hl 0 rfl) ?_
            refine k_get C0 fg_X10_167 hP 0 rfl rfl dX10_walker_98 ?_
            refine lv_iload_n hx hb dX10_walker_101 rfl (lv_at hl 1 rfl) ?_
            refine va_zald hx hb C0.2.2.2.2.2.1 hP 12 3 rfl rfl (ib_in 12 h11 rfl) dX10_walker_102 ?_
            refine lv_topi (fun z59 ez59 => ?_)
            have Ez59 := lf_ld ez59 (lf_ra f27) (lf_rf p0)
            refine lv_if_eq (tgt := 110) hx hb dX10_walker_103 rfl (fun c60 => ?_) (fun c60 => ?_)
            · replace hq := lf_pos hq (lf_eq Ez59 (lf_lc 0 (0 : Int) rfl) c60)
              have h61 := ib_eq (ib_any z59) (ib_c 0 0 0 rfl) c60
              have h62 : ib z59 0 0 := ib_w 0 0 h61.1 rfl
              refine lv_iconst (v := 0) hx hb dX10_walker_110 rfl ?_
              subst hQ; exact k_iret hx hb hr hlk rfl ((v14, v15, v16, v17, v18, v19, v20, v21, v22, f23, f24, f25, f26, f27, f28, f29, f30, f31, f32, f33)) hS ⟨ib_w 0 1 h34 rfl, ib_w 0 1 h35 rfl, ib_w 0 1700 h36 rfl, h37, (hO.symm.trans (by try simp only [show (0 : Int32).toInt = (0 : Int) from rfl]; exact hq))⟩ (hP.sub [0, 18, 1, 2, 3, 4, 5, 6, 7, 8, 9, 10, 11, 12, 13, 14, 15, 16, 17, 19] rfl) (hD.sub [0, 18, 1, 2, 3, 4, 5, 6, 7, 8, 9, 10, 11, 12, 13, 14, 15, 16, 17, 19] (by decide +kernel) rfl) (Nat.le_of_ble_eq_true rfl) (Nat.le_of_ble_eq_true rfl) dX10_walker_111
            · replace hq := lf_neg hq (lf_ne Ez59 (lf_lc 0 (0 : Int) rfl) c60)
              refine lv_iconst (v := 1) hx hb dX10_walker_106 rfl ?_
              refine lv_goto (tgt := 111) hx hb dX10_walker_107 rfl ?_
              subst hQ; exact k_iret hx hb hr hlk rfl ((v14, v15, v16, v17, v18, v19, v20, v21, v22, f23, f24, f25, f26, f27, f28, f29, f30, f31, f32, f33)) hS ⟨ib_w 0 1 h34 rfl, ib_w 0 1 h35 rfl, ib_w 0 1700 h36 rfl, h37, (hO.symm.trans (by try simp only [show (1 : Int32).toInt = (1 : Int) from rfl]; exact hq))⟩ (hP.sub [0, 18, 1, 2, 3, 4, 5, 6, 7, 8, 9, 10, 11, 12, 13, 14, 15, 16, 17, 19] rfl) (hD.sub [0, 18, 1, 2, 3, 4, 5, 6, 7, 8, 9, 10, 11, 12, 13, 14, 15, 16, 17, 19] (by decide +kernel) rfl) (Nat.le_of_ble_eq_true rfl) (Nat.le_of_ble_eq_true rfl) dX10_walker_111
        replace hq := lf_neg hq (lf_ne (lf_rf p1) (lf_lc 5 (5 : Int) rfl) s39_5)
        rcases Decidable.em (p1 = 6) with s39_6 | s39_6
        · as_aux_lemma =>
            skip
            replace hq := lf_pos hq (lf_eq (lf_rf p1) (lf_lc 6 (6 : Int) rfl) s39_6)
            have h63 : ib p1 6 6 := by rw [s39_6]; exact ib_c 6 6 6 rfl
            refine lv_tableIn (off := 97) (tgt := 112) hx hb dX10_walker_15 (by rw [s39_6]; decide) (by rw [s39_6]; decide) (by rw [s39_6]; decide) (by decide) ?_
            refine lv_aload_n hx hb dX10_walker_112 rfl (lv_at hl 0 rfl) ?_
            refine k_get C0 fg_X10_170 hP 0 rfl rfl dX10_walker_113 ?_
            refine lv_iload_n hx hb dX10_walker_116 rfl (lv_at hl 1 rfl) ?_
            refine va_zald hx hb C0.2.2.2.2.2.1 hP 16 3 rfl rfl (ib_in 12 h11 rfl) dX10_walker_117 ?_
            refine lv_topi (fun z64 ez64 => ?_)
            have Ez64 := lf_ld ez64 (lf_ra f31) (lf_rf p0)
            refine lv_if_eq (tgt := 125) hx hb dX10_walker_118 rfl (fun c65 => ?_) (fun c65 => ?_)
            · replace hq := lf_pos hq (lf_eq Ez64 (lf_lc 0 (0 : Int) rfl) c65)
              have h66 := ib_eq (ib_any z64) (ib_c 0 0 0 rfl) c65
              have h67 : ib z64 0 0 := ib_w 0 0 h66.1 rfl
              refine lv_iconst (v := 0) hx hb dX10_walker_125 rfl ?_
              subst hQ; exact k_iret hx hb hr hlk rfl ((v14, v15, v16, v17, v18, v19, v20, v21, v22, f23, f24, f25, f26, f27, f28, f29, f30, f31, f32, f33)) hS ⟨ib_w 0 1 h34 rfl, ib_w 0 1 h35 rfl, ib_w 0 1700 h36 rfl, h37, (hO.symm.trans (by try simp only [show (0 : Int32).toInt = (0 : Int) from rfl]; exact hq))⟩ (hP.sub [0, 18, 1, 2, 3, 4, 5, 6, 7, 8, 9, 10, 11, 12, 13, 14, 15, 16, 17, 19] rfl) (hD.sub [0, 18, 1, 2, 3, 4, 5, 6, 7, 8, 9, 10, 11, 12, 13, 14, 15, 16, 17, 19] (by decide +kernel) rfl) (Nat.le_of_ble_eq_true rfl) (Nat.le_of_ble_eq_true rfl) dX10_walker_126
            · replace hq := lf_neg hq (lf_ne Ez64 (lf_lc 0 (0 : Int) rfl) c65)
              refine lv_iconst (v := 1) hx hb dX10_walker_121 rfl ?_
              refine lv_goto (tgt := 126) hx hb dX10_walker_122 rfl ?_
              subst hQ; exact k_iret hx hb hr hlk rfl ((v14, v15, v16, v17, v18, v19, v20, v21, v22, f23, f24, f25, f26, f27, f28, f29, f30, f31, f32, f33)) hS ⟨ib_w 0 1 h34 rfl, ib_w 0 1 h35 rfl, ib_w 0 1700 h36 rfl, h37, (hO.symm.trans (by try simp only [show (1 : Int32).toInt = (1 : Int) from rfl]; exact hq))⟩ (hP.sub [0, 18, 1, 2, 3, 4, 5, 6, 7, 8, 9, 10, 11, 12, 13, 14, 15, 16, 17, 19] rfl) (hD.sub [0, 18, 1, 2, 3, 4, 5, 6, 7, 8, 9, 10, 11, 12, 13, 14, 15, 16, 17, 19] (by decide +kernel) rfl) (Nat.le_of_ble_eq_true rfl) (Nat.le_of_ble_eq_true rfl) dX10_walker_126
        replace hq := lf_neg hq (lf_ne (lf_rf p1) (lf_lc 6 (6 : Int) rfl) s39_6)
        refine lv_tableOut (tgt := 127) hx hb dX10_walker_15 (by have q0 := ib_nei 0 0 rfl s39_0; have q1 := ib_nei 1 1 rfl s39_1; have q2 := ib_nei 2 2 rfl s39_2; have q3 := ib_nei 3 3 rfl s39_3; have q4 := ib_nei 4 4 rfl s39_4; have q5 := ib_nei 5 5 rfl s39_5; have q6 := ib_nei 6 6 rfl s39_6; omega) (by decide) ?_
        refine lv_iconst (v := (-1)) hx hb dX10_walker_127 rfl ?_
        subst hQ; exact k_iret hx hb hr hlk rfl ((v14, v15, v16, v17, v18, v19, v20, v21, v22, f23, f24, f25, f26, f27, f28, f29, f30, f31, f32, f33)) hS ⟨ib_w 0 1 h34 rfl, ib_w 0 1 h35 rfl, ib_w 0 1700 h36 rfl, h37, (hO.symm.trans (by try simp only [show ((-1) : Int32).toInt = (-1 : Int) from rfl]; exact hq))⟩ (hP.sub [0, 18, 1, 2, 3, 4, 5, 6, 7, 8, 9, 10, 11, 12, 13, 14, 15, 16, 17, 19] rfl) (hD.sub [0, 18, 1, 2, 3, 4, 5, 6, 7, 8, 9, 10, 11, 12, 13, 14, 15, 16, 17, 19] (by decide +kernel) rfl) (Nat.le_of_ble_eq_true rfl) (Nat.le_of_ble_eq_true rfl) dX10_walker_128
  · replace hq := lf_pos hq (lf_eq (lf_rf r1) (lf_lc 0 (0 : Int) rfl) c7)
    have h68 := ib_eq h3 (ib_c 0 0 0 rfl) c7
    have h69 : ib r1 0 0 := ib_w 0 0 h68.1 rfl
    refine lv_iconst (v := (-1)) hx hb dX10_walker_8 rfl ?_
    subst hQ; exact k_iret hx hb hr hlk rfl ((x_textKind, x_askSecond, x_redMany, x_isOpen, x_lastGreen, x_greenTo, x_isCycleGreen, x_stillGreen, x_qPiled, g_qPile, g_waits, g_gaps, g_goes, g_harms, g_isCar, g_isHere, g_crosses, g_presses, g_crossedIn, g_isGreen)) hS ⟨ib_w 0 1 hx_isOpen rfl, ib_w 0 1 hx_isCycleGreen rfl, ib_w 0 1700 hx_qPiled rfl, hg_gaps, (hO.symm.trans (by try simp only [show ((-1) : Int32).toInt = (-1 : Int) from rfl]; exact hq))⟩ (hP.sub [18, 19, 0, 1, 2, 3, 4, 5, 6, 7, 8, 9, 10, 11, 12, 13, 14, 15, 16, 17] rfl) (hD.sub [18, 19, 0, 1, 2, 3, 4, 5, 6, 7, 8, 9, 10, 11, 12, 13, 14, 15, 16, 17] (by decide +kernel) rfl) (Nat.le_of_ble_eq_true rfl) (Nat.le_of_ble_eq_true rfl) dX10_walker_9
set_option maxHeartbeats 4000000 in
set_option maxRecDepth 100000 in
theorem s_X10_watched (l : Launch) (dC : Nat → ClassId) (dI : Nat → Nat → Nat) (cy : Nat → ClassId) (sq : Nat → Nat) (a_this : Nat) (rm : Nat → Nat) (x_taped : Int32) (x_at : Int32) (x_end : Int32) (x_ended : Int32) (x_bad : Int32) (x_badPlace : Int32) (x_fault : Int32) (x_faultPlace : Int32) (x_namePlace : Int32) (x_awayTold : Int32) (x_away : Int32) (x_coded : Int32) (x_statements : Int32) (x_isCrossing : Int32) (x_textKind : Int32) (x_askSecond : Int32) (x_redMany : Int32) (x_isOpen : Int32) (x_lastGreen : Int32) (x_greenTo : Int32) (x_isCycleGreen : Int32) (x_stillGreen : Int32) (x_rowMany : Int32) (x_fitMany : Int32) (x_fitRules : Int32) (x_fitGreen : Int32) (x_undoable : Int32) (x_newest : Int32) (x_seeded : Int64) (x_qCoded : Int32) (x_qWaits : Int32) (x_qOpened : Int32) (x_qBase : Int32) (x_qPiled : Int32) (x_qAnswer : Int64) (x_qIsNew : Int32) (x_octets : Int32) (g_many : Nat → Int32) (g_bar : Nat → Int32) (g_kinds : Nat → Int32) (g_walkers : Nat → Int32) (g_codeFrom : Nat → Int32) (g_codeEnd : Nat → Int32) (g_codes : Nat → Int32) (g_now : Nat → Int32) (g_isCar : Nat → Int32) (g_gaps : Nat → Int32) (g_isGreen : Nat → Int32) (g_isHere : Nat → Int32) (g_crosses : Nat → Int32) (g_waits : Nat → Int32) (g_goes : Nat → Int32) (g_harms : Nat → Int32) (g_presses : Nat → Int32) (g_crossedIn : Nat → Int32) (g_rows : Nat → Int32) (g_when : Nat → Int32) (g_qPile : Nat → Int64) (p0 : Int32) (hx_isCrossing : ib x_isCrossing 0 1) (hx_isOpen : ib x_isOpen 0 1) (hx_isCycleGreen : ib x_isCycleGreen 0 1) (hx_rowMany : ib x_rowMany 0 16) (hx_fitMany : ib x_fitMany 0 60) (hx_qPiled : ib x_qPiled 0 1700) (hg_many_3 : ib (g_many 3) 0 12) (hg_bar_4 : ib (g_bar 4) 0 120) (hpg_walkers : ip g_walkers 48 2 0 0 5) (hg_codeFrom_3 : ib (g_codeFrom 3) (-1) 1600) (hg_codeFrom_4 : ib (g_codeFrom 4) (-1) 1600) (hg_codeEnd_3 : ib (g_codeEnd 3) 0 1600) (hg_codeEnd_4 : ib (g_codeEnd 4) 0 1600) (hg_gaps : ia g_gaps 300 0 20) (hpg_rows : ip g_rows 32 2 0 0 11) (hG0 : ¬ g_codeFrom 3 = (-1) → okc g_codes 1600 false (g_codeFrom 3) (g_codeEnd 3)) (hG1 : ¬ g_codeFrom 4 = (-1) → okc g_codes 1600 true (g_codeFrom 4) (g_codeEnd 4)) (hc_cr : ¬ x_isCrossing = 0 → ib (g_bar 4) 10 120) : k_Met l yX10_watched cX10_watched 6 (some .int) { frames := 7, cells := 0, slots := 0, locals := 160 } dC dI cy sq [.ref a_this, .int p0] [(a_this, .inr (10, mfs rm x_taped x_at x_end x_ended x_bad x_badPlace x_fault x_faultPlace x_namePlace x_awayTold x_away x_coded x_statements x_isCrossing x_textKind x_askSecond x_redMany x_isOpen x_lastGreen x_greenTo x_isCycleGreen x_stillGreen x_rowMany x_fitMany x_fitRules x_fitGreen x_undoable x_newest x_seeded x_qCoded x_qWaits x_qOpened x_qBase x_qPiled x_qAnswer x_qIsNew x_octets)), (wi_rm49_0_6_0 rm cy g_codeFrom), (wi_rm50_0_6_0 rm cy g_codeEnd), (wi_rm116_1_1700_1 rm cy g_qPile), (wi_rm51_0_3200_0 rm cy g_codes), (wi_rm46_0_48_0 rm cy g_walkers), (wi_rm56_0_9_0 rm cy g_now), (wi_rm43_0_8_0 rm cy g_bar), (wi_rm65_0_12_0 rm cy g_waits), (wi_rm44_0_24_0 rm cy g_kinds), (wi_rm61_0_300_0 rm cy g_gaps), (wi_rm66_3_12_0 rm cy g_goes), (wi_rm67_3_12_0 rm cy g_harms), (wi_rm60_3_320_0 rm cy g_isCar), (wi_rm63_3_12_0 rm cy g_isHere), (wi_rm64_0_12_0 rm cy g_crosses), (wi_rm68_3_12_0 rm cy g_presses), (wi_rm69_3_300_0 rm cy g_crossedIn), (wi_rm41_0_4_0 rm cy g_many), (wi_rm62_3_300_0 rm cy g_isGreen), (wi_rm76_0_32_0 rm cy g_rows), (wi_rm77_0_720_0 rm cy g_when)] (k_Qi dC dI (fun (r : Int32) (u : Int32 × Int32 × Int32 × Int32 × Int32 × Int32 × Int32 × Int32 × Int32 × Int32 × Int32 × Int32 × (Nat → Int64) × (Nat → Int32) × (Nat → Int32) × (Nat → Int32) × (Nat → Int32) × (Nat → Int32) × (Nat → Int32) × (Nat → Int32) × (Nat → Int32) × (Nat → Int32) × (Nat → Int32) × (Nat → Int32)) => match u with | (n0, n1, n2, n3, n4, n5, n6, n7, n8, n9, n10, n11, n12, n13, n14, n15, n16, n17, n18, n19, n20, n21, n22, n23) => ib n3 0 1 ∧ ib n6 0 1 ∧ ib n8 0 60 ∧ ib n11 0 1700 ∧ ia n14 300 0 20 ∧ ib r (-1) 2147483647 ∧ (F_X10_watched (Int32.toInt x_isCrossing) (Int32.toInt x_textKind) (Int32.toInt x_askSecond) (Int32.toInt x_redMany) (Int32.toInt x_isOpen) (Int32.toInt x_lastGreen) (Int32.toInt x_greenTo) (Int32.toInt x_isCycleGreen) (Int32.toInt x_stillGreen) (Int32.toInt x_rowMany) (Int32.toInt x_fitMany) (Int32.toInt x_fitRules) (Int32.toInt x_fitGreen) (Int32.toInt x_qPiled) (lf_A g_many) (lf_A g_bar) (lf_A g_kinds) (lf_A g_walkers) (lf_A g_codeFrom) (lf_A g_codeEnd) (lf_A g_codes) (lf_A g_now) (lf_A g_isCar) (lf_A g_gaps) (lf_A g_isGreen) (lf_A g_isHere) (lf_A g_crosses) (lf_A g_waits) (lf_A g_goes) (lf_A g_harms) (lf_A g_presses) (lf_A g_crossedIn) (lf_A g_rows) (lf_A g_when) (lf_L g_qPile) (Int32.toInt p0) = ((Int32.toInt r), (Int32.toInt n0), (Int32.toInt n1), (Int32.toInt n2), (Int32.toInt n3), (Int32.toInt n4), (Int32.toInt n5), (Int32.toInt n6), (Int32.toInt n7), (Int32.toInt n8), (Int32.toInt n9), (Int32.toInt n10), (Int32.toInt n11), (lf_L n12), (lf_A n13), (lf_A n14), (lf_A n15), (lf_A n16), (lf_A n17), (lf_A n18), (lf_A n19), (lf_A n20), (lf_A n21), (lf_A n22), (lf_A n23)))) (fun u : Int32 × Int32 × Int32 × Int32 × Int32 × Int32 × Int32 × Int32 × Int32 × Int32 × Int32 × Int32 × (Nat → Int64) × (Nat → Int32) × (Nat → Int32) × (Nat → Int32) × (Nat → Int32) × (Nat → Int32) × (Nat → Int32) × (Nat → Int32) × (Nat → Int32) × (Nat → Int32) × (Nat → Int32) × (Nat → Int32) => match u with | (n0, n1, n2, n3, n4, n5, n6, n7, n8, n9, n10, n11, n12, n13, n14, n15, n16, n17, n18, n19, n20, n21, n22, n23) => [(a_this, .inr (10, mfs rm x_taped x_at x_end x_ended x_bad x_badPlace x_fault x_faultPlace x_namePlace x_awayTold x_away x_coded x_statements x_isCrossing n0 n1 n2 n3 n4 n5 n6 n7 x_rowMany n8 n9 n10 x_undoable x_newest x_seeded x_qCoded x_qWaits x_qOpened x_qBase n11 x_qAnswer x_qIsNew x_octets)), (wi_rm49_0_6_0 rm cy g_codeFrom), (wi_rm50_0_6_0 rm cy g_codeEnd), (wi_rm116_1_1700_1 rm cy n12), (wi_rm51_0_3200_0 rm cy g_codes), (wi_rm46_0_48_0 rm cy g_walkers), (wi_rm56_0_9_0 rm cy g_now), (wi_rm43_0_8_0 rm cy g_bar), (wi_rm65_0_12_0 rm cy n13), (wi_rm44_0_24_0 rm cy g_kinds), (wi_rm61_0_300_0 rm cy n14), (wi_rm66_3_12_0 rm cy n15), (wi_rm67_3_12_0 rm cy n16), (wi_rm60_3_320_0 rm cy n17), (wi_rm63_3_12_0 rm cy n18), (wi_rm64_0_12_0 rm cy n19), (wi_rm68_3_12_0 rm cy n20), (wi_rm69_3_300_0 rm cy n21), (wi_rm41_0_4_0 rm cy g_many), (wi_rm62_3_300_0 rm cy n22), (wi_rm76_0_32_0 rm cy g_rows), (wi_rm77_0_720_0 rm cy n23)])) := by
  refine k_ofW2 (by decide +kernel) (Nat.le_of_ble_eq_true rfl) ?_
  intro p e s m below meth c A ls H locs args Q hQ C0 hZ hr hlk hin hP hD hA hS hl
  have C0 : k_cx p s m args c cX10_watched 6 RX10 dC dI cy sq := C0
  have hx := C0.1
  have hb := C0.2.1
  have hl : lv_has ls 6 [(0, .ref a_this), (1, .int p0)] := hl
  obtain ⟨O, hO⟩ : ∃ o, o = F_X10_watched (Int32.toInt x_isCrossing) (Int32.toInt x_textKind) (Int32.toInt x_askSecond) (Int32.toInt x_redMany) (Int32.toInt x_isOpen) (Int32.toInt x_lastGreen) (Int32.toInt x_greenTo) (Int32.toInt x_isCycleGreen) (Int32.toInt x_stillGreen) (Int32.toInt x_rowMany) (Int32.toInt x_fitMany) (Int32.toInt x_fitRules) (Int32.toInt x_fitGreen) (Int32.toInt x_qPiled) (lf_A g_many) (lf_A g_bar) (lf_A g_kinds) (lf_A g_walkers) (lf_A g_codeFrom) (lf_A g_codeEnd) (lf_A g_codes) (lf_A g_now) (lf_A g_isCar) (lf_A g_gaps) (lf_A g_isGreen) (lf_A g_isHere) (lf_A g_crosses) (lf_A g_waits) (lf_A g_goes) (lf_A g_harms) (lf_A g_presses) (lf_A g_crossedIn) (lf_A g_rows) (lf_A g_when) (lf_L g_qPile) (Int32.toInt p0) := ⟨_, rfl⟩
  have hq := hO
  unfold F_X10_watched at hq
  have jn80 : ∀ (J80_c0_55 : Int32) (J80_c0_58 : Int32) (J80_c0_59 : Int32) (J80_c0_70 : Int32) (J80_c0_71 : Int32) (J80_c0_72 : Int32) (J80_c0_73 : Int32) (J80_c0_74 : Int32) (J80_c0_78 : Int32) (J80_c0_79 : Int32) (J80_c0_80 : Int32) (J80_c0_117 : Int32) (J80_a3 : Nat → Int64) (J80_a8 : Nat → Int32) (J80_a10 : Nat → Int32) (J80_a11 : Nat → Int32) (J80_a12 : Nat → Int32) (J80_a13 : Nat → Int32) (J80_a14 : Nat → Int32) (J80_a15 : Nat → Int32) (J80_a16 : Nat → Int32) (J80_a17 : Nat → Int32) (J80_a19 : Nat → Int32) (J80_a21 : Nat → Int32) (J80_l2 : Int32) (J80_l3 : Int32) (J80_l4 : Int32) (H : Heap) (locs : List Loc) (ls : Array Slot), ib p0 0 1 → ib x_isCrossing 1 1 → ib J80_c0_70 0 1 → ib J80_c0_73 0 1 → ib J80_c0_78 0 60 → ib J80_c0_80 (-1) 20 → ib J80_c0_117 0 1700 → ib (g_bar 4) 10 120 → ib J80_l2 (-1) 2147483647 → ib J80_l3 0 2147483647 → ib J80_l4 0 12 → ia J80_a10 300 0 20 → (O = F_X10_watched_80 (Int32.toInt p0) (Int32.toInt J80_c0_55) (Int32.toInt J80_c0_58) (Int32.toInt J80_c0_59) (Int32.toInt J80_c0_70) (Int32.toInt J80_c0_71) (Int32.toInt J80_c0_72) (Int32.toInt J80_c0_73) (Int32.toInt J80_c0_74) (Int32.toInt J80_c0_78) (Int32.toInt J80_c0_79) (Int32.toInt J80_c0_80) (Int32.toInt J80_c0_117) (lf_L J80_a3) (lf_A J80_a8) (lf_A J80_a10) (lf_A J80_a11) (lf_A J80_a12) (lf_A J80_a13) (lf_A J80_a14) (lf_A J80_a15) (lf_A J80_a16) (lf_A J80_a17) (lf_A J80_a19) (lf_A J80_a21) (Int32.toInt J80_l2) (Int32.toInt J80_l3) (Int32.toInt J80_l4)) → va_P (dC, dI) vwCl [(a_this, .inr (10, mfs rm x_taped x_at x_end x_ended x_bad x_badPlace x_fault x_faultPlace x_namePlace x_awayTold x_away x_coded x_statements x_isCrossing J80_c0_55 J80_c0_58 J80_c0_59 J80_c0_70 J80_c0_71 J80_c0_72 J80_c0_73 J80_c0_74 x_rowMany J80_c0_78 J80_c0_79 J80_c0_80 x_undoable x_newest x_seeded x_qCoded x_qWaits x_qOpened x_qBase J80_c0_117 x_qAnswer x_qIsNew x_octets)), (wi_rm49_0_6_0 rm cy g_codeFrom), (wi_rm50_0_6_0 rm cy g_codeEnd), (wi_rm116_1_1700_1 rm cy J80_a3), (wi_rm51_0_3200_0 rm cy g_codes), (wi_rm46_0_48_0 rm cy g_walkers), (wi_rm56_0_9_0 rm cy g_now), (wi_rm43_0_8_0 rm cy g_bar), (wi_rm65_0_12_0 rm cy J80_a8), (wi_rm44_0_24_0 rm cy g_kinds), (wi_rm61_0_300_0 rm cy J80_a10), (wi_rm66_3_12_0 rm cy J80_a11), (wi_rm67_3_12_0 rm cy J80_a12), (wi_rm60_3_320_0 rm cy J80_a13), (wi_rm63_3_12_0 rm cy J80_a14), (wi_rm64_0_12_0 rm cy J80_a15), (wi_rm68_3_12_0 rm cy J80_a16), (wi_rm69_3_300_0 rm cy J80_a17), (wi_rm41_0_4_0 rm cy g_many), (wi_rm62_3_300_0 rm cy J80_a19), (wi_rm76_0_32_0 rm cy g_rows), (wi_rm77_0_720_0 rm cy J80_a21)] H → va_D A [(a_this, .inr (10, mfs rm x_taped x_at x_end x_ended x_bad x_badPlace x_fault x_faultPlace x_namePlace x_awayTold x_away x_coded x_statements x_isCrossing J80_c0_55 J80_c0_58 J80_c0_59 J80_c0_70 J80_c0_71 J80_c0_72 J80_c0_73 J80_c0_74 x_rowMany J80_c0_78 J80_c0_79 J80_c0_80 x_undoable x_newest x_seeded x_qCoded x_qWaits x_qOpened x_qBase J80_c0_117 x_qAnswer x_qIsNew x_octets)), (wi_rm49_0_6_0 rm cy g_codeFrom), (wi_rm50_0_6_0 rm cy g_codeEnd), (wi_rm116_1_1700_1 rm cy J80_a3), (wi_rm51_0_3200_0 rm cy g_codes), (wi_rm46_0_48_0 rm cy g_walkers), (wi_rm56_0_9_0 rm cy g_now), (wi_rm43_0_8_0 rm cy g_bar), (wi_rm65_0_12_0 rm cy J80_a8), (wi_rm44_0_24_0 rm cy g_kinds), (wi_rm61_0_300_0 rm cy J80_a10), (wi_rm66_3_12_0 rm cy J80_a11), (wi_rm67_3_12_0 rm cy J80_a12), (wi_rm60_3_320_0 rm cy J80_a13), (wi_rm63_3_12_0 rm cy J80_a14), (wi_rm64_0_12_0 rm cy J80_a15), (wi_rm68_3_12_0 rm cy J80_a16), (wi_rm69_3_300_0 rm cy J80_a17), (wi_rm41_0_4_0 rm cy g_many), (wi_rm62_3_300_0 rm cy J80_a19), (wi_rm76_0_32_0 rm cy g_rows), (wi_rm77_0_720_0 rm cy J80_a21)] → va_S A s.heap H locs → lv_has ls 6 [(0, .ref a_this), (1, .int p0), (2, .int J80_l2), (3, .int J80_l3), (4, .int J80_l4)] → W p l e { frames := 7, cells := 0, slots := 0, locals := 160 } s m args below meth c H locs 0 0 Q (F0 m 80 ls []) := by
    as_aux_lemma =>
      intro J80_c0_55 J80_c0_58 J80_c0_59 J80_c0_70 J80_c0_71 J80_c0_72 J80_c0_73 J80_c0_74 J80_c0_78 J80_c0_79 J80_c0_80 J80_c0_117 J80_a3 J80_a8 J80_a10 J80_a11 J80_a12 J80_a13 J80_a14 J80_a15 J80_a16 J80_a17 J80_a19 J80_a21 J80_l2 J80_l3 J80_l4 H locs ls hK80_p0 hK80_x_isCrossing hJ80_c0_70 hJ80_c0_73 hJ80_c0_78 hJ80_c0_80 hJ80_c0_117 hJ80_a7_4 hJ80_l2 hJ80_l3 hJ80_l4 hJ80_a10 hq hP hD hS hl
      unfold F_X10_watched_80 at hq
      refine lv_iload_n hx hb dX10_watched_80 rfl (lv_at hl 2 rfl) ?_
      refine lv_iconst (v := (-1)) hx hb dX10_watched_81 rfl ?_
      refine lv_icmp_ne (tgt := 89) hx hb dX10_watched_82 rfl (fun c1 => ?_) (fun c1 => ?_)
      · replace hq := lf_neg hq (lf_ne (lf_rf J80_l2) (lf_lc (-1) (-1 : Int) rfl) c1)
        have h2 : ib J80_l2 0 2147483647 := ib_w 0 2147483647 (ib_ne_lo (-1) hJ80_l2 rfl c1) rfl
        refine lv_iload_n hx hb dX10_watched_89 rfl (lv_at hl 1 rfl) ?_
        refine lv_if_ne (tgt := 97) hx hb dX10_watched_90 rfl (fun c3 => ?_) (fun c3 => ?_)
        · replace hq := lf_neg hq (lf_ne (lf_rf p0) (lf_lc 0 (0 : Int) rfl) c3)
          have h4 : ib p0 1 1 := ib_w 1 1 (ib_ne_lo 0 hK80_p0 rfl c3) rfl
          refine lv_iload_n hx hb dX10_watched_97 rfl (lv_at hl 3 rfl) ?_
          subst hQ; exact k_iret hx hb hr hlk rfl ((J80_c0_55, J80_c0_58, J80_c0_59, J80_c0_70, J80_c0_71, J80_c0_72, J80_c0_73, J80_c0_74, J80_c0_78, J80_c0_79, J80_c0_80, J80_c0_117, J80_a3, J80_a8, J80_a10, J80_a11, J80_a12, J80_a13, J80_a14, J80_a15, J80_a16, J80_a17, J80_a19, J80_a21)) hS ⟨ib_w 0 1 hJ80_c0_70 rfl, ib_w 0 1 hJ80_c0_73 rfl, ib_w 0 60 hJ80_c0_78 rfl, ib_w 0 1700 hJ80_c0_117 rfl, hJ80_a10, ib_w (-1) 2147483647 hJ80_l3 rfl, (hO.symm.trans (by exact hq))⟩ hP hD (Nat.le_of_ble_eq_true rfl) (Nat.le_of_ble_eq_true rfl) dX10_watched_98
        · replace hq := lf_pos hq (lf_eq (lf_rf p0) (lf_lc 0 (0 : Int) rfl) c3)
          have h5 := ib_eq hK80_p0 (ib_c 0 0 0 rfl) c3
          have h6 : ib p0 0 0 := ib_w 0 0 h5.1 rfl
          refine lv_iload_n hx hb dX10_watched_93 rfl (lv_at hl 2 rfl) ?_
          refine lv_goto (tgt := 98) hx hb dX10_watched_94 rfl ?_
          subst hQ; exact k_iret hx hb hr hlk rfl ((J80_c0_55, J80_c0_58, J80_c0_59, J80_c0_70, J80_c0_71, J80_c0_72, J80_c0_73, J80_c0_74, J80_c0_78, J80_c0_79, J80_c0_80, J80_c0_117, J80_a3, J80_a8, J80_a10, J80_a11, J80_a12, J80_a13, J80_a14, J80_a15, J80_a16, J80_a17, J80_a19, J80_a21)) hS ⟨ib_w 0 1 hJ80_c0_70 rfl, ib_w 0 1 hJ80_c0_73 rfl, ib_w 0 60 hJ80_c0_78 rfl, ib_w 0 1700 hJ80_c0_117 rfl, hJ80_a10, ib_w (-1) 2147483647 h2 rfl, (hO.symm.trans (by exact hq))⟩ hP hD (Nat.le_of_ble_eq_true rfl) (Nat.le_of_ble_eq_true rfl) dX10_watched_98
      · replace hq := lf_pos hq (lf_eq (lf_rf J80_l2) (lf_lc (-1) (-1 : Int) rfl) c1)
        have h7 := ib_eq hJ80_l2 (ib_c (-1) (-1) (-1) rfl) c1
        have h8 : ib J80_l2 (-1) (-1) := ib_w (-1) (-1) h7.1 rfl
        refine lv_iconst (v := (-1)) hx hb dX10_watched_85 rfl ?_
        refine lv_goto (tgt := 98) hx hb dX10_watched_86 rfl ?_
        subst hQ; exact k_iret hx hb hr hlk rfl ((J80_c0_55, J80_c0_58, J80_c0_59, J80_c0_70, J80_c0_71, J80_c0_72, J80_c0_73, J80_c0_74, J80_c0_78, J80_c0_79, J80_c0_80, J80_c0_117, J80_a3, J80_a8, J80_a10, J80_a11, J80_a12, J80_a13, J80_a14, J80_a15, J80_a16, J80_a17, J80_a19, J80_a21)) hS ⟨ib_w 0 1 hJ80_c0_70 rfl, ib_w 0 1 hJ80_c0_73 rfl, ib_w 0 60 hJ80_c0_78 rfl, ib_w 0 1700 hJ80_c0_117 rfl, hJ80_a10, ib_w (-1) 2147483647 (ib_c (-1) (-1) (-1) rfl) rfl, (hO.symm.trans (by try simp only [show ((-1) : Int32).toInt = (-1 : Int) from rfl]; exact hq))⟩ hP hD (Nat.le_of_ble_eq_true rfl) (Nat.le_of_ble_eq_true rfl) dX10_watched_98
  have jn30 : ∀ (n : Nat) (J30_c0_55 : Int32) (J30_c0_58 : Int32) (J30_c0_59 : Int32) (J30_c0_70 : Int32) (J30_c0_71 : Int32) (J30_c0_72 : Int32) (J30_c0_73 : Int32) (J30_c0_74 : Int32) (J30_c0_78 : Int32) (J30_c0_79 : Int32) (J30_c0_80 : Int32) (J30_c0_117 : Int32) (J30_a3 : Nat → Int64) (J30_a8 : Nat → Int32) (J30_a10 : Nat → Int32) (J30_a11 : Nat → Int32) (J30_a12 : Nat → Int32) (J30_a13 : Nat → Int32) (J30_a14 : Nat → Int32) (J30_a15 : Nat → Int32) (J30_a16 : Nat → Int32) (J30_a17 : Nat → Int32) (J30_a19 : Nat → Int32) (J30_a21 : Nat → Int32) (J30_l2 : Int32) (J30_l3 : Int32) (J30_l4 : Int32) (H : Heap) (locs : List Loc) (ls : Array Slot), ib p0 0 1 → ib x_isCrossing 1 1 → ib J30_c0_70 0 1 → ib J30_c0_73 0 1 → ib J30_c0_78 0 60 → ib J30_c0_80 (-1) 20 → ib J30_c0_117 0 1700 → ib (g_bar 4) 10 120 → ib J30_l2 (-1) 2147483647 → ib J30_l3 0 2147483647 → ib J30_l4 0 12 → ia J30_a10 300 0 20 → (O = F_X10_watched_30 (lf_A g_many) (Int32.toInt p0) n (Int32.toInt J30_c0_55) (Int32.toInt J30_c0_58) (Int32.toInt J30_c0_59) (Int32.toInt J30_c0_70) (Int32.toInt J30_c0_71) (Int32.toInt J30_c0_72) (Int32.toInt J30_c0_73) (Int32.toInt J30_c0_74) (Int32.toInt J30_c0_78) (Int32.toInt J30_c0_79) (Int32.toInt J30_c0_80) (Int32.toInt J30_c0_117) (lf_L J30_a3) (lf_A J30_a8) (lf_A J30_a10) (lf_A J30_a11) (lf_A J30_a12) (lf_A J30_a13) (lf_A J30_a14) (lf_A J30_a15) (lf_A J30_a16) (lf_A J30_a17) (lf_A J30_a19) (lf_A J30_a21) (Int32.toInt J30_l2) (Int32.toInt J30_l3) (Int32.toInt J30_l4)) → 13 ≤ J30_l4.toInt + (n : Int) → va_P (dC, dI) vwCl [(a_this, .inr (10, mfs rm x_taped x_at x_end x_ended x_bad x_badPlace x_fault x_faultPlace x_namePlace x_awayTold x_away x_coded x_statements x_isCrossing J30_c0_55 J30_c0_58 J30_c0_59 J30_c0_70 J30_c0_71 J30_c0_72 J30_c0_73 J30_c0_74 x_rowMany J30_c0_78 J30_c0_79 J30_c0_80 x_undoable x_newest x_seeded x_qCoded x_qWaits x_qOpened x_qBase J30_c0_117 x_qAnswer x_qIsNew x_octets)), (wi_rm49_0_6_0 rm cy g_codeFrom), (wi_rm50_0_6_0 rm cy g_codeEnd), (wi_rm116_1_1700_1 rm cy J30_a3), (wi_rm51_0_3200_0 rm cy g_codes), (wi_rm46_0_48_0 rm cy g_walkers), (wi_rm56_0_9_0 rm cy g_now), (wi_rm43_0_8_0 rm cy g_bar), (wi_rm65_0_12_0 rm cy J30_a8), (wi_rm44_0_24_0 rm cy g_kinds), (wi_rm61_0_300_0 rm cy J30_a10), (wi_rm66_3_12_0 rm cy J30_a11), (wi_rm67_3_12_0 rm cy J30_a12), (wi_rm60_3_320_0 rm cy J30_a13), (wi_rm63_3_12_0 rm cy J30_a14), (wi_rm64_0_12_0 rm cy J30_a15), (wi_rm68_3_12_0 rm cy J30_a16), (wi_rm69_3_300_0 rm cy J30_a17), (wi_rm41_0_4_0 rm cy g_many), (wi_rm62_3_300_0 rm cy J30_a19), (wi_rm76_0_32_0 rm cy g_rows), (wi_rm77_0_720_0 rm cy J30_a21)] H → va_D A [(a_this, .inr (10, mfs rm x_taped x_at x_end x_ended x_bad x_badPlace x_fault x_faultPlace x_namePlace x_awayTold x_away x_coded x_statements x_isCrossing J30_c0_55 J30_c0_58 J30_c0_59 J30_c0_70 J30_c0_71 J30_c0_72 J30_c0_73 J30_c0_74 x_rowMany J30_c0_78 J30_c0_79 J30_c0_80 x_undoable x_newest x_seeded x_qCoded x_qWaits x_qOpened x_qBase J30_c0_117 x_qAnswer x_qIsNew x_octets)), (wi_rm49_0_6_0 rm cy g_codeFrom), (wi_rm50_0_6_0 rm cy g_codeEnd), (wi_rm116_1_1700_1 rm cy J30_a3), (wi_rm51_0_3200_0 rm cy g_codes), (wi_rm46_0_48_0 rm cy g_walkers), (wi_rm56_0_9_0 rm cy g_now), (wi_rm43_0_8_0 rm cy g_bar), (wi_rm65_0_12_0 rm cy J30_a8), (wi_rm44_0_24_0 rm cy g_kinds), (wi_rm61_0_300_0 rm cy J30_a10), (wi_rm66_3_12_0 rm cy J30_a11), (wi_rm67_3_12_0 rm cy J30_a12), (wi_rm60_3_320_0 rm cy J30_a13), (wi_rm63_3_12_0 rm cy J30_a14), (wi_rm64_0_12_0 rm cy J30_a15), (wi_rm68_3_12_0 rm cy J30_a16), (wi_rm69_3_300_0 rm cy J30_a17), (wi_rm41_0_4_0 rm cy g_many), (wi_rm62_3_300_0 rm cy J30_a19), (wi_rm76_0_32_0 rm cy g_rows), (wi_rm77_0_720_0 rm cy J30_a21)] → va_S A s.heap H locs → lv_has ls 6 [(0, .ref a_this), (1, .int p0), (2, .int J30_l2), (3, .int J30_l3), (4, .int J30_l4)] → W p l e { frames := 7, cells := 0, slots := 0, locals := 160 } s m args below meth c H locs 0 0 Q (F0 m 30 ls []) := by
    as_aux_lemma =>
      intro n
      induction n with
      | zero =>
        intro J30_c0_55 J30_c0_58 J30_c0_59 J30_c0_70 J30_c0_71 J30_c0_72 J30_c0_73 J30_c0_74 J30_c0_78 J30_c0_79 J30_c0_80 J30_c0_117 J30_a3 J30_a8 J30_a10 J30_a11 J30_a12 J30_a13 J30_a14 J30_a15 J30_a16 J30_a17 J30_a19 J30_a21 J30_l2 J30_l3 J30_l4 H locs ls hK30_p0 hK30_x_isCrossing hJ30_c0_70 hJ30_c0_73 hJ30_c0_78 hJ30_c0_80 hJ30_c0_117 hJ30_a7_4 hJ30_l2 hJ30_l3 hJ30_l4 hJ30_a10 hq hm
        exact absurd hm (by have := hJ30_l4; unfold ib at this; omega)
      | succ n ih =>
        intro J30_c0_55 J30_c0_58 J30_c0_59 J30_c0_70 J30_c0_71 J30_c0_72 J30_c0_73 J30_c0_74 J30_c0_78 J30_c0_79 J30_c0_80 J30_c0_117 J30_a3 J30_a8 J30_a10 J30_a11 J30_a12 J30_a13 J30_a14 J30_a15 J30_a16 J30_a17 J30_a19 J30_a21 J30_l2 J30_l3 J30_l4 H locs ls hK30_p0 hK30_x_isCrossing hJ30_c0_70 hJ30_c0_73 hJ30_c0_78 hJ30_c0_80 hJ30_c0_117 hJ30_a7_4 hJ30_l2 hJ30_l3 hJ30_l4 hJ30_a10 hq hm30 hP hD hS hl
        have ih30 := ih
        obtain ⟨K30, hK30⟩ : ∃ K, K = F_X10_watched_30 (lf_A g_many) (Int32.toInt p0) n := ⟨_, rfl⟩
        have hq : O = F_X10_watched_30b (lf_A g_many) (Int32.toInt p0) K30 (Int32.toInt J30_c0_55) (Int32.toInt J30_c0_58) (Int32.toInt J30_c0_59) (Int32.toInt J30_c0_70) (Int32.toInt J30_c0_71) (Int32.toInt J30_c0_72) (Int32.toInt J30_c0_73) (Int32.toInt J30_c0_74) (Int32.toInt J30_c0_78) (Int32.toInt J30_c0_79) (Int32.toInt J30_c0_80) (Int32.toInt J30_c0_117) (lf_L J30_a3) (lf_A J30_a8) (lf_A J30_a10) (lf_A J30_a11) (lf_A J30_a12) (lf_A J30_a13) (lf_A J30_a14) (lf_A J30_a15) (lf_A J30_a16) (lf_A J30_a17) (lf_A J30_a19) (lf_A J30_a21) (Int32.toInt J30_l2) (Int32.toInt J30_l3) (Int32.toInt J30_l4) := by rw [hK30]; exact hq
        unfold F_X10_watched_30b at hq
        have jn74 : ∀ (J74_l5 : Int32) (J74_l2 : Int32) (J74_l3 : Int32) (H : Heap) (locs : List Loc) (ls : Array Slot), ib p0 0 1 → ib J30_l4 0 11 → ib J74_l5 0 2147483647 → ib x_isCrossing 1 1 → ib J30_c0_70 0 1 → ib J30_c0_73 0 1 → ib J30_c0_78 1 60 → ib J30_c0_80 (-1) 20 → ib J30_c0_117 0 1700 → ib (g_bar 4) 10 120 → ib (g_many 3) 1 12 → ib J74_l2 0 2147483647 → ib J74_l3 0 2147483647 → (O = F_X10_watched_74 (Int32.toInt J30_c0_55) (Int32.toInt J30_c0_58) (Int32.toInt J30_c0_59) (Int32.toInt J30_c0_70) (Int32.toInt J30_c0_71) (Int32.toInt J30_c0_72) (Int32.toInt J30_c0_73) (Int32.toInt J30_c0_74) (Int32.toInt J30_c0_78) (Int32.toInt J30_c0_79) (Int32.toInt J30_c0_80) (Int32.toInt J30_c0_117) (lf_L J30_a3) (lf_A J30_a8) (lf_A J30_a10) (lf_A J30_a11) (lf_A J30_a12) (lf_A J30_a13) (lf_A J30_a14) (lf_A J30_a15) (lf_A J30_a16) (lf_A J30_a17) (lf_A J30_a19) (lf_A J30_a21) (Int32.toInt J30_l4) K30 (Int32.toInt J74_l5) (Int32.toInt J74_l2) (Int32.toInt J74_l3)) → va_P (dC, dI) vwCl [(a_this, .inr (10, mfs rm x_taped x_at x_end x_ended x_bad x_badPlace x_fault x_faultPlace x_namePlace x_awayTold x_away x_coded x_statements x_isCrossing J30_c0_55 J30_c0_58 J30_c0_59 J30_c0_70 J30_c0_71 J30_c0_72 J30_c0_73 J30_c0_74 x_rowMany J30_c0_78 J30_c0_79 J30_c0_80 x_undoable x_newest x_seeded x_qCoded x_qWaits x_qOpened x_qBase J30_c0_117 x_qAnswer x_qIsNew x_octets)), (wi_rm49_0_6_0 rm cy g_codeFrom), (wi_rm50_0_6_0 rm cy g_codeEnd), (wi_rm116_1_1700_1 rm cy J30_a3), (wi_rm51_0_3200_0 rm cy g_codes), (wi_rm46_0_48_0 rm cy g_walkers), (wi_rm56_0_9_0 rm cy g_now), (wi_rm43_0_8_0 rm cy g_bar), (wi_rm65_0_12_0 rm cy J30_a8), (wi_rm44_0_24_0 rm cy g_kinds), (wi_rm61_0_300_0 rm cy J30_a10), (wi_rm66_3_12_0 rm cy J30_a11), (wi_rm67_3_12_0 rm cy J30_a12), (wi_rm60_3_320_0 rm cy J30_a13), (wi_rm63_3_12_0 rm cy J30_a14), (wi_rm64_0_12_0 rm cy J30_a15), (wi_rm68_3_12_0 rm cy J30_a16), (wi_rm69_3_300_0 rm cy J30_a17), (wi_rm41_0_4_0 rm cy g_many), (wi_rm62_3_300_0 rm cy J30_a19), (wi_rm76_0_32_0 rm cy g_rows), (wi_rm77_0_720_0 rm cy J30_a21)] H → va_D A [(a_this, .inr (10, mfs rm x_taped x_at x_end x_ended x_bad x_badPlace x_fault x_faultPlace x_namePlace x_awayTold x_away x_coded x_statements x_isCrossing J30_c0_55 J30_c0_58 J30_c0_59 J30_c0_70 J30_c0_71 J30_c0_72 J30_c0_73 J30_c0_74 x_rowMany J30_c0_78 J30_c0_79 J30_c0_80 x_undoable x_newest x_seeded x_qCoded x_qWaits x_qOpened x_qBase J30_c0_117 x_qAnswer x_qIsNew x_octets)), (wi_rm49_0_6_0 rm cy g_codeFrom), (wi_rm50_0_6_0 rm cy g_codeEnd), (wi_rm116_1_1700_1 rm cy J30_a3), (wi_rm51_0_3200_0 rm cy g_codes), (wi_rm46_0_48_0 rm cy g_walkers), (wi_rm56_0_9_0 rm cy g_now), (wi_rm43_0_8_0 rm cy g_bar), (wi_rm65_0_12_0 rm cy J30_a8), (wi_rm44_0_24_0 rm cy g_kinds), (wi_rm61_0_300_0 rm cy J30_a10), (wi_rm66_3_12_0 rm cy J30_a11), (wi_rm67_3_12_0 rm cy J30_a12), (wi_rm60_3_320_0 rm cy J30_a13), (wi_rm63_3_12_0 rm cy J30_a14), (wi_rm64_0_12_0 rm cy J30_a15), (wi_rm68_3_12_0 rm cy J30_a16), (wi_rm69_3_300_0 rm cy J30_a17), (wi_rm41_0_4_0 rm cy g_many), (wi_rm62_3_300_0 rm cy J30_a19), (wi_rm76_0_32_0 rm cy g_rows), (wi_rm77_0_720_0 rm cy J30_a21)] → va_S A s.heap H locs → lv_has ls 6 [(0, .ref a_this), (1, .int p0), (2, .int J74_l2), (3, .int J74_l3), (4, .int J30_l4), (5, .int J74_l5)] → W p l e { frames := 7, cells := 0, slots := 0, locals := 160 } s m args below meth c H locs 0 0 Q (F0 m 74 ls []) := by
          intro J74_l5 J74_l2 J74_l3 H locs ls hK74_p0 hK74_J30_l4 hJ74_l5 hK74_x_isCrossing hK74_J30_c0_70 hK74_J30_c0_73 hK74_J30_c0_78 hK74_J30_c0_80 hK74_J30_c0_117 hJ74_a7_4 hJ74_a18_3 hJ74_l2 hJ74_l3 hq hP hD hS hl
          unfold F_X10_watched_74 at hq
          obtain ⟨z9, ez9⟩ : ∃ y : Int32, y = J30_l4 + 1 := ⟨_, rfl⟩
          refine lv_iinc (v := z9) (lv' := [(4, .int z9), (0, .ref a_this), (1, .int p0), (2, .int J74_l2), (3, .int J74_l3), (5, .int J74_l5)]) hx hb dX10_watched_74 hl (k := 4) rfl (by rw [ez9]; rfl) (Nat.le_of_ble_eq_true rfl) rfl (fun ls hl => ?_)
          have h10 := ib_add hK74_J30_l4 (ib_c 1 1 1 rfl) rfl
          rw [← ez9] at h10
          have h11 : ib z9 1 12 := ib_w 1 12 h10.1 rfl
          have Ez9 := lf_add h10.2 (lf_rf J30_l4) (lf_lc 1 (1 : Int) rfl)
          refine lv_goto (tgt := 30) hx hb dX10_watched_77 rfl ?_
          exact ih30 J30_c0_55 J30_c0_58 J30_c0_59 J30_c0_70 J30_c0_71 J30_c0_72 J30_c0_73 J30_c0_74 J30_c0_78 J30_c0_79 J30_c0_80 J30_c0_117 J30_a3 J30_a8 J30_a10 J30_a11 J30_a12 J30_a13 J30_a14 J30_a15 J30_a16 J30_a17 J30_a19 J30_a21 J74_l2 J74_l3 z9 H locs ls (ib_w 0 1 hK74_p0 rfl) (ib_w 1 1 hK74_x_isCrossing rfl) (ib_w 0 1 hK74_J30_c0_70 rfl) (ib_w 0 1 hK74_J30_c0_73 rfl) (ib_w 0 60 hK74_J30_c0_78 rfl) (ib_w (-1) 20 hK74_J30_c0_80 rfl) (ib_w 0 1700 hK74_J30_c0_117 rfl) (ib_w 10 120 hJ74_a7_4 rfl) (ib_w (-1) 2147483647 hJ74_l2 rfl) (ib_w 0 2147483647 hJ74_l3 rfl) (ib_w 0 12 h11 rfl) hJ30_a10 (by rw [← hK30]; rw [lf_u Ez9]; exact hq) (by have := h10.2; have : (1 : Int32).toInt = 1 := rfl; omega) hP hD hS (lv_sub hl [1, 2, 3, 4, 0] rfl)
        have jn68 : ∀ (J68_l5 : Int32) (H : Heap) (locs : List Loc) (ls : Array Slot), ib p0 0 1 → ib J30_l2 (-1) 2147483647 → ib J30_l3 0 2147483647 → ib J30_l4 0 11 → ib J68_l5 0 2147483647 → ib x_isCrossing 1 1 → ib J30_c0_70 0 1 → ib J30_c0_73 0 1 → ib J30_c0_78 1 60 → ib J30_c0_80 (-1) 20 → ib J30_c0_117 0 1700 → ib (g_bar 4) 10 120 → ib (g_many 3) 1 12 → (O = F_X10_watched_68 (Int32.toInt J30_c0_55) (Int32.toInt J30_c0_58) (Int32.toInt J30_c0_59) (Int32.toInt J30_c0_70) (Int32.toInt J30_c0_71) (Int32.toInt J30_c0_72) (Int32.toInt J30_c0_73) (Int32.toInt J30_c0_74) (Int32.toInt J30_c0_78) (Int32.toInt J30_c0_79) (Int32.toInt J30_c0_80) (Int32.toInt J30_c0_117) (lf_L J30_a3) (lf_A J30_a8) (lf_A J30_a10) (lf_A J30_a11) (lf_A J30_a12) (lf_A J30_a13) (lf_A J30_a14) (lf_A J30_a15) (lf_A J30_a16) (lf_A J30_a17) (lf_A J30_a19) (lf_A J30_a21) (Int32.toInt J30_l4) K30 (Int32.toInt J68_l5)) → va_P (dC, dI) vwCl [(a_this, .inr (10, mfs rm x_taped x_at x_end x_ended x_bad x_badPlace x_fault x_faultPlace x_namePlace x_awayTold x_away x_coded x_statements x_isCrossing J30_c0_55 J30_c0_58 J30_c0_59 J30_c0_70 J30_c0_71 J30_c0_72 J30_c0_73 J30_c0_74 x_rowMany J30_c0_78 J30_c0_79 J30_c0_80 x_undoable x_newest x_seeded x_qCoded x_qWaits x_qOpened x_qBase J30_c0_117 x_qAnswer x_qIsNew x_octets)), (wi_rm49_0_6_0 rm cy g_codeFrom), (wi_rm50_0_6_0 rm cy g_codeEnd), (wi_rm116_1_1700_1 rm cy J30_a3), (wi_rm51_0_3200_0 rm cy g_codes), (wi_rm46_0_48_0 rm cy g_walkers), (wi_rm56_0_9_0 rm cy g_now), (wi_rm43_0_8_0 rm cy g_bar), (wi_rm65_0_12_0 rm cy J30_a8), (wi_rm44_0_24_0 rm cy g_kinds), (wi_rm61_0_300_0 rm cy J30_a10), (wi_rm66_3_12_0 rm cy J30_a11), (wi_rm67_3_12_0 rm cy J30_a12), (wi_rm60_3_320_0 rm cy J30_a13), (wi_rm63_3_12_0 rm cy J30_a14), (wi_rm64_0_12_0 rm cy J30_a15), (wi_rm68_3_12_0 rm cy J30_a16), (wi_rm69_3_300_0 rm cy J30_a17), (wi_rm41_0_4_0 rm cy g_many), (wi_rm62_3_300_0 rm cy J30_a19), (wi_rm76_0_32_0 rm cy g_rows), (wi_rm77_0_720_0 rm cy J30_a21)] H → va_D A [(a_this, .inr (10, mfs rm x_taped x_at x_end x_ended x_bad x_badPlace x_fault x_faultPlace x_namePlace x_awayTold x_away x_coded x_statements x_isCrossing J30_c0_55 J30_c0_58 J30_c0_59 J30_c0_70 J30_c0_71 J30_c0_72 J30_c0_73 J30_c0_74 x_rowMany J30_c0_78 J30_c0_79 J30_c0_80 x_undoable x_newest x_seeded x_qCoded x_qWaits x_qOpened x_qBase J30_c0_117 x_qAnswer x_qIsNew x_octets)), (wi_rm49_0_6_0 rm cy g_codeFrom), (wi_rm50_0_6_0 rm cy g_codeEnd), (wi_rm116_1_1700_1 rm cy J30_a3), (wi_rm51_0_3200_0 rm cy g_codes), (wi_rm46_0_48_0 rm cy g_walkers), (wi_rm56_0_9_0 rm cy g_now), (wi_rm43_0_8_0 rm cy g_bar), (wi_rm65_0_12_0 rm cy J30_a8), (wi_rm44_0_24_0 rm cy g_kinds), (wi_rm61_0_300_0 rm cy J30_a10), (wi_rm66_3_12_0 rm cy J30_a11), (wi_rm67_3_12_0 rm cy J30_a12), (wi_rm60_3_320_0 rm cy J30_a13), (wi_rm63_3_12_0 rm cy J30_a14), (wi_rm64_0_12_0 rm cy J30_a15), (wi_rm68_3_12_0 rm cy J30_a16), (wi_rm69_3_300_0 rm cy J30_a17), (wi_rm41_0_4_0 rm cy g_many), (wi_rm62_3_300_0 rm cy J30_a19), (wi_rm76_0_32_0 rm cy g_rows), (wi_rm77_0_720_0 rm cy J30_a21)] → va_S A s.heap H locs → lv_has ls 6 [(0, .ref a_this), (1, .int p0), (2, .int J30_l2), (3, .int J30_l3), (4, .int J30_l4), (5, .int J68_l5)] → W p l e { frames := 7, cells := 0, slots := 0, locals := 160 } s m args below meth c H locs 0 0 Q (F0 m 68 ls []) := by
          intro J68_l5 H locs ls hK68_p0 hK68_J30_l2 hK68_J30_l3 hK68_J30_l4 hJ68_l5 hK68_x_isCrossing hK68_J30_c0_70 hK68_J30_c0_73 hK68_J30_c0_78 hK68_J30_c0_80 hK68_J30_c0_117 hJ68_a7_4 hJ68_a18_3 hq hP hD hS hl
          unfold F_X10_watched_68 at hq
          refine lv_iload hx hb dX10_watched_68 (lv_at hl 4 rfl) ?_
          refine lv_istore_n (lv' := [(2, .int J30_l4), (0, .ref a_this), (1, .int p0), (3, .int J30_l3), (4, .int J30_l4), (5, .int J68_l5)]) hx hb dX10_watched_70 rfl hl (Nat.le_of_ble_eq_true rfl) rfl (fun ls hl => ?_)
          refine lv_iload hx hb dX10_watched_71 (lv_at hl 5 rfl) ?_
          refine lv_istore_n (lv' := [(3, .int J68_l5), (2, .int J30_l4), (0, .ref a_this), (1, .int p0), (4, .int J30_l4), (5, .int J68_l5)]) hx hb dX10_watched_73 rfl hl (Nat.le_of_ble_eq_true rfl) rfl (fun ls hl => ?_)
          exact jn74 J68_l5 J30_l4 J68_l5 H locs ls (ib_w 0 1 hK68_p0 rfl) (ib_w 0 11 hK68_J30_l4 rfl) (ib_w 0 2147483647 hJ68_l5 rfl) (ib_w 1 1 hK68_x_isCrossing rfl) (ib_w 0 1 hK68_J30_c0_70 rfl) (ib_w 0 1 hK68_J30_c0_73 rfl) (ib_w 1 60 hK68_J30_c0_78 rfl) (ib_w (-1) 20 hK68_J30_c0_80 rfl) (ib_w 0 1700 hK68_J30_c0_117 rfl) (ib_w 10 120 hJ68_a7_4 rfl) (ib_w 1 12 hJ68_a18_3 rfl) (ib_w 0 2147483647 hK68_J30_l4 rfl) (ib_w 0 2147483647 hJ68_l5 rfl) (by exact hq) hP hD hS (lv_sub hl [2, 3, 1, 0, 4, 5] rfl)
        refine lv_iload hx hb dX10_watched_30 (lv_at hl 4 rfl) ?_
        refine lv_aload_n hx hb dX10_watched_32 rfl (lv_at hl 0 rfl) ?_
        refine k_jim hP hD hS hA [0, 18] [false, true, true, true, true, true, true, true, true, true, true, true, true, true, true, true, true, true, false, true, true, true] rfl rfl (by decide +kernel) 0 0 (Nat.le_of_ble_eq_true rfl) (Nat.le_of_ble_eq_true rfl) (fun hPc hDc => k_runV (As := []) (rest := [.int J30_l4]) C0 hZ hS hA (s_X10_walkerMany l dC dI cy sq a_this rm x_taped x_at x_end x_ended x_bad x_badPlace x_fault x_faultPlace x_namePlace x_awayTold x_away x_coded x_statements x_isCrossing J30_c0_55 J30_c0_58 J30_c0_59 J30_c0_70 J30_c0_71 J30_c0_72 J30_c0_73 J30_c0_74 x_rowMany J30_c0_78 J30_c0_79 J30_c0_80 x_undoable x_newest x_seeded x_qCoded x_qWaits x_qOpened x_qBase J30_c0_117 x_qAnswer x_qIsNew x_octets g_many ) mV_X10_433 hPc hDc rfl rfl rfl hl rfl rfl (Nat.le_of_ble_eq_true rfl) ⟨(Nat.le_of_ble_eq_true rfl), (Nat.le_of_ble_eq_true rfl)⟩ ⟨(Nat.le_of_ble_eq_true rfl), (Nat.le_of_ble_eq_true rfl)⟩ dX10_watched_33) (fun r12 u13 H locs hw hP hD hS => ?_)
        try dsimp only at hP hD hw
        replace hP : va_P (dC, dI) vwCl [(wi_rm49_0_6_0 rm cy g_codeFrom), (wi_rm50_0_6_0 rm cy g_codeEnd), (wi_rm116_1_1700_1 rm cy J30_a3), (wi_rm51_0_3200_0 rm cy g_codes), (wi_rm46_0_48_0 rm cy g_walkers), (wi_rm56_0_9_0 rm cy g_now), (wi_rm43_0_8_0 rm cy g_bar), (wi_rm65_0_12_0 rm cy J30_a8), (wi_rm44_0_24_0 rm cy g_kinds), (wi_rm61_0_300_0 rm cy J30_a10), (wi_rm66_3_12_0 rm cy J30_a11), (wi_rm67_3_12_0 rm cy J30_a12), (wi_rm60_3_320_0 rm cy J30_a13), (wi_rm63_3_12_0 rm cy J30_a14), (wi_rm64_0_12_0 rm cy J30_a15), (wi_rm68_3_12_0 rm cy J30_a16), (wi_rm69_3_300_0 rm cy J30_a17), (wi_rm62_3_300_0 rm cy J30_a19), (wi_rm76_0_32_0 rm cy g_rows), (wi_rm77_0_720_0 rm cy J30_a21), (a_this, .inr (10, mfs rm x_taped x_at x_end x_ended x_bad x_badPlace x_fault x_faultPlace x_namePlace x_awayTold x_away x_coded x_statements x_isCrossing J30_c0_55 J30_c0_58 J30_c0_59 J30_c0_70 J30_c0_71 J30_c0_72 J30_c0_73 J30_c0_74 x_rowMany J30_c0_78 J30_c0_79 J30_c0_80 x_undoable x_newest x_seeded x_qCoded x_qWaits x_qOpened x_qBase J30_c0_117 x_qAnswer x_qIsNew x_octets)), (wi_rm41_0_4_0 rm cy g_many)] H := hP
        replace hD := k_D hP hD
        obtain ⟨h14, h15⟩ := hw
        subst h14
        replace hq := lf_b1 hq h15
        refine lv_icmp_ge (tgt := 80) hx hb dX10_watched_36 rfl (fun c16 => ?_) (fun c16 => ?_)
        · replace hq := lf_pos hq (lf_le (lf_pt (lf_ra g_many) 3) (lf_rf J30_l4) c16)
          have h17 := ib_le hg_many_3 hJ30_l4 c16
          exact jn80 J30_c0_55 J30_c0_58 J30_c0_59 J30_c0_70 J30_c0_71 J30_c0_72 J30_c0_73 J30_c0_74 J30_c0_78 J30_c0_79 J30_c0_80 J30_c0_117 J30_a3 J30_a8 J30_a10 J30_a11 J30_a12 J30_a13 J30_a14 J30_a15 J30_a16 J30_a17 J30_a19 J30_a21 J30_l2 J30_l3 J30_l4 H locs ls (ib_w 0 1 hK30_p0 rfl) (ib_w 1 1 hK30_x_isCrossing rfl) (ib_w 0 1 hJ30_c0_70 rfl) (ib_w 0 1 hJ30_c0_73 rfl) (ib_w 0 60 hJ30_c0_78 rfl) (ib_w (-1) 20 hJ30_c0_80 rfl) (ib_w 0 1700 hJ30_c0_117 rfl) (ib_w 10 120 hJ30_a7_4 rfl) (ib_w (-1) 2147483647 hJ30_l2 rfl) (ib_w 0 2147483647 hJ30_l3 rfl) (ib_w 0 12 hJ30_l4 rfl) hJ30_a10 (by exact hq) (hP.sub [20, 0, 1, 2, 3, 4, 5, 6, 7, 8, 9, 10, 11, 12, 13, 14, 15, 16, 21, 17, 18, 19] rfl) (hD.sub [20, 0, 1, 2, 3, 4, 5, 6, 7, 8, 9, 10, 11, 12, 13, 14, 15, 16, 21, 17, 18, 19] (by decide +kernel) rfl) hS (lv_sub hl [0, 1, 2, 3, 4] rfl)
        · as_aux_lemma =>
            replace hq := lf_neg hq (lf_nle (lf_pt (lf_ra g_many) 3) (lf_rf J30_l4) c16)
            have h18 := ib_nle hg_many_3 hJ30_l4 c16
            have h19 : ib (g_many 3) 1 12 := ib_w 1 12 h18.1 rfl
            have h20 : ib J30_l4 0 11 := ib_w 0 11 h18.2 rfl
            refine lv_aload_n hx hb dX10_watched_39 rfl (lv_at hl 0 rfl) ?_
            refine k_get C0 fg_X10_570 hP 20 rfl rfl dX10_watched_40 ?_
            refine lv_if_le (tgt := 80) hx hb dX10_watched_43 rfl (fun c21 => ?_) (fun c21 => ?_)
            · replace hq := lf_pos hq (lf_le (lf_rf J30_c0_78) (lf_lc 0 (0 : Int) rfl) c21)
              have h22 := ib_le hJ30_c0_78 (ib_c 0 0 0 rfl) c21
              have h23 : ib J30_c0_78 0 0 := ib_w 0 0 h22.1 rfl
              exact jn80 J30_c0_55 J30_c0_58 J30_c0_59 J30_c0_70 J30_c0_71 J30_c0_72 J30_c0_73 J30_c0_74 J30_c0_78 J30_c0_79 J30_c0_80 J30_c0_117 J30_a3 J30_a8 J30_a10 J30_a11 J30_a12 J30_a13 J30_a14 J30_a15 J30_a16 J30_a17 J30_a19 J30_a21 J30_l2 J30_l3 J30_l4 H locs ls (ib_w 0 1 hK30_p0 rfl) (ib_w 1 1 hK30_x_isCrossing rfl) (ib_w 0 1 hJ30_c0_70 rfl) (ib_w 0 1 hJ30_c0_73 rfl) (ib_w 0 60 h23 rfl) (ib_w (-1) 20 hJ30_c0_80 rfl) (ib_w 0 1700 hJ30_c0_117 rfl) (ib_w 10 120 hJ30_a7_4 rfl) (ib_w (-1) 2147483647 hJ30_l2 rfl) (ib_w 0 2147483647 hJ30_l3 rfl) (ib_w 0 12 h20 rfl) hJ30_a10 (by exact hq) (hP.sub [20, 0, 1, 2, 3, 4, 5, 6, 7, 8, 9, 10, 11, 12, 13, 14, 15, 16, 21, 17, 18, 19] rfl) (hD.sub [20, 0, 1, 2, 3, 4, 5, 6, 7, 8, 9, 10, 11, 12, 13, 14, 15, 16, 21, 17, 18, 19] (by decide +kernel) rfl) hS (lv_sub hl [0, 1, 2, 3, 4] rfl)
            · as_aux_lemma =>
                replace hq := lf_neg hq (lf_nle (lf_rf J30_c0_78) (lf_lc 0 (0 : Int) rfl) c21)
                have h24 := ib_nle hJ30_c0_78 (ib_c 0 0 0 rfl) c21
                have h25 : ib J30_c0_78 1 60 := ib_w 1 60 h24.1 rfl
                refine lv_aload_n hx hb dX10_watched_46 rfl (lv_at hl 0 rfl) ?_
                refine lv_iload hx hb dX10_watched_47 (lv_at hl 4 rfl) ?_
                refine k_jim hP hD hS hA [20, 19] [true, true, true, true, true, true, true, true, true, true, true, true, true, true, true, true, true, true, true, false, false, true] rfl rfl (by decide +kernel) 0 0 (Nat.le_of_ble_eq_true rfl) (Nat.le_of_ble_eq_true rfl) (fun hPc hDc => k_runV (As := [.int J30_l4]) (rest := []) C0 hZ hS hA (s_X10_mostAlike l dC dI cy sq a_this rm x_taped x_at x_end x_ended x_bad x_badPlace x_fault x_faultPlace x_namePlace x_awayTold x_away x_coded x_statements x_isCrossing J30_c0_55 J30_c0_58 J30_c0_59 J30_c0_70 J30_c0_71 J30_c0_72 J30_c0_73 J30_c0_74 x_rowMany J30_c0_78 J30_c0_79 J30_c0_80 x_undoable x_newest x_seeded x_qCoded x_qWaits x_qOpened x_qBase J30_c0_117 x_qAnswer x_qIsNew x_octets J30_a21 J30_l4 (ib_w 0 60 h25 rfl) (ib_w 0 11 h20 rfl)) mV_X10_585 hPc hDc rfl rfl rfl hl rfl rfl (Nat.le_of_ble_eq_true rfl) ⟨(Nat.le_of_ble_eq_true rfl), (Nat.le_of_ble_eq_true rfl)⟩ ⟨(Nat.le_of_ble_eq_true rfl), (Nat.le_of_ble_eq_true rfl)⟩ dX10_watched_49) (fun r26 u27 H locs hw hP hD hS => ?_)
                try dsimp only at hP hD hw
                replace hP : va_P (dC, dI) vwCl [(wi_rm49_0_6_0 rm cy g_codeFrom), (wi_rm50_0_6_0 rm cy g_codeEnd), (wi_rm116_1_1700_1 rm cy J30_a3), (wi_rm51_0_3200_0 rm cy g_codes), (wi_rm46_0_48_0 rm cy g_walkers), (wi_rm56_0_9_0 rm cy g_now), (wi_rm43_0_8_0 rm cy g_bar), (wi_rm65_0_12_0 rm cy J30_a8), (wi_rm44_0_24_0 rm cy g_kinds), (wi_rm61_0_300_0 rm cy J30_a10), (wi_rm66_3_12_0 rm cy J30_a11), (wi_rm67_3_12_0 rm cy J30_a12), (wi_rm60_3_320_0 rm cy J30_a13), (wi_rm63_3_12_0 rm cy J30_a14), (wi_rm64_0_12_0 rm cy J30_a15), (wi_rm68_3_12_0 rm cy J30_a16), (wi_rm69_3_300_0 rm cy J30_a17), (wi_rm62_3_300_0 rm cy J30_a19), (wi_rm76_0_32_0 rm cy g_rows), (wi_rm41_0_4_0 rm cy g_many), (a_this, .inr (10, mfs rm x_taped x_at x_end x_ended x_bad x_badPlace x_fault x_faultPlace x_namePlace x_awayTold x_away x_coded x_statements x_isCrossing J30_c0_55 J30_c0_58 J30_c0_59 J30_c0_70 J30_c0_71 J30_c0_72 J30_c0_73 J30_c0_74 x_rowMany J30_c0_78 J30_c0_79 J30_c0_80 x_undoable x_newest x_seeded x_qCoded x_qWaits x_qOpened x_qBase J30_c0_117 x_qAnswer x_qIsNew x_octets)), (wi_rm77_0_720_0 rm cy J30_a21)] H := hP
                replace hD := k_D hP hD
                obtain ⟨h28, h29⟩ := hw
                replace hq := lf_b1 hq h29
                refine lv_istore (lv' := [(5, .int r26), (0, .ref a_this), (1, .int p0), (2, .int J30_l2), (3, .int J30_l3), (4, .int J30_l4)]) hx hb dX10_watched_52 hl (Nat.le_of_ble_eq_true rfl) rfl (fun ls hl => ?_)
                refine lv_iload_n hx hb dX10_watched_54 rfl (lv_at hl 3 rfl) ?_
                refine lv_iconst (v := (-1)) hx hb dX10_watched_55 rfl ?_
                refine lv_icmp_eq (tgt := 68) hx hb dX10_watched_56 rfl (fun c30 => ?_) (fun c30 => ?_)
                · replace hq := lf_pos hq (lf_eq (lf_rf J30_l2) (lf_lc (-1) (-1 : Int) rfl) c30)
                  have h31 := ib_eq hJ30_l2 (ib_c (-1) (-1) (-1) rfl) c30
                  have h32 : ib J30_l2 (-1) (-1) := ib_w (-1) (-1) h31.1 rfl
                  exact jn68 r26 H locs ls (ib_w 0 1 hK30_p0 rfl) (ib_w (-1) 2147483647 h32 rfl) (ib_w 0 2147483647 hJ30_l3 rfl) (ib_w 0 11 h20 rfl) (ib_w 0 2147483647 h28 rfl) (ib_w 1 1 hK30_x_isCrossing rfl) (ib_w 0 1 hJ30_c0_70 rfl) (ib_w 0 1 hJ30_c0_73 rfl) (ib_w 1 60 h25 rfl) (ib_w (-1) 20 hJ30_c0_80 rfl) (ib_w 0 1700 hJ30_c0_117 rfl) (ib_w 10 120 hJ30_a7_4 rfl) (ib_w 1 12 h19 rfl) (by exact hq) (hP.sub [20, 0, 1, 2, 3, 4, 5, 6, 7, 8, 9, 10, 11, 12, 13, 14, 15, 16, 19, 17, 18, 21] rfl) (hD.sub [20, 0, 1, 2, 3, 4, 5, 6, 7, 8, 9, 10, 11, 12, 13, 14, 15, 16, 19, 17, 18, 21] (by decide +kernel) rfl) hS (lv_sub hl [1, 2, 3, 4, 5, 0] rfl)
                · replace hq := lf_neg hq (lf_ne (lf_rf J30_l2) (lf_lc (-1) (-1 : Int) rfl) c30)
                  have h33 : ib J30_l2 0 2147483647 := ib_w 0 2147483647 (ib_ne_lo (-1) hJ30_l2 rfl c30) rfl
                  refine lv_iload hx hb dX10_watched_59 (lv_at hl 0 rfl) ?_
                  refine lv_iload_n hx hb dX10_watched_61 rfl (lv_at hl 4 rfl) ?_
                  refine lv_icmp_lt (tgt := 68) hx hb dX10_watched_62 rfl (fun c34 => ?_) (fun c34 => ?_)
                  · replace hq := lf_pos hq (lf_lt (lf_rf r26) (lf_rf J30_l3) c34)
                    have h35 := ib_lt h28 hJ30_l3 c34
                    have h36 : ib r26 0 2147483646 := ib_w 0 2147483646 h35.1 rfl
                    have h37 : ib J30_l3 1 2147483647 := ib_w 1 2147483647 h35.2 rfl
                    exact jn68 r26 H locs ls (ib_w 0 1 hK30_p0 rfl) (ib_w (-1) 2147483647 h33 rfl) (ib_w 0 2147483647 h37 rfl) (ib_w 0 11 h20 rfl) (ib_w 0 2147483647 h36 rfl) (ib_w 1 1 hK30_x_isCrossing rfl) (ib_w 0 1 hJ30_c0_70 rfl) (ib_w 0 1 hJ30_c0_73 rfl) (ib_w 1 60 h25 rfl) (ib_w (-1) 20 hJ30_c0_80 rfl) (ib_w 0 1700 hJ30_c0_117 rfl) (ib_w 10 120 hJ30_a7_4 rfl) (ib_w 1 12 h19 rfl) (by exact hq) (hP.sub [20, 0, 1, 2, 3, 4, 5, 6, 7, 8, 9, 10, 11, 12, 13, 14, 15, 16, 19, 17, 18, 21] rfl) (hD.sub [20, 0, 1, 2, 3, 4, 5, 6, 7, 8, 9, 10, 11, 12, 13, 14, 15, 16, 19, 17, 18, 21] (by decide +kernel) rfl) hS (lv_sub hl [1, 2, 3, 4, 5, 0] rfl)
                  · replace hq := lf_neg hq (lf_nlt (lf_rf r26) (lf_rf J30_l3) c34)
                    have h38 := ib_nlt h28 hJ30_l3 c34
                    refine lv_goto (tgt := 74) hx hb dX10_watched_65 rfl ?_
                    exact jn74 r26 J30_l2 J30_l3 H locs ls (ib_w 0 1 hK30_p0 rfl) (ib_w 0 11 h20 rfl) (ib_w 0 2147483647 h28 rfl) (ib_w 1 1 hK30_x_isCrossing rfl) (ib_w 0 1 hJ30_c0_70 rfl) (ib_w 0 1 hJ30_c0_73 rfl) (ib_w 1 60 h25 rfl) (ib_w (-1) 20 hJ30_c0_80 rfl) (ib_w 0 1700 hJ30_c0_117 rfl) (ib_w 10 120 hJ30_a7_4 rfl) (ib_w 1 12 h19 rfl) (ib_w 0 2147483647 h33 rfl) (ib_w 0 2147483647 hJ30_l3 rfl) (by exact hq) (hP.sub [20, 0, 1, 2, 3, 4, 5, 6, 7, 8, 9, 10, 11, 12, 13, 14, 15, 16, 19, 17, 18, 21] rfl) (hD.sub [20, 0, 1, 2, 3, 4, 5, 6, 7, 8, 9, 10, 11, 12, 13, 14, 15, 16, 19, 17, 18, 21] (by decide +kernel) rfl) hS (lv_sub hl [1, 2, 3, 4, 5, 0] rfl)
  have jn17 : ∀  (H : Heap) (locs : List Loc) (ls : Array Slot), (O = F_X10_watched_17 (Int32.toInt x_textKind) (Int32.toInt x_askSecond) (Int32.toInt x_redMany) (Int32.toInt x_isOpen) (Int32.toInt x_lastGreen) (Int32.toInt x_greenTo) (Int32.toInt x_isCycleGreen) (Int32.toInt x_stillGreen) (Int32.toInt x_fitMany) (Int32.toInt x_fitRules) (Int32.toInt x_fitGreen) (Int32.toInt x_qPiled) (lf_A g_isCar) (lf_A g_gaps) (lf_A g_isGreen) (lf_A g_isHere) (lf_A g_crosses) (lf_A g_waits) (lf_A g_goes) (lf_A g_harms) (lf_A g_presses) (lf_A g_crossedIn) (lf_A g_when) (lf_L g_qPile) ) → va_P (dC, dI) vwCl [(a_this, .inr (10, mfs rm x_taped x_at x_end x_ended x_bad x_badPlace x_fault x_faultPlace x_namePlace x_awayTold x_away x_coded x_statements x_isCrossing x_textKind x_askSecond x_redMany x_isOpen x_lastGreen x_greenTo x_isCycleGreen x_stillGreen x_rowMany x_fitMany x_fitRules x_fitGreen x_undoable x_newest x_seeded x_qCoded x_qWaits x_qOpened x_qBase x_qPiled x_qAnswer x_qIsNew x_octets)), (wi_rm49_0_6_0 rm cy g_codeFrom), (wi_rm50_0_6_0 rm cy g_codeEnd), (wi_rm116_1_1700_1 rm cy g_qPile), (wi_rm51_0_3200_0 rm cy g_codes), (wi_rm46_0_48_0 rm cy g_walkers), (wi_rm56_0_9_0 rm cy g_now), (wi_rm43_0_8_0 rm cy g_bar), (wi_rm65_0_12_0 rm cy g_waits), (wi_rm44_0_24_0 rm cy g_kinds), (wi_rm61_0_300_0 rm cy g_gaps), (wi_rm66_3_12_0 rm cy g_goes), (wi_rm67_3_12_0 rm cy g_harms), (wi_rm60_3_320_0 rm cy g_isCar), (wi_rm63_3_12_0 rm cy g_isHere), (wi_rm64_0_12_0 rm cy g_crosses), (wi_rm68_3_12_0 rm cy g_presses), (wi_rm69_3_300_0 rm cy g_crossedIn), (wi_rm41_0_4_0 rm cy g_many), (wi_rm62_3_300_0 rm cy g_isGreen), (wi_rm76_0_32_0 rm cy g_rows), (wi_rm77_0_720_0 rm cy g_when)] H → va_D A [(a_this, .inr (10, mfs rm x_taped x_at x_end x_ended x_bad x_badPlace x_fault x_faultPlace x_namePlace x_awayTold x_away x_coded x_statements x_isCrossing x_textKind x_askSecond x_redMany x_isOpen x_lastGreen x_greenTo x_isCycleGreen x_stillGreen x_rowMany x_fitMany x_fitRules x_fitGreen x_undoable x_newest x_seeded x_qCoded x_qWaits x_qOpened x_qBase x_qPiled x_qAnswer x_qIsNew x_octets)), (wi_rm49_0_6_0 rm cy g_codeFrom), (wi_rm50_0_6_0 rm cy g_codeEnd), (wi_rm116_1_1700_1 rm cy g_qPile), (wi_rm51_0_3200_0 rm cy g_codes), (wi_rm46_0_48_0 rm cy g_walkers), (wi_rm56_0_9_0 rm cy g_now), (wi_rm43_0_8_0 rm cy g_bar), (wi_rm65_0_12_0 rm cy g_waits), (wi_rm44_0_24_0 rm cy g_kinds), (wi_rm61_0_300_0 rm cy g_gaps), (wi_rm66_3_12_0 rm cy g_goes), (wi_rm67_3_12_0 rm cy g_harms), (wi_rm60_3_320_0 rm cy g_isCar), (wi_rm63_3_12_0 rm cy g_isHere), (wi_rm64_0_12_0 rm cy g_crosses), (wi_rm68_3_12_0 rm cy g_presses), (wi_rm69_3_300_0 rm cy g_crossedIn), (wi_rm41_0_4_0 rm cy g_many), (wi_rm62_3_300_0 rm cy g_isGreen), (wi_rm76_0_32_0 rm cy g_rows), (wi_rm77_0_720_0 rm cy g_when)] → va_S A s.heap H locs → lv_has ls 6 [(0, .ref a_this), (1, .int p0)] → W p l e { frames := 7, cells := 0, slots := 0, locals := 160 } s m args below meth c H locs 0 0 Q (F0 m 17 ls []) := by
    intro H locs ls hq hP hD hS hl
    unfold F_X10_watched_17 at hq
    refine lv_iconst (v := (-1)) hx hb dX10_watched_17 rfl ?_
    subst hQ; exact k_iret hx hb hr hlk rfl ((x_textKind, x_askSecond, x_redMany, x_isOpen, x_lastGreen, x_greenTo, x_isCycleGreen, x_stillGreen, x_fitMany, x_fitRules, x_fitGreen, x_qPiled, g_qPile, g_waits, g_gaps, g_goes, g_harms, g_isCar, g_isHere, g_crosses, g_presses, g_crossedIn, g_isGreen, g_when)) hS ⟨ib_w 0 1 hx_isOpen rfl, ib_w 0 1 hx_isCycleGreen rfl, ib_w 0 60 hx_fitMany rfl, ib_w 0 1700 hx_qPiled rfl, hg_gaps, ib_w (-1) 2147483647 (ib_c (-1) (-1) (-1) rfl) rfl, (hO.symm.trans (by try simp only [show ((-1) : Int32).toInt = (-1 : Int) from rfl]; exact hq))⟩ hP hD (Nat.le_of_ble_eq_true rfl) (Nat.le_of_ble_eq_true rfl) dX10_watched_18
  refine lv_aload_n hx hb dX10_watched_0 rfl (lv_at hl 0 rfl) ?_
  refine k_get C0 fg_X10_417 hP 0 rfl rfl dX10_watched_1 ?_
  refine lv_if_eq (tgt := 17) hx hb dX10_watched_4 rfl (fun c39 => ?_) (fun c39 => ?_)
  · replace hq := lf_pos hq (lf_eq (lf_rf x_isCrossing) (lf_lc 0 (0 : Int) rfl) c39)
    have h40 := ib_eq hx_isCrossing (ib_c 0 0 0 rfl) c39
    have h41 : ib x_isCrossing 0 0 := ib_w 0 0 h40.1 rfl
    exact jn17  H locs ls (by exact hq) hP hD hS (lv_sub hl [0, 1] rfl)
  · as_aux_lemma =>
      replace hq := lf_neg hq (lf_ne (lf_rf x_isCrossing) (lf_lc 0 (0 : Int) rfl) c39)
      have h42 : ib x_isCrossing 1 1 := ib_w 1 1 (ib_ne_lo 0 hx_isCrossing rfl c39) rfl
      have h43 : ib (g_bar 4) 10 120 := ib_w 10 120 (ib_two hg_bar_4 (hc_cr (ib_nz h42 rfl))) rfl
      refine lv_iload_n hx hb dX10_watched_7 rfl (lv_at hl 1 rfl) ?_
      refine lv_i2l (v := p0.toInt64) hx hb dX10_watched_8 rfl ?_
      refine lv_lconst (v := 0) hx hb dX10_watched_9 (by decide) ?_
      refine lv_lconst (v := 1) hx hb dX10_watched_10 (by decide) ?_
      refine k_jim hP hD hS hA [] [true, true, true, true, true, true, true, true, true, true, true, true, true, true, true, true, true, true, true, true, true, true] rfl rfl (by decide +kernel) 0 0 (Nat.le_of_ble_eq_true rfl) (Nat.le_of_ble_eq_true rfl) (fun hPc hDc => k_runS (As := [.long p0.toInt64, .long 0, .long 1]) (rest := []) C0 hZ hS hA (c_isIn l dC dI cy sq p0.toInt64 0 1) mS_X10_318 hPc hDc hl rfl rfl (Nat.le_of_ble_eq_true rfl) ⟨(Nat.le_of_ble_eq_true rfl), (Nat.le_of_ble_eq_true rfl)⟩ ⟨(Nat.le_of_ble_eq_true rfl), (Nat.le_of_ble_eq_true rfl)⟩ dX10_watched_11) (fun r44 u45 H locs hw hP hD hS => ?_)
      replace hP : va_P (dC, dI) vwCl [(a_this, .inr (10, mfs rm x_taped x_at x_end x_ended x_bad x_badPlace x_fault x_faultPlace x_namePlace x_awayTold x_away x_coded x_statements x_isCrossing x_textKind x_askSecond x_redMany x_isOpen x_lastGreen x_greenTo x_isCycleGreen x_stillGreen x_rowMany x_fitMany x_fitRules x_fitGreen x_undoable x_newest x_seeded x_qCoded x_qWaits x_qOpened x_qBase x_qPiled x_qAnswer x_qIsNew x_octets)), (wi_rm49_0_6_0 rm cy g_codeFrom), (wi_rm50_0_6_0 rm cy g_codeEnd), (wi_rm116_1_1700_1 rm cy g_qPile), (wi_rm51_0_3200_0 rm cy g_codes), (wi_rm46_0_48_0 rm cy g_walkers), (wi_rm56_0_9_0 rm cy g_now), (wi_rm43_0_8_0 rm cy g_bar), (wi_rm65_0_12_0 rm cy g_waits), (wi_rm44_0_24_0 rm cy g_kinds), (wi_rm61_0_300_0 rm cy g_gaps), (wi_rm66_3_12_0 rm cy g_goes), (wi_rm67_3_12_0 rm cy g_harms), (wi_rm60_3_320_0 rm cy g_isCar), (wi_rm63_3_12_0 rm cy g_isHere), (wi_rm64_0_12_0 rm cy g_crosses), (wi_rm68_3_12_0 rm cy g_presses), (wi_rm69_3_300_0 rm cy g_crossedIn), (wi_rm41_0_4_0 rm cy g_many), (wi_rm62_3_300_0 rm cy g_isGreen), (wi_rm76_0_32_0 rm cy g_rows), (wi_rm77_0_720_0 rm cy g_when)] H := hP
      replace hD := k_D hP hD
      have h46 := hw
      have h47 : ib r44 0 1 := by rw [h46]; exact k_isf_01 _ _ _
      have Er44 := lf_isine h46 (lf_i2l (lf_rf p0)) (lf_ll 0 (0 : Int) rfl) (lf_ll 1 (1 : Int) rfl)
      refine lv_if_ne (tgt := 19) hx hb dX10_watched_14 rfl (fun c48 => ?_) (fun c48 => ?_)
      · as_aux_lemma =>
          replace hq := lf_neg hq (lf_ne Er44 (lf_lc 0 (0 : Int) rfl) c48)
          have h49 : ib r44 1 1 := ib_w 1 1 (ib_ne_lo 0 h47 rfl c48) rfl
          have h50 : ib p0 0 1 := ib_w 0 1 (ib_two (ib_any p0) (k_isf_v h46 (show 0 ≤ (0 : Int64).toInt by decide) (show (1 : Int64).toInt ≤ 1 by decide) (ib_nz h49 rfl))) rfl
          refine lv_aload_n hx hb dX10_watched_19 rfl (lv_at hl 0 rfl) ?_
          refine k_jvm hP hD hS hA [0, 1, 2, 3, 4, 5, 6, 7, 8, 9, 10, 11, 12, 13, 14, 15, 16, 17, 18, 19, 20, 21] [] rfl rfl (by decide +kernel) 0 0 (Nat.le_of_ble_eq_true rfl) (Nat.le_of_ble_eq_true rfl) (fun hPc hDc => k_runV (As := []) (rest := []) C0 hZ hS hA (s_X10_laysFits l dC dI cy sq a_this rm x_taped x_at x_end x_ended x_bad x_badPlace x_fault x_faultPlace x_namePlace x_awayTold x_away x_coded x_statements x_isCrossing x_textKind x_askSecond x_redMany x_isOpen x_lastGreen x_greenTo x_isCycleGreen x_stillGreen x_rowMany x_fitMany x_fitRules x_fitGreen x_undoable x_newest x_seeded x_qCoded x_qWaits x_qOpened x_qBase x_qPiled x_qAnswer x_qIsNew x_octets g_many g_bar g_kinds g_walkers g_codeFrom g_codeEnd g_codes g_now g_isCar g_gaps g_isGreen g_isHere g_crosses g_waits g_goes g_harms g_presses g_crossedIn g_rows g_when g_qPile (ib_w 0 1 hx_isOpen rfl) (ib_w 0 1 hx_isCycleGreen rfl) (ib_w 0 16 hx_rowMany rfl) (ib_w 0 1700 hx_qPiled rfl) (ib_w 0 12 hg_many_3 rfl) (ib_w 10 120 h43 rfl) hpg_walkers (ib_w (-1) 1600 hg_codeFrom_3 rfl) (ib_w (-1) 1600 hg_codeFrom_4 rfl) (ib_w 0 1600 hg_codeEnd_3 rfl) (ib_w 0 1600 hg_codeEnd_4 rfl) hg_gaps hpg_rows hG0 hG1) mV_X10_582 hPc hDc rfl rfl rfl hl rfl rfl (Nat.le_of_ble_eq_true rfl) ⟨(Nat.le_of_ble_eq_true rfl), (Nat.le_of_ble_eq_true rfl)⟩ ⟨(Nat.le_of_ble_eq_true rfl), (Nat.le_of_ble_eq_true rfl)⟩ dX10_watched_20) (fun u52 H locs hw hP hD hS => ?_)
          obtain ⟨v53, v54, v55, v56, v57, v58, v59, v60, v61, v62, v63, v64, f65, f66, f67, f68, f69, f70, f71, f72, f73, f74, f75, f76⟩ := u52
          try dsimp only at hP hD hw
          replace hP : va_P (dC, dI) vwCl [(a_this, .inr (10, mfs rm x_taped x_at x_end x_ended x_bad x_badPlace x_fault x_faultPlace x_namePlace x_awayTold x_away x_coded x_statements x_isCrossing v53 v54 v55 v56 v57 v58 v59 v60 x_rowMany v61 v62 v63 x_undoable x_newest x_seeded x_qCoded x_qWaits x_qOpened x_qBase v64 x_qAnswer x_qIsNew x_octets)), (wi_rm49_0_6_0 rm cy g_codeFrom), (wi_rm50_0_6_0 rm cy g_codeEnd), (wi_rm116_1_1700_1 rm cy f65), (wi_rm51_0_3200_0 rm cy g_codes), (wi_rm46_0_48_0 rm cy g_walkers), (wi_rm56_0_9_0 rm cy g_now), (wi_rm43_0_8_0 rm cy g_bar), (wi_rm65_0_12_0 rm cy f66), (wi_rm44_0_24_0 rm cy g_kinds), (wi_rm61_0_300_0 rm cy f67), (wi_rm66_3_12_0 rm cy f68), (wi_rm67_3_12_0 rm cy f69), (wi_rm60_3_320_0 rm cy f70), (wi_rm63_3_12_0 rm cy f71), (wi_rm64_0_12_0 rm cy f72), (wi_rm68_3_12_0 rm cy f73), (wi_rm69_3_300_0 rm cy f74), (wi_rm41_0_4_0 rm cy g_many), (wi_rm62_3_300_0 rm cy f75), (wi_rm76_0_32_0 rm cy g_rows), (wi_rm77_0_720_0 rm cy f76)] H := hP
          replace hD := k_D hP hD
          obtain ⟨h77, h78, h79, h80, h81, h82, h83⟩ := hw
          replace hq := lf_p1 hq h83
          replace hq := lf_p1 hq rfl
          replace hq := lf_p1 hq rfl
          replace hq := lf_p1 hq rfl
          replace hq := lf_p1 hq rfl
          replace hq := lf_p1 hq rfl
          replace hq := lf_p1 hq rfl
          replace hq := lf_p1 hq rfl
          replace hq := lf_p1 hq rfl
          replace hq := lf_p1 hq rfl
          replace hq := lf_p1 hq rfl
          replace hq := lf_p1 hq rfl
          replace hq := lf_p1 hq rfl
          replace hq := lf_p1 hq rfl
          replace hq := lf_p1 hq rfl
          replace hq := lf_p1 hq rfl
          replace hq := lf_p1 hq rfl
          replace hq := lf_p1 hq rfl
          replace hq := lf_p1 hq rfl
          replace hq := lf_p1 hq rfl
          replace hq := lf_p1 hq rfl
          replace hq := lf_p1 hq rfl
          replace hq := lf_p1 hq rfl
          refine lv_iconst (v := (-1)) hx hb dX10_watched_23 rfl ?_
          refine lv_istore_n (lv' := [(2, .int (-1)), (0, .ref a_this), (1, .int p0)]) hx hb dX10_watched_24 rfl hl (Nat.le_of_ble_eq_true rfl) rfl (fun ls hl => ?_)
          refine lv_iconst (v := 0) hx hb dX10_watched_25 rfl ?_
          refine lv_istore_n (lv' := [(3, .int 0), (2, .int (-1)), (0, .ref a_this), (1, .int p0)]) hx hb dX10_watched_26 rfl hl (Nat.le_of_ble_eq_true rfl) rfl (fun ls hl => ?_)
          refine lv_iconst (v := 0) hx hb dX10_watched_27 rfl ?_
          refine lv_istore (lv' := [(4, .int 0), (3, .int 0), (2, .int (-1)), (0, .ref a_this), (1, .int p0)]) hx hb dX10_watched_28 hl (Nat.le_of_ble_eq_true rfl) rfl (fun ls hl => ?_)
          exact jn30 14 v53 v54 v55 v56 v57 v58 v59 v60 v61 v62 v63 v64 f65 f66 f67 f68 f69 f70 f71 f72 f73 f74 f75 f76 (-1) 0 0 H locs ls (ib_w 0 1 h50 rfl) (ib_w 1 1 h42 rfl) (ib_w 0 1 h77 rfl) (ib_w 0 1 h78 rfl) (ib_w 0 60 h79 rfl) (ib_w (-1) 20 h80 rfl) (ib_w 0 1700 h81 rfl) (ib_w 10 120 h43 rfl) (ib_w (-1) 2147483647 (ib_c (-1) (-1) (-1) rfl) rfl) (ib_w 0 2147483647 (ib_c 0 0 0 rfl) rfl) (ib_w 0 12 (ib_c 0 0 0 rfl) rfl) h82 (by try simp only [show ((-1) : Int32).toInt = (-1 : Int) from rfl]; try simp only [show (0 : Int32).toInt = (0 : Int) from rfl]; exact hq) (by have := (ib_c 0 0 0 rfl); unfold ib at this; omega) hP hD hS (lv_sub hl [3, 4, 2, 1, 0] rfl)
      · replace hq := lf_pos hq (lf_eq Er44 (lf_lc 0 (0 : Int) rfl) c48)
        have h84 := ib_eq h47 (ib_c 0 0 0 rfl) c48
        have h85 : ib r44 0 0 := ib_w 0 0 h84.1 rfl
        exact jn17  H locs ls (by exact hq) hP hD hS (lv_sub hl [0, 1] rfl)
