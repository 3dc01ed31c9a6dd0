set_option maxHeartbeats 4000000 in
set_option maxRecDepth 100000 in
theorem s_X0_forget (l : Launch) (dC : Nat → ClassId) (dI : Nat → Nat → Nat) (cy : Nat → ClassId) (sq : Nat → Nat) (a_this : Nat) (a_this_street : Nat) (a_this_state : Nat) (a_this_told : Nat) (a_this_trusts : Nat) (x_this_known : Int32) (hx_this_known : ib x_this_known 0 30) : k_Met l yX0_forget cX0_forget 1 none { frames := 0, cells := 0, slots := 0, locals := 0 } dC dI cy sq [.ref a_this] [(a_this, .inr (0, [.ref a_this_street, .ref a_this_state, .ref a_this_told, .ref a_this_trusts, .int x_this_known]))] (k_Qv dC dI (fun (n0 : Int32) => ib n0 0 30) (fun n0 : Int32 => [(a_this, .inr (0, [.ref a_this_street, .ref a_this_state, .ref a_this_told, .ref a_this_trusts, .int n0]))])) := by
  refine k_ofW2 (by decide +kernel) (Nat.le_of_ble_eq_true rfl) ?_
  intro p e s m below meth c A ls H locs args Q hQ C0 hr hlk hin hP hD hA hS hl
  have C0 : k_cx p s m args c cX0_forget 1 RX0 dC dI cy sq := C0
  have hx := C0.1
  have hb := C0.2.1
  have hl : lv_has ls 1 [(0, .ref a_this)] := hl
  refine lv_aload_n hx hb dX0_forget_0 rfl (lv_at hl 0 rfl) ?_
  refine lv_iconst (v := 0) hx hb dX0_forget_1 (by decide) ?_
  refine k_put C0 fp_X0_25 hP hD hS 0 rfl rfl rfl (Nat.le_of_ble_eq_true rfl) dX0_forget_2 (fun H locs hP hD hS => ?_)
  have hP : va_P (dC, dI) vwCl [(a_this, .inr (0, [.ref a_this_street, .ref a_this_state, .ref a_this_told, .ref a_this_trusts, .int 0]))] H := hP
  have hD : va_D A [(a_this, .inr (0, [.ref a_this_street, .ref a_this_state, .ref a_this_told, .ref a_this_trusts, .int 0]))] := hD
  subst hQ; exact k_vret hx hb hr hlk 0 hS (ib_w 0 30 (ib_c 0 0 0 (by decide)) (by decide)) hP hD (Nat.le_of_ble_eq_true rfl) (Nat.le_of_ble_eq_true rfl) dX0_forget_5
set_option maxHeartbeats 4000000 in
set_option maxRecDepth 100000 in
theorem s_X3_within (l : Launch) (dC : Nat → ClassId) (dI : Nat → Nat → Nat) (cy : Nat → ClassId) (sq : Nat → Nat) (p0 : Int64)  : k_Met l yX3_within cX3_within 2 (some .int) { frames := 0, cells := 0, slots := 0, locals := 0 } dC dI cy sq [.long p0] [] (k_Qi dC dI (fun (r : Int32) (_ : Unit) => True) (fun _ : Unit => [])) := by
  refine k_ofW2 (by decide +kernel) (Nat.le_of_ble_eq_true rfl) ?_
  intro p e s m below meth c A ls H locs args Q hQ C0 hr hlk hin hP hD hA hS hl
  have C0 : k_cx p s m args c cX3_within 2 RX3 dC dI cy sq := C0
  have hx := C0.1
  have hb := C0.2.1
  have hl : lv_has ls 2 [(0, .long p0)] := hl
  refine lv_lload_n hx hb dX3_within_0 rfl (lv_at hl 0 rfl) ?_
  refine lv_ldc2 hx hb C0.2.2.2.1 (C0.2.2.2.2.1 _ wd861) dX3_within_1 ?_
  refine W.lcmp hx hb dX3_within_4 ?_
  refine lv_topi (fun z422 ez422 => ?_)
  have h423 : ib z422 (-1) 1 := by rw [ez422]; exact ib_cmp _ _
  refine lv_if_le (tgt := 11) hx hb dX3_within_5 (by decide) (fun c424 => ?_) (fun c424 => ?_)
  · have h425 := ib_le h423 (ib_c 0 0 0 (by decide)) c424
    have h426 : ib z422 (-1) 0 := ib_w (-1) 0 h425.1 (by decide)
    refine lv_lload_n hx hb dX3_within_11 rfl (lv_at hl 0 rfl) ?_
    refine lv_ldc2 hx hb C0.2.2.2.1 (C0.2.2.2.2.1 _ wd863) dX3_within_12 ?_
    refine W.lcmp hx hb dX3_within_15 ?_
    refine lv_topi (fun z427 ez427 => ?_)
    have h428 : ib z427 (-1) 1 := by rw [ez427]; exact ib_cmp _ _
    refine lv_if_ge (tgt := 24) hx hb dX3_within_16 (by decide) (fun c429 => ?_) (fun c429 => ?_)
    · have h430 := ib_le (ib_c 0 0 0 (by decide)) h428 c429
      have h431 : ib z427 0 1 := ib_w 0 1 h430.2 (by decide)
      refine lv_lload_n hx hb dX3_within_24 rfl (lv_at hl 0 rfl) ?_
      refine lv_l2i hx hb dX3_within_25 rfl ?_
      refine lv_topi (fun z432 ez432 => ?_)
      subst hQ; exact k_iret hx hb hr hlk rfl () hS True.intro hP hD (Nat.le_of_ble_eq_true rfl) (Nat.le_of_ble_eq_true rfl) dX3_within_26
    · have h433 := ib_nle (ib_c 0 0 0 (by decide)) h428 c429
      have h434 : ib z427 (-1) (-1) := ib_w (-1) (-1) h433.2 (by decide)
      refine lv_ldc hx hb C0.2.2.2.1 (C0.2.2.2.2.1 _ wd864) dX3_within_19 ?_
      refine lv_goto (tgt := 26) hx hb dX3_within_21 (by decide) ?_
      subst hQ; exact k_iret hx hb hr hlk rfl () hS True.intro hP hD (Nat.le_of_ble_eq_true rfl) (Nat.le_of_ble_eq_true rfl) dX3_within_26
  · have h435 := ib_nle h423 (ib_c 0 0 0 (by decide)) c424
    have h436 : ib z422 1 1 := ib_w 1 1 h435.1 (by decide)
    refine lv_ldc hx hb C0.2.2.2.1 (C0.2.2.2.2.1 _ wd862) dX3_within_8 ?_
    subst hQ; exact k_iret hx hb hr hlk rfl () hS True.intro hP hD (Nat.le_of_ble_eq_true rfl) (Nat.le_of_ble_eq_true rfl) dX3_within_10
set_option maxHeartbeats 4000000 in
set_option maxRecDepth 100000 in
theorem s_X7_greensUpTo (l : Launch) (dC : Nat → ClassId) (dI : Nat → Nat → Nat) (cy : Nat → ClassId) (sq : Nat → Nat) (a_this : Nat) (a_this_machine : Nat) (a_this_plan : Nat) (x_this_plan_cycle : Int32) (x_this_plan_green : Int32) (x_this_plan_rule : Int32) (x_this_plan_least : Int32) (x_this_plan_away : Int32) (x_this_plan_statements : Int32) (x_this_plan_kinds : Int32) (a_this_plan_calm : Nat) (a_this_plan_pace : Nat) (a_this_plan_trusts : Nat) (x_this_plan_walkers : Int32) (a_this_plan_kindOf : Nat) (a_this_plan_comesAt : Nat) (a_this_plan_comers : Nat) (a_this_plan_names : Nat) (a_this_plan_code : Nat) (x_this_plan_size : Int32) (a_this_plan_spans : Nat) (x_this_day : Int32) (a_this_trusts : Nat) (x_this_rule : Int32) (x_this_green : Int32) (x_this_absent : Int32) (x_this_asksReds : Int32) (a_this_cars : Nat) (a_this_gaps : Nat) (a_this_known : Nat) (a_this_left : Nat) (a_this_leaves : Nat) (x_this_pressed : Int32) (x_this_crossed : Int32) (x_this_went : Int32) (x_this_harmed : Int32) (p0 : Int32) (hx_this_plan_cycle : ib x_this_plan_cycle 0 120) (hx_this_plan_least : ib x_this_plan_least 0 99) (hx_this_plan_statements : ib x_this_plan_statements 0 81) (hx_this_plan_kinds : ib x_this_plan_kinds 0 6) (hx_this_plan_walkers : ib x_this_plan_walkers 0 12) (hx_this_plan_size : ib x_this_plan_size 0 1600) (hx_this_asksReds : ib x_this_asksReds 0 1) : k_Met l yX7_greensUpTo cX7_greensUpTo 2 (some .int) { frames := 1, cells := 0, slots := 0, locals := 13 } dC dI cy sq [.ref a_this, .int p0] [(a_this, .inr (7, [.ref a_this_machine, .ref a_this_plan, .int x_this_day, .ref a_this_trusts, .int x_this_rule, .int x_this_green, .int x_this_absent, .int x_this_asksReds, .ref a_this_cars, .ref a_this_gaps, .ref a_this_known, .ref a_this_left, .ref a_this_leaves, .int x_this_pressed, .int x_this_crossed, .int x_this_went, .int x_this_harmed])), (a_this_plan, .inr (4, [.int x_this_plan_cycle, .int x_this_plan_green, .int x_this_plan_rule, .int x_this_plan_least, .int x_this_plan_away, .int x_this_plan_statements, .int x_this_plan_kinds, .ref a_this_plan_calm, .ref a_this_plan_pace, .ref a_this_plan_trusts, .int x_this_plan_walkers, .ref a_this_plan_kindOf, .ref a_this_plan_comesAt, .ref a_this_plan_comers, .ref a_this_plan_names, .ref a_this_plan_code, .int x_this_plan_size, .ref a_this_plan_spans]))] (k_Qi dC dI (fun (r : Int32) (_ : Unit) => ib r (-2147483648) 119) (fun _ : Unit => [(a_this, .inr (7, [.ref a_this_machine, .ref a_this_plan, .int x_this_day, .ref a_this_trusts, .int x_this_rule, .int x_this_green, .int x_this_absent, .int x_this_asksReds, .ref a_this_cars, .ref a_this_gaps, .ref a_this_known, .ref a_this_left, .ref a_this_leaves, .int x_this_pressed, .int x_this_crossed, .int x_this_went, .int x_this_harmed])), (a_this_plan, .inr (4, [.int x_this_plan_cycle, .int x_this_plan_green, .int x_this_plan_rule, .int x_this_plan_least, .int x_this_plan_away, .int x_this_plan_statements, .int x_this_plan_kinds, .ref a_this_plan_calm, .ref a_this_plan_pace, .ref a_this_plan_trusts, .int x_this_plan_walkers, .ref a_this_plan_kindOf, .ref a_this_plan_comesAt, .ref a_this_plan_comers, .ref a_this_plan_names, .ref a_this_plan_code, .int x_this_plan_size, .ref a_this_plan_spans]))])) := by
  refine k_ofW2 (by decide +kernel) (Nat.le_of_ble_eq_true rfl) ?_
  intro p e s m below meth c A ls H locs args Q hQ C0 hr hlk hin hP hD hA hS hl
  have C0 : k_cx p s m args c cX7_greensUpTo 2 RX7 dC dI cy sq := C0
  have hx := C0.1
  have hb := C0.2.1
  have hl : lv_has ls 2 [(0, .ref a_this), (1, .int p0)] := hl
  refine lv_iload_n hx hb dX7_greensUpTo_0 rfl (lv_at hl 1 rfl) ?_
  refine lv_aload_n hx hb dX7_greensUpTo_1 rfl (lv_at hl 0 rfl) ?_
  refine k_get C0 fg_X7_63 hP 0 rfl rfl dX7_greensUpTo_2 ?_
  refine k_get C0 fg_X7_73 hP 1 rfl rfl dX7_greensUpTo_5 ?_
  refine lv_iconst (v := 1) hx hb dX7_greensUpTo_8 (by decide) ?_
  refine lv_isub hx hb dX7_greensUpTo_9 ?_
  refine lv_topi (fun z2897 ez2897 => ?_)
  have h2898 := ib_sub hx_this_plan_cycle (ib_c 1 1 1 (by decide)) (by decide)
  rw [← ez2897] at h2898
  have h2899 : ib z2897 (-1) 119 := ib_w (-1) 119 h2898.1 (by decide)
  refine va_mmin hx hb (by rw [C0.2.2.1]; exact hl.1.symm) C0.2.2.2.1 (C0.2.2.2.2.1 _ wd850) (C0.2.2.2.2.1 _ wd298) (C0.2.2.2.2.1 _ wd299) (C0.2.2.2.2.1 _ wd300) (Nat.le_of_ble_eq_true rfl) (Nat.le_of_ble_eq_true rfl) (Nat.le_of_ble_eq_true rfl) (Nat.le_of_ble_eq_true rfl) dX7_greensUpTo_10 ?_
  refine lv_topi (fun z2900 ez2900 => ?_)
  have h2901 : ib z2900 (-2147483648) 119 := by rw [ez2900]; exact ib_w (-2147483648) 119 (ib_min (ib_any p0) h2899) (by decide)
  subst hQ; exact k_iret hx hb hr hlk rfl () hS (ib_w (-2147483648) 119 h2901 (by decide)) hP hD (Nat.le_of_ble_eq_true rfl) (Nat.le_of_ble_eq_true rfl) dX7_greensUpTo_13
set_option maxHeartbeats 4000000 in
set_option maxRecDepth 100000 in
theorem s_X7_waitedBy (l : Launch) (dC : Nat → ClassId) (dI : Nat → Nat → Nat) (cy : Nat → ClassId) (sq : Nat → Nat) (a_this : Nat) (a_this_machine : Nat) (a_this_plan : Nat) (x_this_plan_cycle : Int32) (x_this_plan_green : Int32) (x_this_plan_rule : Int32) (x_this_plan_least : Int32) (x_this_plan_away : Int32) (x_this_plan_statements : Int32) (x_this_plan_kinds : Int32) (a_this_plan_calm : Nat) (a_this_plan_pace : Nat) (a_this_plan_trusts : Nat) (x_this_plan_walkers : Int32) (a_this_plan_kindOf : Nat) (a_this_plan_comesAt : Nat) (g_this_plan_comesAt : Nat → Int32) (a_this_plan_comers : Nat) (a_this_plan_names : Nat) (a_this_plan_code : Nat) (x_this_plan_size : Int32) (a_this_plan_spans : Nat) (x_this_day : Int32) (a_this_trusts : Nat) (x_this_rule : Int32) (x_this_green : Int32) (x_this_absent : Int32) (x_this_asksReds : Int32) (a_this_cars : Nat) (a_this_gaps : Nat) (a_this_known : Nat) (a_this_left : Nat) (a_this_leaves : Nat) (g_this_leaves : Nat → Int32) (x_this_pressed : Int32) (x_this_crossed : Int32) (x_this_went : Int32) (x_this_harmed : Int32) (p0 : Int32) (hx_this_plan_cycle : ib x_this_plan_cycle 0 120) (hx_this_plan_least : ib x_this_plan_least 0 99) (hx_this_plan_statements : ib x_this_plan_statements 0 81) (hx_this_plan_kinds : ib x_this_plan_kinds 0 6) (hx_this_plan_walkers : ib x_this_plan_walkers 0 12) (hg_this_plan_comesAt : ia g_this_plan_comesAt 12 0 199) (hx_this_plan_size : ib x_this_plan_size 0 1600) (hx_this_asksReds : ib x_this_asksReds 0 1) (hp0 : ib p0 0 11) : k_Met l yX7_waitedBy cX7_waitedBy 2 (some .int) { frames := 0, cells := 0, slots := 0, locals := 0 } dC dI cy sq [.ref a_this, .int p0] [(a_this, .inr (7, [.ref a_this_machine, .ref a_this_plan, .int x_this_day, .ref a_this_trusts, .int x_this_rule, .int x_this_green, .int x_this_absent, .int x_this_asksReds, .ref a_this_cars, .ref a_this_gaps, .ref a_this_known, .ref a_this_left, .ref a_this_leaves, .int x_this_pressed, .int x_this_crossed, .int x_this_went, .int x_this_harmed])), (a_this_leaves, .inl (cy 0, 12, .inl g_this_leaves)), (a_this_plan, .inr (4, [.int x_this_plan_cycle, .int x_this_plan_green, .int x_this_plan_rule, .int x_this_plan_least, .int x_this_plan_away, .int x_this_plan_statements, .int x_this_plan_kinds, .ref a_this_plan_calm, .ref a_this_plan_pace, .ref a_this_plan_trusts, .int x_this_plan_walkers, .ref a_this_plan_kindOf, .ref a_this_plan_comesAt, .ref a_this_plan_comers, .ref a_this_plan_names, .ref a_this_plan_code, .int x_this_plan_size, .ref a_this_plan_spans])), (a_this_plan_comesAt, .inl (cy 0, 12, .inl g_this_plan_comesAt))] (k_Qi dC dI (fun (r : Int32) (_ : Unit) => True) (fun _ : Unit => [(a_this, .inr (7, [.ref a_this_machine, .ref a_this_plan, .int x_this_day, .ref a_this_trusts, .int x_this_rule, .int x_this_green, .int x_this_absent, .int x_this_asksReds, .ref a_this_cars, .ref a_this_gaps, .ref a_this_known, .ref a_this_left, .ref a_this_leaves, .int x_this_pressed, .int x_this_crossed, .int x_this_went, .int x_this_harmed])), (a_this_leaves, .inl (cy 0, 12, .inl g_this_leaves)), (a_this_plan, .inr (4, [.int x_this_plan_cycle, .int x_this_plan_green, .int x_this_plan_rule, .int x_this_plan_least, .int x_this_plan_away, .int x_this_plan_statements, .int x_this_plan_kinds, .ref a_this_plan_calm, .ref a_this_plan_pace, .ref a_this_plan_trusts, .int x_this_plan_walkers, .ref a_this_plan_kindOf, .ref a_this_plan_comesAt, .ref a_this_plan_comers, .ref a_this_plan_names, .ref a_this_plan_code, .int x_this_plan_size, .ref a_this_plan_spans])), (a_this_plan_comesAt, .inl (cy 0, 12, .inl g_this_plan_comesAt))])) := by
  refine k_ofW2 (by decide +kernel) (Nat.le_of_ble_eq_true rfl) ?_
  intro p e s m below meth c A ls H locs args Q hQ C0 hr hlk hin hP hD hA hS hl
  have C0 : k_cx p s m args c cX7_waitedBy 2 RX7 dC dI cy sq := C0
  have hx := C0.1
  have hb := C0.2.1
  have hl : lv_has ls 2 [(0, .ref a_this), (1, .int p0)] := hl
  have jn22 : ∀ (J22_s0 : Int32) (H : Heap) (locs : List Loc) (ls : Array Slot), va_P (dC, dI) vwCl [(a_this, .inr (7, [.ref a_this_machine, .ref a_this_plan, .int x_this_day, .ref a_this_trusts, .int x_this_rule, .int x_this_green, .int x_this_absent, .int x_this_asksReds, .ref a_this_cars, .ref a_this_gaps, .ref a_this_known, .ref a_this_left, .ref a_this_leaves, .int x_this_pressed, .int x_this_crossed, .int x_this_went, .int x_this_harmed])), (a_this_leaves, .inl (cy 0, 12, .inl g_this_leaves)), (a_this_plan, .inr (4, [.int x_this_plan_cycle, .int x_this_plan_green, .int x_this_plan_rule, .int x_this_plan_least, .int x_this_plan_away, .int x_this_plan_statements, .int x_this_plan_kinds, .ref a_this_plan_calm, .ref a_this_plan_pace, .ref a_this_plan_trusts, .int x_this_plan_walkers, .ref a_this_plan_kindOf, .ref a_this_plan_comesAt, .ref a_this_plan_comers, .ref a_this_plan_names, .ref a_this_plan_code, .int x_this_plan_size, .ref a_this_plan_spans])), (a_this_plan_comesAt, .inl (cy 0, 12, .inl g_this_plan_comesAt))] H → va_D A [(a_this, .inr (7, [.ref a_this_machine, .ref a_this_plan, .int x_this_day, .ref a_this_trusts, .int x_this_rule, .int x_this_green, .int x_this_absent, .int x_this_asksReds, .ref a_this_cars, .ref a_this_gaps, .ref a_this_known, .ref a_this_left, .ref a_this_leaves, .int x_this_pressed, .int x_this_crossed, .int x_this_went, .int x_this_harmed])), (a_this_leaves, .inl (cy 0, 12, .inl g_this_leaves)), (a_this_plan, .inr (4, [.int x_this_plan_cycle, .int x_this_plan_green, .int x_this_plan_rule, .int x_this_plan_least, .int x_this_plan_away, .int x_this_plan_statements, .int x_this_plan_kinds, .ref a_this_plan_calm, .ref a_this_plan_pace, .ref a_this_plan_trusts, .int x_this_plan_walkers, .ref a_this_plan_kindOf, .ref a_this_plan_comesAt, .ref a_this_plan_comers, .ref a_this_plan_names, .ref a_this_plan_code, .int x_this_plan_size, .ref a_this_plan_spans])), (a_this_plan_comesAt, .inl (cy 0, 12, .inl g_this_plan_comesAt))] → va_S A s.heap H locs → lv_has ls 2 [(0, .ref a_this), (1, .int p0)] → W p l e { frames := 0, cells := 0, slots := 0, locals := 0 } s m args below meth c H locs 0 0 Q (F0 m 22 ls [.int J22_s0]) := by
    intro J22_s0 H locs ls hP hD hS hl
    refine lv_aload_n hx hb dX7_waitedBy_22 rfl (lv_at hl 0 rfl) ?_
    refine k_get C0 fg_X7_63 hP 0 rfl rfl dX7_waitedBy_23 ?_
    refine k_get C0 fg_X7_153 hP 2 rfl rfl dX7_waitedBy_26 ?_
    refine lv_iload_n hx hb dX7_waitedBy_29 rfl (lv_at hl 1 rfl) ?_
    refine va_iald hx hb C0.2.2.2.2.2.1 hP 3 0 rfl rfl (ib_in 12 hp0 (by decide)) dX7_waitedBy_30 ?_
    refine lv_topi (fun z5229 ez5229 => ?_)
    have h5230 : ib z5229 0 199 := by rw [ez5229]; exact ia_at hg_this_plan_comesAt (ib_in 12 hp0 (by decide))
    refine lv_isub hx hb dX7_waitedBy_31 ?_
    refine lv_topi (fun z5231 ez5231 => ?_)
    subst hQ; exact k_iret hx hb hr hlk rfl () hS True.intro hP hD (Nat.le_of_ble_eq_true rfl) (Nat.le_of_ble_eq_true rfl) dX7_waitedBy_32
  refine lv_aload_n hx hb dX7_waitedBy_0 rfl (lv_at hl 0 rfl) ?_
  refine k_get C0 fg_X7_44 hP 0 rfl rfl dX7_waitedBy_1 ?_
  refine lv_iload_n hx hb dX7_waitedBy_4 rfl (lv_at hl 1 rfl) ?_
  refine va_iald hx hb C0.2.2.2.2.2.1 hP 1 0 rfl rfl (ib_in 12 hp0 (by decide)) dX7_waitedBy_5 ?_
  refine lv_topi (fun z5232 ez5232 => ?_)
  refine lv_iconst (v := (-1)) hx hb dX7_waitedBy_6 (by decide) ?_
  refine lv_icmp_ne (tgt := 16) hx hb dX7_waitedBy_7 (by decide) (fun c5233 => ?_) (fun c5233 => ?_)
  · skip
    refine lv_aload_n hx hb dX7_waitedBy_16 rfl (lv_at hl 0 rfl) ?_
    refine k_get C0 fg_X7_44 hP 0 rfl rfl dX7_waitedBy_17 ?_
    refine lv_iload_n hx hb dX7_waitedBy_20 rfl (lv_at hl 1 rfl) ?_
    refine va_iald hx hb C0.2.2.2.2.2.1 hP 1 0 rfl rfl (ib_in 12 hp0 (by decide)) dX7_waitedBy_21 ?_
    refine lv_topi (fun z5234 ez5234 => ?_)
    exact jn22 z5234 H locs ls  hP hD hS (lv_sub hl [0, 1] rfl)
  · have h5235 := ib_eq (ib_any z5232) (ib_c (-1) (-1) (-1) (by decide)) c5233
    have h5236 : ib z5232 (-1) (-1) := ib_w (-1) (-1) h5235.1 (by decide)
    refine lv_sipush (v := 300) hx hb dX7_waitedBy_10 (by decide) ?_
    refine lv_goto (tgt := 22) hx hb dX7_waitedBy_13 (by decide) ?_
    exact jn22 300 H locs ls  hP hD hS (lv_sub hl [0, 1] rfl)
set_option maxHeartbeats 4000000 in
set_option maxRecDepth 100000 in
theorem s_X7_waitedByAll (l : Launch) (dC : Nat → ClassId) (dI : Nat → Nat → Nat) (cy : Nat → ClassId) (sq : Nat → Nat) (a_this : Nat) (a_this_machine : Nat) (a_this_plan : Nat) (x_this_plan_cycle : Int32) (x_this_plan_green : Int32) (x_this_plan_rule : Int32) (x_this_plan_least : Int32) (x_this_plan_away : Int32) (x_this_plan_statements : Int32) (x_this_plan_kinds : Int32) (a_this_plan_calm : Nat) (a_this_plan_pace : Nat) (a_this_plan_trusts : Nat) (x_this_plan_walkers : Int32) (a_this_plan_kindOf : Nat) (a_this_plan_comesAt : Nat) (g_this_plan_comesAt : Nat → Int32) (a_this_plan_comers : Nat) (a_this_plan_names : Nat) (a_this_plan_code : Nat) (x_this_plan_size : Int32) (a_this_plan_spans : Nat) (x_this_day : Int32) (a_this_trusts : Nat) (x_this_rule : Int32) (x_this_green : Int32) (x_this_absent : Int32) (x_this_asksReds : Int32) (a_this_cars : Nat) (a_this_gaps : Nat) (a_this_known : Nat) (a_this_left : Nat) (a_this_leaves : Nat) (g_this_leaves : Nat → Int32) (x_this_pressed : Int32) (x_this_crossed : Int32) (x_this_went : Int32) (x_this_harmed : Int32) (hx_this_plan_cycle : ib x_this_plan_cycle 0 120) (hx_this_plan_least : ib x_this_plan_least 0 99) (hx_this_plan_statements : ib x_this_plan_statements 0 81) (hx_this_plan_kinds : ib x_this_plan_kinds 0 6) (hx_this_plan_walkers : ib x_this_plan_walkers 0 12) (hg_this_plan_comesAt : ia g_this_plan_comesAt 12 0 199) (hx_this_plan_size : ib x_this_plan_size 0 1600) (hx_this_asksReds : ib x_this_asksReds 0 1) : k_Met l yX7_waitedByAll cX7_waitedByAll 3 (some .int) { frames := 1, cells := 0, slots := 0, locals := 21 } dC dI cy sq [.ref a_this] [(a_this, .inr (7, [.ref a_this_machine, .ref a_this_plan, .int x_this_day, .ref a_this_trusts, .int x_this_rule, .int x_this_green, .int x_this_absent, .int x_this_asksReds, .ref a_this_cars, .ref a_this_gaps, .ref a_this_known, .ref a_this_left, .ref a_this_leaves, .int x_this_pressed, .int x_this_crossed, .int x_this_went, .int x_this_harmed])), (a_this_plan, .inr (4, [.int x_this_plan_cycle, .int x_this_plan_green, .int x_this_plan_rule, .int x_this_plan_least, .int x_this_plan_away, .int x_this_plan_statements, .int x_this_plan_kinds, .ref a_this_plan_calm, .ref a_this_plan_pace, .ref a_this_plan_trusts, .int x_this_plan_walkers, .ref a_this_plan_kindOf, .ref a_this_plan_comesAt, .ref a_this_plan_comers, .ref a_this_plan_names, .ref a_this_plan_code, .int x_this_plan_size, .ref a_this_plan_spans])), (a_this_leaves, .inl (cy 0, 12, .inl g_this_leaves)), (a_this_plan_comesAt, .inl (cy 0, 12, .inl g_this_plan_comesAt))] (k_Qi dC dI (fun (r : Int32) (_ : Unit) => True) (fun _ : Unit => [(a_this, .inr (7, [.ref a_this_machine, .ref a_this_plan, .int x_this_day, .ref a_this_trusts, .int x_this_rule, .int x_this_green, .int x_this_absent, .int x_this_asksReds, .ref a_this_cars, .ref a_this_gaps, .ref a_this_known, .ref a_this_left, .ref a_this_leaves, .int x_this_pressed, .int x_this_crossed, .int x_this_went, .int x_this_harmed])), (a_this_plan, .inr (4, [.int x_this_plan_cycle, .int x_this_plan_green, .int x_this_plan_rule, .int x_this_plan_least, .int x_this_plan_away, .int x_this_plan_statements, .int x_this_plan_kinds, .ref a_this_plan_calm, .ref a_this_plan_pace, .ref a_this_plan_trusts, .int x_this_plan_walkers, .ref a_this_plan_kindOf, .ref a_this_plan_comesAt, .ref a_this_plan_comers, .ref a_this_plan_names, .ref a_this_plan_code, .int x_this_plan_size, .ref a_this_plan_spans])), (a_this_leaves, .inl (cy 0, 12, .inl g_this_leaves)), (a_this_plan_comesAt, .inl (cy 0, 12, .inl g_this_plan_comesAt))])) := by
  refine k_ofW2 (by decide +kernel) (Nat.le_of_ble_eq_true rfl) ?_
  intro p e s m below meth c A ls H locs args Q hQ C0 hr hlk hin hP hD hA hS hl
  have C0 : k_cx p s m args c cX7_waitedByAll 3 RX7 dC dI cy sq := C0
  have hx := C0.1
  have hb := C0.2.1
  have hl : lv_has ls 3 [(0, .ref a_this)] := hl
  have jn4 : ∀ (n : Nat) (J4_l2 : Int32) (J4_l1 : Int32) (H : Heap) (locs : List Loc) (ls : Array Slot), ib J4_l2 0 12 → 13 ≤ J4_l2.toInt + (n : Int) → va_P (dC, dI) vwCl [(a_this, .inr (7, [.ref a_this_machine, .ref a_this_plan, .int x_this_day, .ref a_this_trusts, .int x_this_rule, .int x_this_green, .int x_this_absent, .int x_this_asksReds, .ref a_this_cars, .ref a_this_gaps, .ref a_this_known, .ref a_this_left, .ref a_this_leaves, .int x_this_pressed, .int x_this_crossed, .int x_this_went, .int x_this_harmed])), (a_this_plan, .inr (4, [.int x_this_plan_cycle, .int x_this_plan_green, .int x_this_plan_rule, .int x_this_plan_least, .int x_this_plan_away, .int x_this_plan_statements, .int x_this_plan_kinds, .ref a_this_plan_calm, .ref a_this_plan_pace, .ref a_this_plan_trusts, .int x_this_plan_walkers, .ref a_this_plan_kindOf, .ref a_this_plan_comesAt, .ref a_this_plan_comers, .ref a_this_plan_names, .ref a_this_plan_code, .int x_this_plan_size, .ref a_this_plan_spans])), (a_this_leaves, .inl (cy 0, 12, .inl g_this_leaves)), (a_this_plan_comesAt, .inl (cy 0, 12, .inl g_this_plan_comesAt))] H → va_D A [(a_this, .inr (7, [.ref a_this_machine, .ref a_this_plan, .int x_this_day, .ref a_this_trusts, .int x_this_rule, .int x_this_green, .int x_this_absent, .int x_this_asksReds, .ref a_this_cars, .ref a_this_gaps, .ref a_this_known, .ref a_this_left, .ref a_this_leaves, .int x_this_pressed, .int x_this_crossed, .int x_this_went, .int x_this_harmed])), (a_this_plan, .inr (4, [.int x_this_plan_cycle, .int x_this_plan_green, .int x_this_plan_rule, .int x_this_plan_least, .int x_this_plan_away, .int x_this_plan_statements, .int x_this_plan_kinds, .ref a_this_plan_calm, .ref a_this_plan_pace, .ref a_this_plan_trusts, .int x_this_plan_walkers, .ref a_this_plan_kindOf, .ref a_this_plan_comesAt, .ref a_this_plan_comers, .ref a_this_plan_names, .ref a_this_plan_code, .int x_this_plan_size, .ref a_this_plan_spans])), (a_this_leaves, .inl (cy 0, 12, .inl g_this_leaves)), (a_this_plan_comesAt, .inl (cy 0, 12, .inl g_this_plan_comesAt))] → va_S A s.heap H locs → lv_has ls 3 [(0, .ref a_this), (1, .int J4_l1), (2, .int J4_l2)] → W p l e { frames := 1, cells := 0, slots := 0, locals := 21 } s m args below meth c H locs 0 0 Q (F0 m 4 ls []) := by
    intro n
    induction n with
    | zero =>
      intro J4_l2 J4_l1 H locs ls hJ4_l2 hm
      exact absurd hm (by have := hJ4_l2; unfold ib at this; omega)
    | succ n ih =>
      intro J4_l2 J4_l1 H locs ls hJ4_l2 hm4 hP hD hS hl
      have ih4 := ih
      have jn34 : ∀ (J34_l1 : Int32) (H : Heap) (locs : List Loc) (ls : Array Slot), ib J4_l2 0 11 → ib x_this_plan_walkers 1 12 → va_P (dC, dI) vwCl [(a_this, .inr (7, [.ref a_this_machine, .ref a_this_plan, .int x_this_day, .ref a_this_trusts, .int x_this_rule, .int x_this_green, .int x_this_absent, .int x_this_asksReds, .ref a_this_cars, .ref a_this_gaps, .ref a_this_known, .ref a_this_left, .ref a_this_leaves, .int x_this_pressed, .int x_this_crossed, .int x_this_went, .int x_this_harmed])), (a_this_plan, .inr (4, [.int x_this_plan_cycle, .int x_this_plan_green, .int x_this_plan_rule, .int x_this_plan_least, .int x_this_plan_away, .int x_this_plan_statements, .int x_this_plan_kinds, .ref a_this_plan_calm, .ref a_this_plan_pace, .ref a_this_plan_trusts, .int x_this_plan_walkers, .ref a_this_plan_kindOf, .ref a_this_plan_comesAt, .ref a_this_plan_comers, .ref a_this_plan_names, .ref a_this_plan_code, .int x_this_plan_size, .ref a_this_plan_spans])), (a_this_leaves, .inl (cy 0, 12, .inl g_this_leaves)), (a_this_plan_comesAt, .inl (cy 0, 12, .inl g_this_plan_comesAt))] H → va_D A [(a_this, .inr (7, [.ref a_this_machine, .ref a_this_plan, .int x_this_day, .ref a_this_trusts, .int x_this_rule, .int x_this_green, .int x_this_absent, .int x_this_asksReds, .ref a_this_cars, .ref a_this_gaps, .ref a_this_known, .ref a_this_left, .ref a_this_leaves, .int x_this_pressed, .int x_this_crossed, .int x_this_went, .int x_this_harmed])), (a_this_plan, .inr (4, [.int x_this_plan_cycle, .int x_this_plan_green, .int x_this_plan_rule, .int x_this_plan_least, .int x_this_plan_away, .int x_this_plan_statements, .int x_this_plan_kinds, .ref a_this_plan_calm, .ref a_this_plan_pace, .ref a_this_plan_trusts, .int x_this_plan_walkers, .ref a_this_plan_kindOf, .ref a_this_plan_comesAt, .ref a_this_plan_comers, .ref a_this_plan_names, .ref a_this_plan_code, .int x_this_plan_size, .ref a_this_plan_spans])), (a_this_leaves, .inl (cy 0, 12, .inl g_this_leaves)), (a_this_plan_comesAt, .inl (cy 0, 12, .inl g_this_plan_comesAt))] → va_S A s.heap H locs → lv_has ls 3 [(0, .ref a_this), (1, .int J34_l1), (2, .int J4_l2)] → W p l e { frames := 1, cells := 0, slots := 0, locals := 21 } s m args below meth c H locs 0 0 Q (F0 m 34 ls []) := by
        intro J34_l1 H locs ls hJ34_l2 hJ34_c1_10 hP hD hS hl
        obtain ⟨z5635, ez5635⟩ : ∃ y : Int32, y = J4_l2 + 1 := ⟨_, rfl⟩
        refine lv_iinc (v := z5635) (lv' := [(2, .int z5635), (0, .ref a_this), (1, .int J34_l1)]) hx hb dX7_waitedByAll_34 hl (k := 2) rfl (by rw [ez5635]; rfl) (by decide) rfl (fun ls hl => ?_)
        have h5636 := ib_add hJ34_l2 (ib_c 1 1 1 (by decide)) (by decide)
        rw [← ez5635] at h5636
        have h5637 : ib z5635 1 12 := ib_w 1 12 h5636.1 (by decide)
        refine lv_goto (tgt := 4) hx hb dX7_waitedByAll_37 (by decide) ?_
        exact ih4 z5635 J34_l1 H locs ls (ib_w 0 12 h5637 (by decide)) (by have := h5636.2; have : (1 : Int32).toInt = 1 := (by decide); omega) hP hD hS (lv_sub hl [1, 2, 0] rfl)
      refine lv_iload_n hx hb dX7_waitedByAll_4 rfl (lv_at hl 2 rfl) ?_
      refine lv_aload_n hx hb dX7_waitedByAll_5 rfl (lv_at hl 0 rfl) ?_
      refine k_get C0 fg_X7_63 hP 0 rfl rfl dX7_waitedByAll_6 ?_
      refine k_get C0 fg_X7_137 hP 1 rfl rfl dX7_waitedByAll_9 ?_
      refine lv_icmp_ge (tgt := 40) hx hb dX7_waitedByAll_12 (by decide) (fun c5638 => ?_) (fun c5638 => ?_)
      · have h5639 := ib_le hx_this_plan_walkers hJ4_l2 c5638
        refine lv_iload_n hx hb dX7_waitedByAll_40 rfl (lv_at hl 1 rfl) ?_
        subst hQ; exact k_iret hx hb hr hlk rfl () hS True.intro hP hD (Nat.le_of_ble_eq_true rfl) (Nat.le_of_ble_eq_true rfl) dX7_waitedByAll_41
      · have h5640 := ib_nle hx_this_plan_walkers hJ4_l2 c5638
        have h5641 : ib x_this_plan_walkers 1 12 := ib_w 1 12 h5640.1 (by decide)
        have h5642 : ib J4_l2 0 11 := ib_w 0 11 h5640.2 (by decide)
        refine lv_aload_n hx hb dX7_waitedByAll_15 rfl (lv_at hl 0 rfl) ?_
        refine k_get C0 fg_X7_25 hP 0 rfl rfl dX7_waitedByAll_16 ?_
        refine lv_iload_n hx hb dX7_waitedByAll_19 rfl (lv_at hl 2 rfl) ?_
        refine lv_ishr hx hb dX7_waitedByAll_20 ?_
        refine lv_topi (fun z5643 ez5643 => ?_)
        refine lv_iconst (v := 1) hx hb dX7_waitedByAll_21 (by decide) ?_
        refine lv_iand hx hb dX7_waitedByAll_22 ?_
        refine lv_topi (fun z5644 ez5644 => ?_)
        have h5645 : ib z5644 0 1 := by rw [ez5644]; exact ib_and 1 (by decide) (by decide) 1 (by decide)
        refine lv_if_ne (tgt := 34) hx hb dX7_waitedByAll_23 (by decide) (fun c5646 => ?_) (fun c5646 => ?_)
        · have h5647 : ib z5644 1 1 := ib_w 1 1 (ib_ne_lo 0 h5645 (by decide) c5646) (by decide)
          obtain ⟨z5648, ez5648⟩ : ∃ y : Int32, y = J4_l2 + 1 := ⟨_, rfl⟩
          refine lv_iinc (v := z5648) (lv' := [(2, .int z5648), (0, .ref a_this), (1, .int J4_l1)]) hx hb dX7_waitedByAll_34 hl (k := 2) rfl (by rw [ez5648]; rfl) (by decide) rfl (fun ls hl => ?_)
          have h5649 := ib_add h5642 (ib_c 1 1 1 (by decide)) (by decide)
          rw [← ez5648] at h5649
          have h5650 : ib z5648 1 12 := ib_w 1 12 h5649.1 (by decide)
          refine lv_goto (tgt := 4) hx hb dX7_waitedByAll_37 (by decide) ?_
          exact ih4 z5648 J4_l1 H locs ls (ib_w 0 12 h5650 (by decide)) (by have := h5649.2; have : (1 : Int32).toInt = 1 := (by decide); omega) hP hD hS (lv_sub hl [1, 2, 0] rfl)
        · have h5651 := ib_eq h5645 (ib_c 0 0 0 (by decide)) c5646
          have h5652 : ib z5644 0 0 := ib_w 0 0 h5651.1 (by decide)
          refine lv_iload_n hx hb dX7_waitedByAll_26 rfl (lv_at hl 1 rfl) ?_
          refine lv_aload_n hx hb dX7_waitedByAll_27 rfl (lv_at hl 0 rfl) ?_
          refine lv_iload_n hx hb dX7_waitedByAll_28 rfl (lv_at hl 2 rfl) ?_
          refine k_ji hP hD hS hA [0, 2, 1, 3] [] (wr := []) rfl rfl (by decide) (by decide) (by decide) 0 0 (Nat.le_of_ble_eq_true rfl) (Nat.le_of_ble_eq_true rfl) (fun hPc hDc => k_runV (As := [.int J4_l2]) (rest := [.int J4_l1]) C0 (s_X7_waitedBy l dC dI cy sq a_this a_this_machine a_this_plan x_this_plan_cycle x_this_plan_green x_this_plan_rule x_this_plan_least x_this_plan_away x_this_plan_statements x_this_plan_kinds a_this_plan_calm a_this_plan_pace a_this_plan_trusts x_this_plan_walkers a_this_plan_kindOf a_this_plan_comesAt g_this_plan_comesAt a_this_plan_comers a_this_plan_names a_this_plan_code x_this_plan_size a_this_plan_spans x_this_day a_this_trusts x_this_rule x_this_green x_this_absent x_this_asksReds a_this_cars a_this_gaps a_this_known a_this_left a_this_leaves g_this_leaves x_this_pressed x_this_crossed x_this_went x_this_harmed J4_l2 (ib_w 0 120 hx_this_plan_cycle (by decide)) (ib_w 0 99 hx_this_plan_least (by decide)) (ib_w 0 81 hx_this_plan_statements (by decide)) (ib_w 0 6 hx_this_plan_kinds (by decide)) (ib_w 0 12 h5641 (by decide)) hg_this_plan_comesAt (ib_w 0 1600 hx_this_plan_size (by decide)) (ib_w 0 1 hx_this_asksReds (by decide)) (ib_w 0 11 h5642 (by decide))) mV_X7_163 hPc hDc rfl rfl rfl hl rfl rfl (Nat.le_of_ble_eq_true rfl) ⟨(Nat.le_of_ble_eq_true rfl), (Nat.le_of_ble_eq_true rfl)⟩ ⟨(Nat.le_of_ble_eq_true rfl), (Nat.le_of_ble_eq_true rfl)⟩ dX7_waitedByAll_29) (fun r5653 u5654 H locs hw hP hD hS => ?_)
          try dsimp only at hP hD hw
          have hP : va_P (dC, dI) vwCl [(a_this, .inr (7, [.ref a_this_machine, .ref a_this_plan, .int x_this_day, .ref a_this_trusts, .int x_this_rule, .int x_this_green, .int x_this_absent, .int x_this_asksReds, .ref a_this_cars, .ref a_this_gaps, .ref a_this_known, .ref a_this_left, .ref a_this_leaves, .int x_this_pressed, .int x_this_crossed, .int x_this_went, .int x_this_harmed])), (a_this_leaves, .inl (cy 0, 12, .inl g_this_leaves)), (a_this_plan, .inr (4, [.int x_this_plan_cycle, .int x_this_plan_green, .int x_this_plan_rule, .int x_this_plan_least, .int x_this_plan_away, .int x_this_plan_statements, .int x_this_plan_kinds, .ref a_this_plan_calm, .ref a_this_plan_pace, .ref a_this_plan_trusts, .int x_this_plan_walkers, .ref a_this_plan_kindOf, .ref a_this_plan_comesAt, .ref a_this_plan_comers, .ref a_this_plan_names, .ref a_this_plan_code, .int x_this_plan_size, .ref a_this_plan_spans])), (a_this_plan_comesAt, .inl (cy 0, 12, .inl g_this_plan_comesAt))] H := hP
          have hD : va_D A [(a_this, .inr (7, [.ref a_this_machine, .ref a_this_plan, .int x_this_day, .ref a_this_trusts, .int x_this_rule, .int x_this_green, .int x_this_absent, .int x_this_asksReds, .ref a_this_cars, .ref a_this_gaps, .ref a_this_known, .ref a_this_left, .ref a_this_leaves, .int x_this_pressed, .int x_this_crossed, .int x_this_went, .int x_this_harmed])), (a_this_leaves, .inl (cy 0, 12, .inl g_this_leaves)), (a_this_plan, .inr (4, [.int x_this_plan_cycle, .int x_this_plan_green, .int x_this_plan_rule, .int x_this_plan_least, .int x_this_plan_away, .int x_this_plan_statements, .int x_this_plan_kinds, .ref a_this_plan_calm, .ref a_this_plan_pace, .ref a_this_plan_trusts, .int x_this_plan_walkers, .ref a_this_plan_kindOf, .ref a_this_plan_comesAt, .ref a_this_plan_comers, .ref a_this_plan_names, .ref a_this_plan_code, .int x_this_plan_size, .ref a_this_plan_spans])), (a_this_plan_comesAt, .inl (cy 0, 12, .inl g_this_plan_comesAt))] := hD
          refine lv_iadd hx hb dX7_waitedByAll_32 ?_
          refine lv_topi (fun z5655 ez5655 => ?_)
          refine lv_istore_n (lv' := [(1, .int z5655), (0, .ref a_this), (2, .int J4_l2)]) hx hb dX7_waitedByAll_33 rfl hl (by decide) rfl (fun ls hl => ?_)
          exact jn34 z5655 H locs ls (ib_w 0 11 h5642 (by decide)) (ib_w 1 12 h5641 (by decide)) (hP.sub [0, 2, 1, 3] rfl) (hD.sub [0, 2, 1, 3] (by decide) rfl) hS (lv_sub hl [1, 0, 2] rfl)
  refine lv_iconst (v := 0) hx hb dX7_waitedByAll_0 (by decide) ?_
  refine lv_istore_n (lv' := [(1, .int 0), (0, .ref a_this)]) hx hb dX7_waitedByAll_1 rfl hl (by decide) rfl (fun ls hl => ?_)
  refine lv_iconst (v := 0) hx hb dX7_waitedByAll_2 (by decide) ?_
  refine lv_istore_n (lv' := [(2, .int 0), (1, .int 0), (0, .ref a_this)]) hx hb dX7_waitedByAll_3 rfl hl (by decide) rfl (fun ls hl => ?_)
  exact jn4 14 0 0 H locs ls (ib_w 0 12 (ib_c 0 0 0 (by decide)) (by decide)) (by have := (ib_c 0 0 0 (by decide)); unfold ib at this; omega) hP hD hS (lv_sub hl [2, 1, 0] rfl)
set_option maxHeartbeats 4000000 in
set_option maxRecDepth 100000 in
theorem s_J6_bitCount_0f7a4 (l : Launch) (dC : Nat → ClassId) (dI : Nat → Nat → Nat) (cy : Nat → ClassId) (sq : Nat → Nat) (p0 : Int32)  : k_Met l yJ6_bitCount_0f7a4 cJ6_bitCount_0f7a4 1 (some .int) { frames := 0, cells := 0, slots := 0, locals := 0 } dC dI cy sq [.int p0] [] (k_Qi dC dI (fun (r : Int32) (_ : Unit) => ib r 0 63) (fun _ : Unit => [])) := by
  refine k_ofW2 (by decide +kernel) (Nat.le_of_ble_eq_true rfl) ?_
  intro p e s m below meth c A ls H locs args Q hQ C0 hr hlk hin hP hD hA hS hl
  have C0 : k_cx p s m args c cJ6_bitCount_0f7a4 1 RJ6 dC dI cy sq := C0
  have hx := C0.1
  have hb := C0.2.1
  have hl : lv_has ls 1 [(0, .int p0)] := hl
  refine lv_iload_n hx hb dJ6_bitCount_0f7a4_0 rfl (lv_at hl 0 rfl) ?_
  refine lv_iload_n hx hb dJ6_bitCount_0f7a4_1 rfl (lv_at hl 0 rfl) ?_
  refine lv_iconst (v := 1) hx hb dJ6_bitCount_0f7a4_2 (by decide) ?_
  refine lv_iushr hx hb dJ6_bitCount_0f7a4_3 rfl ?_
  refine lv_topi (fun z5818 ez5818 => ?_)
  refine lv_ldcw hx hb C0.2.2.2.1 (C0.2.2.2.2.1 _ wd1031) dJ6_bitCount_0f7a4_4 ?_
  refine lv_iand hx hb dJ6_bitCount_0f7a4_7 ?_
  refine lv_topi (fun z5819 ez5819 => ?_)
  refine lv_isub hx hb dJ6_bitCount_0f7a4_8 ?_
  refine lv_topi (fun z5820 ez5820 => ?_)
  refine lv_istore_n (lv' := [(0, .int z5820)]) hx hb dJ6_bitCount_0f7a4_9 rfl hl (by decide) rfl (fun ls hl => ?_)
  refine lv_iload_n hx hb dJ6_bitCount_0f7a4_10 rfl (lv_at hl 0 rfl) ?_
  refine lv_ldcw hx hb C0.2.2.2.1 (C0.2.2.2.2.1 _ wd1032) dJ6_bitCount_0f7a4_11 ?_
  refine lv_iand hx hb dJ6_bitCount_0f7a4_14 ?_
  refine lv_topi (fun z5821 ez5821 => ?_)
  refine lv_iload_n hx hb dJ6_bitCount_0f7a4_15 rfl (lv_at hl 0 rfl) ?_
  refine lv_iconst (v := 2) hx hb dJ6_bitCount_0f7a4_16 (by decide) ?_
  refine lv_iushr hx hb dJ6_bitCount_0f7a4_17 rfl ?_
  refine lv_topi (fun z5822 ez5822 => ?_)
  refine lv_ldcw hx hb C0.2.2.2.1 (C0.2.2.2.2.1 _ wd1032) dJ6_bitCount_0f7a4_18 ?_
  refine lv_iand hx hb dJ6_bitCount_0f7a4_21 ?_
  refine lv_topi (fun z5823 ez5823 => ?_)
  refine lv_iadd hx hb dJ6_bitCount_0f7a4_22 ?_
  refine lv_topi (fun z5824 ez5824 => ?_)
  refine lv_istore_n (lv' := [(0, .int z5824)]) hx hb dJ6_bitCount_0f7a4_23 rfl hl (by decide) rfl (fun ls hl => ?_)
  refine lv_iload_n hx hb dJ6_bitCount_0f7a4_24 rfl (lv_at hl 0 rfl) ?_
  refine lv_iload_n hx hb dJ6_bitCount_0f7a4_25 rfl (lv_at hl 0 rfl) ?_
  refine lv_iconst (v := 4) hx hb dJ6_bitCount_0f7a4_26 (by decide) ?_
  refine lv_iushr hx hb dJ6_bitCount_0f7a4_27 rfl ?_
  refine lv_topi (fun z5825 ez5825 => ?_)
  refine lv_iadd hx hb dJ6_bitCount_0f7a4_28 ?_
  refine lv_topi (fun z5826 ez5826 => ?_)
  refine lv_ldcw hx hb C0.2.2.2.1 (C0.2.2.2.2.1 _ wd1033) dJ6_bitCount_0f7a4_29 ?_
  refine lv_iand hx hb dJ6_bitCount_0f7a4_32 ?_
  refine lv_topi (fun z5827 ez5827 => ?_)
  refine lv_istore_n (lv' := [(0, .int z5827)]) hx hb dJ6_bitCount_0f7a4_33 rfl hl (by decide) rfl (fun ls hl => ?_)
  refine lv_iload_n hx hb dJ6_bitCount_0f7a4_34 rfl (lv_at hl 0 rfl) ?_
  refine lv_iload_n hx hb dJ6_bitCount_0f7a4_35 rfl (lv_at hl 0 rfl) ?_
  refine lv_bipush (v := 8) hx hb dJ6_bitCount_0f7a4_36 (by decide) ?_
  refine lv_iushr hx hb dJ6_bitCount_0f7a4_38 rfl ?_
  refine lv_topi (fun z5828 ez5828 => ?_)
  refine lv_iadd hx hb dJ6_bitCount_0f7a4_39 ?_
  refine lv_topi (fun z5829 ez5829 => ?_)
  refine lv_istore_n (lv' := [(0, .int z5829)]) hx hb dJ6_bitCount_0f7a4_40 rfl hl (by decide) rfl (fun ls hl => ?_)
  refine lv_iload_n hx hb dJ6_bitCount_0f7a4_41 rfl (lv_at hl 0 rfl) ?_
  refine lv_iload_n hx hb dJ6_bitCount_0f7a4_42 rfl (lv_at hl 0 rfl) ?_
  refine lv_bipush (v := 16) hx hb dJ6_bitCount_0f7a4_43 (by decide) ?_
  refine lv_iushr hx hb dJ6_bitCount_0f7a4_45 rfl ?_
  refine lv_topi (fun z5830 ez5830 => ?_)
  refine lv_iadd hx hb dJ6_bitCount_0f7a4_46 ?_
  refine lv_topi (fun z5831 ez5831 => ?_)
  refine lv_istore_n (lv' := [(0, .int z5831)]) hx hb dJ6_bitCount_0f7a4_47 rfl hl (by decide) rfl (fun ls hl => ?_)
  refine lv_iload_n hx hb dJ6_bitCount_0f7a4_48 rfl (lv_at hl 0 rfl) ?_
  refine lv_bipush (v := 63) hx hb dJ6_bitCount_0f7a4_49 (by decide) ?_
  refine lv_iand hx hb dJ6_bitCount_0f7a4_51 ?_
  refine lv_topi (fun z5832 ez5832 => ?_)
  have h5833 : ib z5832 0 63 := by rw [ez5832]; exact ib_and 6 (by decide) (by decide) 63 (by decide)
  subst hQ; exact k_iret hx hb hr hlk rfl () hS (ib_w 0 63 h5833 (by decide)) hP hD (Nat.le_of_ble_eq_true rfl) (Nat.le_of_ble_eq_true rfl) dJ6_bitCount_0f7a4_52
set_option maxHeartbeats 4000000 in
set_option maxRecDepth 100000 in
theorem s_X4_everyone (l : Launch) (dC : Nat → ClassId) (dI : Nat → Nat → Nat) (cy : Nat → ClassId) (sq : Nat → Nat) (a_this : Nat) (x_this_cycle : Int32) (x_this_green : Int32) (x_this_rule : Int32) (x_this_least : Int32) (x_this_away : Int32) (x_this_statements : Int32) (x_this_kinds : Int32) (a_this_calm : Nat) (a_this_pace : Nat) (a_this_trusts : Nat) (x_this_walkers : Int32) (a_this_kindOf : Nat) (a_this_comesAt : Nat) (a_this_comers : Nat) (a_this_names : Nat) (a_this_code : Nat) (x_this_size : Int32) (a_this_spans : Nat) (hx_this_cycle : ib x_this_cycle 0 120) (hx_this_least : ib x_this_least 0 99) (hx_this_statements : ib x_this_statements 0 81) (hx_this_kinds : ib x_this_kinds 0 6) (hx_this_walkers : ib x_this_walkers 0 12) (hx_this_size : ib x_this_size 0 1600) : k_Met l yX4_everyone cX4_everyone 1 (some .int) { frames := 0, cells := 0, slots := 0, locals := 0 } dC dI cy sq [.ref a_this] [(a_this, .inr (4, [.int x_this_cycle, .int x_this_green, .int x_this_rule, .int x_this_least, .int x_this_away, .int x_this_statements, .int x_this_kinds, .ref a_this_calm, .ref a_this_pace, .ref a_this_trusts, .int x_this_walkers, .ref a_this_kindOf, .ref a_this_comesAt, .ref a_this_comers, .ref a_this_names, .ref a_this_code, .int x_this_size, .ref a_this_spans]))] (k_Qi dC dI (fun (r : Int32) (_ : Unit) => True) (fun _ : Unit => [(a_this, .inr (4, [.int x_this_cycle, .int x_this_green, .int x_this_rule, .int x_this_least, .int x_this_away, .int x_this_statements, .int x_this_kinds, .ref a_this_calm, .ref a_this_pace, .ref a_this_trusts, .int x_this_walkers, .ref a_this_kindOf, .ref a_this_comesAt, .ref a_this_comers, .ref a_this_names, .ref a_this_code, .int x_this_size, .ref a_this_spans]))])) := by
  refine k_ofW2 (by decide +kernel) (Nat.le_of_ble_eq_true rfl) ?_
  intro p e s m below meth c A ls H locs args Q hQ C0 hr hlk hin hP hD hA hS hl
  have C0 : k_cx p s m args c cX4_everyone 1 RX4 dC dI cy sq := C0
  have hx := C0.1
  have hb := C0.2.1
  have hl : lv_has ls 1 [(0, .ref a_this)] := hl
  refine lv_iconst (v := 1) hx hb dX4_everyone_0 (by decide) ?_
  refine lv_aload_n hx hb dX4_everyone_1 rfl (lv_at hl 0 rfl) ?_
  refine k_get C0 fg_X4_52 hP 0 rfl rfl dX4_everyone_2 ?_
  refine lv_ishl hx hb dX4_everyone_5 ?_
  refine lv_topi (fun z5860 ez5860 => ?_)
  refine lv_iconst (v := 1) hx hb dX4_everyone_6 (by decide) ?_
  refine lv_isub hx hb dX4_everyone_7 ?_
  refine lv_topi (fun z5861 ez5861 => ?_)
  subst hQ; exact k_iret hx hb hr hlk rfl () hS True.intro hP hD (Nat.le_of_ble_eq_true rfl) (Nat.le_of_ble_eq_true rfl) dX4_everyone_8
set_option maxHeartbeats 4000000 in
set_option maxRecDepth 100000 in
theorem s_X7_someoneCrosses (l : Launch) (dC : Nat → ClassId) (dI : Nat → Nat → Nat) (cy : Nat → ClassId) (sq : Nat → Nat) (a_this : Nat) (a_this_machine : Nat) (a_this_plan : Nat) (x_this_plan_cycle : Int32) (x_this_plan_green : Int32) (x_this_plan_rule : Int32) (x_this_plan_least : Int32) (x_this_plan_away : Int32) (x_this_plan_statements : Int32) (x_this_plan_kinds : Int32) (a_this_plan_calm : Nat) (a_this_plan_pace : Nat) (a_this_plan_trusts : Nat) (x_this_plan_walkers : Int32) (a_this_plan_kindOf : Nat) (a_this_plan_comesAt : Nat) (a_this_plan_comers : Nat) (a_this_plan_names : Nat) (a_this_plan_code : Nat) (x_this_plan_size : Int32) (a_this_plan_spans : Nat) (x_this_day : Int32) (a_this_trusts : Nat) (x_this_rule : Int32) (x_this_green : Int32) (x_this_absent : Int32) (x_this_asksReds : Int32) (a_this_cars : Nat) (a_this_gaps : Nat) (a_this_known : Nat) (a_this_left : Nat) (a_this_leaves : Nat) (g_this_leaves : Nat → Int32) (x_this_pressed : Int32) (x_this_crossed : Int32) (x_this_went : Int32) (x_this_harmed : Int32) (p0 : Int32) (hx_this_plan_cycle : ib x_this_plan_cycle 0 120) (hx_this_plan_least : ib x_this_plan_least 0 99) (hx_this_plan_statements : ib x_this_plan_statements 0 81) (hx_this_plan_kinds : ib x_this_plan_kinds 0 6) (hx_this_plan_walkers : ib x_this_plan_walkers 0 12) (hx_this_plan_size : ib x_this_plan_size 0 1600) (hx_this_asksReds : ib x_this_asksReds 0 1) : k_Met l yX7_someoneCrosses cX7_someoneCrosses 3 (some .boolean) { frames := 0, cells := 0, slots := 0, locals := 0 } dC dI cy sq [.ref a_this, .int p0] [(a_this, .inr (7, [.ref a_this_machine, .ref a_this_plan, .int x_this_day, .ref a_this_trusts, .int x_this_rule, .int x_this_green, .int x_this_absent, .int x_this_asksReds, .ref a_this_cars, .ref a_this_gaps, .ref a_this_known, .ref a_this_left, .ref a_this_leaves, .int x_this_pressed, .int x_this_crossed, .int x_this_went, .int x_this_harmed])), (a_this_plan, .inr (4, [.int x_this_plan_cycle, .int x_this_plan_green, .int x_this_plan_rule, .int x_this_plan_least, .int x_this_plan_away, .int x_this_plan_statements, .int x_this_plan_kinds, .ref a_this_plan_calm, .ref a_this_plan_pace, .ref a_this_plan_trusts, .int x_this_plan_walkers, .ref a_this_plan_kindOf, .ref a_this_plan_comesAt, .ref a_this_plan_comers, .ref a_this_plan_names, .ref a_this_plan_code, .int x_this_plan_size, .ref a_this_plan_spans])), (a_this_leaves, .inl (cy 0, 12, .inl g_this_leaves))] (k_Qi dC dI (fun (r : Int32) (_ : Unit) => ib r 0 1 ∧ (¬ r = 0 → ib x_this_plan_walkers 1 12)) (fun _ : Unit => [(a_this, .inr (7, [.ref a_this_machine, .ref a_this_plan, .int x_this_day, .ref a_this_trusts, .int x_this_rule, .int x_this_green, .int x_this_absent, .int x_this_asksReds, .ref a_this_cars, .ref a_this_gaps, .ref a_this_known, .ref a_this_left, .ref a_this_leaves, .int x_this_pressed, .int x_this_crossed, .int x_this_went, .int x_this_harmed])), (a_this_plan, .inr (4, [.int x_this_plan_cycle, .int x_this_plan_green, .int x_this_plan_rule, .int x_this_plan_least, .int x_this_plan_away, .int x_this_plan_statements, .int x_this_plan_kinds, .ref a_this_plan_calm, .ref a_this_plan_pace, .ref a_this_plan_trusts, .int x_this_plan_walkers, .ref a_this_plan_kindOf, .ref a_this_plan_comesAt, .ref a_this_plan_comers, .ref a_this_plan_names, .ref a_this_plan_code, .int x_this_plan_size, .ref a_this_plan_spans])), (a_this_leaves, .inl (cy 0, 12, .inl g_this_leaves))])) := by
  refine k_ofW2 (by decide +kernel) (Nat.le_of_ble_eq_true rfl) ?_
  intro p e s m below meth c A ls H locs args Q hQ C0 hr hlk hin hP hD hA hS hl
  have C0 : k_cx p s m args c cX7_someoneCrosses 3 RX7 dC dI cy sq := C0
  have hx := C0.1
  have hb := C0.2.1
  have hl : lv_has ls 3 [(0, .ref a_this), (1, .int p0)] := hl
  have jn2 : ∀ (n : Nat) (J2_l2 : Int32) (H : Heap) (locs : List Loc) (ls : Array Slot), ib J2_l2 0 12 → 13 ≤ J2_l2.toInt + (n : Int) → va_P (dC, dI) vwCl [(a_this, .inr (7, [.ref a_this_machine, .ref a_this_plan, .int x_this_day, .ref a_this_trusts, .int x_this_rule, .int x_this_green, .int x_this_absent, .int x_this_asksReds, .ref a_this_cars, .ref a_this_gaps, .ref a_this_known, .ref a_this_left, .ref a_this_leaves, .int x_this_pressed, .int x_this_crossed, .int x_this_went, .int x_this_harmed])), (a_this_plan, .inr (4, [.int x_this_plan_cycle, .int x_this_plan_green, .int x_this_plan_rule, .int x_this_plan_least, .int x_this_plan_away, .int x_this_plan_statements, .int x_this_plan_kinds, .ref a_this_plan_calm, .ref a_this_plan_pace, .ref a_this_plan_trusts, .int x_this_plan_walkers, .ref a_this_plan_kindOf, .ref a_this_plan_comesAt, .ref a_this_plan_comers, .ref a_this_plan_names, .ref a_this_plan_code, .int x_this_plan_size, .ref a_this_plan_spans])), (a_this_leaves, .inl (cy 0, 12, .inl g_this_leaves))] H → va_D A [(a_this, .inr (7, [.ref a_this_machine, .ref a_this_plan, .int x_this_day, .ref a_this_trusts, .int x_this_rule, .int x_this_green, .int x_this_absent, .int x_this_asksReds, .ref a_this_cars, .ref a_this_gaps, .ref a_this_known, .ref a_this_left, .ref a_this_leaves, .int x_this_pressed, .int x_this_crossed, .int x_this_went, .int x_this_harmed])), (a_this_plan, .inr (4, [.int x_this_plan_cycle, .int x_this_plan_green, .int x_this_plan_rule, .int x_this_plan_least, .int x_this_plan_away, .int x_this_plan_statements, .int x_this_plan_kinds, .ref a_this_plan_calm, .ref a_this_plan_pace, .ref a_this_plan_trusts, .int x_this_plan_walkers, .ref a_this_plan_kindOf, .ref a_this_plan_comesAt, .ref a_this_plan_comers, .ref a_this_plan_names, .ref a_this_plan_code, .int x_this_plan_size, .ref a_this_plan_spans])), (a_this_leaves, .inl (cy 0, 12, .inl g_this_leaves))] → va_S A s.heap H locs → lv_has ls 3 [(0, .ref a_this), (1, .int p0), (2, .int J2_l2)] → W p l e { frames := 0, cells := 0, slots := 0, locals := 0 } s m args below meth c H locs 0 0 Q (F0 m 2 ls []) := by
    intro n
    induction n with
    | zero =>
      intro J2_l2 H locs ls hJ2_l2 hm
      exact absurd hm (by have := hJ2_l2; unfold ib at this; omega)
    | succ n ih =>
      intro J2_l2 H locs ls hJ2_l2 hm2 hP hD hS hl
      have ih2 := ih
      refine lv_iload_n hx hb dX7_someoneCrosses_2 rfl (lv_at hl 2 rfl) ?_
      refine lv_aload_n hx hb dX7_someoneCrosses_3 rfl (lv_at hl 0 rfl) ?_
      refine k_get C0 fg_X7_63 hP 0 rfl rfl dX7_someoneCrosses_4 ?_
      refine k_get C0 fg_X7_137 hP 1 rfl rfl dX7_someoneCrosses_7 ?_
      refine lv_icmp_ge (tgt := 43) hx hb dX7_someoneCrosses_10 (by decide) (fun c6254 => ?_) (fun c6254 => ?_)
      · have h6255 := ib_le hx_this_plan_walkers hJ2_l2 c6254
        refine lv_iconst (v := 0) hx hb dX7_someoneCrosses_43 (by decide) ?_
        subst hQ; exact k_iret hx hb hr hlk (k_nb 0 (by decide)) () hS ⟨ib_w 0 1 (ib_c 0 0 0 (by decide)) (by decide), fun h9 => absurd rfl h9⟩ hP hD (Nat.le_of_ble_eq_true rfl) (Nat.le_of_ble_eq_true rfl) dX7_someoneCrosses_44
      · have h6256 := ib_nle hx_this_plan_walkers hJ2_l2 c6254
        have h6257 : ib x_this_plan_walkers 1 12 := ib_w 1 12 h6256.1 (by decide)
        have h6258 : ib J2_l2 0 11 := ib_w 0 11 h6256.2 (by decide)
        refine lv_aload_n hx hb dX7_someoneCrosses_13 rfl (lv_at hl 0 rfl) ?_
        refine k_get C0 fg_X7_44 hP 0 rfl rfl dX7_someoneCrosses_14 ?_
        refine lv_iload_n hx hb dX7_someoneCrosses_17 rfl (lv_at hl 2 rfl) ?_
        refine va_iald hx hb C0.2.2.2.2.2.1 hP 2 0 rfl rfl (ib_in 12 h6258 (by decide)) dX7_someoneCrosses_18 ?_
        refine lv_topi (fun z6259 ez6259 => ?_)
        refine lv_iload_n hx hb dX7_someoneCrosses_19 rfl (lv_at hl 1 rfl) ?_
        refine lv_icmp_ne (tgt := 37) hx hb dX7_someoneCrosses_20 (by decide) (fun c6260 => ?_) (fun c6260 => ?_)
        · skip
          obtain ⟨z6261, ez6261⟩ : ∃ y : Int32, y = J2_l2 + 1 := ⟨_, rfl⟩
          refine lv_iinc (v := z6261) (lv' := [(2, .int z6261), (0, .ref a_this), (1, .int p0)]) hx hb dX7_someoneCrosses_37 hl (k := 2) rfl (by rw [ez6261]; rfl) (by decide) rfl (fun ls hl => ?_)
          have h6262 := ib_add h6258 (ib_c 1 1 1 (by decide)) (by decide)
          rw [← ez6261] at h6262
          have h6263 : ib z6261 1 12 := ib_w 1 12 h6262.1 (by decide)
          refine lv_goto (tgt := 2) hx hb dX7_someoneCrosses_40 (by decide) ?_
          exact ih2 z6261 H locs ls (ib_w 0 12 h6263 (by decide)) (by have := h6262.2; have : (1 : Int32).toInt = 1 := (by decide); omega) hP hD hS (lv_sub hl [1, 2, 0] rfl)
        · have h6264 := ib_eq (ib_any z6259) (ib_any p0) c6260
          refine lv_aload_n hx hb dX7_someoneCrosses_23 rfl (lv_at hl 0 rfl) ?_
          refine k_get C0 fg_X7_50 hP 0 rfl rfl dX7_someoneCrosses_24 ?_
          refine lv_iload_n hx hb dX7_someoneCrosses_27 rfl (lv_at hl 2 rfl) ?_
          refine lv_ishr hx hb dX7_someoneCrosses_28 ?_
          refine lv_topi (fun z6265 ez6265 => ?_)
          refine lv_iconst (v := 1) hx hb dX7_someoneCrosses_29 (by decide) ?_
          refine lv_iand hx hb dX7_someoneCrosses_30 ?_
          refine lv_topi (fun z6266 ez6266 => ?_)
          have h6267 : ib z6266 0 1 := by rw [ez6266]; exact ib_and 1 (by decide) (by decide) 1 (by decide)
          refine lv_iconst (v := 1) hx hb dX7_someoneCrosses_31 (by decide) ?_
          refine lv_icmp_ne (tgt := 37) hx hb dX7_someoneCrosses_32 (by decide) (fun c6268 => ?_) (fun c6268 => ?_)
          · have h6269 : ib z6266 0 0 := ib_w 0 0 (ib_ne_hi 1 h6267 (by decide) c6268) (by decide)
            obtain ⟨z6270, ez6270⟩ : ∃ y : Int32, y = J2_l2 + 1 := ⟨_, rfl⟩
            refine lv_iinc (v := z6270) (lv' := [(2, .int z6270), (0, .ref a_this), (1, .int p0)]) hx hb dX7_someoneCrosses_37 hl (k := 2) rfl (by rw [ez6270]; rfl) (by decide) rfl (fun ls hl => ?_)
            have h6271 := ib_add h6258 (ib_c 1 1 1 (by decide)) (by decide)
            rw [← ez6270] at h6271
            have h6272 : ib z6270 1 12 := ib_w 1 12 h6271.1 (by decide)
            refine lv_goto (tgt := 2) hx hb dX7_someoneCrosses_40 (by decide) ?_
            exact ih2 z6270 H locs ls (ib_w 0 12 h6272 (by decide)) (by have := h6271.2; have : (1 : Int32).toInt = 1 := (by decide); omega) hP hD hS (lv_sub hl [1, 2, 0] rfl)
          · have h6273 := ib_eq h6267 (ib_c 1 1 1 (by decide)) c6268
            have h6274 : ib z6266 1 1 := ib_w 1 1 h6273.1 (by decide)
            refine lv_iconst (v := 1) hx hb dX7_someoneCrosses_35 (by decide) ?_
            subst hQ; exact k_iret hx hb hr hlk (k_nb 1 (by decide)) () hS ⟨ib_w 0 1 (ib_c 1 1 1 (by decide)) (by decide), fun _ => ib_w 1 12 h6257 (by decide)⟩ hP hD (Nat.le_of_ble_eq_true rfl) (Nat.le_of_ble_eq_true rfl) dX7_someoneCrosses_36
  refine lv_iconst (v := 0) hx hb dX7_someoneCrosses_0 (by decide) ?_
  refine lv_istore_n (lv' := [(2, .int 0), (0, .ref a_this), (1, .int p0)]) hx hb dX7_someoneCrosses_1 rfl hl (by decide) rfl (fun ls hl => ?_)
  exact jn2 14 0 H locs ls (ib_w 0 12 (ib_c 0 0 0 (by decide)) (by decide)) (by have := (ib_c 0 0 0 (by decide)); unfold ib at this; omega) hP hD hS (lv_sub hl [1, 2, 0] rfl)
set_option maxHeartbeats 4000000 in
set_option maxRecDepth 100000 in
theorem s_X7_greensForNobody (l : Launch) (dC : Nat → ClassId) (dI : Nat → Nat → Nat) (cy : Nat → ClassId) (sq : Nat → Nat) (a_this : Nat) (a_this_machine : Nat) (a_this_plan : Nat) (x_this_plan_cycle : Int32) (x_this_plan_green : Int32) (x_this_plan_rule : Int32) (x_this_plan_least : Int32) (x_this_plan_away : Int32) (x_this_plan_statements : Int32) (x_this_plan_kinds : Int32) (a_this_plan_calm : Nat) (a_this_plan_pace : Nat) (a_this_plan_trusts : Nat) (x_this_plan_walkers : Int32) (a_this_plan_kindOf : Nat) (a_this_plan_comesAt : Nat) (a_this_plan_comers : Nat) (a_this_plan_names : Nat) (a_this_plan_code : Nat) (x_this_plan_size : Int32) (a_this_plan_spans : Nat) (x_this_day : Int32) (a_this_trusts : Nat) (x_this_rule : Int32) (x_this_green : Int32) (x_this_absent : Int32) (x_this_asksReds : Int32) (a_this_cars : Nat) (a_this_gaps : Nat) (a_this_known : Nat) (a_this_left : Nat) (g_this_left : Nat → Int32) (a_this_leaves : Nat) (g_this_leaves : Nat → Int32) (x_this_pressed : Int32) (x_this_crossed : Int32) (x_this_went : Int32) (x_this_harmed : Int32) (hx_this_plan_cycle : ib x_this_plan_cycle 0 120) (hx_this_plan_least : ib x_this_plan_least 0 99) (hx_this_plan_statements : ib x_this_plan_statements 0 81) (hx_this_plan_kinds : ib x_this_plan_kinds 0 6) (hx_this_plan_walkers : ib x_this_plan_walkers 0 12) (hx_this_plan_size : ib x_this_plan_size 0 1600) (hx_this_asksReds : ib x_this_asksReds 0 1) : k_Met l yX7_greensForNobody cX7_greensForNobody 5 (some .int) { frames := 1, cells := 0, slots := 0, locals := 22 } dC dI cy sq [.ref a_this] [(a_this, .inr (7, [.ref a_this_machine, .ref a_this_plan, .int x_this_day, .ref a_this_trusts, .int x_this_rule, .int x_this_green, .int x_this_absent, .int x_this_asksReds, .ref a_this_cars, .ref a_this_gaps, .ref a_this_known, .ref a_this_left, .ref a_this_leaves, .int x_this_pressed, .int x_this_crossed, .int x_this_went, .int x_this_harmed])), (a_this_left, .inl (cy 0, 300, .inl g_this_left)), (a_this_plan, .inr (4, [.int x_this_plan_cycle, .int x_this_plan_green, .int x_this_plan_rule, .int x_this_plan_least, .int x_this_plan_away, .int x_this_plan_statements, .int x_this_plan_kinds, .ref a_this_plan_calm, .ref a_this_plan_pace, .ref a_this_plan_trusts, .int x_this_plan_walkers, .ref a_this_plan_kindOf, .ref a_this_plan_comesAt, .ref a_this_plan_comers, .ref a_this_plan_names, .ref a_this_plan_code, .int x_this_plan_size, .ref a_this_plan_spans])), (a_this_leaves, .inl (cy 0, 12, .inl g_this_leaves))] (k_Qi dC dI (fun (r : Int32) (_ : Unit) => True) (fun _ : Unit => [(a_this, .inr (7, [.ref a_this_machine, .ref a_this_plan, .int x_this_day, .ref a_this_trusts, .int x_this_rule, .int x_this_green, .int x_this_absent, .int x_this_asksReds, .ref a_this_cars, .ref a_this_gaps, .ref a_this_known, .ref a_this_left, .ref a_this_leaves, .int x_this_pressed, .int x_this_crossed, .int x_this_went, .int x_this_harmed])), (a_this_left, .inl (cy 0, 300, .inl g_this_left)), (a_this_plan, .inr (4, [.int x_this_plan_cycle, .int x_this_plan_green, .int x_this_plan_rule, .int x_this_plan_least, .int x_this_plan_away, .int x_this_plan_statements, .int x_this_plan_kinds, .ref a_this_plan_calm, .ref a_this_plan_pace, .ref a_this_plan_trusts, .int x_this_plan_walkers, .ref a_this_plan_kindOf, .ref a_this_plan_comesAt, .ref a_this_plan_comers, .ref a_this_plan_names, .ref a_this_plan_code, .int x_this_plan_size, .ref a_this_plan_spans])), (a_this_leaves, .inl (cy 0, 12, .inl g_this_leaves))])) := by
  refine k_ofW2 (by decide +kernel) (Nat.le_of_ble_eq_true rfl) ?_
  intro p e s m below meth c A ls H locs args Q hQ C0 hr hlk hin hP hD hA hS hl
  have C0 : k_cx p s m args c cX7_greensForNobody 5 RX7 dC dI cy sq := C0
  have hx := C0.1
  have hb := C0.2.1
  have hl : lv_has ls 5 [(0, .ref a_this)] := hl
  have jn6 : ∀ (n : Nat) (J6_l3 : Int32) (J6_l1 : Int32) (J6_l2 : Int32) (H : Heap) (locs : List Loc) (ls : Array Slot), ib J6_l3 0 300 → ib J6_l2 0 1 → 301 ≤ J6_l3.toInt + (n : Int) → va_P (dC, dI) vwCl [(a_this, .inr (7, [.ref a_this_machine, .ref a_this_plan, .int x_this_day, .ref a_this_trusts, .int x_this_rule, .int x_this_green, .int x_this_absent, .int x_this_asksReds, .ref a_this_cars, .ref a_this_gaps, .ref a_this_known, .ref a_this_left, .ref a_this_leaves, .int x_this_pressed, .int x_this_crossed, .int x_this_went, .int x_this_harmed])), (a_this_left, .inl (cy 0, 300, .inl g_this_left)), (a_this_plan, .inr (4, [.int x_this_plan_cycle, .int x_this_plan_green, .int x_this_plan_rule, .int x_this_plan_least, .int x_this_plan_away, .int x_this_plan_statements, .int x_this_plan_kinds, .ref a_this_plan_calm, .ref a_this_plan_pace, .ref a_this_plan_trusts, .int x_this_plan_walkers, .ref a_this_plan_kindOf, .ref a_this_plan_comesAt, .ref a_this_plan_comers, .ref a_this_plan_names, .ref a_this_plan_code, .int x_this_plan_size, .ref a_this_plan_spans])), (a_this_leaves, .inl (cy 0, 12, .inl g_this_leaves))] H → va_D A [(a_this, .inr (7, [.ref a_this_machine, .ref a_this_plan, .int x_this_day, .ref a_this_trusts, .int x_this_rule, .int x_this_green, .int x_this_absent, .int x_this_asksReds, .ref a_this_cars, .ref a_this_gaps, .ref a_this_known, .ref a_this_left, .ref a_this_leaves, .int x_this_pressed, .int x_this_crossed, .int x_this_went, .int x_this_harmed])), (a_this_left, .inl (cy 0, 300, .inl g_this_left)), (a_this_plan, .inr (4, [.int x_this_plan_cycle, .int x_this_plan_green, .int x_this_plan_rule, .int x_this_plan_least, .int x_this_plan_away, .int x_this_plan_statements, .int x_this_plan_kinds, .ref a_this_plan_calm, .ref a_this_plan_pace, .ref a_this_plan_trusts, .int x_this_plan_walkers, .ref a_this_plan_kindOf, .ref a_this_plan_comesAt, .ref a_this_plan_comers, .ref a_this_plan_names, .ref a_this_plan_code, .int x_this_plan_size, .ref a_this_plan_spans])), (a_this_leaves, .inl (cy 0, 12, .inl g_this_leaves))] → va_S A s.heap H locs → lv_has ls 5 [(0, .ref a_this), (1, .int J6_l1), (2, .int J6_l2), (3, .int J6_l3)] → W p l e { frames := 1, cells := 0, slots := 0, locals := 22 } s m args below meth c H locs 0 0 Q (F0 m 6 ls []) := by
    intro n
    induction n with
    | zero =>
      intro J6_l3 J6_l1 J6_l2 H locs ls hJ6_l3 hJ6_l2 hm
      exact absurd hm (by have := hJ6_l3; unfold ib at this; omega)
    | succ n ih =>
      intro J6_l3 J6_l1 J6_l2 H locs ls hJ6_l3 hJ6_l2 hm6 hP hD hS hl
      have ih6 := ih
      have jn80 : ∀ (J80_l1 : Int32) (J80_l4 : Int32) (H : Heap) (locs : List Loc) (ls : Array Slot), ib J6_l3 0 299 → ib J80_l4 0 1 → ib x_this_plan_walkers 1 12 → va_P (dC, dI) vwCl [(a_this, .inr (7, [.ref a_this_machine, .ref a_this_plan, .int x_this_day, .ref a_this_trusts, .int x_this_rule, .int x_this_green, .int x_this_absent, .int x_this_asksReds, .ref a_this_cars, .ref a_this_gaps, .ref a_this_known, .ref a_this_left, .ref a_this_leaves, .int x_this_pressed, .int x_this_crossed, .int x_this_went, .int x_this_harmed])), (a_this_left, .inl (cy 0, 300, .inl g_this_left)), (a_this_plan, .inr (4, [.int x_this_plan_cycle, .int x_this_plan_green, .int x_this_plan_rule, .int x_this_plan_least, .int x_this_plan_away, .int x_this_plan_statements, .int x_this_plan_kinds, .ref a_this_plan_calm, .ref a_this_plan_pace, .ref a_this_plan_trusts, .int x_this_plan_walkers, .ref a_this_plan_kindOf, .ref a_this_plan_comesAt, .ref a_this_plan_comers, .ref a_this_plan_names, .ref a_this_plan_code, .int x_this_plan_size, .ref a_this_plan_spans])), (a_this_leaves, .inl (cy 0, 12, .inl g_this_leaves))] H → va_D A [(a_this, .inr (7, [.ref a_this_machine, .ref a_this_plan, .int x_this_day, .ref a_this_trusts, .int x_this_rule, .int x_this_green, .int x_this_absent, .int x_this_asksReds, .ref a_this_cars, .ref a_this_gaps, .ref a_this_known, .ref a_this_left, .ref a_this_leaves, .int x_this_pressed, .int x_this_crossed, .int x_this_went, .int x_this_harmed])), (a_this_left, .inl (cy 0, 300, .inl g_this_left)), (a_this_plan, .inr (4, [.int x_this_plan_cycle, .int x_this_plan_green, .int x_this_plan_rule, .int x_this_plan_least, .int x_this_plan_away, .int x_this_plan_statements, .int x_this_plan_kinds, .ref a_this_plan_calm, .ref a_this_plan_pace, .ref a_this_plan_trusts, .int x_this_plan_walkers, .ref a_this_plan_kindOf, .ref a_this_plan_comesAt, .ref a_this_plan_comers, .ref a_this_plan_names, .ref a_this_plan_code, .int x_this_plan_size, .ref a_this_plan_spans])), (a_this_leaves, .inl (cy 0, 12, .inl g_this_leaves))] → va_S A s.heap H locs → lv_has ls 5 [(0, .ref a_this), (1, .int J80_l1), (2, .int 1), (3, .int J6_l3), (4, .int J80_l4)] → W p l e { frames := 1, cells := 0, slots := 0, locals := 22 } s m args below meth c H locs 0 0 Q (F0 m 80 ls []) := by
        intro J80_l1 J80_l4 H locs ls hJ80_l3 hJ80_l4 hJ80_c2_10 hP hD hS hl
        obtain ⟨z8084, ez8084⟩ : ∃ y : Int32, y = J6_l3 + 1 := ⟨_, rfl⟩
        refine lv_iinc (v := z8084) (lv' := [(3, .int z8084), (0, .ref a_this), (1, .int J80_l1), (2, .int 1), (4, .int J80_l4)]) hx hb dX7_greensForNobody_80 hl (k := 3) rfl (by rw [ez8084]; rfl) (by decide) rfl (fun ls hl => ?_)
        have h8085 := ib_add hJ80_l3 (ib_c 1 1 1 (by decide)) (by decide)
        rw [← ez8084] at h8085
        have h8086 : ib z8084 1 300 := ib_w 1 300 h8085.1 (by decide)
        refine lv_goto (tgt := 6) hx hb dX7_greensForNobody_83 (by decide) ?_
        exact ih6 z8084 J80_l1 1 H locs ls (ib_w 0 300 h8086 (by decide)) (ib_w 0 1 (ib_c 1 1 1 (by decide)) (by decide)) (by have := h8085.2; have : (1 : Int32).toInt = 1 := (by decide); omega) hP hD hS (lv_sub hl [1, 2, 3, 0] rfl)
      have jn54 : ∀ (J54_l1 : Int32) (J54_l4 : Int32) (H : Heap) (locs : List Loc) (ls : Array Slot), ib J6_l3 0 299 → ib J54_l4 1 1 → va_P (dC, dI) vwCl [(a_this, .inr (7, [.ref a_this_machine, .ref a_this_plan, .int x_this_day, .ref a_this_trusts, .int x_this_rule, .int x_this_green, .int x_this_absent, .int x_this_asksReds, .ref a_this_cars, .ref a_this_gaps, .ref a_this_known, .ref a_this_left, .ref a_this_leaves, .int x_this_pressed, .int x_this_crossed, .int x_this_went, .int x_this_harmed])), (a_this_left, .inl (cy 0, 300, .inl g_this_left)), (a_this_plan, .inr (4, [.int x_this_plan_cycle, .int x_this_plan_green, .int x_this_plan_rule, .int x_this_plan_least, .int x_this_plan_away, .int x_this_plan_statements, .int x_this_plan_kinds, .ref a_this_plan_calm, .ref a_this_plan_pace, .ref a_this_plan_trusts, .int x_this_plan_walkers, .ref a_this_plan_kindOf, .ref a_this_plan_comesAt, .ref a_this_plan_comers, .ref a_this_plan_names, .ref a_this_plan_code, .int x_this_plan_size, .ref a_this_plan_spans])), (a_this_leaves, .inl (cy 0, 12, .inl g_this_leaves))] H → va_D A [(a_this, .inr (7, [.ref a_this_machine, .ref a_this_plan, .int x_this_day, .ref a_this_trusts, .int x_this_rule, .int x_this_green, .int x_this_absent, .int x_this_asksReds, .ref a_this_cars, .ref a_this_gaps, .ref a_this_known, .ref a_this_left, .ref a_this_leaves, .int x_this_pressed, .int x_this_crossed, .int x_this_went, .int x_this_harmed])), (a_this_left, .inl (cy 0, 300, .inl g_this_left)), (a_this_plan, .inr (4, [.int x_this_plan_cycle, .int x_this_plan_green, .int x_this_plan_rule, .int x_this_plan_least, .int x_this_plan_away, .int x_this_plan_statements, .int x_this_plan_kinds, .ref a_this_plan_calm, .ref a_this_plan_pace, .ref a_this_plan_trusts, .int x_this_plan_walkers, .ref a_this_plan_kindOf, .ref a_this_plan_comesAt, .ref a_this_plan_comers, .ref a_this_plan_names, .ref a_this_plan_code, .int x_this_plan_size, .ref a_this_plan_spans])), (a_this_leaves, .inl (cy 0, 12, .inl g_this_leaves))] → va_S A s.heap H locs → lv_has ls 5 [(0, .ref a_this), (1, .int J54_l1), (2, .int 0), (3, .int J6_l3), (4, .int J54_l4)] → W p l e { frames := 1, cells := 0, slots := 0, locals := 22 } s m args below meth c H locs 0 0 Q (F0 m 54 ls []) := by
        intro J54_l1 J54_l4 H locs ls hJ54_l3 hJ54_l4 hP hD hS hl
        refine lv_aload_n hx hb dX7_greensForNobody_54 rfl (lv_at hl 0 rfl) ?_
        refine k_get C0 fg_X7_41 hP 0 rfl rfl dX7_greensForNobody_55 ?_
        refine lv_iload_n hx hb dX7_greensForNobody_58 rfl (lv_at hl 3 rfl) ?_
        refine va_iald hx hb C0.2.2.2.2.2.1 hP 1 0 rfl rfl (ib_in 300 hJ54_l3 (by decide)) dX7_greensForNobody_59 ?_
        refine lv_topi (fun z8087 ez8087 => ?_)
        refine lv_if_le (tgt := 80) hx hb dX7_greensForNobody_60 (by decide) (fun c8088 => ?_) (fun c8088 => ?_)
        · have h8089 := ib_le (ib_any z8087) (ib_c 0 0 0 (by decide)) c8088
          have h8090 : ib z8087 (-2147483648) 0 := ib_w (-2147483648) 0 h8089.1 (by decide)
          obtain ⟨z8091, ez8091⟩ : ∃ y : Int32, y = J6_l3 + 1 := ⟨_, rfl⟩
          refine lv_iinc (v := z8091) (lv' := [(3, .int z8091), (0, .ref a_this), (1, .int J54_l1), (2, .int 0), (4, .int J54_l4)]) hx hb dX7_greensForNobody_80 hl (k := 3) rfl (by rw [ez8091]; rfl) (by decide) rfl (fun ls hl => ?_)
          have h8092 := ib_add hJ54_l3 (ib_c 1 1 1 (by decide)) (by decide)
          rw [← ez8091] at h8092
          have h8093 : ib z8091 1 300 := ib_w 1 300 h8092.1 (by decide)
          refine lv_goto (tgt := 6) hx hb dX7_greensForNobody_83 (by decide) ?_
          exact ih6 z8091 J54_l1 0 H locs ls (ib_w 0 300 h8093 (by decide)) (ib_w 0 1 (ib_c 0 0 0 (by decide)) (by decide)) (by have := h8092.2; have : (1 : Int32).toInt = 1 := (by decide); omega) hP hD hS (lv_sub hl [1, 2, 3, 0] rfl)
        · have h8094 := ib_nle (ib_any z8087) (ib_c 0 0 0 (by decide)) c8088
          have h8095 : ib z8087 1 2147483647 := ib_w 1 2147483647 h8094.1 (by decide)
          refine lv_iload_n hx hb dX7_greensForNobody_63 rfl (lv_at hl 2 rfl) ?_
          refine lv_if_ne (tgt := 80) hx hb dX7_greensForNobody_64 (by decide) (fun h9 => absurd (by decide) h9) (fun _ => ?_)
          refine lv_aload_n hx hb dX7_greensForNobody_67 rfl (lv_at hl 0 rfl) ?_
          refine lv_iload_n hx hb dX7_greensForNobody_68 rfl (lv_at hl 3 rfl) ?_
          refine k_ji hP hD hS hA [0, 2, 3] [1] (wr := [(a_this_left, .inl (cy 0, 300, .inl g_this_left))]) rfl rfl (by decide) (by decide) (by decide) 0 0 (Nat.le_of_ble_eq_true rfl) (Nat.le_of_ble_eq_true rfl) (fun hPc hDc => k_runV (As := [.int J6_l3]) (rest := []) C0 (s_X7_someoneCrosses l dC dI cy sq a_this a_this_machine a_this_plan x_this_plan_cycle x_this_plan_green x_this_plan_rule x_this_plan_least x_this_plan_away x_this_plan_statements x_this_plan_kinds a_this_plan_calm a_this_plan_pace a_this_plan_trusts x_this_plan_walkers a_this_plan_kindOf a_this_plan_comesAt a_this_plan_comers a_this_plan_names a_this_plan_code x_this_plan_size a_this_plan_spans x_this_day a_this_trusts x_this_rule x_this_green x_this_absent x_this_asksReds a_this_cars a_this_gaps a_this_known a_this_left a_this_leaves g_this_leaves x_this_pressed x_this_crossed x_this_went x_this_harmed J6_l3 (ib_w 0 120 hx_this_plan_cycle (by decide)) (ib_w 0 99 hx_this_plan_least (by decide)) (ib_w 0 81 hx_this_plan_statements (by decide)) (ib_w 0 6 hx_this_plan_kinds (by decide)) (ib_w 0 12 hx_this_plan_walkers (by decide)) (ib_w 0 1600 hx_this_plan_size (by decide)) (ib_w 0 1 hx_this_asksReds (by decide))) mV_X7_177 hPc hDc rfl rfl rfl hl rfl rfl (Nat.le_of_ble_eq_true rfl) ⟨(Nat.le_of_ble_eq_true rfl), (Nat.le_of_ble_eq_true rfl)⟩ ⟨(Nat.le_of_ble_eq_true rfl), (Nat.le_of_ble_eq_true rfl)⟩ dX7_greensForNobody_69) (fun r8096 u8097 H locs hw hP hD hS => ?_)
          try dsimp only at hP hD hw
          have hP : va_P (dC, dI) vwCl [(a_this_left, .inl (cy 0, 300, .inl g_this_left)), (a_this, .inr (7, [.ref a_this_machine, .ref a_this_plan, .int x_this_day, .ref a_this_trusts, .int x_this_rule, .int x_this_green, .int x_this_absent, .int x_this_asksReds, .ref a_this_cars, .ref a_this_gaps, .ref a_this_known, .ref a_this_left, .ref a_this_leaves, .int x_this_pressed, .int x_this_crossed, .int x_this_went, .int x_this_harmed])), (a_this_plan, .inr (4, [.int x_this_plan_cycle, .int x_this_plan_green, .int x_this_plan_rule, .int x_this_plan_least, .int x_this_plan_away, .int x_this_plan_statements, .int x_this_plan_kinds, .ref a_this_plan_calm, .ref a_this_plan_pace, .ref a_this_plan_trusts, .int x_this_plan_walkers, .ref a_this_plan_kindOf, .ref a_this_plan_comesAt, .ref a_this_plan_comers, .ref a_this_plan_names, .ref a_this_plan_code, .int x_this_plan_size, .ref a_this_plan_spans])), (a_this_leaves, .inl (cy 0, 12, .inl g_this_leaves))] H := hP
          have hD : va_D A [(a_this_left, .inl (cy 0, 300, .inl g_this_left)), (a_this, .inr (7, [.ref a_this_machine, .ref a_this_plan, .int x_this_day, .ref a_this_trusts, .int x_this_rule, .int x_this_green, .int x_this_absent, .int x_this_asksReds, .ref a_this_cars, .ref a_this_gaps, .ref a_this_known, .ref a_this_left, .ref a_this_leaves, .int x_this_pressed, .int x_this_crossed, .int x_this_went, .int x_this_harmed])), (a_this_plan, .inr (4, [.int x_this_plan_cycle, .int x_this_plan_green, .int x_this_plan_rule, .int x_this_plan_least, .int x_this_plan_away, .int x_this_plan_statements, .int x_this_plan_kinds, .ref a_this_plan_calm, .ref a_this_plan_pace, .ref a_this_plan_trusts, .int x_this_plan_walkers, .ref a_this_plan_kindOf, .ref a_this_plan_comesAt, .ref a_this_plan_comers, .ref a_this_plan_names, .ref a_this_plan_code, .int x_this_plan_size, .ref a_this_plan_spans])), (a_this_leaves, .inl (cy 0, 12, .inl g_this_leaves))] := hD
          obtain ⟨h8098, h8099⟩ := hw
          refine lv_if_eq (tgt := 80) hx hb dX7_greensForNobody_72 (by decide) (fun c8100 => ?_) (fun c8100 => ?_)
          · have h8101 := ib_eq h8098 (ib_c 0 0 0 (by decide)) c8100
            have h8102 : ib r8096 0 0 := ib_w 0 0 h8101.1 (by decide)
            obtain ⟨z8103, ez8103⟩ : ∃ y : Int32, y = J6_l3 + 1 := ⟨_, rfl⟩
            refine lv_iinc (v := z8103) (lv' := [(3, .int z8103), (0, .ref a_this), (1, .int J54_l1), (2, .int 0), (4, .int J54_l4)]) hx hb dX7_greensForNobody_80 hl (k := 3) rfl (by rw [ez8103]; rfl) (by decide) rfl (fun ls hl => ?_)
            have h8104 := ib_add hJ54_l3 (ib_c 1 1 1 (by decide)) (by decide)
            rw [← ez8103] at h8104
            have h8105 : ib z8103 1 300 := ib_w 1 300 h8104.1 (by decide)
            refine lv_goto (tgt := 6) hx hb dX7_greensForNobody_83 (by decide) ?_
            exact ih6 z8103 J54_l1 0 H locs ls (ib_w 0 300 h8105 (by decide)) (ib_w 0 1 (ib_c 0 0 0 (by decide)) (by decide)) (by have := h8104.2; have : (1 : Int32).toInt = 1 := (by decide); omega) (hP.sub [1, 0, 2, 3] rfl) (hD.sub [1, 0, 2, 3] (by decide) rfl) hS (lv_sub hl [1, 2, 3, 0] rfl)
          · have h8106 : ib r8096 1 1 := ib_w 1 1 (ib_ne_lo 0 h8098 (by decide) c8100) (by decide)
            have h8107 : ib x_this_plan_walkers 1 12 := ib_w 1 12 (ib_two hx_this_plan_walkers (h8099 c8100)) (by decide)
            obtain ⟨z8108, ez8108⟩ : ∃ y : Int32, y = J54_l1 + (-1) := ⟨_, rfl⟩
            refine lv_iinc (v := z8108) (lv' := [(1, .int z8108), (0, .ref a_this), (2, .int 0), (3, .int J6_l3), (4, .int J54_l4)]) hx hb dX7_greensForNobody_75 hl (k := 1) rfl (by rw [ez8108]; rfl) (by decide) rfl (fun ls hl => ?_)
            refine lv_iconst (v := 1) hx hb dX7_greensForNobody_78 (by decide) ?_
            refine lv_istore_n (lv' := [(2, .int 1), (1, .int z8108), (0, .ref a_this), (3, .int J6_l3), (4, .int J54_l4)]) hx hb dX7_greensForNobody_79 rfl hl (by decide) rfl (fun ls hl => ?_)
            exact jn80 z8108 J54_l4 H locs ls (ib_w 0 299 hJ54_l3 (by decide)) (ib_w 0 1 hJ54_l4 (by decide)) (ib_w 1 12 h8107 (by decide)) (hP.sub [1, 0, 2, 3] rfl) (hD.sub [1, 0, 2, 3] (by decide) rfl) hS (lv_sub hl [2, 1, 0, 3, 4] rfl)
      have jn42 : ∀ (J42_s0 : Int32) (H : Heap) (locs : List Loc) (ls : Array Slot), ib J6_l2 0 1 → ib J6_l3 0 299 → ib J42_s0 0 1 → va_P (dC, dI) vwCl [(a_this, .inr (7, [.ref a_this_machine, .ref a_this_plan, .int x_this_day, .ref a_this_trusts, .int x_this_rule, .int x_this_green, .int x_this_absent, .int x_this_asksReds, .ref a_this_cars, .ref a_this_gaps, .ref a_this_known, .ref a_this_left, .ref a_this_leaves, .int x_this_pressed, .int x_this_crossed, .int x_this_went, .int x_this_harmed])), (a_this_left, .inl (cy 0, 300, .inl g_this_left)), (a_this_plan, .inr (4, [.int x_this_plan_cycle, .int x_this_plan_green, .int x_this_plan_rule, .int x_this_plan_least, .int x_this_plan_away, .int x_this_plan_statements, .int x_this_plan_kinds, .ref a_this_plan_calm, .ref a_this_plan_pace, .ref a_this_plan_trusts, .int x_this_plan_walkers, .ref a_this_plan_kindOf, .ref a_this_plan_comesAt, .ref a_this_plan_comers, .ref a_this_plan_names, .ref a_this_plan_code, .int x_this_plan_size, .ref a_this_plan_spans])), (a_this_leaves, .inl (cy 0, 12, .inl g_this_leaves))] H → va_D A [(a_this, .inr (7, [.ref a_this_machine, .ref a_this_plan, .int x_this_day, .ref a_this_trusts, .int x_this_rule, .int x_this_green, .int x_this_absent, .int x_this_asksReds, .ref a_this_cars, .ref a_this_gaps, .ref a_this_known, .ref a_this_left, .ref a_this_leaves, .int x_this_pressed, .int x_this_crossed, .int x_this_went, .int x_this_harmed])), (a_this_left, .inl (cy 0, 300, .inl g_this_left)), (a_this_plan, .inr (4, [.int x_this_plan_cycle, .int x_this_plan_green, .int x_this_plan_rule, .int x_this_plan_least, .int x_this_plan_away, .int x_this_plan_statements, .int x_this_plan_kinds, .ref a_this_plan_calm, .ref a_this_plan_pace, .ref a_this_plan_trusts, .int x_this_plan_walkers, .ref a_this_plan_kindOf, .ref a_this_plan_comesAt, .ref a_this_plan_comers, .ref a_this_plan_names, .ref a_this_plan_code, .int x_this_plan_size, .ref a_this_plan_spans])), (a_this_leaves, .inl (cy 0, 12, .inl g_this_leaves))] → va_S A s.heap H locs → lv_has ls 5 [(0, .ref a_this), (1, .int J6_l1), (2, .int J6_l2), (3, .int J6_l3)] → W p l e { frames := 1, cells := 0, slots := 0, locals := 22 } s m args below meth c H locs 0 0 Q (F0 m 42 ls [.int J42_s0]) := by
        intro J42_s0 H locs ls hJ42_l2 hJ42_l3 hJ42_s0 hP hD hS hl
        refine lv_istore (lv' := [(4, .int J42_s0), (0, .ref a_this), (1, .int J6_l1), (2, .int J6_l2), (3, .int J6_l3)]) hx hb dX7_greensForNobody_42 hl (by decide) rfl (fun ls hl => ?_)
        refine lv_iload hx hb dX7_greensForNobody_44 (lv_at hl 0 rfl) ?_
        refine lv_if_eq (tgt := 54) hx hb dX7_greensForNobody_46 (by decide) (fun c8109 => ?_) (fun c8109 => ?_)
        · have h8110 := ib_eq hJ42_s0 (ib_c 0 0 0 (by decide)) c8109
          have h8111 : ib J42_s0 0 0 := ib_w 0 0 h8110.1 (by decide)
          refine lv_aload_n hx hb dX7_greensForNobody_54 rfl (lv_at hl 1 rfl) ?_
          refine k_get C0 fg_X7_41 hP 0 rfl rfl dX7_greensForNobody_55 ?_
          refine lv_iload_n hx hb dX7_greensForNobody_58 rfl (lv_at hl 4 rfl) ?_
          refine va_iald hx hb C0.2.2.2.2.2.1 hP 1 0 rfl rfl (ib_in 300 hJ42_l3 (by decide)) dX7_greensForNobody_59 ?_
          refine lv_topi (fun z8112 ez8112 => ?_)
          refine lv_if_le (tgt := 80) hx hb dX7_greensForNobody_60 (by decide) (fun c8113 => ?_) (fun c8113 => ?_)
          · have h8114 := ib_le (ib_any z8112) (ib_c 0 0 0 (by decide)) c8113
            have h8115 : ib z8112 (-2147483648) 0 := ib_w (-2147483648) 0 h8114.1 (by decide)
            obtain ⟨z8116, ez8116⟩ : ∃ y : Int32, y = J6_l3 + 1 := ⟨_, rfl⟩
            refine lv_iinc (v := z8116) (lv' := [(3, .int z8116), (4, .int J42_s0), (0, .ref a_this), (1, .int J6_l1), (2, .int J6_l2)]) hx hb dX7_greensForNobody_80 hl (k := 4) rfl (by rw [ez8116]; rfl) (by decide) rfl (fun ls hl => ?_)
            have h8117 := ib_add hJ42_l3 (ib_c 1 1 1 (by decide)) (by decide)
            rw [← ez8116] at h8117
            have h8118 : ib z8116 1 300 := ib_w 1 300 h8117.1 (by decide)
            refine lv_goto (tgt := 6) hx hb dX7_greensForNobody_83 (by decide) ?_
            exact ih6 z8116 J6_l1 J6_l2 H locs ls (ib_w 0 300 h8118 (by decide)) (ib_w 0 1 hJ42_l2 (by decide)) (by have := h8117.2; have : (1 : Int32).toInt = 1 := (by decide); omega) hP hD hS (lv_sub hl [2, 3, 4, 0] rfl)
          · have h8119 := ib_nle (ib_any z8112) (ib_c 0 0 0 (by decide)) c8113
            have h8120 : ib z8112 1 2147483647 := ib_w 1 2147483647 h8119.1 (by decide)
            refine lv_iload_n hx hb dX7_greensForNobody_63 rfl (lv_at hl 3 rfl) ?_
            refine lv_if_ne (tgt := 80) hx hb dX7_greensForNobody_64 (by decide) (fun c8121 => ?_) (fun c8121 => ?_)
            · have h8122 : ib J6_l2 1 1 := ib_w 1 1 (ib_ne_lo 0 hJ42_l2 (by decide) c8121) (by decide)
              obtain ⟨z8123, ez8123⟩ : ∃ y : Int32, y = J6_l3 + 1 := ⟨_, rfl⟩
              refine lv_iinc (v := z8123) (lv' := [(3, .int z8123), (4, .int J42_s0), (0, .ref a_this), (1, .int J6_l1), (2, .int J6_l2)]) hx hb dX7_greensForNobody_80 hl (k := 4) rfl (by rw [ez8123]; rfl) (by decide) rfl (fun ls hl => ?_)
              have h8124 := ib_add hJ42_l3 (ib_c 1 1 1 (by decide)) (by decide)
              rw [← ez8123] at h8124
              have h8125 : ib z8123 1 300 := ib_w 1 300 h8124.1 (by decide)
              refine lv_goto (tgt := 6) hx hb dX7_greensForNobody_83 (by decide) ?_
              exact ih6 z8123 J6_l1 J6_l2 H locs ls (ib_w 0 300 h8125 (by decide)) (ib_w 0 1 h8122 (by decide)) (by have := h8124.2; have : (1 : Int32).toInt = 1 := (by decide); omega) hP hD hS (lv_sub hl [2, 3, 4, 0] rfl)
            · have h8126 := ib_eq hJ42_l2 (ib_c 0 0 0 (by decide)) c8121
              have h8127 : ib J6_l2 0 0 := ib_w 0 0 h8126.1 (by decide)
              refine lv_aload_n hx hb dX7_greensForNobody_67 rfl (lv_at hl 1 rfl) ?_
              refine lv_iload_n hx hb dX7_greensForNobody_68 rfl (lv_at hl 4 rfl) ?_
              refine k_ji hP hD hS hA [0, 2, 3] [1] (wr := [(a_this_left, .inl (cy 0, 300, .inl g_this_left))]) rfl rfl (by decide) (by decide) (by decide) 0 0 (Nat.le_of_ble_eq_true rfl) (Nat.le_of_ble_eq_true rfl) (fun hPc hDc => k_runV (As := [.int J6_l3]) (rest := []) C0 (s_X7_someoneCrosses l dC dI cy sq a_this a_this_machine a_this_plan x_this_plan_cycle x_this_plan_green x_this_plan_rule x_this_plan_least x_this_plan_away x_this_plan_statements x_this_plan_kinds a_this_plan_calm a_this_plan_pace a_this_plan_trusts x_this_plan_walkers a_this_plan_kindOf a_this_plan_comesAt a_this_plan_comers a_this_plan_names a_this_plan_code x_this_plan_size a_this_plan_spans x_this_day a_this_trusts x_this_rule x_this_green x_this_absent x_this_asksReds a_this_cars a_this_gaps a_this_known a_this_left a_this_leaves g_this_leaves x_this_pressed x_this_crossed x_this_went x_this_harmed J6_l3 (ib_w 0 120 hx_this_plan_cycle (by decide)) (ib_w 0 99 hx_this_plan_least (by decide)) (ib_w 0 81 hx_this_plan_statements (by decide)) (ib_w 0 6 hx_this_plan_kinds (by decide)) (ib_w 0 12 hx_this_plan_walkers (by decide)) (ib_w 0 1600 hx_this_plan_size (by decide)) (ib_w 0 1 hx_this_asksReds (by decide))) mV_X7_177 hPc hDc rfl rfl rfl hl rfl rfl (Nat.le_of_ble_eq_true rfl) ⟨(Nat.le_of_ble_eq_true rfl), (Nat.le_of_ble_eq_true rfl)⟩ ⟨(Nat.le_of_ble_eq_true rfl), (Nat.le_of_ble_eq_true rfl)⟩ dX7_greensForNobody_69) (fun r8128 u8129 H locs hw hP hD hS => ?_)
              try dsimp only at hP hD hw
              have hP : va_P (dC, dI) vwCl [(a_this_left, .inl (cy 0, 300, .inl g_this_left)), (a_this, .inr (7, [.ref a_this_machine, .ref a_this_plan, .int x_this_day, .ref a_this_trusts, .int x_this_rule, .int x_this_green, .int x_this_absent, .int x_this_asksReds, .ref a_this_cars, .ref a_this_gaps, .ref a_this_known, .ref a_this_left, .ref a_this_leaves, .int x_this_pressed, .int x_this_crossed, .int x_this_went, .int x_this_harmed])), (a_this_plan, .inr (4, [.int x_this_plan_cycle, .int x_this_plan_green, .int x_this_plan_rule, .int x_this_plan_least, .int x_this_plan_away, .int x_this_plan_statements, .int x_this_plan_kinds, .ref a_this_plan_calm, .ref a_this_plan_pace, .ref a_this_plan_trusts, .int x_this_plan_walkers, .ref a_this_plan_kindOf, .ref a_this_plan_comesAt, .ref a_this_plan_comers, .ref a_this_plan_names, .ref a_this_plan_code, .int x_this_plan_size, .ref a_this_plan_spans])), (a_this_leaves, .inl (cy 0, 12, .inl g_this_leaves))] H := hP
              have hD : va_D A [(a_this_left, .inl (cy 0, 300, .inl g_this_left)), (a_this, .inr (7, [.ref a_this_machine, .ref a_this_plan, .int x_this_day, .ref a_this_trusts, .int x_this_rule, .int x_this_green, .int x_this_absent, .int x_this_asksReds, .ref a_this_cars, .ref a_this_gaps, .ref a_this_known, .ref a_this_left, .ref a_this_leaves, .int x_this_pressed, .int x_this_crossed, .int x_this_went, .int x_this_harmed])), (a_this_plan, .inr (4, [.int x_this_plan_cycle, .int x_this_plan_green, .int x_this_plan_rule, .int x_this_plan_least, .int x_this_plan_away, .int x_this_plan_statements, .int x_this_plan_kinds, .ref a_this_plan_calm, .ref a_this_plan_pace, .ref a_this_plan_trusts, .int x_this_plan_walkers, .ref a_this_plan_kindOf, .ref a_this_plan_comesAt, .ref a_this_plan_comers, .ref a_this_plan_names, .ref a_this_plan_code, .int x_this_plan_size, .ref a_this_plan_spans])), (a_this_leaves, .inl (cy 0, 12, .inl g_this_leaves))] := hD
              obtain ⟨h8130, h8131⟩ := hw
              refine lv_if_eq (tgt := 80) hx hb dX7_greensForNobody_72 (by decide) (fun c8132 => ?_) (fun c8132 => ?_)
              · have h8133 := ib_eq h8130 (ib_c 0 0 0 (by decide)) c8132
                have h8134 : ib r8128 0 0 := ib_w 0 0 h8133.1 (by decide)
                obtain ⟨z8135, ez8135⟩ : ∃ y : Int32, y = J6_l3 + 1 := ⟨_, rfl⟩
                refine lv_iinc (v := z8135) (lv' := [(3, .int z8135), (4, .int J42_s0), (0, .ref a_this), (1, .int J6_l1), (2, .int J6_l2)]) hx hb dX7_greensForNobody_80 hl (k := 4) rfl (by rw [ez8135]; rfl) (by decide) rfl (fun ls hl => ?_)
                have h8136 := ib_add hJ42_l3 (ib_c 1 1 1 (by decide)) (by decide)
                rw [← ez8135] at h8136
                have h8137 : ib z8135 1 300 := ib_w 1 300 h8136.1 (by decide)
                refine lv_goto (tgt := 6) hx hb dX7_greensForNobody_83 (by decide) ?_
                exact ih6 z8135 J6_l1 J6_l2 H locs ls (ib_w 0 300 h8137 (by decide)) (ib_w 0 1 h8127 (by decide)) (by have := h8136.2; have : (1 : Int32).toInt = 1 := (by decide); omega) (hP.sub [1, 0, 2, 3] rfl) (hD.sub [1, 0, 2, 3] (by decide) rfl) hS (lv_sub hl [2, 3, 4, 0] rfl)
              · have h8138 : ib r8128 1 1 := ib_w 1 1 (ib_ne_lo 0 h8130 (by decide) c8132) (by decide)
                have h8139 : ib x_this_plan_walkers 1 12 := ib_w 1 12 (ib_two hx_this_plan_walkers (h8131 c8132)) (by decide)
                obtain ⟨z8140, ez8140⟩ : ∃ y : Int32, y = J6_l1 + (-1) := ⟨_, rfl⟩
                refine lv_iinc (v := z8140) (lv' := [(1, .int z8140), (4, .int J42_s0), (0, .ref a_this), (2, .int J6_l2), (3, .int J6_l3)]) hx hb dX7_greensForNobody_75 hl (k := 2) rfl (by rw [ez8140]; rfl) (by decide) rfl (fun ls hl => ?_)
                refine lv_iconst (v := 1) hx hb dX7_greensForNobody_78 (by decide) ?_
                refine lv_istore_n (lv' := [(2, .int 1), (1, .int z8140), (4, .int J42_s0), (0, .ref a_this), (3, .int J6_l3)]) hx hb dX7_greensForNobody_79 rfl hl (by decide) rfl (fun ls hl => ?_)
                exact jn80 z8140 J42_s0 H locs ls (ib_w 0 299 hJ42_l3 (by decide)) (ib_w 0 1 h8111 (by decide)) (ib_w 1 12 h8139 (by decide)) (hP.sub [1, 0, 2, 3] rfl) (hD.sub [1, 0, 2, 3] (by decide) rfl) hS (lv_sub hl [3, 1, 0, 4, 2] rfl)
        · have h8141 : ib J42_s0 1 1 := ib_w 1 1 (ib_ne_lo 0 hJ42_s0 (by decide) c8109) (by decide)
          obtain ⟨z8142, ez8142⟩ : ∃ y : Int32, y = J6_l1 + 1 := ⟨_, rfl⟩
          refine lv_iinc (v := z8142) (lv' := [(1, .int z8142), (4, .int J42_s0), (0, .ref a_this), (2, .int J6_l2), (3, .int J6_l3)]) hx hb dX7_greensForNobody_49 hl (k := 2) rfl (by rw [ez8142]; rfl) (by decide) rfl (fun ls hl => ?_)
          refine lv_iconst (v := 0) hx hb dX7_greensForNobody_52 (by decide) ?_
          refine lv_istore_n (lv' := [(2, .int 0), (1, .int z8142), (4, .int J42_s0), (0, .ref a_this), (3, .int J6_l3)]) hx hb dX7_greensForNobody_53 rfl hl (by decide) rfl (fun ls hl => ?_)
          exact jn54 z8142 J42_s0 H locs ls (ib_w 0 299 hJ42_l3 (by decide)) (ib_w 1 1 h8141 (by decide)) hP hD hS (lv_sub hl [3, 1, 0, 4, 2] rfl)
      refine lv_iload_n hx hb dX7_greensForNobody_6 rfl (lv_at hl 3 rfl) ?_
      refine lv_sipush (v := 300) hx hb dX7_greensForNobody_7 (by decide) ?_
      refine lv_icmp_ge (tgt := 86) hx hb dX7_greensForNobody_10 (by decide) (fun c8143 => ?_) (fun c8143 => ?_)
      · have h8144 := ib_le (ib_c 300 300 300 (by decide)) hJ6_l3 c8143
        have h8145 : ib J6_l3 300 300 := ib_w 300 300 h8144.2 (by decide)
        refine lv_iload_n hx hb dX7_greensForNobody_86 rfl (lv_at hl 1 rfl) ?_
        subst hQ; exact k_iret hx hb hr hlk rfl () hS True.intro hP hD (Nat.le_of_ble_eq_true rfl) (Nat.le_of_ble_eq_true rfl) dX7_greensForNobody_87
      · have h8146 := ib_nle (ib_c 300 300 300 (by decide)) hJ6_l3 c8143
        have h8147 : ib J6_l3 0 299 := ib_w 0 299 h8146.2 (by decide)
        refine lv_aload_n hx hb dX7_greensForNobody_13 rfl (lv_at hl 0 rfl) ?_
        refine k_get C0 fg_X7_41 hP 0 rfl rfl dX7_greensForNobody_14 ?_
        refine lv_iload_n hx hb dX7_greensForNobody_17 rfl (lv_at hl 3 rfl) ?_
        refine va_iald hx hb C0.2.2.2.2.2.1 hP 1 0 rfl rfl (ib_in 300 h8147 (by decide)) dX7_greensForNobody_18 ?_
        refine lv_topi (fun z8148 ez8148 => ?_)
        refine lv_if_le (tgt := 41) hx hb dX7_greensForNobody_19 (by decide) (fun c8149 => ?_) (fun c8149 => ?_)
        · have h8150 := ib_le (ib_any z8148) (ib_c 0 0 0 (by decide)) c8149
          have h8151 : ib z8148 (-2147483648) 0 := ib_w (-2147483648) 0 h8150.1 (by decide)
          refine lv_iconst (v := 0) hx hb dX7_greensForNobody_41 (by decide) ?_
          exact jn42 0 H locs ls (ib_w 0 1 hJ6_l2 (by decide)) (ib_w 0 299 h8147 (by decide)) (ib_w 0 1 (ib_c 0 0 0 (by decide)) (by decide)) hP hD hS (lv_sub hl [0, 1, 2, 3] rfl)
        · have h8152 := ib_nle (ib_any z8148) (ib_c 0 0 0 (by decide)) c8149
          have h8153 : ib z8148 1 2147483647 := ib_w 1 2147483647 h8152.1 (by decide)
          refine lv_iload_n hx hb dX7_greensForNobody_22 rfl (lv_at hl 3 rfl) ?_
          refine lv_if_eq (tgt := 37) hx hb dX7_greensForNobody_23 (by decide) (fun c8154 => ?_) (fun c8154 => ?_)
          · have h8155 := ib_eq h8147 (ib_c 0 0 0 (by decide)) c8154
            have h8156 : ib J6_l3 0 0 := ib_w 0 0 h8155.1 (by decide)
            refine lv_iconst (v := 1) hx hb dX7_greensForNobody_37 (by decide) ?_
            refine lv_goto (tgt := 42) hx hb dX7_greensForNobody_38 (by decide) ?_
            exact jn42 1 H locs ls (ib_w 0 1 hJ6_l2 (by decide)) (ib_w 0 299 h8156 (by decide)) (ib_w 0 1 (ib_c 1 1 1 (by decide)) (by decide)) hP hD hS (lv_sub hl [0, 1, 2, 3] rfl)
          · have h8157 : ib J6_l3 1 299 := ib_w 1 299 (ib_ne_lo 0 h8147 (by decide) c8154) (by decide)
            refine lv_aload_n hx hb dX7_greensForNobody_26 rfl (lv_at hl 0 rfl) ?_
            refine k_get C0 fg_X7_41 hP 0 rfl rfl dX7_greensForNobody_27 ?_
            refine lv_iload_n hx hb dX7_greensForNobody_30 rfl (lv_at hl 3 rfl) ?_
            refine lv_iconst (v := 1) hx hb dX7_greensForNobody_31 (by decide) ?_
            refine lv_isub hx hb dX7_greensForNobody_32 ?_
            refine lv_topi (fun z8158 ez8158 => ?_)
            have h8159 := ib_sub h8157 (ib_c 1 1 1 (by decide)) (by decide)
            rw [← ez8158] at h8159
            have h8160 : ib z8158 0 298 := ib_w 0 298 h8159.1 (by decide)
            refine va_iald hx hb C0.2.2.2.2.2.1 hP 1 0 rfl rfl (ib_in 300 h8160 (by decide)) dX7_greensForNobody_33 ?_
            refine lv_topi (fun z8161 ez8161 => ?_)
            refine lv_if_ne (tgt := 41) hx hb dX7_greensForNobody_34 (by decide) (fun c8162 => ?_) (fun c8162 => ?_)
            · skip
              refine lv_iconst (v := 0) hx hb dX7_greensForNobody_41 (by decide) ?_
              exact jn42 0 H locs ls (ib_w 0 1 hJ6_l2 (by decide)) (ib_w 0 299 h8157 (by decide)) (ib_w 0 1 (ib_c 0 0 0 (by decide)) (by decide)) hP hD hS (lv_sub hl [0, 1, 2, 3] rfl)
            · have h8163 := ib_eq (ib_any z8161) (ib_c 0 0 0 (by decide)) c8162
              have h8164 : ib z8161 0 0 := ib_w 0 0 h8163.1 (by decide)
              refine lv_iconst (v := 1) hx hb dX7_greensForNobody_37 (by decide) ?_
              refine lv_goto (tgt := 42) hx hb dX7_greensForNobody_38 (by decide) ?_
              exact jn42 1 H locs ls (ib_w 0 1 hJ6_l2 (by decide)) (ib_w 0 299 h8157 (by decide)) (ib_w 0 1 (ib_c 1 1 1 (by decide)) (by decide)) hP hD hS (lv_sub hl [0, 1, 2, 3] rfl)
  refine lv_iconst (v := 0) hx hb dX7_greensForNobody_0 (by decide) ?_
  refine lv_istore_n (lv' := [(1, .int 0), (0, .ref a_this)]) hx hb dX7_greensForNobody_1 rfl hl (by decide) rfl (fun ls hl => ?_)
  refine lv_iconst (v := 0) hx hb dX7_greensForNobody_2 (by decide) ?_
  refine lv_istore_n (lv' := [(2, .int 0), (1, .int 0), (0, .ref a_this)]) hx hb dX7_greensForNobody_3 rfl hl (by decide) rfl (fun ls hl => ?_)
  refine lv_iconst (v := 0) hx hb dX7_greensForNobody_4 (by decide) ?_
  refine lv_istore_n (lv' := [(3, .int 0), (2, .int 0), (1, .int 0), (0, .ref a_this)]) hx hb dX7_greensForNobody_5 rfl hl (by decide) rfl (fun ls hl => ?_)
  exact jn6 302 0 0 0 H locs ls (ib_w 0 300 (ib_c 0 0 0 (by decide)) (by decide)) (ib_w 0 1 (ib_c 0 0 0 (by decide)) (by decide)) (by have := (ib_c 0 0 0 (by decide)); unfold ib at this; omega) hP hD hS (lv_sub hl [3, 2, 1, 0] rfl)
set_option maxHeartbeats 4000000 in
set_option maxRecDepth 100000 in
theorem s_X7_told (l : Launch) (dC : Nat → ClassId) (dI : Nat → Nat → Nat) (cy : Nat → ClassId) (sq : Nat → Nat) (a_this : Nat) (a_this_machine : Nat) (a_this_plan : Nat) (x_this_plan_cycle : Int32) (x_this_plan_green : Int32) (x_this_plan_rule : Int32) (x_this_plan_least : Int32) (x_this_plan_away : Int32) (x_this_plan_statements : Int32) (x_this_plan_kinds : Int32) (a_this_plan_calm : Nat) (a_this_plan_pace : Nat) (a_this_plan_trusts : Nat) (x_this_plan_walkers : Int32) (a_this_plan_kindOf : Nat) (a_this_plan_comesAt : Nat) (g_this_plan_comesAt : Nat → Int32) (a_this_plan_comers : Nat) (a_this_plan_names : Nat) (a_this_plan_code : Nat) (x_this_plan_size : Int32) (a_this_plan_spans : Nat) (x_this_day : Int32) (a_this_trusts : Nat) (x_this_rule : Int32) (x_this_green : Int32) (x_this_absent : Int32) (x_this_asksReds : Int32) (a_this_cars : Nat) (a_this_gaps : Nat) (a_this_known : Nat) (a_this_left : Nat) (g_this_left : Nat → Int32) (a_this_leaves : Nat) (g_this_leaves : Nat → Int32) (x_this_pressed : Int32) (x_this_crossed : Int32) (x_this_went : Int32) (x_this_harmed : Int32) (p0 : Int32) (hx_this_plan_cycle : ib x_this_plan_cycle 0 120) (hx_this_plan_least : ib x_this_plan_least 0 99) (hx_this_plan_statements : ib x_this_plan_statements 0 81) (hx_this_plan_kinds : ib x_this_plan_kinds 0 6) (hx_this_plan_walkers : ib x_this_plan_walkers 0 12) (hg_this_plan_comesAt : ia g_this_plan_comesAt 12 0 199) (hx_this_plan_size : ib x_this_plan_size 0 1600) (hx_this_asksReds : ib x_this_asksReds 0 1) : k_Met l yX7_told cX7_told 2 (some .int) { frames := 2, cells := 0, slots := 0, locals := 46 } dC dI cy sq [.ref a_this, .int p0] [(a_this, .inr (7, [.ref a_this_machine, .ref a_this_plan, .int x_this_day, .ref a_this_trusts, .int x_this_rule, .int x_this_green, .int x_this_absent, .int x_this_asksReds, .ref a_this_cars, .ref a_this_gaps, .ref a_this_known, .ref a_this_left, .ref a_this_leaves, .int x_this_pressed, .int x_this_crossed, .int x_this_went, .int x_this_harmed])), (a_this_plan, .inr (4, [.int x_this_plan_cycle, .int x_this_plan_green, .int x_this_plan_rule, .int x_this_plan_least, .int x_this_plan_away, .int x_this_plan_statements, .int x_this_plan_kinds, .ref a_this_plan_calm, .ref a_this_plan_pace, .ref a_this_plan_trusts, .int x_this_plan_walkers, .ref a_this_plan_kindOf, .ref a_this_plan_comesAt, .ref a_this_plan_comers, .ref a_this_plan_names, .ref a_this_plan_code, .int x_this_plan_size, .ref a_this_plan_spans])), (a_this_leaves, .inl (cy 0, 12, .inl g_this_leaves)), (a_this_plan_comesAt, .inl (cy 0, 12, .inl g_this_plan_comesAt)), (a_this_left, .inl (cy 0, 300, .inl g_this_left))] (k_Qi dC dI (fun (r : Int32) (_ : Unit) => True) (fun _ : Unit => [(a_this, .inr (7, [.ref a_this_machine, .ref a_this_plan, .int x_this_day, .ref a_this_trusts, .int x_this_rule, .int x_this_green, .int x_this_absent, .int x_this_asksReds, .ref a_this_cars, .ref a_this_gaps, .ref a_this_known, .ref a_this_left, .ref a_this_leaves, .int x_this_pressed, .int x_this_crossed, .int x_this_went, .int x_this_harmed])), (a_this_plan, .inr (4, [.int x_this_plan_cycle, .int x_this_plan_green, .int x_this_plan_rule, .int x_this_plan_least, .int x_this_plan_away, .int x_this_plan_statements, .int x_this_plan_kinds, .ref a_this_plan_calm, .ref a_this_plan_pace, .ref a_this_plan_trusts, .int x_this_plan_walkers, .ref a_this_plan_kindOf, .ref a_this_plan_comesAt, .ref a_this_plan_comers, .ref a_this_plan_names, .ref a_this_plan_code, .int x_this_plan_size, .ref a_this_plan_spans])), (a_this_leaves, .inl (cy 0, 12, .inl g_this_leaves)), (a_this_plan_comesAt, .inl (cy 0, 12, .inl g_this_plan_comesAt)), (a_this_left, .inl (cy 0, 300, .inl g_this_left))])) := by
  refine k_ofW2 (by decide +kernel) (Nat.le_of_ble_eq_true rfl) ?_
  intro p e s m below meth c A ls H locs args Q hQ C0 hr hlk hin hP hD hA hS hl
  have C0 : k_cx p s m args c cX7_told 2 RX7 dC dI cy sq := C0
  have hx := C0.1
  have hb := C0.2.1
  have hl : lv_has ls 2 [(0, .ref a_this), (1, .int p0)] := hl
  refine lv_iload_n hx hb dX7_told_0 rfl (lv_at hl 1 rfl) ?_
  rcases Decidable.em (p0 = 0) with s8395_0 | s8395_0
  · subst s8395_0
    refine lv_tableIn (off := 39) (tgt := 40) hx hb dX7_told_1 (by decide) (by decide) (by decide) (by decide) ?_
    refine lv_aload_n hx hb dX7_told_40 rfl (lv_at hl 0 rfl) ?_
    refine k_ji hP hD hS hA [0, 1, 2, 3] [4] (wr := [(a_this_left, .inl (cy 0, 300, .inl g_this_left))]) rfl rfl (by decide) (by decide) (by decide) 0 0 (Nat.le_of_ble_eq_true rfl) (Nat.le_of_ble_eq_true rfl) (fun hPc hDc => k_runV (As := []) (rest := []) C0 (s_X7_waitedByAll l dC dI cy sq a_this a_this_machine a_this_plan x_this_plan_cycle x_this_plan_green x_this_plan_rule x_this_plan_least x_this_plan_away x_this_plan_statements x_this_plan_kinds a_this_plan_calm a_this_plan_pace a_this_plan_trusts x_this_plan_walkers a_this_plan_kindOf a_this_plan_comesAt g_this_plan_comesAt a_this_plan_comers a_this_plan_names a_this_plan_code x_this_plan_size a_this_plan_spans x_this_day a_this_trusts x_this_rule x_this_green x_this_absent x_this_asksReds a_this_cars a_this_gaps a_this_known a_this_left a_this_leaves g_this_leaves x_this_pressed x_this_crossed x_this_went x_this_harmed (ib_w 0 120 hx_this_plan_cycle (by decide)) (ib_w 0 99 hx_this_plan_least (by decide)) (ib_w 0 81 hx_this_plan_statements (by decide)) (ib_w 0 6 hx_this_plan_kinds (by decide)) (ib_w 0 12 hx_this_plan_walkers (by decide)) hg_this_plan_comesAt (ib_w 0 1600 hx_this_plan_size (by decide)) (ib_w 0 1 hx_this_asksReds (by decide))) mV_X7_166 hPc hDc rfl rfl rfl hl rfl rfl (Nat.le_of_ble_eq_true rfl) ⟨(Nat.le_of_ble_eq_true rfl), (Nat.le_of_ble_eq_true rfl)⟩ ⟨(Nat.le_of_ble_eq_true rfl), (Nat.le_of_ble_eq_true rfl)⟩ dX7_told_41) (fun r8396 u8397 H locs hw hP hD hS => ?_)
    try dsimp only at hP hD hw
    have hP : va_P (dC, dI) vwCl [(a_this_left, .inl (cy 0, 300, .inl g_this_left)), (a_this, .inr (7, [.ref a_this_machine, .ref a_this_plan, .int x_this_day, .ref a_this_trusts, .int x_this_rule, .int x_this_green, .int x_this_absent, .int x_this_asksReds, .ref a_this_cars, .ref a_this_gaps, .ref a_this_known, .ref a_this_left, .ref a_this_leaves, .int x_this_pressed, .int x_this_crossed, .int x_this_went, .int x_this_harmed])), (a_this_plan, .inr (4, [.int x_this_plan_cycle, .int x_this_plan_green, .int x_this_plan_rule, .int x_this_plan_least, .int x_this_plan_away, .int x_this_plan_statements, .int x_this_plan_kinds, .ref a_this_plan_calm, .ref a_this_plan_pace, .ref a_this_plan_trusts, .int x_this_plan_walkers, .ref a_this_plan_kindOf, .ref a_this_plan_comesAt, .ref a_this_plan_comers, .ref a_this_plan_names, .ref a_this_plan_code, .int x_this_plan_size, .ref a_this_plan_spans])), (a_this_leaves, .inl (cy 0, 12, .inl g_this_leaves)), (a_this_plan_comesAt, .inl (cy 0, 12, .inl g_this_plan_comesAt))] H := hP
    have hD : va_D A [(a_this_left, .inl (cy 0, 300, .inl g_this_left)), (a_this, .inr (7, [.ref a_this_machine, .ref a_this_plan, .int x_this_day, .ref a_this_trusts, .int x_this_rule, .int x_this_green, .int x_this_absent, .int x_this_asksReds, .ref a_this_cars, .ref a_this_gaps, .ref a_this_known, .ref a_this_left, .ref a_this_leaves, .int x_this_pressed, .int x_this_crossed, .int x_this_went, .int x_this_harmed])), (a_this_plan, .inr (4, [.int x_this_plan_cycle, .int x_this_plan_green, .int x_this_plan_rule, .int x_this_plan_least, .int x_this_plan_away, .int x_this_plan_statements, .int x_this_plan_kinds, .ref a_this_plan_calm, .ref a_this_plan_pace, .ref a_this_plan_trusts, .int x_this_plan_walkers, .ref a_this_plan_kindOf, .ref a_this_plan_comesAt, .ref a_this_plan_comers, .ref a_this_plan_names, .ref a_this_plan_code, .int x_this_plan_size, .ref a_this_plan_spans])), (a_this_leaves, .inl (cy 0, 12, .inl g_this_leaves)), (a_this_plan_comesAt, .inl (cy 0, 12, .inl g_this_plan_comesAt))] := hD
    subst hQ; exact k_iret hx hb hr hlk rfl () hS True.intro (hP.sub [1, 2, 3, 4, 0] rfl) (hD.sub [1, 2, 3, 4, 0] (by decide) rfl) (Nat.le_of_ble_eq_true rfl) (Nat.le_of_ble_eq_true rfl) dX7_told_44
  rcases Decidable.em (p0 = 1) with s8395_1 | s8395_1
  · subst s8395_1
    refine lv_tableIn (off := 44) (tgt := 45) hx hb dX7_told_1 (by decide) (by decide) (by decide) (by decide) ?_
    refine lv_aload_n hx hb dX7_told_45 rfl (lv_at hl 0 rfl) ?_
    refine k_get C0 fg_X7_53 hP 0 rfl rfl dX7_told_46 ?_
    refine k_ji hP hD hS hA [] [0, 1, 2, 3, 4] (wr := [(a_this, .inr (7, [.ref a_this_machine, .ref a_this_plan, .int x_this_day, .ref a_this_trusts, .int x_this_rule, .int x_this_green, .int x_this_absent, .int x_this_asksReds, .ref a_this_cars, .ref a_this_gaps, .ref a_this_known, .ref a_this_left, .ref a_this_leaves, .int x_this_pressed, .int x_this_crossed, .int x_this_went, .int x_this_harmed])), (a_this_plan, .inr (4, [.int x_this_plan_cycle, .int x_this_plan_green, .int x_this_plan_rule, .int x_this_plan_least, .int x_this_plan_away, .int x_this_plan_statements, .int x_this_plan_kinds, .ref a_this_plan_calm, .ref a_this_plan_pace, .ref a_this_plan_trusts, .int x_this_plan_walkers, .ref a_this_plan_kindOf, .ref a_this_plan_comesAt, .ref a_this_plan_comers, .ref a_this_plan_names, .ref a_this_plan_code, .int x_this_plan_size, .ref a_this_plan_spans])), (a_this_leaves, .inl (cy 0, 12, .inl g_this_leaves)), (a_this_plan_comesAt, .inl (cy 0, 12, .inl g_this_plan_comesAt)), (a_this_left, .inl (cy 0, 300, .inl g_this_left))]) rfl rfl (by decide) (by decide) (by decide) 0 0 (Nat.le_of_ble_eq_true rfl) (Nat.le_of_ble_eq_true rfl) (fun hPc hDc => k_runS (As := [.int x_this_went]) (rest := []) C0 (s_J6_bitCount_0f7a4 l dC dI cy sq x_this_went ) mS_X7_169 hPc hDc hl rfl rfl (Nat.le_of_ble_eq_true rfl) ⟨(Nat.le_of_ble_eq_true rfl), (Nat.le_of_ble_eq_true rfl)⟩ ⟨(Nat.le_of_ble_eq_true rfl), (Nat.le_of_ble_eq_true rfl)⟩ dX7_told_49) (fun r8398 u8399 H locs hw hP hD hS => ?_)
    try dsimp only at hP hD hw
    have hP : va_P (dC, dI) vwCl [(a_this, .inr (7, [.ref a_this_machine, .ref a_this_plan, .int x_this_day, .ref a_this_trusts, .int x_this_rule, .int x_this_green, .int x_this_absent, .int x_this_asksReds, .ref a_this_cars, .ref a_this_gaps, .ref a_this_known, .ref a_this_left, .ref a_this_leaves, .int x_this_pressed, .int x_this_crossed, .int x_this_went, .int x_this_harmed])), (a_this_plan, .inr (4, [.int x_this_plan_cycle, .int x_this_plan_green, .int x_this_plan_rule, .int x_this_plan_least, .int x_this_plan_away, .int x_this_plan_statements, .int x_this_plan_kinds, .ref a_this_plan_calm, .ref a_this_plan_pace, .ref a_this_plan_trusts, .int x_this_plan_walkers, .ref a_this_plan_kindOf, .ref a_this_plan_comesAt, .ref a_this_plan_comers, .ref a_this_plan_names, .ref a_this_plan_code, .int x_this_plan_size, .ref a_this_plan_spans])), (a_this_leaves, .inl (cy 0, 12, .inl g_this_leaves)), (a_this_plan_comesAt, .inl (cy 0, 12, .inl g_this_plan_comesAt)), (a_this_left, .inl (cy 0, 300, .inl g_this_left))] H := hP
    have hD : va_D A [(a_this, .inr (7, [.ref a_this_machine, .ref a_this_plan, .int x_this_day, .ref a_this_trusts, .int x_this_rule, .int x_this_green, .int x_this_absent, .int x_this_asksReds, .ref a_this_cars, .ref a_this_gaps, .ref a_this_known, .ref a_this_left, .ref a_this_leaves, .int x_this_pressed, .int x_this_crossed, .int x_this_went, .int x_this_harmed])), (a_this_plan, .inr (4, [.int x_this_plan_cycle, .int x_this_plan_green, .int x_this_plan_rule, .int x_this_plan_least, .int x_this_plan_away, .int x_this_plan_statements, .int x_this_plan_kinds, .ref a_this_plan_calm, .ref a_this_plan_pace, .ref a_this_plan_trusts, .int x_this_plan_walkers, .ref a_this_plan_kindOf, .ref a_this_plan_comesAt, .ref a_this_plan_comers, .ref a_this_plan_names, .ref a_this_plan_code, .int x_this_plan_size, .ref a_this_plan_spans])), (a_this_leaves, .inl (cy 0, 12, .inl g_this_leaves)), (a_this_plan_comesAt, .inl (cy 0, 12, .inl g_this_plan_comesAt)), (a_this_left, .inl (cy 0, 300, .inl g_this_left))] := hD
    have h8400 := hw
    subst hQ; exact k_iret hx hb hr hlk rfl () hS True.intro hP hD (Nat.le_of_ble_eq_true rfl) (Nat.le_of_ble_eq_true rfl) dX7_told_52
  rcases Decidable.em (p0 = 2) with s8395_2 | s8395_2
  · subst s8395_2
    refine lv_tableIn (off := 52) (tgt := 53) hx hb dX7_told_1 (by decide) (by decide) (by decide) (by decide) ?_
    refine lv_aload_n hx hb dX7_told_53 rfl (lv_at hl 0 rfl) ?_
    refine k_get C0 fg_X7_56 hP 0 rfl rfl dX7_told_54 ?_
    refine k_ji hP hD hS hA [] [0, 1, 2, 3, 4] (wr := [(a_this, .inr (7, [.ref a_this_machine, .ref a_this_plan, .int x_this_day, .ref a_this_trusts, .int x_this_rule, .int x_this_green, .int x_this_absent, .int x_this_asksReds, .ref a_this_cars, .ref a_this_gaps, .ref a_this_known, .ref a_this_left, .ref a_this_leaves, .int x_this_pressed, .int x_this_crossed, .int x_this_went, .int x_this_harmed])), (a_this_plan, .inr (4, [.int x_this_plan_cycle, .int x_this_plan_green, .int x_this_plan_rule, .int x_this_plan_least, .int x_this_plan_away, .int x_this_plan_statements, .int x_this_plan_kinds, .ref a_this_plan_calm, .ref a_this_plan_pace, .ref a_this_plan_trusts, .int x_this_plan_walkers, .ref a_this_plan_kindOf, .ref a_this_plan_comesAt, .ref a_this_plan_comers, .ref a_this_plan_names, .ref a_this_plan_code, .int x_this_plan_size, .ref a_this_plan_spans])), (a_this_leaves, .inl (cy 0, 12, .inl g_this_leaves)), (a_this_plan_comesAt, .inl (cy 0, 12, .inl g_this_plan_comesAt)), (a_this_left, .inl (cy 0, 300, .inl g_this_left))]) rfl rfl (by decide) (by decide) (by decide) 0 0 (Nat.le_of_ble_eq_true rfl) (Nat.le_of_ble_eq_true rfl) (fun hPc hDc => k_runS (As := [.int x_this_harmed]) (rest := []) C0 (s_J6_bitCount_0f7a4 l dC dI cy sq x_this_harmed ) mS_X7_169 hPc hDc hl rfl rfl (Nat.le_of_ble_eq_true rfl) ⟨(Nat.le_of_ble_eq_true rfl), (Nat.le_of_ble_eq_true rfl)⟩ ⟨(Nat.le_of_ble_eq_true rfl), (Nat.le_of_ble_eq_true rfl)⟩ dX7_told_57) (fun r8401 u8402 H locs hw hP hD hS => ?_)
    try dsimp only at hP hD hw
    have hP : va_P (dC, dI) vwCl [(a_this, .inr (7, [.ref a_this_machine, .ref a_this_plan, .int x_this_day, .ref a_this_trusts, .int x_this_rule, .int x_this_green, .int x_this_absent, .int x_this_asksReds, .ref a_this_cars, .ref a_this_gaps, .ref a_this_known, .ref a_this_left, .ref a_this_leaves, .int x_this_pressed, .int x_this_crossed, .int x_this_went, .int x_this_harmed])), (a_this_plan, .inr (4, [.int x_this_plan_cycle, .int x_this_plan_green, .int x_this_plan_rule, .int x_this_plan_least, .int x_this_plan_away, .int x_this_plan_statements, .int x_this_plan_kinds, .ref a_this_plan_calm, .ref a_this_plan_pace, .ref a_this_plan_trusts, .int x_this_plan_walkers, .ref a_this_plan_kindOf, .ref a_this_plan_comesAt, .ref a_this_plan_comers, .ref a_this_plan_names, .ref a_this_plan_code, .int x_this_plan_size, .ref a_this_plan_spans])), (a_this_leaves, .inl (cy 0, 12, .inl g_this_leaves)), (a_this_plan_comesAt, .inl (cy 0, 12, .inl g_this_plan_comesAt)), (a_this_left, .inl (cy 0, 300, .inl g_this_left))] H := hP
    have hD : va_D A [(a_this, .inr (7, [.ref a_this_machine, .ref a_this_plan, .int x_this_day, .ref a_this_trusts, .int x_this_rule, .int x_this_green, .int x_this_absent, .int x_this_asksReds, .ref a_this_cars, .ref a_this_gaps, .ref a_this_known, .ref a_this_left, .ref a_this_leaves, .int x_this_pressed, .int x_this_crossed, .int x_this_went, .int x_this_harmed])), (a_this_plan, .inr (4, [.int x_this_plan_cycle, .int x_this_plan_green, .int x_this_plan_rule, .int x_this_plan_least, .int x_this_plan_away, .int x_this_plan_statements, .int x_this_plan_kinds, .ref a_this_plan_calm, .ref a_this_plan_pace, .ref a_this_plan_trusts, .int x_this_plan_walkers, .ref a_this_plan_kindOf, .ref a_this_plan_comesAt, .ref a_this_plan_comers, .ref a_this_plan_names, .ref a_this_plan_code, .int x_this_plan_size, .ref a_this_plan_spans])), (a_this_leaves, .inl (cy 0, 12, .inl g_this_leaves)), (a_this_plan_comesAt, .inl (cy 0, 12, .inl g_this_plan_comesAt)), (a_this_left, .inl (cy 0, 300, .inl g_this_left))] := hD
    have h8403 := hw
    subst hQ; exact k_iret hx hb hr hlk rfl () hS True.intro hP hD (Nat.le_of_ble_eq_true rfl) (Nat.le_of_ble_eq_true rfl) dX7_told_60
  rcases Decidable.em (p0 = 3) with s8395_3 | s8395_3
  · subst s8395_3
    refine lv_tableIn (off := 60) (tgt := 61) hx hb dX7_told_1 (by decide) (by decide) (by decide) (by decide) ?_
    refine lv_aload_n hx hb dX7_told_61 rfl (lv_at hl 0 rfl) ?_
    refine k_get C0 fg_X7_63 hP 0 rfl rfl dX7_told_62 ?_
    refine k_ji hP hD hS hA [1] [0, 2, 3, 4] (wr := [(a_this, .inr (7, [.ref a_this_machine, .ref a_this_plan, .int x_this_day, .ref a_this_trusts, .int x_this_rule, .int x_this_green, .int x_this_absent, .int x_this_asksReds, .ref a_this_cars, .ref a_this_gaps, .ref a_this_known, .ref a_this_left, .ref a_this_leaves, .int x_this_pressed, .int x_this_crossed, .int x_this_went, .int x_this_harmed])), (a_this_leaves, .inl (cy 0, 12, .inl g_this_leaves)), (a_this_plan_comesAt, .inl (cy 0, 12, .inl g_this_plan_comesAt)), (a_this_left, .inl (cy 0, 300, .inl g_this_left))]) rfl rfl (by decide) (by decide) (by decide) 0 0 (Nat.le_of_ble_eq_true rfl) (Nat.le_of_ble_eq_true rfl) (fun hPc hDc => k_runV (As := []) (rest := []) C0 (s_X4_everyone l dC dI cy sq a_this_plan x_this_plan_cycle x_this_plan_green x_this_plan_rule x_this_plan_least x_this_plan_away x_this_plan_statements x_this_plan_kinds a_this_plan_calm a_this_plan_pace a_this_plan_trusts x_this_plan_walkers a_this_plan_kindOf a_this_plan_comesAt a_this_plan_comers a_this_plan_names a_this_plan_code x_this_plan_size a_this_plan_spans (ib_w 0 120 hx_this_plan_cycle (by decide)) (ib_w 0 99 hx_this_plan_least (by decide)) (ib_w 0 81 hx_this_plan_statements (by decide)) (ib_w 0 6 hx_this_plan_kinds (by decide)) (ib_w 0 12 hx_this_plan_walkers (by decide)) (ib_w 0 1600 hx_this_plan_size (by decide))) mV_X7_143 hPc hDc rfl rfl rfl hl rfl rfl (Nat.le_of_ble_eq_true rfl) ⟨(Nat.le_of_ble_eq_true rfl), (Nat.le_of_ble_eq_true rfl)⟩ ⟨(Nat.le_of_ble_eq_true rfl), (Nat.le_of_ble_eq_true rfl)⟩ dX7_told_65) (fun r8404 u8405 H locs hw hP hD hS => ?_)
    try dsimp only at hP hD hw
    have hP : va_P (dC, dI) vwCl [(a_this, .inr (7, [.ref a_this_machine, .ref a_this_plan, .int x_this_day, .ref a_this_trusts, .int x_this_rule, .int x_this_green, .int x_this_absent, .int x_this_asksReds, .ref a_this_cars, .ref a_this_gaps, .ref a_this_known, .ref a_this_left, .ref a_this_leaves, .int x_this_pressed, .int x_this_crossed, .int x_this_went, .int x_this_harmed])), (a_this_leaves, .inl (cy 0, 12, .inl g_this_leaves)), (a_this_plan_comesAt, .inl (cy 0, 12, .inl g_this_plan_comesAt)), (a_this_left, .inl (cy 0, 300, .inl g_this_left)), (a_this_plan, .inr (4, [.int x_this_plan_cycle, .int x_this_plan_green, .int x_this_plan_rule, .int x_this_plan_least, .int x_this_plan_away, .int x_this_plan_statements, .int x_this_plan_kinds, .ref a_this_plan_calm, .ref a_this_plan_pace, .ref a_this_plan_trusts, .int x_this_plan_walkers, .ref a_this_plan_kindOf, .ref a_this_plan_comesAt, .ref a_this_plan_comers, .ref a_this_plan_names, .ref a_this_plan_code, .int x_this_plan_size, .ref a_this_plan_spans]))] H := hP
    have hD : va_D A [(a_this, .inr (7, [.ref a_this_machine, .ref a_this_plan, .int x_this_day, .ref a_this_trusts, .int x_this_rule, .int x_this_green, .int x_this_absent, .int x_this_asksReds, .ref a_this_cars, .ref a_this_gaps, .ref a_this_known, .ref a_this_left, .ref a_this_leaves, .int x_this_pressed, .int x_this_crossed, .int x_this_went, .int x_this_harmed])), (a_this_leaves, .inl (cy 0, 12, .inl g_this_leaves)), (a_this_plan_comesAt, .inl (cy 0, 12, .inl g_this_plan_comesAt)), (a_this_left, .inl (cy 0, 300, .inl g_this_left)), (a_this_plan, .inr (4, [.int x_this_plan_cycle, .int x_this_plan_green, .int x_this_plan_rule, .int x_this_plan_least, .int x_this_plan_away, .int x_this_plan_statements, .int x_this_plan_kinds, .ref a_this_plan_calm, .ref a_this_plan_pace, .ref a_this_plan_trusts, .int x_this_plan_walkers, .ref a_this_plan_kindOf, .ref a_this_plan_comesAt, .ref a_this_plan_comers, .ref a_this_plan_names, .ref a_this_plan_code, .int x_this_plan_size, .ref a_this_plan_spans]))] := hD
    refine lv_aload_n hx hb dX7_told_68 rfl (lv_at hl 0 rfl) ?_
    refine k_get C0 fg_X7_25 hP 0 rfl rfl dX7_told_69 ?_
    refine lv_iconst (v := (-1)) hx hb dX7_told_72 (by decide) ?_
    refine lv_ixor hx hb dX7_told_73 ?_
    refine lv_topi (fun z8406 ez8406 => ?_)
    refine lv_iand hx hb dX7_told_74 ?_
    refine lv_topi (fun z8407 ez8407 => ?_)
    refine lv_aload_n hx hb dX7_told_75 rfl (lv_at hl 0 rfl) ?_
    refine k_get C0 fg_X7_50 hP 0 rfl rfl dX7_told_76 ?_
    refine lv_iconst (v := (-1)) hx hb dX7_told_79 (by decide) ?_
    refine lv_ixor hx hb dX7_told_80 ?_
    refine lv_topi (fun z8408 ez8408 => ?_)
    refine lv_iand hx hb dX7_told_81 ?_
    refine lv_topi (fun z8409 ez8409 => ?_)
    refine lv_aload_n hx hb dX7_told_82 rfl (lv_at hl 0 rfl) ?_
    refine k_get C0 fg_X7_53 hP 0 rfl rfl dX7_told_83 ?_
    refine lv_iconst (v := (-1)) hx hb dX7_told_86 (by decide) ?_
    refine lv_ixor hx hb dX7_told_87 ?_
    refine lv_topi (fun z8410 ez8410 => ?_)
    refine lv_iand hx hb dX7_told_88 ?_
    refine lv_topi (fun z8411 ez8411 => ?_)
    refine k_ji hP hD hS hA [] [0, 1, 2, 3, 4] (wr := [(a_this, .inr (7, [.ref a_this_machine, .ref a_this_plan, .int x_this_day, .ref a_this_trusts, .int x_this_rule, .int x_this_green, .int x_this_absent, .int x_this_asksReds, .ref a_this_cars, .ref a_this_gaps, .ref a_this_known, .ref a_this_left, .ref a_this_leaves, .int x_this_pressed, .int x_this_crossed, .int x_this_went, .int x_this_harmed])), (a_this_leaves, .inl (cy 0, 12, .inl g_this_leaves)), (a_this_plan_comesAt, .inl (cy 0, 12, .inl g_this_plan_comesAt)), (a_this_left, .inl (cy 0, 300, .inl g_this_left)), (a_this_plan, .inr (4, [.int x_this_plan_cycle, .int x_this_plan_green, .int x_this_plan_rule, .int x_this_plan_least, .int x_this_plan_away, .int x_this_plan_statements, .int x_this_plan_kinds, .ref a_this_plan_calm, .ref a_this_plan_pace, .ref a_this_plan_trusts, .int x_this_plan_walkers, .ref a_this_plan_kindOf, .ref a_this_plan_comesAt, .ref a_this_plan_comers, .ref a_this_plan_names, .ref a_this_plan_code, .int x_this_plan_size, .ref a_this_plan_spans]))]) rfl rfl (by decide) (by decide) (by decide) 0 0 (Nat.le_of_ble_eq_true rfl) (Nat.le_of_ble_eq_true rfl) (fun hPc hDc => k_runS (As := [.int z8411]) (rest := []) C0 (s_J6_bitCount_0f7a4 l dC dI cy sq z8411 ) mS_X7_169 hPc hDc hl rfl rfl (Nat.le_of_ble_eq_true rfl) ⟨(Nat.le_of_ble_eq_true rfl), (Nat.le_of_ble_eq_true rfl)⟩ ⟨(Nat.le_of_ble_eq_true rfl), (Nat.le_of_ble_eq_true rfl)⟩ dX7_told_89) (fun r8412 u8413 H locs hw hP hD hS => ?_)
    try dsimp only at hP hD hw
    have hP : va_P (dC, dI) vwCl [(a_this, .inr (7, [.ref a_this_machine, .ref a_this_plan, .int x_this_day, .ref a_this_trusts, .int x_this_rule, .int x_this_green, .int x_this_absent, .int x_this_asksReds, .ref a_this_cars, .ref a_this_gaps, .ref a_this_known, .ref a_this_left, .ref a_this_leaves, .int x_this_pressed, .int x_this_crossed, .int x_this_went, .int x_this_harmed])), (a_this_leaves, .inl (cy 0, 12, .inl g_this_leaves)), (a_this_plan_comesAt, .inl (cy 0, 12, .inl g_this_plan_comesAt)), (a_this_left, .inl (cy 0, 300, .inl g_this_left)), (a_this_plan, .inr (4, [.int x_this_plan_cycle, .int x_this_plan_green, .int x_this_plan_rule, .int x_this_plan_least, .int x_this_plan_away, .int x_this_plan_statements, .int x_this_plan_kinds, .ref a_this_plan_calm, .ref a_this_plan_pace, .ref a_this_plan_trusts, .int x_this_plan_walkers, .ref a_this_plan_kindOf, .ref a_this_plan_comesAt, .ref a_this_plan_comers, .ref a_this_plan_names, .ref a_this_plan_code, .int x_this_plan_size, .ref a_this_plan_spans]))] H := hP
    have hD : va_D A [(a_this, .inr (7, [.ref a_this_machine, .ref a_this_plan, .int x_this_day, .ref a_this_trusts, .int x_this_rule, .int x_this_green, .int x_this_absent, .int x_this_asksReds, .ref a_this_cars, .ref a_this_gaps, .ref a_this_known, .ref a_this_left, .ref a_this_leaves, .int x_this_pressed, .int x_this_crossed, .int x_this_went, .int x_this_harmed])), (a_this_leaves, .inl (cy 0, 12, .inl g_this_leaves)), (a_this_plan_comesAt, .inl (cy 0, 12, .inl g_this_plan_comesAt)), (a_this_left, .inl (cy 0, 300, .inl g_this_left)), (a_this_plan, .inr (4, [.int x_this_plan_cycle, .int x_this_plan_green, .int x_this_plan_rule, .int x_this_plan_least, .int x_this_plan_away, .int x_this_plan_statements, .int x_this_plan_kinds, .ref a_this_plan_calm, .ref a_this_plan_pace, .ref a_this_plan_trusts, .int x_this_plan_walkers, .ref a_this_plan_kindOf, .ref a_this_plan_comesAt, .ref a_this_plan_comers, .ref a_this_plan_names, .ref a_this_plan_code, .int x_this_plan_size, .ref a_this_plan_spans]))] := hD
    have h8414 := hw
    subst hQ; exact k_iret hx hb hr hlk rfl () hS True.intro (hP.sub [0, 4, 1, 2, 3] rfl) (hD.sub [0, 4, 1, 2, 3] (by decide) rfl) (Nat.le_of_ble_eq_true rfl) (Nat.le_of_ble_eq_true rfl) dX7_told_92
  rcases Decidable.em (p0 = 4) with s8395_4 | s8395_4
  · subst s8395_4
    refine lv_tableIn (off := 92) (tgt := 93) hx hb dX7_told_1 (by decide) (by decide) (by decide) (by decide) ?_
    refine lv_aload_n hx hb dX7_told_93 rfl (lv_at hl 0 rfl) ?_
    refine k_ji hP hD hS hA [0, 4, 1, 2] [3] (wr := [(a_this_plan_comesAt, .inl (cy 0, 12, .inl g_this_plan_comesAt))]) rfl rfl (by decide) (by decide) (by decide) 0 0 (Nat.le_of_ble_eq_true rfl) (Nat.le_of_ble_eq_true rfl) (fun hPc hDc => k_runV (As := []) (rest := []) C0 (s_X7_greensForNobody l dC dI cy sq a_this a_this_machine a_this_plan x_this_plan_cycle x_this_plan_green x_this_plan_rule x_this_plan_least x_this_plan_away x_this_plan_statements x_this_plan_kinds a_this_plan_calm a_this_plan_pace a_this_plan_trusts x_this_plan_walkers a_this_plan_kindOf a_this_plan_comesAt a_this_plan_comers a_this_plan_names a_this_plan_code x_this_plan_size a_this_plan_spans x_this_day a_this_trusts x_this_rule x_this_green x_this_absent x_this_asksReds a_this_cars a_this_gaps a_this_known a_this_left g_this_left a_this_leaves g_this_leaves x_this_pressed x_this_crossed x_this_went x_this_harmed (ib_w 0 120 hx_this_plan_cycle (by decide)) (ib_w 0 99 hx_this_plan_least (by decide)) (ib_w 0 81 hx_this_plan_statements (by decide)) (ib_w 0 6 hx_this_plan_kinds (by decide)) (ib_w 0 12 hx_this_plan_walkers (by decide)) (ib_w 0 1600 hx_this_plan_size (by decide)) (ib_w 0 1 hx_this_asksReds (by decide))) mV_X7_174 hPc hDc rfl rfl rfl hl rfl rfl (Nat.le_of_ble_eq_true rfl) ⟨(Nat.le_of_ble_eq_true rfl), (Nat.le_of_ble_eq_true rfl)⟩ ⟨(Nat.le_of_ble_eq_true rfl), (Nat.le_of_ble_eq_true rfl)⟩ dX7_told_94) (fun r8415 u8416 H locs hw hP hD hS => ?_)
    try dsimp only at hP hD hw
    have hP : va_P (dC, dI) vwCl [(a_this_plan_comesAt, .inl (cy 0, 12, .inl g_this_plan_comesAt)), (a_this, .inr (7, [.ref a_this_machine, .ref a_this_plan, .int x_this_day, .ref a_this_trusts, .int x_this_rule, .int x_this_green, .int x_this_absent, .int x_this_asksReds, .ref a_this_cars, .ref a_this_gaps, .ref a_this_known, .ref a_this_left, .ref a_this_leaves, .int x_this_pressed, .int x_this_crossed, .int x_this_went, .int x_this_harmed])), (a_this_left, .inl (cy 0, 300, .inl g_this_left)), (a_this_plan, .inr (4, [.int x_this_plan_cycle, .int x_this_plan_green, .int x_this_plan_rule, .int x_this_plan_least, .int x_this_plan_away, .int x_this_plan_statements, .int x_this_plan_kinds, .ref a_this_plan_calm, .ref a_this_plan_pace, .ref a_this_plan_trusts, .int x_this_plan_walkers, .ref a_this_plan_kindOf, .ref a_this_plan_comesAt, .ref a_this_plan_comers, .ref a_this_plan_names, .ref a_this_plan_code, .int x_this_plan_size, .ref a_this_plan_spans])), (a_this_leaves, .inl (cy 0, 12, .inl g_this_leaves))] H := hP
    have hD : va_D A [(a_this_plan_comesAt, .inl (cy 0, 12, .inl g_this_plan_comesAt)), (a_this, .inr (7, [.ref a_this_machine, .ref a_this_plan, .int x_this_day, .ref a_this_trusts, .int x_this_rule, .int x_this_green, .int x_this_absent, .int x_this_asksReds, .ref a_this_cars, .ref a_this_gaps, .ref a_this_known, .ref a_this_left, .ref a_this_leaves, .int x_this_pressed, .int x_this_crossed, .int x_this_went, .int x_this_harmed])), (a_this_left, .inl (cy 0, 300, .inl g_this_left)), (a_this_plan, .inr (4, [.int x_this_plan_cycle, .int x_this_plan_green, .int x_this_plan_rule, .int x_this_plan_least, .int x_this_plan_away, .int x_this_plan_statements, .int x_this_plan_kinds, .ref a_this_plan_calm, .ref a_this_plan_pace, .ref a_this_plan_trusts, .int x_this_plan_walkers, .ref a_this_plan_kindOf, .ref a_this_plan_comesAt, .ref a_this_plan_comers, .ref a_this_plan_names, .ref a_this_plan_code, .int x_this_plan_size, .ref a_this_plan_spans])), (a_this_leaves, .inl (cy 0, 12, .inl g_this_leaves))] := hD
    subst hQ; exact k_iret hx hb hr hlk rfl () hS True.intro (hP.sub [1, 3, 4, 0, 2] rfl) (hD.sub [1, 3, 4, 0, 2] (by decide) rfl) (Nat.le_of_ble_eq_true rfl) (Nat.le_of_ble_eq_true rfl) dX7_told_97
  rcases Decidable.em (p0 = 5) with s8395_5 | s8395_5
  · subst s8395_5
    refine lv_tableIn (off := 97) (tgt := 98) hx hb dX7_told_1 (by decide) (by decide) (by decide) (by decide) ?_
    refine lv_aload_n hx hb dX7_told_98 rfl (lv_at hl 0 rfl) ?_
    refine k_get C0 fg_X7_47 hP 0 rfl rfl dX7_told_99 ?_
    refine k_ji hP hD hS hA [] [0, 1, 2, 3, 4] (wr := [(a_this, .inr (7, [.ref a_this_machine, .ref a_this_plan, .int x_this_day, .ref a_this_trusts, .int x_this_rule, .int x_this_green, .int x_this_absent, .int x_this_asksReds, .ref a_this_cars, .ref a_this_gaps, .ref a_this_known, .ref a_this_left, .ref a_this_leaves, .int x_this_pressed, .int x_this_crossed, .int x_this_went, .int x_this_harmed])), (a_this_plan, .inr (4, [.int x_this_plan_cycle, .int x_this_plan_green, .int x_this_plan_rule, .int x_this_plan_least, .int x_this_plan_away, .int x_this_plan_statements, .int x_this_plan_kinds, .ref a_this_plan_calm, .ref a_this_plan_pace, .ref a_this_plan_trusts, .int x_this_plan_walkers, .ref a_this_plan_kindOf, .ref a_this_plan_comesAt, .ref a_this_plan_comers, .ref a_this_plan_names, .ref a_this_plan_code, .int x_this_plan_size, .ref a_this_plan_spans])), (a_this_leaves, .inl (cy 0, 12, .inl g_this_leaves)), (a_this_plan_comesAt, .inl (cy 0, 12, .inl g_this_plan_comesAt)), (a_this_left, .inl (cy 0, 300, .inl g_this_left))]) rfl rfl (by decide) (by decide) (by decide) 0 0 (Nat.le_of_ble_eq_true rfl) (Nat.le_of_ble_eq_true rfl) (fun hPc hDc => k_runS (As := [.int x_this_pressed]) (rest := []) C0 (s_J6_bitCount_0f7a4 l dC dI cy sq x_this_pressed ) mS_X7_169 hPc hDc hl rfl rfl (Nat.le_of_ble_eq_true rfl) ⟨(Nat.le_of_ble_eq_true rfl), (Nat.le_of_ble_eq_true rfl)⟩ ⟨(Nat.le_of_ble_eq_true rfl), (Nat.le_of_ble_eq_true rfl)⟩ dX7_told_102) (fun r8417 u8418 H locs hw hP hD hS => ?_)
    try dsimp only at hP hD hw
    have hP : va_P (dC, dI) vwCl [(a_this, .inr (7, [.ref a_this_machine, .ref a_this_plan, .int x_this_day, .ref a_this_trusts, .int x_this_rule, .int x_this_green, .int x_this_absent, .int x_this_asksReds, .ref a_this_cars, .ref a_this_gaps, .ref a_this_known, .ref a_this_left, .ref a_this_leaves, .int x_this_pressed, .int x_this_crossed, .int x_this_went, .int x_this_harmed])), (a_this_plan, .inr (4, [.int x_this_plan_cycle, .int x_this_plan_green, .int x_this_plan_rule, .int x_this_plan_least, .int x_this_plan_away, .int x_this_plan_statements, .int x_this_plan_kinds, .ref a_this_plan_calm, .ref a_this_plan_pace, .ref a_this_plan_trusts, .int x_this_plan_walkers, .ref a_this_plan_kindOf, .ref a_this_plan_comesAt, .ref a_this_plan_comers, .ref a_this_plan_names, .ref a_this_plan_code, .int x_this_plan_size, .ref a_this_plan_spans])), (a_this_leaves, .inl (cy 0, 12, .inl g_this_leaves)), (a_this_plan_comesAt, .inl (cy 0, 12, .inl g_this_plan_comesAt)), (a_this_left, .inl (cy 0, 300, .inl g_this_left))] H := hP
    have hD : va_D A [(a_this, .inr (7, [.ref a_this_machine, .ref a_this_plan, .int x_this_day, .ref a_this_trusts, .int x_this_rule, .int x_this_green, .int x_this_absent, .int x_this_asksReds, .ref a_this_cars, .ref a_this_gaps, .ref a_this_known, .ref a_this_left, .ref a_this_leaves, .int x_this_pressed, .int x_this_crossed, .int x_this_went, .int x_this_harmed])), (a_this_plan, .inr (4, [.int x_this_plan_cycle, .int x_this_plan_green, .int x_this_plan_rule, .int x_this_plan_least, .int x_this_plan_away, .int x_this_plan_statements, .int x_this_plan_kinds, .ref a_this_plan_calm, .ref a_this_plan_pace, .ref a_this_plan_trusts, .int x_this_plan_walkers, .ref a_this_plan_kindOf, .ref a_this_plan_comesAt, .ref a_this_plan_comers, .ref a_this_plan_names, .ref a_this_plan_code, .int x_this_plan_size, .ref a_this_plan_spans])), (a_this_leaves, .inl (cy 0, 12, .inl g_this_leaves)), (a_this_plan_comesAt, .inl (cy 0, 12, .inl g_this_plan_comesAt)), (a_this_left, .inl (cy 0, 300, .inl g_this_left))] := hD
    have h8419 := hw
    subst hQ; exact k_iret hx hb hr hlk rfl () hS True.intro hP hD (Nat.le_of_ble_eq_true rfl) (Nat.le_of_ble_eq_true rfl) dX7_told_105
  refine lv_tableOut (tgt := 106) hx hb dX7_told_1 (by simp only [← Int32.toInt_inj, kl0, kl1, kl2, kl3, kl4, kl5, kl6, kl7, kl60, klm1] at s8395_0 s8395_1 s8395_2 s8395_3 s8395_4 s8395_5; omega) (by decide) ?_
  refine lv_iconst (v := (-1)) hx hb dX7_told_106 (by decide) ?_
  subst hQ; exact k_iret hx hb hr hlk rfl () hS True.intro hP hD (Nat.le_of_ble_eq_true rfl) (Nat.le_of_ble_eq_true rfl) dX7_told_107
set_option maxHeartbeats 4000000 in
set_option maxRecDepth 100000 in
theorem s_X1_forget (l : Launch) (dC : Nat → ClassId) (dI : Nat → Nat → Nat) (cy : Nat → ClassId) (sq : Nat → Nat) (a_this : Nat) (a_this_street : Nat) (a_this_table : Nat) (x_this_tableKnown : Int32) (hx_this_tableKnown : ib x_this_tableKnown 0 1) : k_Met l yX1_forget cX1_forget 1 none { frames := 0, cells := 0, slots := 0, locals := 0 } dC dI cy sq [.ref a_this] [(a_this, .inr (1, [.ref a_this_street, .ref a_this_table, .int x_this_tableKnown]))] (k_Qv dC dI (fun (n0 : Int32) => ib n0 0 1) (fun n0 : Int32 => [(a_this, .inr (1, [.ref a_this_street, .ref a_this_table, .int n0]))])) := by
  refine k_ofW2 (by decide +kernel) (Nat.le_of_ble_eq_true rfl) ?_
  intro p e s m below meth c A ls H locs args Q hQ C0 hr hlk hin hP hD hA hS hl
  have C0 : k_cx p s m args c cX1_forget 1 RX1 dC dI cy sq := C0
  have hx := C0.1
  have hb := C0.2.1
  have hl : lv_has ls 1 [(0, .ref a_this)] := hl
  refine lv_aload_n hx hb dX1_forget_0 rfl (lv_at hl 0 rfl) ?_
  refine lv_iconst (v := 0) hx hb dX1_forget_1 (by decide) ?_
  refine k_put C0 fp_X1_15 hP hD hS 0 rfl (k_nb 0 (by decide)) (k_fb 0 (by decide)) (Nat.le_of_ble_eq_true rfl) dX1_forget_2 (fun H locs hP hD hS => ?_)
  have hP : va_P (dC, dI) vwCl [(a_this, .inr (1, [.ref a_this_street, .ref a_this_table, .int 0]))] H := hP
  have hD : va_D A [(a_this, .inr (1, [.ref a_this_street, .ref a_this_table, .int 0]))] := hD
  subst hQ; exact k_vret hx hb hr hlk 0 hS (ib_w 0 1 (ib_c 0 0 0 (by decide)) (by decide)) hP hD (Nat.le_of_ble_eq_true rfl) (Nat.le_of_ble_eq_true rfl) dX1_forget_5
set_option maxHeartbeats 4000000 in
set_option maxRecDepth 100000 in
theorem s_X7_describe (l : Launch) (dC : Nat → ClassId) (dI : Nat → Nat → Nat) (cy : Nat → ClassId) (sq : Nat → Nat) (a_this : Nat) (a_this_machine : Nat) (a_this_machine_facts : Nat) (g_this_machine_facts : Nat → Int32) (a_this_machine_stack : Nat) (a_this_plan : Nat) (x_this_plan_cycle : Int32) (x_this_plan_green : Int32) (x_this_plan_rule : Int32) (x_this_plan_least : Int32) (x_this_plan_away : Int32) (x_this_plan_statements : Int32) (x_this_plan_kinds : Int32) (a_this_plan_calm : Nat) (g_this_plan_calm : Nat → Int32) (a_this_plan_pace : Nat) (g_this_plan_pace : Nat → Int32) (a_this_plan_trusts : Nat) (x_this_plan_walkers : Int32) (a_this_plan_kindOf : Nat) (g_this_plan_kindOf : Nat → Int32) (a_this_plan_comesAt : Nat) (a_this_plan_comers : Nat) (a_this_plan_names : Nat) (a_this_plan_code : Nat) (x_this_plan_size : Int32) (a_this_plan_spans : Nat) (x_this_day : Int32) (a_this_trusts : Nat) (x_this_rule : Int32) (x_this_green : Int32) (x_this_absent : Int32) (x_this_asksReds : Int32) (a_this_cars : Nat) (a_this_gaps : Nat) (a_this_known : Nat) (a_this_left : Nat) (a_this_leaves : Nat) (x_this_pressed : Int32) (x_this_crossed : Int32) (x_this_went : Int32) (x_this_harmed : Int32) (p0 : Int32) (p1 : Int32) (p2 : Int32) (p3 : Int32) (hx_this_plan_cycle : ib x_this_plan_cycle 0 120) (hx_this_plan_least : ib x_this_plan_least 0 99) (hx_this_plan_statements : ib x_this_plan_statements 0 81) (hx_this_plan_kinds : ib x_this_plan_kinds 0 6) (hx_this_plan_walkers : ib x_this_plan_walkers 0 12) (hg_this_plan_kindOf : ia g_this_plan_kindOf 12 0 5) (hx_this_plan_size : ib x_this_plan_size 0 1600) (hx_this_asksReds : ib x_this_asksReds 0 1) (hp0 : ib p0 0 11) : k_Met l yX7_describe cX7_describe 7 none { frames := 0, cells := 0, slots := 0, locals := 0 } dC dI cy sq [.ref a_this, .int p0, .int p1, .int p2, .int p3] [(a_this, .inr (7, [.ref a_this_machine, .ref a_this_plan, .int x_this_day, .ref a_this_trusts, .int x_this_rule, .int x_this_green, .int x_this_absent, .int x_this_asksReds, .ref a_this_cars, .ref a_this_gaps, .ref a_this_known, .ref a_this_left, .ref a_this_leaves, .int x_this_pressed, .int x_this_crossed, .int x_this_went, .int x_this_harmed])), (a_this_plan, .inr (4, [.int x_this_plan_cycle, .int x_this_plan_green, .int x_this_plan_rule, .int x_this_plan_least, .int x_this_plan_away, .int x_this_plan_statements, .int x_this_plan_kinds, .ref a_this_plan_calm, .ref a_this_plan_pace, .ref a_this_plan_trusts, .int x_this_plan_walkers, .ref a_this_plan_kindOf, .ref a_this_plan_comesAt, .ref a_this_plan_comers, .ref a_this_plan_names, .ref a_this_plan_code, .int x_this_plan_size, .ref a_this_plan_spans])), (a_this_plan_kindOf, .inl (cy 0, 12, .inl g_this_plan_kindOf)), (a_this_machine, .inr (3, [.ref a_this_machine_facts, .ref a_this_machine_stack])), (a_this_machine_facts, .inl (cy 0, 13, .inl g_this_machine_facts)), (a_this_plan_calm, .inl (cy 0, 6, .inl g_this_plan_calm)), (a_this_plan_pace, .inl (cy 0, 6, .inl g_this_plan_pace))] (k_Qv dC dI (fun (n0 : (Nat → Int32)) => True) (fun n0 : (Nat → Int32) => [(a_this, .inr (7, [.ref a_this_machine, .ref a_this_plan, .int x_this_day, .ref a_this_trusts, .int x_this_rule, .int x_this_green, .int x_this_absent, .int x_this_asksReds, .ref a_this_cars, .ref a_this_gaps, .ref a_this_known, .ref a_this_left, .ref a_this_leaves, .int x_this_pressed, .int x_this_crossed, .int x_this_went, .int x_this_harmed])), (a_this_plan, .inr (4, [.int x_this_plan_cycle, .int x_this_plan_green, .int x_this_plan_rule, .int x_this_plan_least, .int x_this_plan_away, .int x_this_plan_statements, .int x_this_plan_kinds, .ref a_this_plan_calm, .ref a_this_plan_pace, .ref a_this_plan_trusts, .int x_this_plan_walkers, .ref a_this_plan_kindOf, .ref a_this_plan_comesAt, .ref a_this_plan_comers, .ref a_this_plan_names, .ref a_this_plan_code, .int x_this_plan_size, .ref a_this_plan_spans])), (a_this_plan_kindOf, .inl (cy 0, 12, .inl g_this_plan_kindOf)), (a_this_machine, .inr (3, [.ref a_this_machine_facts, .ref a_this_machine_stack])), (a_this_machine_facts, .inl (cy 0, 13, .inl n0)), (a_this_plan_calm, .inl (cy 0, 6, .inl g_this_plan_calm)), (a_this_plan_pace, .inl (cy 0, 6, .inl g_this_plan_pace))])) := by
  refine k_ofW2 (by decide +kernel) (Nat.le_of_ble_eq_true rfl) ?_
  intro p e s m below meth c A ls H locs args Q hQ C0 hr hlk hin hP hD hA hS hl
  have C0 : k_cx p s m args c cX7_describe 7 RX7 dC dI cy sq := C0
  have hx := C0.1
  have hb := C0.2.1
  have hl : lv_has ls 7 [(0, .ref a_this), (1, .int p0), (2, .int p1), (3, .int p2), (4, .int p3)] := hl
  refine lv_aload_n hx hb dX7_describe_0 rfl (lv_at hl 0 rfl) ?_
  refine k_get C0 fg_X7_63 hP 0 rfl rfl dX7_describe_1 ?_
  refine k_get C0 fg_X7_140 hP 1 rfl rfl dX7_describe_4 ?_
  refine lv_iload_n hx hb dX7_describe_7 rfl (lv_at hl 1 rfl) ?_
  refine va_iald hx hb C0.2.2.2.2.2.1 hP 2 0 rfl rfl (ib_in 12 hp0 (by decide)) dX7_describe_8 ?_
  refine lv_topi (fun z9013 ez9013 => ?_)
  have h9014 : ib z9013 0 5 := by rw [ez9013]; exact ia_at hg_this_plan_kindOf (ib_in 12 hp0 (by decide))
  refine lv_istore (lv' := [(5, .int z9013), (0, .ref a_this), (1, .int p0), (2, .int p1), (3, .int p2), (4, .int p3)]) hx hb dX7_describe_9 hl (by decide) rfl (fun ls hl => ?_)
  refine lv_aload_n hx hb dX7_describe_11 rfl (lv_at hl 1 rfl) ?_
  refine k_get C0 fg_X7_59 hP 0 rfl rfl dX7_describe_12 ?_
  refine k_get C0 fg_X7_102 hP 3 rfl rfl dX7_describe_15 ?_
  refine lv_astore (lv' := [(6, .ref a_this_machine_facts), (5, .int z9013), (0, .ref a_this), (1, .int p0), (2, .int p1), (3, .int p2), (4, .int p3)]) hx hb dX7_describe_18 hl (by decide) rfl (fun ls hl => ?_)
  refine lv_aload hx hb dX7_describe_20 (lv_at hl 0 rfl) ?_
  refine lv_iconst (v := 0) hx hb dX7_describe_22 (by decide) ?_
  refine lv_iload_n hx hb dX7_describe_23 rfl (lv_at hl 4 rfl) ?_
  refine va_iast hx hb C0.2.2.2.2.2.1 hP hD hS 4 0 rfl rfl (k_in 0 13 (by decide)) dX7_describe_24 (fun H locs hP hD hS => ?_)
  have hP : va_P (dC, dI) vwCl [(a_this, .inr (7, [.ref a_this_machine, .ref a_this_plan, .int x_this_day, .ref a_this_trusts, .int x_this_rule, .int x_this_green, .int x_this_absent, .int x_this_asksReds, .ref a_this_cars, .ref a_this_gaps, .ref a_this_known, .ref a_this_left, .ref a_this_leaves, .int x_this_pressed, .int x_this_crossed, .int x_this_went, .int x_this_harmed])), (a_this_plan, .inr (4, [.int x_this_plan_cycle, .int x_this_plan_green, .int x_this_plan_rule, .int x_this_plan_least, .int x_this_plan_away, .int x_this_plan_statements, .int x_this_plan_kinds, .ref a_this_plan_calm, .ref a_this_plan_pace, .ref a_this_plan_trusts, .int x_this_plan_walkers, .ref a_this_plan_kindOf, .ref a_this_plan_comesAt, .ref a_this_plan_comers, .ref a_this_plan_names, .ref a_this_plan_code, .int x_this_plan_size, .ref a_this_plan_spans])), (a_this_plan_kindOf, .inl (cy 0, 12, .inl g_this_plan_kindOf)), (a_this_machine, .inr (3, [.ref a_this_machine_facts, .ref a_this_machine_stack])), (a_this_machine_facts, .inl (cy 0, 13, .inl (upd g_this_machine_facts (Int32.toNatClampNeg 0) p1))), (a_this_plan_calm, .inl (cy 0, 6, .inl g_this_plan_calm)), (a_this_plan_pace, .inl (cy 0, 6, .inl g_this_plan_pace))] H := hP
  have hD : va_D A [(a_this, .inr (7, [.ref a_this_machine, .ref a_this_plan, .int x_this_day, .ref a_this_trusts, .int x_this_rule, .int x_this_green, .int x_this_absent, .int x_this_asksReds, .ref a_this_cars, .ref a_this_gaps, .ref a_this_known, .ref a_this_left, .ref a_this_leaves, .int x_this_pressed, .int x_this_crossed, .int x_this_went, .int x_this_harmed])), (a_this_plan, .inr (4, [.int x_this_plan_cycle, .int x_this_plan_green, .int x_this_plan_rule, .int x_this_plan_least, .int x_this_plan_away, .int x_this_plan_statements, .int x_this_plan_kinds, .ref a_this_plan_calm, .ref a_this_plan_pace, .ref a_this_plan_trusts, .int x_this_plan_walkers, .ref a_this_plan_kindOf, .ref a_this_plan_comesAt, .ref a_this_plan_comers, .ref a_this_plan_names, .ref a_this_plan_code, .int x_this_plan_size, .ref a_this_plan_spans])), (a_this_plan_kindOf, .inl (cy 0, 12, .inl g_this_plan_kindOf)), (a_this_machine, .inr (3, [.ref a_this_machine_facts, .ref a_this_machine_stack])), (a_this_machine_facts, .inl (cy 0, 13, .inl (upd g_this_machine_facts (Int32.toNatClampNeg 0) p1))), (a_this_plan_calm, .inl (cy 0, 6, .inl g_this_plan_calm)), (a_this_plan_pace, .inl (cy 0, 6, .inl g_this_plan_pace))] := hD
  generalize upd g_this_machine_facts (Int32.toNatClampNeg 0) p1 = f9015 at hP hD
  refine lv_aload hx hb dX7_describe_25 (lv_at hl 0 rfl) ?_
  refine lv_iconst (v := 1) hx hb dX7_describe_27 (by decide) ?_
  refine lv_aload_n hx hb dX7_describe_28 rfl (lv_at hl 2 rfl) ?_
  refine k_get C0 fg_X7_9 hP 0 rfl rfl dX7_describe_29 ?_
  refine va_iast hx hb C0.2.2.2.2.2.1 hP hD hS 4 0 rfl rfl (k_in 1 13 (by decide)) dX7_describe_32 (fun H locs hP hD hS => ?_)
  have hP : va_P (dC, dI) vwCl [(a_this, .inr (7, [.ref a_this_machine, .ref a_this_plan, .int x_this_day, .ref a_this_trusts, .int x_this_rule, .int x_this_green, .int x_this_absent, .int x_this_asksReds, .ref a_this_cars, .ref a_this_gaps, .ref a_this_known, .ref a_this_left, .ref a_this_leaves, .int x_this_pressed, .int x_this_crossed, .int x_this_went, .int x_this_harmed])), (a_this_plan, .inr (4, [.int x_this_plan_cycle, .int x_this_plan_green, .int x_this_plan_rule, .int x_this_plan_least, .int x_this_plan_away, .int x_this_plan_statements, .int x_this_plan_kinds, .ref a_this_plan_calm, .ref a_this_plan_pace, .ref a_this_plan_trusts, .int x_this_plan_walkers, .ref a_this_plan_kindOf, .ref a_this_plan_comesAt, .ref a_this_plan_comers, .ref a_this_plan_names, .ref a_this_plan_code, .int x_this_plan_size, .ref a_this_plan_spans])), (a_this_plan_kindOf, .inl (cy 0, 12, .inl g_this_plan_kindOf)), (a_this_machine, .inr (3, [.ref a_this_machine_facts, .ref a_this_machine_stack])), (a_this_machine_facts, .inl (cy 0, 13, .inl (upd f9015 (Int32.toNatClampNeg 1) x_this_day))), (a_this_plan_calm, .inl (cy 0, 6, .inl g_this_plan_calm)), (a_this_plan_pace, .inl (cy 0, 6, .inl g_this_plan_pace))] H := hP
  have hD : va_D A [(a_this, .inr (7, [.ref a_this_machine, .ref a_this_plan, .int x_this_day, .ref a_this_trusts, .int x_this_rule, .int x_this_green, .int x_this_absent, .int x_this_asksReds, .ref a_this_cars, .ref a_this_gaps, .ref a_this_known, .ref a_this_left, .ref a_this_leaves, .int x_this_pressed, .int x_this_crossed, .int x_this_went, .int x_this_harmed])), (a_this_plan, .inr (4, [.int x_this_plan_cycle, .int x_this_plan_green, .int x_this_plan_rule, .int x_this_plan_least, .int x_this_plan_away, .int x_this_plan_statements, .int x_this_plan_kinds, .ref a_this_plan_calm, .ref a_this_plan_pace, .ref a_this_plan_trusts, .int x_this_plan_walkers, .ref a_this_plan_kindOf, .ref a_this_plan_comesAt, .ref a_this_plan_comers, .ref a_this_plan_names, .ref a_this_plan_code, .int x_this_plan_size, .ref a_this_plan_spans])), (a_this_plan_kindOf, .inl (cy 0, 12, .inl g_this_plan_kindOf)), (a_this_machine, .inr (3, [.ref a_this_machine_facts, .ref a_this_machine_stack])), (a_this_machine_facts, .inl (cy 0, 13, .inl (upd f9015 (Int32.toNatClampNeg 1) x_this_day))), (a_this_plan_calm, .inl (cy 0, 6, .inl g_this_plan_calm)), (a_this_plan_pace, .inl (cy 0, 6, .inl g_this_plan_pace))] := hD
  generalize upd f9015 (Int32.toNatClampNeg 1) x_this_day = f9016 at hP hD
  refine lv_aload hx hb dX7_describe_33 (lv_at hl 0 rfl) ?_
  refine lv_iconst (v := 3) hx hb dX7_describe_35 (by decide) ?_
  refine lv_iload_n hx hb dX7_describe_36 rfl (lv_at hl 5 rfl) ?_
  refine va_iast hx hb C0.2.2.2.2.2.1 hP hD hS 4 0 rfl rfl (k_in 3 13 (by decide)) dX7_describe_37 (fun H locs hP hD hS => ?_)
  have hP : va_P (dC, dI) vwCl [(a_this, .inr (7, [.ref a_this_machine, .ref a_this_plan, .int x_this_day, .ref a_this_trusts, .int x_this_rule, .int x_this_green, .int x_this_absent, .int x_this_asksReds, .ref a_this_cars, .ref a_this_gaps, .ref a_this_known, .ref a_this_left, .ref a_this_leaves, .int x_this_pressed, .int x_this_crossed, .int x_this_went, .int x_this_harmed])), (a_this_plan, .inr (4, [.int x_this_plan_cycle, .int x_this_plan_green, .int x_this_plan_rule, .int x_this_plan_least, .int x_this_plan_away, .int x_this_plan_statements, .int x_this_plan_kinds, .ref a_this_plan_calm, .ref a_this_plan_pace, .ref a_this_plan_trusts, .int x_this_plan_walkers, .ref a_this_plan_kindOf, .ref a_this_plan_comesAt, .ref a_this_plan_comers, .ref a_this_plan_names, .ref a_this_plan_code, .int x_this_plan_size, .ref a_this_plan_spans])), (a_this_plan_kindOf, .inl (cy 0, 12, .inl g_this_plan_kindOf)), (a_this_machine, .inr (3, [.ref a_this_machine_facts, .ref a_this_machine_stack])), (a_this_machine_facts, .inl (cy 0, 13, .inl (upd f9016 (Int32.toNatClampNeg 3) p2))), (a_this_plan_calm, .inl (cy 0, 6, .inl g_this_plan_calm)), (a_this_plan_pace, .inl (cy 0, 6, .inl g_this_plan_pace))] H := hP
  have hD : va_D A [(a_this, .inr (7, [.ref a_this_machine, .ref a_this_plan, .int x_this_day, .ref a_this_trusts, .int x_this_rule, .int x_this_green, .int x_this_absent, .int x_this_asksReds, .ref a_this_cars, .ref a_this_gaps, .ref a_this_known, .ref a_this_left, .ref a_this_leaves, .int x_this_pressed, .int x_this_crossed, .int x_this_went, .int x_this_harmed])), (a_this_plan, .inr (4, [.int x_this_plan_cycle, .int x_this_plan_green, .int x_this_plan_rule, .int x_this_plan_least, .int x_this_plan_away, .int x_this_plan_statements, .int x_this_plan_kinds, .ref a_this_plan_calm, .ref a_this_plan_pace, .ref a_this_plan_trusts, .int x_this_plan_walkers, .ref a_this_plan_kindOf, .ref a_this_plan_comesAt, .ref a_this_plan_comers, .ref a_this_plan_names, .ref a_this_plan_code, .int x_this_plan_size, .ref a_this_plan_spans])), (a_this_plan_kindOf, .inl (cy 0, 12, .inl g_this_plan_kindOf)), (a_this_machine, .inr (3, [.ref a_this_machine_facts, .ref a_this_machine_stack])), (a_this_machine_facts, .inl (cy 0, 13, .inl (upd f9016 (Int32.toNatClampNeg 3) p2))), (a_this_plan_calm, .inl (cy 0, 6, .inl g_this_plan_calm)), (a_this_plan_pace, .inl (cy 0, 6, .inl g_this_plan_pace))] := hD
  generalize upd f9016 (Int32.toNatClampNeg 3) p2 = f9017 at hP hD
  refine lv_aload hx hb dX7_describe_38 (lv_at hl 0 rfl) ?_
  refine lv_iconst (v := 4) hx hb dX7_describe_40 (by decide) ?_
  refine lv_aload_n hx hb dX7_describe_41 rfl (lv_at hl 2 rfl) ?_
  refine k_get C0 fg_X7_63 hP 0 rfl rfl dX7_describe_42 ?_
  refine k_get C0 fg_X7_160 hP 1 rfl rfl dX7_describe_45 ?_
  refine lv_iload hx hb dX7_describe_48 (lv_at hl 1 rfl) ?_
  refine va_iald hx hb C0.2.2.2.2.2.1 hP 5 0 rfl rfl (ib_in 6 h9014 (by decide)) dX7_describe_50 ?_
  refine lv_topi (fun z9018 ez9018 => ?_)
  refine va_iast hx hb C0.2.2.2.2.2.1 hP hD hS 4 0 rfl rfl (k_in 4 13 (by decide)) dX7_describe_51 (fun H locs hP hD hS => ?_)
  have hP : va_P (dC, dI) vwCl [(a_this, .inr (7, [.ref a_this_machine, .ref a_this_plan, .int x_this_day, .ref a_this_trusts, .int x_this_rule, .int x_this_green, .int x_this_absent, .int x_this_asksReds, .ref a_this_cars, .ref a_this_gaps, .ref a_this_known, .ref a_this_left, .ref a_this_leaves, .int x_this_pressed, .int x_this_crossed, .int x_this_went, .int x_this_harmed])), (a_this_plan, .inr (4, [.int x_this_plan_cycle, .int x_this_plan_green, .int x_this_plan_rule, .int x_this_plan_least, .int x_this_plan_away, .int x_this_plan_statements, .int x_this_plan_kinds, .ref a_this_plan_calm, .ref a_this_plan_pace, .ref a_this_plan_trusts, .int x_this_plan_walkers, .ref a_this_plan_kindOf, .ref a_this_plan_comesAt, .ref a_this_plan_comers, .ref a_this_plan_names, .ref a_this_plan_code, .int x_this_plan_size, .ref a_this_plan_spans])), (a_this_plan_kindOf, .inl (cy 0, 12, .inl g_this_plan_kindOf)), (a_this_machine, .inr (3, [.ref a_this_machine_facts, .ref a_this_machine_stack])), (a_this_machine_facts, .inl (cy 0, 13, .inl (upd f9017 (Int32.toNatClampNeg 4) z9018))), (a_this_plan_calm, .inl (cy 0, 6, .inl g_this_plan_calm)), (a_this_plan_pace, .inl (cy 0, 6, .inl g_this_plan_pace))] H := hP
  have hD : va_D A [(a_this, .inr (7, [.ref a_this_machine, .ref a_this_plan, .int x_this_day, .ref a_this_trusts, .int x_this_rule, .int x_this_green, .int x_this_absent, .int x_this_asksReds, .ref a_this_cars, .ref a_this_gaps, .ref a_this_known, .ref a_this_left, .ref a_this_leaves, .int x_this_pressed, .int x_this_crossed, .int x_this_went, .int x_this_harmed])), (a_this_plan, .inr (4, [.int x_this_plan_cycle, .int x_this_plan_green, .int x_this_plan_rule, .int x_this_plan_least, .int x_this_plan_away, .int x_this_plan_statements, .int x_this_plan_kinds, .ref a_this_plan_calm, .ref a_this_plan_pace, .ref a_this_plan_trusts, .int x_this_plan_walkers, .ref a_this_plan_kindOf, .ref a_this_plan_comesAt, .ref a_this_plan_comers, .ref a_this_plan_names, .ref a_this_plan_code, .int x_this_plan_size, .ref a_this_plan_spans])), (a_this_plan_kindOf, .inl (cy 0, 12, .inl g_this_plan_kindOf)), (a_this_machine, .inr (3, [.ref a_this_machine_facts, .ref a_this_machine_stack])), (a_this_machine_facts, .inl (cy 0, 13, .inl (upd f9017 (Int32.toNatClampNeg 4) z9018))), (a_this_plan_calm, .inl (cy 0, 6, .inl g_this_plan_calm)), (a_this_plan_pace, .inl (cy 0, 6, .inl g_this_plan_pace))] := hD
  generalize upd f9017 (Int32.toNatClampNeg 4) z9018 = f9019 at hP hD
  refine lv_aload hx hb dX7_describe_52 (lv_at hl 0 rfl) ?_
  refine lv_iconst (v := 5) hx hb dX7_describe_54 (by decide) ?_
  refine lv_aload_n hx hb dX7_describe_55 rfl (lv_at hl 2 rfl) ?_
  refine k_get C0 fg_X7_63 hP 0 rfl rfl dX7_describe_56 ?_
  refine k_get C0 fg_X7_146 hP 1 rfl rfl dX7_describe_59 ?_
  refine lv_iload hx hb dX7_describe_62 (lv_at hl 1 rfl) ?_
  refine va_iald hx hb C0.2.2.2.2.2.1 hP 6 0 rfl rfl (ib_in 6 h9014 (by decide)) dX7_describe_64 ?_
  refine lv_topi (fun z9020 ez9020 => ?_)
  refine va_iast hx hb C0.2.2.2.2.2.1 hP hD hS 4 0 rfl rfl (k_in 5 13 (by decide)) dX7_describe_65 (fun H locs hP hD hS => ?_)
  have hP : va_P (dC, dI) vwCl [(a_this, .inr (7, [.ref a_this_machine, .ref a_this_plan, .int x_this_day, .ref a_this_trusts, .int x_this_rule, .int x_this_green, .int x_this_absent, .int x_this_asksReds, .ref a_this_cars, .ref a_this_gaps, .ref a_this_known, .ref a_this_left, .ref a_this_leaves, .int x_this_pressed, .int x_this_crossed, .int x_this_went, .int x_this_harmed])), (a_this_plan, .inr (4, [.int x_this_plan_cycle, .int x_this_plan_green, .int x_this_plan_rule, .int x_this_plan_least, .int x_this_plan_away, .int x_this_plan_statements, .int x_this_plan_kinds, .ref a_this_plan_calm, .ref a_this_plan_pace, .ref a_this_plan_trusts, .int x_this_plan_walkers, .ref a_this_plan_kindOf, .ref a_this_plan_comesAt, .ref a_this_plan_comers, .ref a_this_plan_names, .ref a_this_plan_code, .int x_this_plan_size, .ref a_this_plan_spans])), (a_this_plan_kindOf, .inl (cy 0, 12, .inl g_this_plan_kindOf)), (a_this_machine, .inr (3, [.ref a_this_machine_facts, .ref a_this_machine_stack])), (a_this_machine_facts, .inl (cy 0, 13, .inl (upd f9019 (Int32.toNatClampNeg 5) z9020))), (a_this_plan_calm, .inl (cy 0, 6, .inl g_this_plan_calm)), (a_this_plan_pace, .inl (cy 0, 6, .inl g_this_plan_pace))] H := hP
  have hD : va_D A [(a_this, .inr (7, [.ref a_this_machine, .ref a_this_plan, .int x_this_day, .ref a_this_trusts, .int x_this_rule, .int x_this_green, .int x_this_absent, .int x_this_asksReds, .ref a_this_cars, .ref a_this_gaps, .ref a_this_known, .ref a_this_left, .ref a_this_leaves, .int x_this_pressed, .int x_this_crossed, .int x_this_went, .int x_this_harmed])), (a_this_plan, .inr (4, [.int x_this_plan_cycle, .int x_this_plan_green, .int x_this_plan_rule, .int x_this_plan_least, .int x_this_plan_away, .int x_this_plan_statements, .int x_this_plan_kinds, .ref a_this_plan_calm, .ref a_this_plan_pace, .ref a_this_plan_trusts, .int x_this_plan_walkers, .ref a_this_plan_kindOf, .ref a_this_plan_comesAt, .ref a_this_plan_comers, .ref a_this_plan_names, .ref a_this_plan_code, .int x_this_plan_size, .ref a_this_plan_spans])), (a_this_plan_kindOf, .inl (cy 0, 12, .inl g_this_plan_kindOf)), (a_this_machine, .inr (3, [.ref a_this_machine_facts, .ref a_this_machine_stack])), (a_this_machine_facts, .inl (cy 0, 13, .inl (upd f9019 (Int32.toNatClampNeg 5) z9020))), (a_this_plan_calm, .inl (cy 0, 6, .inl g_this_plan_calm)), (a_this_plan_pace, .inl (cy 0, 6, .inl g_this_plan_pace))] := hD
  generalize upd f9019 (Int32.toNatClampNeg 5) z9020 = f9021 at hP hD
  refine lv_aload hx hb dX7_describe_66 (lv_at hl 0 rfl) ?_
  refine lv_bipush (v := 6) hx hb dX7_describe_68 (by decide) ?_
  refine lv_iload hx hb dX7_describe_70 (lv_at hl 6 rfl) ?_
  refine va_iast hx hb C0.2.2.2.2.2.1 hP hD hS 4 0 rfl rfl (k_in 6 13 (by decide)) dX7_describe_72 (fun H locs hP hD hS => ?_)
  have hP : va_P (dC, dI) vwCl [(a_this, .inr (7, [.ref a_this_machine, .ref a_this_plan, .int x_this_day, .ref a_this_trusts, .int x_this_rule, .int x_this_green, .int x_this_absent, .int x_this_asksReds, .ref a_this_cars, .ref a_this_gaps, .ref a_this_known, .ref a_this_left, .ref a_this_leaves, .int x_this_pressed, .int x_this_crossed, .int x_this_went, .int x_this_harmed])), (a_this_plan, .inr (4, [.int x_this_plan_cycle, .int x_this_plan_green, .int x_this_plan_rule, .int x_this_plan_least, .int x_this_plan_away, .int x_this_plan_statements, .int x_this_plan_kinds, .ref a_this_plan_calm, .ref a_this_plan_pace, .ref a_this_plan_trusts, .int x_this_plan_walkers, .ref a_this_plan_kindOf, .ref a_this_plan_comesAt, .ref a_this_plan_comers, .ref a_this_plan_names, .ref a_this_plan_code, .int x_this_plan_size, .ref a_this_plan_spans])), (a_this_plan_kindOf, .inl (cy 0, 12, .inl g_this_plan_kindOf)), (a_this_machine, .inr (3, [.ref a_this_machine_facts, .ref a_this_machine_stack])), (a_this_machine_facts, .inl (cy 0, 13, .inl (upd f9021 (Int32.toNatClampNeg 6) p3))), (a_this_plan_calm, .inl (cy 0, 6, .inl g_this_plan_calm)), (a_this_plan_pace, .inl (cy 0, 6, .inl g_this_plan_pace))] H := hP
  have hD : va_D A [(a_this, .inr (7, [.ref a_this_machine, .ref a_this_plan, .int x_this_day, .ref a_this_trusts, .int x_this_rule, .int x_this_green, .int x_this_absent, .int x_this_asksReds, .ref a_this_cars, .ref a_this_gaps, .ref a_this_known, .ref a_this_left, .ref a_this_leaves, .int x_this_pressed, .int x_this_crossed, .int x_this_went, .int x_this_harmed])), (a_this_plan, .inr (4, [.int x_this_plan_cycle, .int x_this_plan_green, .int x_this_plan_rule, .int x_this_plan_least, .int x_this_plan_away, .int x_this_plan_statements, .int x_this_plan_kinds, .ref a_this_plan_calm, .ref a_this_plan_pace, .ref a_this_plan_trusts, .int x_this_plan_walkers, .ref a_this_plan_kindOf, .ref a_this_plan_comesAt, .ref a_this_plan_comers, .ref a_this_plan_names, .ref a_this_plan_code, .int x_this_plan_size, .ref a_this_plan_spans])), (a_this_plan_kindOf, .inl (cy 0, 12, .inl g_this_plan_kindOf)), (a_this_machine, .inr (3, [.ref a_this_machine_facts, .ref a_this_machine_stack])), (a_this_machine_facts, .inl (cy 0, 13, .inl (upd f9021 (Int32.toNatClampNeg 6) p3))), (a_this_plan_calm, .inl (cy 0, 6, .inl g_this_plan_calm)), (a_this_plan_pace, .inl (cy 0, 6, .inl g_this_plan_pace))] := hD
  generalize upd f9021 (Int32.toNatClampNeg 6) p3 = f9022 at hP hD
  subst hQ; exact k_vret hx hb hr hlk f9022 hS True.intro hP hD (Nat.le_of_ble_eq_true rfl) (Nat.le_of_ble_eq_true rfl) dX7_describe_73
set_option maxHeartbeats 4000000 in
set_option maxRecDepth 100000 in
theorem s_X2_clear (l : Launch) (dC : Nat → ClassId) (dI : Nat → Nat → Nat) (cy : Nat → ClassId) (sq : Nat → Nat) (a_this : Nat) (a_this_ring : Nat) (x_this_next : Int32) (x_this_count : Int32) (hx_this_next : ib x_this_next 0 19) (hx_this_count : ib x_this_count 0 20) : k_Met l yX2_clear cX2_clear 1 none { frames := 0, cells := 0, slots := 0, locals := 0 } dC dI cy sq [.ref a_this] [(a_this, .inr (2, [.ref a_this_ring, .int x_this_next, .int x_this_count]))] (k_Qv dC dI (fun (n0 : Int32) => ib n0 0 20) (fun n0 : Int32 => [(a_this, .inr (2, [.ref a_this_ring, .int x_this_next, .int n0]))])) := by
  refine k_ofW2 (by decide +kernel) (Nat.le_of_ble_eq_true rfl) ?_
  intro p e s m below meth c A ls H locs args Q hQ C0 hr hlk hin hP hD hA hS hl
  have C0 : k_cx p s m args c cX2_clear 1 RX2 dC dI cy sq := C0
  have hx := C0.1
  have hb := C0.2.1
  have hl : lv_has ls 1 [(0, .ref a_this)] := hl
  refine lv_aload_n hx hb dX2_clear_0 rfl (lv_at hl 0 rfl) ?_
  refine lv_iconst (v := 0) hx hb dX2_clear_1 (by decide) ?_
  refine k_put C0 fp_X2_21 hP hD hS 0 rfl rfl rfl (Nat.le_of_ble_eq_true rfl) dX2_clear_2 (fun H locs hP hD hS => ?_)
  have hP : va_P (dC, dI) vwCl [(a_this, .inr (2, [.ref a_this_ring, .int x_this_next, .int 0]))] H := hP
  have hD : va_D A [(a_this, .inr (2, [.ref a_this_ring, .int x_this_next, .int 0]))] := hD
  subst hQ; exact k_vret hx hb hr hlk 0 hS (ib_w 0 20 (ib_c 0 0 0 (by decide)) (by decide)) hP hD (Nat.le_of_ble_eq_true rfl) (Nat.le_of_ble_eq_true rfl) dX2_clear_5
set_option maxHeartbeats 4000000 in
set_option maxRecDepth 100000 in
theorem s_X4_allowsGreen (l : Launch) (dC : Nat → ClassId) (dI : Nat → Nat → Nat) (cy : Nat → ClassId) (sq : Nat → Nat) (a_this : Nat) (x_this_cycle : Int32) (x_this_green : Int32) (x_this_rule : Int32) (x_this_least : Int32) (x_this_away : Int32) (x_this_statements : Int32) (x_this_kinds : Int32) (a_this_calm : Nat) (a_this_pace : Nat) (a_this_trusts : Nat) (x_this_walkers : Int32) (a_this_kindOf : Nat) (a_this_comesAt : Nat) (a_this_comers : Nat) (a_this_names : Nat) (a_this_code : Nat) (x_this_size : Int32) (a_this_spans : Nat) (p0 : Int32) (hx_this_cycle : ib x_this_cycle 0 120) (hx_this_least : ib x_this_least 0 99) (hx_this_statements : ib x_this_statements 0 81) (hx_this_kinds : ib x_this_kinds 0 6) (hx_this_walkers : ib x_this_walkers 0 12) (hx_this_size : ib x_this_size 0 1600) : k_Met l yX4_allowsGreen cX4_allowsGreen 2 (some .boolean) { frames := 0, cells := 0, slots := 0, locals := 0 } dC dI cy sq [.ref a_this, .int p0] [(a_this, .inr (4, [.int x_this_cycle, .int x_this_green, .int x_this_rule, .int x_this_least, .int x_this_away, .int x_this_statements, .int x_this_kinds, .ref a_this_calm, .ref a_this_pace, .ref a_this_trusts, .int x_this_walkers, .ref a_this_kindOf, .ref a_this_comesAt, .ref a_this_comers, .ref a_this_names, .ref a_this_code, .int x_this_size, .ref a_this_spans]))] (k_Qi dC dI (fun (r : Int32) (_ : Unit) => ib r 0 1 ∧ (¬ r = 0 → ib x_this_cycle 2 120) ∧ (¬ r = 0 → ib p0 1 60)) (fun _ : Unit => [(a_this, .inr (4, [.int x_this_cycle, .int x_this_green, .int x_this_rule, .int x_this_least, .int x_this_away, .int x_this_statements, .int x_this_kinds, .ref a_this_calm, .ref a_this_pace, .ref a_this_trusts, .int x_this_walkers, .ref a_this_kindOf, .ref a_this_comesAt, .ref a_this_comers, .ref a_this_names, .ref a_this_code, .int x_this_size, .ref a_this_spans]))])) := by
  refine k_ofW2 (by decide +kernel) (Nat.le_of_ble_eq_true rfl) ?_
  intro p e s m below meth c A ls H locs args Q hQ C0 hr hlk hin hP hD hA hS hl
  have C0 : k_cx p s m args c cX4_allowsGreen 2 RX4 dC dI cy sq := C0
  have hx := C0.1
  have hb := C0.2.1
  have hl : lv_has ls 2 [(0, .ref a_this), (1, .int p0)] := hl
  refine lv_iload_n hx hb dX4_allowsGreen_0 rfl (lv_at hl 1 rfl) ?_
  refine lv_iconst (v := 1) hx hb dX4_allowsGreen_1 (by decide) ?_
  refine lv_icmp_lt (tgt := 23) hx hb dX4_allowsGreen_2 (by decide) (fun c13625 => ?_) (fun c13625 => ?_)
  · have h13626 := ib_lt (ib_any p0) (ib_c 1 1 1 (by decide)) c13625
    have h13627 : ib p0 (-2147483648) 0 := ib_w (-2147483648) 0 h13626.1 (by decide)
    refine lv_iconst (v := 0) hx hb dX4_allowsGreen_23 (by decide) ?_
    subst hQ; exact k_iret hx hb hr hlk (k_nb 0 (by decide)) () hS ⟨ib_w 0 1 (ib_c 0 0 0 (by decide)) (by decide), fun h9 => absurd rfl h9, fun h9 => absurd rfl h9⟩ hP hD (Nat.le_of_ble_eq_true rfl) (Nat.le_of_ble_eq_true rfl) dX4_allowsGreen_24
  · have h13628 := ib_nlt (ib_any p0) (ib_c 1 1 1 (by decide)) c13625
    have h13629 : ib p0 1 2147483647 := ib_w 1 2147483647 h13628.1 (by decide)
    refine lv_iload_n hx hb dX4_allowsGreen_5 rfl (lv_at hl 1 rfl) ?_
    refine lv_bipush (v := 60) hx hb dX4_allowsGreen_6 (by decide) ?_
    refine lv_icmp_gt (tgt := 23) hx hb dX4_allowsGreen_8 (by decide) (fun c13630 => ?_) (fun c13630 => ?_)
    · have h13631 := ib_lt (ib_c 60 60 60 (by decide)) h13629 c13630
      have h13632 : ib p0 61 2147483647 := ib_w 61 2147483647 h13631.2 (by decide)
      refine lv_iconst (v := 0) hx hb dX4_allowsGreen_23 (by decide) ?_
      subst hQ; exact k_iret hx hb hr hlk (k_nb 0 (by decide)) () hS ⟨ib_w 0 1 (ib_c 0 0 0 (by decide)) (by decide), fun h9 => absurd rfl h9, fun h9 => absurd rfl h9⟩ hP hD (Nat.le_of_ble_eq_true rfl) (Nat.le_of_ble_eq_true rfl) dX4_allowsGreen_24
    · have h13633 := ib_nlt (ib_c 60 60 60 (by decide)) h13629 c13630
      have h13634 : ib p0 1 60 := ib_w 1 60 h13633.2 (by decide)
      refine lv_iload_n hx hb dX4_allowsGreen_11 rfl (lv_at hl 1 rfl) ?_
      refine lv_aload_n hx hb dX4_allowsGreen_12 rfl (lv_at hl 0 rfl) ?_
      refine k_get C0 fg_X4_39 hP 0 rfl rfl dX4_allowsGreen_13 ?_
      refine lv_icmp_ge (tgt := 23) hx hb dX4_allowsGreen_16 (by decide) (fun c13635 => ?_) (fun c13635 => ?_)
      · have h13636 := ib_le hx_this_cycle h13634 c13635
        have h13637 : ib x_this_cycle 0 60 := ib_w 0 60 h13636.1 (by decide)
        refine lv_iconst (v := 0) hx hb dX4_allowsGreen_23 (by decide) ?_
        subst hQ; exact k_iret hx hb hr hlk (k_nb 0 (by decide)) () hS ⟨ib_w 0 1 (ib_c 0 0 0 (by decide)) (by decide), fun h9 => absurd rfl h9, fun h9 => absurd rfl h9⟩ hP hD (Nat.le_of_ble_eq_true rfl) (Nat.le_of_ble_eq_true rfl) dX4_allowsGreen_24
      · have h13638 := ib_nle hx_this_cycle h13634 c13635
        have h13639 : ib x_this_cycle 2 120 := ib_w 2 120 h13638.1 (by decide)
        refine lv_iconst (v := 1) hx hb dX4_allowsGreen_19 (by decide) ?_
        refine lv_goto (tgt := 24) hx hb dX4_allowsGreen_20 (by decide) ?_
        subst hQ; exact k_iret hx hb hr hlk (k_nb 1 (by decide)) () hS ⟨ib_w 0 1 (ib_c 1 1 1 (by decide)) (by decide), fun _ => ib_w 2 120 h13639 (by decide), fun _ => ib_w 1 60 h13634 (by decide)⟩ hP hD (Nat.le_of_ble_eq_true rfl) (Nat.le_of_ble_eq_true rfl) dX4_allowsGreen_24
set_option maxHeartbeats 4000000 in
set_option maxRecDepth 100000 in
theorem s_X4_clear (l : Launch) (dC : Nat → ClassId) (dI : Nat → Nat → Nat) (cy : Nat → ClassId) (sq : Nat → Nat) (a_this : Nat) (x_this_cycle : Int32) (x_this_green : Int32) (x_this_rule : Int32) (x_this_least : Int32) (x_this_away : Int32) (x_this_statements : Int32) (x_this_kinds : Int32) (a_this_calm : Nat) (a_this_pace : Nat) (a_this_trusts : Nat) (x_this_walkers : Int32) (a_this_kindOf : Nat) (a_this_comesAt : Nat) (a_this_comers : Nat) (g_this_comers : Nat → Int32) (a_this_names : Nat) (a_this_code : Nat) (x_this_size : Int32) (a_this_spans : Nat) (g_this_spans : Nat → Int32) (hx_this_cycle : ib x_this_cycle 0 120) (hx_this_least : ib x_this_least 0 99) (hx_this_statements : ib x_this_statements 0 81) (hx_this_kinds : ib x_this_kinds 0 6) (hx_this_walkers : ib x_this_walkers 0 12) (hx_this_size : ib x_this_size 0 1600) (hg_this_spans : ia g_this_spans 6 0 1600) : k_Met l yX4_clear cX4_clear 1 none { frames := 1, cells := 0, slots := 0, locals := 23 } dC dI cy sq [.ref a_this] [(a_this, .inr (4, [.int x_this_cycle, .int x_this_green, .int x_this_rule, .int x_this_least, .int x_this_away, .int x_this_statements, .int x_this_kinds, .ref a_this_calm, .ref a_this_pace, .ref a_this_trusts, .int x_this_walkers, .ref a_this_kindOf, .ref a_this_comesAt, .ref a_this_comers, .ref a_this_names, .ref a_this_code, .int x_this_size, .ref a_this_spans])), (a_this_comers, .inl (cy 0, 200, .inl g_this_comers)), (a_this_spans, .inl (cy 0, 6, .inl g_this_spans))] (k_Qv dC dI (fun (u : Int32 × Int32 × Int32 × Int32 × Int32 × Int32 × (Nat → Int32) × (Nat → Int32)) => match u with | (n0, n1, n2, n3, n4, n5, n6, n7) => ib n0 0 120 ∧ ib n1 0 0 ∧ ib n2 0 81 ∧ ib n3 0 6 ∧ ib n4 0 12 ∧ ib n5 0 1600 ∧ ia n7 6 0 1600) (fun u : Int32 × Int32 × Int32 × Int32 × Int32 × Int32 × (Nat → Int32) × (Nat → Int32) => match u with | (n0, n1, n2, n3, n4, n5, n6, n7) => [(a_this, .inr (4, [.int n0, .int x_this_green, .int x_this_rule, .int x_this_least, .int n1, .int n2, .int n3, .ref a_this_calm, .ref a_this_pace, .ref a_this_trusts, .int n4, .ref a_this_kindOf, .ref a_this_comesAt, .ref a_this_comers, .ref a_this_names, .ref a_this_code, .int n5, .ref a_this_spans])), (a_this_comers, .inl (cy 0, 200, .inl n6)), (a_this_spans, .inl (cy 0, 6, .inl n7))])) := by
  refine k_ofW2 (by decide +kernel) (Nat.le_of_ble_eq_true rfl) ?_
  intro p e s m below meth c A ls H locs args Q hQ C0 hr hlk hin hP hD hA hS hl
  have C0 : k_cx p s m args c cX4_clear 1 RX4 dC dI cy sq := C0
  have hx := C0.1
  have hb := C0.2.1
  have hl : lv_has ls 1 [(0, .ref a_this)] := hl
  refine lv_aload_n hx hb dX4_clear_0 rfl (lv_at hl 0 rfl) ?_
  refine lv_iconst (v := 0) hx hb dX4_clear_1 (by decide) ?_
  refine k_put C0 fp_X4_39 hP hD hS 0 rfl rfl rfl (Nat.le_of_ble_eq_true rfl) dX4_clear_2 (fun H locs hP hD hS => ?_)
  have hP : va_P (dC, dI) vwCl [(a_this, .inr (4, [.int 0, .int x_this_green, .int x_this_rule, .int x_this_least, .int x_this_away, .int x_this_statements, .int x_this_kinds, .ref a_this_calm, .ref a_this_pace, .ref a_this_trusts, .int x_this_walkers, .ref a_this_kindOf, .ref a_this_comesAt, .ref a_this_comers, .ref a_this_names, .ref a_this_code, .int x_this_size, .ref a_this_spans])), (a_this_comers, .inl (cy 0, 200, .inl g_this_comers)), (a_this_spans, .inl (cy 0, 6, .inl g_this_spans))] H := hP
  have hD : va_D A [(a_this, .inr (4, [.int 0, .int x_this_green, .int x_this_rule, .int x_this_least, .int x_this_away, .int x_this_statements, .int x_this_kinds, .ref a_this_calm, .ref a_this_pace, .ref a_this_trusts, .int x_this_walkers, .ref a_this_kindOf, .ref a_this_comesAt, .ref a_this_comers, .ref a_this_names, .ref a_this_code, .int x_this_size, .ref a_this_spans])), (a_this_comers, .inl (cy 0, 200, .inl g_this_comers)), (a_this_spans, .inl (cy 0, 6, .inl g_this_spans))] := hD
  refine lv_aload_n hx hb dX4_clear_5 rfl (lv_at hl 0 rfl) ?_
  refine lv_iconst (v := 0) hx hb dX4_clear_6 (by decide) ?_
  refine k_put C0 fp_X4_43 hP hD hS 0 rfl rfl rfl (Nat.le_of_ble_eq_true rfl) dX4_clear_7 (fun H locs hP hD hS => ?_)
  have hP : va_P (dC, dI) vwCl [(a_this, .inr (4, [.int 0, .int x_this_green, .int x_this_rule, .int x_this_least, .int 0, .int x_this_statements, .int x_this_kinds, .ref a_this_calm, .ref a_this_pace, .ref a_this_trusts, .int x_this_walkers, .ref a_this_kindOf, .ref a_this_comesAt, .ref a_this_comers, .ref a_this_names, .ref a_this_code, .int x_this_size, .ref a_this_spans])), (a_this_comers, .inl (cy 0, 200, .inl g_this_comers)), (a_this_spans, .inl (cy 0, 6, .inl g_this_spans))] H := hP
  have hD : va_D A [(a_this, .inr (4, [.int 0, .int x_this_green, .int x_this_rule, .int x_this_least, .int 0, .int x_this_statements, .int x_this_kinds, .ref a_this_calm, .ref a_this_pace, .ref a_this_trusts, .int x_this_walkers, .ref a_this_kindOf, .ref a_this_comesAt, .ref a_this_comers, .ref a_this_names, .ref a_this_code, .int x_this_size, .ref a_this_spans])), (a_this_comers, .inl (cy 0, 200, .inl g_this_comers)), (a_this_spans, .inl (cy 0, 6, .inl g_this_spans))] := hD
  refine lv_aload_n hx hb dX4_clear_10 rfl (lv_at hl 0 rfl) ?_
  refine lv_iconst (v := 0) hx hb dX4_clear_11 (by decide) ?_
  refine k_put C0 fp_X4_46 hP hD hS 0 rfl rfl rfl (Nat.le_of_ble_eq_true rfl) dX4_clear_12 (fun H locs hP hD hS => ?_)
  have hP : va_P (dC, dI) vwCl [(a_this, .inr (4, [.int 0, .int x_this_green, .int x_this_rule, .int x_this_least, .int 0, .int 0, .int x_this_kinds, .ref a_this_calm, .ref a_this_pace, .ref a_this_trusts, .int x_this_walkers, .ref a_this_kindOf, .ref a_this_comesAt, .ref a_this_comers, .ref a_this_names, .ref a_this_code, .int x_this_size, .ref a_this_spans])), (a_this_comers, .inl (cy 0, 200, .inl g_this_comers)), (a_this_spans, .inl (cy 0, 6, .inl g_this_spans))] H := hP
  have hD : va_D A [(a_this, .inr (4, [.int 0, .int x_this_green, .int x_this_rule, .int x_this_least, .int 0, .int 0, .int x_this_kinds, .ref a_this_calm, .ref a_this_pace, .ref a_this_trusts, .int x_this_walkers, .ref a_this_kindOf, .ref a_this_comesAt, .ref a_this_comers, .ref a_this_names, .ref a_this_code, .int x_this_size, .ref a_this_spans])), (a_this_comers, .inl (cy 0, 200, .inl g_this_comers)), (a_this_spans, .inl (cy 0, 6, .inl g_this_spans))] := hD
  refine lv_aload_n hx hb dX4_clear_15 rfl (lv_at hl 0 rfl) ?_
  refine lv_iconst (v := 0) hx hb dX4_clear_16 (by decide) ?_
  refine k_put C0 fp_X4_49 hP hD hS 0 rfl rfl rfl (Nat.le_of_ble_eq_true rfl) dX4_clear_17 (fun H locs hP hD hS => ?_)
  have hP : va_P (dC, dI) vwCl [(a_this, .inr (4, [.int 0, .int x_this_green, .int x_this_rule, .int x_this_least, .int 0, .int 0, .int 0, .ref a_this_calm, .ref a_this_pace, .ref a_this_trusts, .int x_this_walkers, .ref a_this_kindOf, .ref a_this_comesAt, .ref a_this_comers, .ref a_this_names, .ref a_this_code, .int x_this_size, .ref a_this_spans])), (a_this_comers, .inl (cy 0, 200, .inl g_this_comers)), (a_this_spans, .inl (cy 0, 6, .inl g_this_spans))] H := hP
  have hD : va_D A [(a_this, .inr (4, [.int 0, .int x_this_green, .int x_this_rule, .int x_this_least, .int 0, .int 0, .int 0, .ref a_this_calm, .ref a_this_pace, .ref a_this_trusts, .int x_this_walkers, .ref a_this_kindOf, .ref a_this_comesAt, .ref a_this_comers, .ref a_this_names, .ref a_this_code, .int x_this_size, .ref a_this_spans])), (a_this_comers, .inl (cy 0, 200, .inl g_this_comers)), (a_this_spans, .inl (cy 0, 6, .inl g_this_spans))] := hD
  refine lv_aload_n hx hb dX4_clear_20 rfl (lv_at hl 0 rfl) ?_
  refine lv_iconst (v := 0) hx hb dX4_clear_21 (by decide) ?_
  refine k_put C0 fp_X4_52 hP hD hS 0 rfl rfl rfl (Nat.le_of_ble_eq_true rfl) dX4_clear_22 (fun H locs hP hD hS => ?_)
  have hP : va_P (dC, dI) vwCl [(a_this, .inr (4, [.int 0, .int x_this_green, .int x_this_rule, .int x_this_least, .int 0, .int 0, .int 0, .ref a_this_calm, .ref a_this_pace, .ref a_this_trusts, .int 0, .ref a_this_kindOf, .ref a_this_comesAt, .ref a_this_comers, .ref a_this_names, .ref a_this_code, .int x_this_size, .ref a_this_spans])), (a_this_comers, .inl (cy 0, 200, .inl g_this_comers)), (a_this_spans, .inl (cy 0, 6, .inl g_this_spans))] H := hP
  have hD : va_D A [(a_this, .inr (4, [.int 0, .int x_this_green, .int x_this_rule, .int x_this_least, .int 0, .int 0, .int 0, .ref a_this_calm, .ref a_this_pace, .ref a_this_trusts, .int 0, .ref a_this_kindOf, .ref a_this_comesAt, .ref a_this_comers, .ref a_this_names, .ref a_this_code, .int x_this_size, .ref a_this_spans])), (a_this_comers, .inl (cy 0, 200, .inl g_this_comers)), (a_this_spans, .inl (cy 0, 6, .inl g_this_spans))] := hD
  refine lv_aload_n hx hb dX4_clear_25 rfl (lv_at hl 0 rfl) ?_
  refine lv_iconst (v := 0) hx hb dX4_clear_26 (by decide) ?_
  refine k_put C0 fp_X4_55 hP hD hS 0 rfl rfl rfl (Nat.le_of_ble_eq_true rfl) dX4_clear_27 (fun H locs hP hD hS => ?_)
  have hP : va_P (dC, dI) vwCl [(a_this, .inr (4, [.int 0, .int x_this_green, .int x_this_rule, .int x_this_least, .int 0, .int 0, .int 0, .ref a_this_calm, .ref a_this_pace, .ref a_this_trusts, .int 0, .ref a_this_kindOf, .ref a_this_comesAt, .ref a_this_comers, .ref a_this_names, .ref a_this_code, .int 0, .ref a_this_spans])), (a_this_comers, .inl (cy 0, 200, .inl g_this_comers)), (a_this_spans, .inl (cy 0, 6, .inl g_this_spans))] H := hP
  have hD : va_D A [(a_this, .inr (4, [.int 0, .int x_this_green, .int x_this_rule, .int x_this_least, .int 0, .int 0, .int 0, .ref a_this_calm, .ref a_this_pace, .ref a_this_trusts, .int 0, .ref a_this_kindOf, .ref a_this_comesAt, .ref a_this_comers, .ref a_this_names, .ref a_this_code, .int 0, .ref a_this_spans])), (a_this_comers, .inl (cy 0, 200, .inl g_this_comers)), (a_this_spans, .inl (cy 0, 6, .inl g_this_spans))] := hD
  refine lv_aload_n hx hb dX4_clear_30 rfl (lv_at hl 0 rfl) ?_
  refine k_get C0 fg_X4_27 hP 0 rfl rfl dX4_clear_31 ?_
  refine lv_iconst (v := 0) hx hb dX4_clear_34 (by decide) ?_
  refine k_jv hP hD hS hA [1] [0, 2] (wr := [(a_this, .inr (4, [.int 0, .int x_this_green, .int x_this_rule, .int x_this_least, .int 0, .int 0, .int 0, .ref a_this_calm, .ref a_this_pace, .ref a_this_trusts, .int 0, .ref a_this_kindOf, .ref a_this_comesAt, .ref a_this_comers, .ref a_this_names, .ref a_this_code, .int 0, .ref a_this_spans])), (a_this_spans, .inl (cy 0, 6, .inl g_this_spans))]) rfl rfl (by decide) (by decide) (by decide) 0 0 (Nat.le_of_ble_eq_true rfl) (Nat.le_of_ble_eq_true rfl) (fun hPc hDc => k_runS (As := [.ref a_this_comers, .int 0]) (rest := []) C0 (c_fill l dC dI cy sq a_this_comers 200 g_this_comers 0 (Nat.le_of_ble_eq_true rfl)) mS_X4_58 hPc hDc hl rfl rfl (Nat.le_of_ble_eq_true rfl) ⟨(Nat.le_of_ble_eq_true rfl), (Nat.le_of_ble_eq_true rfl)⟩ ⟨(Nat.le_of_ble_eq_true rfl), (Nat.le_of_ble_eq_true rfl)⟩ dX4_clear_35) (fun u13711 H locs hw hP hD hS => ?_)
  obtain ⟨f13712, ef13712⟩ : ∃ z, z = u13711 := ⟨_, rfl⟩; subst ef13712
  have hP : va_P (dC, dI) vwCl [(a_this, .inr (4, [.int 0, .int x_this_green, .int x_this_rule, .int x_this_least, .int 0, .int 0, .int 0, .ref a_this_calm, .ref a_this_pace, .ref a_this_trusts, .int 0, .ref a_this_kindOf, .ref a_this_comesAt, .ref a_this_comers, .ref a_this_names, .ref a_this_code, .int 0, .ref a_this_spans])), (a_this_spans, .inl (cy 0, 6, .inl g_this_spans)), (a_this_comers, .inl (cy 0, 200, .inl f13712))] H := hP
  have hD : va_D A [(a_this, .inr (4, [.int 0, .int x_this_green, .int x_this_rule, .int x_this_least, .int 0, .int 0, .int 0, .ref a_this_calm, .ref a_this_pace, .ref a_this_trusts, .int 0, .ref a_this_kindOf, .ref a_this_comesAt, .ref a_this_comers, .ref a_this_names, .ref a_this_code, .int 0, .ref a_this_spans])), (a_this_spans, .inl (cy 0, 6, .inl g_this_spans)), (a_this_comers, .inl (cy 0, 200, .inl f13712))] := hD
  refine lv_aload_n hx hb dX4_clear_38 rfl (lv_at hl 0 rfl) ?_
  refine k_get C0 fg_X4_36 hP 0 rfl rfl dX4_clear_39 ?_
  refine lv_iconst (v := 0) hx hb dX4_clear_42 (by decide) ?_
  refine k_jv hP hD hS hA [1] [0, 2] (wr := [(a_this, .inr (4, [.int 0, .int x_this_green, .int x_this_rule, .int x_this_least, .int 0, .int 0, .int 0, .ref a_this_calm, .ref a_this_pace, .ref a_this_trusts, .int 0, .ref a_this_kindOf, .ref a_this_comesAt, .ref a_this_comers, .ref a_this_names, .ref a_this_code, .int 0, .ref a_this_spans])), (a_this_comers, .inl (cy 0, 200, .inl f13712))]) rfl rfl (by decide) (by decide) (by decide) 0 0 (Nat.le_of_ble_eq_true rfl) (Nat.le_of_ble_eq_true rfl) (fun hPc hDc => k_runS (As := [.ref a_this_spans, .int 0]) (rest := []) C0 (c_fillr l dC dI cy sq a_this_spans 6 g_this_spans 0 0 1600 hg_this_spans (ib_w 0 1600 (ib_c 0 0 0 (by decide)) (by decide)) (Nat.le_of_ble_eq_true rfl)) mS_X4_58 hPc hDc hl rfl rfl (Nat.le_of_ble_eq_true rfl) ⟨(Nat.le_of_ble_eq_true rfl), (Nat.le_of_ble_eq_true rfl)⟩ ⟨(Nat.le_of_ble_eq_true rfl), (Nat.le_of_ble_eq_true rfl)⟩ dX4_clear_43) (fun u13714 H locs hw hP hD hS => ?_)
  obtain ⟨f13715, ef13715⟩ : ∃ z, z = u13714 := ⟨_, rfl⟩; subst ef13715
  have hP : va_P (dC, dI) vwCl [(a_this, .inr (4, [.int 0, .int x_this_green, .int x_this_rule, .int x_this_least, .int 0, .int 0, .int 0, .ref a_this_calm, .ref a_this_pace, .ref a_this_trusts, .int 0, .ref a_this_kindOf, .ref a_this_comesAt, .ref a_this_comers, .ref a_this_names, .ref a_this_code, .int 0, .ref a_this_spans])), (a_this_comers, .inl (cy 0, 200, .inl f13712)), (a_this_spans, .inl (cy 0, 6, .inl f13715))] H := hP
  have hD : va_D A [(a_this, .inr (4, [.int 0, .int x_this_green, .int x_this_rule, .int x_this_least, .int 0, .int 0, .int 0, .ref a_this_calm, .ref a_this_pace, .ref a_this_trusts, .int 0, .ref a_this_kindOf, .ref a_this_comesAt, .ref a_this_comers, .ref a_this_names, .ref a_this_code, .int 0, .ref a_this_spans])), (a_this_comers, .inl (cy 0, 200, .inl f13712)), (a_this_spans, .inl (cy 0, 6, .inl f13715))] := hD
  have h13716 := hw
  subst hQ; exact k_vret hx hb hr hlk ((0, 0, 0, 0, 0, 0, f13712, f13715)) hS ⟨ib_w 0 120 (ib_c 0 0 0 (by decide)) (by decide), ib_w 0 0 (ib_c 0 0 0 (by decide)) (by decide), ib_w 0 81 (ib_c 0 0 0 (by decide)) (by decide), ib_w 0 6 (ib_c 0 0 0 (by decide)) (by decide), ib_w 0 12 (ib_c 0 0 0 (by decide)) (by decide), ib_w 0 1600 (ib_c 0 0 0 (by decide)) (by decide), h13716⟩ hP hD (Nat.le_of_ble_eq_true rfl) (Nat.le_of_ble_eq_true rfl) dX4_clear_46
set_option maxHeartbeats 4000000 in
set_option maxRecDepth 100000 in
theorem s_X4_comersIn (l : Launch) (dC : Nat → ClassId) (dI : Nat → Nat → Nat) (cy : Nat → ClassId) (sq : Nat → Nat) (a_this : Nat) (x_this_cycle : Int32) (x_this_green : Int32) (x_this_rule : Int32) (x_this_least : Int32) (x_this_away : Int32) (x_this_statements : Int32) (x_this_kinds : Int32) (a_this_calm : Nat) (a_this_pace : Nat) (a_this_trusts : Nat) (x_this_walkers : Int32) (a_this_kindOf : Nat) (a_this_comesAt : Nat) (a_this_comers : Nat) (g_this_comers : Nat → Int32) (a_this_names : Nat) (a_this_code : Nat) (x_this_size : Int32) (a_this_spans : Nat) (p0 : Int32) (hx_this_cycle : ib x_this_cycle 0 120) (hx_this_least : ib x_this_least 0 99) (hx_this_statements : ib x_this_statements 0 81) (hx_this_kinds : ib x_this_kinds 0 6) (hx_this_walkers : ib x_this_walkers 0 12) (hx_this_size : ib x_this_size 0 1600) : k_Met l yX4_comersIn cX4_comersIn 2 (some .int) { frames := 0, cells := 0, slots := 0, locals := 0 } dC dI cy sq [.ref a_this, .int p0] [(a_this, .inr (4, [.int x_this_cycle, .int x_this_green, .int x_this_rule, .int x_this_least, .int x_this_away, .int x_this_statements, .int x_this_kinds, .ref a_this_calm, .ref a_this_pace, .ref a_this_trusts, .int x_this_walkers, .ref a_this_kindOf, .ref a_this_comesAt, .ref a_this_comers, .ref a_this_names, .ref a_this_code, .int x_this_size, .ref a_this_spans])), (a_this_comers, .inl (cy 0, 200, .inl g_this_comers))] (k_Qi dC dI (fun (r : Int32) (_ : Unit) => True) (fun _ : Unit => [(a_this, .inr (4, [.int x_this_cycle, .int x_this_green, .int x_this_rule, .int x_this_least, .int x_this_away, .int x_this_statements, .int x_this_kinds, .ref a_this_calm, .ref a_this_pace, .ref a_this_trusts, .int x_this_walkers, .ref a_this_kindOf, .ref a_this_comesAt, .ref a_this_comers, .ref a_this_names, .ref a_this_code, .int x_this_size, .ref a_this_spans])), (a_this_comers, .inl (cy 0, 200, .inl g_this_comers))])) := by
  refine k_ofW2 (by decide +kernel) (Nat.le_of_ble_eq_true rfl) ?_
  intro p e s m below meth c A ls H locs args Q hQ C0 hr hlk hin hP hD hA hS hl
  have C0 : k_cx p s m args c cX4_comersIn 2 RX4 dC dI cy sq := C0
  have hx := C0.1
  have hb := C0.2.1
  have hl : lv_has ls 2 [(0, .ref a_this), (1, .int p0)] := hl
  refine lv_iload_n hx hb dX4_comersIn_0 rfl (lv_at hl 1 rfl) ?_
  refine lv_if_lt (tgt := 20) hx hb dX4_comersIn_1 (by decide) (fun c13827 => ?_) (fun c13827 => ?_)
  · have h13828 := ib_lt (ib_any p0) (ib_c 0 0 0 (by decide)) c13827
    have h13829 : ib p0 (-2147483648) (-1) := ib_w (-2147483648) (-1) h13828.1 (by decide)
    refine lv_iconst (v := 0) hx hb dX4_comersIn_20 (by decide) ?_
    subst hQ; exact k_iret hx hb hr hlk rfl () hS True.intro hP hD (Nat.le_of_ble_eq_true rfl) (Nat.le_of_ble_eq_true rfl) dX4_comersIn_21
  · have h13830 := ib_nlt (ib_any p0) (ib_c 0 0 0 (by decide)) c13827
    have h13831 : ib p0 0 2147483647 := ib_w 0 2147483647 h13830.1 (by decide)
    refine lv_iload_n hx hb dX4_comersIn_4 rfl (lv_at hl 1 rfl) ?_
    refine lv_sipush (v := 200) hx hb dX4_comersIn_5 (by decide) ?_
    refine lv_icmp_ge (tgt := 20) hx hb dX4_comersIn_8 (by decide) (fun c13832 => ?_) (fun c13832 => ?_)
    · have h13833 := ib_le (ib_c 200 200 200 (by decide)) h13831 c13832
      have h13834 : ib p0 200 2147483647 := ib_w 200 2147483647 h13833.2 (by decide)
      refine lv_iconst (v := 0) hx hb dX4_comersIn_20 (by decide) ?_
      subst hQ; exact k_iret hx hb hr hlk rfl () hS True.intro hP hD (Nat.le_of_ble_eq_true rfl) (Nat.le_of_ble_eq_true rfl) dX4_comersIn_21
    · have h13835 := ib_nle (ib_c 200 200 200 (by decide)) h13831 c13832
      have h13836 : ib p0 0 199 := ib_w 0 199 h13835.2 (by decide)
      refine lv_aload_n hx hb dX4_comersIn_11 rfl (lv_at hl 0 rfl) ?_
      refine k_get C0 fg_X4_27 hP 0 rfl rfl dX4_comersIn_12 ?_
      refine lv_iload_n hx hb dX4_comersIn_15 rfl (lv_at hl 1 rfl) ?_
      refine va_iald hx hb C0.2.2.2.2.2.1 hP 1 0 rfl rfl (ib_in 200 h13836 (by decide)) dX4_comersIn_16 ?_
      refine lv_topi (fun z13837 ez13837 => ?_)
      refine lv_goto (tgt := 21) hx hb dX4_comersIn_17 (by decide) ?_
      subst hQ; exact k_iret hx hb hr hlk rfl () hS True.intro hP hD (Nat.le_of_ble_eq_true rfl) (Nat.le_of_ble_eq_true rfl) dX4_comersIn_21
set_option maxHeartbeats 4000000 in
set_option maxRecDepth 100000 in
theorem s_X4_uses (l : Launch) (dC : Nat → ClassId) (dI : Nat → Nat → Nat) (cy : Nat → ClassId) (sq : Nat → Nat) (a_this : Nat) (x_this_cycle : Int32) (x_this_green : Int32) (x_this_rule : Int32) (x_this_least : Int32) (x_this_away : Int32) (x_this_statements : Int32) (x_this_kinds : Int32) (a_this_calm : Nat) (a_this_pace : Nat) (a_this_trusts : Nat) (x_this_walkers : Int32) (a_this_kindOf : Nat) (a_this_comesAt : Nat) (a_this_comers : Nat) (a_this_names : Nat) (a_this_code : Nat) (g_this_code : Nat → Int32) (x_this_size : Int32) (a_this_spans : Nat) (g_this_spans : Nat → Int32) (p0 : Int32) (p1 : Int32) (hx_this_cycle : ib x_this_cycle 0 120) (hx_this_least : ib x_this_least 0 99) (hx_this_statements : ib x_this_statements 0 81) (hx_this_kinds : ib x_this_kinds 0 6) (hx_this_walkers : ib x_this_walkers 0 12) (hx_this_size : ib x_this_size 0 1600) (hg_this_spans : ia g_this_spans 6 0 1600) (hp0 : ib p0 0 4) : k_Met l yX4_uses cX4_uses 4 (some .boolean) { frames := 0, cells := 0, slots := 0, locals := 0 } dC dI cy sq [.ref a_this, .int p0, .int p1] [(a_this, .inr (4, [.int x_this_cycle, .int x_this_green, .int x_this_rule, .int x_this_least, .int x_this_away, .int x_this_statements, .int x_this_kinds, .ref a_this_calm, .ref a_this_pace, .ref a_this_trusts, .int x_this_walkers, .ref a_this_kindOf, .ref a_this_comesAt, .ref a_this_comers, .ref a_this_names, .ref a_this_code, .int x_this_size, .ref a_this_spans])), (a_this_spans, .inl (cy 0, 6, .inl g_this_spans)), (a_this_code, .inl (cy 0, 1600, .inl g_this_code))] (k_Qi dC dI (fun (r : Int32) (_ : Unit) => ib r 0 1) (fun _ : Unit => [(a_this, .inr (4, [.int x_this_cycle, .int x_this_green, .int x_this_rule, .int x_this_least, .int x_this_away, .int x_this_statements, .int x_this_kinds, .ref a_this_calm, .ref a_this_pace, .ref a_this_trusts, .int x_this_walkers, .ref a_this_kindOf, .ref a_this_comesAt, .ref a_this_comers, .ref a_this_names, .ref a_this_code, .int x_this_size, .ref a_this_spans])), (a_this_spans, .inl (cy 0, 6, .inl g_this_spans)), (a_this_code, .inl (cy 0, 1600, .inl g_this_code))])) := by
  refine k_ofW2 (by decide +kernel) (Nat.le_of_ble_eq_true rfl) ?_
  intro p e s m below meth c A ls H locs args Q hQ C0 hr hlk hin hP hD hA hS hl
  have C0 : k_cx p s m args c cX4_uses 4 RX4 dC dI cy sq := C0
  have hx := C0.1
  have hb := C0.2.1
  have hl : lv_has ls 4 [(0, .ref a_this), (1, .int p0), (2, .int p1)] := hl
  have jn7 : ∀ (n : Nat) (J7_l3 : Int32) (H : Heap) (locs : List Loc) (ls : Array Slot), ib J7_l3 0 1600 → 1601 ≤ J7_l3.toInt + (n : Int) → va_P (dC, dI) vwCl [(a_this, .inr (4, [.int x_this_cycle, .int x_this_green, .int x_this_rule, .int x_this_least, .int x_this_away, .int x_this_statements, .int x_this_kinds, .ref a_this_calm, .ref a_this_pace, .ref a_this_trusts, .int x_this_walkers, .ref a_this_kindOf, .ref a_this_comesAt, .ref a_this_comers, .ref a_this_names, .ref a_this_code, .int x_this_size, .ref a_this_spans])), (a_this_spans, .inl (cy 0, 6, .inl g_this_spans)), (a_this_code, .inl (cy 0, 1600, .inl g_this_code))] H → va_D A [(a_this, .inr (4, [.int x_this_cycle, .int x_this_green, .int x_this_rule, .int x_this_least, .int x_this_away, .int x_this_statements, .int x_this_kinds, .ref a_this_calm, .ref a_this_pace, .ref a_this_trusts, .int x_this_walkers, .ref a_this_kindOf, .ref a_this_comesAt, .ref a_this_comers, .ref a_this_names, .ref a_this_code, .int x_this_size, .ref a_this_spans])), (a_this_spans, .inl (cy 0, 6, .inl g_this_spans)), (a_this_code, .inl (cy 0, 1600, .inl g_this_code))] → va_S A s.heap H locs → lv_has ls 4 [(0, .ref a_this), (1, .int p0), (2, .int p1), (3, .int J7_l3)] → W p l e { frames := 0, cells := 0, slots := 0, locals := 0 } s m args below meth c H locs 0 0 Q (F0 m 7 ls []) := by
    intro n
    induction n with
    | zero =>
      intro J7_l3 H locs ls hJ7_l3 hm
      exact absurd hm (by have := hJ7_l3; unfold ib at this; omega)
    | succ n ih =>
      intro J7_l3 H locs ls hJ7_l3 hm7 hP hD hS hl
      have ih7 := ih
      refine lv_iload_n hx hb dX4_uses_7 rfl (lv_at hl 3 rfl) ?_
      refine lv_aload_n hx hb dX4_uses_8 rfl (lv_at hl 0 rfl) ?_
      refine k_get C0 fg_X4_36 hP 0 rfl rfl dX4_uses_9 ?_
      refine lv_iload_n hx hb dX4_uses_12 rfl (lv_at hl 1 rfl) ?_
      refine lv_iconst (v := 1) hx hb dX4_uses_13 (by decide) ?_
      refine lv_iadd hx hb dX4_uses_14 ?_
      refine lv_topi (fun z14018 ez14018 => ?_)
      have h14019 := ib_add hp0 (ib_c 1 1 1 (by decide)) (by decide)
      rw [← ez14018] at h14019
      have h14020 : ib z14018 1 5 := ib_w 1 5 h14019.1 (by decide)
      refine va_iald hx hb C0.2.2.2.2.2.1 hP 1 0 rfl rfl (ib_in 6 h14020 (by decide)) dX4_uses_15 ?_
      refine lv_topi (fun z14021 ez14021 => ?_)
      have h14022 : ib z14021 0 1600 := by rw [ez14021]; exact ia_at hg_this_spans (ib_in 6 h14020 (by decide))
      refine lv_icmp_ge (tgt := 37) hx hb dX4_uses_16 (by decide) (fun c14023 => ?_) (fun c14023 => ?_)
      · have h14024 := ib_le h14022 hJ7_l3 c14023
        refine lv_iconst (v := 0) hx hb dX4_uses_37 (by decide) ?_
        subst hQ; exact k_iret hx hb hr hlk (k_nb 0 (by decide)) () hS (ib_w 0 1 (ib_c 0 0 0 (by decide)) (by decide)) hP hD (Nat.le_of_ble_eq_true rfl) (Nat.le_of_ble_eq_true rfl) dX4_uses_38
      · have h14025 := ib_nle h14022 hJ7_l3 c14023
        have h14026 : ib z14021 1 1600 := ib_w 1 1600 h14025.1 (by decide)
        have h14027 : ib J7_l3 0 1599 := ib_w 0 1599 h14025.2 (by decide)
        refine lv_aload_n hx hb dX4_uses_19 rfl (lv_at hl 0 rfl) ?_
        refine k_get C0 fg_X4_33 hP 0 rfl rfl dX4_uses_20 ?_
        refine lv_iload_n hx hb dX4_uses_23 rfl (lv_at hl 3 rfl) ?_
        refine va_iald hx hb C0.2.2.2.2.2.1 hP 2 0 rfl rfl (ib_in 1600 h14027 (by decide)) dX4_uses_24 ?_
        refine lv_topi (fun z14028 ez14028 => ?_)
        refine lv_iload_n hx hb dX4_uses_25 rfl (lv_at hl 2 rfl) ?_
        refine lv_icmp_ne (tgt := 31) hx hb dX4_uses_26 (by decide) (fun c14029 => ?_) (fun c14029 => ?_)
        · skip
          obtain ⟨z14030, ez14030⟩ : ∃ y : Int32, y = J7_l3 + 1 := ⟨_, rfl⟩
          refine lv_iinc (v := z14030) (lv' := [(3, .int z14030), (0, .ref a_this), (1, .int p0), (2, .int p1)]) hx hb dX4_uses_31 hl (k := 3) rfl (by rw [ez14030]; rfl) (by decide) rfl (fun ls hl => ?_)
          have h14031 := ib_add h14027 (ib_c 1 1 1 (by decide)) (by decide)
          rw [← ez14030] at h14031
          have h14032 : ib z14030 1 1600 := ib_w 1 1600 h14031.1 (by decide)
          refine lv_goto (tgt := 7) hx hb dX4_uses_34 (by decide) ?_
          exact ih7 z14030 H locs ls (ib_w 0 1600 h14032 (by decide)) (by have := h14031.2; have : (1 : Int32).toInt = 1 := (by decide); omega) hP hD hS (lv_sub hl [1, 2, 3, 0] rfl)
        · have h14033 := ib_eq (ib_any z14028) (ib_any p1) c14029
          refine lv_iconst (v := 1) hx hb dX4_uses_29 (by decide) ?_
          subst hQ; exact k_iret hx hb hr hlk (k_nb 1 (by decide)) () hS (ib_w 0 1 (ib_c 1 1 1 (by decide)) (by decide)) hP hD (Nat.le_of_ble_eq_true rfl) (Nat.le_of_ble_eq_true rfl) dX4_uses_30
  refine lv_aload_n hx hb dX4_uses_0 rfl (lv_at hl 0 rfl) ?_
  refine k_get C0 fg_X4_36 hP 0 rfl rfl dX4_uses_1 ?_
  refine lv_iload_n hx hb dX4_uses_4 rfl (lv_at hl 1 rfl) ?_
  refine va_iald hx hb C0.2.2.2.2.2.1 hP 1 0 rfl rfl (ib_in 6 hp0 (by decide)) dX4_uses_5 ?_
  refine lv_topi (fun z14034 ez14034 => ?_)
  have h14035 : ib z14034 0 1600 := by rw [ez14034]; exact ia_at hg_this_spans (ib_in 6 hp0 (by decide))
  refine lv_istore_n (lv' := [(3, .int z14034), (0, .ref a_this), (1, .int p0), (2, .int p1)]) hx hb dX4_uses_6 rfl hl (by decide) rfl (fun ls hl => ?_)
  exact jn7 1602 z14034 H locs ls (ib_w 0 1600 h14035 (by decide)) (by have := h14035; unfold ib at this; omega) hP hD hS (lv_sub hl [1, 2, 3, 0] rfl)
set_option maxHeartbeats 4000000 in
set_option maxRecDepth 100000 in
theorem s_X4_walkersOf (l : Launch) (dC : Nat → ClassId) (dI : Nat → Nat → Nat) (cy : Nat → ClassId) (sq : Nat → Nat) (a_this : Nat) (x_this_cycle : Int32) (x_this_green : Int32) (x_this_rule : Int32) (x_this_least : Int32) (x_this_away : Int32) (x_this_statements : Int32) (x_this_kinds : Int32) (a_this_calm : Nat) (a_this_pace : Nat) (a_this_trusts : Nat) (x_this_walkers : Int32) (a_this_kindOf : Nat) (g_this_kindOf : Nat → Int32) (a_this_comesAt : Nat) (a_this_comers : Nat) (a_this_names : Nat) (a_this_code : Nat) (x_this_size : Int32) (a_this_spans : Nat) (p0 : Int32) (hx_this_cycle : ib x_this_cycle 0 120) (hx_this_least : ib x_this_least 0 99) (hx_this_statements : ib x_this_statements 0 81) (hx_this_kinds : ib x_this_kinds 0 6) (hx_this_walkers : ib x_this_walkers 0 12) (hg_this_kindOf : ia g_this_kindOf 12 0 5) (hx_this_size : ib x_this_size 0 1600) : k_Met l yX4_walkersOf cX4_walkersOf 4 (some .int) { frames := 0, cells := 0, slots := 0, locals := 0 } dC dI cy sq [.ref a_this, .int p0] [(a_this, .inr (4, [.int x_this_cycle, .int x_this_green, .int x_this_rule, .int x_this_least, .int x_this_away, .int x_this_statements, .int x_this_kinds, .ref a_this_calm, .ref a_this_pace, .ref a_this_trusts, .int x_this_walkers, .ref a_this_kindOf, .ref a_this_comesAt, .ref a_this_comers, .ref a_this_names, .ref a_this_code, .int x_this_size, .ref a_this_spans])), (a_this_kindOf, .inl (cy 0, 12, .inl g_this_kindOf))] (k_Qi dC dI (fun (r : Int32) (_ : Unit) => True) (fun _ : Unit => [(a_this, .inr (4, [.int x_this_cycle, .int x_this_green, .int x_this_rule, .int x_this_least, .int x_this_away, .int x_this_statements, .int x_this_kinds, .ref a_this_calm, .ref a_this_pace, .ref a_this_trusts, .int x_this_walkers, .ref a_this_kindOf, .ref a_this_comesAt, .ref a_this_comers, .ref a_this_names, .ref a_this_code, .int x_this_size, .ref a_this_spans])), (a_this_kindOf, .inl (cy 0, 12, .inl g_this_kindOf))])) := by
  refine k_ofW2 (by decide +kernel) (Nat.le_of_ble_eq_true rfl) ?_
  intro p e s m below meth c A ls H locs args Q hQ C0 hr hlk hin hP hD hA hS hl
  have C0 : k_cx p s m args c cX4_walkersOf 4 RX4 dC dI cy sq := C0
  have hx := C0.1
  have hb := C0.2.1
  have hl : lv_has ls 4 [(0, .ref a_this), (1, .int p0)] := hl
  have jn4 : ∀ (n : Nat) (J4_l3 : Int32) (J4_l2 : Int32) (H : Heap) (locs : List Loc) (ls : Array Slot), ib J4_l3 0 12 → 13 ≤ J4_l3.toInt + (n : Int) → va_P (dC, dI) vwCl [(a_this, .inr (4, [.int x_this_cycle, .int x_this_green, .int x_this_rule, .int x_this_least, .int x_this_away, .int x_this_statements, .int x_this_kinds, .ref a_this_calm, .ref a_this_pace, .ref a_this_trusts, .int x_this_walkers, .ref a_this_kindOf, .ref a_this_comesAt, .ref a_this_comers, .ref a_this_names, .ref a_this_code, .int x_this_size, .ref a_this_spans])), (a_this_kindOf, .inl (cy 0, 12, .inl g_this_kindOf))] H → va_D A [(a_this, .inr (4, [.int x_this_cycle, .int x_this_green, .int x_this_rule, .int x_this_least, .int x_this_away, .int x_this_statements, .int x_this_kinds, .ref a_this_calm, .ref a_this_pace, .ref a_this_trusts, .int x_this_walkers, .ref a_this_kindOf, .ref a_this_comesAt, .ref a_this_comers, .ref a_this_names, .ref a_this_code, .int x_this_size, .ref a_this_spans])), (a_this_kindOf, .inl (cy 0, 12, .inl g_this_kindOf))] → va_S A s.heap H locs → lv_has ls 4 [(0, .ref a_this), (1, .int p0), (2, .int J4_l2), (3, .int J4_l3)] → W p l e { frames := 0, cells := 0, slots := 0, locals := 0 } s m args below meth c H locs 0 0 Q (F0 m 4 ls []) := by
    intro n
    induction n with
    | zero =>
      intro J4_l3 J4_l2 H locs ls hJ4_l3 hm
      exact absurd hm (by have := hJ4_l3; unfold ib at this; omega)
    | succ n ih =>
      intro J4_l3 J4_l2 H locs ls hJ4_l3 hm4 hP hD hS hl
      have ih4 := ih
      have jn28 : ∀ (J28_l2 : Int32) (H : Heap) (locs : List Loc) (ls : Array Slot), ib p0 0 5 → ib J4_l3 0 11 → ib x_this_walkers 1 12 → va_P (dC, dI) vwCl [(a_this, .inr (4, [.int x_this_cycle, .int x_this_green, .int x_this_rule, .int x_this_least, .int x_this_away, .int x_this_statements, .int x_this_kinds, .ref a_this_calm, .ref a_this_pace, .ref a_this_trusts, .int x_this_walkers, .ref a_this_kindOf, .ref a_this_comesAt, .ref a_this_comers, .ref a_this_names, .ref a_this_code, .int x_this_size, .ref a_this_spans])), (a_this_kindOf, .inl (cy 0, 12, .inl g_this_kindOf))] H → va_D A [(a_this, .inr (4, [.int x_this_cycle, .int x_this_green, .int x_this_rule, .int x_this_least, .int x_this_away, .int x_this_statements, .int x_this_kinds, .ref a_this_calm, .ref a_this_pace, .ref a_this_trusts, .int x_this_walkers, .ref a_this_kindOf, .ref a_this_comesAt, .ref a_this_comers, .ref a_this_names, .ref a_this_code, .int x_this_size, .ref a_this_spans])), (a_this_kindOf, .inl (cy 0, 12, .inl g_this_kindOf))] → va_S A s.heap H locs → lv_has ls 4 [(0, .ref a_this), (1, .int p0), (2, .int J28_l2), (3, .int J4_l3)] → W p l e { frames := 0, cells := 0, slots := 0, locals := 0 } s m args below meth c H locs 0 0 Q (F0 m 28 ls []) := by
        intro J28_l2 H locs ls hJ28_l1 hJ28_l3 hJ28_c0_10 hP hD hS hl
        obtain ⟨z14362, ez14362⟩ : ∃ y : Int32, y = J4_l3 + 1 := ⟨_, rfl⟩
        refine lv_iinc (v := z14362) (lv' := [(3, .int z14362), (0, .ref a_this), (1, .int p0), (2, .int J28_l2)]) hx hb dX4_walkersOf_28 hl (k := 3) rfl (by rw [ez14362]; rfl) (by decide) rfl (fun ls hl => ?_)
        have h14363 := ib_add hJ28_l3 (ib_c 1 1 1 (by decide)) (by decide)
        rw [← ez14362] at h14363
        have h14364 : ib z14362 1 12 := ib_w 1 12 h14363.1 (by decide)
        refine lv_goto (tgt := 4) hx hb dX4_walkersOf_31 (by decide) ?_
        exact ih4 z14362 J28_l2 H locs ls (ib_w 0 12 h14364 (by decide)) (by have := h14363.2; have : (1 : Int32).toInt = 1 := (by decide); omega) hP hD hS (lv_sub hl [1, 2, 3, 0] rfl)
      refine lv_iload_n hx hb dX4_walkersOf_4 rfl (lv_at hl 3 rfl) ?_
      refine lv_aload_n hx hb dX4_walkersOf_5 rfl (lv_at hl 0 rfl) ?_
      refine k_get C0 fg_X4_52 hP 0 rfl rfl dX4_walkersOf_6 ?_
      refine lv_icmp_ge (tgt := 34) hx hb dX4_walkersOf_9 (by decide) (fun c14365 => ?_) (fun c14365 => ?_)
      · have h14366 := ib_le hx_this_walkers hJ4_l3 c14365
        refine lv_iload_n hx hb dX4_walkersOf_34 rfl (lv_at hl 2 rfl) ?_
        subst hQ; exact k_iret hx hb hr hlk rfl () hS True.intro hP hD (Nat.le_of_ble_eq_true rfl) (Nat.le_of_ble_eq_true rfl) dX4_walkersOf_35
      · have h14367 := ib_nle hx_this_walkers hJ4_l3 c14365
        have h14368 : ib x_this_walkers 1 12 := ib_w 1 12 h14367.1 (by decide)
        have h14369 : ib J4_l3 0 11 := ib_w 0 11 h14367.2 (by decide)
        refine lv_aload_n hx hb dX4_walkersOf_12 rfl (lv_at hl 0 rfl) ?_
        refine k_get C0 fg_X4_21 hP 0 rfl rfl dX4_walkersOf_13 ?_
        refine lv_iload_n hx hb dX4_walkersOf_16 rfl (lv_at hl 3 rfl) ?_
        refine va_iald hx hb C0.2.2.2.2.2.1 hP 1 0 rfl rfl (ib_in 12 h14369 (by decide)) dX4_walkersOf_17 ?_
        refine lv_topi (fun z14370 ez14370 => ?_)
        have h14371 : ib z14370 0 5 := by rw [ez14370]; exact ia_at hg_this_kindOf (ib_in 12 h14369 (by decide))
        refine lv_iload_n hx hb dX4_walkersOf_18 rfl (lv_at hl 1 rfl) ?_
        refine lv_icmp_ne (tgt := 28) hx hb dX4_walkersOf_19 (by decide) (fun c14372 => ?_) (fun c14372 => ?_)
        · skip
          obtain ⟨z14373, ez14373⟩ : ∃ y : Int32, y = J4_l3 + 1 := ⟨_, rfl⟩
          refine lv_iinc (v := z14373) (lv' := [(3, .int z14373), (0, .ref a_this), (1, .int p0), (2, .int J4_l2)]) hx hb dX4_walkersOf_28 hl (k := 3) rfl (by rw [ez14373]; rfl) (by decide) rfl (fun ls hl => ?_)
          have h14374 := ib_add h14369 (ib_c 1 1 1 (by decide)) (by decide)
          rw [← ez14373] at h14374
          have h14375 : ib z14373 1 12 := ib_w 1 12 h14374.1 (by decide)
          refine lv_goto (tgt := 4) hx hb dX4_walkersOf_31 (by decide) ?_
          exact ih4 z14373 J4_l2 H locs ls (ib_w 0 12 h14375 (by decide)) (by have := h14374.2; have : (1 : Int32).toInt = 1 := (by decide); omega) hP hD hS (lv_sub hl [1, 2, 3, 0] rfl)
        · have h14376 := ib_eq h14371 (ib_any p0) c14372
          have h14377 : ib p0 0 5 := ib_w 0 5 h14376.2 (by decide)
          refine lv_iload_n hx hb dX4_walkersOf_22 rfl (lv_at hl 2 rfl) ?_
          refine lv_iconst (v := 1) hx hb dX4_walkersOf_23 (by decide) ?_
          refine lv_iload_n hx hb dX4_walkersOf_24 rfl (lv_at hl 3 rfl) ?_
          refine lv_ishl hx hb dX4_walkersOf_25 ?_
          refine lv_topi (fun z14378 ez14378 => ?_)
          refine lv_ior hx hb dX4_walkersOf_26 ?_
          refine lv_topi (fun z14379 ez14379 => ?_)
          refine lv_istore_n (lv' := [(2, .int z14379), (0, .ref a_this), (1, .int p0), (3, .int J4_l3)]) hx hb dX4_walkersOf_27 rfl hl (by decide) rfl (fun ls hl => ?_)
          exact jn28 z14379 H locs ls (ib_w 0 5 h14377 (by decide)) (ib_w 0 11 h14369 (by decide)) (ib_w 1 12 h14368 (by decide)) hP hD hS (lv_sub hl [1, 2, 0, 3] rfl)
  refine lv_iconst (v := 0) hx hb dX4_walkersOf_0 (by decide) ?_
  refine lv_istore_n (lv' := [(2, .int 0), (0, .ref a_this), (1, .int p0)]) hx hb dX4_walkersOf_1 rfl hl (by decide) rfl (fun ls hl => ?_)
  refine lv_iconst (v := 0) hx hb dX4_walkersOf_2 (by decide) ?_
  refine lv_istore_n (lv' := [(3, .int 0), (2, .int 0), (0, .ref a_this), (1, .int p0)]) hx hb dX4_walkersOf_3 rfl hl (by decide) rfl (fun ls hl => ?_)
  exact jn4 14 0 0 H locs ls (ib_w 0 12 (ib_c 0 0 0 (by decide)) (by decide)) (by have := (ib_c 0 0 0 (by decide)); unfold ib at this; omega) hP hD hS (lv_sub hl [2, 3, 1, 0] rfl)
set_option maxHeartbeats 4000000 in
set_option maxRecDepth 100000 in
theorem s_X5_sortOf (l : Launch) (dC : Nat → ClassId) (dI : Nat → Nat → Nat) (cy : Nat → ClassId) (sq : Nat → Nat) (a_this : Nat) (a_this_text : Nat) (g_this_text : Nat → Int32) (x_this_length : Int32) (x_this_at : Int32) (x_this_behind : Int32) (x_this_sort : Int32) (x_this_allowed : Int32) (a_this_plan : Nat) (x_this_fault : Int32) (x_this_place : Int32) (p0 : Int32) (hg_this_text : ia g_this_text 1600 0 255) (hx_this_length : ib x_this_length 0 1600) (hx_this_at : ib x_this_at 0 1600) (hx_this_behind : ib x_this_behind 0 1600) (hx_this_sort : ib x_this_sort 0 4) : k_Met l yX5_sortOf cX5_sortOf 2 (some .int) { frames := 0, cells := 0, slots := 0, locals := 0 } dC dI cy sq [.ref a_this, .int p0] [(a_this, .inr (5, [.ref a_this_text, .int x_this_length, .int x_this_at, .int x_this_behind, .int x_this_sort, .int x_this_allowed, .ref a_this_plan, .int x_this_fault, .int x_this_place])), (a_this_text, .inl (cy 0, 1600, .inl g_this_text))] (k_Qi dC dI (fun (r : Int32) (_ : Unit) => ib r 0 3) (fun _ : Unit => [(a_this, .inr (5, [.ref a_this_text, .int x_this_length, .int x_this_at, .int x_this_behind, .int x_this_sort, .int x_this_allowed, .ref a_this_plan, .int x_this_fault, .int x_this_place])), (a_this_text, .inl (cy 0, 1600, .inl g_this_text))])) := by
  refine k_ofW2 (by decide +kernel) (Nat.le_of_ble_eq_true rfl) ?_
  intro p e s m below meth c A ls H locs args Q hQ C0 hr hlk hin hP hD hA hS hl
  have C0 : k_cx p s m args c cX5_sortOf 2 RX5 dC dI cy sq := C0
  have hx := C0.1
  have hb := C0.2.1
  have hl : lv_has ls 2 [(0, .ref a_this), (1, .int p0)] := hl
  refine lv_iload_n hx hb dX5_sortOf_0 rfl (lv_at hl 1 rfl) ?_
  refine lv_if_lt (tgt := 12) hx hb dX5_sortOf_1 (by decide) (fun c14922 => ?_) (fun c14922 => ?_)
  · have h14923 := ib_lt (ib_any p0) (ib_c 0 0 0 (by decide)) c14922
    have h14924 : ib p0 (-2147483648) (-1) := ib_w (-2147483648) (-1) h14923.1 (by decide)
    refine lv_iconst (v := 0) hx hb dX5_sortOf_12 (by decide) ?_
    subst hQ; exact k_iret hx hb hr hlk rfl () hS (ib_w 0 3 (ib_c 0 0 0 (by decide)) (by decide)) hP hD (Nat.le_of_ble_eq_true rfl) (Nat.le_of_ble_eq_true rfl) dX5_sortOf_13
  · have h14925 := ib_nlt (ib_any p0) (ib_c 0 0 0 (by decide)) c14922
    have h14926 : ib p0 0 2147483647 := ib_w 0 2147483647 h14925.1 (by decide)
    refine lv_iload_n hx hb dX5_sortOf_4 rfl (lv_at hl 1 rfl) ?_
    refine lv_aload_n hx hb dX5_sortOf_5 rfl (lv_at hl 0 rfl) ?_
    refine k_get C0 fg_X5_11 hP 0 rfl rfl dX5_sortOf_6 ?_
    refine lv_icmp_lt (tgt := 14) hx hb dX5_sortOf_9 (by decide) (fun c14927 => ?_) (fun c14927 => ?_)
    · have h14928 := ib_lt h14926 hx_this_length c14927
      have h14929 : ib p0 0 1599 := ib_w 0 1599 h14928.1 (by decide)
      have h14930 : ib x_this_length 1 1600 := ib_w 1 1600 h14928.2 (by decide)
      refine lv_aload_n hx hb dX5_sortOf_14 rfl (lv_at hl 0 rfl) ?_
      refine k_get C0 fg_X5_33 hP 0 rfl rfl dX5_sortOf_15 ?_
      refine lv_iload_n hx hb dX5_sortOf_18 rfl (lv_at hl 1 rfl) ?_
      refine va_iald hx hb C0.2.2.2.2.2.1 hP 1 0 rfl rfl (ib_in 1600 h14929 (by decide)) dX5_sortOf_19 ?_
      refine lv_topi (fun z14931 ez14931 => ?_)
      have h14932 : ib z14931 0 255 := by rw [ez14931]; exact ia_at hg_this_text (ib_in 1600 h14929 (by decide))
      refine lv_bipush (v := 97) hx hb dX5_sortOf_20 (by decide) ?_
      refine lv_icmp_lt (tgt := 38) hx hb dX5_sortOf_22 (by decide) (fun c14933 => ?_) (fun c14933 => ?_)
      · have h14934 := ib_lt h14932 (ib_c 97 97 97 (by decide)) c14933
        have h14935 : ib z14931 0 96 := ib_w 0 96 h14934.1 (by decide)
        refine lv_aload_n hx hb dX5_sortOf_38 rfl (lv_at hl 0 rfl) ?_
        refine k_get C0 fg_X5_33 hP 0 rfl rfl dX5_sortOf_39 ?_
        refine lv_iload_n hx hb dX5_sortOf_42 rfl (lv_at hl 1 rfl) ?_
        refine va_iald hx hb C0.2.2.2.2.2.1 hP 1 0 rfl rfl (ib_in 1600 h14929 (by decide)) dX5_sortOf_43 ?_
        refine lv_topi (fun z14936 ez14936 => ?_)
        have h14937 : ib z14936 0 255 := by rw [ez14936]; exact ia_at hg_this_text (ib_in 1600 h14929 (by decide))
        refine lv_bipush (v := 48) hx hb dX5_sortOf_44 (by decide) ?_
        refine lv_icmp_lt (tgt := 64) hx hb dX5_sortOf_46 (by decide) (fun c14938 => ?_) (fun c14938 => ?_)
        · have h14939 := ib_lt h14937 (ib_c 48 48 48 (by decide)) c14938
          have h14940 : ib z14936 0 47 := ib_w 0 47 h14939.1 (by decide)
          refine lv_iconst (v := 3) hx hb dX5_sortOf_64 (by decide) ?_
          subst hQ; exact k_iret hx hb hr hlk rfl () hS (ib_w 0 3 (ib_c 3 3 3 (by decide)) (by decide)) hP hD (Nat.le_of_ble_eq_true rfl) (Nat.le_of_ble_eq_true rfl) dX5_sortOf_65
        · have h14941 := ib_nlt h14937 (ib_c 48 48 48 (by decide)) c14938
          have h14942 : ib z14936 48 255 := ib_w 48 255 h14941.1 (by decide)
          refine lv_aload_n hx hb dX5_sortOf_49 rfl (lv_at hl 0 rfl) ?_
          refine k_get C0 fg_X5_33 hP 0 rfl rfl dX5_sortOf_50 ?_
          refine lv_iload_n hx hb dX5_sortOf_53 rfl (lv_at hl 1 rfl) ?_
          refine va_iald hx hb C0.2.2.2.2.2.1 hP 1 0 rfl rfl (ib_in 1600 h14929 (by decide)) dX5_sortOf_54 ?_
          refine lv_topi (fun z14943 ez14943 => ?_)
          have h14944 : ib z14943 0 255 := by rw [ez14943]; exact ia_at hg_this_text (ib_in 1600 h14929 (by decide))
          refine lv_bipush (v := 57) hx hb dX5_sortOf_55 (by decide) ?_
          refine lv_icmp_gt (tgt := 64) hx hb dX5_sortOf_57 (by decide) (fun c14945 => ?_) (fun c14945 => ?_)
          · have h14946 := ib_lt (ib_c 57 57 57 (by decide)) h14944 c14945
            have h14947 : ib z14943 58 255 := ib_w 58 255 h14946.2 (by decide)
            refine lv_iconst (v := 3) hx hb dX5_sortOf_64 (by decide) ?_
            subst hQ; exact k_iret hx hb hr hlk rfl () hS (ib_w 0 3 (ib_c 3 3 3 (by decide)) (by decide)) hP hD (Nat.le_of_ble_eq_true rfl) (Nat.le_of_ble_eq_true rfl) dX5_sortOf_65
          · have h14948 := ib_nlt (ib_c 57 57 57 (by decide)) h14944 c14945
            have h14949 : ib z14943 0 57 := ib_w 0 57 h14948.2 (by decide)
            refine lv_iconst (v := 2) hx hb dX5_sortOf_60 (by decide) ?_
            refine lv_goto (tgt := 65) hx hb dX5_sortOf_61 (by decide) ?_
            subst hQ; exact k_iret hx hb hr hlk rfl () hS (ib_w 0 3 (ib_c 2 2 2 (by decide)) (by decide)) hP hD (Nat.le_of_ble_eq_true rfl) (Nat.le_of_ble_eq_true rfl) dX5_sortOf_65
      · have h14950 := ib_nlt h14932 (ib_c 97 97 97 (by decide)) c14933
        have h14951 : ib z14931 97 255 := ib_w 97 255 h14950.1 (by decide)
        refine lv_aload_n hx hb dX5_sortOf_25 rfl (lv_at hl 0 rfl) ?_
        refine k_get C0 fg_X5_33 hP 0 rfl rfl dX5_sortOf_26 ?_
        refine lv_iload_n hx hb dX5_sortOf_29 rfl (lv_at hl 1 rfl) ?_
        refine va_iald hx hb C0.2.2.2.2.2.1 hP 1 0 rfl rfl (ib_in 1600 h14929 (by decide)) dX5_sortOf_30 ?_
        refine lv_topi (fun z14952 ez14952 => ?_)
        have h14953 : ib z14952 0 255 := by rw [ez14952]; exact ia_at hg_this_text (ib_in 1600 h14929 (by decide))
        refine lv_bipush (v := 122) hx hb dX5_sortOf_31 (by decide) ?_
        refine lv_icmp_gt (tgt := 38) hx hb dX5_sortOf_33 (by decide) (fun c14954 => ?_) (fun c14954 => ?_)
        · have h14955 := ib_lt (ib_c 122 122 122 (by decide)) h14953 c14954
          have h14956 : ib z14952 123 255 := ib_w 123 255 h14955.2 (by decide)
          refine lv_aload_n hx hb dX5_sortOf_38 rfl (lv_at hl 0 rfl) ?_
          refine k_get C0 fg_X5_33 hP 0 rfl rfl dX5_sortOf_39 ?_
          refine lv_iload_n hx hb dX5_sortOf_42 rfl (lv_at hl 1 rfl) ?_
          refine va_iald hx hb C0.2.2.2.2.2.1 hP 1 0 rfl rfl (ib_in 1600 h14929 (by decide)) dX5_sortOf_43 ?_
          refine lv_topi (fun z14957 ez14957 => ?_)
          have h14958 : ib z14957 0 255 := by rw [ez14957]; exact ia_at hg_this_text (ib_in 1600 h14929 (by decide))
          refine lv_bipush (v := 48) hx hb dX5_sortOf_44 (by decide) ?_
          refine lv_icmp_lt (tgt := 64) hx hb dX5_sortOf_46 (by decide) (fun c14959 => ?_) (fun c14959 => ?_)
          · have h14960 := ib_lt h14958 (ib_c 48 48 48 (by decide)) c14959
            have h14961 : ib z14957 0 47 := ib_w 0 47 h14960.1 (by decide)
            refine lv_iconst (v := 3) hx hb dX5_sortOf_64 (by decide) ?_
            subst hQ; exact k_iret hx hb hr hlk rfl () hS (ib_w 0 3 (ib_c 3 3 3 (by decide)) (by decide)) hP hD (Nat.le_of_ble_eq_true rfl) (Nat.le_of_ble_eq_true rfl) dX5_sortOf_65
          · have h14962 := ib_nlt h14958 (ib_c 48 48 48 (by decide)) c14959
            have h14963 : ib z14957 48 255 := ib_w 48 255 h14962.1 (by decide)
            refine lv_aload_n hx hb dX5_sortOf_49 rfl (lv_at hl 0 rfl) ?_
            refine k_get C0 fg_X5_33 hP 0 rfl rfl dX5_sortOf_50 ?_
            refine lv_iload_n hx hb dX5_sortOf_53 rfl (lv_at hl 1 rfl) ?_
            refine va_iald hx hb C0.2.2.2.2.2.1 hP 1 0 rfl rfl (ib_in 1600 h14929 (by decide)) dX5_sortOf_54 ?_
            refine lv_topi (fun z14964 ez14964 => ?_)
            have h14965 : ib z14964 0 255 := by rw [ez14964]; exact ia_at hg_this_text (ib_in 1600 h14929 (by decide))
            refine lv_bipush (v := 57) hx hb dX5_sortOf_55 (by decide) ?_
            refine lv_icmp_gt (tgt := 64) hx hb dX5_sortOf_57 (by decide) (fun c14966 => ?_) (fun c14966 => ?_)
            · have h14967 := ib_lt (ib_c 57 57 57 (by decide)) h14965 c14966
              have h14968 : ib z14964 58 255 := ib_w 58 255 h14967.2 (by decide)
              refine lv_iconst (v := 3) hx hb dX5_sortOf_64 (by decide) ?_
              subst hQ; exact k_iret hx hb hr hlk rfl () hS (ib_w 0 3 (ib_c 3 3 3 (by decide)) (by decide)) hP hD (Nat.le_of_ble_eq_true rfl) (Nat.le_of_ble_eq_true rfl) dX5_sortOf_65
            · have h14969 := ib_nlt (ib_c 57 57 57 (by decide)) h14965 c14966
              have h14970 : ib z14964 0 57 := ib_w 0 57 h14969.2 (by decide)
              refine lv_iconst (v := 2) hx hb dX5_sortOf_60 (by decide) ?_
              refine lv_goto (tgt := 65) hx hb dX5_sortOf_61 (by decide) ?_
              subst hQ; exact k_iret hx hb hr hlk rfl () hS (ib_w 0 3 (ib_c 2 2 2 (by decide)) (by decide)) hP hD (Nat.le_of_ble_eq_true rfl) (Nat.le_of_ble_eq_true rfl) dX5_sortOf_65
        · have h14971 := ib_nlt (ib_c 122 122 122 (by decide)) h14953 c14954
          have h14972 : ib z14952 0 122 := ib_w 0 122 h14971.2 (by decide)
          refine lv_iconst (v := 1) hx hb dX5_sortOf_36 (by decide) ?_
          subst hQ; exact k_iret hx hb hr hlk rfl () hS (ib_w 0 3 (ib_c 1 1 1 (by decide)) (by decide)) hP hD (Nat.le_of_ble_eq_true rfl) (Nat.le_of_ble_eq_true rfl) dX5_sortOf_37
    · have h14973 := ib_nlt h14926 hx_this_length c14927
      refine lv_iconst (v := 0) hx hb dX5_sortOf_12 (by decide) ?_
      subst hQ; exact k_iret hx hb hr hlk rfl () hS (ib_w 0 3 (ib_c 0 0 0 (by decide)) (by decide)) hP hD (Nat.le_of_ble_eq_true rfl) (Nat.le_of_ble_eq_true rfl) dX5_sortOf_13
set_option maxHeartbeats 4000000 in
set_option maxRecDepth 100000 in
theorem s_X5_emit (l : Launch) (dC : Nat → ClassId) (dI : Nat → Nat → Nat) (cy : Nat → ClassId) (sq : Nat → Nat) (a_this : Nat) (a_this_text : Nat) (x_this_length : Int32) (x_this_at : Int32) (x_this_behind : Int32) (x_this_sort : Int32) (x_this_allowed : Int32) (a_this_plan : Nat) (x_this_plan_cycle : Int32) (x_this_plan_green : Int32) (x_this_plan_rule : Int32) (x_this_plan_least : Int32) (x_this_plan_away : Int32) (x_this_plan_statements : Int32) (x_this_plan_kinds : Int32) (a_this_plan_calm : Nat) (a_this_plan_pace : Nat) (a_this_plan_trusts : Nat) (x_this_plan_walkers : Int32) (a_this_plan_kindOf : Nat) (a_this_plan_comesAt : Nat) (a_this_plan_comers : Nat) (a_this_plan_names : Nat) (a_this_plan_code : Nat) (g_this_plan_code : Nat → Int32) (x_this_plan_size : Int32) (a_this_plan_spans : Nat) (x_this_fault : Int32) (x_this_place : Int32) (p0 : Int32) (hx_this_length : ib x_this_length 0 1600) (hx_this_at : ib x_this_at 0 1600) (hx_this_behind : ib x_this_behind 0 1600) (hx_this_sort : ib x_this_sort 0 4) (hx_this_plan_cycle : ib x_this_plan_cycle 0 120) (hx_this_plan_least : ib x_this_plan_least 0 99) (hx_this_plan_statements : ib x_this_plan_statements 0 81) (hx_this_plan_kinds : ib x_this_plan_kinds 0 6) (hx_this_plan_walkers : ib x_this_plan_walkers 0 12) (hx_this_plan_size : ib x_this_plan_size 0 1600) : k_Met l yX5_emit cX5_emit 2 none { frames := 0, cells := 0, slots := 0, locals := 0 } dC dI cy sq [.ref a_this, .int p0] [(a_this, .inr (5, [.ref a_this_text, .int x_this_length, .int x_this_at, .int x_this_behind, .int x_this_sort, .int x_this_allowed, .ref a_this_plan, .int x_this_fault, .int x_this_place])), (a_this_plan, .inr (4, [.int x_this_plan_cycle, .int x_this_plan_green, .int x_this_plan_rule, .int x_this_plan_least, .int x_this_plan_away, .int x_this_plan_statements, .int x_this_plan_kinds, .ref a_this_plan_calm, .ref a_this_plan_pace, .ref a_this_plan_trusts, .int x_this_plan_walkers, .ref a_this_plan_kindOf, .ref a_this_plan_comesAt, .ref a_this_plan_comers, .ref a_this_plan_names, .ref a_this_plan_code, .int x_this_plan_size, .ref a_this_plan_spans])), (a_this_plan_code, .inl (cy 0, 1600, .inl g_this_plan_code))] (k_Qv dC dI (fun (u : Int32 × (Nat → Int32)) => match u with | (n0, n1) => ib n0 0 1600) (fun u : Int32 × (Nat → Int32) => match u with | (n0, n1) => [(a_this, .inr (5, [.ref a_this_text, .int x_this_length, .int x_this_at, .int x_this_behind, .int x_this_sort, .int x_this_allowed, .ref a_this_plan, .int x_this_fault, .int x_this_place])), (a_this_plan, .inr (4, [.int x_this_plan_cycle, .int x_this_plan_green, .int x_this_plan_rule, .int x_this_plan_least, .int x_this_plan_away, .int x_this_plan_statements, .int x_this_plan_kinds, .ref a_this_plan_calm, .ref a_this_plan_pace, .ref a_this_plan_trusts, .int x_this_plan_walkers, .ref a_this_plan_kindOf, .ref a_this_plan_comesAt, .ref a_this_plan_comers, .ref a_this_plan_names, .ref a_this_plan_code, .int n0, .ref a_this_plan_spans])), (a_this_plan_code, .inl (cy 0, 1600, .inl n1))])) := by
  refine k_ofW2 (by decide +kernel) (Nat.le_of_ble_eq_true rfl) ?_
  intro p e s m below meth c A ls H locs args Q hQ C0 hr hlk hin hP hD hA hS hl
  have C0 : k_cx p s m args c cX5_emit 2 RX5 dC dI cy sq := C0
  have hx := C0.1
  have hb := C0.2.1
  have hl : lv_has ls 2 [(0, .ref a_this), (1, .int p0)] := hl
  refine lv_aload_n hx hb dX5_emit_0 rfl (lv_at hl 0 rfl) ?_
  refine k_get C0 fg_X5_37 hP 0 rfl rfl dX5_emit_1 ?_
  refine k_get C0 fg_X5_165 hP 1 rfl rfl dX5_emit_4 ?_
  refine lv_aload_n hx hb dX5_emit_7 rfl (lv_at hl 0 rfl) ?_
  refine k_get C0 fg_X5_37 hP 0 rfl rfl dX5_emit_8 ?_
  refine k_get C0 fg_X5_241 hP 1 rfl rfl dX5_emit_11 ?_
  refine va_alen hx hb C0.2.2.2.2.2.1 hP 2 0 rfl rfl (v := 1600) (show Int32.ofNat 1600 = 1600 by decide) dX5_emit_14 ?_
  refine lv_icmp_ge (tgt := 47) hx hb dX5_emit_15 (by decide) (fun c18679 => ?_) (fun c18679 => ?_)
  · have h18680 := ib_le (ib_c 1600 1600 1600 (by decide)) hx_this_plan_size c18679
    have h18681 : ib x_this_plan_size 1600 1600 := ib_w 1600 1600 h18680.2 (by decide)
    subst hQ; exact k_vret hx hb hr hlk ((x_this_plan_size, g_this_plan_code)) hS (ib_w 0 1600 h18681 (by decide)) hP hD (Nat.le_of_ble_eq_true rfl) (Nat.le_of_ble_eq_true rfl) dX5_emit_47
  · have h18682 := ib_nle (ib_c 1600 1600 1600 (by decide)) hx_this_plan_size c18679
    have h18683 : ib x_this_plan_size 0 1599 := ib_w 0 1599 h18682.2 (by decide)
    refine lv_aload_n hx hb dX5_emit_18 rfl (lv_at hl 0 rfl) ?_
    refine k_get C0 fg_X5_37 hP 0 rfl rfl dX5_emit_19 ?_
    refine k_get C0 fg_X5_241 hP 1 rfl rfl dX5_emit_22 ?_
    refine lv_aload_n hx hb dX5_emit_25 rfl (lv_at hl 0 rfl) ?_
    refine k_get C0 fg_X5_37 hP 0 rfl rfl dX5_emit_26 ?_
    refine k_get C0 fg_X5_165 hP 1 rfl rfl dX5_emit_29 ?_
    refine lv_iload_n hx hb dX5_emit_32 rfl (lv_at hl 1 rfl) ?_
    refine va_iast hx hb C0.2.2.2.2.2.1 hP hD hS 2 0 rfl rfl (ib_in 1600 h18683 (by decide)) dX5_emit_33 (fun H locs hP hD hS => ?_)
    have hP : va_P (dC, dI) vwCl [(a_this, .inr (5, [.ref a_this_text, .int x_this_length, .int x_this_at, .int x_this_behind, .int x_this_sort, .int x_this_allowed, .ref a_this_plan, .int x_this_fault, .int x_this_place])), (a_this_plan, .inr (4, [.int x_this_plan_cycle, .int x_this_plan_green, .int x_this_plan_rule, .int x_this_plan_least, .int x_this_plan_away, .int x_this_plan_statements, .int x_this_plan_kinds, .ref a_this_plan_calm, .ref a_this_plan_pace, .ref a_this_plan_trusts, .int x_this_plan_walkers, .ref a_this_plan_kindOf, .ref a_this_plan_comesAt, .ref a_this_plan_comers, .ref a_this_plan_names, .ref a_this_plan_code, .int x_this_plan_size, .ref a_this_plan_spans])), (a_this_plan_code, .inl (cy 0, 1600, .inl (upd g_this_plan_code (Int32.toNatClampNeg x_this_plan_size) p0)))] H := hP
    have hD : va_D A [(a_this, .inr (5, [.ref a_this_text, .int x_this_length, .int x_this_at, .int x_this_behind, .int x_this_sort, .int x_this_allowed, .ref a_this_plan, .int x_this_fault, .int x_this_place])), (a_this_plan, .inr (4, [.int x_this_plan_cycle, .int x_this_plan_green, .int x_this_plan_rule, .int x_this_plan_least, .int x_this_plan_away, .int x_this_plan_statements, .int x_this_plan_kinds, .ref a_this_plan_calm, .ref a_this_plan_pace, .ref a_this_plan_trusts, .int x_this_plan_walkers, .ref a_this_plan_kindOf, .ref a_this_plan_comesAt, .ref a_this_plan_comers, .ref a_this_plan_names, .ref a_this_plan_code, .int x_this_plan_size, .ref a_this_plan_spans])), (a_this_plan_code, .inl (cy 0, 1600, .inl (upd g_this_plan_code (Int32.toNatClampNeg x_this_plan_size) p0)))] := hD
    generalize upd g_this_plan_code (Int32.toNatClampNeg x_this_plan_size) p0 = f18684 at hP hD
    refine lv_aload_n hx hb dX5_emit_34 rfl (lv_at hl 0 rfl) ?_
    refine k_get C0 fg_X5_37 hP 0 rfl rfl dX5_emit_35 ?_
    refine lv_dup hx hb dX5_emit_38 rfl ?_
    refine k_get C0 fg_X5_165 hP 1 rfl rfl dX5_emit_39 ?_
    refine lv_iconst (v := 1) hx hb dX5_emit_42 (by decide) ?_
    refine lv_iadd hx hb dX5_emit_43 ?_
    refine lv_topi (fun z18685 ez18685 => ?_)
    have h18686 := ib_add h18683 (ib_c 1 1 1 (by decide)) (by decide)
    rw [← ez18685] at h18686
    have h18687 : ib z18685 1 1600 := ib_w 1 1600 h18686.1 (by decide)
    refine k_put C0 fp_X5_165 hP hD hS 1 rfl rfl rfl (Nat.le_of_ble_eq_true rfl) dX5_emit_44 (fun H locs hP hD hS => ?_)
    have hP : va_P (dC, dI) vwCl [(a_this, .inr (5, [.ref a_this_text, .int x_this_length, .int x_this_at, .int x_this_behind, .int x_this_sort, .int x_this_allowed, .ref a_this_plan, .int x_this_fault, .int x_this_place])), (a_this_plan, .inr (4, [.int x_this_plan_cycle, .int x_this_plan_green, .int x_this_plan_rule, .int x_this_plan_least, .int x_this_plan_away, .int x_this_plan_statements, .int x_this_plan_kinds, .ref a_this_plan_calm, .ref a_this_plan_pace, .ref a_this_plan_trusts, .int x_this_plan_walkers, .ref a_this_plan_kindOf, .ref a_this_plan_comesAt, .ref a_this_plan_comers, .ref a_this_plan_names, .ref a_this_plan_code, .int z18685, .ref a_this_plan_spans])), (a_this_plan_code, .inl (cy 0, 1600, .inl f18684))] H := hP
    have hD : va_D A [(a_this, .inr (5, [.ref a_this_text, .int x_this_length, .int x_this_at, .int x_this_behind, .int x_this_sort, .int x_this_allowed, .ref a_this_plan, .int x_this_fault, .int x_this_place])), (a_this_plan, .inr (4, [.int x_this_plan_cycle, .int x_this_plan_green, .int x_this_plan_rule, .int x_this_plan_least, .int x_this_plan_away, .int x_this_plan_statements, .int x_this_plan_kinds, .ref a_this_plan_calm, .ref a_this_plan_pace, .ref a_this_plan_trusts, .int x_this_plan_walkers, .ref a_this_plan_kindOf, .ref a_this_plan_comesAt, .ref a_this_plan_comers, .ref a_this_plan_names, .ref a_this_plan_code, .int z18685, .ref a_this_plan_spans])), (a_this_plan_code, .inl (cy 0, 1600, .inl f18684))] := hD
    subst hQ; exact k_vret hx hb hr hlk ((z18685, f18684)) hS (ib_w 0 1600 h18687 (by decide)) hP hD (Nat.le_of_ble_eq_true rfl) (Nat.le_of_ble_eq_true rfl) dX5_emit_47
set_option maxHeartbeats 4000000 in
set_option maxRecDepth 100000 in
theorem s_X5_fail (l : Launch) (dC : Nat → ClassId) (dI : Nat → Nat → Nat) (cy : Nat → ClassId) (sq : Nat → Nat) (a_this : Nat) (a_this_text : Nat) (x_this_length : Int32) (x_this_at : Int32) (x_this_behind : Int32) (x_this_sort : Int32) (x_this_allowed : Int32) (a_this_plan : Nat) (x_this_fault : Int32) (x_this_place : Int32) (p0 : Int32) (p1 : Int32) (hx_this_length : ib x_this_length 0 1600) (hx_this_at : ib x_this_at 0 1600) (hx_this_behind : ib x_this_behind 0 1600) (hx_this_sort : ib x_this_sort 0 4) : k_Met l yX5_fail cX5_fail 3 none { frames := 0, cells := 0, slots := 0, locals := 0 } dC dI cy sq [.ref a_this, .int p0, .int p1] [(a_this, .inr (5, [.ref a_this_text, .int x_this_length, .int x_this_at, .int x_this_behind, .int x_this_sort, .int x_this_allowed, .ref a_this_plan, .int x_this_fault, .int x_this_place]))] (k_Qv dC dI (fun (u : Int32 × Int32 × Int32 × Int32 × Int32) => match u with | (n0, n1, n2, n3, n4) => ib n0 0 1600 ∧ ib n1 0 1600 ∧ ib n2 0 4) (fun u : Int32 × Int32 × Int32 × Int32 × Int32 => match u with | (n0, n1, n2, n3, n4) => [(a_this, .inr (5, [.ref a_this_text, .int x_this_length, .int n0, .int n1, .int n2, .int x_this_allowed, .ref a_this_plan, .int n3, .int n4]))])) := by
  refine k_ofW2 (by decide +kernel) (Nat.le_of_ble_eq_true rfl) ?_
  intro p e s m below meth c A ls H locs args Q hQ C0 hr hlk hin hP hD hA hS hl
  have C0 : k_cx p s m args c cX5_fail 3 RX5 dC dI cy sq := C0
  have hx := C0.1
  have hb := C0.2.1
  have hl : lv_has ls 3 [(0, .ref a_this), (1, .int p0), (2, .int p1)] := hl
  have jn17 : ∀  (H : Heap) (locs : List Loc) (ls : Array Slot), va_P (dC, dI) vwCl [(a_this, .inr (5, [.ref a_this_text, .int x_this_length, .int x_this_at, .int x_this_behind, .int x_this_sort, .int x_this_allowed, .ref a_this_plan, .int p0, .int p1]))] H → va_D A [(a_this, .inr (5, [.ref a_this_text, .int x_this_length, .int x_this_at, .int x_this_behind, .int x_this_sort, .int x_this_allowed, .ref a_this_plan, .int p0, .int p1]))] → va_S A s.heap H locs → lv_has ls 3 [(0, .ref a_this), (1, .int p0), (2, .int p1)] → W p l e { frames := 0, cells := 0, slots := 0, locals := 0 } s m args below meth c H locs 0 0 Q (F0 m 17 ls []) := by
    intro H locs ls hP hD hS hl
    refine lv_aload_n hx hb dX5_fail_17 rfl (lv_at hl 0 rfl) ?_
    refine lv_aload_n hx hb dX5_fail_18 rfl (lv_at hl 0 rfl) ?_
    refine k_get C0 fg_X5_11 hP 0 rfl rfl dX5_fail_19 ?_
    refine k_put C0 fp_X5_15 hP hD hS 0 rfl rfl rfl (Nat.le_of_ble_eq_true rfl) dX5_fail_22 (fun H locs hP hD hS => ?_)
    have hP : va_P (dC, dI) vwCl [(a_this, .inr (5, [.ref a_this_text, .int x_this_length, .int x_this_length, .int x_this_behind, .int x_this_sort, .int x_this_allowed, .ref a_this_plan, .int p0, .int p1]))] H := hP
    have hD : va_D A [(a_this, .inr (5, [.ref a_this_text, .int x_this_length, .int x_this_length, .int x_this_behind, .int x_this_sort, .int x_this_allowed, .ref a_this_plan, .int p0, .int p1]))] := hD
    refine lv_aload_n hx hb dX5_fail_25 rfl (lv_at hl 0 rfl) ?_
    refine lv_aload_n hx hb dX5_fail_26 rfl (lv_at hl 0 rfl) ?_
    refine k_get C0 fg_X5_11 hP 0 rfl rfl dX5_fail_27 ?_
    refine k_put C0 fp_X5_18 hP hD hS 0 rfl rfl rfl (Nat.le_of_ble_eq_true rfl) dX5_fail_30 (fun H locs hP hD hS => ?_)
    have hP : va_P (dC, dI) vwCl [(a_this, .inr (5, [.ref a_this_text, .int x_this_length, .int x_this_length, .int x_this_length, .int x_this_sort, .int x_this_allowed, .ref a_this_plan, .int p0, .int p1]))] H := hP
    have hD : va_D A [(a_this, .inr (5, [.ref a_this_text, .int x_this_length, .int x_this_length, .int x_this_length, .int x_this_sort, .int x_this_allowed, .ref a_this_plan, .int p0, .int p1]))] := hD
    refine lv_aload_n hx hb dX5_fail_33 rfl (lv_at hl 0 rfl) ?_
    refine lv_iconst (v := 0) hx hb dX5_fail_34 (by decide) ?_
    refine k_put C0 fp_X5_21 hP hD hS 0 rfl rfl rfl (Nat.le_of_ble_eq_true rfl) dX5_fail_35 (fun H locs hP hD hS => ?_)
    have hP : va_P (dC, dI) vwCl [(a_this, .inr (5, [.ref a_this_text, .int x_this_length, .int x_this_length, .int x_this_length, .int 0, .int x_this_allowed, .ref a_this_plan, .int p0, .int p1]))] H := hP
    have hD : va_D A [(a_this, .inr (5, [.ref a_this_text, .int x_this_length, .int x_this_length, .int x_this_length, .int 0, .int x_this_allowed, .ref a_this_plan, .int p0, .int p1]))] := hD
    subst hQ; exact k_vret hx hb hr hlk ((x_this_length, x_this_length, 0, p0, p1)) hS ⟨ib_w 0 1600 hx_this_length (by decide), ib_w 0 1600 hx_this_length (by decide), ib_w 0 4 (ib_c 0 0 0 (by decide)) (by decide)⟩ hP hD (Nat.le_of_ble_eq_true rfl) (Nat.le_of_ble_eq_true rfl) dX5_fail_38
  refine lv_aload_n hx hb dX5_fail_0 rfl (lv_at hl 0 rfl) ?_
  refine k_get C0 fg_X5_27 hP 0 rfl rfl dX5_fail_1 ?_
  refine lv_if_ne (tgt := 17) hx hb dX5_fail_4 (by decide) (fun c19923 => ?_) (fun c19923 => ?_)
  · skip
    refine lv_aload_n hx hb dX5_fail_17 rfl (lv_at hl 0 rfl) ?_
    refine lv_aload_n hx hb dX5_fail_18 rfl (lv_at hl 0 rfl) ?_
    refine k_get C0 fg_X5_11 hP 0 rfl rfl dX5_fail_19 ?_
    refine k_put C0 fp_X5_15 hP hD hS 0 rfl rfl rfl (Nat.le_of_ble_eq_true rfl) dX5_fail_22 (fun H locs hP hD hS => ?_)
    have hP : va_P (dC, dI) vwCl [(a_this, .inr (5, [.ref a_this_text, .int x_this_length, .int x_this_length, .int x_this_behind, .int x_this_sort, .int x_this_allowed, .ref a_this_plan, .int x_this_fault, .int x_this_place]))] H := hP
    have hD : va_D A [(a_this, .inr (5, [.ref a_this_text, .int x_this_length, .int x_this_length, .int x_this_behind, .int x_this_sort, .int x_this_allowed, .ref a_this_plan, .int x_this_fault, .int x_this_place]))] := hD
    refine lv_aload_n hx hb dX5_fail_25 rfl (lv_at hl 0 rfl) ?_
    refine lv_aload_n hx hb dX5_fail_26 rfl (lv_at hl 0 rfl) ?_
    refine k_get C0 fg_X5_11 hP 0 rfl rfl dX5_fail_27 ?_
    refine k_put C0 fp_X5_18 hP hD hS 0 rfl rfl rfl (Nat.le_of_ble_eq_true rfl) dX5_fail_30 (fun H locs hP hD hS => ?_)
    have hP : va_P (dC, dI) vwCl [(a_this, .inr (5, [.ref a_this_text, .int x_this_length, .int x_this_length, .int x_this_length, .int x_this_sort, .int x_this_allowed, .ref a_this_plan, .int x_this_fault, .int x_this_place]))] H := hP
    have hD : va_D A [(a_this, .inr (5, [.ref a_this_text, .int x_this_length, .int x_this_length, .int x_this_length, .int x_this_sort, .int x_this_allowed, .ref a_this_plan, .int x_this_fault, .int x_this_place]))] := hD
    refine lv_aload_n hx hb dX5_fail_33 rfl (lv_at hl 0 rfl) ?_
    refine lv_iconst (v := 0) hx hb dX5_fail_34 (by decide) ?_
    refine k_put C0 fp_X5_21 hP hD hS 0 rfl rfl rfl (Nat.le_of_ble_eq_true rfl) dX5_fail_35 (fun H locs hP hD hS => ?_)
    have hP : va_P (dC, dI) vwCl [(a_this, .inr (5, [.ref a_this_text, .int x_this_length, .int x_this_length, .int x_this_length, .int 0, .int x_this_allowed, .ref a_this_plan, .int x_this_fault, .int x_this_place]))] H := hP
    have hD : va_D A [(a_this, .inr (5, [.ref a_this_text, .int x_this_length, .int x_this_length, .int x_this_length, .int 0, .int x_this_allowed, .ref a_this_plan, .int x_this_fault, .int x_this_place]))] := hD
    subst hQ; exact k_vret hx hb hr hlk ((x_this_length, x_this_length, 0, x_this_fault, x_this_place)) hS ⟨ib_w 0 1600 hx_this_length (by decide), ib_w 0 1600 hx_this_length (by decide), ib_w 0 4 (ib_c 0 0 0 (by decide)) (by decide)⟩ hP hD (Nat.le_of_ble_eq_true rfl) (Nat.le_of_ble_eq_true rfl) dX5_fail_38
  · have h19924 := ib_eq (ib_any x_this_fault) (ib_c 0 0 0 (by decide)) c19923
    have h19925 : ib x_this_fault 0 0 := ib_w 0 0 h19924.1 (by decide)
    refine lv_aload_n hx hb dX5_fail_7 rfl (lv_at hl 0 rfl) ?_
    refine lv_iload_n hx hb dX5_fail_8 rfl (lv_at hl 1 rfl) ?_
    refine k_put C0 fp_X5_27 hP hD hS 0 rfl rfl rfl (Nat.le_of_ble_eq_true rfl) dX5_fail_9 (fun H locs hP hD hS => ?_)
    have hP : va_P (dC, dI) vwCl [(a_this, .inr (5, [.ref a_this_text, .int x_this_length, .int x_this_at, .int x_this_behind, .int x_this_sort, .int x_this_allowed, .ref a_this_plan, .int p0, .int x_this_place]))] H := hP
    have hD : va_D A [(a_this, .inr (5, [.ref a_this_text, .int x_this_length, .int x_this_at, .int x_this_behind, .int x_this_sort, .int x_this_allowed, .ref a_this_plan, .int p0, .int x_this_place]))] := hD
    refine lv_aload_n hx hb dX5_fail_12 rfl (lv_at hl 0 rfl) ?_
    refine lv_iload_n hx hb dX5_fail_13 rfl (lv_at hl 2 rfl) ?_
    refine k_put C0 fp_X5_30 hP hD hS 0 rfl rfl rfl (Nat.le_of_ble_eq_true rfl) dX5_fail_14 (fun H locs hP hD hS => ?_)
    have hP : va_P (dC, dI) vwCl [(a_this, .inr (5, [.ref a_this_text, .int x_this_length, .int x_this_at, .int x_this_behind, .int x_this_sort, .int x_this_allowed, .ref a_this_plan, .int p0, .int p1]))] H := hP
    have hD : va_D A [(a_this, .inr (5, [.ref a_this_text, .int x_this_length, .int x_this_at, .int x_this_behind, .int x_this_sort, .int x_this_allowed, .ref a_this_plan, .int p0, .int p1]))] := hD
    exact jn17  H locs ls  hP hD hS (lv_sub hl [0, 1, 2] rfl)
set_option maxHeartbeats 4000000 in
set_option maxRecDepth 100000 in
theorem s_X5_wrongInName (l : Launch) (dC : Nat → ClassId) (dI : Nat → Nat → Nat) (cy : Nat → ClassId) (sq : Nat → Nat) (a_this : Nat) (a_this_text : Nat) (x_this_length : Int32) (x_this_at : Int32) (x_this_behind : Int32) (x_this_sort : Int32) (x_this_allowed : Int32) (a_this_plan : Nat) (x_this_fault : Int32) (x_this_place : Int32) (hx_this_length : ib x_this_length 0 1600) (hx_this_at : ib x_this_at 0 1600) (hx_this_behind : ib x_this_behind 0 1600) (hx_this_sort : ib x_this_sort 0 4) : k_Met l yX5_wrongInName cX5_wrongInName 1 (some .int) { frames := 0, cells := 0, slots := 0, locals := 0 } dC dI cy sq [.ref a_this] [(a_this, .inr (5, [.ref a_this_text, .int x_this_length, .int x_this_at, .int x_this_behind, .int x_this_sort, .int x_this_allowed, .ref a_this_plan, .int x_this_fault, .int x_this_place]))] (k_Qi dC dI (fun (r : Int32) (_ : Unit) => ib r 0 1606) (fun _ : Unit => [(a_this, .inr (5, [.ref a_this_text, .int x_this_length, .int x_this_at, .int x_this_behind, .int x_this_sort, .int x_this_allowed, .ref a_this_plan, .int x_this_fault, .int x_this_place]))])) := by
  refine k_ofW2 (by decide +kernel) (Nat.le_of_ble_eq_true rfl) ?_
  intro p e s m below meth c A ls H locs args Q hQ C0 hr hlk hin hP hD hA hS hl
  have C0 : k_cx p s m args c cX5_wrongInName 1 RX5 dC dI cy sq := C0
  have hx := C0.1
  have hb := C0.2.1
  have hl : lv_has ls 1 [(0, .ref a_this)] := hl
  refine lv_aload_n hx hb dX5_wrongInName_0 rfl (lv_at hl 0 rfl) ?_
  refine k_get C0 fg_X5_21 hP 0 rfl rfl dX5_wrongInName_1 ?_
  refine lv_iconst (v := 1) hx hb dX5_wrongInName_4 (by decide) ?_
  refine lv_icmp_ne (tgt := 32) hx hb dX5_wrongInName_5 (by decide) (fun c27220 => ?_) (fun c27220 => ?_)
  · skip
    refine lv_aload_n hx hb dX5_wrongInName_32 rfl (lv_at hl 0 rfl) ?_
    refine k_get C0 fg_X5_15 hP 0 rfl rfl dX5_wrongInName_33 ?_
    subst hQ; exact k_iret hx hb hr hlk rfl () hS (ib_w 0 1606 hx_this_at (by decide)) hP hD (Nat.le_of_ble_eq_true rfl) (Nat.le_of_ble_eq_true rfl) dX5_wrongInName_36
  · have h27221 := ib_eq hx_this_sort (ib_c 1 1 1 (by decide)) c27220
    have h27222 : ib x_this_sort 1 1 := ib_w 1 1 h27221.1 (by decide)
    refine lv_aload_n hx hb dX5_wrongInName_8 rfl (lv_at hl 0 rfl) ?_
    refine k_get C0 fg_X5_18 hP 0 rfl rfl dX5_wrongInName_9 ?_
    refine lv_aload_n hx hb dX5_wrongInName_12 rfl (lv_at hl 0 rfl) ?_
    refine k_get C0 fg_X5_15 hP 0 rfl rfl dX5_wrongInName_13 ?_
    refine lv_isub hx hb dX5_wrongInName_16 ?_
    refine lv_topi (fun z27223 ez27223 => ?_)
    have h27224 := ib_sub hx_this_behind hx_this_at (by decide)
    rw [← ez27223] at h27224
    have h27225 : ib z27223 (-1600) 1600 := ib_w (-1600) 1600 h27224.1 (by decide)
    refine lv_bipush (v := 6) hx hb dX5_wrongInName_17 (by decide) ?_
    refine lv_icmp_le (tgt := 32) hx hb dX5_wrongInName_19 (by decide) (fun c27226 => ?_) (fun c27226 => ?_)
    · have h27227 := ib_le h27225 (ib_c 6 6 6 (by decide)) c27226
      have h27228 : ib z27223 (-1600) 6 := ib_w (-1600) 6 h27227.1 (by decide)
      refine lv_aload_n hx hb dX5_wrongInName_32 rfl (lv_at hl 0 rfl) ?_
      refine k_get C0 fg_X5_15 hP 0 rfl rfl dX5_wrongInName_33 ?_
      subst hQ; exact k_iret hx hb hr hlk rfl () hS (ib_w 0 1606 hx_this_at (by decide)) hP hD (Nat.le_of_ble_eq_true rfl) (Nat.le_of_ble_eq_true rfl) dX5_wrongInName_36
    · have h27229 := ib_nle h27225 (ib_c 6 6 6 (by decide)) c27226
      have h27230 : ib z27223 7 1600 := ib_w 7 1600 h27229.1 (by decide)
      refine lv_aload_n hx hb dX5_wrongInName_22 rfl (lv_at hl 0 rfl) ?_
      refine k_get C0 fg_X5_15 hP 0 rfl rfl dX5_wrongInName_23 ?_
      refine lv_bipush (v := 6) hx hb dX5_wrongInName_26 (by decide) ?_
      refine lv_iadd hx hb dX5_wrongInName_28 ?_
      refine lv_topi (fun z27231 ez27231 => ?_)
      have h27232 := ib_add hx_this_at (ib_c 6 6 6 (by decide)) (by decide)
      rw [← ez27231] at h27232
      have h27233 : ib z27231 6 1606 := ib_w 6 1606 h27232.1 (by decide)
      refine lv_goto (tgt := 36) hx hb dX5_wrongInName_29 (by decide) ?_
      subst hQ; exact k_iret hx hb hr hlk rfl () hS (ib_w 0 1606 h27233 (by decide)) hP hD (Nat.le_of_ble_eq_true rfl) (Nat.le_of_ble_eq_true rfl) dX5_wrongInName_36
set_option maxHeartbeats 4000000 in
set_option maxRecDepth 100000 in
theorem s_X7_allCross (l : Launch) (dC : Nat → ClassId) (dI : Nat → Nat → Nat) (cy : Nat → ClassId) (sq : Nat → Nat) (a_this : Nat) (a_this_machine : Nat) (a_this_plan : Nat) (x_this_plan_cycle : Int32) (x_this_plan_green : Int32) (x_this_plan_rule : Int32) (x_this_plan_least : Int32) (x_this_plan_away : Int32) (x_this_plan_statements : Int32) (x_this_plan_kinds : Int32) (a_this_plan_calm : Nat) (a_this_plan_pace : Nat) (a_this_plan_trusts : Nat) (x_this_plan_walkers : Int32) (a_this_plan_kindOf : Nat) (a_this_plan_comesAt : Nat) (a_this_plan_comers : Nat) (a_this_plan_names : Nat) (a_this_plan_code : Nat) (x_this_plan_size : Int32) (a_this_plan_spans : Nat) (x_this_day : Int32) (a_this_trusts : Nat) (x_this_rule : Int32) (x_this_green : Int32) (x_this_absent : Int32) (x_this_asksReds : Int32) (a_this_cars : Nat) (a_this_gaps : Nat) (a_this_known : Nat) (a_this_left : Nat) (a_this_leaves : Nat) (x_this_pressed : Int32) (x_this_crossed : Int32) (x_this_went : Int32) (x_this_harmed : Int32) (hx_this_plan_cycle : ib x_this_plan_cycle 0 120) (hx_this_plan_least : ib x_this_plan_least 0 99) (hx_this_plan_statements : ib x_this_plan_statements 0 81) (hx_this_plan_kinds : ib x_this_plan_kinds 0 6) (hx_this_plan_walkers : ib x_this_plan_walkers 0 12) (hx_this_plan_size : ib x_this_plan_size 0 1600) (hx_this_asksReds : ib x_this_asksReds 0 1) : k_Met l yX7_allCross cX7_allCross 1 (some .boolean) { frames := 1, cells := 0, slots := 0, locals := 20 } dC dI cy sq [.ref a_this] [(a_this, .inr (7, [.ref a_this_machine, .ref a_this_plan, .int x_this_day, .ref a_this_trusts, .int x_this_rule, .int x_this_green, .int x_this_absent, .int x_this_asksReds, .ref a_this_cars, .ref a_this_gaps, .ref a_this_known, .ref a_this_left, .ref a_this_leaves, .int x_this_pressed, .int x_this_crossed, .int x_this_went, .int x_this_harmed])), (a_this_plan, .inr (4, [.int x_this_plan_cycle, .int x_this_plan_green, .int x_this_plan_rule, .int x_this_plan_least, .int x_this_plan_away, .int x_this_plan_statements, .int x_this_plan_kinds, .ref a_this_plan_calm, .ref a_this_plan_pace, .ref a_this_plan_trusts, .int x_this_plan_walkers, .ref a_this_plan_kindOf, .ref a_this_plan_comesAt, .ref a_this_plan_comers, .ref a_this_plan_names, .ref a_this_plan_code, .int x_this_plan_size, .ref a_this_plan_spans]))] (k_Qi dC dI (fun (r : Int32) (_ : Unit) => ib r 0 1) (fun _ : Unit => [(a_this, .inr (7, [.ref a_this_machine, .ref a_this_plan, .int x_this_day, .ref a_this_trusts, .int x_this_rule, .int x_this_green, .int x_this_absent, .int x_this_asksReds, .ref a_this_cars, .ref a_this_gaps, .ref a_this_known, .ref a_this_left, .ref a_this_leaves, .int x_this_pressed, .int x_this_crossed, .int x_this_went, .int x_this_harmed])), (a_this_plan, .inr (4, [.int x_this_plan_cycle, .int x_this_plan_green, .int x_this_plan_rule, .int x_this_plan_least, .int x_this_plan_away, .int x_this_plan_statements, .int x_this_plan_kinds, .ref a_this_plan_calm, .ref a_this_plan_pace, .ref a_this_plan_trusts, .int x_this_plan_walkers, .ref a_this_plan_kindOf, .ref a_this_plan_comesAt, .ref a_this_plan_comers, .ref a_this_plan_names, .ref a_this_plan_code, .int x_this_plan_size, .ref a_this_plan_spans]))])) := by
  refine k_ofW2 (by decide +kernel) (Nat.le_of_ble_eq_true rfl) ?_
  intro p e s m below meth c A ls H locs args Q hQ C0 hr hlk hin hP hD hA hS hl
  have C0 : k_cx p s m args c cX7_allCross 1 RX7 dC dI cy sq := C0
  have hx := C0.1
  have hb := C0.2.1
  have hl : lv_has ls 1 [(0, .ref a_this)] := hl
  refine lv_aload_n hx hb dX7_allCross_0 rfl (lv_at hl 0 rfl) ?_
  refine k_get C0 fg_X7_50 hP 0 rfl rfl dX7_allCross_1 ?_
  refine lv_aload_n hx hb dX7_allCross_4 rfl (lv_at hl 0 rfl) ?_
  refine k_get C0 fg_X7_63 hP 0 rfl rfl dX7_allCross_5 ?_
  refine k_ji hP hD hS hA [1] [0] (wr := [(a_this, .inr (7, [.ref a_this_machine, .ref a_this_plan, .int x_this_day, .ref a_this_trusts, .int x_this_rule, .int x_this_green, .int x_this_absent, .int x_this_asksReds, .ref a_this_cars, .ref a_this_gaps, .ref a_this_known, .ref a_this_left, .ref a_this_leaves, .int x_this_pressed, .int x_this_crossed, .int x_this_went, .int x_this_harmed]))]) rfl rfl (by decide) (by decide) (by decide) 0 0 (Nat.le_of_ble_eq_true rfl) (Nat.le_of_ble_eq_true rfl) (fun hPc hDc => k_runV (As := []) (rest := [.int x_this_crossed]) C0 (s_X4_everyone l dC dI cy sq a_this_plan x_this_plan_cycle x_this_plan_green x_this_plan_rule x_this_plan_least x_this_plan_away x_this_plan_statements x_this_plan_kinds a_this_plan_calm a_this_plan_pace a_this_plan_trusts x_this_plan_walkers a_this_plan_kindOf a_this_plan_comesAt a_this_plan_comers a_this_plan_names a_this_plan_code x_this_plan_size a_this_plan_spans (ib_w 0 120 hx_this_plan_cycle (by decide)) (ib_w 0 99 hx_this_plan_least (by decide)) (ib_w 0 81 hx_this_plan_statements (by decide)) (ib_w 0 6 hx_this_plan_kinds (by decide)) (ib_w 0 12 hx_this_plan_walkers (by decide)) (ib_w 0 1600 hx_this_plan_size (by decide))) mV_X7_143 hPc hDc rfl rfl rfl hl rfl rfl (Nat.le_of_ble_eq_true rfl) ⟨(Nat.le_of_ble_eq_true rfl), (Nat.le_of_ble_eq_true rfl)⟩ ⟨(Nat.le_of_ble_eq_true rfl), (Nat.le_of_ble_eq_true rfl)⟩ dX7_allCross_8) (fun r27274 u27275 H locs hw hP hD hS => ?_)
  try dsimp only at hP hD hw
  have hP : va_P (dC, dI) vwCl [(a_this, .inr (7, [.ref a_this_machine, .ref a_this_plan, .int x_this_day, .ref a_this_trusts, .int x_this_rule, .int x_this_green, .int x_this_absent, .int x_this_asksReds, .ref a_this_cars, .ref a_this_gaps, .ref a_this_known, .ref a_this_left, .ref a_this_leaves, .int x_this_pressed, .int x_this_crossed, .int x_this_went, .int x_this_harmed])), (a_this_plan, .inr (4, [.int x_this_plan_cycle, .int x_this_plan_green, .int x_this_plan_rule, .int x_this_plan_least, .int x_this_plan_away, .int x_this_plan_statements, .int x_this_plan_kinds, .ref a_this_plan_calm, .ref a_this_plan_pace, .ref a_this_plan_trusts, .int x_this_plan_walkers, .ref a_this_plan_kindOf, .ref a_this_plan_comesAt, .ref a_this_plan_comers, .ref a_this_plan_names, .ref a_this_plan_code, .int x_this_plan_size, .ref a_this_plan_spans]))] H := hP
  have hD : va_D A [(a_this, .inr (7, [.ref a_this_machine, .ref a_this_plan, .int x_this_day, .ref a_this_trusts, .int x_this_rule, .int x_this_green, .int x_this_absent, .int x_this_asksReds, .ref a_this_cars, .ref a_this_gaps, .ref a_this_known, .ref a_this_left, .ref a_this_leaves, .int x_this_pressed, .int x_this_crossed, .int x_this_went, .int x_this_harmed])), (a_this_plan, .inr (4, [.int x_this_plan_cycle, .int x_this_plan_green, .int x_this_plan_rule, .int x_this_plan_least, .int x_this_plan_away, .int x_this_plan_statements, .int x_this_plan_kinds, .ref a_this_plan_calm, .ref a_this_plan_pace, .ref a_this_plan_trusts, .int x_this_plan_walkers, .ref a_this_plan_kindOf, .ref a_this_plan_comesAt, .ref a_this_plan_comers, .ref a_this_plan_names, .ref a_this_plan_code, .int x_this_plan_size, .ref a_this_plan_spans]))] := hD
  refine lv_icmp_ne (tgt := 18) hx hb dX7_allCross_11 (by decide) (fun c27276 => ?_) (fun c27276 => ?_)
  · skip
    refine lv_iconst (v := 0) hx hb dX7_allCross_18 (by decide) ?_
    subst hQ; exact k_iret hx hb hr hlk (k_nb 0 (by decide)) () hS (ib_w 0 1 (ib_c 0 0 0 (by decide)) (by decide)) hP hD (Nat.le_of_ble_eq_true rfl) (Nat.le_of_ble_eq_true rfl) dX7_allCross_19
  · have h27277 := ib_eq (ib_any x_this_crossed) (ib_any r27274) c27276
    refine lv_iconst (v := 1) hx hb dX7_allCross_14 (by decide) ?_
    refine lv_goto (tgt := 19) hx hb dX7_allCross_15 (by decide) ?_
    subst hQ; exact k_iret hx hb hr hlk (k_nb 1 (by decide)) () hS (ib_w 0 1 (ib_c 1 1 1 (by decide)) (by decide)) hP hD (Nat.le_of_ble_eq_true rfl) (Nat.le_of_ble_eq_true rfl) dX7_allCross_19
set_option maxHeartbeats 4000000 in
set_option maxRecDepth 100000 in
theorem s_X7_describeWhole (l : Launch) (dC : Nat → ClassId) (dI : Nat → Nat → Nat) (cy : Nat → ClassId) (sq : Nat → Nat) (a_this : Nat) (a_this_machine : Nat) (a_this_machine_facts : Nat) (g_this_machine_facts : Nat → Int32) (a_this_machine_stack : Nat) (a_this_plan : Nat) (x_this_plan_cycle : Int32) (x_this_plan_green : Int32) (x_this_plan_rule : Int32) (x_this_plan_least : Int32) (x_this_plan_away : Int32) (x_this_plan_statements : Int32) (x_this_plan_kinds : Int32) (a_this_plan_calm : Nat) (g_this_plan_calm : Nat → Int32) (a_this_plan_pace : Nat) (g_this_plan_pace : Nat → Int32) (a_this_plan_trusts : Nat) (x_this_plan_walkers : Int32) (a_this_plan_kindOf : Nat) (g_this_plan_kindOf : Nat → Int32) (a_this_plan_comesAt : Nat) (g_this_plan_comesAt : Nat → Int32) (a_this_plan_comers : Nat) (a_this_plan_names : Nat) (a_this_plan_code : Nat) (x_this_plan_size : Int32) (a_this_plan_spans : Nat) (x_this_day : Int32) (a_this_trusts : Nat) (g_this_trusts : Nat → Int32) (x_this_rule : Int32) (x_this_green : Int32) (x_this_absent : Int32) (x_this_asksReds : Int32) (a_this_cars : Nat) (a_this_gaps : Nat) (a_this_known : Nat) (a_this_left : Nat) (a_this_leaves : Nat) (g_this_leaves : Nat → Int32) (x_this_pressed : Int32) (x_this_crossed : Int32) (x_this_went : Int32) (x_this_harmed : Int32) (p0 : Int32) (hx_this_plan_cycle : ib x_this_plan_cycle 0 120) (hx_this_plan_least : ib x_this_plan_least 0 99) (hx_this_plan_statements : ib x_this_plan_statements 0 81) (hx_this_plan_kinds : ib x_this_plan_kinds 0 6) (hx_this_plan_walkers : ib x_this_plan_walkers 0 12) (hg_this_plan_kindOf : ia g_this_plan_kindOf 12 0 5) (hg_this_plan_comesAt : ia g_this_plan_comesAt 12 0 199) (hx_this_plan_size : ib x_this_plan_size 0 1600) (hx_this_asksReds : ib x_this_asksReds 0 1) (hp0 : ib p0 0 11) : k_Met l yX7_describeWhole cX7_describeWhole 4 none { frames := 1, cells := 0, slots := 0, locals := 26 } dC dI cy sq [.ref a_this, .int p0] [(a_this, .inr (7, [.ref a_this_machine, .ref a_this_plan, .int x_this_day, .ref a_this_trusts, .int x_this_rule, .int x_this_green, .int x_this_absent, .int x_this_asksReds, .ref a_this_cars, .ref a_this_gaps, .ref a_this_known, .ref a_this_left, .ref a_this_leaves, .int x_this_pressed, .int x_this_crossed, .int x_this_went, .int x_this_harmed])), (a_this_plan, .inr (4, [.int x_this_plan_cycle, .int x_this_plan_green, .int x_this_plan_rule, .int x_this_plan_least, .int x_this_plan_away, .int x_this_plan_statements, .int x_this_plan_kinds, .ref a_this_plan_calm, .ref a_this_plan_pace, .ref a_this_plan_trusts, .int x_this_plan_walkers, .ref a_this_plan_kindOf, .ref a_this_plan_comesAt, .ref a_this_plan_comers, .ref a_this_plan_names, .ref a_this_plan_code, .int x_this_plan_size, .ref a_this_plan_spans])), (a_this_plan_kindOf, .inl (cy 0, 12, .inl g_this_plan_kindOf)), (a_this_machine, .inr (3, [.ref a_this_machine_facts, .ref a_this_machine_stack])), (a_this_plan_comesAt, .inl (cy 0, 12, .inl g_this_plan_comesAt)), (a_this_leaves, .inl (cy 0, 12, .inl g_this_leaves)), (a_this_trusts, .inl (cy 0, 6, .inl g_this_trusts)), (a_this_machine_facts, .inl (cy 0, 13, .inl g_this_machine_facts)), (a_this_plan_calm, .inl (cy 0, 6, .inl g_this_plan_calm)), (a_this_plan_pace, .inl (cy 0, 6, .inl g_this_plan_pace))] (k_Qv dC dI (fun (n0 : (Nat → Int32)) => True) (fun n0 : (Nat → Int32) => [(a_this, .inr (7, [.ref a_this_machine, .ref a_this_plan, .int x_this_day, .ref a_this_trusts, .int x_this_rule, .int x_this_green, .int x_this_absent, .int x_this_asksReds, .ref a_this_cars, .ref a_this_gaps, .ref a_this_known, .ref a_this_left, .ref a_this_leaves, .int x_this_pressed, .int x_this_crossed, .int x_this_went, .int x_this_harmed])), (a_this_plan, .inr (4, [.int x_this_plan_cycle, .int x_this_plan_green, .int x_this_plan_rule, .int x_this_plan_least, .int x_this_plan_away, .int x_this_plan_statements, .int x_this_plan_kinds, .ref a_this_plan_calm, .ref a_this_plan_pace, .ref a_this_plan_trusts, .int x_this_plan_walkers, .ref a_this_plan_kindOf, .ref a_this_plan_comesAt, .ref a_this_plan_comers, .ref a_this_plan_names, .ref a_this_plan_code, .int x_this_plan_size, .ref a_this_plan_spans])), (a_this_plan_kindOf, .inl (cy 0, 12, .inl g_this_plan_kindOf)), (a_this_machine, .inr (3, [.ref a_this_machine_facts, .ref a_this_machine_stack])), (a_this_plan_comesAt, .inl (cy 0, 12, .inl g_this_plan_comesAt)), (a_this_leaves, .inl (cy 0, 12, .inl g_this_leaves)), (a_this_trusts, .inl (cy 0, 6, .inl g_this_trusts)), (a_this_machine_facts, .inl (cy 0, 13, .inl n0)), (a_this_plan_calm, .inl (cy 0, 6, .inl g_this_plan_calm)), (a_this_plan_pace, .inl (cy 0, 6, .inl g_this_plan_pace))])) := by
  refine k_ofW2 (by decide +kernel) (Nat.le_of_ble_eq_true rfl) ?_
  intro p e s m below meth c A ls H locs args Q hQ C0 hr hlk hin hP hD hA hS hl
  have C0 : k_cx p s m args c cX7_describeWhole 4 RX7 dC dI cy sq := C0
  have hx := C0.1
  have hb := C0.2.1
  have hl : lv_has ls 4 [(0, .ref a_this), (1, .int p0)] := hl
  refine lv_aload_n hx hb dX7_describeWhole_0 rfl (lv_at hl 0 rfl) ?_
  refine k_get C0 fg_X7_63 hP 0 rfl rfl dX7_describeWhole_1 ?_
  refine k_get C0 fg_X7_140 hP 1 rfl rfl dX7_describeWhole_4 ?_
  refine lv_iload_n hx hb dX7_describeWhole_7 rfl (lv_at hl 1 rfl) ?_
  refine va_iald hx hb C0.2.2.2.2.2.1 hP 2 0 rfl rfl (ib_in 12 hp0 (by decide)) dX7_describeWhole_8 ?_
  refine lv_topi (fun z27478 ez27478 => ?_)
  have h27479 : ib z27478 0 5 := by rw [ez27478]; exact ia_at hg_this_plan_kindOf (ib_in 12 hp0 (by decide))
  refine lv_istore_n (lv' := [(2, .int z27478), (0, .ref a_this), (1, .int p0)]) hx hb dX7_describeWhole_9 rfl hl (by decide) rfl (fun ls hl => ?_)
  refine lv_aload_n hx hb dX7_describeWhole_10 rfl (lv_at hl 1 rfl) ?_
  refine k_get C0 fg_X7_59 hP 0 rfl rfl dX7_describeWhole_11 ?_
  refine k_get C0 fg_X7_102 hP 3 rfl rfl dX7_describeWhole_14 ?_
  refine lv_astore_n (lv' := [(3, .ref a_this_machine_facts), (2, .int z27478), (0, .ref a_this), (1, .int p0)]) hx hb dX7_describeWhole_17 rfl hl (by decide) rfl (fun ls hl => ?_)
  refine lv_aload_n hx hb dX7_describeWhole_18 rfl (lv_at hl 2 rfl) ?_
  refine lv_iload_n hx hb dX7_describeWhole_19 rfl (lv_at hl 3 rfl) ?_
  refine lv_aload_n hx hb dX7_describeWhole_20 rfl (lv_at hl 2 rfl) ?_
  refine k_get C0 fg_X7_63 hP 0 rfl rfl dX7_describeWhole_21 ?_
  refine k_get C0 fg_X7_153 hP 1 rfl rfl dX7_describeWhole_24 ?_
  refine lv_iload_n hx hb dX7_describeWhole_27 rfl (lv_at hl 3 rfl) ?_
  refine va_iald hx hb C0.2.2.2.2.2.1 hP 4 0 rfl rfl (ib_in 12 hp0 (by decide)) dX7_describeWhole_28 ?_
  refine lv_topi (fun z27480 ez27480 => ?_)
  have h27481 : ib z27480 0 199 := by rw [ez27480]; exact ia_at hg_this_plan_comesAt (ib_in 12 hp0 (by decide))
  refine lv_aload_n hx hb dX7_describeWhole_29 rfl (lv_at hl 2 rfl) ?_
  refine lv_iload_n hx hb dX7_describeWhole_30 rfl (lv_at hl 3 rfl) ?_
  refine k_ji hP hD hS hA [0, 5, 1, 4] [2, 3, 6, 7, 8, 9] (wr := [(a_this_plan_kindOf, .inl (cy 0, 12, .inl g_this_plan_kindOf)), (a_this_machine, .inr (3, [.ref a_this_machine_facts, .ref a_this_machine_stack])), (a_this_trusts, .inl (cy 0, 6, .inl g_this_trusts)), (a_this_machine_facts, .inl (cy 0, 13, .inl g_this_machine_facts)), (a_this_plan_calm, .inl (cy 0, 6, .inl g_this_plan_calm)), (a_this_plan_pace, .inl (cy 0, 6, .inl g_this_plan_pace))]) rfl rfl (by decide) (by decide) (by decide) 0 0 (Nat.le_of_ble_eq_true rfl) (Nat.le_of_ble_eq_true rfl) (fun hPc hDc => k_runV (As := [.int p0]) (rest := [.int z27480, .int p0, .ref a_this]) C0 (s_X7_waitedBy l dC dI cy sq a_this a_this_machine a_this_plan x_this_plan_cycle x_this_plan_green x_this_plan_rule x_this_plan_least x_this_plan_away x_this_plan_statements x_this_plan_kinds a_this_plan_calm a_this_plan_pace a_this_plan_trusts x_this_plan_walkers a_this_plan_kindOf a_this_plan_comesAt g_this_plan_comesAt a_this_plan_comers a_this_plan_names a_this_plan_code x_this_plan_size a_this_plan_spans x_this_day a_this_trusts x_this_rule x_this_green x_this_absent x_this_asksReds a_this_cars a_this_gaps a_this_known a_this_left a_this_leaves g_this_leaves x_this_pressed x_this_crossed x_this_went x_this_harmed p0 (ib_w 0 120 hx_this_plan_cycle (by decide)) (ib_w 0 99 hx_this_plan_least (by decide)) (ib_w 0 81 hx_this_plan_statements (by decide)) (ib_w 0 6 hx_this_plan_kinds (by decide)) (ib_w 0 12 hx_this_plan_walkers (by decide)) hg_this_plan_comesAt (ib_w 0 1600 hx_this_plan_size (by decide)) (ib_w 0 1 hx_this_asksReds (by decide)) (ib_w 0 11 hp0 (by decide))) mV_X7_163 hPc hDc rfl rfl rfl hl rfl rfl (Nat.le_of_ble_eq_true rfl) ⟨(Nat.le_of_ble_eq_true rfl), (Nat.le_of_ble_eq_true rfl)⟩ ⟨(Nat.le_of_ble_eq_true rfl), (Nat.le_of_ble_eq_true rfl)⟩ dX7_describeWhole_31) (fun r27482 u27483 H locs hw hP hD hS => ?_)
  try dsimp only at hP hD hw
  have hP : va_P (dC, dI) vwCl [(a_this_plan_kindOf, .inl (cy 0, 12, .inl g_this_plan_kindOf)), (a_this_machine, .inr (3, [.ref a_this_machine_facts, .ref a_this_machine_stack])), (a_this_trusts, .inl (cy 0, 6, .inl g_this_trusts)), (a_this_machine_facts, .inl (cy 0, 13, .inl g_this_machine_facts)), (a_this_plan_calm, .inl (cy 0, 6, .inl g_this_plan_calm)), (a_this_plan_pace, .inl (cy 0, 6, .inl g_this_plan_pace)), (a_this, .inr (7, [.ref a_this_machine, .ref a_this_plan, .int x_this_day, .ref a_this_trusts, .int x_this_rule, .int x_this_green, .int x_this_absent, .int x_this_asksReds, .ref a_this_cars, .ref a_this_gaps, .ref a_this_known, .ref a_this_left, .ref a_this_leaves, .int x_this_pressed, .int x_this_crossed, .int x_this_went, .int x_this_harmed])), (a_this_leaves, .inl (cy 0, 12, .inl g_this_leaves)), (a_this_plan, .inr (4, [.int x_this_plan_cycle, .int x_this_plan_green, .int x_this_plan_rule, .int x_this_plan_least, .int x_this_plan_away, .int x_this_plan_statements, .int x_this_plan_kinds, .ref a_this_plan_calm, .ref a_this_plan_pace, .ref a_this_plan_trusts, .int x_this_plan_walkers, .ref a_this_plan_kindOf, .ref a_this_plan_comesAt, .ref a_this_plan_comers, .ref a_this_plan_names, .ref a_this_plan_code, .int x_this_plan_size, .ref a_this_plan_spans])), (a_this_plan_comesAt, .inl (cy 0, 12, .inl g_this_plan_comesAt))] H := hP
  have hD : va_D A [(a_this_plan_kindOf, .inl (cy 0, 12, .inl g_this_plan_kindOf)), (a_this_machine, .inr (3, [.ref a_this_machine_facts, .ref a_this_machine_stack])), (a_this_trusts, .inl (cy 0, 6, .inl g_this_trusts)), (a_this_machine_facts, .inl (cy 0, 13, .inl g_this_machine_facts)), (a_this_plan_calm, .inl (cy 0, 6, .inl g_this_plan_calm)), (a_this_plan_pace, .inl (cy 0, 6, .inl g_this_plan_pace)), (a_this, .inr (7, [.ref a_this_machine, .ref a_this_plan, .int x_this_day, .ref a_this_trusts, .int x_this_rule, .int x_this_green, .int x_this_absent, .int x_this_asksReds, .ref a_this_cars, .ref a_this_gaps, .ref a_this_known, .ref a_this_left, .ref a_this_leaves, .int x_this_pressed, .int x_this_crossed, .int x_this_went, .int x_this_harmed])), (a_this_leaves, .inl (cy 0, 12, .inl g_this_leaves)), (a_this_plan, .inr (4, [.int x_this_plan_cycle, .int x_this_plan_green, .int x_this_plan_rule, .int x_this_plan_least, .int x_this_plan_away, .int x_this_plan_statements, .int x_this_plan_kinds, .ref a_this_plan_calm, .ref a_this_plan_pace, .ref a_this_plan_trusts, .int x_this_plan_walkers, .ref a_this_plan_kindOf, .ref a_this_plan_comesAt, .ref a_this_plan_comers, .ref a_this_plan_names, .ref a_this_plan_code, .int x_this_plan_size, .ref a_this_plan_spans])), (a_this_plan_comesAt, .inl (cy 0, 12, .inl g_this_plan_comesAt))] := hD
  refine lv_aload_n hx hb dX7_describeWhole_34 rfl (lv_at hl 2 rfl) ?_
  refine k_get C0 fg_X7_15 hP 6 rfl rfl dX7_describeWhole_35 ?_
  refine lv_iload_n hx hb dX7_describeWhole_38 rfl (lv_at hl 1 rfl) ?_
  refine va_iald hx hb C0.2.2.2.2.2.1 hP 2 0 rfl rfl (ib_in 6 h27479 (by decide)) dX7_describeWhole_39 ?_
  refine lv_topi (fun z27484 ez27484 => ?_)
  refine k_jv hP hD hS hA [6, 8, 0, 1, 3, 4, 5] [2, 7, 9] (wr := [(a_this_trusts, .inl (cy 0, 6, .inl g_this_trusts)), (a_this_leaves, .inl (cy 0, 12, .inl g_this_leaves)), (a_this_plan_comesAt, .inl (cy 0, 12, .inl g_this_plan_comesAt))]) rfl rfl (by decide) (by decide) (by decide) 0 0 (Nat.le_of_ble_eq_true rfl) (Nat.le_of_ble_eq_true rfl) (fun hPc hDc => k_runV (As := [.int p0, .int z27480, .int r27482, .int z27484]) (rest := []) C0 (s_X7_describe l dC dI cy sq a_this a_this_machine a_this_machine_facts g_this_machine_facts a_this_machine_stack a_this_plan x_this_plan_cycle x_this_plan_green x_this_plan_rule x_this_plan_least x_this_plan_away x_this_plan_statements x_this_plan_kinds a_this_plan_calm g_this_plan_calm a_this_plan_pace g_this_plan_pace a_this_plan_trusts x_this_plan_walkers a_this_plan_kindOf g_this_plan_kindOf a_this_plan_comesAt a_this_plan_comers a_this_plan_names a_this_plan_code x_this_plan_size a_this_plan_spans x_this_day a_this_trusts x_this_rule x_this_green x_this_absent x_this_asksReds a_this_cars a_this_gaps a_this_known a_this_left a_this_leaves x_this_pressed x_this_crossed x_this_went x_this_harmed p0 z27480 r27482 z27484 (ib_w 0 120 hx_this_plan_cycle (by decide)) (ib_w 0 99 hx_this_plan_least (by decide)) (ib_w 0 81 hx_this_plan_statements (by decide)) (ib_w 0 6 hx_this_plan_kinds (by decide)) (ib_w 0 12 hx_this_plan_walkers (by decide)) hg_this_plan_kindOf (ib_w 0 1600 hx_this_plan_size (by decide)) (ib_w 0 1 hx_this_asksReds (by decide)) (ib_w 0 11 hp0 (by decide))) mV_X7_156 hPc hDc rfl rfl rfl hl rfl rfl (Nat.le_of_ble_eq_true rfl) ⟨(Nat.le_of_ble_eq_true rfl), (Nat.le_of_ble_eq_true rfl)⟩ ⟨(Nat.le_of_ble_eq_true rfl), (Nat.le_of_ble_eq_true rfl)⟩ dX7_describeWhole_40) (fun u27486 H locs hw hP hD hS => ?_)
  obtain ⟨f27487, ef27487⟩ : ∃ z, z = u27486 := ⟨_, rfl⟩; subst ef27487
  try dsimp only at hP hD hw
  have hP : va_P (dC, dI) vwCl [(a_this_trusts, .inl (cy 0, 6, .inl g_this_trusts)), (a_this_leaves, .inl (cy 0, 12, .inl g_this_leaves)), (a_this_plan_comesAt, .inl (cy 0, 12, .inl g_this_plan_comesAt)), (a_this, .inr (7, [.ref a_this_machine, .ref a_this_plan, .int x_this_day, .ref a_this_trusts, .int x_this_rule, .int x_this_green, .int x_this_absent, .int x_this_asksReds, .ref a_this_cars, .ref a_this_gaps, .ref a_this_known, .ref a_this_left, .ref a_this_leaves, .int x_this_pressed, .int x_this_crossed, .int x_this_went, .int x_this_harmed])), (a_this_plan, .inr (4, [.int x_this_plan_cycle, .int x_this_plan_green, .int x_this_plan_rule, .int x_this_plan_least, .int x_this_plan_away, .int x_this_plan_statements, .int x_this_plan_kinds, .ref a_this_plan_calm, .ref a_this_plan_pace, .ref a_this_plan_trusts, .int x_this_plan_walkers, .ref a_this_plan_kindOf, .ref a_this_plan_comesAt, .ref a_this_plan_comers, .ref a_this_plan_names, .ref a_this_plan_code, .int x_this_plan_size, .ref a_this_plan_spans])), (a_this_plan_kindOf, .inl (cy 0, 12, .inl g_this_plan_kindOf)), (a_this_machine, .inr (3, [.ref a_this_machine_facts, .ref a_this_machine_stack])), (a_this_machine_facts, .inl (cy 0, 13, .inl f27487)), (a_this_plan_calm, .inl (cy 0, 6, .inl g_this_plan_calm)), (a_this_plan_pace, .inl (cy 0, 6, .inl g_this_plan_pace))] H := hP
  have hD : va_D A [(a_this_trusts, .inl (cy 0, 6, .inl g_this_trusts)), (a_this_leaves, .inl (cy 0, 12, .inl g_this_leaves)), (a_this_plan_comesAt, .inl (cy 0, 12, .inl g_this_plan_comesAt)), (a_this, .inr (7, [.ref a_this_machine, .ref a_this_plan, .int x_this_day, .ref a_this_trusts, .int x_this_rule, .int x_this_green, .int x_this_absent, .int x_this_asksReds, .ref a_this_cars, .ref a_this_gaps, .ref a_this_known, .ref a_this_left, .ref a_this_leaves, .int x_this_pressed, .int x_this_crossed, .int x_this_went, .int x_this_harmed])), (a_this_plan, .inr (4, [.int x_this_plan_cycle, .int x_this_plan_green, .int x_this_plan_rule, .int x_this_plan_least, .int x_this_plan_away, .int x_this_plan_statements, .int x_this_plan_kinds, .ref a_this_plan_calm, .ref a_this_plan_pace, .ref a_this_plan_trusts, .int x_this_plan_walkers, .ref a_this_plan_kindOf, .ref a_this_plan_comesAt, .ref a_this_plan_comers, .ref a_this_plan_names, .ref a_this_plan_code, .int x_this_plan_size, .ref a_this_plan_spans])), (a_this_plan_kindOf, .inl (cy 0, 12, .inl g_this_plan_kindOf)), (a_this_machine, .inr (3, [.ref a_this_machine_facts, .ref a_this_machine_stack])), (a_this_machine_facts, .inl (cy 0, 13, .inl f27487)), (a_this_plan_calm, .inl (cy 0, 6, .inl g_this_plan_calm)), (a_this_plan_pace, .inl (cy 0, 6, .inl g_this_plan_pace))] := hD
  refine lv_aload_n hx hb dX7_describeWhole_43 rfl (lv_at hl 0 rfl) ?_
  refine lv_bipush (v := 9) hx hb dX7_describeWhole_44 (by decide) ?_
  refine lv_iload_n hx hb dX7_describeWhole_46 rfl (lv_at hl 3 rfl) ?_
  refine va_iast hx hb C0.2.2.2.2.2.1 hP hD hS 7 0 rfl rfl (k_in 9 13 (by decide)) dX7_describeWhole_47 (fun H locs hP hD hS => ?_)
  have hP : va_P (dC, dI) vwCl [(a_this_trusts, .inl (cy 0, 6, .inl g_this_trusts)), (a_this_leaves, .inl (cy 0, 12, .inl g_this_leaves)), (a_this_plan_comesAt, .inl (cy 0, 12, .inl g_this_plan_comesAt)), (a_this, .inr (7, [.ref a_this_machine, .ref a_this_plan, .int x_this_day, .ref a_this_trusts, .int x_this_rule, .int x_this_green, .int x_this_absent, .int x_this_asksReds, .ref a_this_cars, .ref a_this_gaps, .ref a_this_known, .ref a_this_left, .ref a_this_leaves, .int x_this_pressed, .int x_this_crossed, .int x_this_went, .int x_this_harmed])), (a_this_plan, .inr (4, [.int x_this_plan_cycle, .int x_this_plan_green, .int x_this_plan_rule, .int x_this_plan_least, .int x_this_plan_away, .int x_this_plan_statements, .int x_this_plan_kinds, .ref a_this_plan_calm, .ref a_this_plan_pace, .ref a_this_plan_trusts, .int x_this_plan_walkers, .ref a_this_plan_kindOf, .ref a_this_plan_comesAt, .ref a_this_plan_comers, .ref a_this_plan_names, .ref a_this_plan_code, .int x_this_plan_size, .ref a_this_plan_spans])), (a_this_plan_kindOf, .inl (cy 0, 12, .inl g_this_plan_kindOf)), (a_this_machine, .inr (3, [.ref a_this_machine_facts, .ref a_this_machine_stack])), (a_this_machine_facts, .inl (cy 0, 13, .inl (upd f27487 (Int32.toNatClampNeg 9) p0))), (a_this_plan_calm, .inl (cy 0, 6, .inl g_this_plan_calm)), (a_this_plan_pace, .inl (cy 0, 6, .inl g_this_plan_pace))] H := hP
  have hD : va_D A [(a_this_trusts, .inl (cy 0, 6, .inl g_this_trusts)), (a_this_leaves, .inl (cy 0, 12, .inl g_this_leaves)), (a_this_plan_comesAt, .inl (cy 0, 12, .inl g_this_plan_comesAt)), (a_this, .inr (7, [.ref a_this_machine, .ref a_this_plan, .int x_this_day, .ref a_this_trusts, .int x_this_rule, .int x_this_green, .int x_this_absent, .int x_this_asksReds, .ref a_this_cars, .ref a_this_gaps, .ref a_this_known, .ref a_this_left, .ref a_this_leaves, .int x_this_pressed, .int x_this_crossed, .int x_this_went, .int x_this_harmed])), (a_this_plan, .inr (4, [.int x_this_plan_cycle, .int x_this_plan_green, .int x_this_plan_rule, .int x_this_plan_least, .int x_this_plan_away, .int x_this_plan_statements, .int x_this_plan_kinds, .ref a_this_plan_calm, .ref a_this_plan_pace, .ref a_this_plan_trusts, .int x_this_plan_walkers, .ref a_this_plan_kindOf, .ref a_this_plan_comesAt, .ref a_this_plan_comers, .ref a_this_plan_names, .ref a_this_plan_code, .int x_this_plan_size, .ref a_this_plan_spans])), (a_this_plan_kindOf, .inl (cy 0, 12, .inl g_this_plan_kindOf)), (a_this_machine, .inr (3, [.ref a_this_machine_facts, .ref a_this_machine_stack])), (a_this_machine_facts, .inl (cy 0, 13, .inl (upd f27487 (Int32.toNatClampNeg 9) p0))), (a_this_plan_calm, .inl (cy 0, 6, .inl g_this_plan_calm)), (a_this_plan_pace, .inl (cy 0, 6, .inl g_this_plan_pace))] := hD
  generalize upd f27487 (Int32.toNatClampNeg 9) p0 = f27488 at hP hD
  refine lv_aload_n hx hb dX7_describeWhole_48 rfl (lv_at hl 0 rfl) ?_
  refine lv_bipush (v := 10) hx hb dX7_describeWhole_49 (by decide) ?_
  refine lv_aload_n hx hb dX7_describeWhole_51 rfl (lv_at hl 2 rfl) ?_
  refine k_get C0 fg_X7_53 hP 3 rfl rfl dX7_describeWhole_52 ?_
  refine lv_iload_n hx hb dX7_describeWhole_55 rfl (lv_at hl 3 rfl) ?_
  refine lv_ishr hx hb dX7_describeWhole_56 ?_
  refine lv_topi (fun z27489 ez27489 => ?_)
  refine lv_iconst (v := 1) hx hb dX7_describeWhole_57 (by decide) ?_
  refine lv_iand hx hb dX7_describeWhole_58 ?_
  refine lv_topi (fun z27490 ez27490 => ?_)
  have h27491 : ib z27490 0 1 := by rw [ez27490]; exact ib_and 1 (by decide) (by decide) 1 (by decide)
  refine va_iast hx hb C0.2.2.2.2.2.1 hP hD hS 7 0 rfl rfl (k_in 10 13 (by decide)) dX7_describeWhole_59 (fun H locs hP hD hS => ?_)
  have hP : va_P (dC, dI) vwCl [(a_this_trusts, .inl (cy 0, 6, .inl g_this_trusts)), (a_this_leaves, .inl (cy 0, 12, .inl g_this_leaves)), (a_this_plan_comesAt, .inl (cy 0, 12, .inl g_this_plan_comesAt)), (a_this, .inr (7, [.ref a_this_machine, .ref a_this_plan, .int x_this_day, .ref a_this_trusts, .int x_this_rule, .int x_this_green, .int x_this_absent, .int x_this_asksReds, .ref a_this_cars, .ref a_this_gaps, .ref a_this_known, .ref a_this_left, .ref a_this_leaves, .int x_this_pressed, .int x_this_crossed, .int x_this_went, .int x_this_harmed])), (a_this_plan, .inr (4, [.int x_this_plan_cycle, .int x_this_plan_green, .int x_this_plan_rule, .int x_this_plan_least, .int x_this_plan_away, .int x_this_plan_statements, .int x_this_plan_kinds, .ref a_this_plan_calm, .ref a_this_plan_pace, .ref a_this_plan_trusts, .int x_this_plan_walkers, .ref a_this_plan_kindOf, .ref a_this_plan_comesAt, .ref a_this_plan_comers, .ref a_this_plan_names, .ref a_this_plan_code, .int x_this_plan_size, .ref a_this_plan_spans])), (a_this_plan_kindOf, .inl (cy 0, 12, .inl g_this_plan_kindOf)), (a_this_machine, .inr (3, [.ref a_this_machine_facts, .ref a_this_machine_stack])), (a_this_machine_facts, .inl (cy 0, 13, .inl (upd f27488 (Int32.toNatClampNeg 10) z27490))), (a_this_plan_calm, .inl (cy 0, 6, .inl g_this_plan_calm)), (a_this_plan_pace, .inl (cy 0, 6, .inl g_this_plan_pace))] H := hP
  have hD : va_D A [(a_this_trusts, .inl (cy 0, 6, .inl g_this_trusts)), (a_this_leaves, .inl (cy 0, 12, .inl g_this_leaves)), (a_this_plan_comesAt, .inl (cy 0, 12, .inl g_this_plan_comesAt)), (a_this, .inr (7, [.ref a_this_machine, .ref a_this_plan, .int x_this_day, .ref a_this_trusts, .int x_this_rule, .int x_this_green, .int x_this_absent, .int x_this_asksReds, .ref a_this_cars, .ref a_this_gaps, .ref a_this_known, .ref a_this_left, .ref a_this_leaves, .int x_this_pressed, .int x_this_crossed, .int x_this_went, .int x_this_harmed])), (a_this_plan, .inr (4, [.int x_this_plan_cycle, .int x_this_plan_green, .int x_this_plan_rule, .int x_this_plan_least, .int x_this_plan_away, .int x_this_plan_statements, .int x_this_plan_kinds, .ref a_this_plan_calm, .ref a_this_plan_pace, .ref a_this_plan_trusts, .int x_this_plan_walkers, .ref a_this_plan_kindOf, .ref a_this_plan_comesAt, .ref a_this_plan_comers, .ref a_this_plan_names, .ref a_this_plan_code, .int x_this_plan_size, .ref a_this_plan_spans])), (a_this_plan_kindOf, .inl (cy 0, 12, .inl g_this_plan_kindOf)), (a_this_machine, .inr (3, [.ref a_this_machine_facts, .ref a_this_machine_stack])), (a_this_machine_facts, .inl (cy 0, 13, .inl (upd f27488 (Int32.toNatClampNeg 10) z27490))), (a_this_plan_calm, .inl (cy 0, 6, .inl g_this_plan_calm)), (a_this_plan_pace, .inl (cy 0, 6, .inl g_this_plan_pace))] := hD
  generalize upd f27488 (Int32.toNatClampNeg 10) z27490 = f27492 at hP hD
  refine lv_aload_n hx hb dX7_describeWhole_60 rfl (lv_at hl 0 rfl) ?_
  refine lv_bipush (v := 11) hx hb dX7_describeWhole_61 (by decide) ?_
  refine lv_aload_n hx hb dX7_describeWhole_63 rfl (lv_at hl 2 rfl) ?_
  refine k_get C0 fg_X7_56 hP 3 rfl rfl dX7_describeWhole_64 ?_
  refine lv_iload_n hx hb dX7_describeWhole_67 rfl (lv_at hl 3 rfl) ?_
  refine lv_ishr hx hb dX7_describeWhole_68 ?_
  refine lv_topi (fun z27493 ez27493 => ?_)
  refine lv_iconst (v := 1) hx hb dX7_describeWhole_69 (by decide) ?_
  refine lv_iand hx hb dX7_describeWhole_70 ?_
  refine lv_topi (fun z27494 ez27494 => ?_)
  have h27495 : ib z27494 0 1 := by rw [ez27494]; exact ib_and 1 (by decide) (by decide) 1 (by decide)
  refine va_iast hx hb C0.2.2.2.2.2.1 hP hD hS 7 0 rfl rfl (k_in 11 13 (by decide)) dX7_describeWhole_71 (fun H locs hP hD hS => ?_)
  have hP : va_P (dC, dI) vwCl [(a_this_trusts, .inl (cy 0, 6, .inl g_this_trusts)), (a_this_leaves, .inl (cy 0, 12, .inl g_this_leaves)), (a_this_plan_comesAt, .inl (cy 0, 12, .inl g_this_plan_comesAt)), (a_this, .inr (7, [.ref a_this_machine, .ref a_this_plan, .int x_this_day, .ref a_this_trusts, .int x_this_rule, .int x_this_green, .int x_this_absent, .int x_this_asksReds, .ref a_this_cars, .ref a_this_gaps, .ref a_this_known, .ref a_this_left, .ref a_this_leaves, .int x_this_pressed, .int x_this_crossed, .int x_this_went, .int x_this_harmed])), (a_this_plan, .inr (4, [.int x_this_plan_cycle, .int x_this_plan_green, .int x_this_plan_rule, .int x_this_plan_least, .int x_this_plan_away, .int x_this_plan_statements, .int x_this_plan_kinds, .ref a_this_plan_calm, .ref a_this_plan_pace, .ref a_this_plan_trusts, .int x_this_plan_walkers, .ref a_this_plan_kindOf, .ref a_this_plan_comesAt, .ref a_this_plan_comers, .ref a_this_plan_names, .ref a_this_plan_code, .int x_this_plan_size, .ref a_this_plan_spans])), (a_this_plan_kindOf, .inl (cy 0, 12, .inl g_this_plan_kindOf)), (a_this_machine, .inr (3, [.ref a_this_machine_facts, .ref a_this_machine_stack])), (a_this_machine_facts, .inl (cy 0, 13, .inl (upd f27492 (Int32.toNatClampNeg 11) z27494))), (a_this_plan_calm, .inl (cy 0, 6, .inl g_this_plan_calm)), (a_this_plan_pace, .inl (cy 0, 6, .inl g_this_plan_pace))] H := hP
  have hD : va_D A [(a_this_trusts, .inl (cy 0, 6, .inl g_this_trusts)), (a_this_leaves, .inl (cy 0, 12, .inl g_this_leaves)), (a_this_plan_comesAt, .inl (cy 0, 12, .inl g_this_plan_comesAt)), (a_this, .inr (7, [.ref a_this_machine, .ref a_this_plan, .int x_this_day, .ref a_this_trusts, .int x_this_rule, .int x_this_green, .int x_this_absent, .int x_this_asksReds, .ref a_this_cars, .ref a_this_gaps, .ref a_this_known, .ref a_this_left, .ref a_this_leaves, .int x_this_pressed, .int x_this_crossed, .int x_this_went, .int x_this_harmed])), (a_this_plan, .inr (4, [.int x_this_plan_cycle, .int x_this_plan_green, .int x_this_plan_rule, .int x_this_plan_least, .int x_this_plan_away, .int x_this_plan_statements, .int x_this_plan_kinds, .ref a_this_plan_calm, .ref a_this_plan_pace, .ref a_this_plan_trusts, .int x_this_plan_walkers, .ref a_this_plan_kindOf, .ref a_this_plan_comesAt, .ref a_this_plan_comers, .ref a_this_plan_names, .ref a_this_plan_code, .int x_this_plan_size, .ref a_this_plan_spans])), (a_this_plan_kindOf, .inl (cy 0, 12, .inl g_this_plan_kindOf)), (a_this_machine, .inr (3, [.ref a_this_machine_facts, .ref a_this_machine_stack])), (a_this_machine_facts, .inl (cy 0, 13, .inl (upd f27492 (Int32.toNatClampNeg 11) z27494))), (a_this_plan_calm, .inl (cy 0, 6, .inl g_this_plan_calm)), (a_this_plan_pace, .inl (cy 0, 6, .inl g_this_plan_pace))] := hD
  generalize upd f27492 (Int32.toNatClampNeg 11) z27494 = f27496 at hP hD
  refine lv_aload_n hx hb dX7_describeWhole_72 rfl (lv_at hl 0 rfl) ?_
  refine lv_bipush (v := 12) hx hb dX7_describeWhole_73 (by decide) ?_
  refine lv_iload_n hx hb dX7_describeWhole_75 rfl (lv_at hl 1 rfl) ?_
  refine va_iast hx hb C0.2.2.2.2.2.1 hP hD hS 7 0 rfl rfl (k_in 12 13 (by decide)) dX7_describeWhole_76 (fun H locs hP hD hS => ?_)
  have hP : va_P (dC, dI) vwCl [(a_this_trusts, .inl (cy 0, 6, .inl g_this_trusts)), (a_this_leaves, .inl (cy 0, 12, .inl g_this_leaves)), (a_this_plan_comesAt, .inl (cy 0, 12, .inl g_this_plan_comesAt)), (a_this, .inr (7, [.ref a_this_machine, .ref a_this_plan, .int x_this_day, .ref a_this_trusts, .int x_this_rule, .int x_this_green, .int x_this_absent, .int x_this_asksReds, .ref a_this_cars, .ref a_this_gaps, .ref a_this_known, .ref a_this_left, .ref a_this_leaves, .int x_this_pressed, .int x_this_crossed, .int x_this_went, .int x_this_harmed])), (a_this_plan, .inr (4, [.int x_this_plan_cycle, .int x_this_plan_green, .int x_this_plan_rule, .int x_this_plan_least, .int x_this_plan_away, .int x_this_plan_statements, .int x_this_plan_kinds, .ref a_this_plan_calm, .ref a_this_plan_pace, .ref a_this_plan_trusts, .int x_this_plan_walkers, .ref a_this_plan_kindOf, .ref a_this_plan_comesAt, .ref a_this_plan_comers, .ref a_this_plan_names, .ref a_this_plan_code, .int x_this_plan_size, .ref a_this_plan_spans])), (a_this_plan_kindOf, .inl (cy 0, 12, .inl g_this_plan_kindOf)), (a_this_machine, .inr (3, [.ref a_this_machine_facts, .ref a_this_machine_stack])), (a_this_machine_facts, .inl (cy 0, 13, .inl (upd f27496 (Int32.toNatClampNeg 12) z27478))), (a_this_plan_calm, .inl (cy 0, 6, .inl g_this_plan_calm)), (a_this_plan_pace, .inl (cy 0, 6, .inl g_this_plan_pace))] H := hP
  have hD : va_D A [(a_this_trusts, .inl (cy 0, 6, .inl g_this_trusts)), (a_this_leaves, .inl (cy 0, 12, .inl g_this_leaves)), (a_this_plan_comesAt, .inl (cy 0, 12, .inl g_this_plan_comesAt)), (a_this, .inr (7, [.ref a_this_machine, .ref a_this_plan, .int x_this_day, .ref a_this_trusts, .int x_this_rule, .int x_this_green, .int x_this_absent, .int x_this_asksReds, .ref a_this_cars, .ref a_this_gaps, .ref a_this_known, .ref a_this_left, .ref a_this_leaves, .int x_this_pressed, .int x_this_crossed, .int x_this_went, .int x_this_harmed])), (a_this_plan, .inr (4, [.int x_this_plan_cycle, .int x_this_plan_green, .int x_this_plan_rule, .int x_this_plan_least, .int x_this_plan_away, .int x_this_plan_statements, .int x_this_plan_kinds, .ref a_this_plan_calm, .ref a_this_plan_pace, .ref a_this_plan_trusts, .int x_this_plan_walkers, .ref a_this_plan_kindOf, .ref a_this_plan_comesAt, .ref a_this_plan_comers, .ref a_this_plan_names, .ref a_this_plan_code, .int x_this_plan_size, .ref a_this_plan_spans])), (a_this_plan_kindOf, .inl (cy 0, 12, .inl g_this_plan_kindOf)), (a_this_machine, .inr (3, [.ref a_this_machine_facts, .ref a_this_machine_stack])), (a_this_machine_facts, .inl (cy 0, 13, .inl (upd f27496 (Int32.toNatClampNeg 12) z27478))), (a_this_plan_calm, .inl (cy 0, 6, .inl g_this_plan_calm)), (a_this_plan_pace, .inl (cy 0, 6, .inl g_this_plan_pace))] := hD
  generalize upd f27496 (Int32.toNatClampNeg 12) z27478 = f27497 at hP hD
  subst hQ; exact k_vret hx hb hr hlk f27497 hS True.intro (hP.sub [3, 4, 5, 6, 2, 1, 0, 7, 8, 9] rfl) (hD.sub [3, 4, 5, 6, 2, 1, 0, 7, 8, 9] (by decide) rfl) (Nat.le_of_ble_eq_true rfl) (Nat.le_of_ble_eq_true rfl) dX7_describeWhole_77
set_option maxHeartbeats 4000000 in
set_option maxRecDepth 100000 in
theorem s_X7_willing (l : Launch) (dC : Nat → ClassId) (dI : Nat → Nat → Nat) (cy : Nat → ClassId) (sq : Nat → Nat) (a_this : Nat) (a_this_machine : Nat) (a_this_plan : Nat) (x_this_plan_cycle : Int32) (x_this_plan_green : Int32) (x_this_plan_rule : Int32) (x_this_plan_least : Int32) (x_this_plan_away : Int32) (x_this_plan_statements : Int32) (x_this_plan_kinds : Int32) (a_this_plan_calm : Nat) (a_this_plan_pace : Nat) (a_this_plan_trusts : Nat) (x_this_plan_walkers : Int32) (a_this_plan_kindOf : Nat) (g_this_plan_kindOf : Nat → Int32) (a_this_plan_comesAt : Nat) (a_this_plan_comers : Nat) (a_this_plan_names : Nat) (a_this_plan_code : Nat) (x_this_plan_size : Int32) (a_this_plan_spans : Nat) (x_this_day : Int32) (a_this_trusts : Nat) (g_this_trusts : Nat → Int32) (x_this_rule : Int32) (x_this_green : Int32) (x_this_absent : Int32) (x_this_asksReds : Int32) (a_this_cars : Nat) (a_this_gaps : Nat) (a_this_known : Nat) (a_this_left : Nat) (a_this_leaves : Nat) (x_this_pressed : Int32) (x_this_crossed : Int32) (x_this_went : Int32) (x_this_harmed : Int32) (hx_this_plan_cycle : ib x_this_plan_cycle 0 120) (hx_this_plan_least : ib x_this_plan_least 0 99) (hx_this_plan_statements : ib x_this_plan_statements 0 81) (hx_this_plan_kinds : ib x_this_plan_kinds 0 6) (hx_this_plan_walkers : ib x_this_plan_walkers 0 12) (hg_this_plan_kindOf : ia g_this_plan_kindOf 12 0 5) (hx_this_plan_size : ib x_this_plan_size 0 1600) (hx_this_asksReds : ib x_this_asksReds 0 1) : k_Met l yX7_willing cX7_willing 3 (some .int) { frames := 0, cells := 0, slots := 0, locals := 0 } dC dI cy sq [.ref a_this] [(a_this, .inr (7, [.ref a_this_machine, .ref a_this_plan, .int x_this_day, .ref a_this_trusts, .int x_this_rule, .int x_this_green, .int x_this_absent, .int x_this_asksReds, .ref a_this_cars, .ref a_this_gaps, .ref a_this_known, .ref a_this_left, .ref a_this_leaves, .int x_this_pressed, .int x_this_crossed, .int x_this_went, .int x_this_harmed])), (a_this_plan, .inr (4, [.int x_this_plan_cycle, .int x_this_plan_green, .int x_this_plan_rule, .int x_this_plan_least, .int x_this_plan_away, .int x_this_plan_statements, .int x_this_plan_kinds, .ref a_this_plan_calm, .ref a_this_plan_pace, .ref a_this_plan_trusts, .int x_this_plan_walkers, .ref a_this_plan_kindOf, .ref a_this_plan_comesAt, .ref a_this_plan_comers, .ref a_this_plan_names, .ref a_this_plan_code, .int x_this_plan_size, .ref a_this_plan_spans])), (a_this_plan_kindOf, .inl (cy 0, 12, .inl g_this_plan_kindOf)), (a_this_trusts, .inl (cy 0, 6, .inl g_this_trusts))] (k_Qi dC dI (fun (r : Int32) (_ : Unit) => True) (fun _ : Unit => [(a_this, .inr (7, [.ref a_this_machine, .ref a_this_plan, .int x_this_day, .ref a_this_trusts, .int x_this_rule, .int x_this_green, .int x_this_absent, .int x_this_asksReds, .ref a_this_cars, .ref a_this_gaps, .ref a_this_known, .ref a_this_left, .ref a_this_leaves, .int x_this_pressed, .int x_this_crossed, .int x_this_went, .int x_this_harmed])), (a_this_plan, .inr (4, [.int x_this_plan_cycle, .int x_this_plan_green, .int x_this_plan_rule, .int x_this_plan_least, .int x_this_plan_away, .int x_this_plan_statements, .int x_this_plan_kinds, .ref a_this_plan_calm, .ref a_this_plan_pace, .ref a_this_plan_trusts, .int x_this_plan_walkers, .ref a_this_plan_kindOf, .ref a_this_plan_comesAt, .ref a_this_plan_comers, .ref a_this_plan_names, .ref a_this_plan_code, .int x_this_plan_size, .ref a_this_plan_spans])), (a_this_plan_kindOf, .inl (cy 0, 12, .inl g_this_plan_kindOf)), (a_this_trusts, .inl (cy 0, 6, .inl g_this_trusts))])) := by
  refine k_ofW2 (by decide +kernel) (Nat.le_of_ble_eq_true rfl) ?_
  intro p e s m below meth c A ls H locs args Q hQ C0 hr hlk hin hP hD hA hS hl
  have C0 : k_cx p s m args c cX7_willing 3 RX7 dC dI cy sq := C0
  have hx := C0.1
  have hb := C0.2.1
  have hl : lv_has ls 3 [(0, .ref a_this)] := hl
  have jn4 : ∀ (n : Nat) (J4_l2 : Int32) (J4_l1 : Int32) (H : Heap) (locs : List Loc) (ls : Array Slot), ib J4_l2 0 12 → 13 ≤ J4_l2.toInt + (n : Int) → va_P (dC, dI) vwCl [(a_this, .inr (7, [.ref a_this_machine, .ref a_this_plan, .int x_this_day, .ref a_this_trusts, .int x_this_rule, .int x_this_green, .int x_this_absent, .int x_this_asksReds, .ref a_this_cars, .ref a_this_gaps, .ref a_this_known, .ref a_this_left, .ref a_this_leaves, .int x_this_pressed, .int x_this_crossed, .int x_this_went, .int x_this_harmed])), (a_this_plan, .inr (4, [.int x_this_plan_cycle, .int x_this_plan_green, .int x_this_plan_rule, .int x_this_plan_least, .int x_this_plan_away, .int x_this_plan_statements, .int x_this_plan_kinds, .ref a_this_plan_calm, .ref a_this_plan_pace, .ref a_this_plan_trusts, .int x_this_plan_walkers, .ref a_this_plan_kindOf, .ref a_this_plan_comesAt, .ref a_this_plan_comers, .ref a_this_plan_names, .ref a_this_plan_code, .int x_this_plan_size, .ref a_this_plan_spans])), (a_this_plan_kindOf, .inl (cy 0, 12, .inl g_this_plan_kindOf)), (a_this_trusts, .inl (cy 0, 6, .inl g_this_trusts))] H → va_D A [(a_this, .inr (7, [.ref a_this_machine, .ref a_this_plan, .int x_this_day, .ref a_this_trusts, .int x_this_rule, .int x_this_green, .int x_this_absent, .int x_this_asksReds, .ref a_this_cars, .ref a_this_gaps, .ref a_this_known, .ref a_this_left, .ref a_this_leaves, .int x_this_pressed, .int x_this_crossed, .int x_this_went, .int x_this_harmed])), (a_this_plan, .inr (4, [.int x_this_plan_cycle, .int x_this_plan_green, .int x_this_plan_rule, .int x_this_plan_least, .int x_this_plan_away, .int x_this_plan_statements, .int x_this_plan_kinds, .ref a_this_plan_calm, .ref a_this_plan_pace, .ref a_this_plan_trusts, .int x_this_plan_walkers, .ref a_this_plan_kindOf, .ref a_this_plan_comesAt, .ref a_this_plan_comers, .ref a_this_plan_names, .ref a_this_plan_code, .int x_this_plan_size, .ref a_this_plan_spans])), (a_this_plan_kindOf, .inl (cy 0, 12, .inl g_this_plan_kindOf)), (a_this_trusts, .inl (cy 0, 6, .inl g_this_trusts))] → va_S A s.heap H locs → lv_has ls 3 [(0, .ref a_this), (1, .int J4_l1), (2, .int J4_l2)] → W p l e { frames := 0, cells := 0, slots := 0, locals := 0 } s m args below meth c H locs 0 0 Q (F0 m 4 ls []) := by
    intro n
    induction n with
    | zero =>
      intro J4_l2 J4_l1 H locs ls hJ4_l2 hm
      exact absurd hm (by have := hJ4_l2; unfold ib at this; omega)
    | succ n ih =>
      intro J4_l2 J4_l1 H locs ls hJ4_l2 hm4 hP hD hS hl
      have ih4 := ih
      have jn38 : ∀ (J38_l1 : Int32) (H : Heap) (locs : List Loc) (ls : Array Slot), ib J4_l2 0 11 → ib x_this_plan_walkers 1 12 → va_P (dC, dI) vwCl [(a_this, .inr (7, [.ref a_this_machine, .ref a_this_plan, .int x_this_day, .ref a_this_trusts, .int x_this_rule, .int x_this_green, .int x_this_absent, .int x_this_asksReds, .ref a_this_cars, .ref a_this_gaps, .ref a_this_known, .ref a_this_left, .ref a_this_leaves, .int x_this_pressed, .int x_this_crossed, .int x_this_went, .int x_this_harmed])), (a_this_plan, .inr (4, [.int x_this_plan_cycle, .int x_this_plan_green, .int x_this_plan_rule, .int x_this_plan_least, .int x_this_plan_away, .int x_this_plan_statements, .int x_this_plan_kinds, .ref a_this_plan_calm, .ref a_this_plan_pace, .ref a_this_plan_trusts, .int x_this_plan_walkers, .ref a_this_plan_kindOf, .ref a_this_plan_comesAt, .ref a_this_plan_comers, .ref a_this_plan_names, .ref a_this_plan_code, .int x_this_plan_size, .ref a_this_plan_spans])), (a_this_plan_kindOf, .inl (cy 0, 12, .inl g_this_plan_kindOf)), (a_this_trusts, .inl (cy 0, 6, .inl g_this_trusts))] H → va_D A [(a_this, .inr (7, [.ref a_this_machine, .ref a_this_plan, .int x_this_day, .ref a_this_trusts, .int x_this_rule, .int x_this_green, .int x_this_absent, .int x_this_asksReds, .ref a_this_cars, .ref a_this_gaps, .ref a_this_known, .ref a_this_left, .ref a_this_leaves, .int x_this_pressed, .int x_this_crossed, .int x_this_went, .int x_this_harmed])), (a_this_plan, .inr (4, [.int x_this_plan_cycle, .int x_this_plan_green, .int x_this_plan_rule, .int x_this_plan_least, .int x_this_plan_away, .int x_this_plan_statements, .int x_this_plan_kinds, .ref a_this_plan_calm, .ref a_this_plan_pace, .ref a_this_plan_trusts, .int x_this_plan_walkers, .ref a_this_plan_kindOf, .ref a_this_plan_comesAt, .ref a_this_plan_comers, .ref a_this_plan_names, .ref a_this_plan_code, .int x_this_plan_size, .ref a_this_plan_spans])), (a_this_plan_kindOf, .inl (cy 0, 12, .inl g_this_plan_kindOf)), (a_this_trusts, .inl (cy 0, 6, .inl g_this_trusts))] → va_S A s.heap H locs → lv_has ls 3 [(0, .ref a_this), (1, .int J38_l1), (2, .int J4_l2)] → W p l e { frames := 0, cells := 0, slots := 0, locals := 0 } s m args below meth c H locs 0 0 Q (F0 m 38 ls []) := by
        intro J38_l1 H locs ls hJ38_l2 hJ38_c1_10 hP hD hS hl
        obtain ⟨z41310, ez41310⟩ : ∃ y : Int32, y = J4_l2 + 1 := ⟨_, rfl⟩
        refine lv_iinc (v := z41310) (lv' := [(2, .int z41310), (0, .ref a_this), (1, .int J38_l1)]) hx hb dX7_willing_38 hl (k := 2) rfl (by rw [ez41310]; rfl) (by decide) rfl (fun ls hl => ?_)
        have h41311 := ib_add hJ38_l2 (ib_c 1 1 1 (by decide)) (by decide)
        rw [← ez41310] at h41311
        have h41312 : ib z41310 1 12 := ib_w 1 12 h41311.1 (by decide)
        refine lv_goto (tgt := 4) hx hb dX7_willing_41 (by decide) ?_
        exact ih4 z41310 J38_l1 H locs ls (ib_w 0 12 h41312 (by decide)) (by have := h41311.2; have : (1 : Int32).toInt = 1 := (by decide); omega) hP hD hS (lv_sub hl [1, 2, 0] rfl)
      refine lv_iload_n hx hb dX7_willing_4 rfl (lv_at hl 2 rfl) ?_
      refine lv_aload_n hx hb dX7_willing_5 rfl (lv_at hl 0 rfl) ?_
      refine k_get C0 fg_X7_63 hP 0 rfl rfl dX7_willing_6 ?_
      refine k_get C0 fg_X7_137 hP 1 rfl rfl dX7_willing_9 ?_
      refine lv_icmp_ge (tgt := 44) hx hb dX7_willing_12 (by decide) (fun c41313 => ?_) (fun c41313 => ?_)
      · have h41314 := ib_le hx_this_plan_walkers hJ4_l2 c41313
        refine lv_iload_n hx hb dX7_willing_44 rfl (lv_at hl 1 rfl) ?_
        refine lv_aload_n hx hb dX7_willing_45 rfl (lv_at hl 0 rfl) ?_
        refine k_get C0 fg_X7_25 hP 0 rfl rfl dX7_willing_46 ?_
        refine lv_iconst (v := (-1)) hx hb dX7_willing_49 (by decide) ?_
        refine lv_ixor hx hb dX7_willing_50 ?_
        refine lv_topi (fun z41315 ez41315 => ?_)
        refine lv_iand hx hb dX7_willing_51 ?_
        refine lv_topi (fun z41316 ez41316 => ?_)
        subst hQ; exact k_iret hx hb hr hlk rfl () hS True.intro hP hD (Nat.le_of_ble_eq_true rfl) (Nat.le_of_ble_eq_true rfl) dX7_willing_52
      · have h41317 := ib_nle hx_this_plan_walkers hJ4_l2 c41313
        have h41318 : ib x_this_plan_walkers 1 12 := ib_w 1 12 h41317.1 (by decide)
        have h41319 : ib J4_l2 0 11 := ib_w 0 11 h41317.2 (by decide)
        refine lv_aload_n hx hb dX7_willing_15 rfl (lv_at hl 0 rfl) ?_
        refine k_get C0 fg_X7_15 hP 0 rfl rfl dX7_willing_16 ?_
        refine lv_aload_n hx hb dX7_willing_19 rfl (lv_at hl 0 rfl) ?_
        refine k_get C0 fg_X7_63 hP 0 rfl rfl dX7_willing_20 ?_
        refine k_get C0 fg_X7_140 hP 1 rfl rfl dX7_willing_23 ?_
        refine lv_iload_n hx hb dX7_willing_26 rfl (lv_at hl 2 rfl) ?_
        refine va_iald hx hb C0.2.2.2.2.2.1 hP 2 0 rfl rfl (ib_in 12 h41319 (by decide)) dX7_willing_27 ?_
        refine lv_topi (fun z41320 ez41320 => ?_)
        have h41321 : ib z41320 0 5 := by rw [ez41320]; exact ia_at hg_this_plan_kindOf (ib_in 12 h41319 (by decide))
        refine va_iald hx hb C0.2.2.2.2.2.1 hP 3 0 rfl rfl (ib_in 6 h41321 (by decide)) dX7_willing_28 ?_
        refine lv_topi (fun z41322 ez41322 => ?_)
        refine lv_if_le (tgt := 38) hx hb dX7_willing_29 (by decide) (fun c41323 => ?_) (fun c41323 => ?_)
        · have h41324 := ib_le (ib_any z41322) (ib_c 0 0 0 (by decide)) c41323
          have h41325 : ib z41322 (-2147483648) 0 := ib_w (-2147483648) 0 h41324.1 (by decide)
          obtain ⟨z41326, ez41326⟩ : ∃ y : Int32, y = J4_l2 + 1 := ⟨_, rfl⟩
          refine lv_iinc (v := z41326) (lv' := [(2, .int z41326), (0, .ref a_this), (1, .int J4_l1)]) hx hb dX7_willing_38 hl (k := 2) rfl (by rw [ez41326]; rfl) (by decide) rfl (fun ls hl => ?_)
          have h41327 := ib_add h41319 (ib_c 1 1 1 (by decide)) (by decide)
          rw [← ez41326] at h41327
          have h41328 : ib z41326 1 12 := ib_w 1 12 h41327.1 (by decide)
          refine lv_goto (tgt := 4) hx hb dX7_willing_41 (by decide) ?_
          exact ih4 z41326 J4_l1 H locs ls (ib_w 0 12 h41328 (by decide)) (by have := h41327.2; have : (1 : Int32).toInt = 1 := (by decide); omega) hP hD hS (lv_sub hl [1, 2, 0] rfl)
        · have h41329 := ib_nle (ib_any z41322) (ib_c 0 0 0 (by decide)) c41323
          have h41330 : ib z41322 1 2147483647 := ib_w 1 2147483647 h41329.1 (by decide)
          refine lv_iload_n hx hb dX7_willing_32 rfl (lv_at hl 1 rfl) ?_
          refine lv_iconst (v := 1) hx hb dX7_willing_33 (by decide) ?_
          refine lv_iload_n hx hb dX7_willing_34 rfl (lv_at hl 2 rfl) ?_
          refine lv_ishl hx hb dX7_willing_35 ?_
          refine lv_topi (fun z41331 ez41331 => ?_)
          refine lv_ior hx hb dX7_willing_36 ?_
          refine lv_topi (fun z41332 ez41332 => ?_)
          refine lv_istore_n (lv' := [(1, .int z41332), (0, .ref a_this), (2, .int J4_l2)]) hx hb dX7_willing_37 rfl hl (by decide) rfl (fun ls hl => ?_)
          exact jn38 z41332 H locs ls (ib_w 0 11 h41319 (by decide)) (ib_w 1 12 h41318 (by decide)) hP hD hS (lv_sub hl [1, 0, 2] rfl)
  refine lv_iconst (v := 0) hx hb dX7_willing_0 (by decide) ?_
  refine lv_istore_n (lv' := [(1, .int 0), (0, .ref a_this)]) hx hb dX7_willing_1 rfl hl (by decide) rfl (fun ls hl => ?_)
  refine lv_iconst (v := 0) hx hb dX7_willing_2 (by decide) ?_
  refine lv_istore_n (lv' := [(2, .int 0), (1, .int 0), (0, .ref a_this)]) hx hb dX7_willing_3 rfl hl (by decide) rfl (fun ls hl => ?_)
  exact jn4 14 0 0 H locs ls (ib_w 0 12 (ib_c 0 0 0 (by decide)) (by decide)) (by have := (ib_c 0 0 0 (by decide)); unfold ib at this; omega) hP hD hS (lv_sub hl [2, 1, 0] rfl)
set_option maxHeartbeats 4000000 in
set_option maxRecDepth 100000 in
theorem s_X7_shine (l : Launch) (dC : Nat → ClassId) (dI : Nat → Nat → Nat) (cy : Nat → ClassId) (sq : Nat → Nat) (a_this : Nat) (a_this_machine : Nat) (a_this_plan : Nat) (x_this_plan_cycle : Int32) (x_this_plan_green : Int32) (x_this_plan_rule : Int32) (x_this_plan_least : Int32) (x_this_plan_away : Int32) (x_this_plan_statements : Int32) (x_this_plan_kinds : Int32) (a_this_plan_calm : Nat) (a_this_plan_pace : Nat) (a_this_plan_trusts : Nat) (x_this_plan_walkers : Int32) (a_this_plan_kindOf : Nat) (g_this_plan_kindOf : Nat → Int32) (a_this_plan_comesAt : Nat) (a_this_plan_comers : Nat) (g_this_plan_comers : Nat → Int32) (a_this_plan_names : Nat) (a_this_plan_code : Nat) (x_this_plan_size : Int32) (a_this_plan_spans : Nat) (x_this_day : Int32) (a_this_trusts : Nat) (g_this_trusts : Nat → Int32) (x_this_rule : Int32) (x_this_green : Int32) (x_this_absent : Int32) (x_this_asksReds : Int32) (a_this_cars : Nat) (a_this_gaps : Nat) (a_this_known : Nat) (a_this_left : Nat) (g_this_left : Nat → Int32) (a_this_leaves : Nat) (x_this_pressed : Int32) (x_this_crossed : Int32) (x_this_went : Int32) (x_this_harmed : Int32) (hx_this_plan_least : ib x_this_plan_least 0 99) (hx_this_plan_statements : ib x_this_plan_statements 0 81) (hx_this_plan_kinds : ib x_this_plan_kinds 0 6) (hx_this_plan_walkers : ib x_this_plan_walkers 0 12) (hg_this_plan_kindOf : ia g_this_plan_kindOf 12 0 5) (hx_this_plan_size : ib x_this_plan_size 0 1600) (hx_this_asksReds : ib x_this_asksReds 0 1) (hx_this_plan_cycle : ib x_this_plan_cycle 1 120) : k_Met l yX7_shine cX7_shine 9 none { frames := 1, cells := 0, slots := 0, locals := 22 } dC dI cy sq [.ref a_this] [(a_this, .inr (7, [.ref a_this_machine, .ref a_this_plan, .int x_this_day, .ref a_this_trusts, .int x_this_rule, .int x_this_green, .int x_this_absent, .int x_this_asksReds, .ref a_this_cars, .ref a_this_gaps, .ref a_this_known, .ref a_this_left, .ref a_this_leaves, .int x_this_pressed, .int x_this_crossed, .int x_this_went, .int x_this_harmed])), (a_this_plan, .inr (4, [.int x_this_plan_cycle, .int x_this_plan_green, .int x_this_plan_rule, .int x_this_plan_least, .int x_this_plan_away, .int x_this_plan_statements, .int x_this_plan_kinds, .ref a_this_plan_calm, .ref a_this_plan_pace, .ref a_this_plan_trusts, .int x_this_plan_walkers, .ref a_this_plan_kindOf, .ref a_this_plan_comesAt, .ref a_this_plan_comers, .ref a_this_plan_names, .ref a_this_plan_code, .int x_this_plan_size, .ref a_this_plan_spans])), (a_this_plan_kindOf, .inl (cy 0, 12, .inl g_this_plan_kindOf)), (a_this_trusts, .inl (cy 0, 6, .inl g_this_trusts)), (a_this_plan_comers, .inl (cy 0, 200, .inl g_this_plan_comers)), (a_this_left, .inl (cy 0, 300, .inl g_this_left))] (k_Qv dC dI (fun (u : Int32 × (Nat → Int32)) => match u with | (n0, n1) => True) (fun u : Int32 × (Nat → Int32) => match u with | (n0, n1) => [(a_this, .inr (7, [.ref a_this_machine, .ref a_this_plan, .int x_this_day, .ref a_this_trusts, .int x_this_rule, .int x_this_green, .int x_this_absent, .int x_this_asksReds, .ref a_this_cars, .ref a_this_gaps, .ref a_this_known, .ref a_this_left, .ref a_this_leaves, .int n0, .int x_this_crossed, .int x_this_went, .int x_this_harmed])), (a_this_plan, .inr (4, [.int x_this_plan_cycle, .int x_this_plan_green, .int x_this_plan_rule, .int x_this_plan_least, .int x_this_plan_away, .int x_this_plan_statements, .int x_this_plan_kinds, .ref a_this_plan_calm, .ref a_this_plan_pace, .ref a_this_plan_trusts, .int x_this_plan_walkers, .ref a_this_plan_kindOf, .ref a_this_plan_comesAt, .ref a_this_plan_comers, .ref a_this_plan_names, .ref a_this_plan_code, .int x_this_plan_size, .ref a_this_plan_spans])), (a_this_plan_kindOf, .inl (cy 0, 12, .inl g_this_plan_kindOf)), (a_this_trusts, .inl (cy 0, 6, .inl g_this_trusts)), (a_this_plan_comers, .inl (cy 0, 200, .inl g_this_plan_comers)), (a_this_left, .inl (cy 0, 300, .inl n1))])) := by
  refine k_ofW2 (by decide +kernel) (Nat.le_of_ble_eq_true rfl) ?_
  intro p e s m below meth c A ls H locs args Q hQ C0 hr hlk hin hP hD hA hS hl
  have C0 : k_cx p s m args c cX7_shine 9 RX7 dC dI cy sq := C0
  have hx := C0.1
  have hb := C0.2.1
  have hl : lv_has ls 9 [(0, .ref a_this)] := hl
  have jn20 : ∀ (n : Nat) (J20_l1 : Int32) (J20_l2 : Int32) (J20_l3 : Int32) (J20_l4 : Int32) (J20_l5 : Int32) (J20_c0_13 : Int32) (J20_a5 : Nat → Int32) (H : Heap) (locs : List Loc) (ls : Array Slot), ib J20_l2 0 1 → ib J20_l3 0 1 → ib J20_l4 (-1) 300 → ib J20_l5 0 300 → 301 ≤ J20_l5.toInt + (n : Int) → va_P (dC, dI) vwCl [(a_this, .inr (7, [.ref a_this_machine, .ref a_this_plan, .int x_this_day, .ref a_this_trusts, .int x_this_rule, .int x_this_green, .int x_this_absent, .int x_this_asksReds, .ref a_this_cars, .ref a_this_gaps, .ref a_this_known, .ref a_this_left, .ref a_this_leaves, .int J20_c0_13, .int x_this_crossed, .int x_this_went, .int x_this_harmed])), (a_this_plan, .inr (4, [.int x_this_plan_cycle, .int x_this_plan_green, .int x_this_plan_rule, .int x_this_plan_least, .int x_this_plan_away, .int x_this_plan_statements, .int x_this_plan_kinds, .ref a_this_plan_calm, .ref a_this_plan_pace, .ref a_this_plan_trusts, .int x_this_plan_walkers, .ref a_this_plan_kindOf, .ref a_this_plan_comesAt, .ref a_this_plan_comers, .ref a_this_plan_names, .ref a_this_plan_code, .int x_this_plan_size, .ref a_this_plan_spans])), (a_this_plan_kindOf, .inl (cy 0, 12, .inl g_this_plan_kindOf)), (a_this_trusts, .inl (cy 0, 6, .inl g_this_trusts)), (a_this_plan_comers, .inl (cy 0, 200, .inl g_this_plan_comers)), (a_this_left, .inl (cy 0, 300, .inl J20_a5))] H → va_D A [(a_this, .inr (7, [.ref a_this_machine, .ref a_this_plan, .int x_this_day, .ref a_this_trusts, .int x_this_rule, .int x_this_green, .int x_this_absent, .int x_this_asksReds, .ref a_this_cars, .ref a_this_gaps, .ref a_this_known, .ref a_this_left, .ref a_this_leaves, .int J20_c0_13, .int x_this_crossed, .int x_this_went, .int x_this_harmed])), (a_this_plan, .inr (4, [.int x_this_plan_cycle, .int x_this_plan_green, .int x_this_plan_rule, .int x_this_plan_least, .int x_this_plan_away, .int x_this_plan_statements, .int x_this_plan_kinds, .ref a_this_plan_calm, .ref a_this_plan_pace, .ref a_this_plan_trusts, .int x_this_plan_walkers, .ref a_this_plan_kindOf, .ref a_this_plan_comesAt, .ref a_this_plan_comers, .ref a_this_plan_names, .ref a_this_plan_code, .int x_this_plan_size, .ref a_this_plan_spans])), (a_this_plan_kindOf, .inl (cy 0, 12, .inl g_this_plan_kindOf)), (a_this_trusts, .inl (cy 0, 6, .inl g_this_trusts)), (a_this_plan_comers, .inl (cy 0, 200, .inl g_this_plan_comers)), (a_this_left, .inl (cy 0, 300, .inl J20_a5))] → va_S A s.heap H locs → lv_has ls 9 [(0, .ref a_this), (1, .int J20_l1), (2, .int J20_l2), (3, .int J20_l3), (4, .int J20_l4), (5, .int J20_l5)] → W p l e { frames := 1, cells := 0, slots := 0, locals := 22 } s m args below meth c H locs 0 0 Q (F0 m 20 ls []) := by
    intro n
    induction n with
    | zero =>
      intro J20_l1 J20_l2 J20_l3 J20_l4 J20_l5 J20_c0_13 J20_a5 H locs ls hJ20_l2 hJ20_l3 hJ20_l4 hJ20_l5 hm
      exact absurd hm (by have := hJ20_l5; unfold ib at this; omega)
    | succ n ih =>
      intro J20_l1 J20_l2 J20_l3 J20_l4 J20_l5 J20_c0_13 J20_a5 H locs ls hJ20_l2 hJ20_l3 hJ20_l4 hJ20_l5 hm20 hP hD hS hl
      have ih20 := ih
      have jn261 : ∀ (J261_l2 : Int32) (J261_l3 : Int32) (J261_l4 : Int32) (J261_l6 : Int32) (J261_l7 : Int32) (J261_l8 : Int32) (J261_c0_13 : Int32) (J261_a5 : Nat → Int32) (H : Heap) (locs : List Loc) (ls : Array Slot), ib J261_l2 0 1 → ib J261_l3 0 1 → ib J261_l4 (-1) 300 → ib J20_l5 0 299 → ib J261_l8 0 300 → va_P (dC, dI) vwCl [(a_this, .inr (7, [.ref a_this_machine, .ref a_this_plan, .int x_this_day, .ref a_this_trusts, .int x_this_rule, .int x_this_green, .int x_this_absent, .int x_this_asksReds, .ref a_this_cars, .ref a_this_gaps, .ref a_this_known, .ref a_this_left, .ref a_this_leaves, .int J261_c0_13, .int x_this_crossed, .int x_this_went, .int x_this_harmed])), (a_this_plan, .inr (4, [.int x_this_plan_cycle, .int x_this_plan_green, .int x_this_plan_rule, .int x_this_plan_least, .int x_this_plan_away, .int x_this_plan_statements, .int x_this_plan_kinds, .ref a_this_plan_calm, .ref a_this_plan_pace, .ref a_this_plan_trusts, .int x_this_plan_walkers, .ref a_this_plan_kindOf, .ref a_this_plan_comesAt, .ref a_this_plan_comers, .ref a_this_plan_names, .ref a_this_plan_code, .int x_this_plan_size, .ref a_this_plan_spans])), (a_this_plan_kindOf, .inl (cy 0, 12, .inl g_this_plan_kindOf)), (a_this_trusts, .inl (cy 0, 6, .inl g_this_trusts)), (a_this_plan_comers, .inl (cy 0, 200, .inl g_this_plan_comers)), (a_this_left, .inl (cy 0, 300, .inl J261_a5))] H → va_D A [(a_this, .inr (7, [.ref a_this_machine, .ref a_this_plan, .int x_this_day, .ref a_this_trusts, .int x_this_rule, .int x_this_green, .int x_this_absent, .int x_this_asksReds, .ref a_this_cars, .ref a_this_gaps, .ref a_this_known, .ref a_this_left, .ref a_this_leaves, .int J261_c0_13, .int x_this_crossed, .int x_this_went, .int x_this_harmed])), (a_this_plan, .inr (4, [.int x_this_plan_cycle, .int x_this_plan_green, .int x_this_plan_rule, .int x_this_plan_least, .int x_this_plan_away, .int x_this_plan_statements, .int x_this_plan_kinds, .ref a_this_plan_calm, .ref a_this_plan_pace, .ref a_this_plan_trusts, .int x_this_plan_walkers, .ref a_this_plan_kindOf, .ref a_this_plan_comesAt, .ref a_this_plan_comers, .ref a_this_plan_names, .ref a_this_plan_code, .int x_this_plan_size, .ref a_this_plan_spans])), (a_this_plan_kindOf, .inl (cy 0, 12, .inl g_this_plan_kindOf)), (a_this_trusts, .inl (cy 0, 6, .inl g_this_trusts)), (a_this_plan_comers, .inl (cy 0, 200, .inl g_this_plan_comers)), (a_this_left, .inl (cy 0, 300, .inl J261_a5))] → va_S A s.heap H locs → lv_has ls 9 [(0, .ref a_this), (1, .int J20_l1), (2, .int J261_l2), (3, .int J261_l3), (4, .int J261_l4), (5, .int J20_l5), (6, .int J261_l6), (7, .int J261_l7), (8, .int J261_l8)] → W p l e { frames := 1, cells := 0, slots := 0, locals := 22 } s m args below meth c H locs 0 0 Q (F0 m 261 ls []) := by
        intro J261_l2 J261_l3 J261_l4 J261_l6 J261_l7 J261_l8 J261_c0_13 J261_a5 H locs ls hJ261_l2 hJ261_l3 hJ261_l4 hJ261_l5 hJ261_l8 hP hD hS hl
        obtain ⟨z43155, ez43155⟩ : ∃ y : Int32, y = J20_l5 + 1 := ⟨_, rfl⟩
        refine lv_iinc (v := z43155) (lv' := [(5, .int z43155), (0, .ref a_this), (1, .int J20_l1), (2, .int J261_l2), (3, .int J261_l3), (4, .int J261_l4), (6, .int J261_l6), (7, .int J261_l7), (8, .int J261_l8)]) hx hb dX7_shine_261 hl (k := 5) rfl (by rw [ez43155]; rfl) (by decide) rfl (fun ls hl => ?_)
        have h43156 := ib_add hJ261_l5 (ib_c 1 1 1 (by decide)) (by decide)
        rw [← ez43155] at h43156
        have h43157 : ib z43155 1 300 := ib_w 1 300 h43156.1 (by decide)
        refine lv_goto (tgt := 20) hx hb dX7_shine_264 (by decide) ?_
        exact ih20 J20_l1 J261_l2 J261_l3 J261_l4 z43155 J261_c0_13 J261_a5 H locs ls (ib_w 0 1 hJ261_l2 (by decide)) (ib_w 0 1 hJ261_l3 (by decide)) (ib_w (-1) 300 hJ261_l4 (by decide)) (ib_w 0 300 h43157 (by decide)) (by have := h43156.2; have : (1 : Int32).toInt = 1 := (by decide); omega) hP hD hS (lv_sub hl [1, 2, 3, 4, 5, 0] rfl)
      have jn260 : ∀ (J260_l2 : Int32) (J260_l6 : Int32) (J260_l7 : Int32) (J260_l8 : Int32) (J260_c0_13 : Int32) (J260_s0 : Int32) (J260_l3 : Int32) (H : Heap) (locs : List Loc) (ls : Array Slot), ib J260_l2 0 1 → ib J20_l3 0 1 → ib J20_l4 (-1) 300 → ib J20_l5 0 299 → ib J260_l8 0 119 → ib J260_s0 0 2147483647 → ib J260_l3 0 1 → va_P (dC, dI) vwCl [(a_this, .inr (7, [.ref a_this_machine, .ref a_this_plan, .int x_this_day, .ref a_this_trusts, .int x_this_rule, .int x_this_green, .int x_this_absent, .int x_this_asksReds, .ref a_this_cars, .ref a_this_gaps, .ref a_this_known, .ref a_this_left, .ref a_this_leaves, .int J260_c0_13, .int x_this_crossed, .int x_this_went, .int x_this_harmed])), (a_this_plan, .inr (4, [.int x_this_plan_cycle, .int x_this_plan_green, .int x_this_plan_rule, .int x_this_plan_least, .int x_this_plan_away, .int x_this_plan_statements, .int x_this_plan_kinds, .ref a_this_plan_calm, .ref a_this_plan_pace, .ref a_this_plan_trusts, .int x_this_plan_walkers, .ref a_this_plan_kindOf, .ref a_this_plan_comesAt, .ref a_this_plan_comers, .ref a_this_plan_names, .ref a_this_plan_code, .int x_this_plan_size, .ref a_this_plan_spans])), (a_this_plan_kindOf, .inl (cy 0, 12, .inl g_this_plan_kindOf)), (a_this_trusts, .inl (cy 0, 6, .inl g_this_trusts)), (a_this_plan_comers, .inl (cy 0, 200, .inl g_this_plan_comers)), (a_this_left, .inl (cy 0, 300, .inl J20_a5))] H → va_D A [(a_this, .inr (7, [.ref a_this_machine, .ref a_this_plan, .int x_this_day, .ref a_this_trusts, .int x_this_rule, .int x_this_green, .int x_this_absent, .int x_this_asksReds, .ref a_this_cars, .ref a_this_gaps, .ref a_this_known, .ref a_this_left, .ref a_this_leaves, .int J260_c0_13, .int x_this_crossed, .int x_this_went, .int x_this_harmed])), (a_this_plan, .inr (4, [.int x_this_plan_cycle, .int x_this_plan_green, .int x_this_plan_rule, .int x_this_plan_least, .int x_this_plan_away, .int x_this_plan_statements, .int x_this_plan_kinds, .ref a_this_plan_calm, .ref a_this_plan_pace, .ref a_this_plan_trusts, .int x_this_plan_walkers, .ref a_this_plan_kindOf, .ref a_this_plan_comesAt, .ref a_this_plan_comers, .ref a_this_plan_names, .ref a_this_plan_code, .int x_this_plan_size, .ref a_this_plan_spans])), (a_this_plan_kindOf, .inl (cy 0, 12, .inl g_this_plan_kindOf)), (a_this_trusts, .inl (cy 0, 6, .inl g_this_trusts)), (a_this_plan_comers, .inl (cy 0, 200, .inl g_this_plan_comers)), (a_this_left, .inl (cy 0, 300, .inl J20_a5))] → va_S A s.heap H locs → lv_has ls 9 [(0, .ref a_this), (1, .int J20_l1), (2, .int J260_l2), (3, .int J260_l3), (4, .int J20_l4), (5, .int J20_l5), (6, .int J260_l6), (7, .int J260_l7), (8, .int J260_l8)] → W p l e { frames := 1, cells := 0, slots := 0, locals := 22 } s m args below meth c H locs 0 0 Q (F0 m 260 ls [.int J260_s0, .int J20_l5, .ref a_this_left]) := by
        intro J260_l2 J260_l6 J260_l7 J260_l8 J260_c0_13 J260_s0 J260_l3 H locs ls hJ260_l2 hJ260_l3 hJ260_l4 hJ260_l5 hJ260_l8 hJ260_s0 hJ260_l3 hP hD hS hl
        refine va_iast hx hb C0.2.2.2.2.2.1 hP hD hS 5 0 rfl rfl (ib_in 300 hJ260_l5 (by decide)) dX7_shine_260 (fun H locs hP hD hS => ?_)
        have hP : va_P (dC, dI) vwCl [(a_this, .inr (7, [.ref a_this_machine, .ref a_this_plan, .int x_this_day, .ref a_this_trusts, .int x_this_rule, .int x_this_green, .int x_this_absent, .int x_this_asksReds, .ref a_this_cars, .ref a_this_gaps, .ref a_this_known, .ref a_this_left, .ref a_this_leaves, .int J260_c0_13, .int x_this_crossed, .int x_this_went, .int x_this_harmed])), (a_this_plan, .inr (4, [.int x_this_plan_cycle, .int x_this_plan_green, .int x_this_plan_rule, .int x_this_plan_least, .int x_this_plan_away, .int x_this_plan_statements, .int x_this_plan_kinds, .ref a_this_plan_calm, .ref a_this_plan_pace, .ref a_this_plan_trusts, .int x_this_plan_walkers, .ref a_this_plan_kindOf, .ref a_this_plan_comesAt, .ref a_this_plan_comers, .ref a_this_plan_names, .ref a_this_plan_code, .int x_this_plan_size, .ref a_this_plan_spans])), (a_this_plan_kindOf, .inl (cy 0, 12, .inl g_this_plan_kindOf)), (a_this_trusts, .inl (cy 0, 6, .inl g_this_trusts)), (a_this_plan_comers, .inl (cy 0, 200, .inl g_this_plan_comers)), (a_this_left, .inl (cy 0, 300, .inl (upd J20_a5 (Int32.toNatClampNeg J20_l5) J260_s0)))] H := hP
        have hD : va_D A [(a_this, .inr (7, [.ref a_this_machine, .ref a_this_plan, .int x_this_day, .ref a_this_trusts, .int x_this_rule, .int x_this_green, .int x_this_absent, .int x_this_asksReds, .ref a_this_cars, .ref a_this_gaps, .ref a_this_known, .ref a_this_left, .ref a_this_leaves, .int J260_c0_13, .int x_this_crossed, .int x_this_went, .int x_this_harmed])), (a_this_plan, .inr (4, [.int x_this_plan_cycle, .int x_this_plan_green, .int x_this_plan_rule, .int x_this_plan_least, .int x_this_plan_away, .int x_this_plan_statements, .int x_this_plan_kinds, .ref a_this_plan_calm, .ref a_this_plan_pace, .ref a_this_plan_trusts, .int x_this_plan_walkers, .ref a_this_plan_kindOf, .ref a_this_plan_comesAt, .ref a_this_plan_comers, .ref a_this_plan_names, .ref a_this_plan_code, .int x_this_plan_size, .ref a_this_plan_spans])), (a_this_plan_kindOf, .inl (cy 0, 12, .inl g_this_plan_kindOf)), (a_this_trusts, .inl (cy 0, 6, .inl g_this_trusts)), (a_this_plan_comers, .inl (cy 0, 200, .inl g_this_plan_comers)), (a_this_left, .inl (cy 0, 300, .inl (upd J20_a5 (Int32.toNatClampNeg J20_l5) J260_s0)))] := hD
        generalize upd J20_a5 (Int32.toNatClampNeg J20_l5) J260_s0 = f43158 at hP hD
        exact jn261 J260_l2 J260_l3 J20_l4 J260_l6 J260_l7 J260_l8 J260_c0_13 f43158 H locs ls (ib_w 0 1 hJ260_l2 (by decide)) (ib_w 0 1 hJ260_l3 (by decide)) (ib_w (-1) 300 hJ260_l4 (by decide)) (ib_w 0 299 hJ260_l5 (by decide)) (ib_w 0 300 hJ260_l8 (by decide)) hP hD hS (lv_sub hl [0, 1, 2, 3, 4, 5, 6, 7, 8] rfl)
      have jn235 : ∀ (J235_l3 : Int32) (J235_l6 : Int32) (J235_l7 : Int32) (J235_l8 : Int32) (J235_c0_13 : Int32) (H : Heap) (locs : List Loc) (ls : Array Slot), ib J235_l3 0 1 → ib J20_l4 (-1) 300 → ib J20_l5 0 299 → ib J235_l8 0 0 → va_P (dC, dI) vwCl [(a_this, .inr (7, [.ref a_this_machine, .ref a_this_plan, .int x_this_day, .ref a_this_trusts, .int x_this_rule, .int x_this_green, .int x_this_absent, .int x_this_asksReds, .ref a_this_cars, .ref a_this_gaps, .ref a_this_known, .ref a_this_left, .ref a_this_leaves, .int J235_c0_13, .int x_this_crossed, .int x_this_went, .int x_this_harmed])), (a_this_plan, .inr (4, [.int x_this_plan_cycle, .int x_this_plan_green, .int x_this_plan_rule, .int x_this_plan_least, .int x_this_plan_away, .int x_this_plan_statements, .int x_this_plan_kinds, .ref a_this_plan_calm, .ref a_this_plan_pace, .ref a_this_plan_trusts, .int x_this_plan_walkers, .ref a_this_plan_kindOf, .ref a_this_plan_comesAt, .ref a_this_plan_comers, .ref a_this_plan_names, .ref a_this_plan_code, .int x_this_plan_size, .ref a_this_plan_spans])), (a_this_plan_kindOf, .inl (cy 0, 12, .inl g_this_plan_kindOf)), (a_this_trusts, .inl (cy 0, 6, .inl g_this_trusts)), (a_this_plan_comers, .inl (cy 0, 200, .inl g_this_plan_comers)), (a_this_left, .inl (cy 0, 300, .inl J20_a5))] H → va_D A [(a_this, .inr (7, [.ref a_this_machine, .ref a_this_plan, .int x_this_day, .ref a_this_trusts, .int x_this_rule, .int x_this_green, .int x_this_absent, .int x_this_asksReds, .ref a_this_cars, .ref a_this_gaps, .ref a_this_known, .ref a_this_left, .ref a_this_leaves, .int J235_c0_13, .int x_this_crossed, .int x_this_went, .int x_this_harmed])), (a_this_plan, .inr (4, [.int x_this_plan_cycle, .int x_this_plan_green, .int x_this_plan_rule, .int x_this_plan_least, .int x_this_plan_away, .int x_this_plan_statements, .int x_this_plan_kinds, .ref a_this_plan_calm, .ref a_this_plan_pace, .ref a_this_plan_trusts, .int x_this_plan_walkers, .ref a_this_plan_kindOf, .ref a_this_plan_comesAt, .ref a_this_plan_comers, .ref a_this_plan_names, .ref a_this_plan_code, .int x_this_plan_size, .ref a_this_plan_spans])), (a_this_plan_kindOf, .inl (cy 0, 12, .inl g_this_plan_kindOf)), (a_this_trusts, .inl (cy 0, 6, .inl g_this_trusts)), (a_this_plan_comers, .inl (cy 0, 200, .inl g_this_plan_comers)), (a_this_left, .inl (cy 0, 300, .inl J20_a5))] → va_S A s.heap H locs → lv_has ls 9 [(0, .ref a_this), (1, .int J20_l1), (2, .int 0), (3, .int J235_l3), (4, .int J20_l4), (5, .int J20_l5), (6, .int J235_l6), (7, .int J235_l7), (8, .int J235_l8)] → W p l e { frames := 1, cells := 0, slots := 0, locals := 22 } s m args below meth c H locs 0 0 Q (F0 m 235 ls []) := by
        intro J235_l3 J235_l6 J235_l7 J235_l8 J235_c0_13 H locs ls hJ235_l3 hJ235_l4 hJ235_l5 hJ235_l8 hP hD hS hl
        refine lv_aload_n hx hb dX7_shine_235 rfl (lv_at hl 0 rfl) ?_
        refine k_get C0 fg_X7_41 hP 0 rfl rfl dX7_shine_236 ?_
        refine lv_iload hx hb dX7_shine_239 (lv_at hl 5 rfl) ?_
        refine lv_iload_n hx hb dX7_shine_241 rfl (lv_at hl 3 rfl) ?_
        refine lv_if_eq (tgt := 259) hx hb dX7_shine_242 (by decide) (fun c43159 => ?_) (fun c43159 => ?_)
        · have h43160 := ib_eq hJ235_l3 (ib_c 0 0 0 (by decide)) c43159
          have h43161 : ib J235_l3 0 0 := ib_w 0 0 h43160.1 (by decide)
          refine lv_iconst (v := 0) hx hb dX7_shine_259 (by decide) ?_
          exact jn260 0 J235_l6 J235_l7 J235_l8 J235_c0_13 0 J235_l3 H locs ls (ib_w 0 1 (ib_c 0 0 0 (by decide)) (by decide)) (ib_w 0 1 hJ20_l3 (by decide)) (ib_w (-1) 300 hJ235_l4 (by decide)) (ib_w 0 299 hJ235_l5 (by decide)) (ib_w 0 119 hJ235_l8 (by decide)) (ib_w 0 2147483647 (ib_c 0 0 0 (by decide)) (by decide)) (ib_w 0 1 h43161 (by decide)) hP hD hS (lv_sub hl [0, 1, 2, 3, 4, 5, 6, 7, 8] rfl)
        · have h43162 : ib J235_l3 1 1 := ib_w 1 1 (ib_ne_lo 0 hJ235_l3 (by decide) c43159) (by decide)
          refine lv_aload_n hx hb dX7_shine_245 rfl (lv_at hl 0 rfl) ?_
          refine k_get C0 fg_X7_22 hP 0 rfl rfl dX7_shine_246 ?_
          refine lv_iload hx hb dX7_shine_249 (lv_at hl 8 rfl) ?_
          refine lv_isub hx hb dX7_shine_251 ?_
          refine lv_topi (fun z43163 ez43163 => ?_)
          have h43164 := ib_sub (ib_any x_this_green) hJ235_l8 (by decide)
          rw [← ez43163] at h43164
          have h43165 : ib z43163 (-2147483648) 2147483647 := ib_w (-2147483648) 2147483647 h43164.1 (by decide)
          refine lv_iconst (v := 0) hx hb dX7_shine_252 (by decide) ?_
          refine va_mmax hx hb (by rw [C0.2.2.1]; exact hl.1.symm) C0.2.2.2.1 (C0.2.2.2.2.1 _ wd875) (C0.2.2.2.2.1 _ wd876) (C0.2.2.2.2.1 _ wd299) (C0.2.2.2.2.1 _ wd877) (Nat.le_of_ble_eq_true rfl) (Nat.le_of_ble_eq_true rfl) (Nat.le_of_ble_eq_true rfl) (Nat.le_of_ble_eq_true rfl) dX7_shine_253 ?_
          refine lv_topi (fun z43166 ez43166 => ?_)
          have h43167 : ib z43166 0 2147483647 := by rw [ez43166]; exact ib_w 0 2147483647 (ib_max h43165 (ib_c 0 0 0 (by decide))) (by decide)
          refine lv_goto (tgt := 260) hx hb dX7_shine_256 (by decide) ?_
          exact jn260 0 J235_l6 J235_l7 J235_l8 J235_c0_13 z43166 J235_l3 H locs ls (ib_w 0 1 (ib_c 0 0 0 (by decide)) (by decide)) (ib_w 0 1 hJ20_l3 (by decide)) (ib_w (-1) 300 hJ235_l4 (by decide)) (ib_w 0 299 hJ235_l5 (by decide)) (ib_w 0 119 hJ235_l8 (by decide)) (ib_w 0 2147483647 h43167 (by decide)) (ib_w 0 1 h43162 (by decide)) hP hD hS (lv_sub hl [0, 1, 2, 3, 4, 5, 6, 7, 8] rfl)
      have jn232 : ∀ (J232_l2 : Int32) (J232_l6 : Int32) (J232_l7 : Int32) (J232_l8 : Int32) (J232_c0_13 : Int32) (J232_s0 : Int32) (H : Heap) (locs : List Loc) (ls : Array Slot), ib J232_l2 0 1 → ib J20_l3 0 1 → ib J20_l4 (-1) 300 → ib J20_l5 0 299 → ib J232_l8 0 0 → ib J232_s0 0 1 → va_P (dC, dI) vwCl [(a_this, .inr (7, [.ref a_this_machine, .ref a_this_plan, .int x_this_day, .ref a_this_trusts, .int x_this_rule, .int x_this_green, .int x_this_absent, .int x_this_asksReds, .ref a_this_cars, .ref a_this_gaps, .ref a_this_known, .ref a_this_left, .ref a_this_leaves, .int J232_c0_13, .int x_this_crossed, .int x_this_went, .int x_this_harmed])), (a_this_plan, .inr (4, [.int x_this_plan_cycle, .int x_this_plan_green, .int x_this_plan_rule, .int x_this_plan_least, .int x_this_plan_away, .int x_this_plan_statements, .int x_this_plan_kinds, .ref a_this_plan_calm, .ref a_this_plan_pace, .ref a_this_plan_trusts, .int x_this_plan_walkers, .ref a_this_plan_kindOf, .ref a_this_plan_comesAt, .ref a_this_plan_comers, .ref a_this_plan_names, .ref a_this_plan_code, .int x_this_plan_size, .ref a_this_plan_spans])), (a_this_plan_kindOf, .inl (cy 0, 12, .inl g_this_plan_kindOf)), (a_this_trusts, .inl (cy 0, 6, .inl g_this_trusts)), (a_this_plan_comers, .inl (cy 0, 200, .inl g_this_plan_comers)), (a_this_left, .inl (cy 0, 300, .inl J20_a5))] H → va_D A [(a_this, .inr (7, [.ref a_this_machine, .ref a_this_plan, .int x_this_day, .ref a_this_trusts, .int x_this_rule, .int x_this_green, .int x_this_absent, .int x_this_asksReds, .ref a_this_cars, .ref a_this_gaps, .ref a_this_known, .ref a_this_left, .ref a_this_leaves, .int J232_c0_13, .int x_this_crossed, .int x_this_went, .int x_this_harmed])), (a_this_plan, .inr (4, [.int x_this_plan_cycle, .int x_this_plan_green, .int x_this_plan_rule, .int x_this_plan_least, .int x_this_plan_away, .int x_this_plan_statements, .int x_this_plan_kinds, .ref a_this_plan_calm, .ref a_this_plan_pace, .ref a_this_plan_trusts, .int x_this_plan_walkers, .ref a_this_plan_kindOf, .ref a_this_plan_comesAt, .ref a_this_plan_comers, .ref a_this_plan_names, .ref a_this_plan_code, .int x_this_plan_size, .ref a_this_plan_spans])), (a_this_plan_kindOf, .inl (cy 0, 12, .inl g_this_plan_kindOf)), (a_this_trusts, .inl (cy 0, 6, .inl g_this_trusts)), (a_this_plan_comers, .inl (cy 0, 200, .inl g_this_plan_comers)), (a_this_left, .inl (cy 0, 300, .inl J20_a5))] → va_S A s.heap H locs → lv_has ls 9 [(0, .ref a_this), (1, .int J20_l1), (2, .int J232_l2), (3, .int J20_l3), (4, .int J20_l4), (5, .int J20_l5), (6, .int J232_l6), (7, .int J232_l7), (8, .int J232_l8)] → W p l e { frames := 1, cells := 0, slots := 0, locals := 22 } s m args below meth c H locs 0 0 Q (F0 m 232 ls [.int J232_s0]) := by
        intro J232_l2 J232_l6 J232_l7 J232_l8 J232_c0_13 J232_s0 H locs ls hJ232_l2 hJ232_l3 hJ232_l4 hJ232_l5 hJ232_l8 hJ232_s0 hP hD hS hl
        refine lv_istore_n (lv' := [(3, .int J232_s0), (0, .ref a_this), (1, .int J20_l1), (2, .int J232_l2), (4, .int J20_l4), (5, .int J20_l5), (6, .int J232_l6), (7, .int J232_l7), (8, .int J232_l8)]) hx hb dX7_shine_232 rfl hl (by decide) rfl (fun ls hl => ?_)
        refine lv_iconst (v := 0) hx hb dX7_shine_233 (by decide) ?_
        refine lv_istore_n (lv' := [(2, .int 0), (3, .int J232_s0), (0, .ref a_this), (1, .int J20_l1), (4, .int J20_l4), (5, .int J20_l5), (6, .int J232_l6), (7, .int J232_l7), (8, .int J232_l8)]) hx hb dX7_shine_234 rfl hl (by decide) rfl (fun ls hl => ?_)
        exact jn235 J232_s0 J232_l6 J232_l7 J232_l8 J232_c0_13 H locs ls (ib_w 0 1 hJ232_s0 (by decide)) (ib_w (-1) 300 hJ232_l4 (by decide)) (ib_w 0 299 hJ232_l5 (by decide)) (ib_w 0 0 hJ232_l8 (by decide)) hP hD hS (lv_sub hl [2, 3, 0, 1, 4, 5, 6, 7, 8] rfl)
      have jn206 : ∀ (J206_l2 : Int32) (J206_l3 : Int32) (J206_l6 : Int32) (J206_l7 : Int32) (J206_l8 : Int32) (J206_c0_13 : Int32) (J206_a5 : Nat → Int32) (J206_s0 : Int32) (H : Heap) (locs : List Loc) (ls : Array Slot), ib J206_l2 0 1 → ib J206_l3 0 1 → ib J20_l4 (-1) 300 → ib J20_l5 0 299 → ib J206_l8 0 119 → ib x_this_rule 1 1 → ib J206_s0 (-1) 300 → va_P (dC, dI) vwCl [(a_this, .inr (7, [.ref a_this_machine, .ref a_this_plan, .int x_this_day, .ref a_this_trusts, .int x_this_rule, .int x_this_green, .int x_this_absent, .int x_this_asksReds, .ref a_this_cars, .ref a_this_gaps, .ref a_this_known, .ref a_this_left, .ref a_this_leaves, .int J206_c0_13, .int x_this_crossed, .int x_this_went, .int x_this_harmed])), (a_this_plan, .inr (4, [.int x_this_plan_cycle, .int x_this_plan_green, .int x_this_plan_rule, .int x_this_plan_least, .int x_this_plan_away, .int x_this_plan_statements, .int x_this_plan_kinds, .ref a_this_plan_calm, .ref a_this_plan_pace, .ref a_this_plan_trusts, .int x_this_plan_walkers, .ref a_this_plan_kindOf, .ref a_this_plan_comesAt, .ref a_this_plan_comers, .ref a_this_plan_names, .ref a_this_plan_code, .int x_this_plan_size, .ref a_this_plan_spans])), (a_this_plan_kindOf, .inl (cy 0, 12, .inl g_this_plan_kindOf)), (a_this_trusts, .inl (cy 0, 6, .inl g_this_trusts)), (a_this_plan_comers, .inl (cy 0, 200, .inl g_this_plan_comers)), (a_this_left, .inl (cy 0, 300, .inl J206_a5))] H → va_D A [(a_this, .inr (7, [.ref a_this_machine, .ref a_this_plan, .int x_this_day, .ref a_this_trusts, .int x_this_rule, .int x_this_green, .int x_this_absent, .int x_this_asksReds, .ref a_this_cars, .ref a_this_gaps, .ref a_this_known, .ref a_this_left, .ref a_this_leaves, .int J206_c0_13, .int x_this_crossed, .int x_this_went, .int x_this_harmed])), (a_this_plan, .inr (4, [.int x_this_plan_cycle, .int x_this_plan_green, .int x_this_plan_rule, .int x_this_plan_least, .int x_this_plan_away, .int x_this_plan_statements, .int x_this_plan_kinds, .ref a_this_plan_calm, .ref a_this_plan_pace, .ref a_this_plan_trusts, .int x_this_plan_walkers, .ref a_this_plan_kindOf, .ref a_this_plan_comesAt, .ref a_this_plan_comers, .ref a_this_plan_names, .ref a_this_plan_code, .int x_this_plan_size, .ref a_this_plan_spans])), (a_this_plan_kindOf, .inl (cy 0, 12, .inl g_this_plan_kindOf)), (a_this_trusts, .inl (cy 0, 6, .inl g_this_trusts)), (a_this_plan_comers, .inl (cy 0, 200, .inl g_this_plan_comers)), (a_this_left, .inl (cy 0, 300, .inl J206_a5))] → va_S A s.heap H locs → lv_has ls 9 [(0, .ref a_this), (1, .int J20_l1), (2, .int J206_l2), (3, .int J206_l3), (4, .int J20_l4), (5, .int J20_l5), (6, .int J206_l6), (7, .int J206_l7), (8, .int J206_l8)] → W p l e { frames := 1, cells := 0, slots := 0, locals := 22 } s m args below meth c H locs 0 0 Q (F0 m 206 ls [.int J206_s0]) := by
        intro J206_l2 J206_l3 J206_l6 J206_l7 J206_l8 J206_c0_13 J206_a5 J206_s0 H locs ls hJ206_l2 hJ206_l3 hJ206_l4 hJ206_l5 hJ206_l8 hJ206_c0_4 hJ206_s0 hP hD hS hl
        refine lv_istore (lv' := [(4, .int J206_s0), (0, .ref a_this), (1, .int J20_l1), (2, .int J206_l2), (3, .int J206_l3), (5, .int J20_l5), (6, .int J206_l6), (7, .int J206_l7), (8, .int J206_l8)]) hx hb dX7_shine_206 hl (by decide) rfl (fun ls hl => ?_)
        refine lv_goto (tgt := 261) hx hb dX7_shine_208 (by decide) ?_
        exact jn261 J206_l2 J206_l3 J206_s0 J206_l6 J206_l7 J206_l8 J206_c0_13 J206_a5 H locs ls (ib_w 0 1 hJ206_l2 (by decide)) (ib_w 0 1 hJ206_l3 (by decide)) (ib_w (-1) 300 hJ206_s0 (by decide)) (ib_w 0 299 hJ206_l5 (by decide)) (ib_w 0 300 hJ206_l8 (by decide)) hP hD hS (lv_sub hl [1, 2, 3, 4, 0, 5, 6, 7, 8] rfl)
      have jn188 : ∀ (J188_l2 : Int32) (J188_l3 : Int32) (J188_l6 : Int32) (J188_l7 : Int32) (J188_l8 : Int32) (J188_s0 : Int32) (J188_c0_13 : Int32) (H : Heap) (locs : List Loc) (ls : Array Slot), ib J188_l2 0 1 → ib J188_l3 0 1 → ib J20_l4 (-1) 300 → ib J20_l5 0 299 → ib J188_l8 0 119 → ib x_this_rule 1 1 → va_P (dC, dI) vwCl [(a_this, .inr (7, [.ref a_this_machine, .ref a_this_plan, .int x_this_day, .ref a_this_trusts, .int x_this_rule, .int x_this_green, .int x_this_absent, .int x_this_asksReds, .ref a_this_cars, .ref a_this_gaps, .ref a_this_known, .ref a_this_left, .ref a_this_leaves, .int J188_c0_13, .int x_this_crossed, .int x_this_went, .int x_this_harmed])), (a_this_plan, .inr (4, [.int x_this_plan_cycle, .int x_this_plan_green, .int x_this_plan_rule, .int x_this_plan_least, .int x_this_plan_away, .int x_this_plan_statements, .int x_this_plan_kinds, .ref a_this_plan_calm, .ref a_this_plan_pace, .ref a_this_plan_trusts, .int x_this_plan_walkers, .ref a_this_plan_kindOf, .ref a_this_plan_comesAt, .ref a_this_plan_comers, .ref a_this_plan_names, .ref a_this_plan_code, .int x_this_plan_size, .ref a_this_plan_spans])), (a_this_plan_kindOf, .inl (cy 0, 12, .inl g_this_plan_kindOf)), (a_this_trusts, .inl (cy 0, 6, .inl g_this_trusts)), (a_this_plan_comers, .inl (cy 0, 200, .inl g_this_plan_comers)), (a_this_left, .inl (cy 0, 300, .inl J20_a5))] H → va_D A [(a_this, .inr (7, [.ref a_this_machine, .ref a_this_plan, .int x_this_day, .ref a_this_trusts, .int x_this_rule, .int x_this_green, .int x_this_absent, .int x_this_asksReds, .ref a_this_cars, .ref a_this_gaps, .ref a_this_known, .ref a_this_left, .ref a_this_leaves, .int J188_c0_13, .int x_this_crossed, .int x_this_went, .int x_this_harmed])), (a_this_plan, .inr (4, [.int x_this_plan_cycle, .int x_this_plan_green, .int x_this_plan_rule, .int x_this_plan_least, .int x_this_plan_away, .int x_this_plan_statements, .int x_this_plan_kinds, .ref a_this_plan_calm, .ref a_this_plan_pace, .ref a_this_plan_trusts, .int x_this_plan_walkers, .ref a_this_plan_kindOf, .ref a_this_plan_comesAt, .ref a_this_plan_comers, .ref a_this_plan_names, .ref a_this_plan_code, .int x_this_plan_size, .ref a_this_plan_spans])), (a_this_plan_kindOf, .inl (cy 0, 12, .inl g_this_plan_kindOf)), (a_this_trusts, .inl (cy 0, 6, .inl g_this_trusts)), (a_this_plan_comers, .inl (cy 0, 200, .inl g_this_plan_comers)), (a_this_left, .inl (cy 0, 300, .inl J20_a5))] → va_S A s.heap H locs → lv_has ls 9 [(0, .ref a_this), (1, .int J20_l1), (2, .int J188_l2), (3, .int J188_l3), (4, .int J20_l4), (5, .int J20_l5), (6, .int J188_l6), (7, .int J188_l7), (8, .int J188_l8)] → W p l e { frames := 1, cells := 0, slots := 0, locals := 22 } s m args below meth c H locs 0 0 Q (F0 m 188 ls [.int J188_s0, .int J20_l5, .ref a_this_left]) := by
        intro J188_l2 J188_l3 J188_l6 J188_l7 J188_l8 J188_s0 J188_c0_13 H locs ls hJ188_l2 hJ188_l3 hJ188_l4 hJ188_l5 hJ188_l8 hJ188_c0_4 hP hD hS hl
        refine va_iast hx hb C0.2.2.2.2.2.1 hP hD hS 5 0 rfl rfl (ib_in 300 hJ188_l5 (by decide)) dX7_shine_188 (fun H locs hP hD hS => ?_)
        have hP : va_P (dC, dI) vwCl [(a_this, .inr (7, [.ref a_this_machine, .ref a_this_plan, .int x_this_day, .ref a_this_trusts, .int x_this_rule, .int x_this_green, .int x_this_absent, .int x_this_asksReds, .ref a_this_cars, .ref a_this_gaps, .ref a_this_known, .ref a_this_left, .ref a_this_leaves, .int J188_c0_13, .int x_this_crossed, .int x_this_went, .int x_this_harmed])), (a_this_plan, .inr (4, [.int x_this_plan_cycle, .int x_this_plan_green, .int x_this_plan_rule, .int x_this_plan_least, .int x_this_plan_away, .int x_this_plan_statements, .int x_this_plan_kinds, .ref a_this_plan_calm, .ref a_this_plan_pace, .ref a_this_plan_trusts, .int x_this_plan_walkers, .ref a_this_plan_kindOf, .ref a_this_plan_comesAt, .ref a_this_plan_comers, .ref a_this_plan_names, .ref a_this_plan_code, .int x_this_plan_size, .ref a_this_plan_spans])), (a_this_plan_kindOf, .inl (cy 0, 12, .inl g_this_plan_kindOf)), (a_this_trusts, .inl (cy 0, 6, .inl g_this_trusts)), (a_this_plan_comers, .inl (cy 0, 200, .inl g_this_plan_comers)), (a_this_left, .inl (cy 0, 300, .inl (upd J20_a5 (Int32.toNatClampNeg J20_l5) J188_s0)))] H := hP
        have hD : va_D A [(a_this, .inr (7, [.ref a_this_machine, .ref a_this_plan, .int x_this_day, .ref a_this_trusts, .int x_this_rule, .int x_this_green, .int x_this_absent, .int x_this_asksReds, .ref a_this_cars, .ref a_this_gaps, .ref a_this_known, .ref a_this_left, .ref a_this_leaves, .int J188_c0_13, .int x_this_crossed, .int x_this_went, .int x_this_harmed])), (a_this_plan, .inr (4, [.int x_this_plan_cycle, .int x_this_plan_green, .int x_this_plan_rule, .int x_this_plan_least, .int x_this_plan_away, .int x_this_plan_statements, .int x_this_plan_kinds, .ref a_this_plan_calm, .ref a_this_plan_pace, .ref a_this_plan_trusts, .int x_this_plan_walkers, .ref a_this_plan_kindOf, .ref a_this_plan_comesAt, .ref a_this_plan_comers, .ref a_this_plan_names, .ref a_this_plan_code, .int x_this_plan_size, .ref a_this_plan_spans])), (a_this_plan_kindOf, .inl (cy 0, 12, .inl g_this_plan_kindOf)), (a_this_trusts, .inl (cy 0, 6, .inl g_this_trusts)), (a_this_plan_comers, .inl (cy 0, 200, .inl g_this_plan_comers)), (a_this_left, .inl (cy 0, 300, .inl (upd J20_a5 (Int32.toNatClampNeg J20_l5) J188_s0)))] := hD
        generalize upd J20_a5 (Int32.toNatClampNeg J20_l5) J188_s0 = f43168 at hP hD
        refine lv_aload_n hx hb dX7_shine_189 rfl (lv_at hl 0 rfl) ?_
        refine k_get C0 fg_X7_41 hP 0 rfl rfl dX7_shine_190 ?_
        refine lv_iload hx hb dX7_shine_193 (lv_at hl 5 rfl) ?_
        refine va_iald hx hb C0.2.2.2.2.2.1 hP 5 0 rfl rfl (ib_in 300 hJ188_l5 (by decide)) dX7_shine_195 ?_
        refine lv_topi (fun z43169 ez43169 => ?_)
        refine lv_if_le (tgt := 204) hx hb dX7_shine_196 (by decide) (fun c43170 => ?_) (fun c43170 => ?_)
        · have h43171 := ib_le (ib_any z43169) (ib_c 0 0 0 (by decide)) c43170
          have h43172 : ib z43169 (-2147483648) 0 := ib_w (-2147483648) 0 h43171.1 (by decide)
          refine lv_iload hx hb dX7_shine_204 (lv_at hl 4 rfl) ?_
          exact jn206 J188_l2 J188_l3 J188_l6 J188_l7 J188_l8 J188_c0_13 f43168 J20_l4 H locs ls (ib_w 0 1 hJ188_l2 (by decide)) (ib_w 0 1 hJ188_l3 (by decide)) (ib_w (-1) 300 hJ188_l4 (by decide)) (ib_w 0 299 hJ188_l5 (by decide)) (ib_w 0 119 hJ188_l8 (by decide)) (ib_w 1 1 hJ188_c0_4 (by decide)) (ib_w (-1) 300 hJ188_l4 (by decide)) hP hD hS (lv_sub hl [0, 1, 2, 3, 4, 5, 6, 7, 8] rfl)
        · have h43173 := ib_nle (ib_any z43169) (ib_c 0 0 0 (by decide)) c43170
          have h43174 : ib z43169 1 2147483647 := ib_w 1 2147483647 h43173.1 (by decide)
          refine lv_iload hx hb dX7_shine_199 (lv_at hl 5 rfl) ?_
          refine lv_goto (tgt := 206) hx hb dX7_shine_201 (by decide) ?_
          exact jn206 J188_l2 J188_l3 J188_l6 J188_l7 J188_l8 J188_c0_13 f43168 J20_l5 H locs ls (ib_w 0 1 hJ188_l2 (by decide)) (ib_w 0 1 hJ188_l3 (by decide)) (ib_w (-1) 300 hJ188_l4 (by decide)) (ib_w 0 299 hJ188_l5 (by decide)) (ib_w 0 119 hJ188_l8 (by decide)) (ib_w 1 1 hJ188_c0_4 (by decide)) (ib_w (-1) 300 hJ188_l5 (by decide)) hP hD hS (lv_sub hl [0, 1, 2, 3, 4, 5, 6, 7, 8] rfl)
      have jn162 : ∀ (J162_l2 : Int32) (J162_l3 : Int32) (J162_l6 : Int32) (J162_l7 : Int32) (J162_l8 : Int32) (J162_c0_13 : Int32) (J162_s0 : Int32) (H : Heap) (locs : List Loc) (ls : Array Slot), ib J162_l2 0 1 → ib J162_l3 0 1 → ib J20_l4 (-1) 300 → ib J20_l5 0 299 → ib J162_l8 0 119 → ib x_this_rule 1 1 → ib J162_s0 0 1 → va_P (dC, dI) vwCl [(a_this, .inr (7, [.ref a_this_machine, .ref a_this_plan, .int x_this_day, .ref a_this_trusts, .int x_this_rule, .int x_this_green, .int x_this_absent, .int x_this_asksReds, .ref a_this_cars, .ref a_this_gaps, .ref a_this_known, .ref a_this_left, .ref a_this_leaves, .int J162_c0_13, .int x_this_crossed, .int x_this_went, .int x_this_harmed])), (a_this_plan, .inr (4, [.int x_this_plan_cycle, .int x_this_plan_green, .int x_this_plan_rule, .int x_this_plan_least, .int x_this_plan_away, .int x_this_plan_statements, .int x_this_plan_kinds, .ref a_this_plan_calm, .ref a_this_plan_pace, .ref a_this_plan_trusts, .int x_this_plan_walkers, .ref a_this_plan_kindOf, .ref a_this_plan_comesAt, .ref a_this_plan_comers, .ref a_this_plan_names, .ref a_this_plan_code, .int x_this_plan_size, .ref a_this_plan_spans])), (a_this_plan_kindOf, .inl (cy 0, 12, .inl g_this_plan_kindOf)), (a_this_trusts, .inl (cy 0, 6, .inl g_this_trusts)), (a_this_plan_comers, .inl (cy 0, 200, .inl g_this_plan_comers)), (a_this_left, .inl (cy 0, 300, .inl J20_a5))] H → va_D A [(a_this, .inr (7, [.ref a_this_machine, .ref a_this_plan, .int x_this_day, .ref a_this_trusts, .int x_this_rule, .int x_this_green, .int x_this_absent, .int x_this_asksReds, .ref a_this_cars, .ref a_this_gaps, .ref a_this_known, .ref a_this_left, .ref a_this_leaves, .int J162_c0_13, .int x_this_crossed, .int x_this_went, .int x_this_harmed])), (a_this_plan, .inr (4, [.int x_this_plan_cycle, .int x_this_plan_green, .int x_this_plan_rule, .int x_this_plan_least, .int x_this_plan_away, .int x_this_plan_statements, .int x_this_plan_kinds, .ref a_this_plan_calm, .ref a_this_plan_pace, .ref a_this_plan_trusts, .int x_this_plan_walkers, .ref a_this_plan_kindOf, .ref a_this_plan_comesAt, .ref a_this_plan_comers, .ref a_this_plan_names, .ref a_this_plan_code, .int x_this_plan_size, .ref a_this_plan_spans])), (a_this_plan_kindOf, .inl (cy 0, 12, .inl g_this_plan_kindOf)), (a_this_trusts, .inl (cy 0, 6, .inl g_this_trusts)), (a_this_plan_comers, .inl (cy 0, 200, .inl g_this_plan_comers)), (a_this_left, .inl (cy 0, 300, .inl J20_a5))] → va_S A s.heap H locs → lv_has ls 9 [(0, .ref a_this), (1, .int J20_l1), (2, .int J162_l2), (3, .int J162_l3), (4, .int J20_l4), (5, .int J20_l5), (6, .int J162_l6), (7, .int J162_l7), (8, .int J162_l8)] → W p l e { frames := 1, cells := 0, slots := 0, locals := 22 } s m args below meth c H locs 0 0 Q (F0 m 162 ls [.int J162_s0]) := by
        intro J162_l2 J162_l3 J162_l6 J162_l7 J162_l8 J162_c0_13 J162_s0 H locs ls hJ162_l2 hJ162_l3 hJ162_l4 hJ162_l5 hJ162_l8 hJ162_c0_4 hJ162_s0 hP hD hS hl
        refine lv_istore_n (lv' := [(2, .int J162_s0), (0, .ref a_this), (1, .int J20_l1), (3, .int J162_l3), (4, .int J20_l4), (5, .int J20_l5), (6, .int J162_l6), (7, .int J162_l7), (8, .int J162_l8)]) hx hb dX7_shine_162 rfl hl (by decide) rfl (fun ls hl => ?_)
        refine lv_aload_n hx hb dX7_shine_163 rfl (lv_at hl 1 rfl) ?_
        refine k_get C0 fg_X7_41 hP 0 rfl rfl dX7_shine_164 ?_
        refine lv_iload hx hb dX7_shine_167 (lv_at hl 5 rfl) ?_
        refine lv_iload_n hx hb dX7_shine_169 rfl (lv_at hl 3 rfl) ?_
        refine lv_if_eq (tgt := 180) hx hb dX7_shine_170 (by decide) (fun c43175 => ?_) (fun c43175 => ?_)
        · have h43176 := ib_eq hJ162_l3 (ib_c 0 0 0 (by decide)) c43175
          have h43177 : ib J162_l3 0 0 := ib_w 0 0 h43176.1 (by decide)
          refine lv_iload hx hb dX7_shine_180 (lv_at hl 6 rfl) ?_
          refine lv_iconst (v := 1) hx hb dX7_shine_182 (by decide) ?_
          refine lv_isub hx hb dX7_shine_183 ?_
          refine lv_topi (fun z43178 ez43178 => ?_)
          refine lv_iconst (v := 0) hx hb dX7_shine_184 (by decide) ?_
          refine va_mmax hx hb (by rw [C0.2.2.1]; exact hl.1.symm) C0.2.2.2.1 (C0.2.2.2.2.1 _ wd875) (C0.2.2.2.2.1 _ wd876) (C0.2.2.2.2.1 _ wd299) (C0.2.2.2.2.1 _ wd877) (Nat.le_of_ble_eq_true rfl) (Nat.le_of_ble_eq_true rfl) (Nat.le_of_ble_eq_true rfl) (Nat.le_of_ble_eq_true rfl) dX7_shine_185 ?_
          refine lv_topi (fun z43179 ez43179 => ?_)
          have h43180 : ib z43179 0 2147483647 := by rw [ez43179]; exact ib_w 0 2147483647 (ib_max (ib_any z43178) (ib_c 0 0 0 (by decide))) (by decide)
          exact jn188 J162_s0 J162_l3 J162_l6 J162_l7 J162_l8 z43179 J162_c0_13 H locs ls (ib_w 0 1 hJ162_s0 (by decide)) (ib_w 0 1 h43177 (by decide)) (ib_w (-1) 300 hJ162_l4 (by decide)) (ib_w 0 299 hJ162_l5 (by decide)) (ib_w 0 119 hJ162_l8 (by decide)) (ib_w 1 1 hJ162_c0_4 (by decide)) hP hD hS (lv_sub hl [1, 2, 0, 3, 4, 5, 6, 7, 8] rfl)
        · have h43181 : ib J162_l3 1 1 := ib_w 1 1 (ib_ne_lo 0 hJ162_l3 (by decide) c43175) (by decide)
          refine lv_aload_n hx hb dX7_shine_173 rfl (lv_at hl 1 rfl) ?_
          refine k_get C0 fg_X7_22 hP 0 rfl rfl dX7_shine_174 ?_
          refine lv_goto (tgt := 188) hx hb dX7_shine_177 (by decide) ?_
          exact jn188 J162_s0 J162_l3 J162_l6 J162_l7 J162_l8 x_this_green J162_c0_13 H locs ls (ib_w 0 1 hJ162_s0 (by decide)) (ib_w 0 1 h43181 (by decide)) (ib_w (-1) 300 hJ162_l4 (by decide)) (ib_w 0 299 hJ162_l5 (by decide)) (ib_w 0 119 hJ162_l8 (by decide)) (ib_w 1 1 hJ162_c0_4 (by decide)) hP hD hS (lv_sub hl [1, 2, 0, 3, 4, 5, 6, 7, 8] rfl)
      have jn148 : ∀ (J148_l2 : Int32) (J148_l6 : Int32) (J148_l7 : Int32) (J148_l8 : Int32) (J148_c0_13 : Int32) (J148_s0 : Int32) (H : Heap) (locs : List Loc) (ls : Array Slot), ib J148_l2 0 1 → ib J20_l3 0 1 → ib J20_l4 (-1) 300 → ib J20_l5 0 299 → ib J148_l8 0 119 → ib x_this_rule 1 1 → ib J148_s0 0 1 → va_P (dC, dI) vwCl [(a_this, .inr (7, [.ref a_this_machine, .ref a_this_plan, .int x_this_day, .ref a_this_trusts, .int x_this_rule, .int x_this_green, .int x_this_absent, .int x_this_asksReds, .ref a_this_cars, .ref a_this_gaps, .ref a_this_known, .ref a_this_left, .ref a_this_leaves, .int J148_c0_13, .int x_this_crossed, .int x_this_went, .int x_this_harmed])), (a_this_plan, .inr (4, [.int x_this_plan_cycle, .int x_this_plan_green, .int x_this_plan_rule, .int x_this_plan_least, .int x_this_plan_away, .int x_this_plan_statements, .int x_this_plan_kinds, .ref a_this_plan_calm, .ref a_this_plan_pace, .ref a_this_plan_trusts, .int x_this_plan_walkers, .ref a_this_plan_kindOf, .ref a_this_plan_comesAt, .ref a_this_plan_comers, .ref a_this_plan_names, .ref a_this_plan_code, .int x_this_plan_size, .ref a_this_plan_spans])), (a_this_plan_kindOf, .inl (cy 0, 12, .inl g_this_plan_kindOf)), (a_this_trusts, .inl (cy 0, 6, .inl g_this_trusts)), (a_this_plan_comers, .inl (cy 0, 200, .inl g_this_plan_comers)), (a_this_left, .inl (cy 0, 300, .inl J20_a5))] H → va_D A [(a_this, .inr (7, [.ref a_this_machine, .ref a_this_plan, .int x_this_day, .ref a_this_trusts, .int x_this_rule, .int x_this_green, .int x_this_absent, .int x_this_asksReds, .ref a_this_cars, .ref a_this_gaps, .ref a_this_known, .ref a_this_left, .ref a_this_leaves, .int J148_c0_13, .int x_this_crossed, .int x_this_went, .int x_this_harmed])), (a_this_plan, .inr (4, [.int x_this_plan_cycle, .int x_this_plan_green, .int x_this_plan_rule, .int x_this_plan_least, .int x_this_plan_away, .int x_this_plan_statements, .int x_this_plan_kinds, .ref a_this_plan_calm, .ref a_this_plan_pace, .ref a_this_plan_trusts, .int x_this_plan_walkers, .ref a_this_plan_kindOf, .ref a_this_plan_comesAt, .ref a_this_plan_comers, .ref a_this_plan_names, .ref a_this_plan_code, .int x_this_plan_size, .ref a_this_plan_spans])), (a_this_plan_kindOf, .inl (cy 0, 12, .inl g_this_plan_kindOf)), (a_this_trusts, .inl (cy 0, 6, .inl g_this_trusts)), (a_this_plan_comers, .inl (cy 0, 200, .inl g_this_plan_comers)), (a_this_left, .inl (cy 0, 300, .inl J20_a5))] → va_S A s.heap H locs → lv_has ls 9 [(0, .ref a_this), (1, .int J20_l1), (2, .int J148_l2), (3, .int J20_l3), (4, .int J20_l4), (5, .int J20_l5), (6, .int J148_l6), (7, .int J148_l7), (8, .int J148_l8)] → W p l e { frames := 1, cells := 0, slots := 0, locals := 22 } s m args below meth c H locs 0 0 Q (F0 m 148 ls [.int J148_s0]) := by
        intro J148_l2 J148_l6 J148_l7 J148_l8 J148_c0_13 J148_s0 H locs ls hJ148_l2 hJ148_l3 hJ148_l4 hJ148_l5 hJ148_l8 hJ148_c0_4 hJ148_s0 hP hD hS hl
        refine lv_istore_n (lv' := [(3, .int J148_s0), (0, .ref a_this), (1, .int J20_l1), (2, .int J148_l2), (4, .int J20_l4), (5, .int J20_l5), (6, .int J148_l6), (7, .int J148_l7), (8, .int J148_l8)]) hx hb dX7_shine_148 rfl hl (by decide) rfl (fun ls hl => ?_)
        refine lv_iload_n hx hb dX7_shine_149 rfl (lv_at hl 3 rfl) ?_
        refine lv_if_eq (tgt := 161) hx hb dX7_shine_150 (by decide) (fun c43182 => ?_) (fun c43182 => ?_)
        · have h43183 := ib_eq hJ148_l2 (ib_c 0 0 0 (by decide)) c43182
          have h43184 : ib J148_l2 0 0 := ib_w 0 0 h43183.1 (by decide)
          refine lv_iconst (v := 0) hx hb dX7_shine_161 (by decide) ?_
          exact jn162 J148_l2 J148_s0 J148_l6 J148_l7 J148_l8 J148_c0_13 0 H locs ls (ib_w 0 1 h43184 (by decide)) (ib_w 0 1 hJ148_s0 (by decide)) (ib_w (-1) 300 hJ148_l4 (by decide)) (ib_w 0 299 hJ148_l5 (by decide)) (ib_w 0 119 hJ148_l8 (by decide)) (ib_w 1 1 hJ148_c0_4 (by decide)) (ib_w 0 1 (ib_c 0 0 0 (by decide)) (by decide)) hP hD hS (lv_sub hl [1, 2, 3, 0, 4, 5, 6, 7, 8] rfl)
        · have h43185 : ib J148_l2 1 1 := ib_w 1 1 (ib_ne_lo 0 hJ148_l2 (by decide) c43182) (by decide)
          refine lv_iload_n hx hb dX7_shine_153 rfl (lv_at hl 0 rfl) ?_
          refine lv_if_ne (tgt := 161) hx hb dX7_shine_154 (by decide) (fun c43186 => ?_) (fun c43186 => ?_)
          · have h43187 : ib J148_s0 1 1 := ib_w 1 1 (ib_ne_lo 0 hJ148_s0 (by decide) c43186) (by decide)
            refine lv_iconst (v := 0) hx hb dX7_shine_161 (by decide) ?_
            exact jn162 J148_l2 J148_s0 J148_l6 J148_l7 J148_l8 J148_c0_13 0 H locs ls (ib_w 0 1 h43185 (by decide)) (ib_w 0 1 h43187 (by decide)) (ib_w (-1) 300 hJ148_l4 (by decide)) (ib_w 0 299 hJ148_l5 (by decide)) (ib_w 0 119 hJ148_l8 (by decide)) (ib_w 1 1 hJ148_c0_4 (by decide)) (ib_w 0 1 (ib_c 0 0 0 (by decide)) (by decide)) hP hD hS (lv_sub hl [1, 2, 3, 0, 4, 5, 6, 7, 8] rfl)
          · have h43188 := ib_eq hJ148_s0 (ib_c 0 0 0 (by decide)) c43186
            have h43189 : ib J148_s0 0 0 := ib_w 0 0 h43188.1 (by decide)
            refine lv_iconst (v := 1) hx hb dX7_shine_157 (by decide) ?_
            refine lv_goto (tgt := 162) hx hb dX7_shine_158 (by decide) ?_
            exact jn162 J148_l2 J148_s0 J148_l6 J148_l7 J148_l8 J148_c0_13 1 H locs ls (ib_w 0 1 h43185 (by decide)) (ib_w 0 1 h43189 (by decide)) (ib_w (-1) 300 hJ148_l4 (by decide)) (ib_w 0 299 hJ148_l5 (by decide)) (ib_w 0 119 hJ148_l8 (by decide)) (ib_w 1 1 hJ148_c0_4 (by decide)) (ib_w 0 1 (ib_c 1 1 1 (by decide)) (by decide)) hP hD hS (lv_sub hl [1, 2, 3, 0, 4, 5, 6, 7, 8] rfl)
      have jn95 : ∀ (J95_l6 : Int32) (J95_l7 : Int32) (J95_c0_13 : Int32) (J95_s0 : Int32) (H : Heap) (locs : List Loc) (ls : Array Slot), ib J20_l2 0 1 → ib J20_l3 0 1 → ib J20_l4 (-1) 300 → ib J20_l5 0 299 → ib J95_s0 0 1 → va_P (dC, dI) vwCl [(a_this, .inr (7, [.ref a_this_machine, .ref a_this_plan, .int x_this_day, .ref a_this_trusts, .int x_this_rule, .int x_this_green, .int x_this_absent, .int x_this_asksReds, .ref a_this_cars, .ref a_this_gaps, .ref a_this_known, .ref a_this_left, .ref a_this_leaves, .int J95_c0_13, .int x_this_crossed, .int x_this_went, .int x_this_harmed])), (a_this_plan, .inr (4, [.int x_this_plan_cycle, .int x_this_plan_green, .int x_this_plan_rule, .int x_this_plan_least, .int x_this_plan_away, .int x_this_plan_statements, .int x_this_plan_kinds, .ref a_this_plan_calm, .ref a_this_plan_pace, .ref a_this_plan_trusts, .int x_this_plan_walkers, .ref a_this_plan_kindOf, .ref a_this_plan_comesAt, .ref a_this_plan_comers, .ref a_this_plan_names, .ref a_this_plan_code, .int x_this_plan_size, .ref a_this_plan_spans])), (a_this_plan_kindOf, .inl (cy 0, 12, .inl g_this_plan_kindOf)), (a_this_trusts, .inl (cy 0, 6, .inl g_this_trusts)), (a_this_plan_comers, .inl (cy 0, 200, .inl g_this_plan_comers)), (a_this_left, .inl (cy 0, 300, .inl J20_a5))] H → va_D A [(a_this, .inr (7, [.ref a_this_machine, .ref a_this_plan, .int x_this_day, .ref a_this_trusts, .int x_this_rule, .int x_this_green, .int x_this_absent, .int x_this_asksReds, .ref a_this_cars, .ref a_this_gaps, .ref a_this_known, .ref a_this_left, .ref a_this_leaves, .int J95_c0_13, .int x_this_crossed, .int x_this_went, .int x_this_harmed])), (a_this_plan, .inr (4, [.int x_this_plan_cycle, .int x_this_plan_green, .int x_this_plan_rule, .int x_this_plan_least, .int x_this_plan_away, .int x_this_plan_statements, .int x_this_plan_kinds, .ref a_this_plan_calm, .ref a_this_plan_pace, .ref a_this_plan_trusts, .int x_this_plan_walkers, .ref a_this_plan_kindOf, .ref a_this_plan_comesAt, .ref a_this_plan_comers, .ref a_this_plan_names, .ref a_this_plan_code, .int x_this_plan_size, .ref a_this_plan_spans])), (a_this_plan_kindOf, .inl (cy 0, 12, .inl g_this_plan_kindOf)), (a_this_trusts, .inl (cy 0, 6, .inl g_this_trusts)), (a_this_plan_comers, .inl (cy 0, 200, .inl g_this_plan_comers)), (a_this_left, .inl (cy 0, 300, .inl J20_a5))] → va_S A s.heap H locs → lv_has ls 9 [(0, .ref a_this), (1, .int J20_l1), (2, .int J20_l2), (3, .int J20_l3), (4, .int J20_l4), (5, .int J20_l5), (6, .int J95_l6), (7, .int J95_l7)] → W p l e { frames := 1, cells := 0, slots := 0, locals := 22 } s m args below meth c H locs 0 0 Q (F0 m 95 ls [.int J95_s0]) := by
        intro J95_l6 J95_l7 J95_c0_13 J95_s0 H locs ls hJ95_l2 hJ95_l3 hJ95_l4 hJ95_l5 hJ95_s0 hP hD hS hl
        refine lv_istore_n (lv' := [(2, .int J95_s0), (0, .ref a_this), (1, .int J20_l1), (3, .int J20_l3), (4, .int J20_l4), (5, .int J20_l5), (6, .int J95_l6), (7, .int J95_l7)]) hx hb dX7_shine_95 rfl hl (by decide) rfl (fun ls hl => ?_)
        refine lv_iload hx hb dX7_shine_96 (lv_at hl 5 rfl) ?_
        refine lv_aload_n hx hb dX7_shine_98 rfl (lv_at hl 1 rfl) ?_
        refine k_get C0 fg_X7_63 hP 0 rfl rfl dX7_shine_99 ?_
        refine k_get C0 fg_X7_73 hP 1 rfl rfl dX7_shine_102 ?_
        refine lv_irem hx hb dX7_shine_105 (ib_nz hx_this_plan_cycle (by decide)) ?_
        refine lv_topi (fun z43190 ez43190 => ?_)
        have h43191 : ib z43190 0 119 := by rw [ez43190]; exact ib_w 0 119 (ib_rem hJ95_l5 hx_this_plan_cycle (by decide)) (by decide)
        refine lv_istore (lv' := [(8, .int z43190), (2, .int J95_s0), (0, .ref a_this), (1, .int J20_l1), (3, .int J20_l3), (4, .int J20_l4), (5, .int J20_l5), (6, .int J95_l6), (7, .int J95_l7)]) hx hb dX7_shine_106 hl (by decide) rfl (fun ls hl => ?_)
        refine lv_aload_n hx hb dX7_shine_108 rfl (lv_at hl 2 rfl) ?_
        refine k_get C0 fg_X7_19 hP 0 rfl rfl dX7_shine_109 ?_
        refine lv_iconst (v := 1) hx hb dX7_shine_112 (by decide) ?_
        refine lv_icmp_ne (tgt := 211) hx hb dX7_shine_113 (by decide) (fun c43192 => ?_) (fun c43192 => ?_)
        · skip
          refine lv_iload hx hb dX7_shine_211 (lv_at hl 0 rfl) ?_
          refine lv_if_ne (tgt := 235) hx hb dX7_shine_213 (by decide) (fun c43193 => ?_) (fun c43193 => ?_)
          · have h43194 : ib z43190 1 119 := ib_w 1 119 (ib_ne_lo 0 h43191 (by decide) c43193) (by decide)
            refine lv_aload_n hx hb dX7_shine_235 rfl (lv_at hl 2 rfl) ?_
            refine k_get C0 fg_X7_41 hP 0 rfl rfl dX7_shine_236 ?_
            refine lv_iload hx hb dX7_shine_239 (lv_at hl 6 rfl) ?_
            refine lv_iload_n hx hb dX7_shine_241 rfl (lv_at hl 4 rfl) ?_
            refine lv_if_eq (tgt := 259) hx hb dX7_shine_242 (by decide) (fun c43195 => ?_) (fun c43195 => ?_)
            · have h43196 := ib_eq hJ95_l3 (ib_c 0 0 0 (by decide)) c43195
              have h43197 : ib J20_l3 0 0 := ib_w 0 0 h43196.1 (by decide)
              refine lv_iconst (v := 0) hx hb dX7_shine_259 (by decide) ?_
              exact jn260 J95_s0 J95_l6 J95_l7 z43190 J95_c0_13 0 J20_l3 H locs ls (ib_w 0 1 hJ95_s0 (by decide)) (ib_w 0 1 h43197 (by decide)) (ib_w (-1) 300 hJ95_l4 (by decide)) (ib_w 0 299 hJ95_l5 (by decide)) (ib_w 0 119 h43194 (by decide)) (ib_w 0 2147483647 (ib_c 0 0 0 (by decide)) (by decide)) (ib_w 0 1 h43197 (by decide)) hP hD hS (lv_sub hl [2, 3, 1, 4, 5, 6, 7, 8, 0] rfl)
            · have h43198 : ib J20_l3 1 1 := ib_w 1 1 (ib_ne_lo 0 hJ95_l3 (by decide) c43195) (by decide)
              refine lv_aload_n hx hb dX7_shine_245 rfl (lv_at hl 2 rfl) ?_
              refine k_get C0 fg_X7_22 hP 0 rfl rfl dX7_shine_246 ?_
              refine lv_iload hx hb dX7_shine_249 (lv_at hl 0 rfl) ?_
              refine lv_isub hx hb dX7_shine_251 ?_
              refine lv_topi (fun z43199 ez43199 => ?_)
              refine lv_iconst (v := 0) hx hb dX7_shine_252 (by decide) ?_
              refine va_mmax hx hb (by rw [C0.2.2.1]; exact hl.1.symm) C0.2.2.2.1 (C0.2.2.2.2.1 _ wd875) (C0.2.2.2.2.1 _ wd876) (C0.2.2.2.2.1 _ wd299) (C0.2.2.2.2.1 _ wd877) (Nat.le_of_ble_eq_true rfl) (Nat.le_of_ble_eq_true rfl) (Nat.le_of_ble_eq_true rfl) (Nat.le_of_ble_eq_true rfl) dX7_shine_253 ?_
              refine lv_topi (fun z43200 ez43200 => ?_)
              have h43201 : ib z43200 0 2147483647 := by rw [ez43200]; exact ib_w 0 2147483647 (ib_max (ib_any z43199) (ib_c 0 0 0 (by decide))) (by decide)
              refine lv_goto (tgt := 260) hx hb dX7_shine_256 (by decide) ?_
              exact jn260 J95_s0 J95_l6 J95_l7 z43190 J95_c0_13 z43200 J20_l3 H locs ls (ib_w 0 1 hJ95_s0 (by decide)) (ib_w 0 1 h43198 (by decide)) (ib_w (-1) 300 hJ95_l4 (by decide)) (ib_w 0 299 hJ95_l5 (by decide)) (ib_w 0 119 h43194 (by decide)) (ib_w 0 2147483647 h43201 (by decide)) (ib_w 0 1 h43198 (by decide)) hP hD hS (lv_sub hl [2, 3, 1, 4, 5, 6, 7, 8, 0] rfl)
          · have h43202 := ib_eq h43191 (ib_c 0 0 0 (by decide)) c43193
            have h43203 : ib z43190 0 0 := ib_w 0 0 h43202.1 (by decide)
            refine lv_aload_n hx hb dX7_shine_216 rfl (lv_at hl 2 rfl) ?_
            refine k_get C0 fg_X7_19 hP 0 rfl rfl dX7_shine_217 ?_
            refine lv_if_eq (tgt := 227) hx hb dX7_shine_220 (by decide) (fun c43204 => ?_) (fun c43204 => ?_)
            · have h43205 := ib_eq (ib_any x_this_rule) (ib_c 0 0 0 (by decide)) c43204
              have h43206 : ib x_this_rule 0 0 := ib_w 0 0 h43205.1 (by decide)
              refine lv_iconst (v := 1) hx hb dX7_shine_227 (by decide) ?_
              refine lv_goto (tgt := 232) hx hb dX7_shine_228 (by decide) ?_
              exact jn232 J95_s0 J95_l6 J95_l7 z43190 J95_c0_13 1 H locs ls (ib_w 0 1 hJ95_s0 (by decide)) (ib_w 0 1 hJ95_l3 (by decide)) (ib_w (-1) 300 hJ95_l4 (by decide)) (ib_w 0 299 hJ95_l5 (by decide)) (ib_w 0 0 h43203 (by decide)) (ib_w 0 1 (ib_c 1 1 1 (by decide)) (by decide)) hP hD hS (lv_sub hl [2, 3, 1, 4, 5, 6, 7, 8, 0] rfl)
            · skip
              refine lv_iload_n hx hb dX7_shine_223 rfl (lv_at hl 1 rfl) ?_
              refine lv_if_eq (tgt := 231) hx hb dX7_shine_224 (by decide) (fun c43207 => ?_) (fun c43207 => ?_)
              · have h43208 := ib_eq hJ95_s0 (ib_c 0 0 0 (by decide)) c43207
                have h43209 : ib J95_s0 0 0 := ib_w 0 0 h43208.1 (by decide)
                refine lv_iconst (v := 0) hx hb dX7_shine_231 (by decide) ?_
                exact jn232 J95_s0 J95_l6 J95_l7 z43190 J95_c0_13 0 H locs ls (ib_w 0 1 h43209 (by decide)) (ib_w 0 1 hJ95_l3 (by decide)) (ib_w (-1) 300 hJ95_l4 (by decide)) (ib_w 0 299 hJ95_l5 (by decide)) (ib_w 0 0 h43203 (by decide)) (ib_w 0 1 (ib_c 0 0 0 (by decide)) (by decide)) hP hD hS (lv_sub hl [2, 3, 1, 4, 5, 6, 7, 8, 0] rfl)
              · have h43210 : ib J95_s0 1 1 := ib_w 1 1 (ib_ne_lo 0 hJ95_s0 (by decide) c43207) (by decide)
                refine lv_iconst (v := 1) hx hb dX7_shine_227 (by decide) ?_
                refine lv_goto (tgt := 232) hx hb dX7_shine_228 (by decide) ?_
                exact jn232 J95_s0 J95_l6 J95_l7 z43190 J95_c0_13 1 H locs ls (ib_w 0 1 h43210 (by decide)) (ib_w 0 1 hJ95_l3 (by decide)) (ib_w (-1) 300 hJ95_l4 (by decide)) (ib_w 0 299 hJ95_l5 (by decide)) (ib_w 0 0 h43203 (by decide)) (ib_w 0 1 (ib_c 1 1 1 (by decide)) (by decide)) hP hD hS (lv_sub hl [2, 3, 1, 4, 5, 6, 7, 8, 0] rfl)
        · have h43211 := ib_eq (ib_any x_this_rule) (ib_c 1 1 1 (by decide)) c43192
          have h43212 : ib x_this_rule 1 1 := ib_w 1 1 h43211.1 (by decide)
          refine lv_iload hx hb dX7_shine_116 (lv_at hl 7 rfl) ?_
          refine lv_iconst (v := 1) hx hb dX7_shine_118 (by decide) ?_
          refine lv_icmp_gt (tgt := 147) hx hb dX7_shine_119 (by decide) (fun c43213 => ?_) (fun c43213 => ?_)
          · have h43214 := ib_lt (ib_c 1 1 1 (by decide)) (ib_any J95_l6) c43213
            have h43215 : ib J95_l6 2 2147483647 := ib_w 2 2147483647 h43214.2 (by decide)
            refine lv_iconst (v := 0) hx hb dX7_shine_147 (by decide) ?_
            exact jn148 J95_s0 J95_l6 J95_l7 z43190 J95_c0_13 0 H locs ls (ib_w 0 1 hJ95_s0 (by decide)) (ib_w 0 1 hJ95_l3 (by decide)) (ib_w (-1) 300 hJ95_l4 (by decide)) (ib_w 0 299 hJ95_l5 (by decide)) (ib_w 0 119 h43191 (by decide)) (ib_w 1 1 h43212 (by decide)) (ib_w 0 1 (ib_c 0 0 0 (by decide)) (by decide)) hP hD hS (lv_sub hl [2, 3, 1, 4, 5, 6, 7, 8, 0] rfl)
          · have h43216 := ib_nlt (ib_c 1 1 1 (by decide)) (ib_any J95_l6) c43213
            have h43217 : ib J95_l6 (-2147483648) 1 := ib_w (-2147483648) 1 h43216.2 (by decide)
            refine lv_iload_n hx hb dX7_shine_122 rfl (lv_at hl 1 rfl) ?_
            refine lv_if_eq (tgt := 147) hx hb dX7_shine_123 (by decide) (fun c43218 => ?_) (fun c43218 => ?_)
            · have h43219 := ib_eq hJ95_s0 (ib_c 0 0 0 (by decide)) c43218
              have h43220 : ib J95_s0 0 0 := ib_w 0 0 h43219.1 (by decide)
              refine lv_iconst (v := 0) hx hb dX7_shine_147 (by decide) ?_
              exact jn148 J95_s0 J95_l6 J95_l7 z43190 J95_c0_13 0 H locs ls (ib_w 0 1 h43220 (by decide)) (ib_w 0 1 hJ95_l3 (by decide)) (ib_w (-1) 300 hJ95_l4 (by decide)) (ib_w 0 299 hJ95_l5 (by decide)) (ib_w 0 119 h43191 (by decide)) (ib_w 1 1 h43212 (by decide)) (ib_w 0 1 (ib_c 0 0 0 (by decide)) (by decide)) hP hD hS (lv_sub hl [2, 3, 1, 4, 5, 6, 7, 8, 0] rfl)
            · have h43221 : ib J95_s0 1 1 := ib_w 1 1 (ib_ne_lo 0 hJ95_s0 (by decide) c43218) (by decide)
              refine lv_iload hx hb dX7_shine_126 (lv_at hl 6 rfl) ?_
              refine lv_iload hx hb dX7_shine_128 (lv_at hl 5 rfl) ?_
              refine lv_isub hx hb dX7_shine_130 ?_
              refine lv_topi (fun z43222 ez43222 => ?_)
              have h43223 := ib_sub hJ95_l5 hJ95_l4 (by decide)
              rw [← ez43222] at h43223
              have h43224 : ib z43222 (-300) 300 := ib_w (-300) 300 h43223.1 (by decide)
              refine lv_iconst (v := 1) hx hb dX7_shine_131 (by decide) ?_
              refine lv_isub hx hb dX7_shine_132 ?_
              refine lv_topi (fun z43225 ez43225 => ?_)
              have h43226 := ib_sub h43224 (ib_c 1 1 1 (by decide)) (by decide)
              rw [← ez43225] at h43226
              have h43227 : ib z43225 (-301) 299 := ib_w (-301) 299 h43226.1 (by decide)
              refine lv_aload_n hx hb dX7_shine_133 rfl (lv_at hl 2 rfl) ?_
              refine k_get C0 fg_X7_63 hP 0 rfl rfl dX7_shine_134 ?_
              refine k_get C0 fg_X7_131 hP 1 rfl rfl dX7_shine_137 ?_
              refine lv_icmp_lt (tgt := 147) hx hb dX7_shine_140 (by decide) (fun c43228 => ?_) (fun c43228 => ?_)
              · have h43229 := ib_lt h43227 hx_this_plan_least c43228
                have h43230 : ib z43225 (-301) 98 := ib_w (-301) 98 h43229.1 (by decide)
                refine lv_iconst (v := 0) hx hb dX7_shine_147 (by decide) ?_
                exact jn148 J95_s0 J95_l6 J95_l7 z43190 J95_c0_13 0 H locs ls (ib_w 0 1 h43221 (by decide)) (ib_w 0 1 hJ95_l3 (by decide)) (ib_w (-1) 300 hJ95_l4 (by decide)) (ib_w 0 299 hJ95_l5 (by decide)) (ib_w 0 119 h43191 (by decide)) (ib_w 1 1 h43212 (by decide)) (ib_w 0 1 (ib_c 0 0 0 (by decide)) (by decide)) hP hD hS (lv_sub hl [2, 3, 1, 4, 5, 6, 7, 8, 0] rfl)
              · have h43231 := ib_nlt h43227 hx_this_plan_least c43228
                have h43232 : ib z43225 0 299 := ib_w 0 299 h43231.1 (by decide)
                refine lv_iconst (v := 1) hx hb dX7_shine_143 (by decide) ?_
                refine lv_goto (tgt := 148) hx hb dX7_shine_144 (by decide) ?_
                exact jn148 J95_s0 J95_l6 J95_l7 z43190 J95_c0_13 1 H locs ls (ib_w 0 1 h43221 (by decide)) (ib_w 0 1 hJ95_l3 (by decide)) (ib_w (-1) 300 hJ95_l4 (by decide)) (ib_w 0 299 hJ95_l5 (by decide)) (ib_w 0 119 h43191 (by decide)) (ib_w 1 1 h43212 (by decide)) (ib_w 0 1 (ib_c 1 1 1 (by decide)) (by decide)) hP hD hS (lv_sub hl [2, 3, 1, 4, 5, 6, 7, 8, 0] rfl)
      have jn68 : ∀ (J68_l6 : Int32) (J68_s0 : Int32) (H : Heap) (locs : List Loc) (ls : Array Slot), ib J20_l2 0 1 → ib J20_l3 0 1 → ib J20_l4 (-1) 300 → ib J20_l5 0 299 → va_P (dC, dI) vwCl [(a_this, .inr (7, [.ref a_this_machine, .ref a_this_plan, .int x_this_day, .ref a_this_trusts, .int x_this_rule, .int x_this_green, .int x_this_absent, .int x_this_asksReds, .ref a_this_cars, .ref a_this_gaps, .ref a_this_known, .ref a_this_left, .ref a_this_leaves, .int J20_c0_13, .int x_this_crossed, .int x_this_went, .int x_this_harmed])), (a_this_plan, .inr (4, [.int x_this_plan_cycle, .int x_this_plan_green, .int x_this_plan_rule, .int x_this_plan_least, .int x_this_plan_away, .int x_this_plan_statements, .int x_this_plan_kinds, .ref a_this_plan_calm, .ref a_this_plan_pace, .ref a_this_plan_trusts, .int x_this_plan_walkers, .ref a_this_plan_kindOf, .ref a_this_plan_comesAt, .ref a_this_plan_comers, .ref a_this_plan_names, .ref a_this_plan_code, .int x_this_plan_size, .ref a_this_plan_spans])), (a_this_plan_kindOf, .inl (cy 0, 12, .inl g_this_plan_kindOf)), (a_this_trusts, .inl (cy 0, 6, .inl g_this_trusts)), (a_this_plan_comers, .inl (cy 0, 200, .inl g_this_plan_comers)), (a_this_left, .inl (cy 0, 300, .inl J20_a5))] H → va_D A [(a_this, .inr (7, [.ref a_this_machine, .ref a_this_plan, .int x_this_day, .ref a_this_trusts, .int x_this_rule, .int x_this_green, .int x_this_absent, .int x_this_asksReds, .ref a_this_cars, .ref a_this_gaps, .ref a_this_known, .ref a_this_left, .ref a_this_leaves, .int J20_c0_13, .int x_this_crossed, .int x_this_went, .int x_this_harmed])), (a_this_plan, .inr (4, [.int x_this_plan_cycle, .int x_this_plan_green, .int x_this_plan_rule, .int x_this_plan_least, .int x_this_plan_away, .int x_this_plan_statements, .int x_this_plan_kinds, .ref a_this_plan_calm, .ref a_this_plan_pace, .ref a_this_plan_trusts, .int x_this_plan_walkers, .ref a_this_plan_kindOf, .ref a_this_plan_comesAt, .ref a_this_plan_comers, .ref a_this_plan_names, .ref a_this_plan_code, .int x_this_plan_size, .ref a_this_plan_spans])), (a_this_plan_kindOf, .inl (cy 0, 12, .inl g_this_plan_kindOf)), (a_this_trusts, .inl (cy 0, 6, .inl g_this_trusts)), (a_this_plan_comers, .inl (cy 0, 200, .inl g_this_plan_comers)), (a_this_left, .inl (cy 0, 300, .inl J20_a5))] → va_S A s.heap H locs → lv_has ls 9 [(0, .ref a_this), (1, .int J20_l1), (2, .int J20_l2), (3, .int J20_l3), (4, .int J20_l4), (5, .int J20_l5), (6, .int J68_l6)] → W p l e { frames := 1, cells := 0, slots := 0, locals := 22 } s m args below meth c H locs 0 0 Q (F0 m 68 ls [.int J68_s0]) := by
        intro J68_l6 J68_s0 H locs ls hJ68_l2 hJ68_l3 hJ68_l4 hJ68_l5 hP hD hS hl
        refine lv_istore (lv' := [(7, .int J68_s0), (0, .ref a_this), (1, .int J20_l1), (2, .int J20_l2), (3, .int J20_l3), (4, .int J20_l4), (5, .int J20_l5), (6, .int J68_l6)]) hx hb dX7_shine_68 hl (by decide) rfl (fun ls hl => ?_)
        refine lv_aload_n hx hb dX7_shine_70 rfl (lv_at hl 1 rfl) ?_
        refine lv_dup hx hb dX7_shine_71 rfl ?_
        refine k_get C0 fg_X7_47 hP 0 rfl rfl dX7_shine_72 ?_
        refine lv_iload hx hb dX7_shine_75 (lv_at hl 0 rfl) ?_
        refine lv_ior hx hb dX7_shine_77 ?_
        refine lv_topi (fun z43233 ez43233 => ?_)
        refine k_put C0 fp_X7_47 hP hD hS 0 rfl rfl rfl (Nat.le_of_ble_eq_true rfl) dX7_shine_78 (fun H locs hP hD hS => ?_)
        have hP : va_P (dC, dI) vwCl [(a_this, .inr (7, [.ref a_this_machine, .ref a_this_plan, .int x_this_day, .ref a_this_trusts, .int x_this_rule, .int x_this_green, .int x_this_absent, .int x_this_asksReds, .ref a_this_cars, .ref a_this_gaps, .ref a_this_known, .ref a_this_left, .ref a_this_leaves, .int z43233, .int x_this_crossed, .int x_this_went, .int x_this_harmed])), (a_this_plan, .inr (4, [.int x_this_plan_cycle, .int x_this_plan_green, .int x_this_plan_rule, .int x_this_plan_least, .int x_this_plan_away, .int x_this_plan_statements, .int x_this_plan_kinds, .ref a_this_plan_calm, .ref a_this_plan_pace, .ref a_this_plan_trusts, .int x_this_plan_walkers, .ref a_this_plan_kindOf, .ref a_this_plan_comesAt, .ref a_this_plan_comers, .ref a_this_plan_names, .ref a_this_plan_code, .int x_this_plan_size, .ref a_this_plan_spans])), (a_this_plan_kindOf, .inl (cy 0, 12, .inl g_this_plan_kindOf)), (a_this_trusts, .inl (cy 0, 6, .inl g_this_trusts)), (a_this_plan_comers, .inl (cy 0, 200, .inl g_this_plan_comers)), (a_this_left, .inl (cy 0, 300, .inl J20_a5))] H := hP
        have hD : va_D A [(a_this, .inr (7, [.ref a_this_machine, .ref a_this_plan, .int x_this_day, .ref a_this_trusts, .int x_this_rule, .int x_this_green, .int x_this_absent, .int x_this_asksReds, .ref a_this_cars, .ref a_this_gaps, .ref a_this_known, .ref a_this_left, .ref a_this_leaves, .int z43233, .int x_this_crossed, .int x_this_went, .int x_this_harmed])), (a_this_plan, .inr (4, [.int x_this_plan_cycle, .int x_this_plan_green, .int x_this_plan_rule, .int x_this_plan_least, .int x_this_plan_away, .int x_this_plan_statements, .int x_this_plan_kinds, .ref a_this_plan_calm, .ref a_this_plan_pace, .ref a_this_plan_trusts, .int x_this_plan_walkers, .ref a_this_plan_kindOf, .ref a_this_plan_comesAt, .ref a_this_plan_comers, .ref a_this_plan_names, .ref a_this_plan_code, .int x_this_plan_size, .ref a_this_plan_spans])), (a_this_plan_kindOf, .inl (cy 0, 12, .inl g_this_plan_kindOf)), (a_this_trusts, .inl (cy 0, 6, .inl g_this_trusts)), (a_this_plan_comers, .inl (cy 0, 200, .inl g_this_plan_comers)), (a_this_left, .inl (cy 0, 300, .inl J20_a5))] := hD
        refine lv_iload_n hx hb dX7_shine_81 rfl (lv_at hl 3 rfl) ?_
        refine lv_if_ne (tgt := 90) hx hb dX7_shine_82 (by decide) (fun c43234 => ?_) (fun c43234 => ?_)
        · have h43235 : ib J20_l2 1 1 := ib_w 1 1 (ib_ne_lo 0 hJ68_l2 (by decide) c43234) (by decide)
          refine lv_iconst (v := 1) hx hb dX7_shine_90 (by decide) ?_
          refine lv_goto (tgt := 95) hx hb dX7_shine_91 (by decide) ?_
          exact jn95 J68_l6 J68_s0 z43233 1 H locs ls (ib_w 0 1 h43235 (by decide)) (ib_w 0 1 hJ68_l3 (by decide)) (ib_w (-1) 300 hJ68_l4 (by decide)) (ib_w 0 299 hJ68_l5 (by decide)) (ib_w 0 1 (ib_c 1 1 1 (by decide)) (by decide)) hP hD hS (lv_sub hl [1, 2, 3, 4, 5, 6, 7, 0] rfl)
        · have h43236 := ib_eq hJ68_l2 (ib_c 0 0 0 (by decide)) c43234
          have h43237 : ib J20_l2 0 0 := ib_w 0 0 h43236.1 (by decide)
          refine lv_iload hx hb dX7_shine_85 (lv_at hl 0 rfl) ?_
          refine lv_if_eq (tgt := 94) hx hb dX7_shine_87 (by decide) (fun c43238 => ?_) (fun c43238 => ?_)
          · have h43239 := ib_eq (ib_any J68_s0) (ib_c 0 0 0 (by decide)) c43238
            have h43240 : ib J68_s0 0 0 := ib_w 0 0 h43239.1 (by decide)
            refine lv_iconst (v := 0) hx hb dX7_shine_94 (by decide) ?_
            exact jn95 J68_l6 J68_s0 z43233 0 H locs ls (ib_w 0 1 h43237 (by decide)) (ib_w 0 1 hJ68_l3 (by decide)) (ib_w (-1) 300 hJ68_l4 (by decide)) (ib_w 0 299 hJ68_l5 (by decide)) (ib_w 0 1 (ib_c 0 0 0 (by decide)) (by decide)) hP hD hS (lv_sub hl [1, 2, 3, 4, 5, 6, 7, 0] rfl)
          · skip
            refine lv_iconst (v := 1) hx hb dX7_shine_90 (by decide) ?_
            refine lv_goto (tgt := 95) hx hb dX7_shine_91 (by decide) ?_
            exact jn95 J68_l6 J68_s0 z43233 1 H locs ls (ib_w 0 1 h43237 (by decide)) (ib_w 0 1 hJ68_l3 (by decide)) (ib_w (-1) 300 hJ68_l4 (by decide)) (ib_w 0 299 hJ68_l5 (by decide)) (ib_w 0 1 (ib_c 1 1 1 (by decide)) (by decide)) hP hD hS (lv_sub hl [1, 2, 3, 4, 5, 6, 7, 0] rfl)
      have jn46 : ∀ (J46_s0 : Int32) (H : Heap) (locs : List Loc) (ls : Array Slot), ib J20_l2 0 1 → ib J20_l3 0 1 → ib J20_l4 (-1) 300 → ib J20_l5 0 299 → va_P (dC, dI) vwCl [(a_this, .inr (7, [.ref a_this_machine, .ref a_this_plan, .int x_this_day, .ref a_this_trusts, .int x_this_rule, .int x_this_green, .int x_this_absent, .int x_this_asksReds, .ref a_this_cars, .ref a_this_gaps, .ref a_this_known, .ref a_this_left, .ref a_this_leaves, .int J20_c0_13, .int x_this_crossed, .int x_this_went, .int x_this_harmed])), (a_this_plan, .inr (4, [.int x_this_plan_cycle, .int x_this_plan_green, .int x_this_plan_rule, .int x_this_plan_least, .int x_this_plan_away, .int x_this_plan_statements, .int x_this_plan_kinds, .ref a_this_plan_calm, .ref a_this_plan_pace, .ref a_this_plan_trusts, .int x_this_plan_walkers, .ref a_this_plan_kindOf, .ref a_this_plan_comesAt, .ref a_this_plan_comers, .ref a_this_plan_names, .ref a_this_plan_code, .int x_this_plan_size, .ref a_this_plan_spans])), (a_this_plan_kindOf, .inl (cy 0, 12, .inl g_this_plan_kindOf)), (a_this_trusts, .inl (cy 0, 6, .inl g_this_trusts)), (a_this_plan_comers, .inl (cy 0, 200, .inl g_this_plan_comers)), (a_this_left, .inl (cy 0, 300, .inl J20_a5))] H → va_D A [(a_this, .inr (7, [.ref a_this_machine, .ref a_this_plan, .int x_this_day, .ref a_this_trusts, .int x_this_rule, .int x_this_green, .int x_this_absent, .int x_this_asksReds, .ref a_this_cars, .ref a_this_gaps, .ref a_this_known, .ref a_this_left, .ref a_this_leaves, .int J20_c0_13, .int x_this_crossed, .int x_this_went, .int x_this_harmed])), (a_this_plan, .inr (4, [.int x_this_plan_cycle, .int x_this_plan_green, .int x_this_plan_rule, .int x_this_plan_least, .int x_this_plan_away, .int x_this_plan_statements, .int x_this_plan_kinds, .ref a_this_plan_calm, .ref a_this_plan_pace, .ref a_this_plan_trusts, .int x_this_plan_walkers, .ref a_this_plan_kindOf, .ref a_this_plan_comesAt, .ref a_this_plan_comers, .ref a_this_plan_names, .ref a_this_plan_code, .int x_this_plan_size, .ref a_this_plan_spans])), (a_this_plan_kindOf, .inl (cy 0, 12, .inl g_this_plan_kindOf)), (a_this_trusts, .inl (cy 0, 6, .inl g_this_trusts)), (a_this_plan_comers, .inl (cy 0, 200, .inl g_this_plan_comers)), (a_this_left, .inl (cy 0, 300, .inl J20_a5))] → va_S A s.heap H locs → lv_has ls 9 [(0, .ref a_this), (1, .int J20_l1), (2, .int J20_l2), (3, .int J20_l3), (4, .int J20_l4), (5, .int J20_l5)] → W p l e { frames := 1, cells := 0, slots := 0, locals := 22 } s m args below meth c H locs 0 0 Q (F0 m 46 ls [.int J46_s0]) := by
        intro J46_s0 H locs ls hJ46_l2 hJ46_l3 hJ46_l4 hJ46_l5 hP hD hS hl
        refine lv_istore (lv' := [(6, .int J46_s0), (0, .ref a_this), (1, .int J20_l1), (2, .int J20_l2), (3, .int J20_l3), (4, .int J20_l4), (5, .int J20_l5)]) hx hb dX7_shine_46 hl (by decide) rfl (fun ls hl => ?_)
        refine lv_iload hx hb dX7_shine_48 (lv_at hl 0 rfl) ?_
        refine lv_if_ne (tgt := 67) hx hb dX7_shine_50 (by decide) (fun c43241 => ?_) (fun c43241 => ?_)
        · skip
          refine lv_iconst (v := 0) hx hb dX7_shine_67 (by decide) ?_
          exact jn68 J46_s0 0 H locs ls (ib_w 0 1 hJ46_l2 (by decide)) (ib_w 0 1 hJ46_l3 (by decide)) (ib_w (-1) 300 hJ46_l4 (by decide)) (ib_w 0 299 hJ46_l5 (by decide)) hP hD hS (lv_sub hl [1, 2, 3, 4, 5, 6, 0] rfl)
        · have h43242 := ib_eq (ib_any J46_s0) (ib_c 0 0 0 (by decide)) c43241
          have h43243 : ib J46_s0 0 0 := ib_w 0 0 h43242.1 (by decide)
          refine lv_aload_n hx hb dX7_shine_53 rfl (lv_at hl 1 rfl) ?_
          refine k_get C0 fg_X7_63 hP 0 rfl rfl dX7_shine_54 ?_
          refine lv_iload hx hb dX7_shine_57 (lv_at hl 6 rfl) ?_
          refine k_ji hP hD hS hA [1, 4] [0, 2, 3, 5] (wr := [(a_this, .inr (7, [.ref a_this_machine, .ref a_this_plan, .int x_this_day, .ref a_this_trusts, .int x_this_rule, .int x_this_green, .int x_this_absent, .int x_this_asksReds, .ref a_this_cars, .ref a_this_gaps, .ref a_this_known, .ref a_this_left, .ref a_this_leaves, .int J20_c0_13, .int x_this_crossed, .int x_this_went, .int x_this_harmed])), (a_this_plan_kindOf, .inl (cy 0, 12, .inl g_this_plan_kindOf)), (a_this_trusts, .inl (cy 0, 6, .inl g_this_trusts)), (a_this_left, .inl (cy 0, 300, .inl J20_a5))]) rfl rfl (by decide) (by decide) (by decide) 0 0 (Nat.le_of_ble_eq_true rfl) (Nat.le_of_ble_eq_true rfl) (fun hPc hDc => k_runV (As := [.int J20_l5]) (rest := []) C0 (s_X4_comersIn l dC dI cy sq a_this_plan x_this_plan_cycle x_this_plan_green x_this_plan_rule x_this_plan_least x_this_plan_away x_this_plan_statements x_this_plan_kinds a_this_plan_calm a_this_plan_pace a_this_plan_trusts x_this_plan_walkers a_this_plan_kindOf a_this_plan_comesAt a_this_plan_comers g_this_plan_comers a_this_plan_names a_this_plan_code x_this_plan_size a_this_plan_spans J20_l5 (ib_w 0 120 hx_this_plan_cycle (by decide)) (ib_w 0 99 hx_this_plan_least (by decide)) (ib_w 0 81 hx_this_plan_statements (by decide)) (ib_w 0 6 hx_this_plan_kinds (by decide)) (ib_w 0 12 hx_this_plan_walkers (by decide)) (ib_w 0 1600 hx_this_plan_size (by decide))) mV_X7_127 hPc hDc rfl rfl rfl hl rfl rfl (Nat.le_of_ble_eq_true rfl) ⟨(Nat.le_of_ble_eq_true rfl), (Nat.le_of_ble_eq_true rfl)⟩ ⟨(Nat.le_of_ble_eq_true rfl), (Nat.le_of_ble_eq_true rfl)⟩ dX7_shine_59) (fun r43244 u43245 H locs hw hP hD hS => ?_)
          try dsimp only at hP hD hw
          have hP : va_P (dC, dI) vwCl [(a_this, .inr (7, [.ref a_this_machine, .ref a_this_plan, .int x_this_day, .ref a_this_trusts, .int x_this_rule, .int x_this_green, .int x_this_absent, .int x_this_asksReds, .ref a_this_cars, .ref a_this_gaps, .ref a_this_known, .ref a_this_left, .ref a_this_leaves, .int J20_c0_13, .int x_this_crossed, .int x_this_went, .int x_this_harmed])), (a_this_plan_kindOf, .inl (cy 0, 12, .inl g_this_plan_kindOf)), (a_this_trusts, .inl (cy 0, 6, .inl g_this_trusts)), (a_this_left, .inl (cy 0, 300, .inl J20_a5)), (a_this_plan, .inr (4, [.int x_this_plan_cycle, .int x_this_plan_green, .int x_this_plan_rule, .int x_this_plan_least, .int x_this_plan_away, .int x_this_plan_statements, .int x_this_plan_kinds, .ref a_this_plan_calm, .ref a_this_plan_pace, .ref a_this_plan_trusts, .int x_this_plan_walkers, .ref a_this_plan_kindOf, .ref a_this_plan_comesAt, .ref a_this_plan_comers, .ref a_this_plan_names, .ref a_this_plan_code, .int x_this_plan_size, .ref a_this_plan_spans])), (a_this_plan_comers, .inl (cy 0, 200, .inl g_this_plan_comers))] H := hP
          have hD : va_D A [(a_this, .inr (7, [.ref a_this_machine, .ref a_this_plan, .int x_this_day, .ref a_this_trusts, .int x_this_rule, .int x_this_green, .int x_this_absent, .int x_this_asksReds, .ref a_this_cars, .ref a_this_gaps, .ref a_this_known, .ref a_this_left, .ref a_this_leaves, .int J20_c0_13, .int x_this_crossed, .int x_this_went, .int x_this_harmed])), (a_this_plan_kindOf, .inl (cy 0, 12, .inl g_this_plan_kindOf)), (a_this_trusts, .inl (cy 0, 6, .inl g_this_trusts)), (a_this_left, .inl (cy 0, 300, .inl J20_a5)), (a_this_plan, .inr (4, [.int x_this_plan_cycle, .int x_this_plan_green, .int x_this_plan_rule, .int x_this_plan_least, .int x_this_plan_away, .int x_this_plan_statements, .int x_this_plan_kinds, .ref a_this_plan_calm, .ref a_this_plan_pace, .ref a_this_plan_trusts, .int x_this_plan_walkers, .ref a_this_plan_kindOf, .ref a_this_plan_comesAt, .ref a_this_plan_comers, .ref a_this_plan_names, .ref a_this_plan_code, .int x_this_plan_size, .ref a_this_plan_spans])), (a_this_plan_comers, .inl (cy 0, 200, .inl g_this_plan_comers))] := hD
          refine lv_iload_n hx hb dX7_shine_62 rfl (lv_at hl 2 rfl) ?_
          refine lv_iand hx hb dX7_shine_63 ?_
          refine lv_topi (fun z43246 ez43246 => ?_)
          refine lv_goto (tgt := 68) hx hb dX7_shine_64 (by decide) ?_
          exact jn68 J46_s0 z43246 H locs ls (ib_w 0 1 hJ46_l2 (by decide)) (ib_w 0 1 hJ46_l3 (by decide)) (ib_w (-1) 300 hJ46_l4 (by decide)) (ib_w 0 299 hJ46_l5 (by decide)) (hP.sub [0, 4, 1, 2, 5, 3] rfl) (hD.sub [0, 4, 1, 2, 5, 3] (by decide) rfl) hS (lv_sub hl [1, 2, 3, 4, 5, 6, 0] rfl)
      refine lv_iload hx hb dX7_shine_20 (lv_at hl 5 rfl) ?_
      refine lv_sipush (v := 300) hx hb dX7_shine_22 (by decide) ?_
      refine lv_icmp_ge (tgt := 267) hx hb dX7_shine_25 (by decide) (fun c43247 => ?_) (fun c43247 => ?_)
      · have h43248 := ib_le (ib_c 300 300 300 (by decide)) hJ20_l5 c43247
        have h43249 : ib J20_l5 300 300 := ib_w 300 300 h43248.2 (by decide)
        subst hQ; exact k_vret hx hb hr hlk ((J20_c0_13, J20_a5)) hS True.intro hP hD (Nat.le_of_ble_eq_true rfl) (Nat.le_of_ble_eq_true rfl) dX7_shine_267
      · have h43250 := ib_nle (ib_c 300 300 300 (by decide)) hJ20_l5 c43247
        have h43251 : ib J20_l5 0 299 := ib_w 0 299 h43250.2 (by decide)
        refine lv_iload hx hb dX7_shine_28 (lv_at hl 5 rfl) ?_
        refine lv_if_le (tgt := 45) hx hb dX7_shine_30 (by decide) (fun c43252 => ?_) (fun c43252 => ?_)
        · have h43253 := ib_le h43251 (ib_c 0 0 0 (by decide)) c43252
          have h43254 : ib J20_l5 0 0 := ib_w 0 0 h43253.1 (by decide)
          refine lv_iconst (v := 0) hx hb dX7_shine_45 (by decide) ?_
          exact jn46 0 H locs ls (ib_w 0 1 hJ20_l2 (by decide)) (ib_w 0 1 hJ20_l3 (by decide)) (ib_w (-1) 300 hJ20_l4 (by decide)) (ib_w 0 299 h43254 (by decide)) hP hD hS (lv_sub hl [0, 1, 2, 3, 4, 5] rfl)
        · have h43255 := ib_nle h43251 (ib_c 0 0 0 (by decide)) c43252
          have h43256 : ib J20_l5 1 299 := ib_w 1 299 h43255.1 (by decide)
          refine lv_aload_n hx hb dX7_shine_33 rfl (lv_at hl 0 rfl) ?_
          refine k_get C0 fg_X7_41 hP 0 rfl rfl dX7_shine_34 ?_
          refine lv_iload hx hb dX7_shine_37 (lv_at hl 5 rfl) ?_
          refine lv_iconst (v := 1) hx hb dX7_shine_39 (by decide) ?_
          refine lv_isub hx hb dX7_shine_40 ?_
          refine lv_topi (fun z43257 ez43257 => ?_)
          have h43258 := ib_sub h43256 (ib_c 1 1 1 (by decide)) (by decide)
          rw [← ez43257] at h43258
          have h43259 : ib z43257 0 298 := ib_w 0 298 h43258.1 (by decide)
          refine va_iald hx hb C0.2.2.2.2.2.1 hP 5 0 rfl rfl (ib_in 300 h43259 (by decide)) dX7_shine_41 ?_
          refine lv_topi (fun z43260 ez43260 => ?_)
          refine lv_goto (tgt := 46) hx hb dX7_shine_42 (by decide) ?_
          exact jn46 z43260 H locs ls (ib_w 0 1 hJ20_l2 (by decide)) (ib_w 0 1 hJ20_l3 (by decide)) (ib_w (-1) 300 hJ20_l4 (by decide)) (ib_w 0 299 h43256 (by decide)) hP hD hS (lv_sub hl [0, 1, 2, 3, 4, 5] rfl)
  refine lv_aload_n hx hb dX7_shine_0 rfl (lv_at hl 0 rfl) ?_
  refine k_ji hP hD hS hA [0, 1, 2, 3] [4, 5] (wr := [(a_this_plan_comers, .inl (cy 0, 200, .inl g_this_plan_comers)), (a_this_left, .inl (cy 0, 300, .inl g_this_left))]) rfl rfl (by decide) (by decide) (by decide) 0 0 (Nat.le_of_ble_eq_true rfl) (Nat.le_of_ble_eq_true rfl) (fun hPc hDc => k_runV (As := []) (rest := []) C0 (s_X7_willing l dC dI cy sq a_this a_this_machine a_this_plan x_this_plan_cycle x_this_plan_green x_this_plan_rule x_this_plan_least x_this_plan_away x_this_plan_statements x_this_plan_kinds a_this_plan_calm a_this_plan_pace a_this_plan_trusts x_this_plan_walkers a_this_plan_kindOf g_this_plan_kindOf a_this_plan_comesAt a_this_plan_comers a_this_plan_names a_this_plan_code x_this_plan_size a_this_plan_spans x_this_day a_this_trusts g_this_trusts x_this_rule x_this_green x_this_absent x_this_asksReds a_this_cars a_this_gaps a_this_known a_this_left a_this_leaves x_this_pressed x_this_crossed x_this_went x_this_harmed (ib_w 0 120 hx_this_plan_cycle (by decide)) (ib_w 0 99 hx_this_plan_least (by decide)) (ib_w 0 81 hx_this_plan_statements (by decide)) (ib_w 0 6 hx_this_plan_kinds (by decide)) (ib_w 0 12 hx_this_plan_walkers (by decide)) hg_this_plan_kindOf (ib_w 0 1600 hx_this_plan_size (by decide)) (ib_w 0 1 hx_this_asksReds (by decide))) mV_X7_123 hPc hDc rfl rfl rfl hl rfl rfl (Nat.le_of_ble_eq_true rfl) ⟨(Nat.le_of_ble_eq_true rfl), (Nat.le_of_ble_eq_true rfl)⟩ ⟨(Nat.le_of_ble_eq_true rfl), (Nat.le_of_ble_eq_true rfl)⟩ dX7_shine_1) (fun r43261 u43262 H locs hw hP hD hS => ?_)
  try dsimp only at hP hD hw
  have hP : va_P (dC, dI) vwCl [(a_this_plan_comers, .inl (cy 0, 200, .inl g_this_plan_comers)), (a_this_left, .inl (cy 0, 300, .inl g_this_left)), (a_this, .inr (7, [.ref a_this_machine, .ref a_this_plan, .int x_this_day, .ref a_this_trusts, .int x_this_rule, .int x_this_green, .int x_this_absent, .int x_this_asksReds, .ref a_this_cars, .ref a_this_gaps, .ref a_this_known, .ref a_this_left, .ref a_this_leaves, .int x_this_pressed, .int x_this_crossed, .int x_this_went, .int x_this_harmed])), (a_this_plan, .inr (4, [.int x_this_plan_cycle, .int x_this_plan_green, .int x_this_plan_rule, .int x_this_plan_least, .int x_this_plan_away, .int x_this_plan_statements, .int x_this_plan_kinds, .ref a_this_plan_calm, .ref a_this_plan_pace, .ref a_this_plan_trusts, .int x_this_plan_walkers, .ref a_this_plan_kindOf, .ref a_this_plan_comesAt, .ref a_this_plan_comers, .ref a_this_plan_names, .ref a_this_plan_code, .int x_this_plan_size, .ref a_this_plan_spans])), (a_this_plan_kindOf, .inl (cy 0, 12, .inl g_this_plan_kindOf)), (a_this_trusts, .inl (cy 0, 6, .inl g_this_trusts))] H := hP
  have hD : va_D A [(a_this_plan_comers, .inl (cy 0, 200, .inl g_this_plan_comers)), (a_this_left, .inl (cy 0, 300, .inl g_this_left)), (a_this, .inr (7, [.ref a_this_machine, .ref a_this_plan, .int x_this_day, .ref a_this_trusts, .int x_this_rule, .int x_this_green, .int x_this_absent, .int x_this_asksReds, .ref a_this_cars, .ref a_this_gaps, .ref a_this_known, .ref a_this_left, .ref a_this_leaves, .int x_this_pressed, .int x_this_crossed, .int x_this_went, .int x_this_harmed])), (a_this_plan, .inr (4, [.int x_this_plan_cycle, .int x_this_plan_green, .int x_this_plan_rule, .int x_this_plan_least, .int x_this_plan_away, .int x_this_plan_statements, .int x_this_plan_kinds, .ref a_this_plan_calm, .ref a_this_plan_pace, .ref a_this_plan_trusts, .int x_this_plan_walkers, .ref a_this_plan_kindOf, .ref a_this_plan_comesAt, .ref a_this_plan_comers, .ref a_this_plan_names, .ref a_this_plan_code, .int x_this_plan_size, .ref a_this_plan_spans])), (a_this_plan_kindOf, .inl (cy 0, 12, .inl g_this_plan_kindOf)), (a_this_trusts, .inl (cy 0, 6, .inl g_this_trusts))] := hD
  refine lv_istore_n (lv' := [(1, .int r43261), (0, .ref a_this)]) hx hb dX7_shine_4 rfl hl (by decide) rfl (fun ls hl => ?_)
  refine lv_aload_n hx hb dX7_shine_5 rfl (lv_at hl 1 rfl) ?_
  refine lv_iconst (v := 0) hx hb dX7_shine_6 (by decide) ?_
  refine k_put C0 fp_X7_47 hP hD hS 2 rfl rfl rfl (Nat.le_of_ble_eq_true rfl) dX7_shine_7 (fun H locs hP hD hS => ?_)
  have hP : va_P (dC, dI) vwCl [(a_this_plan_comers, .inl (cy 0, 200, .inl g_this_plan_comers)), (a_this_left, .inl (cy 0, 300, .inl g_this_left)), (a_this, .inr (7, [.ref a_this_machine, .ref a_this_plan, .int x_this_day, .ref a_this_trusts, .int x_this_rule, .int x_this_green, .int x_this_absent, .int x_this_asksReds, .ref a_this_cars, .ref a_this_gaps, .ref a_this_known, .ref a_this_left, .ref a_this_leaves, .int 0, .int x_this_crossed, .int x_this_went, .int x_this_harmed])), (a_this_plan, .inr (4, [.int x_this_plan_cycle, .int x_this_plan_green, .int x_this_plan_rule, .int x_this_plan_least, .int x_this_plan_away, .int x_this_plan_statements, .int x_this_plan_kinds, .ref a_this_plan_calm, .ref a_this_plan_pace, .ref a_this_plan_trusts, .int x_this_plan_walkers, .ref a_this_plan_kindOf, .ref a_this_plan_comesAt, .ref a_this_plan_comers, .ref a_this_plan_names, .ref a_this_plan_code, .int x_this_plan_size, .ref a_this_plan_spans])), (a_this_plan_kindOf, .inl (cy 0, 12, .inl g_this_plan_kindOf)), (a_this_trusts, .inl (cy 0, 6, .inl g_this_trusts))] H := hP
  have hD : va_D A [(a_this_plan_comers, .inl (cy 0, 200, .inl g_this_plan_comers)), (a_this_left, .inl (cy 0, 300, .inl g_this_left)), (a_this, .inr (7, [.ref a_this_machine, .ref a_this_plan, .int x_this_day, .ref a_this_trusts, .int x_this_rule, .int x_this_green, .int x_this_absent, .int x_this_asksReds, .ref a_this_cars, .ref a_this_gaps, .ref a_this_known, .ref a_this_left, .ref a_this_leaves, .int 0, .int x_this_crossed, .int x_this_went, .int x_this_harmed])), (a_this_plan, .inr (4, [.int x_this_plan_cycle, .int x_this_plan_green, .int x_this_plan_rule, .int x_this_plan_least, .int x_this_plan_away, .int x_this_plan_statements, .int x_this_plan_kinds, .ref a_this_plan_calm, .ref a_this_plan_pace, .ref a_this_plan_trusts, .int x_this_plan_walkers, .ref a_this_plan_kindOf, .ref a_this_plan_comesAt, .ref a_this_plan_comers, .ref a_this_plan_names, .ref a_this_plan_code, .int x_this_plan_size, .ref a_this_plan_spans])), (a_this_plan_kindOf, .inl (cy 0, 12, .inl g_this_plan_kindOf)), (a_this_trusts, .inl (cy 0, 6, .inl g_this_trusts))] := hD
  refine lv_iconst (v := 0) hx hb dX7_shine_10 (by decide) ?_
  refine lv_istore_n (lv' := [(2, .int 0), (1, .int r43261), (0, .ref a_this)]) hx hb dX7_shine_11 rfl hl (by decide) rfl (fun ls hl => ?_)
  refine lv_iconst (v := 0) hx hb dX7_shine_12 (by decide) ?_
  refine lv_istore_n (lv' := [(3, .int 0), (2, .int 0), (1, .int r43261), (0, .ref a_this)]) hx hb dX7_shine_13 rfl hl (by decide) rfl (fun ls hl => ?_)
  refine lv_iconst (v := (-1)) hx hb dX7_shine_14 (by decide) ?_
  refine lv_istore (lv' := [(4, .int (-1)), (3, .int 0), (2, .int 0), (1, .int r43261), (0, .ref a_this)]) hx hb dX7_shine_15 hl (by decide) rfl (fun ls hl => ?_)
  refine lv_iconst (v := 0) hx hb dX7_shine_17 (by decide) ?_
  refine lv_istore (lv' := [(5, .int 0), (4, .int (-1)), (3, .int 0), (2, .int 0), (1, .int r43261), (0, .ref a_this)]) hx hb dX7_shine_18 hl (by decide) rfl (fun ls hl => ?_)
  exact jn20 302 r43261 0 0 (-1) 0 0 g_this_left H locs ls (ib_w 0 1 (ib_c 0 0 0 (by decide)) (by decide)) (ib_w 0 1 (ib_c 0 0 0 (by decide)) (by decide)) (ib_w (-1) 300 (ib_c (-1) (-1) (-1) (by decide)) (by decide)) (ib_w 0 300 (ib_c 0 0 0 (by decide)) (by decide)) (by have := (ib_c 0 0 0 (by decide)); unfold ib at this; omega) (hP.sub [2, 3, 4, 5, 0, 1] rfl) (hD.sub [2, 3, 4, 5, 0, 1] (by decide) rfl) hS (lv_sub hl [5, 4, 3, 2, 1, 0] rfl)
set_option maxHeartbeats 4000000 in
set_option maxRecDepth 100000 in
theorem s_X7_take (l : Launch) (dC : Nat → ClassId) (dI : Nat → Nat → Nat) (cy : Nat → ClassId) (sq : Nat → Nat) (a_this : Nat) (a_this_machine : Nat) (a_this_plan : Nat) (x_this_day : Int32) (a_this_trusts : Nat) (x_this_rule : Int32) (x_this_green : Int32) (x_this_absent : Int32) (x_this_asksReds : Int32) (a_this_cars : Nat) (a_this_gaps : Nat) (a_this_known : Nat) (a_this_left : Nat) (a_this_leaves : Nat) (x_this_pressed : Int32) (x_this_crossed : Int32) (x_this_went : Int32) (x_this_harmed : Int32) (a_arg0 : Nat) (x_arg0_cycle : Int32) (x_arg0_green : Int32) (x_arg0_rule : Int32) (x_arg0_least : Int32) (x_arg0_away : Int32) (x_arg0_statements : Int32) (x_arg0_kinds : Int32) (a_arg0_calm : Nat) (a_arg0_pace : Nat) (a_arg0_trusts : Nat) (x_arg0_walkers : Int32) (a_arg0_kindOf : Nat) (a_arg0_comesAt : Nat) (a_arg0_comers : Nat) (a_arg0_names : Nat) (a_arg0_code : Nat) (g_arg0_code : Nat → Int32) (x_arg0_size : Int32) (a_arg0_spans : Nat) (g_arg0_spans : Nat → Int32) (hx_this_asksReds : ib x_this_asksReds 0 1) (hx_arg0_cycle : ib x_arg0_cycle 0 120) (hx_arg0_least : ib x_arg0_least 0 99) (hx_arg0_statements : ib x_arg0_statements 0 81) (hx_arg0_kinds : ib x_arg0_kinds 0 6) (hx_arg0_walkers : ib x_arg0_walkers 0 12) (hx_arg0_size : ib x_arg0_size 0 1600) (hg_arg0_spans : ia g_arg0_spans 6 0 1600) : k_Met l yX7_take cX7_take 2 none { frames := 1, cells := 0, slots := 0, locals := 23 } dC dI cy sq [.ref a_this, .ref a_arg0] [(a_this, .inr (7, [.ref a_this_machine, .ref a_this_plan, .int x_this_day, .ref a_this_trusts, .int x_this_rule, .int x_this_green, .int x_this_absent, .int x_this_asksReds, .ref a_this_cars, .ref a_this_gaps, .ref a_this_known, .ref a_this_left, .ref a_this_leaves, .int x_this_pressed, .int x_this_crossed, .int x_this_went, .int x_this_harmed])), (a_arg0, .inr (4, [.int x_arg0_cycle, .int x_arg0_green, .int x_arg0_rule, .int x_arg0_least, .int x_arg0_away, .int x_arg0_statements, .int x_arg0_kinds, .ref a_arg0_calm, .ref a_arg0_pace, .ref a_arg0_trusts, .int x_arg0_walkers, .ref a_arg0_kindOf, .ref a_arg0_comesAt, .ref a_arg0_comers, .ref a_arg0_names, .ref a_arg0_code, .int x_arg0_size, .ref a_arg0_spans])), (a_arg0_spans, .inl (cy 0, 6, .inl g_arg0_spans)), (a_arg0_code, .inl (cy 0, 1600, .inl g_arg0_code))] (k_Qv dC dI (fun (u : Nat × Int32 × Int32) => match u with | (n0, n1, n2) => ib n1 (-1) (-1) ∧ ib n2 0 1) (fun u : Nat × Int32 × Int32 => match u with | (n0, n1, n2) => [(a_this, .inr (7, [.ref a_this_machine, .ref n0, .int n1, .ref a_this_trusts, .int x_this_rule, .int x_this_green, .int x_this_absent, .int n2, .ref a_this_cars, .ref a_this_gaps, .ref a_this_known, .ref a_this_left, .ref a_this_leaves, .int x_this_pressed, .int x_this_crossed, .int x_this_went, .int x_this_harmed])), (a_arg0, .inr (4, [.int x_arg0_cycle, .int x_arg0_green, .int x_arg0_rule, .int x_arg0_least, .int x_arg0_away, .int x_arg0_statements, .int x_arg0_kinds, .ref a_arg0_calm, .ref a_arg0_pace, .ref a_arg0_trusts, .int x_arg0_walkers, .ref a_arg0_kindOf, .ref a_arg0_comesAt, .ref a_arg0_comers, .ref a_arg0_names, .ref a_arg0_code, .int x_arg0_size, .ref a_arg0_spans])), (a_arg0_spans, .inl (cy 0, 6, .inl g_arg0_spans)), (a_arg0_code, .inl (cy 0, 1600, .inl g_arg0_code))])) := by
  refine k_ofW2 (by decide +kernel) (Nat.le_of_ble_eq_true rfl) ?_
  intro p e s m below meth c A ls H locs args Q hQ C0 hr hlk hin hP hD hA hS hl
  have C0 : k_cx p s m args c cX7_take 2 RX7 dC dI cy sq := C0
  have hx := C0.1
  have hb := C0.2.1
  have hl : lv_has ls 2 [(0, .ref a_this), (1, .ref a_arg0)] := hl
  refine lv_aload_n hx hb dX7_take_0 rfl (lv_at hl 0 rfl) ?_
  refine lv_aload_n hx hb dX7_take_1 rfl (lv_at hl 1 rfl) ?_
  refine k_put C0 fp_X7_63 hP hD hS 0 rfl rfl rfl (Nat.le_of_ble_eq_true rfl) dX7_take_2 (fun H locs hP hD hS => ?_)
  have hP : va_P (dC, dI) vwCl [(a_this, .inr (7, [.ref a_this_machine, .ref a_arg0, .int x_this_day, .ref a_this_trusts, .int x_this_rule, .int x_this_green, .int x_this_absent, .int x_this_asksReds, .ref a_this_cars, .ref a_this_gaps, .ref a_this_known, .ref a_this_left, .ref a_this_leaves, .int x_this_pressed, .int x_this_crossed, .int x_this_went, .int x_this_harmed])), (a_arg0, .inr (4, [.int x_arg0_cycle, .int x_arg0_green, .int x_arg0_rule, .int x_arg0_least, .int x_arg0_away, .int x_arg0_statements, .int x_arg0_kinds, .ref a_arg0_calm, .ref a_arg0_pace, .ref a_arg0_trusts, .int x_arg0_walkers, .ref a_arg0_kindOf, .ref a_arg0_comesAt, .ref a_arg0_comers, .ref a_arg0_names, .ref a_arg0_code, .int x_arg0_size, .ref a_arg0_spans])), (a_arg0_spans, .inl (cy 0, 6, .inl g_arg0_spans)), (a_arg0_code, .inl (cy 0, 1600, .inl g_arg0_code))] H := hP
  have hD : va_D A [(a_this, .inr (7, [.ref a_this_machine, .ref a_arg0, .int x_this_day, .ref a_this_trusts, .int x_this_rule, .int x_this_green, .int x_this_absent, .int x_this_asksReds, .ref a_this_cars, .ref a_this_gaps, .ref a_this_known, .ref a_this_left, .ref a_this_leaves, .int x_this_pressed, .int x_this_crossed, .int x_this_went, .int x_this_harmed])), (a_arg0, .inr (4, [.int x_arg0_cycle, .int x_arg0_green, .int x_arg0_rule, .int x_arg0_least, .int x_arg0_away, .int x_arg0_statements, .int x_arg0_kinds, .ref a_arg0_calm, .ref a_arg0_pace, .ref a_arg0_trusts, .int x_arg0_walkers, .ref a_arg0_kindOf, .ref a_arg0_comesAt, .ref a_arg0_comers, .ref a_arg0_names, .ref a_arg0_code, .int x_arg0_size, .ref a_arg0_spans])), (a_arg0_spans, .inl (cy 0, 6, .inl g_arg0_spans)), (a_arg0_code, .inl (cy 0, 1600, .inl g_arg0_code))] := hD
  refine lv_aload_n hx hb dX7_take_5 rfl (lv_at hl 0 rfl) ?_
  refine lv_aload_n hx hb dX7_take_6 rfl (lv_at hl 1 rfl) ?_
  refine lv_iconst (v := 2) hx hb dX7_take_7 (by decide) ?_
  refine lv_bipush (v := (-9)) hx hb dX7_take_8 (by decide) ?_
  refine k_ji hP hD hS hA [1, 2, 3] [0] (wr := [(a_this, .inr (7, [.ref a_this_machine, .ref a_arg0, .int x_this_day, .ref a_this_trusts, .int x_this_rule, .int x_this_green, .int x_this_absent, .int x_this_asksReds, .ref a_this_cars, .ref a_this_gaps, .ref a_this_known, .ref a_this_left, .ref a_this_leaves, .int x_this_pressed, .int x_this_crossed, .int x_this_went, .int x_this_harmed]))]) rfl rfl (by decide) (by decide) (by decide) 0 0 (Nat.le_of_ble_eq_true rfl) (Nat.le_of_ble_eq_true rfl) (fun hPc hDc => k_runV (As := [.int 2, .int (-9)]) (rest := [.ref a_this]) C0 (s_X4_uses l dC dI cy sq a_arg0 x_arg0_cycle x_arg0_green x_arg0_rule x_arg0_least x_arg0_away x_arg0_statements x_arg0_kinds a_arg0_calm a_arg0_pace a_arg0_trusts x_arg0_walkers a_arg0_kindOf a_arg0_comesAt a_arg0_comers a_arg0_names a_arg0_code g_arg0_code x_arg0_size a_arg0_spans g_arg0_spans 2 (-9) (ib_w 0 120 hx_arg0_cycle (by decide)) (ib_w 0 99 hx_arg0_least (by decide)) (ib_w 0 81 hx_arg0_statements (by decide)) (ib_w 0 6 hx_arg0_kinds (by decide)) (ib_w 0 12 hx_arg0_walkers (by decide)) (ib_w 0 1600 hx_arg0_size (by decide)) hg_arg0_spans (ib_w 0 4 (ib_c 2 2 2 (by decide)) (by decide))) mV_X7_67 hPc hDc rfl rfl rfl hl rfl rfl (Nat.le_of_ble_eq_true rfl) ⟨(Nat.le_of_ble_eq_true rfl), (Nat.le_of_ble_eq_true rfl)⟩ ⟨(Nat.le_of_ble_eq_true rfl), (Nat.le_of_ble_eq_true rfl)⟩ dX7_take_10) (fun r43293 u43294 H locs hw hP hD hS => ?_)
  try dsimp only at hP hD hw
  have hP : va_P (dC, dI) vwCl [(a_this, .inr (7, [.ref a_this_machine, .ref a_arg0, .int x_this_day, .ref a_this_trusts, .int x_this_rule, .int x_this_green, .int x_this_absent, .int x_this_asksReds, .ref a_this_cars, .ref a_this_gaps, .ref a_this_known, .ref a_this_left, .ref a_this_leaves, .int x_this_pressed, .int x_this_crossed, .int x_this_went, .int x_this_harmed])), (a_arg0, .inr (4, [.int x_arg0_cycle, .int x_arg0_green, .int x_arg0_rule, .int x_arg0_least, .int x_arg0_away, .int x_arg0_statements, .int x_arg0_kinds, .ref a_arg0_calm, .ref a_arg0_pace, .ref a_arg0_trusts, .int x_arg0_walkers, .ref a_arg0_kindOf, .ref a_arg0_comesAt, .ref a_arg0_comers, .ref a_arg0_names, .ref a_arg0_code, .int x_arg0_size, .ref a_arg0_spans])), (a_arg0_spans, .inl (cy 0, 6, .inl g_arg0_spans)), (a_arg0_code, .inl (cy 0, 1600, .inl g_arg0_code))] H := hP
  have hD : va_D A [(a_this, .inr (7, [.ref a_this_machine, .ref a_arg0, .int x_this_day, .ref a_this_trusts, .int x_this_rule, .int x_this_green, .int x_this_absent, .int x_this_asksReds, .ref a_this_cars, .ref a_this_gaps, .ref a_this_known, .ref a_this_left, .ref a_this_leaves, .int x_this_pressed, .int x_this_crossed, .int x_this_went, .int x_this_harmed])), (a_arg0, .inr (4, [.int x_arg0_cycle, .int x_arg0_green, .int x_arg0_rule, .int x_arg0_least, .int x_arg0_away, .int x_arg0_statements, .int x_arg0_kinds, .ref a_arg0_calm, .ref a_arg0_pace, .ref a_arg0_trusts, .int x_arg0_walkers, .ref a_arg0_kindOf, .ref a_arg0_comesAt, .ref a_arg0_comers, .ref a_arg0_names, .ref a_arg0_code, .int x_arg0_size, .ref a_arg0_spans])), (a_arg0_spans, .inl (cy 0, 6, .inl g_arg0_spans)), (a_arg0_code, .inl (cy 0, 1600, .inl g_arg0_code))] := hD
  have h43295 := hw
  refine k_put C0 fp_X7_28 hP hD hS 0 rfl (ib_bool (ib_w 0 1 h43295 (by decide))) (ib_boolf (ib_w 0 1 h43295 (by decide))) (Nat.le_of_ble_eq_true rfl) dX7_take_13 (fun H locs hP hD hS => ?_)
  have hP : va_P (dC, dI) vwCl [(a_this, .inr (7, [.ref a_this_machine, .ref a_arg0, .int x_this_day, .ref a_this_trusts, .int x_this_rule, .int x_this_green, .int x_this_absent, .int r43293, .ref a_this_cars, .ref a_this_gaps, .ref a_this_known, .ref a_this_left, .ref a_this_leaves, .int x_this_pressed, .int x_this_crossed, .int x_this_went, .int x_this_harmed])), (a_arg0, .inr (4, [.int x_arg0_cycle, .int x_arg0_green, .int x_arg0_rule, .int x_arg0_least, .int x_arg0_away, .int x_arg0_statements, .int x_arg0_kinds, .ref a_arg0_calm, .ref a_arg0_pace, .ref a_arg0_trusts, .int x_arg0_walkers, .ref a_arg0_kindOf, .ref a_arg0_comesAt, .ref a_arg0_comers, .ref a_arg0_names, .ref a_arg0_code, .int x_arg0_size, .ref a_arg0_spans])), (a_arg0_spans, .inl (cy 0, 6, .inl g_arg0_spans)), (a_arg0_code, .inl (cy 0, 1600, .inl g_arg0_code))] H := hP
  have hD : va_D A [(a_this, .inr (7, [.ref a_this_machine, .ref a_arg0, .int x_this_day, .ref a_this_trusts, .int x_this_rule, .int x_this_green, .int x_this_absent, .int r43293, .ref a_this_cars, .ref a_this_gaps, .ref a_this_known, .ref a_this_left, .ref a_this_leaves, .int x_this_pressed, .int x_this_crossed, .int x_this_went, .int x_this_harmed])), (a_arg0, .inr (4, [.int x_arg0_cycle, .int x_arg0_green, .int x_arg0_rule, .int x_arg0_least, .int x_arg0_away, .int x_arg0_statements, .int x_arg0_kinds, .ref a_arg0_calm, .ref a_arg0_pace, .ref a_arg0_trusts, .int x_arg0_walkers, .ref a_arg0_kindOf, .ref a_arg0_comesAt, .ref a_arg0_comers, .ref a_arg0_names, .ref a_arg0_code, .int x_arg0_size, .ref a_arg0_spans])), (a_arg0_spans, .inl (cy 0, 6, .inl g_arg0_spans)), (a_arg0_code, .inl (cy 0, 1600, .inl g_arg0_code))] := hD
  refine lv_aload_n hx hb dX7_take_16 rfl (lv_at hl 0 rfl) ?_
  refine lv_iconst (v := (-1)) hx hb dX7_take_17 (by decide) ?_
  refine k_put C0 fp_X7_9 hP hD hS 0 rfl rfl rfl (Nat.le_of_ble_eq_true rfl) dX7_take_18 (fun H locs hP hD hS => ?_)
  have hP : va_P (dC, dI) vwCl [(a_this, .inr (7, [.ref a_this_machine, .ref a_arg0, .int (-1), .ref a_this_trusts, .int x_this_rule, .int x_this_green, .int x_this_absent, .int r43293, .ref a_this_cars, .ref a_this_gaps, .ref a_this_known, .ref a_this_left, .ref a_this_leaves, .int x_this_pressed, .int x_this_crossed, .int x_this_went, .int x_this_harmed])), (a_arg0, .inr (4, [.int x_arg0_cycle, .int x_arg0_green, .int x_arg0_rule, .int x_arg0_least, .int x_arg0_away, .int x_arg0_statements, .int x_arg0_kinds, .ref a_arg0_calm, .ref a_arg0_pace, .ref a_arg0_trusts, .int x_arg0_walkers, .ref a_arg0_kindOf, .ref a_arg0_comesAt, .ref a_arg0_comers, .ref a_arg0_names, .ref a_arg0_code, .int x_arg0_size, .ref a_arg0_spans])), (a_arg0_spans, .inl (cy 0, 6, .inl g_arg0_spans)), (a_arg0_code, .inl (cy 0, 1600, .inl g_arg0_code))] H := hP
  have hD : va_D A [(a_this, .inr (7, [.ref a_this_machine, .ref a_arg0, .int (-1), .ref a_this_trusts, .int x_this_rule, .int x_this_green, .int x_this_absent, .int r43293, .ref a_this_cars, .ref a_this_gaps, .ref a_this_known, .ref a_this_left, .ref a_this_leaves, .int x_this_pressed, .int x_this_crossed, .int x_this_went, .int x_this_harmed])), (a_arg0, .inr (4, [.int x_arg0_cycle, .int x_arg0_green, .int x_arg0_rule, .int x_arg0_least, .int x_arg0_away, .int x_arg0_statements, .int x_arg0_kinds, .ref a_arg0_calm, .ref a_arg0_pace, .ref a_arg0_trusts, .int x_arg0_walkers, .ref a_arg0_kindOf, .ref a_arg0_comesAt, .ref a_arg0_comers, .ref a_arg0_names, .ref a_arg0_code, .int x_arg0_size, .ref a_arg0_spans])), (a_arg0_spans, .inl (cy 0, 6, .inl g_arg0_spans)), (a_arg0_code, .inl (cy 0, 1600, .inl g_arg0_code))] := hD
  subst hQ; exact k_vret hx hb hr hlk ((a_arg0, (-1), r43293)) hS ⟨ib_w (-1) (-1) (ib_c (-1) (-1) (-1) (by decide)) (by decide), ib_w 0 1 h43295 (by decide)⟩ hP hD (Nat.le_of_ble_eq_true rfl) (Nat.le_of_ble_eq_true rfl) dX7_take_21
set_option maxHeartbeats 4000000 in
set_option maxRecDepth 100000 in
theorem s_X7_walkers (l : Launch) (dC : Nat → ClassId) (dI : Nat → Nat → Nat) (cy : Nat → ClassId) (sq : Nat → Nat) (a_this : Nat) (a_this_machine : Nat) (a_this_plan : Nat) (x_this_plan_cycle : Int32) (x_this_plan_green : Int32) (x_this_plan_rule : Int32) (x_this_plan_least : Int32) (x_this_plan_away : Int32) (x_this_plan_statements : Int32) (x_this_plan_kinds : Int32) (a_this_plan_calm : Nat) (a_this_plan_pace : Nat) (a_this_plan_trusts : Nat) (x_this_plan_walkers : Int32) (a_this_plan_kindOf : Nat) (a_this_plan_comesAt : Nat) (a_this_plan_comers : Nat) (a_this_plan_names : Nat) (a_this_plan_code : Nat) (x_this_plan_size : Int32) (a_this_plan_spans : Nat) (x_this_day : Int32) (a_this_trusts : Nat) (x_this_rule : Int32) (x_this_green : Int32) (x_this_absent : Int32) (x_this_asksReds : Int32) (a_this_cars : Nat) (a_this_gaps : Nat) (a_this_known : Nat) (a_this_left : Nat) (a_this_leaves : Nat) (x_this_pressed : Int32) (x_this_crossed : Int32) (x_this_went : Int32) (x_this_harmed : Int32) (hx_this_plan_cycle : ib x_this_plan_cycle 0 120) (hx_this_plan_least : ib x_this_plan_least 0 99) (hx_this_plan_statements : ib x_this_plan_statements 0 81) (hx_this_plan_kinds : ib x_this_plan_kinds 0 6) (hx_this_plan_walkers : ib x_this_plan_walkers 0 12) (hx_this_plan_size : ib x_this_plan_size 0 1600) (hx_this_asksReds : ib x_this_asksReds 0 1) : k_Met l yX7_walkers cX7_walkers 1 (some .int) { frames := 0, cells := 0, slots := 0, locals := 0 } dC dI cy sq [.ref a_this] [(a_this, .inr (7, [.ref a_this_machine, .ref a_this_plan, .int x_this_day, .ref a_this_trusts, .int x_this_rule, .int x_this_green, .int x_this_absent, .int x_this_asksReds, .ref a_this_cars, .ref a_this_gaps, .ref a_this_known, .ref a_this_left, .ref a_this_leaves, .int x_this_pressed, .int x_this_crossed, .int x_this_went, .int x_this_harmed])), (a_this_plan, .inr (4, [.int x_this_plan_cycle, .int x_this_plan_green, .int x_this_plan_rule, .int x_this_plan_least, .int x_this_plan_away, .int x_this_plan_statements, .int x_this_plan_kinds, .ref a_this_plan_calm, .ref a_this_plan_pace, .ref a_this_plan_trusts, .int x_this_plan_walkers, .ref a_this_plan_kindOf, .ref a_this_plan_comesAt, .ref a_this_plan_comers, .ref a_this_plan_names, .ref a_this_plan_code, .int x_this_plan_size, .ref a_this_plan_spans]))] (k_Qi dC dI (fun (r : Int32) (_ : Unit) => ib r 0 12) (fun _ : Unit => [(a_this, .inr (7, [.ref a_this_machine, .ref a_this_plan, .int x_this_day, .ref a_this_trusts, .int x_this_rule, .int x_this_green, .int x_this_absent, .int x_this_asksReds, .ref a_this_cars, .ref a_this_gaps, .ref a_this_known, .ref a_this_left, .ref a_this_leaves, .int x_this_pressed, .int x_this_crossed, .int x_this_went, .int x_this_harmed])), (a_this_plan, .inr (4, [.int x_this_plan_cycle, .int x_this_plan_green, .int x_this_plan_rule, .int x_this_plan_least, .int x_this_plan_away, .int x_this_plan_statements, .int x_this_plan_kinds, .ref a_this_plan_calm, .ref a_this_plan_pace, .ref a_this_plan_trusts, .int x_this_plan_walkers, .ref a_this_plan_kindOf, .ref a_this_plan_comesAt, .ref a_this_plan_comers, .ref a_this_plan_names, .ref a_this_plan_code, .int x_this_plan_size, .ref a_this_plan_spans]))])) := by
  refine k_ofW2 (by decide +kernel) (Nat.le_of_ble_eq_true rfl) ?_
  intro p e s m below meth c A ls H locs args Q hQ C0 hr hlk hin hP hD hA hS hl
  have C0 : k_cx p s m args c cX7_walkers 1 RX7 dC dI cy sq := C0
  have hx := C0.1
  have hb := C0.2.1
  have hl : lv_has ls 1 [(0, .ref a_this)] := hl
  refine lv_aload_n hx hb dX7_walkers_0 rfl (lv_at hl 0 rfl) ?_
  refine k_get C0 fg_X7_63 hP 0 rfl rfl dX7_walkers_1 ?_
  refine k_get C0 fg_X7_137 hP 1 rfl rfl dX7_walkers_4 ?_
  subst hQ; exact k_iret hx hb hr hlk rfl () hS (ib_w 0 12 hx_this_plan_walkers (by decide)) hP hD (Nat.le_of_ble_eq_true rfl) (Nat.le_of_ble_eq_true rfl) dX7_walkers_7
set_option maxHeartbeats 4000000 in
set_option maxRecDepth 100000 in
theorem s_X8_accepts (l : Launch) (dC : Nat → ClassId) (dI : Nat → Nat → Nat) (cy : Nat → ClassId) (sq : Nat → Nat) (a_this : Nat) (a_this_street : Nat) (a_this_seenWalker : Nat) (a_this_seenSecond : Nat) (x_this_rows : Int32) (x_this_compared : Int32) (a_this_seconds : Nat) (x_this_found : Int32) (x_this_foundRules : Int32) (x_this_foundGreen : Int32) (x_this_chosen : Int32) (x_this_chosenLeft : Int32) (a_arg0 : Nat) (g_arg0 : Nat → Int32) (p1 : Int32) (p2 : Int32) (hx_this_rows : ib x_this_rows 0 16) (hx_this_compared : ib x_this_compared 0 1) (hx_this_found : ib x_this_found 0 60) (hg_arg0 : ia g_arg0 1600 0 255) : k_Met l yX8_accepts cX8_accepts 6 (some .boolean) { frames := 0, cells := 0, slots := 0, locals := 0 } dC dI cy sq [.ref a_this, .ref a_arg0, .int p1, .int p2] [(a_this, .inr (8, [.ref a_this_street, .ref a_this_seenWalker, .ref a_this_seenSecond, .int x_this_rows, .int x_this_compared, .ref a_this_seconds, .int x_this_found, .int x_this_foundRules, .int x_this_foundGreen, .int x_this_chosen, .int x_this_chosenLeft])), (a_arg0, .inl (cy 0, 1600, .inl g_arg0))] (k_Qi dC dI (fun (r : Int32) (_ : Unit) => ib r 0 1 ∧ (¬ r = 0 → ib p1 3 48)) (fun _ : Unit => [(a_this, .inr (8, [.ref a_this_street, .ref a_this_seenWalker, .ref a_this_seenSecond, .int x_this_rows, .int x_this_compared, .ref a_this_seconds, .int x_this_found, .int x_this_foundRules, .int x_this_foundGreen, .int x_this_chosen, .int x_this_chosenLeft])), (a_arg0, .inl (cy 0, 1600, .inl g_arg0))])) := by
  refine k_ofW2 (by decide +kernel) (Nat.le_of_ble_eq_true rfl) ?_
  intro p e s m below meth c A ls H locs args Q hQ C0 hr hlk hin hP hD hA hS hl
  have C0 : k_cx p s m args c cX8_accepts 6 RX8 dC dI cy sq := C0
  have hx := C0.1
  have hb := C0.2.1
  have hl : lv_has ls 6 [(0, .ref a_this), (1, .ref a_arg0), (2, .int p1), (3, .int p2)] := hl
  have jn22 : ∀ (n : Nat) (J22_l4 : Int32) (H : Heap) (locs : List Loc) (ls : Array Slot), ib p1 3 48 → ib J22_l4 0 50 → 51 ≤ J22_l4.toInt + (n : Int) → va_P (dC, dI) vwCl [(a_this, .inr (8, [.ref a_this_street, .ref a_this_seenWalker, .ref a_this_seenSecond, .int x_this_rows, .int x_this_compared, .ref a_this_seconds, .int x_this_found, .int x_this_foundRules, .int x_this_foundGreen, .int x_this_chosen, .int x_this_chosenLeft])), (a_arg0, .inl (cy 0, 1600, .inl g_arg0))] H → va_D A [(a_this, .inr (8, [.ref a_this_street, .ref a_this_seenWalker, .ref a_this_seenSecond, .int x_this_rows, .int x_this_compared, .ref a_this_seconds, .int x_this_found, .int x_this_foundRules, .int x_this_foundGreen, .int x_this_chosen, .int x_this_chosenLeft])), (a_arg0, .inl (cy 0, 1600, .inl g_arg0))] → va_S A s.heap H locs → lv_has ls 6 [(0, .ref a_this), (1, .ref a_arg0), (2, .int p1), (3, .int p2), (4, .int J22_l4)] → W p l e { frames := 0, cells := 0, slots := 0, locals := 0 } s m args below meth c H locs 0 0 Q (F0 m 22 ls []) := by
    intro n
    induction n with
    | zero =>
      intro J22_l4 H locs ls hJ22_l2 hJ22_l4 hm
      exact absurd hm (by have := hJ22_l4; unfold ib at this; omega)
    | succ n ih =>
      intro J22_l4 H locs ls hJ22_l2 hJ22_l4 hm22 hP hD hS hl
      have ih22 := ih
      refine lv_iload hx hb dX8_accepts_22 (lv_at hl 4 rfl) ?_
      refine lv_iload_n hx hb dX8_accepts_24 rfl (lv_at hl 2 rfl) ?_
      refine lv_icmp_ge (tgt := 78) hx hb dX8_accepts_25 (by decide) (fun c46565 => ?_) (fun c46565 => ?_)
      · have h46566 := ib_le hJ22_l2 hJ22_l4 c46565
        have h46567 : ib J22_l4 3 50 := ib_w 3 50 h46566.2 (by decide)
        refine lv_iconst (v := 1) hx hb dX8_accepts_78 (by decide) ?_
        subst hQ; exact k_iret hx hb hr hlk (k_nb 1 (by decide)) () hS ⟨ib_w 0 1 (ib_c 1 1 1 (by decide)) (by decide), fun _ => ib_w 3 48 hJ22_l2 (by decide)⟩ hP hD (Nat.le_of_ble_eq_true rfl) (Nat.le_of_ble_eq_true rfl) dX8_accepts_79
      · have h46568 := ib_nle hJ22_l2 hJ22_l4 c46565
        have h46569 : ib J22_l4 0 47 := ib_w 0 47 h46568.2 (by decide)
        refine lv_aload_n hx hb dX8_accepts_28 rfl (lv_at hl 1 rfl) ?_
        refine lv_iload hx hb dX8_accepts_29 (lv_at hl 4 rfl) ?_
        refine lv_iconst (v := 1) hx hb dX8_accepts_31 (by decide) ?_
        refine lv_iadd hx hb dX8_accepts_32 ?_
        refine lv_topi (fun z46570 ez46570 => ?_)
        have h46571 := ib_add h46569 (ib_c 1 1 1 (by decide)) (by decide)
        rw [← ez46570] at h46571
        have h46572 : ib z46570 1 48 := ib_w 1 48 h46571.1 (by decide)
        refine va_iald hx hb C0.2.2.2.2.2.1 hP 1 0 rfl rfl (ib_in 1600 h46572 (by decide)) dX8_accepts_33 ?_
        refine lv_topi (fun z46573 ez46573 => ?_)
        have h46574 : ib z46573 0 255 := by rw [ez46573]; exact ia_at hg_arg0 (ib_in 1600 h46572 (by decide))
        refine lv_sipush (v := 256) hx hb dX8_accepts_34 (by decide) ?_
        refine lv_imul hx hb dX8_accepts_37 ?_
        refine lv_topi (fun z46575 ez46575 => ?_)
        have h46576 := ib_mul h46574 (ib_c 256 256 256 (by decide)) (by decide)
        rw [← ez46575] at h46576
        have h46577 : ib z46575 0 65280 := ib_w 0 65280 h46576.1 (by decide)
        refine lv_aload_n hx hb dX8_accepts_38 rfl (lv_at hl 1 rfl) ?_
        refine lv_iload hx hb dX8_accepts_39 (lv_at hl 4 rfl) ?_
        refine lv_iconst (v := 2) hx hb dX8_accepts_41 (by decide) ?_
        refine lv_iadd hx hb dX8_accepts_42 ?_
        refine lv_topi (fun z46578 ez46578 => ?_)
        have h46579 := ib_add h46569 (ib_c 2 2 2 (by decide)) (by decide)
        rw [← ez46578] at h46579
        have h46580 : ib z46578 2 49 := ib_w 2 49 h46579.1 (by decide)
        refine va_iald hx hb C0.2.2.2.2.2.1 hP 1 0 rfl rfl (ib_in 1600 h46580 (by decide)) dX8_accepts_43 ?_
        refine lv_topi (fun z46581 ez46581 => ?_)
        have h46582 : ib z46581 0 255 := by rw [ez46581]; exact ia_at hg_arg0 (ib_in 1600 h46580 (by decide))
        refine lv_iadd hx hb dX8_accepts_44 ?_
        refine lv_topi (fun z46583 ez46583 => ?_)
        have h46584 := ib_add h46577 h46582 (by decide)
        rw [← ez46583] at h46584
        have h46585 : ib z46583 0 65535 := ib_w 0 65535 h46584.1 (by decide)
        refine lv_istore (lv' := [(5, .int z46583), (0, .ref a_this), (1, .ref a_arg0), (2, .int p1), (3, .int p2), (4, .int J22_l4)]) hx hb dX8_accepts_45 hl (by decide) rfl (fun ls hl => ?_)
        refine lv_aload_n hx hb dX8_accepts_47 rfl (lv_at hl 2 rfl) ?_
        refine lv_iload hx hb dX8_accepts_48 (lv_at hl 5 rfl) ?_
        refine va_iald hx hb C0.2.2.2.2.2.1 hP 1 0 rfl rfl (ib_in 1600 h46569 (by decide)) dX8_accepts_50 ?_
        refine lv_topi (fun z46586 ez46586 => ?_)
        have h46587 : ib z46586 0 255 := by rw [ez46586]; exact ia_at hg_arg0 (ib_in 1600 h46569 (by decide))
        refine lv_iload_n hx hb dX8_accepts_51 rfl (lv_at hl 4 rfl) ?_
        refine lv_icmp_ge (tgt := 70) hx hb dX8_accepts_52 (by decide) (fun c46588 => ?_) (fun c46588 => ?_)
        · have h46589 := ib_le (ib_any p2) h46587 c46588
          have h46590 : ib p2 (-2147483648) 255 := ib_w (-2147483648) 255 h46589.1 (by decide)
          refine lv_iconst (v := 0) hx hb dX8_accepts_70 (by decide) ?_
          subst hQ; exact k_iret hx hb hr hlk (k_nb 0 (by decide)) () hS ⟨ib_w 0 1 (ib_c 0 0 0 (by decide)) (by decide), fun h9 => absurd rfl h9⟩ hP hD (Nat.le_of_ble_eq_true rfl) (Nat.le_of_ble_eq_true rfl) dX8_accepts_71
        · have h46591 := ib_nle (ib_any p2) h46587 c46588
          have h46592 : ib p2 1 2147483647 := ib_w 1 2147483647 h46591.1 (by decide)
          refine lv_iload hx hb dX8_accepts_55 (lv_at hl 0 rfl) ?_
          refine lv_sipush (v := 300) hx hb dX8_accepts_57 (by decide) ?_
          refine lv_icmp_lt (tgt := 72) hx hb dX8_accepts_60 (by decide) (fun c46593 => ?_) (fun c46593 => ?_)
          · have h46594 := ib_lt h46585 (ib_c 300 300 300 (by decide)) c46593
            have h46595 : ib z46583 0 299 := ib_w 0 299 h46594.1 (by decide)
            obtain ⟨z46596, ez46596⟩ : ∃ y : Int32, y = J22_l4 + 3 := ⟨_, rfl⟩
            refine lv_iinc (v := z46596) (lv' := [(4, .int z46596), (5, .int z46583), (0, .ref a_this), (1, .ref a_arg0), (2, .int p1), (3, .int p2)]) hx hb dX8_accepts_72 hl (k := 5) rfl (by rw [ez46596]; rfl) (by decide) rfl (fun ls hl => ?_)
            have h46597 := ib_add h46569 (ib_c 3 3 3 (by decide)) (by decide)
            rw [← ez46596] at h46597
            have h46598 : ib z46596 3 50 := ib_w 3 50 h46597.1 (by decide)
            refine lv_goto (tgt := 22) hx hb dX8_accepts_75 (by decide) ?_
            exact ih22 z46596 H locs ls (ib_w 3 48 hJ22_l2 (by decide)) (ib_w 0 50 h46598 (by decide)) (by have := h46597.2; have : (3 : Int32).toInt = 3 := (by decide); omega) hP hD hS (lv_sub hl [2, 3, 4, 5, 0] rfl)
          · have h46599 := ib_nlt h46585 (ib_c 300 300 300 (by decide)) c46593
            have h46600 : ib z46583 300 65535 := ib_w 300 65535 h46599.1 (by decide)
            refine lv_iload hx hb dX8_accepts_63 (lv_at hl 0 rfl) ?_
            refine lv_ldc hx hb C0.2.2.2.1 (C0.2.2.2.2.1 _ wd1197) dX8_accepts_65 ?_
            refine lv_icmp_eq (tgt := 72) hx hb dX8_accepts_67 (by decide) (fun c46601 => ?_) (fun c46601 => ?_)
            · have h46602 := ib_eq h46600 (ib_c 65535 65535 65535 (by decide)) c46601
              have h46603 : ib z46583 65535 65535 := ib_w 65535 65535 h46602.1 (by decide)
              obtain ⟨z46604, ez46604⟩ : ∃ y : Int32, y = J22_l4 + 3 := ⟨_, rfl⟩
              refine lv_iinc (v := z46604) (lv' := [(4, .int z46604), (5, .int z46583), (0, .ref a_this), (1, .ref a_arg0), (2, .int p1), (3, .int p2)]) hx hb dX8_accepts_72 hl (k := 5) rfl (by rw [ez46604]; rfl) (by decide) rfl (fun ls hl => ?_)
              have h46605 := ib_add h46569 (ib_c 3 3 3 (by decide)) (by decide)
              rw [← ez46604] at h46605
              have h46606 : ib z46604 3 50 := ib_w 3 50 h46605.1 (by decide)
              refine lv_goto (tgt := 22) hx hb dX8_accepts_75 (by decide) ?_
              exact ih22 z46604 H locs ls (ib_w 3 48 hJ22_l2 (by decide)) (ib_w 0 50 h46606 (by decide)) (by have := h46605.2; have : (3 : Int32).toInt = 3 := (by decide); omega) hP hD hS (lv_sub hl [2, 3, 4, 5, 0] rfl)
            · have h46607 : ib z46583 300 65534 := ib_w 300 65534 (ib_ne_hi 65535 h46600 (by decide) c46601) (by decide)
              refine lv_iconst (v := 0) hx hb dX8_accepts_70 (by decide) ?_
              subst hQ; exact k_iret hx hb hr hlk (k_nb 0 (by decide)) () hS ⟨ib_w 0 1 (ib_c 0 0 0 (by decide)) (by decide), fun h9 => absurd rfl h9⟩ hP hD (Nat.le_of_ble_eq_true rfl) (Nat.le_of_ble_eq_true rfl) dX8_accepts_71
  refine lv_iload_n hx hb dX8_accepts_0 rfl (lv_at hl 2 rfl) ?_
  refine lv_iconst (v := 3) hx hb dX8_accepts_1 (by decide) ?_
  refine lv_icmp_lt (tgt := 17) hx hb dX8_accepts_2 (by decide) (fun c46608 => ?_) (fun c46608 => ?_)
  · have h46609 := ib_lt (ib_any p1) (ib_c 3 3 3 (by decide)) c46608
    have h46610 : ib p1 (-2147483648) 2 := ib_w (-2147483648) 2 h46609.1 (by decide)
    refine lv_iconst (v := 0) hx hb dX8_accepts_17 (by decide) ?_
    subst hQ; exact k_iret hx hb hr hlk (k_nb 0 (by decide)) () hS ⟨ib_w 0 1 (ib_c 0 0 0 (by decide)) (by decide), fun h9 => absurd rfl h9⟩ hP hD (Nat.le_of_ble_eq_true rfl) (Nat.le_of_ble_eq_true rfl) dX8_accepts_18
  · have h46611 := ib_nlt (ib_any p1) (ib_c 3 3 3 (by decide)) c46608
    have h46612 : ib p1 3 2147483647 := ib_w 3 2147483647 h46611.1 (by decide)
    refine lv_iload_n hx hb dX8_accepts_5 rfl (lv_at hl 2 rfl) ?_
    refine lv_bipush (v := 48) hx hb dX8_accepts_6 (by decide) ?_
    refine lv_icmp_gt (tgt := 17) hx hb dX8_accepts_8 (by decide) (fun c46613 => ?_) (fun c46613 => ?_)
    · have h46614 := ib_lt (ib_c 48 48 48 (by decide)) h46612 c46613
      have h46615 : ib p1 49 2147483647 := ib_w 49 2147483647 h46614.2 (by decide)
      refine lv_iconst (v := 0) hx hb dX8_accepts_17 (by decide) ?_
      subst hQ; exact k_iret hx hb hr hlk (k_nb 0 (by decide)) () hS ⟨ib_w 0 1 (ib_c 0 0 0 (by decide)) (by decide), fun h9 => absurd rfl h9⟩ hP hD (Nat.le_of_ble_eq_true rfl) (Nat.le_of_ble_eq_true rfl) dX8_accepts_18
    · have h46616 := ib_nlt (ib_c 48 48 48 (by decide)) h46612 c46613
      have h46617 : ib p1 3 48 := ib_w 3 48 h46616.2 (by decide)
      refine lv_iload_n hx hb dX8_accepts_11 rfl (lv_at hl 2 rfl) ?_
      refine lv_iconst (v := 3) hx hb dX8_accepts_12 (by decide) ?_
      refine lv_irem hx hb dX8_accepts_13 (by decide) ?_
      refine lv_topi (fun z46618 ez46618 => ?_)
      have h46619 : ib z46618 0 2 := by rw [ez46618]; exact ib_w 0 2 (ib_rem h46617 (ib_c 3 3 3 (by decide)) (by decide)) (by decide)
      refine lv_if_eq (tgt := 19) hx hb dX8_accepts_14 (by decide) (fun c46620 => ?_) (fun c46620 => ?_)
      · have h46621 := ib_eq h46619 (ib_c 0 0 0 (by decide)) c46620
        have h46622 : ib z46618 0 0 := ib_w 0 0 h46621.1 (by decide)
        refine lv_iconst (v := 0) hx hb dX8_accepts_19 (by decide) ?_
        refine lv_istore (lv' := [(4, .int 0), (0, .ref a_this), (1, .ref a_arg0), (2, .int p1), (3, .int p2)]) hx hb dX8_accepts_20 hl (by decide) rfl (fun ls hl => ?_)
        exact jn22 52 0 H locs ls (ib_w 3 48 h46617 (by decide)) (ib_w 0 50 (ib_c 0 0 0 (by decide)) (by decide)) (by have := (ib_c 0 0 0 (by decide)); unfold ib at this; omega) hP hD hS (lv_sub hl [1, 2, 3, 4, 0] rfl)
      · have h46623 : ib z46618 1 2 := ib_w 1 2 (ib_ne_lo 0 h46619 (by decide) c46620) (by decide)
        refine lv_iconst (v := 0) hx hb dX8_accepts_17 (by decide) ?_
        subst hQ; exact k_iret hx hb hr hlk (k_nb 0 (by decide)) () hS ⟨ib_w 0 1 (ib_c 0 0 0 (by decide)) (by decide), fun h9 => absurd rfl h9⟩ hP hD (Nat.le_of_ble_eq_true rfl) (Nat.le_of_ble_eq_true rfl) dX8_accepts_18
set_option maxHeartbeats 4000000 in
set_option maxRecDepth 100000 in
theorem s_X8_clear (l : Launch) (dC : Nat → ClassId) (dI : Nat → Nat → Nat) (cy : Nat → ClassId) (sq : Nat → Nat) (a_this : Nat) (a_this_street : Nat) (a_this_seenWalker : Nat) (a_this_seenSecond : Nat) (x_this_rows : Int32) (x_this_compared : Int32) (a_this_seconds : Nat) (x_this_found : Int32) (x_this_foundRules : Int32) (x_this_foundGreen : Int32) (x_this_chosen : Int32) (x_this_chosenLeft : Int32) (hx_this_rows : ib x_this_rows 0 16) (hx_this_compared : ib x_this_compared 0 1) (hx_this_found : ib x_this_found 0 60) : k_Met l yX8_clear cX8_clear 1 none { frames := 0, cells := 0, slots := 0, locals := 0 } dC dI cy sq [.ref a_this] [(a_this, .inr (8, [.ref a_this_street, .ref a_this_seenWalker, .ref a_this_seenSecond, .int x_this_rows, .int x_this_compared, .ref a_this_seconds, .int x_this_found, .int x_this_foundRules, .int x_this_foundGreen, .int x_this_chosen, .int x_this_chosenLeft]))] (k_Qv dC dI (fun (n0 : Int32) => ib n0 0 16) (fun n0 : Int32 => [(a_this, .inr (8, [.ref a_this_street, .ref a_this_seenWalker, .ref a_this_seenSecond, .int n0, .int x_this_compared, .ref a_this_seconds, .int x_this_found, .int x_this_foundRules, .int x_this_foundGreen, .int x_this_chosen, .int x_this_chosenLeft]))])) := by
  refine k_ofW2 (by decide +kernel) (Nat.le_of_ble_eq_true rfl) ?_
  intro p e s m below meth c A ls H locs args Q hQ C0 hr hlk hin hP hD hA hS hl
  have C0 : k_cx p s m args c cX8_clear 1 RX8 dC dI cy sq := C0
  have hx := C0.1
  have hb := C0.2.1
  have hl : lv_has ls 1 [(0, .ref a_this)] := hl
  refine lv_aload_n hx hb dX8_clear_0 rfl (lv_at hl 0 rfl) ?_
  refine lv_iconst (v := 0) hx hb dX8_clear_1 (by decide) ?_
  refine k_put C0 fp_X8_18 hP hD hS 0 rfl rfl rfl (Nat.le_of_ble_eq_true rfl) dX8_clear_2 (fun H locs hP hD hS => ?_)
  have hP : va_P (dC, dI) vwCl [(a_this, .inr (8, [.ref a_this_street, .ref a_this_seenWalker, .ref a_this_seenSecond, .int 0, .int x_this_compared, .ref a_this_seconds, .int x_this_found, .int x_this_foundRules, .int x_this_foundGreen, .int x_this_chosen, .int x_this_chosenLeft]))] H := hP
  have hD : va_D A [(a_this, .inr (8, [.ref a_this_street, .ref a_this_seenWalker, .ref a_this_seenSecond, .int 0, .int x_this_compared, .ref a_this_seconds, .int x_this_found, .int x_this_foundRules, .int x_this_foundGreen, .int x_this_chosen, .int x_this_chosenLeft]))] := hD
  subst hQ; exact k_vret hx hb hr hlk 0 hS (ib_w 0 16 (ib_c 0 0 0 (by decide)) (by decide)) hP hD (Nat.le_of_ble_eq_true rfl) (Nat.le_of_ble_eq_true rfl) dX8_clear_5
set_option maxHeartbeats 4000000 in
set_option maxRecDepth 100000 in
theorem s_X8_forget (l : Launch) (dC : Nat → ClassId) (dI : Nat → Nat → Nat) (cy : Nat → ClassId) (sq : Nat → Nat) (a_this : Nat) (a_this_street : Nat) (a_this_seenWalker : Nat) (a_this_seenSecond : Nat) (x_this_rows : Int32) (x_this_compared : Int32) (a_this_seconds : Nat) (x_this_found : Int32) (x_this_foundRules : Int32) (x_this_foundGreen : Int32) (x_this_chosen : Int32) (x_this_chosenLeft : Int32) (hx_this_rows : ib x_this_rows 0 16) (hx_this_compared : ib x_this_compared 0 1) (hx_this_found : ib x_this_found 0 60) : k_Met l yX8_forget cX8_forget 1 none { frames := 0, cells := 0, slots := 0, locals := 0 } dC dI cy sq [.ref a_this] [(a_this, .inr (8, [.ref a_this_street, .ref a_this_seenWalker, .ref a_this_seenSecond, .int x_this_rows, .int x_this_compared, .ref a_this_seconds, .int x_this_found, .int x_this_foundRules, .int x_this_foundGreen, .int x_this_chosen, .int x_this_chosenLeft]))] (k_Qv dC dI (fun (n0 : Int32) => ib n0 0 1) (fun n0 : Int32 => [(a_this, .inr (8, [.ref a_this_street, .ref a_this_seenWalker, .ref a_this_seenSecond, .int x_this_rows, .int n0, .ref a_this_seconds, .int x_this_found, .int x_this_foundRules, .int x_this_foundGreen, .int x_this_chosen, .int x_this_chosenLeft]))])) := by
  refine k_ofW2 (by decide +kernel) (Nat.le_of_ble_eq_true rfl) ?_
  intro p e s m below meth c A ls H locs args Q hQ C0 hr hlk hin hP hD hA hS hl
  have C0 : k_cx p s m args c cX8_forget 1 RX8 dC dI cy sq := C0
  have hx := C0.1
  have hb := C0.2.1
  have hl : lv_has ls 1 [(0, .ref a_this)] := hl
  refine lv_aload_n hx hb dX8_forget_0 rfl (lv_at hl 0 rfl) ?_
  refine lv_iconst (v := 0) hx hb dX8_forget_1 (by decide) ?_
  refine k_put C0 fp_X8_22 hP hD hS 0 rfl (k_nb 0 (by decide)) (k_fb 0 (by decide)) (Nat.le_of_ble_eq_true rfl) dX8_forget_2 (fun H locs hP hD hS => ?_)
  have hP : va_P (dC, dI) vwCl [(a_this, .inr (8, [.ref a_this_street, .ref a_this_seenWalker, .ref a_this_seenSecond, .int x_this_rows, .int 0, .ref a_this_seconds, .int x_this_found, .int x_this_foundRules, .int x_this_foundGreen, .int x_this_chosen, .int x_this_chosenLeft]))] H := hP
  have hD : va_D A [(a_this, .inr (8, [.ref a_this_street, .ref a_this_seenWalker, .ref a_this_seenSecond, .int x_this_rows, .int 0, .ref a_this_seconds, .int x_this_found, .int x_this_foundRules, .int x_this_foundGreen, .int x_this_chosen, .int x_this_chosenLeft]))] := hD
  subst hQ; exact k_vret hx hb hr hlk 0 hS (ib_w 0 1 (ib_c 0 0 0 (by decide)) (by decide)) hP hD (Nat.le_of_ble_eq_true rfl) (Nat.le_of_ble_eq_true rfl) dX8_forget_5
set_option maxHeartbeats 4000000 in
set_option maxRecDepth 100000 in
theorem s_X8_isSo (l : Launch) (dC : Nat → ClassId) (dI : Nat → Nat → Nat) (cy : Nat → ClassId) (sq : Nat → Nat) (a_this : Nat) (a_this_street : Nat) (a_this_street_machine : Nat) (a_this_street_plan : Nat) (x_this_street_day : Int32) (a_this_street_trusts : Nat) (x_this_street_rule : Int32) (x_this_street_green : Int32) (x_this_street_absent : Int32) (x_this_street_asksReds : Int32) (a_this_street_cars : Nat) (a_this_street_gaps : Nat) (a_this_street_known : Nat) (a_this_street_left : Nat) (a_this_street_leaves : Nat) (g_this_street_leaves : Nat → Int32) (x_this_street_pressed : Int32) (x_this_street_crossed : Int32) (x_this_street_went : Int32) (x_this_street_harmed : Int32) (a_this_seenWalker : Nat) (g_this_seenWalker : Nat → Int32) (a_this_seenSecond : Nat) (g_this_seenSecond : Nat → Int32) (x_this_rows : Int32) (x_this_compared : Int32) (a_this_seconds : Nat) (x_this_found : Int32) (x_this_foundRules : Int32) (x_this_foundGreen : Int32) (x_this_chosen : Int32) (x_this_chosenLeft : Int32) (hx_this_street_asksReds : ib x_this_street_asksReds 0 1) (hg_this_seenWalker : ia g_this_seenWalker 16 0 11) (hx_this_rows : ib x_this_rows 0 16) (hx_this_compared : ib x_this_compared 0 1) (hx_this_found : ib x_this_found 0 60) : k_Met l yX8_isSo cX8_isSo 2 (some .boolean) { frames := 0, cells := 0, slots := 0, locals := 0 } dC dI cy sq [.ref a_this] [(a_this, .inr (8, [.ref a_this_street, .ref a_this_seenWalker, .ref a_this_seenSecond, .int x_this_rows, .int x_this_compared, .ref a_this_seconds, .int x_this_found, .int x_this_foundRules, .int x_this_foundGreen, .int x_this_chosen, .int x_this_chosenLeft])), (a_this_street, .inr (7, [.ref a_this_street_machine, .ref a_this_street_plan, .int x_this_street_day, .ref a_this_street_trusts, .int x_this_street_rule, .int x_this_street_green, .int x_this_street_absent, .int x_this_street_asksReds, .ref a_this_street_cars, .ref a_this_street_gaps, .ref a_this_street_known, .ref a_this_street_left, .ref a_this_street_leaves, .int x_this_street_pressed, .int x_this_street_crossed, .int x_this_street_went, .int x_this_street_harmed])), (a_this_seenWalker, .inl (cy 0, 16, .inl g_this_seenWalker)), (a_this_street_leaves, .inl (cy 0, 12, .inl g_this_street_leaves)), (a_this_seenSecond, .inl (cy 0, 16, .inl g_this_seenSecond))] (k_Qi dC dI (fun (r : Int32) (_ : Unit) => ib r 0 1) (fun _ : Unit => [(a_this, .inr (8, [.ref a_this_street, .ref a_this_seenWalker, .ref a_this_seenSecond, .int x_this_rows, .int x_this_compared, .ref a_this_seconds, .int x_this_found, .int x_this_foundRules, .int x_this_foundGreen, .int x_this_chosen, .int x_this_chosenLeft])), (a_this_street, .inr (7, [.ref a_this_street_machine, .ref a_this_street_plan, .int x_this_street_day, .ref a_this_street_trusts, .int x_this_street_rule, .int x_this_street_green, .int x_this_street_absent, .int x_this_street_asksReds, .ref a_this_street_cars, .ref a_this_street_gaps, .ref a_this_street_known, .ref a_this_street_left, .ref a_this_street_leaves, .int x_this_street_pressed, .int x_this_street_crossed, .int x_this_street_went, .int x_this_street_harmed])), (a_this_seenWalker, .inl (cy 0, 16, .inl g_this_seenWalker)), (a_this_street_leaves, .inl (cy 0, 12, .inl g_this_street_leaves)), (a_this_seenSecond, .inl (cy 0, 16, .inl g_this_seenSecond))])) := by
  refine k_ofW2 (by decide +kernel) (Nat.le_of_ble_eq_true rfl) ?_
  intro p e s m below meth c A ls H locs args Q hQ C0 hr hlk hin hP hD hA hS hl
  have C0 : k_cx p s m args c cX8_isSo 2 RX8 dC dI cy sq := C0
  have hx := C0.1
  have hb := C0.2.1
  have hl : lv_has ls 2 [(0, .ref a_this)] := hl
  have jn2 : ∀ (n : Nat) (J2_l1 : Int32) (H : Heap) (locs : List Loc) (ls : Array Slot), ib J2_l1 0 16 → 17 ≤ J2_l1.toInt + (n : Int) → va_P (dC, dI) vwCl [(a_this, .inr (8, [.ref a_this_street, .ref a_this_seenWalker, .ref a_this_seenSecond, .int x_this_rows, .int x_this_compared, .ref a_this_seconds, .int x_this_found, .int x_this_foundRules, .int x_this_foundGreen, .int x_this_chosen, .int x_this_chosenLeft])), (a_this_street, .inr (7, [.ref a_this_street_machine, .ref a_this_street_plan, .int x_this_street_day, .ref a_this_street_trusts, .int x_this_street_rule, .int x_this_street_green, .int x_this_street_absent, .int x_this_street_asksReds, .ref a_this_street_cars, .ref a_this_street_gaps, .ref a_this_street_known, .ref a_this_street_left, .ref a_this_street_leaves, .int x_this_street_pressed, .int x_this_street_crossed, .int x_this_street_went, .int x_this_street_harmed])), (a_this_seenWalker, .inl (cy 0, 16, .inl g_this_seenWalker)), (a_this_street_leaves, .inl (cy 0, 12, .inl g_this_street_leaves)), (a_this_seenSecond, .inl (cy 0, 16, .inl g_this_seenSecond))] H → va_D A [(a_this, .inr (8, [.ref a_this_street, .ref a_this_seenWalker, .ref a_this_seenSecond, .int x_this_rows, .int x_this_compared, .ref a_this_seconds, .int x_this_found, .int x_this_foundRules, .int x_this_foundGreen, .int x_this_chosen, .int x_this_chosenLeft])), (a_this_street, .inr (7, [.ref a_this_street_machine, .ref a_this_street_plan, .int x_this_street_day, .ref a_this_street_trusts, .int x_this_street_rule, .int x_this_street_green, .int x_this_street_absent, .int x_this_street_asksReds, .ref a_this_street_cars, .ref a_this_street_gaps, .ref a_this_street_known, .ref a_this_street_left, .ref a_this_street_leaves, .int x_this_street_pressed, .int x_this_street_crossed, .int x_this_street_went, .int x_this_street_harmed])), (a_this_seenWalker, .inl (cy 0, 16, .inl g_this_seenWalker)), (a_this_street_leaves, .inl (cy 0, 12, .inl g_this_street_leaves)), (a_this_seenSecond, .inl (cy 0, 16, .inl g_this_seenSecond))] → va_S A s.heap H locs → lv_has ls 2 [(0, .ref a_this), (1, .int J2_l1)] → W p l e { frames := 0, cells := 0, slots := 0, locals := 0 } s m args below meth c H locs 0 0 Q (F0 m 2 ls []) := by
    intro n
    induction n with
    | zero =>
      intro J2_l1 H locs ls hJ2_l1 hm
      exact absurd hm (by have := hJ2_l1; unfold ib at this; omega)
    | succ n ih =>
      intro J2_l1 H locs ls hJ2_l1 hm2 hP hD hS hl
      have ih2 := ih
      refine lv_iload_n hx hb dX8_isSo_2 rfl (lv_at hl 1 rfl) ?_
      refine lv_aload_n hx hb dX8_isSo_3 rfl (lv_at hl 0 rfl) ?_
      refine k_get C0 fg_X8_18 hP 0 rfl rfl dX8_isSo_4 ?_
      refine lv_icmp_ge (tgt := 41) hx hb dX8_isSo_7 (by decide) (fun c48978 => ?_) (fun c48978 => ?_)
      · have h48979 := ib_le hx_this_rows hJ2_l1 c48978
        refine lv_iconst (v := 1) hx hb dX8_isSo_41 (by decide) ?_
        subst hQ; exact k_iret hx hb hr hlk (k_nb 1 (by decide)) () hS (ib_w 0 1 (ib_c 1 1 1 (by decide)) (by decide)) hP hD (Nat.le_of_ble_eq_true rfl) (Nat.le_of_ble_eq_true rfl) dX8_isSo_42
      · have h48980 := ib_nle hx_this_rows hJ2_l1 c48978
        have h48981 : ib x_this_rows 1 16 := ib_w 1 16 h48980.1 (by decide)
        have h48982 : ib J2_l1 0 15 := ib_w 0 15 h48980.2 (by decide)
        refine lv_aload_n hx hb dX8_isSo_10 rfl (lv_at hl 0 rfl) ?_
        refine k_get C0 fg_X8_44 hP 0 rfl rfl dX8_isSo_11 ?_
        refine k_get C0 fg_X8_63 hP 1 rfl rfl dX8_isSo_14 ?_
        refine lv_aload_n hx hb dX8_isSo_17 rfl (lv_at hl 0 rfl) ?_
        refine k_get C0 fg_X8_9 hP 0 rfl rfl dX8_isSo_18 ?_
        refine lv_iload_n hx hb dX8_isSo_21 rfl (lv_at hl 1 rfl) ?_
        refine va_iald hx hb C0.2.2.2.2.2.1 hP 2 0 rfl rfl (ib_in 16 h48982 (by decide)) dX8_isSo_22 ?_
        refine lv_topi (fun z48983 ez48983 => ?_)
        have h48984 : ib z48983 0 11 := by rw [ez48983]; exact ia_at hg_this_seenWalker (ib_in 16 h48982 (by decide))
        refine va_iald hx hb C0.2.2.2.2.2.1 hP 3 0 rfl rfl (ib_in 12 h48984 (by decide)) dX8_isSo_23 ?_
        refine lv_topi (fun z48985 ez48985 => ?_)
        refine lv_aload_n hx hb dX8_isSo_24 rfl (lv_at hl 0 rfl) ?_
        refine k_get C0 fg_X8_15 hP 0 rfl rfl dX8_isSo_25 ?_
        refine lv_iload_n hx hb dX8_isSo_28 rfl (lv_at hl 1 rfl) ?_
        refine va_iald hx hb C0.2.2.2.2.2.1 hP 4 0 rfl rfl (ib_in 16 h48982 (by decide)) dX8_isSo_29 ?_
        refine lv_topi (fun z48986 ez48986 => ?_)
        refine lv_icmp_eq (tgt := 35) hx hb dX8_isSo_30 (by decide) (fun c48987 => ?_) (fun c48987 => ?_)
        · have h48988 := ib_eq (ib_any z48985) (ib_any z48986) c48987
          obtain ⟨z48989, ez48989⟩ : ∃ y : Int32, y = J2_l1 + 1 := ⟨_, rfl⟩
          refine lv_iinc (v := z48989) (lv' := [(1, .int z48989), (0, .ref a_this)]) hx hb dX8_isSo_35 hl (k := 1) rfl (by rw [ez48989]; rfl) (by decide) rfl (fun ls hl => ?_)
          have h48990 := ib_add h48982 (ib_c 1 1 1 (by decide)) (by decide)
          rw [← ez48989] at h48990
          have h48991 : ib z48989 1 16 := ib_w 1 16 h48990.1 (by decide)
          refine lv_goto (tgt := 2) hx hb dX8_isSo_38 (by decide) ?_
          exact ih2 z48989 H locs ls (ib_w 0 16 h48991 (by decide)) (by have := h48990.2; have : (1 : Int32).toInt = 1 := (by decide); omega) hP hD hS (lv_sub hl [1, 0] rfl)
        · skip
          refine lv_iconst (v := 0) hx hb dX8_isSo_33 (by decide) ?_
          subst hQ; exact k_iret hx hb hr hlk (k_nb 0 (by decide)) () hS (ib_w 0 1 (ib_c 0 0 0 (by decide)) (by decide)) hP hD (Nat.le_of_ble_eq_true rfl) (Nat.le_of_ble_eq_true rfl) dX8_isSo_34
  refine lv_iconst (v := 0) hx hb dX8_isSo_0 (by decide) ?_
  refine lv_istore_n (lv' := [(1, .int 0), (0, .ref a_this)]) hx hb dX8_isSo_1 rfl hl (by decide) rfl (fun ls hl => ?_)
  exact jn2 18 0 H locs ls (ib_w 0 16 (ib_c 0 0 0 (by decide)) (by decide)) (by have := (ib_c 0 0 0 (by decide)); unfold ib at this; omega) hP hD hS (lv_sub hl [1, 0] rfl)
set_option maxHeartbeats 4000000 in
set_option maxRecDepth 100000 in
theorem s_X9_takeTape (l : Launch) (dC : Nat → ClassId) (dI : Nat → Nat → Nat) (cy : Nat → ClassId) (sq : Nat → Nat) (a_this : Nat) (a_this_tape : Nat) (x_this_tapeSize : Int32) (a_this_plan : Nat) (a_this_spare : Nat) (a_this_now : Nat) (a_this_history : Nat) (a_this_machine : Nat) (a_this_reader : Nat) (a_this_street : Nat) (a_this_choice : Nat) (a_this_ahead : Nat) (a_this_watch : Nat) (a_this_octets : Nat) (x_this_octetCount : Int32) (a_this_refusals : Nat) (x_this_drawn : Int64) (hx_this_tapeSize : ib x_this_tapeSize 0 1600) (hx_this_octetCount : ib x_this_octetCount 0 11) : k_Met l yX9_takeTape cX9_takeTape 2 (some .int) { frames := 0, cells := 0, slots := 0, locals := 0 } dC dI cy sq [.ref a_this] [(a_this, .inr (9, [.ref a_this_tape, .int x_this_tapeSize, .ref a_this_plan, .ref a_this_spare, .ref a_this_now, .ref a_this_history, .ref a_this_machine, .ref a_this_reader, .ref a_this_street, .ref a_this_choice, .ref a_this_ahead, .ref a_this_watch, .ref a_this_octets, .int x_this_octetCount, .ref a_this_refusals, .long x_this_drawn]))] (k_Qi dC dI (fun (r : Int32) (n0 : Int32) => ib r 0 1600 ∧ ib n0 0 1600) (fun n0 : Int32 => [(a_this, .inr (9, [.ref a_this_tape, .int n0, .ref a_this_plan, .ref a_this_spare, .ref a_this_now, .ref a_this_history, .ref a_this_machine, .ref a_this_reader, .ref a_this_street, .ref a_this_choice, .ref a_this_ahead, .ref a_this_watch, .ref a_this_octets, .int x_this_octetCount, .ref a_this_refusals, .long x_this_drawn]))])) := by
  refine k_ofW2 (by decide +kernel) (Nat.le_of_ble_eq_true rfl) ?_
  intro p e s m below meth c A ls H locs args Q hQ C0 hr hlk hin hP hD hA hS hl
  have C0 : k_cx p s m args c cX9_takeTape 2 RX9 dC dI cy sq := C0
  have hx := C0.1
  have hb := C0.2.1
  have hl : lv_has ls 2 [(0, .ref a_this)] := hl
  refine lv_aload_n hx hb dX9_takeTape_0 rfl (lv_at hl 0 rfl) ?_
  refine k_get C0 fg_X9_13 hP 0 rfl rfl dX9_takeTape_1 ?_
  refine lv_istore_n (lv' := [(1, .int x_this_tapeSize), (0, .ref a_this)]) hx hb dX9_takeTape_4 rfl hl (by decide) rfl (fun ls hl => ?_)
  refine lv_aload_n hx hb dX9_takeTape_5 rfl (lv_at hl 1 rfl) ?_
  refine lv_iconst (v := 0) hx hb dX9_takeTape_6 (by decide) ?_
  refine k_put C0 fp_X9_13 hP hD hS 0 rfl rfl rfl (Nat.le_of_ble_eq_true rfl) dX9_takeTape_7 (fun H locs hP hD hS => ?_)
  have hP : va_P (dC, dI) vwCl [(a_this, .inr (9, [.ref a_this_tape, .int 0, .ref a_this_plan, .ref a_this_spare, .ref a_this_now, .ref a_this_history, .ref a_this_machine, .ref a_this_reader, .ref a_this_street, .ref a_this_choice, .ref a_this_ahead, .ref a_this_watch, .ref a_this_octets, .int x_this_octetCount, .ref a_this_refusals, .long x_this_drawn]))] H := hP
  have hD : va_D A [(a_this, .inr (9, [.ref a_this_tape, .int 0, .ref a_this_plan, .ref a_this_spare, .ref a_this_now, .ref a_this_history, .ref a_this_machine, .ref a_this_reader, .ref a_this_street, .ref a_this_choice, .ref a_this_ahead, .ref a_this_watch, .ref a_this_octets, .int x_this_octetCount, .ref a_this_refusals, .long x_this_drawn]))] := hD
  refine lv_iload_n hx hb dX9_takeTape_10 rfl (lv_at hl 0 rfl) ?_
  subst hQ; exact k_iret hx hb hr hlk rfl 0 hS ⟨ib_w 0 1600 hx_this_tapeSize (by decide), ib_w 0 1600 (ib_c 0 0 0 (by decide)) (by decide)⟩ hP hD (Nat.le_of_ble_eq_true rfl) (Nat.le_of_ble_eq_true rfl) dX9_takeTape_11
set_option maxHeartbeats 4000000 in
set_option maxRecDepth 100000 in
theorem s_X9_stands (l : Launch) (dC : Nat → ClassId) (dI : Nat → Nat → Nat) (cy : Nat → ClassId) (sq : Nat → Nat) (a_this : Nat) (a_this_tape : Nat) (x_this_tapeSize : Int32) (a_this_plan : Nat) (x_this_plan_cycle : Int32) (x_this_plan_green : Int32) (x_this_plan_rule : Int32) (x_this_plan_least : Int32) (x_this_plan_away : Int32) (x_this_plan_statements : Int32) (x_this_plan_kinds : Int32) (a_this_plan_calm : Nat) (a_this_plan_pace : Nat) (a_this_plan_trusts : Nat) (x_this_plan_walkers : Int32) (a_this_plan_kindOf : Nat) (a_this_plan_comesAt : Nat) (a_this_plan_comers : Nat) (a_this_plan_names : Nat) (a_this_plan_code : Nat) (x_this_plan_size : Int32) (a_this_plan_spans : Nat) (a_this_spare : Nat) (a_this_now : Nat) (a_this_history : Nat) (a_this_machine : Nat) (a_this_reader : Nat) (a_this_street : Nat) (a_this_choice : Nat) (a_this_ahead : Nat) (a_this_watch : Nat) (a_this_octets : Nat) (x_this_octetCount : Int32) (a_this_refusals : Nat) (x_this_drawn : Int64) (hx_this_tapeSize : ib x_this_tapeSize 0 1600) (hx_this_plan_cycle : ib x_this_plan_cycle 0 120) (hx_this_plan_least : ib x_this_plan_least 0 99) (hx_this_plan_statements : ib x_this_plan_statements 0 81) (hx_this_plan_kinds : ib x_this_plan_kinds 0 6) (hx_this_plan_walkers : ib x_this_plan_walkers 0 12) (hx_this_plan_size : ib x_this_plan_size 0 1600) (hx_this_octetCount : ib x_this_octetCount 0 11) : k_Met l yX9_stands cX9_stands 1 (some .boolean) { frames := 0, cells := 0, slots := 0, locals := 0 } dC dI cy sq [.ref a_this] [(a_this, .inr (9, [.ref a_this_tape, .int x_this_tapeSize, .ref a_this_plan, .ref a_this_spare, .ref a_this_now, .ref a_this_history, .ref a_this_machine, .ref a_this_reader, .ref a_this_street, .ref a_this_choice, .ref a_this_ahead, .ref a_this_watch, .ref a_this_octets, .int x_this_octetCount, .ref a_this_refusals, .long x_this_drawn])), (a_this_plan, .inr (4, [.int x_this_plan_cycle, .int x_this_plan_green, .int x_this_plan_rule, .int x_this_plan_least, .int x_this_plan_away, .int x_this_plan_statements, .int x_this_plan_kinds, .ref a_this_plan_calm, .ref a_this_plan_pace, .ref a_this_plan_trusts, .int x_this_plan_walkers, .ref a_this_plan_kindOf, .ref a_this_plan_comesAt, .ref a_this_plan_comers, .ref a_this_plan_names, .ref a_this_plan_code, .int x_this_plan_size, .ref a_this_plan_spans]))] (k_Qi dC dI (fun (r : Int32) (_ : Unit) => ib r 0 1 ∧ (¬ r = 0 → ib x_this_plan_cycle 1 120)) (fun _ : Unit => [(a_this, .inr (9, [.ref a_this_tape, .int x_this_tapeSize, .ref a_this_plan, .ref a_this_spare, .ref a_this_now, .ref a_this_history, .ref a_this_machine, .ref a_this_reader, .ref a_this_street, .ref a_this_choice, .ref a_this_ahead, .ref a_this_watch, .ref a_this_octets, .int x_this_octetCount, .ref a_this_refusals, .long x_this_drawn])), (a_this_plan, .inr (4, [.int x_this_plan_cycle, .int x_this_plan_green, .int x_this_plan_rule, .int x_this_plan_least, .int x_this_plan_away, .int x_this_plan_statements, .int x_this_plan_kinds, .ref a_this_plan_calm, .ref a_this_plan_pace, .ref a_this_plan_trusts, .int x_this_plan_walkers, .ref a_this_plan_kindOf, .ref a_this_plan_comesAt, .ref a_this_plan_comers, .ref a_this_plan_names, .ref a_this_plan_code, .int x_this_plan_size, .ref a_this_plan_spans]))])) := by
  refine k_ofW2 (by decide +kernel) (Nat.le_of_ble_eq_true rfl) ?_
  intro p e s m below meth c A ls H locs args Q hQ C0 hr hlk hin hP hD hA hS hl
  have C0 : k_cx p s m args c cX9_stands 1 RX9 dC dI cy sq := C0
  have hx := C0.1
  have hb := C0.2.1
  have hl : lv_has ls 1 [(0, .ref a_this)] := hl
  refine lv_aload_n hx hb dX9_stands_0 rfl (lv_at hl 0 rfl) ?_
  refine k_get C0 fg_X9_20 hP 0 rfl rfl dX9_stands_1 ?_
  refine k_get C0 fg_X9_145 hP 1 rfl rfl dX9_stands_4 ?_
  refine lv_if_le (tgt := 14) hx hb dX9_stands_7 (by decide) (fun c53055 => ?_) (fun c53055 => ?_)
  · have h53056 := ib_le hx_this_plan_cycle (ib_c 0 0 0 (by decide)) c53055
    have h53057 : ib x_this_plan_cycle 0 0 := ib_w 0 0 h53056.1 (by decide)
    refine lv_iconst (v := 0) hx hb dX9_stands_14 (by decide) ?_
    subst hQ; exact k_iret hx hb hr hlk (k_nb 0 (by decide)) () hS ⟨ib_w 0 1 (ib_c 0 0 0 (by decide)) (by decide), fun h9 => absurd rfl h9⟩ hP hD (Nat.le_of_ble_eq_true rfl) (Nat.le_of_ble_eq_true rfl) dX9_stands_15
  · have h53058 := ib_nle hx_this_plan_cycle (ib_c 0 0 0 (by decide)) c53055
    have h53059 : ib x_this_plan_cycle 1 120 := ib_w 1 120 h53058.1 (by decide)
    refine lv_iconst (v := 1) hx hb dX9_stands_10 (by decide) ?_
    refine lv_goto (tgt := 15) hx hb dX9_stands_11 (by decide) ?_
    subst hQ; exact k_iret hx hb hr hlk (k_nb 1 (by decide)) () hS ⟨ib_w 0 1 (ib_c 1 1 1 (by decide)) (by decide), fun _ => ib_w 1 120 h53059 (by decide)⟩ hP hD (Nat.le_of_ble_eq_true rfl) (Nat.le_of_ble_eq_true rfl) dX9_stands_15
set_option maxHeartbeats 4000000 in
set_option maxRecDepth 100000 in
theorem s_X9_bit (l : Launch) (dC : Nat → ClassId) (dI : Nat → Nat → Nat) (cy : Nat → ClassId) (sq : Nat → Nat) (p0 : Int32) (p1 : Int32) (hp1 : ib p1 0 11) : k_Met l yX9_bit cX9_bit 2 (some .int) { frames := 0, cells := 0, slots := 0, locals := 0 } dC dI cy sq [.int p0, .int p1] [] (k_Qi dC dI (fun (r : Int32) (_ : Unit) => ib r 0 1) (fun _ : Unit => [])) := by
  refine k_ofW2 (by decide +kernel) (Nat.le_of_ble_eq_true rfl) ?_
  intro p e s m below meth c A ls H locs args Q hQ C0 hr hlk hin hP hD hA hS hl
  have C0 : k_cx p s m args c cX9_bit 2 RX9 dC dI cy sq := C0
  have hx := C0.1
  have hb := C0.2.1
  have hl : lv_has ls 2 [(0, .int p0), (1, .int p1)] := hl
  refine lv_iload_n hx hb dX9_bit_0 rfl (lv_at hl 0 rfl) ?_
  refine lv_iload_n hx hb dX9_bit_1 rfl (lv_at hl 1 rfl) ?_
  refine lv_ishr hx hb dX9_bit_2 ?_
  refine lv_topi (fun z56593 ez56593 => ?_)
  refine lv_iconst (v := 1) hx hb dX9_bit_3 (by decide) ?_
  refine lv_iand hx hb dX9_bit_4 ?_
  refine lv_topi (fun z56594 ez56594 => ?_)
  have h56595 : ib z56594 0 1 := by rw [ez56594]; exact ib_and 1 (by decide) (by decide) 1 (by decide)
  subst hQ; exact k_iret hx hb hr hlk rfl () hS (ib_w 0 1 h56595 (by decide)) hP hD (Nat.le_of_ble_eq_true rfl) (Nat.le_of_ble_eq_true rfl) dX9_bit_5
set_option maxHeartbeats 4000000 in
set_option maxRecDepth 100000 in
theorem s_X9_canLive (l : Launch) (dC : Nat → ClassId) (dI : Nat → Nat → Nat) (cy : Nat → ClassId) (sq : Nat → Nat) (a_this : Nat) (a_this_tape : Nat) (x_this_tapeSize : Int32) (a_this_plan : Nat) (x_this_plan_cycle : Int32) (x_this_plan_green : Int32) (x_this_plan_rule : Int32) (x_this_plan_least : Int32) (x_this_plan_away : Int32) (x_this_plan_statements : Int32) (x_this_plan_kinds : Int32) (a_this_plan_calm : Nat) (a_this_plan_pace : Nat) (a_this_plan_trusts : Nat) (x_this_plan_walkers : Int32) (a_this_plan_kindOf : Nat) (a_this_plan_comesAt : Nat) (a_this_plan_comers : Nat) (a_this_plan_names : Nat) (a_this_plan_code : Nat) (x_this_plan_size : Int32) (a_this_plan_spans : Nat) (a_this_spare : Nat) (a_this_now : Nat) (x_this_now_day : Int32) (x_this_now_rule : Int32) (x_this_now_green : Int32) (a_this_now_trusts : Nat) (a_this_history : Nat) (a_this_machine : Nat) (a_this_reader : Nat) (a_this_street : Nat) (a_this_choice : Nat) (a_this_ahead : Nat) (a_this_watch : Nat) (a_this_octets : Nat) (x_this_octetCount : Int32) (a_this_refusals : Nat) (x_this_drawn : Int64) (p0 : Int32) (hx_this_tapeSize : ib x_this_tapeSize 0 1600) (hx_this_plan_cycle : ib x_this_plan_cycle 0 120) (hx_this_plan_least : ib x_this_plan_least 0 99) (hx_this_plan_statements : ib x_this_plan_statements 0 81) (hx_this_plan_kinds : ib x_this_plan_kinds 0 6) (hx_this_plan_walkers : ib x_this_plan_walkers 0 12) (hx_this_plan_size : ib x_this_plan_size 0 1600) (hx_this_octetCount : ib x_this_octetCount 0 11) : k_Met l yX9_canLive cX9_canLive 2 (some .boolean) { frames := 1, cells := 0, slots := 0, locals := 20 } dC dI cy sq [.ref a_this, .int p0] [(a_this, .inr (9, [.ref a_this_tape, .int x_this_tapeSize, .ref a_this_plan, .ref a_this_spare, .ref a_this_now, .ref a_this_history, .ref a_this_machine, .ref a_this_reader, .ref a_this_street, .ref a_this_choice, .ref a_this_ahead, .ref a_this_watch, .ref a_this_octets, .int x_this_octetCount, .ref a_this_refusals, .long x_this_drawn])), (a_this_plan, .inr (4, [.int x_this_plan_cycle, .int x_this_plan_green, .int x_this_plan_rule, .int x_this_plan_least, .int x_this_plan_away, .int x_this_plan_statements, .int x_this_plan_kinds, .ref a_this_plan_calm, .ref a_this_plan_pace, .ref a_this_plan_trusts, .int x_this_plan_walkers, .ref a_this_plan_kindOf, .ref a_this_plan_comesAt, .ref a_this_plan_comers, .ref a_this_plan_names, .ref a_this_plan_code, .int x_this_plan_size, .ref a_this_plan_spans])), (a_this_now, .inr (6, [.int x_this_now_day, .int x_this_now_rule, .int x_this_now_green, .ref a_this_now_trusts]))] (k_Qi dC dI (fun (r : Int32) (_ : Unit) => ib r 0 1 ∧ (¬ r = 0 → ib x_this_plan_cycle 1 120) ∧ (¬ r = 0 → ib p0 1 30)) (fun _ : Unit => [(a_this, .inr (9, [.ref a_this_tape, .int x_this_tapeSize, .ref a_this_plan, .ref a_this_spare, .ref a_this_now, .ref a_this_history, .ref a_this_machine, .ref a_this_reader, .ref a_this_street, .ref a_this_choice, .ref a_this_ahead, .ref a_this_watch, .ref a_this_octets, .int x_this_octetCount, .ref a_this_refusals, .long x_this_drawn])), (a_this_plan, .inr (4, [.int x_this_plan_cycle, .int x_this_plan_green, .int x_this_plan_rule, .int x_this_plan_least, .int x_this_plan_away, .int x_this_plan_statements, .int x_this_plan_kinds, .ref a_this_plan_calm, .ref a_this_plan_pace, .ref a_this_plan_trusts, .int x_this_plan_walkers, .ref a_this_plan_kindOf, .ref a_this_plan_comesAt, .ref a_this_plan_comers, .ref a_this_plan_names, .ref a_this_plan_code, .int x_this_plan_size, .ref a_this_plan_spans])), (a_this_now, .inr (6, [.int x_this_now_day, .int x_this_now_rule, .int x_this_now_green, .ref a_this_now_trusts]))])) := by
  refine k_ofW2 (by decide +kernel) (Nat.le_of_ble_eq_true rfl) ?_
  intro p e s m below meth c A ls H locs args Q hQ C0 hr hlk hin hP hD hA hS hl
  have C0 : k_cx p s m args c cX9_canLive 2 RX9 dC dI cy sq := C0
  have hx := C0.1
  have hb := C0.2.1
  have hl : lv_has ls 2 [(0, .ref a_this), (1, .int p0)] := hl
  refine lv_aload_n hx hb dX9_canLive_0 rfl (lv_at hl 0 rfl) ?_
  refine k_ji hP hD hS hA [0, 1] [2] (wr := [(a_this_now, .inr (6, [.int x_this_now_day, .int x_this_now_rule, .int x_this_now_green, .ref a_this_now_trusts]))]) rfl rfl (by decide) (by decide) (by decide) 0 0 (Nat.le_of_ble_eq_true rfl) (Nat.le_of_ble_eq_true rfl) (fun hPc hDc => k_runV (As := []) (rest := []) C0 (s_X9_stands l dC dI cy sq a_this a_this_tape x_this_tapeSize a_this_plan x_this_plan_cycle x_this_plan_green x_this_plan_rule x_this_plan_least x_this_plan_away x_this_plan_statements x_this_plan_kinds a_this_plan_calm a_this_plan_pace a_this_plan_trusts x_this_plan_walkers a_this_plan_kindOf a_this_plan_comesAt a_this_plan_comers a_this_plan_names a_this_plan_code x_this_plan_size a_this_plan_spans a_this_spare a_this_now a_this_history a_this_machine a_this_reader a_this_street a_this_choice a_this_ahead a_this_watch a_this_octets x_this_octetCount a_this_refusals x_this_drawn (ib_w 0 1600 hx_this_tapeSize (by decide)) (ib_w 0 120 hx_this_plan_cycle (by decide)) (ib_w 0 99 hx_this_plan_least (by decide)) (ib_w 0 81 hx_this_plan_statements (by decide)) (ib_w 0 6 hx_this_plan_kinds (by decide)) (ib_w 0 12 hx_this_plan_walkers (by decide)) (ib_w 0 1600 hx_this_plan_size (by decide)) (ib_w 0 11 hx_this_octetCount (by decide))) mV_X9_218 hPc hDc rfl rfl rfl hl rfl rfl (Nat.le_of_ble_eq_true rfl) ⟨(Nat.le_of_ble_eq_true rfl), (Nat.le_of_ble_eq_true rfl)⟩ ⟨(Nat.le_of_ble_eq_true rfl), (Nat.le_of_ble_eq_true rfl)⟩ dX9_canLive_1) (fun r56846 u56847 H locs hw hP hD hS => ?_)
  try dsimp only at hP hD hw
  have hP : va_P (dC, dI) vwCl [(a_this_now, .inr (6, [.int x_this_now_day, .int x_this_now_rule, .int x_this_now_green, .ref a_this_now_trusts])), (a_this, .inr (9, [.ref a_this_tape, .int x_this_tapeSize, .ref a_this_plan, .ref a_this_spare, .ref a_this_now, .ref a_this_history, .ref a_this_machine, .ref a_this_reader, .ref a_this_street, .ref a_this_choice, .ref a_this_ahead, .ref a_this_watch, .ref a_this_octets, .int x_this_octetCount, .ref a_this_refusals, .long x_this_drawn])), (a_this_plan, .inr (4, [.int x_this_plan_cycle, .int x_this_plan_green, .int x_this_plan_rule, .int x_this_plan_least, .int x_this_plan_away, .int x_this_plan_statements, .int x_this_plan_kinds, .ref a_this_plan_calm, .ref a_this_plan_pace, .ref a_this_plan_trusts, .int x_this_plan_walkers, .ref a_this_plan_kindOf, .ref a_this_plan_comesAt, .ref a_this_plan_comers, .ref a_this_plan_names, .ref a_this_plan_code, .int x_this_plan_size, .ref a_this_plan_spans]))] H := hP
  have hD : va_D A [(a_this_now, .inr (6, [.int x_this_now_day, .int x_this_now_rule, .int x_this_now_green, .ref a_this_now_trusts])), (a_this, .inr (9, [.ref a_this_tape, .int x_this_tapeSize, .ref a_this_plan, .ref a_this_spare, .ref a_this_now, .ref a_this_history, .ref a_this_machine, .ref a_this_reader, .ref a_this_street, .ref a_this_choice, .ref a_this_ahead, .ref a_this_watch, .ref a_this_octets, .int x_this_octetCount, .ref a_this_refusals, .long x_this_drawn])), (a_this_plan, .inr (4, [.int x_this_plan_cycle, .int x_this_plan_green, .int x_this_plan_rule, .int x_this_plan_least, .int x_this_plan_away, .int x_this_plan_statements, .int x_this_plan_kinds, .ref a_this_plan_calm, .ref a_this_plan_pace, .ref a_this_plan_trusts, .int x_this_plan_walkers, .ref a_this_plan_kindOf, .ref a_this_plan_comesAt, .ref a_this_plan_comers, .ref a_this_plan_names, .ref a_this_plan_code, .int x_this_plan_size, .ref a_this_plan_spans]))] := hD
  obtain ⟨h56848, h56849⟩ := hw
  refine lv_if_eq (tgt := 37) hx hb dX9_canLive_4 (by decide) (fun c56850 => ?_) (fun c56850 => ?_)
  · have h56851 := ib_eq h56848 (ib_c 0 0 0 (by decide)) c56850
    have h56852 : ib r56846 0 0 := ib_w 0 0 h56851.1 (by decide)
    refine lv_iconst (v := 0) hx hb dX9_canLive_37 (by decide) ?_
    subst hQ; exact k_iret hx hb hr hlk (k_nb 0 (by decide)) () hS ⟨ib_w 0 1 (ib_c 0 0 0 (by decide)) (by decide), fun h9 => absurd rfl h9, fun h9 => absurd rfl h9⟩ (hP.sub [1, 2, 0] rfl) (hD.sub [1, 2, 0] (by decide) rfl) (Nat.le_of_ble_eq_true rfl) (Nat.le_of_ble_eq_true rfl) dX9_canLive_38
  · have h56853 : ib r56846 1 1 := ib_w 1 1 (ib_ne_lo 0 h56848 (by decide) c56850) (by decide)
    have h56854 : ib x_this_plan_cycle 1 120 := ib_w 1 120 (ib_two hx_this_plan_cycle (h56849 c56850)) (by decide)
    refine lv_iload_n hx hb dX9_canLive_7 rfl (lv_at hl 1 rfl) ?_
    refine lv_iconst (v := 1) hx hb dX9_canLive_8 (by decide) ?_
    refine lv_icmp_lt (tgt := 37) hx hb dX9_canLive_9 (by decide) (fun c56855 => ?_) (fun c56855 => ?_)
    · have h56856 := ib_lt (ib_any p0) (ib_c 1 1 1 (by decide)) c56855
      have h56857 : ib p0 (-2147483648) 0 := ib_w (-2147483648) 0 h56856.1 (by decide)
      refine lv_iconst (v := 0) hx hb dX9_canLive_37 (by decide) ?_
      subst hQ; exact k_iret hx hb hr hlk (k_nb 0 (by decide)) () hS ⟨ib_w 0 1 (ib_c 0 0 0 (by decide)) (by decide), fun h9 => absurd rfl h9, fun h9 => absurd rfl h9⟩ (hP.sub [1, 2, 0] rfl) (hD.sub [1, 2, 0] (by decide) rfl) (Nat.le_of_ble_eq_true rfl) (Nat.le_of_ble_eq_true rfl) dX9_canLive_38
    · have h56858 := ib_nlt (ib_any p0) (ib_c 1 1 1 (by decide)) c56855
      have h56859 : ib p0 1 2147483647 := ib_w 1 2147483647 h56858.1 (by decide)
      refine lv_iload_n hx hb dX9_canLive_12 rfl (lv_at hl 1 rfl) ?_
      refine lv_bipush (v := 30) hx hb dX9_canLive_13 (by decide) ?_
      refine lv_icmp_gt (tgt := 37) hx hb dX9_canLive_15 (by decide) (fun c56860 => ?_) (fun c56860 => ?_)
      · have h56861 := ib_lt (ib_c 30 30 30 (by decide)) h56859 c56860
        have h56862 : ib p0 31 2147483647 := ib_w 31 2147483647 h56861.2 (by decide)
        refine lv_iconst (v := 0) hx hb dX9_canLive_37 (by decide) ?_
        subst hQ; exact k_iret hx hb hr hlk (k_nb 0 (by decide)) () hS ⟨ib_w 0 1 (ib_c 0 0 0 (by decide)) (by decide), fun h9 => absurd rfl h9, fun h9 => absurd rfl h9⟩ (hP.sub [1, 2, 0] rfl) (hD.sub [1, 2, 0] (by decide) rfl) (Nat.le_of_ble_eq_true rfl) (Nat.le_of_ble_eq_true rfl) dX9_canLive_38
      · have h56863 := ib_nlt (ib_c 30 30 30 (by decide)) h56859 c56860
        have h56864 : ib p0 1 30 := ib_w 1 30 h56863.2 (by decide)
        refine lv_aload_n hx hb dX9_canLive_18 rfl (lv_at hl 0 rfl) ?_
        refine k_get C0 fg_X9_30 hP 1 rfl rfl dX9_canLive_19 ?_
        refine k_get C0 fg_X9_154 hP 0 rfl rfl dX9_canLive_22 ?_
        refine lv_iload_n hx hb dX9_canLive_25 rfl (lv_at hl 1 rfl) ?_
        refine lv_iadd hx hb dX9_canLive_26 ?_
        refine lv_topi (fun z56865 ez56865 => ?_)
        refine lv_sipush (v := 999) hx hb dX9_canLive_27 (by decide) ?_
        refine lv_icmp_gt (tgt := 37) hx hb dX9_canLive_30 (by decide) (fun c56866 => ?_) (fun c56866 => ?_)
        · have h56867 := ib_lt (ib_c 999 999 999 (by decide)) (ib_any z56865) c56866
          have h56868 : ib z56865 1000 2147483647 := ib_w 1000 2147483647 h56867.2 (by decide)
          refine lv_iconst (v := 0) hx hb dX9_canLive_37 (by decide) ?_
          subst hQ; exact k_iret hx hb hr hlk (k_nb 0 (by decide)) () hS ⟨ib_w 0 1 (ib_c 0 0 0 (by decide)) (by decide), fun h9 => absurd rfl h9, fun h9 => absurd rfl h9⟩ (hP.sub [1, 2, 0] rfl) (hD.sub [1, 2, 0] (by decide) rfl) (Nat.le_of_ble_eq_true rfl) (Nat.le_of_ble_eq_true rfl) dX9_canLive_38
        · have h56869 := ib_nlt (ib_c 999 999 999 (by decide)) (ib_any z56865) c56866
          have h56870 : ib z56865 (-2147483648) 999 := ib_w (-2147483648) 999 h56869.2 (by decide)
          refine lv_iconst (v := 1) hx hb dX9_canLive_33 (by decide) ?_
          refine lv_goto (tgt := 38) hx hb dX9_canLive_34 (by decide) ?_
          subst hQ; exact k_iret hx hb hr hlk (k_nb 1 (by decide)) () hS ⟨ib_w 0 1 (ib_c 1 1 1 (by decide)) (by decide), fun _ => ib_w 1 120 h56854 (by decide), fun _ => ib_w 1 30 h56864 (by decide)⟩ (hP.sub [1, 2, 0] rfl) (hD.sub [1, 2, 0] (by decide) rfl) (Nat.le_of_ble_eq_true rfl) (Nat.le_of_ble_eq_true rfl) dX9_canLive_38
set_option maxHeartbeats 4000000 in
set_option maxRecDepth 100000 in
theorem s_X9_changed (l : Launch) (dC : Nat → ClassId) (dI : Nat → Nat → Nat) (cy : Nat → ClassId) (sq : Nat → Nat) (a_this : Nat) (a_this_tape : Nat) (x_this_tapeSize : Int32) (a_this_plan : Nat) (a_this_spare : Nat) (a_this_now : Nat) (a_this_history : Nat) (a_this_machine : Nat) (a_this_reader : Nat) (a_this_street : Nat) (a_this_choice : Nat) (a_this_choice_table : Nat) (x_this_choice_tableKnown : Int32) (a_this_ahead : Nat) (a_this_ahead_state : Nat) (a_this_ahead_told : Nat) (a_this_ahead_trusts : Nat) (x_this_ahead_known : Int32) (a_this_watch : Nat) (a_this_watch_seenWalker : Nat) (a_this_watch_seenSecond : Nat) (x_this_watch_rows : Int32) (x_this_watch_compared : Int32) (a_this_watch_seconds : Nat) (x_this_watch_found : Int32) (x_this_watch_foundRules : Int32) (x_this_watch_foundGreen : Int32) (x_this_watch_chosen : Int32) (x_this_watch_chosenLeft : Int32) (a_this_octets : Nat) (x_this_octetCount : Int32) (a_this_refusals : Nat) (x_this_drawn : Int64) (hx_this_tapeSize : ib x_this_tapeSize 0 1600) (hx_this_choice_tableKnown : ib x_this_choice_tableKnown 0 1) (hx_this_ahead_known : ib x_this_ahead_known 0 30) (hx_this_watch_rows : ib x_this_watch_rows 0 16) (hx_this_watch_compared : ib x_this_watch_compared 0 1) (hx_this_watch_found : ib x_this_watch_found 0 60) (hx_this_octetCount : ib x_this_octetCount 0 11) : k_Met l yX9_changed cX9_changed 1 none { frames := 1, cells := 0, slots := 0, locals := 20 } dC dI cy sq [.ref a_this] [(a_this, .inr (9, [.ref a_this_tape, .int x_this_tapeSize, .ref a_this_plan, .ref a_this_spare, .ref a_this_now, .ref a_this_history, .ref a_this_machine, .ref a_this_reader, .ref a_this_street, .ref a_this_choice, .ref a_this_ahead, .ref a_this_watch, .ref a_this_octets, .int x_this_octetCount, .ref a_this_refusals, .long x_this_drawn])), (a_this_choice, .inr (1, [.ref a_this_street, .ref a_this_choice_table, .int x_this_choice_tableKnown])), (a_this_ahead, .inr (0, [.ref a_this_street, .ref a_this_ahead_state, .ref a_this_ahead_told, .ref a_this_ahead_trusts, .int x_this_ahead_known])), (a_this_watch, .inr (8, [.ref a_this_street, .ref a_this_watch_seenWalker, .ref a_this_watch_seenSecond, .int x_this_watch_rows, .int x_this_watch_compared, .ref a_this_watch_seconds, .int x_this_watch_found, .int x_this_watch_foundRules, .int x_this_watch_foundGreen, .int x_this_watch_chosen, .int x_this_watch_chosenLeft]))] (k_Qv dC dI (fun (u : Int32 × Int32 × Int32) => match u with | (n0, n1, n2) => ib n0 0 1 ∧ ib n1 0 30 ∧ ib n2 0 1) (fun u : Int32 × Int32 × Int32 => match u with | (n0, n1, n2) => [(a_this, .inr (9, [.ref a_this_tape, .int x_this_tapeSize, .ref a_this_plan, .ref a_this_spare, .ref a_this_now, .ref a_this_history, .ref a_this_machine, .ref a_this_reader, .ref a_this_street, .ref a_this_choice, .ref a_this_ahead, .ref a_this_watch, .ref a_this_octets, .int x_this_octetCount, .ref a_this_refusals, .long x_this_drawn])), (a_this_choice, .inr (1, [.ref a_this_street, .ref a_this_choice_table, .int n0])), (a_this_ahead, .inr (0, [.ref a_this_street, .ref a_this_ahead_state, .ref a_this_ahead_told, .ref a_this_ahead_trusts, .int n1])), (a_this_watch, .inr (8, [.ref a_this_street, .ref a_this_watch_seenWalker, .ref a_this_watch_seenSecond, .int x_this_watch_rows, .int n2, .ref a_this_watch_seconds, .int x_this_watch_found, .int x_this_watch_foundRules, .int x_this_watch_foundGreen, .int x_this_watch_chosen, .int x_this_watch_chosenLeft]))])) := by
  refine k_ofW2 (by decide +kernel) (Nat.le_of_ble_eq_true rfl) ?_
  intro p e s m below meth c A ls H locs args Q hQ C0 hr hlk hin hP hD hA hS hl
  have C0 : k_cx p s m args c cX9_changed 1 RX9 dC dI cy sq := C0
  have hx := C0.1
  have hb := C0.2.1
  have hl : lv_has ls 1 [(0, .ref a_this)] := hl
  refine lv_aload_n hx hb dX9_changed_0 rfl (lv_at hl 0 rfl) ?_
  refine k_get C0 fg_X9_71 hP 0 rfl rfl dX9_changed_1 ?_
  refine k_jv hP hD hS hA [1] [0, 2, 3] (wr := [(a_this, .inr (9, [.ref a_this_tape, .int x_this_tapeSize, .ref a_this_plan, .ref a_this_spare, .ref a_this_now, .ref a_this_history, .ref a_this_machine, .ref a_this_reader, .ref a_this_street, .ref a_this_choice, .ref a_this_ahead, .ref a_this_watch, .ref a_this_octets, .int x_this_octetCount, .ref a_this_refusals, .long x_this_drawn])), (a_this_ahead, .inr (0, [.ref a_this_street, .ref a_this_ahead_state, .ref a_this_ahead_told, .ref a_this_ahead_trusts, .int x_this_ahead_known])), (a_this_watch, .inr (8, [.ref a_this_street, .ref a_this_watch_seenWalker, .ref a_this_watch_seenSecond, .int x_this_watch_rows, .int x_this_watch_compared, .ref a_this_watch_seconds, .int x_this_watch_found, .int x_this_watch_foundRules, .int x_this_watch_foundGreen, .int x_this_watch_chosen, .int x_this_watch_chosenLeft]))]) rfl rfl (by decide) (by decide) (by decide) 0 0 (Nat.le_of_ble_eq_true rfl) (Nat.le_of_ble_eq_true rfl) (fun hPc hDc => k_runV (As := []) (rest := []) C0 (s_X1_forget l dC dI cy sq a_this_choice a_this_street a_this_choice_table x_this_choice_tableKnown (ib_w 0 1 hx_this_choice_tableKnown (by decide))) mV_X9_333 hPc hDc rfl rfl rfl hl rfl rfl (Nat.le_of_ble_eq_true rfl) ⟨(Nat.le_of_ble_eq_true rfl), (Nat.le_of_ble_eq_true rfl)⟩ ⟨(Nat.le_of_ble_eq_true rfl), (Nat.le_of_ble_eq_true rfl)⟩ dX9_changed_4) (fun u59244 H locs hw hP hD hS => ?_)
  obtain ⟨v59245, ev59245⟩ : ∃ z, z = u59244 := ⟨_, rfl⟩; subst ev59245
  try dsimp only at hP hD hw
  have hP : va_P (dC, dI) vwCl [(a_this, .inr (9, [.ref a_this_tape, .int x_this_tapeSize, .ref a_this_plan, .ref a_this_spare, .ref a_this_now, .ref a_this_history, .ref a_this_machine, .ref a_this_reader, .ref a_this_street, .ref a_this_choice, .ref a_this_ahead, .ref a_this_watch, .ref a_this_octets, .int x_this_octetCount, .ref a_this_refusals, .long x_this_drawn])), (a_this_ahead, .inr (0, [.ref a_this_street, .ref a_this_ahead_state, .ref a_this_ahead_told, .ref a_this_ahead_trusts, .int x_this_ahead_known])), (a_this_watch, .inr (8, [.ref a_this_street, .ref a_this_watch_seenWalker, .ref a_this_watch_seenSecond, .int x_this_watch_rows, .int x_this_watch_compared, .ref a_this_watch_seconds, .int x_this_watch_found, .int x_this_watch_foundRules, .int x_this_watch_foundGreen, .int x_this_watch_chosen, .int x_this_watch_chosenLeft])), (a_this_choice, .inr (1, [.ref a_this_street, .ref a_this_choice_table, .int v59245]))] H := hP
  have hD : va_D A [(a_this, .inr (9, [.ref a_this_tape, .int x_this_tapeSize, .ref a_this_plan, .ref a_this_spare, .ref a_this_now, .ref a_this_history, .ref a_this_machine, .ref a_this_reader, .ref a_this_street, .ref a_this_choice, .ref a_this_ahead, .ref a_this_watch, .ref a_this_octets, .int x_this_octetCount, .ref a_this_refusals, .long x_this_drawn])), (a_this_ahead, .inr (0, [.ref a_this_street, .ref a_this_ahead_state, .ref a_this_ahead_told, .ref a_this_ahead_trusts, .int x_this_ahead_known])), (a_this_watch, .inr (8, [.ref a_this_street, .ref a_this_watch_seenWalker, .ref a_this_watch_seenSecond, .int x_this_watch_rows, .int x_this_watch_compared, .ref a_this_watch_seconds, .int x_this_watch_found, .int x_this_watch_foundRules, .int x_this_watch_foundGreen, .int x_this_watch_chosen, .int x_this_watch_chosenLeft])), (a_this_choice, .inr (1, [.ref a_this_street, .ref a_this_choice_table, .int v59245]))] := hD
  have h59246 := hw
  refine lv_aload_n hx hb dX9_changed_7 rfl (lv_at hl 0 rfl) ?_
  refine k_get C0 fg_X9_78 hP 0 rfl rfl dX9_changed_8 ?_
  refine k_jv hP hD hS hA [1] [0, 2, 3] (wr := [(a_this, .inr (9, [.ref a_this_tape, .int x_this_tapeSize, .ref a_this_plan, .ref a_this_spare, .ref a_this_now, .ref a_this_history, .ref a_this_machine, .ref a_this_reader, .ref a_this_street, .ref a_this_choice, .ref a_this_ahead, .ref a_this_watch, .ref a_this_octets, .int x_this_octetCount, .ref a_this_refusals, .long x_this_drawn])), (a_this_watch, .inr (8, [.ref a_this_street, .ref a_this_watch_seenWalker, .ref a_this_watch_seenSecond, .int x_this_watch_rows, .int x_this_watch_compared, .ref a_this_watch_seconds, .int x_this_watch_found, .int x_this_watch_foundRules, .int x_this_watch_foundGreen, .int x_this_watch_chosen, .int x_this_watch_chosenLeft])), (a_this_choice, .inr (1, [.ref a_this_street, .ref a_this_choice_table, .int v59245]))]) rfl rfl (by decide) (by decide) (by decide) 0 0 (Nat.le_of_ble_eq_true rfl) (Nat.le_of_ble_eq_true rfl) (fun hPc hDc => k_runV (As := []) (rest := []) C0 (s_X0_forget l dC dI cy sq a_this_ahead a_this_street a_this_ahead_state a_this_ahead_told a_this_ahead_trusts x_this_ahead_known (ib_w 0 30 hx_this_ahead_known (by decide))) mV_X9_336 hPc hDc rfl rfl rfl hl rfl rfl (Nat.le_of_ble_eq_true rfl) ⟨(Nat.le_of_ble_eq_true rfl), (Nat.le_of_ble_eq_true rfl)⟩ ⟨(Nat.le_of_ble_eq_true rfl), (Nat.le_of_ble_eq_true rfl)⟩ dX9_changed_11) (fun u59248 H locs hw hP hD hS => ?_)
  obtain ⟨v59249, ev59249⟩ : ∃ z, z = u59248 := ⟨_, rfl⟩; subst ev59249
  try dsimp only at hP hD hw
  have hP : va_P (dC, dI) vwCl [(a_this, .inr (9, [.ref a_this_tape, .int x_this_tapeSize, .ref a_this_plan, .ref a_this_spare, .ref a_this_now, .ref a_this_history, .ref a_this_machine, .ref a_this_reader, .ref a_this_street, .ref a_this_choice, .ref a_this_ahead, .ref a_this_watch, .ref a_this_octets, .int x_this_octetCount, .ref a_this_refusals, .long x_this_drawn])), (a_this_watch, .inr (8, [.ref a_this_street, .ref a_this_watch_seenWalker, .ref a_this_watch_seenSecond, .int x_this_watch_rows, .int x_this_watch_compared, .ref a_this_watch_seconds, .int x_this_watch_found, .int x_this_watch_foundRules, .int x_this_watch_foundGreen, .int x_this_watch_chosen, .int x_this_watch_chosenLeft])), (a_this_choice, .inr (1, [.ref a_this_street, .ref a_this_choice_table, .int v59245])), (a_this_ahead, .inr (0, [.ref a_this_street, .ref a_this_ahead_state, .ref a_this_ahead_told, .ref a_this_ahead_trusts, .int v59249]))] H := hP
  have hD : va_D A [(a_this, .inr (9, [.ref a_this_tape, .int x_this_tapeSize, .ref a_this_plan, .ref a_this_spare, .ref a_this_now, .ref a_this_history, .ref a_this_machine, .ref a_this_reader, .ref a_this_street, .ref a_this_choice, .ref a_this_ahead, .ref a_this_watch, .ref a_this_octets, .int x_this_octetCount, .ref a_this_refusals, .long x_this_drawn])), (a_this_watch, .inr (8, [.ref a_this_street, .ref a_this_watch_seenWalker, .ref a_this_watch_seenSecond, .int x_this_watch_rows, .int x_this_watch_compared, .ref a_this_watch_seconds, .int x_this_watch_found, .int x_this_watch_foundRules, .int x_this_watch_foundGreen, .int x_this_watch_chosen, .int x_this_watch_chosenLeft])), (a_this_choice, .inr (1, [.ref a_this_street, .ref a_this_choice_table, .int v59245])), (a_this_ahead, .inr (0, [.ref a_this_street, .ref a_this_ahead_state, .ref a_this_ahead_told, .ref a_this_ahead_trusts, .int v59249]))] := hD
  have h59250 := hw
  refine lv_aload_n hx hb dX9_changed_14 rfl (lv_at hl 0 rfl) ?_
  refine k_get C0 fg_X9_85 hP 0 rfl rfl dX9_changed_15 ?_
  refine k_jv hP hD hS hA [1] [0, 2, 3] (wr := [(a_this, .inr (9, [.ref a_this_tape, .int x_this_tapeSize, .ref a_this_plan, .ref a_this_spare, .ref a_this_now, .ref a_this_history, .ref a_this_machine, .ref a_this_reader, .ref a_this_street, .ref a_this_choice, .ref a_this_ahead, .ref a_this_watch, .ref a_this_octets, .int x_this_octetCount, .ref a_this_refusals, .long x_this_drawn])), (a_this_choice, .inr (1, [.ref a_this_street, .ref a_this_choice_table, .int v59245])), (a_this_ahead, .inr (0, [.ref a_this_street, .ref a_this_ahead_state, .ref a_this_ahead_told, .ref a_this_ahead_trusts, .int v59249]))]) rfl rfl (by decide) (by decide) (by decide) 0 0 (Nat.le_of_ble_eq_true rfl) (Nat.le_of_ble_eq_true rfl) (fun hPc hDc => k_runV (As := []) (rest := []) C0 (s_X8_forget l dC dI cy sq a_this_watch a_this_street a_this_watch_seenWalker a_this_watch_seenSecond x_this_watch_rows x_this_watch_compared a_this_watch_seconds x_this_watch_found x_this_watch_foundRules x_this_watch_foundGreen x_this_watch_chosen x_this_watch_chosenLeft (ib_w 0 16 hx_this_watch_rows (by decide)) (ib_w 0 1 hx_this_watch_compared (by decide)) (ib_w 0 60 hx_this_watch_found (by decide))) mV_X9_337 hPc hDc rfl rfl rfl hl rfl rfl (Nat.le_of_ble_eq_true rfl) ⟨(Nat.le_of_ble_eq_true rfl), (Nat.le_of_ble_eq_true rfl)⟩ ⟨(Nat.le_of_ble_eq_true rfl), (Nat.le_of_ble_eq_true rfl)⟩ dX9_changed_18) (fun u59252 H locs hw hP hD hS => ?_)
  obtain ⟨v59253, ev59253⟩ : ∃ z, z = u59252 := ⟨_, rfl⟩; subst ev59253
  try dsimp only at hP hD hw
  have hP : va_P (dC, dI) vwCl [(a_this, .inr (9, [.ref a_this_tape, .int x_this_tapeSize, .ref a_this_plan, .ref a_this_spare, .ref a_this_now, .ref a_this_history, .ref a_this_machine, .ref a_this_reader, .ref a_this_street, .ref a_this_choice, .ref a_this_ahead, .ref a_this_watch, .ref a_this_octets, .int x_this_octetCount, .ref a_this_refusals, .long x_this_drawn])), (a_this_choice, .inr (1, [.ref a_this_street, .ref a_this_choice_table, .int v59245])), (a_this_ahead, .inr (0, [.ref a_this_street, .ref a_this_ahead_state, .ref a_this_ahead_told, .ref a_this_ahead_trusts, .int v59249])), (a_this_watch, .inr (8, [.ref a_this_street, .ref a_this_watch_seenWalker, .ref a_this_watch_seenSecond, .int x_this_watch_rows, .int v59253, .ref a_this_watch_seconds, .int x_this_watch_found, .int x_this_watch_foundRules, .int x_this_watch_foundGreen, .int x_this_watch_chosen, .int x_this_watch_chosenLeft]))] H := hP
  have hD : va_D A [(a_this, .inr (9, [.ref a_this_tape, .int x_this_tapeSize, .ref a_this_plan, .ref a_this_spare, .ref a_this_now, .ref a_this_history, .ref a_this_machine, .ref a_this_reader, .ref a_this_street, .ref a_this_choice, .ref a_this_ahead, .ref a_this_watch, .ref a_this_octets, .int x_this_octetCount, .ref a_this_refusals, .long x_this_drawn])), (a_this_choice, .inr (1, [.ref a_this_street, .ref a_this_choice_table, .int v59245])), (a_this_ahead, .inr (0, [.ref a_this_street, .ref a_this_ahead_state, .ref a_this_ahead_told, .ref a_this_ahead_trusts, .int v59249])), (a_this_watch, .inr (8, [.ref a_this_street, .ref a_this_watch_seenWalker, .ref a_this_watch_seenSecond, .int x_this_watch_rows, .int v59253, .ref a_this_watch_seconds, .int x_this_watch_found, .int x_this_watch_foundRules, .int x_this_watch_foundGreen, .int x_this_watch_chosen, .int x_this_watch_chosenLeft]))] := hD
  have h59254 := hw
  subst hQ; exact k_vret hx hb hr hlk ((v59245, v59249, v59253)) hS ⟨ib_w 0 1 h59246 (by decide), ib_w 0 30 h59250 (by decide), ib_w 0 1 h59254 (by decide)⟩ hP hD (Nat.le_of_ble_eq_true rfl) (Nat.le_of_ble_eq_true rfl) dX9_changed_21
set_option maxHeartbeats 4000000 in
set_option maxRecDepth 100000 in
theorem s_X9_check (l : Launch) (dC : Nat → ClassId) (dI : Nat → Nat → Nat) (cy : Nat → ClassId) (sq : Nat → Nat) (a_arg0 : Nat) (g_arg0 : Nat → Int32) (p1 : Int32) (hp1 : ib p1 0 1599) : k_Met l yX9_check cX9_check 4 (some .int) { frames := 0, cells := 0, slots := 0, locals := 0 } dC dI cy sq [.ref a_arg0, .int p1] [(a_arg0, .inl (cy 0, 1600, .inl g_arg0))] (k_Qi dC dI (fun (r : Int32) (_ : Unit) => True) (fun _ : Unit => [(a_arg0, .inl (cy 0, 1600, .inl g_arg0))])) := by
  refine k_ofW2 (by decide +kernel) (Nat.le_of_ble_eq_true rfl) ?_
  intro p e s m below meth c A ls H locs args Q hQ C0 hr hlk hin hP hD hA hS hl
  have C0 : k_cx p s m args c cX9_check 4 RX9 dC dI cy sq := C0
  have hx := C0.1
  have hb := C0.2.1
  have hl : lv_has ls 4 [(0, .ref a_arg0), (1, .int p1)] := hl
  have jn5 : ∀ (n : Nat) (J5_l2 : Int32) (J5_l3 : Int32) (H : Heap) (locs : List Loc) (ls : Array Slot), ib J5_l3 0 1599 → 1600 ≤ J5_l3.toInt + (n : Int) → va_P (dC, dI) vwCl [(a_arg0, .inl (cy 0, 1600, .inl g_arg0))] H → va_D A [(a_arg0, .inl (cy 0, 1600, .inl g_arg0))] → va_S A s.heap H locs → lv_has ls 4 [(0, .ref a_arg0), (1, .int p1), (2, .int J5_l2), (3, .int J5_l3)] → W p l e { frames := 0, cells := 0, slots := 0, locals := 0 } s m args below meth c H locs 0 0 Q (F0 m 5 ls []) := by
    intro n
    induction n with
    | zero =>
      intro J5_l2 J5_l3 H locs ls hJ5_l3 hm
      exact absurd hm (by have := hJ5_l3; unfold ib at this; omega)
    | succ n ih =>
      intro J5_l2 J5_l3 H locs ls hJ5_l3 hm5 hP hD hS hl
      have ih5 := ih
      refine lv_iload_n hx hb dX9_check_5 rfl (lv_at hl 3 rfl) ?_
      refine lv_iload_n hx hb dX9_check_6 rfl (lv_at hl 1 rfl) ?_
      refine lv_icmp_ge (tgt := 28) hx hb dX9_check_7 (by decide) (fun c59511 => ?_) (fun c59511 => ?_)
      · have h59512 := ib_le hp1 hJ5_l3 c59511
        refine lv_iload_n hx hb dX9_check_28 rfl (lv_at hl 2 rfl) ?_
        subst hQ; exact k_iret hx hb hr hlk rfl () hS True.intro hP hD (Nat.le_of_ble_eq_true rfl) (Nat.le_of_ble_eq_true rfl) dX9_check_29
      · have h59513 := ib_nle hp1 hJ5_l3 c59511
        have h59514 : ib p1 1 1599 := ib_w 1 1599 h59513.1 (by decide)
        have h59515 : ib J5_l3 0 1598 := ib_w 0 1598 h59513.2 (by decide)
        refine lv_iconst (v := 3) hx hb dX9_check_10 (by decide) ?_
        refine lv_iload_n hx hb dX9_check_11 rfl (lv_at hl 2 rfl) ?_
        refine lv_imul hx hb dX9_check_12 ?_
        refine lv_topi (fun z59516 ez59516 => ?_)
        refine lv_aload_n hx hb dX9_check_13 rfl (lv_at hl 0 rfl) ?_
        refine lv_iload_n hx hb dX9_check_14 rfl (lv_at hl 3 rfl) ?_
        refine va_iald hx hb C0.2.2.2.2.2.1 hP 0 0 rfl rfl (ib_in 1600 h59515 (by decide)) dX9_check_15 ?_
        refine lv_topi (fun z59517 ez59517 => ?_)
        refine lv_iadd hx hb dX9_check_16 ?_
        refine lv_topi (fun z59518 ez59518 => ?_)
        refine lv_sipush (v := 251) hx hb dX9_check_17 (by decide) ?_
        refine lv_irem hx hb dX9_check_20 (by decide) ?_
        refine lv_topi (fun z59519 ez59519 => ?_)
        refine lv_istore_n (lv' := [(2, .int z59519), (0, .ref a_arg0), (1, .int p1), (3, .int J5_l3)]) hx hb dX9_check_21 rfl hl (by decide) rfl (fun ls hl => ?_)
        obtain ⟨z59520, ez59520⟩ : ∃ y : Int32, y = J5_l3 + 1 := ⟨_, rfl⟩
        refine lv_iinc (v := z59520) (lv' := [(3, .int z59520), (2, .int z59519), (0, .ref a_arg0), (1, .int p1)]) hx hb dX9_check_22 hl (k := 3) rfl (by rw [ez59520]; rfl) (by decide) rfl (fun ls hl => ?_)
        have h59521 := ib_add h59515 (ib_c 1 1 1 (by decide)) (by decide)
        rw [← ez59520] at h59521
        have h59522 : ib z59520 1 1599 := ib_w 1 1599 h59521.1 (by decide)
        refine lv_goto (tgt := 5) hx hb dX9_check_25 (by decide) ?_
        exact ih5 z59519 z59520 H locs ls (ib_w 0 1599 h59522 (by decide)) (by have := h59521.2; have : (1 : Int32).toInt = 1 := (by decide); omega) hP hD hS (lv_sub hl [2, 3, 1, 0] rfl)
  refine lv_bipush (v := 101) hx hb dX9_check_0 (by decide) ?_
  refine lv_istore_n (lv' := [(2, .int 101), (0, .ref a_arg0), (1, .int p1)]) hx hb dX9_check_2 rfl hl (by decide) rfl (fun ls hl => ?_)
  refine lv_iconst (v := 0) hx hb dX9_check_3 (by decide) ?_
  refine lv_istore_n (lv' := [(3, .int 0), (2, .int 101), (0, .ref a_arg0), (1, .int p1)]) hx hb dX9_check_4 rfl hl (by decide) rfl (fun ls hl => ?_)
  exact jn5 1601 101 0 H locs ls (ib_w 0 1599 (ib_c 0 0 0 (by decide)) (by decide)) (by have := (ib_c 0 0 0 (by decide)); unfold ib at this; omega) hP hD hS (lv_sub hl [2, 3, 1, 0] rfl)
set_option maxHeartbeats 4000000 in
set_option maxRecDepth 100000 in
theorem s_X9_deny (l : Launch) (dC : Nat → ClassId) (dI : Nat → Nat → Nat) (cy : Nat → ClassId) (sq : Nat → Nat) (a_this : Nat) (a_this_tape : Nat) (x_this_tapeSize : Int32) (a_this_plan : Nat) (a_this_spare : Nat) (a_this_now : Nat) (a_this_history : Nat) (a_this_machine : Nat) (a_this_reader : Nat) (a_this_street : Nat) (a_this_choice : Nat) (a_this_ahead : Nat) (a_this_watch : Nat) (a_this_octets : Nat) (x_this_octetCount : Int32) (a_this_refusals : Nat) (g_this_refusals : Nat → Int32) (x_this_drawn : Int64) (p0 : Int32) (hx_this_tapeSize : ib x_this_tapeSize 0 1600) (hx_this_octetCount : ib x_this_octetCount 0 11) (hp0 : ib p0 0 5) : k_Met l yX9_deny cX9_deny 2 (some .boolean) { frames := 0, cells := 0, slots := 0, locals := 0 } dC dI cy sq [.ref a_this, .int p0] [(a_this, .inr (9, [.ref a_this_tape, .int x_this_tapeSize, .ref a_this_plan, .ref a_this_spare, .ref a_this_now, .ref a_this_history, .ref a_this_machine, .ref a_this_reader, .ref a_this_street, .ref a_this_choice, .ref a_this_ahead, .ref a_this_watch, .ref a_this_octets, .int x_this_octetCount, .ref a_this_refusals, .long x_this_drawn])), (a_this_refusals, .inl (cy 0, 6, .inl g_this_refusals))] (k_Qi dC dI (fun (r : Int32) (n0 : (Nat → Int32)) => ib r 0 0) (fun n0 : (Nat → Int32) => [(a_this, .inr (9, [.ref a_this_tape, .int x_this_tapeSize, .ref a_this_plan, .ref a_this_spare, .ref a_this_now, .ref a_this_history, .ref a_this_machine, .ref a_this_reader, .ref a_this_street, .ref a_this_choice, .ref a_this_ahead, .ref a_this_watch, .ref a_this_octets, .int x_this_octetCount, .ref a_this_refusals, .long x_this_drawn])), (a_this_refusals, .inl (cy 0, 6, .inl n0))])) := by
  refine k_ofW2 (by decide +kernel) (Nat.le_of_ble_eq_true rfl) ?_
  intro p e s m below meth c A ls H locs args Q hQ C0 hr hlk hin hP hD hA hS hl
  have C0 : k_cx p s m args c cX9_deny 2 RX9 dC dI cy sq := C0
  have hx := C0.1
  have hb := C0.2.1
  have hl : lv_has ls 2 [(0, .ref a_this), (1, .int p0)] := hl
  refine lv_aload_n hx hb dX9_deny_0 rfl (lv_at hl 0 rfl) ?_
  refine k_get C0 fg_X9_95 hP 0 rfl rfl dX9_deny_1 ?_
  refine lv_iload_n hx hb dX9_deny_4 rfl (lv_at hl 1 rfl) ?_
  refine lv_dup2_11 hx hb dX9_deny_5 rfl rfl ?_
  refine va_iald hx hb C0.2.2.2.2.2.1 hP 1 0 rfl rfl (ib_in 6 hp0 (by decide)) dX9_deny_6 ?_
  refine lv_topi (fun z63021 ez63021 => ?_)
  refine lv_iconst (v := 1) hx hb dX9_deny_7 (by decide) ?_
  refine lv_iadd hx hb dX9_deny_8 ?_
  refine lv_topi (fun z63022 ez63022 => ?_)
  refine va_iast hx hb C0.2.2.2.2.2.1 hP hD hS 1 0 rfl rfl (ib_in 6 hp0 (by decide)) dX9_deny_9 (fun H locs hP hD hS => ?_)
  have hP : va_P (dC, dI) vwCl [(a_this, .inr (9, [.ref a_this_tape, .int x_this_tapeSize, .ref a_this_plan, .ref a_this_spare, .ref a_this_now, .ref a_this_history, .ref a_this_machine, .ref a_this_reader, .ref a_this_street, .ref a_this_choice, .ref a_this_ahead, .ref a_this_watch, .ref a_this_octets, .int x_this_octetCount, .ref a_this_refusals, .long x_this_drawn])), (a_this_refusals, .inl (cy 0, 6, .inl (upd g_this_refusals (Int32.toNatClampNeg p0) z63022)))] H := hP
  have hD : va_D A [(a_this, .inr (9, [.ref a_this_tape, .int x_this_tapeSize, .ref a_this_plan, .ref a_this_spare, .ref a_this_now, .ref a_this_history, .ref a_this_machine, .ref a_this_reader, .ref a_this_street, .ref a_this_choice, .ref a_this_ahead, .ref a_this_watch, .ref a_this_octets, .int x_this_octetCount, .ref a_this_refusals, .long x_this_drawn])), (a_this_refusals, .inl (cy 0, 6, .inl (upd g_this_refusals (Int32.toNatClampNeg p0) z63022)))] := hD
  generalize upd g_this_refusals (Int32.toNatClampNeg p0) z63022 = f63023 at hP hD
  refine lv_iconst (v := 0) hx hb dX9_deny_10 (by decide) ?_
  subst hQ; exact k_iret hx hb hr hlk (k_nb 0 (by decide)) f63023 hS (ib_w 0 0 (ib_c 0 0 0 (by decide)) (by decide)) hP hD (Nat.le_of_ble_eq_true rfl) (Nat.le_of_ble_eq_true rfl) dX9_deny_11
set_option maxHeartbeats 4000000 in
set_option maxRecDepth 100000 in
theorem s_X9_isKind (l : Launch) (dC : Nat → ClassId) (dI : Nat → Nat → Nat) (cy : Nat → ClassId) (sq : Nat → Nat) (a_this : Nat) (a_this_tape : Nat) (x_this_tapeSize : Int32) (a_this_plan : Nat) (x_this_plan_cycle : Int32) (x_this_plan_green : Int32) (x_this_plan_rule : Int32) (x_this_plan_least : Int32) (x_this_plan_away : Int32) (x_this_plan_statements : Int32) (x_this_plan_kinds : Int32) (a_this_plan_calm : Nat) (a_this_plan_pace : Nat) (a_this_plan_trusts : Nat) (x_this_plan_walkers : Int32) (a_this_plan_kindOf : Nat) (a_this_plan_comesAt : Nat) (a_this_plan_comers : Nat) (a_this_plan_names : Nat) (a_this_plan_code : Nat) (x_this_plan_size : Int32) (a_this_plan_spans : Nat) (a_this_spare : Nat) (a_this_now : Nat) (a_this_history : Nat) (a_this_machine : Nat) (a_this_reader : Nat) (a_this_street : Nat) (a_this_choice : Nat) (a_this_ahead : Nat) (a_this_watch : Nat) (a_this_octets : Nat) (x_this_octetCount : Int32) (a_this_refusals : Nat) (x_this_drawn : Int64) (p0 : Int32) (hx_this_tapeSize : ib x_this_tapeSize 0 1600) (hx_this_plan_cycle : ib x_this_plan_cycle 0 120) (hx_this_plan_least : ib x_this_plan_least 0 99) (hx_this_plan_statements : ib x_this_plan_statements 0 81) (hx_this_plan_kinds : ib x_this_plan_kinds 0 6) (hx_this_plan_walkers : ib x_this_plan_walkers 0 12) (hx_this_plan_size : ib x_this_plan_size 0 1600) (hx_this_octetCount : ib x_this_octetCount 0 11) : k_Met l yX9_isKind cX9_isKind 2 (some .boolean) { frames := 0, cells := 0, slots := 0, locals := 0 } dC dI cy sq [.ref a_this, .int p0] [(a_this, .inr (9, [.ref a_this_tape, .int x_this_tapeSize, .ref a_this_plan, .ref a_this_spare, .ref a_this_now, .ref a_this_history, .ref a_this_machine, .ref a_this_reader, .ref a_this_street, .ref a_this_choice, .ref a_this_ahead, .ref a_this_watch, .ref a_this_octets, .int x_this_octetCount, .ref a_this_refusals, .long x_this_drawn])), (a_this_plan, .inr (4, [.int x_this_plan_cycle, .int x_this_plan_green, .int x_this_plan_rule, .int x_this_plan_least, .int x_this_plan_away, .int x_this_plan_statements, .int x_this_plan_kinds, .ref a_this_plan_calm, .ref a_this_plan_pace, .ref a_this_plan_trusts, .int x_this_plan_walkers, .ref a_this_plan_kindOf, .ref a_this_plan_comesAt, .ref a_this_plan_comers, .ref a_this_plan_names, .ref a_this_plan_code, .int x_this_plan_size, .ref a_this_plan_spans]))] (k_Qi dC dI (fun (r : Int32) (_ : Unit) => ib r 0 1 ∧ (¬ r = 0 → ib x_this_plan_kinds 1 6) ∧ (¬ r = 0 → ib p0 0 5)) (fun _ : Unit => [(a_this, .inr (9, [.ref a_this_tape, .int x_this_tapeSize, .ref a_this_plan, .ref a_this_spare, .ref a_this_now, .ref a_this_history, .ref a_this_machine, .ref a_this_reader, .ref a_this_street, .ref a_this_choice, .ref a_this_ahead, .ref a_this_watch, .ref a_this_octets, .int x_this_octetCount, .ref a_this_refusals, .long x_this_drawn])), (a_this_plan, .inr (4, [.int x_this_plan_cycle, .int x_this_plan_green, .int x_this_plan_rule, .int x_this_plan_least, .int x_this_plan_away, .int x_this_plan_statements, .int x_this_plan_kinds, .ref a_this_plan_calm, .ref a_this_plan_pace, .ref a_this_plan_trusts, .int x_this_plan_walkers, .ref a_this_plan_kindOf, .ref a_this_plan_comesAt, .ref a_this_plan_comers, .ref a_this_plan_names, .ref a_this_plan_code, .int x_this_plan_size, .ref a_this_plan_spans]))])) := by
  refine k_ofW2 (by decide +kernel) (Nat.le_of_ble_eq_true rfl) ?_
  intro p e s m below meth c A ls H locs args Q hQ C0 hr hlk hin hP hD hA hS hl
  have C0 : k_cx p s m args c cX9_isKind 2 RX9 dC dI cy sq := C0
  have hx := C0.1
  have hb := C0.2.1
  have hl : lv_has ls 2 [(0, .ref a_this), (1, .int p0)] := hl
  refine lv_iload_n hx hb dX9_isKind_0 rfl (lv_at hl 1 rfl) ?_
  refine lv_if_lt (tgt := 19) hx hb dX9_isKind_1 (by decide) (fun c63124 => ?_) (fun c63124 => ?_)
  · have h63125 := ib_lt (ib_any p0) (ib_c 0 0 0 (by decide)) c63124
    have h63126 : ib p0 (-2147483648) (-1) := ib_w (-2147483648) (-1) h63125.1 (by decide)
    refine lv_iconst (v := 0) hx hb dX9_isKind_19 (by decide) ?_
    subst hQ; exact k_iret hx hb hr hlk (k_nb 0 (by decide)) () hS ⟨ib_w 0 1 (ib_c 0 0 0 (by decide)) (by decide), fun h9 => absurd rfl h9, fun h9 => absurd rfl h9⟩ hP hD (Nat.le_of_ble_eq_true rfl) (Nat.le_of_ble_eq_true rfl) dX9_isKind_20
  · have h63127 := ib_nlt (ib_any p0) (ib_c 0 0 0 (by decide)) c63124
    have h63128 : ib p0 0 2147483647 := ib_w 0 2147483647 h63127.1 (by decide)
    refine lv_iload_n hx hb dX9_isKind_4 rfl (lv_at hl 1 rfl) ?_
    refine lv_aload_n hx hb dX9_isKind_5 rfl (lv_at hl 0 rfl) ?_
    refine k_get C0 fg_X9_20 hP 0 rfl rfl dX9_isKind_6 ?_
    refine k_get C0 fg_X9_148 hP 1 rfl rfl dX9_isKind_9 ?_
    refine lv_icmp_ge (tgt := 19) hx hb dX9_isKind_12 (by decide) (fun c63129 => ?_) (fun c63129 => ?_)
    · have h63130 := ib_le hx_this_plan_kinds h63128 c63129
      refine lv_iconst (v := 0) hx hb dX9_isKind_19 (by decide) ?_
      subst hQ; exact k_iret hx hb hr hlk (k_nb 0 (by decide)) () hS ⟨ib_w 0 1 (ib_c 0 0 0 (by decide)) (by decide), fun h9 => absurd rfl h9, fun h9 => absurd rfl h9⟩ hP hD (Nat.le_of_ble_eq_true rfl) (Nat.le_of_ble_eq_true rfl) dX9_isKind_20
    · have h63131 := ib_nle hx_this_plan_kinds h63128 c63129
      have h63132 : ib x_this_plan_kinds 1 6 := ib_w 1 6 h63131.1 (by decide)
      have h63133 : ib p0 0 5 := ib_w 0 5 h63131.2 (by decide)
      refine lv_iconst (v := 1) hx hb dX9_isKind_15 (by decide) ?_
      refine lv_goto (tgt := 20) hx hb dX9_isKind_16 (by decide) ?_
      subst hQ; exact k_iret hx hb hr hlk (k_nb 1 (by decide)) () hS ⟨ib_w 0 1 (ib_c 1 1 1 (by decide)) (by decide), fun _ => ib_w 1 6 h63132 (by decide), fun _ => ib_w 0 5 h63133 (by decide)⟩ hP hD (Nat.le_of_ble_eq_true rfl) (Nat.le_of_ble_eq_true rfl) dX9_isKind_20
set_option maxHeartbeats 4000000 in
set_option maxRecDepth 100000 in
theorem s_X9_drawAbsent (l : Launch) (dC : Nat → ClassId) (dI : Nat → Nat → Nat) (cy : Nat → ClassId) (sq : Nat → Nat) (a_this : Nat) (a_this_tape : Nat) (x_this_tapeSize : Int32) (a_this_plan : Nat) (x_this_plan_cycle : Int32) (x_this_plan_green : Int32) (x_this_plan_rule : Int32) (x_this_plan_least : Int32) (x_this_plan_away : Int32) (x_this_plan_statements : Int32) (x_this_plan_kinds : Int32) (a_this_plan_calm : Nat) (a_this_plan_pace : Nat) (a_this_plan_trusts : Nat) (x_this_plan_walkers : Int32) (a_this_plan_kindOf : Nat) (a_this_plan_comesAt : Nat) (a_this_plan_comers : Nat) (a_this_plan_names : Nat) (a_this_plan_code : Nat) (x_this_plan_size : Int32) (a_this_plan_spans : Nat) (a_this_spare : Nat) (a_this_now : Nat) (a_this_history : Nat) (a_this_machine : Nat) (a_this_reader : Nat) (a_this_street : Nat) (a_this_choice : Nat) (a_this_ahead : Nat) (a_this_watch : Nat) (a_this_octets : Nat) (x_this_octetCount : Int32) (a_this_refusals : Nat) (x_this_drawn : Int64) (hx_this_tapeSize : ib x_this_tapeSize 0 1600) (hx_this_plan_cycle : ib x_this_plan_cycle 0 120) (hx_this_plan_least : ib x_this_plan_least 0 99) (hx_this_plan_statements : ib x_this_plan_statements 0 81) (hx_this_plan_kinds : ib x_this_plan_kinds 0 6) (hx_this_plan_walkers : ib x_this_plan_walkers 0 12) (hx_this_plan_size : ib x_this_plan_size 0 1600) (hx_this_octetCount : ib x_this_octetCount 0 11) : k_Met l yX9_drawAbsent cX9_drawAbsent 3 (some .int) { frames := 0, cells := 0, slots := 0, locals := 0 } dC dI cy sq [.ref a_this] [(a_this, .inr (9, [.ref a_this_tape, .int x_this_tapeSize, .ref a_this_plan, .ref a_this_spare, .ref a_this_now, .ref a_this_history, .ref a_this_machine, .ref a_this_reader, .ref a_this_street, .ref a_this_choice, .ref a_this_ahead, .ref a_this_watch, .ref a_this_octets, .int x_this_octetCount, .ref a_this_refusals, .long x_this_drawn])), (a_this_plan, .inr (4, [.int x_this_plan_cycle, .int x_this_plan_green, .int x_this_plan_rule, .int x_this_plan_least, .int x_this_plan_away, .int x_this_plan_statements, .int x_this_plan_kinds, .ref a_this_plan_calm, .ref a_this_plan_pace, .ref a_this_plan_trusts, .int x_this_plan_walkers, .ref a_this_plan_kindOf, .ref a_this_plan_comesAt, .ref a_this_plan_comers, .ref a_this_plan_names, .ref a_this_plan_code, .int x_this_plan_size, .ref a_this_plan_spans]))] (k_Qi dC dI (fun (r : Int32) (n0 : Int64) => True) (fun n0 : Int64 => [(a_this, .inr (9, [.ref a_this_tape, .int x_this_tapeSize, .ref a_this_plan, .ref a_this_spare, .ref a_this_now, .ref a_this_history, .ref a_this_machine, .ref a_this_reader, .ref a_this_street, .ref a_this_choice, .ref a_this_ahead, .ref a_this_watch, .ref a_this_octets, .int x_this_octetCount, .ref a_this_refusals, .long n0])), (a_this_plan, .inr (4, [.int x_this_plan_cycle, .int x_this_plan_green, .int x_this_plan_rule, .int x_this_plan_least, .int x_this_plan_away, .int x_this_plan_statements, .int x_this_plan_kinds, .ref a_this_plan_calm, .ref a_this_plan_pace, .ref a_this_plan_trusts, .int x_this_plan_walkers, .ref a_this_plan_kindOf, .ref a_this_plan_comesAt, .ref a_this_plan_comers, .ref a_this_plan_names, .ref a_this_plan_code, .int x_this_plan_size, .ref a_this_plan_spans]))])) := by
  refine k_ofW2 (by decide +kernel) (Nat.le_of_ble_eq_true rfl) ?_
  intro p e s m below meth c A ls H locs args Q hQ C0 hr hlk hin hP hD hA hS hl
  have C0 : k_cx p s m args c cX9_drawAbsent 3 RX9 dC dI cy sq := C0
  have hx := C0.1
  have hb := C0.2.1
  have hl : lv_has ls 3 [(0, .ref a_this)] := hl
  have jn4 : ∀ (n : Nat) (J4_l2 : Int32) (J4_c0_15 : Int64) (J4_l1 : Int32) (H : Heap) (locs : List Loc) (ls : Array Slot), ib J4_l2 0 12 → 13 ≤ J4_l2.toInt + (n : Int) → va_P (dC, dI) vwCl [(a_this, .inr (9, [.ref a_this_tape, .int x_this_tapeSize, .ref a_this_plan, .ref a_this_spare, .ref a_this_now, .ref a_this_history, .ref a_this_machine, .ref a_this_reader, .ref a_this_street, .ref a_this_choice, .ref a_this_ahead, .ref a_this_watch, .ref a_this_octets, .int x_this_octetCount, .ref a_this_refusals, .long J4_c0_15])), (a_this_plan, .inr (4, [.int x_this_plan_cycle, .int x_this_plan_green, .int x_this_plan_rule, .int x_this_plan_least, .int x_this_plan_away, .int x_this_plan_statements, .int x_this_plan_kinds, .ref a_this_plan_calm, .ref a_this_plan_pace, .ref a_this_plan_trusts, .int x_this_plan_walkers, .ref a_this_plan_kindOf, .ref a_this_plan_comesAt, .ref a_this_plan_comers, .ref a_this_plan_names, .ref a_this_plan_code, .int x_this_plan_size, .ref a_this_plan_spans]))] H → va_D A [(a_this, .inr (9, [.ref a_this_tape, .int x_this_tapeSize, .ref a_this_plan, .ref a_this_spare, .ref a_this_now, .ref a_this_history, .ref a_this_machine, .ref a_this_reader, .ref a_this_street, .ref a_this_choice, .ref a_this_ahead, .ref a_this_watch, .ref a_this_octets, .int x_this_octetCount, .ref a_this_refusals, .long J4_c0_15])), (a_this_plan, .inr (4, [.int x_this_plan_cycle, .int x_this_plan_green, .int x_this_plan_rule, .int x_this_plan_least, .int x_this_plan_away, .int x_this_plan_statements, .int x_this_plan_kinds, .ref a_this_plan_calm, .ref a_this_plan_pace, .ref a_this_plan_trusts, .int x_this_plan_walkers, .ref a_this_plan_kindOf, .ref a_this_plan_comesAt, .ref a_this_plan_comers, .ref a_this_plan_names, .ref a_this_plan_code, .int x_this_plan_size, .ref a_this_plan_spans]))] → va_S A s.heap H locs → lv_has ls 3 [(0, .ref a_this), (1, .int J4_l1), (2, .int J4_l2)] → W p l e { frames := 0, cells := 0, slots := 0, locals := 0 } s m args below meth c H locs 0 0 Q (F0 m 4 ls []) := by
    intro n
    induction n with
    | zero =>
      intro J4_l2 J4_c0_15 J4_l1 H locs ls hJ4_l2 hm
      exact absurd hm (by have := hJ4_l2; unfold ib at this; omega)
    | succ n ih =>
      intro J4_l2 J4_c0_15 J4_l1 H locs ls hJ4_l2 hm4 hP hD hS hl
      have ih4 := ih
      have jn65 : ∀ (J65_l1 : Int32) (J65_c0_15 : Int64) (H : Heap) (locs : List Loc) (ls : Array Slot), ib J4_l2 0 11 → ib x_this_plan_walkers 1 12 → va_P (dC, dI) vwCl [(a_this, .inr (9, [.ref a_this_tape, .int x_this_tapeSize, .ref a_this_plan, .ref a_this_spare, .ref a_this_now, .ref a_this_history, .ref a_this_machine, .ref a_this_reader, .ref a_this_street, .ref a_this_choice, .ref a_this_ahead, .ref a_this_watch, .ref a_this_octets, .int x_this_octetCount, .ref a_this_refusals, .long J65_c0_15])), (a_this_plan, .inr (4, [.int x_this_plan_cycle, .int x_this_plan_green, .int x_this_plan_rule, .int x_this_plan_least, .int x_this_plan_away, .int x_this_plan_statements, .int x_this_plan_kinds, .ref a_this_plan_calm, .ref a_this_plan_pace, .ref a_this_plan_trusts, .int x_this_plan_walkers, .ref a_this_plan_kindOf, .ref a_this_plan_comesAt, .ref a_this_plan_comers, .ref a_this_plan_names, .ref a_this_plan_code, .int x_this_plan_size, .ref a_this_plan_spans]))] H → va_D A [(a_this, .inr (9, [.ref a_this_tape, .int x_this_tapeSize, .ref a_this_plan, .ref a_this_spare, .ref a_this_now, .ref a_this_history, .ref a_this_machine, .ref a_this_reader, .ref a_this_street, .ref a_this_choice, .ref a_this_ahead, .ref a_this_watch, .ref a_this_octets, .int x_this_octetCount, .ref a_this_refusals, .long J65_c0_15])), (a_this_plan, .inr (4, [.int x_this_plan_cycle, .int x_this_plan_green, .int x_this_plan_rule, .int x_this_plan_least, .int x_this_plan_away, .int x_this_plan_statements, .int x_this_plan_kinds, .ref a_this_plan_calm, .ref a_this_plan_pace, .ref a_this_plan_trusts, .int x_this_plan_walkers, .ref a_this_plan_kindOf, .ref a_this_plan_comesAt, .ref a_this_plan_comers, .ref a_this_plan_names, .ref a_this_plan_code, .int x_this_plan_size, .ref a_this_plan_spans]))] → va_S A s.heap H locs → lv_has ls 3 [(0, .ref a_this), (1, .int J65_l1), (2, .int J4_l2)] → W p l e { frames := 0, cells := 0, slots := 0, locals := 0 } s m args below meth c H locs 0 0 Q (F0 m 65 ls []) := by
        intro J65_l1 J65_c0_15 H locs ls hJ65_l2 hJ65_c1_10 hP hD hS hl
        obtain ⟨z65862, ez65862⟩ : ∃ y : Int32, y = J4_l2 + 1 := ⟨_, rfl⟩
        refine lv_iinc (v := z65862) (lv' := [(2, .int z65862), (0, .ref a_this), (1, .int J65_l1)]) hx hb dX9_drawAbsent_65 hl (k := 2) rfl (by rw [ez65862]; rfl) (by decide) rfl (fun ls hl => ?_)
        have h65863 := ib_add hJ65_l2 (ib_c 1 1 1 (by decide)) (by decide)
        rw [← ez65862] at h65863
        have h65864 : ib z65862 1 12 := ib_w 1 12 h65863.1 (by decide)
        refine lv_goto (tgt := 4) hx hb dX9_drawAbsent_68 (by decide) ?_
        exact ih4 z65862 J65_c0_15 J65_l1 H locs ls (ib_w 0 12 h65864 (by decide)) (by have := h65863.2; have : (1 : Int32).toInt = 1 := (by decide); omega) hP hD hS (lv_sub hl [1, 2, 0] rfl)
      refine lv_iload_n hx hb dX9_drawAbsent_4 rfl (lv_at hl 2 rfl) ?_
      refine lv_aload_n hx hb dX9_drawAbsent_5 rfl (lv_at hl 0 rfl) ?_
      refine k_get C0 fg_X9_20 hP 0 rfl rfl dX9_drawAbsent_6 ?_
      refine k_get C0 fg_X9_151 hP 1 rfl rfl dX9_drawAbsent_9 ?_
      refine lv_icmp_ge (tgt := 71) hx hb dX9_drawAbsent_12 (by decide) (fun c65865 => ?_) (fun c65865 => ?_)
      · have h65866 := ib_le hx_this_plan_walkers hJ4_l2 c65865
        refine lv_iload_n hx hb dX9_drawAbsent_71 rfl (lv_at hl 1 rfl) ?_
        subst hQ; exact k_iret hx hb hr hlk rfl J4_c0_15 hS True.intro hP hD (Nat.le_of_ble_eq_true rfl) (Nat.le_of_ble_eq_true rfl) dX9_drawAbsent_72
      · have h65867 := ib_nle hx_this_plan_walkers hJ4_l2 c65865
        have h65868 : ib x_this_plan_walkers 1 12 := ib_w 1 12 h65867.1 (by decide)
        have h65869 : ib J4_l2 0 11 := ib_w 0 11 h65867.2 (by decide)
        refine lv_aload_n hx hb dX9_drawAbsent_15 rfl (lv_at hl 0 rfl) ?_
        refine lv_ldc2 hx hb C0.2.2.2.1 (C0.2.2.2.2.1 _ wd1340) dX9_drawAbsent_16 ?_
        refine lv_aload_n hx hb dX9_drawAbsent_19 rfl (lv_at hl 0 rfl) ?_
        refine k_get C0 fg_X9_98 hP 0 rfl rfl dX9_drawAbsent_20 ?_
        refine lv_lmul hx hb dX9_drawAbsent_23 ?_
        refine lv_topl (fun z65870 ez65870 => ?_)
        refine lv_ldc2 hx hb C0.2.2.2.1 (C0.2.2.2.2.1 _ wd1341) dX9_drawAbsent_24 ?_
        refine lv_ladd hx hb dX9_drawAbsent_27 ?_
        refine lv_topl (fun z65871 ez65871 => ?_)
        refine lv_ldc2 hx hb C0.2.2.2.1 (C0.2.2.2.2.1 _ wd1342) dX9_drawAbsent_28 ?_
        refine lv_land hx hb dX9_drawAbsent_31 ?_
        refine lv_topl (fun z65872 ez65872 => ?_)
        refine k_put C0 fp_X9_98 hP hD hS 0 rfl rfl rfl (Nat.le_of_ble_eq_true rfl) dX9_drawAbsent_32 (fun H locs hP hD hS => ?_)
        have hP : va_P (dC, dI) vwCl [(a_this, .inr (9, [.ref a_this_tape, .int x_this_tapeSize, .ref a_this_plan, .ref a_this_spare, .ref a_this_now, .ref a_this_history, .ref a_this_machine, .ref a_this_reader, .ref a_this_street, .ref a_this_choice, .ref a_this_ahead, .ref a_this_watch, .ref a_this_octets, .int x_this_octetCount, .ref a_this_refusals, .long z65872])), (a_this_plan, .inr (4, [.int x_this_plan_cycle, .int x_this_plan_green, .int x_this_plan_rule, .int x_this_plan_least, .int x_this_plan_away, .int x_this_plan_statements, .int x_this_plan_kinds, .ref a_this_plan_calm, .ref a_this_plan_pace, .ref a_this_plan_trusts, .int x_this_plan_walkers, .ref a_this_plan_kindOf, .ref a_this_plan_comesAt, .ref a_this_plan_comers, .ref a_this_plan_names, .ref a_this_plan_code, .int x_this_plan_size, .ref a_this_plan_spans]))] H := hP
        have hD : va_D A [(a_this, .inr (9, [.ref a_this_tape, .int x_this_tapeSize, .ref a_this_plan, .ref a_this_spare, .ref a_this_now, .ref a_this_history, .ref a_this_machine, .ref a_this_reader, .ref a_this_street, .ref a_this_choice, .ref a_this_ahead, .ref a_this_watch, .ref a_this_octets, .int x_this_octetCount, .ref a_this_refusals, .long z65872])), (a_this_plan, .inr (4, [.int x_this_plan_cycle, .int x_this_plan_green, .int x_this_plan_rule, .int x_this_plan_least, .int x_this_plan_away, .int x_this_plan_statements, .int x_this_plan_kinds, .ref a_this_plan_calm, .ref a_this_plan_pace, .ref a_this_plan_trusts, .int x_this_plan_walkers, .ref a_this_plan_kindOf, .ref a_this_plan_comesAt, .ref a_this_plan_comers, .ref a_this_plan_names, .ref a_this_plan_code, .int x_this_plan_size, .ref a_this_plan_spans]))] := hD
        refine lv_aload_n hx hb dX9_drawAbsent_35 rfl (lv_at hl 0 rfl) ?_
        refine k_get C0 fg_X9_98 hP 0 rfl rfl dX9_drawAbsent_36 ?_
        refine lv_ldc2 hx hb C0.2.2.2.1 (C0.2.2.2.2.1 _ wd1343) dX9_drawAbsent_39 ?_
        refine lv_ldiv hx hb dX9_drawAbsent_42 (by decide) ?_
        refine lv_topl (fun z65873 ez65873 => ?_)
        refine lv_ldc2 hx hb C0.2.2.2.1 (C0.2.2.2.2.1 _ wd1344) dX9_drawAbsent_43 ?_
        refine lv_lrem hx hb dX9_drawAbsent_46 (by decide) ?_
        refine lv_topl (fun z65874 ez65874 => ?_)
        refine lv_aload_n hx hb dX9_drawAbsent_47 rfl (lv_at hl 0 rfl) ?_
        refine k_get C0 fg_X9_20 hP 0 rfl rfl dX9_drawAbsent_48 ?_
        refine k_get C0 fg_X9_348 hP 1 rfl rfl dX9_drawAbsent_51 ?_
        refine lv_i2l (v := x_this_plan_away.toInt64) hx hb dX9_drawAbsent_54 rfl ?_
        refine W.lcmp hx hb dX9_drawAbsent_55 ?_
        refine lv_topi (fun z65875 ez65875 => ?_)
        have h65876 : ib z65875 (-1) 1 := by rw [ez65875]; exact ib_cmp _ _
        refine lv_if_ge (tgt := 65) hx hb dX9_drawAbsent_56 (by decide) (fun c65877 => ?_) (fun c65877 => ?_)
        · have h65878 := ib_le (ib_c 0 0 0 (by decide)) h65876 c65877
          have h65879 : ib z65875 0 1 := ib_w 0 1 h65878.2 (by decide)
          obtain ⟨z65880, ez65880⟩ : ∃ y : Int32, y = J4_l2 + 1 := ⟨_, rfl⟩
          refine lv_iinc (v := z65880) (lv' := [(2, .int z65880), (0, .ref a_this), (1, .int J4_l1)]) hx hb dX9_drawAbsent_65 hl (k := 2) rfl (by rw [ez65880]; rfl) (by decide) rfl (fun ls hl => ?_)
          have h65881 := ib_add h65869 (ib_c 1 1 1 (by decide)) (by decide)
          rw [← ez65880] at h65881
          have h65882 : ib z65880 1 12 := ib_w 1 12 h65881.1 (by decide)
          refine lv_goto (tgt := 4) hx hb dX9_drawAbsent_68 (by decide) ?_
          exact ih4 z65880 z65872 J4_l1 H locs ls (ib_w 0 12 h65882 (by decide)) (by have := h65881.2; have : (1 : Int32).toInt = 1 := (by decide); omega) hP hD hS (lv_sub hl [1, 2, 0] rfl)
        · have h65883 := ib_nle (ib_c 0 0 0 (by decide)) h65876 c65877
          have h65884 : ib z65875 (-1) (-1) := ib_w (-1) (-1) h65883.2 (by decide)
          refine lv_iload_n hx hb dX9_drawAbsent_59 rfl (lv_at hl 1 rfl) ?_
          refine lv_iconst (v := 1) hx hb dX9_drawAbsent_60 (by decide) ?_
          refine lv_iload_n hx hb dX9_drawAbsent_61 rfl (lv_at hl 2 rfl) ?_
          refine lv_ishl hx hb dX9_drawAbsent_62 ?_
          refine lv_topi (fun z65885 ez65885 => ?_)
          refine lv_ior hx hb dX9_drawAbsent_63 ?_
          refine lv_topi (fun z65886 ez65886 => ?_)
          refine lv_istore_n (lv' := [(1, .int z65886), (0, .ref a_this), (2, .int J4_l2)]) hx hb dX9_drawAbsent_64 rfl hl (by decide) rfl (fun ls hl => ?_)
          exact jn65 z65886 z65872 H locs ls (ib_w 0 11 h65869 (by decide)) (ib_w 1 12 h65868 (by decide)) hP hD hS (lv_sub hl [1, 0, 2] rfl)
  refine lv_iconst (v := 0) hx hb dX9_drawAbsent_0 (by decide) ?_
  refine lv_istore_n (lv' := [(1, .int 0), (0, .ref a_this)]) hx hb dX9_drawAbsent_1 rfl hl (by decide) rfl (fun ls hl => ?_)
  refine lv_iconst (v := 0) hx hb dX9_drawAbsent_2 (by decide) ?_
  refine lv_istore_n (lv' := [(2, .int 0), (1, .int 0), (0, .ref a_this)]) hx hb dX9_drawAbsent_3 rfl hl (by decide) rfl (fun ls hl => ?_)
  exact jn4 14 0 x_this_drawn 0 H locs ls (ib_w 0 12 (ib_c 0 0 0 (by decide)) (by decide)) (by have := (ib_c 0 0 0 (by decide)); unfold ib at this; omega) hP hD hS (lv_sub hl [2, 1, 0] rfl)
set_option maxHeartbeats 4000000 in
set_option maxRecDepth 100000 in
theorem s_X9_end (l : Launch) (dC : Nat → ClassId) (dI : Nat → Nat → Nat) (cy : Nat → ClassId) (sq : Nat → Nat) (a_this : Nat) (a_this_tape : Nat) (x_this_tapeSize : Int32) (a_this_plan : Nat) (a_this_spare : Nat) (a_this_now : Nat) (a_this_history : Nat) (a_this_machine : Nat) (a_this_reader : Nat) (a_this_street : Nat) (a_this_choice : Nat) (a_this_ahead : Nat) (a_this_watch : Nat) (a_this_octets : Nat) (x_this_octetCount : Int32) (a_this_refusals : Nat) (g_this_refusals : Nat → Int32) (x_this_drawn : Int64) (p0 : Int32) (hx_this_tapeSize : ib x_this_tapeSize 0 1600) (hx_this_octetCount : ib x_this_octetCount 0 11) : k_Met l yX9_end cX9_end 2 (some .boolean) { frames := 1, cells := 0, slots := 0, locals := 21 } dC dI cy sq [.ref a_this, .int p0] [(a_this, .inr (9, [.ref a_this_tape, .int x_this_tapeSize, .ref a_this_plan, .ref a_this_spare, .ref a_this_now, .ref a_this_history, .ref a_this_machine, .ref a_this_reader, .ref a_this_street, .ref a_this_choice, .ref a_this_ahead, .ref a_this_watch, .ref a_this_octets, .int x_this_octetCount, .ref a_this_refusals, .long x_this_drawn])), (a_this_refusals, .inl (cy 0, 6, .inl g_this_refusals))] (k_Qi dC dI (fun (r : Int32) (u : Int32 × (Nat → Int32)) => match u with | (n0, n1) => ib r 0 1 ∧ ib n0 0 1600 ∧ (¬ r = 0 → ib p0 0 1600)) (fun u : Int32 × (Nat → Int32) => match u with | (n0, n1) => [(a_this, .inr (9, [.ref a_this_tape, .int n0, .ref a_this_plan, .ref a_this_spare, .ref a_this_now, .ref a_this_history, .ref a_this_machine, .ref a_this_reader, .ref a_this_street, .ref a_this_choice, .ref a_this_ahead, .ref a_this_watch, .ref a_this_octets, .int x_this_octetCount, .ref a_this_refusals, .long x_this_drawn])), (a_this_refusals, .inl (cy 0, 6, .inl n1))])) := by
  refine k_ofW2 (by decide +kernel) (Nat.le_of_ble_eq_true rfl) ?_
  intro p e s m below meth c A ls H locs args Q hQ C0 hr hlk hin hP hD hA hS hl
  have C0 : k_cx p s m args c cX9_end 2 RX9 dC dI cy sq := C0
  have hx := C0.1
  have hb := C0.2.1
  have hl : lv_has ls 2 [(0, .ref a_this), (1, .int p0)] := hl
  refine lv_iload_n hx hb dX9_end_0 rfl (lv_at hl 1 rfl) ?_
  refine lv_if_lt (tgt := 12) hx hb dX9_end_1 (by decide) (fun c66067 => ?_) (fun c66067 => ?_)
  · have h66068 := ib_lt (ib_any p0) (ib_c 0 0 0 (by decide)) c66067
    have h66069 : ib p0 (-2147483648) (-1) := ib_w (-2147483648) (-1) h66068.1 (by decide)
    refine lv_aload_n hx hb dX9_end_12 rfl (lv_at hl 0 rfl) ?_
    refine lv_iconst (v := 0) hx hb dX9_end_13 (by decide) ?_
    refine k_ji hP hD hS hA [0, 1] [] (wr := []) rfl rfl (by decide) (by decide) (by decide) 0 0 (Nat.le_of_ble_eq_true rfl) (Nat.le_of_ble_eq_true rfl) (fun hPc hDc => k_runV (As := [.int 0]) (rest := []) C0 (s_X9_deny l dC dI cy sq a_this a_this_tape x_this_tapeSize a_this_plan a_this_spare a_this_now a_this_history a_this_machine a_this_reader a_this_street a_this_choice a_this_ahead a_this_watch a_this_octets x_this_octetCount a_this_refusals g_this_refusals x_this_drawn 0 (ib_w 0 1600 hx_this_tapeSize (by decide)) (ib_w 0 11 hx_this_octetCount (by decide)) (ib_w 0 5 (ib_c 0 0 0 (by decide)) (by decide))) mV_X9_110 hPc hDc rfl rfl rfl hl rfl rfl (Nat.le_of_ble_eq_true rfl) ⟨(Nat.le_of_ble_eq_true rfl), (Nat.le_of_ble_eq_true rfl)⟩ ⟨(Nat.le_of_ble_eq_true rfl), (Nat.le_of_ble_eq_true rfl)⟩ dX9_end_14) (fun r66070 u66071 H locs hw hP hD hS => ?_)
    obtain ⟨f66072, ef66072⟩ : ∃ z, z = u66071 := ⟨_, rfl⟩; subst ef66072
    try dsimp only at hP hD hw
    have hP : va_P (dC, dI) vwCl [(a_this, .inr (9, [.ref a_this_tape, .int x_this_tapeSize, .ref a_this_plan, .ref a_this_spare, .ref a_this_now, .ref a_this_history, .ref a_this_machine, .ref a_this_reader, .ref a_this_street, .ref a_this_choice, .ref a_this_ahead, .ref a_this_watch, .ref a_this_octets, .int x_this_octetCount, .ref a_this_refusals, .long x_this_drawn])), (a_this_refusals, .inl (cy 0, 6, .inl f66072))] H := hP
    have hD : va_D A [(a_this, .inr (9, [.ref a_this_tape, .int x_this_tapeSize, .ref a_this_plan, .ref a_this_spare, .ref a_this_now, .ref a_this_history, .ref a_this_machine, .ref a_this_reader, .ref a_this_street, .ref a_this_choice, .ref a_this_ahead, .ref a_this_watch, .ref a_this_octets, .int x_this_octetCount, .ref a_this_refusals, .long x_this_drawn])), (a_this_refusals, .inl (cy 0, 6, .inl f66072))] := hD
    have h66073 := hw
    subst hQ; exact k_iret hx hb hr hlk (ib_bool (ib_w 0 1 h66073 (by decide))) ((x_this_tapeSize, f66072)) hS ⟨ib_w 0 1 h66073 (by decide), ib_w 0 1600 hx_this_tapeSize (by decide), fun h9 => absurd (ib_one h66073 (by decide)) h9⟩ hP hD (Nat.le_of_ble_eq_true rfl) (Nat.le_of_ble_eq_true rfl) dX9_end_17
  · have h66074 := ib_nlt (ib_any p0) (ib_c 0 0 0 (by decide)) c66067
    have h66075 : ib p0 0 2147483647 := ib_w 0 2147483647 h66074.1 (by decide)
    refine lv_iload_n hx hb dX9_end_4 rfl (lv_at hl 1 rfl) ?_
    refine lv_aload_n hx hb dX9_end_5 rfl (lv_at hl 0 rfl) ?_
    refine k_get C0 fg_X9_13 hP 0 rfl rfl dX9_end_6 ?_
    refine lv_icmp_le (tgt := 18) hx hb dX9_end_9 (by decide) (fun c66076 => ?_) (fun c66076 => ?_)
    · have h66077 := ib_le h66075 hx_this_tapeSize c66076
      have h66078 : ib p0 0 1600 := ib_w 0 1600 h66077.1 (by decide)
      refine lv_aload_n hx hb dX9_end_18 rfl (lv_at hl 0 rfl) ?_
      refine lv_iload_n hx hb dX9_end_19 rfl (lv_at hl 1 rfl) ?_
      refine k_put C0 fp_X9_13 hP hD hS 0 rfl rfl rfl (Nat.le_of_ble_eq_true rfl) dX9_end_20 (fun H locs hP hD hS => ?_)
      have hP : va_P (dC, dI) vwCl [(a_this, .inr (9, [.ref a_this_tape, .int p0, .ref a_this_plan, .ref a_this_spare, .ref a_this_now, .ref a_this_history, .ref a_this_machine, .ref a_this_reader, .ref a_this_street, .ref a_this_choice, .ref a_this_ahead, .ref a_this_watch, .ref a_this_octets, .int x_this_octetCount, .ref a_this_refusals, .long x_this_drawn])), (a_this_refusals, .inl (cy 0, 6, .inl g_this_refusals))] H := hP
      have hD : va_D A [(a_this, .inr (9, [.ref a_this_tape, .int p0, .ref a_this_plan, .ref a_this_spare, .ref a_this_now, .ref a_this_history, .ref a_this_machine, .ref a_this_reader, .ref a_this_street, .ref a_this_choice, .ref a_this_ahead, .ref a_this_watch, .ref a_this_octets, .int x_this_octetCount, .ref a_this_refusals, .long x_this_drawn])), (a_this_refusals, .inl (cy 0, 6, .inl g_this_refusals))] := hD
      refine lv_iconst (v := 1) hx hb dX9_end_23 (by decide) ?_
      subst hQ; exact k_iret hx hb hr hlk (k_nb 1 (by decide)) ((p0, g_this_refusals)) hS ⟨ib_w 0 1 (ib_c 1 1 1 (by decide)) (by decide), ib_w 0 1600 h66078 (by decide), fun _ => ib_w 0 1600 h66078 (by decide)⟩ hP hD (Nat.le_of_ble_eq_true rfl) (Nat.le_of_ble_eq_true rfl) dX9_end_24
    · have h66079 := ib_nle h66075 hx_this_tapeSize c66076
      have h66080 : ib p0 1 2147483647 := ib_w 1 2147483647 h66079.1 (by decide)
      refine lv_aload_n hx hb dX9_end_12 rfl (lv_at hl 0 rfl) ?_
      refine lv_iconst (v := 0) hx hb dX9_end_13 (by decide) ?_
      refine k_ji hP hD hS hA [0, 1] [] (wr := []) rfl rfl (by decide) (by decide) (by decide) 0 0 (Nat.le_of_ble_eq_true rfl) (Nat.le_of_ble_eq_true rfl) (fun hPc hDc => k_runV (As := [.int 0]) (rest := []) C0 (s_X9_deny l dC dI cy sq a_this a_this_tape x_this_tapeSize a_this_plan a_this_spare a_this_now a_this_history a_this_machine a_this_reader a_this_street a_this_choice a_this_ahead a_this_watch a_this_octets x_this_octetCount a_this_refusals g_this_refusals x_this_drawn 0 (ib_w 0 1600 hx_this_tapeSize (by decide)) (ib_w 0 11 hx_this_octetCount (by decide)) (ib_w 0 5 (ib_c 0 0 0 (by decide)) (by decide))) mV_X9_110 hPc hDc rfl rfl rfl hl rfl rfl (Nat.le_of_ble_eq_true rfl) ⟨(Nat.le_of_ble_eq_true rfl), (Nat.le_of_ble_eq_true rfl)⟩ ⟨(Nat.le_of_ble_eq_true rfl), (Nat.le_of_ble_eq_true rfl)⟩ dX9_end_14) (fun r66081 u66082 H locs hw hP hD hS => ?_)
      obtain ⟨f66083, ef66083⟩ : ∃ z, z = u66082 := ⟨_, rfl⟩; subst ef66083
      try dsimp only at hP hD hw
      have hP : va_P (dC, dI) vwCl [(a_this, .inr (9, [.ref a_this_tape, .int x_this_tapeSize, .ref a_this_plan, .ref a_this_spare, .ref a_this_now, .ref a_this_history, .ref a_this_machine, .ref a_this_reader, .ref a_this_street, .ref a_this_choice, .ref a_this_ahead, .ref a_this_watch, .ref a_this_octets, .int x_this_octetCount, .ref a_this_refusals, .long x_this_drawn])), (a_this_refusals, .inl (cy 0, 6, .inl f66083))] H := hP
      have hD : va_D A [(a_this, .inr (9, [.ref a_this_tape, .int x_this_tapeSize, .ref a_this_plan, .ref a_this_spare, .ref a_this_now, .ref a_this_history, .ref a_this_machine, .ref a_this_reader, .ref a_this_street, .ref a_this_choice, .ref a_this_ahead, .ref a_this_watch, .ref a_this_octets, .int x_this_octetCount, .ref a_this_refusals, .long x_this_drawn])), (a_this_refusals, .inl (cy 0, 6, .inl f66083))] := hD
      have h66084 := hw
      subst hQ; exact k_iret hx hb hr hlk (ib_bool (ib_w 0 1 h66084 (by decide))) ((x_this_tapeSize, f66083)) hS ⟨ib_w 0 1 h66084 (by decide), ib_w 0 1600 hx_this_tapeSize (by decide), fun h9 => absurd (ib_one h66084 (by decide)) h9⟩ hP hD (Nat.le_of_ble_eq_true rfl) (Nat.le_of_ble_eq_true rfl) dX9_end_17
set_option maxHeartbeats 4000000 in
set_option maxRecDepth 100000 in
theorem s_X9_fault (l : Launch) (dC : Nat → ClassId) (dI : Nat → Nat → Nat) (cy : Nat → ClassId) (sq : Nat → Nat) (a_this : Nat) (a_this_tape : Nat) (x_this_tapeSize : Int32) (a_this_plan : Nat) (a_this_spare : Nat) (a_this_now : Nat) (a_this_history : Nat) (a_this_machine : Nat) (a_this_reader : Nat) (x_this_reader_length : Int32) (x_this_reader_at : Int32) (x_this_reader_behind : Int32) (x_this_reader_sort : Int32) (x_this_reader_allowed : Int32) (x_this_reader_fault : Int32) (x_this_reader_place : Int32) (a_this_street : Nat) (a_this_choice : Nat) (a_this_ahead : Nat) (a_this_watch : Nat) (a_this_octets : Nat) (x_this_octetCount : Int32) (a_this_refusals : Nat) (x_this_drawn : Int64) (p0 : Int32) (hx_this_tapeSize : ib x_this_tapeSize 0 1600) (hx_this_reader_length : ib x_this_reader_length 0 1600) (hx_this_reader_at : ib x_this_reader_at 0 1600) (hx_this_reader_behind : ib x_this_reader_behind 0 1600) (hx_this_reader_sort : ib x_this_reader_sort 0 4) (hx_this_octetCount : ib x_this_octetCount 0 11) : k_Met l yX9_fault cX9_fault 2 (some .int) { frames := 0, cells := 0, slots := 0, locals := 0 } dC dI cy sq [.ref a_this, .int p0] [(a_this, .inr (9, [.ref a_this_tape, .int x_this_tapeSize, .ref a_this_plan, .ref a_this_spare, .ref a_this_now, .ref a_this_history, .ref a_this_machine, .ref a_this_reader, .ref a_this_street, .ref a_this_choice, .ref a_this_ahead, .ref a_this_watch, .ref a_this_octets, .int x_this_octetCount, .ref a_this_refusals, .long x_this_drawn])), (a_this_reader, .inr (5, [.ref a_this_tape, .int x_this_reader_length, .int x_this_reader_at, .int x_this_reader_behind, .int x_this_reader_sort, .int x_this_reader_allowed, .ref a_this_spare, .int x_this_reader_fault, .int x_this_reader_place]))] (k_Qi dC dI (fun (r : Int32) (_ : Unit) => True) (fun _ : Unit => [(a_this, .inr (9, [.ref a_this_tape, .int x_this_tapeSize, .ref a_this_plan, .ref a_this_spare, .ref a_this_now, .ref a_this_history, .ref a_this_machine, .ref a_this_reader, .ref a_this_street, .ref a_this_choice, .ref a_this_ahead, .ref a_this_watch, .ref a_this_octets, .int x_this_octetCount, .ref a_this_refusals, .long x_this_drawn])), (a_this_reader, .inr (5, [.ref a_this_tape, .int x_this_reader_length, .int x_this_reader_at, .int x_this_reader_behind, .int x_this_reader_sort, .int x_this_reader_allowed, .ref a_this_spare, .int x_this_reader_fault, .int x_this_reader_place]))])) := by
  refine k_ofW2 (by decide +kernel) (Nat.le_of_ble_eq_true rfl) ?_
  intro p e s m below meth c A ls H locs args Q hQ C0 hr hlk hin hP hD hA hS hl
  have C0 : k_cx p s m args c cX9_fault 2 RX9 dC dI cy sq := C0
  have hx := C0.1
  have hb := C0.2.1
  have hl : lv_has ls 2 [(0, .ref a_this), (1, .int p0)] := hl
  refine lv_iload_n hx hb dX9_fault_0 rfl (lv_at hl 1 rfl) ?_
  rcases Decidable.em (p0 = 0) with s66095_0 | s66095_0
  · subst s66095_0
    refine lv_lookup (tgt := 28) hx hb dX9_fault_1 (by decide) rfl (by decide) ?_
    refine lv_aload_n hx hb dX9_fault_28 rfl (lv_at hl 0 rfl) ?_
    refine k_get C0 fg_X9_53 hP 0 rfl rfl dX9_fault_29 ?_
    refine k_get C0 fg_X9_122 hP 1 rfl rfl dX9_fault_32 ?_
    subst hQ; exact k_iret hx hb hr hlk rfl () hS True.intro hP hD (Nat.le_of_ble_eq_true rfl) (Nat.le_of_ble_eq_true rfl) dX9_fault_35
  rcases Decidable.em (p0 = 1) with s66095_1 | s66095_1
  · subst s66095_1
    refine lv_lookup (tgt := 36) hx hb dX9_fault_1 (by decide) rfl (by decide) ?_
    refine lv_aload_n hx hb dX9_fault_36 rfl (lv_at hl 0 rfl) ?_
    refine k_get C0 fg_X9_53 hP 0 rfl rfl dX9_fault_37 ?_
    refine k_get C0 fg_X9_142 hP 1 rfl rfl dX9_fault_40 ?_
    subst hQ; exact k_iret hx hb hr hlk rfl () hS True.intro hP hD (Nat.le_of_ble_eq_true rfl) (Nat.le_of_ble_eq_true rfl) dX9_fault_43
  refine lv_lookup (tgt := 44) hx hb dX9_fault_1 (by decide) (off := 43) (k_look p0 s66095_0 s66095_1) (by decide) ?_
  refine lv_iconst (v := (-1)) hx hb dX9_fault_44 (by decide) ?_
  subst hQ; exact k_iret hx hb hr hlk rfl () hS True.intro hP hD (Nat.le_of_ble_eq_true rfl) (Nat.le_of_ble_eq_true rfl) dX9_fault_45
set_option maxHeartbeats 4000000 in
set_option maxRecDepth 100000 in
theorem s_X9_has (l : Launch) (dC : Nat → ClassId) (dI : Nat → Nat → Nat) (cy : Nat → ClassId) (sq : Nat → Nat) (a_this : Nat) (a_this_tape : Nat) (x_this_tapeSize : Int32) (a_this_plan : Nat) (x_this_plan_cycle : Int32) (x_this_plan_green : Int32) (x_this_plan_rule : Int32) (x_this_plan_least : Int32) (x_this_plan_away : Int32) (x_this_plan_statements : Int32) (x_this_plan_kinds : Int32) (a_this_plan_calm : Nat) (a_this_plan_pace : Nat) (a_this_plan_trusts : Nat) (x_this_plan_walkers : Int32) (a_this_plan_kindOf : Nat) (a_this_plan_comesAt : Nat) (a_this_plan_comers : Nat) (a_this_plan_names : Nat) (a_this_plan_code : Nat) (x_this_plan_size : Int32) (a_this_plan_spans : Nat) (a_this_spare : Nat) (a_this_now : Nat) (x_this_now_day : Int32) (x_this_now_rule : Int32) (x_this_now_green : Int32) (a_this_now_trusts : Nat) (a_this_history : Nat) (a_this_history_ring : Nat) (x_this_history_next : Int32) (x_this_history_count : Int32) (a_this_machine : Nat) (a_this_reader : Nat) (a_this_street : Nat) (a_this_choice : Nat) (a_this_ahead : Nat) (a_this_watch : Nat) (a_this_watch_seenWalker : Nat) (a_this_watch_seenSecond : Nat) (x_this_watch_rows : Int32) (x_this_watch_compared : Int32) (a_this_watch_seconds : Nat) (x_this_watch_found : Int32) (x_this_watch_foundRules : Int32) (x_this_watch_foundGreen : Int32) (x_this_watch_chosen : Int32) (x_this_watch_chosenLeft : Int32) (a_this_octets : Nat) (x_this_octetCount : Int32) (a_this_refusals : Nat) (x_this_drawn : Int64) (p0 : Int32) (hx_this_tapeSize : ib x_this_tapeSize 0 1600) (hx_this_plan_cycle : ib x_this_plan_cycle 0 120) (hx_this_plan_least : ib x_this_plan_least 0 99) (hx_this_plan_statements : ib x_this_plan_statements 0 81) (hx_this_plan_kinds : ib x_this_plan_kinds 0 6) (hx_this_plan_walkers : ib x_this_plan_walkers 0 12) (hx_this_plan_size : ib x_this_plan_size 0 1600) (hx_this_history_next : ib x_this_history_next 0 19) (hx_this_history_count : ib x_this_history_count 0 20) (hx_this_watch_rows : ib x_this_watch_rows 0 16) (hx_this_watch_compared : ib x_this_watch_compared 0 1) (hx_this_watch_found : ib x_this_watch_found 0 60) (hx_this_octetCount : ib x_this_octetCount 0 11) : k_Met l yX9_has cX9_has 2 (some .int) { frames := 0, cells := 0, slots := 0, locals := 0 } dC dI cy sq [.ref a_this, .int p0] [(a_this, .inr (9, [.ref a_this_tape, .int x_this_tapeSize, .ref a_this_plan, .ref a_this_spare, .ref a_this_now, .ref a_this_history, .ref a_this_machine, .ref a_this_reader, .ref a_this_street, .ref a_this_choice, .ref a_this_ahead, .ref a_this_watch, .ref a_this_octets, .int x_this_octetCount, .ref a_this_refusals, .long x_this_drawn])), (a_this_plan, .inr (4, [.int x_this_plan_cycle, .int x_this_plan_green, .int x_this_plan_rule, .int x_this_plan_least, .int x_this_plan_away, .int x_this_plan_statements, .int x_this_plan_kinds, .ref a_this_plan_calm, .ref a_this_plan_pace, .ref a_this_plan_trusts, .int x_this_plan_walkers, .ref a_this_plan_kindOf, .ref a_this_plan_comesAt, .ref a_this_plan_comers, .ref a_this_plan_names, .ref a_this_plan_code, .int x_this_plan_size, .ref a_this_plan_spans])), (a_this_now, .inr (6, [.int x_this_now_day, .int x_this_now_rule, .int x_this_now_green, .ref a_this_now_trusts])), (a_this_watch, .inr (8, [.ref a_this_street, .ref a_this_watch_seenWalker, .ref a_this_watch_seenSecond, .int x_this_watch_rows, .int x_this_watch_compared, .ref a_this_watch_seconds, .int x_this_watch_found, .int x_this_watch_foundRules, .int x_this_watch_foundGreen, .int x_this_watch_chosen, .int x_this_watch_chosenLeft])), (a_this_history, .inr (2, [.ref a_this_history_ring, .int x_this_history_next, .int x_this_history_count]))] (k_Qi dC dI (fun (r : Int32) (_ : Unit) => True) (fun _ : Unit => [(a_this, .inr (9, [.ref a_this_tape, .int x_this_tapeSize, .ref a_this_plan, .ref a_this_spare, .ref a_this_now, .ref a_this_history, .ref a_this_machine, .ref a_this_reader, .ref a_this_street, .ref a_this_choice, .ref a_this_ahead, .ref a_this_watch, .ref a_this_octets, .int x_this_octetCount, .ref a_this_refusals, .long x_this_drawn])), (a_this_plan, .inr (4, [.int x_this_plan_cycle, .int x_this_plan_green, .int x_this_plan_rule, .int x_this_plan_least, .int x_this_plan_away, .int x_this_plan_statements, .int x_this_plan_kinds, .ref a_this_plan_calm, .ref a_this_plan_pace, .ref a_this_plan_trusts, .int x_this_plan_walkers, .ref a_this_plan_kindOf, .ref a_this_plan_comesAt, .ref a_this_plan_comers, .ref a_this_plan_names, .ref a_this_plan_code, .int x_this_plan_size, .ref a_this_plan_spans])), (a_this_now, .inr (6, [.int x_this_now_day, .int x_this_now_rule, .int x_this_now_green, .ref a_this_now_trusts])), (a_this_watch, .inr (8, [.ref a_this_street, .ref a_this_watch_seenWalker, .ref a_this_watch_seenSecond, .int x_this_watch_rows, .int x_this_watch_compared, .ref a_this_watch_seconds, .int x_this_watch_found, .int x_this_watch_foundRules, .int x_this_watch_foundGreen, .int x_this_watch_chosen, .int x_this_watch_chosenLeft])), (a_this_history, .inr (2, [.ref a_this_history_ring, .int x_this_history_next, .int x_this_history_count]))])) := by
  refine k_ofW2 (by decide +kernel) (Nat.le_of_ble_eq_true rfl) ?_
  intro p e s m below meth c A ls H locs args Q hQ C0 hr hlk hin hP hD hA hS hl
  have C0 : k_cx p s m args c cX9_has 2 RX9 dC dI cy sq := C0
  have hx := C0.1
  have hb := C0.2.1
  have hl : lv_has ls 2 [(0, .ref a_this), (1, .int p0)] := hl
  refine lv_iload_n hx hb dX9_has_0 rfl (lv_at hl 1 rfl) ?_
  rcases Decidable.em (p0 = 0) with s67470_0 | s67470_0
  · subst s67470_0
    refine lv_tableIn (off := 47) (tgt := 48) hx hb dX9_has_1 (by decide) (by decide) (by decide) (by decide) ?_
    refine lv_aload_n hx hb dX9_has_48 rfl (lv_at hl 0 rfl) ?_
    refine k_get C0 fg_X9_20 hP 0 rfl rfl dX9_has_49 ?_
    refine k_get C0 fg_X9_145 hP 1 rfl rfl dX9_has_52 ?_
    subst hQ; exact k_iret hx hb hr hlk rfl () hS True.intro hP hD (Nat.le_of_ble_eq_true rfl) (Nat.le_of_ble_eq_true rfl) dX9_has_55
  rcases Decidable.em (p0 = 1) with s67470_1 | s67470_1
  · subst s67470_1
    refine lv_tableIn (off := 55) (tgt := 56) hx hb dX9_has_1 (by decide) (by decide) (by decide) (by decide) ?_
    refine lv_aload_n hx hb dX9_has_56 rfl (lv_at hl 0 rfl) ?_
    refine k_get C0 fg_X9_20 hP 0 rfl rfl dX9_has_57 ?_
    refine k_get C0 fg_X9_148 hP 1 rfl rfl dX9_has_60 ?_
    subst hQ; exact k_iret hx hb hr hlk rfl () hS True.intro hP hD (Nat.le_of_ble_eq_true rfl) (Nat.le_of_ble_eq_true rfl) dX9_has_63
  rcases Decidable.em (p0 = 2) with s67470_2 | s67470_2
  · subst s67470_2
    refine lv_tableIn (off := 63) (tgt := 64) hx hb dX9_has_1 (by decide) (by decide) (by decide) (by decide) ?_
    refine lv_aload_n hx hb dX9_has_64 rfl (lv_at hl 0 rfl) ?_
    refine k_get C0 fg_X9_20 hP 0 rfl rfl dX9_has_65 ?_
    refine k_get C0 fg_X9_151 hP 1 rfl rfl dX9_has_68 ?_
    subst hQ; exact k_iret hx hb hr hlk rfl () hS True.intro hP hD (Nat.le_of_ble_eq_true rfl) (Nat.le_of_ble_eq_true rfl) dX9_has_71
  rcases Decidable.em (p0 = 3) with s67470_3 | s67470_3
  · subst s67470_3
    refine lv_tableIn (off := 71) (tgt := 72) hx hb dX9_has_1 (by decide) (by decide) (by decide) (by decide) ?_
    refine lv_aload_n hx hb dX9_has_72 rfl (lv_at hl 0 rfl) ?_
    refine k_get C0 fg_X9_30 hP 0 rfl rfl dX9_has_73 ?_
    refine k_get C0 fg_X9_154 hP 2 rfl rfl dX9_has_76 ?_
    subst hQ; exact k_iret hx hb hr hlk rfl () hS True.intro hP hD (Nat.le_of_ble_eq_true rfl) (Nat.le_of_ble_eq_true rfl) dX9_has_79
  rcases Decidable.em (p0 = 4) with s67470_4 | s67470_4
  · subst s67470_4
    refine lv_tableIn (off := 79) (tgt := 80) hx hb dX9_has_1 (by decide) (by decide) (by decide) (by decide) ?_
    refine lv_aload_n hx hb dX9_has_80 rfl (lv_at hl 0 rfl) ?_
    refine k_get C0 fg_X9_30 hP 0 rfl rfl dX9_has_81 ?_
    refine k_get C0 fg_X9_157 hP 2 rfl rfl dX9_has_84 ?_
    subst hQ; exact k_iret hx hb hr hlk rfl () hS True.intro hP hD (Nat.le_of_ble_eq_true rfl) (Nat.le_of_ble_eq_true rfl) dX9_has_87
  rcases Decidable.em (p0 = 5) with s67470_5 | s67470_5
  · subst s67470_5
    refine lv_tableIn (off := 87) (tgt := 88) hx hb dX9_has_1 (by decide) (by decide) (by decide) (by decide) ?_
    refine lv_aload_n hx hb dX9_has_88 rfl (lv_at hl 0 rfl) ?_
    refine k_get C0 fg_X9_30 hP 0 rfl rfl dX9_has_89 ?_
    refine k_get C0 fg_X9_160 hP 2 rfl rfl dX9_has_92 ?_
    subst hQ; exact k_iret hx hb hr hlk rfl () hS True.intro hP hD (Nat.le_of_ble_eq_true rfl) (Nat.le_of_ble_eq_true rfl) dX9_has_95
  rcases Decidable.em (p0 = 6) with s67470_6 | s67470_6
  · subst s67470_6
    refine lv_tableIn (off := 95) (tgt := 96) hx hb dX9_has_1 (by decide) (by decide) (by decide) (by decide) ?_
    refine lv_aload_n hx hb dX9_has_96 rfl (lv_at hl 0 rfl) ?_
    refine k_get C0 fg_X9_85 hP 0 rfl rfl dX9_has_97 ?_
    refine k_get C0 fg_X9_163 hP 3 rfl rfl dX9_has_100 ?_
    subst hQ; exact k_iret hx hb hr hlk rfl () hS True.intro hP hD (Nat.le_of_ble_eq_true rfl) (Nat.le_of_ble_eq_true rfl) dX9_has_103
  rcases Decidable.em (p0 = 7) with s67470_7 | s67470_7
  · subst s67470_7
    refine lv_tableIn (off := 103) (tgt := 104) hx hb dX9_has_1 (by decide) (by decide) (by decide) (by decide) ?_
    refine lv_aload_n hx hb dX9_has_104 rfl (lv_at hl 0 rfl) ?_
    refine k_get C0 fg_X9_37 hP 0 rfl rfl dX9_has_105 ?_
    refine k_get C0 fg_X9_166 hP 4 rfl rfl dX9_has_108 ?_
    subst hQ; exact k_iret hx hb hr hlk rfl () hS True.intro hP hD (Nat.le_of_ble_eq_true rfl) (Nat.le_of_ble_eq_true rfl) dX9_has_111
  refine lv_tableOut (tgt := 112) hx hb dX9_has_1 (by simp only [← Int32.toInt_inj, kl0, kl1, kl2, kl3, kl4, kl5, kl6, kl7, kl60, klm1] at s67470_0 s67470_1 s67470_2 s67470_3 s67470_4 s67470_5 s67470_6 s67470_7; omega) (by decide) ?_
  refine lv_iconst (v := (-1)) hx hb dX9_has_112 (by decide) ?_
  subst hQ; exact k_iret hx hb hr hlk rfl () hS True.intro hP hD (Nat.le_of_ble_eq_true rfl) (Nat.le_of_ble_eq_true rfl) dX9_has_113
set_option maxHeartbeats 4000000 in
set_option maxRecDepth 100000 in
theorem s_X9_isImage (l : Launch) (dC : Nat → ClassId) (dI : Nat → Nat → Nat) (cy : Nat → ClassId) (sq : Nat → Nat) (a_this : Nat) (a_this_tape : Nat) (g_this_tape : Nat → Int32) (x_this_tapeSize : Int32) (a_this_plan : Nat) (x_this_plan_cycle : Int32) (x_this_plan_green : Int32) (x_this_plan_rule : Int32) (x_this_plan_least : Int32) (x_this_plan_away : Int32) (x_this_plan_statements : Int32) (x_this_plan_kinds : Int32) (a_this_plan_calm : Nat) (a_this_plan_pace : Nat) (a_this_plan_trusts : Nat) (x_this_plan_walkers : Int32) (a_this_plan_kindOf : Nat) (a_this_plan_comesAt : Nat) (a_this_plan_comers : Nat) (a_this_plan_names : Nat) (a_this_plan_code : Nat) (x_this_plan_size : Int32) (a_this_plan_spans : Nat) (a_this_spare : Nat) (a_this_now : Nat) (a_this_history : Nat) (a_this_machine : Nat) (a_this_reader : Nat) (a_this_street : Nat) (a_this_choice : Nat) (a_this_ahead : Nat) (a_this_watch : Nat) (a_this_octets : Nat) (x_this_octetCount : Int32) (a_this_refusals : Nat) (x_this_drawn : Int64) (p0 : Int32) (hg_this_tape : ia g_this_tape 1600 0 255) (hx_this_tapeSize : ib x_this_tapeSize 0 1600) (hx_this_plan_cycle : ib x_this_plan_cycle 0 120) (hx_this_plan_least : ib x_this_plan_least 0 99) (hx_this_plan_statements : ib x_this_plan_statements 0 81) (hx_this_plan_kinds : ib x_this_plan_kinds 0 6) (hx_this_plan_walkers : ib x_this_plan_walkers 0 12) (hx_this_plan_size : ib x_this_plan_size 0 1600) (hx_this_octetCount : ib x_this_octetCount 0 11) : k_Met l yX9_isImage cX9_isImage 3 (some .boolean) { frames := 1, cells := 0, slots := 0, locals := 23 } dC dI cy sq [.ref a_this, .int p0] [(a_this, .inr (9, [.ref a_this_tape, .int x_this_tapeSize, .ref a_this_plan, .ref a_this_spare, .ref a_this_now, .ref a_this_history, .ref a_this_machine, .ref a_this_reader, .ref a_this_street, .ref a_this_choice, .ref a_this_ahead, .ref a_this_watch, .ref a_this_octets, .int x_this_octetCount, .ref a_this_refusals, .long x_this_drawn])), (a_this_plan, .inr (4, [.int x_this_plan_cycle, .int x_this_plan_green, .int x_this_plan_rule, .int x_this_plan_least, .int x_this_plan_away, .int x_this_plan_statements, .int x_this_plan_kinds, .ref a_this_plan_calm, .ref a_this_plan_pace, .ref a_this_plan_trusts, .int x_this_plan_walkers, .ref a_this_plan_kindOf, .ref a_this_plan_comesAt, .ref a_this_plan_comers, .ref a_this_plan_names, .ref a_this_plan_code, .int x_this_plan_size, .ref a_this_plan_spans])), (a_this_tape, .inl (cy 0, 1600, .inl g_this_tape))] (k_Qi dC dI (fun (r : Int32) (_ : Unit) => ib r 0 1 ∧ (¬ r = 0 → ib x_this_plan_cycle 2 120) ∧ (¬ r = 0 → ib p0 5 11)) (fun _ : Unit => [(a_this, .inr (9, [.ref a_this_tape, .int x_this_tapeSize, .ref a_this_plan, .ref a_this_spare, .ref a_this_now, .ref a_this_history, .ref a_this_machine, .ref a_this_reader, .ref a_this_street, .ref a_this_choice, .ref a_this_ahead, .ref a_this_watch, .ref a_this_octets, .int x_this_octetCount, .ref a_this_refusals, .long x_this_drawn])), (a_this_plan, .inr (4, [.int x_this_plan_cycle, .int x_this_plan_green, .int x_this_plan_rule, .int x_this_plan_least, .int x_this_plan_away, .int x_this_plan_statements, .int x_this_plan_kinds, .ref a_this_plan_calm, .ref a_this_plan_pace, .ref a_this_plan_trusts, .int x_this_plan_walkers, .ref a_this_plan_kindOf, .ref a_this_plan_comesAt, .ref a_this_plan_comers, .ref a_this_plan_names, .ref a_this_plan_code, .int x_this_plan_size, .ref a_this_plan_spans])), (a_this_tape, .inl (cy 0, 1600, .inl g_this_tape))])) := by
  refine k_ofW2 (by decide +kernel) (Nat.le_of_ble_eq_true rfl) ?_
  intro p e s m below meth c A ls H locs args Q hQ C0 hr hlk hin hP hD hA hS hl
  have C0 : k_cx p s m args c cX9_isImage 3 RX9 dC dI cy sq := C0
  have hx := C0.1
  have hb := C0.2.1
  have hl : lv_has ls 3 [(0, .ref a_this), (1, .int p0)] := hl
  have jn24 : ∀ (n : Nat) (J24_l2 : Int32) (H : Heap) (locs : List Loc) (ls : Array Slot), ib p0 5 11 → ib x_this_plan_cycle 1 120 → ib J24_l2 0 6 → 7 ≤ J24_l2.toInt + (n : Int) → va_P (dC, dI) vwCl [(a_this, .inr (9, [.ref a_this_tape, .int x_this_tapeSize, .ref a_this_plan, .ref a_this_spare, .ref a_this_now, .ref a_this_history, .ref a_this_machine, .ref a_this_reader, .ref a_this_street, .ref a_this_choice, .ref a_this_ahead, .ref a_this_watch, .ref a_this_octets, .int x_this_octetCount, .ref a_this_refusals, .long x_this_drawn])), (a_this_plan, .inr (4, [.int x_this_plan_cycle, .int x_this_plan_green, .int x_this_plan_rule, .int x_this_plan_least, .int x_this_plan_away, .int x_this_plan_statements, .int x_this_plan_kinds, .ref a_this_plan_calm, .ref a_this_plan_pace, .ref a_this_plan_trusts, .int x_this_plan_walkers, .ref a_this_plan_kindOf, .ref a_this_plan_comesAt, .ref a_this_plan_comers, .ref a_this_plan_names, .ref a_this_plan_code, .int x_this_plan_size, .ref a_this_plan_spans])), (a_this_tape, .inl (cy 0, 1600, .inl g_this_tape))] H → va_D A [(a_this, .inr (9, [.ref a_this_tape, .int x_this_tapeSize, .ref a_this_plan, .ref a_this_spare, .ref a_this_now, .ref a_this_history, .ref a_this_machine, .ref a_this_reader, .ref a_this_street, .ref a_this_choice, .ref a_this_ahead, .ref a_this_watch, .ref a_this_octets, .int x_this_octetCount, .ref a_this_refusals, .long x_this_drawn])), (a_this_plan, .inr (4, [.int x_this_plan_cycle, .int x_this_plan_green, .int x_this_plan_rule, .int x_this_plan_least, .int x_this_plan_away, .int x_this_plan_statements, .int x_this_plan_kinds, .ref a_this_plan_calm, .ref a_this_plan_pace, .ref a_this_plan_trusts, .int x_this_plan_walkers, .ref a_this_plan_kindOf, .ref a_this_plan_comesAt, .ref a_this_plan_comers, .ref a_this_plan_names, .ref a_this_plan_code, .int x_this_plan_size, .ref a_this_plan_spans])), (a_this_tape, .inl (cy 0, 1600, .inl g_this_tape))] → va_S A s.heap H locs → lv_has ls 3 [(0, .ref a_this), (1, .int p0), (2, .int J24_l2)] → W p l e { frames := 1, cells := 0, slots := 0, locals := 23 } s m args below meth c H locs 0 0 Q (F0 m 24 ls []) := by
    intro n
    induction n with
    | zero =>
      intro J24_l2 H locs ls hJ24_l1 hJ24_c1_0 hJ24_l2 hm
      exact absurd hm (by have := hJ24_l2; unfold ib at this; omega)
    | succ n ih =>
      intro J24_l2 H locs ls hJ24_l1 hJ24_c1_0 hJ24_l2 hm24 hP hD hS hl
      have ih24 := ih
      refine lv_iload_n hx hb dX9_isImage_24 rfl (lv_at hl 2 rfl) ?_
      refine lv_aload_n hx hb dX9_isImage_25 rfl (lv_at hl 0 rfl) ?_
      refine k_get C0 fg_X9_20 hP 0 rfl rfl dX9_isImage_26 ?_
      refine k_get C0 fg_X9_148 hP 1 rfl rfl dX9_isImage_29 ?_
      refine lv_icmp_ge (tgt := 56) hx hb dX9_isImage_32 (by decide) (fun c71569 => ?_) (fun c71569 => ?_)
      · have h71570 := ib_le hx_this_plan_kinds hJ24_l2 c71569
        refine lv_aload_n hx hb dX9_isImage_56 rfl (lv_at hl 0 rfl) ?_
        refine k_get C0 fg_X9_9 hP 0 rfl rfl dX9_isImage_57 ?_
        refine lv_iconst (v := 0) hx hb dX9_isImage_60 (by decide) ?_
        refine va_iald hx hb C0.2.2.2.2.2.1 hP 2 0 rfl rfl (k_in 0 1600 (by decide)) dX9_isImage_61 ?_
        refine lv_topi (fun z71571 ez71571 => ?_)
        have h71572 : ib z71571 0 255 := by rw [ez71571]; exact ia_at hg_this_tape (k_in 0 1600 (by decide))
        refine lv_sipush (v := 256) hx hb dX9_isImage_62 (by decide) ?_
        refine lv_imul hx hb dX9_isImage_65 ?_
        refine lv_topi (fun z71573 ez71573 => ?_)
        have h71574 := ib_mul h71572 (ib_c 256 256 256 (by decide)) (by decide)
        rw [← ez71573] at h71574
        have h71575 : ib z71573 0 65280 := ib_w 0 65280 h71574.1 (by decide)
        refine lv_aload_n hx hb dX9_isImage_66 rfl (lv_at hl 0 rfl) ?_
        refine k_get C0 fg_X9_9 hP 0 rfl rfl dX9_isImage_67 ?_
        refine lv_iconst (v := 1) hx hb dX9_isImage_70 (by decide) ?_
        refine va_iald hx hb C0.2.2.2.2.2.1 hP 2 0 rfl rfl (k_in 1 1600 (by decide)) dX9_isImage_71 ?_
        refine lv_topi (fun z71576 ez71576 => ?_)
        have h71577 : ib z71576 0 255 := by rw [ez71576]; exact ia_at hg_this_tape (k_in 1 1600 (by decide))
        refine lv_iadd hx hb dX9_isImage_72 ?_
        refine lv_topi (fun z71578 ez71578 => ?_)
        have h71579 := ib_add h71575 h71577 (by decide)
        rw [← ez71578] at h71579
        have h71580 : ib z71578 0 65535 := ib_w 0 65535 h71579.1 (by decide)
        refine lv_sipush (v := 999) hx hb dX9_isImage_73 (by decide) ?_
        refine lv_icmp_gt (tgt := 130) hx hb dX9_isImage_76 (by decide) (fun c71581 => ?_) (fun c71581 => ?_)
        · have h71582 := ib_lt (ib_c 999 999 999 (by decide)) h71580 c71581
          have h71583 : ib z71578 1000 65535 := ib_w 1000 65535 h71582.2 (by decide)
          refine lv_iconst (v := 0) hx hb dX9_isImage_130 (by decide) ?_
          subst hQ; exact k_iret hx hb hr hlk (k_nb 0 (by decide)) () hS ⟨ib_w 0 1 (ib_c 0 0 0 (by decide)) (by decide), fun h9 => absurd rfl h9, fun h9 => absurd rfl h9⟩ hP hD (Nat.le_of_ble_eq_true rfl) (Nat.le_of_ble_eq_true rfl) dX9_isImage_131
        · have h71584 := ib_nlt (ib_c 999 999 999 (by decide)) h71580 c71581
          have h71585 : ib z71578 0 999 := ib_w 0 999 h71584.2 (by decide)
          refine lv_aload_n hx hb dX9_isImage_79 rfl (lv_at hl 0 rfl) ?_
          refine k_get C0 fg_X9_9 hP 0 rfl rfl dX9_isImage_80 ?_
          refine lv_iconst (v := 2) hx hb dX9_isImage_83 (by decide) ?_
          refine va_iald hx hb C0.2.2.2.2.2.1 hP 2 0 rfl rfl (k_in 2 1600 (by decide)) dX9_isImage_84 ?_
          refine lv_topi (fun z71586 ez71586 => ?_)
          have h71587 : ib z71586 0 255 := by rw [ez71586]; exact ia_at hg_this_tape (k_in 2 1600 (by decide))
          refine lv_iconst (v := 3) hx hb dX9_isImage_85 (by decide) ?_
          refine lv_icmp_ge (tgt := 130) hx hb dX9_isImage_86 (by decide) (fun c71588 => ?_) (fun c71588 => ?_)
          · have h71589 := ib_le (ib_c 3 3 3 (by decide)) h71587 c71588
            have h71590 : ib z71586 3 255 := ib_w 3 255 h71589.2 (by decide)
            refine lv_iconst (v := 0) hx hb dX9_isImage_130 (by decide) ?_
            subst hQ; exact k_iret hx hb hr hlk (k_nb 0 (by decide)) () hS ⟨ib_w 0 1 (ib_c 0 0 0 (by decide)) (by decide), fun h9 => absurd rfl h9, fun h9 => absurd rfl h9⟩ hP hD (Nat.le_of_ble_eq_true rfl) (Nat.le_of_ble_eq_true rfl) dX9_isImage_131
          · have h71591 := ib_nle (ib_c 3 3 3 (by decide)) h71587 c71588
            have h71592 : ib z71586 0 2 := ib_w 0 2 h71591.2 (by decide)
            refine lv_aload_n hx hb dX9_isImage_89 rfl (lv_at hl 0 rfl) ?_
            refine k_get C0 fg_X9_20 hP 0 rfl rfl dX9_isImage_90 ?_
            refine lv_aload_n hx hb dX9_isImage_93 rfl (lv_at hl 0 rfl) ?_
            refine k_get C0 fg_X9_9 hP 0 rfl rfl dX9_isImage_94 ?_
            refine lv_iconst (v := 3) hx hb dX9_isImage_97 (by decide) ?_
            refine va_iald hx hb C0.2.2.2.2.2.1 hP 2 0 rfl rfl (k_in 3 1600 (by decide)) dX9_isImage_98 ?_
            refine lv_topi (fun z71593 ez71593 => ?_)
            have h71594 : ib z71593 0 255 := by rw [ez71593]; exact ia_at hg_this_tape (k_in 3 1600 (by decide))
            refine k_ji hP hD hS hA [1] [0, 2] (wr := [(a_this, .inr (9, [.ref a_this_tape, .int x_this_tapeSize, .ref a_this_plan, .ref a_this_spare, .ref a_this_now, .ref a_this_history, .ref a_this_machine, .ref a_this_reader, .ref a_this_street, .ref a_this_choice, .ref a_this_ahead, .ref a_this_watch, .ref a_this_octets, .int x_this_octetCount, .ref a_this_refusals, .long x_this_drawn])), (a_this_tape, .inl (cy 0, 1600, .inl g_this_tape))]) rfl rfl (by decide) (by decide) (by decide) 0 0 (Nat.le_of_ble_eq_true rfl) (Nat.le_of_ble_eq_true rfl) (fun hPc hDc => k_runV (As := [.int z71593]) (rest := []) C0 (s_X4_allowsGreen l dC dI cy sq a_this_plan x_this_plan_cycle x_this_plan_green x_this_plan_rule x_this_plan_least x_this_plan_away x_this_plan_statements x_this_plan_kinds a_this_plan_calm a_this_plan_pace a_this_plan_trusts x_this_plan_walkers a_this_plan_kindOf a_this_plan_comesAt a_this_plan_comers a_this_plan_names a_this_plan_code x_this_plan_size a_this_plan_spans z71593 (ib_w 0 120 hJ24_c1_0 (by decide)) (ib_w 0 99 hx_this_plan_least (by decide)) (ib_w 0 81 hx_this_plan_statements (by decide)) (ib_w 0 6 hx_this_plan_kinds (by decide)) (ib_w 0 12 hx_this_plan_walkers (by decide)) (ib_w 0 1600 hx_this_plan_size (by decide))) mV_X9_284 hPc hDc rfl rfl rfl hl rfl rfl (Nat.le_of_ble_eq_true rfl) ⟨(Nat.le_of_ble_eq_true rfl), (Nat.le_of_ble_eq_true rfl)⟩ ⟨(Nat.le_of_ble_eq_true rfl), (Nat.le_of_ble_eq_true rfl)⟩ dX9_isImage_99) (fun r71595 u71596 H locs hw hP hD hS => ?_)
            try dsimp only at hP hD hw
            have hP : va_P (dC, dI) vwCl [(a_this, .inr (9, [.ref a_this_tape, .int x_this_tapeSize, .ref a_this_plan, .ref a_this_spare, .ref a_this_now, .ref a_this_history, .ref a_this_machine, .ref a_this_reader, .ref a_this_street, .ref a_this_choice, .ref a_this_ahead, .ref a_this_watch, .ref a_this_octets, .int x_this_octetCount, .ref a_this_refusals, .long x_this_drawn])), (a_this_tape, .inl (cy 0, 1600, .inl g_this_tape)), (a_this_plan, .inr (4, [.int x_this_plan_cycle, .int x_this_plan_green, .int x_this_plan_rule, .int x_this_plan_least, .int x_this_plan_away, .int x_this_plan_statements, .int x_this_plan_kinds, .ref a_this_plan_calm, .ref a_this_plan_pace, .ref a_this_plan_trusts, .int x_this_plan_walkers, .ref a_this_plan_kindOf, .ref a_this_plan_comesAt, .ref a_this_plan_comers, .ref a_this_plan_names, .ref a_this_plan_code, .int x_this_plan_size, .ref a_this_plan_spans]))] H := hP
            have hD : va_D A [(a_this, .inr (9, [.ref a_this_tape, .int x_this_tapeSize, .ref a_this_plan, .ref a_this_spare, .ref a_this_now, .ref a_this_history, .ref a_this_machine, .ref a_this_reader, .ref a_this_street, .ref a_this_choice, .ref a_this_ahead, .ref a_this_watch, .ref a_this_octets, .int x_this_octetCount, .ref a_this_refusals, .long x_this_drawn])), (a_this_tape, .inl (cy 0, 1600, .inl g_this_tape)), (a_this_plan, .inr (4, [.int x_this_plan_cycle, .int x_this_plan_green, .int x_this_plan_rule, .int x_this_plan_least, .int x_this_plan_away, .int x_this_plan_statements, .int x_this_plan_kinds, .ref a_this_plan_calm, .ref a_this_plan_pace, .ref a_this_plan_trusts, .int x_this_plan_walkers, .ref a_this_plan_kindOf, .ref a_this_plan_comesAt, .ref a_this_plan_comers, .ref a_this_plan_names, .ref a_this_plan_code, .int x_this_plan_size, .ref a_this_plan_spans]))] := hD
            obtain ⟨h71597, h71598, h71599⟩ := hw
            refine lv_if_eq (tgt := 130) hx hb dX9_isImage_102 (by decide) (fun c71600 => ?_) (fun c71600 => ?_)
            · have h71601 := ib_eq h71597 (ib_c 0 0 0 (by decide)) c71600
              have h71602 : ib r71595 0 0 := ib_w 0 0 h71601.1 (by decide)
              refine lv_iconst (v := 0) hx hb dX9_isImage_130 (by decide) ?_
              subst hQ; exact k_iret hx hb hr hlk (k_nb 0 (by decide)) () hS ⟨ib_w 0 1 (ib_c 0 0 0 (by decide)) (by decide), fun h9 => absurd rfl h9, fun h9 => absurd rfl h9⟩ (hP.sub [0, 2, 1] rfl) (hD.sub [0, 2, 1] (by decide) rfl) (Nat.le_of_ble_eq_true rfl) (Nat.le_of_ble_eq_true rfl) dX9_isImage_131
            · have h71603 : ib r71595 1 1 := ib_w 1 1 (ib_ne_lo 0 h71597 (by decide) c71600) (by decide)
              have h71604 : ib x_this_plan_cycle 2 120 := ib_w 2 120 (ib_two hJ24_c1_0 (h71598 c71600)) (by decide)
              have h71605 : ib z71593 1 60 := ib_w 1 60 (ib_two h71594 (h71599 c71600)) (by decide)
              refine lv_aload_n hx hb dX9_isImage_105 rfl (lv_at hl 0 rfl) ?_
              refine k_get C0 fg_X9_9 hP 0 rfl rfl dX9_isImage_106 ?_
              refine lv_iload_n hx hb dX9_isImage_109 rfl (lv_at hl 1 rfl) ?_
              refine lv_iconst (v := 1) hx hb dX9_isImage_110 (by decide) ?_
              refine lv_isub hx hb dX9_isImage_111 ?_
              refine lv_topi (fun z71606 ez71606 => ?_)
              have h71607 := ib_sub hJ24_l1 (ib_c 1 1 1 (by decide)) (by decide)
              rw [← ez71606] at h71607
              have h71608 : ib z71606 4 10 := ib_w 4 10 h71607.1 (by decide)
              refine va_iald hx hb C0.2.2.2.2.2.1 hP 1 0 rfl rfl (ib_in 1600 h71608 (by decide)) dX9_isImage_112 ?_
              refine lv_topi (fun z71609 ez71609 => ?_)
              have h71610 : ib z71609 0 255 := by rw [ez71609]; exact ia_at hg_this_tape (ib_in 1600 h71608 (by decide))
              refine lv_aload_n hx hb dX9_isImage_113 rfl (lv_at hl 0 rfl) ?_
              refine k_get C0 fg_X9_9 hP 0 rfl rfl dX9_isImage_114 ?_
              refine lv_iload_n hx hb dX9_isImage_117 rfl (lv_at hl 1 rfl) ?_
              refine lv_iconst (v := 1) hx hb dX9_isImage_118 (by decide) ?_
              refine lv_isub hx hb dX9_isImage_119 ?_
              refine lv_topi (fun z71611 ez71611 => ?_)
              have h71612 := ib_sub hJ24_l1 (ib_c 1 1 1 (by decide)) (by decide)
              rw [← ez71611] at h71612
              have h71613 : ib z71611 4 10 := ib_w 4 10 h71612.1 (by decide)
              refine k_ji hP hD hS hA [1] [0, 2] (wr := [(a_this, .inr (9, [.ref a_this_tape, .int x_this_tapeSize, .ref a_this_plan, .ref a_this_spare, .ref a_this_now, .ref a_this_history, .ref a_this_machine, .ref a_this_reader, .ref a_this_street, .ref a_this_choice, .ref a_this_ahead, .ref a_this_watch, .ref a_this_octets, .int x_this_octetCount, .ref a_this_refusals, .long x_this_drawn])), (a_this_plan, .inr (4, [.int x_this_plan_cycle, .int x_this_plan_green, .int x_this_plan_rule, .int x_this_plan_least, .int x_this_plan_away, .int x_this_plan_statements, .int x_this_plan_kinds, .ref a_this_plan_calm, .ref a_this_plan_pace, .ref a_this_plan_trusts, .int x_this_plan_walkers, .ref a_this_plan_kindOf, .ref a_this_plan_comesAt, .ref a_this_plan_comers, .ref a_this_plan_names, .ref a_this_plan_code, .int x_this_plan_size, .ref a_this_plan_spans]))]) rfl rfl (by decide) (by decide) (by decide) 0 0 (Nat.le_of_ble_eq_true rfl) (Nat.le_of_ble_eq_true rfl) (fun hPc hDc => k_runS (As := [.ref a_this_tape, .int z71611]) (rest := [.int z71609]) C0 (s_X9_check l dC dI cy sq a_this_tape g_this_tape z71611 (ib_w 0 1599 h71613 (by decide))) mS_X9_319 hPc hDc hl rfl rfl (Nat.le_of_ble_eq_true rfl) ⟨(Nat.le_of_ble_eq_true rfl), (Nat.le_of_ble_eq_true rfl)⟩ ⟨(Nat.le_of_ble_eq_true rfl), (Nat.le_of_ble_eq_true rfl)⟩ dX9_isImage_120) (fun r71614 u71615 H locs hw hP hD hS => ?_)
              try dsimp only at hP hD hw
              have hP : va_P (dC, dI) vwCl [(a_this, .inr (9, [.ref a_this_tape, .int x_this_tapeSize, .ref a_this_plan, .ref a_this_spare, .ref a_this_now, .ref a_this_history, .ref a_this_machine, .ref a_this_reader, .ref a_this_street, .ref a_this_choice, .ref a_this_ahead, .ref a_this_watch, .ref a_this_octets, .int x_this_octetCount, .ref a_this_refusals, .long x_this_drawn])), (a_this_plan, .inr (4, [.int x_this_plan_cycle, .int x_this_plan_green, .int x_this_plan_rule, .int x_this_plan_least, .int x_this_plan_away, .int x_this_plan_statements, .int x_this_plan_kinds, .ref a_this_plan_calm, .ref a_this_plan_pace, .ref a_this_plan_trusts, .int x_this_plan_walkers, .ref a_this_plan_kindOf, .ref a_this_plan_comesAt, .ref a_this_plan_comers, .ref a_this_plan_names, .ref a_this_plan_code, .int x_this_plan_size, .ref a_this_plan_spans])), (a_this_tape, .inl (cy 0, 1600, .inl g_this_tape))] H := hP
              have hD : va_D A [(a_this, .inr (9, [.ref a_this_tape, .int x_this_tapeSize, .ref a_this_plan, .ref a_this_spare, .ref a_this_now, .ref a_this_history, .ref a_this_machine, .ref a_this_reader, .ref a_this_street, .ref a_this_choice, .ref a_this_ahead, .ref a_this_watch, .ref a_this_octets, .int x_this_octetCount, .ref a_this_refusals, .long x_this_drawn])), (a_this_plan, .inr (4, [.int x_this_plan_cycle, .int x_this_plan_green, .int x_this_plan_rule, .int x_this_plan_least, .int x_this_plan_away, .int x_this_plan_statements, .int x_this_plan_kinds, .ref a_this_plan_calm, .ref a_this_plan_pace, .ref a_this_plan_trusts, .int x_this_plan_walkers, .ref a_this_plan_kindOf, .ref a_this_plan_comesAt, .ref a_this_plan_comers, .ref a_this_plan_names, .ref a_this_plan_code, .int x_this_plan_size, .ref a_this_plan_spans])), (a_this_tape, .inl (cy 0, 1600, .inl g_this_tape))] := hD
              refine lv_icmp_ne (tgt := 130) hx hb dX9_isImage_123 (by decide) (fun c71616 => ?_) (fun c71616 => ?_)
              · skip
                refine lv_iconst (v := 0) hx hb dX9_isImage_130 (by decide) ?_
                subst hQ; exact k_iret hx hb hr hlk (k_nb 0 (by decide)) () hS ⟨ib_w 0 1 (ib_c 0 0 0 (by decide)) (by decide), fun h9 => absurd rfl h9, fun h9 => absurd rfl h9⟩ hP hD (Nat.le_of_ble_eq_true rfl) (Nat.le_of_ble_eq_true rfl) dX9_isImage_131
              · have h71617 := ib_eq h71610 (ib_any r71614) c71616
                have h71618 : ib r71614 0 255 := ib_w 0 255 h71617.2 (by decide)
                refine lv_iconst (v := 1) hx hb dX9_isImage_126 (by decide) ?_
                refine lv_goto (tgt := 131) hx hb dX9_isImage_127 (by decide) ?_
                subst hQ; exact k_iret hx hb hr hlk (k_nb 1 (by decide)) () hS ⟨ib_w 0 1 (ib_c 1 1 1 (by decide)) (by decide), fun _ => ib_w 2 120 h71604 (by decide), fun _ => ib_w 5 11 hJ24_l1 (by decide)⟩ hP hD (Nat.le_of_ble_eq_true rfl) (Nat.le_of_ble_eq_true rfl) dX9_isImage_131
      · have h71619 := ib_nle hx_this_plan_kinds hJ24_l2 c71569
        have h71620 : ib x_this_plan_kinds 1 6 := ib_w 1 6 h71619.1 (by decide)
        have h71621 : ib J24_l2 0 5 := ib_w 0 5 h71619.2 (by decide)
        refine lv_aload_n hx hb dX9_isImage_35 rfl (lv_at hl 0 rfl) ?_
        refine k_get C0 fg_X9_9 hP 0 rfl rfl dX9_isImage_36 ?_
        refine lv_iconst (v := 4) hx hb dX9_isImage_39 (by decide) ?_
        refine lv_iload_n hx hb dX9_isImage_40 rfl (lv_at hl 2 rfl) ?_
        refine lv_iadd hx hb dX9_isImage_41 ?_
        refine lv_topi (fun z71622 ez71622 => ?_)
        have h71623 := ib_add (ib_c 4 4 4 (by decide)) h71621 (by decide)
        rw [← ez71622] at h71623
        have h71624 : ib z71622 4 9 := ib_w 4 9 h71623.1 (by decide)
        refine va_iald hx hb C0.2.2.2.2.2.1 hP 2 0 rfl rfl (ib_in 1600 h71624 (by decide)) dX9_isImage_42 ?_
        refine lv_topi (fun z71625 ez71625 => ?_)
        have h71626 : ib z71625 0 255 := by rw [ez71625]; exact ia_at hg_this_tape (ib_in 1600 h71624 (by decide))
        refine lv_bipush (v := 9) hx hb dX9_isImage_43 (by decide) ?_
        refine lv_icmp_le (tgt := 50) hx hb dX9_isImage_45 (by decide) (fun c71627 => ?_) (fun c71627 => ?_)
        · have h71628 := ib_le h71626 (ib_c 9 9 9 (by decide)) c71627
          have h71629 : ib z71625 0 9 := ib_w 0 9 h71628.1 (by decide)
          obtain ⟨z71630, ez71630⟩ : ∃ y : Int32, y = J24_l2 + 1 := ⟨_, rfl⟩
          refine lv_iinc (v := z71630) (lv' := [(2, .int z71630), (0, .ref a_this), (1, .int p0)]) hx hb dX9_isImage_50 hl (k := 2) rfl (by rw [ez71630]; rfl) (by decide) rfl (fun ls hl => ?_)
          have h71631 := ib_add h71621 (ib_c 1 1 1 (by decide)) (by decide)
          rw [← ez71630] at h71631
          have h71632 : ib z71630 1 6 := ib_w 1 6 h71631.1 (by decide)
          refine lv_goto (tgt := 24) hx hb dX9_isImage_53 (by decide) ?_
          exact ih24 z71630 H locs ls (ib_w 5 11 hJ24_l1 (by decide)) (ib_w 1 120 hJ24_c1_0 (by decide)) (ib_w 0 6 h71632 (by decide)) (by have := h71631.2; have : (1 : Int32).toInt = 1 := (by decide); omega) hP hD hS (lv_sub hl [1, 2, 0] rfl)
        · have h71633 := ib_nle h71626 (ib_c 9 9 9 (by decide)) c71627
          have h71634 : ib z71625 10 255 := ib_w 10 255 h71633.1 (by decide)
          refine lv_iconst (v := 0) hx hb dX9_isImage_48 (by decide) ?_
          subst hQ; exact k_iret hx hb hr hlk (k_nb 0 (by decide)) () hS ⟨ib_w 0 1 (ib_c 0 0 0 (by decide)) (by decide), fun h9 => absurd rfl h9, fun h9 => absurd rfl h9⟩ hP hD (Nat.le_of_ble_eq_true rfl) (Nat.le_of_ble_eq_true rfl) dX9_isImage_49
  refine lv_aload_n hx hb dX9_isImage_0 rfl (lv_at hl 0 rfl) ?_
  refine k_ji hP hD hS hA [0, 1] [2] (wr := [(a_this_tape, .inl (cy 0, 1600, .inl g_this_tape))]) rfl rfl (by decide) (by decide) (by decide) 0 0 (Nat.le_of_ble_eq_true rfl) (Nat.le_of_ble_eq_true rfl) (fun hPc hDc => k_runV (As := []) (rest := []) C0 (s_X9_stands l dC dI cy sq a_this a_this_tape x_this_tapeSize a_this_plan x_this_plan_cycle x_this_plan_green x_this_plan_rule x_this_plan_least x_this_plan_away x_this_plan_statements x_this_plan_kinds a_this_plan_calm a_this_plan_pace a_this_plan_trusts x_this_plan_walkers a_this_plan_kindOf a_this_plan_comesAt a_this_plan_comers a_this_plan_names a_this_plan_code x_this_plan_size a_this_plan_spans a_this_spare a_this_now a_this_history a_this_machine a_this_reader a_this_street a_this_choice a_this_ahead a_this_watch a_this_octets x_this_octetCount a_this_refusals x_this_drawn (ib_w 0 1600 hx_this_tapeSize (by decide)) (ib_w 0 120 hx_this_plan_cycle (by decide)) (ib_w 0 99 hx_this_plan_least (by decide)) (ib_w 0 81 hx_this_plan_statements (by decide)) (ib_w 0 6 hx_this_plan_kinds (by decide)) (ib_w 0 12 hx_this_plan_walkers (by decide)) (ib_w 0 1600 hx_this_plan_size (by decide)) (ib_w 0 11 hx_this_octetCount (by decide))) mV_X9_218 hPc hDc rfl rfl rfl hl rfl rfl (Nat.le_of_ble_eq_true rfl) ⟨(Nat.le_of_ble_eq_true rfl), (Nat.le_of_ble_eq_true rfl)⟩ ⟨(Nat.le_of_ble_eq_true rfl), (Nat.le_of_ble_eq_true rfl)⟩ dX9_isImage_1) (fun r71635 u71636 H locs hw hP hD hS => ?_)
  try dsimp only at hP hD hw
  have hP : va_P (dC, dI) vwCl [(a_this_tape, .inl (cy 0, 1600, .inl g_this_tape)), (a_this, .inr (9, [.ref a_this_tape, .int x_this_tapeSize, .ref a_this_plan, .ref a_this_spare, .ref a_this_now, .ref a_this_history, .ref a_this_machine, .ref a_this_reader, .ref a_this_street, .ref a_this_choice, .ref a_this_ahead, .ref a_this_watch, .ref a_this_octets, .int x_this_octetCount, .ref a_this_refusals, .long x_this_drawn])), (a_this_plan, .inr (4, [.int x_this_plan_cycle, .int x_this_plan_green, .int x_this_plan_rule, .int x_this_plan_least, .int x_this_plan_away, .int x_this_plan_statements, .int x_this_plan_kinds, .ref a_this_plan_calm, .ref a_this_plan_pace, .ref a_this_plan_trusts, .int x_this_plan_walkers, .ref a_this_plan_kindOf, .ref a_this_plan_comesAt, .ref a_this_plan_comers, .ref a_this_plan_names, .ref a_this_plan_code, .int x_this_plan_size, .ref a_this_plan_spans]))] H := hP
  have hD : va_D A [(a_this_tape, .inl (cy 0, 1600, .inl g_this_tape)), (a_this, .inr (9, [.ref a_this_tape, .int x_this_tapeSize, .ref a_this_plan, .ref a_this_spare, .ref a_this_now, .ref a_this_history, .ref a_this_machine, .ref a_this_reader, .ref a_this_street, .ref a_this_choice, .ref a_this_ahead, .ref a_this_watch, .ref a_this_octets, .int x_this_octetCount, .ref a_this_refusals, .long x_this_drawn])), (a_this_plan, .inr (4, [.int x_this_plan_cycle, .int x_this_plan_green, .int x_this_plan_rule, .int x_this_plan_least, .int x_this_plan_away, .int x_this_plan_statements, .int x_this_plan_kinds, .ref a_this_plan_calm, .ref a_this_plan_pace, .ref a_this_plan_trusts, .int x_this_plan_walkers, .ref a_this_plan_kindOf, .ref a_this_plan_comesAt, .ref a_this_plan_comers, .ref a_this_plan_names, .ref a_this_plan_code, .int x_this_plan_size, .ref a_this_plan_spans]))] := hD
  obtain ⟨h71637, h71638⟩ := hw
  refine lv_if_eq (tgt := 20) hx hb dX9_isImage_4 (by decide) (fun c71639 => ?_) (fun c71639 => ?_)
  · have h71640 := ib_eq h71637 (ib_c 0 0 0 (by decide)) c71639
    have h71641 : ib r71635 0 0 := ib_w 0 0 h71640.1 (by decide)
    refine lv_iconst (v := 0) hx hb dX9_isImage_20 (by decide) ?_
    subst hQ; exact k_iret hx hb hr hlk (k_nb 0 (by decide)) () hS ⟨ib_w 0 1 (ib_c 0 0 0 (by decide)) (by decide), fun h9 => absurd rfl h9, fun h9 => absurd rfl h9⟩ (hP.sub [1, 2, 0] rfl) (hD.sub [1, 2, 0] (by decide) rfl) (Nat.le_of_ble_eq_true rfl) (Nat.le_of_ble_eq_true rfl) dX9_isImage_21
  · have h71642 : ib r71635 1 1 := ib_w 1 1 (ib_ne_lo 0 h71637 (by decide) c71639) (by decide)
    have h71643 : ib x_this_plan_cycle 1 120 := ib_w 1 120 (ib_two hx_this_plan_cycle (h71638 c71639)) (by decide)
    refine lv_iload_n hx hb dX9_isImage_7 rfl (lv_at hl 1 rfl) ?_
    refine lv_aload_n hx hb dX9_isImage_8 rfl (lv_at hl 0 rfl) ?_
    refine k_get C0 fg_X9_20 hP 1 rfl rfl dX9_isImage_9 ?_
    refine k_get C0 fg_X9_148 hP 2 rfl rfl dX9_isImage_12 ?_
    refine lv_iconst (v := 5) hx hb dX9_isImage_15 (by decide) ?_
    refine lv_iadd hx hb dX9_isImage_16 ?_
    refine lv_topi (fun z71644 ez71644 => ?_)
    have h71645 := ib_add hx_this_plan_kinds (ib_c 5 5 5 (by decide)) (by decide)
    rw [← ez71644] at h71645
    have h71646 : ib z71644 5 11 := ib_w 5 11 h71645.1 (by decide)
    refine lv_icmp_eq (tgt := 22) hx hb dX9_isImage_17 (by decide) (fun c71647 => ?_) (fun c71647 => ?_)
    · have h71648 := ib_eq (ib_any p0) h71646 c71647
      have h71649 : ib p0 5 11 := ib_w 5 11 h71648.1 (by decide)
      refine lv_iconst (v := 0) hx hb dX9_isImage_22 (by decide) ?_
      refine lv_istore_n (lv' := [(2, .int 0), (0, .ref a_this), (1, .int p0)]) hx hb dX9_isImage_23 rfl hl (by decide) rfl (fun ls hl => ?_)
      exact jn24 8 0 H locs ls (ib_w 5 11 h71649 (by decide)) (ib_w 1 120 h71643 (by decide)) (ib_w 0 6 (ib_c 0 0 0 (by decide)) (by decide)) (by have := (ib_c 0 0 0 (by decide)); unfold ib at this; omega) (hP.sub [1, 2, 0] rfl) (hD.sub [1, 2, 0] (by decide) rfl) hS (lv_sub hl [1, 2, 0] rfl)
    · skip
      refine lv_iconst (v := 0) hx hb dX9_isImage_20 (by decide) ?_
      subst hQ; exact k_iret hx hb hr hlk (k_nb 0 (by decide)) () hS ⟨ib_w 0 1 (ib_c 0 0 0 (by decide)) (by decide), fun h9 => absurd rfl h9, fun h9 => absurd rfl h9⟩ (hP.sub [1, 2, 0] rfl) (hD.sub [1, 2, 0] (by decide) rfl) (Nat.le_of_ble_eq_true rfl) (Nat.le_of_ble_eq_true rfl) dX9_isImage_21
set_option maxHeartbeats 4000000 in
set_option maxRecDepth 100000 in
theorem s_X9_isWalker (l : Launch) (dC : Nat → ClassId) (dI : Nat → Nat → Nat) (cy : Nat → ClassId) (sq : Nat → Nat) (a_this : Nat) (a_this_tape : Nat) (x_this_tapeSize : Int32) (a_this_plan : Nat) (x_this_plan_cycle : Int32) (x_this_plan_green : Int32) (x_this_plan_rule : Int32) (x_this_plan_least : Int32) (x_this_plan_away : Int32) (x_this_plan_statements : Int32) (x_this_plan_kinds : Int32) (a_this_plan_calm : Nat) (a_this_plan_pace : Nat) (a_this_plan_trusts : Nat) (x_this_plan_walkers : Int32) (a_this_plan_kindOf : Nat) (a_this_plan_comesAt : Nat) (a_this_plan_comers : Nat) (a_this_plan_names : Nat) (a_this_plan_code : Nat) (x_this_plan_size : Int32) (a_this_plan_spans : Nat) (a_this_spare : Nat) (a_this_now : Nat) (a_this_history : Nat) (a_this_machine : Nat) (a_this_reader : Nat) (a_this_street : Nat) (a_this_choice : Nat) (a_this_ahead : Nat) (a_this_watch : Nat) (a_this_octets : Nat) (x_this_octetCount : Int32) (a_this_refusals : Nat) (x_this_drawn : Int64) (p0 : Int32) (hx_this_tapeSize : ib x_this_tapeSize 0 1600) (hx_this_plan_cycle : ib x_this_plan_cycle 0 120) (hx_this_plan_least : ib x_this_plan_least 0 99) (hx_this_plan_statements : ib x_this_plan_statements 0 81) (hx_this_plan_kinds : ib x_this_plan_kinds 0 6) (hx_this_plan_walkers : ib x_this_plan_walkers 0 12) (hx_this_plan_size : ib x_this_plan_size 0 1600) (hx_this_octetCount : ib x_this_octetCount 0 11) : k_Met l yX9_isWalker cX9_isWalker 2 (some .boolean) { frames := 0, cells := 0, slots := 0, locals := 0 } dC dI cy sq [.ref a_this, .int p0] [(a_this, .inr (9, [.ref a_this_tape, .int x_this_tapeSize, .ref a_this_plan, .ref a_this_spare, .ref a_this_now, .ref a_this_history, .ref a_this_machine, .ref a_this_reader, .ref a_this_street, .ref a_this_choice, .ref a_this_ahead, .ref a_this_watch, .ref a_this_octets, .int x_this_octetCount, .ref a_this_refusals, .long x_this_drawn])), (a_this_plan, .inr (4, [.int x_this_plan_cycle, .int x_this_plan_green, .int x_this_plan_rule, .int x_this_plan_least, .int x_this_plan_away, .int x_this_plan_statements, .int x_this_plan_kinds, .ref a_this_plan_calm, .ref a_this_plan_pace, .ref a_this_plan_trusts, .int x_this_plan_walkers, .ref a_this_plan_kindOf, .ref a_this_plan_comesAt, .ref a_this_plan_comers, .ref a_this_plan_names, .ref a_this_plan_code, .int x_this_plan_size, .ref a_this_plan_spans]))] (k_Qi dC dI (fun (r : Int32) (_ : Unit) => ib r 0 1 ∧ (¬ r = 0 → ib x_this_plan_walkers 1 12) ∧ (¬ r = 0 → ib p0 0 11)) (fun _ : Unit => [(a_this, .inr (9, [.ref a_this_tape, .int x_this_tapeSize, .ref a_this_plan, .ref a_this_spare, .ref a_this_now, .ref a_this_history, .ref a_this_machine, .ref a_this_reader, .ref a_this_street, .ref a_this_choice, .ref a_this_ahead, .ref a_this_watch, .ref a_this_octets, .int x_this_octetCount, .ref a_this_refusals, .long x_this_drawn])), (a_this_plan, .inr (4, [.int x_this_plan_cycle, .int x_this_plan_green, .int x_this_plan_rule, .int x_this_plan_least, .int x_this_plan_away, .int x_this_plan_statements, .int x_this_plan_kinds, .ref a_this_plan_calm, .ref a_this_plan_pace, .ref a_this_plan_trusts, .int x_this_plan_walkers, .ref a_this_plan_kindOf, .ref a_this_plan_comesAt, .ref a_this_plan_comers, .ref a_this_plan_names, .ref a_this_plan_code, .int x_this_plan_size, .ref a_this_plan_spans]))])) := by
  refine k_ofW2 (by decide +kernel) (Nat.le_of_ble_eq_true rfl) ?_
  intro p e s m below meth c A ls H locs args Q hQ C0 hr hlk hin hP hD hA hS hl
  have C0 : k_cx p s m args c cX9_isWalker 2 RX9 dC dI cy sq := C0
  have hx := C0.1
  have hb := C0.2.1
  have hl : lv_has ls 2 [(0, .ref a_this), (1, .int p0)] := hl
  refine lv_iload_n hx hb dX9_isWalker_0 rfl (lv_at hl 1 rfl) ?_
  refine lv_if_lt (tgt := 19) hx hb dX9_isWalker_1 (by decide) (fun c71750 => ?_) (fun c71750 => ?_)
  · have h71751 := ib_lt (ib_any p0) (ib_c 0 0 0 (by decide)) c71750
    have h71752 : ib p0 (-2147483648) (-1) := ib_w (-2147483648) (-1) h71751.1 (by decide)
    refine lv_iconst (v := 0) hx hb dX9_isWalker_19 (by decide) ?_
    subst hQ; exact k_iret hx hb hr hlk (k_nb 0 (by decide)) () hS ⟨ib_w 0 1 (ib_c 0 0 0 (by decide)) (by decide), fun h9 => absurd rfl h9, fun h9 => absurd rfl h9⟩ hP hD (Nat.le_of_ble_eq_true rfl) (Nat.le_of_ble_eq_true rfl) dX9_isWalker_20
  · have h71753 := ib_nlt (ib_any p0) (ib_c 0 0 0 (by decide)) c71750
    have h71754 : ib p0 0 2147483647 := ib_w 0 2147483647 h71753.1 (by decide)
    refine lv_iload_n hx hb dX9_isWalker_4 rfl (lv_at hl 1 rfl) ?_
    refine lv_aload_n hx hb dX9_isWalker_5 rfl (lv_at hl 0 rfl) ?_
    refine k_get C0 fg_X9_20 hP 0 rfl rfl dX9_isWalker_6 ?_
    refine k_get C0 fg_X9_151 hP 1 rfl rfl dX9_isWalker_9 ?_
    refine lv_icmp_ge (tgt := 19) hx hb dX9_isWalker_12 (by decide) (fun c71755 => ?_) (fun c71755 => ?_)
    · have h71756 := ib_le hx_this_plan_walkers h71754 c71755
      refine lv_iconst (v := 0) hx hb dX9_isWalker_19 (by decide) ?_
      subst hQ; exact k_iret hx hb hr hlk (k_nb 0 (by decide)) () hS ⟨ib_w 0 1 (ib_c 0 0 0 (by decide)) (by decide), fun h9 => absurd rfl h9, fun h9 => absurd rfl h9⟩ hP hD (Nat.le_of_ble_eq_true rfl) (Nat.le_of_ble_eq_true rfl) dX9_isWalker_20
    · have h71757 := ib_nle hx_this_plan_walkers h71754 c71755
      have h71758 : ib x_this_plan_walkers 1 12 := ib_w 1 12 h71757.1 (by decide)
      have h71759 : ib p0 0 11 := ib_w 0 11 h71757.2 (by decide)
      refine lv_iconst (v := 1) hx hb dX9_isWalker_15 (by decide) ?_
      refine lv_goto (tgt := 20) hx hb dX9_isWalker_16 (by decide) ?_
      subst hQ; exact k_iret hx hb hr hlk (k_nb 1 (by decide)) () hS ⟨ib_w 0 1 (ib_c 1 1 1 (by decide)) (by decide), fun _ => ib_w 1 12 h71758 (by decide), fun _ => ib_w 0 11 h71759 (by decide)⟩ hP hD (Nat.le_of_ble_eq_true rfl) (Nat.le_of_ble_eq_true rfl) dX9_isWalker_20
set_option maxHeartbeats 4000000 in
set_option maxRecDepth 100000 in
theorem s_X9_kind (l : Launch) (dC : Nat → ClassId) (dI : Nat → Nat → Nat) (cy : Nat → ClassId) (sq : Nat → Nat) (a_this : Nat) (a_this_tape : Nat) (x_this_tapeSize : Int32) (a_this_plan : Nat) (x_this_plan_cycle : Int32) (x_this_plan_green : Int32) (x_this_plan_rule : Int32) (x_this_plan_least : Int32) (x_this_plan_away : Int32) (x_this_plan_statements : Int32) (x_this_plan_kinds : Int32) (a_this_plan_calm : Nat) (g_this_plan_calm : Nat → Int32) (a_this_plan_pace : Nat) (g_this_plan_pace : Nat → Int32) (a_this_plan_trusts : Nat) (x_this_plan_walkers : Int32) (a_this_plan_kindOf : Nat) (g_this_plan_kindOf : Nat → Int32) (a_this_plan_comesAt : Nat) (a_this_plan_comers : Nat) (a_this_plan_names : Nat) (a_this_plan_code : Nat) (x_this_plan_size : Int32) (a_this_plan_spans : Nat) (a_this_spare : Nat) (a_this_now : Nat) (x_this_now_day : Int32) (x_this_now_rule : Int32) (x_this_now_green : Int32) (a_this_now_trusts : Nat) (g_this_now_trusts : Nat → Int32) (a_this_history : Nat) (a_this_machine : Nat) (a_this_reader : Nat) (a_this_street : Nat) (a_this_choice : Nat) (a_this_ahead : Nat) (a_this_watch : Nat) (a_this_octets : Nat) (x_this_octetCount : Int32) (a_this_refusals : Nat) (x_this_drawn : Int64) (p0 : Int32) (p1 : Int32) (hx_this_tapeSize : ib x_this_tapeSize 0 1600) (hx_this_plan_cycle : ib x_this_plan_cycle 0 120) (hx_this_plan_least : ib x_this_plan_least 0 99) (hx_this_plan_statements : ib x_this_plan_statements 0 81) (hx_this_plan_kinds : ib x_this_plan_kinds 0 6) (hx_this_plan_walkers : ib x_this_plan_walkers 0 12) (hg_this_plan_kindOf : ia g_this_plan_kindOf 12 0 5) (hx_this_plan_size : ib x_this_plan_size 0 1600) (hx_this_octetCount : ib x_this_octetCount 0 11) : k_Met l yX9_kind cX9_kind 3 (some .int) { frames := 1, cells := 0, slots := 0, locals := 23 } dC dI cy sq [.ref a_this, .int p0, .int p1] [(a_this, .inr (9, [.ref a_this_tape, .int x_this_tapeSize, .ref a_this_plan, .ref a_this_spare, .ref a_this_now, .ref a_this_history, .ref a_this_machine, .ref a_this_reader, .ref a_this_street, .ref a_this_choice, .ref a_this_ahead, .ref a_this_watch, .ref a_this_octets, .int x_this_octetCount, .ref a_this_refusals, .long x_this_drawn])), (a_this_plan, .inr (4, [.int x_this_plan_cycle, .int x_this_plan_green, .int x_this_plan_rule, .int x_this_plan_least, .int x_this_plan_away, .int x_this_plan_statements, .int x_this_plan_kinds, .ref a_this_plan_calm, .ref a_this_plan_pace, .ref a_this_plan_trusts, .int x_this_plan_walkers, .ref a_this_plan_kindOf, .ref a_this_plan_comesAt, .ref a_this_plan_comers, .ref a_this_plan_names, .ref a_this_plan_code, .int x_this_plan_size, .ref a_this_plan_spans])), (a_this_plan_calm, .inl (cy 0, 6, .inl g_this_plan_calm)), (a_this_plan_pace, .inl (cy 0, 6, .inl g_this_plan_pace)), (a_this_now, .inr (6, [.int x_this_now_day, .int x_this_now_rule, .int x_this_now_green, .ref a_this_now_trusts])), (a_this_now_trusts, .inl (cy 0, 6, .inl g_this_now_trusts)), (a_this_plan_kindOf, .inl (cy 0, 12, .inl g_this_plan_kindOf))] (k_Qi dC dI (fun (r : Int32) (_ : Unit) => True) (fun _ : Unit => [(a_this, .inr (9, [.ref a_this_tape, .int x_this_tapeSize, .ref a_this_plan, .ref a_this_spare, .ref a_this_now, .ref a_this_history, .ref a_this_machine, .ref a_this_reader, .ref a_this_street, .ref a_this_choice, .ref a_this_ahead, .ref a_this_watch, .ref a_this_octets, .int x_this_octetCount, .ref a_this_refusals, .long x_this_drawn])), (a_this_plan, .inr (4, [.int x_this_plan_cycle, .int x_this_plan_green, .int x_this_plan_rule, .int x_this_plan_least, .int x_this_plan_away, .int x_this_plan_statements, .int x_this_plan_kinds, .ref a_this_plan_calm, .ref a_this_plan_pace, .ref a_this_plan_trusts, .int x_this_plan_walkers, .ref a_this_plan_kindOf, .ref a_this_plan_comesAt, .ref a_this_plan_comers, .ref a_this_plan_names, .ref a_this_plan_code, .int x_this_plan_size, .ref a_this_plan_spans])), (a_this_plan_calm, .inl (cy 0, 6, .inl g_this_plan_calm)), (a_this_plan_pace, .inl (cy 0, 6, .inl g_this_plan_pace)), (a_this_now, .inr (6, [.int x_this_now_day, .int x_this_now_rule, .int x_this_now_green, .ref a_this_now_trusts])), (a_this_now_trusts, .inl (cy 0, 6, .inl g_this_now_trusts)), (a_this_plan_kindOf, .inl (cy 0, 12, .inl g_this_plan_kindOf))])) := by
  refine k_ofW2 (by decide +kernel) (Nat.le_of_ble_eq_true rfl) ?_
  intro p e s m below meth c A ls H locs args Q hQ C0 hr hlk hin hP hD hA hS hl
  have C0 : k_cx p s m args c cX9_kind 3 RX9 dC dI cy sq := C0
  have hx := C0.1
  have hb := C0.2.1
  have hl : lv_has ls 3 [(0, .ref a_this), (1, .int p0), (2, .int p1)] := hl
  refine lv_aload_n hx hb dX9_kind_0 rfl (lv_at hl 0 rfl) ?_
  refine lv_iload_n hx hb dX9_kind_1 rfl (lv_at hl 1 rfl) ?_
  refine k_ji hP hD hS hA [0, 1] [2, 3, 4, 5, 6] (wr := [(a_this_plan_calm, .inl (cy 0, 6, .inl g_this_plan_calm)), (a_this_plan_pace, .inl (cy 0, 6, .inl g_this_plan_pace)), (a_this_now, .inr (6, [.int x_this_now_day, .int x_this_now_rule, .int x_this_now_green, .ref a_this_now_trusts])), (a_this_now_trusts, .inl (cy 0, 6, .inl g_this_now_trusts)), (a_this_plan_kindOf, .inl (cy 0, 12, .inl g_this_plan_kindOf))]) rfl rfl (by decide) (by decide) (by decide) 0 0 (Nat.le_of_ble_eq_true rfl) (Nat.le_of_ble_eq_true rfl) (fun hPc hDc => k_runV (As := [.int p0]) (rest := []) C0 (s_X9_isKind l dC dI cy sq a_this a_this_tape x_this_tapeSize a_this_plan x_this_plan_cycle x_this_plan_green x_this_plan_rule x_this_plan_least x_this_plan_away x_this_plan_statements x_this_plan_kinds a_this_plan_calm a_this_plan_pace a_this_plan_trusts x_this_plan_walkers a_this_plan_kindOf a_this_plan_comesAt a_this_plan_comers a_this_plan_names a_this_plan_code x_this_plan_size a_this_plan_spans a_this_spare a_this_now a_this_history a_this_machine a_this_reader a_this_street a_this_choice a_this_ahead a_this_watch a_this_octets x_this_octetCount a_this_refusals x_this_drawn p0 (ib_w 0 1600 hx_this_tapeSize (by decide)) (ib_w 0 120 hx_this_plan_cycle (by decide)) (ib_w 0 99 hx_this_plan_least (by decide)) (ib_w 0 81 hx_this_plan_statements (by decide)) (ib_w 0 6 hx_this_plan_kinds (by decide)) (ib_w 0 12 hx_this_plan_walkers (by decide)) (ib_w 0 1600 hx_this_plan_size (by decide)) (ib_w 0 11 hx_this_octetCount (by decide))) mV_X9_169 hPc hDc rfl rfl rfl hl rfl rfl (Nat.le_of_ble_eq_true rfl) ⟨(Nat.le_of_ble_eq_true rfl), (Nat.le_of_ble_eq_true rfl)⟩ ⟨(Nat.le_of_ble_eq_true rfl), (Nat.le_of_ble_eq_true rfl)⟩ dX9_kind_2) (fun r71930 u71931 H locs hw hP hD hS => ?_)
  try dsimp only at hP hD hw
  have hP : va_P (dC, dI) vwCl [(a_this_plan_calm, .inl (cy 0, 6, .inl g_this_plan_calm)), (a_this_plan_pace, .inl (cy 0, 6, .inl g_this_plan_pace)), (a_this_now, .inr (6, [.int x_this_now_day, .int x_this_now_rule, .int x_this_now_green, .ref a_this_now_trusts])), (a_this_now_trusts, .inl (cy 0, 6, .inl g_this_now_trusts)), (a_this_plan_kindOf, .inl (cy 0, 12, .inl g_this_plan_kindOf)), (a_this, .inr (9, [.ref a_this_tape, .int x_this_tapeSize, .ref a_this_plan, .ref a_this_spare, .ref a_this_now, .ref a_this_history, .ref a_this_machine, .ref a_this_reader, .ref a_this_street, .ref a_this_choice, .ref a_this_ahead, .ref a_this_watch, .ref a_this_octets, .int x_this_octetCount, .ref a_this_refusals, .long x_this_drawn])), (a_this_plan, .inr (4, [.int x_this_plan_cycle, .int x_this_plan_green, .int x_this_plan_rule, .int x_this_plan_least, .int x_this_plan_away, .int x_this_plan_statements, .int x_this_plan_kinds, .ref a_this_plan_calm, .ref a_this_plan_pace, .ref a_this_plan_trusts, .int x_this_plan_walkers, .ref a_this_plan_kindOf, .ref a_this_plan_comesAt, .ref a_this_plan_comers, .ref a_this_plan_names, .ref a_this_plan_code, .int x_this_plan_size, .ref a_this_plan_spans]))] H := hP
  have hD : va_D A [(a_this_plan_calm, .inl (cy 0, 6, .inl g_this_plan_calm)), (a_this_plan_pace, .inl (cy 0, 6, .inl g_this_plan_pace)), (a_this_now, .inr (6, [.int x_this_now_day, .int x_this_now_rule, .int x_this_now_green, .ref a_this_now_trusts])), (a_this_now_trusts, .inl (cy 0, 6, .inl g_this_now_trusts)), (a_this_plan_kindOf, .inl (cy 0, 12, .inl g_this_plan_kindOf)), (a_this, .inr (9, [.ref a_this_tape, .int x_this_tapeSize, .ref a_this_plan, .ref a_this_spare, .ref a_this_now, .ref a_this_history, .ref a_this_machine, .ref a_this_reader, .ref a_this_street, .ref a_this_choice, .ref a_this_ahead, .ref a_this_watch, .ref a_this_octets, .int x_this_octetCount, .ref a_this_refusals, .long x_this_drawn])), (a_this_plan, .inr (4, [.int x_this_plan_cycle, .int x_this_plan_green, .int x_this_plan_rule, .int x_this_plan_least, .int x_this_plan_away, .int x_this_plan_statements, .int x_this_plan_kinds, .ref a_this_plan_calm, .ref a_this_plan_pace, .ref a_this_plan_trusts, .int x_this_plan_walkers, .ref a_this_plan_kindOf, .ref a_this_plan_comesAt, .ref a_this_plan_comers, .ref a_this_plan_names, .ref a_this_plan_code, .int x_this_plan_size, .ref a_this_plan_spans]))] := hD
  obtain ⟨h71932, h71933, h71934⟩ := hw
  refine lv_if_ne (tgt := 10) hx hb dX9_kind_5 (by decide) (fun c71935 => ?_) (fun c71935 => ?_)
  · have h71936 : ib r71930 1 1 := ib_w 1 1 (ib_ne_lo 0 h71932 (by decide) c71935) (by decide)
    have h71937 : ib x_this_plan_kinds 1 6 := ib_w 1 6 (ib_two hx_this_plan_kinds (h71933 c71935)) (by decide)
    have h71938 : ib p0 0 5 := ib_w 0 5 (ib_two (ib_any p0) (h71934 c71935)) (by decide)
    refine lv_iload_n hx hb dX9_kind_10 rfl (lv_at hl 2 rfl) ?_
    rcases Decidable.em (p1 = 0) with s71939_0 | s71939_0
    · subst s71939_0
      refine lv_tableIn (off := 29) (tgt := 40) hx hb dX9_kind_11 (by decide) (by decide) (by decide) (by decide) ?_
      refine lv_aload_n hx hb dX9_kind_40 rfl (lv_at hl 0 rfl) ?_
      refine k_get C0 fg_X9_20 hP 5 rfl rfl dX9_kind_41 ?_
      refine k_get C0 fg_X9_178 hP 6 rfl rfl dX9_kind_44 ?_
      refine lv_iload_n hx hb dX9_kind_47 rfl (lv_at hl 1 rfl) ?_
      refine va_iald hx hb C0.2.2.2.2.2.1 hP 0 0 rfl rfl (ib_in 6 h71938 (by decide)) dX9_kind_48 ?_
      refine lv_topi (fun z71940 ez71940 => ?_)
      subst hQ; exact k_iret hx hb hr hlk rfl () hS True.intro (hP.sub [5, 6, 0, 1, 2, 3, 4] rfl) (hD.sub [5, 6, 0, 1, 2, 3, 4] (by decide) rfl) (Nat.le_of_ble_eq_true rfl) (Nat.le_of_ble_eq_true rfl) dX9_kind_49
    rcases Decidable.em (p1 = 1) with s71939_1 | s71939_1
    · subst s71939_1
      refine lv_tableIn (off := 39) (tgt := 50) hx hb dX9_kind_11 (by decide) (by decide) (by decide) (by decide) ?_
      refine lv_aload_n hx hb dX9_kind_50 rfl (lv_at hl 0 rfl) ?_
      refine k_get C0 fg_X9_20 hP 5 rfl rfl dX9_kind_51 ?_
      refine k_get C0 fg_X9_181 hP 6 rfl rfl dX9_kind_54 ?_
      refine lv_iload_n hx hb dX9_kind_57 rfl (lv_at hl 1 rfl) ?_
      refine va_iald hx hb C0.2.2.2.2.2.1 hP 1 0 rfl rfl (ib_in 6 h71938 (by decide)) dX9_kind_58 ?_
      refine lv_topi (fun z71941 ez71941 => ?_)
      subst hQ; exact k_iret hx hb hr hlk rfl () hS True.intro (hP.sub [5, 6, 0, 1, 2, 3, 4] rfl) (hD.sub [5, 6, 0, 1, 2, 3, 4] (by decide) rfl) (Nat.le_of_ble_eq_true rfl) (Nat.le_of_ble_eq_true rfl) dX9_kind_59
    rcases Decidable.em (p1 = 2) with s71939_2 | s71939_2
    · subst s71939_2
      refine lv_tableIn (off := 49) (tgt := 60) hx hb dX9_kind_11 (by decide) (by decide) (by decide) (by decide) ?_
      refine lv_aload_n hx hb dX9_kind_60 rfl (lv_at hl 0 rfl) ?_
      refine k_get C0 fg_X9_30 hP 5 rfl rfl dX9_kind_61 ?_
      refine k_get C0 fg_X9_184 hP 2 rfl rfl dX9_kind_64 ?_
      refine lv_iload_n hx hb dX9_kind_67 rfl (lv_at hl 1 rfl) ?_
      refine va_iald hx hb C0.2.2.2.2.2.1 hP 3 0 rfl rfl (ib_in 6 h71938 (by decide)) dX9_kind_68 ?_
      refine lv_topi (fun z71942 ez71942 => ?_)
      subst hQ; exact k_iret hx hb hr hlk rfl () hS True.intro (hP.sub [5, 6, 0, 1, 2, 3, 4] rfl) (hD.sub [5, 6, 0, 1, 2, 3, 4] (by decide) rfl) (Nat.le_of_ble_eq_true rfl) (Nat.le_of_ble_eq_true rfl) dX9_kind_69
    rcases Decidable.em (p1 = 3) with s71939_3 | s71939_3
    · subst s71939_3
      refine lv_tableIn (off := 59) (tgt := 70) hx hb dX9_kind_11 (by decide) (by decide) (by decide) (by decide) ?_
      refine lv_aload_n hx hb dX9_kind_70 rfl (lv_at hl 0 rfl) ?_
      refine k_get C0 fg_X9_20 hP 5 rfl rfl dX9_kind_71 ?_
      refine lv_iload_n hx hb dX9_kind_74 rfl (lv_at hl 1 rfl) ?_
      refine k_ji hP hD hS hA [6, 4] [0, 1, 2, 3, 5] (wr := [(a_this_plan_calm, .inl (cy 0, 6, .inl g_this_plan_calm)), (a_this_plan_pace, .inl (cy 0, 6, .inl g_this_plan_pace)), (a_this_now, .inr (6, [.int x_this_now_day, .int x_this_now_rule, .int x_this_now_green, .ref a_this_now_trusts])), (a_this_now_trusts, .inl (cy 0, 6, .inl g_this_now_trusts)), (a_this, .inr (9, [.ref a_this_tape, .int x_this_tapeSize, .ref a_this_plan, .ref a_this_spare, .ref a_this_now, .ref a_this_history, .ref a_this_machine, .ref a_this_reader, .ref a_this_street, .ref a_this_choice, .ref a_this_ahead, .ref a_this_watch, .ref a_this_octets, .int x_this_octetCount, .ref a_this_refusals, .long x_this_drawn]))]) rfl rfl (by decide) (by decide) (by decide) 0 0 (Nat.le_of_ble_eq_true rfl) (Nat.le_of_ble_eq_true rfl) (fun hPc hDc => k_runV (As := [.int p0]) (rest := []) C0 (s_X4_walkersOf l dC dI cy sq a_this_plan x_this_plan_cycle x_this_plan_green x_this_plan_rule x_this_plan_least x_this_plan_away x_this_plan_statements x_this_plan_kinds a_this_plan_calm a_this_plan_pace a_this_plan_trusts x_this_plan_walkers a_this_plan_kindOf g_this_plan_kindOf a_this_plan_comesAt a_this_plan_comers a_this_plan_names a_this_plan_code x_this_plan_size a_this_plan_spans p0 (ib_w 0 120 hx_this_plan_cycle (by decide)) (ib_w 0 99 hx_this_plan_least (by decide)) (ib_w 0 81 hx_this_plan_statements (by decide)) (ib_w 0 6 h71937 (by decide)) (ib_w 0 12 hx_this_plan_walkers (by decide)) hg_this_plan_kindOf (ib_w 0 1600 hx_this_plan_size (by decide))) mV_X9_187 hPc hDc rfl rfl rfl hl rfl rfl (Nat.le_of_ble_eq_true rfl) ⟨(Nat.le_of_ble_eq_true rfl), (Nat.le_of_ble_eq_true rfl)⟩ ⟨(Nat.le_of_ble_eq_true rfl), (Nat.le_of_ble_eq_true rfl)⟩ dX9_kind_75) (fun r71943 u71944 H locs hw hP hD hS => ?_)
      try dsimp only at hP hD hw
      have hP : va_P (dC, dI) vwCl [(a_this_plan_calm, .inl (cy 0, 6, .inl g_this_plan_calm)), (a_this_plan_pace, .inl (cy 0, 6, .inl g_this_plan_pace)), (a_this_now, .inr (6, [.int x_this_now_day, .int x_this_now_rule, .int x_this_now_green, .ref a_this_now_trusts])), (a_this_now_trusts, .inl (cy 0, 6, .inl g_this_now_trusts)), (a_this, .inr (9, [.ref a_this_tape, .int x_this_tapeSize, .ref a_this_plan, .ref a_this_spare, .ref a_this_now, .ref a_this_history, .ref a_this_machine, .ref a_this_reader, .ref a_this_street, .ref a_this_choice, .ref a_this_ahead, .ref a_this_watch, .ref a_this_octets, .int x_this_octetCount, .ref a_this_refusals, .long x_this_drawn])), (a_this_plan, .inr (4, [.int x_this_plan_cycle, .int x_this_plan_green, .int x_this_plan_rule, .int x_this_plan_least, .int x_this_plan_away, .int x_this_plan_statements, .int x_this_plan_kinds, .ref a_this_plan_calm, .ref a_this_plan_pace, .ref a_this_plan_trusts, .int x_this_plan_walkers, .ref a_this_plan_kindOf, .ref a_this_plan_comesAt, .ref a_this_plan_comers, .ref a_this_plan_names, .ref a_this_plan_code, .int x_this_plan_size, .ref a_this_plan_spans])), (a_this_plan_kindOf, .inl (cy 0, 12, .inl g_this_plan_kindOf))] H := hP
      have hD : va_D A [(a_this_plan_calm, .inl (cy 0, 6, .inl g_this_plan_calm)), (a_this_plan_pace, .inl (cy 0, 6, .inl g_this_plan_pace)), (a_this_now, .inr (6, [.int x_this_now_day, .int x_this_now_rule, .int x_this_now_green, .ref a_this_now_trusts])), (a_this_now_trusts, .inl (cy 0, 6, .inl g_this_now_trusts)), (a_this, .inr (9, [.ref a_this_tape, .int x_this_tapeSize, .ref a_this_plan, .ref a_this_spare, .ref a_this_now, .ref a_this_history, .ref a_this_machine, .ref a_this_reader, .ref a_this_street, .ref a_this_choice, .ref a_this_ahead, .ref a_this_watch, .ref a_this_octets, .int x_this_octetCount, .ref a_this_refusals, .long x_this_drawn])), (a_this_plan, .inr (4, [.int x_this_plan_cycle, .int x_this_plan_green, .int x_this_plan_rule, .int x_this_plan_least, .int x_this_plan_away, .int x_this_plan_statements, .int x_this_plan_kinds, .ref a_this_plan_calm, .ref a_this_plan_pace, .ref a_this_plan_trusts, .int x_this_plan_walkers, .ref a_this_plan_kindOf, .ref a_this_plan_comesAt, .ref a_this_plan_comers, .ref a_this_plan_names, .ref a_this_plan_code, .int x_this_plan_size, .ref a_this_plan_spans])), (a_this_plan_kindOf, .inl (cy 0, 12, .inl g_this_plan_kindOf))] := hD
      subst hQ; exact k_iret hx hb hr hlk rfl () hS True.intro (hP.sub [4, 5, 0, 1, 2, 3, 6] rfl) (hD.sub [4, 5, 0, 1, 2, 3, 6] (by decide) rfl) (Nat.le_of_ble_eq_true rfl) (Nat.le_of_ble_eq_true rfl) dX9_kind_78
    refine lv_tableOut (tgt := 79) hx hb dX9_kind_11 (by simp only [← Int32.toInt_inj, kl0, kl1, kl2, kl3, kl4, kl5, kl6, kl7, kl60, klm1] at s71939_0 s71939_1 s71939_2 s71939_3; omega) (by decide) ?_
    refine lv_iconst (v := (-1)) hx hb dX9_kind_79 (by decide) ?_
    subst hQ; exact k_iret hx hb hr hlk rfl () hS True.intro (hP.sub [5, 6, 0, 1, 2, 3, 4] rfl) (hD.sub [5, 6, 0, 1, 2, 3, 4] (by decide) rfl) (Nat.le_of_ble_eq_true rfl) (Nat.le_of_ble_eq_true rfl) dX9_kind_80
  · have h71945 := ib_eq h71932 (ib_c 0 0 0 (by decide)) c71935
    have h71946 : ib r71930 0 0 := ib_w 0 0 h71945.1 (by decide)
    refine lv_iconst (v := (-1)) hx hb dX9_kind_8 (by decide) ?_
    subst hQ; exact k_iret hx hb hr hlk rfl () hS True.intro (hP.sub [5, 6, 0, 1, 2, 3, 4] rfl) (hD.sub [5, 6, 0, 1, 2, 3, 4] (by decide) rfl) (Nat.le_of_ble_eq_true rfl) (Nat.le_of_ble_eq_true rfl) dX9_kind_9
set_option maxHeartbeats 4000000 in
set_option maxRecDepth 100000 in
theorem s_X9_octet (l : Launch) (dC : Nat → ClassId) (dI : Nat → Nat → Nat) (cy : Nat → ClassId) (sq : Nat → Nat) (a_this : Nat) (a_this_tape : Nat) (x_this_tapeSize : Int32) (a_this_plan : Nat) (a_this_spare : Nat) (a_this_now : Nat) (a_this_history : Nat) (a_this_machine : Nat) (a_this_reader : Nat) (a_this_street : Nat) (a_this_choice : Nat) (a_this_ahead : Nat) (a_this_watch : Nat) (a_this_octets : Nat) (g_this_octets : Nat → Int32) (x_this_octetCount : Int32) (a_this_refusals : Nat) (x_this_drawn : Int64) (p0 : Int32) (hx_this_tapeSize : ib x_this_tapeSize 0 1600) (hx_this_octetCount : ib x_this_octetCount 0 11) : k_Met l yX9_octet cX9_octet 2 (some .int) { frames := 0, cells := 0, slots := 0, locals := 0 } dC dI cy sq [.ref a_this, .int p0] [(a_this, .inr (9, [.ref a_this_tape, .int x_this_tapeSize, .ref a_this_plan, .ref a_this_spare, .ref a_this_now, .ref a_this_history, .ref a_this_machine, .ref a_this_reader, .ref a_this_street, .ref a_this_choice, .ref a_this_ahead, .ref a_this_watch, .ref a_this_octets, .int x_this_octetCount, .ref a_this_refusals, .long x_this_drawn])), (a_this_octets, .inl (cy 0, 11, .inl g_this_octets))] (k_Qi dC dI (fun (r : Int32) (_ : Unit) => True) (fun _ : Unit => [(a_this, .inr (9, [.ref a_this_tape, .int x_this_tapeSize, .ref a_this_plan, .ref a_this_spare, .ref a_this_now, .ref a_this_history, .ref a_this_machine, .ref a_this_reader, .ref a_this_street, .ref a_this_choice, .ref a_this_ahead, .ref a_this_watch, .ref a_this_octets, .int x_this_octetCount, .ref a_this_refusals, .long x_this_drawn])), (a_this_octets, .inl (cy 0, 11, .inl g_this_octets))])) := by
  refine k_ofW2 (by decide +kernel) (Nat.le_of_ble_eq_true rfl) ?_
  intro p e s m below meth c A ls H locs args Q hQ C0 hr hlk hin hP hD hA hS hl
  have C0 : k_cx p s m args c cX9_octet 2 RX9 dC dI cy sq := C0
  have hx := C0.1
  have hb := C0.2.1
  have hl : lv_has ls 2 [(0, .ref a_this), (1, .int p0)] := hl
  refine lv_iload_n hx hb dX9_octet_0 rfl (lv_at hl 1 rfl) ?_
  refine lv_if_lt (tgt := 21) hx hb dX9_octet_1 (by decide) (fun c81553 => ?_) (fun c81553 => ?_)
  · have h81554 := ib_lt (ib_any p0) (ib_c 0 0 0 (by decide)) c81553
    have h81555 : ib p0 (-2147483648) (-1) := ib_w (-2147483648) (-1) h81554.1 (by decide)
    refine lv_iconst (v := (-1)) hx hb dX9_octet_21 (by decide) ?_
    subst hQ; exact k_iret hx hb hr hlk rfl () hS True.intro hP hD (Nat.le_of_ble_eq_true rfl) (Nat.le_of_ble_eq_true rfl) dX9_octet_22
  · have h81556 := ib_nlt (ib_any p0) (ib_c 0 0 0 (by decide)) c81553
    have h81557 : ib p0 0 2147483647 := ib_w 0 2147483647 h81556.1 (by decide)
    refine lv_iload_n hx hb dX9_octet_4 rfl (lv_at hl 1 rfl) ?_
    refine lv_aload_n hx hb dX9_octet_5 rfl (lv_at hl 0 rfl) ?_
    refine k_get C0 fg_X9_92 hP 0 rfl rfl dX9_octet_6 ?_
    refine lv_icmp_ge (tgt := 21) hx hb dX9_octet_9 (by decide) (fun c81558 => ?_) (fun c81558 => ?_)
    · have h81559 := ib_le hx_this_octetCount h81557 c81558
      refine lv_iconst (v := (-1)) hx hb dX9_octet_21 (by decide) ?_
      subst hQ; exact k_iret hx hb hr hlk rfl () hS True.intro hP hD (Nat.le_of_ble_eq_true rfl) (Nat.le_of_ble_eq_true rfl) dX9_octet_22
    · have h81560 := ib_nle hx_this_octetCount h81557 c81558
      have h81561 : ib x_this_octetCount 1 11 := ib_w 1 11 h81560.1 (by decide)
      have h81562 : ib p0 0 10 := ib_w 0 10 h81560.2 (by decide)
      refine lv_aload_n hx hb dX9_octet_12 rfl (lv_at hl 0 rfl) ?_
      refine k_get C0 fg_X9_89 hP 0 rfl rfl dX9_octet_13 ?_
      refine lv_iload_n hx hb dX9_octet_16 rfl (lv_at hl 1 rfl) ?_
      refine va_iald hx hb C0.2.2.2.2.2.1 hP 1 0 rfl rfl (ib_in 11 h81562 (by decide)) dX9_octet_17 ?_
      refine lv_topi (fun z81563 ez81563 => ?_)
      refine lv_goto (tgt := 22) hx hb dX9_octet_18 (by decide) ?_
      subst hQ; exact k_iret hx hb hr hlk rfl () hS True.intro hP hD (Nat.le_of_ble_eq_true rfl) (Nat.le_of_ble_eq_true rfl) dX9_octet_22
set_option maxHeartbeats 4000000 in
set_option maxRecDepth 100000 in
theorem s_X9_refuse (l : Launch) (dC : Nat → ClassId) (dI : Nat → Nat → Nat) (cy : Nat → ClassId) (sq : Nat → Nat) (a_this : Nat) (a_this_tape : Nat) (x_this_tapeSize : Int32) (a_this_plan : Nat) (a_this_spare : Nat) (a_this_now : Nat) (a_this_history : Nat) (a_this_machine : Nat) (a_this_reader : Nat) (a_this_street : Nat) (a_this_choice : Nat) (a_this_ahead : Nat) (a_this_watch : Nat) (a_this_octets : Nat) (x_this_octetCount : Int32) (a_this_refusals : Nat) (g_this_refusals : Nat → Int32) (x_this_drawn : Int64) (p0 : Int32) (hx_this_tapeSize : ib x_this_tapeSize 0 1600) (hx_this_octetCount : ib x_this_octetCount 0 11) (hp0 : ib p0 0 5) : k_Met l yX9_refuse cX9_refuse 2 (some .int) { frames := 0, cells := 0, slots := 0, locals := 0 } dC dI cy sq [.ref a_this, .int p0] [(a_this, .inr (9, [.ref a_this_tape, .int x_this_tapeSize, .ref a_this_plan, .ref a_this_spare, .ref a_this_now, .ref a_this_history, .ref a_this_machine, .ref a_this_reader, .ref a_this_street, .ref a_this_choice, .ref a_this_ahead, .ref a_this_watch, .ref a_this_octets, .int x_this_octetCount, .ref a_this_refusals, .long x_this_drawn])), (a_this_refusals, .inl (cy 0, 6, .inl g_this_refusals))] (k_Qi dC dI (fun (r : Int32) (n0 : (Nat → Int32)) => ib r (-1) (-1)) (fun n0 : (Nat → Int32) => [(a_this, .inr (9, [.ref a_this_tape, .int x_this_tapeSize, .ref a_this_plan, .ref a_this_spare, .ref a_this_now, .ref a_this_history, .ref a_this_machine, .ref a_this_reader, .ref a_this_street, .ref a_this_choice, .ref a_this_ahead, .ref a_this_watch, .ref a_this_octets, .int x_this_octetCount, .ref a_this_refusals, .long x_this_drawn])), (a_this_refusals, .inl (cy 0, 6, .inl n0))])) := by
  refine k_ofW2 (by decide +kernel) (Nat.le_of_ble_eq_true rfl) ?_
  intro p e s m below meth c A ls H locs args Q hQ C0 hr hlk hin hP hD hA hS hl
  have C0 : k_cx p s m args c cX9_refuse 2 RX9 dC dI cy sq := C0
  have hx := C0.1
  have hb := C0.2.1
  have hl : lv_has ls 2 [(0, .ref a_this), (1, .int p0)] := hl
  refine lv_aload_n hx hb dX9_refuse_0 rfl (lv_at hl 0 rfl) ?_
  refine k_get C0 fg_X9_95 hP 0 rfl rfl dX9_refuse_1 ?_
  refine lv_iload_n hx hb dX9_refuse_4 rfl (lv_at hl 1 rfl) ?_
  refine lv_dup2_11 hx hb dX9_refuse_5 rfl rfl ?_
  refine va_iald hx hb C0.2.2.2.2.2.1 hP 1 0 rfl rfl (ib_in 6 hp0 (by decide)) dX9_refuse_6 ?_
  refine lv_topi (fun z81898 ez81898 => ?_)
  refine lv_iconst (v := 1) hx hb dX9_refuse_7 (by decide) ?_
  refine lv_iadd hx hb dX9_refuse_8 ?_
  refine lv_topi (fun z81899 ez81899 => ?_)
  refine va_iast hx hb C0.2.2.2.2.2.1 hP hD hS 1 0 rfl rfl (ib_in 6 hp0 (by decide)) dX9_refuse_9 (fun H locs hP hD hS => ?_)
  have hP : va_P (dC, dI) vwCl [(a_this, .inr (9, [.ref a_this_tape, .int x_this_tapeSize, .ref a_this_plan, .ref a_this_spare, .ref a_this_now, .ref a_this_history, .ref a_this_machine, .ref a_this_reader, .ref a_this_street, .ref a_this_choice, .ref a_this_ahead, .ref a_this_watch, .ref a_this_octets, .int x_this_octetCount, .ref a_this_refusals, .long x_this_drawn])), (a_this_refusals, .inl (cy 0, 6, .inl (upd g_this_refusals (Int32.toNatClampNeg p0) z81899)))] H := hP
  have hD : va_D A [(a_this, .inr (9, [.ref a_this_tape, .int x_this_tapeSize, .ref a_this_plan, .ref a_this_spare, .ref a_this_now, .ref a_this_history, .ref a_this_machine, .ref a_this_reader, .ref a_this_street, .ref a_this_choice, .ref a_this_ahead, .ref a_this_watch, .ref a_this_octets, .int x_this_octetCount, .ref a_this_refusals, .long x_this_drawn])), (a_this_refusals, .inl (cy 0, 6, .inl (upd g_this_refusals (Int32.toNatClampNeg p0) z81899)))] := hD
  generalize upd g_this_refusals (Int32.toNatClampNeg p0) z81899 = f81900 at hP hD
  refine lv_iconst (v := (-1)) hx hb dX9_refuse_10 (by decide) ?_
  subst hQ; exact k_iret hx hb hr hlk rfl f81900 hS (ib_w (-1) (-1) (ib_c (-1) (-1) (-1) (by decide)) (by decide)) hP hD (Nat.le_of_ble_eq_true rfl) (Nat.le_of_ble_eq_true rfl) dX9_refuse_11
set_option maxHeartbeats 4000000 in
set_option maxRecDepth 100000 in
theorem s_X9_seed (l : Launch) (dC : Nat → ClassId) (dI : Nat → Nat → Nat) (cy : Nat → ClassId) (sq : Nat → Nat) (a_this : Nat) (a_this_tape : Nat) (x_this_tapeSize : Int32) (a_this_plan : Nat) (a_this_spare : Nat) (a_this_now : Nat) (a_this_history : Nat) (a_this_machine : Nat) (a_this_reader : Nat) (a_this_street : Nat) (a_this_choice : Nat) (a_this_ahead : Nat) (a_this_watch : Nat) (a_this_octets : Nat) (x_this_octetCount : Int32) (a_this_refusals : Nat) (g_this_refusals : Nat → Int32) (x_this_drawn : Int64) (p0 : Int32) (hx_this_tapeSize : ib x_this_tapeSize 0 1600) (hx_this_octetCount : ib x_this_octetCount 0 11) : k_Met l yX9_seed cX9_seed 2 (some .boolean) { frames := 1, cells := 0, slots := 0, locals := 21 } dC dI cy sq [.ref a_this, .int p0] [(a_this, .inr (9, [.ref a_this_tape, .int x_this_tapeSize, .ref a_this_plan, .ref a_this_spare, .ref a_this_now, .ref a_this_history, .ref a_this_machine, .ref a_this_reader, .ref a_this_street, .ref a_this_choice, .ref a_this_ahead, .ref a_this_watch, .ref a_this_octets, .int x_this_octetCount, .ref a_this_refusals, .long x_this_drawn])), (a_this_refusals, .inl (cy 0, 6, .inl g_this_refusals))] (k_Qi dC dI (fun (r : Int32) (u : Int64 × (Nat → Int32)) => match u with | (n0, n1) => ib r 0 1 ∧ (¬ r = 0 → ib p0 0 2147483647)) (fun u : Int64 × (Nat → Int32) => match u with | (n0, n1) => [(a_this, .inr (9, [.ref a_this_tape, .int x_this_tapeSize, .ref a_this_plan, .ref a_this_spare, .ref a_this_now, .ref a_this_history, .ref a_this_machine, .ref a_this_reader, .ref a_this_street, .ref a_this_choice, .ref a_this_ahead, .ref a_this_watch, .ref a_this_octets, .int x_this_octetCount, .ref a_this_refusals, .long n0])), (a_this_refusals, .inl (cy 0, 6, .inl n1))])) := by
  refine k_ofW2 (by decide +kernel) (Nat.le_of_ble_eq_true rfl) ?_
  intro p e s m below meth c A ls H locs args Q hQ C0 hr hlk hin hP hD hA hS hl
  have C0 : k_cx p s m args c cX9_seed 2 RX9 dC dI cy sq := C0
  have hx := C0.1
  have hb := C0.2.1
  have hl : lv_has ls 2 [(0, .ref a_this), (1, .int p0)] := hl
  refine lv_iload_n hx hb dX9_seed_0 rfl (lv_at hl 1 rfl) ?_
  refine lv_if_ge (tgt := 10) hx hb dX9_seed_1 (by decide) (fun c82800 => ?_) (fun c82800 => ?_)
  · have h82801 := ib_le (ib_c 0 0 0 (by decide)) (ib_any p0) c82800
    have h82802 : ib p0 0 2147483647 := ib_w 0 2147483647 h82801.2 (by decide)
    refine lv_aload_n hx hb dX9_seed_10 rfl (lv_at hl 0 rfl) ?_
    refine lv_iload_n hx hb dX9_seed_11 rfl (lv_at hl 1 rfl) ?_
    refine lv_i2l (v := p0.toInt64) hx hb dX9_seed_12 rfl ?_
    refine k_put C0 fp_X9_98 hP hD hS 0 rfl rfl rfl (Nat.le_of_ble_eq_true rfl) dX9_seed_13 (fun H locs hP hD hS => ?_)
    have hP : va_P (dC, dI) vwCl [(a_this, .inr (9, [.ref a_this_tape, .int x_this_tapeSize, .ref a_this_plan, .ref a_this_spare, .ref a_this_now, .ref a_this_history, .ref a_this_machine, .ref a_this_reader, .ref a_this_street, .ref a_this_choice, .ref a_this_ahead, .ref a_this_watch, .ref a_this_octets, .int x_this_octetCount, .ref a_this_refusals, .long p0.toInt64])), (a_this_refusals, .inl (cy 0, 6, .inl g_this_refusals))] H := hP
    have hD : va_D A [(a_this, .inr (9, [.ref a_this_tape, .int x_this_tapeSize, .ref a_this_plan, .ref a_this_spare, .ref a_this_now, .ref a_this_history, .ref a_this_machine, .ref a_this_reader, .ref a_this_street, .ref a_this_choice, .ref a_this_ahead, .ref a_this_watch, .ref a_this_octets, .int x_this_octetCount, .ref a_this_refusals, .long p0.toInt64])), (a_this_refusals, .inl (cy 0, 6, .inl g_this_refusals))] := hD
    refine lv_iconst (v := 1) hx hb dX9_seed_16 (by decide) ?_
    subst hQ; exact k_iret hx hb hr hlk (k_nb 1 (by decide)) ((p0.toInt64, g_this_refusals)) hS ⟨ib_w 0 1 (ib_c 1 1 1 (by decide)) (by decide), fun _ => ib_w 0 2147483647 h82802 (by decide)⟩ hP hD (Nat.le_of_ble_eq_true rfl) (Nat.le_of_ble_eq_true rfl) dX9_seed_17
  · have h82803 := ib_nle (ib_c 0 0 0 (by decide)) (ib_any p0) c82800
    have h82804 : ib p0 (-2147483648) (-1) := ib_w (-2147483648) (-1) h82803.2 (by decide)
    refine lv_aload_n hx hb dX9_seed_4 rfl (lv_at hl 0 rfl) ?_
    refine lv_iconst (v := 5) hx hb dX9_seed_5 (by decide) ?_
    refine k_ji hP hD hS hA [0, 1] [] (wr := []) rfl rfl (by decide) (by decide) (by decide) 0 0 (Nat.le_of_ble_eq_true rfl) (Nat.le_of_ble_eq_true rfl) (fun hPc hDc => k_runV (As := [.int 5]) (rest := []) C0 (s_X9_deny l dC dI cy sq a_this a_this_tape x_this_tapeSize a_this_plan a_this_spare a_this_now a_this_history a_this_machine a_this_reader a_this_street a_this_choice a_this_ahead a_this_watch a_this_octets x_this_octetCount a_this_refusals g_this_refusals x_this_drawn 5 (ib_w 0 1600 hx_this_tapeSize (by decide)) (ib_w 0 11 hx_this_octetCount (by decide)) (ib_w 0 5 (ib_c 5 5 5 (by decide)) (by decide))) mV_X9_110 hPc hDc rfl rfl rfl hl rfl rfl (Nat.le_of_ble_eq_true rfl) ⟨(Nat.le_of_ble_eq_true rfl), (Nat.le_of_ble_eq_true rfl)⟩ ⟨(Nat.le_of_ble_eq_true rfl), (Nat.le_of_ble_eq_true rfl)⟩ dX9_seed_6) (fun r82805 u82806 H locs hw hP hD hS => ?_)
    obtain ⟨f82807, ef82807⟩ : ∃ z, z = u82806 := ⟨_, rfl⟩; subst ef82807
    try dsimp only at hP hD hw
    have hP : va_P (dC, dI) vwCl [(a_this, .inr (9, [.ref a_this_tape, .int x_this_tapeSize, .ref a_this_plan, .ref a_this_spare, .ref a_this_now, .ref a_this_history, .ref a_this_machine, .ref a_this_reader, .ref a_this_street, .ref a_this_choice, .ref a_this_ahead, .ref a_this_watch, .ref a_this_octets, .int x_this_octetCount, .ref a_this_refusals, .long x_this_drawn])), (a_this_refusals, .inl (cy 0, 6, .inl f82807))] H := hP
    have hD : va_D A [(a_this, .inr (9, [.ref a_this_tape, .int x_this_tapeSize, .ref a_this_plan, .ref a_this_spare, .ref a_this_now, .ref a_this_history, .ref a_this_machine, .ref a_this_reader, .ref a_this_street, .ref a_this_choice, .ref a_this_ahead, .ref a_this_watch, .ref a_this_octets, .int x_this_octetCount, .ref a_this_refusals, .long x_this_drawn])), (a_this_refusals, .inl (cy 0, 6, .inl f82807))] := hD
    have h82808 := hw
    subst hQ; exact k_iret hx hb hr hlk (ib_bool (ib_w 0 1 h82808 (by decide))) ((x_this_drawn, f82807)) hS ⟨ib_w 0 1 h82808 (by decide), fun h9 => absurd (ib_one h82808 (by decide)) h9⟩ hP hD (Nat.le_of_ble_eq_true rfl) (Nat.le_of_ble_eq_true rfl) dX9_seed_9
set_option maxHeartbeats 4000000 in
set_option maxRecDepth 100000 in
theorem s_X9_status (l : Launch) (dC : Nat → ClassId) (dI : Nat → Nat → Nat) (cy : Nat → ClassId) (sq : Nat → Nat) (a_this : Nat) (a_this_tape : Nat) (x_this_tapeSize : Int32) (a_this_plan : Nat) (a_this_spare : Nat) (a_this_now : Nat) (a_this_history : Nat) (a_this_machine : Nat) (a_this_reader : Nat) (a_this_street : Nat) (a_this_choice : Nat) (a_this_ahead : Nat) (a_this_watch : Nat) (a_this_octets : Nat) (x_this_octetCount : Int32) (a_this_refusals : Nat) (g_this_refusals : Nat → Int32) (x_this_drawn : Int64) (p0 : Int32) (hx_this_tapeSize : ib x_this_tapeSize 0 1600) (hx_this_octetCount : ib x_this_octetCount 0 11) : k_Met l yX9_status cX9_status 2 (some .int) { frames := 0, cells := 0, slots := 0, locals := 0 } dC dI cy sq [.ref a_this, .int p0] [(a_this, .inr (9, [.ref a_this_tape, .int x_this_tapeSize, .ref a_this_plan, .ref a_this_spare, .ref a_this_now, .ref a_this_history, .ref a_this_machine, .ref a_this_reader, .ref a_this_street, .ref a_this_choice, .ref a_this_ahead, .ref a_this_watch, .ref a_this_octets, .int x_this_octetCount, .ref a_this_refusals, .long x_this_drawn])), (a_this_refusals, .inl (cy 0, 6, .inl g_this_refusals))] (k_Qi dC dI (fun (r : Int32) (_ : Unit) => True) (fun _ : Unit => [(a_this, .inr (9, [.ref a_this_tape, .int x_this_tapeSize, .ref a_this_plan, .ref a_this_spare, .ref a_this_now, .ref a_this_history, .ref a_this_machine, .ref a_this_reader, .ref a_this_street, .ref a_this_choice, .ref a_this_ahead, .ref a_this_watch, .ref a_this_octets, .int x_this_octetCount, .ref a_this_refusals, .long x_this_drawn])), (a_this_refusals, .inl (cy 0, 6, .inl g_this_refusals))])) := by
  refine k_ofW2 (by decide +kernel) (Nat.le_of_ble_eq_true rfl) ?_
  intro p e s m below meth c A ls H locs args Q hQ C0 hr hlk hin hP hD hA hS hl
  have C0 : k_cx p s m args c cX9_status 2 RX9 dC dI cy sq := C0
  have hx := C0.1
  have hb := C0.2.1
  have hl : lv_has ls 2 [(0, .ref a_this), (1, .int p0)] := hl
  refine lv_iload_n hx hb dX9_status_0 rfl (lv_at hl 1 rfl) ?_
  refine lv_if_lt (tgt := 19) hx hb dX9_status_1 (by decide) (fun c82919 => ?_) (fun c82919 => ?_)
  · have h82920 := ib_lt (ib_any p0) (ib_c 0 0 0 (by decide)) c82919
    have h82921 : ib p0 (-2147483648) (-1) := ib_w (-2147483648) (-1) h82920.1 (by decide)
    refine lv_iconst (v := (-1)) hx hb dX9_status_19 (by decide) ?_
    subst hQ; exact k_iret hx hb hr hlk rfl () hS True.intro hP hD (Nat.le_of_ble_eq_true rfl) (Nat.le_of_ble_eq_true rfl) dX9_status_20
  · have h82922 := ib_nlt (ib_any p0) (ib_c 0 0 0 (by decide)) c82919
    have h82923 : ib p0 0 2147483647 := ib_w 0 2147483647 h82922.1 (by decide)
    refine lv_iload_n hx hb dX9_status_4 rfl (lv_at hl 1 rfl) ?_
    refine lv_bipush (v := 6) hx hb dX9_status_5 (by decide) ?_
    refine lv_icmp_ge (tgt := 19) hx hb dX9_status_7 (by decide) (fun c82924 => ?_) (fun c82924 => ?_)
    · have h82925 := ib_le (ib_c 6 6 6 (by decide)) h82923 c82924
      have h82926 : ib p0 6 2147483647 := ib_w 6 2147483647 h82925.2 (by decide)
      refine lv_iconst (v := (-1)) hx hb dX9_status_19 (by decide) ?_
      subst hQ; exact k_iret hx hb hr hlk rfl () hS True.intro hP hD (Nat.le_of_ble_eq_true rfl) (Nat.le_of_ble_eq_true rfl) dX9_status_20
    · have h82927 := ib_nle (ib_c 6 6 6 (by decide)) h82923 c82924
      have h82928 : ib p0 0 5 := ib_w 0 5 h82927.2 (by decide)
      refine lv_aload_n hx hb dX9_status_10 rfl (lv_at hl 0 rfl) ?_
      refine k_get C0 fg_X9_95 hP 0 rfl rfl dX9_status_11 ?_
      refine lv_iload_n hx hb dX9_status_14 rfl (lv_at hl 1 rfl) ?_
      refine va_iald hx hb C0.2.2.2.2.2.1 hP 1 0 rfl rfl (ib_in 6 h82928 (by decide)) dX9_status_15 ?_
      refine lv_topi (fun z82929 ez82929 => ?_)
      refine lv_goto (tgt := 20) hx hb dX9_status_16 (by decide) ?_
      subst hQ; exact k_iret hx hb hr hlk rfl () hS True.intro hP hD (Nat.le_of_ble_eq_true rfl) (Nat.le_of_ble_eq_true rfl) dX9_status_20
