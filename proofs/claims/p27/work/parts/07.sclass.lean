set_option maxHeartbeats 4000000 in
set_option maxRecDepth 100000 in
theorem s_X4_allowsGreen (l : Launch) (dC : Nat → ClassId) (dI : Nat → Nat → Nat) (cy : Nat → ClassId) (sq : Nat → Nat) (a_this : Nat) (x_this_cycle : Int32) (x_this_green : Int32) (x_this_rule : Int32) (x_this_least : Int32) (x_this_away : Int32) (x_this_statements : Int32) (x_this_kinds : Int32) (a_this_calm : Nat) (a_this_pace : Nat) (a_this_trusts : Nat) (x_this_walkers : Int32) (a_this_kindOf : Nat) (a_this_comesAt : Nat) (a_this_comers : Nat) (a_this_names : Nat) (a_this_code : Nat) (x_this_size : Int32) (a_this_spans : Nat) (p0 : Int32) (hx_this_cycle : ib x_this_cycle 0 120) (hx_this_least : ib x_this_least 0 99) (hx_this_statements : ib x_this_statements 0 81) (hx_this_kinds : ib x_this_kinds 0 6) (hx_this_walkers : ib x_this_walkers 0 12) (hx_this_size : ib x_this_size 0 1600) : k_Met l yX4_allowsGreen cX4_allowsGreen 2 (some .boolean) { frames := 0, cells := 0, slots := 0, locals := 0 } dC dI cy sq [.ref a_this, .int p0] [(a_this, .inr (4, [.int x_this_cycle, .int x_this_green, .int x_this_rule, .int x_this_least, .int x_this_away, .int x_this_statements, .int x_this_kinds, .ref a_this_calm, .ref a_this_pace, .ref a_this_trusts, .int x_this_walkers, .ref a_this_kindOf, .ref a_this_comesAt, .ref a_this_comers, .ref a_this_names, .ref a_this_code, .int x_this_size, .ref a_this_spans]))] (k_Qi dC dI (fun (r : Int32) (_ : Unit) => ib r 0 1) (fun _ : Unit => [(a_this, .inr (4, [.int x_this_cycle, .int x_this_green, .int x_this_rule, .int x_this_least, .int x_this_away, .int x_this_statements, .int x_this_kinds, .ref a_this_calm, .ref a_this_pace, .ref a_this_trusts, .int x_this_walkers, .ref a_this_kindOf, .ref a_this_comesAt, .ref a_this_comers, .ref a_this_names, .ref a_this_code, .int x_this_size, .ref a_this_spans]))])) := by
  refine k_ofW (by decide +kernel) (Nat.le_of_ble_eq_true rfl) ?_
  intro p e s m below meth c A ls H locs C0 hr hlk hin hP hD hA hS hl
  have C0 : k_cx p s m _ c cX4_allowsGreen 2 RX4 dC dI cy sq := C0
  have hx := C0.1
  have hb := C0.2.1
  have hl : lv_has ls 2 [(0, .ref a_this), (1, .int p0)] := hl
  refine lv_iload_n hx hb dX4_allowsGreen_0 rfl (lv_at hl 1 rfl) ?_
  refine lv_iconst (v := 1) hx hb dX4_allowsGreen_1 (by decide) ?_
  refine lv_icmp_lt (tgt := 23) hx hb dX4_allowsGreen_2 (by decide) (fun c16 => ?_) (fun c16 => ?_)
  · have h17 := ib_lt (ib_any p0) (ib_c 1 1 1 (by decide)) c16
    have h18 : ib p0 (-2147483648) 0 := ib_w (-2147483648) 0 h17.1 (by decide)
    refine lv_iconst (v := 0) hx hb dX4_allowsGreen_23 (by decide) ?_
    exact k_iret hx hb hr hlk (k_nb 0 (by decide)) () hS (ib_w 0 1 (ib_c 0 0 0 (by decide)) (by decide)) hP hD (Nat.le_of_ble_eq_true rfl) (Nat.le_of_ble_eq_true rfl) dX4_allowsGreen_24
  · have h19 := ib_nlt (ib_any p0) (ib_c 1 1 1 (by decide)) c16
    have h20 : ib p0 1 2147483647 := ib_w 1 2147483647 h19.1 (by decide)
    refine lv_iload_n hx hb dX4_allowsGreen_5 rfl (lv_at hl 1 rfl) ?_
    refine lv_bipush (v := 60) hx hb dX4_allowsGreen_6 (by decide) ?_
    refine lv_icmp_gt (tgt := 23) hx hb dX4_allowsGreen_8 (by decide) (fun c21 => ?_) (fun c21 => ?_)
    · have h22 := ib_lt (ib_c 60 60 60 (by decide)) h20 c21
      have h23 : ib p0 61 2147483647 := ib_w 61 2147483647 h22.2 (by decide)
      refine lv_iconst (v := 0) hx hb dX4_allowsGreen_23 (by decide) ?_
      exact k_iret hx hb hr hlk (k_nb 0 (by decide)) () hS (ib_w 0 1 (ib_c 0 0 0 (by decide)) (by decide)) hP hD (Nat.le_of_ble_eq_true rfl) (Nat.le_of_ble_eq_true rfl) dX4_allowsGreen_24
    · have h24 := ib_nlt (ib_c 60 60 60 (by decide)) h20 c21
      have h25 : ib p0 1 60 := ib_w 1 60 h24.2 (by decide)
      refine lv_iload_n hx hb dX4_allowsGreen_11 rfl (lv_at hl 1 rfl) ?_
      refine lv_aload_n hx hb dX4_allowsGreen_12 rfl (lv_at hl 0 rfl) ?_
      refine k_get C0 fg_X4_39 hP 0 rfl rfl dX4_allowsGreen_13 ?_
      refine lv_icmp_ge (tgt := 23) hx hb dX4_allowsGreen_16 (by decide) (fun c26 => ?_) (fun c26 => ?_)
      · have h27 := ib_le hx_this_cycle h25 c26
        have h28 : ib x_this_cycle 0 60 := ib_w 0 60 h27.1 (by decide)
        refine lv_iconst (v := 0) hx hb dX4_allowsGreen_23 (by decide) ?_
        exact k_iret hx hb hr hlk (k_nb 0 (by decide)) () hS (ib_w 0 1 (ib_c 0 0 0 (by decide)) (by decide)) hP hD (Nat.le_of_ble_eq_true rfl) (Nat.le_of_ble_eq_true rfl) dX4_allowsGreen_24
      · have h29 := ib_nle hx_this_cycle h25 c26
        have h30 : ib x_this_cycle 2 120 := ib_w 2 120 h29.1 (by decide)
        refine lv_iconst (v := 1) hx hb dX4_allowsGreen_19 (by decide) ?_
        refine lv_goto (tgt := 24) hx hb dX4_allowsGreen_20 (by decide) ?_
        exact k_iret hx hb hr hlk (k_nb 1 (by decide)) () hS (ib_w 0 1 (ib_c 1 1 1 (by decide)) (by decide)) hP hD (Nat.le_of_ble_eq_true rfl) (Nat.le_of_ble_eq_true rfl) dX4_allowsGreen_24
set_option maxHeartbeats 4000000 in
set_option maxRecDepth 100000 in
theorem s_X4_comersIn (l : Launch) (dC : Nat → ClassId) (dI : Nat → Nat → Nat) (cy : Nat → ClassId) (sq : Nat → Nat) (a_this : Nat) (x_this_cycle : Int32) (x_this_green : Int32) (x_this_rule : Int32) (x_this_least : Int32) (x_this_away : Int32) (x_this_statements : Int32) (x_this_kinds : Int32) (a_this_calm : Nat) (a_this_pace : Nat) (a_this_trusts : Nat) (x_this_walkers : Int32) (a_this_kindOf : Nat) (a_this_comesAt : Nat) (a_this_comers : Nat) (g_this_comers : Nat → Int32) (a_this_names : Nat) (a_this_code : Nat) (x_this_size : Int32) (a_this_spans : Nat) (p0 : Int32) (hx_this_cycle : ib x_this_cycle 0 120) (hx_this_least : ib x_this_least 0 99) (hx_this_statements : ib x_this_statements 0 81) (hx_this_kinds : ib x_this_kinds 0 6) (hx_this_walkers : ib x_this_walkers 0 12) (hx_this_size : ib x_this_size 0 1600) : k_Met l yX4_comersIn cX4_comersIn 2 (some .int) { frames := 0, cells := 0, slots := 0, locals := 0 } dC dI cy sq [.ref a_this, .int p0] [(a_this, .inr (4, [.int x_this_cycle, .int x_this_green, .int x_this_rule, .int x_this_least, .int x_this_away, .int x_this_statements, .int x_this_kinds, .ref a_this_calm, .ref a_this_pace, .ref a_this_trusts, .int x_this_walkers, .ref a_this_kindOf, .ref a_this_comesAt, .ref a_this_comers, .ref a_this_names, .ref a_this_code, .int x_this_size, .ref a_this_spans])), (a_this_comers, .inl (cy 0, 200, .inl g_this_comers))] (k_Qi dC dI (fun (r : Int32) (_ : Unit) => True) (fun _ : Unit => [(a_this, .inr (4, [.int x_this_cycle, .int x_this_green, .int x_this_rule, .int x_this_least, .int x_this_away, .int x_this_statements, .int x_this_kinds, .ref a_this_calm, .ref a_this_pace, .ref a_this_trusts, .int x_this_walkers, .ref a_this_kindOf, .ref a_this_comesAt, .ref a_this_comers, .ref a_this_names, .ref a_this_code, .int x_this_size, .ref a_this_spans])), (a_this_comers, .inl (cy 0, 200, .inl g_this_comers))])) := by
  refine k_ofW (by decide +kernel) (Nat.le_of_ble_eq_true rfl) ?_
  intro p e s m below meth c A ls H locs C0 hr hlk hin hP hD hA hS hl
  have C0 : k_cx p s m _ c cX4_comersIn 2 RX4 dC dI cy sq := C0
  have hx := C0.1
  have hb := C0.2.1
  have hl : lv_has ls 2 [(0, .ref a_this), (1, .int p0)] := hl
  refine lv_iload_n hx hb dX4_comersIn_0 rfl (lv_at hl 1 rfl) ?_
  refine lv_if_lt (tgt := 20) hx hb dX4_comersIn_1 (by decide) (fun c42 => ?_) (fun c42 => ?_)
  · have h43 := ib_lt (ib_any p0) (ib_c 0 0 0 (by decide)) c42
    have h44 : ib p0 (-2147483648) (-1) := ib_w (-2147483648) (-1) h43.1 (by decide)
    refine lv_iconst (v := 0) hx hb dX4_comersIn_20 (by decide) ?_
    exact k_iret hx hb hr hlk rfl () hS True.intro hP hD (Nat.le_of_ble_eq_true rfl) (Nat.le_of_ble_eq_true rfl) dX4_comersIn_21
  · have h45 := ib_nlt (ib_any p0) (ib_c 0 0 0 (by decide)) c42
    have h46 : ib p0 0 2147483647 := ib_w 0 2147483647 h45.1 (by decide)
    refine lv_iload_n hx hb dX4_comersIn_4 rfl (lv_at hl 1 rfl) ?_
    refine lv_sipush (v := 200) hx hb dX4_comersIn_5 (by decide) ?_
    refine lv_icmp_ge (tgt := 20) hx hb dX4_comersIn_8 (by decide) (fun c47 => ?_) (fun c47 => ?_)
    · have h48 := ib_le (ib_c 200 200 200 (by decide)) h46 c47
      have h49 : ib p0 200 2147483647 := ib_w 200 2147483647 h48.2 (by decide)
      refine lv_iconst (v := 0) hx hb dX4_comersIn_20 (by decide) ?_
      exact k_iret hx hb hr hlk rfl () hS True.intro hP hD (Nat.le_of_ble_eq_true rfl) (Nat.le_of_ble_eq_true rfl) dX4_comersIn_21
    · have h50 := ib_nle (ib_c 200 200 200 (by decide)) h46 c47
      have h51 : ib p0 0 199 := ib_w 0 199 h50.2 (by decide)
      refine lv_aload_n hx hb dX4_comersIn_11 rfl (lv_at hl 0 rfl) ?_
      refine k_get C0 fg_X4_27 hP 0 rfl rfl dX4_comersIn_12 ?_
      refine lv_iload_n hx hb dX4_comersIn_15 rfl (lv_at hl 1 rfl) ?_
      refine va_iald hx hb C0.2.2.2.2.2.1 hP 1 0 rfl rfl (ib_in 200 h51 (by decide)) dX4_comersIn_16 ?_
      refine lv_topi (fun z52 ez52 => ?_)
      refine lv_goto (tgt := 21) hx hb dX4_comersIn_17 (by decide) ?_
      exact k_iret hx hb hr hlk rfl () hS True.intro hP hD (Nat.le_of_ble_eq_true rfl) (Nat.le_of_ble_eq_true rfl) dX4_comersIn_21
set_option maxHeartbeats 4000000 in
set_option maxRecDepth 100000 in
theorem s_X4_everyone (l : Launch) (dC : Nat → ClassId) (dI : Nat → Nat → Nat) (cy : Nat → ClassId) (sq : Nat → Nat) (a_this : Nat) (x_this_cycle : Int32) (x_this_green : Int32) (x_this_rule : Int32) (x_this_least : Int32) (x_this_away : Int32) (x_this_statements : Int32) (x_this_kinds : Int32) (a_this_calm : Nat) (a_this_pace : Nat) (a_this_trusts : Nat) (x_this_walkers : Int32) (a_this_kindOf : Nat) (a_this_comesAt : Nat) (a_this_comers : Nat) (a_this_names : Nat) (a_this_code : Nat) (x_this_size : Int32) (a_this_spans : Nat) (hx_this_cycle : ib x_this_cycle 0 120) (hx_this_least : ib x_this_least 0 99) (hx_this_statements : ib x_this_statements 0 81) (hx_this_kinds : ib x_this_kinds 0 6) (hx_this_walkers : ib x_this_walkers 0 12) (hx_this_size : ib x_this_size 0 1600) : k_Met l yX4_everyone cX4_everyone 1 (some .int) { frames := 0, cells := 0, slots := 0, locals := 0 } dC dI cy sq [.ref a_this] [(a_this, .inr (4, [.int x_this_cycle, .int x_this_green, .int x_this_rule, .int x_this_least, .int x_this_away, .int x_this_statements, .int x_this_kinds, .ref a_this_calm, .ref a_this_pace, .ref a_this_trusts, .int x_this_walkers, .ref a_this_kindOf, .ref a_this_comesAt, .ref a_this_comers, .ref a_this_names, .ref a_this_code, .int x_this_size, .ref a_this_spans]))] (k_Qi dC dI (fun (r : Int32) (_ : Unit) => True) (fun _ : Unit => [(a_this, .inr (4, [.int x_this_cycle, .int x_this_green, .int x_this_rule, .int x_this_least, .int x_this_away, .int x_this_statements, .int x_this_kinds, .ref a_this_calm, .ref a_this_pace, .ref a_this_trusts, .int x_this_walkers, .ref a_this_kindOf, .ref a_this_comesAt, .ref a_this_comers, .ref a_this_names, .ref a_this_code, .int x_this_size, .ref a_this_spans]))])) := by
  refine k_ofW (by decide +kernel) (Nat.le_of_ble_eq_true rfl) ?_
  intro p e s m below meth c A ls H locs C0 hr hlk hin hP hD hA hS hl
  have C0 : k_cx p s m _ c cX4_everyone 1 RX4 dC dI cy sq := C0
  have hx := C0.1
  have hb := C0.2.1
  have hl : lv_has ls 1 [(0, .ref a_this)] := hl
  refine lv_iconst (v := 1) hx hb dX4_everyone_0 (by decide) ?_
  refine lv_aload_n hx hb dX4_everyone_1 rfl (lv_at hl 0 rfl) ?_
  refine k_get C0 fg_X4_52 hP 0 rfl rfl dX4_everyone_2 ?_
  refine lv_ishl hx hb dX4_everyone_5 ?_
  refine lv_topi (fun z55 ez55 => ?_)
  refine lv_iconst (v := 1) hx hb dX4_everyone_6 (by decide) ?_
  refine lv_isub hx hb dX4_everyone_7 ?_
  refine lv_topi (fun z56 ez56 => ?_)
  exact k_iret hx hb hr hlk rfl () hS True.intro hP hD (Nat.le_of_ble_eq_true rfl) (Nat.le_of_ble_eq_true rfl) dX4_everyone_8
set_option maxHeartbeats 4000000 in
set_option maxRecDepth 100000 in
theorem s_X9_stands (l : Launch) (dC : Nat → ClassId) (dI : Nat → Nat → Nat) (cy : Nat → ClassId) (sq : Nat → Nat) (a_this : Nat) (a_this_tape : Nat) (x_this_tapeSize : Int32) (a_this_plan : Nat) (x_this_plan_cycle : Int32) (x_this_plan_green : Int32) (x_this_plan_rule : Int32) (x_this_plan_least : Int32) (x_this_plan_away : Int32) (x_this_plan_statements : Int32) (x_this_plan_kinds : Int32) (a_this_plan_calm : Nat) (a_this_plan_pace : Nat) (a_this_plan_trusts : Nat) (x_this_plan_walkers : Int32) (a_this_plan_kindOf : Nat) (a_this_plan_comesAt : Nat) (a_this_plan_comers : Nat) (a_this_plan_names : Nat) (a_this_plan_code : Nat) (x_this_plan_size : Int32) (a_this_plan_spans : Nat) (a_this_spare : Nat) (a_this_now : Nat) (a_this_history : Nat) (a_this_machine : Nat) (a_this_reader : Nat) (a_this_street : Nat) (a_this_choice : Nat) (a_this_ahead : Nat) (a_this_watch : Nat) (a_this_octets : Nat) (x_this_octetCount : Int32) (a_this_refusals : Nat) (x_this_drawn : Int64) (hx_this_tapeSize : ib x_this_tapeSize 0 1600) (hx_this_plan_cycle : ib x_this_plan_cycle 0 120) (hx_this_plan_least : ib x_this_plan_least 0 99) (hx_this_plan_statements : ib x_this_plan_statements 0 81) (hx_this_plan_kinds : ib x_this_plan_kinds 0 6) (hx_this_plan_walkers : ib x_this_plan_walkers 0 12) (hx_this_plan_size : ib x_this_plan_size 0 1600) (hx_this_octetCount : ib x_this_octetCount 0 11) : k_Met l yX9_stands cX9_stands 1 (some .boolean) { frames := 0, cells := 0, slots := 0, locals := 0 } dC dI cy sq [.ref a_this] [(a_this, .inr (9, [.ref a_this_tape, .int x_this_tapeSize, .ref a_this_plan, .ref a_this_spare, .ref a_this_now, .ref a_this_history, .ref a_this_machine, .ref a_this_reader, .ref a_this_street, .ref a_this_choice, .ref a_this_ahead, .ref a_this_watch, .ref a_this_octets, .int x_this_octetCount, .ref a_this_refusals, .long x_this_drawn])), (a_this_plan, .inr (4, [.int x_this_plan_cycle, .int x_this_plan_green, .int x_this_plan_rule, .int x_this_plan_least, .int x_this_plan_away, .int x_this_plan_statements, .int x_this_plan_kinds, .ref a_this_plan_calm, .ref a_this_plan_pace, .ref a_this_plan_trusts, .int x_this_plan_walkers, .ref a_this_plan_kindOf, .ref a_this_plan_comesAt, .ref a_this_plan_comers, .ref a_this_plan_names, .ref a_this_plan_code, .int x_this_plan_size, .ref a_this_plan_spans]))] (k_Qi dC dI (fun (r : Int32) (_ : Unit) => ib r 0 1) (fun _ : Unit => [(a_this, .inr (9, [.ref a_this_tape, .int x_this_tapeSize, .ref a_this_plan, .ref a_this_spare, .ref a_this_now, .ref a_this_history, .ref a_this_machine, .ref a_this_reader, .ref a_this_street, .ref a_this_choice, .ref a_this_ahead, .ref a_this_watch, .ref a_this_octets, .int x_this_octetCount, .ref a_this_refusals, .long x_this_drawn])), (a_this_plan, .inr (4, [.int x_this_plan_cycle, .int x_this_plan_green, .int x_this_plan_rule, .int x_this_plan_least, .int x_this_plan_away, .int x_this_plan_statements, .int x_this_plan_kinds, .ref a_this_plan_calm, .ref a_this_plan_pace, .ref a_this_plan_trusts, .int x_this_plan_walkers, .ref a_this_plan_kindOf, .ref a_this_plan_comesAt, .ref a_this_plan_comers, .ref a_this_plan_names, .ref a_this_plan_code, .int x_this_plan_size, .ref a_this_plan_spans]))])) := by
  refine k_ofW (by decide +kernel) (Nat.le_of_ble_eq_true rfl) ?_
  intro p e s m below meth c A ls H locs C0 hr hlk hin hP hD hA hS hl
  have C0 : k_cx p s m _ c cX9_stands 1 RX9 dC dI cy sq := C0
  have hx := C0.1
  have hb := C0.2.1
  have hl : lv_has ls 1 [(0, .ref a_this)] := hl
  refine lv_aload_n hx hb dX9_stands_0 rfl (lv_at hl 0 rfl) ?_
  refine k_get C0 fg_X9_20 hP 0 rfl rfl dX9_stands_1 ?_
  refine k_get C0 fg_X9_145 hP 1 rfl rfl dX9_stands_4 ?_
  refine lv_if_le (tgt := 14) hx hb dX9_stands_7 (by decide) (fun c62 => ?_) (fun c62 => ?_)
  · have h63 := ib_le hx_this_plan_cycle (ib_c 0 0 0 (by decide)) c62
    have h64 : ib x_this_plan_cycle 0 0 := ib_w 0 0 h63.1 (by decide)
    refine lv_iconst (v := 0) hx hb dX9_stands_14 (by decide) ?_
    exact k_iret hx hb hr hlk (k_nb 0 (by decide)) () hS (ib_w 0 1 (ib_c 0 0 0 (by decide)) (by decide)) hP hD (Nat.le_of_ble_eq_true rfl) (Nat.le_of_ble_eq_true rfl) dX9_stands_15
  · have h65 := ib_nle hx_this_plan_cycle (ib_c 0 0 0 (by decide)) c62
    have h66 : ib x_this_plan_cycle 1 120 := ib_w 1 120 h65.1 (by decide)
    refine lv_iconst (v := 1) hx hb dX9_stands_10 (by decide) ?_
    refine lv_goto (tgt := 15) hx hb dX9_stands_11 (by decide) ?_
    exact k_iret hx hb hr hlk (k_nb 1 (by decide)) () hS (ib_w 0 1 (ib_c 1 1 1 (by decide)) (by decide)) hP hD (Nat.le_of_ble_eq_true rfl) (Nat.le_of_ble_eq_true rfl) dX9_stands_15
set_option maxHeartbeats 4000000 in
set_option maxRecDepth 100000 in
theorem s_X9_isKind (l : Launch) (dC : Nat → ClassId) (dI : Nat → Nat → Nat) (cy : Nat → ClassId) (sq : Nat → Nat) (a_this : Nat) (a_this_tape : Nat) (x_this_tapeSize : Int32) (a_this_plan : Nat) (x_this_plan_cycle : Int32) (x_this_plan_green : Int32) (x_this_plan_rule : Int32) (x_this_plan_least : Int32) (x_this_plan_away : Int32) (x_this_plan_statements : Int32) (x_this_plan_kinds : Int32) (a_this_plan_calm : Nat) (a_this_plan_pace : Nat) (a_this_plan_trusts : Nat) (x_this_plan_walkers : Int32) (a_this_plan_kindOf : Nat) (a_this_plan_comesAt : Nat) (a_this_plan_comers : Nat) (a_this_plan_names : Nat) (a_this_plan_code : Nat) (x_this_plan_size : Int32) (a_this_plan_spans : Nat) (a_this_spare : Nat) (a_this_now : Nat) (a_this_history : Nat) (a_this_machine : Nat) (a_this_reader : Nat) (a_this_street : Nat) (a_this_choice : Nat) (a_this_ahead : Nat) (a_this_watch : Nat) (a_this_octets : Nat) (x_this_octetCount : Int32) (a_this_refusals : Nat) (x_this_drawn : Int64) (p0 : Int32) (hx_this_tapeSize : ib x_this_tapeSize 0 1600) (hx_this_plan_cycle : ib x_this_plan_cycle 0 120) (hx_this_plan_least : ib x_this_plan_least 0 99) (hx_this_plan_statements : ib x_this_plan_statements 0 81) (hx_this_plan_kinds : ib x_this_plan_kinds 0 6) (hx_this_plan_walkers : ib x_this_plan_walkers 0 12) (hx_this_plan_size : ib x_this_plan_size 0 1600) (hx_this_octetCount : ib x_this_octetCount 0 11) : k_Met l yX9_isKind cX9_isKind 2 (some .boolean) { frames := 0, cells := 0, slots := 0, locals := 0 } dC dI cy sq [.ref a_this, .int p0] [(a_this, .inr (9, [.ref a_this_tape, .int x_this_tapeSize, .ref a_this_plan, .ref a_this_spare, .ref a_this_now, .ref a_this_history, .ref a_this_machine, .ref a_this_reader, .ref a_this_street, .ref a_this_choice, .ref a_this_ahead, .ref a_this_watch, .ref a_this_octets, .int x_this_octetCount, .ref a_this_refusals, .long x_this_drawn])), (a_this_plan, .inr (4, [.int x_this_plan_cycle, .int x_this_plan_green, .int x_this_plan_rule, .int x_this_plan_least, .int x_this_plan_away, .int x_this_plan_statements, .int x_this_plan_kinds, .ref a_this_plan_calm, .ref a_this_plan_pace, .ref a_this_plan_trusts, .int x_this_plan_walkers, .ref a_this_plan_kindOf, .ref a_this_plan_comesAt, .ref a_this_plan_comers, .ref a_this_plan_names, .ref a_this_plan_code, .int x_this_plan_size, .ref a_this_plan_spans]))] (k_Qi dC dI (fun (r : Int32) (_ : Unit) => ib r 0 1) (fun _ : Unit => [(a_this, .inr (9, [.ref a_this_tape, .int x_this_tapeSize, .ref a_this_plan, .ref a_this_spare, .ref a_this_now, .ref a_this_history, .ref a_this_machine, .ref a_this_reader, .ref a_this_street, .ref a_this_choice, .ref a_this_ahead, .ref a_this_watch, .ref a_this_octets, .int x_this_octetCount, .ref a_this_refusals, .long x_this_drawn])), (a_this_plan, .inr (4, [.int x_this_plan_cycle, .int x_this_plan_green, .int x_this_plan_rule, .int x_this_plan_least, .int x_this_plan_away, .int x_this_plan_statements, .int x_this_plan_kinds, .ref a_this_plan_calm, .ref a_this_plan_pace, .ref a_this_plan_trusts, .int x_this_plan_walkers, .ref a_this_plan_kindOf, .ref a_this_plan_comesAt, .ref a_this_plan_comers, .ref a_this_plan_names, .ref a_this_plan_code, .int x_this_plan_size, .ref a_this_plan_spans]))])) := by
  refine k_ofW (by decide +kernel) (Nat.le_of_ble_eq_true rfl) ?_
  intro p e s m below meth c A ls H locs C0 hr hlk hin hP hD hA hS hl
  have C0 : k_cx p s m _ c cX9_isKind 2 RX9 dC dI cy sq := C0
  have hx := C0.1
  have hb := C0.2.1
  have hl : lv_has ls 2 [(0, .ref a_this), (1, .int p0)] := hl
  refine lv_iload_n hx hb dX9_isKind_0 rfl (lv_at hl 1 rfl) ?_
  refine lv_if_lt (tgt := 19) hx hb dX9_isKind_1 (by decide) (fun c77 => ?_) (fun c77 => ?_)
  · have h78 := ib_lt (ib_any p0) (ib_c 0 0 0 (by decide)) c77
    have h79 : ib p0 (-2147483648) (-1) := ib_w (-2147483648) (-1) h78.1 (by decide)
    refine lv_iconst (v := 0) hx hb dX9_isKind_19 (by decide) ?_
    exact k_iret hx hb hr hlk (k_nb 0 (by decide)) () hS (ib_w 0 1 (ib_c 0 0 0 (by decide)) (by decide)) hP hD (Nat.le_of_ble_eq_true rfl) (Nat.le_of_ble_eq_true rfl) dX9_isKind_20
  · have h80 := ib_nlt (ib_any p0) (ib_c 0 0 0 (by decide)) c77
    have h81 : ib p0 0 2147483647 := ib_w 0 2147483647 h80.1 (by decide)
    refine lv_iload_n hx hb dX9_isKind_4 rfl (lv_at hl 1 rfl) ?_
    refine lv_aload_n hx hb dX9_isKind_5 rfl (lv_at hl 0 rfl) ?_
    refine k_get C0 fg_X9_20 hP 0 rfl rfl dX9_isKind_6 ?_
    refine k_get C0 fg_X9_148 hP 1 rfl rfl dX9_isKind_9 ?_
    refine lv_icmp_ge (tgt := 19) hx hb dX9_isKind_12 (by decide) (fun c82 => ?_) (fun c82 => ?_)
    · have h83 := ib_le hx_this_plan_kinds h81 c82
      refine lv_iconst (v := 0) hx hb dX9_isKind_19 (by decide) ?_
      exact k_iret hx hb hr hlk (k_nb 0 (by decide)) () hS (ib_w 0 1 (ib_c 0 0 0 (by decide)) (by decide)) hP hD (Nat.le_of_ble_eq_true rfl) (Nat.le_of_ble_eq_true rfl) dX9_isKind_20
    · have h84 := ib_nle hx_this_plan_kinds h81 c82
      have h85 : ib x_this_plan_kinds 1 6 := ib_w 1 6 h84.1 (by decide)
      have h86 : ib p0 0 5 := ib_w 0 5 h84.2 (by decide)
      refine lv_iconst (v := 1) hx hb dX9_isKind_15 (by decide) ?_
      refine lv_goto (tgt := 20) hx hb dX9_isKind_16 (by decide) ?_
      exact k_iret hx hb hr hlk (k_nb 1 (by decide)) () hS (ib_w 0 1 (ib_c 1 1 1 (by decide)) (by decide)) hP hD (Nat.le_of_ble_eq_true rfl) (Nat.le_of_ble_eq_true rfl) dX9_isKind_20
set_option maxHeartbeats 4000000 in
set_option maxRecDepth 100000 in
theorem s_X9_isWalker (l : Launch) (dC : Nat → ClassId) (dI : Nat → Nat → Nat) (cy : Nat → ClassId) (sq : Nat → Nat) (a_this : Nat) (a_this_tape : Nat) (x_this_tapeSize : Int32) (a_this_plan : Nat) (x_this_plan_cycle : Int32) (x_this_plan_green : Int32) (x_this_plan_rule : Int32) (x_this_plan_least : Int32) (x_this_plan_away : Int32) (x_this_plan_statements : Int32) (x_this_plan_kinds : Int32) (a_this_plan_calm : Nat) (a_this_plan_pace : Nat) (a_this_plan_trusts : Nat) (x_this_plan_walkers : Int32) (a_this_plan_kindOf : Nat) (a_this_plan_comesAt : Nat) (a_this_plan_comers : Nat) (a_this_plan_names : Nat) (a_this_plan_code : Nat) (x_this_plan_size : Int32) (a_this_plan_spans : Nat) (a_this_spare : Nat) (a_this_now : Nat) (a_this_history : Nat) (a_this_machine : Nat) (a_this_reader : Nat) (a_this_street : Nat) (a_this_choice : Nat) (a_this_ahead : Nat) (a_this_watch : Nat) (a_this_octets : Nat) (x_this_octetCount : Int32) (a_this_refusals : Nat) (x_this_drawn : Int64) (p0 : Int32) (hx_this_tapeSize : ib x_this_tapeSize 0 1600) (hx_this_plan_cycle : ib x_this_plan_cycle 0 120) (hx_this_plan_least : ib x_this_plan_least 0 99) (hx_this_plan_statements : ib x_this_plan_statements 0 81) (hx_this_plan_kinds : ib x_this_plan_kinds 0 6) (hx_this_plan_walkers : ib x_this_plan_walkers 0 12) (hx_this_plan_size : ib x_this_plan_size 0 1600) (hx_this_octetCount : ib x_this_octetCount 0 11) : k_Met l yX9_isWalker cX9_isWalker 2 (some .boolean) { frames := 0, cells := 0, slots := 0, locals := 0 } dC dI cy sq [.ref a_this, .int p0] [(a_this, .inr (9, [.ref a_this_tape, .int x_this_tapeSize, .ref a_this_plan, .ref a_this_spare, .ref a_this_now, .ref a_this_history, .ref a_this_machine, .ref a_this_reader, .ref a_this_street, .ref a_this_choice, .ref a_this_ahead, .ref a_this_watch, .ref a_this_octets, .int x_this_octetCount, .ref a_this_refusals, .long x_this_drawn])), (a_this_plan, .inr (4, [.int x_this_plan_cycle, .int x_this_plan_green, .int x_this_plan_rule, .int x_this_plan_least, .int x_this_plan_away, .int x_this_plan_statements, .int x_this_plan_kinds, .ref a_this_plan_calm, .ref a_this_plan_pace, .ref a_this_plan_trusts, .int x_this_plan_walkers, .ref a_this_plan_kindOf, .ref a_this_plan_comesAt, .ref a_this_plan_comers, .ref a_this_plan_names, .ref a_this_plan_code, .int x_this_plan_size, .ref a_this_plan_spans]))] (k_Qi dC dI (fun (r : Int32) (_ : Unit) => ib r 0 1) (fun _ : Unit => [(a_this, .inr (9, [.ref a_this_tape, .int x_this_tapeSize, .ref a_this_plan, .ref a_this_spare, .ref a_this_now, .ref a_this_history, .ref a_this_machine, .ref a_this_reader, .ref a_this_street, .ref a_this_choice, .ref a_this_ahead, .ref a_this_watch, .ref a_this_octets, .int x_this_octetCount, .ref a_this_refusals, .long x_this_drawn])), (a_this_plan, .inr (4, [.int x_this_plan_cycle, .int x_this_plan_green, .int x_this_plan_rule, .int x_this_plan_least, .int x_this_plan_away, .int x_this_plan_statements, .int x_this_plan_kinds, .ref a_this_plan_calm, .ref a_this_plan_pace, .ref a_this_plan_trusts, .int x_this_plan_walkers, .ref a_this_plan_kindOf, .ref a_this_plan_comesAt, .ref a_this_plan_comers, .ref a_this_plan_names, .ref a_this_plan_code, .int x_this_plan_size, .ref a_this_plan_spans]))])) := by
  refine k_ofW (by decide +kernel) (Nat.le_of_ble_eq_true rfl) ?_
  intro p e s m below meth c A ls H locs C0 hr hlk hin hP hD hA hS hl
  have C0 : k_cx p s m _ c cX9_isWalker 2 RX9 dC dI cy sq := C0
  have hx := C0.1
  have hb := C0.2.1
  have hl : lv_has ls 2 [(0, .ref a_this), (1, .int p0)] := hl
  refine lv_iload_n hx hb dX9_isWalker_0 rfl (lv_at hl 1 rfl) ?_
  refine lv_if_lt (tgt := 19) hx hb dX9_isWalker_1 (by decide) (fun c97 => ?_) (fun c97 => ?_)
  · have h98 := ib_lt (ib_any p0) (ib_c 0 0 0 (by decide)) c97
    have h99 : ib p0 (-2147483648) (-1) := ib_w (-2147483648) (-1) h98.1 (by decide)
    refine lv_iconst (v := 0) hx hb dX9_isWalker_19 (by decide) ?_
    exact k_iret hx hb hr hlk (k_nb 0 (by decide)) () hS (ib_w 0 1 (ib_c 0 0 0 (by decide)) (by decide)) hP hD (Nat.le_of_ble_eq_true rfl) (Nat.le_of_ble_eq_true rfl) dX9_isWalker_20
  · have h100 := ib_nlt (ib_any p0) (ib_c 0 0 0 (by decide)) c97
    have h101 : ib p0 0 2147483647 := ib_w 0 2147483647 h100.1 (by decide)
    refine lv_iload_n hx hb dX9_isWalker_4 rfl (lv_at hl 1 rfl) ?_
    refine lv_aload_n hx hb dX9_isWalker_5 rfl (lv_at hl 0 rfl) ?_
    refine k_get C0 fg_X9_20 hP 0 rfl rfl dX9_isWalker_6 ?_
    refine k_get C0 fg_X9_151 hP 1 rfl rfl dX9_isWalker_9 ?_
    refine lv_icmp_ge (tgt := 19) hx hb dX9_isWalker_12 (by decide) (fun c102 => ?_) (fun c102 => ?_)
    · have h103 := ib_le hx_this_plan_walkers h101 c102
      refine lv_iconst (v := 0) hx hb dX9_isWalker_19 (by decide) ?_
      exact k_iret hx hb hr hlk (k_nb 0 (by decide)) () hS (ib_w 0 1 (ib_c 0 0 0 (by decide)) (by decide)) hP hD (Nat.le_of_ble_eq_true rfl) (Nat.le_of_ble_eq_true rfl) dX9_isWalker_20
    · have h104 := ib_nle hx_this_plan_walkers h101 c102
      have h105 : ib x_this_plan_walkers 1 12 := ib_w 1 12 h104.1 (by decide)
      have h106 : ib p0 0 11 := ib_w 0 11 h104.2 (by decide)
      refine lv_iconst (v := 1) hx hb dX9_isWalker_15 (by decide) ?_
      refine lv_goto (tgt := 20) hx hb dX9_isWalker_16 (by decide) ?_
      exact k_iret hx hb hr hlk (k_nb 1 (by decide)) () hS (ib_w 0 1 (ib_c 1 1 1 (by decide)) (by decide)) hP hD (Nat.le_of_ble_eq_true rfl) (Nat.le_of_ble_eq_true rfl) dX9_isWalker_20
set_option maxHeartbeats 4000000 in
set_option maxRecDepth 100000 in
theorem s_X9_canLive (l : Launch) (dC : Nat → ClassId) (dI : Nat → Nat → Nat) (cy : Nat → ClassId) (sq : Nat → Nat) (a_this : Nat) (a_this_tape : Nat) (x_this_tapeSize : Int32) (a_this_plan : Nat) (x_this_plan_cycle : Int32) (x_this_plan_green : Int32) (x_this_plan_rule : Int32) (x_this_plan_least : Int32) (x_this_plan_away : Int32) (x_this_plan_statements : Int32) (x_this_plan_kinds : Int32) (a_this_plan_calm : Nat) (a_this_plan_pace : Nat) (a_this_plan_trusts : Nat) (x_this_plan_walkers : Int32) (a_this_plan_kindOf : Nat) (a_this_plan_comesAt : Nat) (a_this_plan_comers : Nat) (a_this_plan_names : Nat) (a_this_plan_code : Nat) (x_this_plan_size : Int32) (a_this_plan_spans : Nat) (a_this_spare : Nat) (a_this_now : Nat) (x_this_now_day : Int32) (x_this_now_rule : Int32) (x_this_now_green : Int32) (a_this_now_trusts : Nat) (a_this_history : Nat) (a_this_machine : Nat) (a_this_reader : Nat) (a_this_street : Nat) (a_this_choice : Nat) (a_this_ahead : Nat) (a_this_watch : Nat) (a_this_octets : Nat) (x_this_octetCount : Int32) (a_this_refusals : Nat) (x_this_drawn : Int64) (p0 : Int32) (hx_this_tapeSize : ib x_this_tapeSize 0 1600) (hx_this_plan_cycle : ib x_this_plan_cycle 0 120) (hx_this_plan_least : ib x_this_plan_least 0 99) (hx_this_plan_statements : ib x_this_plan_statements 0 81) (hx_this_plan_kinds : ib x_this_plan_kinds 0 6) (hx_this_plan_walkers : ib x_this_plan_walkers 0 12) (hx_this_plan_size : ib x_this_plan_size 0 1600) (hx_this_octetCount : ib x_this_octetCount 0 11) : k_Met l yX9_canLive cX9_canLive 2 (some .boolean) { frames := 1, cells := 0, slots := 0, locals := 20 } dC dI cy sq [.ref a_this, .int p0] [(a_this, .inr (9, [.ref a_this_tape, .int x_this_tapeSize, .ref a_this_plan, .ref a_this_spare, .ref a_this_now, .ref a_this_history, .ref a_this_machine, .ref a_this_reader, .ref a_this_street, .ref a_this_choice, .ref a_this_ahead, .ref a_this_watch, .ref a_this_octets, .int x_this_octetCount, .ref a_this_refusals, .long x_this_drawn])), (a_this_plan, .inr (4, [.int x_this_plan_cycle, .int x_this_plan_green, .int x_this_plan_rule, .int x_this_plan_least, .int x_this_plan_away, .int x_this_plan_statements, .int x_this_plan_kinds, .ref a_this_plan_calm, .ref a_this_plan_pace, .ref a_this_plan_trusts, .int x_this_plan_walkers, .ref a_this_plan_kindOf, .ref a_this_plan_comesAt, .ref a_this_plan_comers, .ref a_this_plan_names, .ref a_this_plan_code, .int x_this_plan_size, .ref a_this_plan_spans])), (a_this_now, .inr (6, [.int x_this_now_day, .int x_this_now_rule, .int x_this_now_green, .ref a_this_now_trusts]))] (k_Qi dC dI (fun (r : Int32) (_ : Unit) => ib r 0 1) (fun _ : Unit => [(a_this, .inr (9, [.ref a_this_tape, .int x_this_tapeSize, .ref a_this_plan, .ref a_this_spare, .ref a_this_now, .ref a_this_history, .ref a_this_machine, .ref a_this_reader, .ref a_this_street, .ref a_this_choice, .ref a_this_ahead, .ref a_this_watch, .ref a_this_octets, .int x_this_octetCount, .ref a_this_refusals, .long x_this_drawn])), (a_this_plan, .inr (4, [.int x_this_plan_cycle, .int x_this_plan_green, .int x_this_plan_rule, .int x_this_plan_least, .int x_this_plan_away, .int x_this_plan_statements, .int x_this_plan_kinds, .ref a_this_plan_calm, .ref a_this_plan_pace, .ref a_this_plan_trusts, .int x_this_plan_walkers, .ref a_this_plan_kindOf, .ref a_this_plan_comesAt, .ref a_this_plan_comers, .ref a_this_plan_names, .ref a_this_plan_code, .int x_this_plan_size, .ref a_this_plan_spans])), (a_this_now, .inr (6, [.int x_this_now_day, .int x_this_now_rule, .int x_this_now_green, .ref a_this_now_trusts]))])) := by
  refine k_ofW (by decide +kernel) (Nat.le_of_ble_eq_true rfl) ?_
  intro p e s m below meth c A ls H locs C0 hr hlk hin hP hD hA hS hl
  have C0 : k_cx p s m _ c cX9_canLive 2 RX9 dC dI cy sq := C0
  have hx := C0.1
  have hb := C0.2.1
  have hl : lv_has ls 2 [(0, .ref a_this), (1, .int p0)] := hl
  refine lv_aload_n hx hb dX9_canLive_0 rfl (lv_at hl 0 rfl) ?_
  refine k_ji hP hD hS hA [0, 1] [2] (wr := [(a_this_now, .inr (6, [.int x_this_now_day, .int x_this_now_rule, .int x_this_now_green, .ref a_this_now_trusts]))]) rfl rfl (by decide) (by decide) (by decide) 0 0 (Nat.le_of_ble_eq_true rfl) (Nat.le_of_ble_eq_true rfl) (fun hPc hDc => k_runV (As := []) (rest := []) C0 (s_X9_stands l dC dI cy sq a_this a_this_tape x_this_tapeSize a_this_plan x_this_plan_cycle x_this_plan_green x_this_plan_rule x_this_plan_least x_this_plan_away x_this_plan_statements x_this_plan_kinds a_this_plan_calm a_this_plan_pace a_this_plan_trusts x_this_plan_walkers a_this_plan_kindOf a_this_plan_comesAt a_this_plan_comers a_this_plan_names a_this_plan_code x_this_plan_size a_this_plan_spans a_this_spare a_this_now a_this_history a_this_machine a_this_reader a_this_street a_this_choice a_this_ahead a_this_watch a_this_octets x_this_octetCount a_this_refusals x_this_drawn (ib_w 0 1600 hx_this_tapeSize (by decide)) (ib_w 0 120 hx_this_plan_cycle (by decide)) (ib_w 0 99 hx_this_plan_least (by decide)) (ib_w 0 81 hx_this_plan_statements (by decide)) (ib_w 0 6 hx_this_plan_kinds (by decide)) (ib_w 0 12 hx_this_plan_walkers (by decide)) (ib_w 0 1600 hx_this_plan_size (by decide)) (ib_w 0 11 hx_this_octetCount (by decide))) mV_X9_218 hPc hDc rfl rfl rfl hl rfl rfl (Nat.le_of_ble_eq_true rfl) ⟨(Nat.le_of_ble_eq_true rfl), (Nat.le_of_ble_eq_true rfl)⟩ ⟨(Nat.le_of_ble_eq_true rfl), (Nat.le_of_ble_eq_true rfl)⟩ dX9_canLive_1) (fun r130 u131 H locs hw hP hD hS => ?_)
  try dsimp only at hP hD hw
  have hP : va_P (dC, dI) vwCl [(a_this_now, .inr (6, [.int x_this_now_day, .int x_this_now_rule, .int x_this_now_green, .ref a_this_now_trusts])), (a_this, .inr (9, [.ref a_this_tape, .int x_this_tapeSize, .ref a_this_plan, .ref a_this_spare, .ref a_this_now, .ref a_this_history, .ref a_this_machine, .ref a_this_reader, .ref a_this_street, .ref a_this_choice, .ref a_this_ahead, .ref a_this_watch, .ref a_this_octets, .int x_this_octetCount, .ref a_this_refusals, .long x_this_drawn])), (a_this_plan, .inr (4, [.int x_this_plan_cycle, .int x_this_plan_green, .int x_this_plan_rule, .int x_this_plan_least, .int x_this_plan_away, .int x_this_plan_statements, .int x_this_plan_kinds, .ref a_this_plan_calm, .ref a_this_plan_pace, .ref a_this_plan_trusts, .int x_this_plan_walkers, .ref a_this_plan_kindOf, .ref a_this_plan_comesAt, .ref a_this_plan_comers, .ref a_this_plan_names, .ref a_this_plan_code, .int x_this_plan_size, .ref a_this_plan_spans]))] H := hP
  have hD : va_D A [(a_this_now, .inr (6, [.int x_this_now_day, .int x_this_now_rule, .int x_this_now_green, .ref a_this_now_trusts])), (a_this, .inr (9, [.ref a_this_tape, .int x_this_tapeSize, .ref a_this_plan, .ref a_this_spare, .ref a_this_now, .ref a_this_history, .ref a_this_machine, .ref a_this_reader, .ref a_this_street, .ref a_this_choice, .ref a_this_ahead, .ref a_this_watch, .ref a_this_octets, .int x_this_octetCount, .ref a_this_refusals, .long x_this_drawn])), (a_this_plan, .inr (4, [.int x_this_plan_cycle, .int x_this_plan_green, .int x_this_plan_rule, .int x_this_plan_least, .int x_this_plan_away, .int x_this_plan_statements, .int x_this_plan_kinds, .ref a_this_plan_calm, .ref a_this_plan_pace, .ref a_this_plan_trusts, .int x_this_plan_walkers, .ref a_this_plan_kindOf, .ref a_this_plan_comesAt, .ref a_this_plan_comers, .ref a_this_plan_names, .ref a_this_plan_code, .int x_this_plan_size, .ref a_this_plan_spans]))] := hD
  have h132 := hw
  refine lv_if_eq (tgt := 37) hx hb dX9_canLive_4 (by decide) (fun c133 => ?_) (fun c133 => ?_)
  · have h134 := ib_eq h132 (ib_c 0 0 0 (by decide)) c133
    have h135 : ib r130 0 0 := ib_w 0 0 h134.1 (by decide)
    refine lv_iconst (v := 0) hx hb dX9_canLive_37 (by decide) ?_
    exact k_iret hx hb hr hlk (k_nb 0 (by decide)) () hS (ib_w 0 1 (ib_c 0 0 0 (by decide)) (by decide)) (hP.sub [1, 2, 0] rfl) (hD.sub [1, 2, 0] (by decide) rfl) (Nat.le_of_ble_eq_true rfl) (Nat.le_of_ble_eq_true rfl) dX9_canLive_38
  · have h136 : ib r130 1 1 := ib_w 1 1 (ib_ne_lo 0 h132 (by decide) c133) (by decide)
    refine lv_iload_n hx hb dX9_canLive_7 rfl (lv_at hl 1 rfl) ?_
    refine lv_iconst (v := 1) hx hb dX9_canLive_8 (by decide) ?_
    refine lv_icmp_lt (tgt := 37) hx hb dX9_canLive_9 (by decide) (fun c137 => ?_) (fun c137 => ?_)
    · have h138 := ib_lt (ib_any p0) (ib_c 1 1 1 (by decide)) c137
      have h139 : ib p0 (-2147483648) 0 := ib_w (-2147483648) 0 h138.1 (by decide)
      refine lv_iconst (v := 0) hx hb dX9_canLive_37 (by decide) ?_
      exact k_iret hx hb hr hlk (k_nb 0 (by decide)) () hS (ib_w 0 1 (ib_c 0 0 0 (by decide)) (by decide)) (hP.sub [1, 2, 0] rfl) (hD.sub [1, 2, 0] (by decide) rfl) (Nat.le_of_ble_eq_true rfl) (Nat.le_of_ble_eq_true rfl) dX9_canLive_38
    · have h140 := ib_nlt (ib_any p0) (ib_c 1 1 1 (by decide)) c137
      have h141 : ib p0 1 2147483647 := ib_w 1 2147483647 h140.1 (by decide)
      refine lv_iload_n hx hb dX9_canLive_12 rfl (lv_at hl 1 rfl) ?_
      refine lv_bipush (v := 30) hx hb dX9_canLive_13 (by decide) ?_
      refine lv_icmp_gt (tgt := 37) hx hb dX9_canLive_15 (by decide) (fun c142 => ?_) (fun c142 => ?_)
      · have h143 := ib_lt (ib_c 30 30 30 (by decide)) h141 c142
        have h144 : ib p0 31 2147483647 := ib_w 31 2147483647 h143.2 (by decide)
        refine lv_iconst (v := 0) hx hb dX9_canLive_37 (by decide) ?_
        exact k_iret hx hb hr hlk (k_nb 0 (by decide)) () hS (ib_w 0 1 (ib_c 0 0 0 (by decide)) (by decide)) (hP.sub [1, 2, 0] rfl) (hD.sub [1, 2, 0] (by decide) rfl) (Nat.le_of_ble_eq_true rfl) (Nat.le_of_ble_eq_true rfl) dX9_canLive_38
      · have h145 := ib_nlt (ib_c 30 30 30 (by decide)) h141 c142
        have h146 : ib p0 1 30 := ib_w 1 30 h145.2 (by decide)
        refine lv_aload_n hx hb dX9_canLive_18 rfl (lv_at hl 0 rfl) ?_
        refine k_get C0 fg_X9_30 hP 1 rfl rfl dX9_canLive_19 ?_
        refine k_get C0 fg_X9_154 hP 0 rfl rfl dX9_canLive_22 ?_
        refine lv_iload_n hx hb dX9_canLive_25 rfl (lv_at hl 1 rfl) ?_
        refine lv_iadd hx hb dX9_canLive_26 ?_
        refine lv_topi (fun z147 ez147 => ?_)
        refine lv_sipush (v := 999) hx hb dX9_canLive_27 (by decide) ?_
        refine lv_icmp_gt (tgt := 37) hx hb dX9_canLive_30 (by decide) (fun c148 => ?_) (fun c148 => ?_)
        · have h149 := ib_lt (ib_c 999 999 999 (by decide)) (ib_any z147) c148
          have h150 : ib z147 1000 2147483647 := ib_w 1000 2147483647 h149.2 (by decide)
          refine lv_iconst (v := 0) hx hb dX9_canLive_37 (by decide) ?_
          exact k_iret hx hb hr hlk (k_nb 0 (by decide)) () hS (ib_w 0 1 (ib_c 0 0 0 (by decide)) (by decide)) (hP.sub [1, 2, 0] rfl) (hD.sub [1, 2, 0] (by decide) rfl) (Nat.le_of_ble_eq_true rfl) (Nat.le_of_ble_eq_true rfl) dX9_canLive_38
        · have h151 := ib_nlt (ib_c 999 999 999 (by decide)) (ib_any z147) c148
          have h152 : ib z147 (-2147483648) 999 := ib_w (-2147483648) 999 h151.2 (by decide)
          refine lv_iconst (v := 1) hx hb dX9_canLive_33 (by decide) ?_
          refine lv_goto (tgt := 38) hx hb dX9_canLive_34 (by decide) ?_
          exact k_iret hx hb hr hlk (k_nb 1 (by decide)) () hS (ib_w 0 1 (ib_c 1 1 1 (by decide)) (by decide)) (hP.sub [1, 2, 0] rfl) (hD.sub [1, 2, 0] (by decide) rfl) (Nat.le_of_ble_eq_true rfl) (Nat.le_of_ble_eq_true rfl) dX9_canLive_38
set_option maxHeartbeats 4000000 in
set_option maxRecDepth 100000 in
theorem s_X9_octet (l : Launch) (dC : Nat → ClassId) (dI : Nat → Nat → Nat) (cy : Nat → ClassId) (sq : Nat → Nat) (a_this : Nat) (a_this_tape : Nat) (x_this_tapeSize : Int32) (a_this_plan : Nat) (a_this_spare : Nat) (a_this_now : Nat) (a_this_history : Nat) (a_this_machine : Nat) (a_this_reader : Nat) (a_this_street : Nat) (a_this_choice : Nat) (a_this_ahead : Nat) (a_this_watch : Nat) (a_this_octets : Nat) (g_this_octets : Nat → Int32) (x_this_octetCount : Int32) (a_this_refusals : Nat) (x_this_drawn : Int64) (p0 : Int32) (hx_this_tapeSize : ib x_this_tapeSize 0 1600) (hx_this_octetCount : ib x_this_octetCount 0 11) : k_Met l yX9_octet cX9_octet 2 (some .int) { frames := 0, cells := 0, slots := 0, locals := 0 } dC dI cy sq [.ref a_this, .int p0] [(a_this, .inr (9, [.ref a_this_tape, .int x_this_tapeSize, .ref a_this_plan, .ref a_this_spare, .ref a_this_now, .ref a_this_history, .ref a_this_machine, .ref a_this_reader, .ref a_this_street, .ref a_this_choice, .ref a_this_ahead, .ref a_this_watch, .ref a_this_octets, .int x_this_octetCount, .ref a_this_refusals, .long x_this_drawn])), (a_this_octets, .inl (cy 0, 11, .inl g_this_octets))] (k_Qi dC dI (fun (r : Int32) (_ : Unit) => True) (fun _ : Unit => [(a_this, .inr (9, [.ref a_this_tape, .int x_this_tapeSize, .ref a_this_plan, .ref a_this_spare, .ref a_this_now, .ref a_this_history, .ref a_this_machine, .ref a_this_reader, .ref a_this_street, .ref a_this_choice, .ref a_this_ahead, .ref a_this_watch, .ref a_this_octets, .int x_this_octetCount, .ref a_this_refusals, .long x_this_drawn])), (a_this_octets, .inl (cy 0, 11, .inl g_this_octets))])) := by
  refine k_ofW (by decide +kernel) (Nat.le_of_ble_eq_true rfl) ?_
  intro p e s m below meth c A ls H locs C0 hr hlk hin hP hD hA hS hl
  have C0 : k_cx p s m _ c cX9_octet 2 RX9 dC dI cy sq := C0
  have hx := C0.1
  have hb := C0.2.1
  have hl : lv_has ls 2 [(0, .ref a_this), (1, .int p0)] := hl
  refine lv_iload_n hx hb dX9_octet_0 rfl (lv_at hl 1 rfl) ?_
  refine lv_if_lt (tgt := 21) hx hb dX9_octet_1 (by decide) (fun c164 => ?_) (fun c164 => ?_)
  · have h165 := ib_lt (ib_any p0) (ib_c 0 0 0 (by decide)) c164
    have h166 : ib p0 (-2147483648) (-1) := ib_w (-2147483648) (-1) h165.1 (by decide)
    refine lv_iconst (v := (-1)) hx hb dX9_octet_21 (by decide) ?_
    exact k_iret hx hb hr hlk rfl () hS True.intro hP hD (Nat.le_of_ble_eq_true rfl) (Nat.le_of_ble_eq_true rfl) dX9_octet_22
  · have h167 := ib_nlt (ib_any p0) (ib_c 0 0 0 (by decide)) c164
    have h168 : ib p0 0 2147483647 := ib_w 0 2147483647 h167.1 (by decide)
    refine lv_iload_n hx hb dX9_octet_4 rfl (lv_at hl 1 rfl) ?_
    refine lv_aload_n hx hb dX9_octet_5 rfl (lv_at hl 0 rfl) ?_
    refine k_get C0 fg_X9_92 hP 0 rfl rfl dX9_octet_6 ?_
    refine lv_icmp_ge (tgt := 21) hx hb dX9_octet_9 (by decide) (fun c169 => ?_) (fun c169 => ?_)
    · have h170 := ib_le hx_this_octetCount h168 c169
      refine lv_iconst (v := (-1)) hx hb dX9_octet_21 (by decide) ?_
      exact k_iret hx hb hr hlk rfl () hS True.intro hP hD (Nat.le_of_ble_eq_true rfl) (Nat.le_of_ble_eq_true rfl) dX9_octet_22
    · have h171 := ib_nle hx_this_octetCount h168 c169
      have h172 : ib x_this_octetCount 1 11 := ib_w 1 11 h171.1 (by decide)
      have h173 : ib p0 0 10 := ib_w 0 10 h171.2 (by decide)
      refine lv_aload_n hx hb dX9_octet_12 rfl (lv_at hl 0 rfl) ?_
      refine k_get C0 fg_X9_89 hP 0 rfl rfl dX9_octet_13 ?_
      refine lv_iload_n hx hb dX9_octet_16 rfl (lv_at hl 1 rfl) ?_
      refine va_iald hx hb C0.2.2.2.2.2.1 hP 1 0 rfl rfl (ib_in 11 h173 (by decide)) dX9_octet_17 ?_
      refine lv_topi (fun z174 ez174 => ?_)
      refine lv_goto (tgt := 22) hx hb dX9_octet_18 (by decide) ?_
      exact k_iret hx hb hr hlk rfl () hS True.intro hP hD (Nat.le_of_ble_eq_true rfl) (Nat.le_of_ble_eq_true rfl) dX9_octet_22
set_option maxHeartbeats 4000000 in
set_option maxRecDepth 100000 in
theorem s_X9_status (l : Launch) (dC : Nat → ClassId) (dI : Nat → Nat → Nat) (cy : Nat → ClassId) (sq : Nat → Nat) (a_this : Nat) (a_this_tape : Nat) (x_this_tapeSize : Int32) (a_this_plan : Nat) (a_this_spare : Nat) (a_this_now : Nat) (a_this_history : Nat) (a_this_machine : Nat) (a_this_reader : Nat) (a_this_street : Nat) (a_this_choice : Nat) (a_this_ahead : Nat) (a_this_watch : Nat) (a_this_octets : Nat) (x_this_octetCount : Int32) (a_this_refusals : Nat) (g_this_refusals : Nat → Int32) (x_this_drawn : Int64) (p0 : Int32) (hx_this_tapeSize : ib x_this_tapeSize 0 1600) (hx_this_octetCount : ib x_this_octetCount 0 11) : k_Met l yX9_status cX9_status 2 (some .int) { frames := 0, cells := 0, slots := 0, locals := 0 } dC dI cy sq [.ref a_this, .int p0] [(a_this, .inr (9, [.ref a_this_tape, .int x_this_tapeSize, .ref a_this_plan, .ref a_this_spare, .ref a_this_now, .ref a_this_history, .ref a_this_machine, .ref a_this_reader, .ref a_this_street, .ref a_this_choice, .ref a_this_ahead, .ref a_this_watch, .ref a_this_octets, .int x_this_octetCount, .ref a_this_refusals, .long x_this_drawn])), (a_this_refusals, .inl (cy 0, 6, .inl g_this_refusals))] (k_Qi dC dI (fun (r : Int32) (_ : Unit) => True) (fun _ : Unit => [(a_this, .inr (9, [.ref a_this_tape, .int x_this_tapeSize, .ref a_this_plan, .ref a_this_spare, .ref a_this_now, .ref a_this_history, .ref a_this_machine, .ref a_this_reader, .ref a_this_street, .ref a_this_choice, .ref a_this_ahead, .ref a_this_watch, .ref a_this_octets, .int x_this_octetCount, .ref a_this_refusals, .long x_this_drawn])), (a_this_refusals, .inl (cy 0, 6, .inl g_this_refusals))])) := by
  refine k_ofW (by decide +kernel) (Nat.le_of_ble_eq_true rfl) ?_
  intro p e s m below meth c A ls H locs C0 hr hlk hin hP hD hA hS hl
  have C0 : k_cx p s m _ c cX9_status 2 RX9 dC dI cy sq := C0
  have hx := C0.1
  have hb := C0.2.1
  have hl : lv_has ls 2 [(0, .ref a_this), (1, .int p0)] := hl
  refine lv_iload_n hx hb dX9_status_0 rfl (lv_at hl 1 rfl) ?_
  refine lv_if_lt (tgt := 19) hx hb dX9_status_1 (by decide) (fun c186 => ?_) (fun c186 => ?_)
  · have h187 := ib_lt (ib_any p0) (ib_c 0 0 0 (by decide)) c186
    have h188 : ib p0 (-2147483648) (-1) := ib_w (-2147483648) (-1) h187.1 (by decide)
    refine lv_iconst (v := (-1)) hx hb dX9_status_19 (by decide) ?_
    exact k_iret hx hb hr hlk rfl () hS True.intro hP hD (Nat.le_of_ble_eq_true rfl) (Nat.le_of_ble_eq_true rfl) dX9_status_20
  · have h189 := ib_nlt (ib_any p0) (ib_c 0 0 0 (by decide)) c186
    have h190 : ib p0 0 2147483647 := ib_w 0 2147483647 h189.1 (by decide)
    refine lv_iload_n hx hb dX9_status_4 rfl (lv_at hl 1 rfl) ?_
    refine lv_bipush (v := 6) hx hb dX9_status_5 (by decide) ?_
    refine lv_icmp_ge (tgt := 19) hx hb dX9_status_7 (by decide) (fun c191 => ?_) (fun c191 => ?_)
    · have h192 := ib_le (ib_c 6 6 6 (by decide)) h190 c191
      have h193 : ib p0 6 2147483647 := ib_w 6 2147483647 h192.2 (by decide)
      refine lv_iconst (v := (-1)) hx hb dX9_status_19 (by decide) ?_
      exact k_iret hx hb hr hlk rfl () hS True.intro hP hD (Nat.le_of_ble_eq_true rfl) (Nat.le_of_ble_eq_true rfl) dX9_status_20
    · have h194 := ib_nle (ib_c 6 6 6 (by decide)) h190 c191
      have h195 : ib p0 0 5 := ib_w 0 5 h194.2 (by decide)
      refine lv_aload_n hx hb dX9_status_10 rfl (lv_at hl 0 rfl) ?_
      refine k_get C0 fg_X9_95 hP 0 rfl rfl dX9_status_11 ?_
      refine lv_iload_n hx hb dX9_status_14 rfl (lv_at hl 1 rfl) ?_
      refine va_iald hx hb C0.2.2.2.2.2.1 hP 1 0 rfl rfl (ib_in 6 h195 (by decide)) dX9_status_15 ?_
      refine lv_topi (fun z196 ez196 => ?_)
      refine lv_goto (tgt := 20) hx hb dX9_status_16 (by decide) ?_
      exact k_iret hx hb hr hlk rfl () hS True.intro hP hD (Nat.le_of_ble_eq_true rfl) (Nat.le_of_ble_eq_true rfl) dX9_status_20
set_option maxHeartbeats 4000000 in
set_option maxRecDepth 100000 in
theorem s_X9_takeTape (l : Launch) (dC : Nat → ClassId) (dI : Nat → Nat → Nat) (cy : Nat → ClassId) (sq : Nat → Nat) (a_this : Nat) (a_this_tape : Nat) (x_this_tapeSize : Int32) (a_this_plan : Nat) (a_this_spare : Nat) (a_this_now : Nat) (a_this_history : Nat) (a_this_machine : Nat) (a_this_reader : Nat) (a_this_street : Nat) (a_this_choice : Nat) (a_this_ahead : Nat) (a_this_watch : Nat) (a_this_octets : Nat) (x_this_octetCount : Int32) (a_this_refusals : Nat) (x_this_drawn : Int64) (hx_this_tapeSize : ib x_this_tapeSize 0 1600) (hx_this_octetCount : ib x_this_octetCount 0 11) : k_Met l yX9_takeTape cX9_takeTape 2 (some .int) { frames := 0, cells := 0, slots := 0, locals := 0 } dC dI cy sq [.ref a_this] [(a_this, .inr (9, [.ref a_this_tape, .int x_this_tapeSize, .ref a_this_plan, .ref a_this_spare, .ref a_this_now, .ref a_this_history, .ref a_this_machine, .ref a_this_reader, .ref a_this_street, .ref a_this_choice, .ref a_this_ahead, .ref a_this_watch, .ref a_this_octets, .int x_this_octetCount, .ref a_this_refusals, .long x_this_drawn]))] (k_Qi dC dI (fun (r : Int32) (n0 : Int32) => ib r 0 1600 ∧ ib n0 0 1600) (fun n0 : Int32 => [(a_this, .inr (9, [.ref a_this_tape, .int n0, .ref a_this_plan, .ref a_this_spare, .ref a_this_now, .ref a_this_history, .ref a_this_machine, .ref a_this_reader, .ref a_this_street, .ref a_this_choice, .ref a_this_ahead, .ref a_this_watch, .ref a_this_octets, .int x_this_octetCount, .ref a_this_refusals, .long x_this_drawn]))])) := by
  refine k_ofW (by decide +kernel) (Nat.le_of_ble_eq_true rfl) ?_
  intro p e s m below meth c A ls H locs C0 hr hlk hin hP hD hA hS hl
  have C0 : k_cx p s m _ c cX9_takeTape 2 RX9 dC dI cy sq := C0
  have hx := C0.1
  have hb := C0.2.1
  have hl : lv_has ls 2 [(0, .ref a_this)] := hl
  refine lv_aload_n hx hb dX9_takeTape_0 rfl (lv_at hl 0 rfl) ?_
  refine k_get C0 fg_X9_13 hP 0 rfl rfl dX9_takeTape_1 ?_
  refine lv_istore_n (lv' := [(1, .int x_this_tapeSize), (0, .ref a_this)]) hx hb dX9_takeTape_4 rfl hl (by decide) rfl (fun ls hl => ?_)
  refine lv_aload_n hx hb dX9_takeTape_5 rfl (lv_at hl 1 rfl) ?_
  refine lv_iconst (v := 0) hx hb dX9_takeTape_6 (by decide) ?_
  refine k_put C0 fp_X9_13 hP hD hS 0 rfl rfl rfl (Nat.le_of_ble_eq_true rfl) dX9_takeTape_7 (fun H locs hP hD hS => ?_)
  have hP : va_P (dC, dI) vwCl [(a_this, .inr (9, [.ref a_this_tape, .int 0, .ref a_this_plan, .ref a_this_spare, .ref a_this_now, .ref a_this_history, .ref a_this_machine, .ref a_this_reader, .ref a_this_street, .ref a_this_choice, .ref a_this_ahead, .ref a_this_watch, .ref a_this_octets, .int x_this_octetCount, .ref a_this_refusals, .long x_this_drawn]))] H := hP
  have hD : va_D A [(a_this, .inr (9, [.ref a_this_tape, .int 0, .ref a_this_plan, .ref a_this_spare, .ref a_this_now, .ref a_this_history, .ref a_this_machine, .ref a_this_reader, .ref a_this_street, .ref a_this_choice, .ref a_this_ahead, .ref a_this_watch, .ref a_this_octets, .int x_this_octetCount, .ref a_this_refusals, .long x_this_drawn]))] := hD
  refine lv_iload_n hx hb dX9_takeTape_10 rfl (lv_at hl 0 rfl) ?_
  exact k_iret hx hb hr hlk rfl 0 hS ⟨ib_w 0 1600 hx_this_tapeSize (by decide), ib_w 0 1600 (ib_c 0 0 0 (by decide)) (by decide)⟩ hP hD (Nat.le_of_ble_eq_true rfl) (Nat.le_of_ble_eq_true rfl) dX9_takeTape_11
set_option maxHeartbeats 4000000 in
set_option maxRecDepth 100000 in
theorem s_X9_has (l : Launch) (dC : Nat → ClassId) (dI : Nat → Nat → Nat) (cy : Nat → ClassId) (sq : Nat → Nat) (a_this : Nat) (a_this_tape : Nat) (x_this_tapeSize : Int32) (a_this_plan : Nat) (x_this_plan_cycle : Int32) (x_this_plan_green : Int32) (x_this_plan_rule : Int32) (x_this_plan_least : Int32) (x_this_plan_away : Int32) (x_this_plan_statements : Int32) (x_this_plan_kinds : Int32) (a_this_plan_calm : Nat) (a_this_plan_pace : Nat) (a_this_plan_trusts : Nat) (x_this_plan_walkers : Int32) (a_this_plan_kindOf : Nat) (a_this_plan_comesAt : Nat) (a_this_plan_comers : Nat) (a_this_plan_names : Nat) (a_this_plan_code : Nat) (x_this_plan_size : Int32) (a_this_plan_spans : Nat) (a_this_spare : Nat) (a_this_now : Nat) (x_this_now_day : Int32) (x_this_now_rule : Int32) (x_this_now_green : Int32) (a_this_now_trusts : Nat) (a_this_history : Nat) (a_this_history_ring : Nat) (x_this_history_next : Int32) (x_this_history_count : Int32) (a_this_machine : Nat) (a_this_reader : Nat) (a_this_street : Nat) (a_this_choice : Nat) (a_this_ahead : Nat) (a_this_watch : Nat) (a_this_watch_seenWalker : Nat) (a_this_watch_seenSecond : Nat) (x_this_watch_rows : Int32) (x_this_watch_compared : Int32) (a_this_watch_seconds : Nat) (x_this_watch_found : Int32) (x_this_watch_foundRules : Int32) (x_this_watch_foundGreen : Int32) (x_this_watch_chosen : Int32) (x_this_watch_chosenLeft : Int32) (a_this_octets : Nat) (x_this_octetCount : Int32) (a_this_refusals : Nat) (x_this_drawn : Int64) (p0 : Int32) (hx_this_tapeSize : ib x_this_tapeSize 0 1600) (hx_this_plan_cycle : ib x_this_plan_cycle 0 120) (hx_this_plan_least : ib x_this_plan_least 0 99) (hx_this_plan_statements : ib x_this_plan_statements 0 81) (hx_this_plan_kinds : ib x_this_plan_kinds 0 6) (hx_this_plan_walkers : ib x_this_plan_walkers 0 12) (hx_this_plan_size : ib x_this_plan_size 0 1600) (hx_this_history_next : ib x_this_history_next 0 19) (hx_this_history_count : ib x_this_history_count 0 20) (hx_this_watch_rows : ib x_this_watch_rows 0 16) (hx_this_watch_compared : ib x_this_watch_compared 0 1) (hx_this_watch_found : ib x_this_watch_found 0 60) (hx_this_octetCount : ib x_this_octetCount 0 11) : k_Met l yX9_has cX9_has 2 (some .int) { frames := 0, cells := 0, slots := 0, locals := 0 } dC dI cy sq [.ref a_this, .int p0] [(a_this, .inr (9, [.ref a_this_tape, .int x_this_tapeSize, .ref a_this_plan, .ref a_this_spare, .ref a_this_now, .ref a_this_history, .ref a_this_machine, .ref a_this_reader, .ref a_this_street, .ref a_this_choice, .ref a_this_ahead, .ref a_this_watch, .ref a_this_octets, .int x_this_octetCount, .ref a_this_refusals, .long x_this_drawn])), (a_this_plan, .inr (4, [.int x_this_plan_cycle, .int x_this_plan_green, .int x_this_plan_rule, .int x_this_plan_least, .int x_this_plan_away, .int x_this_plan_statements, .int x_this_plan_kinds, .ref a_this_plan_calm, .ref a_this_plan_pace, .ref a_this_plan_trusts, .int x_this_plan_walkers, .ref a_this_plan_kindOf, .ref a_this_plan_comesAt, .ref a_this_plan_comers, .ref a_this_plan_names, .ref a_this_plan_code, .int x_this_plan_size, .ref a_this_plan_spans])), (a_this_now, .inr (6, [.int x_this_now_day, .int x_this_now_rule, .int x_this_now_green, .ref a_this_now_trusts])), (a_this_watch, .inr (8, [.ref a_this_street, .ref a_this_watch_seenWalker, .ref a_this_watch_seenSecond, .int x_this_watch_rows, .int x_this_watch_compared, .ref a_this_watch_seconds, .int x_this_watch_found, .int x_this_watch_foundRules, .int x_this_watch_foundGreen, .int x_this_watch_chosen, .int x_this_watch_chosenLeft])), (a_this_history, .inr (2, [.ref a_this_history_ring, .int x_this_history_next, .int x_this_history_count]))] (k_Qi dC dI (fun (r : Int32) (_ : Unit) => True) (fun _ : Unit => [(a_this, .inr (9, [.ref a_this_tape, .int x_this_tapeSize, .ref a_this_plan, .ref a_this_spare, .ref a_this_now, .ref a_this_history, .ref a_this_machine, .ref a_this_reader, .ref a_this_street, .ref a_this_choice, .ref a_this_ahead, .ref a_this_watch, .ref a_this_octets, .int x_this_octetCount, .ref a_this_refusals, .long x_this_drawn])), (a_this_plan, .inr (4, [.int x_this_plan_cycle, .int x_this_plan_green, .int x_this_plan_rule, .int x_this_plan_least, .int x_this_plan_away, .int x_this_plan_statements, .int x_this_plan_kinds, .ref a_this_plan_calm, .ref a_this_plan_pace, .ref a_this_plan_trusts, .int x_this_plan_walkers, .ref a_this_plan_kindOf, .ref a_this_plan_comesAt, .ref a_this_plan_comers, .ref a_this_plan_names, .ref a_this_plan_code, .int x_this_plan_size, .ref a_this_plan_spans])), (a_this_now, .inr (6, [.int x_this_now_day, .int x_this_now_rule, .int x_this_now_green, .ref a_this_now_trusts])), (a_this_watch, .inr (8, [.ref a_this_street, .ref a_this_watch_seenWalker, .ref a_this_watch_seenSecond, .int x_this_watch_rows, .int x_this_watch_compared, .ref a_this_watch_seconds, .int x_this_watch_found, .int x_this_watch_foundRules, .int x_this_watch_foundGreen, .int x_this_watch_chosen, .int x_this_watch_chosenLeft])), (a_this_history, .inr (2, [.ref a_this_history_ring, .int x_this_history_next, .int x_this_history_count]))])) := by
  refine k_ofW (by decide +kernel) (Nat.le_of_ble_eq_true rfl) ?_
  intro p e s m below meth c A ls H locs C0 hr hlk hin hP hD hA hS hl
  have C0 : k_cx p s m _ c cX9_has 2 RX9 dC dI cy sq := C0
  have hx := C0.1
  have hb := C0.2.1
  have hl : lv_has ls 2 [(0, .ref a_this), (1, .int p0)] := hl
  refine lv_iload_n hx hb dX9_has_0 rfl (lv_at hl 1 rfl) ?_
  rcases Decidable.em (p0 = 0) with s198_0 | s198_0
  · subst s198_0
    refine lv_tableIn (off := 47) (tgt := 48) hx hb dX9_has_1 (by decide) (by decide) (by decide) (by decide) ?_
    refine lv_aload_n hx hb dX9_has_48 rfl (lv_at hl 0 rfl) ?_
    refine k_get C0 fg_X9_20 hP 0 rfl rfl dX9_has_49 ?_
    refine k_get C0 fg_X9_145 hP 1 rfl rfl dX9_has_52 ?_
    exact k_iret hx hb hr hlk rfl () hS True.intro hP hD (Nat.le_of_ble_eq_true rfl) (Nat.le_of_ble_eq_true rfl) dX9_has_55
  rcases Decidable.em (p0 = 1) with s198_1 | s198_1
  · subst s198_1
    refine lv_tableIn (off := 55) (tgt := 56) hx hb dX9_has_1 (by decide) (by decide) (by decide) (by decide) ?_
    refine lv_aload_n hx hb dX9_has_56 rfl (lv_at hl 0 rfl) ?_
    refine k_get C0 fg_X9_20 hP 0 rfl rfl dX9_has_57 ?_
    refine k_get C0 fg_X9_148 hP 1 rfl rfl dX9_has_60 ?_
    exact k_iret hx hb hr hlk rfl () hS True.intro hP hD (Nat.le_of_ble_eq_true rfl) (Nat.le_of_ble_eq_true rfl) dX9_has_63
  rcases Decidable.em (p0 = 2) with s198_2 | s198_2
  · subst s198_2
    refine lv_tableIn (off := 63) (tgt := 64) hx hb dX9_has_1 (by decide) (by decide) (by decide) (by decide) ?_
    refine lv_aload_n hx hb dX9_has_64 rfl (lv_at hl 0 rfl) ?_
    refine k_get C0 fg_X9_20 hP 0 rfl rfl dX9_has_65 ?_
    refine k_get C0 fg_X9_151 hP 1 rfl rfl dX9_has_68 ?_
    exact k_iret hx hb hr hlk rfl () hS True.intro hP hD (Nat.le_of_ble_eq_true rfl) (Nat.le_of_ble_eq_true rfl) dX9_has_71
  rcases Decidable.em (p0 = 3) with s198_3 | s198_3
  · subst s198_3
    refine lv_tableIn (off := 71) (tgt := 72) hx hb dX9_has_1 (by decide) (by decide) (by decide) (by decide) ?_
    refine lv_aload_n hx hb dX9_has_72 rfl (lv_at hl 0 rfl) ?_
    refine k_get C0 fg_X9_30 hP 0 rfl rfl dX9_has_73 ?_
    refine k_get C0 fg_X9_154 hP 2 rfl rfl dX9_has_76 ?_
    exact k_iret hx hb hr hlk rfl () hS True.intro hP hD (Nat.le_of_ble_eq_true rfl) (Nat.le_of_ble_eq_true rfl) dX9_has_79
  rcases Decidable.em (p0 = 4) with s198_4 | s198_4
  · subst s198_4
    refine lv_tableIn (off := 79) (tgt := 80) hx hb dX9_has_1 (by decide) (by decide) (by decide) (by decide) ?_
    refine lv_aload_n hx hb dX9_has_80 rfl (lv_at hl 0 rfl) ?_
    refine k_get C0 fg_X9_30 hP 0 rfl rfl dX9_has_81 ?_
    refine k_get C0 fg_X9_157 hP 2 rfl rfl dX9_has_84 ?_
    exact k_iret hx hb hr hlk rfl () hS True.intro hP hD (Nat.le_of_ble_eq_true rfl) (Nat.le_of_ble_eq_true rfl) dX9_has_87
  rcases Decidable.em (p0 = 5) with s198_5 | s198_5
  · subst s198_5
    refine lv_tableIn (off := 87) (tgt := 88) hx hb dX9_has_1 (by decide) (by decide) (by decide) (by decide) ?_
    refine lv_aload_n hx hb dX9_has_88 rfl (lv_at hl 0 rfl) ?_
    refine k_get C0 fg_X9_30 hP 0 rfl rfl dX9_has_89 ?_
    refine k_get C0 fg_X9_160 hP 2 rfl rfl dX9_has_92 ?_
    exact k_iret hx hb hr hlk rfl () hS True.intro hP hD (Nat.le_of_ble_eq_true rfl) (Nat.le_of_ble_eq_true rfl) dX9_has_95
  rcases Decidable.em (p0 = 6) with s198_6 | s198_6
  · subst s198_6
    refine lv_tableIn (off := 95) (tgt := 96) hx hb dX9_has_1 (by decide) (by decide) (by decide) (by decide) ?_
    refine lv_aload_n hx hb dX9_has_96 rfl (lv_at hl 0 rfl) ?_
    refine k_get C0 fg_X9_85 hP 0 rfl rfl dX9_has_97 ?_
    refine k_get C0 fg_X9_163 hP 3 rfl rfl dX9_has_100 ?_
    exact k_iret hx hb hr hlk rfl () hS True.intro hP hD (Nat.le_of_ble_eq_true rfl) (Nat.le_of_ble_eq_true rfl) dX9_has_103
  rcases Decidable.em (p0 = 7) with s198_7 | s198_7
  · subst s198_7
    refine lv_tableIn (off := 103) (tgt := 104) hx hb dX9_has_1 (by decide) (by decide) (by decide) (by decide) ?_
    refine lv_aload_n hx hb dX9_has_104 rfl (lv_at hl 0 rfl) ?_
    refine k_get C0 fg_X9_37 hP 0 rfl rfl dX9_has_105 ?_
    refine k_get C0 fg_X9_166 hP 4 rfl rfl dX9_has_108 ?_
    exact k_iret hx hb hr hlk rfl () hS True.intro hP hD (Nat.le_of_ble_eq_true rfl) (Nat.le_of_ble_eq_true rfl) dX9_has_111
  refine lv_tableOut (tgt := 112) hx hb dX9_has_1 (by simp only [← Int32.toInt_inj, kl0, kl1, kl2, kl3, kl4, kl5, kl6, kl7, kl60, klm1] at s198_0 s198_1 s198_2 s198_3 s198_4 s198_5 s198_6 s198_7; omega) (by decide) ?_
  refine lv_iconst (v := (-1)) hx hb dX9_has_112 (by decide) ?_
  exact k_iret hx hb hr hlk rfl () hS True.intro hP hD (Nat.le_of_ble_eq_true rfl) (Nat.le_of_ble_eq_true rfl) dX9_has_113
set_option maxHeartbeats 4000000 in
set_option maxRecDepth 100000 in
theorem s_X1_forget (l : Launch) (dC : Nat → ClassId) (dI : Nat → Nat → Nat) (cy : Nat → ClassId) (sq : Nat → Nat) (a_this : Nat) (a_this_street : Nat) (a_this_table : Nat) (x_this_tableKnown : Int32) (hx_this_tableKnown : ib x_this_tableKnown 0 1) : k_Met l yX1_forget cX1_forget 1 none { frames := 0, cells := 0, slots := 0, locals := 0 } dC dI cy sq [.ref a_this] [(a_this, .inr (1, [.ref a_this_street, .ref a_this_table, .int x_this_tableKnown]))] (k_Qv dC dI (fun (n0 : Int32) => ib n0 0 1) (fun n0 : Int32 => [(a_this, .inr (1, [.ref a_this_street, .ref a_this_table, .int n0]))])) := by
  refine k_ofW (by decide +kernel) (Nat.le_of_ble_eq_true rfl) ?_
  intro p e s m below meth c A ls H locs C0 hr hlk hin hP hD hA hS hl
  have C0 : k_cx p s m _ c cX1_forget 1 RX1 dC dI cy sq := C0
  have hx := C0.1
  have hb := C0.2.1
  have hl : lv_has ls 1 [(0, .ref a_this)] := hl
  refine lv_aload_n hx hb dX1_forget_0 rfl (lv_at hl 0 rfl) ?_
  refine lv_iconst (v := 0) hx hb dX1_forget_1 (by decide) ?_
  refine k_put C0 fp_X1_15 hP hD hS 0 rfl (k_nb 0 (by decide)) (k_fb 0 (by decide)) (Nat.le_of_ble_eq_true rfl) dX1_forget_2 (fun H locs hP hD hS => ?_)
  have hP : va_P (dC, dI) vwCl [(a_this, .inr (1, [.ref a_this_street, .ref a_this_table, .int 0]))] H := hP
  have hD : va_D A [(a_this, .inr (1, [.ref a_this_street, .ref a_this_table, .int 0]))] := hD
  exact k_vret hx hb hr hlk 0 hS (ib_w 0 1 (ib_c 0 0 0 (by decide)) (by decide)) hP hD (Nat.le_of_ble_eq_true rfl) (Nat.le_of_ble_eq_true rfl) dX1_forget_5
set_option maxHeartbeats 4000000 in
set_option maxRecDepth 100000 in
theorem s_X0_forget (l : Launch) (dC : Nat → ClassId) (dI : Nat → Nat → Nat) (cy : Nat → ClassId) (sq : Nat → Nat) (a_this : Nat) (a_this_street : Nat) (a_this_state : Nat) (a_this_told : Nat) (a_this_trusts : Nat) (x_this_known : Int32) (hx_this_known : ib x_this_known 0 30) : k_Met l yX0_forget cX0_forget 1 none { frames := 0, cells := 0, slots := 0, locals := 0 } dC dI cy sq [.ref a_this] [(a_this, .inr (0, [.ref a_this_street, .ref a_this_state, .ref a_this_told, .ref a_this_trusts, .int x_this_known]))] (k_Qv dC dI (fun (n0 : Int32) => ib n0 0 30) (fun n0 : Int32 => [(a_this, .inr (0, [.ref a_this_street, .ref a_this_state, .ref a_this_told, .ref a_this_trusts, .int n0]))])) := by
  refine k_ofW (by decide +kernel) (Nat.le_of_ble_eq_true rfl) ?_
  intro p e s m below meth c A ls H locs C0 hr hlk hin hP hD hA hS hl
  have C0 : k_cx p s m _ c cX0_forget 1 RX0 dC dI cy sq := C0
  have hx := C0.1
  have hb := C0.2.1
  have hl : lv_has ls 1 [(0, .ref a_this)] := hl
  refine lv_aload_n hx hb dX0_forget_0 rfl (lv_at hl 0 rfl) ?_
  refine lv_iconst (v := 0) hx hb dX0_forget_1 (by decide) ?_
  refine k_put C0 fp_X0_25 hP hD hS 0 rfl rfl rfl (Nat.le_of_ble_eq_true rfl) dX0_forget_2 (fun H locs hP hD hS => ?_)
  have hP : va_P (dC, dI) vwCl [(a_this, .inr (0, [.ref a_this_street, .ref a_this_state, .ref a_this_told, .ref a_this_trusts, .int 0]))] H := hP
  have hD : va_D A [(a_this, .inr (0, [.ref a_this_street, .ref a_this_state, .ref a_this_told, .ref a_this_trusts, .int 0]))] := hD
  exact k_vret hx hb hr hlk 0 hS (ib_w 0 30 (ib_c 0 0 0 (by decide)) (by decide)) hP hD (Nat.le_of_ble_eq_true rfl) (Nat.le_of_ble_eq_true rfl) dX0_forget_5
set_option maxHeartbeats 4000000 in
set_option maxRecDepth 100000 in
theorem s_X8_forget (l : Launch) (dC : Nat → ClassId) (dI : Nat → Nat → Nat) (cy : Nat → ClassId) (sq : Nat → Nat) (a_this : Nat) (a_this_street : Nat) (a_this_seenWalker : Nat) (a_this_seenSecond : Nat) (x_this_rows : Int32) (x_this_compared : Int32) (a_this_seconds : Nat) (x_this_found : Int32) (x_this_foundRules : Int32) (x_this_foundGreen : Int32) (x_this_chosen : Int32) (x_this_chosenLeft : Int32) (hx_this_rows : ib x_this_rows 0 16) (hx_this_compared : ib x_this_compared 0 1) (hx_this_found : ib x_this_found 0 60) : k_Met l yX8_forget cX8_forget 1 none { frames := 0, cells := 0, slots := 0, locals := 0 } dC dI cy sq [.ref a_this] [(a_this, .inr (8, [.ref a_this_street, .ref a_this_seenWalker, .ref a_this_seenSecond, .int x_this_rows, .int x_this_compared, .ref a_this_seconds, .int x_this_found, .int x_this_foundRules, .int x_this_foundGreen, .int x_this_chosen, .int x_this_chosenLeft]))] (k_Qv dC dI (fun (n0 : Int32) => ib n0 0 1) (fun n0 : Int32 => [(a_this, .inr (8, [.ref a_this_street, .ref a_this_seenWalker, .ref a_this_seenSecond, .int x_this_rows, .int n0, .ref a_this_seconds, .int x_this_found, .int x_this_foundRules, .int x_this_foundGreen, .int x_this_chosen, .int x_this_chosenLeft]))])) := by
  refine k_ofW (by decide +kernel) (Nat.le_of_ble_eq_true rfl) ?_
  intro p e s m below meth c A ls H locs C0 hr hlk hin hP hD hA hS hl
  have C0 : k_cx p s m _ c cX8_forget 1 RX8 dC dI cy sq := C0
  have hx := C0.1
  have hb := C0.2.1
  have hl : lv_has ls 1 [(0, .ref a_this)] := hl
  refine lv_aload_n hx hb dX8_forget_0 rfl (lv_at hl 0 rfl) ?_
  refine lv_iconst (v := 0) hx hb dX8_forget_1 (by decide) ?_
  refine k_put C0 fp_X8_22 hP hD hS 0 rfl (k_nb 0 (by decide)) (k_fb 0 (by decide)) (Nat.le_of_ble_eq_true rfl) dX8_forget_2 (fun H locs hP hD hS => ?_)
  have hP : va_P (dC, dI) vwCl [(a_this, .inr (8, [.ref a_this_street, .ref a_this_seenWalker, .ref a_this_seenSecond, .int x_this_rows, .int 0, .ref a_this_seconds, .int x_this_found, .int x_this_foundRules, .int x_this_foundGreen, .int x_this_chosen, .int x_this_chosenLeft]))] H := hP
  have hD : va_D A [(a_this, .inr (8, [.ref a_this_street, .ref a_this_seenWalker, .ref a_this_seenSecond, .int x_this_rows, .int 0, .ref a_this_seconds, .int x_this_found, .int x_this_foundRules, .int x_this_foundGreen, .int x_this_chosen, .int x_this_chosenLeft]))] := hD
  exact k_vret hx hb hr hlk 0 hS (ib_w 0 1 (ib_c 0 0 0 (by decide)) (by decide)) hP hD (Nat.le_of_ble_eq_true rfl) (Nat.le_of_ble_eq_true rfl) dX8_forget_5
set_option maxHeartbeats 4000000 in
set_option maxRecDepth 100000 in
theorem s_X9_changed (l : Launch) (dC : Nat → ClassId) (dI : Nat → Nat → Nat) (cy : Nat → ClassId) (sq : Nat → Nat) (a_this : Nat) (a_this_tape : Nat) (x_this_tapeSize : Int32) (a_this_plan : Nat) (a_this_spare : Nat) (a_this_now : Nat) (a_this_history : Nat) (a_this_machine : Nat) (a_this_reader : Nat) (a_this_street : Nat) (a_this_choice : Nat) (a_this_choice_table : Nat) (x_this_choice_tableKnown : Int32) (a_this_ahead : Nat) (a_this_ahead_state : Nat) (a_this_ahead_told : Nat) (a_this_ahead_trusts : Nat) (x_this_ahead_known : Int32) (a_this_watch : Nat) (a_this_watch_seenWalker : Nat) (a_this_watch_seenSecond : Nat) (x_this_watch_rows : Int32) (x_this_watch_compared : Int32) (a_this_watch_seconds : Nat) (x_this_watch_found : Int32) (x_this_watch_foundRules : Int32) (x_this_watch_foundGreen : Int32) (x_this_watch_chosen : Int32) (x_this_watch_chosenLeft : Int32) (a_this_octets : Nat) (x_this_octetCount : Int32) (a_this_refusals : Nat) (x_this_drawn : Int64) (hx_this_tapeSize : ib x_this_tapeSize 0 1600) (hx_this_choice_tableKnown : ib x_this_choice_tableKnown 0 1) (hx_this_ahead_known : ib x_this_ahead_known 0 30) (hx_this_watch_rows : ib x_this_watch_rows 0 16) (hx_this_watch_compared : ib x_this_watch_compared 0 1) (hx_this_watch_found : ib x_this_watch_found 0 60) (hx_this_octetCount : ib x_this_octetCount 0 11) : k_Met l yX9_changed cX9_changed 1 none { frames := 1, cells := 0, slots := 0, locals := 20 } dC dI cy sq [.ref a_this] [(a_this, .inr (9, [.ref a_this_tape, .int x_this_tapeSize, .ref a_this_plan, .ref a_this_spare, .ref a_this_now, .ref a_this_history, .ref a_this_machine, .ref a_this_reader, .ref a_this_street, .ref a_this_choice, .ref a_this_ahead, .ref a_this_watch, .ref a_this_octets, .int x_this_octetCount, .ref a_this_refusals, .long x_this_drawn])), (a_this_choice, .inr (1, [.ref a_this_street, .ref a_this_choice_table, .int x_this_choice_tableKnown])), (a_this_ahead, .inr (0, [.ref a_this_street, .ref a_this_ahead_state, .ref a_this_ahead_told, .ref a_this_ahead_trusts, .int x_this_ahead_known])), (a_this_watch, .inr (8, [.ref a_this_street, .ref a_this_watch_seenWalker, .ref a_this_watch_seenSecond, .int x_this_watch_rows, .int x_this_watch_compared, .ref a_this_watch_seconds, .int x_this_watch_found, .int x_this_watch_foundRules, .int x_this_watch_foundGreen, .int x_this_watch_chosen, .int x_this_watch_chosenLeft]))] (k_Qv dC dI (fun (u : Int32 × Int32 × Int32) => match u with | (n0, n1, n2) => ib n0 0 1 ∧ ib n1 0 30 ∧ ib n2 0 1) (fun u : Int32 × Int32 × Int32 => match u with | (n0, n1, n2) => [(a_this, .inr (9, [.ref a_this_tape, .int x_this_tapeSize, .ref a_this_plan, .ref a_this_spare, .ref a_this_now, .ref a_this_history, .ref a_this_machine, .ref a_this_reader, .ref a_this_street, .ref a_this_choice, .ref a_this_ahead, .ref a_this_watch, .ref a_this_octets, .int x_this_octetCount, .ref a_this_refusals, .long x_this_drawn])), (a_this_choice, .inr (1, [.ref a_this_street, .ref a_this_choice_table, .int n0])), (a_this_ahead, .inr (0, [.ref a_this_street, .ref a_this_ahead_state, .ref a_this_ahead_told, .ref a_this_ahead_trusts, .int n1])), (a_this_watch, .inr (8, [.ref a_this_street, .ref a_this_watch_seenWalker, .ref a_this_watch_seenSecond, .int x_this_watch_rows, .int n2, .ref a_this_watch_seconds, .int x_this_watch_found, .int x_this_watch_foundRules, .int x_this_watch_foundGreen, .int x_this_watch_chosen, .int x_this_watch_chosenLeft]))])) := by
  refine k_ofW (by decide +kernel) (Nat.le_of_ble_eq_true rfl) ?_
  intro p e s m below meth c A ls H locs C0 hr hlk hin hP hD hA hS hl
  have C0 : k_cx p s m _ c cX9_changed 1 RX9 dC dI cy sq := C0
  have hx := C0.1
  have hb := C0.2.1
  have hl : lv_has ls 1 [(0, .ref a_this)] := hl
  refine lv_aload_n hx hb dX9_changed_0 rfl (lv_at hl 0 rfl) ?_
  refine k_get C0 fg_X9_71 hP 0 rfl rfl dX9_changed_1 ?_
  refine k_jv hP hD hS hA [1] [0, 2, 3] (wr := [(a_this, .inr (9, [.ref a_this_tape, .int x_this_tapeSize, .ref a_this_plan, .ref a_this_spare, .ref a_this_now, .ref a_this_history, .ref a_this_machine, .ref a_this_reader, .ref a_this_street, .ref a_this_choice, .ref a_this_ahead, .ref a_this_watch, .ref a_this_octets, .int x_this_octetCount, .ref a_this_refusals, .long x_this_drawn])), (a_this_ahead, .inr (0, [.ref a_this_street, .ref a_this_ahead_state, .ref a_this_ahead_told, .ref a_this_ahead_trusts, .int x_this_ahead_known])), (a_this_watch, .inr (8, [.ref a_this_street, .ref a_this_watch_seenWalker, .ref a_this_watch_seenSecond, .int x_this_watch_rows, .int x_this_watch_compared, .ref a_this_watch_seconds, .int x_this_watch_found, .int x_this_watch_foundRules, .int x_this_watch_foundGreen, .int x_this_watch_chosen, .int x_this_watch_chosenLeft]))]) rfl rfl (by decide) (by decide) (by decide) 0 0 (Nat.le_of_ble_eq_true rfl) (Nat.le_of_ble_eq_true rfl) (fun hPc hDc => k_runV (As := []) (rest := []) C0 (s_X1_forget l dC dI cy sq a_this_choice a_this_street a_this_choice_table x_this_choice_tableKnown (ib_w 0 1 hx_this_choice_tableKnown (by decide))) mV_X9_333 hPc hDc rfl rfl rfl hl rfl rfl (Nat.le_of_ble_eq_true rfl) ⟨(Nat.le_of_ble_eq_true rfl), (Nat.le_of_ble_eq_true rfl)⟩ ⟨(Nat.le_of_ble_eq_true rfl), (Nat.le_of_ble_eq_true rfl)⟩ dX9_changed_4) (fun u212 H locs hw hP hD hS => ?_)
  obtain ⟨v213, ev213⟩ : ∃ z, z = u212 := ⟨_, rfl⟩; subst ev213
  try dsimp only at hP hD hw
  have hP : va_P (dC, dI) vwCl [(a_this, .inr (9, [.ref a_this_tape, .int x_this_tapeSize, .ref a_this_plan, .ref a_this_spare, .ref a_this_now, .ref a_this_history, .ref a_this_machine, .ref a_this_reader, .ref a_this_street, .ref a_this_choice, .ref a_this_ahead, .ref a_this_watch, .ref a_this_octets, .int x_this_octetCount, .ref a_this_refusals, .long x_this_drawn])), (a_this_ahead, .inr (0, [.ref a_this_street, .ref a_this_ahead_state, .ref a_this_ahead_told, .ref a_this_ahead_trusts, .int x_this_ahead_known])), (a_this_watch, .inr (8, [.ref a_this_street, .ref a_this_watch_seenWalker, .ref a_this_watch_seenSecond, .int x_this_watch_rows, .int x_this_watch_compared, .ref a_this_watch_seconds, .int x_this_watch_found, .int x_this_watch_foundRules, .int x_this_watch_foundGreen, .int x_this_watch_chosen, .int x_this_watch_chosenLeft])), (a_this_choice, .inr (1, [.ref a_this_street, .ref a_this_choice_table, .int v213]))] H := hP
  have hD : va_D A [(a_this, .inr (9, [.ref a_this_tape, .int x_this_tapeSize, .ref a_this_plan, .ref a_this_spare, .ref a_this_now, .ref a_this_history, .ref a_this_machine, .ref a_this_reader, .ref a_this_street, .ref a_this_choice, .ref a_this_ahead, .ref a_this_watch, .ref a_this_octets, .int x_this_octetCount, .ref a_this_refusals, .long x_this_drawn])), (a_this_ahead, .inr (0, [.ref a_this_street, .ref a_this_ahead_state, .ref a_this_ahead_told, .ref a_this_ahead_trusts, .int x_this_ahead_known])), (a_this_watch, .inr (8, [.ref a_this_street, .ref a_this_watch_seenWalker, .ref a_this_watch_seenSecond, .int x_this_watch_rows, .int x_this_watch_compared, .ref a_this_watch_seconds, .int x_this_watch_found, .int x_this_watch_foundRules, .int x_this_watch_foundGreen, .int x_this_watch_chosen, .int x_this_watch_chosenLeft])), (a_this_choice, .inr (1, [.ref a_this_street, .ref a_this_choice_table, .int v213]))] := hD
  have h214 := hw
  refine lv_aload_n hx hb dX9_changed_7 rfl (lv_at hl 0 rfl) ?_
  refine k_get C0 fg_X9_78 hP 0 rfl rfl dX9_changed_8 ?_
  refine k_jv hP hD hS hA [1] [0, 2, 3] (wr := [(a_this, .inr (9, [.ref a_this_tape, .int x_this_tapeSize, .ref a_this_plan, .ref a_this_spare, .ref a_this_now, .ref a_this_history, .ref a_this_machine, .ref a_this_reader, .ref a_this_street, .ref a_this_choice, .ref a_this_ahead, .ref a_this_watch, .ref a_this_octets, .int x_this_octetCount, .ref a_this_refusals, .long x_this_drawn])), (a_this_watch, .inr (8, [.ref a_this_street, .ref a_this_watch_seenWalker, .ref a_this_watch_seenSecond, .int x_this_watch_rows, .int x_this_watch_compared, .ref a_this_watch_seconds, .int x_this_watch_found, .int x_this_watch_foundRules, .int x_this_watch_foundGreen, .int x_this_watch_chosen, .int x_this_watch_chosenLeft])), (a_this_choice, .inr (1, [.ref a_this_street, .ref a_this_choice_table, .int v213]))]) rfl rfl (by decide) (by decide) (by decide) 0 0 (Nat.le_of_ble_eq_true rfl) (Nat.le_of_ble_eq_true rfl) (fun hPc hDc => k_runV (As := []) (rest := []) C0 (s_X0_forget l dC dI cy sq a_this_ahead a_this_street a_this_ahead_state a_this_ahead_told a_this_ahead_trusts x_this_ahead_known (ib_w 0 30 hx_this_ahead_known (by decide))) mV_X9_336 hPc hDc rfl rfl rfl hl rfl rfl (Nat.le_of_ble_eq_true rfl) ⟨(Nat.le_of_ble_eq_true rfl), (Nat.le_of_ble_eq_true rfl)⟩ ⟨(Nat.le_of_ble_eq_true rfl), (Nat.le_of_ble_eq_true rfl)⟩ dX9_changed_11) (fun u216 H locs hw hP hD hS => ?_)
  obtain ⟨v217, ev217⟩ : ∃ z, z = u216 := ⟨_, rfl⟩; subst ev217
  try dsimp only at hP hD hw
  have hP : va_P (dC, dI) vwCl [(a_this, .inr (9, [.ref a_this_tape, .int x_this_tapeSize, .ref a_this_plan, .ref a_this_spare, .ref a_this_now, .ref a_this_history, .ref a_this_machine, .ref a_this_reader, .ref a_this_street, .ref a_this_choice, .ref a_this_ahead, .ref a_this_watch, .ref a_this_octets, .int x_this_octetCount, .ref a_this_refusals, .long x_this_drawn])), (a_this_watch, .inr (8, [.ref a_this_street, .ref a_this_watch_seenWalker, .ref a_this_watch_seenSecond, .int x_this_watch_rows, .int x_this_watch_compared, .ref a_this_watch_seconds, .int x_this_watch_found, .int x_this_watch_foundRules, .int x_this_watch_foundGreen, .int x_this_watch_chosen, .int x_this_watch_chosenLeft])), (a_this_choice, .inr (1, [.ref a_this_street, .ref a_this_choice_table, .int v213])), (a_this_ahead, .inr (0, [.ref a_this_street, .ref a_this_ahead_state, .ref a_this_ahead_told, .ref a_this_ahead_trusts, .int v217]))] H := hP
  have hD : va_D A [(a_this, .inr (9, [.ref a_this_tape, .int x_this_tapeSize, .ref a_this_plan, .ref a_this_spare, .ref a_this_now, .ref a_this_history, .ref a_this_machine, .ref a_this_reader, .ref a_this_street, .ref a_this_choice, .ref a_this_ahead, .ref a_this_watch, .ref a_this_octets, .int x_this_octetCount, .ref a_this_refusals, .long x_this_drawn])), (a_this_watch, .inr (8, [.ref a_this_street, .ref a_this_watch_seenWalker, .ref a_this_watch_seenSecond, .int x_this_watch_rows, .int x_this_watch_compared, .ref a_this_watch_seconds, .int x_this_watch_found, .int x_this_watch_foundRules, .int x_this_watch_foundGreen, .int x_this_watch_chosen, .int x_this_watch_chosenLeft])), (a_this_choice, .inr (1, [.ref a_this_street, .ref a_this_choice_table, .int v213])), (a_this_ahead, .inr (0, [.ref a_this_street, .ref a_this_ahead_state, .ref a_this_ahead_told, .ref a_this_ahead_trusts, .int v217]))] := hD
  have h218 := hw
  refine lv_aload_n hx hb dX9_changed_14 rfl (lv_at hl 0 rfl) ?_
  refine k_get C0 fg_X9_85 hP 0 rfl rfl dX9_changed_15 ?_
  refine k_jv hP hD hS hA [1] [0, 2, 3] (wr := [(a_this, .inr (9, [.ref a_this_tape, .int x_this_tapeSize, .ref a_this_plan, .ref a_this_spare, .ref a_this_now, .ref a_this_history, .ref a_this_machine, .ref a_this_reader, .ref a_this_street, .ref a_this_choice, .ref a_this_ahead, .ref a_this_watch, .ref a_this_octets, .int x_this_octetCount, .ref a_this_refusals, .long x_this_drawn])), (a_this_choice, .inr (1, [.ref a_this_street, .ref a_this_choice_table, .int v213])), (a_this_ahead, .inr (0, [.ref a_this_street, .ref a_this_ahead_state, .ref a_this_ahead_told, .ref a_this_ahead_trusts, .int v217]))]) rfl rfl (by decide) (by decide) (by decide) 0 0 (Nat.le_of_ble_eq_true rfl) (Nat.le_of_ble_eq_true rfl) (fun hPc hDc => k_runV (As := []) (rest := []) C0 (s_X8_forget l dC dI cy sq a_this_watch a_this_street a_this_watch_seenWalker a_this_watch_seenSecond x_this_watch_rows x_this_watch_compared a_this_watch_seconds x_this_watch_found x_this_watch_foundRules x_this_watch_foundGreen x_this_watch_chosen x_this_watch_chosenLeft (ib_w 0 16 hx_this_watch_rows (by decide)) (ib_w 0 1 hx_this_watch_compared (by decide)) (ib_w 0 60 hx_this_watch_found (by decide))) mV_X9_337 hPc hDc rfl rfl rfl hl rfl rfl (Nat.le_of_ble_eq_true rfl) ⟨(Nat.le_of_ble_eq_true rfl), (Nat.le_of_ble_eq_true rfl)⟩ ⟨(Nat.le_of_ble_eq_true rfl), (Nat.le_of_ble_eq_true rfl)⟩ dX9_changed_18) (fun u220 H locs hw hP hD hS => ?_)
  obtain ⟨v221, ev221⟩ : ∃ z, z = u220 := ⟨_, rfl⟩; subst ev221
  try dsimp only at hP hD hw
  have hP : va_P (dC, dI) vwCl [(a_this, .inr (9, [.ref a_this_tape, .int x_this_tapeSize, .ref a_this_plan, .ref a_this_spare, .ref a_this_now, .ref a_this_history, .ref a_this_machine, .ref a_this_reader, .ref a_this_street, .ref a_this_choice, .ref a_this_ahead, .ref a_this_watch, .ref a_this_octets, .int x_this_octetCount, .ref a_this_refusals, .long x_this_drawn])), (a_this_choice, .inr (1, [.ref a_this_street, .ref a_this_choice_table, .int v213])), (a_this_ahead, .inr (0, [.ref a_this_street, .ref a_this_ahead_state, .ref a_this_ahead_told, .ref a_this_ahead_trusts, .int v217])), (a_this_watch, .inr (8, [.ref a_this_street, .ref a_this_watch_seenWalker, .ref a_this_watch_seenSecond, .int x_this_watch_rows, .int v221, .ref a_this_watch_seconds, .int x_this_watch_found, .int x_this_watch_foundRules, .int x_this_watch_foundGreen, .int x_this_watch_chosen, .int x_this_watch_chosenLeft]))] H := hP
  have hD : va_D A [(a_this, .inr (9, [.ref a_this_tape, .int x_this_tapeSize, .ref a_this_plan, .ref a_this_spare, .ref a_this_now, .ref a_this_history, .ref a_this_machine, .ref a_this_reader, .ref a_this_street, .ref a_this_choice, .ref a_this_ahead, .ref a_this_watch, .ref a_this_octets, .int x_this_octetCount, .ref a_this_refusals, .long x_this_drawn])), (a_this_choice, .inr (1, [.ref a_this_street, .ref a_this_choice_table, .int v213])), (a_this_ahead, .inr (0, [.ref a_this_street, .ref a_this_ahead_state, .ref a_this_ahead_told, .ref a_this_ahead_trusts, .int v217])), (a_this_watch, .inr (8, [.ref a_this_street, .ref a_this_watch_seenWalker, .ref a_this_watch_seenSecond, .int x_this_watch_rows, .int v221, .ref a_this_watch_seconds, .int x_this_watch_found, .int x_this_watch_foundRules, .int x_this_watch_foundGreen, .int x_this_watch_chosen, .int x_this_watch_chosenLeft]))] := hD
  have h222 := hw
  exact k_vret hx hb hr hlk ((v213, v217, v221)) hS ⟨ib_w 0 1 h214 (by decide), ib_w 0 30 h218 (by decide), ib_w 0 1 h222 (by decide)⟩ hP hD (Nat.le_of_ble_eq_true rfl) (Nat.le_of_ble_eq_true rfl) dX9_changed_21
set_option maxHeartbeats 4000000 in
set_option maxRecDepth 100000 in
theorem s_X7_walkers (l : Launch) (dC : Nat → ClassId) (dI : Nat → Nat → Nat) (cy : Nat → ClassId) (sq : Nat → Nat) (a_this : Nat) (a_this_machine : Nat) (a_this_plan : Nat) (x_this_plan_cycle : Int32) (x_this_plan_green : Int32) (x_this_plan_rule : Int32) (x_this_plan_least : Int32) (x_this_plan_away : Int32) (x_this_plan_statements : Int32) (x_this_plan_kinds : Int32) (a_this_plan_calm : Nat) (a_this_plan_pace : Nat) (a_this_plan_trusts : Nat) (x_this_plan_walkers : Int32) (a_this_plan_kindOf : Nat) (a_this_plan_comesAt : Nat) (a_this_plan_comers : Nat) (a_this_plan_names : Nat) (a_this_plan_code : Nat) (x_this_plan_size : Int32) (a_this_plan_spans : Nat) (x_this_day : Int32) (a_this_trusts : Nat) (x_this_rule : Int32) (x_this_green : Int32) (x_this_absent : Int32) (x_this_asksReds : Int32) (a_this_cars : Nat) (a_this_gaps : Nat) (a_this_known : Nat) (a_this_left : Nat) (a_this_leaves : Nat) (x_this_pressed : Int32) (x_this_crossed : Int32) (x_this_went : Int32) (x_this_harmed : Int32) (hx_this_plan_cycle : ib x_this_plan_cycle 0 120) (hx_this_plan_least : ib x_this_plan_least 0 99) (hx_this_plan_statements : ib x_this_plan_statements 0 81) (hx_this_plan_kinds : ib x_this_plan_kinds 0 6) (hx_this_plan_walkers : ib x_this_plan_walkers 0 12) (hx_this_plan_size : ib x_this_plan_size 0 1600) (hx_this_asksReds : ib x_this_asksReds 0 1) : k_Met l yX7_walkers cX7_walkers 1 (some .int) { frames := 0, cells := 0, slots := 0, locals := 0 } dC dI cy sq [.ref a_this] [(a_this, .inr (7, [.ref a_this_machine, .ref a_this_plan, .int x_this_day, .ref a_this_trusts, .int x_this_rule, .int x_this_green, .int x_this_absent, .int x_this_asksReds, .ref a_this_cars, .ref a_this_gaps, .ref a_this_known, .ref a_this_left, .ref a_this_leaves, .int x_this_pressed, .int x_this_crossed, .int x_this_went, .int x_this_harmed])), (a_this_plan, .inr (4, [.int x_this_plan_cycle, .int x_this_plan_green, .int x_this_plan_rule, .int x_this_plan_least, .int x_this_plan_away, .int x_this_plan_statements, .int x_this_plan_kinds, .ref a_this_plan_calm, .ref a_this_plan_pace, .ref a_this_plan_trusts, .int x_this_plan_walkers, .ref a_this_plan_kindOf, .ref a_this_plan_comesAt, .ref a_this_plan_comers, .ref a_this_plan_names, .ref a_this_plan_code, .int x_this_plan_size, .ref a_this_plan_spans]))] (k_Qi dC dI (fun (r : Int32) (_ : Unit) => ib r 0 12) (fun _ : Unit => [(a_this, .inr (7, [.ref a_this_machine, .ref a_this_plan, .int x_this_day, .ref a_this_trusts, .int x_this_rule, .int x_this_green, .int x_this_absent, .int x_this_asksReds, .ref a_this_cars, .ref a_this_gaps, .ref a_this_known, .ref a_this_left, .ref a_this_leaves, .int x_this_pressed, .int x_this_crossed, .int x_this_went, .int x_this_harmed])), (a_this_plan, .inr (4, [.int x_this_plan_cycle, .int x_this_plan_green, .int x_this_plan_rule, .int x_this_plan_least, .int x_this_plan_away, .int x_this_plan_statements, .int x_this_plan_kinds, .ref a_this_plan_calm, .ref a_this_plan_pace, .ref a_this_plan_trusts, .int x_this_plan_walkers, .ref a_this_plan_kindOf, .ref a_this_plan_comesAt, .ref a_this_plan_comers, .ref a_this_plan_names, .ref a_this_plan_code, .int x_this_plan_size, .ref a_this_plan_spans]))])) := by
  refine k_ofW (by decide +kernel) (Nat.le_of_ble_eq_true rfl) ?_
  intro p e s m below meth c A ls H locs C0 hr hlk hin hP hD hA hS hl
  have C0 : k_cx p s m _ c cX7_walkers 1 RX7 dC dI cy sq := C0
  have hx := C0.1
  have hb := C0.2.1
  have hl : lv_has ls 1 [(0, .ref a_this)] := hl
  refine lv_aload_n hx hb dX7_walkers_0 rfl (lv_at hl 0 rfl) ?_
  refine k_get C0 fg_X7_63 hP 0 rfl rfl dX7_walkers_1 ?_
  refine k_get C0 fg_X7_137 hP 1 rfl rfl dX7_walkers_4 ?_
  exact k_iret hx hb hr hlk rfl () hS (ib_w 0 12 hx_this_plan_walkers (by decide)) hP hD (Nat.le_of_ble_eq_true rfl) (Nat.le_of_ble_eq_true rfl) dX7_walkers_7
set_option maxHeartbeats 4000000 in
set_option maxRecDepth 100000 in
theorem s_X7_allCross (l : Launch) (dC : Nat → ClassId) (dI : Nat → Nat → Nat) (cy : Nat → ClassId) (sq : Nat → Nat) (a_this : Nat) (a_this_machine : Nat) (a_this_plan : Nat) (x_this_plan_cycle : Int32) (x_this_plan_green : Int32) (x_this_plan_rule : Int32) (x_this_plan_least : Int32) (x_this_plan_away : Int32) (x_this_plan_statements : Int32) (x_this_plan_kinds : Int32) (a_this_plan_calm : Nat) (a_this_plan_pace : Nat) (a_this_plan_trusts : Nat) (x_this_plan_walkers : Int32) (a_this_plan_kindOf : Nat) (a_this_plan_comesAt : Nat) (a_this_plan_comers : Nat) (a_this_plan_names : Nat) (a_this_plan_code : Nat) (x_this_plan_size : Int32) (a_this_plan_spans : Nat) (x_this_day : Int32) (a_this_trusts : Nat) (x_this_rule : Int32) (x_this_green : Int32) (x_this_absent : Int32) (x_this_asksReds : Int32) (a_this_cars : Nat) (a_this_gaps : Nat) (a_this_known : Nat) (a_this_left : Nat) (a_this_leaves : Nat) (x_this_pressed : Int32) (x_this_crossed : Int32) (x_this_went : Int32) (x_this_harmed : Int32) (hx_this_plan_cycle : ib x_this_plan_cycle 0 120) (hx_this_plan_least : ib x_this_plan_least 0 99) (hx_this_plan_statements : ib x_this_plan_statements 0 81) (hx_this_plan_kinds : ib x_this_plan_kinds 0 6) (hx_this_plan_walkers : ib x_this_plan_walkers 0 12) (hx_this_plan_size : ib x_this_plan_size 0 1600) (hx_this_asksReds : ib x_this_asksReds 0 1) : k_Met l yX7_allCross cX7_allCross 1 (some .boolean) { frames := 1, cells := 0, slots := 0, locals := 20 } dC dI cy sq [.ref a_this] [(a_this, .inr (7, [.ref a_this_machine, .ref a_this_plan, .int x_this_day, .ref a_this_trusts, .int x_this_rule, .int x_this_green, .int x_this_absent, .int x_this_asksReds, .ref a_this_cars, .ref a_this_gaps, .ref a_this_known, .ref a_this_left, .ref a_this_leaves, .int x_this_pressed, .int x_this_crossed, .int x_this_went, .int x_this_harmed])), (a_this_plan, .inr (4, [.int x_this_plan_cycle, .int x_this_plan_green, .int x_this_plan_rule, .int x_this_plan_least, .int x_this_plan_away, .int x_this_plan_statements, .int x_this_plan_kinds, .ref a_this_plan_calm, .ref a_this_plan_pace, .ref a_this_plan_trusts, .int x_this_plan_walkers, .ref a_this_plan_kindOf, .ref a_this_plan_comesAt, .ref a_this_plan_comers, .ref a_this_plan_names, .ref a_this_plan_code, .int x_this_plan_size, .ref a_this_plan_spans]))] (k_Qi dC dI (fun (r : Int32) (_ : Unit) => ib r 0 1) (fun _ : Unit => [(a_this, .inr (7, [.ref a_this_machine, .ref a_this_plan, .int x_this_day, .ref a_this_trusts, .int x_this_rule, .int x_this_green, .int x_this_absent, .int x_this_asksReds, .ref a_this_cars, .ref a_this_gaps, .ref a_this_known, .ref a_this_left, .ref a_this_leaves, .int x_this_pressed, .int x_this_crossed, .int x_this_went, .int x_this_harmed])), (a_this_plan, .inr (4, [.int x_this_plan_cycle, .int x_this_plan_green, .int x_this_plan_rule, .int x_this_plan_least, .int x_this_plan_away, .int x_this_plan_statements, .int x_this_plan_kinds, .ref a_this_plan_calm, .ref a_this_plan_pace, .ref a_this_plan_trusts, .int x_this_plan_walkers, .ref a_this_plan_kindOf, .ref a_this_plan_comesAt, .ref a_this_plan_comers, .ref a_this_plan_names, .ref a_this_plan_code, .int x_this_plan_size, .ref a_this_plan_spans]))])) := by
  refine k_ofW (by decide +kernel) (Nat.le_of_ble_eq_true rfl) ?_
  intro p e s m below meth c A ls H locs C0 hr hlk hin hP hD hA hS hl
  have C0 : k_cx p s m _ c cX7_allCross 1 RX7 dC dI cy sq := C0
  have hx := C0.1
  have hb := C0.2.1
  have hl : lv_has ls 1 [(0, .ref a_this)] := hl
  refine lv_aload_n hx hb dX7_allCross_0 rfl (lv_at hl 0 rfl) ?_
  refine k_get C0 fg_X7_50 hP 0 rfl rfl dX7_allCross_1 ?_
  refine lv_aload_n hx hb dX7_allCross_4 rfl (lv_at hl 0 rfl) ?_
  refine k_get C0 fg_X7_63 hP 0 rfl rfl dX7_allCross_5 ?_
  refine k_ji hP hD hS hA [1] [0] (wr := [(a_this, .inr (7, [.ref a_this_machine, .ref a_this_plan, .int x_this_day, .ref a_this_trusts, .int x_this_rule, .int x_this_green, .int x_this_absent, .int x_this_asksReds, .ref a_this_cars, .ref a_this_gaps, .ref a_this_known, .ref a_this_left, .ref a_this_leaves, .int x_this_pressed, .int x_this_crossed, .int x_this_went, .int x_this_harmed]))]) rfl rfl (by decide) (by decide) (by decide) 0 0 (Nat.le_of_ble_eq_true rfl) (Nat.le_of_ble_eq_true rfl) (fun hPc hDc => k_runV (As := []) (rest := [.int x_this_crossed]) C0 (s_X4_everyone l dC dI cy sq a_this_plan x_this_plan_cycle x_this_plan_green x_this_plan_rule x_this_plan_least x_this_plan_away x_this_plan_statements x_this_plan_kinds a_this_plan_calm a_this_plan_pace a_this_plan_trusts x_this_plan_walkers a_this_plan_kindOf a_this_plan_comesAt a_this_plan_comers a_this_plan_names a_this_plan_code x_this_plan_size a_this_plan_spans (ib_w 0 120 hx_this_plan_cycle (by decide)) (ib_w 0 99 hx_this_plan_least (by decide)) (ib_w 0 81 hx_this_plan_statements (by decide)) (ib_w 0 6 hx_this_plan_kinds (by decide)) (ib_w 0 12 hx_this_plan_walkers (by decide)) (ib_w 0 1600 hx_this_plan_size (by decide))) mV_X7_143 hPc hDc rfl rfl rfl hl rfl rfl (Nat.le_of_ble_eq_true rfl) ⟨(Nat.le_of_ble_eq_true rfl), (Nat.le_of_ble_eq_true rfl)⟩ ⟨(Nat.le_of_ble_eq_true rfl), (Nat.le_of_ble_eq_true rfl)⟩ dX7_allCross_8) (fun r227 u228 H locs hw hP hD hS => ?_)
  try dsimp only at hP hD hw
  have hP : va_P (dC, dI) vwCl [(a_this, .inr (7, [.ref a_this_machine, .ref a_this_plan, .int x_this_day, .ref a_this_trusts, .int x_this_rule, .int x_this_green, .int x_this_absent, .int x_this_asksReds, .ref a_this_cars, .ref a_this_gaps, .ref a_this_known, .ref a_this_left, .ref a_this_leaves, .int x_this_pressed, .int x_this_crossed, .int x_this_went, .int x_this_harmed])), (a_this_plan, .inr (4, [.int x_this_plan_cycle, .int x_this_plan_green, .int x_this_plan_rule, .int x_this_plan_least, .int x_this_plan_away, .int x_this_plan_statements, .int x_this_plan_kinds, .ref a_this_plan_calm, .ref a_this_plan_pace, .ref a_this_plan_trusts, .int x_this_plan_walkers, .ref a_this_plan_kindOf, .ref a_this_plan_comesAt, .ref a_this_plan_comers, .ref a_this_plan_names, .ref a_this_plan_code, .int x_this_plan_size, .ref a_this_plan_spans]))] H := hP
  have hD : va_D A [(a_this, .inr (7, [.ref a_this_machine, .ref a_this_plan, .int x_this_day, .ref a_this_trusts, .int x_this_rule, .int x_this_green, .int x_this_absent, .int x_this_asksReds, .ref a_this_cars, .ref a_this_gaps, .ref a_this_known, .ref a_this_left, .ref a_this_leaves, .int x_this_pressed, .int x_this_crossed, .int x_this_went, .int x_this_harmed])), (a_this_plan, .inr (4, [.int x_this_plan_cycle, .int x_this_plan_green, .int x_this_plan_rule, .int x_this_plan_least, .int x_this_plan_away, .int x_this_plan_statements, .int x_this_plan_kinds, .ref a_this_plan_calm, .ref a_this_plan_pace, .ref a_this_plan_trusts, .int x_this_plan_walkers, .ref a_this_plan_kindOf, .ref a_this_plan_comesAt, .ref a_this_plan_comers, .ref a_this_plan_names, .ref a_this_plan_code, .int x_this_plan_size, .ref a_this_plan_spans]))] := hD
  refine lv_icmp_ne (tgt := 18) hx hb dX7_allCross_11 (by decide) (fun c229 => ?_) (fun c229 => ?_)
  · skip
    refine lv_iconst (v := 0) hx hb dX7_allCross_18 (by decide) ?_
    exact k_iret hx hb hr hlk (k_nb 0 (by decide)) () hS (ib_w 0 1 (ib_c 0 0 0 (by decide)) (by decide)) hP hD (Nat.le_of_ble_eq_true rfl) (Nat.le_of_ble_eq_true rfl) dX7_allCross_19
  · have h230 := ib_eq (ib_any x_this_crossed) (ib_any r227) c229
    refine lv_iconst (v := 1) hx hb dX7_allCross_14 (by decide) ?_
    refine lv_goto (tgt := 19) hx hb dX7_allCross_15 (by decide) ?_
    exact k_iret hx hb hr hlk (k_nb 1 (by decide)) () hS (ib_w 0 1 (ib_c 1 1 1 (by decide)) (by decide)) hP hD (Nat.le_of_ble_eq_true rfl) (Nat.le_of_ble_eq_true rfl) dX7_allCross_19
set_option maxHeartbeats 4000000 in
set_option maxRecDepth 100000 in
theorem s_X5_fail (l : Launch) (dC : Nat → ClassId) (dI : Nat → Nat → Nat) (cy : Nat → ClassId) (sq : Nat → Nat) (a_this : Nat) (a_this_text : Nat) (x_this_length : Int32) (x_this_at : Int32) (x_this_behind : Int32) (x_this_sort : Int32) (x_this_allowed : Int32) (a_this_plan : Nat) (x_this_fault : Int32) (x_this_place : Int32) (p0 : Int32) (p1 : Int32) (hx_this_length : ib x_this_length 0 1600) (hx_this_at : ib x_this_at 0 1600) (hx_this_behind : ib x_this_behind 0 1600) (hx_this_sort : ib x_this_sort 0 4) : k_Met l yX5_fail cX5_fail 3 none { frames := 0, cells := 0, slots := 0, locals := 0 } dC dI cy sq [.ref a_this, .int p0, .int p1] [(a_this, .inr (5, [.ref a_this_text, .int x_this_length, .int x_this_at, .int x_this_behind, .int x_this_sort, .int x_this_allowed, .ref a_this_plan, .int x_this_fault, .int x_this_place]))] (k_Qv dC dI (fun (u : Int32 × Int32 × Int32 × Int32 × Int32) => match u with | (n0, n1, n2, n3, n4) => ib n0 0 1600 ∧ ib n1 0 1600 ∧ ib n2 0 4) (fun u : Int32 × Int32 × Int32 × Int32 × Int32 => match u with | (n0, n1, n2, n3, n4) => [(a_this, .inr (5, [.ref a_this_text, .int x_this_length, .int n0, .int n1, .int n2, .int x_this_allowed, .ref a_this_plan, .int n3, .int n4]))])) := by
  refine k_ofW (by decide +kernel) (Nat.le_of_ble_eq_true rfl) ?_
  intro p e s m below meth c A ls H locs C0 hr hlk hin hP hD hA hS hl
  have C0 : k_cx p s m _ c cX5_fail 3 RX5 dC dI cy sq := C0
  have hx := C0.1
  have hb := C0.2.1
  have hl : lv_has ls 3 [(0, .ref a_this), (1, .int p0), (2, .int p1)] := hl
  refine lv_aload_n hx hb dX5_fail_0 rfl (lv_at hl 0 rfl) ?_
  refine k_get C0 fg_X5_27 hP 0 rfl rfl dX5_fail_1 ?_
  refine lv_if_ne (tgt := 17) hx hb dX5_fail_4 (by decide) (fun c234 => ?_) (fun c234 => ?_)
  · skip
    refine lv_aload_n hx hb dX5_fail_17 rfl (lv_at hl 0 rfl) ?_
    refine lv_aload_n hx hb dX5_fail_18 rfl (lv_at hl 0 rfl) ?_
    refine k_get C0 fg_X5_11 hP 0 rfl rfl dX5_fail_19 ?_
    refine k_put C0 fp_X5_15 hP hD hS 0 rfl rfl rfl (Nat.le_of_ble_eq_true rfl) dX5_fail_22 (fun H locs hP hD hS => ?_)
    have hP : va_P (dC, dI) vwCl [(a_this, .inr (5, [.ref a_this_text, .int x_this_length, .int x_this_length, .int x_this_behind, .int x_this_sort, .int x_this_allowed, .ref a_this_plan, .int x_this_fault, .int x_this_place]))] H := hP
    have hD : va_D A [(a_this, .inr (5, [.ref a_this_text, .int x_this_length, .int x_this_length, .int x_this_behind, .int x_this_sort, .int x_this_allowed, .ref a_this_plan, .int x_this_fault, .int x_this_place]))] := hD
    refine lv_aload_n hx hb dX5_fail_25 rfl (lv_at hl 0 rfl) ?_
    refine lv_aload_n hx hb dX5_fail_26 rfl (lv_at hl 0 rfl) ?_
    refine k_get C0 fg_X5_11 hP 0 rfl rfl dX5_fail_27 ?_
    refine k_put C0 fp_X5_18 hP hD hS 0 rfl rfl rfl (Nat.le_of_ble_eq_true rfl) dX5_fail_30 (fun H locs hP hD hS => ?_)
    have hP : va_P (dC, dI) vwCl [(a_this, .inr (5, [.ref a_this_text, .int x_this_length, .int x_this_length, .int x_this_length, .int x_this_sort, .int x_this_allowed, .ref a_this_plan, .int x_this_fault, .int x_this_place]))] H := hP
    have hD : va_D A [(a_this, .inr (5, [.ref a_this_text, .int x_this_length, .int x_this_length, .int x_this_length, .int x_this_sort, .int x_this_allowed, .ref a_this_plan, .int x_this_fault, .int x_this_place]))] := hD
    refine lv_aload_n hx hb dX5_fail_33 rfl (lv_at hl 0 rfl) ?_
    refine lv_iconst (v := 0) hx hb dX5_fail_34 (by decide) ?_
    refine k_put C0 fp_X5_21 hP hD hS 0 rfl rfl rfl (Nat.le_of_ble_eq_true rfl) dX5_fail_35 (fun H locs hP hD hS => ?_)
    have hP : va_P (dC, dI) vwCl [(a_this, .inr (5, [.ref a_this_text, .int x_this_length, .int x_this_length, .int x_this_length, .int 0, .int x_this_allowed, .ref a_this_plan, .int x_this_fault, .int x_this_place]))] H := hP
    have hD : va_D A [(a_this, .inr (5, [.ref a_this_text, .int x_this_length, .int x_this_length, .int x_this_length, .int 0, .int x_this_allowed, .ref a_this_plan, .int x_this_fault, .int x_this_place]))] := hD
    exact k_vret hx hb hr hlk ((x_this_length, x_this_length, 0, x_this_fault, x_this_place)) hS ⟨ib_w 0 1600 hx_this_length (by decide), ib_w 0 1600 hx_this_length (by decide), ib_w 0 4 (ib_c 0 0 0 (by decide)) (by decide)⟩ hP hD (Nat.le_of_ble_eq_true rfl) (Nat.le_of_ble_eq_true rfl) dX5_fail_38
  · have h235 := ib_eq (ib_any x_this_fault) (ib_c 0 0 0 (by decide)) c234
    have h236 : ib x_this_fault 0 0 := ib_w 0 0 h235.1 (by decide)
    refine lv_aload_n hx hb dX5_fail_7 rfl (lv_at hl 0 rfl) ?_
    refine lv_iload_n hx hb dX5_fail_8 rfl (lv_at hl 1 rfl) ?_
    refine k_put C0 fp_X5_27 hP hD hS 0 rfl rfl rfl (Nat.le_of_ble_eq_true rfl) dX5_fail_9 (fun H locs hP hD hS => ?_)
    have hP : va_P (dC, dI) vwCl [(a_this, .inr (5, [.ref a_this_text, .int x_this_length, .int x_this_at, .int x_this_behind, .int x_this_sort, .int x_this_allowed, .ref a_this_plan, .int p0, .int x_this_place]))] H := hP
    have hD : va_D A [(a_this, .inr (5, [.ref a_this_text, .int x_this_length, .int x_this_at, .int x_this_behind, .int x_this_sort, .int x_this_allowed, .ref a_this_plan, .int p0, .int x_this_place]))] := hD
    refine lv_aload_n hx hb dX5_fail_12 rfl (lv_at hl 0 rfl) ?_
    refine lv_iload_n hx hb dX5_fail_13 rfl (lv_at hl 2 rfl) ?_
    refine k_put C0 fp_X5_30 hP hD hS 0 rfl rfl rfl (Nat.le_of_ble_eq_true rfl) dX5_fail_14 (fun H locs hP hD hS => ?_)
    have hP : va_P (dC, dI) vwCl [(a_this, .inr (5, [.ref a_this_text, .int x_this_length, .int x_this_at, .int x_this_behind, .int x_this_sort, .int x_this_allowed, .ref a_this_plan, .int p0, .int p1]))] H := hP
    have hD : va_D A [(a_this, .inr (5, [.ref a_this_text, .int x_this_length, .int x_this_at, .int x_this_behind, .int x_this_sort, .int x_this_allowed, .ref a_this_plan, .int p0, .int p1]))] := hD
    refine lv_aload_n hx hb dX5_fail_17 rfl (lv_at hl 0 rfl) ?_
    refine lv_aload_n hx hb dX5_fail_18 rfl (lv_at hl 0 rfl) ?_
    refine k_get C0 fg_X5_11 hP 0 rfl rfl dX5_fail_19 ?_
    refine k_put C0 fp_X5_15 hP hD hS 0 rfl rfl rfl (Nat.le_of_ble_eq_true rfl) dX5_fail_22 (fun H locs hP hD hS => ?_)
    have hP : va_P (dC, dI) vwCl [(a_this, .inr (5, [.ref a_this_text, .int x_this_length, .int x_this_length, .int x_this_behind, .int x_this_sort, .int x_this_allowed, .ref a_this_plan, .int p0, .int p1]))] H := hP
    have hD : va_D A [(a_this, .inr (5, [.ref a_this_text, .int x_this_length, .int x_this_length, .int x_this_behind, .int x_this_sort, .int x_this_allowed, .ref a_this_plan, .int p0, .int p1]))] := hD
    refine lv_aload_n hx hb dX5_fail_25 rfl (lv_at hl 0 rfl) ?_
    refine lv_aload_n hx hb dX5_fail_26 rfl (lv_at hl 0 rfl) ?_
    refine k_get C0 fg_X5_11 hP 0 rfl rfl dX5_fail_27 ?_
    refine k_put C0 fp_X5_18 hP hD hS 0 rfl rfl rfl (Nat.le_of_ble_eq_true rfl) dX5_fail_30 (fun H locs hP hD hS => ?_)
    have hP : va_P (dC, dI) vwCl [(a_this, .inr (5, [.ref a_this_text, .int x_this_length, .int x_this_length, .int x_this_length, .int x_this_sort, .int x_this_allowed, .ref a_this_plan, .int p0, .int p1]))] H := hP
    have hD : va_D A [(a_this, .inr (5, [.ref a_this_text, .int x_this_length, .int x_this_length, .int x_this_length, .int x_this_sort, .int x_this_allowed, .ref a_this_plan, .int p0, .int p1]))] := hD
    refine lv_aload_n hx hb dX5_fail_33 rfl (lv_at hl 0 rfl) ?_
    refine lv_iconst (v := 0) hx hb dX5_fail_34 (by decide) ?_
    refine k_put C0 fp_X5_21 hP hD hS 0 rfl rfl rfl (Nat.le_of_ble_eq_true rfl) dX5_fail_35 (fun H locs hP hD hS => ?_)
    have hP : va_P (dC, dI) vwCl [(a_this, .inr (5, [.ref a_this_text, .int x_this_length, .int x_this_length, .int x_this_length, .int 0, .int x_this_allowed, .ref a_this_plan, .int p0, .int p1]))] H := hP
    have hD : va_D A [(a_this, .inr (5, [.ref a_this_text, .int x_this_length, .int x_this_length, .int x_this_length, .int 0, .int x_this_allowed, .ref a_this_plan, .int p0, .int p1]))] := hD
    exact k_vret hx hb hr hlk ((x_this_length, x_this_length, 0, p0, p1)) hS ⟨ib_w 0 1600 hx_this_length (by decide), ib_w 0 1600 hx_this_length (by decide), ib_w 0 4 (ib_c 0 0 0 (by decide)) (by decide)⟩ hP hD (Nat.le_of_ble_eq_true rfl) (Nat.le_of_ble_eq_true rfl) dX5_fail_38
set_option maxHeartbeats 4000000 in
set_option maxRecDepth 100000 in
theorem s_X5_sortOf (l : Launch) (dC : Nat → ClassId) (dI : Nat → Nat → Nat) (cy : Nat → ClassId) (sq : Nat → Nat) (a_this : Nat) (a_this_text : Nat) (g_this_text : Nat → Int32) (x_this_length : Int32) (x_this_at : Int32) (x_this_behind : Int32) (x_this_sort : Int32) (x_this_allowed : Int32) (a_this_plan : Nat) (x_this_fault : Int32) (x_this_place : Int32) (p0 : Int32) (hg_this_text : ia g_this_text 1600 0 255) (hx_this_length : ib x_this_length 0 1600) (hx_this_at : ib x_this_at 0 1600) (hx_this_behind : ib x_this_behind 0 1600) (hx_this_sort : ib x_this_sort 0 4) : k_Met l yX5_sortOf cX5_sortOf 2 (some .int) { frames := 0, cells := 0, slots := 0, locals := 0 } dC dI cy sq [.ref a_this, .int p0] [(a_this, .inr (5, [.ref a_this_text, .int x_this_length, .int x_this_at, .int x_this_behind, .int x_this_sort, .int x_this_allowed, .ref a_this_plan, .int x_this_fault, .int x_this_place])), (a_this_text, .inl (cy 0, 1600, .inl g_this_text))] (k_Qi dC dI (fun (r : Int32) (_ : Unit) => ib r 0 3) (fun _ : Unit => [(a_this, .inr (5, [.ref a_this_text, .int x_this_length, .int x_this_at, .int x_this_behind, .int x_this_sort, .int x_this_allowed, .ref a_this_plan, .int x_this_fault, .int x_this_place])), (a_this_text, .inl (cy 0, 1600, .inl g_this_text))])) := by
  refine k_ofW (by decide +kernel) (Nat.le_of_ble_eq_true rfl) ?_
  intro p e s m below meth c A ls H locs C0 hr hlk hin hP hD hA hS hl
  have C0 : k_cx p s m _ c cX5_sortOf 2 RX5 dC dI cy sq := C0
  have hx := C0.1
  have hb := C0.2.1
  have hl : lv_has ls 2 [(0, .ref a_this), (1, .int p0)] := hl
  refine lv_iload_n hx hb dX5_sortOf_0 rfl (lv_at hl 1 rfl) ?_
  refine lv_if_lt (tgt := 12) hx hb dX5_sortOf_1 (by decide) (fun c289 => ?_) (fun c289 => ?_)
  · have h290 := ib_lt (ib_any p0) (ib_c 0 0 0 (by decide)) c289
    have h291 : ib p0 (-2147483648) (-1) := ib_w (-2147483648) (-1) h290.1 (by decide)
    refine lv_iconst (v := 0) hx hb dX5_sortOf_12 (by decide) ?_
    exact k_iret hx hb hr hlk rfl () hS (ib_w 0 3 (ib_c 0 0 0 (by decide)) (by decide)) hP hD (Nat.le_of_ble_eq_true rfl) (Nat.le_of_ble_eq_true rfl) dX5_sortOf_13
  · have h292 := ib_nlt (ib_any p0) (ib_c 0 0 0 (by decide)) c289
    have h293 : ib p0 0 2147483647 := ib_w 0 2147483647 h292.1 (by decide)
    refine lv_iload_n hx hb dX5_sortOf_4 rfl (lv_at hl 1 rfl) ?_
    refine lv_aload_n hx hb dX5_sortOf_5 rfl (lv_at hl 0 rfl) ?_
    refine k_get C0 fg_X5_11 hP 0 rfl rfl dX5_sortOf_6 ?_
    refine lv_icmp_lt (tgt := 14) hx hb dX5_sortOf_9 (by decide) (fun c294 => ?_) (fun c294 => ?_)
    · have h295 := ib_lt h293 hx_this_length c294
      have h296 : ib p0 0 1599 := ib_w 0 1599 h295.1 (by decide)
      have h297 : ib x_this_length 1 1600 := ib_w 1 1600 h295.2 (by decide)
      refine lv_aload_n hx hb dX5_sortOf_14 rfl (lv_at hl 0 rfl) ?_
      refine k_get C0 fg_X5_33 hP 0 rfl rfl dX5_sortOf_15 ?_
      refine lv_iload_n hx hb dX5_sortOf_18 rfl (lv_at hl 1 rfl) ?_
      refine va_iald hx hb C0.2.2.2.2.2.1 hP 1 0 rfl rfl (ib_in 1600 h296 (by decide)) dX5_sortOf_19 ?_
      refine lv_topi (fun z298 ez298 => ?_)
      have h299 : ib z298 0 255 := by rw [ez298]; exact ia_at hg_this_text (ib_in 1600 h296 (by decide))
      refine lv_bipush (v := 97) hx hb dX5_sortOf_20 (by decide) ?_
      refine lv_icmp_lt (tgt := 38) hx hb dX5_sortOf_22 (by decide) (fun c300 => ?_) (fun c300 => ?_)
      · have h301 := ib_lt h299 (ib_c 97 97 97 (by decide)) c300
        have h302 : ib z298 0 96 := ib_w 0 96 h301.1 (by decide)
        refine lv_aload_n hx hb dX5_sortOf_38 rfl (lv_at hl 0 rfl) ?_
        refine k_get C0 fg_X5_33 hP 0 rfl rfl dX5_sortOf_39 ?_
        refine lv_iload_n hx hb dX5_sortOf_42 rfl (lv_at hl 1 rfl) ?_
        refine va_iald hx hb C0.2.2.2.2.2.1 hP 1 0 rfl rfl (ib_in 1600 h296 (by decide)) dX5_sortOf_43 ?_
        refine lv_topi (fun z303 ez303 => ?_)
        have h304 : ib z303 0 255 := by rw [ez303]; exact ia_at hg_this_text (ib_in 1600 h296 (by decide))
        refine lv_bipush (v := 48) hx hb dX5_sortOf_44 (by decide) ?_
        refine lv_icmp_lt (tgt := 64) hx hb dX5_sortOf_46 (by decide) (fun c305 => ?_) (fun c305 => ?_)
        · have h306 := ib_lt h304 (ib_c 48 48 48 (by decide)) c305
          have h307 : ib z303 0 47 := ib_w 0 47 h306.1 (by decide)
          refine lv_iconst (v := 3) hx hb dX5_sortOf_64 (by decide) ?_
          exact k_iret hx hb hr hlk rfl () hS (ib_w 0 3 (ib_c 3 3 3 (by decide)) (by decide)) hP hD (Nat.le_of_ble_eq_true rfl) (Nat.le_of_ble_eq_true rfl) dX5_sortOf_65
        · have h308 := ib_nlt h304 (ib_c 48 48 48 (by decide)) c305
          have h309 : ib z303 48 255 := ib_w 48 255 h308.1 (by decide)
          refine lv_aload_n hx hb dX5_sortOf_49 rfl (lv_at hl 0 rfl) ?_
          refine k_get C0 fg_X5_33 hP 0 rfl rfl dX5_sortOf_50 ?_
          refine lv_iload_n hx hb dX5_sortOf_53 rfl (lv_at hl 1 rfl) ?_
          refine va_iald hx hb C0.2.2.2.2.2.1 hP 1 0 rfl rfl (ib_in 1600 h296 (by decide)) dX5_sortOf_54 ?_
          refine lv_topi (fun z310 ez310 => ?_)
          have h311 : ib z310 0 255 := by rw [ez310]; exact ia_at hg_this_text (ib_in 1600 h296 (by decide))
          refine lv_bipush (v := 57) hx hb dX5_sortOf_55 (by decide) ?_
          refine lv_icmp_gt (tgt := 64) hx hb dX5_sortOf_57 (by decide) (fun c312 => ?_) (fun c312 => ?_)
          · have h313 := ib_lt (ib_c 57 57 57 (by decide)) h311 c312
            have h314 : ib z310 58 255 := ib_w 58 255 h313.2 (by decide)
            refine lv_iconst (v := 3) hx hb dX5_sortOf_64 (by decide) ?_
            exact k_iret hx hb hr hlk rfl () hS (ib_w 0 3 (ib_c 3 3 3 (by decide)) (by decide)) hP hD (Nat.le_of_ble_eq_true rfl) (Nat.le_of_ble_eq_true rfl) dX5_sortOf_65
          · have h315 := ib_nlt (ib_c 57 57 57 (by decide)) h311 c312
            have h316 : ib z310 0 57 := ib_w 0 57 h315.2 (by decide)
            refine lv_iconst (v := 2) hx hb dX5_sortOf_60 (by decide) ?_
            refine lv_goto (tgt := 65) hx hb dX5_sortOf_61 (by decide) ?_
            exact k_iret hx hb hr hlk rfl () hS (ib_w 0 3 (ib_c 2 2 2 (by decide)) (by decide)) hP hD (Nat.le_of_ble_eq_true rfl) (Nat.le_of_ble_eq_true rfl) dX5_sortOf_65
      · have h317 := ib_nlt h299 (ib_c 97 97 97 (by decide)) c300
        have h318 : ib z298 97 255 := ib_w 97 255 h317.1 (by decide)
        refine lv_aload_n hx hb dX5_sortOf_25 rfl (lv_at hl 0 rfl) ?_
        refine k_get C0 fg_X5_33 hP 0 rfl rfl dX5_sortOf_26 ?_
        refine lv_iload_n hx hb dX5_sortOf_29 rfl (lv_at hl 1 rfl) ?_
        refine va_iald hx hb C0.2.2.2.2.2.1 hP 1 0 rfl rfl (ib_in 1600 h296 (by decide)) dX5_sortOf_30 ?_
        refine lv_topi (fun z319 ez319 => ?_)
        have h320 : ib z319 0 255 := by rw [ez319]; exact ia_at hg_this_text (ib_in 1600 h296 (by decide))
        refine lv_bipush (v := 122) hx hb dX5_sortOf_31 (by decide) ?_
        refine lv_icmp_gt (tgt := 38) hx hb dX5_sortOf_33 (by decide) (fun c321 => ?_) (fun c321 => ?_)
        · have h322 := ib_lt (ib_c 122 122 122 (by decide)) h320 c321
          have h323 : ib z319 123 255 := ib_w 123 255 h322.2 (by decide)
          refine lv_aload_n hx hb dX5_sortOf_38 rfl (lv_at hl 0 rfl) ?_
          refine k_get C0 fg_X5_33 hP 0 rfl rfl dX5_sortOf_39 ?_
          refine lv_iload_n hx hb dX5_sortOf_42 rfl (lv_at hl 1 rfl) ?_
          refine va_iald hx hb C0.2.2.2.2.2.1 hP 1 0 rfl rfl (ib_in 1600 h296 (by decide)) dX5_sortOf_43 ?_
          refine lv_topi (fun z324 ez324 => ?_)
          have h325 : ib z324 0 255 := by rw [ez324]; exact ia_at hg_this_text (ib_in 1600 h296 (by decide))
          refine lv_bipush (v := 48) hx hb dX5_sortOf_44 (by decide) ?_
          refine lv_icmp_lt (tgt := 64) hx hb dX5_sortOf_46 (by decide) (fun c326 => ?_) (fun c326 => ?_)
          · have h327 := ib_lt h325 (ib_c 48 48 48 (by decide)) c326
            have h328 : ib z324 0 47 := ib_w 0 47 h327.1 (by decide)
            refine lv_iconst (v := 3) hx hb dX5_sortOf_64 (by decide) ?_
            exact k_iret hx hb hr hlk rfl () hS (ib_w 0 3 (ib_c 3 3 3 (by decide)) (by decide)) hP hD (Nat.le_of_ble_eq_true rfl) (Nat.le_of_ble_eq_true rfl) dX5_sortOf_65
          · have h329 := ib_nlt h325 (ib_c 48 48 48 (by decide)) c326
            have h330 : ib z324 48 255 := ib_w 48 255 h329.1 (by decide)
            refine lv_aload_n hx hb dX5_sortOf_49 rfl (lv_at hl 0 rfl) ?_
            refine k_get C0 fg_X5_33 hP 0 rfl rfl dX5_sortOf_50 ?_
            refine lv_iload_n hx hb dX5_sortOf_53 rfl (lv_at hl 1 rfl) ?_
            refine va_iald hx hb C0.2.2.2.2.2.1 hP 1 0 rfl rfl (ib_in 1600 h296 (by decide)) dX5_sortOf_54 ?_
            refine lv_topi (fun z331 ez331 => ?_)
            have h332 : ib z331 0 255 := by rw [ez331]; exact ia_at hg_this_text (ib_in 1600 h296 (by decide))
            refine lv_bipush (v := 57) hx hb dX5_sortOf_55 (by decide) ?_
            refine lv_icmp_gt (tgt := 64) hx hb dX5_sortOf_57 (by decide) (fun c333 => ?_) (fun c333 => ?_)
            · have h334 := ib_lt (ib_c 57 57 57 (by decide)) h332 c333
              have h335 : ib z331 58 255 := ib_w 58 255 h334.2 (by decide)
              refine lv_iconst (v := 3) hx hb dX5_sortOf_64 (by decide) ?_
              exact k_iret hx hb hr hlk rfl () hS (ib_w 0 3 (ib_c 3 3 3 (by decide)) (by decide)) hP hD (Nat.le_of_ble_eq_true rfl) (Nat.le_of_ble_eq_true rfl) dX5_sortOf_65
            · have h336 := ib_nlt (ib_c 57 57 57 (by decide)) h332 c333
              have h337 : ib z331 0 57 := ib_w 0 57 h336.2 (by decide)
              refine lv_iconst (v := 2) hx hb dX5_sortOf_60 (by decide) ?_
              refine lv_goto (tgt := 65) hx hb dX5_sortOf_61 (by decide) ?_
              exact k_iret hx hb hr hlk rfl () hS (ib_w 0 3 (ib_c 2 2 2 (by decide)) (by decide)) hP hD (Nat.le_of_ble_eq_true rfl) (Nat.le_of_ble_eq_true rfl) dX5_sortOf_65
        · have h338 := ib_nlt (ib_c 122 122 122 (by decide)) h320 c321
          have h339 : ib z319 0 122 := ib_w 0 122 h338.2 (by decide)
          refine lv_iconst (v := 1) hx hb dX5_sortOf_36 (by decide) ?_
          exact k_iret hx hb hr hlk rfl () hS (ib_w 0 3 (ib_c 1 1 1 (by decide)) (by decide)) hP hD (Nat.le_of_ble_eq_true rfl) (Nat.le_of_ble_eq_true rfl) dX5_sortOf_37
    · have h340 := ib_nlt h293 hx_this_length c294
      refine lv_iconst (v := 0) hx hb dX5_sortOf_12 (by decide) ?_
      exact k_iret hx hb hr hlk rfl () hS (ib_w 0 3 (ib_c 0 0 0 (by decide)) (by decide)) hP hD (Nat.le_of_ble_eq_true rfl) (Nat.le_of_ble_eq_true rfl) dX5_sortOf_13
set_option maxHeartbeats 4000000 in
set_option maxRecDepth 100000 in
theorem s_X5_emit (l : Launch) (dC : Nat → ClassId) (dI : Nat → Nat → Nat) (cy : Nat → ClassId) (sq : Nat → Nat) (a_this : Nat) (a_this_text : Nat) (x_this_length : Int32) (x_this_at : Int32) (x_this_behind : Int32) (x_this_sort : Int32) (x_this_allowed : Int32) (a_this_plan : Nat) (x_this_plan_cycle : Int32) (x_this_plan_green : Int32) (x_this_plan_rule : Int32) (x_this_plan_least : Int32) (x_this_plan_away : Int32) (x_this_plan_statements : Int32) (x_this_plan_kinds : Int32) (a_this_plan_calm : Nat) (a_this_plan_pace : Nat) (a_this_plan_trusts : Nat) (x_this_plan_walkers : Int32) (a_this_plan_kindOf : Nat) (a_this_plan_comesAt : Nat) (a_this_plan_comers : Nat) (a_this_plan_names : Nat) (a_this_plan_code : Nat) (g_this_plan_code : Nat → Int32) (x_this_plan_size : Int32) (a_this_plan_spans : Nat) (x_this_fault : Int32) (x_this_place : Int32) (p0 : Int32) (hx_this_length : ib x_this_length 0 1600) (hx_this_at : ib x_this_at 0 1600) (hx_this_behind : ib x_this_behind 0 1600) (hx_this_sort : ib x_this_sort 0 4) (hx_this_plan_cycle : ib x_this_plan_cycle 0 120) (hx_this_plan_least : ib x_this_plan_least 0 99) (hx_this_plan_statements : ib x_this_plan_statements 0 81) (hx_this_plan_kinds : ib x_this_plan_kinds 0 6) (hx_this_plan_walkers : ib x_this_plan_walkers 0 12) (hx_this_plan_size : ib x_this_plan_size 0 1600) : k_Met l yX5_emit cX5_emit 2 none { frames := 0, cells := 0, slots := 0, locals := 0 } dC dI cy sq [.ref a_this, .int p0] [(a_this, .inr (5, [.ref a_this_text, .int x_this_length, .int x_this_at, .int x_this_behind, .int x_this_sort, .int x_this_allowed, .ref a_this_plan, .int x_this_fault, .int x_this_place])), (a_this_plan, .inr (4, [.int x_this_plan_cycle, .int x_this_plan_green, .int x_this_plan_rule, .int x_this_plan_least, .int x_this_plan_away, .int x_this_plan_statements, .int x_this_plan_kinds, .ref a_this_plan_calm, .ref a_this_plan_pace, .ref a_this_plan_trusts, .int x_this_plan_walkers, .ref a_this_plan_kindOf, .ref a_this_plan_comesAt, .ref a_this_plan_comers, .ref a_this_plan_names, .ref a_this_plan_code, .int x_this_plan_size, .ref a_this_plan_spans])), (a_this_plan_code, .inl (cy 0, 1600, .inl g_this_plan_code))] (k_Qv dC dI (fun (u : Int32 × (Nat → Int32)) => match u with | (n0, n1) => ib n0 0 1600) (fun u : Int32 × (Nat → Int32) => match u with | (n0, n1) => [(a_this, .inr (5, [.ref a_this_text, .int x_this_length, .int x_this_at, .int x_this_behind, .int x_this_sort, .int x_this_allowed, .ref a_this_plan, .int x_this_fault, .int x_this_place])), (a_this_plan, .inr (4, [.int x_this_plan_cycle, .int x_this_plan_green, .int x_this_plan_rule, .int x_this_plan_least, .int x_this_plan_away, .int x_this_plan_statements, .int x_this_plan_kinds, .ref a_this_plan_calm, .ref a_this_plan_pace, .ref a_this_plan_trusts, .int x_this_plan_walkers, .ref a_this_plan_kindOf, .ref a_this_plan_comesAt, .ref a_this_plan_comers, .ref a_this_plan_names, .ref a_this_plan_code, .int n0, .ref a_this_plan_spans])), (a_this_plan_code, .inl (cy 0, 1600, .inl n1))])) := by
  refine k_ofW (by decide +kernel) (Nat.le_of_ble_eq_true rfl) ?_
  intro p e s m below meth c A ls H locs C0 hr hlk hin hP hD hA hS hl
  have C0 : k_cx p s m _ c cX5_emit 2 RX5 dC dI cy sq := C0
  have hx := C0.1
  have hb := C0.2.1
  have hl : lv_has ls 2 [(0, .ref a_this), (1, .int p0)] := hl
  refine lv_aload_n hx hb dX5_emit_0 rfl (lv_at hl 0 rfl) ?_
  refine k_get C0 fg_X5_37 hP 0 rfl rfl dX5_emit_1 ?_
  refine k_get C0 fg_X5_165 hP 1 rfl rfl dX5_emit_4 ?_
  refine lv_aload_n hx hb dX5_emit_7 rfl (lv_at hl 0 rfl) ?_
  refine k_get C0 fg_X5_37 hP 0 rfl rfl dX5_emit_8 ?_
  refine k_get C0 fg_X5_241 hP 1 rfl rfl dX5_emit_11 ?_
  refine va_alen hx hb C0.2.2.2.2.2.1 hP 2 0 rfl rfl (v := 1600) (by decide) dX5_emit_14 ?_
  refine lv_icmp_ge (tgt := 47) hx hb dX5_emit_15 (by decide) (fun c350 => ?_) (fun c350 => ?_)
  · have h351 := ib_le (ib_c 1600 1600 1600 (by decide)) hx_this_plan_size c350
    have h352 : ib x_this_plan_size 1600 1600 := ib_w 1600 1600 h351.2 (by decide)
    exact k_vret hx hb hr hlk ((x_this_plan_size, g_this_plan_code)) hS (ib_w 0 1600 h352 (by decide)) hP hD (Nat.le_of_ble_eq_true rfl) (Nat.le_of_ble_eq_true rfl) dX5_emit_47
  · have h353 := ib_nle (ib_c 1600 1600 1600 (by decide)) hx_this_plan_size c350
    have h354 : ib x_this_plan_size 0 1599 := ib_w 0 1599 h353.2 (by decide)
    refine lv_aload_n hx hb dX5_emit_18 rfl (lv_at hl 0 rfl) ?_
    refine k_get C0 fg_X5_37 hP 0 rfl rfl dX5_emit_19 ?_
    refine k_get C0 fg_X5_241 hP 1 rfl rfl dX5_emit_22 ?_
    refine lv_aload_n hx hb dX5_emit_25 rfl (lv_at hl 0 rfl) ?_
    refine k_get C0 fg_X5_37 hP 0 rfl rfl dX5_emit_26 ?_
    refine k_get C0 fg_X5_165 hP 1 rfl rfl dX5_emit_29 ?_
    refine lv_iload_n hx hb dX5_emit_32 rfl (lv_at hl 1 rfl) ?_
    refine va_iast hx hb C0.2.2.2.2.2.1 hP hD hS 2 0 rfl rfl (ib_in 1600 h354 (by decide)) dX5_emit_33 (fun H locs hP hD hS => ?_)
    have hP : va_P (dC, dI) vwCl [(a_this, .inr (5, [.ref a_this_text, .int x_this_length, .int x_this_at, .int x_this_behind, .int x_this_sort, .int x_this_allowed, .ref a_this_plan, .int x_this_fault, .int x_this_place])), (a_this_plan, .inr (4, [.int x_this_plan_cycle, .int x_this_plan_green, .int x_this_plan_rule, .int x_this_plan_least, .int x_this_plan_away, .int x_this_plan_statements, .int x_this_plan_kinds, .ref a_this_plan_calm, .ref a_this_plan_pace, .ref a_this_plan_trusts, .int x_this_plan_walkers, .ref a_this_plan_kindOf, .ref a_this_plan_comesAt, .ref a_this_plan_comers, .ref a_this_plan_names, .ref a_this_plan_code, .int x_this_plan_size, .ref a_this_plan_spans])), (a_this_plan_code, .inl (cy 0, 1600, .inl (upd g_this_plan_code (Int32.toNatClampNeg x_this_plan_size) p0)))] H := hP
    have hD : va_D A [(a_this, .inr (5, [.ref a_this_text, .int x_this_length, .int x_this_at, .int x_this_behind, .int x_this_sort, .int x_this_allowed, .ref a_this_plan, .int x_this_fault, .int x_this_place])), (a_this_plan, .inr (4, [.int x_this_plan_cycle, .int x_this_plan_green, .int x_this_plan_rule, .int x_this_plan_least, .int x_this_plan_away, .int x_this_plan_statements, .int x_this_plan_kinds, .ref a_this_plan_calm, .ref a_this_plan_pace, .ref a_this_plan_trusts, .int x_this_plan_walkers, .ref a_this_plan_kindOf, .ref a_this_plan_comesAt, .ref a_this_plan_comers, .ref a_this_plan_names, .ref a_this_plan_code, .int x_this_plan_size, .ref a_this_plan_spans])), (a_this_plan_code, .inl (cy 0, 1600, .inl (upd g_this_plan_code (Int32.toNatClampNeg x_this_plan_size) p0)))] := hD
    generalize upd g_this_plan_code (Int32.toNatClampNeg x_this_plan_size) p0 = f355 at hP hD
    refine lv_aload_n hx hb dX5_emit_34 rfl (lv_at hl 0 rfl) ?_
    refine k_get C0 fg_X5_37 hP 0 rfl rfl dX5_emit_35 ?_
    refine lv_dup hx hb dX5_emit_38 rfl ?_
    refine k_get C0 fg_X5_165 hP 1 rfl rfl dX5_emit_39 ?_
    refine lv_iconst (v := 1) hx hb dX5_emit_42 (by decide) ?_
    refine lv_iadd hx hb dX5_emit_43 ?_
    refine lv_topi (fun z356 ez356 => ?_)
    have h357 := ib_add h354 (ib_c 1 1 1 (by decide)) (by decide)
    rw [← ez356] at h357
    have h358 : ib z356 1 1600 := ib_w 1 1600 h357.1 (by decide)
    refine k_put C0 fp_X5_165 hP hD hS 1 rfl rfl rfl (Nat.le_of_ble_eq_true rfl) dX5_emit_44 (fun H locs hP hD hS => ?_)
    have hP : va_P (dC, dI) vwCl [(a_this, .inr (5, [.ref a_this_text, .int x_this_length, .int x_this_at, .int x_this_behind, .int x_this_sort, .int x_this_allowed, .ref a_this_plan, .int x_this_fault, .int x_this_place])), (a_this_plan, .inr (4, [.int x_this_plan_cycle, .int x_this_plan_green, .int x_this_plan_rule, .int x_this_plan_least, .int x_this_plan_away, .int x_this_plan_statements, .int x_this_plan_kinds, .ref a_this_plan_calm, .ref a_this_plan_pace, .ref a_this_plan_trusts, .int x_this_plan_walkers, .ref a_this_plan_kindOf, .ref a_this_plan_comesAt, .ref a_this_plan_comers, .ref a_this_plan_names, .ref a_this_plan_code, .int z356, .ref a_this_plan_spans])), (a_this_plan_code, .inl (cy 0, 1600, .inl f355))] H := hP
    have hD : va_D A [(a_this, .inr (5, [.ref a_this_text, .int x_this_length, .int x_this_at, .int x_this_behind, .int x_this_sort, .int x_this_allowed, .ref a_this_plan, .int x_this_fault, .int x_this_place])), (a_this_plan, .inr (4, [.int x_this_plan_cycle, .int x_this_plan_green, .int x_this_plan_rule, .int x_this_plan_least, .int x_this_plan_away, .int x_this_plan_statements, .int x_this_plan_kinds, .ref a_this_plan_calm, .ref a_this_plan_pace, .ref a_this_plan_trusts, .int x_this_plan_walkers, .ref a_this_plan_kindOf, .ref a_this_plan_comesAt, .ref a_this_plan_comers, .ref a_this_plan_names, .ref a_this_plan_code, .int z356, .ref a_this_plan_spans])), (a_this_plan_code, .inl (cy 0, 1600, .inl f355))] := hD
    exact k_vret hx hb hr hlk ((z356, f355)) hS (ib_w 0 1600 h358 (by decide)) hP hD (Nat.le_of_ble_eq_true rfl) (Nat.le_of_ble_eq_true rfl) dX5_emit_47
set_option maxHeartbeats 4000000 in
set_option maxRecDepth 100000 in
theorem s_X9_fault (l : Launch) (dC : Nat → ClassId) (dI : Nat → Nat → Nat) (cy : Nat → ClassId) (sq : Nat → Nat) (a_this : Nat) (a_this_tape : Nat) (x_this_tapeSize : Int32) (a_this_plan : Nat) (a_this_spare : Nat) (a_this_now : Nat) (a_this_history : Nat) (a_this_machine : Nat) (a_this_reader : Nat) (x_this_reader_length : Int32) (x_this_reader_at : Int32) (x_this_reader_behind : Int32) (x_this_reader_sort : Int32) (x_this_reader_allowed : Int32) (x_this_reader_fault : Int32) (x_this_reader_place : Int32) (a_this_street : Nat) (a_this_choice : Nat) (a_this_ahead : Nat) (a_this_watch : Nat) (a_this_octets : Nat) (x_this_octetCount : Int32) (a_this_refusals : Nat) (x_this_drawn : Int64) (p0 : Int32) (hx_this_tapeSize : ib x_this_tapeSize 0 1600) (hx_this_reader_length : ib x_this_reader_length 0 1600) (hx_this_reader_at : ib x_this_reader_at 0 1600) (hx_this_reader_behind : ib x_this_reader_behind 0 1600) (hx_this_reader_sort : ib x_this_reader_sort 0 4) (hx_this_octetCount : ib x_this_octetCount 0 11) : k_Met l yX9_fault cX9_fault 2 (some .int) { frames := 0, cells := 0, slots := 0, locals := 0 } dC dI cy sq [.ref a_this, .int p0] [(a_this, .inr (9, [.ref a_this_tape, .int x_this_tapeSize, .ref a_this_plan, .ref a_this_spare, .ref a_this_now, .ref a_this_history, .ref a_this_machine, .ref a_this_reader, .ref a_this_street, .ref a_this_choice, .ref a_this_ahead, .ref a_this_watch, .ref a_this_octets, .int x_this_octetCount, .ref a_this_refusals, .long x_this_drawn])), (a_this_reader, .inr (5, [.ref a_this_tape, .int x_this_reader_length, .int x_this_reader_at, .int x_this_reader_behind, .int x_this_reader_sort, .int x_this_reader_allowed, .ref a_this_spare, .int x_this_reader_fault, .int x_this_reader_place]))] (k_Qi dC dI (fun (r : Int32) (_ : Unit) => True) (fun _ : Unit => [(a_this, .inr (9, [.ref a_this_tape, .int x_this_tapeSize, .ref a_this_plan, .ref a_this_spare, .ref a_this_now, .ref a_this_history, .ref a_this_machine, .ref a_this_reader, .ref a_this_street, .ref a_this_choice, .ref a_this_ahead, .ref a_this_watch, .ref a_this_octets, .int x_this_octetCount, .ref a_this_refusals, .long x_this_drawn])), (a_this_reader, .inr (5, [.ref a_this_tape, .int x_this_reader_length, .int x_this_reader_at, .int x_this_reader_behind, .int x_this_reader_sort, .int x_this_reader_allowed, .ref a_this_spare, .int x_this_reader_fault, .int x_this_reader_place]))])) := by
  refine k_ofW (by decide +kernel) (Nat.le_of_ble_eq_true rfl) ?_
  intro p e s m below meth c A ls H locs C0 hr hlk hin hP hD hA hS hl
  have C0 : k_cx p s m _ c cX9_fault 2 RX9 dC dI cy sq := C0
  have hx := C0.1
  have hb := C0.2.1
  have hl : lv_has ls 2 [(0, .ref a_this), (1, .int p0)] := hl
  refine lv_iload_n hx hb dX9_fault_0 rfl (lv_at hl 1 rfl) ?_
  rcases Decidable.em (p0 = 0) with s360_0 | s360_0
  · subst s360_0
    refine lv_lookup (tgt := 28) hx hb dX9_fault_1 (by decide) rfl (by decide) ?_
    refine lv_aload_n hx hb dX9_fault_28 rfl (lv_at hl 0 rfl) ?_
    refine k_get C0 fg_X9_53 hP 0 rfl rfl dX9_fault_29 ?_
    refine k_get C0 fg_X9_122 hP 1 rfl rfl dX9_fault_32 ?_
    exact k_iret hx hb hr hlk rfl () hS True.intro hP hD (Nat.le_of_ble_eq_true rfl) (Nat.le_of_ble_eq_true rfl) dX9_fault_35
  rcases Decidable.em (p0 = 1) with s360_1 | s360_1
  · subst s360_1
    refine lv_lookup (tgt := 36) hx hb dX9_fault_1 (by decide) rfl (by decide) ?_
    refine lv_aload_n hx hb dX9_fault_36 rfl (lv_at hl 0 rfl) ?_
    refine k_get C0 fg_X9_53 hP 0 rfl rfl dX9_fault_37 ?_
    refine k_get C0 fg_X9_142 hP 1 rfl rfl dX9_fault_40 ?_
    exact k_iret hx hb hr hlk rfl () hS True.intro hP hD (Nat.le_of_ble_eq_true rfl) (Nat.le_of_ble_eq_true rfl) dX9_fault_43
  refine lv_lookup (tgt := 44) hx hb dX9_fault_1 (by decide) (off := 43) (k_look p0 s360_0 s360_1) (by decide) ?_
  refine lv_iconst (v := (-1)) hx hb dX9_fault_44 (by decide) ?_
  exact k_iret hx hb hr hlk rfl () hS True.intro hP hD (Nat.le_of_ble_eq_true rfl) (Nat.le_of_ble_eq_true rfl) dX9_fault_45
