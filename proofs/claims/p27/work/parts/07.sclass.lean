set_option maxHeartbeats 4000000 in
set_option maxRecDepth 100000 in
theorem s_X4_allowsGreen (l : Launch) (dC : Nat → ClassId) (dI : Nat → Nat → Nat) (cy : Nat → ClassId) (sq : Nat → Nat) (a_this : Nat) (x_this_cycle : Int32) (x_this_green : Int32) (x_this_rule : Int32) (x_this_least : Int32) (x_this_away : Int32) (x_this_statements : Int32) (x_this_kinds : Int32) (a_this_calm : Nat) (a_this_pace : Nat) (a_this_trusts : Nat) (x_this_walkers : Int32) (a_this_kindOf : Nat) (a_this_comesAt : Nat) (a_this_comers : Nat) (a_this_names : Nat) (a_this_code : Nat) (x_this_size : Int32) (a_this_spans : Nat) (p0 : Int32) (hx_this_cycle : ib x_this_cycle 0 120) (hx_this_least : ib x_this_least 0 99) (hx_this_statements : ib x_this_statements 0 81) (hx_this_kinds : ib x_this_kinds 0 6) (hx_this_walkers : ib x_this_walkers 0 12) (hx_this_size : ib x_this_size 0 1600) : k_Met l yX4_allowsGreen cX4_allowsGreen 2 (some .boolean) { frames := 0, cells := 0, slots := 0, locals := 0 } dC dI cy sq [.ref a_this, .int p0] [(a_this, .inr (4, [.int x_this_cycle, .int x_this_green, .int x_this_rule, .int x_this_least, .int x_this_away, .int x_this_statements, .int x_this_kinds, .ref a_this_calm, .ref a_this_pace, .ref a_this_trusts, .int x_this_walkers, .ref a_this_kindOf, .ref a_this_comesAt, .ref a_this_comers, .ref a_this_names, .ref a_this_code, .int x_this_size, .ref a_this_spans]))] (k_Qi dC dI (fun (r : Int32) (_ : Unit) => ib r 0 1) (fun _ : Unit => [(a_this, .inr (4, [.int x_this_cycle, .int x_this_green, .int x_this_rule, .int x_this_least, .int x_this_away, .int x_this_statements, .int x_this_kinds, .ref a_this_calm, .ref a_this_pace, .ref a_this_trusts, .int x_this_walkers, .ref a_this_kindOf, .ref a_this_comesAt, .ref a_this_comers, .ref a_this_names, .ref a_this_code, .int x_this_size, .ref a_this_spans]))])) := by
  refine k_ofW2 (by decide +kernel) (Nat.le_of_ble_eq_true rfl) ?_
  intro p e s m below meth c A ls H locs args Q hQ C0 hr hlk hin hP hD hA hS hl
  have C0 : k_cx p s m args c cX4_allowsGreen 2 RX4 dC dI cy sq := C0
  have hx := C0.1
  have hb := C0.2.1
  have hl : lv_has ls 2 [(0, .ref a_this), (1, .int p0)] := hl
  have jn24 : ∀ (J24_s0 : Int32) (H : Heap) (locs : List Loc) (ls : Array Slot), ib J24_s0 0 1 → va_P (dC, dI) vwCl [(a_this, .inr (4, [.int x_this_cycle, .int x_this_green, .int x_this_rule, .int x_this_least, .int x_this_away, .int x_this_statements, .int x_this_kinds, .ref a_this_calm, .ref a_this_pace, .ref a_this_trusts, .int x_this_walkers, .ref a_this_kindOf, .ref a_this_comesAt, .ref a_this_comers, .ref a_this_names, .ref a_this_code, .int x_this_size, .ref a_this_spans]))] H → va_D A [(a_this, .inr (4, [.int x_this_cycle, .int x_this_green, .int x_this_rule, .int x_this_least, .int x_this_away, .int x_this_statements, .int x_this_kinds, .ref a_this_calm, .ref a_this_pace, .ref a_this_trusts, .int x_this_walkers, .ref a_this_kindOf, .ref a_this_comesAt, .ref a_this_comers, .ref a_this_names, .ref a_this_code, .int x_this_size, .ref a_this_spans]))] → va_S A s.heap H locs → lv_has ls 2 [(0, .ref a_this), (1, .int p0)] → W p l e { frames := 0, cells := 0, slots := 0, locals := 0 } s m args below meth c H locs 0 0 Q (F0 m 24 ls [.int J24_s0]) := by
    intro J24_s0 H locs ls hJ24_s0 hP hD hS hl
    subst hQ; exact k_iret hx hb hr hlk (ib_bool (ib_w 0 1 hJ24_s0 (by decide))) () hS (ib_w 0 1 hJ24_s0 (by decide)) hP hD (Nat.le_of_ble_eq_true rfl) (Nat.le_of_ble_eq_true rfl) dX4_allowsGreen_24
  refine lv_iload_n hx hb dX4_allowsGreen_0 rfl (lv_at hl 1 rfl) ?_
  refine lv_iconst (v := 1) hx hb dX4_allowsGreen_1 (by decide) ?_
  refine lv_icmp_lt (tgt := 23) hx hb dX4_allowsGreen_2 (by decide) (fun c31 => ?_) (fun c31 => ?_)
  · have h32 := ib_lt (ib_any p0) (ib_c 1 1 1 (by decide)) c31
    have h33 : ib p0 (-2147483648) 0 := ib_w (-2147483648) 0 h32.1 (by decide)
    refine lv_iconst (v := 0) hx hb dX4_allowsGreen_23 (by decide) ?_
    exact jn24 0 H locs ls (ib_w 0 1 (ib_c 0 0 0 (by decide)) (by decide)) hP hD hS (lv_sub hl [0, 1] rfl)
  · have h34 := ib_nlt (ib_any p0) (ib_c 1 1 1 (by decide)) c31
    have h35 : ib p0 1 2147483647 := ib_w 1 2147483647 h34.1 (by decide)
    refine lv_iload_n hx hb dX4_allowsGreen_5 rfl (lv_at hl 1 rfl) ?_
    refine lv_bipush (v := 60) hx hb dX4_allowsGreen_6 (by decide) ?_
    refine lv_icmp_gt (tgt := 23) hx hb dX4_allowsGreen_8 (by decide) (fun c36 => ?_) (fun c36 => ?_)
    · have h37 := ib_lt (ib_c 60 60 60 (by decide)) h35 c36
      have h38 : ib p0 61 2147483647 := ib_w 61 2147483647 h37.2 (by decide)
      refine lv_iconst (v := 0) hx hb dX4_allowsGreen_23 (by decide) ?_
      exact jn24 0 H locs ls (ib_w 0 1 (ib_c 0 0 0 (by decide)) (by decide)) hP hD hS (lv_sub hl [0, 1] rfl)
    · have h39 := ib_nlt (ib_c 60 60 60 (by decide)) h35 c36
      have h40 : ib p0 1 60 := ib_w 1 60 h39.2 (by decide)
      refine lv_iload_n hx hb dX4_allowsGreen_11 rfl (lv_at hl 1 rfl) ?_
      refine lv_aload_n hx hb dX4_allowsGreen_12 rfl (lv_at hl 0 rfl) ?_
      refine k_get C0 fg_X4_39 hP 0 rfl rfl dX4_allowsGreen_13 ?_
      refine lv_icmp_ge (tgt := 23) hx hb dX4_allowsGreen_16 (by decide) (fun c41 => ?_) (fun c41 => ?_)
      · have h42 := ib_le hx_this_cycle h40 c41
        have h43 : ib x_this_cycle 0 60 := ib_w 0 60 h42.1 (by decide)
        refine lv_iconst (v := 0) hx hb dX4_allowsGreen_23 (by decide) ?_
        exact jn24 0 H locs ls (ib_w 0 1 (ib_c 0 0 0 (by decide)) (by decide)) hP hD hS (lv_sub hl [0, 1] rfl)
      · have h44 := ib_nle hx_this_cycle h40 c41
        have h45 : ib x_this_cycle 2 120 := ib_w 2 120 h44.1 (by decide)
        refine lv_iconst (v := 1) hx hb dX4_allowsGreen_19 (by decide) ?_
        refine lv_goto (tgt := 24) hx hb dX4_allowsGreen_20 (by decide) ?_
        exact jn24 1 H locs ls (ib_w 0 1 (ib_c 1 1 1 (by decide)) (by decide)) hP hD hS (lv_sub hl [0, 1] rfl)
set_option maxHeartbeats 4000000 in
set_option maxRecDepth 100000 in
theorem s_X4_comersIn (l : Launch) (dC : Nat → ClassId) (dI : Nat → Nat → Nat) (cy : Nat → ClassId) (sq : Nat → Nat) (a_this : Nat) (x_this_cycle : Int32) (x_this_green : Int32) (x_this_rule : Int32) (x_this_least : Int32) (x_this_away : Int32) (x_this_statements : Int32) (x_this_kinds : Int32) (a_this_calm : Nat) (a_this_pace : Nat) (a_this_trusts : Nat) (x_this_walkers : Int32) (a_this_kindOf : Nat) (a_this_comesAt : Nat) (a_this_comers : Nat) (g_this_comers : Nat → Int32) (a_this_names : Nat) (a_this_code : Nat) (x_this_size : Int32) (a_this_spans : Nat) (p0 : Int32) (hx_this_cycle : ib x_this_cycle 0 120) (hx_this_least : ib x_this_least 0 99) (hx_this_statements : ib x_this_statements 0 81) (hx_this_kinds : ib x_this_kinds 0 6) (hx_this_walkers : ib x_this_walkers 0 12) (hx_this_size : ib x_this_size 0 1600) : k_Met l yX4_comersIn cX4_comersIn 2 (some .int) { frames := 0, cells := 0, slots := 0, locals := 0 } dC dI cy sq [.ref a_this, .int p0] [(a_this, .inr (4, [.int x_this_cycle, .int x_this_green, .int x_this_rule, .int x_this_least, .int x_this_away, .int x_this_statements, .int x_this_kinds, .ref a_this_calm, .ref a_this_pace, .ref a_this_trusts, .int x_this_walkers, .ref a_this_kindOf, .ref a_this_comesAt, .ref a_this_comers, .ref a_this_names, .ref a_this_code, .int x_this_size, .ref a_this_spans])), (a_this_comers, .inl (cy 0, 200, .inl g_this_comers))] (k_Qi dC dI (fun (r : Int32) (_ : Unit) => True) (fun _ : Unit => [(a_this, .inr (4, [.int x_this_cycle, .int x_this_green, .int x_this_rule, .int x_this_least, .int x_this_away, .int x_this_statements, .int x_this_kinds, .ref a_this_calm, .ref a_this_pace, .ref a_this_trusts, .int x_this_walkers, .ref a_this_kindOf, .ref a_this_comesAt, .ref a_this_comers, .ref a_this_names, .ref a_this_code, .int x_this_size, .ref a_this_spans])), (a_this_comers, .inl (cy 0, 200, .inl g_this_comers))])) := by
  refine k_ofW2 (by decide +kernel) (Nat.le_of_ble_eq_true rfl) ?_
  intro p e s m below meth c A ls H locs args Q hQ C0 hr hlk hin hP hD hA hS hl
  have C0 : k_cx p s m args c cX4_comersIn 2 RX4 dC dI cy sq := C0
  have hx := C0.1
  have hb := C0.2.1
  have hl : lv_has ls 2 [(0, .ref a_this), (1, .int p0)] := hl
  have jn21 : ∀ (J21_s0 : Int32) (H : Heap) (locs : List Loc) (ls : Array Slot), va_P (dC, dI) vwCl [(a_this, .inr (4, [.int x_this_cycle, .int x_this_green, .int x_this_rule, .int x_this_least, .int x_this_away, .int x_this_statements, .int x_this_kinds, .ref a_this_calm, .ref a_this_pace, .ref a_this_trusts, .int x_this_walkers, .ref a_this_kindOf, .ref a_this_comesAt, .ref a_this_comers, .ref a_this_names, .ref a_this_code, .int x_this_size, .ref a_this_spans])), (a_this_comers, .inl (cy 0, 200, .inl g_this_comers))] H → va_D A [(a_this, .inr (4, [.int x_this_cycle, .int x_this_green, .int x_this_rule, .int x_this_least, .int x_this_away, .int x_this_statements, .int x_this_kinds, .ref a_this_calm, .ref a_this_pace, .ref a_this_trusts, .int x_this_walkers, .ref a_this_kindOf, .ref a_this_comesAt, .ref a_this_comers, .ref a_this_names, .ref a_this_code, .int x_this_size, .ref a_this_spans])), (a_this_comers, .inl (cy 0, 200, .inl g_this_comers))] → va_S A s.heap H locs → lv_has ls 2 [(0, .ref a_this), (1, .int p0)] → W p l e { frames := 0, cells := 0, slots := 0, locals := 0 } s m args below meth c H locs 0 0 Q (F0 m 21 ls [.int J21_s0]) := by
    intro J21_s0 H locs ls hP hD hS hl
    subst hQ; exact k_iret hx hb hr hlk rfl () hS True.intro hP hD (Nat.le_of_ble_eq_true rfl) (Nat.le_of_ble_eq_true rfl) dX4_comersIn_21
  refine lv_iload_n hx hb dX4_comersIn_0 rfl (lv_at hl 1 rfl) ?_
  refine lv_if_lt (tgt := 20) hx hb dX4_comersIn_1 (by decide) (fun c68 => ?_) (fun c68 => ?_)
  · have h69 := ib_lt (ib_any p0) (ib_c 0 0 0 (by decide)) c68
    have h70 : ib p0 (-2147483648) (-1) := ib_w (-2147483648) (-1) h69.1 (by decide)
    refine lv_iconst (v := 0) hx hb dX4_comersIn_20 (by decide) ?_
    exact jn21 0 H locs ls  hP hD hS (lv_sub hl [0, 1] rfl)
  · have h71 := ib_nlt (ib_any p0) (ib_c 0 0 0 (by decide)) c68
    have h72 : ib p0 0 2147483647 := ib_w 0 2147483647 h71.1 (by decide)
    refine lv_iload_n hx hb dX4_comersIn_4 rfl (lv_at hl 1 rfl) ?_
    refine lv_sipush (v := 200) hx hb dX4_comersIn_5 (by decide) ?_
    refine lv_icmp_ge (tgt := 20) hx hb dX4_comersIn_8 (by decide) (fun c73 => ?_) (fun c73 => ?_)
    · have h74 := ib_le (ib_c 200 200 200 (by decide)) h72 c73
      have h75 : ib p0 200 2147483647 := ib_w 200 2147483647 h74.2 (by decide)
      refine lv_iconst (v := 0) hx hb dX4_comersIn_20 (by decide) ?_
      exact jn21 0 H locs ls  hP hD hS (lv_sub hl [0, 1] rfl)
    · have h76 := ib_nle (ib_c 200 200 200 (by decide)) h72 c73
      have h77 : ib p0 0 199 := ib_w 0 199 h76.2 (by decide)
      refine lv_aload_n hx hb dX4_comersIn_11 rfl (lv_at hl 0 rfl) ?_
      refine k_get C0 fg_X4_27 hP 0 rfl rfl dX4_comersIn_12 ?_
      refine lv_iload_n hx hb dX4_comersIn_15 rfl (lv_at hl 1 rfl) ?_
      refine va_iald hx hb C0.2.2.2.2.2.1 hP 1 0 rfl rfl (ib_in 200 h77 (by decide)) dX4_comersIn_16 ?_
      refine lv_topi (fun z78 ez78 => ?_)
      refine lv_goto (tgt := 21) hx hb dX4_comersIn_17 (by decide) ?_
      exact jn21 z78 H locs ls  hP hD hS (lv_sub hl [0, 1] rfl)
set_option maxHeartbeats 4000000 in
set_option maxRecDepth 100000 in
theorem s_X4_everyone (l : Launch) (dC : Nat → ClassId) (dI : Nat → Nat → Nat) (cy : Nat → ClassId) (sq : Nat → Nat) (a_this : Nat) (x_this_cycle : Int32) (x_this_green : Int32) (x_this_rule : Int32) (x_this_least : Int32) (x_this_away : Int32) (x_this_statements : Int32) (x_this_kinds : Int32) (a_this_calm : Nat) (a_this_pace : Nat) (a_this_trusts : Nat) (x_this_walkers : Int32) (a_this_kindOf : Nat) (a_this_comesAt : Nat) (a_this_comers : Nat) (a_this_names : Nat) (a_this_code : Nat) (x_this_size : Int32) (a_this_spans : Nat) (hx_this_cycle : ib x_this_cycle 0 120) (hx_this_least : ib x_this_least 0 99) (hx_this_statements : ib x_this_statements 0 81) (hx_this_kinds : ib x_this_kinds 0 6) (hx_this_walkers : ib x_this_walkers 0 12) (hx_this_size : ib x_this_size 0 1600) : k_Met l yX4_everyone cX4_everyone 1 (some .int) { frames := 0, cells := 0, slots := 0, locals := 0 } dC dI cy sq [.ref a_this] [(a_this, .inr (4, [.int x_this_cycle, .int x_this_green, .int x_this_rule, .int x_this_least, .int x_this_away, .int x_this_statements, .int x_this_kinds, .ref a_this_calm, .ref a_this_pace, .ref a_this_trusts, .int x_this_walkers, .ref a_this_kindOf, .ref a_this_comesAt, .ref a_this_comers, .ref a_this_names, .ref a_this_code, .int x_this_size, .ref a_this_spans]))] (k_Qi dC dI (fun (r : Int32) (_ : Unit) => True) (fun _ : Unit => [(a_this, .inr (4, [.int x_this_cycle, .int x_this_green, .int x_this_rule, .int x_this_least, .int x_this_away, .int x_this_statements, .int x_this_kinds, .ref a_this_calm, .ref a_this_pace, .ref a_this_trusts, .int x_this_walkers, .ref a_this_kindOf, .ref a_this_comesAt, .ref a_this_comers, .ref a_this_names, .ref a_this_code, .int x_this_size, .ref a_this_spans]))])) := by
  refine k_ofW2 (by decide +kernel) (Nat.le_of_ble_eq_true rfl) ?_
  intro p e s m below meth c A ls H locs args Q hQ C0 hr hlk hin hP hD hA hS hl
  have C0 : k_cx p s m args c cX4_everyone 1 RX4 dC dI cy sq := C0
  have hx := C0.1
  have hb := C0.2.1
  have hl : lv_has ls 1 [(0, .ref a_this)] := hl
  refine lv_iconst (v := 1) hx hb dX4_everyone_0 (by decide) ?_
  refine lv_aload_n hx hb dX4_everyone_1 rfl (lv_at hl 0 rfl) ?_
  refine k_get C0 fg_X4_52 hP 0 rfl rfl dX4_everyone_2 ?_
  refine lv_ishl hx hb dX4_everyone_5 ?_
  refine lv_topi (fun z83 ez83 => ?_)
  refine lv_iconst (v := 1) hx hb dX4_everyone_6 (by decide) ?_
  refine lv_isub hx hb dX4_everyone_7 ?_
  refine lv_topi (fun z84 ez84 => ?_)
  subst hQ; exact k_iret hx hb hr hlk rfl () hS True.intro hP hD (Nat.le_of_ble_eq_true rfl) (Nat.le_of_ble_eq_true rfl) dX4_everyone_8
set_option maxHeartbeats 4000000 in
set_option maxRecDepth 100000 in
theorem s_X9_stands (l : Launch) (dC : Nat → ClassId) (dI : Nat → Nat → Nat) (cy : Nat → ClassId) (sq : Nat → Nat) (a_this : Nat) (a_this_tape : Nat) (x_this_tapeSize : Int32) (a_this_plan : Nat) (x_this_plan_cycle : Int32) (x_this_plan_green : Int32) (x_this_plan_rule : Int32) (x_this_plan_least : Int32) (x_this_plan_away : Int32) (x_this_plan_statements : Int32) (x_this_plan_kinds : Int32) (a_this_plan_calm : Nat) (a_this_plan_pace : Nat) (a_this_plan_trusts : Nat) (x_this_plan_walkers : Int32) (a_this_plan_kindOf : Nat) (a_this_plan_comesAt : Nat) (a_this_plan_comers : Nat) (a_this_plan_names : Nat) (a_this_plan_code : Nat) (x_this_plan_size : Int32) (a_this_plan_spans : Nat) (a_this_spare : Nat) (a_this_now : Nat) (a_this_history : Nat) (a_this_machine : Nat) (a_this_reader : Nat) (a_this_street : Nat) (a_this_choice : Nat) (a_this_ahead : Nat) (a_this_watch : Nat) (a_this_octets : Nat) (x_this_octetCount : Int32) (a_this_refusals : Nat) (x_this_drawn : Int64) (hx_this_tapeSize : ib x_this_tapeSize 0 1600) (hx_this_plan_cycle : ib x_this_plan_cycle 0 120) (hx_this_plan_least : ib x_this_plan_least 0 99) (hx_this_plan_statements : ib x_this_plan_statements 0 81) (hx_this_plan_kinds : ib x_this_plan_kinds 0 6) (hx_this_plan_walkers : ib x_this_plan_walkers 0 12) (hx_this_plan_size : ib x_this_plan_size 0 1600) (hx_this_octetCount : ib x_this_octetCount 0 11) : k_Met l yX9_stands cX9_stands 1 (some .boolean) { frames := 0, cells := 0, slots := 0, locals := 0 } dC dI cy sq [.ref a_this] [(a_this, .inr (9, [.ref a_this_tape, .int x_this_tapeSize, .ref a_this_plan, .ref a_this_spare, .ref a_this_now, .ref a_this_history, .ref a_this_machine, .ref a_this_reader, .ref a_this_street, .ref a_this_choice, .ref a_this_ahead, .ref a_this_watch, .ref a_this_octets, .int x_this_octetCount, .ref a_this_refusals, .long x_this_drawn])), (a_this_plan, .inr (4, [.int x_this_plan_cycle, .int x_this_plan_green, .int x_this_plan_rule, .int x_this_plan_least, .int x_this_plan_away, .int x_this_plan_statements, .int x_this_plan_kinds, .ref a_this_plan_calm, .ref a_this_plan_pace, .ref a_this_plan_trusts, .int x_this_plan_walkers, .ref a_this_plan_kindOf, .ref a_this_plan_comesAt, .ref a_this_plan_comers, .ref a_this_plan_names, .ref a_this_plan_code, .int x_this_plan_size, .ref a_this_plan_spans]))] (k_Qi dC dI (fun (r : Int32) (_ : Unit) => ib r 0 1) (fun _ : Unit => [(a_this, .inr (9, [.ref a_this_tape, .int x_this_tapeSize, .ref a_this_plan, .ref a_this_spare, .ref a_this_now, .ref a_this_history, .ref a_this_machine, .ref a_this_reader, .ref a_this_street, .ref a_this_choice, .ref a_this_ahead, .ref a_this_watch, .ref a_this_octets, .int x_this_octetCount, .ref a_this_refusals, .long x_this_drawn])), (a_this_plan, .inr (4, [.int x_this_plan_cycle, .int x_this_plan_green, .int x_this_plan_rule, .int x_this_plan_least, .int x_this_plan_away, .int x_this_plan_statements, .int x_this_plan_kinds, .ref a_this_plan_calm, .ref a_this_plan_pace, .ref a_this_plan_trusts, .int x_this_plan_walkers, .ref a_this_plan_kindOf, .ref a_this_plan_comesAt, .ref a_this_plan_comers, .ref a_this_plan_names, .ref a_this_plan_code, .int x_this_plan_size, .ref a_this_plan_spans]))])) := by
  refine k_ofW2 (by decide +kernel) (Nat.le_of_ble_eq_true rfl) ?_
  intro p e s m below meth c A ls H locs args Q hQ C0 hr hlk hin hP hD hA hS hl
  have C0 : k_cx p s m args c cX9_stands 1 RX9 dC dI cy sq := C0
  have hx := C0.1
  have hb := C0.2.1
  have hl : lv_has ls 1 [(0, .ref a_this)] := hl
  have jn15 : ∀ (J15_s0 : Int32) (H : Heap) (locs : List Loc) (ls : Array Slot), ib J15_s0 0 1 → va_P (dC, dI) vwCl [(a_this, .inr (9, [.ref a_this_tape, .int x_this_tapeSize, .ref a_this_plan, .ref a_this_spare, .ref a_this_now, .ref a_this_history, .ref a_this_machine, .ref a_this_reader, .ref a_this_street, .ref a_this_choice, .ref a_this_ahead, .ref a_this_watch, .ref a_this_octets, .int x_this_octetCount, .ref a_this_refusals, .long x_this_drawn])), (a_this_plan, .inr (4, [.int x_this_plan_cycle, .int x_this_plan_green, .int x_this_plan_rule, .int x_this_plan_least, .int x_this_plan_away, .int x_this_plan_statements, .int x_this_plan_kinds, .ref a_this_plan_calm, .ref a_this_plan_pace, .ref a_this_plan_trusts, .int x_this_plan_walkers, .ref a_this_plan_kindOf, .ref a_this_plan_comesAt, .ref a_this_plan_comers, .ref a_this_plan_names, .ref a_this_plan_code, .int x_this_plan_size, .ref a_this_plan_spans]))] H → va_D A [(a_this, .inr (9, [.ref a_this_tape, .int x_this_tapeSize, .ref a_this_plan, .ref a_this_spare, .ref a_this_now, .ref a_this_history, .ref a_this_machine, .ref a_this_reader, .ref a_this_street, .ref a_this_choice, .ref a_this_ahead, .ref a_this_watch, .ref a_this_octets, .int x_this_octetCount, .ref a_this_refusals, .long x_this_drawn])), (a_this_plan, .inr (4, [.int x_this_plan_cycle, .int x_this_plan_green, .int x_this_plan_rule, .int x_this_plan_least, .int x_this_plan_away, .int x_this_plan_statements, .int x_this_plan_kinds, .ref a_this_plan_calm, .ref a_this_plan_pace, .ref a_this_plan_trusts, .int x_this_plan_walkers, .ref a_this_plan_kindOf, .ref a_this_plan_comesAt, .ref a_this_plan_comers, .ref a_this_plan_names, .ref a_this_plan_code, .int x_this_plan_size, .ref a_this_plan_spans]))] → va_S A s.heap H locs → lv_has ls 1 [(0, .ref a_this)] → W p l e { frames := 0, cells := 0, slots := 0, locals := 0 } s m args below meth c H locs 0 0 Q (F0 m 15 ls [.int J15_s0]) := by
    intro J15_s0 H locs ls hJ15_s0 hP hD hS hl
    subst hQ; exact k_iret hx hb hr hlk (ib_bool (ib_w 0 1 hJ15_s0 (by decide))) () hS (ib_w 0 1 hJ15_s0 (by decide)) hP hD (Nat.le_of_ble_eq_true rfl) (Nat.le_of_ble_eq_true rfl) dX9_stands_15
  refine lv_aload_n hx hb dX9_stands_0 rfl (lv_at hl 0 rfl) ?_
  refine k_get C0 fg_X9_20 hP 0 rfl rfl dX9_stands_1 ?_
  refine k_get C0 fg_X9_145 hP 1 rfl rfl dX9_stands_4 ?_
  refine lv_if_le (tgt := 14) hx hb dX9_stands_7 (by decide) (fun c95 => ?_) (fun c95 => ?_)
  · have h96 := ib_le hx_this_plan_cycle (ib_c 0 0 0 (by decide)) c95
    have h97 : ib x_this_plan_cycle 0 0 := ib_w 0 0 h96.1 (by decide)
    refine lv_iconst (v := 0) hx hb dX9_stands_14 (by decide) ?_
    exact jn15 0 H locs ls (ib_w 0 1 (ib_c 0 0 0 (by decide)) (by decide)) hP hD hS (lv_sub hl [0] rfl)
  · have h98 := ib_nle hx_this_plan_cycle (ib_c 0 0 0 (by decide)) c95
    have h99 : ib x_this_plan_cycle 1 120 := ib_w 1 120 h98.1 (by decide)
    refine lv_iconst (v := 1) hx hb dX9_stands_10 (by decide) ?_
    refine lv_goto (tgt := 15) hx hb dX9_stands_11 (by decide) ?_
    exact jn15 1 H locs ls (ib_w 0 1 (ib_c 1 1 1 (by decide)) (by decide)) hP hD hS (lv_sub hl [0] rfl)
set_option maxHeartbeats 4000000 in
set_option maxRecDepth 100000 in
theorem s_X9_isKind (l : Launch) (dC : Nat → ClassId) (dI : Nat → Nat → Nat) (cy : Nat → ClassId) (sq : Nat → Nat) (a_this : Nat) (a_this_tape : Nat) (x_this_tapeSize : Int32) (a_this_plan : Nat) (x_this_plan_cycle : Int32) (x_this_plan_green : Int32) (x_this_plan_rule : Int32) (x_this_plan_least : Int32) (x_this_plan_away : Int32) (x_this_plan_statements : Int32) (x_this_plan_kinds : Int32) (a_this_plan_calm : Nat) (a_this_plan_pace : Nat) (a_this_plan_trusts : Nat) (x_this_plan_walkers : Int32) (a_this_plan_kindOf : Nat) (a_this_plan_comesAt : Nat) (a_this_plan_comers : Nat) (a_this_plan_names : Nat) (a_this_plan_code : Nat) (x_this_plan_size : Int32) (a_this_plan_spans : Nat) (a_this_spare : Nat) (a_this_now : Nat) (a_this_history : Nat) (a_this_machine : Nat) (a_this_reader : Nat) (a_this_street : Nat) (a_this_choice : Nat) (a_this_ahead : Nat) (a_this_watch : Nat) (a_this_octets : Nat) (x_this_octetCount : Int32) (a_this_refusals : Nat) (x_this_drawn : Int64) (p0 : Int32) (hx_this_tapeSize : ib x_this_tapeSize 0 1600) (hx_this_plan_cycle : ib x_this_plan_cycle 0 120) (hx_this_plan_least : ib x_this_plan_least 0 99) (hx_this_plan_statements : ib x_this_plan_statements 0 81) (hx_this_plan_kinds : ib x_this_plan_kinds 0 6) (hx_this_plan_walkers : ib x_this_plan_walkers 0 12) (hx_this_plan_size : ib x_this_plan_size 0 1600) (hx_this_octetCount : ib x_this_octetCount 0 11) : k_Met l yX9_isKind cX9_isKind 2 (some .boolean) { frames := 0, cells := 0, slots := 0, locals := 0 } dC dI cy sq [.ref a_this, .int p0] [(a_this, .inr (9, [.ref a_this_tape, .int x_this_tapeSize, .ref a_this_plan, .ref a_this_spare, .ref a_this_now, .ref a_this_history, .ref a_this_machine, .ref a_this_reader, .ref a_this_street, .ref a_this_choice, .ref a_this_ahead, .ref a_this_watch, .ref a_this_octets, .int x_this_octetCount, .ref a_this_refusals, .long x_this_drawn])), (a_this_plan, .inr (4, [.int x_this_plan_cycle, .int x_this_plan_green, .int x_this_plan_rule, .int x_this_plan_least, .int x_this_plan_away, .int x_this_plan_statements, .int x_this_plan_kinds, .ref a_this_plan_calm, .ref a_this_plan_pace, .ref a_this_plan_trusts, .int x_this_plan_walkers, .ref a_this_plan_kindOf, .ref a_this_plan_comesAt, .ref a_this_plan_comers, .ref a_this_plan_names, .ref a_this_plan_code, .int x_this_plan_size, .ref a_this_plan_spans]))] (k_Qi dC dI (fun (r : Int32) (_ : Unit) => ib r 0 1) (fun _ : Unit => [(a_this, .inr (9, [.ref a_this_tape, .int x_this_tapeSize, .ref a_this_plan, .ref a_this_spare, .ref a_this_now, .ref a_this_history, .ref a_this_machine, .ref a_this_reader, .ref a_this_street, .ref a_this_choice, .ref a_this_ahead, .ref a_this_watch, .ref a_this_octets, .int x_this_octetCount, .ref a_this_refusals, .long x_this_drawn])), (a_this_plan, .inr (4, [.int x_this_plan_cycle, .int x_this_plan_green, .int x_this_plan_rule, .int x_this_plan_least, .int x_this_plan_away, .int x_this_plan_statements, .int x_this_plan_kinds, .ref a_this_plan_calm, .ref a_this_plan_pace, .ref a_this_plan_trusts, .int x_this_plan_walkers, .ref a_this_plan_kindOf, .ref a_this_plan_comesAt, .ref a_this_plan_comers, .ref a_this_plan_names, .ref a_this_plan_code, .int x_this_plan_size, .ref a_this_plan_spans]))])) := by
  refine k_ofW2 (by decide +kernel) (Nat.le_of_ble_eq_true rfl) ?_
  intro p e s m below meth c A ls H locs args Q hQ C0 hr hlk hin hP hD hA hS hl
  have C0 : k_cx p s m args c cX9_isKind 2 RX9 dC dI cy sq := C0
  have hx := C0.1
  have hb := C0.2.1
  have hl : lv_has ls 2 [(0, .ref a_this), (1, .int p0)] := hl
  have jn20 : ∀ (J20_s0 : Int32) (H : Heap) (locs : List Loc) (ls : Array Slot), ib J20_s0 0 1 → va_P (dC, dI) vwCl [(a_this, .inr (9, [.ref a_this_tape, .int x_this_tapeSize, .ref a_this_plan, .ref a_this_spare, .ref a_this_now, .ref a_this_history, .ref a_this_machine, .ref a_this_reader, .ref a_this_street, .ref a_this_choice, .ref a_this_ahead, .ref a_this_watch, .ref a_this_octets, .int x_this_octetCount, .ref a_this_refusals, .long x_this_drawn])), (a_this_plan, .inr (4, [.int x_this_plan_cycle, .int x_this_plan_green, .int x_this_plan_rule, .int x_this_plan_least, .int x_this_plan_away, .int x_this_plan_statements, .int x_this_plan_kinds, .ref a_this_plan_calm, .ref a_this_plan_pace, .ref a_this_plan_trusts, .int x_this_plan_walkers, .ref a_this_plan_kindOf, .ref a_this_plan_comesAt, .ref a_this_plan_comers, .ref a_this_plan_names, .ref a_this_plan_code, .int x_this_plan_size, .ref a_this_plan_spans]))] H → va_D A [(a_this, .inr (9, [.ref a_this_tape, .int x_this_tapeSize, .ref a_this_plan, .ref a_this_spare, .ref a_this_now, .ref a_this_history, .ref a_this_machine, .ref a_this_reader, .ref a_this_street, .ref a_this_choice, .ref a_this_ahead, .ref a_this_watch, .ref a_this_octets, .int x_this_octetCount, .ref a_this_refusals, .long x_this_drawn])), (a_this_plan, .inr (4, [.int x_this_plan_cycle, .int x_this_plan_green, .int x_this_plan_rule, .int x_this_plan_least, .int x_this_plan_away, .int x_this_plan_statements, .int x_this_plan_kinds, .ref a_this_plan_calm, .ref a_this_plan_pace, .ref a_this_plan_trusts, .int x_this_plan_walkers, .ref a_this_plan_kindOf, .ref a_this_plan_comesAt, .ref a_this_plan_comers, .ref a_this_plan_names, .ref a_this_plan_code, .int x_this_plan_size, .ref a_this_plan_spans]))] → va_S A s.heap H locs → lv_has ls 2 [(0, .ref a_this), (1, .int p0)] → W p l e { frames := 0, cells := 0, slots := 0, locals := 0 } s m args below meth c H locs 0 0 Q (F0 m 20 ls [.int J20_s0]) := by
    intro J20_s0 H locs ls hJ20_s0 hP hD hS hl
    subst hQ; exact k_iret hx hb hr hlk (ib_bool (ib_w 0 1 hJ20_s0 (by decide))) () hS (ib_w 0 1 hJ20_s0 (by decide)) hP hD (Nat.le_of_ble_eq_true rfl) (Nat.le_of_ble_eq_true rfl) dX9_isKind_20
  refine lv_iload_n hx hb dX9_isKind_0 rfl (lv_at hl 1 rfl) ?_
  refine lv_if_lt (tgt := 19) hx hb dX9_isKind_1 (by decide) (fun c120 => ?_) (fun c120 => ?_)
  · have h121 := ib_lt (ib_any p0) (ib_c 0 0 0 (by decide)) c120
    have h122 : ib p0 (-2147483648) (-1) := ib_w (-2147483648) (-1) h121.1 (by decide)
    refine lv_iconst (v := 0) hx hb dX9_isKind_19 (by decide) ?_
    exact jn20 0 H locs ls (ib_w 0 1 (ib_c 0 0 0 (by decide)) (by decide)) hP hD hS (lv_sub hl [0, 1] rfl)
  · have h123 := ib_nlt (ib_any p0) (ib_c 0 0 0 (by decide)) c120
    have h124 : ib p0 0 2147483647 := ib_w 0 2147483647 h123.1 (by decide)
    refine lv_iload_n hx hb dX9_isKind_4 rfl (lv_at hl 1 rfl) ?_
    refine lv_aload_n hx hb dX9_isKind_5 rfl (lv_at hl 0 rfl) ?_
    refine k_get C0 fg_X9_20 hP 0 rfl rfl dX9_isKind_6 ?_
    refine k_get C0 fg_X9_148 hP 1 rfl rfl dX9_isKind_9 ?_
    refine lv_icmp_ge (tgt := 19) hx hb dX9_isKind_12 (by decide) (fun c125 => ?_) (fun c125 => ?_)
    · have h126 := ib_le hx_this_plan_kinds h124 c125
      refine lv_iconst (v := 0) hx hb dX9_isKind_19 (by decide) ?_
      exact jn20 0 H locs ls (ib_w 0 1 (ib_c 0 0 0 (by decide)) (by decide)) hP hD hS (lv_sub hl [0, 1] rfl)
    · have h127 := ib_nle hx_this_plan_kinds h124 c125
      have h128 : ib x_this_plan_kinds 1 6 := ib_w 1 6 h127.1 (by decide)
      have h129 : ib p0 0 5 := ib_w 0 5 h127.2 (by decide)
      refine lv_iconst (v := 1) hx hb dX9_isKind_15 (by decide) ?_
      refine lv_goto (tgt := 20) hx hb dX9_isKind_16 (by decide) ?_
      exact jn20 1 H locs ls (ib_w 0 1 (ib_c 1 1 1 (by decide)) (by decide)) hP hD hS (lv_sub hl [0, 1] rfl)
set_option maxHeartbeats 4000000 in
set_option maxRecDepth 100000 in
theorem s_X9_isWalker (l : Launch) (dC : Nat → ClassId) (dI : Nat → Nat → Nat) (cy : Nat → ClassId) (sq : Nat → Nat) (a_this : Nat) (a_this_tape : Nat) (x_this_tapeSize : Int32) (a_this_plan : Nat) (x_this_plan_cycle : Int32) (x_this_plan_green : Int32) (x_this_plan_rule : Int32) (x_this_plan_least : Int32) (x_this_plan_away : Int32) (x_this_plan_statements : Int32) (x_this_plan_kinds : Int32) (a_this_plan_calm : Nat) (a_this_plan_pace : Nat) (a_this_plan_trusts : Nat) (x_this_plan_walkers : Int32) (a_this_plan_kindOf : Nat) (a_this_plan_comesAt : Nat) (a_this_plan_comers : Nat) (a_this_plan_names : Nat) (a_this_plan_code : Nat) (x_this_plan_size : Int32) (a_this_plan_spans : Nat) (a_this_spare : Nat) (a_this_now : Nat) (a_this_history : Nat) (a_this_machine : Nat) (a_this_reader : Nat) (a_this_street : Nat) (a_this_choice : Nat) (a_this_ahead : Nat) (a_this_watch : Nat) (a_this_octets : Nat) (x_this_octetCount : Int32) (a_this_refusals : Nat) (x_this_drawn : Int64) (p0 : Int32) (hx_this_tapeSize : ib x_this_tapeSize 0 1600) (hx_this_plan_cycle : ib x_this_plan_cycle 0 120) (hx_this_plan_least : ib x_this_plan_least 0 99) (hx_this_plan_statements : ib x_this_plan_statements 0 81) (hx_this_plan_kinds : ib x_this_plan_kinds 0 6) (hx_this_plan_walkers : ib x_this_plan_walkers 0 12) (hx_this_plan_size : ib x_this_plan_size 0 1600) (hx_this_octetCount : ib x_this_octetCount 0 11) : k_Met l yX9_isWalker cX9_isWalker 2 (some .boolean) { frames := 0, cells := 0, slots := 0, locals := 0 } dC dI cy sq [.ref a_this, .int p0] [(a_this, .inr (9, [.ref a_this_tape, .int x_this_tapeSize, .ref a_this_plan, .ref a_this_spare, .ref a_this_now, .ref a_this_history, .ref a_this_machine, .ref a_this_reader, .ref a_this_street, .ref a_this_choice, .ref a_this_ahead, .ref a_this_watch, .ref a_this_octets, .int x_this_octetCount, .ref a_this_refusals, .long x_this_drawn])), (a_this_plan, .inr (4, [.int x_this_plan_cycle, .int x_this_plan_green, .int x_this_plan_rule, .int x_this_plan_least, .int x_this_plan_away, .int x_this_plan_statements, .int x_this_plan_kinds, .ref a_this_plan_calm, .ref a_this_plan_pace, .ref a_this_plan_trusts, .int x_this_plan_walkers, .ref a_this_plan_kindOf, .ref a_this_plan_comesAt, .ref a_this_plan_comers, .ref a_this_plan_names, .ref a_this_plan_code, .int x_this_plan_size, .ref a_this_plan_spans]))] (k_Qi dC dI (fun (r : Int32) (_ : Unit) => ib r 0 1) (fun _ : Unit => [(a_this, .inr (9, [.ref a_this_tape, .int x_this_tapeSize, .ref a_this_plan, .ref a_this_spare, .ref a_this_now, .ref a_this_history, .ref a_this_machine, .ref a_this_reader, .ref a_this_street, .ref a_this_choice, .ref a_this_ahead, .ref a_this_watch, .ref a_this_octets, .int x_this_octetCount, .ref a_this_refusals, .long x_this_drawn])), (a_this_plan, .inr (4, [.int x_this_plan_cycle, .int x_this_plan_green, .int x_this_plan_rule, .int x_this_plan_least, .int x_this_plan_away, .int x_this_plan_statements, .int x_this_plan_kinds, .ref a_this_plan_calm, .ref a_this_plan_pace, .ref a_this_plan_trusts, .int x_this_plan_walkers, .ref a_this_plan_kindOf, .ref a_this_plan_comesAt, .ref a_this_plan_comers, .ref a_this_plan_names, .ref a_this_plan_code, .int x_this_plan_size, .ref a_this_plan_spans]))])) := by
  refine k_ofW2 (by decide +kernel) (Nat.le_of_ble_eq_true rfl) ?_
  intro p e s m below meth c A ls H locs args Q hQ C0 hr hlk hin hP hD hA hS hl
  have C0 : k_cx p s m args c cX9_isWalker 2 RX9 dC dI cy sq := C0
  have hx := C0.1
  have hb := C0.2.1
  have hl : lv_has ls 2 [(0, .ref a_this), (1, .int p0)] := hl
  have jn20 : ∀ (J20_s0 : Int32) (H : Heap) (locs : List Loc) (ls : Array Slot), ib J20_s0 0 1 → va_P (dC, dI) vwCl [(a_this, .inr (9, [.ref a_this_tape, .int x_this_tapeSize, .ref a_this_plan, .ref a_this_spare, .ref a_this_now, .ref a_this_history, .ref a_this_machine, .ref a_this_reader, .ref a_this_street, .ref a_this_choice, .ref a_this_ahead, .ref a_this_watch, .ref a_this_octets, .int x_this_octetCount, .ref a_this_refusals, .long x_this_drawn])), (a_this_plan, .inr (4, [.int x_this_plan_cycle, .int x_this_plan_green, .int x_this_plan_rule, .int x_this_plan_least, .int x_this_plan_away, .int x_this_plan_statements, .int x_this_plan_kinds, .ref a_this_plan_calm, .ref a_this_plan_pace, .ref a_this_plan_trusts, .int x_this_plan_walkers, .ref a_this_plan_kindOf, .ref a_this_plan_comesAt, .ref a_this_plan_comers, .ref a_this_plan_names, .ref a_this_plan_code, .int x_this_plan_size, .ref a_this_plan_spans]))] H → va_D A [(a_this, .inr (9, [.ref a_this_tape, .int x_this_tapeSize, .ref a_this_plan, .ref a_this_spare, .ref a_this_now, .ref a_this_history, .ref a_this_machine, .ref a_this_reader, .ref a_this_street, .ref a_this_choice, .ref a_this_ahead, .ref a_this_watch, .ref a_this_octets, .int x_this_octetCount, .ref a_this_refusals, .long x_this_drawn])), (a_this_plan, .inr (4, [.int x_this_plan_cycle, .int x_this_plan_green, .int x_this_plan_rule, .int x_this_plan_least, .int x_this_plan_away, .int x_this_plan_statements, .int x_this_plan_kinds, .ref a_this_plan_calm, .ref a_this_plan_pace, .ref a_this_plan_trusts, .int x_this_plan_walkers, .ref a_this_plan_kindOf, .ref a_this_plan_comesAt, .ref a_this_plan_comers, .ref a_this_plan_names, .ref a_this_plan_code, .int x_this_plan_size, .ref a_this_plan_spans]))] → va_S A s.heap H locs → lv_has ls 2 [(0, .ref a_this), (1, .int p0)] → W p l e { frames := 0, cells := 0, slots := 0, locals := 0 } s m args below meth c H locs 0 0 Q (F0 m 20 ls [.int J20_s0]) := by
    intro J20_s0 H locs ls hJ20_s0 hP hD hS hl
    subst hQ; exact k_iret hx hb hr hlk (ib_bool (ib_w 0 1 hJ20_s0 (by decide))) () hS (ib_w 0 1 hJ20_s0 (by decide)) hP hD (Nat.le_of_ble_eq_true rfl) (Nat.le_of_ble_eq_true rfl) dX9_isWalker_20
  refine lv_iload_n hx hb dX9_isWalker_0 rfl (lv_at hl 1 rfl) ?_
  refine lv_if_lt (tgt := 19) hx hb dX9_isWalker_1 (by decide) (fun c150 => ?_) (fun c150 => ?_)
  · have h151 := ib_lt (ib_any p0) (ib_c 0 0 0 (by decide)) c150
    have h152 : ib p0 (-2147483648) (-1) := ib_w (-2147483648) (-1) h151.1 (by decide)
    refine lv_iconst (v := 0) hx hb dX9_isWalker_19 (by decide) ?_
    exact jn20 0 H locs ls (ib_w 0 1 (ib_c 0 0 0 (by decide)) (by decide)) hP hD hS (lv_sub hl [0, 1] rfl)
  · have h153 := ib_nlt (ib_any p0) (ib_c 0 0 0 (by decide)) c150
    have h154 : ib p0 0 2147483647 := ib_w 0 2147483647 h153.1 (by decide)
    refine lv_iload_n hx hb dX9_isWalker_4 rfl (lv_at hl 1 rfl) ?_
    refine lv_aload_n hx hb dX9_isWalker_5 rfl (lv_at hl 0 rfl) ?_
    refine k_get C0 fg_X9_20 hP 0 rfl rfl dX9_isWalker_6 ?_
    refine k_get C0 fg_X9_151 hP 1 rfl rfl dX9_isWalker_9 ?_
    refine lv_icmp_ge (tgt := 19) hx hb dX9_isWalker_12 (by decide) (fun c155 => ?_) (fun c155 => ?_)
    · have h156 := ib_le hx_this_plan_walkers h154 c155
      refine lv_iconst (v := 0) hx hb dX9_isWalker_19 (by decide) ?_
      exact jn20 0 H locs ls (ib_w 0 1 (ib_c 0 0 0 (by decide)) (by decide)) hP hD hS (lv_sub hl [0, 1] rfl)
    · have h157 := ib_nle hx_this_plan_walkers h154 c155
      have h158 : ib x_this_plan_walkers 1 12 := ib_w 1 12 h157.1 (by decide)
      have h159 : ib p0 0 11 := ib_w 0 11 h157.2 (by decide)
      refine lv_iconst (v := 1) hx hb dX9_isWalker_15 (by decide) ?_
      refine lv_goto (tgt := 20) hx hb dX9_isWalker_16 (by decide) ?_
      exact jn20 1 H locs ls (ib_w 0 1 (ib_c 1 1 1 (by decide)) (by decide)) hP hD hS (lv_sub hl [0, 1] rfl)
set_option maxHeartbeats 4000000 in
set_option maxRecDepth 100000 in
theorem s_X9_canLive (l : Launch) (dC : Nat → ClassId) (dI : Nat → Nat → Nat) (cy : Nat → ClassId) (sq : Nat → Nat) (a_this : Nat) (a_this_tape : Nat) (x_this_tapeSize : Int32) (a_this_plan : Nat) (x_this_plan_cycle : Int32) (x_this_plan_green : Int32) (x_this_plan_rule : Int32) (x_this_plan_least : Int32) (x_this_plan_away : Int32) (x_this_plan_statements : Int32) (x_this_plan_kinds : Int32) (a_this_plan_calm : Nat) (a_this_plan_pace : Nat) (a_this_plan_trusts : Nat) (x_this_plan_walkers : Int32) (a_this_plan_kindOf : Nat) (a_this_plan_comesAt : Nat) (a_this_plan_comers : Nat) (a_this_plan_names : Nat) (a_this_plan_code : Nat) (x_this_plan_size : Int32) (a_this_plan_spans : Nat) (a_this_spare : Nat) (a_this_now : Nat) (x_this_now_day : Int32) (x_this_now_rule : Int32) (x_this_now_green : Int32) (a_this_now_trusts : Nat) (a_this_history : Nat) (a_this_machine : Nat) (a_this_reader : Nat) (a_this_street : Nat) (a_this_choice : Nat) (a_this_ahead : Nat) (a_this_watch : Nat) (a_this_octets : Nat) (x_this_octetCount : Int32) (a_this_refusals : Nat) (x_this_drawn : Int64) (p0 : Int32) (hx_this_tapeSize : ib x_this_tapeSize 0 1600) (hx_this_plan_cycle : ib x_this_plan_cycle 0 120) (hx_this_plan_least : ib x_this_plan_least 0 99) (hx_this_plan_statements : ib x_this_plan_statements 0 81) (hx_this_plan_kinds : ib x_this_plan_kinds 0 6) (hx_this_plan_walkers : ib x_this_plan_walkers 0 12) (hx_this_plan_size : ib x_this_plan_size 0 1600) (hx_this_octetCount : ib x_this_octetCount 0 11) : k_Met l yX9_canLive cX9_canLive 2 (some .boolean) { frames := 1, cells := 0, slots := 0, locals := 20 } dC dI cy sq [.ref a_this, .int p0] [(a_this, .inr (9, [.ref a_this_tape, .int x_this_tapeSize, .ref a_this_plan, .ref a_this_spare, .ref a_this_now, .ref a_this_history, .ref a_this_machine, .ref a_this_reader, .ref a_this_street, .ref a_this_choice, .ref a_this_ahead, .ref a_this_watch, .ref a_this_octets, .int x_this_octetCount, .ref a_this_refusals, .long x_this_drawn])), (a_this_plan, .inr (4, [.int x_this_plan_cycle, .int x_this_plan_green, .int x_this_plan_rule, .int x_this_plan_least, .int x_this_plan_away, .int x_this_plan_statements, .int x_this_plan_kinds, .ref a_this_plan_calm, .ref a_this_plan_pace, .ref a_this_plan_trusts, .int x_this_plan_walkers, .ref a_this_plan_kindOf, .ref a_this_plan_comesAt, .ref a_this_plan_comers, .ref a_this_plan_names, .ref a_this_plan_code, .int x_this_plan_size, .ref a_this_plan_spans])), (a_this_now, .inr (6, [.int x_this_now_day, .int x_this_now_rule, .int x_this_now_green, .ref a_this_now_trusts]))] (k_Qi dC dI (fun (r : Int32) (_ : Unit) => ib r 0 1) (fun _ : Unit => [(a_this, .inr (9, [.ref a_this_tape, .int x_this_tapeSize, .ref a_this_plan, .ref a_this_spare, .ref a_this_now, .ref a_this_history, .ref a_this_machine, .ref a_this_reader, .ref a_this_street, .ref a_this_choice, .ref a_this_ahead, .ref a_this_watch, .ref a_this_octets, .int x_this_octetCount, .ref a_this_refusals, .long x_this_drawn])), (a_this_plan, .inr (4, [.int x_this_plan_cycle, .int x_this_plan_green, .int x_this_plan_rule, .int x_this_plan_least, .int x_this_plan_away, .int x_this_plan_statements, .int x_this_plan_kinds, .ref a_this_plan_calm, .ref a_this_plan_pace, .ref a_this_plan_trusts, .int x_this_plan_walkers, .ref a_this_plan_kindOf, .ref a_this_plan_comesAt, .ref a_this_plan_comers, .ref a_this_plan_names, .ref a_this_plan_code, .int x_this_plan_size, .ref a_this_plan_spans])), (a_this_now, .inr (6, [.int x_this_now_day, .int x_this_now_rule, .int x_this_now_green, .ref a_this_now_trusts]))])) := by
  refine k_ofW2 (by decide +kernel) (Nat.le_of_ble_eq_true rfl) ?_
  intro p e s m below meth c A ls H locs args Q hQ C0 hr hlk hin hP hD hA hS hl
  have C0 : k_cx p s m args c cX9_canLive 2 RX9 dC dI cy sq := C0
  have hx := C0.1
  have hb := C0.2.1
  have hl : lv_has ls 2 [(0, .ref a_this), (1, .int p0)] := hl
  have jn38 : ∀ (J38_s0 : Int32) (H : Heap) (locs : List Loc) (ls : Array Slot), ib J38_s0 0 1 → va_P (dC, dI) vwCl [(a_this, .inr (9, [.ref a_this_tape, .int x_this_tapeSize, .ref a_this_plan, .ref a_this_spare, .ref a_this_now, .ref a_this_history, .ref a_this_machine, .ref a_this_reader, .ref a_this_street, .ref a_this_choice, .ref a_this_ahead, .ref a_this_watch, .ref a_this_octets, .int x_this_octetCount, .ref a_this_refusals, .long x_this_drawn])), (a_this_plan, .inr (4, [.int x_this_plan_cycle, .int x_this_plan_green, .int x_this_plan_rule, .int x_this_plan_least, .int x_this_plan_away, .int x_this_plan_statements, .int x_this_plan_kinds, .ref a_this_plan_calm, .ref a_this_plan_pace, .ref a_this_plan_trusts, .int x_this_plan_walkers, .ref a_this_plan_kindOf, .ref a_this_plan_comesAt, .ref a_this_plan_comers, .ref a_this_plan_names, .ref a_this_plan_code, .int x_this_plan_size, .ref a_this_plan_spans])), (a_this_now, .inr (6, [.int x_this_now_day, .int x_this_now_rule, .int x_this_now_green, .ref a_this_now_trusts]))] H → va_D A [(a_this, .inr (9, [.ref a_this_tape, .int x_this_tapeSize, .ref a_this_plan, .ref a_this_spare, .ref a_this_now, .ref a_this_history, .ref a_this_machine, .ref a_this_reader, .ref a_this_street, .ref a_this_choice, .ref a_this_ahead, .ref a_this_watch, .ref a_this_octets, .int x_this_octetCount, .ref a_this_refusals, .long x_this_drawn])), (a_this_plan, .inr (4, [.int x_this_plan_cycle, .int x_this_plan_green, .int x_this_plan_rule, .int x_this_plan_least, .int x_this_plan_away, .int x_this_plan_statements, .int x_this_plan_kinds, .ref a_this_plan_calm, .ref a_this_plan_pace, .ref a_this_plan_trusts, .int x_this_plan_walkers, .ref a_this_plan_kindOf, .ref a_this_plan_comesAt, .ref a_this_plan_comers, .ref a_this_plan_names, .ref a_this_plan_code, .int x_this_plan_size, .ref a_this_plan_spans])), (a_this_now, .inr (6, [.int x_this_now_day, .int x_this_now_rule, .int x_this_now_green, .ref a_this_now_trusts]))] → va_S A s.heap H locs → lv_has ls 2 [(0, .ref a_this), (1, .int p0)] → W p l e { frames := 1, cells := 0, slots := 0, locals := 20 } s m args below meth c H locs 0 0 Q (F0 m 38 ls [.int J38_s0]) := by
    intro J38_s0 H locs ls hJ38_s0 hP hD hS hl
    subst hQ; exact k_iret hx hb hr hlk (ib_bool (ib_w 0 1 hJ38_s0 (by decide))) () hS (ib_w 0 1 hJ38_s0 (by decide)) hP hD (Nat.le_of_ble_eq_true rfl) (Nat.le_of_ble_eq_true rfl) dX9_canLive_38
  refine lv_aload_n hx hb dX9_canLive_0 rfl (lv_at hl 0 rfl) ?_
  refine k_ji hP hD hS hA [0, 1] [2] (wr := [(a_this_now, .inr (6, [.int x_this_now_day, .int x_this_now_rule, .int x_this_now_green, .ref a_this_now_trusts]))]) rfl rfl (by decide) (by decide) (by decide) 0 0 (Nat.le_of_ble_eq_true rfl) (Nat.le_of_ble_eq_true rfl) (fun hPc hDc => k_runV (As := []) (rest := []) C0 (s_X9_stands l dC dI cy sq a_this a_this_tape x_this_tapeSize a_this_plan x_this_plan_cycle x_this_plan_green x_this_plan_rule x_this_plan_least x_this_plan_away x_this_plan_statements x_this_plan_kinds a_this_plan_calm a_this_plan_pace a_this_plan_trusts x_this_plan_walkers a_this_plan_kindOf a_this_plan_comesAt a_this_plan_comers a_this_plan_names a_this_plan_code x_this_plan_size a_this_plan_spans a_this_spare a_this_now a_this_history a_this_machine a_this_reader a_this_street a_this_choice a_this_ahead a_this_watch a_this_octets x_this_octetCount a_this_refusals x_this_drawn (ib_w 0 1600 hx_this_tapeSize (by decide)) (ib_w 0 120 hx_this_plan_cycle (by decide)) (ib_w 0 99 hx_this_plan_least (by decide)) (ib_w 0 81 hx_this_plan_statements (by decide)) (ib_w 0 6 hx_this_plan_kinds (by decide)) (ib_w 0 12 hx_this_plan_walkers (by decide)) (ib_w 0 1600 hx_this_plan_size (by decide)) (ib_w 0 11 hx_this_octetCount (by decide))) mV_X9_218 hPc hDc rfl rfl rfl hl rfl rfl (Nat.le_of_ble_eq_true rfl) ⟨(Nat.le_of_ble_eq_true rfl), (Nat.le_of_ble_eq_true rfl)⟩ ⟨(Nat.le_of_ble_eq_true rfl), (Nat.le_of_ble_eq_true rfl)⟩ dX9_canLive_1) (fun r206 u207 H locs hw hP hD hS => ?_)
  try dsimp only at hP hD hw
  have hP : va_P (dC, dI) vwCl [(a_this_now, .inr (6, [.int x_this_now_day, .int x_this_now_rule, .int x_this_now_green, .ref a_this_now_trusts])), (a_this, .inr (9, [.ref a_this_tape, .int x_this_tapeSize, .ref a_this_plan, .ref a_this_spare, .ref a_this_now, .ref a_this_history, .ref a_this_machine, .ref a_this_reader, .ref a_this_street, .ref a_this_choice, .ref a_this_ahead, .ref a_this_watch, .ref a_this_octets, .int x_this_octetCount, .ref a_this_refusals, .long x_this_drawn])), (a_this_plan, .inr (4, [.int x_this_plan_cycle, .int x_this_plan_green, .int x_this_plan_rule, .int x_this_plan_least, .int x_this_plan_away, .int x_this_plan_statements, .int x_this_plan_kinds, .ref a_this_plan_calm, .ref a_this_plan_pace, .ref a_this_plan_trusts, .int x_this_plan_walkers, .ref a_this_plan_kindOf, .ref a_this_plan_comesAt, .ref a_this_plan_comers, .ref a_this_plan_names, .ref a_this_plan_code, .int x_this_plan_size, .ref a_this_plan_spans]))] H := hP
  have hD : va_D A [(a_this_now, .inr (6, [.int x_this_now_day, .int x_this_now_rule, .int x_this_now_green, .ref a_this_now_trusts])), (a_this, .inr (9, [.ref a_this_tape, .int x_this_tapeSize, .ref a_this_plan, .ref a_this_spare, .ref a_this_now, .ref a_this_history, .ref a_this_machine, .ref a_this_reader, .ref a_this_street, .ref a_this_choice, .ref a_this_ahead, .ref a_this_watch, .ref a_this_octets, .int x_this_octetCount, .ref a_this_refusals, .long x_this_drawn])), (a_this_plan, .inr (4, [.int x_this_plan_cycle, .int x_this_plan_green, .int x_this_plan_rule, .int x_this_plan_least, .int x_this_plan_away, .int x_this_plan_statements, .int x_this_plan_kinds, .ref a_this_plan_calm, .ref a_this_plan_pace, .ref a_this_plan_trusts, .int x_this_plan_walkers, .ref a_this_plan_kindOf, .ref a_this_plan_comesAt, .ref a_this_plan_comers, .ref a_this_plan_names, .ref a_this_plan_code, .int x_this_plan_size, .ref a_this_plan_spans]))] := hD
  have h208 := hw
  refine lv_if_eq (tgt := 37) hx hb dX9_canLive_4 (by decide) (fun c209 => ?_) (fun c209 => ?_)
  · have h210 := ib_eq h208 (ib_c 0 0 0 (by decide)) c209
    have h211 : ib r206 0 0 := ib_w 0 0 h210.1 (by decide)
    refine lv_iconst (v := 0) hx hb dX9_canLive_37 (by decide) ?_
    exact jn38 0 H locs ls (ib_w 0 1 (ib_c 0 0 0 (by decide)) (by decide)) (hP.sub [1, 2, 0] rfl) (hD.sub [1, 2, 0] (by decide) rfl) hS (lv_sub hl [0, 1] rfl)
  · have h212 : ib r206 1 1 := ib_w 1 1 (ib_ne_lo 0 h208 (by decide) c209) (by decide)
    refine lv_iload_n hx hb dX9_canLive_7 rfl (lv_at hl 1 rfl) ?_
    refine lv_iconst (v := 1) hx hb dX9_canLive_8 (by decide) ?_
    refine lv_icmp_lt (tgt := 37) hx hb dX9_canLive_9 (by decide) (fun c213 => ?_) (fun c213 => ?_)
    · have h214 := ib_lt (ib_any p0) (ib_c 1 1 1 (by decide)) c213
      have h215 : ib p0 (-2147483648) 0 := ib_w (-2147483648) 0 h214.1 (by decide)
      refine lv_iconst (v := 0) hx hb dX9_canLive_37 (by decide) ?_
      exact jn38 0 H locs ls (ib_w 0 1 (ib_c 0 0 0 (by decide)) (by decide)) (hP.sub [1, 2, 0] rfl) (hD.sub [1, 2, 0] (by decide) rfl) hS (lv_sub hl [0, 1] rfl)
    · have h216 := ib_nlt (ib_any p0) (ib_c 1 1 1 (by decide)) c213
      have h217 : ib p0 1 2147483647 := ib_w 1 2147483647 h216.1 (by decide)
      refine lv_iload_n hx hb dX9_canLive_12 rfl (lv_at hl 1 rfl) ?_
      refine lv_bipush (v := 30) hx hb dX9_canLive_13 (by decide) ?_
      refine lv_icmp_gt (tgt := 37) hx hb dX9_canLive_15 (by decide) (fun c218 => ?_) (fun c218 => ?_)
      · have h219 := ib_lt (ib_c 30 30 30 (by decide)) h217 c218
        have h220 : ib p0 31 2147483647 := ib_w 31 2147483647 h219.2 (by decide)
        refine lv_iconst (v := 0) hx hb dX9_canLive_37 (by decide) ?_
        exact jn38 0 H locs ls (ib_w 0 1 (ib_c 0 0 0 (by decide)) (by decide)) (hP.sub [1, 2, 0] rfl) (hD.sub [1, 2, 0] (by decide) rfl) hS (lv_sub hl [0, 1] rfl)
      · have h221 := ib_nlt (ib_c 30 30 30 (by decide)) h217 c218
        have h222 : ib p0 1 30 := ib_w 1 30 h221.2 (by decide)
        refine lv_aload_n hx hb dX9_canLive_18 rfl (lv_at hl 0 rfl) ?_
        refine k_get C0 fg_X9_30 hP 1 rfl rfl dX9_canLive_19 ?_
        refine k_get C0 fg_X9_154 hP 0 rfl rfl dX9_canLive_22 ?_
        refine lv_iload_n hx hb dX9_canLive_25 rfl (lv_at hl 1 rfl) ?_
        refine lv_iadd hx hb dX9_canLive_26 ?_
        refine lv_topi (fun z223 ez223 => ?_)
        refine lv_sipush (v := 999) hx hb dX9_canLive_27 (by decide) ?_
        refine lv_icmp_gt (tgt := 37) hx hb dX9_canLive_30 (by decide) (fun c224 => ?_) (fun c224 => ?_)
        · have h225 := ib_lt (ib_c 999 999 999 (by decide)) (ib_any z223) c224
          have h226 : ib z223 1000 2147483647 := ib_w 1000 2147483647 h225.2 (by decide)
          refine lv_iconst (v := 0) hx hb dX9_canLive_37 (by decide) ?_
          exact jn38 0 H locs ls (ib_w 0 1 (ib_c 0 0 0 (by decide)) (by decide)) (hP.sub [1, 2, 0] rfl) (hD.sub [1, 2, 0] (by decide) rfl) hS (lv_sub hl [0, 1] rfl)
        · have h227 := ib_nlt (ib_c 999 999 999 (by decide)) (ib_any z223) c224
          have h228 : ib z223 (-2147483648) 999 := ib_w (-2147483648) 999 h227.2 (by decide)
          refine lv_iconst (v := 1) hx hb dX9_canLive_33 (by decide) ?_
          refine lv_goto (tgt := 38) hx hb dX9_canLive_34 (by decide) ?_
          exact jn38 1 H locs ls (ib_w 0 1 (ib_c 1 1 1 (by decide)) (by decide)) (hP.sub [1, 2, 0] rfl) (hD.sub [1, 2, 0] (by decide) rfl) hS (lv_sub hl [0, 1] rfl)
set_option maxHeartbeats 4000000 in
set_option maxRecDepth 100000 in
theorem s_X9_octet (l : Launch) (dC : Nat → ClassId) (dI : Nat → Nat → Nat) (cy : Nat → ClassId) (sq : Nat → Nat) (a_this : Nat) (a_this_tape : Nat) (x_this_tapeSize : Int32) (a_this_plan : Nat) (a_this_spare : Nat) (a_this_now : Nat) (a_this_history : Nat) (a_this_machine : Nat) (a_this_reader : Nat) (a_this_street : Nat) (a_this_choice : Nat) (a_this_ahead : Nat) (a_this_watch : Nat) (a_this_octets : Nat) (g_this_octets : Nat → Int32) (x_this_octetCount : Int32) (a_this_refusals : Nat) (x_this_drawn : Int64) (p0 : Int32) (hx_this_tapeSize : ib x_this_tapeSize 0 1600) (hx_this_octetCount : ib x_this_octetCount 0 11) : k_Met l yX9_octet cX9_octet 2 (some .int) { frames := 0, cells := 0, slots := 0, locals := 0 } dC dI cy sq [.ref a_this, .int p0] [(a_this, .inr (9, [.ref a_this_tape, .int x_this_tapeSize, .ref a_this_plan, .ref a_this_spare, .ref a_this_now, .ref a_this_history, .ref a_this_machine, .ref a_this_reader, .ref a_this_street, .ref a_this_choice, .ref a_this_ahead, .ref a_this_watch, .ref a_this_octets, .int x_this_octetCount, .ref a_this_refusals, .long x_this_drawn])), (a_this_octets, .inl (cy 0, 11, .inl g_this_octets))] (k_Qi dC dI (fun (r : Int32) (_ : Unit) => True) (fun _ : Unit => [(a_this, .inr (9, [.ref a_this_tape, .int x_this_tapeSize, .ref a_this_plan, .ref a_this_spare, .ref a_this_now, .ref a_this_history, .ref a_this_machine, .ref a_this_reader, .ref a_this_street, .ref a_this_choice, .ref a_this_ahead, .ref a_this_watch, .ref a_this_octets, .int x_this_octetCount, .ref a_this_refusals, .long x_this_drawn])), (a_this_octets, .inl (cy 0, 11, .inl g_this_octets))])) := by
  refine k_ofW2 (by decide +kernel) (Nat.le_of_ble_eq_true rfl) ?_
  intro p e s m below meth c A ls H locs args Q hQ C0 hr hlk hin hP hD hA hS hl
  have C0 : k_cx p s m args c cX9_octet 2 RX9 dC dI cy sq := C0
  have hx := C0.1
  have hb := C0.2.1
  have hl : lv_has ls 2 [(0, .ref a_this), (1, .int p0)] := hl
  have jn22 : ∀ (J22_s0 : Int32) (H : Heap) (locs : List Loc) (ls : Array Slot), va_P (dC, dI) vwCl [(a_this, .inr (9, [.ref a_this_tape, .int x_this_tapeSize, .ref a_this_plan, .ref a_this_spare, .ref a_this_now, .ref a_this_history, .ref a_this_machine, .ref a_this_reader, .ref a_this_street, .ref a_this_choice, .ref a_this_ahead, .ref a_this_watch, .ref a_this_octets, .int x_this_octetCount, .ref a_this_refusals, .long x_this_drawn])), (a_this_octets, .inl (cy 0, 11, .inl g_this_octets))] H → va_D A [(a_this, .inr (9, [.ref a_this_tape, .int x_this_tapeSize, .ref a_this_plan, .ref a_this_spare, .ref a_this_now, .ref a_this_history, .ref a_this_machine, .ref a_this_reader, .ref a_this_street, .ref a_this_choice, .ref a_this_ahead, .ref a_this_watch, .ref a_this_octets, .int x_this_octetCount, .ref a_this_refusals, .long x_this_drawn])), (a_this_octets, .inl (cy 0, 11, .inl g_this_octets))] → va_S A s.heap H locs → lv_has ls 2 [(0, .ref a_this), (1, .int p0)] → W p l e { frames := 0, cells := 0, slots := 0, locals := 0 } s m args below meth c H locs 0 0 Q (F0 m 22 ls [.int J22_s0]) := by
    intro J22_s0 H locs ls hP hD hS hl
    subst hQ; exact k_iret hx hb hr hlk rfl () hS True.intro hP hD (Nat.le_of_ble_eq_true rfl) (Nat.le_of_ble_eq_true rfl) dX9_octet_22
  refine lv_iload_n hx hb dX9_octet_0 rfl (lv_at hl 1 rfl) ?_
  refine lv_if_lt (tgt := 21) hx hb dX9_octet_1 (by decide) (fun c251 => ?_) (fun c251 => ?_)
  · have h252 := ib_lt (ib_any p0) (ib_c 0 0 0 (by decide)) c251
    have h253 : ib p0 (-2147483648) (-1) := ib_w (-2147483648) (-1) h252.1 (by decide)
    refine lv_iconst (v := (-1)) hx hb dX9_octet_21 (by decide) ?_
    exact jn22 (-1) H locs ls  hP hD hS (lv_sub hl [0, 1] rfl)
  · have h254 := ib_nlt (ib_any p0) (ib_c 0 0 0 (by decide)) c251
    have h255 : ib p0 0 2147483647 := ib_w 0 2147483647 h254.1 (by decide)
    refine lv_iload_n hx hb dX9_octet_4 rfl (lv_at hl 1 rfl) ?_
    refine lv_aload_n hx hb dX9_octet_5 rfl (lv_at hl 0 rfl) ?_
    refine k_get C0 fg_X9_92 hP 0 rfl rfl dX9_octet_6 ?_
    refine lv_icmp_ge (tgt := 21) hx hb dX9_octet_9 (by decide) (fun c256 => ?_) (fun c256 => ?_)
    · have h257 := ib_le hx_this_octetCount h255 c256
      refine lv_iconst (v := (-1)) hx hb dX9_octet_21 (by decide) ?_
      exact jn22 (-1) H locs ls  hP hD hS (lv_sub hl [0, 1] rfl)
    · have h258 := ib_nle hx_this_octetCount h255 c256
      have h259 : ib x_this_octetCount 1 11 := ib_w 1 11 h258.1 (by decide)
      have h260 : ib p0 0 10 := ib_w 0 10 h258.2 (by decide)
      refine lv_aload_n hx hb dX9_octet_12 rfl (lv_at hl 0 rfl) ?_
      refine k_get C0 fg_X9_89 hP 0 rfl rfl dX9_octet_13 ?_
      refine lv_iload_n hx hb dX9_octet_16 rfl (lv_at hl 1 rfl) ?_
      refine va_iald hx hb C0.2.2.2.2.2.1 hP 1 0 rfl rfl (ib_in 11 h260 (by decide)) dX9_octet_17 ?_
      refine lv_topi (fun z261 ez261 => ?_)
      refine lv_goto (tgt := 22) hx hb dX9_octet_18 (by decide) ?_
      exact jn22 z261 H locs ls  hP hD hS (lv_sub hl [0, 1] rfl)
set_option maxHeartbeats 4000000 in
set_option maxRecDepth 100000 in
theorem s_X9_status (l : Launch) (dC : Nat → ClassId) (dI : Nat → Nat → Nat) (cy : Nat → ClassId) (sq : Nat → Nat) (a_this : Nat) (a_this_tape : Nat) (x_this_tapeSize : Int32) (a_this_plan : Nat) (a_this_spare : Nat) (a_this_now : Nat) (a_this_history : Nat) (a_this_machine : Nat) (a_this_reader : Nat) (a_this_street : Nat) (a_this_choice : Nat) (a_this_ahead : Nat) (a_this_watch : Nat) (a_this_octets : Nat) (x_this_octetCount : Int32) (a_this_refusals : Nat) (g_this_refusals : Nat → Int32) (x_this_drawn : Int64) (p0 : Int32) (hx_this_tapeSize : ib x_this_tapeSize 0 1600) (hx_this_octetCount : ib x_this_octetCount 0 11) : k_Met l yX9_status cX9_status 2 (some .int) { frames := 0, cells := 0, slots := 0, locals := 0 } dC dI cy sq [.ref a_this, .int p0] [(a_this, .inr (9, [.ref a_this_tape, .int x_this_tapeSize, .ref a_this_plan, .ref a_this_spare, .ref a_this_now, .ref a_this_history, .ref a_this_machine, .ref a_this_reader, .ref a_this_street, .ref a_this_choice, .ref a_this_ahead, .ref a_this_watch, .ref a_this_octets, .int x_this_octetCount, .ref a_this_refusals, .long x_this_drawn])), (a_this_refusals, .inl (cy 0, 6, .inl g_this_refusals))] (k_Qi dC dI (fun (r : Int32) (_ : Unit) => True) (fun _ : Unit => [(a_this, .inr (9, [.ref a_this_tape, .int x_this_tapeSize, .ref a_this_plan, .ref a_this_spare, .ref a_this_now, .ref a_this_history, .ref a_this_machine, .ref a_this_reader, .ref a_this_street, .ref a_this_choice, .ref a_this_ahead, .ref a_this_watch, .ref a_this_octets, .int x_this_octetCount, .ref a_this_refusals, .long x_this_drawn])), (a_this_refusals, .inl (cy 0, 6, .inl g_this_refusals))])) := by
  refine k_ofW2 (by decide +kernel) (Nat.le_of_ble_eq_true rfl) ?_
  intro p e s m below meth c A ls H locs args Q hQ C0 hr hlk hin hP hD hA hS hl
  have C0 : k_cx p s m args c cX9_status 2 RX9 dC dI cy sq := C0
  have hx := C0.1
  have hb := C0.2.1
  have hl : lv_has ls 2 [(0, .ref a_this), (1, .int p0)] := hl
  have jn20 : ∀ (J20_s0 : Int32) (H : Heap) (locs : List Loc) (ls : Array Slot), va_P (dC, dI) vwCl [(a_this, .inr (9, [.ref a_this_tape, .int x_this_tapeSize, .ref a_this_plan, .ref a_this_spare, .ref a_this_now, .ref a_this_history, .ref a_this_machine, .ref a_this_reader, .ref a_this_street, .ref a_this_choice, .ref a_this_ahead, .ref a_this_watch, .ref a_this_octets, .int x_this_octetCount, .ref a_this_refusals, .long x_this_drawn])), (a_this_refusals, .inl (cy 0, 6, .inl g_this_refusals))] H → va_D A [(a_this, .inr (9, [.ref a_this_tape, .int x_this_tapeSize, .ref a_this_plan, .ref a_this_spare, .ref a_this_now, .ref a_this_history, .ref a_this_machine, .ref a_this_reader, .ref a_this_street, .ref a_this_choice, .ref a_this_ahead, .ref a_this_watch, .ref a_this_octets, .int x_this_octetCount, .ref a_this_refusals, .long x_this_drawn])), (a_this_refusals, .inl (cy 0, 6, .inl g_this_refusals))] → va_S A s.heap H locs → lv_has ls 2 [(0, .ref a_this), (1, .int p0)] → W p l e { frames := 0, cells := 0, slots := 0, locals := 0 } s m args below meth c H locs 0 0 Q (F0 m 20 ls [.int J20_s0]) := by
    intro J20_s0 H locs ls hP hD hS hl
    subst hQ; exact k_iret hx hb hr hlk rfl () hS True.intro hP hD (Nat.le_of_ble_eq_true rfl) (Nat.le_of_ble_eq_true rfl) dX9_status_20
  refine lv_iload_n hx hb dX9_status_0 rfl (lv_at hl 1 rfl) ?_
  refine lv_if_lt (tgt := 19) hx hb dX9_status_1 (by decide) (fun c284 => ?_) (fun c284 => ?_)
  · have h285 := ib_lt (ib_any p0) (ib_c 0 0 0 (by decide)) c284
    have h286 : ib p0 (-2147483648) (-1) := ib_w (-2147483648) (-1) h285.1 (by decide)
    refine lv_iconst (v := (-1)) hx hb dX9_status_19 (by decide) ?_
    exact jn20 (-1) H locs ls  hP hD hS (lv_sub hl [0, 1] rfl)
  · have h287 := ib_nlt (ib_any p0) (ib_c 0 0 0 (by decide)) c284
    have h288 : ib p0 0 2147483647 := ib_w 0 2147483647 h287.1 (by decide)
    refine lv_iload_n hx hb dX9_status_4 rfl (lv_at hl 1 rfl) ?_
    refine lv_bipush (v := 6) hx hb dX9_status_5 (by decide) ?_
    refine lv_icmp_ge (tgt := 19) hx hb dX9_status_7 (by decide) (fun c289 => ?_) (fun c289 => ?_)
    · have h290 := ib_le (ib_c 6 6 6 (by decide)) h288 c289
      have h291 : ib p0 6 2147483647 := ib_w 6 2147483647 h290.2 (by decide)
      refine lv_iconst (v := (-1)) hx hb dX9_status_19 (by decide) ?_
      exact jn20 (-1) H locs ls  hP hD hS (lv_sub hl [0, 1] rfl)
    · have h292 := ib_nle (ib_c 6 6 6 (by decide)) h288 c289
      have h293 : ib p0 0 5 := ib_w 0 5 h292.2 (by decide)
      refine lv_aload_n hx hb dX9_status_10 rfl (lv_at hl 0 rfl) ?_
      refine k_get C0 fg_X9_95 hP 0 rfl rfl dX9_status_11 ?_
      refine lv_iload_n hx hb dX9_status_14 rfl (lv_at hl 1 rfl) ?_
      refine va_iald hx hb C0.2.2.2.2.2.1 hP 1 0 rfl rfl (ib_in 6 h293 (by decide)) dX9_status_15 ?_
      refine lv_topi (fun z294 ez294 => ?_)
      refine lv_goto (tgt := 20) hx hb dX9_status_16 (by decide) ?_
      exact jn20 z294 H locs ls  hP hD hS (lv_sub hl [0, 1] rfl)
set_option maxHeartbeats 4000000 in
set_option maxRecDepth 100000 in
theorem s_X9_takeTape (l : Launch) (dC : Nat → ClassId) (dI : Nat → Nat → Nat) (cy : Nat → ClassId) (sq : Nat → Nat) (a_this : Nat) (a_this_tape : Nat) (x_this_tapeSize : Int32) (a_this_plan : Nat) (a_this_spare : Nat) (a_this_now : Nat) (a_this_history : Nat) (a_this_machine : Nat) (a_this_reader : Nat) (a_this_street : Nat) (a_this_choice : Nat) (a_this_ahead : Nat) (a_this_watch : Nat) (a_this_octets : Nat) (x_this_octetCount : Int32) (a_this_refusals : Nat) (x_this_drawn : Int64) (hx_this_tapeSize : ib x_this_tapeSize 0 1600) (hx_this_octetCount : ib x_this_octetCount 0 11) : k_Met l yX9_takeTape cX9_takeTape 2 (some .int) { frames := 0, cells := 0, slots := 0, locals := 0 } dC dI cy sq [.ref a_this] [(a_this, .inr (9, [.ref a_this_tape, .int x_this_tapeSize, .ref a_this_plan, .ref a_this_spare, .ref a_this_now, .ref a_this_history, .ref a_this_machine, .ref a_this_reader, .ref a_this_street, .ref a_this_choice, .ref a_this_ahead, .ref a_this_watch, .ref a_this_octets, .int x_this_octetCount, .ref a_this_refusals, .long x_this_drawn]))] (k_Qi dC dI (fun (r : Int32) (n0 : Int32) => ib r 0 1600 ∧ ib n0 0 1600) (fun n0 : Int32 => [(a_this, .inr (9, [.ref a_this_tape, .int n0, .ref a_this_plan, .ref a_this_spare, .ref a_this_now, .ref a_this_history, .ref a_this_machine, .ref a_this_reader, .ref a_this_street, .ref a_this_choice, .ref a_this_ahead, .ref a_this_watch, .ref a_this_octets, .int x_this_octetCount, .ref a_this_refusals, .long x_this_drawn]))])) := by
  refine k_ofW2 (by decide +kernel) (Nat.le_of_ble_eq_true rfl) ?_
  intro p e s m below meth c A ls H locs args Q hQ C0 hr hlk hin hP hD hA hS hl
  have C0 : k_cx p s m args c cX9_takeTape 2 RX9 dC dI cy sq := C0
  have hx := C0.1
  have hb := C0.2.1
  have hl : lv_has ls 2 [(0, .ref a_this)] := hl
  refine lv_aload_n hx hb dX9_takeTape_0 rfl (lv_at hl 0 rfl) ?_
  refine k_get C0 fg_X9_13 hP 0 rfl rfl dX9_takeTape_1 ?_
  refine lv_istore_n (lv' := [(1, .int x_this_tapeSize), (0, .ref a_this)]) hx hb dX9_takeTape_4 rfl hl (by decide) rfl (fun ls hl => ?_)
  refine lv_aload_n hx hb dX9_takeTape_5 rfl (lv_at hl 1 rfl) ?_
  refine lv_iconst (v := 0) hx hb dX9_takeTape_6 (by decide) ?_
  refine k_put C0 fp_X9_13 hP hD hS 0 rfl rfl rfl (Nat.le_of_ble_eq_true rfl) dX9_takeTape_7 (fun H locs hP hD hS => ?_)
  have hP : va_P (dC, dI) vwCl [(a_this, .inr (9, [.ref a_this_tape, .int 0, .ref a_this_plan, .ref a_this_spare, .ref a_this_now, .ref a_this_history, .ref a_this_machine, .ref a_this_reader, .ref a_this_street, .ref a_this_choice, .ref a_this_ahead, .ref a_this_watch, .ref a_this_octets, .int x_this_octetCount, .ref a_this_refusals, .long x_this_drawn]))] H := hP
  have hD : va_D A [(a_this, .inr (9, [.ref a_this_tape, .int 0, .ref a_this_plan, .ref a_this_spare, .ref a_this_now, .ref a_this_history, .ref a_this_machine, .ref a_this_reader, .ref a_this_street, .ref a_this_choice, .ref a_this_ahead, .ref a_this_watch, .ref a_this_octets, .int x_this_octetCount, .ref a_this_refusals, .long x_this_drawn]))] := hD
  refine lv_iload_n hx hb dX9_takeTape_10 rfl (lv_at hl 0 rfl) ?_
  subst hQ; exact k_iret hx hb hr hlk rfl 0 hS ⟨ib_w 0 1600 hx_this_tapeSize (by decide), ib_w 0 1600 (ib_c 0 0 0 (by decide)) (by decide)⟩ hP hD (Nat.le_of_ble_eq_true rfl) (Nat.le_of_ble_eq_true rfl) dX9_takeTape_11
set_option maxHeartbeats 4000000 in
set_option maxRecDepth 100000 in
theorem s_X9_has (l : Launch) (dC : Nat → ClassId) (dI : Nat → Nat → Nat) (cy : Nat → ClassId) (sq : Nat → Nat) (a_this : Nat) (a_this_tape : Nat) (x_this_tapeSize : Int32) (a_this_plan : Nat) (x_this_plan_cycle : Int32) (x_this_plan_green : Int32) (x_this_plan_rule : Int32) (x_this_plan_least : Int32) (x_this_plan_away : Int32) (x_this_plan_statements : Int32) (x_this_plan_kinds : Int32) (a_this_plan_calm : Nat) (a_this_plan_pace : Nat) (a_this_plan_trusts : Nat) (x_this_plan_walkers : Int32) (a_this_plan_kindOf : Nat) (a_this_plan_comesAt : Nat) (a_this_plan_comers : Nat) (a_this_plan_names : Nat) (a_this_plan_code : Nat) (x_this_plan_size : Int32) (a_this_plan_spans : Nat) (a_this_spare : Nat) (a_this_now : Nat) (x_this_now_day : Int32) (x_this_now_rule : Int32) (x_this_now_green : Int32) (a_this_now_trusts : Nat) (a_this_history : Nat) (a_this_history_ring : Nat) (x_this_history_next : Int32) (x_this_history_count : Int32) (a_this_machine : Nat) (a_this_reader : Nat) (a_this_street : Nat) (a_this_choice : Nat) (a_this_ahead : Nat) (a_this_watch : Nat) (a_this_watch_seenWalker : Nat) (a_this_watch_seenSecond : Nat) (x_this_watch_rows : Int32) (x_this_watch_compared : Int32) (a_this_watch_seconds : Nat) (x_this_watch_found : Int32) (x_this_watch_foundRules : Int32) (x_this_watch_foundGreen : Int32) (x_this_watch_chosen : Int32) (x_this_watch_chosenLeft : Int32) (a_this_octets : Nat) (x_this_octetCount : Int32) (a_this_refusals : Nat) (x_this_drawn : Int64) (p0 : Int32) (hx_this_tapeSize : ib x_this_tapeSize 0 1600) (hx_this_plan_cycle : ib x_this_plan_cycle 0 120) (hx_this_plan_least : ib x_this_plan_least 0 99) (hx_this_plan_statements : ib x_this_plan_statements 0 81) (hx_this_plan_kinds : ib x_this_plan_kinds 0 6) (hx_this_plan_walkers : ib x_this_plan_walkers 0 12) (hx_this_plan_size : ib x_this_plan_size 0 1600) (hx_this_history_next : ib x_this_history_next 0 19) (hx_this_history_count : ib x_this_history_count 0 20) (hx_this_watch_rows : ib x_this_watch_rows 0 16) (hx_this_watch_compared : ib x_this_watch_compared 0 1) (hx_this_watch_found : ib x_this_watch_found 0 60) (hx_this_octetCount : ib x_this_octetCount 0 11) : k_Met l yX9_has cX9_has 2 (some .int) { frames := 0, cells := 0, slots := 0, locals := 0 } dC dI cy sq [.ref a_this, .int p0] [(a_this, .inr (9, [.ref a_this_tape, .int x_this_tapeSize, .ref a_this_plan, .ref a_this_spare, .ref a_this_now, .ref a_this_history, .ref a_this_machine, .ref a_this_reader, .ref a_this_street, .ref a_this_choice, .ref a_this_ahead, .ref a_this_watch, .ref a_this_octets, .int x_this_octetCount, .ref a_this_refusals, .long x_this_drawn])), (a_this_plan, .inr (4, [.int x_this_plan_cycle, .int x_this_plan_green, .int x_this_plan_rule, .int x_this_plan_least, .int x_this_plan_away, .int x_this_plan_statements, .int x_this_plan_kinds, .ref a_this_plan_calm, .ref a_this_plan_pace, .ref a_this_plan_trusts, .int x_this_plan_walkers, .ref a_this_plan_kindOf, .ref a_this_plan_comesAt, .ref a_this_plan_comers, .ref a_this_plan_names, .ref a_this_plan_code, .int x_this_plan_size, .ref a_this_plan_spans])), (a_this_now, .inr (6, [.int x_this_now_day, .int x_this_now_rule, .int x_this_now_green, .ref a_this_now_trusts])), (a_this_watch, .inr (8, [.ref a_this_street, .ref a_this_watch_seenWalker, .ref a_this_watch_seenSecond, .int x_this_watch_rows, .int x_this_watch_compared, .ref a_this_watch_seconds, .int x_this_watch_found, .int x_this_watch_foundRules, .int x_this_watch_foundGreen, .int x_this_watch_chosen, .int x_this_watch_chosenLeft])), (a_this_history, .inr (2, [.ref a_this_history_ring, .int x_this_history_next, .int x_this_history_count]))] (k_Qi dC dI (fun (r : Int32) (_ : Unit) => True) (fun _ : Unit => [(a_this, .inr (9, [.ref a_this_tape, .int x_this_tapeSize, .ref a_this_plan, .ref a_this_spare, .ref a_this_now, .ref a_this_history, .ref a_this_machine, .ref a_this_reader, .ref a_this_street, .ref a_this_choice, .ref a_this_ahead, .ref a_this_watch, .ref a_this_octets, .int x_this_octetCount, .ref a_this_refusals, .long x_this_drawn])), (a_this_plan, .inr (4, [.int x_this_plan_cycle, .int x_this_plan_green, .int x_this_plan_rule, .int x_this_plan_least, .int x_this_plan_away, .int x_this_plan_statements, .int x_this_plan_kinds, .ref a_this_plan_calm, .ref a_this_plan_pace, .ref a_this_plan_trusts, .int x_this_plan_walkers, .ref a_this_plan_kindOf, .ref a_this_plan_comesAt, .ref a_this_plan_comers, .ref a_this_plan_names, .ref a_this_plan_code, .int x_this_plan_size, .ref a_this_plan_spans])), (a_this_now, .inr (6, [.int x_this_now_day, .int x_this_now_rule, .int x_this_now_green, .ref a_this_now_trusts])), (a_this_watch, .inr (8, [.ref a_this_street, .ref a_this_watch_seenWalker, .ref a_this_watch_seenSecond, .int x_this_watch_rows, .int x_this_watch_compared, .ref a_this_watch_seconds, .int x_this_watch_found, .int x_this_watch_foundRules, .int x_this_watch_foundGreen, .int x_this_watch_chosen, .int x_this_watch_chosenLeft])), (a_this_history, .inr (2, [.ref a_this_history_ring, .int x_this_history_next, .int x_this_history_count]))])) := by
  refine k_ofW2 (by decide +kernel) (Nat.le_of_ble_eq_true rfl) ?_
  intro p e s m below meth c A ls H locs args Q hQ C0 hr hlk hin hP hD hA hS hl
  have C0 : k_cx p s m args c cX9_has 2 RX9 dC dI cy sq := C0
  have hx := C0.1
  have hb := C0.2.1
  have hl : lv_has ls 2 [(0, .ref a_this), (1, .int p0)] := hl
  refine lv_iload_n hx hb dX9_has_0 rfl (lv_at hl 1 rfl) ?_
  rcases Decidable.em (p0 = 0) with s297_0 | s297_0
  · subst s297_0
    refine lv_tableIn (off := 47) (tgt := 48) hx hb dX9_has_1 (by decide) (by decide) (by decide) (by decide) ?_
    refine lv_aload_n hx hb dX9_has_48 rfl (lv_at hl 0 rfl) ?_
    refine k_get C0 fg_X9_20 hP 0 rfl rfl dX9_has_49 ?_
    refine k_get C0 fg_X9_145 hP 1 rfl rfl dX9_has_52 ?_
    subst hQ; exact k_iret hx hb hr hlk rfl () hS True.intro hP hD (Nat.le_of_ble_eq_true rfl) (Nat.le_of_ble_eq_true rfl) dX9_has_55
  rcases Decidable.em (p0 = 1) with s297_1 | s297_1
  · subst s297_1
    refine lv_tableIn (off := 55) (tgt := 56) hx hb dX9_has_1 (by decide) (by decide) (by decide) (by decide) ?_
    refine lv_aload_n hx hb dX9_has_56 rfl (lv_at hl 0 rfl) ?_
    refine k_get C0 fg_X9_20 hP 0 rfl rfl dX9_has_57 ?_
    refine k_get C0 fg_X9_148 hP 1 rfl rfl dX9_has_60 ?_
    subst hQ; exact k_iret hx hb hr hlk rfl () hS True.intro hP hD (Nat.le_of_ble_eq_true rfl) (Nat.le_of_ble_eq_true rfl) dX9_has_63
  rcases Decidable.em (p0 = 2) with s297_2 | s297_2
  · subst s297_2
    refine lv_tableIn (off := 63) (tgt := 64) hx hb dX9_has_1 (by decide) (by decide) (by decide) (by decide) ?_
    refine lv_aload_n hx hb dX9_has_64 rfl (lv_at hl 0 rfl) ?_
    refine k_get C0 fg_X9_20 hP 0 rfl rfl dX9_has_65 ?_
    refine k_get C0 fg_X9_151 hP 1 rfl rfl dX9_has_68 ?_
    subst hQ; exact k_iret hx hb hr hlk rfl () hS True.intro hP hD (Nat.le_of_ble_eq_true rfl) (Nat.le_of_ble_eq_true rfl) dX9_has_71
  rcases Decidable.em (p0 = 3) with s297_3 | s297_3
  · subst s297_3
    refine lv_tableIn (off := 71) (tgt := 72) hx hb dX9_has_1 (by decide) (by decide) (by decide) (by decide) ?_
    refine lv_aload_n hx hb dX9_has_72 rfl (lv_at hl 0 rfl) ?_
    refine k_get C0 fg_X9_30 hP 0 rfl rfl dX9_has_73 ?_
    refine k_get C0 fg_X9_154 hP 2 rfl rfl dX9_has_76 ?_
    subst hQ; exact k_iret hx hb hr hlk rfl () hS True.intro hP hD (Nat.le_of_ble_eq_true rfl) (Nat.le_of_ble_eq_true rfl) dX9_has_79
  rcases Decidable.em (p0 = 4) with s297_4 | s297_4
  · subst s297_4
    refine lv_tableIn (off := 79) (tgt := 80) hx hb dX9_has_1 (by decide) (by decide) (by decide) (by decide) ?_
    refine lv_aload_n hx hb dX9_has_80 rfl (lv_at hl 0 rfl) ?_
    refine k_get C0 fg_X9_30 hP 0 rfl rfl dX9_has_81 ?_
    refine k_get C0 fg_X9_157 hP 2 rfl rfl dX9_has_84 ?_
    subst hQ; exact k_iret hx hb hr hlk rfl () hS True.intro hP hD (Nat.le_of_ble_eq_true rfl) (Nat.le_of_ble_eq_true rfl) dX9_has_87
  rcases Decidable.em (p0 = 5) with s297_5 | s297_5
  · subst s297_5
    refine lv_tableIn (off := 87) (tgt := 88) hx hb dX9_has_1 (by decide) (by decide) (by decide) (by decide) ?_
    refine lv_aload_n hx hb dX9_has_88 rfl (lv_at hl 0 rfl) ?_
    refine k_get C0 fg_X9_30 hP 0 rfl rfl dX9_has_89 ?_
    refine k_get C0 fg_X9_160 hP 2 rfl rfl dX9_has_92 ?_
    subst hQ; exact k_iret hx hb hr hlk rfl () hS True.intro hP hD (Nat.le_of_ble_eq_true rfl) (Nat.le_of_ble_eq_true rfl) dX9_has_95
  rcases Decidable.em (p0 = 6) with s297_6 | s297_6
  · subst s297_6
    refine lv_tableIn (off := 95) (tgt := 96) hx hb dX9_has_1 (by decide) (by decide) (by decide) (by decide) ?_
    refine lv_aload_n hx hb dX9_has_96 rfl (lv_at hl 0 rfl) ?_
    refine k_get C0 fg_X9_85 hP 0 rfl rfl dX9_has_97 ?_
    refine k_get C0 fg_X9_163 hP 3 rfl rfl dX9_has_100 ?_
    subst hQ; exact k_iret hx hb hr hlk rfl () hS True.intro hP hD (Nat.le_of_ble_eq_true rfl) (Nat.le_of_ble_eq_true rfl) dX9_has_103
  rcases Decidable.em (p0 = 7) with s297_7 | s297_7
  · subst s297_7
    refine lv_tableIn (off := 103) (tgt := 104) hx hb dX9_has_1 (by decide) (by decide) (by decide) (by decide) ?_
    refine lv_aload_n hx hb dX9_has_104 rfl (lv_at hl 0 rfl) ?_
    refine k_get C0 fg_X9_37 hP 0 rfl rfl dX9_has_105 ?_
    refine k_get C0 fg_X9_166 hP 4 rfl rfl dX9_has_108 ?_
    subst hQ; exact k_iret hx hb hr hlk rfl () hS True.intro hP hD (Nat.le_of_ble_eq_true rfl) (Nat.le_of_ble_eq_true rfl) dX9_has_111
  refine lv_tableOut (tgt := 112) hx hb dX9_has_1 (by simp only [← Int32.toInt_inj, kl0, kl1, kl2, kl3, kl4, kl5, kl6, kl7, kl60, klm1] at s297_0 s297_1 s297_2 s297_3 s297_4 s297_5 s297_6 s297_7; omega) (by decide) ?_
  refine lv_iconst (v := (-1)) hx hb dX9_has_112 (by decide) ?_
  subst hQ; exact k_iret hx hb hr hlk rfl () hS True.intro hP hD (Nat.le_of_ble_eq_true rfl) (Nat.le_of_ble_eq_true rfl) dX9_has_113
set_option maxHeartbeats 4000000 in
set_option maxRecDepth 100000 in
theorem s_X1_forget (l : Launch) (dC : Nat → ClassId) (dI : Nat → Nat → Nat) (cy : Nat → ClassId) (sq : Nat → Nat) (a_this : Nat) (a_this_street : Nat) (a_this_table : Nat) (x_this_tableKnown : Int32) (hx_this_tableKnown : ib x_this_tableKnown 0 1) : k_Met l yX1_forget cX1_forget 1 none { frames := 0, cells := 0, slots := 0, locals := 0 } dC dI cy sq [.ref a_this] [(a_this, .inr (1, [.ref a_this_street, .ref a_this_table, .int x_this_tableKnown]))] (k_Qv dC dI (fun (n0 : Int32) => ib n0 0 1) (fun n0 : Int32 => [(a_this, .inr (1, [.ref a_this_street, .ref a_this_table, .int n0]))])) := by
  refine k_ofW2 (by decide +kernel) (Nat.le_of_ble_eq_true rfl) ?_
  intro p e s m below meth c A ls H locs args Q hQ C0 hr hlk hin hP hD hA hS hl
  have C0 : k_cx p s m args c cX1_forget 1 RX1 dC dI cy sq := C0
  have hx := C0.1
  have hb := C0.2.1
  have hl : lv_has ls 1 [(0, .ref a_this)] := hl
  refine lv_aload_n hx hb dX1_forget_0 rfl (lv_at hl 0 rfl) ?_
  refine lv_iconst (v := 0) hx hb dX1_forget_1 (by decide) ?_
  refine k_put C0 fp_X1_15 hP hD hS 0 rfl (k_nb 0 (by decide)) (k_fb 0 (by decide)) (Nat.le_of_ble_eq_true rfl) dX1_forget_2 (fun H locs hP hD hS => ?_)
  have hP : va_P (dC, dI) vwCl [(a_this, .inr (1, [.ref a_this_street, .ref a_this_table, .int 0]))] H := hP
  have hD : va_D A [(a_this, .inr (1, [.ref a_this_street, .ref a_this_table, .int 0]))] := hD
  subst hQ; exact k_vret hx hb hr hlk 0 hS (ib_w 0 1 (ib_c 0 0 0 (by decide)) (by decide)) hP hD (Nat.le_of_ble_eq_true rfl) (Nat.le_of_ble_eq_true rfl) dX1_forget_5
set_option maxHeartbeats 4000000 in
set_option maxRecDepth 100000 in
theorem s_X0_forget (l : Launch) (dC : Nat → ClassId) (dI : Nat → Nat → Nat) (cy : Nat → ClassId) (sq : Nat → Nat) (a_this : Nat) (a_this_street : Nat) (a_this_state : Nat) (a_this_told : Nat) (a_this_trusts : Nat) (x_this_known : Int32) (hx_this_known : ib x_this_known 0 30) : k_Met l yX0_forget cX0_forget 1 none { frames := 0, cells := 0, slots := 0, locals := 0 } dC dI cy sq [.ref a_this] [(a_this, .inr (0, [.ref a_this_street, .ref a_this_state, .ref a_this_told, .ref a_this_trusts, .int x_this_known]))] (k_Qv dC dI (fun (n0 : Int32) => ib n0 0 30) (fun n0 : Int32 => [(a_this, .inr (0, [.ref a_this_street, .ref a_this_state, .ref a_this_told, .ref a_this_trusts, .int n0]))])) := by
  refine k_ofW2 (by decide +kernel) (Nat.le_of_ble_eq_true rfl) ?_
  intro p e s m below meth c A ls H locs args Q hQ C0 hr hlk hin hP hD hA hS hl
  have C0 : k_cx p s m args c cX0_forget 1 RX0 dC dI cy sq := C0
  have hx := C0.1
  have hb := C0.2.1
  have hl : lv_has ls 1 [(0, .ref a_this)] := hl
  refine lv_aload_n hx hb dX0_forget_0 rfl (lv_at hl 0 rfl) ?_
  refine lv_iconst (v := 0) hx hb dX0_forget_1 (by decide) ?_
  refine k_put C0 fp_X0_25 hP hD hS 0 rfl rfl rfl (Nat.le_of_ble_eq_true rfl) dX0_forget_2 (fun H locs hP hD hS => ?_)
  have hP : va_P (dC, dI) vwCl [(a_this, .inr (0, [.ref a_this_street, .ref a_this_state, .ref a_this_told, .ref a_this_trusts, .int 0]))] H := hP
  have hD : va_D A [(a_this, .inr (0, [.ref a_this_street, .ref a_this_state, .ref a_this_told, .ref a_this_trusts, .int 0]))] := hD
  subst hQ; exact k_vret hx hb hr hlk 0 hS (ib_w 0 30 (ib_c 0 0 0 (by decide)) (by decide)) hP hD (Nat.le_of_ble_eq_true rfl) (Nat.le_of_ble_eq_true rfl) dX0_forget_5
set_option maxHeartbeats 4000000 in
set_option maxRecDepth 100000 in
theorem s_X8_forget (l : Launch) (dC : Nat → ClassId) (dI : Nat → Nat → Nat) (cy : Nat → ClassId) (sq : Nat → Nat) (a_this : Nat) (a_this_street : Nat) (a_this_seenWalker : Nat) (a_this_seenSecond : Nat) (x_this_rows : Int32) (x_this_compared : Int32) (a_this_seconds : Nat) (x_this_found : Int32) (x_this_foundRules : Int32) (x_this_foundGreen : Int32) (x_this_chosen : Int32) (x_this_chosenLeft : Int32) (hx_this_rows : ib x_this_rows 0 16) (hx_this_compared : ib x_this_compared 0 1) (hx_this_found : ib x_this_found 0 60) : k_Met l yX8_forget cX8_forget 1 none { frames := 0, cells := 0, slots := 0, locals := 0 } dC dI cy sq [.ref a_this] [(a_this, .inr (8, [.ref a_this_street, .ref a_this_seenWalker, .ref a_this_seenSecond, .int x_this_rows, .int x_this_compared, .ref a_this_seconds, .int x_this_found, .int x_this_foundRules, .int x_this_foundGreen, .int x_this_chosen, .int x_this_chosenLeft]))] (k_Qv dC dI (fun (n0 : Int32) => ib n0 0 1) (fun n0 : Int32 => [(a_this, .inr (8, [.ref a_this_street, .ref a_this_seenWalker, .ref a_this_seenSecond, .int x_this_rows, .int n0, .ref a_this_seconds, .int x_this_found, .int x_this_foundRules, .int x_this_foundGreen, .int x_this_chosen, .int x_this_chosenLeft]))])) := by
  refine k_ofW2 (by decide +kernel) (Nat.le_of_ble_eq_true rfl) ?_
  intro p e s m below meth c A ls H locs args Q hQ C0 hr hlk hin hP hD hA hS hl
  have C0 : k_cx p s m args c cX8_forget 1 RX8 dC dI cy sq := C0
  have hx := C0.1
  have hb := C0.2.1
  have hl : lv_has ls 1 [(0, .ref a_this)] := hl
  refine lv_aload_n hx hb dX8_forget_0 rfl (lv_at hl 0 rfl) ?_
  refine lv_iconst (v := 0) hx hb dX8_forget_1 (by decide) ?_
  refine k_put C0 fp_X8_22 hP hD hS 0 rfl (k_nb 0 (by decide)) (k_fb 0 (by decide)) (Nat.le_of_ble_eq_true rfl) dX8_forget_2 (fun H locs hP hD hS => ?_)
  have hP : va_P (dC, dI) vwCl [(a_this, .inr (8, [.ref a_this_street, .ref a_this_seenWalker, .ref a_this_seenSecond, .int x_this_rows, .int 0, .ref a_this_seconds, .int x_this_found, .int x_this_foundRules, .int x_this_foundGreen, .int x_this_chosen, .int x_this_chosenLeft]))] H := hP
  have hD : va_D A [(a_this, .inr (8, [.ref a_this_street, .ref a_this_seenWalker, .ref a_this_seenSecond, .int x_this_rows, .int 0, .ref a_this_seconds, .int x_this_found, .int x_this_foundRules, .int x_this_foundGreen, .int x_this_chosen, .int x_this_chosenLeft]))] := hD
  subst hQ; exact k_vret hx hb hr hlk 0 hS (ib_w 0 1 (ib_c 0 0 0 (by decide)) (by decide)) hP hD (Nat.le_of_ble_eq_true rfl) (Nat.le_of_ble_eq_true rfl) dX8_forget_5
set_option maxHeartbeats 4000000 in
set_option maxRecDepth 100000 in
theorem s_X9_changed (l : Launch) (dC : Nat → ClassId) (dI : Nat → Nat → Nat) (cy : Nat → ClassId) (sq : Nat → Nat) (a_this : Nat) (a_this_tape : Nat) (x_this_tapeSize : Int32) (a_this_plan : Nat) (a_this_spare : Nat) (a_this_now : Nat) (a_this_history : Nat) (a_this_machine : Nat) (a_this_reader : Nat) (a_this_street : Nat) (a_this_choice : Nat) (a_this_choice_table : Nat) (x_this_choice_tableKnown : Int32) (a_this_ahead : Nat) (a_this_ahead_state : Nat) (a_this_ahead_told : Nat) (a_this_ahead_trusts : Nat) (x_this_ahead_known : Int32) (a_this_watch : Nat) (a_this_watch_seenWalker : Nat) (a_this_watch_seenSecond : Nat) (x_this_watch_rows : Int32) (x_this_watch_compared : Int32) (a_this_watch_seconds : Nat) (x_this_watch_found : Int32) (x_this_watch_foundRules : Int32) (x_this_watch_foundGreen : Int32) (x_this_watch_chosen : Int32) (x_this_watch_chosenLeft : Int32) (a_this_octets : Nat) (x_this_octetCount : Int32) (a_this_refusals : Nat) (x_this_drawn : Int64) (hx_this_tapeSize : ib x_this_tapeSize 0 1600) (hx_this_choice_tableKnown : ib x_this_choice_tableKnown 0 1) (hx_this_ahead_known : ib x_this_ahead_known 0 30) (hx_this_watch_rows : ib x_this_watch_rows 0 16) (hx_this_watch_compared : ib x_this_watch_compared 0 1) (hx_this_watch_found : ib x_this_watch_found 0 60) (hx_this_octetCount : ib x_this_octetCount 0 11) : k_Met l yX9_changed cX9_changed 1 none { frames := 1, cells := 0, slots := 0, locals := 20 } dC dI cy sq [.ref a_this] [(a_this, .inr (9, [.ref a_this_tape, .int x_this_tapeSize, .ref a_this_plan, .ref a_this_spare, .ref a_this_now, .ref a_this_history, .ref a_this_machine, .ref a_this_reader, .ref a_this_street, .ref a_this_choice, .ref a_this_ahead, .ref a_this_watch, .ref a_this_octets, .int x_this_octetCount, .ref a_this_refusals, .long x_this_drawn])), (a_this_choice, .inr (1, [.ref a_this_street, .ref a_this_choice_table, .int x_this_choice_tableKnown])), (a_this_ahead, .inr (0, [.ref a_this_street, .ref a_this_ahead_state, .ref a_this_ahead_told, .ref a_this_ahead_trusts, .int x_this_ahead_known])), (a_this_watch, .inr (8, [.ref a_this_street, .ref a_this_watch_seenWalker, .ref a_this_watch_seenSecond, .int x_this_watch_rows, .int x_this_watch_compared, .ref a_this_watch_seconds, .int x_this_watch_found, .int x_this_watch_foundRules, .int x_this_watch_foundGreen, .int x_this_watch_chosen, .int x_this_watch_chosenLeft]))] (k_Qv dC dI (fun (u : Int32 × Int32 × Int32) => match u with | (n0, n1, n2) => ib n0 0 1 ∧ ib n1 0 30 ∧ ib n2 0 1) (fun u : Int32 × Int32 × Int32 => match u with | (n0, n1, n2) => [(a_this, .inr (9, [.ref a_this_tape, .int x_this_tapeSize, .ref a_this_plan, .ref a_this_spare, .ref a_this_now, .ref a_this_history, .ref a_this_machine, .ref a_this_reader, .ref a_this_street, .ref a_this_choice, .ref a_this_ahead, .ref a_this_watch, .ref a_this_octets, .int x_this_octetCount, .ref a_this_refusals, .long x_this_drawn])), (a_this_choice, .inr (1, [.ref a_this_street, .ref a_this_choice_table, .int n0])), (a_this_ahead, .inr (0, [.ref a_this_street, .ref a_this_ahead_state, .ref a_this_ahead_told, .ref a_this_ahead_trusts, .int n1])), (a_this_watch, .inr (8, [.ref a_this_street, .ref a_this_watch_seenWalker, .ref a_this_watch_seenSecond, .int x_this_watch_rows, .int n2, .ref a_this_watch_seconds, .int x_this_watch_found, .int x_this_watch_foundRules, .int x_this_watch_foundGreen, .int x_this_watch_chosen, .int x_this_watch_chosenLeft]))])) := by
  refine k_ofW2 (by decide +kernel) (Nat.le_of_ble_eq_true rfl) ?_
  intro p e s m below meth c A ls H locs args Q hQ C0 hr hlk hin hP hD hA hS hl
  have C0 : k_cx p s m args c cX9_changed 1 RX9 dC dI cy sq := C0
  have hx := C0.1
  have hb := C0.2.1
  have hl : lv_has ls 1 [(0, .ref a_this)] := hl
  refine lv_aload_n hx hb dX9_changed_0 rfl (lv_at hl 0 rfl) ?_
  refine k_get C0 fg_X9_71 hP 0 rfl rfl dX9_changed_1 ?_
  refine k_jv hP hD hS hA [1] [0, 2, 3] (wr := [(a_this, .inr (9, [.ref a_this_tape, .int x_this_tapeSize, .ref a_this_plan, .ref a_this_spare, .ref a_this_now, .ref a_this_history, .ref a_this_machine, .ref a_this_reader, .ref a_this_street, .ref a_this_choice, .ref a_this_ahead, .ref a_this_watch, .ref a_this_octets, .int x_this_octetCount, .ref a_this_refusals, .long x_this_drawn])), (a_this_ahead, .inr (0, [.ref a_this_street, .ref a_this_ahead_state, .ref a_this_ahead_told, .ref a_this_ahead_trusts, .int x_this_ahead_known])), (a_this_watch, .inr (8, [.ref a_this_street, .ref a_this_watch_seenWalker, .ref a_this_watch_seenSecond, .int x_this_watch_rows, .int x_this_watch_compared, .ref a_this_watch_seconds, .int x_this_watch_found, .int x_this_watch_foundRules, .int x_this_watch_foundGreen, .int x_this_watch_chosen, .int x_this_watch_chosenLeft]))]) rfl rfl (by decide) (by decide) (by decide) 0 0 (Nat.le_of_ble_eq_true rfl) (Nat.le_of_ble_eq_true rfl) (fun hPc hDc => k_runV (As := []) (rest := []) C0 (s_X1_forget l dC dI cy sq a_this_choice a_this_street a_this_choice_table x_this_choice_tableKnown (ib_w 0 1 hx_this_choice_tableKnown (by decide))) mV_X9_333 hPc hDc rfl rfl rfl hl rfl rfl (Nat.le_of_ble_eq_true rfl) ⟨(Nat.le_of_ble_eq_true rfl), (Nat.le_of_ble_eq_true rfl)⟩ ⟨(Nat.le_of_ble_eq_true rfl), (Nat.le_of_ble_eq_true rfl)⟩ dX9_changed_4) (fun u323 H locs hw hP hD hS => ?_)
  obtain ⟨v324, ev324⟩ : ∃ z, z = u323 := ⟨_, rfl⟩; subst ev324
  try dsimp only at hP hD hw
  have hP : va_P (dC, dI) vwCl [(a_this, .inr (9, [.ref a_this_tape, .int x_this_tapeSize, .ref a_this_plan, .ref a_this_spare, .ref a_this_now, .ref a_this_history, .ref a_this_machine, .ref a_this_reader, .ref a_this_street, .ref a_this_choice, .ref a_this_ahead, .ref a_this_watch, .ref a_this_octets, .int x_this_octetCount, .ref a_this_refusals, .long x_this_drawn])), (a_this_ahead, .inr (0, [.ref a_this_street, .ref a_this_ahead_state, .ref a_this_ahead_told, .ref a_this_ahead_trusts, .int x_this_ahead_known])), (a_this_watch, .inr (8, [.ref a_this_street, .ref a_this_watch_seenWalker, .ref a_this_watch_seenSecond, .int x_this_watch_rows, .int x_this_watch_compared, .ref a_this_watch_seconds, .int x_this_watch_found, .int x_this_watch_foundRules, .int x_this_watch_foundGreen, .int x_this_watch_chosen, .int x_this_watch_chosenLeft])), (a_this_choice, .inr (1, [.ref a_this_street, .ref a_this_choice_table, .int v324]))] H := hP
  have hD : va_D A [(a_this, .inr (9, [.ref a_this_tape, .int x_this_tapeSize, .ref a_this_plan, .ref a_this_spare, .ref a_this_now, .ref a_this_history, .ref a_this_machine, .ref a_this_reader, .ref a_this_street, .ref a_this_choice, .ref a_this_ahead, .ref a_this_watch, .ref a_this_octets, .int x_this_octetCount, .ref a_this_refusals, .long x_this_drawn])), (a_this_ahead, .inr (0, [.ref a_this_street, .ref a_this_ahead_state, .ref a_this_ahead_told, .ref a_this_ahead_trusts, .int x_this_ahead_known])), (a_this_watch, .inr (8, [.ref a_this_street, .ref a_this_watch_seenWalker, .ref a_this_watch_seenSecond, .int x_this_watch_rows, .int x_this_watch_compared, .ref a_this_watch_seconds, .int x_this_watch_found, .int x_this_watch_foundRules, .int x_this_watch_foundGreen, .int x_this_watch_chosen, .int x_this_watch_chosenLeft])), (a_this_choice, .inr (1, [.ref a_this_street, .ref a_this_choice_table, .int v324]))] := hD
  have h325 := hw
  refine lv_aload_n hx hb dX9_changed_7 rfl (lv_at hl 0 rfl) ?_
  refine k_get C0 fg_X9_78 hP 0 rfl rfl dX9_changed_8 ?_
  refine k_jv hP hD hS hA [1] [0, 2, 3] (wr := [(a_this, .inr (9, [.ref a_this_tape, .int x_this_tapeSize, .ref a_this_plan, .ref a_this_spare, .ref a_this_now, .ref a_this_history, .ref a_this_machine, .ref a_this_reader, .ref a_this_street, .ref a_this_choice, .ref a_this_ahead, .ref a_this_watch, .ref a_this_octets, .int x_this_octetCount, .ref a_this_refusals, .long x_this_drawn])), (a_this_watch, .inr (8, [.ref a_this_street, .ref a_this_watch_seenWalker, .ref a_this_watch_seenSecond, .int x_this_watch_rows, .int x_this_watch_compared, .ref a_this_watch_seconds, .int x_this_watch_found, .int x_this_watch_foundRules, .int x_this_watch_foundGreen, .int x_this_watch_chosen, .int x_this_watch_chosenLeft])), (a_this_choice, .inr (1, [.ref a_this_street, .ref a_this_choice_table, .int v324]))]) rfl rfl (by decide) (by decide) (by decide) 0 0 (Nat.le_of_ble_eq_true rfl) (Nat.le_of_ble_eq_true rfl) (fun hPc hDc => k_runV (As := []) (rest := []) C0 (s_X0_forget l dC dI cy sq a_this_ahead a_this_street a_this_ahead_state a_this_ahead_told a_this_ahead_trusts x_this_ahead_known (ib_w 0 30 hx_this_ahead_known (by decide))) mV_X9_336 hPc hDc rfl rfl rfl hl rfl rfl (Nat.le_of_ble_eq_true rfl) ⟨(Nat.le_of_ble_eq_true rfl), (Nat.le_of_ble_eq_true rfl)⟩ ⟨(Nat.le_of_ble_eq_true rfl), (Nat.le_of_ble_eq_true rfl)⟩ dX9_changed_11) (fun u327 H locs hw hP hD hS => ?_)
  obtain ⟨v328, ev328⟩ : ∃ z, z = u327 := ⟨_, rfl⟩; subst ev328
  try dsimp only at hP hD hw
  have hP : va_P (dC, dI) vwCl [(a_this, .inr (9, [.ref a_this_tape, .int x_this_tapeSize, .ref a_this_plan, .ref a_this_spare, .ref a_this_now, .ref a_this_history, .ref a_this_machine, .ref a_this_reader, .ref a_this_street, .ref a_this_choice, .ref a_this_ahead, .ref a_this_watch, .ref a_this_octets, .int x_this_octetCount, .ref a_this_refusals, .long x_this_drawn])), (a_this_watch, .inr (8, [.ref a_this_street, .ref a_this_watch_seenWalker, .ref a_this_watch_seenSecond, .int x_this_watch_rows, .int x_this_watch_compared, .ref a_this_watch_seconds, .int x_this_watch_found, .int x_this_watch_foundRules, .int x_this_watch_foundGreen, .int x_this_watch_chosen, .int x_this_watch_chosenLeft])), (a_this_choice, .inr (1, [.ref a_this_street, .ref a_this_choice_table, .int v324])), (a_this_ahead, .inr (0, [.ref a_this_street, .ref a_this_ahead_state, .ref a_this_ahead_told, .ref a_this_ahead_trusts, .int v328]))] H := hP
  have hD : va_D A [(a_this, .inr (9, [.ref a_this_tape, .int x_this_tapeSize, .ref a_this_plan, .ref a_this_spare, .ref a_this_now, .ref a_this_history, .ref a_this_machine, .ref a_this_reader, .ref a_this_street, .ref a_this_choice, .ref a_this_ahead, .ref a_this_watch, .ref a_this_octets, .int x_this_octetCount, .ref a_this_refusals, .long x_this_drawn])), (a_this_watch, .inr (8, [.ref a_this_street, .ref a_this_watch_seenWalker, .ref a_this_watch_seenSecond, .int x_this_watch_rows, .int x_this_watch_compared, .ref a_this_watch_seconds, .int x_this_watch_found, .int x_this_watch_foundRules, .int x_this_watch_foundGreen, .int x_this_watch_chosen, .int x_this_watch_chosenLeft])), (a_this_choice, .inr (1, [.ref a_this_street, .ref a_this_choice_table, .int v324])), (a_this_ahead, .inr (0, [.ref a_this_street, .ref a_this_ahead_state, .ref a_this_ahead_told, .ref a_this_ahead_trusts, .int v328]))] := hD
  have h329 := hw
  refine lv_aload_n hx hb dX9_changed_14 rfl (lv_at hl 0 rfl) ?_
  refine k_get C0 fg_X9_85 hP 0 rfl rfl dX9_changed_15 ?_
  refine k_jv hP hD hS hA [1] [0, 2, 3] (wr := [(a_this, .inr (9, [.ref a_this_tape, .int x_this_tapeSize, .ref a_this_plan, .ref a_this_spare, .ref a_this_now, .ref a_this_history, .ref a_this_machine, .ref a_this_reader, .ref a_this_street, .ref a_this_choice, .ref a_this_ahead, .ref a_this_watch, .ref a_this_octets, .int x_this_octetCount, .ref a_this_refusals, .long x_this_drawn])), (a_this_choice, .inr (1, [.ref a_this_street, .ref a_this_choice_table, .int v324])), (a_this_ahead, .inr (0, [.ref a_this_street, .ref a_this_ahead_state, .ref a_this_ahead_told, .ref a_this_ahead_trusts, .int v328]))]) rfl rfl (by decide) (by decide) (by decide) 0 0 (Nat.le_of_ble_eq_true rfl) (Nat.le_of_ble_eq_true rfl) (fun hPc hDc => k_runV (As := []) (rest := []) C0 (s_X8_forget l dC dI cy sq a_this_watch a_this_street a_this_watch_seenWalker a_this_watch_seenSecond x_this_watch_rows x_this_watch_compared a_this_watch_seconds x_this_watch_found x_this_watch_foundRules x_this_watch_foundGreen x_this_watch_chosen x_this_watch_chosenLeft (ib_w 0 16 hx_this_watch_rows (by decide)) (ib_w 0 1 hx_this_watch_compared (by decide)) (ib_w 0 60 hx_this_watch_found (by decide))) mV_X9_337 hPc hDc rfl rfl rfl hl rfl rfl (Nat.le_of_ble_eq_true rfl) ⟨(Nat.le_of_ble_eq_true rfl), (Nat.le_of_ble_eq_true rfl)⟩ ⟨(Nat.le_of_ble_eq_true rfl), (Nat.le_of_ble_eq_true rfl)⟩ dX9_changed_18) (fun u331 H locs hw hP hD hS => ?_)
  obtain ⟨v332, ev332⟩ : ∃ z, z = u331 := ⟨_, rfl⟩; subst ev332
  try dsimp only at hP hD hw
  have hP : va_P (dC, dI) vwCl [(a_this, .inr (9, [.ref a_this_tape, .int x_this_tapeSize, .ref a_this_plan, .ref a_this_spare, .ref a_this_now, .ref a_this_history, .ref a_this_machine, .ref a_this_reader, .ref a_this_street, .ref a_this_choice, .ref a_this_ahead, .ref a_this_watch, .ref a_this_octets, .int x_this_octetCount, .ref a_this_refusals, .long x_this_drawn])), (a_this_choice, .inr (1, [.ref a_this_street, .ref a_this_choice_table, .int v324])), (a_this_ahead, .inr (0, [.ref a_this_street, .ref a_this_ahead_state, .ref a_this_ahead_told, .ref a_this_ahead_trusts, .int v328])), (a_this_watch, .inr (8, [.ref a_this_street, .ref a_this_watch_seenWalker, .ref a_this_watch_seenSecond, .int x_this_watch_rows, .int v332, .ref a_this_watch_seconds, .int x_this_watch_found, .int x_this_watch_foundRules, .int x_this_watch_foundGreen, .int x_this_watch_chosen, .int x_this_watch_chosenLeft]))] H := hP
  have hD : va_D A [(a_this, .inr (9, [.ref a_this_tape, .int x_this_tapeSize, .ref a_this_plan, .ref a_this_spare, .ref a_this_now, .ref a_this_history, .ref a_this_machine, .ref a_this_reader, .ref a_this_street, .ref a_this_choice, .ref a_this_ahead, .ref a_this_watch, .ref a_this_octets, .int x_this_octetCount, .ref a_this_refusals, .long x_this_drawn])), (a_this_choice, .inr (1, [.ref a_this_street, .ref a_this_choice_table, .int v324])), (a_this_ahead, .inr (0, [.ref a_this_street, .ref a_this_ahead_state, .ref a_this_ahead_told, .ref a_this_ahead_trusts, .int v328])), (a_this_watch, .inr (8, [.ref a_this_street, .ref a_this_watch_seenWalker, .ref a_this_watch_seenSecond, .int x_this_watch_rows, .int v332, .ref a_this_watch_seconds, .int x_this_watch_found, .int x_this_watch_foundRules, .int x_this_watch_foundGreen, .int x_this_watch_chosen, .int x_this_watch_chosenLeft]))] := hD
  have h333 := hw
  subst hQ; exact k_vret hx hb hr hlk ((v324, v328, v332)) hS ⟨ib_w 0 1 h325 (by decide), ib_w 0 30 h329 (by decide), ib_w 0 1 h333 (by decide)⟩ hP hD (Nat.le_of_ble_eq_true rfl) (Nat.le_of_ble_eq_true rfl) dX9_changed_21
set_option maxHeartbeats 4000000 in
set_option maxRecDepth 100000 in
theorem s_X7_walkers (l : Launch) (dC : Nat → ClassId) (dI : Nat → Nat → Nat) (cy : Nat → ClassId) (sq : Nat → Nat) (a_this : Nat) (a_this_machine : Nat) (a_this_plan : Nat) (x_this_plan_cycle : Int32) (x_this_plan_green : Int32) (x_this_plan_rule : Int32) (x_this_plan_least : Int32) (x_this_plan_away : Int32) (x_this_plan_statements : Int32) (x_this_plan_kinds : Int32) (a_this_plan_calm : Nat) (a_this_plan_pace : Nat) (a_this_plan_trusts : Nat) (x_this_plan_walkers : Int32) (a_this_plan_kindOf : Nat) (a_this_plan_comesAt : Nat) (a_this_plan_comers : Nat) (a_this_plan_names : Nat) (a_this_plan_code : Nat) (x_this_plan_size : Int32) (a_this_plan_spans : Nat) (x_this_day : Int32) (a_this_trusts : Nat) (x_this_rule : Int32) (x_this_green : Int32) (x_this_absent : Int32) (x_this_asksReds : Int32) (a_this_cars : Nat) (a_this_gaps : Nat) (a_this_known : Nat) (a_this_left : Nat) (a_this_leaves : Nat) (x_this_pressed : Int32) (x_this_crossed : Int32) (x_this_went : Int32) (x_this_harmed : Int32) (hx_this_plan_cycle : ib x_this_plan_cycle 0 120) (hx_this_plan_least : ib x_this_plan_least 0 99) (hx_this_plan_statements : ib x_this_plan_statements 0 81) (hx_this_plan_kinds : ib x_this_plan_kinds 0 6) (hx_this_plan_walkers : ib x_this_plan_walkers 0 12) (hx_this_plan_size : ib x_this_plan_size 0 1600) (hx_this_asksReds : ib x_this_asksReds 0 1) : k_Met l yX7_walkers cX7_walkers 1 (some .int) { frames := 0, cells := 0, slots := 0, locals := 0 } dC dI cy sq [.ref a_this] [(a_this, .inr (7, [.ref a_this_machine, .ref a_this_plan, .int x_this_day, .ref a_this_trusts, .int x_this_rule, .int x_this_green, .int x_this_absent, .int x_this_asksReds, .ref a_this_cars, .ref a_this_gaps, .ref a_this_known, .ref a_this_left, .ref a_this_leaves, .int x_this_pressed, .int x_this_crossed, .int x_this_went, .int x_this_harmed])), (a_this_plan, .inr (4, [.int x_this_plan_cycle, .int x_this_plan_green, .int x_this_plan_rule, .int x_this_plan_least, .int x_this_plan_away, .int x_this_plan_statements, .int x_this_plan_kinds, .ref a_this_plan_calm, .ref a_this_plan_pace, .ref a_this_plan_trusts, .int x_this_plan_walkers, .ref a_this_plan_kindOf, .ref a_this_plan_comesAt, .ref a_this_plan_comers, .ref a_this_plan_names, .ref a_this_plan_code, .int x_this_plan_size, .ref a_this_plan_spans]))] (k_Qi dC dI (fun (r : Int32) (_ : Unit) => ib r 0 12) (fun _ : Unit => [(a_this, .inr (7, [.ref a_this_machine, .ref a_this_plan, .int x_this_day, .ref a_this_trusts, .int x_this_rule, .int x_this_green, .int x_this_absent, .int x_this_asksReds, .ref a_this_cars, .ref a_this_gaps, .ref a_this_known, .ref a_this_left, .ref a_this_leaves, .int x_this_pressed, .int x_this_crossed, .int x_this_went, .int x_this_harmed])), (a_this_plan, .inr (4, [.int x_this_plan_cycle, .int x_this_plan_green, .int x_this_plan_rule, .int x_this_plan_least, .int x_this_plan_away, .int x_this_plan_statements, .int x_this_plan_kinds, .ref a_this_plan_calm, .ref a_this_plan_pace, .ref a_this_plan_trusts, .int x_this_plan_walkers, .ref a_this_plan_kindOf, .ref a_this_plan_comesAt, .ref a_this_plan_comers, .ref a_this_plan_names, .ref a_this_plan_code, .int x_this_plan_size, .ref a_this_plan_spans]))])) := by
  refine k_ofW2 (by decide +kernel) (Nat.le_of_ble_eq_true rfl) ?_
  intro p e s m below meth c A ls H locs args Q hQ C0 hr hlk hin hP hD hA hS hl
  have C0 : k_cx p s m args c cX7_walkers 1 RX7 dC dI cy sq := C0
  have hx := C0.1
  have hb := C0.2.1
  have hl : lv_has ls 1 [(0, .ref a_this)] := hl
  refine lv_aload_n hx hb dX7_walkers_0 rfl (lv_at hl 0 rfl) ?_
  refine k_get C0 fg_X7_63 hP 0 rfl rfl dX7_walkers_1 ?_
  refine k_get C0 fg_X7_137 hP 1 rfl rfl dX7_walkers_4 ?_
  subst hQ; exact k_iret hx hb hr hlk rfl () hS (ib_w 0 12 hx_this_plan_walkers (by decide)) hP hD (Nat.le_of_ble_eq_true rfl) (Nat.le_of_ble_eq_true rfl) dX7_walkers_7
set_option maxHeartbeats 4000000 in
set_option maxRecDepth 100000 in
theorem s_X7_allCross (l : Launch) (dC : Nat → ClassId) (dI : Nat → Nat → Nat) (cy : Nat → ClassId) (sq : Nat → Nat) (a_this : Nat) (a_this_machine : Nat) (a_this_plan : Nat) (x_this_plan_cycle : Int32) (x_this_plan_green : Int32) (x_this_plan_rule : Int32) (x_this_plan_least : Int32) (x_this_plan_away : Int32) (x_this_plan_statements : Int32) (x_this_plan_kinds : Int32) (a_this_plan_calm : Nat) (a_this_plan_pace : Nat) (a_this_plan_trusts : Nat) (x_this_plan_walkers : Int32) (a_this_plan_kindOf : Nat) (a_this_plan_comesAt : Nat) (a_this_plan_comers : Nat) (a_this_plan_names : Nat) (a_this_plan_code : Nat) (x_this_plan_size : Int32) (a_this_plan_spans : Nat) (x_this_day : Int32) (a_this_trusts : Nat) (x_this_rule : Int32) (x_this_green : Int32) (x_this_absent : Int32) (x_this_asksReds : Int32) (a_this_cars : Nat) (a_this_gaps : Nat) (a_this_known : Nat) (a_this_left : Nat) (a_this_leaves : Nat) (x_this_pressed : Int32) (x_this_crossed : Int32) (x_this_went : Int32) (x_this_harmed : Int32) (hx_this_plan_cycle : ib x_this_plan_cycle 0 120) (hx_this_plan_least : ib x_this_plan_least 0 99) (hx_this_plan_statements : ib x_this_plan_statements 0 81) (hx_this_plan_kinds : ib x_this_plan_kinds 0 6) (hx_this_plan_walkers : ib x_this_plan_walkers 0 12) (hx_this_plan_size : ib x_this_plan_size 0 1600) (hx_this_asksReds : ib x_this_asksReds 0 1) : k_Met l yX7_allCross cX7_allCross 1 (some .boolean) { frames := 1, cells := 0, slots := 0, locals := 20 } dC dI cy sq [.ref a_this] [(a_this, .inr (7, [.ref a_this_machine, .ref a_this_plan, .int x_this_day, .ref a_this_trusts, .int x_this_rule, .int x_this_green, .int x_this_absent, .int x_this_asksReds, .ref a_this_cars, .ref a_this_gaps, .ref a_this_known, .ref a_this_left, .ref a_this_leaves, .int x_this_pressed, .int x_this_crossed, .int x_this_went, .int x_this_harmed])), (a_this_plan, .inr (4, [.int x_this_plan_cycle, .int x_this_plan_green, .int x_this_plan_rule, .int x_this_plan_least, .int x_this_plan_away, .int x_this_plan_statements, .int x_this_plan_kinds, .ref a_this_plan_calm, .ref a_this_plan_pace, .ref a_this_plan_trusts, .int x_this_plan_walkers, .ref a_this_plan_kindOf, .ref a_this_plan_comesAt, .ref a_this_plan_comers, .ref a_this_plan_names, .ref a_this_plan_code, .int x_this_plan_size, .ref a_this_plan_spans]))] (k_Qi dC dI (fun (r : Int32) (_ : Unit) => ib r 0 1) (fun _ : Unit => [(a_this, .inr (7, [.ref a_this_machine, .ref a_this_plan, .int x_this_day, .ref a_this_trusts, .int x_this_rule, .int x_this_green, .int x_this_absent, .int x_this_asksReds, .ref a_this_cars, .ref a_this_gaps, .ref a_this_known, .ref a_this_left, .ref a_this_leaves, .int x_this_pressed, .int x_this_crossed, .int x_this_went, .int x_this_harmed])), (a_this_plan, .inr (4, [.int x_this_plan_cycle, .int x_this_plan_green, .int x_this_plan_rule, .int x_this_plan_least, .int x_this_plan_away, .int x_this_plan_statements, .int x_this_plan_kinds, .ref a_this_plan_calm, .ref a_this_plan_pace, .ref a_this_plan_trusts, .int x_this_plan_walkers, .ref a_this_plan_kindOf, .ref a_this_plan_comesAt, .ref a_this_plan_comers, .ref a_this_plan_names, .ref a_this_plan_code, .int x_this_plan_size, .ref a_this_plan_spans]))])) := by
  refine k_ofW2 (by decide +kernel) (Nat.le_of_ble_eq_true rfl) ?_
  intro p e s m below meth c A ls H locs args Q hQ C0 hr hlk hin hP hD hA hS hl
  have C0 : k_cx p s m args c cX7_allCross 1 RX7 dC dI cy sq := C0
  have hx := C0.1
  have hb := C0.2.1
  have hl : lv_has ls 1 [(0, .ref a_this)] := hl
  have jn19 : ∀ (J19_s0 : Int32) (H : Heap) (locs : List Loc) (ls : Array Slot), ib J19_s0 0 1 → va_P (dC, dI) vwCl [(a_this, .inr (7, [.ref a_this_machine, .ref a_this_plan, .int x_this_day, .ref a_this_trusts, .int x_this_rule, .int x_this_green, .int x_this_absent, .int x_this_asksReds, .ref a_this_cars, .ref a_this_gaps, .ref a_this_known, .ref a_this_left, .ref a_this_leaves, .int x_this_pressed, .int x_this_crossed, .int x_this_went, .int x_this_harmed])), (a_this_plan, .inr (4, [.int x_this_plan_cycle, .int x_this_plan_green, .int x_this_plan_rule, .int x_this_plan_least, .int x_this_plan_away, .int x_this_plan_statements, .int x_this_plan_kinds, .ref a_this_plan_calm, .ref a_this_plan_pace, .ref a_this_plan_trusts, .int x_this_plan_walkers, .ref a_this_plan_kindOf, .ref a_this_plan_comesAt, .ref a_this_plan_comers, .ref a_this_plan_names, .ref a_this_plan_code, .int x_this_plan_size, .ref a_this_plan_spans]))] H → va_D A [(a_this, .inr (7, [.ref a_this_machine, .ref a_this_plan, .int x_this_day, .ref a_this_trusts, .int x_this_rule, .int x_this_green, .int x_this_absent, .int x_this_asksReds, .ref a_this_cars, .ref a_this_gaps, .ref a_this_known, .ref a_this_left, .ref a_this_leaves, .int x_this_pressed, .int x_this_crossed, .int x_this_went, .int x_this_harmed])), (a_this_plan, .inr (4, [.int x_this_plan_cycle, .int x_this_plan_green, .int x_this_plan_rule, .int x_this_plan_least, .int x_this_plan_away, .int x_this_plan_statements, .int x_this_plan_kinds, .ref a_this_plan_calm, .ref a_this_plan_pace, .ref a_this_plan_trusts, .int x_this_plan_walkers, .ref a_this_plan_kindOf, .ref a_this_plan_comesAt, .ref a_this_plan_comers, .ref a_this_plan_names, .ref a_this_plan_code, .int x_this_plan_size, .ref a_this_plan_spans]))] → va_S A s.heap H locs → lv_has ls 1 [(0, .ref a_this)] → W p l e { frames := 1, cells := 0, slots := 0, locals := 20 } s m args below meth c H locs 0 0 Q (F0 m 19 ls [.int J19_s0]) := by
    intro J19_s0 H locs ls hJ19_s0 hP hD hS hl
    subst hQ; exact k_iret hx hb hr hlk (ib_bool (ib_w 0 1 hJ19_s0 (by decide))) () hS (ib_w 0 1 hJ19_s0 (by decide)) hP hD (Nat.le_of_ble_eq_true rfl) (Nat.le_of_ble_eq_true rfl) dX7_allCross_19
  refine lv_aload_n hx hb dX7_allCross_0 rfl (lv_at hl 0 rfl) ?_
  refine k_get C0 fg_X7_50 hP 0 rfl rfl dX7_allCross_1 ?_
  refine lv_aload_n hx hb dX7_allCross_4 rfl (lv_at hl 0 rfl) ?_
  refine k_get C0 fg_X7_63 hP 0 rfl rfl dX7_allCross_5 ?_
  refine k_ji hP hD hS hA [1] [0] (wr := [(a_this, .inr (7, [.ref a_this_machine, .ref a_this_plan, .int x_this_day, .ref a_this_trusts, .int x_this_rule, .int x_this_green, .int x_this_absent, .int x_this_asksReds, .ref a_this_cars, .ref a_this_gaps, .ref a_this_known, .ref a_this_left, .ref a_this_leaves, .int x_this_pressed, .int x_this_crossed, .int x_this_went, .int x_this_harmed]))]) rfl rfl (by decide) (by decide) (by decide) 0 0 (Nat.le_of_ble_eq_true rfl) (Nat.le_of_ble_eq_true rfl) (fun hPc hDc => k_runV (As := []) (rest := [.int x_this_crossed]) C0 (s_X4_everyone l dC dI cy sq a_this_plan x_this_plan_cycle x_this_plan_green x_this_plan_rule x_this_plan_least x_this_plan_away x_this_plan_statements x_this_plan_kinds a_this_plan_calm a_this_plan_pace a_this_plan_trusts x_this_plan_walkers a_this_plan_kindOf a_this_plan_comesAt a_this_plan_comers a_this_plan_names a_this_plan_code x_this_plan_size a_this_plan_spans (ib_w 0 120 hx_this_plan_cycle (by decide)) (ib_w 0 99 hx_this_plan_least (by decide)) (ib_w 0 81 hx_this_plan_statements (by decide)) (ib_w 0 6 hx_this_plan_kinds (by decide)) (ib_w 0 12 hx_this_plan_walkers (by decide)) (ib_w 0 1600 hx_this_plan_size (by decide))) mV_X7_143 hPc hDc rfl rfl rfl hl rfl rfl (Nat.le_of_ble_eq_true rfl) ⟨(Nat.le_of_ble_eq_true rfl), (Nat.le_of_ble_eq_true rfl)⟩ ⟨(Nat.le_of_ble_eq_true rfl), (Nat.le_of_ble_eq_true rfl)⟩ dX7_allCross_8) (fun r342 u343 H locs hw hP hD hS => ?_)
  try dsimp only at hP hD hw
  have hP : va_P (dC, dI) vwCl [(a_this, .inr (7, [.ref a_this_machine, .ref a_this_plan, .int x_this_day, .ref a_this_trusts, .int x_this_rule, .int x_this_green, .int x_this_absent, .int x_this_asksReds, .ref a_this_cars, .ref a_this_gaps, .ref a_this_known, .ref a_this_left, .ref a_this_leaves, .int x_this_pressed, .int x_this_crossed, .int x_this_went, .int x_this_harmed])), (a_this_plan, .inr (4, [.int x_this_plan_cycle, .int x_this_plan_green, .int x_this_plan_rule, .int x_this_plan_least, .int x_this_plan_away, .int x_this_plan_statements, .int x_this_plan_kinds, .ref a_this_plan_calm, .ref a_this_plan_pace, .ref a_this_plan_trusts, .int x_this_plan_walkers, .ref a_this_plan_kindOf, .ref a_this_plan_comesAt, .ref a_this_plan_comers, .ref a_this_plan_names, .ref a_this_plan_code, .int x_this_plan_size, .ref a_this_plan_spans]))] H := hP
  have hD : va_D A [(a_this, .inr (7, [.ref a_this_machine, .ref a_this_plan, .int x_this_day, .ref a_this_trusts, .int x_this_rule, .int x_this_green, .int x_this_absent, .int x_this_asksReds, .ref a_this_cars, .ref a_this_gaps, .ref a_this_known, .ref a_this_left, .ref a_this_leaves, .int x_this_pressed, .int x_this_crossed, .int x_this_went, .int x_this_harmed])), (a_this_plan, .inr (4, [.int x_this_plan_cycle, .int x_this_plan_green, .int x_this_plan_rule, .int x_this_plan_least, .int x_this_plan_away, .int x_this_plan_statements, .int x_this_plan_kinds, .ref a_this_plan_calm, .ref a_this_plan_pace, .ref a_this_plan_trusts, .int x_this_plan_walkers, .ref a_this_plan_kindOf, .ref a_this_plan_comesAt, .ref a_this_plan_comers, .ref a_this_plan_names, .ref a_this_plan_code, .int x_this_plan_size, .ref a_this_plan_spans]))] := hD
  refine lv_icmp_ne (tgt := 18) hx hb dX7_allCross_11 (by decide) (fun c344 => ?_) (fun c344 => ?_)
  · skip
    refine lv_iconst (v := 0) hx hb dX7_allCross_18 (by decide) ?_
    exact jn19 0 H locs ls (ib_w 0 1 (ib_c 0 0 0 (by decide)) (by decide)) hP hD hS (lv_sub hl [0] rfl)
  · have h345 := ib_eq (ib_any x_this_crossed) (ib_any r342) c344
    refine lv_iconst (v := 1) hx hb dX7_allCross_14 (by decide) ?_
    refine lv_goto (tgt := 19) hx hb dX7_allCross_15 (by decide) ?_
    exact jn19 1 H locs ls (ib_w 0 1 (ib_c 1 1 1 (by decide)) (by decide)) hP hD hS (lv_sub hl [0] rfl)
set_option maxHeartbeats 4000000 in
set_option maxRecDepth 100000 in
theorem s_X5_fail (l : Launch) (dC : Nat → ClassId) (dI : Nat → Nat → Nat) (cy : Nat → ClassId) (sq : Nat → Nat) (a_this : Nat) (a_this_text : Nat) (x_this_length : Int32) (x_this_at : Int32) (x_this_behind : Int32) (x_this_sort : Int32) (x_this_allowed : Int32) (a_this_plan : Nat) (x_this_fault : Int32) (x_this_place : Int32) (p0 : Int32) (p1 : Int32) (hx_this_length : ib x_this_length 0 1600) (hx_this_at : ib x_this_at 0 1600) (hx_this_behind : ib x_this_behind 0 1600) (hx_this_sort : ib x_this_sort 0 4) : k_Met l yX5_fail cX5_fail 3 none { frames := 0, cells := 0, slots := 0, locals := 0 } dC dI cy sq [.ref a_this, .int p0, .int p1] [(a_this, .inr (5, [.ref a_this_text, .int x_this_length, .int x_this_at, .int x_this_behind, .int x_this_sort, .int x_this_allowed, .ref a_this_plan, .int x_this_fault, .int x_this_place]))] (k_Qv dC dI (fun (u : Int32 × Int32 × Int32 × Int32 × Int32) => match u with | (n0, n1, n2, n3, n4) => ib n0 0 1600 ∧ ib n1 0 1600 ∧ ib n2 0 4) (fun u : Int32 × Int32 × Int32 × Int32 × Int32 => match u with | (n0, n1, n2, n3, n4) => [(a_this, .inr (5, [.ref a_this_text, .int x_this_length, .int n0, .int n1, .int n2, .int x_this_allowed, .ref a_this_plan, .int n3, .int n4]))])) := by
  refine k_ofW2 (by decide +kernel) (Nat.le_of_ble_eq_true rfl) ?_
  intro p e s m below meth c A ls H locs args Q hQ C0 hr hlk hin hP hD hA hS hl
  have C0 : k_cx p s m args c cX5_fail 3 RX5 dC dI cy sq := C0
  have hx := C0.1
  have hb := C0.2.1
  have hl : lv_has ls 3 [(0, .ref a_this), (1, .int p0), (2, .int p1)] := hl
  have jn17 : ∀  (H : Heap) (locs : List Loc) (ls : Array Slot), va_P (dC, dI) vwCl [(a_this, .inr (5, [.ref a_this_text, .int x_this_length, .int x_this_at, .int x_this_behind, .int x_this_sort, .int x_this_allowed, .ref a_this_plan, .int p0, .int p1]))] H → va_D A [(a_this, .inr (5, [.ref a_this_text, .int x_this_length, .int x_this_at, .int x_this_behind, .int x_this_sort, .int x_this_allowed, .ref a_this_plan, .int p0, .int p1]))] → va_S A s.heap H locs → lv_has ls 3 [(0, .ref a_this), (1, .int p0), (2, .int p1)] → W p l e { frames := 0, cells := 0, slots := 0, locals := 0 } s m args below meth c H locs 0 0 Q (F0 m 17 ls []) := by
    intro H locs ls hP hD hS hl
    refine lv_aload_n hx hb dX5_fail_17 rfl (lv_at hl 0 rfl) ?_
    refine lv_aload_n hx hb dX5_fail_18 rfl (lv_at hl 0 rfl) ?_
    refine k_get C0 fg_X5_11 hP 0 rfl rfl dX5_fail_19 ?_
    refine k_put C0 fp_X5_15 hP hD hS 0 rfl rfl rfl (Nat.le_of_ble_eq_true rfl) dX5_fail_22 (fun H locs hP hD hS => ?_)
    have hP : va_P (dC, dI) vwCl [(a_this, .inr (5, [.ref a_this_text, .int x_this_length, .int x_this_length, .int x_this_behind, .int x_this_sort, .int x_this_allowed, .ref a_this_plan, .int p0, .int p1]))] H := hP
    have hD : va_D A [(a_this, .inr (5, [.ref a_this_text, .int x_this_length, .int x_this_length, .int x_this_behind, .int x_this_sort, .int x_this_allowed, .ref a_this_plan, .int p0, .int p1]))] := hD
    refine lv_aload_n hx hb dX5_fail_25 rfl (lv_at hl 0 rfl) ?_
    refine lv_aload_n hx hb dX5_fail_26 rfl (lv_at hl 0 rfl) ?_
    refine k_get C0 fg_X5_11 hP 0 rfl rfl dX5_fail_27 ?_
    refine k_put C0 fp_X5_18 hP hD hS 0 rfl rfl rfl (Nat.le_of_ble_eq_true rfl) dX5_fail_30 (fun H locs hP hD hS => ?_)
    have hP : va_P (dC, dI) vwCl [(a_this, .inr (5, [.ref a_this_text, .int x_this_length, .int x_this_length, .int x_this_length, .int x_this_sort, .int x_this_allowed, .ref a_this_plan, .int p0, .int p1]))] H := hP
    have hD : va_D A [(a_this, .inr (5, [.ref a_this_text, .int x_this_length, .int x_this_length, .int x_this_length, .int x_this_sort, .int x_this_allowed, .ref a_this_plan, .int p0, .int p1]))] := hD
    refine lv_aload_n hx hb dX5_fail_33 rfl (lv_at hl 0 rfl) ?_
    refine lv_iconst (v := 0) hx hb dX5_fail_34 (by decide) ?_
    refine k_put C0 fp_X5_21 hP hD hS 0 rfl rfl rfl (Nat.le_of_ble_eq_true rfl) dX5_fail_35 (fun H locs hP hD hS => ?_)
    have hP : va_P (dC, dI) vwCl [(a_this, .inr (5, [.ref a_this_text, .int x_this_length, .int x_this_length, .int x_this_length, .int 0, .int x_this_allowed, .ref a_this_plan, .int p0, .int p1]))] H := hP
    have hD : va_D A [(a_this, .inr (5, [.ref a_this_text, .int x_this_length, .int x_this_length, .int x_this_length, .int 0, .int x_this_allowed, .ref a_this_plan, .int p0, .int p1]))] := hD
    subst hQ; exact k_vret hx hb hr hlk ((x_this_length, x_this_length, 0, p0, p1)) hS ⟨ib_w 0 1600 hx_this_length (by decide), ib_w 0 1600 hx_this_length (by decide), ib_w 0 4 (ib_c 0 0 0 (by decide)) (by decide)⟩ hP hD (Nat.le_of_ble_eq_true rfl) (Nat.le_of_ble_eq_true rfl) dX5_fail_38
  refine lv_aload_n hx hb dX5_fail_0 rfl (lv_at hl 0 rfl) ?_
  refine k_get C0 fg_X5_27 hP 0 rfl rfl dX5_fail_1 ?_
  refine lv_if_ne (tgt := 17) hx hb dX5_fail_4 (by decide) (fun c352 => ?_) (fun c352 => ?_)
  · skip
    refine lv_aload_n hx hb dX5_fail_17 rfl (lv_at hl 0 rfl) ?_
    refine lv_aload_n hx hb dX5_fail_18 rfl (lv_at hl 0 rfl) ?_
    refine k_get C0 fg_X5_11 hP 0 rfl rfl dX5_fail_19 ?_
    refine k_put C0 fp_X5_15 hP hD hS 0 rfl rfl rfl (Nat.le_of_ble_eq_true rfl) dX5_fail_22 (fun H locs hP hD hS => ?_)
    have hP : va_P (dC, dI) vwCl [(a_this, .inr (5, [.ref a_this_text, .int x_this_length, .int x_this_length, .int x_this_behind, .int x_this_sort, .int x_this_allowed, .ref a_this_plan, .int x_this_fault, .int x_this_place]))] H := hP
    have hD : va_D A [(a_this, .inr (5, [.ref a_this_text, .int x_this_length, .int x_this_length, .int x_this_behind, .int x_this_sort, .int x_this_allowed, .ref a_this_plan, .int x_this_fault, .int x_this_place]))] := hD
    refine lv_aload_n hx hb dX5_fail_25 rfl (lv_at hl 0 rfl) ?_
    refine lv_aload_n hx hb dX5_fail_26 rfl (lv_at hl 0 rfl) ?_
    refine k_get C0 fg_X5_11 hP 0 rfl rfl dX5_fail_27 ?_
    refine k_put C0 fp_X5_18 hP hD hS 0 rfl rfl rfl (Nat.le_of_ble_eq_true rfl) dX5_fail_30 (fun H locs hP hD hS => ?_)
    have hP : va_P (dC, dI) vwCl [(a_this, .inr (5, [.ref a_this_text, .int x_this_length, .int x_this_length, .int x_this_length, .int x_this_sort, .int x_this_allowed, .ref a_this_plan, .int x_this_fault, .int x_this_place]))] H := hP
    have hD : va_D A [(a_this, .inr (5, [.ref a_this_text, .int x_this_length, .int x_this_length, .int x_this_length, .int x_this_sort, .int x_this_allowed, .ref a_this_plan, .int x_this_fault, .int x_this_place]))] := hD
    refine lv_aload_n hx hb dX5_fail_33 rfl (lv_at hl 0 rfl) ?_
    refine lv_iconst (v := 0) hx hb dX5_fail_34 (by decide) ?_
    refine k_put C0 fp_X5_21 hP hD hS 0 rfl rfl rfl (Nat.le_of_ble_eq_true rfl) dX5_fail_35 (fun H locs hP hD hS => ?_)
    have hP : va_P (dC, dI) vwCl [(a_this, .inr (5, [.ref a_this_text, .int x_this_length, .int x_this_length, .int x_this_length, .int 0, .int x_this_allowed, .ref a_this_plan, .int x_this_fault, .int x_this_place]))] H := hP
    have hD : va_D A [(a_this, .inr (5, [.ref a_this_text, .int x_this_length, .int x_this_length, .int x_this_length, .int 0, .int x_this_allowed, .ref a_this_plan, .int x_this_fault, .int x_this_place]))] := hD
    subst hQ; exact k_vret hx hb hr hlk ((x_this_length, x_this_length, 0, x_this_fault, x_this_place)) hS ⟨ib_w 0 1600 hx_this_length (by decide), ib_w 0 1600 hx_this_length (by decide), ib_w 0 4 (ib_c 0 0 0 (by decide)) (by decide)⟩ hP hD (Nat.le_of_ble_eq_true rfl) (Nat.le_of_ble_eq_true rfl) dX5_fail_38
  · have h353 := ib_eq (ib_any x_this_fault) (ib_c 0 0 0 (by decide)) c352
    have h354 : ib x_this_fault 0 0 := ib_w 0 0 h353.1 (by decide)
    refine lv_aload_n hx hb dX5_fail_7 rfl (lv_at hl 0 rfl) ?_
    refine lv_iload_n hx hb dX5_fail_8 rfl (lv_at hl 1 rfl) ?_
    refine k_put C0 fp_X5_27 hP hD hS 0 rfl rfl rfl (Nat.le_of_ble_eq_true rfl) dX5_fail_9 (fun H locs hP hD hS => ?_)
    have hP : va_P (dC, dI) vwCl [(a_this, .inr (5, [.ref a_this_text, .int x_this_length, .int x_this_at, .int x_this_behind, .int x_this_sort, .int x_this_allowed, .ref a_this_plan, .int p0, .int x_this_place]))] H := hP
    have hD : va_D A [(a_this, .inr (5, [.ref a_this_text, .int x_this_length, .int x_this_at, .int x_this_behind, .int x_this_sort, .int x_this_allowed, .ref a_this_plan, .int p0, .int x_this_place]))] := hD
    refine lv_aload_n hx hb dX5_fail_12 rfl (lv_at hl 0 rfl) ?_
    refine lv_iload_n hx hb dX5_fail_13 rfl (lv_at hl 2 rfl) ?_
    refine k_put C0 fp_X5_30 hP hD hS 0 rfl rfl rfl (Nat.le_of_ble_eq_true rfl) dX5_fail_14 (fun H locs hP hD hS => ?_)
    have hP : va_P (dC, dI) vwCl [(a_this, .inr (5, [.ref a_this_text, .int x_this_length, .int x_this_at, .int x_this_behind, .int x_this_sort, .int x_this_allowed, .ref a_this_plan, .int p0, .int p1]))] H := hP
    have hD : va_D A [(a_this, .inr (5, [.ref a_this_text, .int x_this_length, .int x_this_at, .int x_this_behind, .int x_this_sort, .int x_this_allowed, .ref a_this_plan, .int p0, .int p1]))] := hD
    exact jn17  H locs ls  hP hD hS (lv_sub hl [0, 1, 2] rfl)
set_option maxHeartbeats 4000000 in
set_option maxRecDepth 100000 in
theorem s_X5_sortOf (l : Launch) (dC : Nat → ClassId) (dI : Nat → Nat → Nat) (cy : Nat → ClassId) (sq : Nat → Nat) (a_this : Nat) (a_this_text : Nat) (g_this_text : Nat → Int32) (x_this_length : Int32) (x_this_at : Int32) (x_this_behind : Int32) (x_this_sort : Int32) (x_this_allowed : Int32) (a_this_plan : Nat) (x_this_fault : Int32) (x_this_place : Int32) (p0 : Int32) (hg_this_text : ia g_this_text 1600 0 255) (hx_this_length : ib x_this_length 0 1600) (hx_this_at : ib x_this_at 0 1600) (hx_this_behind : ib x_this_behind 0 1600) (hx_this_sort : ib x_this_sort 0 4) : k_Met l yX5_sortOf cX5_sortOf 2 (some .int) { frames := 0, cells := 0, slots := 0, locals := 0 } dC dI cy sq [.ref a_this, .int p0] [(a_this, .inr (5, [.ref a_this_text, .int x_this_length, .int x_this_at, .int x_this_behind, .int x_this_sort, .int x_this_allowed, .ref a_this_plan, .int x_this_fault, .int x_this_place])), (a_this_text, .inl (cy 0, 1600, .inl g_this_text))] (k_Qi dC dI (fun (r : Int32) (_ : Unit) => ib r 0 3) (fun _ : Unit => [(a_this, .inr (5, [.ref a_this_text, .int x_this_length, .int x_this_at, .int x_this_behind, .int x_this_sort, .int x_this_allowed, .ref a_this_plan, .int x_this_fault, .int x_this_place])), (a_this_text, .inl (cy 0, 1600, .inl g_this_text))])) := by
  refine k_ofW2 (by decide +kernel) (Nat.le_of_ble_eq_true rfl) ?_
  intro p e s m below meth c A ls H locs args Q hQ C0 hr hlk hin hP hD hA hS hl
  have C0 : k_cx p s m args c cX5_sortOf 2 RX5 dC dI cy sq := C0
  have hx := C0.1
  have hb := C0.2.1
  have hl : lv_has ls 2 [(0, .ref a_this), (1, .int p0)] := hl
  have jn65 : ∀ (J65_s0 : Int32) (H : Heap) (locs : List Loc) (ls : Array Slot), ib p0 0 1599 → ib x_this_length 1 1600 → ib J65_s0 2 3 → va_P (dC, dI) vwCl [(a_this, .inr (5, [.ref a_this_text, .int x_this_length, .int x_this_at, .int x_this_behind, .int x_this_sort, .int x_this_allowed, .ref a_this_plan, .int x_this_fault, .int x_this_place])), (a_this_text, .inl (cy 0, 1600, .inl g_this_text))] H → va_D A [(a_this, .inr (5, [.ref a_this_text, .int x_this_length, .int x_this_at, .int x_this_behind, .int x_this_sort, .int x_this_allowed, .ref a_this_plan, .int x_this_fault, .int x_this_place])), (a_this_text, .inl (cy 0, 1600, .inl g_this_text))] → va_S A s.heap H locs → lv_has ls 2 [(0, .ref a_this), (1, .int p0)] → W p l e { frames := 0, cells := 0, slots := 0, locals := 0 } s m args below meth c H locs 0 0 Q (F0 m 65 ls [.int J65_s0]) := by
    intro J65_s0 H locs ls hJ65_l1 hJ65_c0_1 hJ65_s0 hP hD hS hl
    subst hQ; exact k_iret hx hb hr hlk rfl () hS (ib_w 0 3 hJ65_s0 (by decide)) hP hD (Nat.le_of_ble_eq_true rfl) (Nat.le_of_ble_eq_true rfl) dX5_sortOf_65
  refine lv_iload_n hx hb dX5_sortOf_0 rfl (lv_at hl 1 rfl) ?_
  refine lv_if_lt (tgt := 12) hx hb dX5_sortOf_1 (by decide) (fun c459 => ?_) (fun c459 => ?_)
  · have h460 := ib_lt (ib_any p0) (ib_c 0 0 0 (by decide)) c459
    have h461 : ib p0 (-2147483648) (-1) := ib_w (-2147483648) (-1) h460.1 (by decide)
    refine lv_iconst (v := 0) hx hb dX5_sortOf_12 (by decide) ?_
    subst hQ; exact k_iret hx hb hr hlk rfl () hS (ib_w 0 3 (ib_c 0 0 0 (by decide)) (by decide)) hP hD (Nat.le_of_ble_eq_true rfl) (Nat.le_of_ble_eq_true rfl) dX5_sortOf_13
  · have h462 := ib_nlt (ib_any p0) (ib_c 0 0 0 (by decide)) c459
    have h463 : ib p0 0 2147483647 := ib_w 0 2147483647 h462.1 (by decide)
    refine lv_iload_n hx hb dX5_sortOf_4 rfl (lv_at hl 1 rfl) ?_
    refine lv_aload_n hx hb dX5_sortOf_5 rfl (lv_at hl 0 rfl) ?_
    refine k_get C0 fg_X5_11 hP 0 rfl rfl dX5_sortOf_6 ?_
    refine lv_icmp_lt (tgt := 14) hx hb dX5_sortOf_9 (by decide) (fun c464 => ?_) (fun c464 => ?_)
    · have h465 := ib_lt h463 hx_this_length c464
      have h466 : ib p0 0 1599 := ib_w 0 1599 h465.1 (by decide)
      have h467 : ib x_this_length 1 1600 := ib_w 1 1600 h465.2 (by decide)
      refine lv_aload_n hx hb dX5_sortOf_14 rfl (lv_at hl 0 rfl) ?_
      refine k_get C0 fg_X5_33 hP 0 rfl rfl dX5_sortOf_15 ?_
      refine lv_iload_n hx hb dX5_sortOf_18 rfl (lv_at hl 1 rfl) ?_
      refine va_iald hx hb C0.2.2.2.2.2.1 hP 1 0 rfl rfl (ib_in 1600 h466 (by decide)) dX5_sortOf_19 ?_
      refine lv_topi (fun z468 ez468 => ?_)
      have h469 : ib z468 0 255 := by rw [ez468]; exact ia_at hg_this_text (ib_in 1600 h466 (by decide))
      refine lv_bipush (v := 97) hx hb dX5_sortOf_20 (by decide) ?_
      refine lv_icmp_lt (tgt := 38) hx hb dX5_sortOf_22 (by decide) (fun c470 => ?_) (fun c470 => ?_)
      · have h471 := ib_lt h469 (ib_c 97 97 97 (by decide)) c470
        have h472 : ib z468 0 96 := ib_w 0 96 h471.1 (by decide)
        refine lv_aload_n hx hb dX5_sortOf_38 rfl (lv_at hl 0 rfl) ?_
        refine k_get C0 fg_X5_33 hP 0 rfl rfl dX5_sortOf_39 ?_
        refine lv_iload_n hx hb dX5_sortOf_42 rfl (lv_at hl 1 rfl) ?_
        refine va_iald hx hb C0.2.2.2.2.2.1 hP 1 0 rfl rfl (ib_in 1600 h466 (by decide)) dX5_sortOf_43 ?_
        refine lv_topi (fun z473 ez473 => ?_)
        have h474 : ib z473 0 255 := by rw [ez473]; exact ia_at hg_this_text (ib_in 1600 h466 (by decide))
        refine lv_bipush (v := 48) hx hb dX5_sortOf_44 (by decide) ?_
        refine lv_icmp_lt (tgt := 64) hx hb dX5_sortOf_46 (by decide) (fun c475 => ?_) (fun c475 => ?_)
        · have h476 := ib_lt h474 (ib_c 48 48 48 (by decide)) c475
          have h477 : ib z473 0 47 := ib_w 0 47 h476.1 (by decide)
          refine lv_iconst (v := 3) hx hb dX5_sortOf_64 (by decide) ?_
          exact jn65 3 H locs ls (ib_w 0 1599 h466 (by decide)) (ib_w 1 1600 h467 (by decide)) (ib_w 2 3 (ib_c 3 3 3 (by decide)) (by decide)) hP hD hS (lv_sub hl [0, 1] rfl)
        · have h478 := ib_nlt h474 (ib_c 48 48 48 (by decide)) c475
          have h479 : ib z473 48 255 := ib_w 48 255 h478.1 (by decide)
          refine lv_aload_n hx hb dX5_sortOf_49 rfl (lv_at hl 0 rfl) ?_
          refine k_get C0 fg_X5_33 hP 0 rfl rfl dX5_sortOf_50 ?_
          refine lv_iload_n hx hb dX5_sortOf_53 rfl (lv_at hl 1 rfl) ?_
          refine va_iald hx hb C0.2.2.2.2.2.1 hP 1 0 rfl rfl (ib_in 1600 h466 (by decide)) dX5_sortOf_54 ?_
          refine lv_topi (fun z480 ez480 => ?_)
          have h481 : ib z480 0 255 := by rw [ez480]; exact ia_at hg_this_text (ib_in 1600 h466 (by decide))
          refine lv_bipush (v := 57) hx hb dX5_sortOf_55 (by decide) ?_
          refine lv_icmp_gt (tgt := 64) hx hb dX5_sortOf_57 (by decide) (fun c482 => ?_) (fun c482 => ?_)
          · have h483 := ib_lt (ib_c 57 57 57 (by decide)) h481 c482
            have h484 : ib z480 58 255 := ib_w 58 255 h483.2 (by decide)
            refine lv_iconst (v := 3) hx hb dX5_sortOf_64 (by decide) ?_
            exact jn65 3 H locs ls (ib_w 0 1599 h466 (by decide)) (ib_w 1 1600 h467 (by decide)) (ib_w 2 3 (ib_c 3 3 3 (by decide)) (by decide)) hP hD hS (lv_sub hl [0, 1] rfl)
          · have h485 := ib_nlt (ib_c 57 57 57 (by decide)) h481 c482
            have h486 : ib z480 0 57 := ib_w 0 57 h485.2 (by decide)
            refine lv_iconst (v := 2) hx hb dX5_sortOf_60 (by decide) ?_
            refine lv_goto (tgt := 65) hx hb dX5_sortOf_61 (by decide) ?_
            exact jn65 2 H locs ls (ib_w 0 1599 h466 (by decide)) (ib_w 1 1600 h467 (by decide)) (ib_w 2 3 (ib_c 2 2 2 (by decide)) (by decide)) hP hD hS (lv_sub hl [0, 1] rfl)
      · have h487 := ib_nlt h469 (ib_c 97 97 97 (by decide)) c470
        have h488 : ib z468 97 255 := ib_w 97 255 h487.1 (by decide)
        refine lv_aload_n hx hb dX5_sortOf_25 rfl (lv_at hl 0 rfl) ?_
        refine k_get C0 fg_X5_33 hP 0 rfl rfl dX5_sortOf_26 ?_
        refine lv_iload_n hx hb dX5_sortOf_29 rfl (lv_at hl 1 rfl) ?_
        refine va_iald hx hb C0.2.2.2.2.2.1 hP 1 0 rfl rfl (ib_in 1600 h466 (by decide)) dX5_sortOf_30 ?_
        refine lv_topi (fun z489 ez489 => ?_)
        have h490 : ib z489 0 255 := by rw [ez489]; exact ia_at hg_this_text (ib_in 1600 h466 (by decide))
        refine lv_bipush (v := 122) hx hb dX5_sortOf_31 (by decide) ?_
        refine lv_icmp_gt (tgt := 38) hx hb dX5_sortOf_33 (by decide) (fun c491 => ?_) (fun c491 => ?_)
        · have h492 := ib_lt (ib_c 122 122 122 (by decide)) h490 c491
          have h493 : ib z489 123 255 := ib_w 123 255 h492.2 (by decide)
          refine lv_aload_n hx hb dX5_sortOf_38 rfl (lv_at hl 0 rfl) ?_
          refine k_get C0 fg_X5_33 hP 0 rfl rfl dX5_sortOf_39 ?_
          refine lv_iload_n hx hb dX5_sortOf_42 rfl (lv_at hl 1 rfl) ?_
          refine va_iald hx hb C0.2.2.2.2.2.1 hP 1 0 rfl rfl (ib_in 1600 h466 (by decide)) dX5_sortOf_43 ?_
          refine lv_topi (fun z494 ez494 => ?_)
          have h495 : ib z494 0 255 := by rw [ez494]; exact ia_at hg_this_text (ib_in 1600 h466 (by decide))
          refine lv_bipush (v := 48) hx hb dX5_sortOf_44 (by decide) ?_
          refine lv_icmp_lt (tgt := 64) hx hb dX5_sortOf_46 (by decide) (fun c496 => ?_) (fun c496 => ?_)
          · have h497 := ib_lt h495 (ib_c 48 48 48 (by decide)) c496
            have h498 : ib z494 0 47 := ib_w 0 47 h497.1 (by decide)
            refine lv_iconst (v := 3) hx hb dX5_sortOf_64 (by decide) ?_
            exact jn65 3 H locs ls (ib_w 0 1599 h466 (by decide)) (ib_w 1 1600 h467 (by decide)) (ib_w 2 3 (ib_c 3 3 3 (by decide)) (by decide)) hP hD hS (lv_sub hl [0, 1] rfl)
          · have h499 := ib_nlt h495 (ib_c 48 48 48 (by decide)) c496
            have h500 : ib z494 48 255 := ib_w 48 255 h499.1 (by decide)
            refine lv_aload_n hx hb dX5_sortOf_49 rfl (lv_at hl 0 rfl) ?_
            refine k_get C0 fg_X5_33 hP 0 rfl rfl dX5_sortOf_50 ?_
            refine lv_iload_n hx hb dX5_sortOf_53 rfl (lv_at hl 1 rfl) ?_
            refine va_iald hx hb C0.2.2.2.2.2.1 hP 1 0 rfl rfl (ib_in 1600 h466 (by decide)) dX5_sortOf_54 ?_
            refine lv_topi (fun z501 ez501 => ?_)
            have h502 : ib z501 0 255 := by rw [ez501]; exact ia_at hg_this_text (ib_in 1600 h466 (by decide))
            refine lv_bipush (v := 57) hx hb dX5_sortOf_55 (by decide) ?_
            refine lv_icmp_gt (tgt := 64) hx hb dX5_sortOf_57 (by decide) (fun c503 => ?_) (fun c503 => ?_)
            · have h504 := ib_lt (ib_c 57 57 57 (by decide)) h502 c503
              have h505 : ib z501 58 255 := ib_w 58 255 h504.2 (by decide)
              refine lv_iconst (v := 3) hx hb dX5_sortOf_64 (by decide) ?_
              exact jn65 3 H locs ls (ib_w 0 1599 h466 (by decide)) (ib_w 1 1600 h467 (by decide)) (ib_w 2 3 (ib_c 3 3 3 (by decide)) (by decide)) hP hD hS (lv_sub hl [0, 1] rfl)
            · have h506 := ib_nlt (ib_c 57 57 57 (by decide)) h502 c503
              have h507 : ib z501 0 57 := ib_w 0 57 h506.2 (by decide)
              refine lv_iconst (v := 2) hx hb dX5_sortOf_60 (by decide) ?_
              refine lv_goto (tgt := 65) hx hb dX5_sortOf_61 (by decide) ?_
              exact jn65 2 H locs ls (ib_w 0 1599 h466 (by decide)) (ib_w 1 1600 h467 (by decide)) (ib_w 2 3 (ib_c 2 2 2 (by decide)) (by decide)) hP hD hS (lv_sub hl [0, 1] rfl)
        · have h508 := ib_nlt (ib_c 122 122 122 (by decide)) h490 c491
          have h509 : ib z489 0 122 := ib_w 0 122 h508.2 (by decide)
          refine lv_iconst (v := 1) hx hb dX5_sortOf_36 (by decide) ?_
          subst hQ; exact k_iret hx hb hr hlk rfl () hS (ib_w 0 3 (ib_c 1 1 1 (by decide)) (by decide)) hP hD (Nat.le_of_ble_eq_true rfl) (Nat.le_of_ble_eq_true rfl) dX5_sortOf_37
    · have h510 := ib_nlt h463 hx_this_length c464
      refine lv_iconst (v := 0) hx hb dX5_sortOf_12 (by decide) ?_
      subst hQ; exact k_iret hx hb hr hlk rfl () hS (ib_w 0 3 (ib_c 0 0 0 (by decide)) (by decide)) hP hD (Nat.le_of_ble_eq_true rfl) (Nat.le_of_ble_eq_true rfl) dX5_sortOf_13
set_option maxHeartbeats 4000000 in
set_option maxRecDepth 100000 in
theorem s_X5_emit (l : Launch) (dC : Nat → ClassId) (dI : Nat → Nat → Nat) (cy : Nat → ClassId) (sq : Nat → Nat) (a_this : Nat) (a_this_text : Nat) (x_this_length : Int32) (x_this_at : Int32) (x_this_behind : Int32) (x_this_sort : Int32) (x_this_allowed : Int32) (a_this_plan : Nat) (x_this_plan_cycle : Int32) (x_this_plan_green : Int32) (x_this_plan_rule : Int32) (x_this_plan_least : Int32) (x_this_plan_away : Int32) (x_this_plan_statements : Int32) (x_this_plan_kinds : Int32) (a_this_plan_calm : Nat) (a_this_plan_pace : Nat) (a_this_plan_trusts : Nat) (x_this_plan_walkers : Int32) (a_this_plan_kindOf : Nat) (a_this_plan_comesAt : Nat) (a_this_plan_comers : Nat) (a_this_plan_names : Nat) (a_this_plan_code : Nat) (g_this_plan_code : Nat → Int32) (x_this_plan_size : Int32) (a_this_plan_spans : Nat) (x_this_fault : Int32) (x_this_place : Int32) (p0 : Int32) (hx_this_length : ib x_this_length 0 1600) (hx_this_at : ib x_this_at 0 1600) (hx_this_behind : ib x_this_behind 0 1600) (hx_this_sort : ib x_this_sort 0 4) (hx_this_plan_cycle : ib x_this_plan_cycle 0 120) (hx_this_plan_least : ib x_this_plan_least 0 99) (hx_this_plan_statements : ib x_this_plan_statements 0 81) (hx_this_plan_kinds : ib x_this_plan_kinds 0 6) (hx_this_plan_walkers : ib x_this_plan_walkers 0 12) (hx_this_plan_size : ib x_this_plan_size 0 1600) : k_Met l yX5_emit cX5_emit 2 none { frames := 0, cells := 0, slots := 0, locals := 0 } dC dI cy sq [.ref a_this, .int p0] [(a_this, .inr (5, [.ref a_this_text, .int x_this_length, .int x_this_at, .int x_this_behind, .int x_this_sort, .int x_this_allowed, .ref a_this_plan, .int x_this_fault, .int x_this_place])), (a_this_plan, .inr (4, [.int x_this_plan_cycle, .int x_this_plan_green, .int x_this_plan_rule, .int x_this_plan_least, .int x_this_plan_away, .int x_this_plan_statements, .int x_this_plan_kinds, .ref a_this_plan_calm, .ref a_this_plan_pace, .ref a_this_plan_trusts, .int x_this_plan_walkers, .ref a_this_plan_kindOf, .ref a_this_plan_comesAt, .ref a_this_plan_comers, .ref a_this_plan_names, .ref a_this_plan_code, .int x_this_plan_size, .ref a_this_plan_spans])), (a_this_plan_code, .inl (cy 0, 1600, .inl g_this_plan_code))] (k_Qv dC dI (fun (u : Int32 × (Nat → Int32)) => match u with | (n0, n1) => ib n0 0 1600) (fun u : Int32 × (Nat → Int32) => match u with | (n0, n1) => [(a_this, .inr (5, [.ref a_this_text, .int x_this_length, .int x_this_at, .int x_this_behind, .int x_this_sort, .int x_this_allowed, .ref a_this_plan, .int x_this_fault, .int x_this_place])), (a_this_plan, .inr (4, [.int x_this_plan_cycle, .int x_this_plan_green, .int x_this_plan_rule, .int x_this_plan_least, .int x_this_plan_away, .int x_this_plan_statements, .int x_this_plan_kinds, .ref a_this_plan_calm, .ref a_this_plan_pace, .ref a_this_plan_trusts, .int x_this_plan_walkers, .ref a_this_plan_kindOf, .ref a_this_plan_comesAt, .ref a_this_plan_comers, .ref a_this_plan_names, .ref a_this_plan_code, .int n0, .ref a_this_plan_spans])), (a_this_plan_code, .inl (cy 0, 1600, .inl n1))])) := by
  refine k_ofW2 (by decide +kernel) (Nat.le_of_ble_eq_true rfl) ?_
  intro p e s m below meth c A ls H locs args Q hQ C0 hr hlk hin hP hD hA hS hl
  have C0 : k_cx p s m args c cX5_emit 2 RX5 dC dI cy sq := C0
  have hx := C0.1
  have hb := C0.2.1
  have hl : lv_has ls 2 [(0, .ref a_this), (1, .int p0)] := hl
  have jn47 : ∀ (J47_c1_16 : Int32) (J47_a2 : Nat → Int32) (H : Heap) (locs : List Loc) (ls : Array Slot), ib J47_c1_16 1 1600 → va_P (dC, dI) vwCl [(a_this, .inr (5, [.ref a_this_text, .int x_this_length, .int x_this_at, .int x_this_behind, .int x_this_sort, .int x_this_allowed, .ref a_this_plan, .int x_this_fault, .int x_this_place])), (a_this_plan, .inr (4, [.int x_this_plan_cycle, .int x_this_plan_green, .int x_this_plan_rule, .int x_this_plan_least, .int x_this_plan_away, .int x_this_plan_statements, .int x_this_plan_kinds, .ref a_this_plan_calm, .ref a_this_plan_pace, .ref a_this_plan_trusts, .int x_this_plan_walkers, .ref a_this_plan_kindOf, .ref a_this_plan_comesAt, .ref a_this_plan_comers, .ref a_this_plan_names, .ref a_this_plan_code, .int J47_c1_16, .ref a_this_plan_spans])), (a_this_plan_code, .inl (cy 0, 1600, .inl J47_a2))] H → va_D A [(a_this, .inr (5, [.ref a_this_text, .int x_this_length, .int x_this_at, .int x_this_behind, .int x_this_sort, .int x_this_allowed, .ref a_this_plan, .int x_this_fault, .int x_this_place])), (a_this_plan, .inr (4, [.int x_this_plan_cycle, .int x_this_plan_green, .int x_this_plan_rule, .int x_this_plan_least, .int x_this_plan_away, .int x_this_plan_statements, .int x_this_plan_kinds, .ref a_this_plan_calm, .ref a_this_plan_pace, .ref a_this_plan_trusts, .int x_this_plan_walkers, .ref a_this_plan_kindOf, .ref a_this_plan_comesAt, .ref a_this_plan_comers, .ref a_this_plan_names, .ref a_this_plan_code, .int J47_c1_16, .ref a_this_plan_spans])), (a_this_plan_code, .inl (cy 0, 1600, .inl J47_a2))] → va_S A s.heap H locs → lv_has ls 2 [(0, .ref a_this), (1, .int p0)] → W p l e { frames := 0, cells := 0, slots := 0, locals := 0 } s m args below meth c H locs 0 0 Q (F0 m 47 ls []) := by
    intro J47_c1_16 J47_a2 H locs ls hJ47_c1_16 hP hD hS hl
    subst hQ; exact k_vret hx hb hr hlk ((J47_c1_16, J47_a2)) hS (ib_w 0 1600 hJ47_c1_16 (by decide)) hP hD (Nat.le_of_ble_eq_true rfl) (Nat.le_of_ble_eq_true rfl) dX5_emit_47
  refine lv_aload_n hx hb dX5_emit_0 rfl (lv_at hl 0 rfl) ?_
  refine k_get C0 fg_X5_37 hP 0 rfl rfl dX5_emit_1 ?_
  refine k_get C0 fg_X5_165 hP 1 rfl rfl dX5_emit_4 ?_
  refine lv_aload_n hx hb dX5_emit_7 rfl (lv_at hl 0 rfl) ?_
  refine k_get C0 fg_X5_37 hP 0 rfl rfl dX5_emit_8 ?_
  refine k_get C0 fg_X5_241 hP 1 rfl rfl dX5_emit_11 ?_
  refine va_alen hx hb C0.2.2.2.2.2.1 hP 2 0 rfl rfl (v := 1600) (show Int32.ofNat 1600 = 1600 by decide) dX5_emit_14 ?_
  refine lv_icmp_ge (tgt := 47) hx hb dX5_emit_15 (by decide) (fun c529 => ?_) (fun c529 => ?_)
  · have h530 := ib_le (ib_c 1600 1600 1600 (by decide)) hx_this_plan_size c529
    have h531 : ib x_this_plan_size 1600 1600 := ib_w 1600 1600 h530.2 (by decide)
    subst hQ; exact k_vret hx hb hr hlk ((x_this_plan_size, g_this_plan_code)) hS (ib_w 0 1600 h531 (by decide)) hP hD (Nat.le_of_ble_eq_true rfl) (Nat.le_of_ble_eq_true rfl) dX5_emit_47
  · have h532 := ib_nle (ib_c 1600 1600 1600 (by decide)) hx_this_plan_size c529
    have h533 : ib x_this_plan_size 0 1599 := ib_w 0 1599 h532.2 (by decide)
    refine lv_aload_n hx hb dX5_emit_18 rfl (lv_at hl 0 rfl) ?_
    refine k_get C0 fg_X5_37 hP 0 rfl rfl dX5_emit_19 ?_
    refine k_get C0 fg_X5_241 hP 1 rfl rfl dX5_emit_22 ?_
    refine lv_aload_n hx hb dX5_emit_25 rfl (lv_at hl 0 rfl) ?_
    refine k_get C0 fg_X5_37 hP 0 rfl rfl dX5_emit_26 ?_
    refine k_get C0 fg_X5_165 hP 1 rfl rfl dX5_emit_29 ?_
    refine lv_iload_n hx hb dX5_emit_32 rfl (lv_at hl 1 rfl) ?_
    refine va_iast hx hb C0.2.2.2.2.2.1 hP hD hS 2 0 rfl rfl (ib_in 1600 h533 (by decide)) dX5_emit_33 (fun H locs hP hD hS => ?_)
    have hP : va_P (dC, dI) vwCl [(a_this, .inr (5, [.ref a_this_text, .int x_this_length, .int x_this_at, .int x_this_behind, .int x_this_sort, .int x_this_allowed, .ref a_this_plan, .int x_this_fault, .int x_this_place])), (a_this_plan, .inr (4, [.int x_this_plan_cycle, .int x_this_plan_green, .int x_this_plan_rule, .int x_this_plan_least, .int x_this_plan_away, .int x_this_plan_statements, .int x_this_plan_kinds, .ref a_this_plan_calm, .ref a_this_plan_pace, .ref a_this_plan_trusts, .int x_this_plan_walkers, .ref a_this_plan_kindOf, .ref a_this_plan_comesAt, .ref a_this_plan_comers, .ref a_this_plan_names, .ref a_this_plan_code, .int x_this_plan_size, .ref a_this_plan_spans])), (a_this_plan_code, .inl (cy 0, 1600, .inl (upd g_this_plan_code (Int32.toNatClampNeg x_this_plan_size) p0)))] H := hP
    have hD : va_D A [(a_this, .inr (5, [.ref a_this_text, .int x_this_length, .int x_this_at, .int x_this_behind, .int x_this_sort, .int x_this_allowed, .ref a_this_plan, .int x_this_fault, .int x_this_place])), (a_this_plan, .inr (4, [.int x_this_plan_cycle, .int x_this_plan_green, .int x_this_plan_rule, .int x_this_plan_least, .int x_this_plan_away, .int x_this_plan_statements, .int x_this_plan_kinds, .ref a_this_plan_calm, .ref a_this_plan_pace, .ref a_this_plan_trusts, .int x_this_plan_walkers, .ref a_this_plan_kindOf, .ref a_this_plan_comesAt, .ref a_this_plan_comers, .ref a_this_plan_names, .ref a_this_plan_code, .int x_this_plan_size, .ref a_this_plan_spans])), (a_this_plan_code, .inl (cy 0, 1600, .inl (upd g_this_plan_code (Int32.toNatClampNeg x_this_plan_size) p0)))] := hD
    generalize upd g_this_plan_code (Int32.toNatClampNeg x_this_plan_size) p0 = f534 at hP hD
    refine lv_aload_n hx hb dX5_emit_34 rfl (lv_at hl 0 rfl) ?_
    refine k_get C0 fg_X5_37 hP 0 rfl rfl dX5_emit_35 ?_
    refine lv_dup hx hb dX5_emit_38 rfl ?_
    refine k_get C0 fg_X5_165 hP 1 rfl rfl dX5_emit_39 ?_
    refine lv_iconst (v := 1) hx hb dX5_emit_42 (by decide) ?_
    refine lv_iadd hx hb dX5_emit_43 ?_
    refine lv_topi (fun z535 ez535 => ?_)
    have h536 := ib_add h533 (ib_c 1 1 1 (by decide)) (by decide)
    rw [← ez535] at h536
    have h537 : ib z535 1 1600 := ib_w 1 1600 h536.1 (by decide)
    refine k_put C0 fp_X5_165 hP hD hS 1 rfl rfl rfl (Nat.le_of_ble_eq_true rfl) dX5_emit_44 (fun H locs hP hD hS => ?_)
    have hP : va_P (dC, dI) vwCl [(a_this, .inr (5, [.ref a_this_text, .int x_this_length, .int x_this_at, .int x_this_behind, .int x_this_sort, .int x_this_allowed, .ref a_this_plan, .int x_this_fault, .int x_this_place])), (a_this_plan, .inr (4, [.int x_this_plan_cycle, .int x_this_plan_green, .int x_this_plan_rule, .int x_this_plan_least, .int x_this_plan_away, .int x_this_plan_statements, .int x_this_plan_kinds, .ref a_this_plan_calm, .ref a_this_plan_pace, .ref a_this_plan_trusts, .int x_this_plan_walkers, .ref a_this_plan_kindOf, .ref a_this_plan_comesAt, .ref a_this_plan_comers, .ref a_this_plan_names, .ref a_this_plan_code, .int z535, .ref a_this_plan_spans])), (a_this_plan_code, .inl (cy 0, 1600, .inl f534))] H := hP
    have hD : va_D A [(a_this, .inr (5, [.ref a_this_text, .int x_this_length, .int x_this_at, .int x_this_behind, .int x_this_sort, .int x_this_allowed, .ref a_this_plan, .int x_this_fault, .int x_this_place])), (a_this_plan, .inr (4, [.int x_this_plan_cycle, .int x_this_plan_green, .int x_this_plan_rule, .int x_this_plan_least, .int x_this_plan_away, .int x_this_plan_statements, .int x_this_plan_kinds, .ref a_this_plan_calm, .ref a_this_plan_pace, .ref a_this_plan_trusts, .int x_this_plan_walkers, .ref a_this_plan_kindOf, .ref a_this_plan_comesAt, .ref a_this_plan_comers, .ref a_this_plan_names, .ref a_this_plan_code, .int z535, .ref a_this_plan_spans])), (a_this_plan_code, .inl (cy 0, 1600, .inl f534))] := hD
    exact jn47 z535 f534 H locs ls (ib_w 1 1600 h537 (by decide)) hP hD hS (lv_sub hl [0, 1] rfl)
set_option maxHeartbeats 4000000 in
set_option maxRecDepth 100000 in
theorem s_X9_fault (l : Launch) (dC : Nat → ClassId) (dI : Nat → Nat → Nat) (cy : Nat → ClassId) (sq : Nat → Nat) (a_this : Nat) (a_this_tape : Nat) (x_this_tapeSize : Int32) (a_this_plan : Nat) (a_this_spare : Nat) (a_this_now : Nat) (a_this_history : Nat) (a_this_machine : Nat) (a_this_reader : Nat) (x_this_reader_length : Int32) (x_this_reader_at : Int32) (x_this_reader_behind : Int32) (x_this_reader_sort : Int32) (x_this_reader_allowed : Int32) (x_this_reader_fault : Int32) (x_this_reader_place : Int32) (a_this_street : Nat) (a_this_choice : Nat) (a_this_ahead : Nat) (a_this_watch : Nat) (a_this_octets : Nat) (x_this_octetCount : Int32) (a_this_refusals : Nat) (x_this_drawn : Int64) (p0 : Int32) (hx_this_tapeSize : ib x_this_tapeSize 0 1600) (hx_this_reader_length : ib x_this_reader_length 0 1600) (hx_this_reader_at : ib x_this_reader_at 0 1600) (hx_this_reader_behind : ib x_this_reader_behind 0 1600) (hx_this_reader_sort : ib x_this_reader_sort 0 4) (hx_this_octetCount : ib x_this_octetCount 0 11) : k_Met l yX9_fault cX9_fault 2 (some .int) { frames := 0, cells := 0, slots := 0, locals := 0 } dC dI cy sq [.ref a_this, .int p0] [(a_this, .inr (9, [.ref a_this_tape, .int x_this_tapeSize, .ref a_this_plan, .ref a_this_spare, .ref a_this_now, .ref a_this_history, .ref a_this_machine, .ref a_this_reader, .ref a_this_street, .ref a_this_choice, .ref a_this_ahead, .ref a_this_watch, .ref a_this_octets, .int x_this_octetCount, .ref a_this_refusals, .long x_this_drawn])), (a_this_reader, .inr (5, [.ref a_this_tape, .int x_this_reader_length, .int x_this_reader_at, .int x_this_reader_behind, .int x_this_reader_sort, .int x_this_reader_allowed, .ref a_this_spare, .int x_this_reader_fault, .int x_this_reader_place]))] (k_Qi dC dI (fun (r : Int32) (_ : Unit) => True) (fun _ : Unit => [(a_this, .inr (9, [.ref a_this_tape, .int x_this_tapeSize, .ref a_this_plan, .ref a_this_spare, .ref a_this_now, .ref a_this_history, .ref a_this_machine, .ref a_this_reader, .ref a_this_street, .ref a_this_choice, .ref a_this_ahead, .ref a_this_watch, .ref a_this_octets, .int x_this_octetCount, .ref a_this_refusals, .long x_this_drawn])), (a_this_reader, .inr (5, [.ref a_this_tape, .int x_this_reader_length, .int x_this_reader_at, .int x_this_reader_behind, .int x_this_reader_sort, .int x_this_reader_allowed, .ref a_this_spare, .int x_this_reader_fault, .int x_this_reader_place]))])) := by
  refine k_ofW2 (by decide +kernel) (Nat.le_of_ble_eq_true rfl) ?_
  intro p e s m below meth c A ls H locs args Q hQ C0 hr hlk hin hP hD hA hS hl
  have C0 : k_cx p s m args c cX9_fault 2 RX9 dC dI cy sq := C0
  have hx := C0.1
  have hb := C0.2.1
  have hl : lv_has ls 2 [(0, .ref a_this), (1, .int p0)] := hl
  refine lv_iload_n hx hb dX9_fault_0 rfl (lv_at hl 1 rfl) ?_
  rcases Decidable.em (p0 = 0) with s540_0 | s540_0
  · subst s540_0
    refine lv_lookup (tgt := 28) hx hb dX9_fault_1 (by decide) rfl (by decide) ?_
    refine lv_aload_n hx hb dX9_fault_28 rfl (lv_at hl 0 rfl) ?_
    refine k_get C0 fg_X9_53 hP 0 rfl rfl dX9_fault_29 ?_
    refine k_get C0 fg_X9_122 hP 1 rfl rfl dX9_fault_32 ?_
    subst hQ; exact k_iret hx hb hr hlk rfl () hS True.intro hP hD (Nat.le_of_ble_eq_true rfl) (Nat.le_of_ble_eq_true rfl) dX9_fault_35
  rcases Decidable.em (p0 = 1) with s540_1 | s540_1
  · subst s540_1
    refine lv_lookup (tgt := 36) hx hb dX9_fault_1 (by decide) rfl (by decide) ?_
    refine lv_aload_n hx hb dX9_fault_36 rfl (lv_at hl 0 rfl) ?_
    refine k_get C0 fg_X9_53 hP 0 rfl rfl dX9_fault_37 ?_
    refine k_get C0 fg_X9_142 hP 1 rfl rfl dX9_fault_40 ?_
    subst hQ; exact k_iret hx hb hr hlk rfl () hS True.intro hP hD (Nat.le_of_ble_eq_true rfl) (Nat.le_of_ble_eq_true rfl) dX9_fault_43
  refine lv_lookup (tgt := 44) hx hb dX9_fault_1 (by decide) (off := 43) (k_look p0 s540_0 s540_1) (by decide) ?_
  refine lv_iconst (v := (-1)) hx hb dX9_fault_44 (by decide) ?_
  subst hQ; exact k_iret hx hb hr hlk rfl () hS True.intro hP hD (Nat.le_of_ble_eq_true rfl) (Nat.le_of_ble_eq_true rfl) dX9_fault_45
set_option maxHeartbeats 4000000 in
set_option maxRecDepth 100000 in
theorem s_X4_walkersOf (l : Launch) (dC : Nat → ClassId) (dI : Nat → Nat → Nat) (cy : Nat → ClassId) (sq : Nat → Nat) (a_this : Nat) (x_this_cycle : Int32) (x_this_green : Int32) (x_this_rule : Int32) (x_this_least : Int32) (x_this_away : Int32) (x_this_statements : Int32) (x_this_kinds : Int32) (a_this_calm : Nat) (a_this_pace : Nat) (a_this_trusts : Nat) (x_this_walkers : Int32) (a_this_kindOf : Nat) (g_this_kindOf : Nat → Int32) (a_this_comesAt : Nat) (a_this_comers : Nat) (a_this_names : Nat) (a_this_code : Nat) (x_this_size : Int32) (a_this_spans : Nat) (p0 : Int32) (hx_this_cycle : ib x_this_cycle 0 120) (hx_this_least : ib x_this_least 0 99) (hx_this_statements : ib x_this_statements 0 81) (hx_this_kinds : ib x_this_kinds 0 6) (hx_this_walkers : ib x_this_walkers 0 12) (hg_this_kindOf : ia g_this_kindOf 12 0 5) (hx_this_size : ib x_this_size 0 1600) : k_Met l yX4_walkersOf cX4_walkersOf 4 (some .int) { frames := 0, cells := 0, slots := 0, locals := 0 } dC dI cy sq [.ref a_this, .int p0] [(a_this, .inr (4, [.int x_this_cycle, .int x_this_green, .int x_this_rule, .int x_this_least, .int x_this_away, .int x_this_statements, .int x_this_kinds, .ref a_this_calm, .ref a_this_pace, .ref a_this_trusts, .int x_this_walkers, .ref a_this_kindOf, .ref a_this_comesAt, .ref a_this_comers, .ref a_this_names, .ref a_this_code, .int x_this_size, .ref a_this_spans])), (a_this_kindOf, .inl (cy 0, 12, .inl g_this_kindOf))] (k_Qi dC dI (fun (r : Int32) (_ : Unit) => True) (fun _ : Unit => [(a_this, .inr (4, [.int x_this_cycle, .int x_this_green, .int x_this_rule, .int x_this_least, .int x_this_away, .int x_this_statements, .int x_this_kinds, .ref a_this_calm, .ref a_this_pace, .ref a_this_trusts, .int x_this_walkers, .ref a_this_kindOf, .ref a_this_comesAt, .ref a_this_comers, .ref a_this_names, .ref a_this_code, .int x_this_size, .ref a_this_spans])), (a_this_kindOf, .inl (cy 0, 12, .inl g_this_kindOf))])) := by
  refine k_ofW2 (by decide +kernel) (Nat.le_of_ble_eq_true rfl) ?_
  intro p e s m below meth c A ls H locs args Q hQ C0 hr hlk hin hP hD hA hS hl
  have C0 : k_cx p s m args c cX4_walkersOf 4 RX4 dC dI cy sq := C0
  have hx := C0.1
  have hb := C0.2.1
  have hl : lv_has ls 4 [(0, .ref a_this), (1, .int p0)] := hl
  have jn4 : ∀ (n : Nat) (J4_l3 : Int32) (J4_l2 : Int32) (H : Heap) (locs : List Loc) (ls : Array Slot), ib J4_l3 0 12 → 13 ≤ J4_l3.toInt + (n : Int) → va_P (dC, dI) vwCl [(a_this, .inr (4, [.int x_this_cycle, .int x_this_green, .int x_this_rule, .int x_this_least, .int x_this_away, .int x_this_statements, .int x_this_kinds, .ref a_this_calm, .ref a_this_pace, .ref a_this_trusts, .int x_this_walkers, .ref a_this_kindOf, .ref a_this_comesAt, .ref a_this_comers, .ref a_this_names, .ref a_this_code, .int x_this_size, .ref a_this_spans])), (a_this_kindOf, .inl (cy 0, 12, .inl g_this_kindOf))] H → va_D A [(a_this, .inr (4, [.int x_this_cycle, .int x_this_green, .int x_this_rule, .int x_this_least, .int x_this_away, .int x_this_statements, .int x_this_kinds, .ref a_this_calm, .ref a_this_pace, .ref a_this_trusts, .int x_this_walkers, .ref a_this_kindOf, .ref a_this_comesAt, .ref a_this_comers, .ref a_this_names, .ref a_this_code, .int x_this_size, .ref a_this_spans])), (a_this_kindOf, .inl (cy 0, 12, .inl g_this_kindOf))] → va_S A s.heap H locs → lv_has ls 4 [(0, .ref a_this), (1, .int p0), (2, .int J4_l2), (3, .int J4_l3)] → W p l e { frames := 0, cells := 0, slots := 0, locals := 0 } s m args below meth c H locs 0 0 Q (F0 m 4 ls []) := by
    intro n
    induction n with
    | zero =>
      intro J4_l3 J4_l2 H locs ls hJ4_l3 hm
      exact absurd hm (by have := hJ4_l3; unfold ib at this; omega)
    | succ n ih =>
      intro J4_l3 J4_l2 H locs ls hJ4_l3 hm4 hP hD hS hl
      have ih4 := ih
      have jn28 : ∀ (J28_l2 : Int32) (H : Heap) (locs : List Loc) (ls : Array Slot), ib p0 0 5 → ib J4_l3 0 11 → ib x_this_walkers 1 12 → va_P (dC, dI) vwCl [(a_this, .inr (4, [.int x_this_cycle, .int x_this_green, .int x_this_rule, .int x_this_least, .int x_this_away, .int x_this_statements, .int x_this_kinds, .ref a_this_calm, .ref a_this_pace, .ref a_this_trusts, .int x_this_walkers, .ref a_this_kindOf, .ref a_this_comesAt, .ref a_this_comers, .ref a_this_names, .ref a_this_code, .int x_this_size, .ref a_this_spans])), (a_this_kindOf, .inl (cy 0, 12, .inl g_this_kindOf))] H → va_D A [(a_this, .inr (4, [.int x_this_cycle, .int x_this_green, .int x_this_rule, .int x_this_least, .int x_this_away, .int x_this_statements, .int x_this_kinds, .ref a_this_calm, .ref a_this_pace, .ref a_this_trusts, .int x_this_walkers, .ref a_this_kindOf, .ref a_this_comesAt, .ref a_this_comers, .ref a_this_names, .ref a_this_code, .int x_this_size, .ref a_this_spans])), (a_this_kindOf, .inl (cy 0, 12, .inl g_this_kindOf))] → va_S A s.heap H locs → lv_has ls 4 [(0, .ref a_this), (1, .int p0), (2, .int J28_l2), (3, .int J4_l3)] → W p l e { frames := 0, cells := 0, slots := 0, locals := 0 } s m args below meth c H locs 0 0 Q (F0 m 28 ls []) := by
        intro J28_l2 H locs ls hJ28_l1 hJ28_l3 hJ28_c0_10 hP hD hS hl
        obtain ⟨z873, ez873⟩ : ∃ y : Int32, y = J4_l3 + 1 := ⟨_, rfl⟩
        refine lv_iinc (v := z873) (lv' := [(3, .int z873), (0, .ref a_this), (1, .int p0), (2, .int J28_l2)]) hx hb dX4_walkersOf_28 hl (k := 3) rfl (by rw [ez873]; rfl) (by decide) rfl (fun ls hl => ?_)
        have h874 := ib_add hJ28_l3 (ib_c 1 1 1 (by decide)) (by decide)
        rw [← ez873] at h874
        have h875 : ib z873 1 12 := ib_w 1 12 h874.1 (by decide)
        refine lv_goto (tgt := 4) hx hb dX4_walkersOf_31 (by decide) ?_
        exact ih4 z873 J28_l2 H locs ls (ib_w 0 12 h875 (by decide)) (by have := h874.2; have : (1 : Int32).toInt = 1 := (by decide); omega) hP hD hS (lv_sub hl [1, 2, 3, 0] rfl)
      refine lv_iload_n hx hb dX4_walkersOf_4 rfl (lv_at hl 3 rfl) ?_
      refine lv_aload_n hx hb dX4_walkersOf_5 rfl (lv_at hl 0 rfl) ?_
      refine k_get C0 fg_X4_52 hP 0 rfl rfl dX4_walkersOf_6 ?_
      refine lv_icmp_ge (tgt := 34) hx hb dX4_walkersOf_9 (by decide) (fun c876 => ?_) (fun c876 => ?_)
      · have h877 := ib_le hx_this_walkers hJ4_l3 c876
        refine lv_iload_n hx hb dX4_walkersOf_34 rfl (lv_at hl 2 rfl) ?_
        subst hQ; exact k_iret hx hb hr hlk rfl () hS True.intro hP hD (Nat.le_of_ble_eq_true rfl) (Nat.le_of_ble_eq_true rfl) dX4_walkersOf_35
      · have h878 := ib_nle hx_this_walkers hJ4_l3 c876
        have h879 : ib x_this_walkers 1 12 := ib_w 1 12 h878.1 (by decide)
        have h880 : ib J4_l3 0 11 := ib_w 0 11 h878.2 (by decide)
        refine lv_aload_n hx hb dX4_walkersOf_12 rfl (lv_at hl 0 rfl) ?_
        refine k_get C0 fg_X4_21 hP 0 rfl rfl dX4_walkersOf_13 ?_
        refine lv_iload_n hx hb dX4_walkersOf_16 rfl (lv_at hl 3 rfl) ?_
        refine va_iald hx hb C0.2.2.2.2.2.1 hP 1 0 rfl rfl (ib_in 12 h880 (by decide)) dX4_walkersOf_17 ?_
        refine lv_topi (fun z881 ez881 => ?_)
        have h882 : ib z881 0 5 := by rw [ez881]; exact ia_at hg_this_kindOf (ib_in 12 h880 (by decide))
        refine lv_iload_n hx hb dX4_walkersOf_18 rfl (lv_at hl 1 rfl) ?_
        refine lv_icmp_ne (tgt := 28) hx hb dX4_walkersOf_19 (by decide) (fun c883 => ?_) (fun c883 => ?_)
        · skip
          obtain ⟨z884, ez884⟩ : ∃ y : Int32, y = J4_l3 + 1 := ⟨_, rfl⟩
          refine lv_iinc (v := z884) (lv' := [(3, .int z884), (0, .ref a_this), (1, .int p0), (2, .int J4_l2)]) hx hb dX4_walkersOf_28 hl (k := 3) rfl (by rw [ez884]; rfl) (by decide) rfl (fun ls hl => ?_)
          have h885 := ib_add h880 (ib_c 1 1 1 (by decide)) (by decide)
          rw [← ez884] at h885
          have h886 : ib z884 1 12 := ib_w 1 12 h885.1 (by decide)
          refine lv_goto (tgt := 4) hx hb dX4_walkersOf_31 (by decide) ?_
          exact ih4 z884 J4_l2 H locs ls (ib_w 0 12 h886 (by decide)) (by have := h885.2; have : (1 : Int32).toInt = 1 := (by decide); omega) hP hD hS (lv_sub hl [1, 2, 3, 0] rfl)
        · have h887 := ib_eq h882 (ib_any p0) c883
          have h888 : ib p0 0 5 := ib_w 0 5 h887.2 (by decide)
          refine lv_iload_n hx hb dX4_walkersOf_22 rfl (lv_at hl 2 rfl) ?_
          refine lv_iconst (v := 1) hx hb dX4_walkersOf_23 (by decide) ?_
          refine lv_iload_n hx hb dX4_walkersOf_24 rfl (lv_at hl 3 rfl) ?_
          refine lv_ishl hx hb dX4_walkersOf_25 ?_
          refine lv_topi (fun z889 ez889 => ?_)
          refine lv_ior hx hb dX4_walkersOf_26 ?_
          refine lv_topi (fun z890 ez890 => ?_)
          refine lv_istore_n (lv' := [(2, .int z890), (0, .ref a_this), (1, .int p0), (3, .int J4_l3)]) hx hb dX4_walkersOf_27 rfl hl (by decide) rfl (fun ls hl => ?_)
          exact jn28 z890 H locs ls (ib_w 0 5 h888 (by decide)) (ib_w 0 11 h880 (by decide)) (ib_w 1 12 h879 (by decide)) hP hD hS (lv_sub hl [1, 2, 0, 3] rfl)
  refine lv_iconst (v := 0) hx hb dX4_walkersOf_0 (by decide) ?_
  refine lv_istore_n (lv' := [(2, .int 0), (0, .ref a_this), (1, .int p0)]) hx hb dX4_walkersOf_1 rfl hl (by decide) rfl (fun ls hl => ?_)
  refine lv_iconst (v := 0) hx hb dX4_walkersOf_2 (by decide) ?_
  refine lv_istore_n (lv' := [(3, .int 0), (2, .int 0), (0, .ref a_this), (1, .int p0)]) hx hb dX4_walkersOf_3 rfl hl (by decide) rfl (fun ls hl => ?_)
  exact jn4 14 0 0 H locs ls (ib_w 0 12 (ib_c 0 0 0 (by decide)) (by decide)) (by have := (ib_c 0 0 0 (by decide)); unfold ib at this; omega) hP hD hS (lv_sub hl [2, 3, 1, 0] rfl)
set_option maxHeartbeats 4000000 in
set_option maxRecDepth 100000 in
theorem s_X7_willing (l : Launch) (dC : Nat → ClassId) (dI : Nat → Nat → Nat) (cy : Nat → ClassId) (sq : Nat → Nat) (a_this : Nat) (a_this_machine : Nat) (a_this_plan : Nat) (x_this_plan_cycle : Int32) (x_this_plan_green : Int32) (x_this_plan_rule : Int32) (x_this_plan_least : Int32) (x_this_plan_away : Int32) (x_this_plan_statements : Int32) (x_this_plan_kinds : Int32) (a_this_plan_calm : Nat) (a_this_plan_pace : Nat) (a_this_plan_trusts : Nat) (x_this_plan_walkers : Int32) (a_this_plan_kindOf : Nat) (g_this_plan_kindOf : Nat → Int32) (a_this_plan_comesAt : Nat) (a_this_plan_comers : Nat) (a_this_plan_names : Nat) (a_this_plan_code : Nat) (x_this_plan_size : Int32) (a_this_plan_spans : Nat) (x_this_day : Int32) (a_this_trusts : Nat) (g_this_trusts : Nat → Int32) (x_this_rule : Int32) (x_this_green : Int32) (x_this_absent : Int32) (x_this_asksReds : Int32) (a_this_cars : Nat) (a_this_gaps : Nat) (a_this_known : Nat) (a_this_left : Nat) (a_this_leaves : Nat) (x_this_pressed : Int32) (x_this_crossed : Int32) (x_this_went : Int32) (x_this_harmed : Int32) (hx_this_plan_cycle : ib x_this_plan_cycle 0 120) (hx_this_plan_least : ib x_this_plan_least 0 99) (hx_this_plan_statements : ib x_this_plan_statements 0 81) (hx_this_plan_kinds : ib x_this_plan_kinds 0 6) (hx_this_plan_walkers : ib x_this_plan_walkers 0 12) (hg_this_plan_kindOf : ia g_this_plan_kindOf 12 0 5) (hx_this_plan_size : ib x_this_plan_size 0 1600) (hx_this_asksReds : ib x_this_asksReds 0 1) : k_Met l yX7_willing cX7_willing 3 (some .int) { frames := 0, cells := 0, slots := 0, locals := 0 } dC dI cy sq [.ref a_this] [(a_this, .inr (7, [.ref a_this_machine, .ref a_this_plan, .int x_this_day, .ref a_this_trusts, .int x_this_rule, .int x_this_green, .int x_this_absent, .int x_this_asksReds, .ref a_this_cars, .ref a_this_gaps, .ref a_this_known, .ref a_this_left, .ref a_this_leaves, .int x_this_pressed, .int x_this_crossed, .int x_this_went, .int x_this_harmed])), (a_this_plan, .inr (4, [.int x_this_plan_cycle, .int x_this_plan_green, .int x_this_plan_rule, .int x_this_plan_least, .int x_this_plan_away, .int x_this_plan_statements, .int x_this_plan_kinds, .ref a_this_plan_calm, .ref a_this_plan_pace, .ref a_this_plan_trusts, .int x_this_plan_walkers, .ref a_this_plan_kindOf, .ref a_this_plan_comesAt, .ref a_this_plan_comers, .ref a_this_plan_names, .ref a_this_plan_code, .int x_this_plan_size, .ref a_this_plan_spans])), (a_this_plan_kindOf, .inl (cy 0, 12, .inl g_this_plan_kindOf)), (a_this_trusts, .inl (cy 0, 6, .inl g_this_trusts))] (k_Qi dC dI (fun (r : Int32) (_ : Unit) => True) (fun _ : Unit => [(a_this, .inr (7, [.ref a_this_machine, .ref a_this_plan, .int x_this_day, .ref a_this_trusts, .int x_this_rule, .int x_this_green, .int x_this_absent, .int x_this_asksReds, .ref a_this_cars, .ref a_this_gaps, .ref a_this_known, .ref a_this_left, .ref a_this_leaves, .int x_this_pressed, .int x_this_crossed, .int x_this_went, .int x_this_harmed])), (a_this_plan, .inr (4, [.int x_this_plan_cycle, .int x_this_plan_green, .int x_this_plan_rule, .int x_this_plan_least, .int x_this_plan_away, .int x_this_plan_statements, .int x_this_plan_kinds, .ref a_this_plan_calm, .ref a_this_plan_pace, .ref a_this_plan_trusts, .int x_this_plan_walkers, .ref a_this_plan_kindOf, .ref a_this_plan_comesAt, .ref a_this_plan_comers, .ref a_this_plan_names, .ref a_this_plan_code, .int x_this_plan_size, .ref a_this_plan_spans])), (a_this_plan_kindOf, .inl (cy 0, 12, .inl g_this_plan_kindOf)), (a_this_trusts, .inl (cy 0, 6, .inl g_this_trusts))])) := by
  refine k_ofW2 (by decide +kernel) (Nat.le_of_ble_eq_true rfl) ?_
  intro p e s m below meth c A ls H locs args Q hQ C0 hr hlk hin hP hD hA hS hl
  have C0 : k_cx p s m args c cX7_willing 3 RX7 dC dI cy sq := C0
  have hx := C0.1
  have hb := C0.2.1
  have hl : lv_has ls 3 [(0, .ref a_this)] := hl
  have jn4 : ∀ (n : Nat) (J4_l2 : Int32) (J4_l1 : Int32) (H : Heap) (locs : List Loc) (ls : Array Slot), ib J4_l2 0 12 → 13 ≤ J4_l2.toInt + (n : Int) → va_P (dC, dI) vwCl [(a_this, .inr (7, [.ref a_this_machine, .ref a_this_plan, .int x_this_day, .ref a_this_trusts, .int x_this_rule, .int x_this_green, .int x_this_absent, .int x_this_asksReds, .ref a_this_cars, .ref a_this_gaps, .ref a_this_known, .ref a_this_left, .ref a_this_leaves, .int x_this_pressed, .int x_this_crossed, .int x_this_went, .int x_this_harmed])), (a_this_plan, .inr (4, [.int x_this_plan_cycle, .int x_this_plan_green, .int x_this_plan_rule, .int x_this_plan_least, .int x_this_plan_away, .int x_this_plan_statements, .int x_this_plan_kinds, .ref a_this_plan_calm, .ref a_this_plan_pace, .ref a_this_plan_trusts, .int x_this_plan_walkers, .ref a_this_plan_kindOf, .ref a_this_plan_comesAt, .ref a_this_plan_comers, .ref a_this_plan_names, .ref a_this_plan_code, .int x_this_plan_size, .ref a_this_plan_spans])), (a_this_plan_kindOf, .inl (cy 0, 12, .inl g_this_plan_kindOf)), (a_this_trusts, .inl (cy 0, 6, .inl g_this_trusts))] H → va_D A [(a_this, .inr (7, [.ref a_this_machine, .ref a_this_plan, .int x_this_day, .ref a_this_trusts, .int x_this_rule, .int x_this_green, .int x_this_absent, .int x_this_asksReds, .ref a_this_cars, .ref a_this_gaps, .ref a_this_known, .ref a_this_left, .ref a_this_leaves, .int x_this_pressed, .int x_this_crossed, .int x_this_went, .int x_this_harmed])), (a_this_plan, .inr (4, [.int x_this_plan_cycle, .int x_this_plan_green, .int x_this_plan_rule, .int x_this_plan_least, .int x_this_plan_away, .int x_this_plan_statements, .int x_this_plan_kinds, .ref a_this_plan_calm, .ref a_this_plan_pace, .ref a_this_plan_trusts, .int x_this_plan_walkers, .ref a_this_plan_kindOf, .ref a_this_plan_comesAt, .ref a_this_plan_comers, .ref a_this_plan_names, .ref a_this_plan_code, .int x_this_plan_size, .ref a_this_plan_spans])), (a_this_plan_kindOf, .inl (cy 0, 12, .inl g_this_plan_kindOf)), (a_this_trusts, .inl (cy 0, 6, .inl g_this_trusts))] → va_S A s.heap H locs → lv_has ls 3 [(0, .ref a_this), (1, .int J4_l1), (2, .int J4_l2)] → W p l e { frames := 0, cells := 0, slots := 0, locals := 0 } s m args below meth c H locs 0 0 Q (F0 m 4 ls []) := by
    intro n
    induction n with
    | zero =>
      intro J4_l2 J4_l1 H locs ls hJ4_l2 hm
      exact absurd hm (by have := hJ4_l2; unfold ib at this; omega)
    | succ n ih =>
      intro J4_l2 J4_l1 H locs ls hJ4_l2 hm4 hP hD hS hl
      have ih4 := ih
      have jn38 : ∀ (J38_l1 : Int32) (H : Heap) (locs : List Loc) (ls : Array Slot), ib J4_l2 0 11 → ib x_this_plan_walkers 1 12 → va_P (dC, dI) vwCl [(a_this, .inr (7, [.ref a_this_machine, .ref a_this_plan, .int x_this_day, .ref a_this_trusts, .int x_this_rule, .int x_this_green, .int x_this_absent, .int x_this_asksReds, .ref a_this_cars, .ref a_this_gaps, .ref a_this_known, .ref a_this_left, .ref a_this_leaves, .int x_this_pressed, .int x_this_crossed, .int x_this_went, .int x_this_harmed])), (a_this_plan, .inr (4, [.int x_this_plan_cycle, .int x_this_plan_green, .int x_this_plan_rule, .int x_this_plan_least, .int x_this_plan_away, .int x_this_plan_statements, .int x_this_plan_kinds, .ref a_this_plan_calm, .ref a_this_plan_pace, .ref a_this_plan_trusts, .int x_this_plan_walkers, .ref a_this_plan_kindOf, .ref a_this_plan_comesAt, .ref a_this_plan_comers, .ref a_this_plan_names, .ref a_this_plan_code, .int x_this_plan_size, .ref a_this_plan_spans])), (a_this_plan_kindOf, .inl (cy 0, 12, .inl g_this_plan_kindOf)), (a_this_trusts, .inl (cy 0, 6, .inl g_this_trusts))] H → va_D A [(a_this, .inr (7, [.ref a_this_machine, .ref a_this_plan, .int x_this_day, .ref a_this_trusts, .int x_this_rule, .int x_this_green, .int x_this_absent, .int x_this_asksReds, .ref a_this_cars, .ref a_this_gaps, .ref a_this_known, .ref a_this_left, .ref a_this_leaves, .int x_this_pressed, .int x_this_crossed, .int x_this_went, .int x_this_harmed])), (a_this_plan, .inr (4, [.int x_this_plan_cycle, .int x_this_plan_green, .int x_this_plan_rule, .int x_this_plan_least, .int x_this_plan_away, .int x_this_plan_statements, .int x_this_plan_kinds, .ref a_this_plan_calm, .ref a_this_plan_pace, .ref a_this_plan_trusts, .int x_this_plan_walkers, .ref a_this_plan_kindOf, .ref a_this_plan_comesAt, .ref a_this_plan_comers, .ref a_this_plan_names, .ref a_this_plan_code, .int x_this_plan_size, .ref a_this_plan_spans])), (a_this_plan_kindOf, .inl (cy 0, 12, .inl g_this_plan_kindOf)), (a_this_trusts, .inl (cy 0, 6, .inl g_this_trusts))] → va_S A s.heap H locs → lv_has ls 3 [(0, .ref a_this), (1, .int J38_l1), (2, .int J4_l2)] → W p l e { frames := 0, cells := 0, slots := 0, locals := 0 } s m args below meth c H locs 0 0 Q (F0 m 38 ls []) := by
        intro J38_l1 H locs ls hJ38_l2 hJ38_c1_10 hP hD hS hl
        obtain ⟨z1333, ez1333⟩ : ∃ y : Int32, y = J4_l2 + 1 := ⟨_, rfl⟩
        refine lv_iinc (v := z1333) (lv' := [(2, .int z1333), (0, .ref a_this), (1, .int J38_l1)]) hx hb dX7_willing_38 hl (k := 2) rfl (by rw [ez1333]; rfl) (by decide) rfl (fun ls hl => ?_)
        have h1334 := ib_add hJ38_l2 (ib_c 1 1 1 (by decide)) (by decide)
        rw [← ez1333] at h1334
        have h1335 : ib z1333 1 12 := ib_w 1 12 h1334.1 (by decide)
        refine lv_goto (tgt := 4) hx hb dX7_willing_41 (by decide) ?_
        exact ih4 z1333 J38_l1 H locs ls (ib_w 0 12 h1335 (by decide)) (by have := h1334.2; have : (1 : Int32).toInt = 1 := (by decide); omega) hP hD hS (lv_sub hl [1, 2, 0] rfl)
      refine lv_iload_n hx hb dX7_willing_4 rfl (lv_at hl 2 rfl) ?_
      refine lv_aload_n hx hb dX7_willing_5 rfl (lv_at hl 0 rfl) ?_
      refine k_get C0 fg_X7_63 hP 0 rfl rfl dX7_willing_6 ?_
      refine k_get C0 fg_X7_137 hP 1 rfl rfl dX7_willing_9 ?_
      refine lv_icmp_ge (tgt := 44) hx hb dX7_willing_12 (by decide) (fun c1336 => ?_) (fun c1336 => ?_)
      · have h1337 := ib_le hx_this_plan_walkers hJ4_l2 c1336
        refine lv_iload_n hx hb dX7_willing_44 rfl (lv_at hl 1 rfl) ?_
        refine lv_aload_n hx hb dX7_willing_45 rfl (lv_at hl 0 rfl) ?_
        refine k_get C0 fg_X7_25 hP 0 rfl rfl dX7_willing_46 ?_
        refine lv_iconst (v := (-1)) hx hb dX7_willing_49 (by decide) ?_
        refine lv_ixor hx hb dX7_willing_50 ?_
        refine lv_topi (fun z1338 ez1338 => ?_)
        refine lv_iand hx hb dX7_willing_51 ?_
        refine lv_topi (fun z1339 ez1339 => ?_)
        subst hQ; exact k_iret hx hb hr hlk rfl () hS True.intro hP hD (Nat.le_of_ble_eq_true rfl) (Nat.le_of_ble_eq_true rfl) dX7_willing_52
      · have h1340 := ib_nle hx_this_plan_walkers hJ4_l2 c1336
        have h1341 : ib x_this_plan_walkers 1 12 := ib_w 1 12 h1340.1 (by decide)
        have h1342 : ib J4_l2 0 11 := ib_w 0 11 h1340.2 (by decide)
        refine lv_aload_n hx hb dX7_willing_15 rfl (lv_at hl 0 rfl) ?_
        refine k_get C0 fg_X7_15 hP 0 rfl rfl dX7_willing_16 ?_
        refine lv_aload_n hx hb dX7_willing_19 rfl (lv_at hl 0 rfl) ?_
        refine k_get C0 fg_X7_63 hP 0 rfl rfl dX7_willing_20 ?_
        refine k_get C0 fg_X7_140 hP 1 rfl rfl dX7_willing_23 ?_
        refine lv_iload_n hx hb dX7_willing_26 rfl (lv_at hl 2 rfl) ?_
        refine va_iald hx hb C0.2.2.2.2.2.1 hP 2 0 rfl rfl (ib_in 12 h1342 (by decide)) dX7_willing_27 ?_
        refine lv_topi (fun z1343 ez1343 => ?_)
        have h1344 : ib z1343 0 5 := by rw [ez1343]; exact ia_at hg_this_plan_kindOf (ib_in 12 h1342 (by decide))
        refine va_iald hx hb C0.2.2.2.2.2.1 hP 3 0 rfl rfl (ib_in 6 h1344 (by decide)) dX7_willing_28 ?_
        refine lv_topi (fun z1345 ez1345 => ?_)
        refine lv_if_le (tgt := 38) hx hb dX7_willing_29 (by decide) (fun c1346 => ?_) (fun c1346 => ?_)
        · have h1347 := ib_le (ib_any z1345) (ib_c 0 0 0 (by decide)) c1346
          have h1348 : ib z1345 (-2147483648) 0 := ib_w (-2147483648) 0 h1347.1 (by decide)
          obtain ⟨z1349, ez1349⟩ : ∃ y : Int32, y = J4_l2 + 1 := ⟨_, rfl⟩
          refine lv_iinc (v := z1349) (lv' := [(2, .int z1349), (0, .ref a_this), (1, .int J4_l1)]) hx hb dX7_willing_38 hl (k := 2) rfl (by rw [ez1349]; rfl) (by decide) rfl (fun ls hl => ?_)
          have h1350 := ib_add h1342 (ib_c 1 1 1 (by decide)) (by decide)
          rw [← ez1349] at h1350
          have h1351 : ib z1349 1 12 := ib_w 1 12 h1350.1 (by decide)
          refine lv_goto (tgt := 4) hx hb dX7_willing_41 (by decide) ?_
          exact ih4 z1349 J4_l1 H locs ls (ib_w 0 12 h1351 (by decide)) (by have := h1350.2; have : (1 : Int32).toInt = 1 := (by decide); omega) hP hD hS (lv_sub hl [1, 2, 0] rfl)
        · have h1352 := ib_nle (ib_any z1345) (ib_c 0 0 0 (by decide)) c1346
          have h1353 : ib z1345 1 2147483647 := ib_w 1 2147483647 h1352.1 (by decide)
          refine lv_iload_n hx hb dX7_willing_32 rfl (lv_at hl 1 rfl) ?_
          refine lv_iconst (v := 1) hx hb dX7_willing_33 (by decide) ?_
          refine lv_iload_n hx hb dX7_willing_34 rfl (lv_at hl 2 rfl) ?_
          refine lv_ishl hx hb dX7_willing_35 ?_
          refine lv_topi (fun z1354 ez1354 => ?_)
          refine lv_ior hx hb dX7_willing_36 ?_
          refine lv_topi (fun z1355 ez1355 => ?_)
          refine lv_istore_n (lv' := [(1, .int z1355), (0, .ref a_this), (2, .int J4_l2)]) hx hb dX7_willing_37 rfl hl (by decide) rfl (fun ls hl => ?_)
          exact jn38 z1355 H locs ls (ib_w 0 11 h1342 (by decide)) (ib_w 1 12 h1341 (by decide)) hP hD hS (lv_sub hl [1, 0, 2] rfl)
  refine lv_iconst (v := 0) hx hb dX7_willing_0 (by decide) ?_
  refine lv_istore_n (lv' := [(1, .int 0), (0, .ref a_this)]) hx hb dX7_willing_1 rfl hl (by decide) rfl (fun ls hl => ?_)
  refine lv_iconst (v := 0) hx hb dX7_willing_2 (by decide) ?_
  refine lv_istore_n (lv' := [(2, .int 0), (1, .int 0), (0, .ref a_this)]) hx hb dX7_willing_3 rfl hl (by decide) rfl (fun ls hl => ?_)
  exact jn4 14 0 0 H locs ls (ib_w 0 12 (ib_c 0 0 0 (by decide)) (by decide)) (by have := (ib_c 0 0 0 (by decide)); unfold ib at this; omega) hP hD hS (lv_sub hl [2, 1, 0] rfl)
set_option maxHeartbeats 4000000 in
set_option maxRecDepth 100000 in
theorem s_X8_isSo (l : Launch) (dC : Nat → ClassId) (dI : Nat → Nat → Nat) (cy : Nat → ClassId) (sq : Nat → Nat) (a_this : Nat) (a_this_street : Nat) (a_this_street_machine : Nat) (a_this_street_plan : Nat) (x_this_street_day : Int32) (a_this_street_trusts : Nat) (x_this_street_rule : Int32) (x_this_street_green : Int32) (x_this_street_absent : Int32) (x_this_street_asksReds : Int32) (a_this_street_cars : Nat) (a_this_street_gaps : Nat) (a_this_street_known : Nat) (a_this_street_left : Nat) (a_this_street_leaves : Nat) (g_this_street_leaves : Nat → Int32) (x_this_street_pressed : Int32) (x_this_street_crossed : Int32) (x_this_street_went : Int32) (x_this_street_harmed : Int32) (a_this_seenWalker : Nat) (g_this_seenWalker : Nat → Int32) (a_this_seenSecond : Nat) (g_this_seenSecond : Nat → Int32) (x_this_rows : Int32) (x_this_compared : Int32) (a_this_seconds : Nat) (x_this_found : Int32) (x_this_foundRules : Int32) (x_this_foundGreen : Int32) (x_this_chosen : Int32) (x_this_chosenLeft : Int32) (hx_this_street_asksReds : ib x_this_street_asksReds 0 1) (hg_this_seenWalker : ia g_this_seenWalker 16 0 11) (hx_this_rows : ib x_this_rows 0 16) (hx_this_compared : ib x_this_compared 0 1) (hx_this_found : ib x_this_found 0 60) : k_Met l yX8_isSo cX8_isSo 2 (some .boolean) { frames := 0, cells := 0, slots := 0, locals := 0 } dC dI cy sq [.ref a_this] [(a_this, .inr (8, [.ref a_this_street, .ref a_this_seenWalker, .ref a_this_seenSecond, .int x_this_rows, .int x_this_compared, .ref a_this_seconds, .int x_this_found, .int x_this_foundRules, .int x_this_foundGreen, .int x_this_chosen, .int x_this_chosenLeft])), (a_this_street, .inr (7, [.ref a_this_street_machine, .ref a_this_street_plan, .int x_this_street_day, .ref a_this_street_trusts, .int x_this_street_rule, .int x_this_street_green, .int x_this_street_absent, .int x_this_street_asksReds, .ref a_this_street_cars, .ref a_this_street_gaps, .ref a_this_street_known, .ref a_this_street_left, .ref a_this_street_leaves, .int x_this_street_pressed, .int x_this_street_crossed, .int x_this_street_went, .int x_this_street_harmed])), (a_this_seenWalker, .inl (cy 0, 16, .inl g_this_seenWalker)), (a_this_street_leaves, .inl (cy 0, 12, .inl g_this_street_leaves)), (a_this_seenSecond, .inl (cy 0, 16, .inl g_this_seenSecond))] (k_Qi dC dI (fun (r : Int32) (_ : Unit) => ib r 0 1) (fun _ : Unit => [(a_this, .inr (8, [.ref a_this_street, .ref a_this_seenWalker, .ref a_this_seenSecond, .int x_this_rows, .int x_this_compared, .ref a_this_seconds, .int x_this_found, .int x_this_foundRules, .int x_this_foundGreen, .int x_this_chosen, .int x_this_chosenLeft])), (a_this_street, .inr (7, [.ref a_this_street_machine, .ref a_this_street_plan, .int x_this_street_day, .ref a_this_street_trusts, .int x_this_street_rule, .int x_this_street_green, .int x_this_street_absent, .int x_this_street_asksReds, .ref a_this_street_cars, .ref a_this_street_gaps, .ref a_this_street_known, .ref a_this_street_left, .ref a_this_street_leaves, .int x_this_street_pressed, .int x_this_street_crossed, .int x_this_street_went, .int x_this_street_harmed])), (a_this_seenWalker, .inl (cy 0, 16, .inl g_this_seenWalker)), (a_this_street_leaves, .inl (cy 0, 12, .inl g_this_street_leaves)), (a_this_seenSecond, .inl (cy 0, 16, .inl g_this_seenSecond))])) := by
  refine k_ofW2 (by decide +kernel) (Nat.le_of_ble_eq_true rfl) ?_
  intro p e s m below meth c A ls H locs args Q hQ C0 hr hlk hin hP hD hA hS hl
  have C0 : k_cx p s m args c cX8_isSo 2 RX8 dC dI cy sq := C0
  have hx := C0.1
  have hb := C0.2.1
  have hl : lv_has ls 2 [(0, .ref a_this)] := hl
  have jn2 : ∀ (n : Nat) (J2_l1 : Int32) (H : Heap) (locs : List Loc) (ls : Array Slot), ib J2_l1 0 16 → 17 ≤ J2_l1.toInt + (n : Int) → va_P (dC, dI) vwCl [(a_this, .inr (8, [.ref a_this_street, .ref a_this_seenWalker, .ref a_this_seenSecond, .int x_this_rows, .int x_this_compared, .ref a_this_seconds, .int x_this_found, .int x_this_foundRules, .int x_this_foundGreen, .int x_this_chosen, .int x_this_chosenLeft])), (a_this_street, .inr (7, [.ref a_this_street_machine, .ref a_this_street_plan, .int x_this_street_day, .ref a_this_street_trusts, .int x_this_street_rule, .int x_this_street_green, .int x_this_street_absent, .int x_this_street_asksReds, .ref a_this_street_cars, .ref a_this_street_gaps, .ref a_this_street_known, .ref a_this_street_left, .ref a_this_street_leaves, .int x_this_street_pressed, .int x_this_street_crossed, .int x_this_street_went, .int x_this_street_harmed])), (a_this_seenWalker, .inl (cy 0, 16, .inl g_this_seenWalker)), (a_this_street_leaves, .inl (cy 0, 12, .inl g_this_street_leaves)), (a_this_seenSecond, .inl (cy 0, 16, .inl g_this_seenSecond))] H → va_D A [(a_this, .inr (8, [.ref a_this_street, .ref a_this_seenWalker, .ref a_this_seenSecond, .int x_this_rows, .int x_this_compared, .ref a_this_seconds, .int x_this_found, .int x_this_foundRules, .int x_this_foundGreen, .int x_this_chosen, .int x_this_chosenLeft])), (a_this_street, .inr (7, [.ref a_this_street_machine, .ref a_this_street_plan, .int x_this_street_day, .ref a_this_street_trusts, .int x_this_street_rule, .int x_this_street_green, .int x_this_street_absent, .int x_this_street_asksReds, .ref a_this_street_cars, .ref a_this_street_gaps, .ref a_this_street_known, .ref a_this_street_left, .ref a_this_street_leaves, .int x_this_street_pressed, .int x_this_street_crossed, .int x_this_street_went, .int x_this_street_harmed])), (a_this_seenWalker, .inl (cy 0, 16, .inl g_this_seenWalker)), (a_this_street_leaves, .inl (cy 0, 12, .inl g_this_street_leaves)), (a_this_seenSecond, .inl (cy 0, 16, .inl g_this_seenSecond))] → va_S A s.heap H locs → lv_has ls 2 [(0, .ref a_this), (1, .int J2_l1)] → W p l e { frames := 0, cells := 0, slots := 0, locals := 0 } s m args below meth c H locs 0 0 Q (F0 m 2 ls []) := by
    intro n
    induction n with
    | zero =>
      intro J2_l1 H locs ls hJ2_l1 hm
      exact absurd hm (by have := hJ2_l1; unfold ib at this; omega)
    | succ n ih =>
      intro J2_l1 H locs ls hJ2_l1 hm2 hP hD hS hl
      have ih2 := ih
      refine lv_iload_n hx hb dX8_isSo_2 rfl (lv_at hl 1 rfl) ?_
      refine lv_aload_n hx hb dX8_isSo_3 rfl (lv_at hl 0 rfl) ?_
      refine k_get C0 fg_X8_18 hP 0 rfl rfl dX8_isSo_4 ?_
      refine lv_icmp_ge (tgt := 41) hx hb dX8_isSo_7 (by decide) (fun c1686 => ?_) (fun c1686 => ?_)
      · have h1687 := ib_le hx_this_rows hJ2_l1 c1686
        refine lv_iconst (v := 1) hx hb dX8_isSo_41 (by decide) ?_
        subst hQ; exact k_iret hx hb hr hlk (k_nb 1 (by decide)) () hS (ib_w 0 1 (ib_c 1 1 1 (by decide)) (by decide)) hP hD (Nat.le_of_ble_eq_true rfl) (Nat.le_of_ble_eq_true rfl) dX8_isSo_42
      · have h1688 := ib_nle hx_this_rows hJ2_l1 c1686
        have h1689 : ib x_this_rows 1 16 := ib_w 1 16 h1688.1 (by decide)
        have h1690 : ib J2_l1 0 15 := ib_w 0 15 h1688.2 (by decide)
        refine lv_aload_n hx hb dX8_isSo_10 rfl (lv_at hl 0 rfl) ?_
        refine k_get C0 fg_X8_44 hP 0 rfl rfl dX8_isSo_11 ?_
        refine k_get C0 fg_X8_63 hP 1 rfl rfl dX8_isSo_14 ?_
        refine lv_aload_n hx hb dX8_isSo_17 rfl (lv_at hl 0 rfl) ?_
        refine k_get C0 fg_X8_9 hP 0 rfl rfl dX8_isSo_18 ?_
        refine lv_iload_n hx hb dX8_isSo_21 rfl (lv_at hl 1 rfl) ?_
        refine va_iald hx hb C0.2.2.2.2.2.1 hP 2 0 rfl rfl (ib_in 16 h1690 (by decide)) dX8_isSo_22 ?_
        refine lv_topi (fun z1691 ez1691 => ?_)
        have h1692 : ib z1691 0 11 := by rw [ez1691]; exact ia_at hg_this_seenWalker (ib_in 16 h1690 (by decide))
        refine va_iald hx hb C0.2.2.2.2.2.1 hP 3 0 rfl rfl (ib_in 12 h1692 (by decide)) dX8_isSo_23 ?_
        refine lv_topi (fun z1693 ez1693 => ?_)
        refine lv_aload_n hx hb dX8_isSo_24 rfl (lv_at hl 0 rfl) ?_
        refine k_get C0 fg_X8_15 hP 0 rfl rfl dX8_isSo_25 ?_
        refine lv_iload_n hx hb dX8_isSo_28 rfl (lv_at hl 1 rfl) ?_
        refine va_iald hx hb C0.2.2.2.2.2.1 hP 4 0 rfl rfl (ib_in 16 h1690 (by decide)) dX8_isSo_29 ?_
        refine lv_topi (fun z1694 ez1694 => ?_)
        refine lv_icmp_eq (tgt := 35) hx hb dX8_isSo_30 (by decide) (fun c1695 => ?_) (fun c1695 => ?_)
        · have h1696 := ib_eq (ib_any z1693) (ib_any z1694) c1695
          obtain ⟨z1697, ez1697⟩ : ∃ y : Int32, y = J2_l1 + 1 := ⟨_, rfl⟩
          refine lv_iinc (v := z1697) (lv' := [(1, .int z1697), (0, .ref a_this)]) hx hb dX8_isSo_35 hl (k := 1) rfl (by rw [ez1697]; rfl) (by decide) rfl (fun ls hl => ?_)
          have h1698 := ib_add h1690 (ib_c 1 1 1 (by decide)) (by decide)
          rw [← ez1697] at h1698
          have h1699 : ib z1697 1 16 := ib_w 1 16 h1698.1 (by decide)
          refine lv_goto (tgt := 2) hx hb dX8_isSo_38 (by decide) ?_
          exact ih2 z1697 H locs ls (ib_w 0 16 h1699 (by decide)) (by have := h1698.2; have : (1 : Int32).toInt = 1 := (by decide); omega) hP hD hS (lv_sub hl [1, 0] rfl)
        · skip
          refine lv_iconst (v := 0) hx hb dX8_isSo_33 (by decide) ?_
          subst hQ; exact k_iret hx hb hr hlk (k_nb 0 (by decide)) () hS (ib_w 0 1 (ib_c 0 0 0 (by decide)) (by decide)) hP hD (Nat.le_of_ble_eq_true rfl) (Nat.le_of_ble_eq_true rfl) dX8_isSo_34
  refine lv_iconst (v := 0) hx hb dX8_isSo_0 (by decide) ?_
  refine lv_istore_n (lv' := [(1, .int 0), (0, .ref a_this)]) hx hb dX8_isSo_1 rfl hl (by decide) rfl (fun ls hl => ?_)
  exact jn2 18 0 H locs ls (ib_w 0 16 (ib_c 0 0 0 (by decide)) (by decide)) (by have := (ib_c 0 0 0 (by decide)); unfold ib at this; omega) hP hD hS (lv_sub hl [1, 0] rfl)
set_option maxHeartbeats 4000000 in
set_option maxRecDepth 100000 in
theorem s_X9_check (l : Launch) (dC : Nat → ClassId) (dI : Nat → Nat → Nat) (cy : Nat → ClassId) (sq : Nat → Nat) (a_arg0 : Nat) (g_arg0 : Nat → Int32) (p1 : Int32) (hp1 : ib p1 0 1599) : k_Met l yX9_check cX9_check 4 (some .int) { frames := 0, cells := 0, slots := 0, locals := 0 } dC dI cy sq [.ref a_arg0, .int p1] [(a_arg0, .inl (cy 0, 1600, .inl g_arg0))] (k_Qi dC dI (fun (r : Int32) (_ : Unit) => True) (fun _ : Unit => [(a_arg0, .inl (cy 0, 1600, .inl g_arg0))])) := by
  refine k_ofW2 (by decide +kernel) (Nat.le_of_ble_eq_true rfl) ?_
  intro p e s m below meth c A ls H locs args Q hQ C0 hr hlk hin hP hD hA hS hl
  have C0 : k_cx p s m args c cX9_check 4 RX9 dC dI cy sq := C0
  have hx := C0.1
  have hb := C0.2.1
  have hl : lv_has ls 4 [(0, .ref a_arg0), (1, .int p1)] := hl
  have jn5 : ∀ (n : Nat) (J5_l2 : Int32) (J5_l3 : Int32) (H : Heap) (locs : List Loc) (ls : Array Slot), ib J5_l3 0 1599 → 1600 ≤ J5_l3.toInt + (n : Int) → va_P (dC, dI) vwCl [(a_arg0, .inl (cy 0, 1600, .inl g_arg0))] H → va_D A [(a_arg0, .inl (cy 0, 1600, .inl g_arg0))] → va_S A s.heap H locs → lv_has ls 4 [(0, .ref a_arg0), (1, .int p1), (2, .int J5_l2), (3, .int J5_l3)] → W p l e { frames := 0, cells := 0, slots := 0, locals := 0 } s m args below meth c H locs 0 0 Q (F0 m 5 ls []) := by
    intro n
    induction n with
    | zero =>
      intro J5_l2 J5_l3 H locs ls hJ5_l3 hm
      exact absurd hm (by have := hJ5_l3; unfold ib at this; omega)
    | succ n ih =>
      intro J5_l2 J5_l3 H locs ls hJ5_l3 hm5 hP hD hS hl
      have ih5 := ih
      refine lv_iload_n hx hb dX9_check_5 rfl (lv_at hl 3 rfl) ?_
      refine lv_iload_n hx hb dX9_check_6 rfl (lv_at hl 1 rfl) ?_
      refine lv_icmp_ge (tgt := 28) hx hb dX9_check_7 (by decide) (fun c2508 => ?_) (fun c2508 => ?_)
      · have h2509 := ib_le hp1 hJ5_l3 c2508
        refine lv_iload_n hx hb dX9_check_28 rfl (lv_at hl 2 rfl) ?_
        subst hQ; exact k_iret hx hb hr hlk rfl () hS True.intro hP hD (Nat.le_of_ble_eq_true rfl) (Nat.le_of_ble_eq_true rfl) dX9_check_29
      · have h2510 := ib_nle hp1 hJ5_l3 c2508
        have h2511 : ib p1 1 1599 := ib_w 1 1599 h2510.1 (by decide)
        have h2512 : ib J5_l3 0 1598 := ib_w 0 1598 h2510.2 (by decide)
        refine lv_iconst (v := 3) hx hb dX9_check_10 (by decide) ?_
        refine lv_iload_n hx hb dX9_check_11 rfl (lv_at hl 2 rfl) ?_
        refine lv_imul hx hb dX9_check_12 ?_
        refine lv_topi (fun z2513 ez2513 => ?_)
        refine lv_aload_n hx hb dX9_check_13 rfl (lv_at hl 0 rfl) ?_
        refine lv_iload_n hx hb dX9_check_14 rfl (lv_at hl 3 rfl) ?_
        refine va_iald hx hb C0.2.2.2.2.2.1 hP 0 0 rfl rfl (ib_in 1600 h2512 (by decide)) dX9_check_15 ?_
        refine lv_topi (fun z2514 ez2514 => ?_)
        refine lv_iadd hx hb dX9_check_16 ?_
        refine lv_topi (fun z2515 ez2515 => ?_)
        refine lv_sipush (v := 251) hx hb dX9_check_17 (by decide) ?_
        refine lv_irem hx hb dX9_check_20 (by decide) ?_
        refine lv_topi (fun z2516 ez2516 => ?_)
        refine lv_istore_n (lv' := [(2, .int z2516), (0, .ref a_arg0), (1, .int p1), (3, .int J5_l3)]) hx hb dX9_check_21 rfl hl (by decide) rfl (fun ls hl => ?_)
        obtain ⟨z2517, ez2517⟩ : ∃ y : Int32, y = J5_l3 + 1 := ⟨_, rfl⟩
        refine lv_iinc (v := z2517) (lv' := [(3, .int z2517), (2, .int z2516), (0, .ref a_arg0), (1, .int p1)]) hx hb dX9_check_22 hl (k := 3) rfl (by rw [ez2517]; rfl) (by decide) rfl (fun ls hl => ?_)
        have h2518 := ib_add h2512 (ib_c 1 1 1 (by decide)) (by decide)
        rw [← ez2517] at h2518
        have h2519 : ib z2517 1 1599 := ib_w 1 1599 h2518.1 (by decide)
        refine lv_goto (tgt := 5) hx hb dX9_check_25 (by decide) ?_
        exact ih5 z2516 z2517 H locs ls (ib_w 0 1599 h2519 (by decide)) (by have := h2518.2; have : (1 : Int32).toInt = 1 := (by decide); omega) hP hD hS (lv_sub hl [2, 3, 1, 0] rfl)
  refine lv_bipush (v := 101) hx hb dX9_check_0 (by decide) ?_
  refine lv_istore_n (lv' := [(2, .int 101), (0, .ref a_arg0), (1, .int p1)]) hx hb dX9_check_2 rfl hl (by decide) rfl (fun ls hl => ?_)
  refine lv_iconst (v := 0) hx hb dX9_check_3 (by decide) ?_
  refine lv_istore_n (lv' := [(3, .int 0), (2, .int 101), (0, .ref a_arg0), (1, .int p1)]) hx hb dX9_check_4 rfl hl (by decide) rfl (fun ls hl => ?_)
  exact jn5 1601 101 0 H locs ls (ib_w 0 1599 (ib_c 0 0 0 (by decide)) (by decide)) (by have := (ib_c 0 0 0 (by decide)); unfold ib at this; omega) hP hD hS (lv_sub hl [2, 3, 1, 0] rfl)
set_option maxHeartbeats 4000000 in
set_option maxRecDepth 100000 in
theorem s_X8_accepts (l : Launch) (dC : Nat → ClassId) (dI : Nat → Nat → Nat) (cy : Nat → ClassId) (sq : Nat → Nat) (a_this : Nat) (a_this_street : Nat) (a_this_seenWalker : Nat) (a_this_seenSecond : Nat) (x_this_rows : Int32) (x_this_compared : Int32) (a_this_seconds : Nat) (x_this_found : Int32) (x_this_foundRules : Int32) (x_this_foundGreen : Int32) (x_this_chosen : Int32) (x_this_chosenLeft : Int32) (a_arg0 : Nat) (g_arg0 : Nat → Int32) (p1 : Int32) (p2 : Int32) (hx_this_rows : ib x_this_rows 0 16) (hx_this_compared : ib x_this_compared 0 1) (hx_this_found : ib x_this_found 0 60) (hg_arg0 : ia g_arg0 1600 0 255) : k_Met l yX8_accepts cX8_accepts 6 (some .boolean) { frames := 0, cells := 0, slots := 0, locals := 0 } dC dI cy sq [.ref a_this, .ref a_arg0, .int p1, .int p2] [(a_this, .inr (8, [.ref a_this_street, .ref a_this_seenWalker, .ref a_this_seenSecond, .int x_this_rows, .int x_this_compared, .ref a_this_seconds, .int x_this_found, .int x_this_foundRules, .int x_this_foundGreen, .int x_this_chosen, .int x_this_chosenLeft])), (a_arg0, .inl (cy 0, 1600, .inl g_arg0))] (k_Qi dC dI (fun (r : Int32) (_ : Unit) => ib r 0 1) (fun _ : Unit => [(a_this, .inr (8, [.ref a_this_street, .ref a_this_seenWalker, .ref a_this_seenSecond, .int x_this_rows, .int x_this_compared, .ref a_this_seconds, .int x_this_found, .int x_this_foundRules, .int x_this_foundGreen, .int x_this_chosen, .int x_this_chosenLeft])), (a_arg0, .inl (cy 0, 1600, .inl g_arg0))])) := by
  refine k_ofW2 (by decide +kernel) (Nat.le_of_ble_eq_true rfl) ?_
  intro p e s m below meth c A ls H locs args Q hQ C0 hr hlk hin hP hD hA hS hl
  have C0 : k_cx p s m args c cX8_accepts 6 RX8 dC dI cy sq := C0
  have hx := C0.1
  have hb := C0.2.1
  have hl : lv_has ls 6 [(0, .ref a_this), (1, .ref a_arg0), (2, .int p1), (3, .int p2)] := hl
  have jn22 : ∀ (n : Nat) (J22_l4 : Int32) (H : Heap) (locs : List Loc) (ls : Array Slot), ib p1 3 48 → ib J22_l4 0 59 → 60 ≤ J22_l4.toInt + (n : Int) → va_P (dC, dI) vwCl [(a_this, .inr (8, [.ref a_this_street, .ref a_this_seenWalker, .ref a_this_seenSecond, .int x_this_rows, .int x_this_compared, .ref a_this_seconds, .int x_this_found, .int x_this_foundRules, .int x_this_foundGreen, .int x_this_chosen, .int x_this_chosenLeft])), (a_arg0, .inl (cy 0, 1600, .inl g_arg0))] H → va_D A [(a_this, .inr (8, [.ref a_this_street, .ref a_this_seenWalker, .ref a_this_seenSecond, .int x_this_rows, .int x_this_compared, .ref a_this_seconds, .int x_this_found, .int x_this_foundRules, .int x_this_foundGreen, .int x_this_chosen, .int x_this_chosenLeft])), (a_arg0, .inl (cy 0, 1600, .inl g_arg0))] → va_S A s.heap H locs → lv_has ls 6 [(0, .ref a_this), (1, .ref a_arg0), (2, .int p1), (3, .int p2), (4, .int J22_l4)] → W p l e { frames := 0, cells := 0, slots := 0, locals := 0 } s m args below meth c H locs 0 0 Q (F0 m 22 ls []) := by
    intro n
    induction n with
    | zero =>
      intro J22_l4 H locs ls hJ22_l2 hJ22_l4 hm
      exact absurd hm (by have := hJ22_l4; unfold ib at this; omega)
    | succ n ih =>
      intro J22_l4 H locs ls hJ22_l2 hJ22_l4 hm22 hP hD hS hl
      have ih22 := ih
      refine lv_iload hx hb dX8_accepts_22 (lv_at hl 4 rfl) ?_
      refine lv_iload_n hx hb dX8_accepts_24 rfl (lv_at hl 2 rfl) ?_
      refine lv_icmp_ge (tgt := 78) hx hb dX8_accepts_25 (by decide) (fun c3384 => ?_) (fun c3384 => ?_)
      · have h3385 := ib_le hJ22_l2 hJ22_l4 c3384
        have h3386 : ib J22_l4 3 59 := ib_w 3 59 h3385.2 (by decide)
        refine lv_iconst (v := 1) hx hb dX8_accepts_78 (by decide) ?_
        subst hQ; exact k_iret hx hb hr hlk (k_nb 1 (by decide)) () hS (ib_w 0 1 (ib_c 1 1 1 (by decide)) (by decide)) hP hD (Nat.le_of_ble_eq_true rfl) (Nat.le_of_ble_eq_true rfl) dX8_accepts_79
      · have h3387 := ib_nle hJ22_l2 hJ22_l4 c3384
        have h3388 : ib J22_l4 0 47 := ib_w 0 47 h3387.2 (by decide)
        refine lv_aload_n hx hb dX8_accepts_28 rfl (lv_at hl 1 rfl) ?_
        refine lv_iload hx hb dX8_accepts_29 (lv_at hl 4 rfl) ?_
        refine lv_iconst (v := 1) hx hb dX8_accepts_31 (by decide) ?_
        refine lv_iadd hx hb dX8_accepts_32 ?_
        refine lv_topi (fun z3389 ez3389 => ?_)
        have h3390 := ib_add h3388 (ib_c 1 1 1 (by decide)) (by decide)
        rw [← ez3389] at h3390
        have h3391 : ib z3389 1 48 := ib_w 1 48 h3390.1 (by decide)
        refine va_iald hx hb C0.2.2.2.2.2.1 hP 1 0 rfl rfl (ib_in 1600 h3391 (by decide)) dX8_accepts_33 ?_
        refine lv_topi (fun z3392 ez3392 => ?_)
        have h3393 : ib z3392 0 255 := by rw [ez3392]; exact ia_at hg_arg0 (ib_in 1600 h3391 (by decide))
        refine lv_sipush (v := 256) hx hb dX8_accepts_34 (by decide) ?_
        refine lv_imul hx hb dX8_accepts_37 ?_
        refine lv_topi (fun z3394 ez3394 => ?_)
        have h3395 := ib_mul h3393 (ib_c 256 256 256 (by decide)) (by decide)
        rw [← ez3394] at h3395
        have h3396 : ib z3394 0 65280 := ib_w 0 65280 h3395.1 (by decide)
        refine lv_aload_n hx hb dX8_accepts_38 rfl (lv_at hl 1 rfl) ?_
        refine lv_iload hx hb dX8_accepts_39 (lv_at hl 4 rfl) ?_
        refine lv_iconst (v := 2) hx hb dX8_accepts_41 (by decide) ?_
        refine lv_iadd hx hb dX8_accepts_42 ?_
        refine lv_topi (fun z3397 ez3397 => ?_)
        have h3398 := ib_add h3388 (ib_c 2 2 2 (by decide)) (by decide)
        rw [← ez3397] at h3398
        have h3399 : ib z3397 2 49 := ib_w 2 49 h3398.1 (by decide)
        refine va_iald hx hb C0.2.2.2.2.2.1 hP 1 0 rfl rfl (ib_in 1600 h3399 (by decide)) dX8_accepts_43 ?_
        refine lv_topi (fun z3400 ez3400 => ?_)
        have h3401 : ib z3400 0 255 := by rw [ez3400]; exact ia_at hg_arg0 (ib_in 1600 h3399 (by decide))
        refine lv_iadd hx hb dX8_accepts_44 ?_
        refine lv_topi (fun z3402 ez3402 => ?_)
        have h3403 := ib_add h3396 h3401 (by decide)
        rw [← ez3402] at h3403
        have h3404 : ib z3402 0 65535 := ib_w 0 65535 h3403.1 (by decide)
        refine lv_istore (lv' := [(5, .int z3402), (0, .ref a_this), (1, .ref a_arg0), (2, .int p1), (3, .int p2), (4, .int J22_l4)]) hx hb dX8_accepts_45 hl (by decide) rfl (fun ls hl => ?_)
        refine lv_aload_n hx hb dX8_accepts_47 rfl (lv_at hl 2 rfl) ?_
        refine lv_iload hx hb dX8_accepts_48 (lv_at hl 5 rfl) ?_
        refine va_iald hx hb C0.2.2.2.2.2.1 hP 1 0 rfl rfl (ib_in 1600 h3388 (by decide)) dX8_accepts_50 ?_
        refine lv_topi (fun z3405 ez3405 => ?_)
        have h3406 : ib z3405 0 255 := by rw [ez3405]; exact ia_at hg_arg0 (ib_in 1600 h3388 (by decide))
        refine lv_iload_n hx hb dX8_accepts_51 rfl (lv_at hl 4 rfl) ?_
        refine lv_icmp_ge (tgt := 70) hx hb dX8_accepts_52 (by decide) (fun c3407 => ?_) (fun c3407 => ?_)
        · have h3408 := ib_le (ib_any p2) h3406 c3407
          have h3409 : ib p2 (-2147483648) 255 := ib_w (-2147483648) 255 h3408.1 (by decide)
          refine lv_iconst (v := 0) hx hb dX8_accepts_70 (by decide) ?_
          subst hQ; exact k_iret hx hb hr hlk (k_nb 0 (by decide)) () hS (ib_w 0 1 (ib_c 0 0 0 (by decide)) (by decide)) hP hD (Nat.le_of_ble_eq_true rfl) (Nat.le_of_ble_eq_true rfl) dX8_accepts_71
        · have h3410 := ib_nle (ib_any p2) h3406 c3407
          have h3411 : ib p2 1 2147483647 := ib_w 1 2147483647 h3410.1 (by decide)
          refine lv_iload hx hb dX8_accepts_55 (lv_at hl 0 rfl) ?_
          refine lv_sipush (v := 300) hx hb dX8_accepts_57 (by decide) ?_
          refine lv_icmp_lt (tgt := 72) hx hb dX8_accepts_60 (by decide) (fun c3412 => ?_) (fun c3412 => ?_)
          · have h3413 := ib_lt h3404 (ib_c 300 300 300 (by decide)) c3412
            have h3414 : ib z3402 0 299 := ib_w 0 299 h3413.1 (by decide)
            obtain ⟨z3415, ez3415⟩ : ∃ y : Int32, y = J22_l4 + 3 := ⟨_, rfl⟩
            refine lv_iinc (v := z3415) (lv' := [(4, .int z3415), (5, .int z3402), (0, .ref a_this), (1, .ref a_arg0), (2, .int p1), (3, .int p2)]) hx hb dX8_accepts_72 hl (k := 5) rfl (by rw [ez3415]; rfl) (by decide) rfl (fun ls hl => ?_)
            have h3416 := ib_add h3388 (ib_c 3 3 3 (by decide)) (by decide)
            rw [← ez3415] at h3416
            have h3417 : ib z3415 3 50 := ib_w 3 50 h3416.1 (by decide)
            refine lv_goto (tgt := 22) hx hb dX8_accepts_75 (by decide) ?_
            exact ih22 z3415 H locs ls (ib_w 3 48 hJ22_l2 (by decide)) (ib_w 0 59 h3417 (by decide)) (by have := h3416.2; have : (3 : Int32).toInt = 3 := (by decide); omega) hP hD hS (lv_sub hl [2, 3, 4, 5, 0] rfl)
          · have h3418 := ib_nlt h3404 (ib_c 300 300 300 (by decide)) c3412
            have h3419 : ib z3402 300 65535 := ib_w 300 65535 h3418.1 (by decide)
            refine lv_iload hx hb dX8_accepts_63 (lv_at hl 0 rfl) ?_
            refine lv_ldc hx hb C0.2.2.2.1 (C0.2.2.2.2.1 _ wd1197) dX8_accepts_65 ?_
            refine lv_icmp_eq (tgt := 72) hx hb dX8_accepts_67 (by decide) (fun c3420 => ?_) (fun c3420 => ?_)
            · have h3421 := ib_eq h3419 (ib_c 65535 65535 65535 (by decide)) c3420
              have h3422 : ib z3402 65535 65535 := ib_w 65535 65535 h3421.1 (by decide)
              obtain ⟨z3423, ez3423⟩ : ∃ y : Int32, y = J22_l4 + 3 := ⟨_, rfl⟩
              refine lv_iinc (v := z3423) (lv' := [(4, .int z3423), (5, .int z3402), (0, .ref a_this), (1, .ref a_arg0), (2, .int p1), (3, .int p2)]) hx hb dX8_accepts_72 hl (k := 5) rfl (by rw [ez3423]; rfl) (by decide) rfl (fun ls hl => ?_)
              have h3424 := ib_add h3388 (ib_c 3 3 3 (by decide)) (by decide)
              rw [← ez3423] at h3424
              have h3425 : ib z3423 3 50 := ib_w 3 50 h3424.1 (by decide)
              refine lv_goto (tgt := 22) hx hb dX8_accepts_75 (by decide) ?_
              exact ih22 z3423 H locs ls (ib_w 3 48 hJ22_l2 (by decide)) (ib_w 0 59 h3425 (by decide)) (by have := h3424.2; have : (3 : Int32).toInt = 3 := (by decide); omega) hP hD hS (lv_sub hl [2, 3, 4, 5, 0] rfl)
            · have h3426 : ib z3402 300 65534 := ib_w 300 65534 (ib_ne_hi 65535 h3419 (by decide) c3420) (by decide)
              refine lv_iconst (v := 0) hx hb dX8_accepts_70 (by decide) ?_
              subst hQ; exact k_iret hx hb hr hlk (k_nb 0 (by decide)) () hS (ib_w 0 1 (ib_c 0 0 0 (by decide)) (by decide)) hP hD (Nat.le_of_ble_eq_true rfl) (Nat.le_of_ble_eq_true rfl) dX8_accepts_71
  refine lv_iload_n hx hb dX8_accepts_0 rfl (lv_at hl 2 rfl) ?_
  refine lv_iconst (v := 3) hx hb dX8_accepts_1 (by decide) ?_
  refine lv_icmp_lt (tgt := 17) hx hb dX8_accepts_2 (by decide) (fun c3427 => ?_) (fun c3427 => ?_)
  · have h3428 := ib_lt (ib_any p1) (ib_c 3 3 3 (by decide)) c3427
    have h3429 : ib p1 (-2147483648) 2 := ib_w (-2147483648) 2 h3428.1 (by decide)
    refine lv_iconst (v := 0) hx hb dX8_accepts_17 (by decide) ?_
    subst hQ; exact k_iret hx hb hr hlk (k_nb 0 (by decide)) () hS (ib_w 0 1 (ib_c 0 0 0 (by decide)) (by decide)) hP hD (Nat.le_of_ble_eq_true rfl) (Nat.le_of_ble_eq_true rfl) dX8_accepts_18
  · have h3430 := ib_nlt (ib_any p1) (ib_c 3 3 3 (by decide)) c3427
    have h3431 : ib p1 3 2147483647 := ib_w 3 2147483647 h3430.1 (by decide)
    refine lv_iload_n hx hb dX8_accepts_5 rfl (lv_at hl 2 rfl) ?_
    refine lv_bipush (v := 48) hx hb dX8_accepts_6 (by decide) ?_
    refine lv_icmp_gt (tgt := 17) hx hb dX8_accepts_8 (by decide) (fun c3432 => ?_) (fun c3432 => ?_)
    · have h3433 := ib_lt (ib_c 48 48 48 (by decide)) h3431 c3432
      have h3434 : ib p1 49 2147483647 := ib_w 49 2147483647 h3433.2 (by decide)
      refine lv_iconst (v := 0) hx hb dX8_accepts_17 (by decide) ?_
      subst hQ; exact k_iret hx hb hr hlk (k_nb 0 (by decide)) () hS (ib_w 0 1 (ib_c 0 0 0 (by decide)) (by decide)) hP hD (Nat.le_of_ble_eq_true rfl) (Nat.le_of_ble_eq_true rfl) dX8_accepts_18
    · have h3435 := ib_nlt (ib_c 48 48 48 (by decide)) h3431 c3432
      have h3436 : ib p1 3 48 := ib_w 3 48 h3435.2 (by decide)
      refine lv_iload_n hx hb dX8_accepts_11 rfl (lv_at hl 2 rfl) ?_
      refine lv_iconst (v := 3) hx hb dX8_accepts_12 (by decide) ?_
      refine lv_irem hx hb dX8_accepts_13 (by decide) ?_
      refine lv_topi (fun z3437 ez3437 => ?_)
      have h3438 : ib z3437 0 2 := by rw [ez3437]; exact ib_w 0 2 (ib_rem h3436 (ib_c 3 3 3 (by decide)) (by decide)) (by decide)
      refine lv_if_eq (tgt := 19) hx hb dX8_accepts_14 (by decide) (fun c3439 => ?_) (fun c3439 => ?_)
      · have h3440 := ib_eq h3438 (ib_c 0 0 0 (by decide)) c3439
        have h3441 : ib z3437 0 0 := ib_w 0 0 h3440.1 (by decide)
        refine lv_iconst (v := 0) hx hb dX8_accepts_19 (by decide) ?_
        refine lv_istore (lv' := [(4, .int 0), (0, .ref a_this), (1, .ref a_arg0), (2, .int p1), (3, .int p2)]) hx hb dX8_accepts_20 hl (by decide) rfl (fun ls hl => ?_)
        exact jn22 61 0 H locs ls (ib_w 3 48 h3436 (by decide)) (ib_w 0 59 (ib_c 0 0 0 (by decide)) (by decide)) (by have := (ib_c 0 0 0 (by decide)); unfold ib at this; omega) hP hD hS (lv_sub hl [1, 2, 3, 4, 0] rfl)
      · have h3442 : ib z3437 1 2 := ib_w 1 2 (ib_ne_lo 0 h3438 (by decide) c3439) (by decide)
        refine lv_iconst (v := 0) hx hb dX8_accepts_17 (by decide) ?_
        subst hQ; exact k_iret hx hb hr hlk (k_nb 0 (by decide)) () hS (ib_w 0 1 (ib_c 0 0 0 (by decide)) (by decide)) hP hD (Nat.le_of_ble_eq_true rfl) (Nat.le_of_ble_eq_true rfl) dX8_accepts_18
set_option maxHeartbeats 4000000 in
set_option maxRecDepth 100000 in
theorem s_X7_someoneCrosses (l : Launch) (dC : Nat → ClassId) (dI : Nat → Nat → Nat) (cy : Nat → ClassId) (sq : Nat → Nat) (a_this : Nat) (a_this_machine : Nat) (a_this_plan : Nat) (x_this_plan_cycle : Int32) (x_this_plan_green : Int32) (x_this_plan_rule : Int32) (x_this_plan_least : Int32) (x_this_plan_away : Int32) (x_this_plan_statements : Int32) (x_this_plan_kinds : Int32) (a_this_plan_calm : Nat) (a_this_plan_pace : Nat) (a_this_plan_trusts : Nat) (x_this_plan_walkers : Int32) (a_this_plan_kindOf : Nat) (a_this_plan_comesAt : Nat) (a_this_plan_comers : Nat) (a_this_plan_names : Nat) (a_this_plan_code : Nat) (x_this_plan_size : Int32) (a_this_plan_spans : Nat) (x_this_day : Int32) (a_this_trusts : Nat) (x_this_rule : Int32) (x_this_green : Int32) (x_this_absent : Int32) (x_this_asksReds : Int32) (a_this_cars : Nat) (a_this_gaps : Nat) (a_this_known : Nat) (a_this_left : Nat) (a_this_leaves : Nat) (g_this_leaves : Nat → Int32) (x_this_pressed : Int32) (x_this_crossed : Int32) (x_this_went : Int32) (x_this_harmed : Int32) (p0 : Int32) (hx_this_plan_cycle : ib x_this_plan_cycle 0 120) (hx_this_plan_least : ib x_this_plan_least 0 99) (hx_this_plan_statements : ib x_this_plan_statements 0 81) (hx_this_plan_kinds : ib x_this_plan_kinds 0 6) (hx_this_plan_walkers : ib x_this_plan_walkers 0 12) (hx_this_plan_size : ib x_this_plan_size 0 1600) (hx_this_asksReds : ib x_this_asksReds 0 1) : k_Met l yX7_someoneCrosses cX7_someoneCrosses 3 (some .boolean) { frames := 0, cells := 0, slots := 0, locals := 0 } dC dI cy sq [.ref a_this, .int p0] [(a_this, .inr (7, [.ref a_this_machine, .ref a_this_plan, .int x_this_day, .ref a_this_trusts, .int x_this_rule, .int x_this_green, .int x_this_absent, .int x_this_asksReds, .ref a_this_cars, .ref a_this_gaps, .ref a_this_known, .ref a_this_left, .ref a_this_leaves, .int x_this_pressed, .int x_this_crossed, .int x_this_went, .int x_this_harmed])), (a_this_plan, .inr (4, [.int x_this_plan_cycle, .int x_this_plan_green, .int x_this_plan_rule, .int x_this_plan_least, .int x_this_plan_away, .int x_this_plan_statements, .int x_this_plan_kinds, .ref a_this_plan_calm, .ref a_this_plan_pace, .ref a_this_plan_trusts, .int x_this_plan_walkers, .ref a_this_plan_kindOf, .ref a_this_plan_comesAt, .ref a_this_plan_comers, .ref a_this_plan_names, .ref a_this_plan_code, .int x_this_plan_size, .ref a_this_plan_spans])), (a_this_leaves, .inl (cy 0, 12, .inl g_this_leaves))] (k_Qi dC dI (fun (r : Int32) (_ : Unit) => ib r 0 1) (fun _ : Unit => [(a_this, .inr (7, [.ref a_this_machine, .ref a_this_plan, .int x_this_day, .ref a_this_trusts, .int x_this_rule, .int x_this_green, .int x_this_absent, .int x_this_asksReds, .ref a_this_cars, .ref a_this_gaps, .ref a_this_known, .ref a_this_left, .ref a_this_leaves, .int x_this_pressed, .int x_this_crossed, .int x_this_went, .int x_this_harmed])), (a_this_plan, .inr (4, [.int x_this_plan_cycle, .int x_this_plan_green, .int x_this_plan_rule, .int x_this_plan_least, .int x_this_plan_away, .int x_this_plan_statements, .int x_this_plan_kinds, .ref a_this_plan_calm, .ref a_this_plan_pace, .ref a_this_plan_trusts, .int x_this_plan_walkers, .ref a_this_plan_kindOf, .ref a_this_plan_comesAt, .ref a_this_plan_comers, .ref a_this_plan_names, .ref a_this_plan_code, .int x_this_plan_size, .ref a_this_plan_spans])), (a_this_leaves, .inl (cy 0, 12, .inl g_this_leaves))])) := by
  refine k_ofW2 (by decide +kernel) (Nat.le_of_ble_eq_true rfl) ?_
  intro p e s m below meth c A ls H locs args Q hQ C0 hr hlk hin hP hD hA hS hl
  have C0 : k_cx p s m args c cX7_someoneCrosses 3 RX7 dC dI cy sq := C0
  have hx := C0.1
  have hb := C0.2.1
  have hl : lv_has ls 3 [(0, .ref a_this), (1, .int p0)] := hl
  have jn2 : ∀ (n : Nat) (J2_l2 : Int32) (H : Heap) (locs : List Loc) (ls : Array Slot), ib J2_l2 0 12 → 13 ≤ J2_l2.toInt + (n : Int) → va_P (dC, dI) vwCl [(a_this, .inr (7, [.ref a_this_machine, .ref a_this_plan, .int x_this_day, .ref a_this_trusts, .int x_this_rule, .int x_this_green, .int x_this_absent, .int x_this_asksReds, .ref a_this_cars, .ref a_this_gaps, .ref a_this_known, .ref a_this_left, .ref a_this_leaves, .int x_this_pressed, .int x_this_crossed, .int x_this_went, .int x_this_harmed])), (a_this_plan, .inr (4, [.int x_this_plan_cycle, .int x_this_plan_green, .int x_this_plan_rule, .int x_this_plan_least, .int x_this_plan_away, .int x_this_plan_statements, .int x_this_plan_kinds, .ref a_this_plan_calm, .ref a_this_plan_pace, .ref a_this_plan_trusts, .int x_this_plan_walkers, .ref a_this_plan_kindOf, .ref a_this_plan_comesAt, .ref a_this_plan_comers, .ref a_this_plan_names, .ref a_this_plan_code, .int x_this_plan_size, .ref a_this_plan_spans])), (a_this_leaves, .inl (cy 0, 12, .inl g_this_leaves))] H → va_D A [(a_this, .inr (7, [.ref a_this_machine, .ref a_this_plan, .int x_this_day, .ref a_this_trusts, .int x_this_rule, .int x_this_green, .int x_this_absent, .int x_this_asksReds, .ref a_this_cars, .ref a_this_gaps, .ref a_this_known, .ref a_this_left, .ref a_this_leaves, .int x_this_pressed, .int x_this_crossed, .int x_this_went, .int x_this_harmed])), (a_this_plan, .inr (4, [.int x_this_plan_cycle, .int x_this_plan_green, .int x_this_plan_rule, .int x_this_plan_least, .int x_this_plan_away, .int x_this_plan_statements, .int x_this_plan_kinds, .ref a_this_plan_calm, .ref a_this_plan_pace, .ref a_this_plan_trusts, .int x_this_plan_walkers, .ref a_this_plan_kindOf, .ref a_this_plan_comesAt, .ref a_this_plan_comers, .ref a_this_plan_names, .ref a_this_plan_code, .int x_this_plan_size, .ref a_this_plan_spans])), (a_this_leaves, .inl (cy 0, 12, .inl g_this_leaves))] → va_S A s.heap H locs → lv_has ls 3 [(0, .ref a_this), (1, .int p0), (2, .int J2_l2)] → W p l e { frames := 0, cells := 0, slots := 0, locals := 0 } s m args below meth c H locs 0 0 Q (F0 m 2 ls []) := by
    intro n
    induction n with
    | zero =>
      intro J2_l2 H locs ls hJ2_l2 hm
      exact absurd hm (by have := hJ2_l2; unfold ib at this; omega)
    | succ n ih =>
      intro J2_l2 H locs ls hJ2_l2 hm2 hP hD hS hl
      have ih2 := ih
      refine lv_iload_n hx hb dX7_someoneCrosses_2 rfl (lv_at hl 2 rfl) ?_
      refine lv_aload_n hx hb dX7_someoneCrosses_3 rfl (lv_at hl 0 rfl) ?_
      refine k_get C0 fg_X7_63 hP 0 rfl rfl dX7_someoneCrosses_4 ?_
      refine k_get C0 fg_X7_137 hP 1 rfl rfl dX7_someoneCrosses_7 ?_
      refine lv_icmp_ge (tgt := 43) hx hb dX7_someoneCrosses_10 (by decide) (fun c3851 => ?_) (fun c3851 => ?_)
      · have h3852 := ib_le hx_this_plan_walkers hJ2_l2 c3851
        refine lv_iconst (v := 0) hx hb dX7_someoneCrosses_43 (by decide) ?_
        subst hQ; exact k_iret hx hb hr hlk (k_nb 0 (by decide)) () hS (ib_w 0 1 (ib_c 0 0 0 (by decide)) (by decide)) hP hD (Nat.le_of_ble_eq_true rfl) (Nat.le_of_ble_eq_true rfl) dX7_someoneCrosses_44
      · have h3853 := ib_nle hx_this_plan_walkers hJ2_l2 c3851
        have h3854 : ib x_this_plan_walkers 1 12 := ib_w 1 12 h3853.1 (by decide)
        have h3855 : ib J2_l2 0 11 := ib_w 0 11 h3853.2 (by decide)
        refine lv_aload_n hx hb dX7_someoneCrosses_13 rfl (lv_at hl 0 rfl) ?_
        refine k_get C0 fg_X7_44 hP 0 rfl rfl dX7_someoneCrosses_14 ?_
        refine lv_iload_n hx hb dX7_someoneCrosses_17 rfl (lv_at hl 2 rfl) ?_
        refine va_iald hx hb C0.2.2.2.2.2.1 hP 2 0 rfl rfl (ib_in 12 h3855 (by decide)) dX7_someoneCrosses_18 ?_
        refine lv_topi (fun z3856 ez3856 => ?_)
        refine lv_iload_n hx hb dX7_someoneCrosses_19 rfl (lv_at hl 1 rfl) ?_
        refine lv_icmp_ne (tgt := 37) hx hb dX7_someoneCrosses_20 (by decide) (fun c3857 => ?_) (fun c3857 => ?_)
        · skip
          obtain ⟨z3858, ez3858⟩ : ∃ y : Int32, y = J2_l2 + 1 := ⟨_, rfl⟩
          refine lv_iinc (v := z3858) (lv' := [(2, .int z3858), (0, .ref a_this), (1, .int p0)]) hx hb dX7_someoneCrosses_37 hl (k := 2) rfl (by rw [ez3858]; rfl) (by decide) rfl (fun ls hl => ?_)
          have h3859 := ib_add h3855 (ib_c 1 1 1 (by decide)) (by decide)
          rw [← ez3858] at h3859
          have h3860 : ib z3858 1 12 := ib_w 1 12 h3859.1 (by decide)
          refine lv_goto (tgt := 2) hx hb dX7_someoneCrosses_40 (by decide) ?_
          exact ih2 z3858 H locs ls (ib_w 0 12 h3860 (by decide)) (by have := h3859.2; have : (1 : Int32).toInt = 1 := (by decide); omega) hP hD hS (lv_sub hl [1, 2, 0] rfl)
        · have h3861 := ib_eq (ib_any z3856) (ib_any p0) c3857
          refine lv_aload_n hx hb dX7_someoneCrosses_23 rfl (lv_at hl 0 rfl) ?_
          refine k_get C0 fg_X7_50 hP 0 rfl rfl dX7_someoneCrosses_24 ?_
          refine lv_iload_n hx hb dX7_someoneCrosses_27 rfl (lv_at hl 2 rfl) ?_
          refine lv_ishr hx hb dX7_someoneCrosses_28 ?_
          refine lv_topi (fun z3862 ez3862 => ?_)
          refine lv_iconst (v := 1) hx hb dX7_someoneCrosses_29 (by decide) ?_
          refine lv_iand hx hb dX7_someoneCrosses_30 ?_
          refine lv_topi (fun z3863 ez3863 => ?_)
          have h3864 : ib z3863 0 1 := by rw [ez3863]; exact ib_and 1 (by decide) (by decide) 1 (by decide)
          refine lv_iconst (v := 1) hx hb dX7_someoneCrosses_31 (by decide) ?_
          refine lv_icmp_ne (tgt := 37) hx hb dX7_someoneCrosses_32 (by decide) (fun c3865 => ?_) (fun c3865 => ?_)
          · have h3866 : ib z3863 0 0 := ib_w 0 0 (ib_ne_hi 1 h3864 (by decide) c3865) (by decide)
            obtain ⟨z3867, ez3867⟩ : ∃ y : Int32, y = J2_l2 + 1 := ⟨_, rfl⟩
            refine lv_iinc (v := z3867) (lv' := [(2, .int z3867), (0, .ref a_this), (1, .int p0)]) hx hb dX7_someoneCrosses_37 hl (k := 2) rfl (by rw [ez3867]; rfl) (by decide) rfl (fun ls hl => ?_)
            have h3868 := ib_add h3855 (ib_c 1 1 1 (by decide)) (by decide)
            rw [← ez3867] at h3868
            have h3869 : ib z3867 1 12 := ib_w 1 12 h3868.1 (by decide)
            refine lv_goto (tgt := 2) hx hb dX7_someoneCrosses_40 (by decide) ?_
            exact ih2 z3867 H locs ls (ib_w 0 12 h3869 (by decide)) (by have := h3868.2; have : (1 : Int32).toInt = 1 := (by decide); omega) hP hD hS (lv_sub hl [1, 2, 0] rfl)
          · have h3870 := ib_eq h3864 (ib_c 1 1 1 (by decide)) c3865
            have h3871 : ib z3863 1 1 := ib_w 1 1 h3870.1 (by decide)
            refine lv_iconst (v := 1) hx hb dX7_someoneCrosses_35 (by decide) ?_
            subst hQ; exact k_iret hx hb hr hlk (k_nb 1 (by decide)) () hS (ib_w 0 1 (ib_c 1 1 1 (by decide)) (by decide)) hP hD (Nat.le_of_ble_eq_true rfl) (Nat.le_of_ble_eq_true rfl) dX7_someoneCrosses_36
  refine lv_iconst (v := 0) hx hb dX7_someoneCrosses_0 (by decide) ?_
  refine lv_istore_n (lv' := [(2, .int 0), (0, .ref a_this), (1, .int p0)]) hx hb dX7_someoneCrosses_1 rfl hl (by decide) rfl (fun ls hl => ?_)
  exact jn2 14 0 H locs ls (ib_w 0 12 (ib_c 0 0 0 (by decide)) (by decide)) (by have := (ib_c 0 0 0 (by decide)); unfold ib at this; omega) hP hD hS (lv_sub hl [1, 2, 0] rfl)
set_option maxHeartbeats 4000000 in
set_option maxRecDepth 100000 in
theorem s_X7_waitedBy (l : Launch) (dC : Nat → ClassId) (dI : Nat → Nat → Nat) (cy : Nat → ClassId) (sq : Nat → Nat) (a_this : Nat) (a_this_machine : Nat) (a_this_plan : Nat) (x_this_plan_cycle : Int32) (x_this_plan_green : Int32) (x_this_plan_rule : Int32) (x_this_plan_least : Int32) (x_this_plan_away : Int32) (x_this_plan_statements : Int32) (x_this_plan_kinds : Int32) (a_this_plan_calm : Nat) (a_this_plan_pace : Nat) (a_this_plan_trusts : Nat) (x_this_plan_walkers : Int32) (a_this_plan_kindOf : Nat) (a_this_plan_comesAt : Nat) (g_this_plan_comesAt : Nat → Int32) (a_this_plan_comers : Nat) (a_this_plan_names : Nat) (a_this_plan_code : Nat) (x_this_plan_size : Int32) (a_this_plan_spans : Nat) (x_this_day : Int32) (a_this_trusts : Nat) (x_this_rule : Int32) (x_this_green : Int32) (x_this_absent : Int32) (x_this_asksReds : Int32) (a_this_cars : Nat) (a_this_gaps : Nat) (a_this_known : Nat) (a_this_left : Nat) (a_this_leaves : Nat) (g_this_leaves : Nat → Int32) (x_this_pressed : Int32) (x_this_crossed : Int32) (x_this_went : Int32) (x_this_harmed : Int32) (p0 : Int32) (hx_this_plan_cycle : ib x_this_plan_cycle 0 120) (hx_this_plan_least : ib x_this_plan_least 0 99) (hx_this_plan_statements : ib x_this_plan_statements 0 81) (hx_this_plan_kinds : ib x_this_plan_kinds 0 6) (hx_this_plan_walkers : ib x_this_plan_walkers 0 12) (hg_this_plan_comesAt : ia g_this_plan_comesAt 12 0 199) (hx_this_plan_size : ib x_this_plan_size 0 1600) (hx_this_asksReds : ib x_this_asksReds 0 1) (hp0 : ib p0 0 11) : k_Met l yX7_waitedBy cX7_waitedBy 2 (some .int) { frames := 0, cells := 0, slots := 0, locals := 0 } dC dI cy sq [.ref a_this, .int p0] [(a_this, .inr (7, [.ref a_this_machine, .ref a_this_plan, .int x_this_day, .ref a_this_trusts, .int x_this_rule, .int x_this_green, .int x_this_absent, .int x_this_asksReds, .ref a_this_cars, .ref a_this_gaps, .ref a_this_known, .ref a_this_left, .ref a_this_leaves, .int x_this_pressed, .int x_this_crossed, .int x_this_went, .int x_this_harmed])), (a_this_leaves, .inl (cy 0, 12, .inl g_this_leaves)), (a_this_plan, .inr (4, [.int x_this_plan_cycle, .int x_this_plan_green, .int x_this_plan_rule, .int x_this_plan_least, .int x_this_plan_away, .int x_this_plan_statements, .int x_this_plan_kinds, .ref a_this_plan_calm, .ref a_this_plan_pace, .ref a_this_plan_trusts, .int x_this_plan_walkers, .ref a_this_plan_kindOf, .ref a_this_plan_comesAt, .ref a_this_plan_comers, .ref a_this_plan_names, .ref a_this_plan_code, .int x_this_plan_size, .ref a_this_plan_spans])), (a_this_plan_comesAt, .inl (cy 0, 12, .inl g_this_plan_comesAt))] (k_Qi dC dI (fun (r : Int32) (_ : Unit) => True) (fun _ : Unit => [(a_this, .inr (7, [.ref a_this_machine, .ref a_this_plan, .int x_this_day, .ref a_this_trusts, .int x_this_rule, .int x_this_green, .int x_this_absent, .int x_this_asksReds, .ref a_this_cars, .ref a_this_gaps, .ref a_this_known, .ref a_this_left, .ref a_this_leaves, .int x_this_pressed, .int x_this_crossed, .int x_this_went, .int x_this_harmed])), (a_this_leaves, .inl (cy 0, 12, .inl g_this_leaves)), (a_this_plan, .inr (4, [.int x_this_plan_cycle, .int x_this_plan_green, .int x_this_plan_rule, .int x_this_plan_least, .int x_this_plan_away, .int x_this_plan_statements, .int x_this_plan_kinds, .ref a_this_plan_calm, .ref a_this_plan_pace, .ref a_this_plan_trusts, .int x_this_plan_walkers, .ref a_this_plan_kindOf, .ref a_this_plan_comesAt, .ref a_this_plan_comers, .ref a_this_plan_names, .ref a_this_plan_code, .int x_this_plan_size, .ref a_this_plan_spans])), (a_this_plan_comesAt, .inl (cy 0, 12, .inl g_this_plan_comesAt))])) := by
  refine k_ofW2 (by decide +kernel) (Nat.le_of_ble_eq_true rfl) ?_
  intro p e s m below meth c A ls H locs args Q hQ C0 hr hlk hin hP hD hA hS hl
  have C0 : k_cx p s m args c cX7_waitedBy 2 RX7 dC dI cy sq := C0
  have hx := C0.1
  have hb := C0.2.1
  have hl : lv_has ls 2 [(0, .ref a_this), (1, .int p0)] := hl
  have jn22 : ∀ (J22_s0 : Int32) (H : Heap) (locs : List Loc) (ls : Array Slot), va_P (dC, dI) vwCl [(a_this, .inr (7, [.ref a_this_machine, .ref a_this_plan, .int x_this_day, .ref a_this_trusts, .int x_this_rule, .int x_this_green, .int x_this_absent, .int x_this_asksReds, .ref a_this_cars, .ref a_this_gaps, .ref a_this_known, .ref a_this_left, .ref a_this_leaves, .int x_this_pressed, .int x_this_crossed, .int x_this_went, .int x_this_harmed])), (a_this_leaves, .inl (cy 0, 12, .inl g_this_leaves)), (a_this_plan, .inr (4, [.int x_this_plan_cycle, .int x_this_plan_green, .int x_this_plan_rule, .int x_this_plan_least, .int x_this_plan_away, .int x_this_plan_statements, .int x_this_plan_kinds, .ref a_this_plan_calm, .ref a_this_plan_pace, .ref a_this_plan_trusts, .int x_this_plan_walkers, .ref a_this_plan_kindOf, .ref a_this_plan_comesAt, .ref a_this_plan_comers, .ref a_this_plan_names, .ref a_this_plan_code, .int x_this_plan_size, .ref a_this_plan_spans])), (a_this_plan_comesAt, .inl (cy 0, 12, .inl g_this_plan_comesAt))] H → va_D A [(a_this, .inr (7, [.ref a_this_machine, .ref a_this_plan, .int x_this_day, .ref a_this_trusts, .int x_this_rule, .int x_this_green, .int x_this_absent, .int x_this_asksReds, .ref a_this_cars, .ref a_this_gaps, .ref a_this_known, .ref a_this_left, .ref a_this_leaves, .int x_this_pressed, .int x_this_crossed, .int x_this_went, .int x_this_harmed])), (a_this_leaves, .inl (cy 0, 12, .inl g_this_leaves)), (a_this_plan, .inr (4, [.int x_this_plan_cycle, .int x_this_plan_green, .int x_this_plan_rule, .int x_this_plan_least, .int x_this_plan_away, .int x_this_plan_statements, .int x_this_plan_kinds, .ref a_this_plan_calm, .ref a_this_plan_pace, .ref a_this_plan_trusts, .int x_this_plan_walkers, .ref a_this_plan_kindOf, .ref a_this_plan_comesAt, .ref a_this_plan_comers, .ref a_this_plan_names, .ref a_this_plan_code, .int x_this_plan_size, .ref a_this_plan_spans])), (a_this_plan_comesAt, .inl (cy 0, 12, .inl g_this_plan_comesAt))] → va_S A s.heap H locs → lv_has ls 2 [(0, .ref a_this), (1, .int p0)] → W p l e { frames := 0, cells := 0, slots := 0, locals := 0 } s m args below meth c H locs 0 0 Q (F0 m 22 ls [.int J22_s0]) := by
    intro J22_s0 H locs ls hP hD hS hl
    refine lv_aload_n hx hb dX7_waitedBy_22 rfl (lv_at hl 0 rfl) ?_
    refine k_get C0 fg_X7_63 hP 0 rfl rfl dX7_waitedBy_23 ?_
    refine k_get C0 fg_X7_153 hP 2 rfl rfl dX7_waitedBy_26 ?_
    refine lv_iload_n hx hb dX7_waitedBy_29 rfl (lv_at hl 1 rfl) ?_
    refine va_iald hx hb C0.2.2.2.2.2.1 hP 3 0 rfl rfl (ib_in 12 hp0 (by decide)) dX7_waitedBy_30 ?_
    refine lv_topi (fun z3888 ez3888 => ?_)
    have h3889 : ib z3888 0 199 := by rw [ez3888]; exact ia_at hg_this_plan_comesAt (ib_in 12 hp0 (by decide))
    refine lv_isub hx hb dX7_waitedBy_31 ?_
    refine lv_topi (fun z3890 ez3890 => ?_)
    subst hQ; exact k_iret hx hb hr hlk rfl () hS True.intro hP hD (Nat.le_of_ble_eq_true rfl) (Nat.le_of_ble_eq_true rfl) dX7_waitedBy_32
  refine lv_aload_n hx hb dX7_waitedBy_0 rfl (lv_at hl 0 rfl) ?_
  refine k_get C0 fg_X7_44 hP 0 rfl rfl dX7_waitedBy_1 ?_
  refine lv_iload_n hx hb dX7_waitedBy_4 rfl (lv_at hl 1 rfl) ?_
  refine va_iald hx hb C0.2.2.2.2.2.1 hP 1 0 rfl rfl (ib_in 12 hp0 (by decide)) dX7_waitedBy_5 ?_
  refine lv_topi (fun z3891 ez3891 => ?_)
  refine lv_iconst (v := (-1)) hx hb dX7_waitedBy_6 (by decide) ?_
  refine lv_icmp_ne (tgt := 16) hx hb dX7_waitedBy_7 (by decide) (fun c3892 => ?_) (fun c3892 => ?_)
  · skip
    refine lv_aload_n hx hb dX7_waitedBy_16 rfl (lv_at hl 0 rfl) ?_
    refine k_get C0 fg_X7_44 hP 0 rfl rfl dX7_waitedBy_17 ?_
    refine lv_iload_n hx hb dX7_waitedBy_20 rfl (lv_at hl 1 rfl) ?_
    refine va_iald hx hb C0.2.2.2.2.2.1 hP 1 0 rfl rfl (ib_in 12 hp0 (by decide)) dX7_waitedBy_21 ?_
    refine lv_topi (fun z3893 ez3893 => ?_)
    exact jn22 z3893 H locs ls  hP hD hS (lv_sub hl [0, 1] rfl)
  · have h3894 := ib_eq (ib_any z3891) (ib_c (-1) (-1) (-1) (by decide)) c3892
    have h3895 : ib z3891 (-1) (-1) := ib_w (-1) (-1) h3894.1 (by decide)
    refine lv_sipush (v := 300) hx hb dX7_waitedBy_10 (by decide) ?_
    refine lv_goto (tgt := 22) hx hb dX7_waitedBy_13 (by decide) ?_
    exact jn22 300 H locs ls  hP hD hS (lv_sub hl [0, 1] rfl)
set_option maxHeartbeats 4000000 in
set_option maxRecDepth 100000 in
theorem s_X7_waitedByAll (l : Launch) (dC : Nat → ClassId) (dI : Nat → Nat → Nat) (cy : Nat → ClassId) (sq : Nat → Nat) (a_this : Nat) (a_this_machine : Nat) (a_this_plan : Nat) (x_this_plan_cycle : Int32) (x_this_plan_green : Int32) (x_this_plan_rule : Int32) (x_this_plan_least : Int32) (x_this_plan_away : Int32) (x_this_plan_statements : Int32) (x_this_plan_kinds : Int32) (a_this_plan_calm : Nat) (a_this_plan_pace : Nat) (a_this_plan_trusts : Nat) (x_this_plan_walkers : Int32) (a_this_plan_kindOf : Nat) (a_this_plan_comesAt : Nat) (g_this_plan_comesAt : Nat → Int32) (a_this_plan_comers : Nat) (a_this_plan_names : Nat) (a_this_plan_code : Nat) (x_this_plan_size : Int32) (a_this_plan_spans : Nat) (x_this_day : Int32) (a_this_trusts : Nat) (x_this_rule : Int32) (x_this_green : Int32) (x_this_absent : Int32) (x_this_asksReds : Int32) (a_this_cars : Nat) (a_this_gaps : Nat) (a_this_known : Nat) (a_this_left : Nat) (a_this_leaves : Nat) (g_this_leaves : Nat → Int32) (x_this_pressed : Int32) (x_this_crossed : Int32) (x_this_went : Int32) (x_this_harmed : Int32) (hx_this_plan_cycle : ib x_this_plan_cycle 0 120) (hx_this_plan_least : ib x_this_plan_least 0 99) (hx_this_plan_statements : ib x_this_plan_statements 0 81) (hx_this_plan_kinds : ib x_this_plan_kinds 0 6) (hx_this_plan_walkers : ib x_this_plan_walkers 0 12) (hg_this_plan_comesAt : ia g_this_plan_comesAt 12 0 199) (hx_this_plan_size : ib x_this_plan_size 0 1600) (hx_this_asksReds : ib x_this_asksReds 0 1) : k_Met l yX7_waitedByAll cX7_waitedByAll 3 (some .int) { frames := 1, cells := 0, slots := 0, locals := 21 } dC dI cy sq [.ref a_this] [(a_this, .inr (7, [.ref a_this_machine, .ref a_this_plan, .int x_this_day, .ref a_this_trusts, .int x_this_rule, .int x_this_green, .int x_this_absent, .int x_this_asksReds, .ref a_this_cars, .ref a_this_gaps, .ref a_this_known, .ref a_this_left, .ref a_this_leaves, .int x_this_pressed, .int x_this_crossed, .int x_this_went, .int x_this_harmed])), (a_this_plan, .inr (4, [.int x_this_plan_cycle, .int x_this_plan_green, .int x_this_plan_rule, .int x_this_plan_least, .int x_this_plan_away, .int x_this_plan_statements, .int x_this_plan_kinds, .ref a_this_plan_calm, .ref a_this_plan_pace, .ref a_this_plan_trusts, .int x_this_plan_walkers, .ref a_this_plan_kindOf, .ref a_this_plan_comesAt, .ref a_this_plan_comers, .ref a_this_plan_names, .ref a_this_plan_code, .int x_this_plan_size, .ref a_this_plan_spans])), (a_this_leaves, .inl (cy 0, 12, .inl g_this_leaves)), (a_this_plan_comesAt, .inl (cy 0, 12, .inl g_this_plan_comesAt))] (k_Qi dC dI (fun (r : Int32) (_ : Unit) => True) (fun _ : Unit => [(a_this, .inr (7, [.ref a_this_machine, .ref a_this_plan, .int x_this_day, .ref a_this_trusts, .int x_this_rule, .int x_this_green, .int x_this_absent, .int x_this_asksReds, .ref a_this_cars, .ref a_this_gaps, .ref a_this_known, .ref a_this_left, .ref a_this_leaves, .int x_this_pressed, .int x_this_crossed, .int x_this_went, .int x_this_harmed])), (a_this_plan, .inr (4, [.int x_this_plan_cycle, .int x_this_plan_green, .int x_this_plan_rule, .int x_this_plan_least, .int x_this_plan_away, .int x_this_plan_statements, .int x_this_plan_kinds, .ref a_this_plan_calm, .ref a_this_plan_pace, .ref a_this_plan_trusts, .int x_this_plan_walkers, .ref a_this_plan_kindOf, .ref a_this_plan_comesAt, .ref a_this_plan_comers, .ref a_this_plan_names, .ref a_this_plan_code, .int x_this_plan_size, .ref a_this_plan_spans])), (a_this_leaves, .inl (cy 0, 12, .inl g_this_leaves)), (a_this_plan_comesAt, .inl (cy 0, 12, .inl g_this_plan_comesAt))])) := by
  refine k_ofW2 (by decide +kernel) (Nat.le_of_ble_eq_true rfl) ?_
  intro p e s m below meth c A ls H locs args Q hQ C0 hr hlk hin hP hD hA hS hl
  have C0 : k_cx p s m args c cX7_waitedByAll 3 RX7 dC dI cy sq := C0
  have hx := C0.1
  have hb := C0.2.1
  have hl : lv_has ls 3 [(0, .ref a_this)] := hl
  have jn4 : ∀ (n : Nat) (J4_l2 : Int32) (J4_l1 : Int32) (H : Heap) (locs : List Loc) (ls : Array Slot), ib J4_l2 0 12 → 13 ≤ J4_l2.toInt + (n : Int) → va_P (dC, dI) vwCl [(a_this, .inr (7, [.ref a_this_machine, .ref a_this_plan, .int x_this_day, .ref a_this_trusts, .int x_this_rule, .int x_this_green, .int x_this_absent, .int x_this_asksReds, .ref a_this_cars, .ref a_this_gaps, .ref a_this_known, .ref a_this_left, .ref a_this_leaves, .int x_this_pressed, .int x_this_crossed, .int x_this_went, .int x_this_harmed])), (a_this_plan, .inr (4, [.int x_this_plan_cycle, .int x_this_plan_green, .int x_this_plan_rule, .int x_this_plan_least, .int x_this_plan_away, .int x_this_plan_statements, .int x_this_plan_kinds, .ref a_this_plan_calm, .ref a_this_plan_pace, .ref a_this_plan_trusts, .int x_this_plan_walkers, .ref a_this_plan_kindOf, .ref a_this_plan_comesAt, .ref a_this_plan_comers, .ref a_this_plan_names, .ref a_this_plan_code, .int x_this_plan_size, .ref a_this_plan_spans])), (a_this_leaves, .inl (cy 0, 12, .inl g_this_leaves)), (a_this_plan_comesAt, .inl (cy 0, 12, .inl g_this_plan_comesAt))] H → va_D A [(a_this, .inr (7, [.ref a_this_machine, .ref a_this_plan, .int x_this_day, .ref a_this_trusts, .int x_this_rule, .int x_this_green, .int x_this_absent, .int x_this_asksReds, .ref a_this_cars, .ref a_this_gaps, .ref a_this_known, .ref a_this_left, .ref a_this_leaves, .int x_this_pressed, .int x_this_crossed, .int x_this_went, .int x_this_harmed])), (a_this_plan, .inr (4, [.int x_this_plan_cycle, .int x_this_plan_green, .int x_this_plan_rule, .int x_this_plan_least, .int x_this_plan_away, .int x_this_plan_statements, .int x_this_plan_kinds, .ref a_this_plan_calm, .ref a_this_plan_pace, .ref a_this_plan_trusts, .int x_this_plan_walkers, .ref a_this_plan_kindOf, .ref a_this_plan_comesAt, .ref a_this_plan_comers, .ref a_this_plan_names, .ref a_this_plan_code, .int x_this_plan_size, .ref a_this_plan_spans])), (a_this_leaves, .inl (cy 0, 12, .inl g_this_leaves)), (a_this_plan_comesAt, .inl (cy 0, 12, .inl g_this_plan_comesAt))] → va_S A s.heap H locs → lv_has ls 3 [(0, .ref a_this), (1, .int J4_l1), (2, .int J4_l2)] → W p l e { frames := 1, cells := 0, slots := 0, locals := 21 } s m args below meth c H locs 0 0 Q (F0 m 4 ls []) := by
    intro n
    induction n with
    | zero =>
      intro J4_l2 J4_l1 H locs ls hJ4_l2 hm
      exact absurd hm (by have := hJ4_l2; unfold ib at this; omega)
    | succ n ih =>
      intro J4_l2 J4_l1 H locs ls hJ4_l2 hm4 hP hD hS hl
      have ih4 := ih
      have jn34 : ∀ (J34_l1 : Int32) (H : Heap) (locs : List Loc) (ls : Array Slot), ib J4_l2 0 11 → ib x_this_plan_walkers 1 12 → va_P (dC, dI) vwCl [(a_this, .inr (7, [.ref a_this_machine, .ref a_this_plan, .int x_this_day, .ref a_this_trusts, .int x_this_rule, .int x_this_green, .int x_this_absent, .int x_this_asksReds, .ref a_this_cars, .ref a_this_gaps, .ref a_this_known, .ref a_this_left, .ref a_this_leaves, .int x_this_pressed, .int x_this_crossed, .int x_this_went, .int x_this_harmed])), (a_this_plan, .inr (4, [.int x_this_plan_cycle, .int x_this_plan_green, .int x_this_plan_rule, .int x_this_plan_least, .int x_this_plan_away, .int x_this_plan_statements, .int x_this_plan_kinds, .ref a_this_plan_calm, .ref a_this_plan_pace, .ref a_this_plan_trusts, .int x_this_plan_walkers, .ref a_this_plan_kindOf, .ref a_this_plan_comesAt, .ref a_this_plan_comers, .ref a_this_plan_names, .ref a_this_plan_code, .int x_this_plan_size, .ref a_this_plan_spans])), (a_this_leaves, .inl (cy 0, 12, .inl g_this_leaves)), (a_this_plan_comesAt, .inl (cy 0, 12, .inl g_this_plan_comesAt))] H → va_D A [(a_this, .inr (7, [.ref a_this_machine, .ref a_this_plan, .int x_this_day, .ref a_this_trusts, .int x_this_rule, .int x_this_green, .int x_this_absent, .int x_this_asksReds, .ref a_this_cars, .ref a_this_gaps, .ref a_this_known, .ref a_this_left, .ref a_this_leaves, .int x_this_pressed, .int x_this_crossed, .int x_this_went, .int x_this_harmed])), (a_this_plan, .inr (4, [.int x_this_plan_cycle, .int x_this_plan_green, .int x_this_plan_rule, .int x_this_plan_least, .int x_this_plan_away, .int x_this_plan_statements, .int x_this_plan_kinds, .ref a_this_plan_calm, .ref a_this_plan_pace, .ref a_this_plan_trusts, .int x_this_plan_walkers, .ref a_this_plan_kindOf, .ref a_this_plan_comesAt, .ref a_this_plan_comers, .ref a_this_plan_names, .ref a_this_plan_code, .int x_this_plan_size, .ref a_this_plan_spans])), (a_this_leaves, .inl (cy 0, 12, .inl g_this_leaves)), (a_this_plan_comesAt, .inl (cy 0, 12, .inl g_this_plan_comesAt))] → va_S A s.heap H locs → lv_has ls 3 [(0, .ref a_this), (1, .int J34_l1), (2, .int J4_l2)] → W p l e { frames := 1, cells := 0, slots := 0, locals := 21 } s m args below meth c H locs 0 0 Q (F0 m 34 ls []) := by
        intro J34_l1 H locs ls hJ34_l2 hJ34_c1_10 hP hD hS hl
        obtain ⟨z4338, ez4338⟩ : ∃ y : Int32, y = J4_l2 + 1 := ⟨_, rfl⟩
        refine lv_iinc (v := z4338) (lv' := [(2, .int z4338), (0, .ref a_this), (1, .int J34_l1)]) hx hb dX7_waitedByAll_34 hl (k := 2) rfl (by rw [ez4338]; rfl) (by decide) rfl (fun ls hl => ?_)
        have h4339 := ib_add hJ34_l2 (ib_c 1 1 1 (by decide)) (by decide)
        rw [← ez4338] at h4339
        have h4340 : ib z4338 1 12 := ib_w 1 12 h4339.1 (by decide)
        refine lv_goto (tgt := 4) hx hb dX7_waitedByAll_37 (by decide) ?_
        exact ih4 z4338 J34_l1 H locs ls (ib_w 0 12 h4340 (by decide)) (by have := h4339.2; have : (1 : Int32).toInt = 1 := (by decide); omega) hP hD hS (lv_sub hl [1, 2, 0] rfl)
      refine lv_iload_n hx hb dX7_waitedByAll_4 rfl (lv_at hl 2 rfl) ?_
      refine lv_aload_n hx hb dX7_waitedByAll_5 rfl (lv_at hl 0 rfl) ?_
      refine k_get C0 fg_X7_63 hP 0 rfl rfl dX7_waitedByAll_6 ?_
      refine k_get C0 fg_X7_137 hP 1 rfl rfl dX7_waitedByAll_9 ?_
      refine lv_icmp_ge (tgt := 40) hx hb dX7_waitedByAll_12 (by decide) (fun c4341 => ?_) (fun c4341 => ?_)
      · have h4342 := ib_le hx_this_plan_walkers hJ4_l2 c4341
        refine lv_iload_n hx hb dX7_waitedByAll_40 rfl (lv_at hl 1 rfl) ?_
        subst hQ; exact k_iret hx hb hr hlk rfl () hS True.intro hP hD (Nat.le_of_ble_eq_true rfl) (Nat.le_of_ble_eq_true rfl) dX7_waitedByAll_41
      · have h4343 := ib_nle hx_this_plan_walkers hJ4_l2 c4341
        have h4344 : ib x_this_plan_walkers 1 12 := ib_w 1 12 h4343.1 (by decide)
        have h4345 : ib J4_l2 0 11 := ib_w 0 11 h4343.2 (by decide)
        refine lv_aload_n hx hb dX7_waitedByAll_15 rfl (lv_at hl 0 rfl) ?_
        refine k_get C0 fg_X7_25 hP 0 rfl rfl dX7_waitedByAll_16 ?_
        refine lv_iload_n hx hb dX7_waitedByAll_19 rfl (lv_at hl 2 rfl) ?_
        refine lv_ishr hx hb dX7_waitedByAll_20 ?_
        refine lv_topi (fun z4346 ez4346 => ?_)
        refine lv_iconst (v := 1) hx hb dX7_waitedByAll_21 (by decide) ?_
        refine lv_iand hx hb dX7_waitedByAll_22 ?_
        refine lv_topi (fun z4347 ez4347 => ?_)
        have h4348 : ib z4347 0 1 := by rw [ez4347]; exact ib_and 1 (by decide) (by decide) 1 (by decide)
        refine lv_if_ne (tgt := 34) hx hb dX7_waitedByAll_23 (by decide) (fun c4349 => ?_) (fun c4349 => ?_)
        · have h4350 : ib z4347 1 1 := ib_w 1 1 (ib_ne_lo 0 h4348 (by decide) c4349) (by decide)
          obtain ⟨z4351, ez4351⟩ : ∃ y : Int32, y = J4_l2 + 1 := ⟨_, rfl⟩
          refine lv_iinc (v := z4351) (lv' := [(2, .int z4351), (0, .ref a_this), (1, .int J4_l1)]) hx hb dX7_waitedByAll_34 hl (k := 2) rfl (by rw [ez4351]; rfl) (by decide) rfl (fun ls hl => ?_)
          have h4352 := ib_add h4345 (ib_c 1 1 1 (by decide)) (by decide)
          rw [← ez4351] at h4352
          have h4353 : ib z4351 1 12 := ib_w 1 12 h4352.1 (by decide)
          refine lv_goto (tgt := 4) hx hb dX7_waitedByAll_37 (by decide) ?_
          exact ih4 z4351 J4_l1 H locs ls (ib_w 0 12 h4353 (by decide)) (by have := h4352.2; have : (1 : Int32).toInt = 1 := (by decide); omega) hP hD hS (lv_sub hl [1, 2, 0] rfl)
        · have h4354 := ib_eq h4348 (ib_c 0 0 0 (by decide)) c4349
          have h4355 : ib z4347 0 0 := ib_w 0 0 h4354.1 (by decide)
          refine lv_iload_n hx hb dX7_waitedByAll_26 rfl (lv_at hl 1 rfl) ?_
          refine lv_aload_n hx hb dX7_waitedByAll_27 rfl (lv_at hl 0 rfl) ?_
          refine lv_iload_n hx hb dX7_waitedByAll_28 rfl (lv_at hl 2 rfl) ?_
          refine k_ji hP hD hS hA [0, 2, 1, 3] [] (wr := []) rfl rfl (by decide) (by decide) (by decide) 0 0 (Nat.le_of_ble_eq_true rfl) (Nat.le_of_ble_eq_true rfl) (fun hPc hDc => k_runV (As := [.int J4_l2]) (rest := [.int J4_l1]) C0 (s_X7_waitedBy l dC dI cy sq a_this a_this_machine a_this_plan x_this_plan_cycle x_this_plan_green x_this_plan_rule x_this_plan_least x_this_plan_away x_this_plan_statements x_this_plan_kinds a_this_plan_calm a_this_plan_pace a_this_plan_trusts x_this_plan_walkers a_this_plan_kindOf a_this_plan_comesAt g_this_plan_comesAt a_this_plan_comers a_this_plan_names a_this_plan_code x_this_plan_size a_this_plan_spans x_this_day a_this_trusts x_this_rule x_this_green x_this_absent x_this_asksReds a_this_cars a_this_gaps a_this_known a_this_left a_this_leaves g_this_leaves x_this_pressed x_this_crossed x_this_went x_this_harmed J4_l2 (ib_w 0 120 hx_this_plan_cycle (by decide)) (ib_w 0 99 hx_this_plan_least (by decide)) (ib_w 0 81 hx_this_plan_statements (by decide)) (ib_w 0 6 hx_this_plan_kinds (by decide)) (ib_w 0 12 h4344 (by decide)) hg_this_plan_comesAt (ib_w 0 1600 hx_this_plan_size (by decide)) (ib_w 0 1 hx_this_asksReds (by decide)) (ib_w 0 11 h4345 (by decide))) mV_X7_163 hPc hDc rfl rfl rfl hl rfl rfl (Nat.le_of_ble_eq_true rfl) ⟨(Nat.le_of_ble_eq_true rfl), (Nat.le_of_ble_eq_true rfl)⟩ ⟨(Nat.le_of_ble_eq_true rfl), (Nat.le_of_ble_eq_true rfl)⟩ dX7_waitedByAll_29) (fun r4356 u4357 H locs hw hP hD hS => ?_)
          try dsimp only at hP hD hw
          have hP : va_P (dC, dI) vwCl [(a_this, .inr (7, [.ref a_this_machine, .ref a_this_plan, .int x_this_day, .ref a_this_trusts, .int x_this_rule, .int x_this_green, .int x_this_absent, .int x_this_asksReds, .ref a_this_cars, .ref a_this_gaps, .ref a_this_known, .ref a_this_left, .ref a_this_leaves, .int x_this_pressed, .int x_this_crossed, .int x_this_went, .int x_this_harmed])), (a_this_leaves, .inl (cy 0, 12, .inl g_this_leaves)), (a_this_plan, .inr (4, [.int x_this_plan_cycle, .int x_this_plan_green, .int x_this_plan_rule, .int x_this_plan_least, .int x_this_plan_away, .int x_this_plan_statements, .int x_this_plan_kinds, .ref a_this_plan_calm, .ref a_this_plan_pace, .ref a_this_plan_trusts, .int x_this_plan_walkers, .ref a_this_plan_kindOf, .ref a_this_plan_comesAt, .ref a_this_plan_comers, .ref a_this_plan_names, .ref a_this_plan_code, .int x_this_plan_size, .ref a_this_plan_spans])), (a_this_plan_comesAt, .inl (cy 0, 12, .inl g_this_plan_comesAt))] H := hP
          have hD : va_D A [(a_this, .inr (7, [.ref a_this_machine, .ref a_this_plan, .int x_this_day, .ref a_this_trusts, .int x_this_rule, .int x_this_green, .int x_this_absent, .int x_this_asksReds, .ref a_this_cars, .ref a_this_gaps, .ref a_this_known, .ref a_this_left, .ref a_this_leaves, .int x_this_pressed, .int x_this_crossed, .int x_this_went, .int x_this_harmed])), (a_this_leaves, .inl (cy 0, 12, .inl g_this_leaves)), (a_this_plan, .inr (4, [.int x_this_plan_cycle, .int x_this_plan_green, .int x_this_plan_rule, .int x_this_plan_least, .int x_this_plan_away, .int x_this_plan_statements, .int x_this_plan_kinds, .ref a_this_plan_calm, .ref a_this_plan_pace, .ref a_this_plan_trusts, .int x_this_plan_walkers, .ref a_this_plan_kindOf, .ref a_this_plan_comesAt, .ref a_this_plan_comers, .ref a_this_plan_names, .ref a_this_plan_code, .int x_this_plan_size, .ref a_this_plan_spans])), (a_this_plan_comesAt, .inl (cy 0, 12, .inl g_this_plan_comesAt))] := hD
          refine lv_iadd hx hb dX7_waitedByAll_32 ?_
          refine lv_topi (fun z4358 ez4358 => ?_)
          refine lv_istore_n (lv' := [(1, .int z4358), (0, .ref a_this), (2, .int J4_l2)]) hx hb dX7_waitedByAll_33 rfl hl (by decide) rfl (fun ls hl => ?_)
          exact jn34 z4358 H locs ls (ib_w 0 11 h4345 (by decide)) (ib_w 1 12 h4344 (by decide)) (hP.sub [0, 2, 1, 3] rfl) (hD.sub [0, 2, 1, 3] (by decide) rfl) hS (lv_sub hl [1, 0, 2] rfl)
  refine lv_iconst (v := 0) hx hb dX7_waitedByAll_0 (by decide) ?_
  refine lv_istore_n (lv' := [(1, .int 0), (0, .ref a_this)]) hx hb dX7_waitedByAll_1 rfl hl (by decide) rfl (fun ls hl => ?_)
  refine lv_iconst (v := 0) hx hb dX7_waitedByAll_2 (by decide) ?_
  refine lv_istore_n (lv' := [(2, .int 0), (1, .int 0), (0, .ref a_this)]) hx hb dX7_waitedByAll_3 rfl hl (by decide) rfl (fun ls hl => ?_)
  exact jn4 14 0 0 H locs ls (ib_w 0 12 (ib_c 0 0 0 (by decide)) (by decide)) (by have := (ib_c 0 0 0 (by decide)); unfold ib at this; omega) hP hD hS (lv_sub hl [2, 1, 0] rfl)
