set_option maxHeartbeats 4000000 in
set_option maxRecDepth 100000 in
theorem s_X0_forget (l : Launch) (dC : Nat → ClassId) (dI : Nat → Nat → Nat) (cy : Nat → ClassId) (sq : Nat → Nat) (a_this : Nat) (a_this_street : Nat) (a_this_state : Nat) (a_this_told : Nat) (a_this_trusts : Nat) (x_this_known : Int32) (hx_this_known : ib x_this_known 0 30) : k_Met l yX0_forget cX0_forget 1 none { frames := 0, cells := 0, slots := 0, locals := 0 } dC dI cy sq [.ref a_this] [(a_this, .inr (0, [.ref a_this_street, .ref a_this_state, .ref a_this_told, .ref a_this_trusts, .int x_this_known]))] (k_Qv dC dI (fun (n0 : Int32) => ib n0 0 30) (fun n0 : Int32 => [(a_this, .inr (0, [.ref a_this_street, .ref a_this_state, .ref a_this_told, .ref a_this_trusts, .int n0]))])) := by
  refine k_ofW2 (by decide +kernel) (Nat.le_of_ble_eq_true rfl) ?_
  intro p e s m below meth c A ls H locs args Q hQ C0 hr hlk hin hP hD hA hS hl
  have C0 : k_cx p s m args c cX0_forget 1 RX0 dC dI cy sq := C0
  have hx := C0.1
  have hb := C0.2.1
  have hl : lv_has ls 1 [(0, .ref a_this)] := hl
  refine lv_aload_n hx hb dX0_forget_0 rfl (lv_at hl 0 rfl) ?_
  refine lv_iconst (v := 0) hx hb dX0_forget_1 (by decide) ?_
  refine k_put C0 fp_X0_25 hP hD hS 0 rfl rfl rfl (Nat.le_of_ble_eq_true rfl) dX0_forget_2 (fun H locs hP hD hS => ?_)
  have hP : va_P (dC, dI) vwCl [(a_this, .inr (0, [.ref a_this_street, .ref a_this_state, .ref a_this_told, .ref a_this_trusts, .int 0]))] H := hP
  have hD : va_D A [(a_this, .inr (0, [.ref a_this_street, .ref a_this_state, .ref a_this_told, .ref a_this_trusts, .int 0]))] := hD
  subst hQ; exact k_vret hx hb hr hlk 0 hS (ib_w 0 30 (ib_c 0 0 0 (by decide)) (by decide)) hP hD (Nat.le_of_ble_eq_true rfl) (Nat.le_of_ble_eq_true rfl) dX0_forget_5
set_option maxHeartbeats 4000000 in
set_option maxRecDepth 100000 in
theorem s_X7_waitedBy (l : Launch) (dC : Nat → ClassId) (dI : Nat → Nat → Nat) (cy : Nat → ClassId) (sq : Nat → Nat) (a_this : Nat) (a_this_machine : Nat) (a_this_plan : Nat) (x_this_plan_cycle : Int32) (x_this_plan_green : Int32) (x_this_plan_rule : Int32) (x_this_plan_least : Int32) (x_this_plan_away : Int32) (x_this_plan_statements : Int32) (x_this_plan_kinds : Int32) (a_this_plan_calm : Nat) (a_this_plan_pace : Nat) (a_this_plan_trusts : Nat) (x_this_plan_walkers : Int32) (a_this_plan_kindOf : Nat) (a_this_plan_comesAt : Nat) (g_this_plan_comesAt : Nat → Int32) (a_this_plan_comers : Nat) (a_this_plan_names : Nat) (a_this_plan_code : Nat) (x_this_plan_size : Int32) (a_this_plan_spans : Nat) (x_this_day : Int32) (a_this_trusts : Nat) (x_this_rule : Int32) (x_this_green : Int32) (x_this_absent : Int32) (x_this_asksReds : Int32) (a_this_cars : Nat) (a_this_gaps : Nat) (a_this_known : Nat) (a_this_left : Nat) (a_this_leaves : Nat) (g_this_leaves : Nat → Int32) (x_this_pressed : Int32) (x_this_crossed : Int32) (x_this_went : Int32) (x_this_harmed : Int32) (p0 : Int32) (hx_this_plan_cycle : ib x_this_plan_cycle 0 120) (hx_this_plan_least : ib x_this_plan_least 0 99) (hx_this_plan_statements : ib x_this_plan_statements 0 81) (hx_this_plan_kinds : ib x_this_plan_kinds 0 6) (hx_this_plan_walkers : ib x_this_plan_walkers 0 12) (hg_this_plan_comesAt : ia g_this_plan_comesAt 12 0 199) (hx_this_plan_size : ib x_this_plan_size 0 1600) (hx_this_asksReds : ib x_this_asksReds 0 1) (hp0 : ib p0 0 11) : k_Met l yX7_waitedBy cX7_waitedBy 2 (some .int) { frames := 0, cells := 0, slots := 0, locals := 0 } dC dI cy sq [.ref a_this, .int p0] [(a_this, .inr (7, [.ref a_this_machine, .ref a_this_plan, .int x_this_day, .ref a_this_trusts, .int x_this_rule, .int x_this_green, .int x_this_absent, .int x_this_asksReds, .ref a_this_cars, .ref a_this_gaps, .ref a_this_known, .ref a_this_left, .ref a_this_leaves, .int x_this_pressed, .int x_this_crossed, .int x_this_went, .int x_this_harmed])), (a_this_leaves, .inl (cy 0, 12, .inl g_this_leaves)), (a_this_plan, .inr (4, [.int x_this_plan_cycle, .int x_this_plan_green, .int x_this_plan_rule, .int x_this_plan_least, .int x_this_plan_away, .int x_this_plan_statements, .int x_this_plan_kinds, .ref a_this_plan_calm, .ref a_this_plan_pace, .ref a_this_plan_trusts, .int x_this_plan_walkers, .ref a_this_plan_kindOf, .ref a_this_plan_comesAt, .ref a_this_plan_comers, .ref a_this_plan_names, .ref a_this_plan_code, .int x_this_plan_size, .ref a_this_plan_spans])), (a_this_plan_comesAt, .inl (cy 0, 12, .inl g_this_plan_comesAt))] (k_Qi dC dI (fun (r : Int32) (_ : Unit) => True) (fun _ : Unit => [(a_this, .inr (7, [.ref a_this_machine, .ref a_this_plan, .int x_this_day, .ref a_this_trusts, .int x_this_rule, .int x_this_green, .int x_this_absent, .int x_this_asksReds, .ref a_this_cars, .ref a_this_gaps, .ref a_this_known, .ref a_this_left, .ref a_this_leaves, .int x_this_pressed, .int x_this_crossed, .int x_this_went, .int x_this_harmed])), (a_this_leaves, .inl (cy 0, 12, .inl g_this_leaves)), (a_this_plan, .inr (4, [.int x_this_plan_cycle, .int x_this_plan_green, .int x_this_plan_rule, .int x_this_plan_least, .int x_this_plan_away, .int x_this_plan_statements, .int x_this_plan_kinds, .ref a_this_plan_calm, .ref a_this_plan_pace, .ref a_this_plan_trusts, .int x_this_plan_walkers, .ref a_this_plan_kindOf, .ref a_this_plan_comesAt, .ref a_this_plan_comers, .ref a_this_plan_names, .ref a_this_plan_code, .int x_this_plan_size, .ref a_this_plan_spans])), (a_this_plan_comesAt, .inl (cy 0, 12, .inl g_this_plan_comesAt))])) := by
  refine k_ofW2 (by decide +kernel) (Nat.le_of_ble_eq_true rfl) ?_
  intro p e s m below meth c A ls H locs args Q hQ C0 hr hlk hin hP hD hA hS hl
  have C0 : k_cx p s m args c cX7_waitedBy 2 RX7 dC dI cy sq := C0
  have hx := C0.1
  have hb := C0.2.1
  have hl : lv_has ls 2 [(0, .ref a_this), (1, .int p0)] := hl
  have jn22 : ∀ (J22_s0 : Int32) (H : Heap) (locs : List Loc) (ls : Array Slot), va_P (dC, dI) vwCl [(a_this, .inr (7, [.ref a_this_machine, .ref a_this_plan, .int x_this_day, .ref a_this_trusts, .int x_this_rule, .int x_this_green, .int x_this_absent, .int x_this_asksReds, .ref a_this_cars, .ref a_this_gaps, .ref a_this_known, .ref a_this_left, .ref a_this_leaves, .int x_this_pressed, .int x_this_crossed, .int x_this_went, .int x_this_harmed])), (a_this_leaves, .inl (cy 0, 12, .inl g_this_leaves)), (a_this_plan, .inr (4, [.int x_this_plan_cycle, .int x_this_plan_green, .int x_this_plan_rule, .int x_this_plan_least, .int x_this_plan_away, .int x_this_plan_statements, .int x_this_plan_kinds, .ref a_this_plan_calm, .ref a_this_plan_pace, .ref a_this_plan_trusts, .int x_this_plan_walkers, .ref a_this_plan_kindOf, .ref a_this_plan_comesAt, .ref a_this_plan_comers, .ref a_this_plan_names, .ref a_this_plan_code, .int x_this_plan_size, .ref a_this_plan_spans])), (a_this_plan_comesAt, .inl (cy 0, 12, .inl g_this_plan_comesAt))] H → va_D A [(a_this, .inr (7, [.ref a_this_machine, .ref a_this_plan, .int x_this_day, .ref a_this_trusts, .int x_this_rule, .int x_this_green, .int x_this_absent, .int x_this_asksReds, .ref a_this_cars, .ref a_this_gaps, .ref a_this_known, .ref a_this_left, .ref a_this_leaves, .int x_this_pressed, .int x_this_crossed, .int x_this_went, .int x_this_harmed])), (a_this_leaves, .inl (cy 0, 12, .inl g_this_leaves)), (a_this_plan, .inr (4, [.int x_this_plan_cycle, .int x_this_plan_green, .int x_this_plan_rule, .int x_this_plan_least, .int x_this_plan_away, .int x_this_plan_statements, .int x_this_plan_kinds, .ref a_this_plan_calm, .ref a_this_plan_pace, .ref a_this_plan_trusts, .int x_this_plan_walkers, .ref a_this_plan_kindOf, .ref a_this_plan_comesAt, .ref a_this_plan_comers, .ref a_this_plan_names, .ref a_this_plan_code, .int x_this_plan_size, .ref a_this_plan_spans])), (a_this_plan_comesAt, .inl (cy 0, 12, .inl g_this_plan_comesAt))] → va_S A s.heap H locs → lv_has ls 2 [(0, .ref a_this), (1, .int p0)] → W p l e { frames := 0, cells := 0, slots := 0, locals := 0 } s m args below meth c H locs 0 0 Q (F0 m 22 ls [.int J22_s0]) := by
    intro J22_s0 H locs ls hP hD hS hl
    refine lv_aload_n hx hb dX7_waitedBy_22 rfl (lv_at hl 0 rfl) ?_
    refine k_get C0 fg_X7_63 hP 0 rfl rfl dX7_waitedBy_23 ?_
    refine k_get C0 fg_X7_153 hP 2 rfl rfl dX7_waitedBy_26 ?_
    refine lv_iload_n hx hb dX7_waitedBy_29 rfl (lv_at hl 1 rfl) ?_
    refine va_iald hx hb C0.2.2.2.2.2.1 hP 3 0 rfl rfl (ib_in 12 hp0 (by decide)) dX7_waitedBy_30 ?_
    refine lv_topi (fun z94 ez94 => ?_)
    have h95 : ib z94 0 199 := by rw [ez94]; exact ia_at hg_this_plan_comesAt (ib_in 12 hp0 (by decide))
    refine lv_isub hx hb dX7_waitedBy_31 ?_
    refine lv_topi (fun z96 ez96 => ?_)
    subst hQ; exact k_iret hx hb hr hlk rfl () hS True.intro hP hD (Nat.le_of_ble_eq_true rfl) (Nat.le_of_ble_eq_true rfl) dX7_waitedBy_32
  refine lv_aload_n hx hb dX7_waitedBy_0 rfl (lv_at hl 0 rfl) ?_
  refine k_get C0 fg_X7_44 hP 0 rfl rfl dX7_waitedBy_1 ?_
  refine lv_iload_n hx hb dX7_waitedBy_4 rfl (lv_at hl 1 rfl) ?_
  refine va_iald hx hb C0.2.2.2.2.2.1 hP 1 0 rfl rfl (ib_in 12 hp0 (by decide)) dX7_waitedBy_5 ?_
  refine lv_topi (fun z97 ez97 => ?_)
  refine lv_iconst (v := (-1)) hx hb dX7_waitedBy_6 (by decide) ?_
  refine lv_icmp_ne (tgt := 16) hx hb dX7_waitedBy_7 (by decide) (fun c98 => ?_) (fun c98 => ?_)
  · skip
    refine lv_aload_n hx hb dX7_waitedBy_16 rfl (lv_at hl 0 rfl) ?_
    refine k_get C0 fg_X7_44 hP 0 rfl rfl dX7_waitedBy_17 ?_
    refine lv_iload_n hx hb dX7_waitedBy_20 rfl (lv_at hl 1 rfl) ?_
    refine va_iald hx hb C0.2.2.2.2.2.1 hP 1 0 rfl rfl (ib_in 12 hp0 (by decide)) dX7_waitedBy_21 ?_
    refine lv_topi (fun z99 ez99 => ?_)
    exact jn22 z99 H locs ls  hP hD hS (lv_sub hl [0, 1] rfl)
  · have h100 := ib_eq (ib_any z97) (ib_c (-1) (-1) (-1) (by decide)) c98
    have h101 : ib z97 (-1) (-1) := ib_w (-1) (-1) h100.1 (by decide)
    refine lv_sipush (v := 300) hx hb dX7_waitedBy_10 (by decide) ?_
    refine lv_goto (tgt := 22) hx hb dX7_waitedBy_13 (by decide) ?_
    exact jn22 300 H locs ls  hP hD hS (lv_sub hl [0, 1] rfl)
set_option maxHeartbeats 4000000 in
set_option maxRecDepth 100000 in
theorem s_X7_waitedByAll (l : Launch) (dC : Nat → ClassId) (dI : Nat → Nat → Nat) (cy : Nat → ClassId) (sq : Nat → Nat) (a_this : Nat) (a_this_machine : Nat) (a_this_plan : Nat) (x_this_plan_cycle : Int32) (x_this_plan_green : Int32) (x_this_plan_rule : Int32) (x_this_plan_least : Int32) (x_this_plan_away : Int32) (x_this_plan_statements : Int32) (x_this_plan_kinds : Int32) (a_this_plan_calm : Nat) (a_this_plan_pace : Nat) (a_this_plan_trusts : Nat) (x_this_plan_walkers : Int32) (a_this_plan_kindOf : Nat) (a_this_plan_comesAt : Nat) (g_this_plan_comesAt : Nat → Int32) (a_this_plan_comers : Nat) (a_this_plan_names : Nat) (a_this_plan_code : Nat) (x_this_plan_size : Int32) (a_this_plan_spans : Nat) (x_this_day : Int32) (a_this_trusts : Nat) (x_this_rule : Int32) (x_this_green : Int32) (x_this_absent : Int32) (x_this_asksReds : Int32) (a_this_cars : Nat) (a_this_gaps : Nat) (a_this_known : Nat) (a_this_left : Nat) (a_this_leaves : Nat) (g_this_leaves : Nat → Int32) (x_this_pressed : Int32) (x_this_crossed : Int32) (x_this_went : Int32) (x_this_harmed : Int32) (hx_this_plan_cycle : ib x_this_plan_cycle 0 120) (hx_this_plan_least : ib x_this_plan_least 0 99) (hx_this_plan_statements : ib x_this_plan_statements 0 81) (hx_this_plan_kinds : ib x_this_plan_kinds 0 6) (hx_this_plan_walkers : ib x_this_plan_walkers 0 12) (hg_this_plan_comesAt : ia g_this_plan_comesAt 12 0 199) (hx_this_plan_size : ib x_this_plan_size 0 1600) (hx_this_asksReds : ib x_this_asksReds 0 1) : k_Met l yX7_waitedByAll cX7_waitedByAll 3 (some .int) { frames := 1, cells := 0, slots := 0, locals := 21 } dC dI cy sq [.ref a_this] [(a_this, .inr (7, [.ref a_this_machine, .ref a_this_plan, .int x_this_day, .ref a_this_trusts, .int x_this_rule, .int x_this_green, .int x_this_absent, .int x_this_asksReds, .ref a_this_cars, .ref a_this_gaps, .ref a_this_known, .ref a_this_left, .ref a_this_leaves, .int x_this_pressed, .int x_this_crossed, .int x_this_went, .int x_this_harmed])), (a_this_plan, .inr (4, [.int x_this_plan_cycle, .int x_this_plan_green, .int x_this_plan_rule, .int x_this_plan_least, .int x_this_plan_away, .int x_this_plan_statements, .int x_this_plan_kinds, .ref a_this_plan_calm, .ref a_this_plan_pace, .ref a_this_plan_trusts, .int x_this_plan_walkers, .ref a_this_plan_kindOf, .ref a_this_plan_comesAt, .ref a_this_plan_comers, .ref a_this_plan_names, .ref a_this_plan_code, .int x_this_plan_size, .ref a_this_plan_spans])), (a_this_leaves, .inl (cy 0, 12, .inl g_this_leaves)), (a_this_plan_comesAt, .inl (cy 0, 12, .inl g_this_plan_comesAt))] (k_Qi dC dI (fun (r : Int32) (_ : Unit) => True) (fun _ : Unit => [(a_this, .inr (7, [.ref a_this_machine, .ref a_this_plan, .int x_this_day, .ref a_this_trusts, .int x_this_rule, .int x_this_green, .int x_this_absent, .int x_this_asksReds, .ref a_this_cars, .ref a_this_gaps, .ref a_this_known, .ref a_this_left, .ref a_this_leaves, .int x_this_pressed, .int x_this_crossed, .int x_this_went, .int x_this_harmed])), (a_this_plan, .inr (4, [.int x_this_plan_cycle, .int x_this_plan_green, .int x_this_plan_rule, .int x_this_plan_least, .int x_this_plan_away, .int x_this_plan_statements, .int x_this_plan_kinds, .ref a_this_plan_calm, .ref a_this_plan_pace, .ref a_this_plan_trusts, .int x_this_plan_walkers, .ref a_this_plan_kindOf, .ref a_this_plan_comesAt, .ref a_this_plan_comers, .ref a_this_plan_names, .ref a_this_plan_code, .int x_this_plan_size, .ref a_this_plan_spans])), (a_this_leaves, .inl (cy 0, 12, .inl g_this_leaves)), (a_this_plan_comesAt, .inl (cy 0, 12, .inl g_this_plan_comesAt))])) := by
  refine k_ofW2 (by decide +kernel) (Nat.le_of_ble_eq_true rfl) ?_
  intro p e s m below meth c A ls H locs args Q hQ C0 hr hlk hin hP hD hA hS hl
  have C0 : k_cx p s m args c cX7_waitedByAll 3 RX7 dC dI cy sq := C0
  have hx := C0.1
  have hb := C0.2.1
  have hl : lv_has ls 3 [(0, .ref a_this)] := hl
  have jn4 : ∀ (n : Nat) (J4_l2 : Int32) (J4_l1 : Int32) (H : Heap) (locs : List Loc) (ls : Array Slot), ib J4_l2 0 12 → 13 ≤ J4_l2.toInt + (n : Int) → va_P (dC, dI) vwCl [(a_this, .inr (7, [.ref a_this_machine, .ref a_this_plan, .int x_this_day, .ref a_this_trusts, .int x_this_rule, .int x_this_green, .int x_this_absent, .int x_this_asksReds, .ref a_this_cars, .ref a_this_gaps, .ref a_this_known, .ref a_this_left, .ref a_this_leaves, .int x_this_pressed, .int x_this_crossed, .int x_this_went, .int x_this_harmed])), (a_this_plan, .inr (4, [.int x_this_plan_cycle, .int x_this_plan_green, .int x_this_plan_rule, .int x_this_plan_least, .int x_this_plan_away, .int x_this_plan_statements, .int x_this_plan_kinds, .ref a_this_plan_calm, .ref a_this_plan_pace, .ref a_this_plan_trusts, .int x_this_plan_walkers, .ref a_this_plan_kindOf, .ref a_this_plan_comesAt, .ref a_this_plan_comers, .ref a_this_plan_names, .ref a_this_plan_code, .int x_this_plan_size, .ref a_this_plan_spans])), (a_this_leaves, .inl (cy 0, 12, .inl g_this_leaves)), (a_this_plan_comesAt, .inl (cy 0, 12, .inl g_this_plan_comesAt))] H → va_D A [(a_this, .inr (7, [.ref a_this_machine, .ref a_this_plan, .int x_this_day, .ref a_this_trusts, .int x_this_rule, .int x_this_green, .int x_this_absent, .int x_this_asksReds, .ref a_this_cars, .ref a_this_gaps, .ref a_this_known, .ref a_this_left, .ref a_this_leaves, .int x_this_pressed, .int x_this_crossed, .int x_this_went, .int x_this_harmed])), (a_this_plan, .inr (4, [.int x_this_plan_cycle, .int x_this_plan_green, .int x_this_plan_rule, .int x_this_plan_least, .int x_this_plan_away, .int x_this_plan_statements, .int x_this_plan_kinds, .ref a_this_plan_calm, .ref a_this_plan_pace, .ref a_this_plan_trusts, .int x_this_plan_walkers, .ref a_this_plan_kindOf, .ref a_this_plan_comesAt, .ref a_this_plan_comers, .ref a_this_plan_names, .ref a_this_plan_code, .int x_this_plan_size, .ref a_this_plan_spans])), (a_this_leaves, .inl (cy 0, 12, .inl g_this_leaves)), (a_this_plan_comesAt, .inl (cy 0, 12, .inl g_this_plan_comesAt))] → va_S A s.heap H locs → lv_has ls 3 [(0, .ref a_this), (1, .int J4_l1), (2, .int J4_l2)] → W p l e { frames := 1, cells := 0, slots := 0, locals := 21 } s m args below meth c H locs 0 0 Q (F0 m 4 ls []) := by
    intro n
    induction n with
    | zero =>
      intro J4_l2 J4_l1 H locs ls hJ4_l2 hm
      exact absurd hm (by have := hJ4_l2; unfold ib at this; omega)
    | succ n ih =>
      intro J4_l2 J4_l1 H locs ls hJ4_l2 hm4 hP hD hS hl
      have ih4 := ih
      have jn34 : ∀ (J34_l1 : Int32) (H : Heap) (locs : List Loc) (ls : Array Slot), ib J4_l2 0 11 → ib x_this_plan_walkers 1 12 → va_P (dC, dI) vwCl [(a_this, .inr (7, [.ref a_this_machine, .ref a_this_plan, .int x_this_day, .ref a_this_trusts, .int x_this_rule, .int x_this_green, .int x_this_absent, .int x_this_asksReds, .ref a_this_cars, .ref a_this_gaps, .ref a_this_known, .ref a_this_left, .ref a_this_leaves, .int x_this_pressed, .int x_this_crossed, .int x_this_went, .int x_this_harmed])), (a_this_plan, .inr (4, [.int x_this_plan_cycle, .int x_this_plan_green, .int x_this_plan_rule, .int x_this_plan_least, .int x_this_plan_away, .int x_this_plan_statements, .int x_this_plan_kinds, .ref a_this_plan_calm, .ref a_this_plan_pace, .ref a_this_plan_trusts, .int x_this_plan_walkers, .ref a_this_plan_kindOf, .ref a_this_plan_comesAt, .ref a_this_plan_comers, .ref a_this_plan_names, .ref a_this_plan_code, .int x_this_plan_size, .ref a_this_plan_spans])), (a_this_leaves, .inl (cy 0, 12, .inl g_this_leaves)), (a_this_plan_comesAt, .inl (cy 0, 12, .inl g_this_plan_comesAt))] H → va_D A [(a_this, .inr (7, [.ref a_this_machine, .ref a_this_plan, .int x_this_day, .ref a_this_trusts, .int x_this_rule, .int x_this_green, .int x_this_absent, .int x_this_asksReds, .ref a_this_cars, .ref a_this_gaps, .ref a_this_known, .ref a_this_left, .ref a_this_leaves, .int x_this_pressed, .int x_this_crossed, .int x_this_went, .int x_this_harmed])), (a_this_plan, .inr (4, [.int x_this_plan_cycle, .int x_this_plan_green, .int x_this_plan_rule, .int x_this_plan_least, .int x_this_plan_away, .int x_this_plan_statements, .int x_this_plan_kinds, .ref a_this_plan_calm, .ref a_this_plan_pace, .ref a_this_plan_trusts, .int x_this_plan_walkers, .ref a_this_plan_kindOf, .ref a_this_plan_comesAt, .ref a_this_plan_comers, .ref a_this_plan_names, .ref a_this_plan_code, .int x_this_plan_size, .ref a_this_plan_spans])), (a_this_leaves, .inl (cy 0, 12, .inl g_this_leaves)), (a_this_plan_comesAt, .inl (cy 0, 12, .inl g_this_plan_comesAt))] → va_S A s.heap H locs → lv_has ls 3 [(0, .ref a_this), (1, .int J34_l1), (2, .int J4_l2)] → W p l e { frames := 1, cells := 0, slots := 0, locals := 21 } s m args below meth c H locs 0 0 Q (F0 m 34 ls []) := by
        intro J34_l1 H locs ls hJ34_l2 hJ34_c1_10 hP hD hS hl
        obtain ⟨z500, ez500⟩ : ∃ y : Int32, y = J4_l2 + 1 := ⟨_, rfl⟩
        refine lv_iinc (v := z500) (lv' := [(2, .int z500), (0, .ref a_this), (1, .int J34_l1)]) hx hb dX7_waitedByAll_34 hl (k := 2) rfl (by rw [ez500]; rfl) (by decide) rfl (fun ls hl => ?_)
        have h501 := ib_add hJ34_l2 (ib_c 1 1 1 (by decide)) (by decide)
        rw [← ez500] at h501
        have h502 : ib z500 1 12 := ib_w 1 12 h501.1 (by decide)
        refine lv_goto (tgt := 4) hx hb dX7_waitedByAll_37 (by decide) ?_
        exact ih4 z500 J34_l1 H locs ls (ib_w 0 12 h502 (by decide)) (by have := h501.2; have : (1 : Int32).toInt = 1 := (by decide); omega) hP hD hS (lv_sub hl [1, 2, 0] rfl)
      refine lv_iload_n hx hb dX7_waitedByAll_4 rfl (lv_at hl 2 rfl) ?_
      refine lv_aload_n hx hb dX7_waitedByAll_5 rfl (lv_at hl 0 rfl) ?_
      refine k_get C0 fg_X7_63 hP 0 rfl rfl dX7_waitedByAll_6 ?_
      refine k_get C0 fg_X7_137 hP 1 rfl rfl dX7_waitedByAll_9 ?_
      refine lv_icmp_ge (tgt := 40) hx hb dX7_waitedByAll_12 (by decide) (fun c503 => ?_) (fun c503 => ?_)
      · have h504 := ib_le hx_this_plan_walkers hJ4_l2 c503
        refine lv_iload_n hx hb dX7_waitedByAll_40 rfl (lv_at hl 1 rfl) ?_
        subst hQ; exact k_iret hx hb hr hlk rfl () hS True.intro hP hD (Nat.le_of_ble_eq_true rfl) (Nat.le_of_ble_eq_true rfl) dX7_waitedByAll_41
      · have h505 := ib_nle hx_this_plan_walkers hJ4_l2 c503
        have h506 : ib x_this_plan_walkers 1 12 := ib_w 1 12 h505.1 (by decide)
        have h507 : ib J4_l2 0 11 := ib_w 0 11 h505.2 (by decide)
        refine lv_aload_n hx hb dX7_waitedByAll_15 rfl (lv_at hl 0 rfl) ?_
        refine k_get C0 fg_X7_25 hP 0 rfl rfl dX7_waitedByAll_16 ?_
        refine lv_iload_n hx hb dX7_waitedByAll_19 rfl (lv_at hl 2 rfl) ?_
        refine lv_ishr hx hb dX7_waitedByAll_20 ?_
        refine lv_topi (fun z508 ez508 => ?_)
        refine lv_iconst (v := 1) hx hb dX7_waitedByAll_21 (by decide) ?_
        refine lv_iand hx hb dX7_waitedByAll_22 ?_
        refine lv_topi (fun z509 ez509 => ?_)
        have h510 : ib z509 0 1 := by rw [ez509]; exact ib_and 1 (by decide) (by decide) 1 (by decide)
        refine lv_if_ne (tgt := 34) hx hb dX7_waitedByAll_23 (by decide) (fun c511 => ?_) (fun c511 => ?_)
        · have h512 : ib z509 1 1 := ib_w 1 1 (ib_ne_lo 0 h510 (by decide) c511) (by decide)
          obtain ⟨z513, ez513⟩ : ∃ y : Int32, y = J4_l2 + 1 := ⟨_, rfl⟩
          refine lv_iinc (v := z513) (lv' := [(2, .int z513), (0, .ref a_this), (1, .int J4_l1)]) hx hb dX7_waitedByAll_34 hl (k := 2) rfl (by rw [ez513]; rfl) (by decide) rfl (fun ls hl => ?_)
          have h514 := ib_add h507 (ib_c 1 1 1 (by decide)) (by decide)
          rw [← ez513] at h514
          have h515 : ib z513 1 12 := ib_w 1 12 h514.1 (by decide)
          refine lv_goto (tgt := 4) hx hb dX7_waitedByAll_37 (by decide) ?_
          exact ih4 z513 J4_l1 H locs ls (ib_w 0 12 h515 (by decide)) (by have := h514.2; have : (1 : Int32).toInt = 1 := (by decide); omega) hP hD hS (lv_sub hl [1, 2, 0] rfl)
        · have h516 := ib_eq h510 (ib_c 0 0 0 (by decide)) c511
          have h517 : ib z509 0 0 := ib_w 0 0 h516.1 (by decide)
          refine lv_iload_n hx hb dX7_waitedByAll_26 rfl (lv_at hl 1 rfl) ?_
          refine lv_aload_n hx hb dX7_waitedByAll_27 rfl (lv_at hl 0 rfl) ?_
          refine lv_iload_n hx hb dX7_waitedByAll_28 rfl (lv_at hl 2 rfl) ?_
          refine k_ji hP hD hS hA [0, 2, 1, 3] [] (wr := []) rfl rfl (by decide) (by decide) (by decide) 0 0 (Nat.le_of_ble_eq_true rfl) (Nat.le_of_ble_eq_true rfl) (fun hPc hDc => k_runV (As := [.int J4_l2]) (rest := [.int J4_l1]) C0 (s_X7_waitedBy l dC dI cy sq a_this a_this_machine a_this_plan x_this_plan_cycle x_this_plan_green x_this_plan_rule x_this_plan_least x_this_plan_away x_this_plan_statements x_this_plan_kinds a_this_plan_calm a_this_plan_pace a_this_plan_trusts x_this_plan_walkers a_this_plan_kindOf a_this_plan_comesAt g_this_plan_comesAt a_this_plan_comers a_this_plan_names a_this_plan_code x_this_plan_size a_this_plan_spans x_this_day a_this_trusts x_this_rule x_this_green x_this_absent x_this_asksReds a_this_cars a_this_gaps a_this_known a_this_left a_this_leaves g_this_leaves x_this_pressed x_this_crossed x_this_went x_this_harmed J4_l2 (ib_w 0 120 hx_this_plan_cycle (by decide)) (ib_w 0 99 hx_this_plan_least (by decide)) (ib_w 0 81 hx_this_plan_statements (by decide)) (ib_w 0 6 hx_this_plan_kinds (by decide)) (ib_w 0 12 h506 (by decide)) hg_this_plan_comesAt (ib_w 0 1600 hx_this_plan_size (by decide)) (ib_w 0 1 hx_this_asksReds (by decide)) (ib_w 0 11 h507 (by decide))) mV_X7_163 hPc hDc rfl rfl rfl hl rfl rfl (Nat.le_of_ble_eq_true rfl) ⟨(Nat.le_of_ble_eq_true rfl), (Nat.le_of_ble_eq_true rfl)⟩ ⟨(Nat.le_of_ble_eq_true rfl), (Nat.le_of_ble_eq_true rfl)⟩ dX7_waitedByAll_29) (fun r518 u519 H locs hw hP hD hS => ?_)
          try dsimp only at hP hD hw
          have hP : va_P (dC, dI) vwCl [(a_this, .inr (7, [.ref a_this_machine, .ref a_this_plan, .int x_this_day, .ref a_this_trusts, .int x_this_rule, .int x_this_green, .int x_this_absent, .int x_this_asksReds, .ref a_this_cars, .ref a_this_gaps, .ref a_this_known, .ref a_this_left, .ref a_this_leaves, .int x_this_pressed, .int x_this_crossed, .int x_this_went, .int x_this_harmed])), (a_this_leaves, .inl (cy 0, 12, .inl g_this_leaves)), (a_this_plan, .inr (4, [.int x_this_plan_cycle, .int x_this_plan_green, .int x_this_plan_rule, .int x_this_plan_least, .int x_this_plan_away, .int x_this_plan_statements, .int x_this_plan_kinds, .ref a_this_plan_calm, .ref a_this_plan_pace, .ref a_this_plan_trusts, .int x_this_plan_walkers, .ref a_this_plan_kindOf, .ref a_this_plan_comesAt, .ref a_this_plan_comers, .ref a_this_plan_names, .ref a_this_plan_code, .int x_this_plan_size, .ref a_this_plan_spans])), (a_this_plan_comesAt, .inl (cy 0, 12, .inl g_this_plan_comesAt))] H := hP
          have hD : va_D A [(a_this, .inr (7, [.ref a_this_machine, .ref a_this_plan, .int x_this_day, .ref a_this_trusts, .int x_this_rule, .int x_this_green, .int x_this_absent, .int x_this_asksReds, .ref a_this_cars, .ref a_this_gaps, .ref a_this_known, .ref a_this_left, .ref a_this_leaves, .int x_this_pressed, .int x_this_crossed, .int x_this_went, .int x_this_harmed])), (a_this_leaves, .inl (cy 0, 12, .inl g_this_leaves)), (a_this_plan, .inr (4, [.int x_this_plan_cycle, .int x_this_plan_green, .int x_this_plan_rule, .int x_this_plan_least, .int x_this_plan_away, .int x_this_plan_statements, .int x_this_plan_kinds, .ref a_this_plan_calm, .ref a_this_plan_pace, .ref a_this_plan_trusts, .int x_this_plan_walkers, .ref a_this_plan_kindOf, .ref a_this_plan_comesAt, .ref a_this_plan_comers, .ref a_this_plan_names, .ref a_this_plan_code, .int x_this_plan_size, .ref a_this_plan_spans])), (a_this_plan_comesAt, .inl (cy 0, 12, .inl g_this_plan_comesAt))] := hD
          refine lv_iadd hx hb dX7_waitedByAll_32 ?_
          refine lv_topi (fun z520 ez520 => ?_)
          refine lv_istore_n (lv' := [(1, .int z520), (0, .ref a_this), (2, .int J4_l2)]) hx hb dX7_waitedByAll_33 rfl hl (by decide) rfl (fun ls hl => ?_)
          exact jn34 z520 H locs ls (ib_w 0 11 h507 (by decide)) (ib_w 1 12 h506 (by decide)) (hP.sub [0, 2, 1, 3] rfl) (hD.sub [0, 2, 1, 3] (by decide) rfl) hS (lv_sub hl [1, 0, 2] rfl)
  refine lv_iconst (v := 0) hx hb dX7_waitedByAll_0 (by decide) ?_
  refine lv_istore_n (lv' := [(1, .int 0), (0, .ref a_this)]) hx hb dX7_waitedByAll_1 rfl hl (by decide) rfl (fun ls hl => ?_)
  refine lv_iconst (v := 0) hx hb dX7_waitedByAll_2 (by decide) ?_
  refine lv_istore_n (lv' := [(2, .int 0), (1, .int 0), (0, .ref a_this)]) hx hb dX7_waitedByAll_3 rfl hl (by decide) rfl (fun ls hl => ?_)
  exact jn4 14 0 0 H locs ls (ib_w 0 12 (ib_c 0 0 0 (by decide)) (by decide)) (by have := (ib_c 0 0 0 (by decide)); unfold ib at this; omega) hP hD hS (lv_sub hl [2, 1, 0] rfl)
set_option maxHeartbeats 4000000 in
set_option maxRecDepth 100000 in
theorem s_J6_bitCount_0f7a4 (l : Launch) (dC : Nat → ClassId) (dI : Nat → Nat → Nat) (cy : Nat → ClassId) (sq : Nat → Nat) (p0 : Int32)  : k_Met l yJ6_bitCount_0f7a4 cJ6_bitCount_0f7a4 1 (some .int) { frames := 0, cells := 0, slots := 0, locals := 0 } dC dI cy sq [.int p0] [] (k_Qi dC dI (fun (r : Int32) (_ : Unit) => ib r 0 63) (fun _ : Unit => [])) := by
  refine k_ofW2 (by decide +kernel) (Nat.le_of_ble_eq_true rfl) ?_
  intro p e s m below meth c A ls H locs args Q hQ C0 hr hlk hin hP hD hA hS hl
  have C0 : k_cx p s m args c cJ6_bitCount_0f7a4 1 RJ6 dC dI cy sq := C0
  have hx := C0.1
  have hb := C0.2.1
  have hl : lv_has ls 1 [(0, .int p0)] := hl
  refine lv_iload_n hx hb dJ6_bitCount_0f7a4_0 rfl (lv_at hl 0 rfl) ?_
  refine lv_iload_n hx hb dJ6_bitCount_0f7a4_1 rfl (lv_at hl 0 rfl) ?_
  refine lv_iconst (v := 1) hx hb dJ6_bitCount_0f7a4_2 (by decide) ?_
  refine lv_iushr hx hb dJ6_bitCount_0f7a4_3 rfl ?_
  refine lv_topi (fun z683 ez683 => ?_)
  refine lv_ldcw hx hb C0.2.2.2.1 (C0.2.2.2.2.1 _ wd1031) dJ6_bitCount_0f7a4_4 ?_
  refine lv_iand hx hb dJ6_bitCount_0f7a4_7 ?_
  refine lv_topi (fun z684 ez684 => ?_)
  refine lv_isub hx hb dJ6_bitCount_0f7a4_8 ?_
  refine lv_topi (fun z685 ez685 => ?_)
  refine lv_istore_n (lv' := [(0, .int z685)]) hx hb dJ6_bitCount_0f7a4_9 rfl hl (by decide) rfl (fun ls hl => ?_)
  refine lv_iload_n hx hb dJ6_bitCount_0f7a4_10 rfl (lv_at hl 0 rfl) ?_
  refine lv_ldcw hx hb C0.2.2.2.1 (C0.2.2.2.2.1 _ wd1032) dJ6_bitCount_0f7a4_11 ?_
  refine lv_iand hx hb dJ6_bitCount_0f7a4_14 ?_
  refine lv_topi (fun z686 ez686 => ?_)
  refine lv_iload_n hx hb dJ6_bitCount_0f7a4_15 rfl (lv_at hl 0 rfl) ?_
  refine lv_iconst (v := 2) hx hb dJ6_bitCount_0f7a4_16 (by decide) ?_
  refine lv_iushr hx hb dJ6_bitCount_0f7a4_17 rfl ?_
  refine lv_topi (fun z687 ez687 => ?_)
  refine lv_ldcw hx hb C0.2.2.2.1 (C0.2.2.2.2.1 _ wd1032) dJ6_bitCount_0f7a4_18 ?_
  refine lv_iand hx hb dJ6_bitCount_0f7a4_21 ?_
  refine lv_topi (fun z688 ez688 => ?_)
  refine lv_iadd hx hb dJ6_bitCount_0f7a4_22 ?_
  refine lv_topi (fun z689 ez689 => ?_)
  refine lv_istore_n (lv' := [(0, .int z689)]) hx hb dJ6_bitCount_0f7a4_23 rfl hl (by decide) rfl (fun ls hl => ?_)
  refine lv_iload_n hx hb dJ6_bitCount_0f7a4_24 rfl (lv_at hl 0 rfl) ?_
  refine lv_iload_n hx hb dJ6_bitCount_0f7a4_25 rfl (lv_at hl 0 rfl) ?_
  refine lv_iconst (v := 4) hx hb dJ6_bitCount_0f7a4_26 (by decide) ?_
  refine lv_iushr hx hb dJ6_bitCount_0f7a4_27 rfl ?_
  refine lv_topi (fun z690 ez690 => ?_)
  refine lv_iadd hx hb dJ6_bitCount_0f7a4_28 ?_
  refine lv_topi (fun z691 ez691 => ?_)
  refine lv_ldcw hx hb C0.2.2.2.1 (C0.2.2.2.2.1 _ wd1033) dJ6_bitCount_0f7a4_29 ?_
  refine lv_iand hx hb dJ6_bitCount_0f7a4_32 ?_
  refine lv_topi (fun z692 ez692 => ?_)
  refine lv_istore_n (lv' := [(0, .int z692)]) hx hb dJ6_bitCount_0f7a4_33 rfl hl (by decide) rfl (fun ls hl => ?_)
  refine lv_iload_n hx hb dJ6_bitCount_0f7a4_34 rfl (lv_at hl 0 rfl) ?_
  refine lv_iload_n hx hb dJ6_bitCount_0f7a4_35 rfl (lv_at hl 0 rfl) ?_
  refine lv_bipush (v := 8) hx hb dJ6_bitCount_0f7a4_36 (by decide) ?_
  refine lv_iushr hx hb dJ6_bitCount_0f7a4_38 rfl ?_
  refine lv_topi (fun z693 ez693 => ?_)
  refine lv_iadd hx hb dJ6_bitCount_0f7a4_39 ?_
  refine lv_topi (fun z694 ez694 => ?_)
  refine lv_istore_n (lv' := [(0, .int z694)]) hx hb dJ6_bitCount_0f7a4_40 rfl hl (by decide) rfl (fun ls hl => ?_)
  refine lv_iload_n hx hb dJ6_bitCount_0f7a4_41 rfl (lv_at hl 0 rfl) ?_
  refine lv_iload_n hx hb dJ6_bitCount_0f7a4_42 rfl (lv_at hl 0 rfl) ?_
  refine lv_bipush (v := 16) hx hb dJ6_bitCount_0f7a4_43 (by decide) ?_
  refine lv_iushr hx hb dJ6_bitCount_0f7a4_45 rfl ?_
  refine lv_topi (fun z695 ez695 => ?_)
  refine lv_iadd hx hb dJ6_bitCount_0f7a4_46 ?_
  refine lv_topi (fun z696 ez696 => ?_)
  refine lv_istore_n (lv' := [(0, .int z696)]) hx hb dJ6_bitCount_0f7a4_47 rfl hl (by decide) rfl (fun ls hl => ?_)
  refine lv_iload_n hx hb dJ6_bitCount_0f7a4_48 rfl (lv_at hl 0 rfl) ?_
  refine lv_bipush (v := 63) hx hb dJ6_bitCount_0f7a4_49 (by decide) ?_
  refine lv_iand hx hb dJ6_bitCount_0f7a4_51 ?_
  refine lv_topi (fun z697 ez697 => ?_)
  have h698 : ib z697 0 63 := by rw [ez697]; exact ib_and 6 (by decide) (by decide) 63 (by decide)
  subst hQ; exact k_iret hx hb hr hlk rfl () hS (ib_w 0 63 h698 (by decide)) hP hD (Nat.le_of_ble_eq_true rfl) (Nat.le_of_ble_eq_true rfl) dJ6_bitCount_0f7a4_52
set_option maxHeartbeats 4000000 in
set_option maxRecDepth 100000 in
theorem s_X4_everyone (l : Launch) (dC : Nat → ClassId) (dI : Nat → Nat → Nat) (cy : Nat → ClassId) (sq : Nat → Nat) (a_this : Nat) (x_this_cycle : Int32) (x_this_green : Int32) (x_this_rule : Int32) (x_this_least : Int32) (x_this_away : Int32) (x_this_statements : Int32) (x_this_kinds : Int32) (a_this_calm : Nat) (a_this_pace : Nat) (a_this_trusts : Nat) (x_this_walkers : Int32) (a_this_kindOf : Nat) (a_this_comesAt : Nat) (a_this_comers : Nat) (a_this_names : Nat) (a_this_code : Nat) (x_this_size : Int32) (a_this_spans : Nat) (hx_this_cycle : ib x_this_cycle 0 120) (hx_this_least : ib x_this_least 0 99) (hx_this_statements : ib x_this_statements 0 81) (hx_this_kinds : ib x_this_kinds 0 6) (hx_this_walkers : ib x_this_walkers 0 12) (hx_this_size : ib x_this_size 0 1600) : k_Met l yX4_everyone cX4_everyone 1 (some .int) { frames := 0, cells := 0, slots := 0, locals := 0 } dC dI cy sq [.ref a_this] [(a_this, .inr (4, [.int x_this_cycle, .int x_this_green, .int x_this_rule, .int x_this_least, .int x_this_away, .int x_this_statements, .int x_this_kinds, .ref a_this_calm, .ref a_this_pace, .ref a_this_trusts, .int x_this_walkers, .ref a_this_kindOf, .ref a_this_comesAt, .ref a_this_comers, .ref a_this_names, .ref a_this_code, .int x_this_size, .ref a_this_spans]))] (k_Qi dC dI (fun (r : Int32) (_ : Unit) => True) (fun _ : Unit => [(a_this, .inr (4, [.int x_this_cycle, .int x_this_green, .int x_this_rule, .int x_this_least, .int x_this_away, .int x_this_statements, .int x_this_kinds, .ref a_this_calm, .ref a_this_pace, .ref a_this_trusts, .int x_this_walkers, .ref a_this_kindOf, .ref a_this_comesAt, .ref a_this_comers, .ref a_this_names, .ref a_this_code, .int x_this_size, .ref a_this_spans]))])) := by
  refine k_ofW2 (by decide +kernel) (Nat.le_of_ble_eq_true rfl) ?_
  intro p e s m below meth c A ls H locs args Q hQ C0 hr hlk hin hP hD hA hS hl
  have C0 : k_cx p s m args c cX4_everyone 1 RX4 dC dI cy sq := C0
  have hx := C0.1
  have hb := C0.2.1
  have hl : lv_has ls 1 [(0, .ref a_this)] := hl
  refine lv_iconst (v := 1) hx hb dX4_everyone_0 (by decide) ?_
  refine lv_aload_n hx hb dX4_everyone_1 rfl (lv_at hl 0 rfl) ?_
  refine k_get C0 fg_X4_52 hP 0 rfl rfl dX4_everyone_2 ?_
  refine lv_ishl hx hb dX4_everyone_5 ?_
  refine lv_topi (fun z725 ez725 => ?_)
  refine lv_iconst (v := 1) hx hb dX4_everyone_6 (by decide) ?_
  refine lv_isub hx hb dX4_everyone_7 ?_
  refine lv_topi (fun z726 ez726 => ?_)
  subst hQ; exact k_iret hx hb hr hlk rfl () hS True.intro hP hD (Nat.le_of_ble_eq_true rfl) (Nat.le_of_ble_eq_true rfl) dX4_everyone_8
set_option maxHeartbeats 4000000 in
set_option maxRecDepth 100000 in
theorem s_X7_someoneCrosses (l : Launch) (dC : Nat → ClassId) (dI : Nat → Nat → Nat) (cy : Nat → ClassId) (sq : Nat → Nat) (a_this : Nat) (a_this_machine : Nat) (a_this_plan : Nat) (x_this_plan_cycle : Int32) (x_this_plan_green : Int32) (x_this_plan_rule : Int32) (x_this_plan_least : Int32) (x_this_plan_away : Int32) (x_this_plan_statements : Int32) (x_this_plan_kinds : Int32) (a_this_plan_calm : Nat) (a_this_plan_pace : Nat) (a_this_plan_trusts : Nat) (x_this_plan_walkers : Int32) (a_this_plan_kindOf : Nat) (a_this_plan_comesAt : Nat) (a_this_plan_comers : Nat) (a_this_plan_names : Nat) (a_this_plan_code : Nat) (x_this_plan_size : Int32) (a_this_plan_spans : Nat) (x_this_day : Int32) (a_this_trusts : Nat) (x_this_rule : Int32) (x_this_green : Int32) (x_this_absent : Int32) (x_this_asksReds : Int32) (a_this_cars : Nat) (a_this_gaps : Nat) (a_this_known : Nat) (a_this_left : Nat) (a_this_leaves : Nat) (g_this_leaves : Nat → Int32) (x_this_pressed : Int32) (x_this_crossed : Int32) (x_this_went : Int32) (x_this_harmed : Int32) (p0 : Int32) (hx_this_plan_cycle : ib x_this_plan_cycle 0 120) (hx_this_plan_least : ib x_this_plan_least 0 99) (hx_this_plan_statements : ib x_this_plan_statements 0 81) (hx_this_plan_kinds : ib x_this_plan_kinds 0 6) (hx_this_plan_walkers : ib x_this_plan_walkers 0 12) (hx_this_plan_size : ib x_this_plan_size 0 1600) (hx_this_asksReds : ib x_this_asksReds 0 1) : k_Met l yX7_someoneCrosses cX7_someoneCrosses 3 (some .boolean) { frames := 0, cells := 0, slots := 0, locals := 0 } dC dI cy sq [.ref a_this, .int p0] [(a_this, .inr (7, [.ref a_this_machine, .ref a_this_plan, .int x_this_day, .ref a_this_trusts, .int x_this_rule, .int x_this_green, .int x_this_absent, .int x_this_asksReds, .ref a_this_cars, .ref a_this_gaps, .ref a_this_known, .ref a_this_left, .ref a_this_leaves, .int x_this_pressed, .int x_this_crossed, .int x_this_went, .int x_this_harmed])), (a_this_plan, .inr (4, [.int x_this_plan_cycle, .int x_this_plan_green, .int x_this_plan_rule, .int x_this_plan_least, .int x_this_plan_away, .int x_this_plan_statements, .int x_this_plan_kinds, .ref a_this_plan_calm, .ref a_this_plan_pace, .ref a_this_plan_trusts, .int x_this_plan_walkers, .ref a_this_plan_kindOf, .ref a_this_plan_comesAt, .ref a_this_plan_comers, .ref a_this_plan_names, .ref a_this_plan_code, .int x_this_plan_size, .ref a_this_plan_spans])), (a_this_leaves, .inl (cy 0, 12, .inl g_this_leaves))] (k_Qi dC dI (fun (r : Int32) (_ : Unit) => ib r 0 1 ∧ (¬ r = 0 → ib x_this_plan_walkers 1 12)) (fun _ : Unit => [(a_this, .inr (7, [.ref a_this_machine, .ref a_this_plan, .int x_this_day, .ref a_this_trusts, .int x_this_rule, .int x_this_green, .int x_this_absent, .int x_this_asksReds, .ref a_this_cars, .ref a_this_gaps, .ref a_this_known, .ref a_this_left, .ref a_this_leaves, .int x_this_pressed, .int x_this_crossed, .int x_this_went, .int x_this_harmed])), (a_this_plan, .inr (4, [.int x_this_plan_cycle, .int x_this_plan_green, .int x_this_plan_rule, .int x_this_plan_least, .int x_this_plan_away, .int x_this_plan_statements, .int x_this_plan_kinds, .ref a_this_plan_calm, .ref a_this_plan_pace, .ref a_this_plan_trusts, .int x_this_plan_walkers, .ref a_this_plan_kindOf, .ref a_this_plan_comesAt, .ref a_this_plan_comers, .ref a_this_plan_names, .ref a_this_plan_code, .int x_this_plan_size, .ref a_this_plan_spans])), (a_this_leaves, .inl (cy 0, 12, .inl g_this_leaves))])) := by
  refine k_ofW2 (by decide +kernel) (Nat.le_of_ble_eq_true rfl) ?_
  intro p e s m below meth c A ls H locs args Q hQ C0 hr hlk hin hP hD hA hS hl
  have C0 : k_cx p s m args c cX7_someoneCrosses 3 RX7 dC dI cy sq := C0
  have hx := C0.1
  have hb := C0.2.1
  have hl : lv_has ls 3 [(0, .ref a_this), (1, .int p0)] := hl
  have jn2 : ∀ (n : Nat) (J2_l2 : Int32) (H : Heap) (locs : List Loc) (ls : Array Slot), ib J2_l2 0 12 → 13 ≤ J2_l2.toInt + (n : Int) → va_P (dC, dI) vwCl [(a_this, .inr (7, [.ref a_this_machine, .ref a_this_plan, .int x_this_day, .ref a_this_trusts, .int x_this_rule, .int x_this_green, .int x_this_absent, .int x_this_asksReds, .ref a_this_cars, .ref a_this_gaps, .ref a_this_known, .ref a_this_left, .ref a_this_leaves, .int x_this_pressed, .int x_this_crossed, .int x_this_went, .int x_this_harmed])), (a_this_plan, .inr (4, [.int x_this_plan_cycle, .int x_this_plan_green, .int x_this_plan_rule, .int x_this_plan_least, .int x_this_plan_away, .int x_this_plan_statements, .int x_this_plan_kinds, .ref a_this_plan_calm, .ref a_this_plan_pace, .ref a_this_plan_trusts, .int x_this_plan_walkers, .ref a_this_plan_kindOf, .ref a_this_plan_comesAt, .ref a_this_plan_comers, .ref a_this_plan_names, .ref a_this_plan_code, .int x_this_plan_size, .ref a_this_plan_spans])), (a_this_leaves, .inl (cy 0, 12, .inl g_this_leaves))] H → va_D A [(a_this, .inr (7, [.ref a_this_machine, .ref a_this_plan, .int x_this_day, .ref a_this_trusts, .int x_this_rule, .int x_this_green, .int x_this_absent, .int x_this_asksReds, .ref a_this_cars, .ref a_this_gaps, .ref a_this_known, .ref a_this_left, .ref a_this_leaves, .int x_this_pressed, .int x_this_crossed, .int x_this_went, .int x_this_harmed])), (a_this_plan, .inr (4, [.int x_this_plan_cycle, .int x_this_plan_green, .int x_this_plan_rule, .int x_this_plan_least, .int x_this_plan_away, .int x_this_plan_statements, .int x_this_plan_kinds, .ref a_this_plan_calm, .ref a_this_plan_pace, .ref a_this_plan_trusts, .int x_this_plan_walkers, .ref a_this_plan_kindOf, .ref a_this_plan_comesAt, .ref a_this_plan_comers, .ref a_this_plan_names, .ref a_this_plan_code, .int x_this_plan_size, .ref a_this_plan_spans])), (a_this_leaves, .inl (cy 0, 12, .inl g_this_leaves))] → va_S A s.heap H locs → lv_has ls 3 [(0, .ref a_this), (1, .int p0), (2, .int J2_l2)] → W p l e { frames := 0, cells := 0, slots := 0, locals := 0 } s m args below meth c H locs 0 0 Q (F0 m 2 ls []) := by
    intro n
    induction n with
    | zero =>
      intro J2_l2 H locs ls hJ2_l2 hm
      exact absurd hm (by have := hJ2_l2; unfold ib at this; omega)
    | succ n ih =>
      intro J2_l2 H locs ls hJ2_l2 hm2 hP hD hS hl
      have ih2 := ih
      refine lv_iload_n hx hb dX7_someoneCrosses_2 rfl (lv_at hl 2 rfl) ?_
      refine lv_aload_n hx hb dX7_someoneCrosses_3 rfl (lv_at hl 0 rfl) ?_
      refine k_get C0 fg_X7_63 hP 0 rfl rfl dX7_someoneCrosses_4 ?_
      refine k_get C0 fg_X7_137 hP 1 rfl rfl dX7_someoneCrosses_7 ?_
      refine lv_icmp_ge (tgt := 43) hx hb dX7_someoneCrosses_10 (by decide) (fun c1119 => ?_) (fun c1119 => ?_)
      · have h1120 := ib_le hx_this_plan_walkers hJ2_l2 c1119
        refine lv_iconst (v := 0) hx hb dX7_someoneCrosses_43 (by decide) ?_
        subst hQ; exact k_iret hx hb hr hlk (k_nb 0 (by decide)) () hS ⟨ib_w 0 1 (ib_c 0 0 0 (by decide)) (by decide), fun h9 => absurd rfl h9⟩ hP hD (Nat.le_of_ble_eq_true rfl) (Nat.le_of_ble_eq_true rfl) dX7_someoneCrosses_44
      · have h1121 := ib_nle hx_this_plan_walkers hJ2_l2 c1119
        have h1122 : ib x_this_plan_walkers 1 12 := ib_w 1 12 h1121.1 (by decide)
        have h1123 : ib J2_l2 0 11 := ib_w 0 11 h1121.2 (by decide)
        refine lv_aload_n hx hb dX7_someoneCrosses_13 rfl (lv_at hl 0 rfl) ?_
        refine k_get C0 fg_X7_44 hP 0 rfl rfl dX7_someoneCrosses_14 ?_
        refine lv_iload_n hx hb dX7_someoneCrosses_17 rfl (lv_at hl 2 rfl) ?_
        refine va_iald hx hb C0.2.2.2.2.2.1 hP 2 0 rfl rfl (ib_in 12 h1123 (by decide)) dX7_someoneCrosses_18 ?_
        refine lv_topi (fun z1124 ez1124 => ?_)
        refine lv_iload_n hx hb dX7_someoneCrosses_19 rfl (lv_at hl 1 rfl) ?_
        refine lv_icmp_ne (tgt := 37) hx hb dX7_someoneCrosses_20 (by decide) (fun c1125 => ?_) (fun c1125 => ?_)
        · skip
          obtain ⟨z1126, ez1126⟩ : ∃ y : Int32, y = J2_l2 + 1 := ⟨_, rfl⟩
          refine lv_iinc (v := z1126) (lv' := [(2, .int z1126), (0, .ref a_this), (1, .int p0)]) hx hb dX7_someoneCrosses_37 hl (k := 2) rfl (by rw [ez1126]; rfl) (by decide) rfl (fun ls hl => ?_)
          have h1127 := ib_add h1123 (ib_c 1 1 1 (by decide)) (by decide)
          rw [← ez1126] at h1127
          have h1128 : ib z1126 1 12 := ib_w 1 12 h1127.1 (by decide)
          refine lv_goto (tgt := 2) hx hb dX7_someoneCrosses_40 (by decide) ?_
          exact ih2 z1126 H locs ls (ib_w 0 12 h1128 (by decide)) (by have := h1127.2; have : (1 : Int32).toInt = 1 := (by decide); omega) hP hD hS (lv_sub hl [1, 2, 0] rfl)
        · have h1129 := ib_eq (ib_any z1124) (ib_any p0) c1125
          refine lv_aload_n hx hb dX7_someoneCrosses_23 rfl (lv_at hl 0 rfl) ?_
          refine k_get C0 fg_X7_50 hP 0 rfl rfl dX7_someoneCrosses_24 ?_
          refine lv_iload_n hx hb dX7_someoneCrosses_27 rfl (lv_at hl 2 rfl) ?_
          refine lv_ishr hx hb dX7_someoneCrosses_28 ?_
          refine lv_topi (fun z1130 ez1130 => ?_)
          refine lv_iconst (v := 1) hx hb dX7_someoneCrosses_29 (by decide) ?_
          refine lv_iand hx hb dX7_someoneCrosses_30 ?_
          refine lv_topi (fun z1131 ez1131 => ?_)
          have h1132 : ib z1131 0 1 := by rw [ez1131]; exact ib_and 1 (by decide) (by decide) 1 (by decide)
          refine lv_iconst (v := 1) hx hb dX7_someoneCrosses_31 (by decide) ?_
          refine lv_icmp_ne (tgt := 37) hx hb dX7_someoneCrosses_32 (by decide) (fun c1133 => ?_) (fun c1133 => ?_)
          · have h1134 : ib z1131 0 0 := ib_w 0 0 (ib_ne_hi 1 h1132 (by decide) c1133) (by decide)
            obtain ⟨z1135, ez1135⟩ : ∃ y : Int32, y = J2_l2 + 1 := ⟨_, rfl⟩
            refine lv_iinc (v := z1135) (lv' := [(2, .int z1135), (0, .ref a_this), (1, .int p0)]) hx hb dX7_someoneCrosses_37 hl (k := 2) rfl (by rw [ez1135]; rfl) (by decide) rfl (fun ls hl => ?_)
            have h1136 := ib_add h1123 (ib_c 1 1 1 (by decide)) (by decide)
            rw [← ez1135] at h1136
            have h1137 : ib z1135 1 12 := ib_w 1 12 h1136.1 (by decide)
            refine lv_goto (tgt := 2) hx hb dX7_someoneCrosses_40 (by decide) ?_
            exact ih2 z1135 H locs ls (ib_w 0 12 h1137 (by decide)) (by have := h1136.2; have : (1 : Int32).toInt = 1 := (by decide); omega) hP hD hS (lv_sub hl [1, 2, 0] rfl)
          · have h1138 := ib_eq h1132 (ib_c 1 1 1 (by decide)) c1133
            have h1139 : ib z1131 1 1 := ib_w 1 1 h1138.1 (by decide)
            refine lv_iconst (v := 1) hx hb dX7_someoneCrosses_35 (by decide) ?_
            subst hQ; exact k_iret hx hb hr hlk (k_nb 1 (by decide)) () hS ⟨ib_w 0 1 (ib_c 1 1 1 (by decide)) (by decide), fun _ => ib_w 1 12 h1122 (by decide)⟩ hP hD (Nat.le_of_ble_eq_true rfl) (Nat.le_of_ble_eq_true rfl) dX7_someoneCrosses_36
  refine lv_iconst (v := 0) hx hb dX7_someoneCrosses_0 (by decide) ?_
  refine lv_istore_n (lv' := [(2, .int 0), (0, .ref a_this), (1, .int p0)]) hx hb dX7_someoneCrosses_1 rfl hl (by decide) rfl (fun ls hl => ?_)
  exact jn2 14 0 H locs ls (ib_w 0 12 (ib_c 0 0 0 (by decide)) (by decide)) (by have := (ib_c 0 0 0 (by decide)); unfold ib at this; omega) hP hD hS (lv_sub hl [1, 2, 0] rfl)
set_option maxHeartbeats 4000000 in
set_option maxRecDepth 100000 in
theorem s_X7_greensForNobody (l : Launch) (dC : Nat → ClassId) (dI : Nat → Nat → Nat) (cy : Nat → ClassId) (sq : Nat → Nat) (a_this : Nat) (a_this_machine : Nat) (a_this_plan : Nat) (x_this_plan_cycle : Int32) (x_this_plan_green : Int32) (x_this_plan_rule : Int32) (x_this_plan_least : Int32) (x_this_plan_away : Int32) (x_this_plan_statements : Int32) (x_this_plan_kinds : Int32) (a_this_plan_calm : Nat) (a_this_plan_pace : Nat) (a_this_plan_trusts : Nat) (x_this_plan_walkers : Int32) (a_this_plan_kindOf : Nat) (a_this_plan_comesAt : Nat) (a_this_plan_comers : Nat) (a_this_plan_names : Nat) (a_this_plan_code : Nat) (x_this_plan_size : Int32) (a_this_plan_spans : Nat) (x_this_day : Int32) (a_this_trusts : Nat) (x_this_rule : Int32) (x_this_green : Int32) (x_this_absent : Int32) (x_this_asksReds : Int32) (a_this_cars : Nat) (a_this_gaps : Nat) (a_this_known : Nat) (a_this_left : Nat) (g_this_left : Nat → Int32) (a_this_leaves : Nat) (g_this_leaves : Nat → Int32) (x_this_pressed : Int32) (x_this_crossed : Int32) (x_this_went : Int32) (x_this_harmed : Int32) (hx_this_plan_cycle : ib x_this_plan_cycle 0 120) (hx_this_plan_least : ib x_this_plan_least 0 99) (hx_this_plan_statements : ib x_this_plan_statements 0 81) (hx_this_plan_kinds : ib x_this_plan_kinds 0 6) (hx_this_plan_walkers : ib x_this_plan_walkers 0 12) (hx_this_plan_size : ib x_this_plan_size 0 1600) (hx_this_asksReds : ib x_this_asksReds 0 1) : k_Met l yX7_greensForNobody cX7_greensForNobody 5 (some .int) { frames := 1, cells := 0, slots := 0, locals := 22 } dC dI cy sq [.ref a_this] [(a_this, .inr (7, [.ref a_this_machine, .ref a_this_plan, .int x_this_day, .ref a_this_trusts, .int x_this_rule, .int x_this_green, .int x_this_absent, .int x_this_asksReds, .ref a_this_cars, .ref a_this_gaps, .ref a_this_known, .ref a_this_left, .ref a_this_leaves, .int x_this_pressed, .int x_this_crossed, .int x_this_went, .int x_this_harmed])), (a_this_left, .inl (cy 0, 300, .inl g_this_left)), (a_this_plan, .inr (4, [.int x_this_plan_cycle, .int x_this_plan_green, .int x_this_plan_rule, .int x_this_plan_least, .int x_this_plan_away, .int x_this_plan_statements, .int x_this_plan_kinds, .ref a_this_plan_calm, .ref a_this_plan_pace, .ref a_this_plan_trusts, .int x_this_plan_walkers, .ref a_this_plan_kindOf, .ref a_this_plan_comesAt, .ref a_this_plan_comers, .ref a_this_plan_names, .ref a_this_plan_code, .int x_this_plan_size, .ref a_this_plan_spans])), (a_this_leaves, .inl (cy 0, 12, .inl g_this_leaves))] (k_Qi dC dI (fun (r : Int32) (_ : Unit) => True) (fun _ : Unit => [(a_this, .inr (7, [.ref a_this_machine, .ref a_this_plan, .int x_this_day, .ref a_this_trusts, .int x_this_rule, .int x_this_green, .int x_this_absent, .int x_this_asksReds, .ref a_this_cars, .ref a_this_gaps, .ref a_this_known, .ref a_this_left, .ref a_this_leaves, .int x_this_pressed, .int x_this_crossed, .int x_this_went, .int x_this_harmed])), (a_this_left, .inl (cy 0, 300, .inl g_this_left)), (a_this_plan, .inr (4, [.int x_this_plan_cycle, .int x_this_plan_green, .int x_this_plan_rule, .int x_this_plan_least, .int x_this_plan_away, .int x_this_plan_statements, .int x_this_plan_kinds, .ref a_this_plan_calm, .ref a_this_plan_pace, .ref a_this_plan_trusts, .int x_this_plan_walkers, .ref a_this_plan_kindOf, .ref a_this_plan_comesAt, .ref a_this_plan_comers, .ref a_this_plan_names, .ref a_this_plan_code, .int x_this_plan_size, .ref a_this_plan_spans])), (a_this_leaves, .inl (cy 0, 12, .inl g_this_leaves))])) := by
  refine k_ofW2 (by decide +kernel) (Nat.le_of_ble_eq_true rfl) ?_
  intro p e s m below meth c A ls H locs args Q hQ C0 hr hlk hin hP hD hA hS hl
  have C0 : k_cx p s m args c cX7_greensForNobody 5 RX7 dC dI cy sq := C0
  have hx := C0.1
  have hb := C0.2.1
  have hl : lv_has ls 5 [(0, .ref a_this)] := hl
  have jn6 : ∀ (n : Nat) (J6_l3 : Int32) (J6_l1 : Int32) (J6_l2 : Int32) (H : Heap) (locs : List Loc) (ls : Array Slot), ib J6_l3 0 300 → ib J6_l2 0 1 → 301 ≤ J6_l3.toInt + (n : Int) → va_P (dC, dI) vwCl [(a_this, .inr (7, [.ref a_this_machine, .ref a_this_plan, .int x_this_day, .ref a_this_trusts, .int x_this_rule, .int x_this_green, .int x_this_absent, .int x_this_asksReds, .ref a_this_cars, .ref a_this_gaps, .ref a_this_known, .ref a_this_left, .ref a_this_leaves, .int x_this_pressed, .int x_this_crossed, .int x_this_went, .int x_this_harmed])), (a_this_left, .inl (cy 0, 300, .inl g_this_left)), (a_this_plan, .inr (4, [.int x_this_plan_cycle, .int x_this_plan_green, .int x_this_plan_rule, .int x_this_plan_least, .int x_this_plan_away, .int x_this_plan_statements, .int x_this_plan_kinds, .ref a_this_plan_calm, .ref a_this_plan_pace, .ref a_this_plan_trusts, .int x_this_plan_walkers, .ref a_this_plan_kindOf, .ref a_this_plan_comesAt, .ref a_this_plan_comers, .ref a_this_plan_names, .ref a_this_plan_code, .int x_this_plan_size, .ref a_this_plan_spans])), (a_this_leaves, .inl (cy 0, 12, .inl g_this_leaves))] H → va_D A [(a_this, .inr (7, [.ref a_this_machine, .ref a_this_plan, .int x_this_day, .ref a_this_trusts, .int x_this_rule, .int x_this_green, .int x_this_absent, .int x_this_asksReds, .ref a_this_cars, .ref a_this_gaps, .ref a_this_known, .ref a_this_left, .ref a_this_leaves, .int x_this_pressed, .int x_this_crossed, .int x_this_went, .int x_this_harmed])), (a_this_left, .inl (cy 0, 300, .inl g_this_left)), (a_this_plan, .inr (4, [.int x_this_plan_cycle, .int x_this_plan_green, .int x_this_plan_rule, .int x_this_plan_least, .int x_this_plan_away, .int x_this_plan_statements, .int x_this_plan_kinds, .ref a_this_plan_calm, .ref a_this_plan_pace, .ref a_this_plan_trusts, .int x_this_plan_walkers, .ref a_this_plan_kindOf, .ref a_this_plan_comesAt, .ref a_this_plan_comers, .ref a_this_plan_names, .ref a_this_plan_code, .int x_this_plan_size, .ref a_this_plan_spans])), (a_this_leaves, .inl (cy 0, 12, .inl g_this_leaves))] → va_S A s.heap H locs → lv_has ls 5 [(0, .ref a_this), (1, .int J6_l1), (2, .int J6_l2), (3, .int J6_l3)] → W p l e { frames := 1, cells := 0, slots := 0, locals := 22 } s m args below meth c H locs 0 0 Q (F0 m 6 ls []) := by
    intro n
    induction n with
    | zero =>
      intro J6_l3 J6_l1 J6_l2 H locs ls hJ6_l3 hJ6_l2 hm
      exact absurd hm (by have := hJ6_l3; unfold ib at this; omega)
    | succ n ih =>
      intro J6_l3 J6_l1 J6_l2 H locs ls hJ6_l3 hJ6_l2 hm6 hP hD hS hl
      have ih6 := ih
      have jn80 : ∀ (J80_l1 : Int32) (J80_l4 : Int32) (H : Heap) (locs : List Loc) (ls : Array Slot), ib J6_l3 0 299 → ib J80_l4 0 1 → ib x_this_plan_walkers 1 12 → va_P (dC, dI) vwCl [(a_this, .inr (7, [.ref a_this_machine, .ref a_this_plan, .int x_this_day, .ref a_this_trusts, .int x_this_rule, .int x_this_green, .int x_this_absent, .int x_this_asksReds, .ref a_this_cars, .ref a_this_gaps, .ref a_this_known, .ref a_this_left, .ref a_this_leaves, .int x_this_pressed, .int x_this_crossed, .int x_this_went, .int x_this_harmed])), (a_this_left, .inl (cy 0, 300, .inl g_this_left)), (a_this_plan, .inr (4, [.int x_this_plan_cycle, .int x_this_plan_green, .int x_this_plan_rule, .int x_this_plan_least, .int x_this_plan_away, .int x_this_plan_statements, .int x_this_plan_kinds, .ref a_this_plan_calm, .ref a_this_plan_pace, .ref a_this_plan_trusts, .int x_this_plan_walkers, .ref a_this_plan_kindOf, .ref a_this_plan_comesAt, .ref a_this_plan_comers, .ref a_this_plan_names, .ref a_this_plan_code, .int x_this_plan_size, .ref a_this_plan_spans])), (a_this_leaves, .inl (cy 0, 12, .inl g_this_leaves))] H → va_D A [(a_this, .inr (7, [.ref a_this_machine, .ref a_this_plan, .int x_this_day, .ref a_this_trusts, .int x_this_rule, .int x_this_green, .int x_this_absent, .int x_this_asksReds, .ref a_this_cars, .ref a_this_gaps, .ref a_this_known, .ref a_this_left, .ref a_this_leaves, .int x_this_pressed, .int x_this_crossed, .int x_this_went, .int x_this_harmed])), (a_this_left, .inl (cy 0, 300, .inl g_this_left)), (a_this_plan, .inr (4, [.int x_this_plan_cycle, .int x_this_plan_green, .int x_this_plan_rule, .int x_this_plan_least, .int x_this_plan_away, .int x_this_plan_statements, .int x_this_plan_kinds, .ref a_this_plan_calm, .ref a_this_plan_pace, .ref a_this_plan_trusts, .int x_this_plan_walkers, .ref a_this_plan_kindOf, .ref a_this_plan_comesAt, .ref a_this_plan_comers, .ref a_this_plan_names, .ref a_this_plan_code, .int x_this_plan_size, .ref a_this_plan_spans])), (a_this_leaves, .inl (cy 0, 12, .inl g_this_leaves))] → va_S A s.heap H locs → lv_has ls 5 [(0, .ref a_this), (1, .int J80_l1), (2, .int 1), (3, .int J6_l3), (4, .int J80_l4)] → W p l e { frames := 1, cells := 0, slots := 0, locals := 22 } s m args below meth c H locs 0 0 Q (F0 m 80 ls []) := by
        intro J80_l1 J80_l4 H locs ls hJ80_l3 hJ80_l4 hJ80_c2_10 hP hD hS hl
        obtain ⟨z2949, ez2949⟩ : ∃ y : Int32, y = J6_l3 + 1 := ⟨_, rfl⟩
        refine lv_iinc (v := z2949) (lv' := [(3, .int z2949), (0, .ref a_this), (1, .int J80_l1), (2, .int 1), (4, .int J80_l4)]) hx hb dX7_greensForNobody_80 hl (k := 3) rfl (by rw [ez2949]; rfl) (by decide) rfl (fun ls hl => ?_)
        have h2950 := ib_add hJ80_l3 (ib_c 1 1 1 (by decide)) (by decide)
        rw [← ez2949] at h2950
        have h2951 : ib z2949 1 300 := ib_w 1 300 h2950.1 (by decide)
        refine lv_goto (tgt := 6) hx hb dX7_greensForNobody_83 (by decide) ?_
        exact ih6 z2949 J80_l1 1 H locs ls (ib_w 0 300 h2951 (by decide)) (ib_w 0 1 (ib_c 1 1 1 (by decide)) (by decide)) (by have := h2950.2; have : (1 : Int32).toInt = 1 := (by decide); omega) hP hD hS (lv_sub hl [1, 2, 3, 0] rfl)
      have jn54 : ∀ (J54_l1 : Int32) (J54_l4 : Int32) (H : Heap) (locs : List Loc) (ls : Array Slot), ib J6_l3 0 299 → ib J54_l4 1 1 → va_P (dC, dI) vwCl [(a_this, .inr (7, [.ref a_this_machine, .ref a_this_plan, .int x_this_day, .ref a_this_trusts, .int x_this_rule, .int x_this_green, .int x_this_absent, .int x_this_asksReds, .ref a_this_cars, .ref a_this_gaps, .ref a_this_known, .ref a_this_left, .ref a_this_leaves, .int x_this_pressed, .int x_this_crossed, .int x_this_went, .int x_this_harmed])), (a_this_left, .inl (cy 0, 300, .inl g_this_left)), (a_this_plan, .inr (4, [.int x_this_plan_cycle, .int x_this_plan_green, .int x_this_plan_rule, .int x_this_plan_least, .int x_this_plan_away, .int x_this_plan_statements, .int x_this_plan_kinds, .ref a_this_plan_calm, .ref a_this_plan_pace, .ref a_this_plan_trusts, .int x_this_plan_walkers, .ref a_this_plan_kindOf, .ref a_this_plan_comesAt, .ref a_this_plan_comers, .ref a_this_plan_names, .ref a_this_plan_code, .int x_this_plan_size, .ref a_this_plan_spans])), (a_this_leaves, .inl (cy 0, 12, .inl g_this_leaves))] H → va_D A [(a_this, .inr (7, [.ref a_this_machine, .ref a_this_plan, .int x_this_day, .ref a_this_trusts, .int x_this_rule, .int x_this_green, .int x_this_absent, .int x_this_asksReds, .ref a_this_cars, .ref a_this_gaps, .ref a_this_known, .ref a_this_left, .ref a_this_leaves, .int x_this_pressed, .int x_this_crossed, .int x_this_went, .int x_this_harmed])), (a_this_left, .inl (cy 0, 300, .inl g_this_left)), (a_this_plan, .inr (4, [.int x_this_plan_cycle, .int x_this_plan_green, .int x_this_plan_rule, .int x_this_plan_least, .int x_this_plan_away, .int x_this_plan_statements, .int x_this_plan_kinds, .ref a_this_plan_calm, .ref a_this_plan_pace, .ref a_this_plan_trusts, .int x_this_plan_walkers, .ref a_this_plan_kindOf, .ref a_this_plan_comesAt, .ref a_this_plan_comers, .ref a_this_plan_names, .ref a_this_plan_code, .int x_this_plan_size, .ref a_this_plan_spans])), (a_this_leaves, .inl (cy 0, 12, .inl g_this_leaves))] → va_S A s.heap H locs → lv_has ls 5 [(0, .ref a_this), (1, .int J54_l1), (2, .int 0), (3, .int J6_l3), (4, .int J54_l4)] → W p l e { frames := 1, cells := 0, slots := 0, locals := 22 } s m args below meth c H locs 0 0 Q (F0 m 54 ls []) := by
        intro J54_l1 J54_l4 H locs ls hJ54_l3 hJ54_l4 hP hD hS hl
        refine lv_aload_n hx hb dX7_greensForNobody_54 rfl (lv_at hl 0 rfl) ?_
        refine k_get C0 fg_X7_41 hP 0 rfl rfl dX7_greensForNobody_55 ?_
        refine lv_iload_n hx hb dX7_greensForNobody_58 rfl (lv_at hl 3 rfl) ?_
        refine va_iald hx hb C0.2.2.2.2.2.1 hP 1 0 rfl rfl (ib_in 300 hJ54_l3 (by decide)) dX7_greensForNobody_59 ?_
        refine lv_topi (fun z2952 ez2952 => ?_)
        refine lv_if_le (tgt := 80) hx hb dX7_greensForNobody_60 (by decide) (fun c2953 => ?_) (fun c2953 => ?_)
        · have h2954 := ib_le (ib_any z2952) (ib_c 0 0 0 (by decide)) c2953
          have h2955 : ib z2952 (-2147483648) 0 := ib_w (-2147483648) 0 h2954.1 (by decide)
          obtain ⟨z2956, ez2956⟩ : ∃ y : Int32, y = J6_l3 + 1 := ⟨_, rfl⟩
          refine lv_iinc (v := z2956) (lv' := [(3, .int z2956), (0, .ref a_this), (1, .int J54_l1), (2, .int 0), (4, .int J54_l4)]) hx hb dX7_greensForNobody_80 hl (k := 3) rfl (by rw [ez2956]; rfl) (by decide) rfl (fun ls hl => ?_)
          have h2957 := ib_add hJ54_l3 (ib_c 1 1 1 (by decide)) (by decide)
          rw [← ez2956] at h2957
          have h2958 : ib z2956 1 300 := ib_w 1 300 h2957.1 (by decide)
          refine lv_goto (tgt := 6) hx hb dX7_greensForNobody_83 (by decide) ?_
          exact ih6 z2956 J54_l1 0 H locs ls (ib_w 0 300 h2958 (by decide)) (ib_w 0 1 (ib_c 0 0 0 (by decide)) (by decide)) (by have := h2957.2; have : (1 : Int32).toInt = 1 := (by decide); omega) hP hD hS (lv_sub hl [1, 2, 3, 0] rfl)
        · have h2959 := ib_nle (ib_any z2952) (ib_c 0 0 0 (by decide)) c2953
          have h2960 : ib z2952 1 2147483647 := ib_w 1 2147483647 h2959.1 (by decide)
          refine lv_iload_n hx hb dX7_greensForNobody_63 rfl (lv_at hl 2 rfl) ?_
          refine lv_if_ne (tgt := 80) hx hb dX7_greensForNobody_64 (by decide) (fun h9 => absurd (by decide) h9) (fun _ => ?_)
          refine lv_aload_n hx hb dX7_greensForNobody_67 rfl (lv_at hl 0 rfl) ?_
          refine lv_iload_n hx hb dX7_greensForNobody_68 rfl (lv_at hl 3 rfl) ?_
          refine k_ji hP hD hS hA [0, 2, 3] [1] (wr := [(a_this_left, .inl (cy 0, 300, .inl g_this_left))]) rfl rfl (by decide) (by decide) (by decide) 0 0 (Nat.le_of_ble_eq_true rfl) (Nat.le_of_ble_eq_true rfl) (fun hPc hDc => k_runV (As := [.int J6_l3]) (rest := []) C0 (s_X7_someoneCrosses l dC dI cy sq a_this a_this_machine a_this_plan x_this_plan_cycle x_this_plan_green x_this_plan_rule x_this_plan_least x_this_plan_away x_this_plan_statements x_this_plan_kinds a_this_plan_calm a_this_plan_pace a_this_plan_trusts x_this_plan_walkers a_this_plan_kindOf a_this_plan_comesAt a_this_plan_comers a_this_plan_names a_this_plan_code x_this_plan_size a_this_plan_spans x_this_day a_this_trusts x_this_rule x_this_green x_this_absent x_this_asksReds a_this_cars a_this_gaps a_this_known a_this_left a_this_leaves g_this_leaves x_this_pressed x_this_crossed x_this_went x_this_harmed J6_l3 (ib_w 0 120 hx_this_plan_cycle (by decide)) (ib_w 0 99 hx_this_plan_least (by decide)) (ib_w 0 81 hx_this_plan_statements (by decide)) (ib_w 0 6 hx_this_plan_kinds (by decide)) (ib_w 0 12 hx_this_plan_walkers (by decide)) (ib_w 0 1600 hx_this_plan_size (by decide)) (ib_w 0 1 hx_this_asksReds (by decide))) mV_X7_177 hPc hDc rfl rfl rfl hl rfl rfl (Nat.le_of_ble_eq_true rfl) ⟨(Nat.le_of_ble_eq_true rfl), (Nat.le_of_ble_eq_true rfl)⟩ ⟨(Nat.le_of_ble_eq_true rfl), (Nat.le_of_ble_eq_true rfl)⟩ dX7_greensForNobody_69) (fun r2961 u2962 H locs hw hP hD hS => ?_)
          try dsimp only at hP hD hw
          have hP : va_P (dC, dI) vwCl [(a_this_left, .inl (cy 0, 300, .inl g_this_left)), (a_this, .inr (7, [.ref a_this_machine, .ref a_this_plan, .int x_this_day, .ref a_this_trusts, .int x_this_rule, .int x_this_green, .int x_this_absent, .int x_this_asksReds, .ref a_this_cars, .ref a_this_gaps, .ref a_this_known, .ref a_this_left, .ref a_this_leaves, .int x_this_pressed, .int x_this_crossed, .int x_this_went, .int x_this_harmed])), (a_this_plan, .inr (4, [.int x_this_plan_cycle, .int x_this_plan_green, .int x_this_plan_rule, .int x_this_plan_least, .int x_this_plan_away, .int x_this_plan_statements, .int x_this_plan_kinds, .ref a_this_plan_calm, .ref a_this_plan_pace, .ref a_this_plan_trusts, .int x_this_plan_walkers, .ref a_this_plan_kindOf, .ref a_this_plan_comesAt, .ref a_this_plan_comers, .ref a_this_plan_names, .ref a_this_plan_code, .int x_this_plan_size, .ref a_this_plan_spans])), (a_this_leaves, .inl (cy 0, 12, .inl g_this_leaves))] H := hP
          have hD : va_D A [(a_this_left, .inl (cy 0, 300, .inl g_this_left)), (a_this, .inr (7, [.ref a_this_machine, .ref a_this_plan, .int x_this_day, .ref a_this_trusts, .int x_this_rule, .int x_this_green, .int x_this_absent, .int x_this_asksReds, .ref a_this_cars, .ref a_this_gaps, .ref a_this_known, .ref a_this_left, .ref a_this_leaves, .int x_this_pressed, .int x_this_crossed, .int x_this_went, .int x_this_harmed])), (a_this_plan, .inr (4, [.int x_this_plan_cycle, .int x_this_plan_green, .int x_this_plan_rule, .int x_this_plan_least, .int x_this_plan_away, .int x_this_plan_statements, .int x_this_plan_kinds, .ref a_this_plan_calm, .ref a_this_plan_pace, .ref a_this_plan_trusts, .int x_this_plan_walkers, .ref a_this_plan_kindOf, .ref a_this_plan_comesAt, .ref a_this_plan_comers, .ref a_this_plan_names, .ref a_this_plan_code, .int x_this_plan_size, .ref a_this_plan_spans])), (a_this_leaves, .inl (cy 0, 12, .inl g_this_leaves))] := hD
          obtain ⟨h2963, h2964⟩ := hw
          refine lv_if_eq (tgt := 80) hx hb dX7_greensForNobody_72 (by decide) (fun c2965 => ?_) (fun c2965 => ?_)
          · have h2966 := ib_eq h2963 (ib_c 0 0 0 (by decide)) c2965
            have h2967 : ib r2961 0 0 := ib_w 0 0 h2966.1 (by decide)
            obtain ⟨z2968, ez2968⟩ : ∃ y : Int32, y = J6_l3 + 1 := ⟨_, rfl⟩
            refine lv_iinc (v := z2968) (lv' := [(3, .int z2968), (0, .ref a_this), (1, .int J54_l1), (2, .int 0), (4, .int J54_l4)]) hx hb dX7_greensForNobody_80 hl (k := 3) rfl (by rw [ez2968]; rfl) (by decide) rfl (fun ls hl => ?_)
            have h2969 := ib_add hJ54_l3 (ib_c 1 1 1 (by decide)) (by decide)
            rw [← ez2968] at h2969
            have h2970 : ib z2968 1 300 := ib_w 1 300 h2969.1 (by decide)
            refine lv_goto (tgt := 6) hx hb dX7_greensForNobody_83 (by decide) ?_
            exact ih6 z2968 J54_l1 0 H locs ls (ib_w 0 300 h2970 (by decide)) (ib_w 0 1 (ib_c 0 0 0 (by decide)) (by decide)) (by have := h2969.2; have : (1 : Int32).toInt = 1 := (by decide); omega) (hP.sub [1, 0, 2, 3] rfl) (hD.sub [1, 0, 2, 3] (by decide) rfl) hS (lv_sub hl [1, 2, 3, 0] rfl)
          · have h2971 : ib r2961 1 1 := ib_w 1 1 (ib_ne_lo 0 h2963 (by decide) c2965) (by decide)
            have h2972 : ib x_this_plan_walkers 1 12 := ib_w 1 12 (ib_two hx_this_plan_walkers (h2964 c2965)) (by decide)
            obtain ⟨z2973, ez2973⟩ : ∃ y : Int32, y = J54_l1 + (-1) := ⟨_, rfl⟩
            refine lv_iinc (v := z2973) (lv' := [(1, .int z2973), (0, .ref a_this), (2, .int 0), (3, .int J6_l3), (4, .int J54_l4)]) hx hb dX7_greensForNobody_75 hl (k := 1) rfl (by rw [ez2973]; rfl) (by decide) rfl (fun ls hl => ?_)
            refine lv_iconst (v := 1) hx hb dX7_greensForNobody_78 (by decide) ?_
            refine lv_istore_n (lv' := [(2, .int 1), (1, .int z2973), (0, .ref a_this), (3, .int J6_l3), (4, .int J54_l4)]) hx hb dX7_greensForNobody_79 rfl hl (by decide) rfl (fun ls hl => ?_)
            exact jn80 z2973 J54_l4 H locs ls (ib_w 0 299 hJ54_l3 (by decide)) (ib_w 0 1 hJ54_l4 (by decide)) (ib_w 1 12 h2972 (by decide)) (hP.sub [1, 0, 2, 3] rfl) (hD.sub [1, 0, 2, 3] (by decide) rfl) hS (lv_sub hl [2, 1, 0, 3, 4] rfl)
      have jn42 : ∀ (J42_s0 : Int32) (H : Heap) (locs : List Loc) (ls : Array Slot), ib J6_l2 0 1 → ib J6_l3 0 299 → ib J42_s0 0 1 → va_P (dC, dI) vwCl [(a_this, .inr (7, [.ref a_this_machine, .ref a_this_plan, .int x_this_day, .ref a_this_trusts, .int x_this_rule, .int x_this_green, .int x_this_absent, .int x_this_asksReds, .ref a_this_cars, .ref a_this_gaps, .ref a_this_known, .ref a_this_left, .ref a_this_leaves, .int x_this_pressed, .int x_this_crossed, .int x_this_went, .int x_this_harmed])), (a_this_left, .inl (cy 0, 300, .inl g_this_left)), (a_this_plan, .inr (4, [.int x_this_plan_cycle, .int x_this_plan_green, .int x_this_plan_rule, .int x_this_plan_least, .int x_this_plan_away, .int x_this_plan_statements, .int x_this_plan_kinds, .ref a_this_plan_calm, .ref a_this_plan_pace, .ref a_this_plan_trusts, .int x_this_plan_walkers, .ref a_this_plan_kindOf, .ref a_this_plan_comesAt, .ref a_this_plan_comers, .ref a_this_plan_names, .ref a_this_plan_code, .int x_this_plan_size, .ref a_this_plan_spans])), (a_this_leaves, .inl (cy 0, 12, .inl g_this_leaves))] H → va_D A [(a_this, .inr (7, [.ref a_this_machine, .ref a_this_plan, .int x_this_day, .ref a_this_trusts, .int x_this_rule, .int x_this_green, .int x_this_absent, .int x_this_asksReds, .ref a_this_cars, .ref a_this_gaps, .ref a_this_known, .ref a_this_left, .ref a_this_leaves, .int x_this_pressed, .int x_this_crossed, .int x_this_went, .int x_this_harmed])), (a_this_left, .inl (cy 0, 300, .inl g_this_left)), (a_this_plan, .inr (4, [.int x_this_plan_cycle, .int x_this_plan_green, .int x_this_plan_rule, .int x_this_plan_least, .int x_this_plan_away, .int x_this_plan_statements, .int x_this_plan_kinds, .ref a_this_plan_calm, .ref a_this_plan_pace, .ref a_this_plan_trusts, .int x_this_plan_walkers, .ref a_this_plan_kindOf, .ref a_this_plan_comesAt, .ref a_this_plan_comers, .ref a_this_plan_names, .ref a_this_plan_code, .int x_this_plan_size, .ref a_this_plan_spans])), (a_this_leaves, .inl (cy 0, 12, .inl g_this_leaves))] → va_S A s.heap H locs → lv_has ls 5 [(0, .ref a_this), (1, .int J6_l1), (2, .int J6_l2), (3, .int J6_l3)] → W p l e { frames := 1, cells := 0, slots := 0, locals := 22 } s m args below meth c H locs 0 0 Q (F0 m 42 ls [.int J42_s0]) := by
        intro J42_s0 H locs ls hJ42_l2 hJ42_l3 hJ42_s0 hP hD hS hl
        refine lv_istore (lv' := [(4, .int J42_s0), (0, .ref a_this), (1, .int J6_l1), (2, .int J6_l2), (3, .int J6_l3)]) hx hb dX7_greensForNobody_42 hl (by decide) rfl (fun ls hl => ?_)
        refine lv_iload hx hb dX7_greensForNobody_44 (lv_at hl 0 rfl) ?_
        refine lv_if_eq (tgt := 54) hx hb dX7_greensForNobody_46 (by decide) (fun c2974 => ?_) (fun c2974 => ?_)
        · have h2975 := ib_eq hJ42_s0 (ib_c 0 0 0 (by decide)) c2974
          have h2976 : ib J42_s0 0 0 := ib_w 0 0 h2975.1 (by decide)
          refine lv_aload_n hx hb dX7_greensForNobody_54 rfl (lv_at hl 1 rfl) ?_
          refine k_get C0 fg_X7_41 hP 0 rfl rfl dX7_greensForNobody_55 ?_
          refine lv_iload_n hx hb dX7_greensForNobody_58 rfl (lv_at hl 4 rfl) ?_
          refine va_iald hx hb C0.2.2.2.2.2.1 hP 1 0 rfl rfl (ib_in 300 hJ42_l3 (by decide)) dX7_greensForNobody_59 ?_
          refine lv_topi (fun z2977 ez2977 => ?_)
          refine lv_if_le (tgt := 80) hx hb dX7_greensForNobody_60 (by decide) (fun c2978 => ?_) (fun c2978 => ?_)
          · have h2979 := ib_le (ib_any z2977) (ib_c 0 0 0 (by decide)) c2978
            have h2980 : ib z2977 (-2147483648) 0 := ib_w (-2147483648) 0 h2979.1 (by decide)
            obtain ⟨z2981, ez2981⟩ : ∃ y : Int32, y = J6_l3 + 1 := ⟨_, rfl⟩
            refine lv_iinc (v := z2981) (lv' := [(3, .int z2981), (4, .int J42_s0), (0, .ref a_this), (1, .int J6_l1), (2, .int J6_l2)]) hx hb dX7_greensForNobody_80 hl (k := 4) rfl (by rw [ez2981]; rfl) (by decide) rfl (fun ls hl => ?_)
            have h2982 := ib_add hJ42_l3 (ib_c 1 1 1 (by decide)) (by decide)
            rw [← ez2981] at h2982
            have h2983 : ib z2981 1 300 := ib_w 1 300 h2982.1 (by decide)
            refine lv_goto (tgt := 6) hx hb dX7_greensForNobody_83 (by decide) ?_
            exact ih6 z2981 J6_l1 J6_l2 H locs ls (ib_w 0 300 h2983 (by decide)) (ib_w 0 1 hJ42_l2 (by decide)) (by have := h2982.2; have : (1 : Int32).toInt = 1 := (by decide); omega) hP hD hS (lv_sub hl [2, 3, 4, 0] rfl)
          · have h2984 := ib_nle (ib_any z2977) (ib_c 0 0 0 (by decide)) c2978
            have h2985 : ib z2977 1 2147483647 := ib_w 1 2147483647 h2984.1 (by decide)
            refine lv_iload_n hx hb dX7_greensForNobody_63 rfl (lv_at hl 3 rfl) ?_
            refine lv_if_ne (tgt := 80) hx hb dX7_greensForNobody_64 (by decide) (fun c2986 => ?_) (fun c2986 => ?_)
            · have h2987 : ib J6_l2 1 1 := ib_w 1 1 (ib_ne_lo 0 hJ42_l2 (by decide) c2986) (by decide)
              obtain ⟨z2988, ez2988⟩ : ∃ y : Int32, y = J6_l3 + 1 := ⟨_, rfl⟩
              refine lv_iinc (v := z2988) (lv' := [(3, .int z2988), (4, .int J42_s0), (0, .ref a_this), (1, .int J6_l1), (2, .int J6_l2)]) hx hb dX7_greensForNobody_80 hl (k := 4) rfl (by rw [ez2988]; rfl) (by decide) rfl (fun ls hl => ?_)
              have h2989 := ib_add hJ42_l3 (ib_c 1 1 1 (by decide)) (by decide)
              rw [← ez2988] at h2989
              have h2990 : ib z2988 1 300 := ib_w 1 300 h2989.1 (by decide)
              refine lv_goto (tgt := 6) hx hb dX7_greensForNobody_83 (by decide) ?_
              exact ih6 z2988 J6_l1 J6_l2 H locs ls (ib_w 0 300 h2990 (by decide)) (ib_w 0 1 h2987 (by decide)) (by have := h2989.2; have : (1 : Int32).toInt = 1 := (by decide); omega) hP hD hS (lv_sub hl [2, 3, 4, 0] rfl)
            · have h2991 := ib_eq hJ42_l2 (ib_c 0 0 0 (by decide)) c2986
              have h2992 : ib J6_l2 0 0 := ib_w 0 0 h2991.1 (by decide)
              refine lv_aload_n hx hb dX7_greensForNobody_67 rfl (lv_at hl 1 rfl) ?_
              refine lv_iload_n hx hb dX7_greensForNobody_68 rfl (lv_at hl 4 rfl) ?_
              refine k_ji hP hD hS hA [0, 2, 3] [1] (wr := [(a_this_left, .inl (cy 0, 300, .inl g_this_left))]) rfl rfl (by decide) (by decide) (by decide) 0 0 (Nat.le_of_ble_eq_true rfl) (Nat.le_of_ble_eq_true rfl) (fun hPc hDc => k_runV (As := [.int J6_l3]) (rest := []) C0 (s_X7_someoneCrosses l dC dI cy sq a_this a_this_machine a_this_plan x_this_plan_cycle x_this_plan_green x_this_plan_rule x_this_plan_least x_this_plan_away x_this_plan_statements x_this_plan_kinds a_this_plan_calm a_this_plan_pace a_this_plan_trusts x_this_plan_walkers a_this_plan_kindOf a_this_plan_comesAt a_this_plan_comers a_this_plan_names a_this_plan_code x_this_plan_size a_this_plan_spans x_this_day a_this_trusts x_this_rule x_this_green x_this_absent x_this_asksReds a_this_cars a_this_gaps a_this_known a_this_left a_this_leaves g_this_leaves x_this_pressed x_this_crossed x_this_went x_this_harmed J6_l3 (ib_w 0 120 hx_this_plan_cycle (by decide)) (ib_w 0 99 hx_this_plan_least (by decide)) (ib_w 0 81 hx_this_plan_statements (by decide)) (ib_w 0 6 hx_this_plan_kinds (by decide)) (ib_w 0 12 hx_this_plan_walkers (by decide)) (ib_w 0 1600 hx_this_plan_size (by decide)) (ib_w 0 1 hx_this_asksReds (by decide))) mV_X7_177 hPc hDc rfl rfl rfl hl rfl rfl (Nat.le_of_ble_eq_true rfl) ⟨(Nat.le_of_ble_eq_true rfl), (Nat.le_of_ble_eq_true rfl)⟩ ⟨(Nat.le_of_ble_eq_true rfl), (Nat.le_of_ble_eq_true rfl)⟩ dX7_greensForNobody_69) (fun r2993 u2994 H locs hw hP hD hS => ?_)
              try dsimp only at hP hD hw
              have hP : va_P (dC, dI) vwCl [(a_this_left, .inl (cy 0, 300, .inl g_this_left)), (a_this, .inr (7, [.ref a_this_machine, .ref a_this_plan, .int x_this_day, .ref a_this_trusts, .int x_this_rule, .int x_this_green, .int x_this_absent, .int x_this_asksReds, .ref a_this_cars, .ref a_this_gaps, .ref a_this_known, .ref a_this_left, .ref a_this_leaves, .int x_this_pressed, .int x_this_crossed, .int x_this_went, .int x_this_harmed])), (a_this_plan, .inr (4, [.int x_this_plan_cycle, .int x_this_plan_green, .int x_this_plan_rule, .int x_this_plan_least, .int x_this_plan_away, .int x_this_plan_statements, .int x_this_plan_kinds, .ref a_this_plan_calm, .ref a_this_plan_pace, .ref a_this_plan_trusts, .int x_this_plan_walkers, .ref a_this_plan_kindOf, .ref a_this_plan_comesAt, .ref a_this_plan_comers, .ref a_this_plan_names, .ref a_this_plan_code, .int x_this_plan_size, .ref a_this_plan_spans])), (a_this_leaves, .inl (cy 0, 12, .inl g_this_leaves))] H := hP
              have hD : va_D A [(a_this_left, .inl (cy 0, 300, .inl g_this_left)), (a_this, .inr (7, [.ref a_this_machine, .ref a_this_plan, .int x_this_day, .ref a_this_trusts, .int x_this_rule, .int x_this_green, .int x_this_absent, .int x_this_asksReds, .ref a_this_cars, .ref a_this_gaps, .ref a_this_known, .ref a_this_left, .ref a_this_leaves, .int x_this_pressed, .int x_this_crossed, .int x_this_went, .int x_this_harmed])), (a_this_plan, .inr (4, [.int x_this_plan_cycle, .int x_this_plan_green, .int x_this_plan_rule, .int x_this_plan_least, .int x_this_plan_away, .int x_this_plan_statements, .int x_this_plan_kinds, .ref a_this_plan_calm, .ref a_this_plan_pace, .ref a_this_plan_trusts, .int x_this_plan_walkers, .ref a_this_plan_kindOf, .ref a_this_plan_comesAt, .ref a_this_plan_comers, .ref a_this_plan_names, .ref a_this_plan_code, .int x_this_plan_size, .ref a_this_plan_spans])), (a_this_leaves, .inl (cy 0, 12, .inl g_this_leaves))] := hD
              obtain ⟨h2995, h2996⟩ := hw
              refine lv_if_eq (tgt := 80) hx hb dX7_greensForNobody_72 (by decide) (fun c2997 => ?_) (fun c2997 => ?_)
              · have h2998 := ib_eq h2995 (ib_c 0 0 0 (by decide)) c2997
                have h2999 : ib r2993 0 0 := ib_w 0 0 h2998.1 (by decide)
                obtain ⟨z3000, ez3000⟩ : ∃ y : Int32, y = J6_l3 + 1 := ⟨_, rfl⟩
                refine lv_iinc (v := z3000) (lv' := [(3, .int z3000), (4, .int J42_s0), (0, .ref a_this), (1, .int J6_l1), (2, .int J6_l2)]) hx hb dX7_greensForNobody_80 hl (k := 4) rfl (by rw [ez3000]; rfl) (by decide) rfl (fun ls hl => ?_)
                have h3001 := ib_add hJ42_l3 (ib_c 1 1 1 (by decide)) (by decide)
                rw [← ez3000] at h3001
                have h3002 : ib z3000 1 300 := ib_w 1 300 h3001.1 (by decide)
                refine lv_goto (tgt := 6) hx hb dX7_greensForNobody_83 (by decide) ?_
                exact ih6 z3000 J6_l1 J6_l2 H locs ls (ib_w 0 300 h3002 (by decide)) (ib_w 0 1 h2992 (by decide)) (by have := h3001.2; have : (1 : Int32).toInt = 1 := (by decide); omega) (hP.sub [1, 0, 2, 3] rfl) (hD.sub [1, 0, 2, 3] (by decide) rfl) hS (lv_sub hl [2, 3, 4, 0] rfl)
              · have h3003 : ib r2993 1 1 := ib_w 1 1 (ib_ne_lo 0 h2995 (by decide) c2997) (by decide)
                have h3004 : ib x_this_plan_walkers 1 12 := ib_w 1 12 (ib_two hx_this_plan_walkers (h2996 c2997)) (by decide)
                obtain ⟨z3005, ez3005⟩ : ∃ y : Int32, y = J6_l1 + (-1) := ⟨_, rfl⟩
                refine lv_iinc (v := z3005) (lv' := [(1, .int z3005), (4, .int J42_s0), (0, .ref a_this), (2, .int J6_l2), (3, .int J6_l3)]) hx hb dX7_greensForNobody_75 hl (k := 2) rfl (by rw [ez3005]; rfl) (by decide) rfl (fun ls hl => ?_)
                refine lv_iconst (v := 1) hx hb dX7_greensForNobody_78 (by decide) ?_
                refine lv_istore_n (lv' := [(2, .int 1), (1, .int z3005), (4, .int J42_s0), (0, .ref a_this), (3, .int J6_l3)]) hx hb dX7_greensForNobody_79 rfl hl (by decide) rfl (fun ls hl => ?_)
                exact jn80 z3005 J42_s0 H locs ls (ib_w 0 299 hJ42_l3 (by decide)) (ib_w 0 1 h2976 (by decide)) (ib_w 1 12 h3004 (by decide)) (hP.sub [1, 0, 2, 3] rfl) (hD.sub [1, 0, 2, 3] (by decide) rfl) hS (lv_sub hl [3, 1, 0, 4, 2] rfl)
        · have h3006 : ib J42_s0 1 1 := ib_w 1 1 (ib_ne_lo 0 hJ42_s0 (by decide) c2974) (by decide)
          obtain ⟨z3007, ez3007⟩ : ∃ y : Int32, y = J6_l1 + 1 := ⟨_, rfl⟩
          refine lv_iinc (v := z3007) (lv' := [(1, .int z3007), (4, .int J42_s0), (0, .ref a_this), (2, .int J6_l2), (3, .int J6_l3)]) hx hb dX7_greensForNobody_49 hl (k := 2) rfl (by rw [ez3007]; rfl) (by decide) rfl (fun ls hl => ?_)
          refine lv_iconst (v := 0) hx hb dX7_greensForNobody_52 (by decide) ?_
          refine lv_istore_n (lv' := [(2, .int 0), (1, .int z3007), (4, .int J42_s0), (0, .ref a_this), (3, .int J6_l3)]) hx hb dX7_greensForNobody_53 rfl hl (by decide) rfl (fun ls hl => ?_)
          exact jn54 z3007 J42_s0 H locs ls (ib_w 0 299 hJ42_l3 (by decide)) (ib_w 1 1 h3006 (by decide)) hP hD hS (lv_sub hl [3, 1, 0, 4, 2] rfl)
      refine lv_iload_n hx hb dX7_greensForNobody_6 rfl (lv_at hl 3 rfl) ?_
      refine lv_sipush (v := 300) hx hb dX7_greensForNobody_7 (by decide) ?_
      refine lv_icmp_ge (tgt := 86) hx hb dX7_greensForNobody_10 (by decide) (fun c3008 => ?_) (fun c3008 => ?_)
      · have h3009 := ib_le (ib_c 300 300 300 (by decide)) hJ6_l3 c3008
        have h3010 : ib J6_l3 300 300 := ib_w 300 300 h3009.2 (by decide)
        refine lv_iload_n hx hb dX7_greensForNobody_86 rfl (lv_at hl 1 rfl) ?_
        subst hQ; exact k_iret hx hb hr hlk rfl () hS True.intro hP hD (Nat.le_of_ble_eq_true rfl) (Nat.le_of_ble_eq_true rfl) dX7_greensForNobody_87
      · have h3011 := ib_nle (ib_c 300 300 300 (by decide)) hJ6_l3 c3008
        have h3012 : ib J6_l3 0 299 := ib_w 0 299 h3011.2 (by decide)
        refine lv_aload_n hx hb dX7_greensForNobody_13 rfl (lv_at hl 0 rfl) ?_
        refine k_get C0 fg_X7_41 hP 0 rfl rfl dX7_greensForNobody_14 ?_
        refine lv_iload_n hx hb dX7_greensForNobody_17 rfl (lv_at hl 3 rfl) ?_
        refine va_iald hx hb C0.2.2.2.2.2.1 hP 1 0 rfl rfl (ib_in 300 h3012 (by decide)) dX7_greensForNobody_18 ?_
        refine lv_topi (fun z3013 ez3013 => ?_)
        refine lv_if_le (tgt := 41) hx hb dX7_greensForNobody_19 (by decide) (fun c3014 => ?_) (fun c3014 => ?_)
        · have h3015 := ib_le (ib_any z3013) (ib_c 0 0 0 (by decide)) c3014
          have h3016 : ib z3013 (-2147483648) 0 := ib_w (-2147483648) 0 h3015.1 (by decide)
          refine lv_iconst (v := 0) hx hb dX7_greensForNobody_41 (by decide) ?_
          exact jn42 0 H locs ls (ib_w 0 1 hJ6_l2 (by decide)) (ib_w 0 299 h3012 (by decide)) (ib_w 0 1 (ib_c 0 0 0 (by decide)) (by decide)) hP hD hS (lv_sub hl [0, 1, 2, 3] rfl)
        · have h3017 := ib_nle (ib_any z3013) (ib_c 0 0 0 (by decide)) c3014
          have h3018 : ib z3013 1 2147483647 := ib_w 1 2147483647 h3017.1 (by decide)
          refine lv_iload_n hx hb dX7_greensForNobody_22 rfl (lv_at hl 3 rfl) ?_
          refine lv_if_eq (tgt := 37) hx hb dX7_greensForNobody_23 (by decide) (fun c3019 => ?_) (fun c3019 => ?_)
          · have h3020 := ib_eq h3012 (ib_c 0 0 0 (by decide)) c3019
            have h3021 : ib J6_l3 0 0 := ib_w 0 0 h3020.1 (by decide)
            refine lv_iconst (v := 1) hx hb dX7_greensForNobody_37 (by decide) ?_
            refine lv_goto (tgt := 42) hx hb dX7_greensForNobody_38 (by decide) ?_
            exact jn42 1 H locs ls (ib_w 0 1 hJ6_l2 (by decide)) (ib_w 0 299 h3021 (by decide)) (ib_w 0 1 (ib_c 1 1 1 (by decide)) (by decide)) hP hD hS (lv_sub hl [0, 1, 2, 3] rfl)
          · have h3022 : ib J6_l3 1 299 := ib_w 1 299 (ib_ne_lo 0 h3012 (by decide) c3019) (by decide)
            refine lv_aload_n hx hb dX7_greensForNobody_26 rfl (lv_at hl 0 rfl) ?_
            refine k_get C0 fg_X7_41 hP 0 rfl rfl dX7_greensForNobody_27 ?_
            refine lv_iload_n hx hb dX7_greensForNobody_30 rfl (lv_at hl 3 rfl) ?_
            refine lv_iconst (v := 1) hx hb dX7_greensForNobody_31 (by decide) ?_
            refine lv_isub hx hb dX7_greensForNobody_32 ?_
            refine lv_topi (fun z3023 ez3023 => ?_)
            have h3024 := ib_sub h3022 (ib_c 1 1 1 (by decide)) (by decide)
            rw [← ez3023] at h3024
            have h3025 : ib z3023 0 298 := ib_w 0 298 h3024.1 (by decide)
            refine va_iald hx hb C0.2.2.2.2.2.1 hP 1 0 rfl rfl (ib_in 300 h3025 (by decide)) dX7_greensForNobody_33 ?_
            refine lv_topi (fun z3026 ez3026 => ?_)
            refine lv_if_ne (tgt := 41) hx hb dX7_greensForNobody_34 (by decide) (fun c3027 => ?_) (fun c3027 => ?_)
            · skip
              refine lv_iconst (v := 0) hx hb dX7_greensForNobody_41 (by decide) ?_
              exact jn42 0 H locs ls (ib_w 0 1 hJ6_l2 (by decide)) (ib_w 0 299 h3022 (by decide)) (ib_w 0 1 (ib_c 0 0 0 (by decide)) (by decide)) hP hD hS (lv_sub hl [0, 1, 2, 3] rfl)
            · have h3028 := ib_eq (ib_any z3026) (ib_c 0 0 0 (by decide)) c3027
              have h3029 : ib z3026 0 0 := ib_w 0 0 h3028.1 (by decide)
              refine lv_iconst (v := 1) hx hb dX7_greensForNobody_37 (by decide) ?_
              refine lv_goto (tgt := 42) hx hb dX7_greensForNobody_38 (by decide) ?_
              exact jn42 1 H locs ls (ib_w 0 1 hJ6_l2 (by decide)) (ib_w 0 299 h3022 (by decide)) (ib_w 0 1 (ib_c 1 1 1 (by decide)) (by decide)) hP hD hS (lv_sub hl [0, 1, 2, 3] rfl)
  refine lv_iconst (v := 0) hx hb dX7_greensForNobody_0 (by decide) ?_
  refine lv_istore_n (lv' := [(1, .int 0), (0, .ref a_this)]) hx hb dX7_greensForNobody_1 rfl hl (by decide) rfl (fun ls hl => ?_)
  refine lv_iconst (v := 0) hx hb dX7_greensForNobody_2 (by decide) ?_
  refine lv_istore_n (lv' := [(2, .int 0), (1, .int 0), (0, .ref a_this)]) hx hb dX7_greensForNobody_3 rfl hl (by decide) rfl (fun ls hl => ?_)
  refine lv_iconst (v := 0) hx hb dX7_greensForNobody_4 (by decide) ?_
  refine lv_istore_n (lv' := [(3, .int 0), (2, .int 0), (1, .int 0), (0, .ref a_this)]) hx hb dX7_greensForNobody_5 rfl hl (by decide) rfl (fun ls hl => ?_)
  exact jn6 302 0 0 0 H locs ls (ib_w 0 300 (ib_c 0 0 0 (by decide)) (by decide)) (ib_w 0 1 (ib_c 0 0 0 (by decide)) (by decide)) (by have := (ib_c 0 0 0 (by decide)); unfold ib at this; omega) hP hD hS (lv_sub hl [3, 2, 1, 0] rfl)
set_option maxHeartbeats 4000000 in
set_option maxRecDepth 100000 in
theorem s_X7_told (l : Launch) (dC : Nat → ClassId) (dI : Nat → Nat → Nat) (cy : Nat → ClassId) (sq : Nat → Nat) (a_this : Nat) (a_this_machine : Nat) (a_this_plan : Nat) (x_this_plan_cycle : Int32) (x_this_plan_green : Int32) (x_this_plan_rule : Int32) (x_this_plan_least : Int32) (x_this_plan_away : Int32) (x_this_plan_statements : Int32) (x_this_plan_kinds : Int32) (a_this_plan_calm : Nat) (a_this_plan_pace : Nat) (a_this_plan_trusts : Nat) (x_this_plan_walkers : Int32) (a_this_plan_kindOf : Nat) (a_this_plan_comesAt : Nat) (g_this_plan_comesAt : Nat → Int32) (a_this_plan_comers : Nat) (a_this_plan_names : Nat) (a_this_plan_code : Nat) (x_this_plan_size : Int32) (a_this_plan_spans : Nat) (x_this_day : Int32) (a_this_trusts : Nat) (x_this_rule : Int32) (x_this_green : Int32) (x_this_absent : Int32) (x_this_asksReds : Int32) (a_this_cars : Nat) (a_this_gaps : Nat) (a_this_known : Nat) (a_this_left : Nat) (g_this_left : Nat → Int32) (a_this_leaves : Nat) (g_this_leaves : Nat → Int32) (x_this_pressed : Int32) (x_this_crossed : Int32) (x_this_went : Int32) (x_this_harmed : Int32) (p0 : Int32) (hx_this_plan_cycle : ib x_this_plan_cycle 0 120) (hx_this_plan_least : ib x_this_plan_least 0 99) (hx_this_plan_statements : ib x_this_plan_statements 0 81) (hx_this_plan_kinds : ib x_this_plan_kinds 0 6) (hx_this_plan_walkers : ib x_this_plan_walkers 0 12) (hg_this_plan_comesAt : ia g_this_plan_comesAt 12 0 199) (hx_this_plan_size : ib x_this_plan_size 0 1600) (hx_this_asksReds : ib x_this_asksReds 0 1) : k_Met l yX7_told cX7_told 2 (some .int) { frames := 2, cells := 0, slots := 0, locals := 46 } dC dI cy sq [.ref a_this, .int p0] [(a_this, .inr (7, [.ref a_this_machine, .ref a_this_plan, .int x_this_day, .ref a_this_trusts, .int x_this_rule, .int x_this_green, .int x_this_absent, .int x_this_asksReds, .ref a_this_cars, .ref a_this_gaps, .ref a_this_known, .ref a_this_left, .ref a_this_leaves, .int x_this_pressed, .int x_this_crossed, .int x_this_went, .int x_this_harmed])), (a_this_plan, .inr (4, [.int x_this_plan_cycle, .int x_this_plan_green, .int x_this_plan_rule, .int x_this_plan_least, .int x_this_plan_away, .int x_this_plan_statements, .int x_this_plan_kinds, .ref a_this_plan_calm, .ref a_this_plan_pace, .ref a_this_plan_trusts, .int x_this_plan_walkers, .ref a_this_plan_kindOf, .ref a_this_plan_comesAt, .ref a_this_plan_comers, .ref a_this_plan_names, .ref a_this_plan_code, .int x_this_plan_size, .ref a_this_plan_spans])), (a_this_leaves, .inl (cy 0, 12, .inl g_this_leaves)), (a_this_plan_comesAt, .inl (cy 0, 12, .inl g_this_plan_comesAt)), (a_this_left, .inl (cy 0, 300, .inl g_this_left))] (k_Qi dC dI (fun (r : Int32) (_ : Unit) => True) (fun _ : Unit => [(a_this, .inr (7, [.ref a_this_machine, .ref a_this_plan, .int x_this_day, .ref a_this_trusts, .int x_this_rule, .int x_this_green, .int x_this_absent, .int x_this_asksReds, .ref a_this_cars, .ref a_this_gaps, .ref a_this_known, .ref a_this_left, .ref a_this_leaves, .int x_this_pressed, .int x_this_crossed, .int x_this_went, .int x_this_harmed])), (a_this_plan, .inr (4, [.int x_this_plan_cycle, .int x_this_plan_green, .int x_this_plan_rule, .int x_this_plan_least, .int x_this_plan_away, .int x_this_plan_statements, .int x_this_plan_kinds, .ref a_this_plan_calm, .ref a_this_plan_pace, .ref a_this_plan_trusts, .int x_this_plan_walkers, .ref a_this_plan_kindOf, .ref a_this_plan_comesAt, .ref a_this_plan_comers, .ref a_this_plan_names, .ref a_this_plan_code, .int x_this_plan_size, .ref a_this_plan_spans])), (a_this_leaves, .inl (cy 0, 12, .inl g_this_leaves)), (a_this_plan_comesAt, .inl (cy 0, 12, .inl g_this_plan_comesAt)), (a_this_left, .inl (cy 0, 300, .inl g_this_left))])) := by
  refine k_ofW2 (by decide +kernel) (Nat.le_of_ble_eq_true rfl) ?_
  intro p e s m below meth c A ls H locs args Q hQ C0 hr hlk hin hP hD hA hS hl
  have C0 : k_cx p s m args c cX7_told 2 RX7 dC dI cy sq := C0
  have hx := C0.1
  have hb := C0.2.1
  have hl : lv_has ls 2 [(0, .ref a_this), (1, .int p0)] := hl
  refine lv_iload_n hx hb dX7_told_0 rfl (lv_at hl 1 rfl) ?_
  rcases Decidable.em (p0 = 0) with s3260_0 | s3260_0
  · subst s3260_0
    refine lv_tableIn (off := 39) (tgt := 40) hx hb dX7_told_1 (by decide) (by decide) (by decide) (by decide) ?_
    refine lv_aload_n hx hb dX7_told_40 rfl (lv_at hl 0 rfl) ?_
    refine k_ji hP hD hS hA [0, 1, 2, 3] [4] (wr := [(a_this_left, .inl (cy 0, 300, .inl g_this_left))]) rfl rfl (by decide) (by decide) (by decide) 0 0 (Nat.le_of_ble_eq_true rfl) (Nat.le_of_ble_eq_true rfl) (fun hPc hDc => k_runV (As := []) (rest := []) C0 (s_X7_waitedByAll l dC dI cy sq a_this a_this_machine a_this_plan x_this_plan_cycle x_this_plan_green x_this_plan_rule x_this_plan_least x_this_plan_away x_this_plan_statements x_this_plan_kinds a_this_plan_calm a_this_plan_pace a_this_plan_trusts x_this_plan_walkers a_this_plan_kindOf a_this_plan_comesAt g_this_plan_comesAt a_this_plan_comers a_this_plan_names a_this_plan_code x_this_plan_size a_this_plan_spans x_this_day a_this_trusts x_this_rule x_this_green x_this_absent x_this_asksReds a_this_cars a_this_gaps a_this_known a_this_left a_this_leaves g_this_leaves x_this_pressed x_this_crossed x_this_went x_this_harmed (ib_w 0 120 hx_this_plan_cycle (by decide)) (ib_w 0 99 hx_this_plan_least (by decide)) (ib_w 0 81 hx_this_plan_statements (by decide)) (ib_w 0 6 hx_this_plan_kinds (by decide)) (ib_w 0 12 hx_this_plan_walkers (by decide)) hg_this_plan_comesAt (ib_w 0 1600 hx_this_plan_size (by decide)) (ib_w 0 1 hx_this_asksReds (by decide))) mV_X7_166 hPc hDc rfl rfl rfl hl rfl rfl (Nat.le_of_ble_eq_true rfl) ⟨(Nat.le_of_ble_eq_true rfl), (Nat.le_of_ble_eq_true rfl)⟩ ⟨(Nat.le_of_ble_eq_true rfl), (Nat.le_of_ble_eq_true rfl)⟩ dX7_told_41) (fun r3261 u3262 H locs hw hP hD hS => ?_)
    try dsimp only at hP hD hw
    have hP : va_P (dC, dI) vwCl [(a_this_left, .inl (cy 0, 300, .inl g_this_left)), (a_this, .inr (7, [.ref a_this_machine, .ref a_this_plan, .int x_this_day, .ref a_this_trusts, .int x_this_rule, .int x_this_green, .int x_this_absent, .int x_this_asksReds, .ref a_this_cars, .ref a_this_gaps, .ref a_this_known, .ref a_this_left, .ref a_this_leaves, .int x_this_pressed, .int x_this_crossed, .int x_this_went, .int x_this_harmed])), (a_this_plan, .inr (4, [.int x_this_plan_cycle, .int x_this_plan_green, .int x_this_plan_rule, .int x_this_plan_least, .int x_this_plan_away, .int x_this_plan_statements, .int x_this_plan_kinds, .ref a_this_plan_calm, .ref a_this_plan_pace, .ref a_this_plan_trusts, .int x_this_plan_walkers, .ref a_this_plan_kindOf, .ref a_this_plan_comesAt, .ref a_this_plan_comers, .ref a_this_plan_names, .ref a_this_plan_code, .int x_this_plan_size, .ref a_this_plan_spans])), (a_this_leaves, .inl (cy 0, 12, .inl g_this_leaves)), (a_this_plan_comesAt, .inl (cy 0, 12, .inl g_this_plan_comesAt))] H := hP
    have hD : va_D A [(a_this_left, .inl (cy 0, 300, .inl g_this_left)), (a_this, .inr (7, [.ref a_this_machine, .ref a_this_plan, .int x_this_day, .ref a_this_trusts, .int x_this_rule, .int x_this_green, .int x_this_absent, .int x_this_asksReds, .ref a_this_cars, .ref a_this_gaps, .ref a_this_known, .ref a_this_left, .ref a_this_leaves, .int x_this_pressed, .int x_this_crossed, .int x_this_went, .int x_this_harmed])), (a_this_plan, .inr (4, [.int x_this_plan_cycle, .int x_this_plan_green, .int x_this_plan_rule, .int x_this_plan_least, .int x_this_plan_away, .int x_this_plan_statements, .int x_this_plan_kinds, .ref a_this_plan_calm, .ref a_this_plan_pace, .ref a_this_plan_trusts, .int x_this_plan_walkers, .ref a_this_plan_kindOf, .ref a_this_plan_comesAt, .ref a_this_plan_comers, .ref a_this_plan_names, .ref a_this_plan_code, .int x_this_plan_size, .ref a_this_plan_spans])), (a_this_leaves, .inl (cy 0, 12, .inl g_this_leaves)), (a_this_plan_comesAt, .inl (cy 0, 12, .inl g_this_plan_comesAt))] := hD
    subst hQ; exact k_iret hx hb hr hlk rfl () hS True.intro (hP.sub [1, 2, 3, 4, 0] rfl) (hD.sub [1, 2, 3, 4, 0] (by decide) rfl) (Nat.le_of_ble_eq_true rfl) (Nat.le_of_ble_eq_true rfl) dX7_told_44
  rcases Decidable.em (p0 = 1) with s3260_1 | s3260_1
  · subst s3260_1
    refine lv_tableIn (off := 44) (tgt := 45) hx hb dX7_told_1 (by decide) (by decide) (by decide) (by decide) ?_
    refine lv_aload_n hx hb dX7_told_45 rfl (lv_at hl 0 rfl) ?_
    refine k_get C0 fg_X7_53 hP 0 rfl rfl dX7_told_46 ?_
    refine k_ji hP hD hS hA [] [0, 1, 2, 3, 4] (wr := [(a_this, .inr (7, [.ref a_this_machine, .ref a_this_plan, .int x_this_day, .ref a_this_trusts, .int x_this_rule, .int x_this_green, .int x_this_absent, .int x_this_asksReds, .ref a_this_cars, .ref a_this_gaps, .ref a_this_known, .ref a_this_left, .ref a_this_leaves, .int x_this_pressed, .int x_this_crossed, .int x_this_went, .int x_this_harmed])), (a_this_plan, .inr (4, [.int x_this_plan_cycle, .int x_this_plan_green, .int x_this_plan_rule, .int x_this_plan_least, .int x_this_plan_away, .int x_this_plan_statements, .int x_this_plan_kinds, .ref a_this_plan_calm, .ref a_this_plan_pace, .ref a_this_plan_trusts, .int x_this_plan_walkers, .ref a_this_plan_kindOf, .ref a_this_plan_comesAt, .ref a_this_plan_comers, .ref a_this_plan_names, .ref a_this_plan_code, .int x_this_plan_size, .ref a_this_plan_spans])), (a_this_leaves, .inl (cy 0, 12, .inl g_this_leaves)), (a_this_plan_comesAt, .inl (cy 0, 12, .inl g_this_plan_comesAt)), (a_this_left, .inl (cy 0, 300, .inl g_this_left))]) rfl rfl (by decide) (by decide) (by decide) 0 0 (Nat.le_of_ble_eq_true rfl) (Nat.le_of_ble_eq_true rfl) (fun hPc hDc => k_runS (As := [.int x_this_went]) (rest := []) C0 (s_J6_bitCount_0f7a4 l dC dI cy sq x_this_went ) mS_X7_169 hPc hDc hl rfl rfl (Nat.le_of_ble_eq_true rfl) ⟨(Nat.le_of_ble_eq_true rfl), (Nat.le_of_ble_eq_true rfl)⟩ ⟨(Nat.le_of_ble_eq_true rfl), (Nat.le_of_ble_eq_true rfl)⟩ dX7_told_49) (fun r3263 u3264 H locs hw hP hD hS => ?_)
    try dsimp only at hP hD hw
    have hP : va_P (dC, dI) vwCl [(a_this, .inr (7, [.ref a_this_machine, .ref a_this_plan, .int x_this_day, .ref a_this_trusts, .int x_this_rule, .int x_this_green, .int x_this_absent, .int x_this_asksReds, .ref a_this_cars, .ref a_this_gaps, .ref a_this_known, .ref a_this_left, .ref a_this_leaves, .int x_this_pressed, .int x_this_crossed, .int x_this_went, .int x_this_harmed])), (a_this_plan, .inr (4, [.int x_this_plan_cycle, .int x_this_plan_green, .int x_this_plan_rule, .int x_this_plan_least, .int x_this_plan_away, .int x_this_plan_statements, .int x_this_plan_kinds, .ref a_this_plan_calm, .ref a_this_plan_pace, .ref a_this_plan_trusts, .int x_this_plan_walkers, .ref a_this_plan_kindOf, .ref a_this_plan_comesAt, .ref a_this_plan_comers, .ref a_this_plan_names, .ref a_this_plan_code, .int x_this_plan_size, .ref a_this_plan_spans])), (a_this_leaves, .inl (cy 0, 12, .inl g_this_leaves)), (a_this_plan_comesAt, .inl (cy 0, 12, .inl g_this_plan_comesAt)), (a_this_left, .inl (cy 0, 300, .inl g_this_left))] H := hP
    have hD : va_D A [(a_this, .inr (7, [.ref a_this_machine, .ref a_this_plan, .int x_this_day, .ref a_this_trusts, .int x_this_rule, .int x_this_green, .int x_this_absent, .int x_this_asksReds, .ref a_this_cars, .ref a_this_gaps, .ref a_this_known, .ref a_this_left, .ref a_this_leaves, .int x_this_pressed, .int x_this_crossed, .int x_this_went, .int x_this_harmed])), (a_this_plan, .inr (4, [.int x_this_plan_cycle, .int x_this_plan_green, .int x_this_plan_rule, .int x_this_plan_least, .int x_this_plan_away, .int x_this_plan_statements, .int x_this_plan_kinds, .ref a_this_plan_calm, .ref a_this_plan_pace, .ref a_this_plan_trusts, .int x_this_plan_walkers, .ref a_this_plan_kindOf, .ref a_this_plan_comesAt, .ref a_this_plan_comers, .ref a_this_plan_names, .ref a_this_plan_code, .int x_this_plan_size, .ref a_this_plan_spans])), (a_this_leaves, .inl (cy 0, 12, .inl g_this_leaves)), (a_this_plan_comesAt, .inl (cy 0, 12, .inl g_this_plan_comesAt)), (a_this_left, .inl (cy 0, 300, .inl g_this_left))] := hD
    have h3265 := hw
    subst hQ; exact k_iret hx hb hr hlk rfl () hS True.intro hP hD (Nat.le_of_ble_eq_true rfl) (Nat.le_of_ble_eq_true rfl) dX7_told_52
  rcases Decidable.em (p0 = 2) with s3260_2 | s3260_2
  · subst s3260_2
    refine lv_tableIn (off := 52) (tgt := 53) hx hb dX7_told_1 (by decide) (by decide) (by decide) (by decide) ?_
    refine lv_aload_n hx hb dX7_told_53 rfl (lv_at hl 0 rfl) ?_
    refine k_get C0 fg_X7_56 hP 0 rfl rfl dX7_told_54 ?_
    refine k_ji hP hD hS hA [] [0, 1, 2, 3, 4] (wr := [(a_this, .inr (7, [.ref a_this_machine, .ref a_this_plan, .int x_this_day, .ref a_this_trusts, .int x_this_rule, .int x_this_green, .int x_this_absent, .int x_this_asksReds, .ref a_this_cars, .ref a_this_gaps, .ref a_this_known, .ref a_this_left, .ref a_this_leaves, .int x_this_pressed, .int x_this_crossed, .int x_this_went, .int x_this_harmed])), (a_this_plan, .inr (4, [.int x_this_plan_cycle, .int x_this_plan_green, .int x_this_plan_rule, .int x_this_plan_least, .int x_this_plan_away, .int x_this_plan_statements, .int x_this_plan_kinds, .ref a_this_plan_calm, .ref a_this_plan_pace, .ref a_this_plan_trusts, .int x_this_plan_walkers, .ref a_this_plan_kindOf, .ref a_this_plan_comesAt, .ref a_this_plan_comers, .ref a_this_plan_names, .ref a_this_plan_code, .int x_this_plan_size, .ref a_this_plan_spans])), (a_this_leaves, .inl (cy 0, 12, .inl g_this_leaves)), (a_this_plan_comesAt, .inl (cy 0, 12, .inl g_this_plan_comesAt)), (a_this_left, .inl (cy 0, 300, .inl g_this_left))]) rfl rfl (by decide) (by decide) (by decide) 0 0 (Nat.le_of_ble_eq_true rfl) (Nat.le_of_ble_eq_true rfl) (fun hPc hDc => k_runS (As := [.int x_this_harmed]) (rest := []) C0 (s_J6_bitCount_0f7a4 l dC dI cy sq x_this_harmed ) mS_X7_169 hPc hDc hl rfl rfl (Nat.le_of_ble_eq_true rfl) ⟨(Nat.le_of_ble_eq_true rfl), (Nat.le_of_ble_eq_true rfl)⟩ ⟨(Nat.le_of_ble_eq_true rfl), (Nat.le_of_ble_eq_true rfl)⟩ dX7_told_57) (fun r3266 u3267 H locs hw hP hD hS => ?_)
    try dsimp only at hP hD hw
    have hP : va_P (dC, dI) vwCl [(a_this, .inr (7, [.ref a_this_machine, .ref a_this_plan, .int x_this_day, .ref a_this_trusts, .int x_this_rule, .int x_this_green, .int x_this_absent, .int x_this_asksReds, .ref a_this_cars, .ref a_this_gaps, .ref a_this_known, .ref a_this_left, .ref a_this_leaves, .int x_this_pressed, .int x_this_crossed, .int x_this_went, .int x_this_harmed])), (a_this_plan, .inr (4, [.int x_this_plan_cycle, .int x_this_plan_green, .int x_this_plan_rule, .int x_this_plan_least, .int x_this_plan_away, .int x_this_plan_statements, .int x_this_plan_kinds, .ref a_this_plan_calm, .ref a_this_plan_pace, .ref a_this_plan_trusts, .int x_this_plan_walkers, .ref a_this_plan_kindOf, .ref a_this_plan_comesAt, .ref a_this_plan_comers, .ref a_this_plan_names, .ref a_this_plan_code, .int x_this_plan_size, .ref a_this_plan_spans])), (a_this_leaves, .inl (cy 0, 12, .inl g_this_leaves)), (a_this_plan_comesAt, .inl (cy 0, 12, .inl g_this_plan_comesAt)), (a_this_left, .inl (cy 0, 300, .inl g_this_left))] H := hP
    have hD : va_D A [(a_this, .inr (7, [.ref a_this_machine, .ref a_this_plan, .int x_this_day, .ref a_this_trusts, .int x_this_rule, .int x_this_green, .int x_this_absent, .int x_this_asksReds, .ref a_this_cars, .ref a_this_gaps, .ref a_this_known, .ref a_this_left, .ref a_this_leaves, .int x_this_pressed, .int x_this_crossed, .int x_this_went, .int x_this_harmed])), (a_this_plan, .inr (4, [.int x_this_plan_cycle, .int x_this_plan_green, .int x_this_plan_rule, .int x_this_plan_least, .int x_this_plan_away, .int x_this_plan_statements, .int x_this_plan_kinds, .ref a_this_plan_calm, .ref a_this_plan_pace, .ref a_this_plan_trusts, .int x_this_plan_walkers, .ref a_this_plan_kindOf, .ref a_this_plan_comesAt, .ref a_this_plan_comers, .ref a_this_plan_names, .ref a_this_plan_code, .int x_this_plan_size, .ref a_this_plan_spans])), (a_this_leaves, .inl (cy 0, 12, .inl g_this_leaves)), (a_this_plan_comesAt, .inl (cy 0, 12, .inl g_this_plan_comesAt)), (a_this_left, .inl (cy 0, 300, .inl g_this_left))] := hD
    have h3268 := hw
    subst hQ; exact k_iret hx hb hr hlk rfl () hS True.intro hP hD (Nat.le_of_ble_eq_true rfl) (Nat.le_of_ble_eq_true rfl) dX7_told_60
  rcases Decidable.em (p0 = 3) with s3260_3 | s3260_3
  · subst s3260_3
    refine lv_tableIn (off := 60) (tgt := 61) hx hb dX7_told_1 (by decide) (by decide) (by decide) (by decide) ?_
    refine lv_aload_n hx hb dX7_told_61 rfl (lv_at hl 0 rfl) ?_
    refine k_get C0 fg_X7_63 hP 0 rfl rfl dX7_told_62 ?_
    refine k_ji hP hD hS hA [1] [0, 2, 3, 4] (wr := [(a_this, .inr (7, [.ref a_this_machine, .ref a_this_plan, .int x_this_day, .ref a_this_trusts, .int x_this_rule, .int x_this_green, .int x_this_absent, .int x_this_asksReds, .ref a_this_cars, .ref a_this_gaps, .ref a_this_known, .ref a_this_left, .ref a_this_leaves, .int x_this_pressed, .int x_this_crossed, .int x_this_went, .int x_this_harmed])), (a_this_leaves, .inl (cy 0, 12, .inl g_this_leaves)), (a_this_plan_comesAt, .inl (cy 0, 12, .inl g_this_plan_comesAt)), (a_this_left, .inl (cy 0, 300, .inl g_this_left))]) rfl rfl (by decide) (by decide) (by decide) 0 0 (Nat.le_of_ble_eq_true rfl) (Nat.le_of_ble_eq_true rfl) (fun hPc hDc => k_runV (As := []) (rest := []) C0 (s_X4_everyone l dC dI cy sq a_this_plan x_this_plan_cycle x_this_plan_green x_this_plan_rule x_this_plan_least x_this_plan_away x_this_plan_statements x_this_plan_kinds a_this_plan_calm a_this_plan_pace a_this_plan_trusts x_this_plan_walkers a_this_plan_kindOf a_this_plan_comesAt a_this_plan_comers a_this_plan_names a_this_plan_code x_this_plan_size a_this_plan_spans (ib_w 0 120 hx_this_plan_cycle (by decide)) (ib_w 0 99 hx_this_plan_least (by decide)) (ib_w 0 81 hx_this_plan_statements (by decide)) (ib_w 0 6 hx_this_plan_kinds (by decide)) (ib_w 0 12 hx_this_plan_walkers (by decide)) (ib_w 0 1600 hx_this_plan_size (by decide))) mV_X7_143 hPc hDc rfl rfl rfl hl rfl rfl (Nat.le_of_ble_eq_true rfl) ⟨(Nat.le_of_ble_eq_true rfl), (Nat.le_of_ble_eq_true rfl)⟩ ⟨(Nat.le_of_ble_eq_true rfl), (Nat.le_of_ble_eq_true rfl)⟩ dX7_told_65) (fun r3269 u3270 H locs hw hP hD hS => ?_)
    try dsimp only at hP hD hw
    have hP : va_P (dC, dI) vwCl [(a_this, .inr (7, [.ref a_this_machine, .ref a_this_plan, .int x_this_day, .ref a_this_trusts, .int x_this_rule, .int x_this_green, .int x_this_absent, .int x_this_asksReds, .ref a_this_cars, .ref a_this_gaps, .ref a_this_known, .ref a_this_left, .ref a_this_leaves, .int x_this_pressed, .int x_this_crossed, .int x_this_went, .int x_this_harmed])), (a_this_leaves, .inl (cy 0, 12, .inl g_this_leaves)), (a_this_plan_comesAt, .inl (cy 0, 12, .inl g_this_plan_comesAt)), (a_this_left, .inl (cy 0, 300, .inl g_this_left)), (a_this_plan, .inr (4, [.int x_this_plan_cycle, .int x_this_plan_green, .int x_this_plan_rule, .int x_this_plan_least, .int x_this_plan_away, .int x_this_plan_statements, .int x_this_plan_kinds, .ref a_this_plan_calm, .ref a_this_plan_pace, .ref a_this_plan_trusts, .int x_this_plan_walkers, .ref a_this_plan_kindOf, .ref a_this_plan_comesAt, .ref a_this_plan_comers, .ref a_this_plan_names, .ref a_this_plan_code, .int x_this_plan_size, .ref a_this_plan_spans]))] H := hP
    have hD : va_D A [(a_this, .inr (7, [.ref a_this_machine, .ref a_this_plan, .int x_this_day, .ref a_this_trusts, .int x_this_rule, .int x_this_green, .int x_this_absent, .int x_this_asksReds, .ref a_this_cars, .ref a_this_gaps, .ref a_this_known, .ref a_this_left, .ref a_this_leaves, .int x_this_pressed, .int x_this_crossed, .int x_this_went, .int x_this_harmed])), (a_this_leaves, .inl (cy 0, 12, .inl g_this_leaves)), (a_this_plan_comesAt, .inl (cy 0, 12, .inl g_this_plan_comesAt)), (a_this_left, .inl (cy 0, 300, .inl g_this_left)), (a_this_plan, .inr (4, [.int x_this_plan_cycle, .int x_this_plan_green, .int x_this_plan_rule, .int x_this_plan_least, .int x_this_plan_away, .int x_this_plan_statements, .int x_this_plan_kinds, .ref a_this_plan_calm, .ref a_this_plan_pace, .ref a_this_plan_trusts, .int x_this_plan_walkers, .ref a_this_plan_kindOf, .ref a_this_plan_comesAt, .ref a_this_plan_comers, .ref a_this_plan_names, .ref a_this_plan_code, .int x_this_plan_size, .ref a_this_plan_spans]))] := hD
    refine lv_aload_n hx hb dX7_told_68 rfl (lv_at hl 0 rfl) ?_
    refine k_get C0 fg_X7_25 hP 0 rfl rfl dX7_told_69 ?_
    refine lv_iconst (v := (-1)) hx hb dX7_told_72 (by decide) ?_
    refine lv_ixor hx hb dX7_told_73 ?_
    refine lv_topi (fun z3271 ez3271 => ?_)
    refine lv_iand hx hb dX7_told_74 ?_
    refine lv_topi (fun z3272 ez3272 => ?_)
    refine lv_aload_n hx hb dX7_told_75 rfl (lv_at hl 0 rfl) ?_
    refine k_get C0 fg_X7_50 hP 0 rfl rfl dX7_told_76 ?_
    refine lv_iconst (v := (-1)) hx hb dX7_told_79 (by decide) ?_
    refine lv_ixor hx hb dX7_told_80 ?_
    refine lv_topi (fun z3273 ez3273 => ?_)
    refine lv_iand hx hb dX7_told_81 ?_
    refine lv_topi (fun z3274 ez3274 => ?_)
    refine lv_aload_n hx hb dX7_told_82 rfl (lv_at hl 0 rfl) ?_
    refine k_get C0 fg_X7_53 hP 0 rfl rfl dX7_told_83 ?_
    refine lv_iconst (v := (-1)) hx hb dX7_told_86 (by decide) ?_
    refine lv_ixor hx hb dX7_told_87 ?_
    refine lv_topi (fun z3275 ez3275 => ?_)
    refine lv_iand hx hb dX7_told_88 ?_
    refine lv_topi (fun z3276 ez3276 => ?_)
    refine k_ji hP hD hS hA [] [0, 1, 2, 3, 4] (wr := [(a_this, .inr (7, [.ref a_this_machine, .ref a_this_plan, .int x_this_day, .ref a_this_trusts, .int x_this_rule, .int x_this_green, .int x_this_absent, .int x_this_asksReds, .ref a_this_cars, .ref a_this_gaps, .ref a_this_known, .ref a_this_left, .ref a_this_leaves, .int x_this_pressed, .int x_this_crossed, .int x_this_went, .int x_this_harmed])), (a_this_leaves, .inl (cy 0, 12, .inl g_this_leaves)), (a_this_plan_comesAt, .inl (cy 0, 12, .inl g_this_plan_comesAt)), (a_this_left, .inl (cy 0, 300, .inl g_this_left)), (a_this_plan, .inr (4, [.int x_this_plan_cycle, .int x_this_plan_green, .int x_this_plan_rule, .int x_this_plan_least, .int x_this_plan_away, .int x_this_plan_statements, .int x_this_plan_kinds, .ref a_this_plan_calm, .ref a_this_plan_pace, .ref a_this_plan_trusts, .int x_this_plan_walkers, .ref a_this_plan_kindOf, .ref a_this_plan_comesAt, .ref a_this_plan_comers, .ref a_this_plan_names, .ref a_this_plan_code, .int x_this_plan_size, .ref a_this_plan_spans]))]) rfl rfl (by decide) (by decide) (by decide) 0 0 (Nat.le_of_ble_eq_true rfl) (Nat.le_of_ble_eq_true rfl) (fun hPc hDc => k_runS (As := [.int z3276]) (rest := []) C0 (s_J6_bitCount_0f7a4 l dC dI cy sq z3276 ) mS_X7_169 hPc hDc hl rfl rfl (Nat.le_of_ble_eq_true rfl) ⟨(Nat.le_of_ble_eq_true rfl), (Nat.le_of_ble_eq_true rfl)⟩ ⟨(Nat.le_of_ble_eq_true rfl), (Nat.le_of_ble_eq_true rfl)⟩ dX7_told_89) (fun r3277 u3278 H locs hw hP hD hS => ?_)
    try dsimp only at hP hD hw
    have hP : va_P (dC, dI) vwCl [(a_this, .inr (7, [.ref a_this_machine, .ref a_this_plan, .int x_this_day, .ref a_this_trusts, .int x_this_rule, .int x_this_green, .int x_this_absent, .int x_this_asksReds, .ref a_this_cars, .ref a_this_gaps, .ref a_this_known, .ref a_this_left, .ref a_this_leaves, .int x_this_pressed, .int x_this_crossed, .int x_this_went, .int x_this_harmed])), (a_this_leaves, .inl (cy 0, 12, .inl g_this_leaves)), (a_this_plan_comesAt, .inl (cy 0, 12, .inl g_this_plan_comesAt)), (a_this_left, .inl (cy 0, 300, .inl g_this_left)), (a_this_plan, .inr (4, [.int x_this_plan_cycle, .int x_this_plan_green, .int x_this_plan_rule, .int x_this_plan_least, .int x_this_plan_away, .int x_this_plan_statements, .int x_this_plan_kinds, .ref a_this_plan_calm, .ref a_this_plan_pace, .ref a_this_plan_trusts, .int x_this_plan_walkers, .ref a_this_plan_kindOf, .ref a_this_plan_comesAt, .ref a_this_plan_comers, .ref a_this_plan_names, .ref a_this_plan_code, .int x_this_plan_size, .ref a_this_plan_spans]))] H := hP
    have hD : va_D A [(a_this, .inr (7, [.ref a_this_machine, .ref a_this_plan, .int x_this_day, .ref a_this_trusts, .int x_this_rule, .int x_this_green, .int x_this_absent, .int x_this_asksReds, .ref a_this_cars, .ref a_this_gaps, .ref a_this_known, .ref a_this_left, .ref a_this_leaves, .int x_this_pressed, .int x_this_crossed, .int x_this_went, .int x_this_harmed])), (a_this_leaves, .inl (cy 0, 12, .inl g_this_leaves)), (a_this_plan_comesAt, .inl (cy 0, 12, .inl g_this_plan_comesAt)), (a_this_left, .inl (cy 0, 300, .inl g_this_left)), (a_this_plan, .inr (4, [.int x_this_plan_cycle, .int x_this_plan_green, .int x_this_plan_rule, .int x_this_plan_least, .int x_this_plan_away, .int x_this_plan_statements, .int x_this_plan_kinds, .ref a_this_plan_calm, .ref a_this_plan_pace, .ref a_this_plan_trusts, .int x_this_plan_walkers, .ref a_this_plan_kindOf, .ref a_this_plan_comesAt, .ref a_this_plan_comers, .ref a_this_plan_names, .ref a_this_plan_code, .int x_this_plan_size, .ref a_this_plan_spans]))] := hD
    have h3279 := hw
    subst hQ; exact k_iret hx hb hr hlk rfl () hS True.intro (hP.sub [0, 4, 1, 2, 3] rfl) (hD.sub [0, 4, 1, 2, 3] (by decide) rfl) (Nat.le_of_ble_eq_true rfl) (Nat.le_of_ble_eq_true rfl) dX7_told_92
  rcases Decidable.em (p0 = 4) with s3260_4 | s3260_4
  · subst s3260_4
    refine lv_tableIn (off := 92) (tgt := 93) hx hb dX7_told_1 (by decide) (by decide) (by decide) (by decide) ?_
    refine lv_aload_n hx hb dX7_told_93 rfl (lv_at hl 0 rfl) ?_
    refine k_ji hP hD hS hA [0, 4, 1, 2] [3] (wr := [(a_this_plan_comesAt, .inl (cy 0, 12, .inl g_this_plan_comesAt))]) rfl rfl (by decide) (by decide) (by decide) 0 0 (Nat.le_of_ble_eq_true rfl) (Nat.le_of_ble_eq_true rfl) (fun hPc hDc => k_runV (As := []) (rest := []) C0 (s_X7_greensForNobody l dC dI cy sq a_this a_this_machine a_this_plan x_this_plan_cycle x_this_plan_green x_this_plan_rule x_this_plan_least x_this_plan_away x_this_plan_statements x_this_plan_kinds a_this_plan_calm a_this_plan_pace a_this_plan_trusts x_this_plan_walkers a_this_plan_kindOf a_this_plan_comesAt a_this_plan_comers a_this_plan_names a_this_plan_code x_this_plan_size a_this_plan_spans x_this_day a_this_trusts x_this_rule x_this_green x_this_absent x_this_asksReds a_this_cars a_this_gaps a_this_known a_this_left g_this_left a_this_leaves g_this_leaves x_this_pressed x_this_crossed x_this_went x_this_harmed (ib_w 0 120 hx_this_plan_cycle (by decide)) (ib_w 0 99 hx_this_plan_least (by decide)) (ib_w 0 81 hx_this_plan_statements (by decide)) (ib_w 0 6 hx_this_plan_kinds (by decide)) (ib_w 0 12 hx_this_plan_walkers (by decide)) (ib_w 0 1600 hx_this_plan_size (by decide)) (ib_w 0 1 hx_this_asksReds (by decide))) mV_X7_174 hPc hDc rfl rfl rfl hl rfl rfl (Nat.le_of_ble_eq_true rfl) ⟨(Nat.le_of_ble_eq_true rfl), (Nat.le_of_ble_eq_true rfl)⟩ ⟨(Nat.le_of_ble_eq_true rfl), (Nat.le_of_ble_eq_true rfl)⟩ dX7_told_94) (fun r3280 u3281 H locs hw hP hD hS => ?_)
    try dsimp only at hP hD hw
    have hP : va_P (dC, dI) vwCl [(a_this_plan_comesAt, .inl (cy 0, 12, .inl g_this_plan_comesAt)), (a_this, .inr (7, [.ref a_this_machine, .ref a_this_plan, .int x_this_day, .ref a_this_trusts, .int x_this_rule, .int x_this_green, .int x_this_absent, .int x_this_asksReds, .ref a_this_cars, .ref a_this_gaps, .ref a_this_known, .ref a_this_left, .ref a_this_leaves, .int x_this_pressed, .int x_this_crossed, .int x_this_went, .int x_this_harmed])), (a_this_left, .inl (cy 0, 300, .inl g_this_left)), (a_this_plan, .inr (4, [.int x_this_plan_cycle, .int x_this_plan_green, .int x_this_plan_rule, .int x_this_plan_least, .int x_this_plan_away, .int x_this_plan_statements, .int x_this_plan_kinds, .ref a_this_plan_calm, .ref a_this_plan_pace, .ref a_this_plan_trusts, .int x_this_plan_walkers, .ref a_this_plan_kindOf, .ref a_this_plan_comesAt, .ref a_this_plan_comers, .ref a_this_plan_names, .ref a_this_plan_code, .int x_this_plan_size, .ref a_this_plan_spans])), (a_this_leaves, .inl (cy 0, 12, .inl g_this_leaves))] H := hP
    have hD : va_D A [(a_this_plan_comesAt, .inl (cy 0, 12, .inl g_this_plan_comesAt)), (a_this, .inr (7, [.ref a_this_machine, .ref a_this_plan, .int x_this_day, .ref a_this_trusts, .int x_this_rule, .int x_this_green, .int x_this_absent, .int x_this_asksReds, .ref a_this_cars, .ref a_this_gaps, .ref a_this_known, .ref a_this_left, .ref a_this_leaves, .int x_this_pressed, .int x_this_crossed, .int x_this_went, .int x_this_harmed])), (a_this_left, .inl (cy 0, 300, .inl g_this_left)), (a_this_plan, .inr (4, [.int x_this_plan_cycle, .int x_this_plan_green, .int x_this_plan_rule, .int x_this_plan_least, .int x_this_plan_away, .int x_this_plan_statements, .int x_this_plan_kinds, .ref a_this_plan_calm, .ref a_this_plan_pace, .ref a_this_plan_trusts, .int x_this_plan_walkers, .ref a_this_plan_kindOf, .ref a_this_plan_comesAt, .ref a_this_plan_comers, .ref a_this_plan_names, .ref a_this_plan_code, .int x_this_plan_size, .ref a_this_plan_spans])), (a_this_leaves, .inl (cy 0, 12, .inl g_this_leaves))] := hD
    subst hQ; exact k_iret hx hb hr hlk rfl () hS True.intro (hP.sub [1, 3, 4, 0, 2] rfl) (hD.sub [1, 3, 4, 0, 2] (by decide) rfl) (Nat.le_of_ble_eq_true rfl) (Nat.le_of_ble_eq_true rfl) dX7_told_97
  rcases Decidable.em (p0 = 5) with s3260_5 | s3260_5
  · subst s3260_5
    refine lv_tableIn (off := 97) (tgt := 98) hx hb dX7_told_1 (by decide) (by decide) (by decide) (by decide) ?_
    refine lv_aload_n hx hb dX7_told_98 rfl (lv_at hl 0 rfl) ?_
    refine k_get C0 fg_X7_47 hP 0 rfl rfl dX7_told_99 ?_
    refine k_ji hP hD hS hA [] [0, 1, 2, 3, 4] (wr := [(a_this, .inr (7, [.ref a_this_machine, .ref a_this_plan, .int x_this_day, .ref a_this_trusts, .int x_this_rule, .int x_this_green, .int x_this_absent, .int x_this_asksReds, .ref a_this_cars, .ref a_this_gaps, .ref a_this_known, .ref a_this_left, .ref a_this_leaves, .int x_this_pressed, .int x_this_crossed, .int x_this_went, .int x_this_harmed])), (a_this_plan, .inr (4, [.int x_this_plan_cycle, .int x_this_plan_green, .int x_this_plan_rule, .int x_this_plan_least, .int x_this_plan_away, .int x_this_plan_statements, .int x_this_plan_kinds, .ref a_this_plan_calm, .ref a_this_plan_pace, .ref a_this_plan_trusts, .int x_this_plan_walkers, .ref a_this_plan_kindOf, .ref a_this_plan_comesAt, .ref a_this_plan_comers, .ref a_this_plan_names, .ref a_this_plan_code, .int x_this_plan_size, .ref a_this_plan_spans])), (a_this_leaves, .inl (cy 0, 12, .inl g_this_leaves)), (a_this_plan_comesAt, .inl (cy 0, 12, .inl g_this_plan_comesAt)), (a_this_left, .inl (cy 0, 300, .inl g_this_left))]) rfl rfl (by decide) (by decide) (by decide) 0 0 (Nat.le_of_ble_eq_true rfl) (Nat.le_of_ble_eq_true rfl) (fun hPc hDc => k_runS (As := [.int x_this_pressed]) (rest := []) C0 (s_J6_bitCount_0f7a4 l dC dI cy sq x_this_pressed ) mS_X7_169 hPc hDc hl rfl rfl (Nat.le_of_ble_eq_true rfl) ⟨(Nat.le_of_ble_eq_true rfl), (Nat.le_of_ble_eq_true rfl)⟩ ⟨(Nat.le_of_ble_eq_true rfl), (Nat.le_of_ble_eq_true rfl)⟩ dX7_told_102) (fun r3282 u3283 H locs hw hP hD hS => ?_)
    try dsimp only at hP hD hw
    have hP : va_P (dC, dI) vwCl [(a_this, .inr (7, [.ref a_this_machine, .ref a_this_plan, .int x_this_day, .ref a_this_trusts, .int x_this_rule, .int x_this_green, .int x_this_absent, .int x_this_asksReds, .ref a_this_cars, .ref a_this_gaps, .ref a_this_known, .ref a_this_left, .ref a_this_leaves, .int x_this_pressed, .int x_this_crossed, .int x_this_went, .int x_this_harmed])), (a_this_plan, .inr (4, [.int x_this_plan_cycle, .int x_this_plan_green, .int x_this_plan_rule, .int x_this_plan_least, .int x_this_plan_away, .int x_this_plan_statements, .int x_this_plan_kinds, .ref a_this_plan_calm, .ref a_this_plan_pace, .ref a_this_plan_trusts, .int x_this_plan_walkers, .ref a_this_plan_kindOf, .ref a_this_plan_comesAt, .ref a_this_plan_comers, .ref a_this_plan_names, .ref a_this_plan_code, .int x_this_plan_size, .ref a_this_plan_spans])), (a_this_leaves, .inl (cy 0, 12, .inl g_this_leaves)), (a_this_plan_comesAt, .inl (cy 0, 12, .inl g_this_plan_comesAt)), (a_this_left, .inl (cy 0, 300, .inl g_this_left))] H := hP
    have hD : va_D A [(a_this, .inr (7, [.ref a_this_machine, .ref a_this_plan, .int x_this_day, .ref a_this_trusts, .int x_this_rule, .int x_this_green, .int x_this_absent, .int x_this_asksReds, .ref a_this_cars, .ref a_this_gaps, .ref a_this_known, .ref a_this_left, .ref a_this_leaves, .int x_this_pressed, .int x_this_crossed, .int x_this_went, .int x_this_harmed])), (a_this_plan, .inr (4, [.int x_this_plan_cycle, .int x_this_plan_green, .int x_this_plan_rule, .int x_this_plan_least, .int x_this_plan_away, .int x_this_plan_statements, .int x_this_plan_kinds, .ref a_this_plan_calm, .ref a_this_plan_pace, .ref a_this_plan_trusts, .int x_this_plan_walkers, .ref a_this_plan_kindOf, .ref a_this_plan_comesAt, .ref a_this_plan_comers, .ref a_this_plan_names, .ref a_this_plan_code, .int x_this_plan_size, .ref a_this_plan_spans])), (a_this_leaves, .inl (cy 0, 12, .inl g_this_leaves)), (a_this_plan_comesAt, .inl (cy 0, 12, .inl g_this_plan_comesAt)), (a_this_left, .inl (cy 0, 300, .inl g_this_left))] := hD
    have h3284 := hw
    subst hQ; exact k_iret hx hb hr hlk rfl () hS True.intro hP hD (Nat.le_of_ble_eq_true rfl) (Nat.le_of_ble_eq_true rfl) dX7_told_105
  refine lv_tableOut (tgt := 106) hx hb dX7_told_1 (by simp only [← Int32.toInt_inj, kl0, kl1, kl2, kl3, kl4, kl5, kl6, kl7, kl60, klm1] at s3260_0 s3260_1 s3260_2 s3260_3 s3260_4 s3260_5; omega) (by decide) ?_
  refine lv_iconst (v := (-1)) hx hb dX7_told_106 (by decide) ?_
  subst hQ; exact k_iret hx hb hr hlk rfl () hS True.intro hP hD (Nat.le_of_ble_eq_true rfl) (Nat.le_of_ble_eq_true rfl) dX7_told_107
set_option maxHeartbeats 4000000 in
set_option maxRecDepth 100000 in
theorem s_X1_forget (l : Launch) (dC : Nat → ClassId) (dI : Nat → Nat → Nat) (cy : Nat → ClassId) (sq : Nat → Nat) (a_this : Nat) (a_this_street : Nat) (a_this_table : Nat) (x_this_tableKnown : Int32) (hx_this_tableKnown : ib x_this_tableKnown 0 1) : k_Met l yX1_forget cX1_forget 1 none { frames := 0, cells := 0, slots := 0, locals := 0 } dC dI cy sq [.ref a_this] [(a_this, .inr (1, [.ref a_this_street, .ref a_this_table, .int x_this_tableKnown]))] (k_Qv dC dI (fun (n0 : Int32) => ib n0 0 1) (fun n0 : Int32 => [(a_this, .inr (1, [.ref a_this_street, .ref a_this_table, .int n0]))])) := by
  refine k_ofW2 (by decide +kernel) (Nat.le_of_ble_eq_true rfl) ?_
  intro p e s m below meth c A ls H locs args Q hQ C0 hr hlk hin hP hD hA hS hl
  have C0 : k_cx p s m args c cX1_forget 1 RX1 dC dI cy sq := C0
  have hx := C0.1
  have hb := C0.2.1
  have hl : lv_has ls 1 [(0, .ref a_this)] := hl
  refine lv_aload_n hx hb dX1_forget_0 rfl (lv_at hl 0 rfl) ?_
  refine lv_iconst (v := 0) hx hb dX1_forget_1 (by decide) ?_
  refine k_put C0 fp_X1_15 hP hD hS 0 rfl (k_nb 0 (by decide)) (k_fb 0 (by decide)) (Nat.le_of_ble_eq_true rfl) dX1_forget_2 (fun H locs hP hD hS => ?_)
  have hP : va_P (dC, dI) vwCl [(a_this, .inr (1, [.ref a_this_street, .ref a_this_table, .int 0]))] H := hP
  have hD : va_D A [(a_this, .inr (1, [.ref a_this_street, .ref a_this_table, .int 0]))] := hD
  subst hQ; exact k_vret hx hb hr hlk 0 hS (ib_w 0 1 (ib_c 0 0 0 (by decide)) (by decide)) hP hD (Nat.le_of_ble_eq_true rfl) (Nat.le_of_ble_eq_true rfl) dX1_forget_5
set_option maxHeartbeats 4000000 in
set_option maxRecDepth 100000 in
theorem s_X2_clear (l : Launch) (dC : Nat → ClassId) (dI : Nat → Nat → Nat) (cy : Nat → ClassId) (sq : Nat → Nat) (a_this : Nat) (a_this_ring : Nat) (x_this_next : Int32) (x_this_count : Int32) (hx_this_next : ib x_this_next 0 19) (hx_this_count : ib x_this_count 0 20) : k_Met l yX2_clear cX2_clear 1 none { frames := 0, cells := 0, slots := 0, locals := 0 } dC dI cy sq [.ref a_this] [(a_this, .inr (2, [.ref a_this_ring, .int x_this_next, .int x_this_count]))] (k_Qv dC dI (fun (n0 : Int32) => ib n0 0 20) (fun n0 : Int32 => [(a_this, .inr (2, [.ref a_this_ring, .int x_this_next, .int n0]))])) := by
  refine k_ofW2 (by decide +kernel) (Nat.le_of_ble_eq_true rfl) ?_
  intro p e s m below meth c A ls H locs args Q hQ C0 hr hlk hin hP hD hA hS hl
  have C0 : k_cx p s m args c cX2_clear 1 RX2 dC dI cy sq := C0
  have hx := C0.1
  have hb := C0.2.1
  have hl : lv_has ls 1 [(0, .ref a_this)] := hl
  refine lv_aload_n hx hb dX2_clear_0 rfl (lv_at hl 0 rfl) ?_
  refine lv_iconst (v := 0) hx hb dX2_clear_1 (by decide) ?_
  refine k_put C0 fp_X2_21 hP hD hS 0 rfl rfl rfl (Nat.le_of_ble_eq_true rfl) dX2_clear_2 (fun H locs hP hD hS => ?_)
  have hP : va_P (dC, dI) vwCl [(a_this, .inr (2, [.ref a_this_ring, .int x_this_next, .int 0]))] H := hP
  have hD : va_D A [(a_this, .inr (2, [.ref a_this_ring, .int x_this_next, .int 0]))] := hD
  subst hQ; exact k_vret hx hb hr hlk 0 hS (ib_w 0 20 (ib_c 0 0 0 (by decide)) (by decide)) hP hD (Nat.le_of_ble_eq_true rfl) (Nat.le_of_ble_eq_true rfl) dX2_clear_5
set_option maxHeartbeats 4000000 in
set_option maxRecDepth 100000 in
theorem s_X3_within (l : Launch) (dC : Nat → ClassId) (dI : Nat → Nat → Nat) (cy : Nat → ClassId) (sq : Nat → Nat) (p0 : Int64)  : k_Met l yX3_within cX3_within 2 (some .int) { frames := 0, cells := 0, slots := 0, locals := 0 } dC dI cy sq [.long p0] [] (k_Qi dC dI (fun (r : Int32) (_ : Unit) => True) (fun _ : Unit => [])) := by
  refine k_ofW2 (by decide +kernel) (Nat.le_of_ble_eq_true rfl) ?_
  intro p e s m below meth c A ls H locs args Q hQ C0 hr hlk hin hP hD hA hS hl
  have C0 : k_cx p s m args c cX3_within 2 RX3 dC dI cy sq := C0
  have hx := C0.1
  have hb := C0.2.1
  have hl : lv_has ls 2 [(0, .long p0)] := hl
  refine lv_lload_n hx hb dX3_within_0 rfl (lv_at hl 0 rfl) ?_
  refine lv_ldc2 hx hb C0.2.2.2.1 (C0.2.2.2.2.1 _ wd861) dX3_within_1 ?_
  refine W.lcmp hx hb dX3_within_4 ?_
  refine lv_topi (fun z3884 ez3884 => ?_)
  have h3885 : ib z3884 (-1) 1 := by rw [ez3884]; exact ib_cmp _ _
  refine lv_if_le (tgt := 11) hx hb dX3_within_5 (by decide) (fun c3886 => ?_) (fun c3886 => ?_)
  · have h3887 := ib_le h3885 (ib_c 0 0 0 (by decide)) c3886
    have h3888 : ib z3884 (-1) 0 := ib_w (-1) 0 h3887.1 (by decide)
    refine lv_lload_n hx hb dX3_within_11 rfl (lv_at hl 0 rfl) ?_
    refine lv_ldc2 hx hb C0.2.2.2.1 (C0.2.2.2.2.1 _ wd863) dX3_within_12 ?_
    refine W.lcmp hx hb dX3_within_15 ?_
    refine lv_topi (fun z3889 ez3889 => ?_)
    have h3890 : ib z3889 (-1) 1 := by rw [ez3889]; exact ib_cmp _ _
    refine lv_if_ge (tgt := 24) hx hb dX3_within_16 (by decide) (fun c3891 => ?_) (fun c3891 => ?_)
    · have h3892 := ib_le (ib_c 0 0 0 (by decide)) h3890 c3891
      have h3893 : ib z3889 0 1 := ib_w 0 1 h3892.2 (by decide)
      refine lv_lload_n hx hb dX3_within_24 rfl (lv_at hl 0 rfl) ?_
      refine lv_l2i hx hb dX3_within_25 rfl ?_
      refine lv_topi (fun z3894 ez3894 => ?_)
      subst hQ; exact k_iret hx hb hr hlk rfl () hS True.intro hP hD (Nat.le_of_ble_eq_true rfl) (Nat.le_of_ble_eq_true rfl) dX3_within_26
    · have h3895 := ib_nle (ib_c 0 0 0 (by decide)) h3890 c3891
      have h3896 : ib z3889 (-1) (-1) := ib_w (-1) (-1) h3895.2 (by decide)
      refine lv_ldc hx hb C0.2.2.2.1 (C0.2.2.2.2.1 _ wd864) dX3_within_19 ?_
      refine lv_goto (tgt := 26) hx hb dX3_within_21 (by decide) ?_
      subst hQ; exact k_iret hx hb hr hlk rfl () hS True.intro hP hD (Nat.le_of_ble_eq_true rfl) (Nat.le_of_ble_eq_true rfl) dX3_within_26
  · have h3897 := ib_nle h3885 (ib_c 0 0 0 (by decide)) c3886
    have h3898 : ib z3884 1 1 := ib_w 1 1 h3897.1 (by decide)
    refine lv_ldc hx hb C0.2.2.2.1 (C0.2.2.2.2.1 _ wd862) dX3_within_8 ?_
    subst hQ; exact k_iret hx hb hr hlk rfl () hS True.intro hP hD (Nat.le_of_ble_eq_true rfl) (Nat.le_of_ble_eq_true rfl) dX3_within_10
set_option maxHeartbeats 4000000 in
set_option maxRecDepth 100000 in
theorem s_X4_allowsGreen (l : Launch) (dC : Nat → ClassId) (dI : Nat → Nat → Nat) (cy : Nat → ClassId) (sq : Nat → Nat) (a_this : Nat) (x_this_cycle : Int32) (x_this_green : Int32) (x_this_rule : Int32) (x_this_least : Int32) (x_this_away : Int32) (x_this_statements : Int32) (x_this_kinds : Int32) (a_this_calm : Nat) (a_this_pace : Nat) (a_this_trusts : Nat) (x_this_walkers : Int32) (a_this_kindOf : Nat) (a_this_comesAt : Nat) (a_this_comers : Nat) (a_this_names : Nat) (a_this_code : Nat) (x_this_size : Int32) (a_this_spans : Nat) (p0 : Int32) (hx_this_cycle : ib x_this_cycle 0 120) (hx_this_least : ib x_this_least 0 99) (hx_this_statements : ib x_this_statements 0 81) (hx_this_kinds : ib x_this_kinds 0 6) (hx_this_walkers : ib x_this_walkers 0 12) (hx_this_size : ib x_this_size 0 1600) : k_Met l yX4_allowsGreen cX4_allowsGreen 2 (some .boolean) { frames := 0, cells := 0, slots := 0, locals := 0 } dC dI cy sq [.ref a_this, .int p0] [(a_this, .inr (4, [.int x_this_cycle, .int x_this_green, .int x_this_rule, .int x_this_least, .int x_this_away, .int x_this_statements, .int x_this_kinds, .ref a_this_calm, .ref a_this_pace, .ref a_this_trusts, .int x_this_walkers, .ref a_this_kindOf, .ref a_this_comesAt, .ref a_this_comers, .ref a_this_names, .ref a_this_code, .int x_this_size, .ref a_this_spans]))] (k_Qi dC dI (fun (r : Int32) (_ : Unit) => ib r 0 1 ∧ (¬ r = 0 → ib x_this_cycle 2 120) ∧ (¬ r = 0 → ib p0 1 60)) (fun _ : Unit => [(a_this, .inr (4, [.int x_this_cycle, .int x_this_green, .int x_this_rule, .int x_this_least, .int x_this_away, .int x_this_statements, .int x_this_kinds, .ref a_this_calm, .ref a_this_pace, .ref a_this_trusts, .int x_this_walkers, .ref a_this_kindOf, .ref a_this_comesAt, .ref a_this_comers, .ref a_this_names, .ref a_this_code, .int x_this_size, .ref a_this_spans]))])) := by
  refine k_ofW2 (by decide +kernel) (Nat.le_of_ble_eq_true rfl) ?_
  intro p e s m below meth c A ls H locs args Q hQ C0 hr hlk hin hP hD hA hS hl
  have C0 : k_cx p s m args c cX4_allowsGreen 2 RX4 dC dI cy sq := C0
  have hx := C0.1
  have hb := C0.2.1
  have hl : lv_has ls 2 [(0, .ref a_this), (1, .int p0)] := hl
  refine lv_iload_n hx hb dX4_allowsGreen_0 rfl (lv_at hl 1 rfl) ?_
  refine lv_iconst (v := 1) hx hb dX4_allowsGreen_1 (by decide) ?_
  refine lv_icmp_lt (tgt := 23) hx hb dX4_allowsGreen_2 (by decide) (fun c4049 => ?_) (fun c4049 => ?_)
  · have h4050 := ib_lt (ib_any p0) (ib_c 1 1 1 (by decide)) c4049
    have h4051 : ib p0 (-2147483648) 0 := ib_w (-2147483648) 0 h4050.1 (by decide)
    refine lv_iconst (v := 0) hx hb dX4_allowsGreen_23 (by decide) ?_
    subst hQ; exact k_iret hx hb hr hlk (k_nb 0 (by decide)) () hS ⟨ib_w 0 1 (ib_c 0 0 0 (by decide)) (by decide), fun h9 => absurd rfl h9, fun h9 => absurd rfl h9⟩ hP hD (Nat.le_of_ble_eq_true rfl) (Nat.le_of_ble_eq_true rfl) dX4_allowsGreen_24
  · have h4052 := ib_nlt (ib_any p0) (ib_c 1 1 1 (by decide)) c4049
    have h4053 : ib p0 1 2147483647 := ib_w 1 2147483647 h4052.1 (by decide)
    refine lv_iload_n hx hb dX4_allowsGreen_5 rfl (lv_at hl 1 rfl) ?_
    refine lv_bipush (v := 60) hx hb dX4_allowsGreen_6 (by decide) ?_
    refine lv_icmp_gt (tgt := 23) hx hb dX4_allowsGreen_8 (by decide) (fun c4054 => ?_) (fun c4054 => ?_)
    · have h4055 := ib_lt (ib_c 60 60 60 (by decide)) h4053 c4054
      have h4056 : ib p0 61 2147483647 := ib_w 61 2147483647 h4055.2 (by decide)
      refine lv_iconst (v := 0) hx hb dX4_allowsGreen_23 (by decide) ?_
      subst hQ; exact k_iret hx hb hr hlk (k_nb 0 (by decide)) () hS ⟨ib_w 0 1 (ib_c 0 0 0 (by decide)) (by decide), fun h9 => absurd rfl h9, fun h9 => absurd rfl h9⟩ hP hD (Nat.le_of_ble_eq_true rfl) (Nat.le_of_ble_eq_true rfl) dX4_allowsGreen_24
    · have h4057 := ib_nlt (ib_c 60 60 60 (by decide)) h4053 c4054
      have h4058 : ib p0 1 60 := ib_w 1 60 h4057.2 (by decide)
      refine lv_iload_n hx hb dX4_allowsGreen_11 rfl (lv_at hl 1 rfl) ?_
      refine lv_aload_n hx hb dX4_allowsGreen_12 rfl (lv_at hl 0 rfl) ?_
      refine k_get C0 fg_X4_39 hP 0 rfl rfl dX4_allowsGreen_13 ?_
      refine lv_icmp_ge (tgt := 23) hx hb dX4_allowsGreen_16 (by decide) (fun c4059 => ?_) (fun c4059 => ?_)
      · have h4060 := ib_le hx_this_cycle h4058 c4059
        have h4061 : ib x_this_cycle 0 60 := ib_w 0 60 h4060.1 (by decide)
        refine lv_iconst (v := 0) hx hb dX4_allowsGreen_23 (by decide) ?_
        subst hQ; exact k_iret hx hb hr hlk (k_nb 0 (by decide)) () hS ⟨ib_w 0 1 (ib_c 0 0 0 (by decide)) (by decide), fun h9 => absurd rfl h9, fun h9 => absurd rfl h9⟩ hP hD (Nat.le_of_ble_eq_true rfl) (Nat.le_of_ble_eq_true rfl) dX4_allowsGreen_24
      · have h4062 := ib_nle hx_this_cycle h4058 c4059
        have h4063 : ib x_this_cycle 2 120 := ib_w 2 120 h4062.1 (by decide)
        refine lv_iconst (v := 1) hx hb dX4_allowsGreen_19 (by decide) ?_
        refine lv_goto (tgt := 24) hx hb dX4_allowsGreen_20 (by decide) ?_
        subst hQ; exact k_iret hx hb hr hlk (k_nb 1 (by decide)) () hS ⟨ib_w 0 1 (ib_c 1 1 1 (by decide)) (by decide), fun _ => ib_w 2 120 h4063 (by decide), fun _ => ib_w 1 60 h4058 (by decide)⟩ hP hD (Nat.le_of_ble_eq_true rfl) (Nat.le_of_ble_eq_true rfl) dX4_allowsGreen_24
set_option maxHeartbeats 4000000 in
set_option maxRecDepth 100000 in
theorem s_X4_clear (l : Launch) (dC : Nat → ClassId) (dI : Nat → Nat → Nat) (cy : Nat → ClassId) (sq : Nat → Nat) (a_this : Nat) (x_this_cycle : Int32) (x_this_green : Int32) (x_this_rule : Int32) (x_this_least : Int32) (x_this_away : Int32) (x_this_statements : Int32) (x_this_kinds : Int32) (a_this_calm : Nat) (a_this_pace : Nat) (a_this_trusts : Nat) (x_this_walkers : Int32) (a_this_kindOf : Nat) (a_this_comesAt : Nat) (a_this_comers : Nat) (g_this_comers : Nat → Int32) (a_this_names : Nat) (a_this_code : Nat) (x_this_size : Int32) (a_this_spans : Nat) (g_this_spans : Nat → Int32) (hx_this_cycle : ib x_this_cycle 0 120) (hx_this_least : ib x_this_least 0 99) (hx_this_statements : ib x_this_statements 0 81) (hx_this_kinds : ib x_this_kinds 0 6) (hx_this_walkers : ib x_this_walkers 0 12) (hx_this_size : ib x_this_size 0 1600) (hg_this_spans : ia g_this_spans 6 0 1600) : k_Met l yX4_clear cX4_clear 1 none { frames := 1, cells := 0, slots := 0, locals := 23 } dC dI cy sq [.ref a_this] [(a_this, .inr (4, [.int x_this_cycle, .int x_this_green, .int x_this_rule, .int x_this_least, .int x_this_away, .int x_this_statements, .int x_this_kinds, .ref a_this_calm, .ref a_this_pace, .ref a_this_trusts, .int x_this_walkers, .ref a_this_kindOf, .ref a_this_comesAt, .ref a_this_comers, .ref a_this_names, .ref a_this_code, .int x_this_size, .ref a_this_spans])), (a_this_comers, .inl (cy 0, 200, .inl g_this_comers)), (a_this_spans, .inl (cy 0, 6, .inl g_this_spans))] (k_Qv dC dI (fun (u : Int32 × Int32 × Int32 × Int32 × Int32 × Int32 × (Nat → Int32) × (Nat → Int32)) => match u with | (n0, n1, n2, n3, n4, n5, n6, n7) => ib n0 0 120 ∧ ib n1 0 0 ∧ ib n2 0 81 ∧ ib n3 0 6 ∧ ib n4 0 12 ∧ ib n5 0 1600 ∧ ia n7 6 0 1600) (fun u : Int32 × Int32 × Int32 × Int32 × Int32 × Int32 × (Nat → Int32) × (Nat → Int32) => match u with | (n0, n1, n2, n3, n4, n5, n6, n7) => [(a_this, .inr (4, [.int n0, .int x_this_green, .int x_this_rule, .int x_this_least, .int n1, .int n2, .int n3, .ref a_this_calm, .ref a_this_pace, .ref a_this_trusts, .int n4, .ref a_this_kindOf, .ref a_this_comesAt, .ref a_this_comers, .ref a_this_names, .ref a_this_code, .int n5, .ref a_this_spans])), (a_this_comers, .inl (cy 0, 200, .inl n6)), (a_this_spans, .inl (cy 0, 6, .inl n7))])) := by
  refine k_ofW2 (by decide +kernel) (Nat.le_of_ble_eq_true rfl) ?_
  intro p e s m below meth c A ls H locs args Q hQ C0 hr hlk hin hP hD hA hS hl
  have C0 : k_cx p s m args c cX4_clear 1 RX4 dC dI cy sq := C0
  have hx := C0.1
  have hb := C0.2.1
  have hl : lv_has ls 1 [(0, .ref a_this)] := hl
  refine lv_aload_n hx hb dX4_clear_0 rfl (lv_at hl 0 rfl) ?_
  refine lv_iconst (v := 0) hx hb dX4_clear_1 (by decide) ?_
  refine k_put C0 fp_X4_39 hP hD hS 0 rfl rfl rfl (Nat.le_of_ble_eq_true rfl) dX4_clear_2 (fun H locs hP hD hS => ?_)
  have hP : va_P (dC, dI) vwCl [(a_this, .inr (4, [.int 0, .int x_this_green, .int x_this_rule, .int x_this_least, .int x_this_away, .int x_this_statements, .int x_this_kinds, .ref a_this_calm, .ref a_this_pace, .ref a_this_trusts, .int x_this_walkers, .ref a_this_kindOf, .ref a_this_comesAt, .ref a_this_comers, .ref a_this_names, .ref a_this_code, .int x_this_size, .ref a_this_spans])), (a_this_comers, .inl (cy 0, 200, .inl g_this_comers)), (a_this_spans, .inl (cy 0, 6, .inl g_this_spans))] H := hP
  have hD : va_D A [(a_this, .inr (4, [.int 0, .int x_this_green, .int x_this_rule, .int x_this_least, .int x_this_away, .int x_this_statements, .int x_this_kinds, .ref a_this_calm, .ref a_this_pace, .ref a_this_trusts, .int x_this_walkers, .ref a_this_kindOf, .ref a_this_comesAt, .ref a_this_comers, .ref a_this_names, .ref a_this_code, .int x_this_size, .ref a_this_spans])), (a_this_comers, .inl (cy 0, 200, .inl g_this_comers)), (a_this_spans, .inl (cy 0, 6, .inl g_this_spans))] := hD
  refine lv_aload_n hx hb dX4_clear_5 rfl (lv_at hl 0 rfl) ?_
  refine lv_iconst (v := 0) hx hb dX4_clear_6 (by decide) ?_
  refine k_put C0 fp_X4_43 hP hD hS 0 rfl rfl rfl (Nat.le_of_ble_eq_true rfl) dX4_clear_7 (fun H locs hP hD hS => ?_)
  have hP : va_P (dC, dI) vwCl [(a_this, .inr (4, [.int 0, .int x_this_green, .int x_this_rule, .int x_this_least, .int 0, .int x_this_statements, .int x_this_kinds, .ref a_this_calm, .ref a_this_pace, .ref a_this_trusts, .int x_this_walkers, .ref a_this_kindOf, .ref a_this_comesAt, .ref a_this_comers, .ref a_this_names, .ref a_this_code, .int x_this_size, .ref a_this_spans])), (a_this_comers, .inl (cy 0, 200, .inl g_this_comers)), (a_this_spans, .inl (cy 0, 6, .inl g_this_spans))] H := hP
  have hD : va_D A [(a_this, .inr (4, [.int 0, .int x_this_green, .int x_this_rule, .int x_this_least, .int 0, .int x_this_statements, .int x_this_kinds, .ref a_this_calm, .ref a_this_pace, .ref a_this_trusts, .int x_this_walkers, .ref a_this_kindOf, .ref a_this_comesAt, .ref a_this_comers, .ref a_this_names, .ref a_this_code, .int x_this_size, .ref a_this_spans])), (a_this_comers, .inl (cy 0, 200, .inl g_this_comers)), (a_this_spans, .inl (cy 0, 6, .inl g_this_spans))] := hD
  refine lv_aload_n hx hb dX4_clear_10 rfl (lv_at hl 0 rfl) ?_
  refine lv_iconst (v := 0) hx hb dX4_clear_11 (by decide) ?_
  refine k_put C0 fp_X4_46 hP hD hS 0 rfl rfl rfl (Nat.le_of_ble_eq_true rfl) dX4_clear_12 (fun H locs hP hD hS => ?_)
  have hP : va_P (dC, dI) vwCl [(a_this, .inr (4, [.int 0, .int x_this_green, .int x_this_rule, .int x_this_least, .int 0, .int 0, .int x_this_kinds, .ref a_this_calm, .ref a_this_pace, .ref a_this_trusts, .int x_this_walkers, .ref a_this_kindOf, .ref a_this_comesAt, .ref a_this_comers, .ref a_this_names, .ref a_this_code, .int x_this_size, .ref a_this_spans])), (a_this_comers, .inl (cy 0, 200, .inl g_this_comers)), (a_this_spans, .inl (cy 0, 6, .inl g_this_spans))] H := hP
  have hD : va_D A [(a_this, .inr (4, [.int 0, .int x_this_green, .int x_this_rule, .int x_this_least, .int 0, .int 0, .int x_this_kinds, .ref a_this_calm, .ref a_this_pace, .ref a_this_trusts, .int x_this_walkers, .ref a_this_kindOf, .ref a_this_comesAt, .ref a_this_comers, .ref a_this_names, .ref a_this_code, .int x_this_size, .ref a_this_spans])), (a_this_comers, .inl (cy 0, 200, .inl g_this_comers)), (a_this_spans, .inl (cy 0, 6, .inl g_this_spans))] := hD
  refine lv_aload_n hx hb dX4_clear_15 rfl (lv_at hl 0 rfl) ?_
  refine lv_iconst (v := 0) hx hb dX4_clear_16 (by decide) ?_
  refine k_put C0 fp_X4_49 hP hD hS 0 rfl rfl rfl (Nat.le_of_ble_eq_true rfl) dX4_clear_17 (fun H locs hP hD hS => ?_)
  have hP : va_P (dC, dI) vwCl [(a_this, .inr (4, [.int 0, .int x_this_green, .int x_this_rule, .int x_this_least, .int 0, .int 0, .int 0, .ref a_this_calm, .ref a_this_pace, .ref a_this_trusts, .int x_this_walkers, .ref a_this_kindOf, .ref a_this_comesAt, .ref a_this_comers, .ref a_this_names, .ref a_this_code, .int x_this_size, .ref a_this_spans])), (a_this_comers, .inl (cy 0, 200, .inl g_this_comers)), (a_this_spans, .inl (cy 0, 6, .inl g_this_spans))] H := hP
  have hD : va_D A [(a_this, .inr (4, [.int 0, .int x_this_green, .int x_this_rule, .int x_this_least, .int 0, .int 0, .int 0, .ref a_this_calm, .ref a_this_pace, .ref a_this_trusts, .int x_this_walkers, .ref a_this_kindOf, .ref a_this_comesAt, .ref a_this_comers, .ref a_this_names, .ref a_this_code, .int x_this_size, .ref a_this_spans])), (a_this_comers, .inl (cy 0, 200, .inl g_this_comers)), (a_this_spans, .inl (cy 0, 6, .inl g_this_spans))] := hD
  refine lv_aload_n hx hb dX4_clear_20 rfl (lv_at hl 0 rfl) ?_
  refine lv_iconst (v := 0) hx hb dX4_clear_21 (by decide) ?_
  refine k_put C0 fp_X4_52 hP hD hS 0 rfl rfl rfl (Nat.le_of_ble_eq_true rfl) dX4_clear_22 (fun H locs hP hD hS => ?_)
  have hP : va_P (dC, dI) vwCl [(a_this, .inr (4, [.int 0, .int x_this_green, .int x_this_rule, .int x_this_least, .int 0, .int 0, .int 0, .ref a_this_calm, .ref a_this_pace, .ref a_this_trusts, .int 0, .ref a_this_kindOf, .ref a_this_comesAt, .ref a_this_comers, .ref a_this_names, .ref a_this_code, .int x_this_size, .ref a_this_spans])), (a_this_comers, .inl (cy 0, 200, .inl g_this_comers)), (a_this_spans, .inl (cy 0, 6, .inl g_this_spans))] H := hP
  have hD : va_D A [(a_this, .inr (4, [.int 0, .int x_this_green, .int x_this_rule, .int x_this_least, .int 0, .int 0, .int 0, .ref a_this_calm, .ref a_this_pace, .ref a_this_trusts, .int 0, .ref a_this_kindOf, .ref a_this_comesAt, .ref a_this_comers, .ref a_this_names, .ref a_this_code, .int x_this_size, .ref a_this_spans])), (a_this_comers, .inl (cy 0, 200, .inl g_this_comers)), (a_this_spans, .inl (cy 0, 6, .inl g_this_spans))] := hD
  refine lv_aload_n hx hb dX4_clear_25 rfl (lv_at hl 0 rfl) ?_
  refine lv_iconst (v := 0) hx hb dX4_clear_26 (by decide) ?_
  refine k_put C0 fp_X4_55 hP hD hS 0 rfl rfl rfl (Nat.le_of_ble_eq_true rfl) dX4_clear_27 (fun H locs hP hD hS => ?_)
  have hP : va_P (dC, dI) vwCl [(a_this, .inr (4, [.int 0, .int x_this_green, .int x_this_rule, .int x_this_least, .int 0, .int 0, .int 0, .ref a_this_calm, .ref a_this_pace, .ref a_this_trusts, .int 0, .ref a_this_kindOf, .ref a_this_comesAt, .ref a_this_comers, .ref a_this_names, .ref a_this_code, .int 0, .ref a_this_spans])), (a_this_comers, .inl (cy 0, 200, .inl g_this_comers)), (a_this_spans, .inl (cy 0, 6, .inl g_this_spans))] H := hP
  have hD : va_D A [(a_this, .inr (4, [.int 0, .int x_this_green, .int x_this_rule, .int x_this_least, .int 0, .int 0, .int 0, .ref a_this_calm, .ref a_this_pace, .ref a_this_trusts, .int 0, .ref a_this_kindOf, .ref a_this_comesAt, .ref a_this_comers, .ref a_this_names, .ref a_this_code, .int 0, .ref a_this_spans])), (a_this_comers, .inl (cy 0, 200, .inl g_this_comers)), (a_this_spans, .inl (cy 0, 6, .inl g_this_spans))] := hD
  refine lv_aload_n hx hb dX4_clear_30 rfl (lv_at hl 0 rfl) ?_
  refine k_get C0 fg_X4_27 hP 0 rfl rfl dX4_clear_31 ?_
  refine lv_iconst (v := 0) hx hb dX4_clear_34 (by decide) ?_
  refine k_jv hP hD hS hA [1] [0, 2] (wr := [(a_this, .inr (4, [.int 0, .int x_this_green, .int x_this_rule, .int x_this_least, .int 0, .int 0, .int 0, .ref a_this_calm, .ref a_this_pace, .ref a_this_trusts, .int 0, .ref a_this_kindOf, .ref a_this_comesAt, .ref a_this_comers, .ref a_this_names, .ref a_this_code, .int 0, .ref a_this_spans])), (a_this_spans, .inl (cy 0, 6, .inl g_this_spans))]) rfl rfl (by decide) (by decide) (by decide) 0 0 (Nat.le_of_ble_eq_true rfl) (Nat.le_of_ble_eq_true rfl) (fun hPc hDc => k_runS (As := [.ref a_this_comers, .int 0]) (rest := []) C0 (c_fill l dC dI cy sq a_this_comers 200 g_this_comers 0 (Nat.le_of_ble_eq_true rfl)) mS_X4_58 hPc hDc hl rfl rfl (Nat.le_of_ble_eq_true rfl) ⟨(Nat.le_of_ble_eq_true rfl), (Nat.le_of_ble_eq_true rfl)⟩ ⟨(Nat.le_of_ble_eq_true rfl), (Nat.le_of_ble_eq_true rfl)⟩ dX4_clear_35) (fun u4135 H locs hw hP hD hS => ?_)
  obtain ⟨f4136, ef4136⟩ : ∃ z, z = u4135 := ⟨_, rfl⟩; subst ef4136
  have hP : va_P (dC, dI) vwCl [(a_this, .inr (4, [.int 0, .int x_this_green, .int x_this_rule, .int x_this_least, .int 0, .int 0, .int 0, .ref a_this_calm, .ref a_this_pace, .ref a_this_trusts, .int 0, .ref a_this_kindOf, .ref a_this_comesAt, .ref a_this_comers, .ref a_this_names, .ref a_this_code, .int 0, .ref a_this_spans])), (a_this_spans, .inl (cy 0, 6, .inl g_this_spans)), (a_this_comers, .inl (cy 0, 200, .inl f4136))] H := hP
  have hD : va_D A [(a_this, .inr (4, [.int 0, .int x_this_green, .int x_this_rule, .int x_this_least, .int 0, .int 0, .int 0, .ref a_this_calm, .ref a_this_pace, .ref a_this_trusts, .int 0, .ref a_this_kindOf, .ref a_this_comesAt, .ref a_this_comers, .ref a_this_names, .ref a_this_code, .int 0, .ref a_this_spans])), (a_this_spans, .inl (cy 0, 6, .inl g_this_spans)), (a_this_comers, .inl (cy 0, 200, .inl f4136))] := hD
  refine lv_aload_n hx hb dX4_clear_38 rfl (lv_at hl 0 rfl) ?_
  refine k_get C0 fg_X4_36 hP 0 rfl rfl dX4_clear_39 ?_
  refine lv_iconst (v := 0) hx hb dX4_clear_42 (by decide) ?_
  refine k_jv hP hD hS hA [1] [0, 2] (wr := [(a_this, .inr (4, [.int 0, .int x_this_green, .int x_this_rule, .int x_this_least, .int 0, .int 0, .int 0, .ref a_this_calm, .ref a_this_pace, .ref a_this_trusts, .int 0, .ref a_this_kindOf, .ref a_this_comesAt, .ref a_this_comers, .ref a_this_names, .ref a_this_code, .int 0, .ref a_this_spans])), (a_this_comers, .inl (cy 0, 200, .inl f4136))]) rfl rfl (by decide) (by decide) (by decide) 0 0 (Nat.le_of_ble_eq_true rfl) (Nat.le_of_ble_eq_true rfl) (fun hPc hDc => k_runS (As := [.ref a_this_spans, .int 0]) (rest := []) C0 (c_fillr l dC dI cy sq a_this_spans 6 g_this_spans 0 0 1600 hg_this_spans (ib_w 0 1600 (ib_c 0 0 0 (by decide)) (by decide)) (Nat.le_of_ble_eq_true rfl)) mS_X4_58 hPc hDc hl rfl rfl (Nat.le_of_ble_eq_true rfl) ⟨(Nat.le_of_ble_eq_true rfl), (Nat.le_of_ble_eq_true rfl)⟩ ⟨(Nat.le_of_ble_eq_true rfl), (Nat.le_of_ble_eq_true rfl)⟩ dX4_clear_43) (fun u4138 H locs hw hP hD hS => ?_)
  obtain ⟨f4139, ef4139⟩ : ∃ z, z = u4138 := ⟨_, rfl⟩; subst ef4139
  have hP : va_P (dC, dI) vwCl [(a_this, .inr (4, [.int 0, .int x_this_green, .int x_this_rule, .int x_this_least, .int 0, .int 0, .int 0, .ref a_this_calm, .ref a_this_pace, .ref a_this_trusts, .int 0, .ref a_this_kindOf, .ref a_this_comesAt, .ref a_this_comers, .ref a_this_names, .ref a_this_code, .int 0, .ref a_this_spans])), (a_this_comers, .inl (cy 0, 200, .inl f4136)), (a_this_spans, .inl (cy 0, 6, .inl f4139))] H := hP
  have hD : va_D A [(a_this, .inr (4, [.int 0, .int x_this_green, .int x_this_rule, .int x_this_least, .int 0, .int 0, .int 0, .ref a_this_calm, .ref a_this_pace, .ref a_this_trusts, .int 0, .ref a_this_kindOf, .ref a_this_comesAt, .ref a_this_comers, .ref a_this_names, .ref a_this_code, .int 0, .ref a_this_spans])), (a_this_comers, .inl (cy 0, 200, .inl f4136)), (a_this_spans, .inl (cy 0, 6, .inl f4139))] := hD
  have h4140 := hw
  subst hQ; exact k_vret hx hb hr hlk ((0, 0, 0, 0, 0, 0, f4136, f4139)) hS ⟨ib_w 0 120 (ib_c 0 0 0 (by decide)) (by decide), ib_w 0 0 (ib_c 0 0 0 (by decide)) (by decide), ib_w 0 81 (ib_c 0 0 0 (by decide)) (by decide), ib_w 0 6 (ib_c 0 0 0 (by decide)) (by decide), ib_w 0 12 (ib_c 0 0 0 (by decide)) (by decide), ib_w 0 1600 (ib_c 0 0 0 (by decide)) (by decide), h4140⟩ hP hD (Nat.le_of_ble_eq_true rfl) (Nat.le_of_ble_eq_true rfl) dX4_clear_46
set_option maxHeartbeats 4000000 in
set_option maxRecDepth 100000 in
theorem s_X4_comersIn (l : Launch) (dC : Nat → ClassId) (dI : Nat → Nat → Nat) (cy : Nat → ClassId) (sq : Nat → Nat) (a_this : Nat) (x_this_cycle : Int32) (x_this_green : Int32) (x_this_rule : Int32) (x_this_least : Int32) (x_this_away : Int32) (x_this_statements : Int32) (x_this_kinds : Int32) (a_this_calm : Nat) (a_this_pace : Nat) (a_this_trusts : Nat) (x_this_walkers : Int32) (a_this_kindOf : Nat) (a_this_comesAt : Nat) (a_this_comers : Nat) (g_this_comers : Nat → Int32) (a_this_names : Nat) (a_this_code : Nat) (x_this_size : Int32) (a_this_spans : Nat) (p0 : Int32) (hx_this_cycle : ib x_this_cycle 0 120) (hx_this_least : ib x_this_least 0 99) (hx_this_statements : ib x_this_statements 0 81) (hx_this_kinds : ib x_this_kinds 0 6) (hx_this_walkers : ib x_this_walkers 0 12) (hx_this_size : ib x_this_size 0 1600) : k_Met l yX4_comersIn cX4_comersIn 2 (some .int) { frames := 0, cells := 0, slots := 0, locals := 0 } dC dI cy sq [.ref a_this, .int p0] [(a_this, .inr (4, [.int x_this_cycle, .int x_this_green, .int x_this_rule, .int x_this_least, .int x_this_away, .int x_this_statements, .int x_this_kinds, .ref a_this_calm, .ref a_this_pace, .ref a_this_trusts, .int x_this_walkers, .ref a_this_kindOf, .ref a_this_comesAt, .ref a_this_comers, .ref a_this_names, .ref a_this_code, .int x_this_size, .ref a_this_spans])), (a_this_comers, .inl (cy 0, 200, .inl g_this_comers))] (k_Qi dC dI (fun (r : Int32) (_ : Unit) => True) (fun _ : Unit => [(a_this, .inr (4, [.int x_this_cycle, .int x_this_green, .int x_this_rule, .int x_this_least, .int x_this_away, .int x_this_statements, .int x_this_kinds, .ref a_this_calm, .ref a_this_pace, .ref a_this_trusts, .int x_this_walkers, .ref a_this_kindOf, .ref a_this_comesAt, .ref a_this_comers, .ref a_this_names, .ref a_this_code, .int x_this_size, .ref a_this_spans])), (a_this_comers, .inl (cy 0, 200, .inl g_this_comers))])) := by
  refine k_ofW2 (by decide +kernel) (Nat.le_of_ble_eq_true rfl) ?_
  intro p e s m below meth c A ls H locs args Q hQ C0 hr hlk hin hP hD hA hS hl
  have C0 : k_cx p s m args c cX4_comersIn 2 RX4 dC dI cy sq := C0
  have hx := C0.1
  have hb := C0.2.1
  have hl : lv_has ls 2 [(0, .ref a_this), (1, .int p0)] := hl
  refine lv_iload_n hx hb dX4_comersIn_0 rfl (lv_at hl 1 rfl) ?_
  refine lv_if_lt (tgt := 20) hx hb dX4_comersIn_1 (by decide) (fun c4251 => ?_) (fun c4251 => ?_)
  · have h4252 := ib_lt (ib_any p0) (ib_c 0 0 0 (by decide)) c4251
    have h4253 : ib p0 (-2147483648) (-1) := ib_w (-2147483648) (-1) h4252.1 (by decide)
    refine lv_iconst (v := 0) hx hb dX4_comersIn_20 (by decide) ?_
    subst hQ; exact k_iret hx hb hr hlk rfl () hS True.intro hP hD (Nat.le_of_ble_eq_true rfl) (Nat.le_of_ble_eq_true rfl) dX4_comersIn_21
  · have h4254 := ib_nlt (ib_any p0) (ib_c 0 0 0 (by decide)) c4251
    have h4255 : ib p0 0 2147483647 := ib_w 0 2147483647 h4254.1 (by decide)
    refine lv_iload_n hx hb dX4_comersIn_4 rfl (lv_at hl 1 rfl) ?_
    refine lv_sipush (v := 200) hx hb dX4_comersIn_5 (by decide) ?_
    refine lv_icmp_ge (tgt := 20) hx hb dX4_comersIn_8 (by decide) (fun c4256 => ?_) (fun c4256 => ?_)
    · have h4257 := ib_le (ib_c 200 200 200 (by decide)) h4255 c4256
      have h4258 : ib p0 200 2147483647 := ib_w 200 2147483647 h4257.2 (by decide)
      refine lv_iconst (v := 0) hx hb dX4_comersIn_20 (by decide) ?_
      subst hQ; exact k_iret hx hb hr hlk rfl () hS True.intro hP hD (Nat.le_of_ble_eq_true rfl) (Nat.le_of_ble_eq_true rfl) dX4_comersIn_21
    · have h4259 := ib_nle (ib_c 200 200 200 (by decide)) h4255 c4256
      have h4260 : ib p0 0 199 := ib_w 0 199 h4259.2 (by decide)
      refine lv_aload_n hx hb dX4_comersIn_11 rfl (lv_at hl 0 rfl) ?_
      refine k_get C0 fg_X4_27 hP 0 rfl rfl dX4_comersIn_12 ?_
      refine lv_iload_n hx hb dX4_comersIn_15 rfl (lv_at hl 1 rfl) ?_
      refine va_iald hx hb C0.2.2.2.2.2.1 hP 1 0 rfl rfl (ib_in 200 h4260 (by decide)) dX4_comersIn_16 ?_
      refine lv_topi (fun z4261 ez4261 => ?_)
      refine lv_goto (tgt := 21) hx hb dX4_comersIn_17 (by decide) ?_
      subst hQ; exact k_iret hx hb hr hlk rfl () hS True.intro hP hD (Nat.le_of_ble_eq_true rfl) (Nat.le_of_ble_eq_true rfl) dX4_comersIn_21
set_option maxHeartbeats 4000000 in
set_option maxRecDepth 100000 in
theorem s_X4_uses (l : Launch) (dC : Nat → ClassId) (dI : Nat → Nat → Nat) (cy : Nat → ClassId) (sq : Nat → Nat) (a_this : Nat) (x_this_cycle : Int32) (x_this_green : Int32) (x_this_rule : Int32) (x_this_least : Int32) (x_this_away : Int32) (x_this_statements : Int32) (x_this_kinds : Int32) (a_this_calm : Nat) (a_this_pace : Nat) (a_this_trusts : Nat) (x_this_walkers : Int32) (a_this_kindOf : Nat) (a_this_comesAt : Nat) (a_this_comers : Nat) (a_this_names : Nat) (a_this_code : Nat) (g_this_code : Nat → Int32) (x_this_size : Int32) (a_this_spans : Nat) (g_this_spans : Nat → Int32) (p0 : Int32) (p1 : Int32) (hx_this_cycle : ib x_this_cycle 0 120) (hx_this_least : ib x_this_least 0 99) (hx_this_statements : ib x_this_statements 0 81) (hx_this_kinds : ib x_this_kinds 0 6) (hx_this_walkers : ib x_this_walkers 0 12) (hx_this_size : ib x_this_size 0 1600) (hg_this_spans : ia g_this_spans 6 0 1600) (hp0 : ib p0 0 4) : k_Met l yX4_uses cX4_uses 4 (some .boolean) { frames := 0, cells := 0, slots := 0, locals := 0 } dC dI cy sq [.ref a_this, .int p0, .int p1] [(a_this, .inr (4, [.int x_this_cycle, .int x_this_green, .int x_this_rule, .int x_this_least, .int x_this_away, .int x_this_statements, .int x_this_kinds, .ref a_this_calm, .ref a_this_pace, .ref a_this_trusts, .int x_this_walkers, .ref a_this_kindOf, .ref a_this_comesAt, .ref a_this_comers, .ref a_this_names, .ref a_this_code, .int x_this_size, .ref a_this_spans])), (a_this_spans, .inl (cy 0, 6, .inl g_this_spans)), (a_this_code, .inl (cy 0, 1600, .inl g_this_code))] (k_Qi dC dI (fun (r : Int32) (_ : Unit) => ib r 0 1) (fun _ : Unit => [(a_this, .inr (4, [.int x_this_cycle, .int x_this_green, .int x_this_rule, .int x_this_least, .int x_this_away, .int x_this_statements, .int x_this_kinds, .ref a_this_calm, .ref a_this_pace, .ref a_this_trusts, .int x_this_walkers, .ref a_this_kindOf, .ref a_this_comesAt, .ref a_this_comers, .ref a_this_names, .ref a_this_code, .int x_this_size, .ref a_this_spans])), (a_this_spans, .inl (cy 0, 6, .inl g_this_spans)), (a_this_code, .inl (cy 0, 1600, .inl g_this_code))])) := by
  refine k_ofW2 (by decide +kernel) (Nat.le_of_ble_eq_true rfl) ?_
  intro p e s m below meth c A ls H locs args Q hQ C0 hr hlk hin hP hD hA hS hl
  have C0 : k_cx p s m args c cX4_uses 4 RX4 dC dI cy sq := C0
  have hx := C0.1
  have hb := C0.2.1
  have hl : lv_has ls 4 [(0, .ref a_this), (1, .int p0), (2, .int p1)] := hl
  have jn7 : ∀ (n : Nat) (J7_l3 : Int32) (H : Heap) (locs : List Loc) (ls : Array Slot), ib J7_l3 0 1600 → 1601 ≤ J7_l3.toInt + (n : Int) → va_P (dC, dI) vwCl [(a_this, .inr (4, [.int x_this_cycle, .int x_this_green, .int x_this_rule, .int x_this_least, .int x_this_away, .int x_this_statements, .int x_this_kinds, .ref a_this_calm, .ref a_this_pace, .ref a_this_trusts, .int x_this_walkers, .ref a_this_kindOf, .ref a_this_comesAt, .ref a_this_comers, .ref a_this_names, .ref a_this_code, .int x_this_size, .ref a_this_spans])), (a_this_spans, .inl (cy 0, 6, .inl g_this_spans)), (a_this_code, .inl (cy 0, 1600, .inl g_this_code))] H → va_D A [(a_this, .inr (4, [.int x_this_cycle, .int x_this_green, .int x_this_rule, .int x_this_least, .int x_this_away, .int x_this_statements, .int x_this_kinds, .ref a_this_calm, .ref a_this_pace, .ref a_this_trusts, .int x_this_walkers, .ref a_this_kindOf, .ref a_this_comesAt, .ref a_this_comers, .ref a_this_names, .ref a_this_code, .int x_this_size, .ref a_this_spans])), (a_this_spans, .inl (cy 0, 6, .inl g_this_spans)), (a_this_code, .inl (cy 0, 1600, .inl g_this_code))] → va_S A s.heap H locs → lv_has ls 4 [(0, .ref a_this), (1, .int p0), (2, .int p1), (3, .int J7_l3)] → W p l e { frames := 0, cells := 0, slots := 0, locals := 0 } s m args below meth c H locs 0 0 Q (F0 m 7 ls []) := by
    intro n
    induction n with
    | zero =>
      intro J7_l3 H locs ls hJ7_l3 hm
      exact absurd hm (by have := hJ7_l3; unfold ib at this; omega)
    | succ n ih =>
      intro J7_l3 H locs ls hJ7_l3 hm7 hP hD hS hl
      have ih7 := ih
      refine lv_iload_n hx hb dX4_uses_7 rfl (lv_at hl 3 rfl) ?_
      refine lv_aload_n hx hb dX4_uses_8 rfl (lv_at hl 0 rfl) ?_
      refine k_get C0 fg_X4_36 hP 0 rfl rfl dX4_uses_9 ?_
      refine lv_iload_n hx hb dX4_uses_12 rfl (lv_at hl 1 rfl) ?_
      refine lv_iconst (v := 1) hx hb dX4_uses_13 (by decide) ?_
      refine lv_iadd hx hb dX4_uses_14 ?_
      refine lv_topi (fun z4442 ez4442 => ?_)
      have h4443 := ib_add hp0 (ib_c 1 1 1 (by decide)) (by decide)
      rw [← ez4442] at h4443
      have h4444 : ib z4442 1 5 := ib_w 1 5 h4443.1 (by decide)
      refine va_iald hx hb C0.2.2.2.2.2.1 hP 1 0 rfl rfl (ib_in 6 h4444 (by decide)) dX4_uses_15 ?_
      refine lv_topi (fun z4445 ez4445 => ?_)
      have h4446 : ib z4445 0 1600 := by rw [ez4445]; exact ia_at hg_this_spans (ib_in 6 h4444 (by decide))
      refine lv_icmp_ge (tgt := 37) hx hb dX4_uses_16 (by decide) (fun c4447 => ?_) (fun c4447 => ?_)
      · have h4448 := ib_le h4446 hJ7_l3 c4447
        refine lv_iconst (v := 0) hx hb dX4_uses_37 (by decide) ?_
        subst hQ; exact k_iret hx hb hr hlk (k_nb 0 (by decide)) () hS (ib_w 0 1 (ib_c 0 0 0 (by decide)) (by decide)) hP hD (Nat.le_of_ble_eq_true rfl) (Nat.le_of_ble_eq_true rfl) dX4_uses_38
      · have h4449 := ib_nle h4446 hJ7_l3 c4447
        have h4450 : ib z4445 1 1600 := ib_w 1 1600 h4449.1 (by decide)
        have h4451 : ib J7_l3 0 1599 := ib_w 0 1599 h4449.2 (by decide)
        refine lv_aload_n hx hb dX4_uses_19 rfl (lv_at hl 0 rfl) ?_
        refine k_get C0 fg_X4_33 hP 0 rfl rfl dX4_uses_20 ?_
        refine lv_iload_n hx hb dX4_uses_23 rfl (lv_at hl 3 rfl) ?_
        refine va_iald hx hb C0.2.2.2.2.2.1 hP 2 0 rfl rfl (ib_in 1600 h4451 (by decide)) dX4_uses_24 ?_
        refine lv_topi (fun z4452 ez4452 => ?_)
        refine lv_iload_n hx hb dX4_uses_25 rfl (lv_at hl 2 rfl) ?_
        refine lv_icmp_ne (tgt := 31) hx hb dX4_uses_26 (by decide) (fun c4453 => ?_) (fun c4453 => ?_)
        · skip
          obtain ⟨z4454, ez4454⟩ : ∃ y : Int32, y = J7_l3 + 1 := ⟨_, rfl⟩
          refine lv_iinc (v := z4454) (lv' := [(3, .int z4454), (0, .ref a_this), (1, .int p0), (2, .int p1)]) hx hb dX4_uses_31 hl (k := 3) rfl (by rw [ez4454]; rfl) (by decide) rfl (fun ls hl => ?_)
          have h4455 := ib_add h4451 (ib_c 1 1 1 (by decide)) (by decide)
          rw [← ez4454] at h4455
          have h4456 : ib z4454 1 1600 := ib_w 1 1600 h4455.1 (by decide)
          refine lv_goto (tgt := 7) hx hb dX4_uses_34 (by decide) ?_
          exact ih7 z4454 H locs ls (ib_w 0 1600 h4456 (by decide)) (by have := h4455.2; have : (1 : Int32).toInt = 1 := (by decide); omega) hP hD hS (lv_sub hl [1, 2, 3, 0] rfl)
        · have h4457 := ib_eq (ib_any z4452) (ib_any p1) c4453
          refine lv_iconst (v := 1) hx hb dX4_uses_29 (by decide) ?_
          subst hQ; exact k_iret hx hb hr hlk (k_nb 1 (by decide)) () hS (ib_w 0 1 (ib_c 1 1 1 (by decide)) (by decide)) hP hD (Nat.le_of_ble_eq_true rfl) (Nat.le_of_ble_eq_true rfl) dX4_uses_30
  refine lv_aload_n hx hb dX4_uses_0 rfl (lv_at hl 0 rfl) ?_
  refine k_get C0 fg_X4_36 hP 0 rfl rfl dX4_uses_1 ?_
  refine lv_iload_n hx hb dX4_uses_4 rfl (lv_at hl 1 rfl) ?_
  refine va_iald hx hb C0.2.2.2.2.2.1 hP 1 0 rfl rfl (ib_in 6 hp0 (by decide)) dX4_uses_5 ?_
  refine lv_topi (fun z4458 ez4458 => ?_)
  have h4459 : ib z4458 0 1600 := by rw [ez4458]; exact ia_at hg_this_spans (ib_in 6 hp0 (by decide))
  refine lv_istore_n (lv' := [(3, .int z4458), (0, .ref a_this), (1, .int p0), (2, .int p1)]) hx hb dX4_uses_6 rfl hl (by decide) rfl (fun ls hl => ?_)
  exact jn7 1602 z4458 H locs ls (ib_w 0 1600 h4459 (by decide)) (by have := h4459; unfold ib at this; omega) hP hD hS (lv_sub hl [1, 2, 3, 0] rfl)
set_option maxHeartbeats 4000000 in
set_option maxRecDepth 100000 in
theorem s_X4_walkersOf (l : Launch) (dC : Nat → ClassId) (dI : Nat → Nat → Nat) (cy : Nat → ClassId) (sq : Nat → Nat) (a_this : Nat) (x_this_cycle : Int32) (x_this_green : Int32) (x_this_rule : Int32) (x_this_least : Int32) (x_this_away : Int32) (x_this_statements : Int32) (x_this_kinds : Int32) (a_this_calm : Nat) (a_this_pace : Nat) (a_this_trusts : Nat) (x_this_walkers : Int32) (a_this_kindOf : Nat) (g_this_kindOf : Nat → Int32) (a_this_comesAt : Nat) (a_this_comers : Nat) (a_this_names : Nat) (a_this_code : Nat) (x_this_size : Int32) (a_this_spans : Nat) (p0 : Int32) (hx_this_cycle : ib x_this_cycle 0 120) (hx_this_least : ib x_this_least 0 99) (hx_this_statements : ib x_this_statements 0 81) (hx_this_kinds : ib x_this_kinds 0 6) (hx_this_walkers : ib x_this_walkers 0 12) (hg_this_kindOf : ia g_this_kindOf 12 0 5) (hx_this_size : ib x_this_size 0 1600) : k_Met l yX4_walkersOf cX4_walkersOf 4 (some .int) { frames := 0, cells := 0, slots := 0, locals := 0 } dC dI cy sq [.ref a_this, .int p0] [(a_this, .inr (4, [.int x_this_cycle, .int x_this_green, .int x_this_rule, .int x_this_least, .int x_this_away, .int x_this_statements, .int x_this_kinds, .ref a_this_calm, .ref a_this_pace, .ref a_this_trusts, .int x_this_walkers, .ref a_this_kindOf, .ref a_this_comesAt, .ref a_this_comers, .ref a_this_names, .ref a_this_code, .int x_this_size, .ref a_this_spans])), (a_this_kindOf, .inl (cy 0, 12, .inl g_this_kindOf))] (k_Qi dC dI (fun (r : Int32) (_ : Unit) => True) (fun _ : Unit => [(a_this, .inr (4, [.int x_this_cycle, .int x_this_green, .int x_this_rule, .int x_this_least, .int x_this_away, .int x_this_statements, .int x_this_kinds, .ref a_this_calm, .ref a_this_pace, .ref a_this_trusts, .int x_this_walkers, .ref a_this_kindOf, .ref a_this_comesAt, .ref a_this_comers, .ref a_this_names, .ref a_this_code, .int x_this_size, .ref a_this_spans])), (a_this_kindOf, .inl (cy 0, 12, .inl g_this_kindOf))])) := by
  refine k_ofW2 (by decide +kernel) (Nat.le_of_ble_eq_true rfl) ?_
  intro p e s m below meth c A ls H locs args Q hQ C0 hr hlk hin hP hD hA hS hl
  have C0 : k_cx p s m args c cX4_walkersOf 4 RX4 dC dI cy sq := C0
  have hx := C0.1
  have hb := C0.2.1
  have hl : lv_has ls 4 [(0, .ref a_this), (1, .int p0)] := hl
  have jn4 : ∀ (n : Nat) (J4_l3 : Int32) (J4_l2 : Int32) (H : Heap) (locs : List Loc) (ls : Array Slot), ib J4_l3 0 12 → 13 ≤ J4_l3.toInt + (n : Int) → va_P (dC, dI) vwCl [(a_this, .inr (4, [.int x_this_cycle, .int x_this_green, .int x_this_rule, .int x_this_least, .int x_this_away, .int x_this_statements, .int x_this_kinds, .ref a_this_calm, .ref a_this_pace, .ref a_this_trusts, .int x_this_walkers, .ref a_this_kindOf, .ref a_this_comesAt, .ref a_this_comers, .ref a_this_names, .ref a_this_code, .int x_this_size, .ref a_this_spans])), (a_this_kindOf, .inl (cy 0, 12, .inl g_this_kindOf))] H → va_D A [(a_this, .inr (4, [.int x_this_cycle, .int x_this_green, .int x_this_rule, .int x_this_least, .int x_this_away, .int x_this_statements, .int x_this_kinds, .ref a_this_calm, .ref a_this_pace, .ref a_this_trusts, .int x_this_walkers, .ref a_this_kindOf, .ref a_this_comesAt, .ref a_this_comers, .ref a_this_names, .ref a_this_code, .int x_this_size, .ref a_this_spans])), (a_this_kindOf, .inl (cy 0, 12, .inl g_this_kindOf))] → va_S A s.heap H locs → lv_has ls 4 [(0, .ref a_this), (1, .int p0), (2, .int J4_l2), (3, .int J4_l3)] → W p l e { frames := 0, cells := 0, slots := 0, locals := 0 } s m args below meth c H locs 0 0 Q (F0 m 4 ls []) := by
    intro n
    induction n with
    | zero =>
      intro J4_l3 J4_l2 H locs ls hJ4_l3 hm
      exact absurd hm (by have := hJ4_l3; unfold ib at this; omega)
    | succ n ih =>
      intro J4_l3 J4_l2 H locs ls hJ4_l3 hm4 hP hD hS hl
      have ih4 := ih
      have jn28 : ∀ (J28_l2 : Int32) (H : Heap) (locs : List Loc) (ls : Array Slot), ib p0 0 5 → ib J4_l3 0 11 → ib x_this_walkers 1 12 → va_P (dC, dI) vwCl [(a_this, .inr (4, [.int x_this_cycle, .int x_this_green, .int x_this_rule, .int x_this_least, .int x_this_away, .int x_this_statements, .int x_this_kinds, .ref a_this_calm, .ref a_this_pace, .ref a_this_trusts, .int x_this_walkers, .ref a_this_kindOf, .ref a_this_comesAt, .ref a_this_comers, .ref a_this_names, .ref a_this_code, .int x_this_size, .ref a_this_spans])), (a_this_kindOf, .inl (cy 0, 12, .inl g_this_kindOf))] H → va_D A [(a_this, .inr (4, [.int x_this_cycle, .int x_this_green, .int x_this_rule, .int x_this_least, .int x_this_away, .int x_this_statements, .int x_this_kinds, .ref a_this_calm, .ref a_this_pace, .ref a_this_trusts, .int x_this_walkers, .ref a_this_kindOf, .ref a_this_comesAt, .ref a_this_comers, .ref a_this_names, .ref a_this_code, .int x_this_size, .ref a_this_spans])), (a_this_kindOf, .inl (cy 0, 12, .inl g_this_kindOf))] → va_S A s.heap H locs → lv_has ls 4 [(0, .ref a_this), (1, .int p0), (2, .int J28_l2), (3, .int J4_l3)] → W p l e { frames := 0, cells := 0, slots := 0, locals := 0 } s m args below meth c H locs 0 0 Q (F0 m 28 ls []) := by
        intro J28_l2 H locs ls hJ28_l1 hJ28_l3 hJ28_c0_10 hP hD hS hl
        obtain ⟨z4786, ez4786⟩ : ∃ y : Int32, y = J4_l3 + 1 := ⟨_, rfl⟩
        refine lv_iinc (v := z4786) (lv' := [(3, .int z4786), (0, .ref a_this), (1, .int p0), (2, .int J28_l2)]) hx hb dX4_walkersOf_28 hl (k := 3) rfl (by rw [ez4786]; rfl) (by decide) rfl (fun ls hl => ?_)
        have h4787 := ib_add hJ28_l3 (ib_c 1 1 1 (by decide)) (by decide)
        rw [← ez4786] at h4787
        have h4788 : ib z4786 1 12 := ib_w 1 12 h4787.1 (by decide)
        refine lv_goto (tgt := 4) hx hb dX4_walkersOf_31 (by decide) ?_
        exact ih4 z4786 J28_l2 H locs ls (ib_w 0 12 h4788 (by decide)) (by have := h4787.2; have : (1 : Int32).toInt = 1 := (by decide); omega) hP hD hS (lv_sub hl [1, 2, 3, 0] rfl)
      refine lv_iload_n hx hb dX4_walkersOf_4 rfl (lv_at hl 3 rfl) ?_
      refine lv_aload_n hx hb dX4_walkersOf_5 rfl (lv_at hl 0 rfl) ?_
      refine k_get C0 fg_X4_52 hP 0 rfl rfl dX4_walkersOf_6 ?_
      refine lv_icmp_ge (tgt := 34) hx hb dX4_walkersOf_9 (by decide) (fun c4789 => ?_) (fun c4789 => ?_)
      · have h4790 := ib_le hx_this_walkers hJ4_l3 c4789
        refine lv_iload_n hx hb dX4_walkersOf_34 rfl (lv_at hl 2 rfl) ?_
        subst hQ; exact k_iret hx hb hr hlk rfl () hS True.intro hP hD (Nat.le_of_ble_eq_true rfl) (Nat.le_of_ble_eq_true rfl) dX4_walkersOf_35
      · have h4791 := ib_nle hx_this_walkers hJ4_l3 c4789
        have h4792 : ib x_this_walkers 1 12 := ib_w 1 12 h4791.1 (by decide)
        have h4793 : ib J4_l3 0 11 := ib_w 0 11 h4791.2 (by decide)
        refine lv_aload_n hx hb dX4_walkersOf_12 rfl (lv_at hl 0 rfl) ?_
        refine k_get C0 fg_X4_21 hP 0 rfl rfl dX4_walkersOf_13 ?_
        refine lv_iload_n hx hb dX4_walkersOf_16 rfl (lv_at hl 3 rfl) ?_
        refine va_iald hx hb C0.2.2.2.2.2.1 hP 1 0 rfl rfl (ib_in 12 h4793 (by decide)) dX4_walkersOf_17 ?_
        refine lv_topi (fun z4794 ez4794 => ?_)
        have h4795 : ib z4794 0 5 := by rw [ez4794]; exact ia_at hg_this_kindOf (ib_in 12 h4793 (by decide))
        refine lv_iload_n hx hb dX4_walkersOf_18 rfl (lv_at hl 1 rfl) ?_
        refine lv_icmp_ne (tgt := 28) hx hb dX4_walkersOf_19 (by decide) (fun c4796 => ?_) (fun c4796 => ?_)
        · skip
          obtain ⟨z4797, ez4797⟩ : ∃ y : Int32, y = J4_l3 + 1 := ⟨_, rfl⟩
          refine lv_iinc (v := z4797) (lv' := [(3, .int z4797), (0, .ref a_this), (1, .int p0), (2, .int J4_l2)]) hx hb dX4_walkersOf_28 hl (k := 3) rfl (by rw [ez4797]; rfl) (by decide) rfl (fun ls hl => ?_)
          have h4798 := ib_add h4793 (ib_c 1 1 1 (by decide)) (by decide)
          rw [← ez4797] at h4798
          have h4799 : ib z4797 1 12 := ib_w 1 12 h4798.1 (by decide)
          refine lv_goto (tgt := 4) hx hb dX4_walkersOf_31 (by decide) ?_
          exact ih4 z4797 J4_l2 H locs ls (ib_w 0 12 h4799 (by decide)) (by have := h4798.2; have : (1 : Int32).toInt = 1 := (by decide); omega) hP hD hS (lv_sub hl [1, 2, 3, 0] rfl)
        · have h4800 := ib_eq h4795 (ib_any p0) c4796
          have h4801 : ib p0 0 5 := ib_w 0 5 h4800.2 (by decide)
          refine lv_iload_n hx hb dX4_walkersOf_22 rfl (lv_at hl 2 rfl) ?_
          refine lv_iconst (v := 1) hx hb dX4_walkersOf_23 (by decide) ?_
          refine lv_iload_n hx hb dX4_walkersOf_24 rfl (lv_at hl 3 rfl) ?_
          refine lv_ishl hx hb dX4_walkersOf_25 ?_
          refine lv_topi (fun z4802 ez4802 => ?_)
          refine lv_ior hx hb dX4_walkersOf_26 ?_
          refine lv_topi (fun z4803 ez4803 => ?_)
          refine lv_istore_n (lv' := [(2, .int z4803), (0, .ref a_this), (1, .int p0), (3, .int J4_l3)]) hx hb dX4_walkersOf_27 rfl hl (by decide) rfl (fun ls hl => ?_)
          exact jn28 z4803 H locs ls (ib_w 0 5 h4801 (by decide)) (ib_w 0 11 h4793 (by decide)) (ib_w 1 12 h4792 (by decide)) hP hD hS (lv_sub hl [1, 2, 0, 3] rfl)
  refine lv_iconst (v := 0) hx hb dX4_walkersOf_0 (by decide) ?_
  refine lv_istore_n (lv' := [(2, .int 0), (0, .ref a_this), (1, .int p0)]) hx hb dX4_walkersOf_1 rfl hl (by decide) rfl (fun ls hl => ?_)
  refine lv_iconst (v := 0) hx hb dX4_walkersOf_2 (by decide) ?_
  refine lv_istore_n (lv' := [(3, .int 0), (2, .int 0), (0, .ref a_this), (1, .int p0)]) hx hb dX4_walkersOf_3 rfl hl (by decide) rfl (fun ls hl => ?_)
  exact jn4 14 0 0 H locs ls (ib_w 0 12 (ib_c 0 0 0 (by decide)) (by decide)) (by have := (ib_c 0 0 0 (by decide)); unfold ib at this; omega) hP hD hS (lv_sub hl [2, 3, 1, 0] rfl)
set_option maxHeartbeats 4000000 in
set_option maxRecDepth 100000 in
theorem s_X5_sortOf (l : Launch) (dC : Nat → ClassId) (dI : Nat → Nat → Nat) (cy : Nat → ClassId) (sq : Nat → Nat) (a_this : Nat) (a_this_text : Nat) (g_this_text : Nat → Int32) (x_this_length : Int32) (x_this_at : Int32) (x_this_behind : Int32) (x_this_sort : Int32) (x_this_allowed : Int32) (a_this_plan : Nat) (x_this_fault : Int32) (x_this_place : Int32) (p0 : Int32) (hg_this_text : ia g_this_text 1600 0 255) (hx_this_length : ib x_this_length 0 1600) (hx_this_at : ib x_this_at 0 1600) (hx_this_behind : ib x_this_behind 0 1600) (hx_this_sort : ib x_this_sort 0 4) : k_Met l yX5_sortOf cX5_sortOf 2 (some .int) { frames := 0, cells := 0, slots := 0, locals := 0 } dC dI cy sq [.ref a_this, .int p0] [(a_this, .inr (5, [.ref a_this_text, .int x_this_length, .int x_this_at, .int x_this_behind, .int x_this_sort, .int x_this_allowed, .ref a_this_plan, .int x_this_fault, .int x_this_place])), (a_this_text, .inl (cy 0, 1600, .inl g_this_text))] (k_Qi dC dI (fun (r : Int32) (_ : Unit) => ib r 0 3) (fun _ : Unit => [(a_this, .inr (5, [.ref a_this_text, .int x_this_length, .int x_this_at, .int x_this_behind, .int x_this_sort, .int x_this_allowed, .ref a_this_plan, .int x_this_fault, .int x_this_place])), (a_this_text, .inl (cy 0, 1600, .inl g_this_text))])) := by
  refine k_ofW2 (by decide +kernel) (Nat.le_of_ble_eq_true rfl) ?_
  intro p e s m below meth c A ls H locs args Q hQ C0 hr hlk hin hP hD hA hS hl
  have C0 : k_cx p s m args c cX5_sortOf 2 RX5 dC dI cy sq := C0
  have hx := C0.1
  have hb := C0.2.1
  have hl : lv_has ls 2 [(0, .ref a_this), (1, .int p0)] := hl
  refine lv_iload_n hx hb dX5_sortOf_0 rfl (lv_at hl 1 rfl) ?_
  refine lv_if_lt (tgt := 12) hx hb dX5_sortOf_1 (by decide) (fun c5346 => ?_) (fun c5346 => ?_)
  · have h5347 := ib_lt (ib_any p0) (ib_c 0 0 0 (by decide)) c5346
    have h5348 : ib p0 (-2147483648) (-1) := ib_w (-2147483648) (-1) h5347.1 (by decide)
    refine lv_iconst (v := 0) hx hb dX5_sortOf_12 (by decide) ?_
    subst hQ; exact k_iret hx hb hr hlk rfl () hS (ib_w 0 3 (ib_c 0 0 0 (by decide)) (by decide)) hP hD (Nat.le_of_ble_eq_true rfl) (Nat.le_of_ble_eq_true rfl) dX5_sortOf_13
  · have h5349 := ib_nlt (ib_any p0) (ib_c 0 0 0 (by decide)) c5346
    have h5350 : ib p0 0 2147483647 := ib_w 0 2147483647 h5349.1 (by decide)
    refine lv_iload_n hx hb dX5_sortOf_4 rfl (lv_at hl 1 rfl) ?_
    refine lv_aload_n hx hb dX5_sortOf_5 rfl (lv_at hl 0 rfl) ?_
    refine k_get C0 fg_X5_11 hP 0 rfl rfl dX5_sortOf_6 ?_
    refine lv_icmp_lt (tgt := 14) hx hb dX5_sortOf_9 (by decide) (fun c5351 => ?_) (fun c5351 => ?_)
    · have h5352 := ib_lt h5350 hx_this_length c5351
      have h5353 : ib p0 0 1599 := ib_w 0 1599 h5352.1 (by decide)
      have h5354 : ib x_this_length 1 1600 := ib_w 1 1600 h5352.2 (by decide)
      refine lv_aload_n hx hb dX5_sortOf_14 rfl (lv_at hl 0 rfl) ?_
      refine k_get C0 fg_X5_33 hP 0 rfl rfl dX5_sortOf_15 ?_
      refine lv_iload_n hx hb dX5_sortOf_18 rfl (lv_at hl 1 rfl) ?_
      refine va_iald hx hb C0.2.2.2.2.2.1 hP 1 0 rfl rfl (ib_in 1600 h5353 (by decide)) dX5_sortOf_19 ?_
      refine lv_topi (fun z5355 ez5355 => ?_)
      have h5356 : ib z5355 0 255 := by rw [ez5355]; exact ia_at hg_this_text (ib_in 1600 h5353 (by decide))
      refine lv_bipush (v := 97) hx hb dX5_sortOf_20 (by decide) ?_
      refine lv_icmp_lt (tgt := 38) hx hb dX5_sortOf_22 (by decide) (fun c5357 => ?_) (fun c5357 => ?_)
      · have h5358 := ib_lt h5356 (ib_c 97 97 97 (by decide)) c5357
        have h5359 : ib z5355 0 96 := ib_w 0 96 h5358.1 (by decide)
        refine lv_aload_n hx hb dX5_sortOf_38 rfl (lv_at hl 0 rfl) ?_
        refine k_get C0 fg_X5_33 hP 0 rfl rfl dX5_sortOf_39 ?_
        refine lv_iload_n hx hb dX5_sortOf_42 rfl (lv_at hl 1 rfl) ?_
        refine va_iald hx hb C0.2.2.2.2.2.1 hP 1 0 rfl rfl (ib_in 1600 h5353 (by decide)) dX5_sortOf_43 ?_
        refine lv_topi (fun z5360 ez5360 => ?_)
        have h5361 : ib z5360 0 255 := by rw [ez5360]; exact ia_at hg_this_text (ib_in 1600 h5353 (by decide))
        refine lv_bipush (v := 48) hx hb dX5_sortOf_44 (by decide) ?_
        refine lv_icmp_lt (tgt := 64) hx hb dX5_sortOf_46 (by decide) (fun c5362 => ?_) (fun c5362 => ?_)
        · have h5363 := ib_lt h5361 (ib_c 48 48 48 (by decide)) c5362
          have h5364 : ib z5360 0 47 := ib_w 0 47 h5363.1 (by decide)
          refine lv_iconst (v := 3) hx hb dX5_sortOf_64 (by decide) ?_
          subst hQ; exact k_iret hx hb hr hlk rfl () hS (ib_w 0 3 (ib_c 3 3 3 (by decide)) (by decide)) hP hD (Nat.le_of_ble_eq_true rfl) (Nat.le_of_ble_eq_true rfl) dX5_sortOf_65
        · have h5365 := ib_nlt h5361 (ib_c 48 48 48 (by decide)) c5362
          have h5366 : ib z5360 48 255 := ib_w 48 255 h5365.1 (by decide)
          refine lv_aload_n hx hb dX5_sortOf_49 rfl (lv_at hl 0 rfl) ?_
          refine k_get C0 fg_X5_33 hP 0 rfl rfl dX5_sortOf_50 ?_
          refine lv_iload_n hx hb dX5_sortOf_53 rfl (lv_at hl 1 rfl) ?_
          refine va_iald hx hb C0.2.2.2.2.2.1 hP 1 0 rfl rfl (ib_in 1600 h5353 (by decide)) dX5_sortOf_54 ?_
          refine lv_topi (fun z5367 ez5367 => ?_)
          have h5368 : ib z5367 0 255 := by rw [ez5367]; exact ia_at hg_this_text (ib_in 1600 h5353 (by decide))
          refine lv_bipush (v := 57) hx hb dX5_sortOf_55 (by decide) ?_
          refine lv_icmp_gt (tgt := 64) hx hb dX5_sortOf_57 (by decide) (fun c5369 => ?_) (fun c5369 => ?_)
          · have h5370 := ib_lt (ib_c 57 57 57 (by decide)) h5368 c5369
            have h5371 : ib z5367 58 255 := ib_w 58 255 h5370.2 (by decide)
            refine lv_iconst (v := 3) hx hb dX5_sortOf_64 (by decide) ?_
            subst hQ; exact k_iret hx hb hr hlk rfl () hS (ib_w 0 3 (ib_c 3 3 3 (by decide)) (by decide)) hP hD (Nat.le_of_ble_eq_true rfl) (Nat.le_of_ble_eq_true rfl) dX5_sortOf_65
          · have h5372 := ib_nlt (ib_c 57 57 57 (by decide)) h5368 c5369
            have h5373 : ib z5367 0 57 := ib_w 0 57 h5372.2 (by decide)
            refine lv_iconst (v := 2) hx hb dX5_sortOf_60 (by decide) ?_
            refine lv_goto (tgt := 65) hx hb dX5_sortOf_61 (by decide) ?_
            subst hQ; exact k_iret hx hb hr hlk rfl () hS (ib_w 0 3 (ib_c 2 2 2 (by decide)) (by decide)) hP hD (Nat.le_of_ble_eq_true rfl) (Nat.le_of_ble_eq_true rfl) dX5_sortOf_65
      · have h5374 := ib_nlt h5356 (ib_c 97 97 97 (by decide)) c5357
        have h5375 : ib z5355 97 255 := ib_w 97 255 h5374.1 (by decide)
        refine lv_aload_n hx hb dX5_sortOf_25 rfl (lv_at hl 0 rfl) ?_
        refine k_get C0 fg_X5_33 hP 0 rfl rfl dX5_sortOf_26 ?_
        refine lv_iload_n hx hb dX5_sortOf_29 rfl (lv_at hl 1 rfl) ?_
        refine va_iald hx hb C0.2.2.2.2.2.1 hP 1 0 rfl rfl (ib_in 1600 h5353 (by decide)) dX5_sortOf_30 ?_
        refine lv_topi (fun z5376 ez5376 => ?_)
        have h5377 : ib z5376 0 255 := by rw [ez5376]; exact ia_at hg_this_text (ib_in 1600 h5353 (by decide))
        refine lv_bipush (v := 122) hx hb dX5_sortOf_31 (by decide) ?_
        refine lv_icmp_gt (tgt := 38) hx hb dX5_sortOf_33 (by decide) (fun c5378 => ?_) (fun c5378 => ?_)
        · have h5379 := ib_lt (ib_c 122 122 122 (by decide)) h5377 c5378
          have h5380 : ib z5376 123 255 := ib_w 123 255 h5379.2 (by decide)
          refine lv_aload_n hx hb dX5_sortOf_38 rfl (lv_at hl 0 rfl) ?_
          refine k_get C0 fg_X5_33 hP 0 rfl rfl dX5_sortOf_39 ?_
          refine lv_iload_n hx hb dX5_sortOf_42 rfl (lv_at hl 1 rfl) ?_
          refine va_iald hx hb C0.2.2.2.2.2.1 hP 1 0 rfl rfl (ib_in 1600 h5353 (by decide)) dX5_sortOf_43 ?_
          refine lv_topi (fun z5381 ez5381 => ?_)
          have h5382 : ib z5381 0 255 := by rw [ez5381]; exact ia_at hg_this_text (ib_in 1600 h5353 (by decide))
          refine lv_bipush (v := 48) hx hb dX5_sortOf_44 (by decide) ?_
          refine lv_icmp_lt (tgt := 64) hx hb dX5_sortOf_46 (by decide) (fun c5383 => ?_) (fun c5383 => ?_)
          · have h5384 := ib_lt h5382 (ib_c 48 48 48 (by decide)) c5383
            have h5385 : ib z5381 0 47 := ib_w 0 47 h5384.1 (by decide)
            refine lv_iconst (v := 3) hx hb dX5_sortOf_64 (by decide) ?_
            subst hQ; exact k_iret hx hb hr hlk rfl () hS (ib_w 0 3 (ib_c 3 3 3 (by decide)) (by decide)) hP hD (Nat.le_of_ble_eq_true rfl) (Nat.le_of_ble_eq_true rfl) dX5_sortOf_65
          · have h5386 := ib_nlt h5382 (ib_c 48 48 48 (by decide)) c5383
            have h5387 : ib z5381 48 255 := ib_w 48 255 h5386.1 (by decide)
            refine lv_aload_n hx hb dX5_sortOf_49 rfl (lv_at hl 0 rfl) ?_
            refine k_get C0 fg_X5_33 hP 0 rfl rfl dX5_sortOf_50 ?_
            refine lv_iload_n hx hb dX5_sortOf_53 rfl (lv_at hl 1 rfl) ?_
            refine va_iald hx hb C0.2.2.2.2.2.1 hP 1 0 rfl rfl (ib_in 1600 h5353 (by decide)) dX5_sortOf_54 ?_
            refine lv_topi (fun z5388 ez5388 => ?_)
            have h5389 : ib z5388 0 255 := by rw [ez5388]; exact ia_at hg_this_text (ib_in 1600 h5353 (by decide))
            refine lv_bipush (v := 57) hx hb dX5_sortOf_55 (by decide) ?_
            refine lv_icmp_gt (tgt := 64) hx hb dX5_sortOf_57 (by decide) (fun c5390 => ?_) (fun c5390 => ?_)
            · have h5391 := ib_lt (ib_c 57 57 57 (by decide)) h5389 c5390
              have h5392 : ib z5388 58 255 := ib_w 58 255 h5391.2 (by decide)
              refine lv_iconst (v := 3) hx hb dX5_sortOf_64 (by decide) ?_
              subst hQ; exact k_iret hx hb hr hlk rfl () hS (ib_w 0 3 (ib_c 3 3 3 (by decide)) (by decide)) hP hD (Nat.le_of_ble_eq_true rfl) (Nat.le_of_ble_eq_true rfl) dX5_sortOf_65
            · have h5393 := ib_nlt (ib_c 57 57 57 (by decide)) h5389 c5390
              have h5394 : ib z5388 0 57 := ib_w 0 57 h5393.2 (by decide)
              refine lv_iconst (v := 2) hx hb dX5_sortOf_60 (by decide) ?_
              refine lv_goto (tgt := 65) hx hb dX5_sortOf_61 (by decide) ?_
              subst hQ; exact k_iret hx hb hr hlk rfl () hS (ib_w 0 3 (ib_c 2 2 2 (by decide)) (by decide)) hP hD (Nat.le_of_ble_eq_true rfl) (Nat.le_of_ble_eq_true rfl) dX5_sortOf_65
        · have h5395 := ib_nlt (ib_c 122 122 122 (by decide)) h5377 c5378
          have h5396 : ib z5376 0 122 := ib_w 0 122 h5395.2 (by decide)
          refine lv_iconst (v := 1) hx hb dX5_sortOf_36 (by decide) ?_
          subst hQ; exact k_iret hx hb hr hlk rfl () hS (ib_w 0 3 (ib_c 1 1 1 (by decide)) (by decide)) hP hD (Nat.le_of_ble_eq_true rfl) (Nat.le_of_ble_eq_true rfl) dX5_sortOf_37
    · have h5397 := ib_nlt h5350 hx_this_length c5351
      refine lv_iconst (v := 0) hx hb dX5_sortOf_12 (by decide) ?_
      subst hQ; exact k_iret hx hb hr hlk rfl () hS (ib_w 0 3 (ib_c 0 0 0 (by decide)) (by decide)) hP hD (Nat.le_of_ble_eq_true rfl) (Nat.le_of_ble_eq_true rfl) dX5_sortOf_13
set_option maxHeartbeats 4000000 in
set_option maxRecDepth 100000 in
theorem s_X5_emit (l : Launch) (dC : Nat → ClassId) (dI : Nat → Nat → Nat) (cy : Nat → ClassId) (sq : Nat → Nat) (a_this : Nat) (a_this_text : Nat) (x_this_length : Int32) (x_this_at : Int32) (x_this_behind : Int32) (x_this_sort : Int32) (x_this_allowed : Int32) (a_this_plan : Nat) (x_this_plan_cycle : Int32) (x_this_plan_green : Int32) (x_this_plan_rule : Int32) (x_this_plan_least : Int32) (x_this_plan_away : Int32) (x_this_plan_statements : Int32) (x_this_plan_kinds : Int32) (a_this_plan_calm : Nat) (a_this_plan_pace : Nat) (a_this_plan_trusts : Nat) (x_this_plan_walkers : Int32) (a_this_plan_kindOf : Nat) (a_this_plan_comesAt : Nat) (a_this_plan_comers : Nat) (a_this_plan_names : Nat) (a_this_plan_code : Nat) (g_this_plan_code : Nat → Int32) (x_this_plan_size : Int32) (a_this_plan_spans : Nat) (x_this_fault : Int32) (x_this_place : Int32) (p0 : Int32) (hx_this_length : ib x_this_length 0 1600) (hx_this_at : ib x_this_at 0 1600) (hx_this_behind : ib x_this_behind 0 1600) (hx_this_sort : ib x_this_sort 0 4) (hx_this_plan_cycle : ib x_this_plan_cycle 0 120) (hx_this_plan_least : ib x_this_plan_least 0 99) (hx_this_plan_statements : ib x_this_plan_statements 0 81) (hx_this_plan_kinds : ib x_this_plan_kinds 0 6) (hx_this_plan_walkers : ib x_this_plan_walkers 0 12) (hx_this_plan_size : ib x_this_plan_size 0 1600) : k_Met l yX5_emit cX5_emit 2 none { frames := 0, cells := 0, slots := 0, locals := 0 } dC dI cy sq [.ref a_this, .int p0] [(a_this, .inr (5, [.ref a_this_text, .int x_this_length, .int x_this_at, .int x_this_behind, .int x_this_sort, .int x_this_allowed, .ref a_this_plan, .int x_this_fault, .int x_this_place])), (a_this_plan, .inr (4, [.int x_this_plan_cycle, .int x_this_plan_green, .int x_this_plan_rule, .int x_this_plan_least, .int x_this_plan_away, .int x_this_plan_statements, .int x_this_plan_kinds, .ref a_this_plan_calm, .ref a_this_plan_pace, .ref a_this_plan_trusts, .int x_this_plan_walkers, .ref a_this_plan_kindOf, .ref a_this_plan_comesAt, .ref a_this_plan_comers, .ref a_this_plan_names, .ref a_this_plan_code, .int x_this_plan_size, .ref a_this_plan_spans])), (a_this_plan_code, .inl (cy 0, 1600, .inl g_this_plan_code))] (k_Qv dC dI (fun (u : Int32 × (Nat → Int32)) => match u with | (n0, n1) => ib n0 0 1600) (fun u : Int32 × (Nat → Int32) => match u with | (n0, n1) => [(a_this, .inr (5, [.ref a_this_text, .int x_this_length, .int x_this_at, .int x_this_behind, .int x_this_sort, .int x_this_allowed, .ref a_this_plan, .int x_this_fault, .int x_this_place])), (a_this_plan, .inr (4, [.int x_this_plan_cycle, .int x_this_plan_green, .int x_this_plan_rule, .int x_this_plan_least, .int x_this_plan_away, .int x_this_plan_statements, .int x_this_plan_kinds, .ref a_this_plan_calm, .ref a_this_plan_pace, .ref a_this_plan_trusts, .int x_this_plan_walkers, .ref a_this_plan_kindOf, .ref a_this_plan_comesAt, .ref a_this_plan_comers, .ref a_this_plan_names, .ref a_this_plan_code, .int n0, .ref a_this_plan_spans])), (a_this_plan_code, .inl (cy 0, 1600, .inl n1))])) := by
  refine k_ofW2 (by decide +kernel) (Nat.le_of_ble_eq_true rfl) ?_
  intro p e s m below meth c A ls H locs args Q hQ C0 hr hlk hin hP hD hA hS hl
  have C0 : k_cx p s m args c cX5_emit 2 RX5 dC dI cy sq := C0
  have hx := C0.1
  have hb := C0.2.1
  have hl : lv_has ls 2 [(0, .ref a_this), (1, .int p0)] := hl
  refine lv_aload_n hx hb dX5_emit_0 rfl (lv_at hl 0 rfl) ?_
  refine k_get C0 fg_X5_37 hP 0 rfl rfl dX5_emit_1 ?_
  refine k_get C0 fg_X5_165 hP 1 rfl rfl dX5_emit_4 ?_
  refine lv_aload_n hx hb dX5_emit_7 rfl (lv_at hl 0 rfl) ?_
  refine k_get C0 fg_X5_37 hP 0 rfl rfl dX5_emit_8 ?_
  refine k_get C0 fg_X5_241 hP 1 rfl rfl dX5_emit_11 ?_
  refine va_alen hx hb C0.2.2.2.2.2.1 hP 2 0 rfl rfl (v := 1600) (show Int32.ofNat 1600 = 1600 by decide) dX5_emit_14 ?_
  refine lv_icmp_ge (tgt := 47) hx hb dX5_emit_15 (by decide) (fun c9103 => ?_) (fun c9103 => ?_)
  · have h9104 := ib_le (ib_c 1600 1600 1600 (by decide)) hx_this_plan_size c9103
    have h9105 : ib x_this_plan_size 1600 1600 := ib_w 1600 1600 h9104.2 (by decide)
    subst hQ; exact k_vret hx hb hr hlk ((x_this_plan_size, g_this_plan_code)) hS (ib_w 0 1600 h9105 (by decide)) hP hD (Nat.le_of_ble_eq_true rfl) (Nat.le_of_ble_eq_true rfl) dX5_emit_47
  · have h9106 := ib_nle (ib_c 1600 1600 1600 (by decide)) hx_this_plan_size c9103
    have h9107 : ib x_this_plan_size 0 1599 := ib_w 0 1599 h9106.2 (by decide)
    refine lv_aload_n hx hb dX5_emit_18 rfl (lv_at hl 0 rfl) ?_
    refine k_get C0 fg_X5_37 hP 0 rfl rfl dX5_emit_19 ?_
    refine k_get C0 fg_X5_241 hP 1 rfl rfl dX5_emit_22 ?_
    refine lv_aload_n hx hb dX5_emit_25 rfl (lv_at hl 0 rfl) ?_
    refine k_get C0 fg_X5_37 hP 0 rfl rfl dX5_emit_26 ?_
    refine k_get C0 fg_X5_165 hP 1 rfl rfl dX5_emit_29 ?_
    refine lv_iload_n hx hb dX5_emit_32 rfl (lv_at hl 1 rfl) ?_
    refine va_iast hx hb C0.2.2.2.2.2.1 hP hD hS 2 0 rfl rfl (ib_in 1600 h9107 (by decide)) dX5_emit_33 (fun H locs hP hD hS => ?_)
    have hP : va_P (dC, dI) vwCl [(a_this, .inr (5, [.ref a_this_text, .int x_this_length, .int x_this_at, .int x_this_behind, .int x_this_sort, .int x_this_allowed, .ref a_this_plan, .int x_this_fault, .int x_this_place])), (a_this_plan, .inr (4, [.int x_this_plan_cycle, .int x_this_plan_green, .int x_this_plan_rule, .int x_this_plan_least, .int x_this_plan_away, .int x_this_plan_statements, .int x_this_plan_kinds, .ref a_this_plan_calm, .ref a_this_plan_pace, .ref a_this_plan_trusts, .int x_this_plan_walkers, .ref a_this_plan_kindOf, .ref a_this_plan_comesAt, .ref a_this_plan_comers, .ref a_this_plan_names, .ref a_this_plan_code, .int x_this_plan_size, .ref a_this_plan_spans])), (a_this_plan_code, .inl (cy 0, 1600, .inl (upd g_this_plan_code (Int32.toNatClampNeg x_this_plan_size) p0)))] H := hP
    have hD : va_D A [(a_this, .inr (5, [.ref a_this_text, .int x_this_length, .int x_this_at, .int x_this_behind, .int x_this_sort, .int x_this_allowed, .ref a_this_plan, .int x_this_fault, .int x_this_place])), (a_this_plan, .inr (4, [.int x_this_plan_cycle, .int x_this_plan_green, .int x_this_plan_rule, .int x_this_plan_least, .int x_this_plan_away, .int x_this_plan_statements, .int x_this_plan_kinds, .ref a_this_plan_calm, .ref a_this_plan_pace, .ref a_this_plan_trusts, .int x_this_plan_walkers, .ref a_this_plan_kindOf, .ref a_this_plan_comesAt, .ref a_this_plan_comers, .ref a_this_plan_names, .ref a_this_plan_code, .int x_this_plan_size, .ref a_this_plan_spans])), (a_this_plan_code, .inl (cy 0, 1600, .inl (upd g_this_plan_code (Int32.toNatClampNeg x_this_plan_size) p0)))] := hD
    generalize upd g_this_plan_code (Int32.toNatClampNeg x_this_plan_size) p0 = f9108 at hP hD
    refine lv_aload_n hx hb dX5_emit_34 rfl (lv_at hl 0 rfl) ?_
    refine k_get C0 fg_X5_37 hP 0 rfl rfl dX5_emit_35 ?_
    refine lv_dup hx hb dX5_emit_38 rfl ?_
    refine k_get C0 fg_X5_165 hP 1 rfl rfl dX5_emit_39 ?_
    refine lv_iconst (v := 1) hx hb dX5_emit_42 (by decide) ?_
    refine lv_iadd hx hb dX5_emit_43 ?_
    refine lv_topi (fun z9109 ez9109 => ?_)
    have h9110 := ib_add h9107 (ib_c 1 1 1 (by decide)) (by decide)
    rw [← ez9109] at h9110
    have h9111 : ib z9109 1 1600 := ib_w 1 1600 h9110.1 (by decide)
    refine k_put C0 fp_X5_165 hP hD hS 1 rfl rfl rfl (Nat.le_of_ble_eq_true rfl) dX5_emit_44 (fun H locs hP hD hS => ?_)
    have hP : va_P (dC, dI) vwCl [(a_this, .inr (5, [.ref a_this_text, .int x_this_length, .int x_this_at, .int x_this_behind, .int x_this_sort, .int x_this_allowed, .ref a_this_plan, .int x_this_fault, .int x_this_place])), (a_this_plan, .inr (4, [.int x_this_plan_cycle, .int x_this_plan_green, .int x_this_plan_rule, .int x_this_plan_least, .int x_this_plan_away, .int x_this_plan_statements, .int x_this_plan_kinds, .ref a_this_plan_calm, .ref a_this_plan_pace, .ref a_this_plan_trusts, .int x_this_plan_walkers, .ref a_this_plan_kindOf, .ref a_this_plan_comesAt, .ref a_this_plan_comers, .ref a_this_plan_names, .ref a_this_plan_code, .int z9109, .ref a_this_plan_spans])), (a_this_plan_code, .inl (cy 0, 1600, .inl f9108))] H := hP
    have hD : va_D A [(a_this, .inr (5, [.ref a_this_text, .int x_this_length, .int x_this_at, .int x_this_behind, .int x_this_sort, .int x_this_allowed, .ref a_this_plan, .int x_this_fault, .int x_this_place])), (a_this_plan, .inr (4, [.int x_this_plan_cycle, .int x_this_plan_green, .int x_this_plan_rule, .int x_this_plan_least, .int x_this_plan_away, .int x_this_plan_statements, .int x_this_plan_kinds, .ref a_this_plan_calm, .ref a_this_plan_pace, .ref a_this_plan_trusts, .int x_this_plan_walkers, .ref a_this_plan_kindOf, .ref a_this_plan_comesAt, .ref a_this_plan_comers, .ref a_this_plan_names, .ref a_this_plan_code, .int z9109, .ref a_this_plan_spans])), (a_this_plan_code, .inl (cy 0, 1600, .inl f9108))] := hD
    subst hQ; exact k_vret hx hb hr hlk ((z9109, f9108)) hS (ib_w 0 1600 h9111 (by decide)) hP hD (Nat.le_of_ble_eq_true rfl) (Nat.le_of_ble_eq_true rfl) dX5_emit_47
set_option maxHeartbeats 4000000 in
set_option maxRecDepth 100000 in
theorem s_X5_fail (l : Launch) (dC : Nat → ClassId) (dI : Nat → Nat → Nat) (cy : Nat → ClassId) (sq : Nat → Nat) (a_this : Nat) (a_this_text : Nat) (x_this_length : Int32) (x_this_at : Int32) (x_this_behind : Int32) (x_this_sort : Int32) (x_this_allowed : Int32) (a_this_plan : Nat) (x_this_fault : Int32) (x_this_place : Int32) (p0 : Int32) (p1 : Int32) (hx_this_length : ib x_this_length 0 1600) (hx_this_at : ib x_this_at 0 1600) (hx_this_behind : ib x_this_behind 0 1600) (hx_this_sort : ib x_this_sort 0 4) : k_Met l yX5_fail cX5_fail 3 none { frames := 0, cells := 0, slots := 0, locals := 0 } dC dI cy sq [.ref a_this, .int p0, .int p1] [(a_this, .inr (5, [.ref a_this_text, .int x_this_length, .int x_this_at, .int x_this_behind, .int x_this_sort, .int x_this_allowed, .ref a_this_plan, .int x_this_fault, .int x_this_place]))] (k_Qv dC dI (fun (u : Int32 × Int32 × Int32 × Int32 × Int32) => match u with | (n0, n1, n2, n3, n4) => ib n0 0 1600 ∧ ib n1 0 1600 ∧ ib n2 0 4) (fun u : Int32 × Int32 × Int32 × Int32 × Int32 => match u with | (n0, n1, n2, n3, n4) => [(a_this, .inr (5, [.ref a_this_text, .int x_this_length, .int n0, .int n1, .int n2, .int x_this_allowed, .ref a_this_plan, .int n3, .int n4]))])) := by
  refine k_ofW2 (by decide +kernel) (Nat.le_of_ble_eq_true rfl) ?_
  intro p e s m below meth c A ls H locs args Q hQ C0 hr hlk hin hP hD hA hS hl
  have C0 : k_cx p s m args c cX5_fail 3 RX5 dC dI cy sq := C0
  have hx := C0.1
  have hb := C0.2.1
  have hl : lv_has ls 3 [(0, .ref a_this), (1, .int p0), (2, .int p1)] := hl
  have jn17 : ∀  (H : Heap) (locs : List Loc) (ls : Array Slot), va_P (dC, dI) vwCl [(a_this, .inr (5, [.ref a_this_text, .int x_this_length, .int x_this_at, .int x_this_behind, .int x_this_sort, .int x_this_allowed, .ref a_this_plan, .int p0, .int p1]))] H → va_D A [(a_this, .inr (5, [.ref a_this_text, .int x_this_length, .int x_this_at, .int x_this_behind, .int x_this_sort, .int x_this_allowed, .ref a_this_plan, .int p0, .int p1]))] → va_S A s.heap H locs → lv_has ls 3 [(0, .ref a_this), (1, .int p0), (2, .int p1)] → W p l e { frames := 0, cells := 0, slots := 0, locals := 0 } s m args below meth c H locs 0 0 Q (F0 m 17 ls []) := by
    intro H locs ls hP hD hS hl
    refine lv_aload_n hx hb dX5_fail_17 rfl (lv_at hl 0 rfl) ?_
    refine lv_aload_n hx hb dX5_fail_18 rfl (lv_at hl 0 rfl) ?_
    refine k_get C0 fg_X5_11 hP 0 rfl rfl dX5_fail_19 ?_
    refine k_put C0 fp_X5_15 hP hD hS 0 rfl rfl rfl (Nat.le_of_ble_eq_true rfl) dX5_fail_22 (fun H locs hP hD hS => ?_)
    have hP : va_P (dC, dI) vwCl [(a_this, .inr (5, [.ref a_this_text, .int x_this_length, .int x_this_length, .int x_this_behind, .int x_this_sort, .int x_this_allowed, .ref a_this_plan, .int p0, .int p1]))] H := hP
    have hD : va_D A [(a_this, .inr (5, [.ref a_this_text, .int x_this_length, .int x_this_length, .int x_this_behind, .int x_this_sort, .int x_this_allowed, .ref a_this_plan, .int p0, .int p1]))] := hD
    refine lv_aload_n hx hb dX5_fail_25 rfl (lv_at hl 0 rfl) ?_
    refine lv_aload_n hx hb dX5_fail_26 rfl (lv_at hl 0 rfl) ?_
    refine k_get C0 fg_X5_11 hP 0 rfl rfl dX5_fail_27 ?_
    refine k_put C0 fp_X5_18 hP hD hS 0 rfl rfl rfl (Nat.le_of_ble_eq_true rfl) dX5_fail_30 (fun H locs hP hD hS => ?_)
    have hP : va_P (dC, dI) vwCl [(a_this, .inr (5, [.ref a_this_text, .int x_this_length, .int x_this_length, .int x_this_length, .int x_this_sort, .int x_this_allowed, .ref a_this_plan, .int p0, .int p1]))] H := hP
    have hD : va_D A [(a_this, .inr (5, [.ref a_this_text, .int x_this_length, .int x_this_length, .int x_this_length, .int x_this_sort, .int x_this_allowed, .ref a_this_plan, .int p0, .int p1]))] := hD
    refine lv_aload_n hx hb dX5_fail_33 rfl (lv_at hl 0 rfl) ?_
    refine lv_iconst (v := 0) hx hb dX5_fail_34 (by decide) ?_
    refine k_put C0 fp_X5_21 hP hD hS 0 rfl rfl rfl (Nat.le_of_ble_eq_true rfl) dX5_fail_35 (fun H locs hP hD hS => ?_)
    have hP : va_P (dC, dI) vwCl [(a_this, .inr (5, [.ref a_this_text, .int x_this_length, .int x_this_length, .int x_this_length, .int 0, .int x_this_allowed, .ref a_this_plan, .int p0, .int p1]))] H := hP
    have hD : va_D A [(a_this, .inr (5, [.ref a_this_text, .int x_this_length, .int x_this_length, .int x_this_length, .int 0, .int x_this_allowed, .ref a_this_plan, .int p0, .int p1]))] := hD
    subst hQ; exact k_vret hx hb hr hlk ((x_this_length, x_this_length, 0, p0, p1)) hS ⟨ib_w 0 1600 hx_this_length (by decide), ib_w 0 1600 hx_this_length (by decide), ib_w 0 4 (ib_c 0 0 0 (by decide)) (by decide)⟩ hP hD (Nat.le_of_ble_eq_true rfl) (Nat.le_of_ble_eq_true rfl) dX5_fail_38
  refine lv_aload_n hx hb dX5_fail_0 rfl (lv_at hl 0 rfl) ?_
  refine k_get C0 fg_X5_27 hP 0 rfl rfl dX5_fail_1 ?_
  refine lv_if_ne (tgt := 17) hx hb dX5_fail_4 (by decide) (fun c10347 => ?_) (fun c10347 => ?_)
  · skip
    refine lv_aload_n hx hb dX5_fail_17 rfl (lv_at hl 0 rfl) ?_
    refine lv_aload_n hx hb dX5_fail_18 rfl (lv_at hl 0 rfl) ?_
    refine k_get C0 fg_X5_11 hP 0 rfl rfl dX5_fail_19 ?_
    refine k_put C0 fp_X5_15 hP hD hS 0 rfl rfl rfl (Nat.le_of_ble_eq_true rfl) dX5_fail_22 (fun H locs hP hD hS => ?_)
    have hP : va_P (dC, dI) vwCl [(a_this, .inr (5, [.ref a_this_text, .int x_this_length, .int x_this_length, .int x_this_behind, .int x_this_sort, .int x_this_allowed, .ref a_this_plan, .int x_this_fault, .int x_this_place]))] H := hP
    have hD : va_D A [(a_this, .inr (5, [.ref a_this_text, .int x_this_length, .int x_this_length, .int x_this_behind, .int x_this_sort, .int x_this_allowed, .ref a_this_plan, .int x_this_fault, .int x_this_place]))] := hD
    refine lv_aload_n hx hb dX5_fail_25 rfl (lv_at hl 0 rfl) ?_
    refine lv_aload_n hx hb dX5_fail_26 rfl (lv_at hl 0 rfl) ?_
    refine k_get C0 fg_X5_11 hP 0 rfl rfl dX5_fail_27 ?_
    refine k_put C0 fp_X5_18 hP hD hS 0 rfl rfl rfl (Nat.le_of_ble_eq_true rfl) dX5_fail_30 (fun H locs hP hD hS => ?_)
    have hP : va_P (dC, dI) vwCl [(a_this, .inr (5, [.ref a_this_text, .int x_this_length, .int x_this_length, .int x_this_length, .int x_this_sort, .int x_this_allowed, .ref a_this_plan, .int x_this_fault, .int x_this_place]))] H := hP
    have hD : va_D A [(a_this, .inr (5, [.ref a_this_text, .int x_this_length, .int x_this_length, .int x_this_length, .int x_this_sort, .int x_this_allowed, .ref a_this_plan, .int x_this_fault, .int x_this_place]))] := hD
    refine lv_aload_n hx hb dX5_fail_33 rfl (lv_at hl 0 rfl) ?_
    refine lv_iconst (v := 0) hx hb dX5_fail_34 (by decide) ?_
    refine k_put C0 fp_X5_21 hP hD hS 0 rfl rfl rfl (Nat.le_of_ble_eq_true rfl) dX5_fail_35 (fun H locs hP hD hS => ?_)
    have hP : va_P (dC, dI) vwCl [(a_this, .inr (5, [.ref a_this_text, .int x_this_length, .int x_this_length, .int x_this_length, .int 0, .int x_this_allowed, .ref a_this_plan, .int x_this_fault, .int x_this_place]))] H := hP
    have hD : va_D A [(a_this, .inr (5, [.ref a_this_text, .int x_this_length, .int x_this_length, .int x_this_length, .int 0, .int x_this_allowed, .ref a_this_plan, .int x_this_fault, .int x_this_place]))] := hD
    subst hQ; exact k_vret hx hb hr hlk ((x_this_length, x_this_length, 0, x_this_fault, x_this_place)) hS ⟨ib_w 0 1600 hx_this_length (by decide), ib_w 0 1600 hx_this_length (by decide), ib_w 0 4 (ib_c 0 0 0 (by decide)) (by decide)⟩ hP hD (Nat.le_of_ble_eq_true rfl) (Nat.le_of_ble_eq_true rfl) dX5_fail_38
  · have h10348 := ib_eq (ib_any x_this_fault) (ib_c 0 0 0 (by decide)) c10347
    have h10349 : ib x_this_fault 0 0 := ib_w 0 0 h10348.1 (by decide)
    refine lv_aload_n hx hb dX5_fail_7 rfl (lv_at hl 0 rfl) ?_
    refine lv_iload_n hx hb dX5_fail_8 rfl (lv_at hl 1 rfl) ?_
    refine k_put C0 fp_X5_27 hP hD hS 0 rfl rfl rfl (Nat.le_of_ble_eq_true rfl) dX5_fail_9 (fun H locs hP hD hS => ?_)
    have hP : va_P (dC, dI) vwCl [(a_this, .inr (5, [.ref a_this_text, .int x_this_length, .int x_this_at, .int x_this_behind, .int x_this_sort, .int x_this_allowed, .ref a_this_plan, .int p0, .int x_this_place]))] H := hP
    have hD : va_D A [(a_this, .inr (5, [.ref a_this_text, .int x_this_length, .int x_this_at, .int x_this_behind, .int x_this_sort, .int x_this_allowed, .ref a_this_plan, .int p0, .int x_this_place]))] := hD
    refine lv_aload_n hx hb dX5_fail_12 rfl (lv_at hl 0 rfl) ?_
    refine lv_iload_n hx hb dX5_fail_13 rfl (lv_at hl 2 rfl) ?_
    refine k_put C0 fp_X5_30 hP hD hS 0 rfl rfl rfl (Nat.le_of_ble_eq_true rfl) dX5_fail_14 (fun H locs hP hD hS => ?_)
    have hP : va_P (dC, dI) vwCl [(a_this, .inr (5, [.ref a_this_text, .int x_this_length, .int x_this_at, .int x_this_behind, .int x_this_sort, .int x_this_allowed, .ref a_this_plan, .int p0, .int p1]))] H := hP
    have hD : va_D A [(a_this, .inr (5, [.ref a_this_text, .int x_this_length, .int x_this_at, .int x_this_behind, .int x_this_sort, .int x_this_allowed, .ref a_this_plan, .int p0, .int p1]))] := hD
    exact jn17  H locs ls  hP hD hS (lv_sub hl [0, 1, 2] rfl)
set_option maxHeartbeats 4000000 in
set_option maxRecDepth 100000 in
theorem s_X5_wrongInName (l : Launch) (dC : Nat → ClassId) (dI : Nat → Nat → Nat) (cy : Nat → ClassId) (sq : Nat → Nat) (a_this : Nat) (a_this_text : Nat) (x_this_length : Int32) (x_this_at : Int32) (x_this_behind : Int32) (x_this_sort : Int32) (x_this_allowed : Int32) (a_this_plan : Nat) (x_this_fault : Int32) (x_this_place : Int32) (hx_this_length : ib x_this_length 0 1600) (hx_this_at : ib x_this_at 0 1600) (hx_this_behind : ib x_this_behind 0 1600) (hx_this_sort : ib x_this_sort 0 4) : k_Met l yX5_wrongInName cX5_wrongInName 1 (some .int) { frames := 0, cells := 0, slots := 0, locals := 0 } dC dI cy sq [.ref a_this] [(a_this, .inr (5, [.ref a_this_text, .int x_this_length, .int x_this_at, .int x_this_behind, .int x_this_sort, .int x_this_allowed, .ref a_this_plan, .int x_this_fault, .int x_this_place]))] (k_Qi dC dI (fun (r : Int32) (_ : Unit) => ib r 0 1606) (fun _ : Unit => [(a_this, .inr (5, [.ref a_this_text, .int x_this_length, .int x_this_at, .int x_this_behind, .int x_this_sort, .int x_this_allowed, .ref a_this_plan, .int x_this_fault, .int x_this_place]))])) := by
  refine k_ofW2 (by decide +kernel) (Nat.le_of_ble_eq_true rfl) ?_
  intro p e s m below meth c A ls H locs args Q hQ C0 hr hlk hin hP hD hA hS hl
  have C0 : k_cx p s m args c cX5_wrongInName 1 RX5 dC dI cy sq := C0
  have hx := C0.1
  have hb := C0.2.1
  have hl : lv_has ls 1 [(0, .ref a_this)] := hl
  refine lv_aload_n hx hb dX5_wrongInName_0 rfl (lv_at hl 0 rfl) ?_
  refine k_get C0 fg_X5_21 hP 0 rfl rfl dX5_wrongInName_1 ?_
  refine lv_iconst (v := 1) hx hb dX5_wrongInName_4 (by decide) ?_
  refine lv_icmp_ne (tgt := 32) hx hb dX5_wrongInName_5 (by decide) (fun c17644 => ?_) (fun c17644 => ?_)
  · skip
    refine lv_aload_n hx hb dX5_wrongInName_32 rfl (lv_at hl 0 rfl) ?_
    refine k_get C0 fg_X5_15 hP 0 rfl rfl dX5_wrongInName_33 ?_
    subst hQ; exact k_iret hx hb hr hlk rfl () hS (ib_w 0 1606 hx_this_at (by decide)) hP hD (Nat.le_of_ble_eq_true rfl) (Nat.le_of_ble_eq_true rfl) dX5_wrongInName_36
  · have h17645 := ib_eq hx_this_sort (ib_c 1 1 1 (by decide)) c17644
    have h17646 : ib x_this_sort 1 1 := ib_w 1 1 h17645.1 (by decide)
    refine lv_aload_n hx hb dX5_wrongInName_8 rfl (lv_at hl 0 rfl) ?_
    refine k_get C0 fg_X5_18 hP 0 rfl rfl dX5_wrongInName_9 ?_
    refine lv_aload_n hx hb dX5_wrongInName_12 rfl (lv_at hl 0 rfl) ?_
    refine k_get C0 fg_X5_15 hP 0 rfl rfl dX5_wrongInName_13 ?_
    refine lv_isub hx hb dX5_wrongInName_16 ?_
    refine lv_topi (fun z17647 ez17647 => ?_)
    have h17648 := ib_sub hx_this_behind hx_this_at (by decide)
    rw [← ez17647] at h17648
    have h17649 : ib z17647 (-1600) 1600 := ib_w (-1600) 1600 h17648.1 (by decide)
    refine lv_bipush (v := 6) hx hb dX5_wrongInName_17 (by decide) ?_
    refine lv_icmp_le (tgt := 32) hx hb dX5_wrongInName_19 (by decide) (fun c17650 => ?_) (fun c17650 => ?_)
    · have h17651 := ib_le h17649 (ib_c 6 6 6 (by decide)) c17650
      have h17652 : ib z17647 (-1600) 6 := ib_w (-1600) 6 h17651.1 (by decide)
      refine lv_aload_n hx hb dX5_wrongInName_32 rfl (lv_at hl 0 rfl) ?_
      refine k_get C0 fg_X5_15 hP 0 rfl rfl dX5_wrongInName_33 ?_
      subst hQ; exact k_iret hx hb hr hlk rfl () hS (ib_w 0 1606 hx_this_at (by decide)) hP hD (Nat.le_of_ble_eq_true rfl) (Nat.le_of_ble_eq_true rfl) dX5_wrongInName_36
    · have h17653 := ib_nle h17649 (ib_c 6 6 6 (by decide)) c17650
      have h17654 : ib z17647 7 1600 := ib_w 7 1600 h17653.1 (by decide)
      refine lv_aload_n hx hb dX5_wrongInName_22 rfl (lv_at hl 0 rfl) ?_
      refine k_get C0 fg_X5_15 hP 0 rfl rfl dX5_wrongInName_23 ?_
      refine lv_bipush (v := 6) hx hb dX5_wrongInName_26 (by decide) ?_
      refine lv_iadd hx hb dX5_wrongInName_28 ?_
      refine lv_topi (fun z17655 ez17655 => ?_)
      have h17656 := ib_add hx_this_at (ib_c 6 6 6 (by decide)) (by decide)
      rw [← ez17655] at h17656
      have h17657 : ib z17655 6 1606 := ib_w 6 1606 h17656.1 (by decide)
      refine lv_goto (tgt := 36) hx hb dX5_wrongInName_29 (by decide) ?_
      subst hQ; exact k_iret hx hb hr hlk rfl () hS (ib_w 0 1606 h17657 (by decide)) hP hD (Nat.le_of_ble_eq_true rfl) (Nat.le_of_ble_eq_true rfl) dX5_wrongInName_36
set_option maxHeartbeats 4000000 in
set_option maxRecDepth 100000 in
theorem s_X7_allCross (l : Launch) (dC : Nat → ClassId) (dI : Nat → Nat → Nat) (cy : Nat → ClassId) (sq : Nat → Nat) (a_this : Nat) (a_this_machine : Nat) (a_this_plan : Nat) (x_this_plan_cycle : Int32) (x_this_plan_green : Int32) (x_this_plan_rule : Int32) (x_this_plan_least : Int32) (x_this_plan_away : Int32) (x_this_plan_statements : Int32) (x_this_plan_kinds : Int32) (a_this_plan_calm : Nat) (a_this_plan_pace : Nat) (a_this_plan_trusts : Nat) (x_this_plan_walkers : Int32) (a_this_plan_kindOf : Nat) (a_this_plan_comesAt : Nat) (a_this_plan_comers : Nat) (a_this_plan_names : Nat) (a_this_plan_code : Nat) (x_this_plan_size : Int32) (a_this_plan_spans : Nat) (x_this_day : Int32) (a_this_trusts : Nat) (x_this_rule : Int32) (x_this_green : Int32) (x_this_absent : Int32) (x_this_asksReds : Int32) (a_this_cars : Nat) (a_this_gaps : Nat) (a_this_known : Nat) (a_this_left : Nat) (a_this_leaves : Nat) (x_this_pressed : Int32) (x_this_crossed : Int32) (x_this_went : Int32) (x_this_harmed : Int32) (hx_this_plan_cycle : ib x_this_plan_cycle 0 120) (hx_this_plan_least : ib x_this_plan_least 0 99) (hx_this_plan_statements : ib x_this_plan_statements 0 81) (hx_this_plan_kinds : ib x_this_plan_kinds 0 6) (hx_this_plan_walkers : ib x_this_plan_walkers 0 12) (hx_this_plan_size : ib x_this_plan_size 0 1600) (hx_this_asksReds : ib x_this_asksReds 0 1) : k_Met l yX7_allCross cX7_allCross 1 (some .boolean) { frames := 1, cells := 0, slots := 0, locals := 20 } dC dI cy sq [.ref a_this] [(a_this, .inr (7, [.ref a_this_machine, .ref a_this_plan, .int x_this_day, .ref a_this_trusts, .int x_this_rule, .int x_this_green, .int x_this_absent, .int x_this_asksReds, .ref a_this_cars, .ref a_this_gaps, .ref a_this_known, .ref a_this_left, .ref a_this_leaves, .int x_this_pressed, .int x_this_crossed, .int x_this_went, .int x_this_harmed])), (a_this_plan, .inr (4, [.int x_this_plan_cycle, .int x_this_plan_green, .int x_this_plan_rule, .int x_this_plan_least, .int x_this_plan_away, .int x_this_plan_statements, .int x_this_plan_kinds, .ref a_this_plan_calm, .ref a_this_plan_pace, .ref a_this_plan_trusts, .int x_this_plan_walkers, .ref a_this_plan_kindOf, .ref a_this_plan_comesAt, .ref a_this_plan_comers, .ref a_this_plan_names, .ref a_this_plan_code, .int x_this_plan_size, .ref a_this_plan_spans]))] (k_Qi dC dI (fun (r : Int32) (_ : Unit) => ib r 0 1) (fun _ : Unit => [(a_this, .inr (7, [.ref a_this_machine, .ref a_this_plan, .int x_this_day, .ref a_this_trusts, .int x_this_rule, .int x_this_green, .int x_this_absent, .int x_this_asksReds, .ref a_this_cars, .ref a_this_gaps, .ref a_this_known, .ref a_this_left, .ref a_this_leaves, .int x_this_pressed, .int x_this_crossed, .int x_this_went, .int x_this_harmed])), (a_this_plan, .inr (4, [.int x_this_plan_cycle, .int x_this_plan_green, .int x_this_plan_rule, .int x_this_plan_least, .int x_this_plan_away, .int x_this_plan_statements, .int x_this_plan_kinds, .ref a_this_plan_calm, .ref a_this_plan_pace, .ref a_this_plan_trusts, .int x_this_plan_walkers, .ref a_this_plan_kindOf, .ref a_this_plan_comesAt, .ref a_this_plan_comers, .ref a_this_plan_names, .ref a_this_plan_code, .int x_this_plan_size, .ref a_this_plan_spans]))])) := by
  refine k_ofW2 (by decide +kernel) (Nat.le_of_ble_eq_true rfl) ?_
  intro p e s m below meth c A ls H locs args Q hQ C0 hr hlk hin hP hD hA hS hl
  have C0 : k_cx p s m args c cX7_allCross 1 RX7 dC dI cy sq := C0
  have hx := C0.1
  have hb := C0.2.1
  have hl : lv_has ls 1 [(0, .ref a_this)] := hl
  refine lv_aload_n hx hb dX7_allCross_0 rfl (lv_at hl 0 rfl) ?_
  refine k_get C0 fg_X7_50 hP 0 rfl rfl dX7_allCross_1 ?_
  refine lv_aload_n hx hb dX7_allCross_4 rfl (lv_at hl 0 rfl) ?_
  refine k_get C0 fg_X7_63 hP 0 rfl rfl dX7_allCross_5 ?_
  refine k_ji hP hD hS hA [1] [0] (wr := [(a_this, .inr (7, [.ref a_this_machine, .ref a_this_plan, .int x_this_day, .ref a_this_trusts, .int x_this_rule, .int x_this_green, .int x_this_absent, .int x_this_asksReds, .ref a_this_cars, .ref a_this_gaps, .ref a_this_known, .ref a_this_left, .ref a_this_leaves, .int x_this_pressed, .int x_this_crossed, .int x_this_went, .int x_this_harmed]))]) rfl rfl (by decide) (by decide) (by decide) 0 0 (Nat.le_of_ble_eq_true rfl) (Nat.le_of_ble_eq_true rfl) (fun hPc hDc => k_runV (As := []) (rest := [.int x_this_crossed]) C0 (s_X4_everyone l dC dI cy sq a_this_plan x_this_plan_cycle x_this_plan_green x_this_plan_rule x_this_plan_least x_this_plan_away x_this_plan_statements x_this_plan_kinds a_this_plan_calm a_this_plan_pace a_this_plan_trusts x_this_plan_walkers a_this_plan_kindOf a_this_plan_comesAt a_this_plan_comers a_this_plan_names a_this_plan_code x_this_plan_size a_this_plan_spans (ib_w 0 120 hx_this_plan_cycle (by decide)) (ib_w 0 99 hx_this_plan_least (by decide)) (ib_w 0 81 hx_this_plan_statements (by decide)) (ib_w 0 6 hx_this_plan_kinds (by decide)) (ib_w 0 12 hx_this_plan_walkers (by decide)) (ib_w 0 1600 hx_this_plan_size (by decide))) mV_X7_143 hPc hDc rfl rfl rfl hl rfl rfl (Nat.le_of_ble_eq_true rfl) ⟨(Nat.le_of_ble_eq_true rfl), (Nat.le_of_ble_eq_true rfl)⟩ ⟨(Nat.le_of_ble_eq_true rfl), (Nat.le_of_ble_eq_true rfl)⟩ dX7_allCross_8) (fun r17698 u17699 H locs hw hP hD hS => ?_)
  try dsimp only at hP hD hw
  have hP : va_P (dC, dI) vwCl [(a_this, .inr (7, [.ref a_this_machine, .ref a_this_plan, .int x_this_day, .ref a_this_trusts, .int x_this_rule, .int x_this_green, .int x_this_absent, .int x_this_asksReds, .ref a_this_cars, .ref a_this_gaps, .ref a_this_known, .ref a_this_left, .ref a_this_leaves, .int x_this_pressed, .int x_this_crossed, .int x_this_went, .int x_this_harmed])), (a_this_plan, .inr (4, [.int x_this_plan_cycle, .int x_this_plan_green, .int x_this_plan_rule, .int x_this_plan_least, .int x_this_plan_away, .int x_this_plan_statements, .int x_this_plan_kinds, .ref a_this_plan_calm, .ref a_this_plan_pace, .ref a_this_plan_trusts, .int x_this_plan_walkers, .ref a_this_plan_kindOf, .ref a_this_plan_comesAt, .ref a_this_plan_comers, .ref a_this_plan_names, .ref a_this_plan_code, .int x_this_plan_size, .ref a_this_plan_spans]))] H := hP
  have hD : va_D A [(a_this, .inr (7, [.ref a_this_machine, .ref a_this_plan, .int x_this_day, .ref a_this_trusts, .int x_this_rule, .int x_this_green, .int x_this_absent, .int x_this_asksReds, .ref a_this_cars, .ref a_this_gaps, .ref a_this_known, .ref a_this_left, .ref a_this_leaves, .int x_this_pressed, .int x_this_crossed, .int x_this_went, .int x_this_harmed])), (a_this_plan, .inr (4, [.int x_this_plan_cycle, .int x_this_plan_green, .int x_this_plan_rule, .int x_this_plan_least, .int x_this_plan_away, .int x_this_plan_statements, .int x_this_plan_kinds, .ref a_this_plan_calm, .ref a_this_plan_pace, .ref a_this_plan_trusts, .int x_this_plan_walkers, .ref a_this_plan_kindOf, .ref a_this_plan_comesAt, .ref a_this_plan_comers, .ref a_this_plan_names, .ref a_this_plan_code, .int x_this_plan_size, .ref a_this_plan_spans]))] := hD
  refine lv_icmp_ne (tgt := 18) hx hb dX7_allCross_11 (by decide) (fun c17700 => ?_) (fun c17700 => ?_)
  · skip
    refine lv_iconst (v := 0) hx hb dX7_allCross_18 (by decide) ?_
    subst hQ; exact k_iret hx hb hr hlk (k_nb 0 (by decide)) () hS (ib_w 0 1 (ib_c 0 0 0 (by decide)) (by decide)) hP hD (Nat.le_of_ble_eq_true rfl) (Nat.le_of_ble_eq_true rfl) dX7_allCross_19
  · have h17701 := ib_eq (ib_any x_this_crossed) (ib_any r17698) c17700
    refine lv_iconst (v := 1) hx hb dX7_allCross_14 (by decide) ?_
    refine lv_goto (tgt := 19) hx hb dX7_allCross_15 (by decide) ?_
    subst hQ; exact k_iret hx hb hr hlk (k_nb 1 (by decide)) () hS (ib_w 0 1 (ib_c 1 1 1 (by decide)) (by decide)) hP hD (Nat.le_of_ble_eq_true rfl) (Nat.le_of_ble_eq_true rfl) dX7_allCross_19
set_option maxHeartbeats 4000000 in
set_option maxRecDepth 100000 in
theorem s_X7_describe (l : Launch) (dC : Nat → ClassId) (dI : Nat → Nat → Nat) (cy : Nat → ClassId) (sq : Nat → Nat) (a_this : Nat) (a_this_machine : Nat) (a_this_machine_facts : Nat) (g_this_machine_facts : Nat → Int32) (a_this_machine_stack : Nat) (a_this_plan : Nat) (x_this_plan_cycle : Int32) (x_this_plan_green : Int32) (x_this_plan_rule : Int32) (x_this_plan_least : Int32) (x_this_plan_away : Int32) (x_this_plan_statements : Int32) (x_this_plan_kinds : Int32) (a_this_plan_calm : Nat) (g_this_plan_calm : Nat → Int32) (a_this_plan_pace : Nat) (g_this_plan_pace : Nat → Int32) (a_this_plan_trusts : Nat) (x_this_plan_walkers : Int32) (a_this_plan_kindOf : Nat) (g_this_plan_kindOf : Nat → Int32) (a_this_plan_comesAt : Nat) (a_this_plan_comers : Nat) (a_this_plan_names : Nat) (a_this_plan_code : Nat) (x_this_plan_size : Int32) (a_this_plan_spans : Nat) (x_this_day : Int32) (a_this_trusts : Nat) (x_this_rule : Int32) (x_this_green : Int32) (x_this_absent : Int32) (x_this_asksReds : Int32) (a_this_cars : Nat) (a_this_gaps : Nat) (a_this_known : Nat) (a_this_left : Nat) (a_this_leaves : Nat) (x_this_pressed : Int32) (x_this_crossed : Int32) (x_this_went : Int32) (x_this_harmed : Int32) (p0 : Int32) (p1 : Int32) (p2 : Int32) (p3 : Int32) (hx_this_plan_cycle : ib x_this_plan_cycle 0 120) (hx_this_plan_least : ib x_this_plan_least 0 99) (hx_this_plan_statements : ib x_this_plan_statements 0 81) (hx_this_plan_kinds : ib x_this_plan_kinds 0 6) (hx_this_plan_walkers : ib x_this_plan_walkers 0 12) (hg_this_plan_kindOf : ia g_this_plan_kindOf 12 0 5) (hx_this_plan_size : ib x_this_plan_size 0 1600) (hx_this_asksReds : ib x_this_asksReds 0 1) (hp0 : ib p0 0 11) : k_Met l yX7_describe cX7_describe 7 none { frames := 0, cells := 0, slots := 0, locals := 0 } dC dI cy sq [.ref a_this, .int p0, .int p1, .int p2, .int p3] [(a_this, .inr (7, [.ref a_this_machine, .ref a_this_plan, .int x_this_day, .ref a_this_trusts, .int x_this_rule, .int x_this_green, .int x_this_absent, .int x_this_asksReds, .ref a_this_cars, .ref a_this_gaps, .ref a_this_known, .ref a_this_left, .ref a_this_leaves, .int x_this_pressed, .int x_this_crossed, .int x_this_went, .int x_this_harmed])), (a_this_plan, .inr (4, [.int x_this_plan_cycle, .int x_this_plan_green, .int x_this_plan_rule, .int x_this_plan_least, .int x_this_plan_away, .int x_this_plan_statements, .int x_this_plan_kinds, .ref a_this_plan_calm, .ref a_this_plan_pace, .ref a_this_plan_trusts, .int x_this_plan_walkers, .ref a_this_plan_kindOf, .ref a_this_plan_comesAt, .ref a_this_plan_comers, .ref a_this_plan_names, .ref a_this_plan_code, .int x_this_plan_size, .ref a_this_plan_spans])), (a_this_plan_kindOf, .inl (cy 0, 12, .inl g_this_plan_kindOf)), (a_this_machine, .inr (3, [.ref a_this_machine_facts, .ref a_this_machine_stack])), (a_this_machine_facts, .inl (cy 0, 13, .inl g_this_machine_facts)), (a_this_plan_calm, .inl (cy 0, 6, .inl g_this_plan_calm)), (a_this_plan_pace, .inl (cy 0, 6, .inl g_this_plan_pace))] (k_Qv dC dI (fun (n0 : (Nat → Int32)) => True) (fun n0 : (Nat → Int32) => [(a_this, .inr (7, [.ref a_this_machine, .ref a_this_plan, .int x_this_day, .ref a_this_trusts, .int x_this_rule, .int x_this_green, .int x_this_absent, .int x_this_asksReds, .ref a_this_cars, .ref a_this_gaps, .ref a_this_known, .ref a_this_left, .ref a_this_leaves, .int x_this_pressed, .int x_this_crossed, .int x_this_went, .int x_this_harmed])), (a_this_plan, .inr (4, [.int x_this_plan_cycle, .int x_this_plan_green, .int x_this_plan_rule, .int x_this_plan_least, .int x_this_plan_away, .int x_this_plan_statements, .int x_this_plan_kinds, .ref a_this_plan_calm, .ref a_this_plan_pace, .ref a_this_plan_trusts, .int x_this_plan_walkers, .ref a_this_plan_kindOf, .ref a_this_plan_comesAt, .ref a_this_plan_comers, .ref a_this_plan_names, .ref a_this_plan_code, .int x_this_plan_size, .ref a_this_plan_spans])), (a_this_plan_kindOf, .inl (cy 0, 12, .inl g_this_plan_kindOf)), (a_this_machine, .inr (3, [.ref a_this_machine_facts, .ref a_this_machine_stack])), (a_this_machine_facts, .inl (cy 0, 13, .inl n0)), (a_this_plan_calm, .inl (cy 0, 6, .inl g_this_plan_calm)), (a_this_plan_pace, .inl (cy 0, 6, .inl g_this_plan_pace))])) := by
  refine k_ofW2 (by decide +kernel) (Nat.le_of_ble_eq_true rfl) ?_
  intro p e s m below meth c A ls H locs args Q hQ C0 hr hlk hin hP hD hA hS hl
  have C0 : k_cx p s m args c cX7_describe 7 RX7 dC dI cy sq := C0
  have hx := C0.1
  have hb := C0.2.1
  have hl : lv_has ls 7 [(0, .ref a_this), (1, .int p0), (2, .int p1), (3, .int p2), (4, .int p3)] := hl
  refine lv_aload_n hx hb dX7_describe_0 rfl (lv_at hl 0 rfl) ?_
  refine k_get C0 fg_X7_63 hP 0 rfl rfl dX7_describe_1 ?_
  refine k_get C0 fg_X7_140 hP 1 rfl rfl dX7_describe_4 ?_
  refine lv_iload_n hx hb dX7_describe_7 rfl (lv_at hl 1 rfl) ?_
  refine va_iald hx hb C0.2.2.2.2.2.1 hP 2 0 rfl rfl (ib_in 12 hp0 (by decide)) dX7_describe_8 ?_
  refine lv_topi (fun z17802 ez17802 => ?_)
  have h17803 : ib z17802 0 5 := by rw [ez17802]; exact ia_at hg_this_plan_kindOf (ib_in 12 hp0 (by decide))
  refine lv_istore (lv' := [(5, .int z17802), (0, .ref a_this), (1, .int p0), (2, .int p1), (3, .int p2), (4, .int p3)]) hx hb dX7_describe_9 hl (by decide) rfl (fun ls hl => ?_)
  refine lv_aload_n hx hb dX7_describe_11 rfl (lv_at hl 1 rfl) ?_
  refine k_get C0 fg_X7_59 hP 0 rfl rfl dX7_describe_12 ?_
  refine k_get C0 fg_X7_102 hP 3 rfl rfl dX7_describe_15 ?_
  refine lv_astore (lv' := [(6, .ref a_this_machine_facts), (5, .int z17802), (0, .ref a_this), (1, .int p0), (2, .int p1), (3, .int p2), (4, .int p3)]) hx hb dX7_describe_18 hl (by decide) rfl (fun ls hl => ?_)
  refine lv_aload hx hb dX7_describe_20 (lv_at hl 0 rfl) ?_
  refine lv_iconst (v := 0) hx hb dX7_describe_22 (by decide) ?_
  refine lv_iload_n hx hb dX7_describe_23 rfl (lv_at hl 4 rfl) ?_
  refine va_iast hx hb C0.2.2.2.2.2.1 hP hD hS 4 0 rfl rfl (k_in 0 13 (by decide)) dX7_describe_24 (fun H locs hP hD hS => ?_)
  have hP : va_P (dC, dI) vwCl [(a_this, .inr (7, [.ref a_this_machine, .ref a_this_plan, .int x_this_day, .ref a_this_trusts, .int x_this_rule, .int x_this_green, .int x_this_absent, .int x_this_asksReds, .ref a_this_cars, .ref a_this_gaps, .ref a_this_known, .ref a_this_left, .ref a_this_leaves, .int x_this_pressed, .int x_this_crossed, .int x_this_went, .int x_this_harmed])), (a_this_plan, .inr (4, [.int x_this_plan_cycle, .int x_this_plan_green, .int x_this_plan_rule, .int x_this_plan_least, .int x_this_plan_away, .int x_this_plan_statements, .int x_this_plan_kinds, .ref a_this_plan_calm, .ref a_this_plan_pace, .ref a_this_plan_trusts, .int x_this_plan_walkers, .ref a_this_plan_kindOf, .ref a_this_plan_comesAt, .ref a_this_plan_comers, .ref a_this_plan_names, .ref a_this_plan_code, .int x_this_plan_size, .ref a_this_plan_spans])), (a_this_plan_kindOf, .inl (cy 0, 12, .inl g_this_plan_kindOf)), (a_this_machine, .inr (3, [.ref a_this_machine_facts, .ref a_this_machine_stack])), (a_this_machine_facts, .inl (cy 0, 13, .inl (upd g_this_machine_facts (Int32.toNatClampNeg 0) p1))), (a_this_plan_calm, .inl (cy 0, 6, .inl g_this_plan_calm)), (a_this_plan_pace, .inl (cy 0, 6, .inl g_this_plan_pace))] H := hP
  have hD : va_D A [(a_this, .inr (7, [.ref a_this_machine, .ref a_this_plan, .int x_this_day, .ref a_this_trusts, .int x_this_rule, .int x_this_green, .int x_this_absent, .int x_this_asksReds, .ref a_this_cars, .ref a_this_gaps, .ref a_this_known, .ref a_this_left, .ref a_this_leaves, .int x_this_pressed, .int x_this_crossed, .int x_this_went, .int x_this_harmed])), (a_this_plan, .inr (4, [.int x_this_plan_cycle, .int x_this_plan_green, .int x_this_plan_rule, .int x_this_plan_least, .int x_this_plan_away, .int x_this_plan_statements, .int x_this_plan_kinds, .ref a_this_plan_calm, .ref a_this_plan_pace, .ref a_this_plan_trusts, .int x_this_plan_walkers, .ref a_this_plan_kindOf, .ref a_this_plan_comesAt, .ref a_this_plan_comers, .ref a_this_plan_names, .ref a_this_plan_code, .int x_this_plan_size, .ref a_this_plan_spans])), (a_this_plan_kindOf, .inl (cy 0, 12, .inl g_this_plan_kindOf)), (a_this_machine, .inr (3, [.ref a_this_machine_facts, .ref a_this_machine_stack])), (a_this_machine_facts, .inl (cy 0, 13, .inl (upd g_this_machine_facts (Int32.toNatClampNeg 0) p1))), (a_this_plan_calm, .inl (cy 0, 6, .inl g_this_plan_calm)), (a_this_plan_pace, .inl (cy 0, 6, .inl g_this_plan_pace))] := hD
  generalize upd g_this_machine_facts (Int32.toNatClampNeg 0) p1 = f17804 at hP hD
  refine lv_aload hx hb dX7_describe_25 (lv_at hl 0 rfl) ?_
  refine lv_iconst (v := 1) hx hb dX7_describe_27 (by decide) ?_
  refine lv_aload_n hx hb dX7_describe_28 rfl (lv_at hl 2 rfl) ?_
  refine k_get C0 fg_X7_9 hP 0 rfl rfl dX7_describe_29 ?_
  refine va_iast hx hb C0.2.2.2.2.2.1 hP hD hS 4 0 rfl rfl (k_in 1 13 (by decide)) dX7_describe_32 (fun H locs hP hD hS => ?_)
  have hP : va_P (dC, dI) vwCl [(a_this, .inr (7, [.ref a_this_machine, .ref a_this_plan, .int x_this_day, .ref a_this_trusts, .int x_this_rule, .int x_this_green, .int x_this_absent, .int x_this_asksReds, .ref a_this_cars, .ref a_this_gaps, .ref a_this_known, .ref a_this_left, .ref a_this_leaves, .int x_this_pressed, .int x_this_crossed, .int x_this_went, .int x_this_harmed])), (a_this_plan, .inr (4, [.int x_this_plan_cycle, .int x_this_plan_green, .int x_this_plan_rule, .int x_this_plan_least, .int x_this_plan_away, .int x_this_plan_statements, .int x_this_plan_kinds, .ref a_this_plan_calm, .ref a_this_plan_pace, .ref a_this_plan_trusts, .int x_this_plan_walkers, .ref a_this_plan_kindOf, .ref a_this_plan_comesAt, .ref a_this_plan_comers, .ref a_this_plan_names, .ref a_this_plan_code, .int x_this_plan_size, .ref a_this_plan_spans])), (a_this_plan_kindOf, .inl (cy 0, 12, .inl g_this_plan_kindOf)), (a_this_machine, .inr (3, [.ref a_this_machine_facts, .ref a_this_machine_stack])), (a_this_machine_facts, .inl (cy 0, 13, .inl (upd f17804 (Int32.toNatClampNeg 1) x_this_day))), (a_this_plan_calm, .inl (cy 0, 6, .inl g_this_plan_calm)), (a_this_plan_pace, .inl (cy 0, 6, .inl g_this_plan_pace))] H := hP
  have hD : va_D A [(a_this, .inr (7, [.ref a_this_machine, .ref a_this_plan, .int x_this_day, .ref a_this_trusts, .int x_this_rule, .int x_this_green, .int x_this_absent, .int x_this_asksReds, .ref a_this_cars, .ref a_this_gaps, .ref a_this_known, .ref a_this_left, .ref a_this_leaves, .int x_this_pressed, .int x_this_crossed, .int x_this_went, .int x_this_harmed])), (a_this_plan, .inr (4, [.int x_this_plan_cycle, .int x_this_plan_green, .int x_this_plan_rule, .int x_this_plan_least, .int x_this_plan_away, .int x_this_plan_statements, .int x_this_plan_kinds, .ref a_this_plan_calm, .ref a_this_plan_pace, .ref a_this_plan_trusts, .int x_this_plan_walkers, .ref a_this_plan_kindOf, .ref a_this_plan_comesAt, .ref a_this_plan_comers, .ref a_this_plan_names, .ref a_this_plan_code, .int x_this_plan_size, .ref a_this_plan_spans])), (a_this_plan_kindOf, .inl (cy 0, 12, .inl g_this_plan_kindOf)), (a_this_machine, .inr (3, [.ref a_this_machine_facts, .ref a_this_machine_stack])), (a_this_machine_facts, .inl (cy 0, 13, .inl (upd f17804 (Int32.toNatClampNeg 1) x_this_day))), (a_this_plan_calm, .inl (cy 0, 6, .inl g_this_plan_calm)), (a_this_plan_pace, .inl (cy 0, 6, .inl g_this_plan_pace))] := hD
  generalize upd f17804 (Int32.toNatClampNeg 1) x_this_day = f17805 at hP hD
  refine lv_aload hx hb dX7_describe_33 (lv_at hl 0 rfl) ?_
  refine lv_iconst (v := 3) hx hb dX7_describe_35 (by decide) ?_
  refine lv_iload_n hx hb dX7_describe_36 rfl (lv_at hl 5 rfl) ?_
  refine va_iast hx hb C0.2.2.2.2.2.1 hP hD hS 4 0 rfl rfl (k_in 3 13 (by decide)) dX7_describe_37 (fun H locs hP hD hS => ?_)
  have hP : va_P (dC, dI) vwCl [(a_this, .inr (7, [.ref a_this_machine, .ref a_this_plan, .int x_this_day, .ref a_this_trusts, .int x_this_rule, .int x_this_green, .int x_this_absent, .int x_this_asksReds, .ref a_this_cars, .ref a_this_gaps, .ref a_this_known, .ref a_this_left, .ref a_this_leaves, .int x_this_pressed, .int x_this_crossed, .int x_this_went, .int x_this_harmed])), (a_this_plan, .inr (4, [.int x_this_plan_cycle, .int x_this_plan_green, .int x_this_plan_rule, .int x_this_plan_least, .int x_this_plan_away, .int x_this_plan_statements, .int x_this_plan_kinds, .ref a_this_plan_calm, .ref a_this_plan_pace, .ref a_this_plan_trusts, .int x_this_plan_walkers, .ref a_this_plan_kindOf, .ref a_this_plan_comesAt, .ref a_this_plan_comers, .ref a_this_plan_names, .ref a_this_plan_code, .int x_this_plan_size, .ref a_this_plan_spans])), (a_this_plan_kindOf, .inl (cy 0, 12, .inl g_this_plan_kindOf)), (a_this_machine, .inr (3, [.ref a_this_machine_facts, .ref a_this_machine_stack])), (a_this_machine_facts, .inl (cy 0, 13, .inl (upd f17805 (Int32.toNatClampNeg 3) p2))), (a_this_plan_calm, .inl (cy 0, 6, .inl g_this_plan_calm)), (a_this_plan_pace, .inl (cy 0, 6, .inl g_this_plan_pace))] H := hP
  have hD : va_D A [(a_this, .inr (7, [.ref a_this_machine, .ref a_this_plan, .int x_this_day, .ref a_this_trusts, .int x_this_rule, .int x_this_green, .int x_this_absent, .int x_this_asksReds, .ref a_this_cars, .ref a_this_gaps, .ref a_this_known, .ref a_this_left, .ref a_this_leaves, .int x_this_pressed, .int x_this_crossed, .int x_this_went, .int x_this_harmed])), (a_this_plan, .inr (4, [.int x_this_plan_cycle, .int x_this_plan_green, .int x_this_plan_rule, .int x_this_plan_least, .int x_this_plan_away, .int x_this_plan_statements, .int x_this_plan_kinds, .ref a_this_plan_calm, .ref a_this_plan_pace, .ref a_this_plan_trusts, .int x_this_plan_walkers, .ref a_this_plan_kindOf, .ref a_this_plan_comesAt, .ref a_this_plan_comers, .ref a_this_plan_names, .ref a_this_plan_code, .int x_this_plan_size, .ref a_this_plan_spans])), (a_this_plan_kindOf, .inl (cy 0, 12, .inl g_this_plan_kindOf)), (a_this_machine, .inr (3, [.ref a_this_machine_facts, .ref a_this_machine_stack])), (a_this_machine_facts, .inl (cy 0, 13, .inl (upd f17805 (Int32.toNatClampNeg 3) p2))), (a_this_plan_calm, .inl (cy 0, 6, .inl g_this_plan_calm)), (a_this_plan_pace, .inl (cy 0, 6, .inl g_this_plan_pace))] := hD
  generalize upd f17805 (Int32.toNatClampNeg 3) p2 = f17806 at hP hD
  refine lv_aload hx hb dX7_describe_38 (lv_at hl 0 rfl) ?_
  refine lv_iconst (v := 4) hx hb dX7_describe_40 (by decide) ?_
  refine lv_aload_n hx hb dX7_describe_41 rfl (lv_at hl 2 rfl) ?_
  refine k_get C0 fg_X7_63 hP 0 rfl rfl dX7_describe_42 ?_
  refine k_get C0 fg_X7_160 hP 1 rfl rfl dX7_describe_45 ?_
  refine lv_iload hx hb dX7_describe_48 (lv_at hl 1 rfl) ?_
  refine va_iald hx hb C0.2.2.2.2.2.1 hP 5 0 rfl rfl (ib_in 6 h17803 (by decide)) dX7_describe_50 ?_
  refine lv_topi (fun z17807 ez17807 => ?_)
  refine va_iast hx hb C0.2.2.2.2.2.1 hP hD hS 4 0 rfl rfl (k_in 4 13 (by decide)) dX7_describe_51 (fun H locs hP hD hS => ?_)
  have hP : va_P (dC, dI) vwCl [(a_this, .inr (7, [.ref a_this_machine, .ref a_this_plan, .int x_this_day, .ref a_this_trusts, .int x_this_rule, .int x_this_green, .int x_this_absent, .int x_this_asksReds, .ref a_this_cars, .ref a_this_gaps, .ref a_this_known, .ref a_this_left, .ref a_this_leaves, .int x_this_pressed, .int x_this_crossed, .int x_this_went, .int x_this_harmed])), (a_this_plan, .inr (4, [.int x_this_plan_cycle, .int x_this_plan_green, .int x_this_plan_rule, .int x_this_plan_least, .int x_this_plan_away, .int x_this_plan_statements, .int x_this_plan_kinds, .ref a_this_plan_calm, .ref a_this_plan_pace, .ref a_this_plan_trusts, .int x_this_plan_walkers, .ref a_this_plan_kindOf, .ref a_this_plan_comesAt, .ref a_this_plan_comers, .ref a_this_plan_names, .ref a_this_plan_code, .int x_this_plan_size, .ref a_this_plan_spans])), (a_this_plan_kindOf, .inl (cy 0, 12, .inl g_this_plan_kindOf)), (a_this_machine, .inr (3, [.ref a_this_machine_facts, .ref a_this_machine_stack])), (a_this_machine_facts, .inl (cy 0, 13, .inl (upd f17806 (Int32.toNatClampNeg 4) z17807))), (a_this_plan_calm, .inl (cy 0, 6, .inl g_this_plan_calm)), (a_this_plan_pace, .inl (cy 0, 6, .inl g_this_plan_pace))] H := hP
  have hD : va_D A [(a_this, .inr (7, [.ref a_this_machine, .ref a_this_plan, .int x_this_day, .ref a_this_trusts, .int x_this_rule, .int x_this_green, .int x_this_absent, .int x_this_asksReds, .ref a_this_cars, .ref a_this_gaps, .ref a_this_known, .ref a_this_left, .ref a_this_leaves, .int x_this_pressed, .int x_this_crossed, .int x_this_went, .int x_this_harmed])), (a_this_plan, .inr (4, [.int x_this_plan_cycle, .int x_this_plan_green, .int x_this_plan_rule, .int x_this_plan_least, .int x_this_plan_away, .int x_this_plan_statements, .int x_this_plan_kinds, .ref a_this_plan_calm, .ref a_this_plan_pace, .ref a_this_plan_trusts, .int x_this_plan_walkers, .ref a_this_plan_kindOf, .ref a_this_plan_comesAt, .ref a_this_plan_comers, .ref a_this_plan_names, .ref a_this_plan_code, .int x_this_plan_size, .ref a_this_plan_spans])), (a_this_plan_kindOf, .inl (cy 0, 12, .inl g_this_plan_kindOf)), (a_this_machine, .inr (3, [.ref a_this_machine_facts, .ref a_this_machine_stack])), (a_this_machine_facts, .inl (cy 0, 13, .inl (upd f17806 (Int32.toNatClampNeg 4) z17807))), (a_this_plan_calm, .inl (cy 0, 6, .inl g_this_plan_calm)), (a_this_plan_pace, .inl (cy 0, 6, .inl g_this_plan_pace))] := hD
  generalize upd f17806 (Int32.toNatClampNeg 4) z17807 = f17808 at hP hD
  refine lv_aload hx hb dX7_describe_52 (lv_at hl 0 rfl) ?_
  refine lv_iconst (v := 5) hx hb dX7_describe_54 (by decide) ?_
  refine lv_aload_n hx hb dX7_describe_55 rfl (lv_at hl 2 rfl) ?_
  refine k_get C0 fg_X7_63 hP 0 rfl rfl dX7_describe_56 ?_
  refine k_get C0 fg_X7_146 hP 1 rfl rfl dX7_describe_59 ?_
  refine lv_iload hx hb dX7_describe_62 (lv_at hl 1 rfl) ?_
  refine va_iald hx hb C0.2.2.2.2.2.1 hP 6 0 rfl rfl (ib_in 6 h17803 (by decide)) dX7_describe_64 ?_
  refine lv_topi (fun z17809 ez17809 => ?_)
  refine va_iast hx hb C0.2.2.2.2.2.1 hP hD hS 4 0 rfl rfl (k_in 5 13 (by decide)) dX7_describe_65 (fun H locs hP hD hS => ?_)
  have hP : va_P (dC, dI) vwCl [(a_this, .inr (7, [.ref a_this_machine, .ref a_this_plan, .int x_this_day, .ref a_this_trusts, .int x_this_rule, .int x_this_green, .int x_this_absent, .int x_this_asksReds, .ref a_this_cars, .ref a_this_gaps, .ref a_this_known, .ref a_this_left, .ref a_this_leaves, .int x_this_pressed, .int x_this_crossed, .int x_this_went, .int x_this_harmed])), (a_this_plan, .inr (4, [.int x_this_plan_cycle, .int x_this_plan_green, .int x_this_plan_rule, .int x_this_plan_least, .int x_this_plan_away, .int x_this_plan_statements, .int x_this_plan_kinds, .ref a_this_plan_calm, .ref a_this_plan_pace, .ref a_this_plan_trusts, .int x_this_plan_walkers, .ref a_this_plan_kindOf, .ref a_this_plan_comesAt, .ref a_this_plan_comers, .ref a_this_plan_names, .ref a_this_plan_code, .int x_this_plan_size, .ref a_this_plan_spans])), (a_this_plan_kindOf, .inl (cy 0, 12, .inl g_this_plan_kindOf)), (a_this_machine, .inr (3, [.ref a_this_machine_facts, .ref a_this_machine_stack])), (a_this_machine_facts, .inl (cy 0, 13, .inl (upd f17808 (Int32.toNatClampNeg 5) z17809))), (a_this_plan_calm, .inl (cy 0, 6, .inl g_this_plan_calm)), (a_this_plan_pace, .inl (cy 0, 6, .inl g_this_plan_pace))] H := hP
  have hD : va_D A [(a_this, .inr (7, [.ref a_this_machine, .ref a_this_plan, .int x_this_day, .ref a_this_trusts, .int x_this_rule, .int x_this_green, .int x_this_absent, .int x_this_asksReds, .ref a_this_cars, .ref a_this_gaps, .ref a_this_known, .ref a_this_left, .ref a_this_leaves, .int x_this_pressed, .int x_this_crossed, .int x_this_went, .int x_this_harmed])), (a_this_plan, .inr (4, [.int x_this_plan_cycle, .int x_this_plan_green, .int x_this_plan_rule, .int x_this_plan_least, .int x_this_plan_away, .int x_this_plan_statements, .int x_this_plan_kinds, .ref a_this_plan_calm, .ref a_this_plan_pace, .ref a_this_plan_trusts, .int x_this_plan_walkers, .ref a_this_plan_kindOf, .ref a_this_plan_comesAt, .ref a_this_plan_comers, .ref a_this_plan_names, .ref a_this_plan_code, .int x_this_plan_size, .ref a_this_plan_spans])), (a_this_plan_kindOf, .inl (cy 0, 12, .inl g_this_plan_kindOf)), (a_this_machine, .inr (3, [.ref a_this_machine_facts, .ref a_this_machine_stack])), (a_this_machine_facts, .inl (cy 0, 13, .inl (upd f17808 (Int32.toNatClampNeg 5) z17809))), (a_this_plan_calm, .inl (cy 0, 6, .inl g_this_plan_calm)), (a_this_plan_pace, .inl (cy 0, 6, .inl g_this_plan_pace))] := hD
  generalize upd f17808 (Int32.toNatClampNeg 5) z17809 = f17810 at hP hD
  refine lv_aload hx hb dX7_describe_66 (lv_at hl 0 rfl) ?_
  refine lv_bipush (v := 6) hx hb dX7_describe_68 (by decide) ?_
  refine lv_iload hx hb dX7_describe_70 (lv_at hl 6 rfl) ?_
  refine va_iast hx hb C0.2.2.2.2.2.1 hP hD hS 4 0 rfl rfl (k_in 6 13 (by decide)) dX7_describe_72 (fun H locs hP hD hS => ?_)
  have hP : va_P (dC, dI) vwCl [(a_this, .inr (7, [.ref a_this_machine, .ref a_this_plan, .int x_this_day, .ref a_this_trusts, .int x_this_rule, .int x_this_green, .int x_this_absent, .int x_this_asksReds, .ref a_this_cars, .ref a_this_gaps, .ref a_this_known, .ref a_this_left, .ref a_this_leaves, .int x_this_pressed, .int x_this_crossed, .int x_this_went, .int x_this_harmed])), (a_this_plan, .inr (4, [.int x_this_plan_cycle, .int x_this_plan_green, .int x_this_plan_rule, .int x_this_plan_least, .int x_this_plan_away, .int x_this_plan_statements, .int x_this_plan_kinds, .ref a_this_plan_calm, .ref a_this_plan_pace, .ref a_this_plan_trusts, .int x_this_plan_walkers, .ref a_this_plan_kindOf, .ref a_this_plan_comesAt, .ref a_this_plan_comers, .ref a_this_plan_names, .ref a_this_plan_code, .int x_this_plan_size, .ref a_this_plan_spans])), (a_this_plan_kindOf, .inl (cy 0, 12, .inl g_this_plan_kindOf)), (a_this_machine, .inr (3, [.ref a_this_machine_facts, .ref a_this_machine_stack])), (a_this_machine_facts, .inl (cy 0, 13, .inl (upd f17810 (Int32.toNatClampNeg 6) p3))), (a_this_plan_calm, .inl (cy 0, 6, .inl g_this_plan_calm)), (a_this_plan_pace, .inl (cy 0, 6, .inl g_this_plan_pace))] H := hP
  have hD : va_D A [(a_this, .inr (7, [.ref a_this_machine, .ref a_this_plan, .int x_this_day, .ref a_this_trusts, .int x_this_rule, .int x_this_green, .int x_this_absent, .int x_this_asksReds, .ref a_this_cars, .ref a_this_gaps, .ref a_this_known, .ref a_this_left, .ref a_this_leaves, .int x_this_pressed, .int x_this_crossed, .int x_this_went, .int x_this_harmed])), (a_this_plan, .inr (4, [.int x_this_plan_cycle, .int x_this_plan_green, .int x_this_plan_rule, .int x_this_plan_least, .int x_this_plan_away, .int x_this_plan_statements, .int x_this_plan_kinds, .ref a_this_plan_calm, .ref a_this_plan_pace, .ref a_this_plan_trusts, .int x_this_plan_walkers, .ref a_this_plan_kindOf, .ref a_this_plan_comesAt, .ref a_this_plan_comers, .ref a_this_plan_names, .ref a_this_plan_code, .int x_this_plan_size, .ref a_this_plan_spans])), (a_this_plan_kindOf, .inl (cy 0, 12, .inl g_this_plan_kindOf)), (a_this_machine, .inr (3, [.ref a_this_machine_facts, .ref a_this_machine_stack])), (a_this_machine_facts, .inl (cy 0, 13, .inl (upd f17810 (Int32.toNatClampNeg 6) p3))), (a_this_plan_calm, .inl (cy 0, 6, .inl g_this_plan_calm)), (a_this_plan_pace, .inl (cy 0, 6, .inl g_this_plan_pace))] := hD
  generalize upd f17810 (Int32.toNatClampNeg 6) p3 = f17811 at hP hD
  subst hQ; exact k_vret hx hb hr hlk f17811 hS True.intro hP hD (Nat.le_of_ble_eq_true rfl) (Nat.le_of_ble_eq_true rfl) dX7_describe_73
set_option maxHeartbeats 4000000 in
set_option maxRecDepth 100000 in
theorem s_X7_describeWhole (l : Launch) (dC : Nat → ClassId) (dI : Nat → Nat → Nat) (cy : Nat → ClassId) (sq : Nat → Nat) (a_this : Nat) (a_this_machine : Nat) (a_this_machine_facts : Nat) (g_this_machine_facts : Nat → Int32) (a_this_machine_stack : Nat) (a_this_plan : Nat) (x_this_plan_cycle : Int32) (x_this_plan_green : Int32) (x_this_plan_rule : Int32) (x_this_plan_least : Int32) (x_this_plan_away : Int32) (x_this_plan_statements : Int32) (x_this_plan_kinds : Int32) (a_this_plan_calm : Nat) (g_this_plan_calm : Nat → Int32) (a_this_plan_pace : Nat) (g_this_plan_pace : Nat → Int32) (a_this_plan_trusts : Nat) (x_this_plan_walkers : Int32) (a_this_plan_kindOf : Nat) (g_this_plan_kindOf : Nat → Int32) (a_this_plan_comesAt : Nat) (g_this_plan_comesAt : Nat → Int32) (a_this_plan_comers : Nat) (a_this_plan_names : Nat) (a_this_plan_code : Nat) (x_this_plan_size : Int32) (a_this_plan_spans : Nat) (x_this_day : Int32) (a_this_trusts : Nat) (g_this_trusts : Nat → Int32) (x_this_rule : Int32) (x_this_green : Int32) (x_this_absent : Int32) (x_this_asksReds : Int32) (a_this_cars : Nat) (a_this_gaps : Nat) (a_this_known : Nat) (a_this_left : Nat) (a_this_leaves : Nat) (g_this_leaves : Nat → Int32) (x_this_pressed : Int32) (x_this_crossed : Int32) (x_this_went : Int32) (x_this_harmed : Int32) (p0 : Int32) (hx_this_plan_cycle : ib x_this_plan_cycle 0 120) (hx_this_plan_least : ib x_this_plan_least 0 99) (hx_this_plan_statements : ib x_this_plan_statements 0 81) (hx_this_plan_kinds : ib x_this_plan_kinds 0 6) (hx_this_plan_walkers : ib x_this_plan_walkers 0 12) (hg_this_plan_kindOf : ia g_this_plan_kindOf 12 0 5) (hg_this_plan_comesAt : ia g_this_plan_comesAt 12 0 199) (hx_this_plan_size : ib x_this_plan_size 0 1600) (hx_this_asksReds : ib x_this_asksReds 0 1) (hp0 : ib p0 0 11) : k_Met l yX7_describeWhole cX7_describeWhole 4 none { frames := 1, cells := 0, slots := 0, locals := 26 } dC dI cy sq [.ref a_this, .int p0] [(a_this, .inr (7, [.ref a_this_machine, .ref a_this_plan, .int x_this_day, .ref a_this_trusts, .int x_this_rule, .int x_this_green, .int x_this_absent, .int x_this_asksReds, .ref a_this_cars, .ref a_this_gaps, .ref a_this_known, .ref a_this_left, .ref a_this_leaves, .int x_this_pressed, .int x_this_crossed, .int x_this_went, .int x_this_harmed])), (a_this_plan, .inr (4, [.int x_this_plan_cycle, .int x_this_plan_green, .int x_this_plan_rule, .int x_this_plan_least, .int x_this_plan_away, .int x_this_plan_statements, .int x_this_plan_kinds, .ref a_this_plan_calm, .ref a_this_plan_pace, .ref a_this_plan_trusts, .int x_this_plan_walkers, .ref a_this_plan_kindOf, .ref a_this_plan_comesAt, .ref a_this_plan_comers, .ref a_this_plan_names, .ref a_this_plan_code, .int x_this_plan_size, .ref a_this_plan_spans])), (a_this_plan_kindOf, .inl (cy 0, 12, .inl g_this_plan_kindOf)), (a_this_machine, .inr (3, [.ref a_this_machine_facts, .ref a_this_machine_stack])), (a_this_plan_comesAt, .inl (cy 0, 12, .inl g_this_plan_comesAt)), (a_this_leaves, .inl (cy 0, 12, .inl g_this_leaves)), (a_this_trusts, .inl (cy 0, 6, .inl g_this_trusts)), (a_this_machine_facts, .inl (cy 0, 13, .inl g_this_machine_facts)), (a_this_plan_calm, .inl (cy 0, 6, .inl g_this_plan_calm)), (a_this_plan_pace, .inl (cy 0, 6, .inl g_this_plan_pace))] (k_Qv dC dI (fun (n0 : (Nat → Int32)) => True) (fun n0 : (Nat → Int32) => [(a_this, .inr (7, [.ref a_this_machine, .ref a_this_plan, .int x_this_day, .ref a_this_trusts, .int x_this_rule, .int x_this_green, .int x_this_absent, .int x_this_asksReds, .ref a_this_cars, .ref a_this_gaps, .ref a_this_known, .ref a_this_left, .ref a_this_leaves, .int x_this_pressed, .int x_this_crossed, .int x_this_went, .int x_this_harmed])), (a_this_plan, .inr (4, [.int x_this_plan_cycle, .int x_this_plan_green, .int x_this_plan_rule, .int x_this_plan_least, .int x_this_plan_away, .int x_this_plan_statements, .int x_this_plan_kinds, .ref a_this_plan_calm, .ref a_this_plan_pace, .ref a_this_plan_trusts, .int x_this_plan_walkers, .ref a_this_plan_kindOf, .ref a_this_plan_comesAt, .ref a_this_plan_comers, .ref a_this_plan_names, .ref a_this_plan_code, .int x_this_plan_size, .ref a_this_plan_spans])), (a_this_plan_kindOf, .inl (cy 0, 12, .inl g_this_plan_kindOf)), (a_this_machine, .inr (3, [.ref a_this_machine_facts, .ref a_this_machine_stack])), (a_this_plan_comesAt, .inl (cy 0, 12, .inl g_this_plan_comesAt)), (a_this_leaves, .inl (cy 0, 12, .inl g_this_leaves)), (a_this_trusts, .inl (cy 0, 6, .inl g_this_trusts)), (a_this_machine_facts, .inl (cy 0, 13, .inl n0)), (a_this_plan_calm, .inl (cy 0, 6, .inl g_this_plan_calm)), (a_this_plan_pace, .inl (cy 0, 6, .inl g_this_plan_pace))])) := by
  refine k_ofW2 (by decide +kernel) (Nat.le_of_ble_eq_true rfl) ?_
  intro p e s m below meth c A ls H locs args Q hQ C0 hr hlk hin hP hD hA hS hl
  have C0 : k_cx p s m args c cX7_describeWhole 4 RX7 dC dI cy sq := C0
  have hx := C0.1
  have hb := C0.2.1
  have hl : lv_has ls 4 [(0, .ref a_this), (1, .int p0)] := hl
  refine lv_aload_n hx hb dX7_describeWhole_0 rfl (lv_at hl 0 rfl) ?_
  refine k_get C0 fg_X7_63 hP 0 rfl rfl dX7_describeWhole_1 ?_
  refine k_get C0 fg_X7_140 hP 1 rfl rfl dX7_describeWhole_4 ?_
  refine lv_iload_n hx hb dX7_describeWhole_7 rfl (lv_at hl 1 rfl) ?_
  refine va_iald hx hb C0.2.2.2.2.2.1 hP 2 0 rfl rfl (ib_in 12 hp0 (by decide)) dX7_describeWhole_8 ?_
  refine lv_topi (fun z18012 ez18012 => ?_)
  have h18013 : ib z18012 0 5 := by rw [ez18012]; exact ia_at hg_this_plan_kindOf (ib_in 12 hp0 (by decide))
  refine lv_istore_n (lv' := [(2, .int z18012), (0, .ref a_this), (1, .int p0)]) hx hb dX7_describeWhole_9 rfl hl (by decide) rfl (fun ls hl => ?_)
  refine lv_aload_n hx hb dX7_describeWhole_10 rfl (lv_at hl 1 rfl) ?_
  refine k_get C0 fg_X7_59 hP 0 rfl rfl dX7_describeWhole_11 ?_
  refine k_get C0 fg_X7_102 hP 3 rfl rfl dX7_describeWhole_14 ?_
  refine lv_astore_n (lv' := [(3, .ref a_this_machine_facts), (2, .int z18012), (0, .ref a_this), (1, .int p0)]) hx hb dX7_describeWhole_17 rfl hl (by decide) rfl (fun ls hl => ?_)
  refine lv_aload_n hx hb dX7_describeWhole_18 rfl (lv_at hl 2 rfl) ?_
  refine lv_iload_n hx hb dX7_describeWhole_19 rfl (lv_at hl 3 rfl) ?_
  refine lv_aload_n hx hb dX7_describeWhole_20 rfl (lv_at hl 2 rfl) ?_
  refine k_get C0 fg_X7_63 hP 0 rfl rfl dX7_describeWhole_21 ?_
  refine k_get C0 fg_X7_153 hP 1 rfl rfl dX7_describeWhole_24 ?_
  refine lv_iload_n hx hb dX7_describeWhole_27 rfl (lv_at hl 3 rfl) ?_
  refine va_iald hx hb C0.2.2.2.2.2.1 hP 4 0 rfl rfl (ib_in 12 hp0 (by decide)) dX7_describeWhole_28 ?_
  refine lv_topi (fun z18014 ez18014 => ?_)
  have h18015 : ib z18014 0 199 := by rw [ez18014]; exact ia_at hg_this_plan_comesAt (ib_in 12 hp0 (by decide))
  refine lv_aload_n hx hb dX7_describeWhole_29 rfl (lv_at hl 2 rfl) ?_
  refine lv_iload_n hx hb dX7_describeWhole_30 rfl (lv_at hl 3 rfl) ?_
  refine k_ji hP hD hS hA [0, 5, 1, 4] [2, 3, 6, 7, 8, 9] (wr := [(a_this_plan_kindOf, .inl (cy 0, 12, .inl g_this_plan_kindOf)), (a_this_machine, .inr (3, [.ref a_this_machine_facts, .ref a_this_machine_stack])), (a_this_trusts, .inl (cy 0, 6, .inl g_this_trusts)), (a_this_machine_facts, .inl (cy 0, 13, .inl g_this_machine_facts)), (a_this_plan_calm, .inl (cy 0, 6, .inl g_this_plan_calm)), (a_this_plan_pace, .inl (cy 0, 6, .inl g_this_plan_pace))]) rfl rfl (by decide) (by decide) (by decide) 0 0 (Nat.le_of_ble_eq_true rfl) (Nat.le_of_ble_eq_true rfl) (fun hPc hDc => k_runV (As := [.int p0]) (rest := [.int z18014, .int p0, .ref a_this]) C0 (s_X7_waitedBy l dC dI cy sq a_this a_this_machine a_this_plan x_this_plan_cycle x_this_plan_green x_this_plan_rule x_this_plan_least x_this_plan_away x_this_plan_statements x_this_plan_kinds a_this_plan_calm a_this_plan_pace a_this_plan_trusts x_this_plan_walkers a_this_plan_kindOf a_this_plan_comesAt g_this_plan_comesAt a_this_plan_comers a_this_plan_names a_this_plan_code x_this_plan_size a_this_plan_spans x_this_day a_this_trusts x_this_rule x_this_green x_this_absent x_this_asksReds a_this_cars a_this_gaps a_this_known a_this_left a_this_leaves g_this_leaves x_this_pressed x_this_crossed x_this_went x_this_harmed p0 (ib_w 0 120 hx_this_plan_cycle (by decide)) (ib_w 0 99 hx_this_plan_least (by decide)) (ib_w 0 81 hx_this_plan_statements (by decide)) (ib_w 0 6 hx_this_plan_kinds (by decide)) (ib_w 0 12 hx_this_plan_walkers (by decide)) hg_this_plan_comesAt (ib_w 0 1600 hx_this_plan_size (by decide)) (ib_w 0 1 hx_this_asksReds (by decide)) (ib_w 0 11 hp0 (by decide))) mV_X7_163 hPc hDc rfl rfl rfl hl rfl rfl (Nat.le_of_ble_eq_true rfl) ⟨(Nat.le_of_ble_eq_true rfl), (Nat.le_of_ble_eq_true rfl)⟩ ⟨(Nat.le_of_ble_eq_true rfl), (Nat.le_of_ble_eq_true rfl)⟩ dX7_describeWhole_31) (fun r18016 u18017 H locs hw hP hD hS => ?_)
  try dsimp only at hP hD hw
  have hP : va_P (dC, dI) vwCl [(a_this_plan_kindOf, .inl (cy 0, 12, .inl g_this_plan_kindOf)), (a_this_machine, .inr (3, [.ref a_this_machine_facts, .ref a_this_machine_stack])), (a_this_trusts, .inl (cy 0, 6, .inl g_this_trusts)), (a_this_machine_facts, .inl (cy 0, 13, .inl g_this_machine_facts)), (a_this_plan_calm, .inl (cy 0, 6, .inl g_this_plan_calm)), (a_this_plan_pace, .inl (cy 0, 6, .inl g_this_plan_pace)), (a_this, .inr (7, [.ref a_this_machine, .ref a_this_plan, .int x_this_day, .ref a_this_trusts, .int x_this_rule, .int x_this_green, .int x_this_absent, .int x_this_asksReds, .ref a_this_cars, .ref a_this_gaps, .ref a_this_known, .ref a_this_left, .ref a_this_leaves, .int x_this_pressed, .int x_this_crossed, .int x_this_went, .int x_this_harmed])), (a_this_leaves, .inl (cy 0, 12, .inl g_this_leaves)), (a_this_plan, .inr (4, [.int x_this_plan_cycle, .int x_this_plan_green, .int x_this_plan_rule, .int x_this_plan_least, .int x_this_plan_away, .int x_this_plan_statements, .int x_this_plan_kinds, .ref a_this_plan_calm, .ref a_this_plan_pace, .ref a_this_plan_trusts, .int x_this_plan_walkers, .ref a_this_plan_kindOf, .ref a_this_plan_comesAt, .ref a_this_plan_comers, .ref a_this_plan_names, .ref a_this_plan_code, .int x_this_plan_size, .ref a_this_plan_spans])), (a_this_plan_comesAt, .inl (cy 0, 12, .inl g_this_plan_comesAt))] H := hP
  have hD : va_D A [(a_this_plan_kindOf, .inl (cy 0, 12, .inl g_this_plan_kindOf)), (a_this_machine, .inr (3, [.ref a_this_machine_facts, .ref a_this_machine_stack])), (a_this_trusts, .inl (cy 0, 6, .inl g_this_trusts)), (a_this_machine_facts, .inl (cy 0, 13, .inl g_this_machine_facts)), (a_this_plan_calm, .inl (cy 0, 6, .inl g_this_plan_calm)), (a_this_plan_pace, .inl (cy 0, 6, .inl g_this_plan_pace)), (a_this, .inr (7, [.ref a_this_machine, .ref a_this_plan, .int x_this_day, .ref a_this_trusts, .int x_this_rule, .int x_this_green, .int x_this_absent, .int x_this_asksReds, .ref a_this_cars, .ref a_this_gaps, .ref a_this_known, .ref a_this_left, .ref a_this_leaves, .int x_this_pressed, .int x_this_crossed, .int x_this_went, .int x_this_harmed])), (a_this_leaves, .inl (cy 0, 12, .inl g_this_leaves)), (a_this_plan, .inr (4, [.int x_this_plan_cycle, .int x_this_plan_green, .int x_this_plan_rule, .int x_this_plan_least, .int x_this_plan_away, .int x_this_plan_statements, .int x_this_plan_kinds, .ref a_this_plan_calm, .ref a_this_plan_pace, .ref a_this_plan_trusts, .int x_this_plan_walkers, .ref a_this_plan_kindOf, .ref a_this_plan_comesAt, .ref a_this_plan_comers, .ref a_this_plan_names, .ref a_this_plan_code, .int x_this_plan_size, .ref a_this_plan_spans])), (a_this_plan_comesAt, .inl (cy 0, 12, .inl g_this_plan_comesAt))] := hD
  refine lv_aload_n hx hb dX7_describeWhole_34 rfl (lv_at hl 2 rfl) ?_
  refine k_get C0 fg_X7_15 hP 6 rfl rfl dX7_describeWhole_35 ?_
  refine lv_iload_n hx hb dX7_describeWhole_38 rfl (lv_at hl 1 rfl) ?_
  refine va_iald hx hb C0.2.2.2.2.2.1 hP 2 0 rfl rfl (ib_in 6 h18013 (by decide)) dX7_describeWhole_39 ?_
  refine lv_topi (fun z18018 ez18018 => ?_)
  refine k_jv hP hD hS hA [6, 8, 0, 1, 3, 4, 5] [2, 7, 9] (wr := [(a_this_trusts, .inl (cy 0, 6, .inl g_this_trusts)), (a_this_leaves, .inl (cy 0, 12, .inl g_this_leaves)), (a_this_plan_comesAt, .inl (cy 0, 12, .inl g_this_plan_comesAt))]) rfl rfl (by decide) (by decide) (by decide) 0 0 (Nat.le_of_ble_eq_true rfl) (Nat.le_of_ble_eq_true rfl) (fun hPc hDc => k_runV (As := [.int p0, .int z18014, .int r18016, .int z18018]) (rest := []) C0 (s_X7_describe l dC dI cy sq a_this a_this_machine a_this_machine_facts g_this_machine_facts a_this_machine_stack a_this_plan x_this_plan_cycle x_this_plan_green x_this_plan_rule x_this_plan_least x_this_plan_away x_this_plan_statements x_this_plan_kinds a_this_plan_calm g_this_plan_calm a_this_plan_pace g_this_plan_pace a_this_plan_trusts x_this_plan_walkers a_this_plan_kindOf g_this_plan_kindOf a_this_plan_comesAt a_this_plan_comers a_this_plan_names a_this_plan_code x_this_plan_size a_this_plan_spans x_this_day a_this_trusts x_this_rule x_this_green x_this_absent x_this_asksReds a_this_cars a_this_gaps a_this_known a_this_left a_this_leaves x_this_pressed x_this_crossed x_this_went x_this_harmed p0 z18014 r18016 z18018 (ib_w 0 120 hx_this_plan_cycle (by decide)) (ib_w 0 99 hx_this_plan_least (by decide)) (ib_w 0 81 hx_this_plan_statements (by decide)) (ib_w 0 6 hx_this_plan_kinds (by decide)) (ib_w 0 12 hx_this_plan_walkers (by decide)) hg_this_plan_kindOf (ib_w 0 1600 hx_this_plan_size (by decide)) (ib_w 0 1 hx_this_asksReds (by decide)) (ib_w 0 11 hp0 (by decide))) mV_X7_156 hPc hDc rfl rfl rfl hl rfl rfl (Nat.le_of_ble_eq_true rfl) ⟨(Nat.le_of_ble_eq_true rfl), (Nat.le_of_ble_eq_true rfl)⟩ ⟨(Nat.le_of_ble_eq_true rfl), (Nat.le_of_ble_eq_true rfl)⟩ dX7_describeWhole_40) (fun u18020 H locs hw hP hD hS => ?_)
  obtain ⟨f18021, ef18021⟩ : ∃ z, z = u18020 := ⟨_, rfl⟩; subst ef18021
  try dsimp only at hP hD hw
  have hP : va_P (dC, dI) vwCl [(a_this_trusts, .inl (cy 0, 6, .inl g_this_trusts)), (a_this_leaves, .inl (cy 0, 12, .inl g_this_leaves)), (a_this_plan_comesAt, .inl (cy 0, 12, .inl g_this_plan_comesAt)), (a_this, .inr (7, [.ref a_this_machine, .ref a_this_plan, .int x_this_day, .ref a_this_trusts, .int x_this_rule, .int x_this_green, .int x_this_absent, .int x_this_asksReds, .ref a_this_cars, .ref a_this_gaps, .ref a_this_known, .ref a_this_left, .ref a_this_leaves, .int x_this_pressed, .int x_this_crossed, .int x_this_went, .int x_this_harmed])), (a_this_plan, .inr (4, [.int x_this_plan_cycle, .int x_this_plan_green, .int x_this_plan_rule, .int x_this_plan_least, .int x_this_plan_away, .int x_this_plan_statements, .int x_this_plan_kinds, .ref a_this_plan_calm, .ref a_this_plan_pace, .ref a_this_plan_trusts, .int x_this_plan_walkers, .ref a_this_plan_kindOf, .ref a_this_plan_comesAt, .ref a_this_plan_comers, .ref a_this_plan_names, .ref a_this_plan_code, .int x_this_plan_size, .ref a_this_plan_spans])), (a_this_plan_kindOf, .inl (cy 0, 12, .inl g_this_plan_kindOf)), (a_this_machine, .inr (3, [.ref a_this_machine_facts, .ref a_this_machine_stack])), (a_this_machine_facts, .inl (cy 0, 13, .inl f18021)), (a_this_plan_calm, .inl (cy 0, 6, .inl g_this_plan_calm)), (a_this_plan_pace, .inl (cy 0, 6, .inl g_this_plan_pace))] H := hP
  have hD : va_D A [(a_this_trusts, .inl (cy 0, 6, .inl g_this_trusts)), (a_this_leaves, .inl (cy 0, 12, .inl g_this_leaves)), (a_this_plan_comesAt, .inl (cy 0, 12, .inl g_this_plan_comesAt)), (a_this, .inr (7, [.ref a_this_machine, .ref a_this_plan, .int x_this_day, .ref a_this_trusts, .int x_this_rule, .int x_this_green, .int x_this_absent, .int x_this_asksReds, .ref a_this_cars, .ref a_this_gaps, .ref a_this_known, .ref a_this_left, .ref a_this_leaves, .int x_this_pressed, .int x_this_crossed, .int x_this_went, .int x_this_harmed])), (a_this_plan, .inr (4, [.int x_this_plan_cycle, .int x_this_plan_green, .int x_this_plan_rule, .int x_this_plan_least, .int x_this_plan_away, .int x_this_plan_statements, .int x_this_plan_kinds, .ref a_this_plan_calm, .ref a_this_plan_pace, .ref a_this_plan_trusts, .int x_this_plan_walkers, .ref a_this_plan_kindOf, .ref a_this_plan_comesAt, .ref a_this_plan_comers, .ref a_this_plan_names, .ref a_this_plan_code, .int x_this_plan_size, .ref a_this_plan_spans])), (a_this_plan_kindOf, .inl (cy 0, 12, .inl g_this_plan_kindOf)), (a_this_machine, .inr (3, [.ref a_this_machine_facts, .ref a_this_machine_stack])), (a_this_machine_facts, .inl (cy 0, 13, .inl f18021)), (a_this_plan_calm, .inl (cy 0, 6, .inl g_this_plan_calm)), (a_this_plan_pace, .inl (cy 0, 6, .inl g_this_plan_pace))] := hD
  refine lv_aload_n hx hb dX7_describeWhole_43 rfl (lv_at hl 0 rfl) ?_
  refine lv_bipush (v := 9) hx hb dX7_describeWhole_44 (by decide) ?_
  refine lv_iload_n hx hb dX7_describeWhole_46 rfl (lv_at hl 3 rfl) ?_
  refine va_iast hx hb C0.2.2.2.2.2.1 hP hD hS 7 0 rfl rfl (k_in 9 13 (by decide)) dX7_describeWhole_47 (fun H locs hP hD hS => ?_)
  have hP : va_P (dC, dI) vwCl [(a_this_trusts, .inl (cy 0, 6, .inl g_this_trusts)), (a_this_leaves, .inl (cy 0, 12, .inl g_this_leaves)), (a_this_plan_comesAt, .inl (cy 0, 12, .inl g_this_plan_comesAt)), (a_this, .inr (7, [.ref a_this_machine, .ref a_this_plan, .int x_this_day, .ref a_this_trusts, .int x_this_rule, .int x_this_green, .int x_this_absent, .int x_this_asksReds, .ref a_this_cars, .ref a_this_gaps, .ref a_this_known, .ref a_this_left, .ref a_this_leaves, .int x_this_pressed, .int x_this_crossed, .int x_this_went, .int x_this_harmed])), (a_this_plan, .inr (4, [.int x_this_plan_cycle, .int x_this_plan_green, .int x_this_plan_rule, .int x_this_plan_least, .int x_this_plan_away, .int x_this_plan_statements, .int x_this_plan_kinds, .ref a_this_plan_calm, .ref a_this_plan_pace, .ref a_this_plan_trusts, .int x_this_plan_walkers, .ref a_this_plan_kindOf, .ref a_this_plan_comesAt, .ref a_this_plan_comers, .ref a_this_plan_names, .ref a_this_plan_code, .int x_this_plan_size, .ref a_this_plan_spans])), (a_this_plan_kindOf, .inl (cy 0, 12, .inl g_this_plan_kindOf)), (a_this_machine, .inr (3, [.ref a_this_machine_facts, .ref a_this_machine_stack])), (a_this_machine_facts, .inl (cy 0, 13, .inl (upd f18021 (Int32.toNatClampNeg 9) p0))), (a_this_plan_calm, .inl (cy 0, 6, .inl g_this_plan_calm)), (a_this_plan_pace, .inl (cy 0, 6, .inl g_this_plan_pace))] H := hP
  have hD : va_D A [(a_this_trusts, .inl (cy 0, 6, .inl g_this_trusts)), (a_this_leaves, .inl (cy 0, 12, .inl g_this_leaves)), (a_this_plan_comesAt, .inl (cy 0, 12, .inl g_this_plan_comesAt)), (a_this, .inr (7, [.ref a_this_machine, .ref a_this_plan, .int x_this_day, .ref a_this_trusts, .int x_this_rule, .int x_this_green, .int x_this_absent, .int x_this_asksReds, .ref a_this_cars, .ref a_this_gaps, .ref a_this_known, .ref a_this_left, .ref a_this_leaves, .int x_this_pressed, .int x_this_crossed, .int x_this_went, .int x_this_harmed])), (a_this_plan, .inr (4, [.int x_this_plan_cycle, .int x_this_plan_green, .int x_this_plan_rule, .int x_this_plan_least, .int x_this_plan_away, .int x_this_plan_statements, .int x_this_plan_kinds, .ref a_this_plan_calm, .ref a_this_plan_pace, .ref a_this_plan_trusts, .int x_this_plan_walkers, .ref a_this_plan_kindOf, .ref a_this_plan_comesAt, .ref a_this_plan_comers, .ref a_this_plan_names, .ref a_this_plan_code, .int x_this_plan_size, .ref a_this_plan_spans])), (a_this_plan_kindOf, .inl (cy 0, 12, .inl g_this_plan_kindOf)), (a_this_machine, .inr (3, [.ref a_this_machine_facts, .ref a_this_machine_stack])), (a_this_machine_facts, .inl (cy 0, 13, .inl (upd f18021 (Int32.toNatClampNeg 9) p0))), (a_this_plan_calm, .inl (cy 0, 6, .inl g_this_plan_calm)), (a_this_plan_pace, .inl (cy 0, 6, .inl g_this_plan_pace))] := hD
  generalize upd f18021 (Int32.toNatClampNeg 9) p0 = f18022 at hP hD
  refine lv_aload_n hx hb dX7_describeWhole_48 rfl (lv_at hl 0 rfl) ?_
  refine lv_bipush (v := 10) hx hb dX7_describeWhole_49 (by decide) ?_
  refine lv_aload_n hx hb dX7_describeWhole_51 rfl (lv_at hl 2 rfl) ?_
  refine k_get C0 fg_X7_53 hP 3 rfl rfl dX7_describeWhole_52 ?_
  refine lv_iload_n hx hb dX7_describeWhole_55 rfl (lv_at hl 3 rfl) ?_
  refine lv_ishr hx hb dX7_describeWhole_56 ?_
  refine lv_topi (fun z18023 ez18023 => ?_)
  refine lv_iconst (v := 1) hx hb dX7_describeWhole_57 (by decide) ?_
  refine lv_iand hx hb dX7_describeWhole_58 ?_
  refine lv_topi (fun z18024 ez18024 => ?_)
  have h18025 : ib z18024 0 1 := by rw [ez18024]; exact ib_and 1 (by decide) (by decide) 1 (by decide)
  refine va_iast hx hb C0.2.2.2.2.2.1 hP hD hS 7 0 rfl rfl (k_in 10 13 (by decide)) dX7_describeWhole_59 (fun H locs hP hD hS => ?_)
  have hP : va_P (dC, dI) vwCl [(a_this_trusts, .inl (cy 0, 6, .inl g_this_trusts)), (a_this_leaves, .inl (cy 0, 12, .inl g_this_leaves)), (a_this_plan_comesAt, .inl (cy 0, 12, .inl g_this_plan_comesAt)), (a_this, .inr (7, [.ref a_this_machine, .ref a_this_plan, .int x_this_day, .ref a_this_trusts, .int x_this_rule, .int x_this_green, .int x_this_absent, .int x_this_asksReds, .ref a_this_cars, .ref a_this_gaps, .ref a_this_known, .ref a_this_left, .ref a_this_leaves, .int x_this_pressed, .int x_this_crossed, .int x_this_went, .int x_this_harmed])), (a_this_plan, .inr (4, [.int x_this_plan_cycle, .int x_this_plan_green, .int x_this_plan_rule, .int x_this_plan_least, .int x_this_plan_away, .int x_this_plan_statements, .int x_this_plan_kinds, .ref a_this_plan_calm, .ref a_this_plan_pace, .ref a_this_plan_trusts, .int x_this_plan_walkers, .ref a_this_plan_kindOf, .ref a_this_plan_comesAt, .ref a_this_plan_comers, .ref a_this_plan_names, .ref a_this_plan_code, .int x_this_plan_size, .ref a_this_plan_spans])), (a_this_plan_kindOf, .inl (cy 0, 12, .inl g_this_plan_kindOf)), (a_this_machine, .inr (3, [.ref a_this_machine_facts, .ref a_this_machine_stack])), (a_this_machine_facts, .inl (cy 0, 13, .inl (upd f18022 (Int32.toNatClampNeg 10) z18024))), (a_this_plan_calm, .inl (cy 0, 6, .inl g_this_plan_calm)), (a_this_plan_pace, .inl (cy 0, 6, .inl g_this_plan_pace))] H := hP
  have hD : va_D A [(a_this_trusts, .inl (cy 0, 6, .inl g_this_trusts)), (a_this_leaves, .inl (cy 0, 12, .inl g_this_leaves)), (a_this_plan_comesAt, .inl (cy 0, 12, .inl g_this_plan_comesAt)), (a_this, .inr (7, [.ref a_this_machine, .ref a_this_plan, .int x_this_day, .ref a_this_trusts, .int x_this_rule, .int x_this_green, .int x_this_absent, .int x_this_asksReds, .ref a_this_cars, .ref a_this_gaps, .ref a_this_known, .ref a_this_left, .ref a_this_leaves, .int x_this_pressed, .int x_this_crossed, .int x_this_went, .int x_this_harmed])), (a_this_plan, .inr (4, [.int x_this_plan_cycle, .int x_this_plan_green, .int x_this_plan_rule, .int x_this_plan_least, .int x_this_plan_away, .int x_this_plan_statements, .int x_this_plan_kinds, .ref a_this_plan_calm, .ref a_this_plan_pace, .ref a_this_plan_trusts, .int x_this_plan_walkers, .ref a_this_plan_kindOf, .ref a_this_plan_comesAt, .ref a_this_plan_comers, .ref a_this_plan_names, .ref a_this_plan_code, .int x_this_plan_size, .ref a_this_plan_spans])), (a_this_plan_kindOf, .inl (cy 0, 12, .inl g_this_plan_kindOf)), (a_this_machine, .inr (3, [.ref a_this_machine_facts, .ref a_this_machine_stack])), (a_this_machine_facts, .inl (cy 0, 13, .inl (upd f18022 (Int32.toNatClampNeg 10) z18024))), (a_this_plan_calm, .inl (cy 0, 6, .inl g_this_plan_calm)), (a_this_plan_pace, .inl (cy 0, 6, .inl g_this_plan_pace))] := hD
  generalize upd f18022 (Int32.toNatClampNeg 10) z18024 = f18026 at hP hD
  refine lv_aload_n hx hb dX7_describeWhole_60 rfl (lv_at hl 0 rfl) ?_
  refine lv_bipush (v := 11) hx hb dX7_describeWhole_61 (by decide) ?_
  refine lv_aload_n hx hb dX7_describeWhole_63 rfl (lv_at hl 2 rfl) ?_
  refine k_get C0 fg_X7_56 hP 3 rfl rfl dX7_describeWhole_64 ?_
  refine lv_iload_n hx hb dX7_describeWhole_67 rfl (lv_at hl 3 rfl) ?_
  refine lv_ishr hx hb dX7_describeWhole_68 ?_
  refine lv_topi (fun z18027 ez18027 => ?_)
  refine lv_iconst (v := 1) hx hb dX7_describeWhole_69 (by decide) ?_
  refine lv_iand hx hb dX7_describeWhole_70 ?_
  refine lv_topi (fun z18028 ez18028 => ?_)
  have h18029 : ib z18028 0 1 := by rw [ez18028]; exact ib_and 1 (by decide) (by decide) 1 (by decide)
  refine va_iast hx hb C0.2.2.2.2.2.1 hP hD hS 7 0 rfl rfl (k_in 11 13 (by decide)) dX7_describeWhole_71 (fun H locs hP hD hS => ?_)
  have hP : va_P (dC, dI) vwCl [(a_this_trusts, .inl (cy 0, 6, .inl g_this_trusts)), (a_this_leaves, .inl (cy 0, 12, .inl g_this_leaves)), (a_this_plan_comesAt, .inl (cy 0, 12, .inl g_this_plan_comesAt)), (a_this, .inr (7, [.ref a_this_machine, .ref a_this_plan, .int x_this_day, .ref a_this_trusts, .int x_this_rule, .int x_this_green, .int x_this_absent, .int x_this_asksReds, .ref a_this_cars, .ref a_this_gaps, .ref a_this_known, .ref a_this_left, .ref a_this_leaves, .int x_this_pressed, .int x_this_crossed, .int x_this_went, .int x_this_harmed])), (a_this_plan, .inr (4, [.int x_this_plan_cycle, .int x_this_plan_green, .int x_this_plan_rule, .int x_this_plan_least, .int x_this_plan_away, .int x_this_plan_statements, .int x_this_plan_kinds, .ref a_this_plan_calm, .ref a_this_plan_pace, .ref a_this_plan_trusts, .int x_this_plan_walkers, .ref a_this_plan_kindOf, .ref a_this_plan_comesAt, .ref a_this_plan_comers, .ref a_this_plan_names, .ref a_this_plan_code, .int x_this_plan_size, .ref a_this_plan_spans])), (a_this_plan_kindOf, .inl (cy 0, 12, .inl g_this_plan_kindOf)), (a_this_machine, .inr (3, [.ref a_this_machine_facts, .ref a_this_machine_stack])), (a_this_machine_facts, .inl (cy 0, 13, .inl (upd f18026 (Int32.toNatClampNeg 11) z18028))), (a_this_plan_calm, .inl (cy 0, 6, .inl g_this_plan_calm)), (a_this_plan_pace, .inl (cy 0, 6, .inl g_this_plan_pace))] H := hP
  have hD : va_D A [(a_this_trusts, .inl (cy 0, 6, .inl g_this_trusts)), (a_this_leaves, .inl (cy 0, 12, .inl g_this_leaves)), (a_this_plan_comesAt, .inl (cy 0, 12, .inl g_this_plan_comesAt)), (a_this, .inr (7, [.ref a_this_machine, .ref a_this_plan, .int x_this_day, .ref a_this_trusts, .int x_this_rule, .int x_this_green, .int x_this_absent, .int x_this_asksReds, .ref a_this_cars, .ref a_this_gaps, .ref a_this_known, .ref a_this_left, .ref a_this_leaves, .int x_this_pressed, .int x_this_crossed, .int x_this_went, .int x_this_harmed])), (a_this_plan, .inr (4, [.int x_this_plan_cycle, .int x_this_plan_green, .int x_this_plan_rule, .int x_this_plan_least, .int x_this_plan_away, .int x_this_plan_statements, .int x_this_plan_kinds, .ref a_this_plan_calm, .ref a_this_plan_pace, .ref a_this_plan_trusts, .int x_this_plan_walkers, .ref a_this_plan_kindOf, .ref a_this_plan_comesAt, .ref a_this_plan_comers, .ref a_this_plan_names, .ref a_this_plan_code, .int x_this_plan_size, .ref a_this_plan_spans])), (a_this_plan_kindOf, .inl (cy 0, 12, .inl g_this_plan_kindOf)), (a_this_machine, .inr (3, [.ref a_this_machine_facts, .ref a_this_machine_stack])), (a_this_machine_facts, .inl (cy 0, 13, .inl (upd f18026 (Int32.toNatClampNeg 11) z18028))), (a_this_plan_calm, .inl (cy 0, 6, .inl g_this_plan_calm)), (a_this_plan_pace, .inl (cy 0, 6, .inl g_this_plan_pace))] := hD
  generalize upd f18026 (Int32.toNatClampNeg 11) z18028 = f18030 at hP hD
  refine lv_aload_n hx hb dX7_describeWhole_72 rfl (lv_at hl 0 rfl) ?_
  refine lv_bipush (v := 12) hx hb dX7_describeWhole_73 (by decide) ?_
  refine lv_iload_n hx hb dX7_describeWhole_75 rfl (lv_at hl 1 rfl) ?_
  refine va_iast hx hb C0.2.2.2.2.2.1 hP hD hS 7 0 rfl rfl (k_in 12 13 (by decide)) dX7_describeWhole_76 (fun H locs hP hD hS => ?_)
  have hP : va_P (dC, dI) vwCl [(a_this_trusts, .inl (cy 0, 6, .inl g_this_trusts)), (a_this_leaves, .inl (cy 0, 12, .inl g_this_leaves)), (a_this_plan_comesAt, .inl (cy 0, 12, .inl g_this_plan_comesAt)), (a_this, .inr (7, [.ref a_this_machine, .ref a_this_plan, .int x_this_day, .ref a_this_trusts, .int x_this_rule, .int x_this_green, .int x_this_absent, .int x_this_asksReds, .ref a_this_cars, .ref a_this_gaps, .ref a_this_known, .ref a_this_left, .ref a_this_leaves, .int x_this_pressed, .int x_this_crossed, .int x_this_went, .int x_this_harmed])), (a_this_plan, .inr (4, [.int x_this_plan_cycle, .int x_this_plan_green, .int x_this_plan_rule, .int x_this_plan_least, .int x_this_plan_away, .int x_this_plan_statements, .int x_this_plan_kinds, .ref a_this_plan_calm, .ref a_this_plan_pace, .ref a_this_plan_trusts, .int x_this_plan_walkers, .ref a_this_plan_kindOf, .ref a_this_plan_comesAt, .ref a_this_plan_comers, .ref a_this_plan_names, .ref a_this_plan_code, .int x_this_plan_size, .ref a_this_plan_spans])), (a_this_plan_kindOf, .inl (cy 0, 12, .inl g_this_plan_kindOf)), (a_this_machine, .inr (3, [.ref a_this_machine_facts, .ref a_this_machine_stack])), (a_this_machine_facts, .inl (cy 0, 13, .inl (upd f18030 (Int32.toNatClampNeg 12) z18012))), (a_this_plan_calm, .inl (cy 0, 6, .inl g_this_plan_calm)), (a_this_plan_pace, .inl (cy 0, 6, .inl g_this_plan_pace))] H := hP
  have hD : va_D A [(a_this_trusts, .inl (cy 0, 6, .inl g_this_trusts)), (a_this_leaves, .inl (cy 0, 12, .inl g_this_leaves)), (a_this_plan_comesAt, .inl (cy 0, 12, .inl g_this_plan_comesAt)), (a_this, .inr (7, [.ref a_this_machine, .ref a_this_plan, .int x_this_day, .ref a_this_trusts, .int x_this_rule, .int x_this_green, .int x_this_absent, .int x_this_asksReds, .ref a_this_cars, .ref a_this_gaps, .ref a_this_known, .ref a_this_left, .ref a_this_leaves, .int x_this_pressed, .int x_this_crossed, .int x_this_went, .int x_this_harmed])), (a_this_plan, .inr (4, [.int x_this_plan_cycle, .int x_this_plan_green, .int x_this_plan_rule, .int x_this_plan_least, .int x_this_plan_away, .int x_this_plan_statements, .int x_this_plan_kinds, .ref a_this_plan_calm, .ref a_this_plan_pace, .ref a_this_plan_trusts, .int x_this_plan_walkers, .ref a_this_plan_kindOf, .ref a_this_plan_comesAt, .ref a_this_plan_comers, .ref a_this_plan_names, .ref a_this_plan_code, .int x_this_plan_size, .ref a_this_plan_spans])), (a_this_plan_kindOf, .inl (cy 0, 12, .inl g_this_plan_kindOf)), (a_this_machine, .inr (3, [.ref a_this_machine_facts, .ref a_this_machine_stack])), (a_this_machine_facts, .inl (cy 0, 13, .inl (upd f18030 (Int32.toNatClampNeg 12) z18012))), (a_this_plan_calm, .inl (cy 0, 6, .inl g_this_plan_calm)), (a_this_plan_pace, .inl (cy 0, 6, .inl g_this_plan_pace))] := hD
  generalize upd f18030 (Int32.toNatClampNeg 12) z18012 = f18031 at hP hD
  subst hQ; exact k_vret hx hb hr hlk f18031 hS True.intro (hP.sub [3, 4, 5, 6, 2, 1, 0, 7, 8, 9] rfl) (hD.sub [3, 4, 5, 6, 2, 1, 0, 7, 8, 9] (by decide) rfl) (Nat.le_of_ble_eq_true rfl) (Nat.le_of_ble_eq_true rfl) dX7_describeWhole_77
set_option maxHeartbeats 4000000 in
set_option maxRecDepth 100000 in
theorem s_X7_greensUpTo (l : Launch) (dC : Nat → ClassId) (dI : Nat → Nat → Nat) (cy : Nat → ClassId) (sq : Nat → Nat) (a_this : Nat) (a_this_machine : Nat) (a_this_plan : Nat) (x_this_plan_cycle : Int32) (x_this_plan_green : Int32) (x_this_plan_rule : Int32) (x_this_plan_least : Int32) (x_this_plan_away : Int32) (x_this_plan_statements : Int32) (x_this_plan_kinds : Int32) (a_this_plan_calm : Nat) (a_this_plan_pace : Nat) (a_this_plan_trusts : Nat) (x_this_plan_walkers : Int32) (a_this_plan_kindOf : Nat) (a_this_plan_comesAt : Nat) (a_this_plan_comers : Nat) (a_this_plan_names : Nat) (a_this_plan_code : Nat) (x_this_plan_size : Int32) (a_this_plan_spans : Nat) (x_this_day : Int32) (a_this_trusts : Nat) (x_this_rule : Int32) (x_this_green : Int32) (x_this_absent : Int32) (x_this_asksReds : Int32) (a_this_cars : Nat) (a_this_gaps : Nat) (a_this_known : Nat) (a_this_left : Nat) (a_this_leaves : Nat) (x_this_pressed : Int32) (x_this_crossed : Int32) (x_this_went : Int32) (x_this_harmed : Int32) (p0 : Int32) (hx_this_plan_cycle : ib x_this_plan_cycle 0 120) (hx_this_plan_least : ib x_this_plan_least 0 99) (hx_this_plan_statements : ib x_this_plan_statements 0 81) (hx_this_plan_kinds : ib x_this_plan_kinds 0 6) (hx_this_plan_walkers : ib x_this_plan_walkers 0 12) (hx_this_plan_size : ib x_this_plan_size 0 1600) (hx_this_asksReds : ib x_this_asksReds 0 1) : k_Met l yX7_greensUpTo cX7_greensUpTo 2 (some .int) { frames := 1, cells := 0, slots := 0, locals := 13 } dC dI cy sq [.ref a_this, .int p0] [(a_this, .inr (7, [.ref a_this_machine, .ref a_this_plan, .int x_this_day, .ref a_this_trusts, .int x_this_rule, .int x_this_green, .int x_this_absent, .int x_this_asksReds, .ref a_this_cars, .ref a_this_gaps, .ref a_this_known, .ref a_this_left, .ref a_this_leaves, .int x_this_pressed, .int x_this_crossed, .int x_this_went, .int x_this_harmed])), (a_this_plan, .inr (4, [.int x_this_plan_cycle, .int x_this_plan_green, .int x_this_plan_rule, .int x_this_plan_least, .int x_this_plan_away, .int x_this_plan_statements, .int x_this_plan_kinds, .ref a_this_plan_calm, .ref a_this_plan_pace, .ref a_this_plan_trusts, .int x_this_plan_walkers, .ref a_this_plan_kindOf, .ref a_this_plan_comesAt, .ref a_this_plan_comers, .ref a_this_plan_names, .ref a_this_plan_code, .int x_this_plan_size, .ref a_this_plan_spans]))] (k_Qi dC dI (fun (r : Int32) (_ : Unit) => ib r (-2147483648) 119) (fun _ : Unit => [(a_this, .inr (7, [.ref a_this_machine, .ref a_this_plan, .int x_this_day, .ref a_this_trusts, .int x_this_rule, .int x_this_green, .int x_this_absent, .int x_this_asksReds, .ref a_this_cars, .ref a_this_gaps, .ref a_this_known, .ref a_this_left, .ref a_this_leaves, .int x_this_pressed, .int x_this_crossed, .int x_this_went, .int x_this_harmed])), (a_this_plan, .inr (4, [.int x_this_plan_cycle, .int x_this_plan_green, .int x_this_plan_rule, .int x_this_plan_least, .int x_this_plan_away, .int x_this_plan_statements, .int x_this_plan_kinds, .ref a_this_plan_calm, .ref a_this_plan_pace, .ref a_this_plan_trusts, .int x_this_plan_walkers, .ref a_this_plan_kindOf, .ref a_this_plan_comesAt, .ref a_this_plan_comers, .ref a_this_plan_names, .ref a_this_plan_code, .int x_this_plan_size, .ref a_this_plan_spans]))])) := by
  refine k_ofW2 (by decide +kernel) (Nat.le_of_ble_eq_true rfl) ?_
  intro p e s m below meth c A ls H locs args Q hQ C0 hr hlk hin hP hD hA hS hl
  have C0 : k_cx p s m args c cX7_greensUpTo 2 RX7 dC dI cy sq := C0
  have hx := C0.1
  have hb := C0.2.1
  have hl : lv_has ls 2 [(0, .ref a_this), (1, .int p0)] := hl
  refine lv_iload_n hx hb dX7_greensUpTo_0 rfl (lv_at hl 1 rfl) ?_
  refine lv_aload_n hx hb dX7_greensUpTo_1 rfl (lv_at hl 0 rfl) ?_
  refine k_get C0 fg_X7_63 hP 0 rfl rfl dX7_greensUpTo_2 ?_
  refine k_get C0 fg_X7_73 hP 1 rfl rfl dX7_greensUpTo_5 ?_
  refine lv_iconst (v := 1) hx hb dX7_greensUpTo_8 (by decide) ?_
  refine lv_isub hx hb dX7_greensUpTo_9 ?_
  refine lv_topi (fun z18082 ez18082 => ?_)
  have h18083 := ib_sub hx_this_plan_cycle (ib_c 1 1 1 (by decide)) (by decide)
  rw [← ez18082] at h18083
  have h18084 : ib z18082 (-1) 119 := ib_w (-1) 119 h18083.1 (by decide)
  refine va_mmin hx hb (by rw [C0.2.2.1]; exact hl.1.symm) C0.2.2.2.1 (C0.2.2.2.2.1 _ wd850) (C0.2.2.2.2.1 _ wd298) (C0.2.2.2.2.1 _ wd299) (C0.2.2.2.2.1 _ wd300) (Nat.le_of_ble_eq_true rfl) (Nat.le_of_ble_eq_true rfl) (Nat.le_of_ble_eq_true rfl) (Nat.le_of_ble_eq_true rfl) dX7_greensUpTo_10 ?_
  refine lv_topi (fun z18085 ez18085 => ?_)
  have h18086 : ib z18085 (-2147483648) 119 := by rw [ez18085]; exact ib_w (-2147483648) 119 (ib_min (ib_any p0) h18084) (by decide)
  subst hQ; exact k_iret hx hb hr hlk rfl () hS (ib_w (-2147483648) 119 h18086 (by decide)) hP hD (Nat.le_of_ble_eq_true rfl) (Nat.le_of_ble_eq_true rfl) dX7_greensUpTo_13
set_option maxHeartbeats 4000000 in
set_option maxRecDepth 100000 in
theorem s_X7_willing (l : Launch) (dC : Nat → ClassId) (dI : Nat → Nat → Nat) (cy : Nat → ClassId) (sq : Nat → Nat) (a_this : Nat) (a_this_machine : Nat) (a_this_plan : Nat) (x_this_plan_cycle : Int32) (x_this_plan_green : Int32) (x_this_plan_rule : Int32) (x_this_plan_least : Int32) (x_this_plan_away : Int32) (x_this_plan_statements : Int32) (x_this_plan_kinds : Int32) (a_this_plan_calm : Nat) (a_this_plan_pace : Nat) (a_this_plan_trusts : Nat) (x_this_plan_walkers : Int32) (a_this_plan_kindOf : Nat) (g_this_plan_kindOf : Nat → Int32) (a_this_plan_comesAt : Nat) (a_this_plan_comers : Nat) (a_this_plan_names : Nat) (a_this_plan_code : Nat) (x_this_plan_size : Int32) (a_this_plan_spans : Nat) (x_this_day : Int32) (a_this_trusts : Nat) (g_this_trusts : Nat → Int32) (x_this_rule : Int32) (x_this_green : Int32) (x_this_absent : Int32) (x_this_asksReds : Int32) (a_this_cars : Nat) (a_this_gaps : Nat) (a_this_known : Nat) (a_this_left : Nat) (a_this_leaves : Nat) (x_this_pressed : Int32) (x_this_crossed : Int32) (x_this_went : Int32) (x_this_harmed : Int32) (hx_this_plan_cycle : ib x_this_plan_cycle 0 120) (hx_this_plan_least : ib x_this_plan_least 0 99) (hx_this_plan_statements : ib x_this_plan_statements 0 81) (hx_this_plan_kinds : ib x_this_plan_kinds 0 6) (hx_this_plan_walkers : ib x_this_plan_walkers 0 12) (hg_this_plan_kindOf : ia g_this_plan_kindOf 12 0 5) (hx_this_plan_size : ib x_this_plan_size 0 1600) (hx_this_asksReds : ib x_this_asksReds 0 1) : k_Met l yX7_willing cX7_willing 3 (some .int) { frames := 0, cells := 0, slots := 0, locals := 0 } dC dI cy sq [.ref a_this] [(a_this, .inr (7, [.ref a_this_machine, .ref a_this_plan, .int x_this_day, .ref a_this_trusts, .int x_this_rule, .int x_this_green, .int x_this_absent, .int x_this_asksReds, .ref a_this_cars, .ref a_this_gaps, .ref a_this_known, .ref a_this_left, .ref a_this_leaves, .int x_this_pressed, .int x_this_crossed, .int x_this_went, .int x_this_harmed])), (a_this_plan, .inr (4, [.int x_this_plan_cycle, .int x_this_plan_green, .int x_this_plan_rule, .int x_this_plan_least, .int x_this_plan_away, .int x_this_plan_statements, .int x_this_plan_kinds, .ref a_this_plan_calm, .ref a_this_plan_pace, .ref a_this_plan_trusts, .int x_this_plan_walkers, .ref a_this_plan_kindOf, .ref a_this_plan_comesAt, .ref a_this_plan_comers, .ref a_this_plan_names, .ref a_this_plan_code, .int x_this_plan_size, .ref a_this_plan_spans])), (a_this_plan_kindOf, .inl (cy 0, 12, .inl g_this_plan_kindOf)), (a_this_trusts, .inl (cy 0, 6, .inl g_this_trusts))] (k_Qi dC dI (fun (r : Int32) (_ : Unit) => True) (fun _ : Unit => [(a_this, .inr (7, [.ref a_this_machine, .ref a_this_plan, .int x_this_day, .ref a_this_trusts, .int x_this_rule, .int x_this_green, .int x_this_absent, .int x_this_asksReds, .ref a_this_cars, .ref a_this_gaps, .ref a_this_known, .ref a_this_left, .ref a_this_leaves, .int x_this_pressed, .int x_this_crossed, .int x_this_went, .int x_this_harmed])), (a_this_plan, .inr (4, [.int x_this_plan_cycle, .int x_this_plan_green, .int x_this_plan_rule, .int x_this_plan_least, .int x_this_plan_away, .int x_this_plan_statements, .int x_this_plan_kinds, .ref a_this_plan_calm, .ref a_this_plan_pace, .ref a_this_plan_trusts, .int x_this_plan_walkers, .ref a_this_plan_kindOf, .ref a_this_plan_comesAt, .ref a_this_plan_comers, .ref a_this_plan_names, .ref a_this_plan_code, .int x_this_plan_size, .ref a_this_plan_spans])), (a_this_plan_kindOf, .inl (cy 0, 12, .inl g_this_plan_kindOf)), (a_this_trusts, .inl (cy 0, 6, .inl g_this_trusts))])) := by
  refine k_ofW2 (by decide +kernel) (Nat.le_of_ble_eq_true rfl) ?_
  intro p e s m below meth c A ls H locs args Q hQ C0 hr hlk hin hP hD hA hS hl
  have C0 : k_cx p s m args c cX7_willing 3 RX7 dC dI cy sq := C0
  have hx := C0.1
  have hb := C0.2.1
  have hl : lv_has ls 3 [(0, .ref a_this)] := hl
  have jn4 : ∀ (n : Nat) (J4_l2 : Int32) (J4_l1 : Int32) (H : Heap) (locs : List Loc) (ls : Array Slot), ib J4_l2 0 12 → 13 ≤ J4_l2.toInt + (n : Int) → va_P (dC, dI) vwCl [(a_this, .inr (7, [.ref a_this_machine, .ref a_this_plan, .int x_this_day, .ref a_this_trusts, .int x_this_rule, .int x_this_green, .int x_this_absent, .int x_this_asksReds, .ref a_this_cars, .ref a_this_gaps, .ref a_this_known, .ref a_this_left, .ref a_this_leaves, .int x_this_pressed, .int x_this_crossed, .int x_this_went, .int x_this_harmed])), (a_this_plan, .inr (4, [.int x_this_plan_cycle, .int x_this_plan_green, .int x_this_plan_rule, .int x_this_plan_least, .int x_this_plan_away, .int x_this_plan_statements, .int x_this_plan_kinds, .ref a_this_plan_calm, .ref a_this_plan_pace, .ref a_this_plan_trusts, .int x_this_plan_walkers, .ref a_this_plan_kindOf, .ref a_this_plan_comesAt, .ref a_this_plan_comers, .ref a_this_plan_names, .ref a_this_plan_code, .int x_this_plan_size, .ref a_this_plan_spans])), (a_this_plan_kindOf, .inl (cy 0, 12, .inl g_this_plan_kindOf)), (a_this_trusts, .inl (cy 0, 6, .inl g_this_trusts))] H → va_D A [(a_this, .inr (7, [.ref a_this_machine, .ref a_this_plan, .int x_this_day, .ref a_this_trusts, .int x_this_rule, .int x_this_green, .int x_this_absent, .int x_this_asksReds, .ref a_this_cars, .ref a_this_gaps, .ref a_this_known, .ref a_this_left, .ref a_this_leaves, .int x_this_pressed, .int x_this_crossed, .int x_this_went, .int x_this_harmed])), (a_this_plan, .inr (4, [.int x_this_plan_cycle, .int x_this_plan_green, .int x_this_plan_rule, .int x_this_plan_least, .int x_this_plan_away, .int x_this_plan_statements, .int x_this_plan_kinds, .ref a_this_plan_calm, .ref a_this_plan_pace, .ref a_this_plan_trusts, .int x_this_plan_walkers, .ref a_this_plan_kindOf, .ref a_this_plan_comesAt, .ref a_this_plan_comers, .ref a_this_plan_names, .ref a_this_plan_code, .int x_this_plan_size, .ref a_this_plan_spans])), (a_this_plan_kindOf, .inl (cy 0, 12, .inl g_this_plan_kindOf)), (a_this_trusts, .inl (cy 0, 6, .inl g_this_trusts))] → va_S A s.heap H locs → lv_has ls 3 [(0, .ref a_this), (1, .int J4_l1), (2, .int J4_l2)] → W p l e { frames := 0, cells := 0, slots := 0, locals := 0 } s m args below meth c H locs 0 0 Q (F0 m 4 ls []) := by
    intro n
    induction n with
    | zero =>
      intro J4_l2 J4_l1 H locs ls hJ4_l2 hm
      exact absurd hm (by have := hJ4_l2; unfold ib at this; omega)
    | succ n ih =>
      intro J4_l2 J4_l1 H locs ls hJ4_l2 hm4 hP hD hS hl
      have ih4 := ih
      have jn38 : ∀ (J38_l1 : Int32) (H : Heap) (locs : List Loc) (ls : Array Slot), ib J4_l2 0 11 → ib x_this_plan_walkers 1 12 → va_P (dC, dI) vwCl [(a_this, .inr (7, [.ref a_this_machine, .ref a_this_plan, .int x_this_day, .ref a_this_trusts, .int x_this_rule, .int x_this_green, .int x_this_absent, .int x_this_asksReds, .ref a_this_cars, .ref a_this_gaps, .ref a_this_known, .ref a_this_left, .ref a_this_leaves, .int x_this_pressed, .int x_this_crossed, .int x_this_went, .int x_this_harmed])), (a_this_plan, .inr (4, [.int x_this_plan_cycle, .int x_this_plan_green, .int x_this_plan_rule, .int x_this_plan_least, .int x_this_plan_away, .int x_this_plan_statements, .int x_this_plan_kinds, .ref a_this_plan_calm, .ref a_this_plan_pace, .ref a_this_plan_trusts, .int x_this_plan_walkers, .ref a_this_plan_kindOf, .ref a_this_plan_comesAt, .ref a_this_plan_comers, .ref a_this_plan_names, .ref a_this_plan_code, .int x_this_plan_size, .ref a_this_plan_spans])), (a_this_plan_kindOf, .inl (cy 0, 12, .inl g_this_plan_kindOf)), (a_this_trusts, .inl (cy 0, 6, .inl g_this_trusts))] H → va_D A [(a_this, .inr (7, [.ref a_this_machine, .ref a_this_plan, .int x_this_day, .ref a_this_trusts, .int x_this_rule, .int x_this_green, .int x_this_absent, .int x_this_asksReds, .ref a_this_cars, .ref a_this_gaps, .ref a_this_known, .ref a_this_left, .ref a_this_leaves, .int x_this_pressed, .int x_this_crossed, .int x_this_went, .int x_this_harmed])), (a_this_plan, .inr (4, [.int x_this_plan_cycle, .int x_this_plan_green, .int x_this_plan_rule, .int x_this_plan_least, .int x_this_plan_away, .int x_this_plan_statements, .int x_this_plan_kinds, .ref a_this_plan_calm, .ref a_this_plan_pace, .ref a_this_plan_trusts, .int x_this_plan_walkers, .ref a_this_plan_kindOf, .ref a_this_plan_comesAt, .ref a_this_plan_comers, .ref a_this_plan_names, .ref a_this_plan_code, .int x_this_plan_size, .ref a_this_plan_spans])), (a_this_plan_kindOf, .inl (cy 0, 12, .inl g_this_plan_kindOf)), (a_this_trusts, .inl (cy 0, 6, .inl g_this_trusts))] → va_S A s.heap H locs → lv_has ls 3 [(0, .ref a_this), (1, .int J38_l1), (2, .int J4_l2)] → W p l e { frames := 0, cells := 0, slots := 0, locals := 0 } s m args below meth c H locs 0 0 Q (F0 m 38 ls []) := by
        intro J38_l1 H locs ls hJ38_l2 hJ38_c1_10 hP hD hS hl
        obtain ⟨z18513, ez18513⟩ : ∃ y : Int32, y = J4_l2 + 1 := ⟨_, rfl⟩
        refine lv_iinc (v := z18513) (lv' := [(2, .int z18513), (0, .ref a_this), (1, .int J38_l1)]) hx hb dX7_willing_38 hl (k := 2) rfl (by rw [ez18513]; rfl) (by decide) rfl (fun ls hl => ?_)
        have h18514 := ib_add hJ38_l2 (ib_c 1 1 1 (by decide)) (by decide)
        rw [← ez18513] at h18514
        have h18515 : ib z18513 1 12 := ib_w 1 12 h18514.1 (by decide)
        refine lv_goto (tgt := 4) hx hb dX7_willing_41 (by decide) ?_
        exact ih4 z18513 J38_l1 H locs ls (ib_w 0 12 h18515 (by decide)) (by have := h18514.2; have : (1 : Int32).toInt = 1 := (by decide); omega) hP hD hS (lv_sub hl [1, 2, 0] rfl)
      refine lv_iload_n hx hb dX7_willing_4 rfl (lv_at hl 2 rfl) ?_
      refine lv_aload_n hx hb dX7_willing_5 rfl (lv_at hl 0 rfl) ?_
      refine k_get C0 fg_X7_63 hP 0 rfl rfl dX7_willing_6 ?_
      refine k_get C0 fg_X7_137 hP 1 rfl rfl dX7_willing_9 ?_
      refine lv_icmp_ge (tgt := 44) hx hb dX7_willing_12 (by decide) (fun c18516 => ?_) (fun c18516 => ?_)
      · have h18517 := ib_le hx_this_plan_walkers hJ4_l2 c18516
        refine lv_iload_n hx hb dX7_willing_44 rfl (lv_at hl 1 rfl) ?_
        refine lv_aload_n hx hb dX7_willing_45 rfl (lv_at hl 0 rfl) ?_
        refine k_get C0 fg_X7_25 hP 0 rfl rfl dX7_willing_46 ?_
        refine lv_iconst (v := (-1)) hx hb dX7_willing_49 (by decide) ?_
        refine lv_ixor hx hb dX7_willing_50 ?_
        refine lv_topi (fun z18518 ez18518 => ?_)
        refine lv_iand hx hb dX7_willing_51 ?_
        refine lv_topi (fun z18519 ez18519 => ?_)
        subst hQ; exact k_iret hx hb hr hlk rfl () hS True.intro hP hD (Nat.le_of_ble_eq_true rfl) (Nat.le_of_ble_eq_true rfl) dX7_willing_52
      · have h18520 := ib_nle hx_this_plan_walkers hJ4_l2 c18516
        have h18521 : ib x_this_plan_walkers 1 12 := ib_w 1 12 h18520.1 (by decide)
        have h18522 : ib J4_l2 0 11 := ib_w 0 11 h18520.2 (by decide)
        refine lv_aload_n hx hb dX7_willing_15 rfl (lv_at hl 0 rfl) ?_
        refine k_get C0 fg_X7_15 hP 0 rfl rfl dX7_willing_16 ?_
        refine lv_aload_n hx hb dX7_willing_19 rfl (lv_at hl 0 rfl) ?_
        refine k_get C0 fg_X7_63 hP 0 rfl rfl dX7_willing_20 ?_
        refine k_get C0 fg_X7_140 hP 1 rfl rfl dX7_willing_23 ?_
        refine lv_iload_n hx hb dX7_willing_26 rfl (lv_at hl 2 rfl) ?_
        refine va_iald hx hb C0.2.2.2.2.2.1 hP 2 0 rfl rfl (ib_in 12 h18522 (by decide)) dX7_willing_27 ?_
        refine lv_topi (fun z18523 ez18523 => ?_)
        have h18524 : ib z18523 0 5 := by rw [ez18523]; exact ia_at hg_this_plan_kindOf (ib_in 12 h18522 (by decide))
        refine va_iald hx hb C0.2.2.2.2.2.1 hP 3 0 rfl rfl (ib_in 6 h18524 (by decide)) dX7_willing_28 ?_
        refine lv_topi (fun z18525 ez18525 => ?_)
        refine lv_if_le (tgt := 38) hx hb dX7_willing_29 (by decide) (fun c18526 => ?_) (fun c18526 => ?_)
        · have h18527 := ib_le (ib_any z18525) (ib_c 0 0 0 (by decide)) c18526
          have h18528 : ib z18525 (-2147483648) 0 := ib_w (-2147483648) 0 h18527.1 (by decide)
          obtain ⟨z18529, ez18529⟩ : ∃ y : Int32, y = J4_l2 + 1 := ⟨_, rfl⟩
          refine lv_iinc (v := z18529) (lv' := [(2, .int z18529), (0, .ref a_this), (1, .int J4_l1)]) hx hb dX7_willing_38 hl (k := 2) rfl (by rw [ez18529]; rfl) (by decide) rfl (fun ls hl => ?_)
          have h18530 := ib_add h18522 (ib_c 1 1 1 (by decide)) (by decide)
          rw [← ez18529] at h18530
          have h18531 : ib z18529 1 12 := ib_w 1 12 h18530.1 (by decide)
          refine lv_goto (tgt := 4) hx hb dX7_willing_41 (by decide) ?_
          exact ih4 z18529 J4_l1 H locs ls (ib_w 0 12 h18531 (by decide)) (by have := h18530.2; have : (1 : Int32).toInt = 1 := (by decide); omega) hP hD hS (lv_sub hl [1, 2, 0] rfl)
        · have h18532 := ib_nle (ib_any z18525) (ib_c 0 0 0 (by decide)) c18526
          have h18533 : ib z18525 1 2147483647 := ib_w 1 2147483647 h18532.1 (by decide)
          refine lv_iload_n hx hb dX7_willing_32 rfl (lv_at hl 1 rfl) ?_
          refine lv_iconst (v := 1) hx hb dX7_willing_33 (by decide) ?_
          refine lv_iload_n hx hb dX7_willing_34 rfl (lv_at hl 2 rfl) ?_
          refine lv_ishl hx hb dX7_willing_35 ?_
          refine lv_topi (fun z18534 ez18534 => ?_)
          refine lv_ior hx hb dX7_willing_36 ?_
          refine lv_topi (fun z18535 ez18535 => ?_)
          refine lv_istore_n (lv' := [(1, .int z18535), (0, .ref a_this), (2, .int J4_l2)]) hx hb dX7_willing_37 rfl hl (by decide) rfl (fun ls hl => ?_)
          exact jn38 z18535 H locs ls (ib_w 0 11 h18522 (by decide)) (ib_w 1 12 h18521 (by decide)) hP hD hS (lv_sub hl [1, 0, 2] rfl)
  refine lv_iconst (v := 0) hx hb dX7_willing_0 (by decide) ?_
  refine lv_istore_n (lv' := [(1, .int 0), (0, .ref a_this)]) hx hb dX7_willing_1 rfl hl (by decide) rfl (fun ls hl => ?_)
  refine lv_iconst (v := 0) hx hb dX7_willing_2 (by decide) ?_
  refine lv_istore_n (lv' := [(2, .int 0), (1, .int 0), (0, .ref a_this)]) hx hb dX7_willing_3 rfl hl (by decide) rfl (fun ls hl => ?_)
  exact jn4 14 0 0 H locs ls (ib_w 0 12 (ib_c 0 0 0 (by decide)) (by decide)) (by have := (ib_c 0 0 0 (by decide)); unfold ib at this; omega) hP hD hS (lv_sub hl [2, 1, 0] rfl)
set_option maxHeartbeats 4000000 in
set_option maxRecDepth 100000 in
theorem s_X7_shine (l : Launch) (dC : Nat → ClassId) (dI : Nat → Nat → Nat) (cy : Nat → ClassId) (sq : Nat → Nat) (a_this : Nat) (a_this_machine : Nat) (a_this_plan : Nat) (x_this_plan_cycle : Int32) (x_this_plan_green : Int32) (x_this_plan_rule : Int32) (x_this_plan_least : Int32) (x_this_plan_away : Int32) (x_this_plan_statements : Int32) (x_this_plan_kinds : Int32) (a_this_plan_calm : Nat) (a_this_plan_pace : Nat) (a_this_plan_trusts : Nat) (x_this_plan_walkers : Int32) (a_this_plan_kindOf : Nat) (g_this_plan_kindOf : Nat → Int32) (a_this_plan_comesAt : Nat) (a_this_plan_comers : Nat) (g_this_plan_comers : Nat → Int32) (a_this_plan_names : Nat) (a_this_plan_code : Nat) (x_this_plan_size : Int32) (a_this_plan_spans : Nat) (x_this_day : Int32) (a_this_trusts : Nat) (g_this_trusts : Nat → Int32) (x_this_rule : Int32) (x_this_green : Int32) (x_this_absent : Int32) (x_this_asksReds : Int32) (a_this_cars : Nat) (a_this_gaps : Nat) (a_this_known : Nat) (a_this_left : Nat) (g_this_left : Nat → Int32) (a_this_leaves : Nat) (x_this_pressed : Int32) (x_this_crossed : Int32) (x_this_went : Int32) (x_this_harmed : Int32) (hx_this_plan_least : ib x_this_plan_least 0 99) (hx_this_plan_statements : ib x_this_plan_statements 0 81) (hx_this_plan_kinds : ib x_this_plan_kinds 0 6) (hx_this_plan_walkers : ib x_this_plan_walkers 0 12) (hg_this_plan_kindOf : ia g_this_plan_kindOf 12 0 5) (hx_this_plan_size : ib x_this_plan_size 0 1600) (hx_this_asksReds : ib x_this_asksReds 0 1) (hx_this_plan_cycle : ib x_this_plan_cycle 1 120) : k_Met l yX7_shine cX7_shine 9 none { frames := 1, cells := 0, slots := 0, locals := 22 } dC dI cy sq [.ref a_this] [(a_this, .inr (7, [.ref a_this_machine, .ref a_this_plan, .int x_this_day, .ref a_this_trusts, .int x_this_rule, .int x_this_green, .int x_this_absent, .int x_this_asksReds, .ref a_this_cars, .ref a_this_gaps, .ref a_this_known, .ref a_this_left, .ref a_this_leaves, .int x_this_pressed, .int x_this_crossed, .int x_this_went, .int x_this_harmed])), (a_this_plan, .inr (4, [.int x_this_plan_cycle, .int x_this_plan_green, .int x_this_plan_rule, .int x_this_plan_least, .int x_this_plan_away, .int x_this_plan_statements, .int x_this_plan_kinds, .ref a_this_plan_calm, .ref a_this_plan_pace, .ref a_this_plan_trusts, .int x_this_plan_walkers, .ref a_this_plan_kindOf, .ref a_this_plan_comesAt, .ref a_this_plan_comers, .ref a_this_plan_names, .ref a_this_plan_code, .int x_this_plan_size, .ref a_this_plan_spans])), (a_this_plan_kindOf, .inl (cy 0, 12, .inl g_this_plan_kindOf)), (a_this_trusts, .inl (cy 0, 6, .inl g_this_trusts)), (a_this_plan_comers, .inl (cy 0, 200, .inl g_this_plan_comers)), (a_this_left, .inl (cy 0, 300, .inl g_this_left))] (k_Qv dC dI (fun (u : Int32 × (Nat → Int32)) => match u with | (n0, n1) => True) (fun u : Int32 × (Nat → Int32) => match u with | (n0, n1) => [(a_this, .inr (7, [.ref a_this_machine, .ref a_this_plan, .int x_this_day, .ref a_this_trusts, .int x_this_rule, .int x_this_green, .int x_this_absent, .int x_this_asksReds, .ref a_this_cars, .ref a_this_gaps, .ref a_this_known, .ref a_this_left, .ref a_this_leaves, .int n0, .int x_this_crossed, .int x_this_went, .int x_this_harmed])), (a_this_plan, .inr (4, [.int x_this_plan_cycle, .int x_this_plan_green, .int x_this_plan_rule, .int x_this_plan_least, .int x_this_plan_away, .int x_this_plan_statements, .int x_this_plan_kinds, .ref a_this_plan_calm, .ref a_this_plan_pace, .ref a_this_plan_trusts, .int x_this_plan_walkers, .ref a_this_plan_kindOf, .ref a_this_plan_comesAt, .ref a_this_plan_comers, .ref a_this_plan_names, .ref a_this_plan_code, .int x_this_plan_size, .ref a_this_plan_spans])), (a_this_plan_kindOf, .inl (cy 0, 12, .inl g_this_plan_kindOf)), (a_this_trusts, .inl (cy 0, 6, .inl g_this_trusts)), (a_this_plan_comers, .inl (cy 0, 200, .inl g_this_plan_comers)), (a_this_left, .inl (cy 0, 300, .inl n1))])) := by
  refine k_ofW2 (by decide +kernel) (Nat.le_of_ble_eq_true rfl) ?_
  intro p e s m below meth c A ls H locs args Q hQ C0 hr hlk hin hP hD hA hS hl
  have C0 : k_cx p s m args c cX7_shine 9 RX7 dC dI cy sq := C0
  have hx := C0.1
  have hb := C0.2.1
  have hl : lv_has ls 9 [(0, .ref a_this)] := hl
  have jn20 : ∀ (n : Nat) (J20_l1 : Int32) (J20_l2 : Int32) (J20_l3 : Int32) (J20_l4 : Int32) (J20_l5 : Int32) (J20_c0_13 : Int32) (J20_a5 : Nat → Int32) (H : Heap) (locs : List Loc) (ls : Array Slot), ib J20_l2 0 1 → ib J20_l3 0 1 → ib J20_l4 (-1) 300 → ib J20_l5 0 300 → 301 ≤ J20_l5.toInt + (n : Int) → va_P (dC, dI) vwCl [(a_this, .inr (7, [.ref a_this_machine, .ref a_this_plan, .int x_this_day, .ref a_this_trusts, .int x_this_rule, .int x_this_green, .int x_this_absent, .int x_this_asksReds, .ref a_this_cars, .ref a_this_gaps, .ref a_this_known, .ref a_this_left, .ref a_this_leaves, .int J20_c0_13, .int x_this_crossed, .int x_this_went, .int x_this_harmed])), (a_this_plan, .inr (4, [.int x_this_plan_cycle, .int x_this_plan_green, .int x_this_plan_rule, .int x_this_plan_least, .int x_this_plan_away, .int x_this_plan_statements, .int x_this_plan_kinds, .ref a_this_plan_calm, .ref a_this_plan_pace, .ref a_this_plan_trusts, .int x_this_plan_walkers, .ref a_this_plan_kindOf, .ref a_this_plan_comesAt, .ref a_this_plan_comers, .ref a_this_plan_names, .ref a_this_plan_code, .int x_this_plan_size, .ref a_this_plan_spans])), (a_this_plan_kindOf, .inl (cy 0, 12, .inl g_this_plan_kindOf)), (a_this_trusts, .inl (cy 0, 6, .inl g_this_trusts)), (a_this_plan_comers, .inl (cy 0, 200, .inl g_this_plan_comers)), (a_this_left, .inl (cy 0, 300, .inl J20_a5))] H → va_D A [(a_this, .inr (7, [.ref a_this_machine, .ref a_this_plan, .int x_this_day, .ref a_this_trusts, .int x_this_rule, .int x_this_green, .int x_this_absent, .int x_this_asksReds, .ref a_this_cars, .ref a_this_gaps, .ref a_this_known, .ref a_this_left, .ref a_this_leaves, .int J20_c0_13, .int x_this_crossed, .int x_this_went, .int x_this_harmed])), (a_this_plan, .inr (4, [.int x_this_plan_cycle, .int x_this_plan_green, .int x_this_plan_rule, .int x_this_plan_least, .int x_this_plan_away, .int x_this_plan_statements, .int x_this_plan_kinds, .ref a_this_plan_calm, .ref a_this_plan_pace, .ref a_this_plan_trusts, .int x_this_plan_walkers, .ref a_this_plan_kindOf, .ref a_this_plan_comesAt, .ref a_this_plan_comers, .ref a_this_plan_names, .ref a_this_plan_code, .int x_this_plan_size, .ref a_this_plan_spans])), (a_this_plan_kindOf, .inl (cy 0, 12, .inl g_this_plan_kindOf)), (a_this_trusts, .inl (cy 0, 6, .inl g_this_trusts)), (a_this_plan_comers, .inl (cy 0, 200, .inl g_this_plan_comers)), (a_this_left, .inl (cy 0, 300, .inl J20_a5))] → va_S A s.heap H locs → lv_has ls 9 [(0, .ref a_this), (1, .int J20_l1), (2, .int J20_l2), (3, .int J20_l3), (4, .int J20_l4), (5, .int J20_l5)] → W p l e { frames := 1, cells := 0, slots := 0, locals := 22 } s m args below meth c H locs 0 0 Q (F0 m 20 ls []) := by
    intro n
    induction n with
    | zero =>
      intro J20_l1 J20_l2 J20_l3 J20_l4 J20_l5 J20_c0_13 J20_a5 H locs ls hJ20_l2 hJ20_l3 hJ20_l4 hJ20_l5 hm
      exact absurd hm (by have := hJ20_l5; unfold ib at this; omega)
    | succ n ih =>
      intro J20_l1 J20_l2 J20_l3 J20_l4 J20_l5 J20_c0_13 J20_a5 H locs ls hJ20_l2 hJ20_l3 hJ20_l4 hJ20_l5 hm20 hP hD hS hl
      have ih20 := ih
      have jn261 : ∀ (J261_l2 : Int32) (J261_l3 : Int32) (J261_l4 : Int32) (J261_l6 : Int32) (J261_l7 : Int32) (J261_l8 : Int32) (J261_c0_13 : Int32) (J261_a5 : Nat → Int32) (H : Heap) (locs : List Loc) (ls : Array Slot), ib J261_l2 0 1 → ib J261_l3 0 1 → ib J261_l4 (-1) 300 → ib J20_l5 0 299 → ib J261_l8 0 300 → va_P (dC, dI) vwCl [(a_this, .inr (7, [.ref a_this_machine, .ref a_this_plan, .int x_this_day, .ref a_this_trusts, .int x_this_rule, .int x_this_green, .int x_this_absent, .int x_this_asksReds, .ref a_this_cars, .ref a_this_gaps, .ref a_this_known, .ref a_this_left, .ref a_this_leaves, .int J261_c0_13, .int x_this_crossed, .int x_this_went, .int x_this_harmed])), (a_this_plan, .inr (4, [.int x_this_plan_cycle, .int x_this_plan_green, .int x_this_plan_rule, .int x_this_plan_least, .int x_this_plan_away, .int x_this_plan_statements, .int x_this_plan_kinds, .ref a_this_plan_calm, .ref a_this_plan_pace, .ref a_this_plan_trusts, .int x_this_plan_walkers, .ref a_this_plan_kindOf, .ref a_this_plan_comesAt, .ref a_this_plan_comers, .ref a_this_plan_names, .ref a_this_plan_code, .int x_this_plan_size, .ref a_this_plan_spans])), (a_this_plan_kindOf, .inl (cy 0, 12, .inl g_this_plan_kindOf)), (a_this_trusts, .inl (cy 0, 6, .inl g_this_trusts)), (a_this_plan_comers, .inl (cy 0, 200, .inl g_this_plan_comers)), (a_this_left, .inl (cy 0, 300, .inl J261_a5))] H → va_D A [(a_this, .inr (7, [.ref a_this_machine, .ref a_this_plan, .int x_this_day, .ref a_this_trusts, .int x_this_rule, .int x_this_green, .int x_this_absent, .int x_this_asksReds, .ref a_this_cars, .ref a_this_gaps, .ref a_this_known, .ref a_this_left, .ref a_this_leaves, .int J261_c0_13, .int x_this_crossed, .int x_this_went, .int x_this_harmed])), (a_this_plan, .inr (4, [.int x_this_plan_cycle, .int x_this_plan_green, .int x_this_plan_rule, .int x_this_plan_least, .int x_this_plan_away, .int x_this_plan_statements, .int x_this_plan_kinds, .ref a_this_plan_calm, .ref a_this_plan_pace, .ref a_this_plan_trusts, .int x_this_plan_walkers, .ref a_this_plan_kindOf, .ref a_this_plan_comesAt, .ref a_this_plan_comers, .ref a_this_plan_names, .ref a_this_plan_code, .int x_this_plan_size, .ref a_this_plan_spans])), (a_this_plan_kindOf, .inl (cy 0, 12, .inl g_this_plan_kindOf)), (a_this_trusts, .inl (cy 0, 6, .inl g_this_trusts)), (a_this_plan_comers, .inl (cy 0, 200, .inl g_this_plan_comers)), (a_this_left, .inl (cy 0, 300, .inl J261_a5))] → va_S A s.heap H locs → lv_has ls 9 [(0, .ref a_this), (1, .int J20_l1), (2, .int J261_l2), (3, .int J261_l3), (4, .int J261_l4), (5, .int J20_l5), (6, .int J261_l6), (7, .int J261_l7), (8, .int J261_l8)] → W p l e { frames := 1, cells := 0, slots := 0, locals := 22 } s m args below meth c H locs 0 0 Q (F0 m 261 ls []) := by
        intro J261_l2 J261_l3 J261_l4 J261_l6 J261_l7 J261_l8 J261_c0_13 J261_a5 H locs ls hJ261_l2 hJ261_l3 hJ261_l4 hJ261_l5 hJ261_l8 hP hD hS hl
        obtain ⟨z20358, ez20358⟩ : ∃ y : Int32, y = J20_l5 + 1 := ⟨_, rfl⟩
        refine lv_iinc (v := z20358) (lv' := [(5, .int z20358), (0, .ref a_this), (1, .int J20_l1), (2, .int J261_l2), (3, .int J261_l3), (4, .int J261_l4), (6, .int J261_l6), (7, .int J261_l7), (8, .int J261_l8)]) hx hb dX7_shine_261 hl (k := 5) rfl (by rw [ez20358]; rfl) (by decide) rfl (fun ls hl => ?_)
        have h20359 := ib_add hJ261_l5 (ib_c 1 1 1 (by decide)) (by decide)
        rw [← ez20358] at h20359
        have h20360 : ib z20358 1 300 := ib_w 1 300 h20359.1 (by decide)
        refine lv_goto (tgt := 20) hx hb dX7_shine_264 (by decide) ?_
        exact ih20 J20_l1 J261_l2 J261_l3 J261_l4 z20358 J261_c0_13 J261_a5 H locs ls (ib_w 0 1 hJ261_l2 (by decide)) (ib_w 0 1 hJ261_l3 (by decide)) (ib_w (-1) 300 hJ261_l4 (by decide)) (ib_w 0 300 h20360 (by decide)) (by have := h20359.2; have : (1 : Int32).toInt = 1 := (by decide); omega) hP hD hS (lv_sub hl [1, 2, 3, 4, 5, 0] rfl)
      have jn260 : ∀ (J260_l2 : Int32) (J260_l6 : Int32) (J260_l7 : Int32) (J260_l8 : Int32) (J260_c0_13 : Int32) (J260_s0 : Int32) (J260_l3 : Int32) (H : Heap) (locs : List Loc) (ls : Array Slot), ib J260_l2 0 1 → ib J20_l3 0 1 → ib J20_l4 (-1) 300 → ib J20_l5 0 299 → ib J260_l8 0 119 → ib J260_s0 0 2147483647 → ib J260_l3 0 1 → va_P (dC, dI) vwCl [(a_this, .inr (7, [.ref a_this_machine, .ref a_this_plan, .int x_this_day, .ref a_this_trusts, .int x_this_rule, .int x_this_green, .int x_this_absent, .int x_this_asksReds, .ref a_this_cars, .ref a_this_gaps, .ref a_this_known, .ref a_this_left, .ref a_this_leaves, .int J260_c0_13, .int x_this_crossed, .int x_this_went, .int x_this_harmed])), (a_this_plan, .inr (4, [.int x_this_plan_cycle, .int x_this_plan_green, .int x_this_plan_rule, .int x_this_plan_least, .int x_this_plan_away, .int x_this_plan_statements, .int x_this_plan_kinds, .ref a_this_plan_calm, .ref a_this_plan_pace, .ref a_this_plan_trusts, .int x_this_plan_walkers, .ref a_this_plan_kindOf, .ref a_this_plan_comesAt, .ref a_this_plan_comers, .ref a_this_plan_names, .ref a_this_plan_code, .int x_this_plan_size, .ref a_this_plan_spans])), (a_this_plan_kindOf, .inl (cy 0, 12, .inl g_this_plan_kindOf)), (a_this_trusts, .inl (cy 0, 6, .inl g_this_trusts)), (a_this_plan_comers, .inl (cy 0, 200, .inl g_this_plan_comers)), (a_this_left, .inl (cy 0, 300, .inl J20_a5))] H → va_D A [(a_this, .inr (7, [.ref a_this_machine, .ref a_this_plan, .int x_this_day, .ref a_this_trusts, .int x_this_rule, .int x_this_green, .int x_this_absent, .int x_this_asksReds, .ref a_this_cars, .ref a_this_gaps, .ref a_this_known, .ref a_this_left, .ref a_this_leaves, .int J260_c0_13, .int x_this_crossed, .int x_this_went, .int x_this_harmed])), (a_this_plan, .inr (4, [.int x_this_plan_cycle, .int x_this_plan_green, .int x_this_plan_rule, .int x_this_plan_least, .int x_this_plan_away, .int x_this_plan_statements, .int x_this_plan_kinds, .ref a_this_plan_calm, .ref a_this_plan_pace, .ref a_this_plan_trusts, .int x_this_plan_walkers, .ref a_this_plan_kindOf, .ref a_this_plan_comesAt, .ref a_this_plan_comers, .ref a_this_plan_names, .ref a_this_plan_code, .int x_this_plan_size, .ref a_this_plan_spans])), (a_this_plan_kindOf, .inl (cy 0, 12, .inl g_this_plan_kindOf)), (a_this_trusts, .inl (cy 0, 6, .inl g_this_trusts)), (a_this_plan_comers, .inl (cy 0, 200, .inl g_this_plan_comers)), (a_this_left, .inl (cy 0, 300, .inl J20_a5))] → va_S A s.heap H locs → lv_has ls 9 [(0, .ref a_this), (1, .int J20_l1), (2, .int J260_l2), (3, .int J260_l3), (4, .int J20_l4), (5, .int J20_l5), (6, .int J260_l6), (7, .int J260_l7), (8, .int J260_l8)] → W p l e { frames := 1, cells := 0, slots := 0, locals := 22 } s m args below meth c H locs 0 0 Q (F0 m 260 ls [.int J260_s0, .int J20_l5, .ref a_this_left]) := by
        intro J260_l2 J260_l6 J260_l7 J260_l8 J260_c0_13 J260_s0 J260_l3 H locs ls hJ260_l2 hJ260_l3 hJ260_l4 hJ260_l5 hJ260_l8 hJ260_s0 hJ260_l3 hP hD hS hl
        refine va_iast hx hb C0.2.2.2.2.2.1 hP hD hS 5 0 rfl rfl (ib_in 300 hJ260_l5 (by decide)) dX7_shine_260 (fun H locs hP hD hS => ?_)
        have hP : va_P (dC, dI) vwCl [(a_this, .inr (7, [.ref a_this_machine, .ref a_this_plan, .int x_this_day, .ref a_this_trusts, .int x_this_rule, .int x_this_green, .int x_this_absent, .int x_this_asksReds, .ref a_this_cars, .ref a_this_gaps, .ref a_this_known, .ref a_this_left, .ref a_this_leaves, .int J260_c0_13, .int x_this_crossed, .int x_this_went, .int x_this_harmed])), (a_this_plan, .inr (4, [.int x_this_plan_cycle, .int x_this_plan_green, .int x_this_plan_rule, .int x_this_plan_least, .int x_this_plan_away, .int x_this_plan_statements, .int x_this_plan_kinds, .ref a_this_plan_calm, .ref a_this_plan_pace, .ref a_this_plan_trusts, .int x_this_plan_walkers, .ref a_this_plan_kindOf, .ref a_this_plan_comesAt, .ref a_this_plan_comers, .ref a_this_plan_names, .ref a_this_plan_code, .int x_this_plan_size, .ref a_this_plan_spans])), (a_this_plan_kindOf, .inl (cy 0, 12, .inl g_this_plan_kindOf)), (a_this_trusts, .inl (cy 0, 6, .inl g_this_trusts)), (a_this_plan_comers, .inl (cy 0, 200, .inl g_this_plan_comers)), (a_this_left, .inl (cy 0, 300, .inl (upd J20_a5 (Int32.toNatClampNeg J20_l5) J260_s0)))] H := hP
        have hD : va_D A [(a_this, .inr (7, [.ref a_this_machine, .ref a_this_plan, .int x_this_day, .ref a_this_trusts, .int x_this_rule, .int x_this_green, .int x_this_absent, .int x_this_asksReds, .ref a_this_cars, .ref a_this_gaps, .ref a_this_known, .ref a_this_left, .ref a_this_leaves, .int J260_c0_13, .int x_this_crossed, .int x_this_went, .int x_this_harmed])), (a_this_plan, .inr (4, [.int x_this_plan_cycle, .int x_this_plan_green, .int x_this_plan_rule, .int x_this_plan_least, .int x_this_plan_away, .int x_this_plan_statements, .int x_this_plan_kinds, .ref a_this_plan_calm, .ref a_this_plan_pace, .ref a_this_plan_trusts, .int x_this_plan_walkers, .ref a_this_plan_kindOf, .ref a_this_plan_comesAt, .ref a_this_plan_comers, .ref a_this_plan_names, .ref a_this_plan_code, .int x_this_plan_size, .ref a_this_plan_spans])), (a_this_plan_kindOf, .inl (cy 0, 12, .inl g_this_plan_kindOf)), (a_this_trusts, .inl (cy 0, 6, .inl g_this_trusts)), (a_this_plan_comers, .inl (cy 0, 200, .inl g_this_plan_comers)), (a_this_left, .inl (cy 0, 300, .inl (upd J20_a5 (Int32.toNatClampNeg J20_l5) J260_s0)))] := hD
        generalize upd J20_a5 (Int32.toNatClampNeg J20_l5) J260_s0 = f20361 at hP hD
        exact jn261 J260_l2 J260_l3 J20_l4 J260_l6 J260_l7 J260_l8 J260_c0_13 f20361 H locs ls (ib_w 0 1 hJ260_l2 (by decide)) (ib_w 0 1 hJ260_l3 (by decide)) (ib_w (-1) 300 hJ260_l4 (by decide)) (ib_w 0 299 hJ260_l5 (by decide)) (ib_w 0 300 hJ260_l8 (by decide)) hP hD hS (lv_sub hl [0, 1, 2, 3, 4, 5, 6, 7, 8] rfl)
      have jn235 : ∀ (J235_l3 : Int32) (J235_l6 : Int32) (J235_l7 : Int32) (J235_l8 : Int32) (J235_c0_13 : Int32) (H : Heap) (locs : List Loc) (ls : Array Slot), ib J235_l3 0 1 → ib J20_l4 (-1) 300 → ib J20_l5 0 299 → ib J235_l8 0 0 → va_P (dC, dI) vwCl [(a_this, .inr (7, [.ref a_this_machine, .ref a_this_plan, .int x_this_day, .ref a_this_trusts, .int x_this_rule, .int x_this_green, .int x_this_absent, .int x_this_asksReds, .ref a_this_cars, .ref a_this_gaps, .ref a_this_known, .ref a_this_left, .ref a_this_leaves, .int J235_c0_13, .int x_this_crossed, .int x_this_went, .int x_this_harmed])), (a_this_plan, .inr (4, [.int x_this_plan_cycle, .int x_this_plan_green, .int x_this_plan_rule, .int x_this_plan_least, .int x_this_plan_away, .int x_this_plan_statements, .int x_this_plan_kinds, .ref a_this_plan_calm, .ref a_this_plan_pace, .ref a_this_plan_trusts, .int x_this_plan_walkers, .ref a_this_plan_kindOf, .ref a_this_plan_comesAt, .ref a_this_plan_comers, .ref a_this_plan_names, .ref a_this_plan_code, .int x_this_plan_size, .ref a_this_plan_spans])), (a_this_plan_kindOf, .inl (cy 0, 12, .inl g_this_plan_kindOf)), (a_this_trusts, .inl (cy 0, 6, .inl g_this_trusts)), (a_this_plan_comers, .inl (cy 0, 200, .inl g_this_plan_comers)), (a_this_left, .inl (cy 0, 300, .inl J20_a5))] H → va_D A [(a_this, .inr (7, [.ref a_this_machine, .ref a_this_plan, .int x_this_day, .ref a_this_trusts, .int x_this_rule, .int x_this_green, .int x_this_absent, .int x_this_asksReds, .ref a_this_cars, .ref a_this_gaps, .ref a_this_known, .ref a_this_left, .ref a_this_leaves, .int J235_c0_13, .int x_this_crossed, .int x_this_went, .int x_this_harmed])), (a_this_plan, .inr (4, [.int x_this_plan_cycle, .int x_this_plan_green, .int x_this_plan_rule, .int x_this_plan_least, .int x_this_plan_away, .int x_this_plan_statements, .int x_this_plan_kinds, .ref a_this_plan_calm, .ref a_this_plan_pace, .ref a_this_plan_trusts, .int x_this_plan_walkers, .ref a_this_plan_kindOf, .ref a_this_plan_comesAt, .ref a_this_plan_comers, .ref a_this_plan_names, .ref a_this_plan_code, .int x_this_plan_size, .ref a_this_plan_spans])), (a_this_plan_kindOf, .inl (cy 0, 12, .inl g_this_plan_kindOf)), (a_this_trusts, .inl (cy 0, 6, .inl g_this_trusts)), (a_this_plan_comers, .inl (cy 0, 200, .inl g_this_plan_comers)), (a_this_left, .inl (cy 0, 300, .inl J20_a5))] → va_S A s.heap H locs → lv_has ls 9 [(0, .ref a_this), (1, .int J20_l1), (2, .int 0), (3, .int J235_l3), (4, .int J20_l4), (5, .int J20_l5), (6, .int J235_l6), (7, .int J235_l7), (8, .int J235_l8)] → W p l e { frames := 1, cells := 0, slots := 0, locals := 22 } s m args below meth c H locs 0 0 Q (F0 m 235 ls []) := by
        intro J235_l3 J235_l6 J235_l7 J235_l8 J235_c0_13 H locs ls hJ235_l3 hJ235_l4 hJ235_l5 hJ235_l8 hP hD hS hl
        refine lv_aload_n hx hb dX7_shine_235 rfl (lv_at hl 0 rfl) ?_
        refine k_get C0 fg_X7_41 hP 0 rfl rfl dX7_shine_236 ?_
        refine lv_iload hx hb dX7_shine_239 (lv_at hl 5 rfl) ?_
        refine lv_iload_n hx hb dX7_shine_241 rfl (lv_at hl 3 rfl) ?_
        refine lv_if_eq (tgt := 259) hx hb dX7_shine_242 (by decide) (fun c20362 => ?_) (fun c20362 => ?_)
        · have h20363 := ib_eq hJ235_l3 (ib_c 0 0 0 (by decide)) c20362
          have h20364 : ib J235_l3 0 0 := ib_w 0 0 h20363.1 (by decide)
          refine lv_iconst (v := 0) hx hb dX7_shine_259 (by decide) ?_
          exact jn260 0 J235_l6 J235_l7 J235_l8 J235_c0_13 0 J235_l3 H locs ls (ib_w 0 1 (ib_c 0 0 0 (by decide)) (by decide)) (ib_w 0 1 hJ20_l3 (by decide)) (ib_w (-1) 300 hJ235_l4 (by decide)) (ib_w 0 299 hJ235_l5 (by decide)) (ib_w 0 119 hJ235_l8 (by decide)) (ib_w 0 2147483647 (ib_c 0 0 0 (by decide)) (by decide)) (ib_w 0 1 h20364 (by decide)) hP hD hS (lv_sub hl [0, 1, 2, 3, 4, 5, 6, 7, 8] rfl)
        · have h20365 : ib J235_l3 1 1 := ib_w 1 1 (ib_ne_lo 0 hJ235_l3 (by decide) c20362) (by decide)
          refine lv_aload_n hx hb dX7_shine_245 rfl (lv_at hl 0 rfl) ?_
          refine k_get C0 fg_X7_22 hP 0 rfl rfl dX7_shine_246 ?_
          refine lv_iload hx hb dX7_shine_249 (lv_at hl 8 rfl) ?_
          refine lv_isub hx hb dX7_shine_251 ?_
          refine lv_topi (fun z20366 ez20366 => ?_)
          have h20367 := ib_sub (ib_any x_this_green) hJ235_l8 (by decide)
          rw [← ez20366] at h20367
          have h20368 : ib z20366 (-2147483648) 2147483647 := ib_w (-2147483648) 2147483647 h20367.1 (by decide)
          refine lv_iconst (v := 0) hx hb dX7_shine_252 (by decide) ?_
          refine va_mmax hx hb (by rw [C0.2.2.1]; exact hl.1.symm) C0.2.2.2.1 (C0.2.2.2.2.1 _ wd875) (C0.2.2.2.2.1 _ wd876) (C0.2.2.2.2.1 _ wd299) (C0.2.2.2.2.1 _ wd877) (Nat.le_of_ble_eq_true rfl) (Nat.le_of_ble_eq_true rfl) (Nat.le_of_ble_eq_true rfl) (Nat.le_of_ble_eq_true rfl) dX7_shine_253 ?_
          refine lv_topi (fun z20369 ez20369 => ?_)
          have h20370 : ib z20369 0 2147483647 := by rw [ez20369]; exact ib_w 0 2147483647 (ib_max h20368 (ib_c 0 0 0 (by decide))) (by decide)
          refine lv_goto (tgt := 260) hx hb dX7_shine_256 (by decide) ?_
          exact jn260 0 J235_l6 J235_l7 J235_l8 J235_c0_13 z20369 J235_l3 H locs ls (ib_w 0 1 (ib_c 0 0 0 (by decide)) (by decide)) (ib_w 0 1 hJ20_l3 (by decide)) (ib_w (-1) 300 hJ235_l4 (by decide)) (ib_w 0 299 hJ235_l5 (by decide)) (ib_w 0 119 hJ235_l8 (by decide)) (ib_w 0 2147483647 h20370 (by decide)) (ib_w 0 1 h20365 (by decide)) hP hD hS (lv_sub hl [0, 1, 2, 3, 4, 5, 6, 7, 8] rfl)
      have jn232 : ∀ (J232_l2 : Int32) (J232_l6 : Int32) (J232_l7 : Int32) (J232_l8 : Int32) (J232_c0_13 : Int32) (J232_s0 : Int32) (H : Heap) (locs : List Loc) (ls : Array Slot), ib J232_l2 0 1 → ib J20_l3 0 1 → ib J20_l4 (-1) 300 → ib J20_l5 0 299 → ib J232_l8 0 0 → ib J232_s0 0 1 → va_P (dC, dI) vwCl [(a_this, .inr (7, [.ref a_this_machine, .ref a_this_plan, .int x_this_day, .ref a_this_trusts, .int x_this_rule, .int x_this_green, .int x_this_absent, .int x_this_asksReds, .ref a_this_cars, .ref a_this_gaps, .ref a_this_known, .ref a_this_left, .ref a_this_leaves, .int J232_c0_13, .int x_this_crossed, .int x_this_went, .int x_this_harmed])), (a_this_plan, .inr (4, [.int x_this_plan_cycle, .int x_this_plan_green, .int x_this_plan_rule, .int x_this_plan_least, .int x_this_plan_away, .int x_this_plan_statements, .int x_this_plan_kinds, .ref a_this_plan_calm, .ref a_this_plan_pace, .ref a_this_plan_trusts, .int x_this_plan_walkers, .ref a_this_plan_kindOf, .ref a_this_plan_comesAt, .ref a_this_plan_comers, .ref a_this_plan_names, .ref a_this_plan_code, .int x_this_plan_size, .ref a_this_plan_spans])), (a_this_plan_kindOf, .inl (cy 0, 12, .inl g_this_plan_kindOf)), (a_this_trusts, .inl (cy 0, 6, .inl g_this_trusts)), (a_this_plan_comers, .inl (cy 0, 200, .inl g_this_plan_comers)), (a_this_left, .inl (cy 0, 300, .inl J20_a5))] H → va_D A [(a_this, .inr (7, [.ref a_this_machine, .ref a_this_plan, .int x_this_day, .ref a_this_trusts, .int x_this_rule, .int x_this_green, .int x_this_absent, .int x_this_asksReds, .ref a_this_cars, .ref a_this_gaps, .ref a_this_known, .ref a_this_left, .ref a_this_leaves, .int J232_c0_13, .int x_this_crossed, .int x_this_went, .int x_this_harmed])), (a_this_plan, .inr (4, [.int x_this_plan_cycle, .int x_this_plan_green, .int x_this_plan_rule, .int x_this_plan_least, .int x_this_plan_away, .int x_this_plan_statements, .int x_this_plan_kinds, .ref a_this_plan_calm, .ref a_this_plan_pace, .ref a_this_plan_trusts, .int x_this_plan_walkers, .ref a_this_plan_kindOf, .ref a_this_plan_comesAt, .ref a_this_plan_comers, .ref a_this_plan_names, .ref a_this_plan_code, .int x_this_plan_size, .ref a_this_plan_spans])), (a_this_plan_kindOf, .inl (cy 0, 12, .inl g_this_plan_kindOf)), (a_this_trusts, .inl (cy 0, 6, .inl g_this_trusts)), (a_this_plan_comers, .inl (cy 0, 200, .inl g_this_plan_comers)), (a_this_left, .inl (cy 0, 300, .inl J20_a5))] → va_S A s.heap H locs → lv_has ls 9 [(0, .ref a_this), (1, .int J20_l1), (2, .int J232_l2), (3, .int J20_l3), (4, .int J20_l4), (5, .int J20_l5), (6, .int J232_l6), (7, .int J232_l7), (8, .int J232_l8)] → W p l e { frames := 1, cells := 0, slots := 0, locals := 22 } s m args below meth c H locs 0 0 Q (F0 m 232 ls [.int J232_s0]) := by
        intro J232_l2 J232_l6 J232_l7 J232_l8 J232_c0_13 J232_s0 H locs ls hJ232_l2 hJ232_l3 hJ232_l4 hJ232_l5 hJ232_l8 hJ232_s0 hP hD hS hl
        refine lv_istore_n (lv' := [(3, .int J232_s0), (0, .ref a_this), (1, .int J20_l1), (2, .int J232_l2), (4, .int J20_l4), (5, .int J20_l5), (6, .int J232_l6), (7, .int J232_l7), (8, .int J232_l8)]) hx hb dX7_shine_232 rfl hl (by decide) rfl (fun ls hl => ?_)
        refine lv_iconst (v := 0) hx hb dX7_shine_233 (by decide) ?_
        refine lv_istore_n (lv' := [(2, .int 0), (3, .int J232_s0), (0, .ref a_this), (1, .int J20_l1), (4, .int J20_l4), (5, .int J20_l5), (6, .int J232_l6), (7, .int J232_l7), (8, .int J232_l8)]) hx hb dX7_shine_234 rfl hl (by decide) rfl (fun ls hl => ?_)
        exact jn235 J232_s0 J232_l6 J232_l7 J232_l8 J232_c0_13 H locs ls (ib_w 0 1 hJ232_s0 (by decide)) (ib_w (-1) 300 hJ232_l4 (by decide)) (ib_w 0 299 hJ232_l5 (by decide)) (ib_w 0 0 hJ232_l8 (by decide)) hP hD hS (lv_sub hl [2, 3, 0, 1, 4, 5, 6, 7, 8] rfl)
      have jn206 : ∀ (J206_l2 : Int32) (J206_l3 : Int32) (J206_l6 : Int32) (J206_l7 : Int32) (J206_l8 : Int32) (J206_c0_13 : Int32) (J206_a5 : Nat → Int32) (J206_s0 : Int32) (H : Heap) (locs : List Loc) (ls : Array Slot), ib J206_l2 0 1 → ib J206_l3 0 1 → ib J20_l4 (-1) 300 → ib J20_l5 0 299 → ib J206_l8 0 119 → ib x_this_rule 1 1 → ib J206_s0 (-1) 300 → va_P (dC, dI) vwCl [(a_this, .inr (7, [.ref a_this_machine, .ref a_this_plan, .int x_this_day, .ref a_this_trusts, .int x_this_rule, .int x_this_green, .int x_this_absent, .int x_this_asksReds, .ref a_this_cars, .ref a_this_gaps, .ref a_this_known, .ref a_this_left, .ref a_this_leaves, .int J206_c0_13, .int x_this_crossed, .int x_this_went, .int x_this_harmed])), (a_this_plan, .inr (4, [.int x_this_plan_cycle, .int x_this_plan_green, .int x_this_plan_rule, .int x_this_plan_least, .int x_this_plan_away, .int x_this_plan_statements, .int x_this_plan_kinds, .ref a_this_plan_calm, .ref a_this_plan_pace, .ref a_this_plan_trusts, .int x_this_plan_walkers, .ref a_this_plan_kindOf, .ref a_this_plan_comesAt, .ref a_this_plan_comers, .ref a_this_plan_names, .ref a_this_plan_code, .int x_this_plan_size, .ref a_this_plan_spans])), (a_this_plan_kindOf, .inl (cy 0, 12, .inl g_this_plan_kindOf)), (a_this_trusts, .inl (cy 0, 6, .inl g_this_trusts)), (a_this_plan_comers, .inl (cy 0, 200, .inl g_this_plan_comers)), (a_this_left, .inl (cy 0, 300, .inl J206_a5))] H → va_D A [(a_this, .inr (7, [.ref a_this_machine, .ref a_this_plan, .int x_this_day, .ref a_this_trusts, .int x_this_rule, .int x_this_green, .int x_this_absent, .int x_this_asksReds, .ref a_this_cars, .ref a_this_gaps, .ref a_this_known, .ref a_this_left, .ref a_this_leaves, .int J206_c0_13, .int x_this_crossed, .int x_this_went, .int x_this_harmed])), (a_this_plan, .inr (4, [.int x_this_plan_cycle, .int x_this_plan_green, .int x_this_plan_rule, .int x_this_plan_least, .int x_this_plan_away, .int x_this_plan_statements, .int x_this_plan_kinds, .ref a_this_plan_calm, .ref a_this_plan_pace, .ref a_this_plan_trusts, .int x_this_plan_walkers, .ref a_this_plan_kindOf, .ref a_this_plan_comesAt, .ref a_this_plan_comers, .ref a_this_plan_names, .ref a_this_plan_code, .int x_this_plan_size, .ref a_this_plan_spans])), (a_this_plan_kindOf, .inl (cy 0, 12, .inl g_this_plan_kindOf)), (a_this_trusts, .inl (cy 0, 6, .inl g_this_trusts)), (a_this_plan_comers, .inl (cy 0, 200, .inl g_this_plan_comers)), (a_this_left, .inl (cy 0, 300, .inl J206_a5))] → va_S A s.heap H locs → lv_has ls 9 [(0, .ref a_this), (1, .int J20_l1), (2, .int J206_l2), (3, .int J206_l3), (4, .int J20_l4), (5, .int J20_l5), (6, .int J206_l6), (7, .int J206_l7), (8, .int J206_l8)] → W p l e { frames := 1, cells := 0, slots := 0, locals := 22 } s m args below meth c H locs 0 0 Q (F0 m 206 ls [.int J206_s0]) := by
        intro J206_l2 J206_l3 J206_l6 J206_l7 J206_l8 J206_c0_13 J206_a5 J206_s0 H locs ls hJ206_l2 hJ206_l3 hJ206_l4 hJ206_l5 hJ206_l8 hJ206_c0_4 hJ206_s0 hP hD hS hl
        refine lv_istore (lv' := [(4, .int J206_s0), (0, .ref a_this), (1, .int J20_l1), (2, .int J206_l2), (3, .int J206_l3), (5, .int J20_l5), (6, .int J206_l6), (7, .int J206_l7), (8, .int J206_l8)]) hx hb dX7_shine_206 hl (by decide) rfl (fun ls hl => ?_)
        refine lv_goto (tgt := 261) hx hb dX7_shine_208 (by decide) ?_
        exact jn261 J206_l2 J206_l3 J206_s0 J206_l6 J206_l7 J206_l8 J206_c0_13 J206_a5 H locs ls (ib_w 0 1 hJ206_l2 (by decide)) (ib_w 0 1 hJ206_l3 (by decide)) (ib_w (-1) 300 hJ206_s0 (by decide)) (ib_w 0 299 hJ206_l5 (by decide)) (ib_w 0 300 hJ206_l8 (by decide)) hP hD hS (lv_sub hl [1, 2, 3, 4, 0, 5, 6, 7, 8] rfl)
      have jn188 : ∀ (J188_l2 : Int32) (J188_l3 : Int32) (J188_l6 : Int32) (J188_l7 : Int32) (J188_l8 : Int32) (J188_s0 : Int32) (J188_c0_13 : Int32) (H : Heap) (locs : List Loc) (ls : Array Slot), ib J188_l2 0 1 → ib J188_l3 0 1 → ib J20_l4 (-1) 300 → ib J20_l5 0 299 → ib J188_l8 0 119 → ib x_this_rule 1 1 → va_P (dC, dI) vwCl [(a_this, .inr (7, [.ref a_this_machine, .ref a_this_plan, .int x_this_day, .ref a_this_trusts, .int x_this_rule, .int x_this_green, .int x_this_absent, .int x_this_asksReds, .ref a_this_cars, .ref a_this_gaps, .ref a_this_known, .ref a_this_left, .ref a_this_leaves, .int J188_c0_13, .int x_this_crossed, .int x_this_went, .int x_this_harmed])), (a_this_plan, .inr (4, [.int x_this_plan_cycle, .int x_this_plan_green, .int x_this_plan_rule, .int x_this_plan_least, .int x_this_plan_away, .int x_this_plan_statements, .int x_this_plan_kinds, .ref a_this_plan_calm, .ref a_this_plan_pace, .ref a_this_plan_trusts, .int x_this_plan_walkers, .ref a_this_plan_kindOf, .ref a_this_plan_comesAt, .ref a_this_plan_comers, .ref a_this_plan_names, .ref a_this_plan_code, .int x_this_plan_size, .ref a_this_plan_spans])), (a_this_plan_kindOf, .inl (cy 0, 12, .inl g_this_plan_kindOf)), (a_this_trusts, .inl (cy 0, 6, .inl g_this_trusts)), (a_this_plan_comers, .inl (cy 0, 200, .inl g_this_plan_comers)), (a_this_left, .inl (cy 0, 300, .inl J20_a5))] H → va_D A [(a_this, .inr (7, [.ref a_this_machine, .ref a_this_plan, .int x_this_day, .ref a_this_trusts, .int x_this_rule, .int x_this_green, .int x_this_absent, .int x_this_asksReds, .ref a_this_cars, .ref a_this_gaps, .ref a_this_known, .ref a_this_left, .ref a_this_leaves, .int J188_c0_13, .int x_this_crossed, .int x_this_went, .int x_this_harmed])), (a_this_plan, .inr (4, [.int x_this_plan_cycle, .int x_this_plan_green, .int x_this_plan_rule, .int x_this_plan_least, .int x_this_plan_away, .int x_this_plan_statements, .int x_this_plan_kinds, .ref a_this_plan_calm, .ref a_this_plan_pace, .ref a_this_plan_trusts, .int x_this_plan_walkers, .ref a_this_plan_kindOf, .ref a_this_plan_comesAt, .ref a_this_plan_comers, .ref a_this_plan_names, .ref a_this_plan_code, .int x_this_plan_size, .ref a_this_plan_spans])), (a_this_plan_kindOf, .inl (cy 0, 12, .inl g_this_plan_kindOf)), (a_this_trusts, .inl (cy 0, 6, .inl g_this_trusts)), (a_this_plan_comers, .inl (cy 0, 200, .inl g_this_plan_comers)), (a_this_left, .inl (cy 0, 300, .inl J20_a5))] → va_S A s.heap H locs → lv_has ls 9 [(0, .ref a_this), (1, .int J20_l1), (2, .int J188_l2), (3, .int J188_l3), (4, .int J20_l4), (5, .int J20_l5), (6, .int J188_l6), (7, .int J188_l7), (8, .int J188_l8)] → W p l e { frames := 1, cells := 0, slots := 0, locals := 22 } s m args below meth c H locs 0 0 Q (F0 m 188 ls [.int J188_s0, .int J20_l5, .ref a_this_left]) := by
        intro J188_l2 J188_l3 J188_l6 J188_l7 J188_l8 J188_s0 J188_c0_13 H locs ls hJ188_l2 hJ188_l3 hJ188_l4 hJ188_l5 hJ188_l8 hJ188_c0_4 hP hD hS hl
        refine va_iast hx hb C0.2.2.2.2.2.1 hP hD hS 5 0 rfl rfl (ib_in 300 hJ188_l5 (by decide)) dX7_shine_188 (fun H locs hP hD hS => ?_)
        have hP : va_P (dC, dI) vwCl [(a_this, .inr (7, [.ref a_this_machine, .ref a_this_plan, .int x_this_day, .ref a_this_trusts, .int x_this_rule, .int x_this_green, .int x_this_absent, .int x_this_asksReds, .ref a_this_cars, .ref a_this_gaps, .ref a_this_known, .ref a_this_left, .ref a_this_leaves, .int J188_c0_13, .int x_this_crossed, .int x_this_went, .int x_this_harmed])), (a_this_plan, .inr (4, [.int x_this_plan_cycle, .int x_this_plan_green, .int x_this_plan_rule, .int x_this_plan_least, .int x_this_plan_away, .int x_this_plan_statements, .int x_this_plan_kinds, .ref a_this_plan_calm, .ref a_this_plan_pace, .ref a_this_plan_trusts, .int x_this_plan_walkers, .ref a_this_plan_kindOf, .ref a_this_plan_comesAt, .ref a_this_plan_comers, .ref a_this_plan_names, .ref a_this_plan_code, .int x_this_plan_size, .ref a_this_plan_spans])), (a_this_plan_kindOf, .inl (cy 0, 12, .inl g_this_plan_kindOf)), (a_this_trusts, .inl (cy 0, 6, .inl g_this_trusts)), (a_this_plan_comers, .inl (cy 0, 200, .inl g_this_plan_comers)), (a_this_left, .inl (cy 0, 300, .inl (upd J20_a5 (Int32.toNatClampNeg J20_l5) J188_s0)))] H := hP
        have hD : va_D A [(a_this, .inr (7, [.ref a_this_machine, .ref a_this_plan, .int x_this_day, .ref a_this_trusts, .int x_this_rule, .int x_this_green, .int x_this_absent, .int x_this_asksReds, .ref a_this_cars, .ref a_this_gaps, .ref a_this_known, .ref a_this_left, .ref a_this_leaves, .int J188_c0_13, .int x_this_crossed, .int x_this_went, .int x_this_harmed])), (a_this_plan, .inr (4, [.int x_this_plan_cycle, .int x_this_plan_green, .int x_this_plan_rule, .int x_this_plan_least, .int x_this_plan_away, .int x_this_plan_statements, .int x_this_plan_kinds, .ref a_this_plan_calm, .ref a_this_plan_pace, .ref a_this_plan_trusts, .int x_this_plan_walkers, .ref a_this_plan_kindOf, .ref a_this_plan_comesAt, .ref a_this_plan_comers, .ref a_this_plan_names, .ref a_this_plan_code, .int x_this_plan_size, .ref a_this_plan_spans])), (a_this_plan_kindOf, .inl (cy 0, 12, .inl g_this_plan_kindOf)), (a_this_trusts, .inl (cy 0, 6, .inl g_this_trusts)), (a_this_plan_comers, .inl (cy 0, 200, .inl g_this_plan_comers)), (a_this_left, .inl (cy 0, 300, .inl (upd J20_a5 (Int32.toNatClampNeg J20_l5) J188_s0)))] := hD
        generalize upd J20_a5 (Int32.toNatClampNeg J20_l5) J188_s0 = f20371 at hP hD
        refine lv_aload_n hx hb dX7_shine_189 rfl (lv_at hl 0 rfl) ?_
        refine k_get C0 fg_X7_41 hP 0 rfl rfl dX7_shine_190 ?_
        refine lv_iload hx hb dX7_shine_193 (lv_at hl 5 rfl) ?_
        refine va_iald hx hb C0.2.2.2.2.2.1 hP 5 0 rfl rfl (ib_in 300 hJ188_l5 (by decide)) dX7_shine_195 ?_
        refine lv_topi (fun z20372 ez20372 => ?_)
        refine lv_if_le (tgt := 204) hx hb dX7_shine_196 (by decide) (fun c20373 => ?_) (fun c20373 => ?_)
        · have h20374 := ib_le (ib_any z20372) (ib_c 0 0 0 (by decide)) c20373
          have h20375 : ib z20372 (-2147483648) 0 := ib_w (-2147483648) 0 h20374.1 (by decide)
          refine lv_iload hx hb dX7_shine_204 (lv_at hl 4 rfl) ?_
          exact jn206 J188_l2 J188_l3 J188_l6 J188_l7 J188_l8 J188_c0_13 f20371 J20_l4 H locs ls (ib_w 0 1 hJ188_l2 (by decide)) (ib_w 0 1 hJ188_l3 (by decide)) (ib_w (-1) 300 hJ188_l4 (by decide)) (ib_w 0 299 hJ188_l5 (by decide)) (ib_w 0 119 hJ188_l8 (by decide)) (ib_w 1 1 hJ188_c0_4 (by decide)) (ib_w (-1) 300 hJ188_l4 (by decide)) hP hD hS (lv_sub hl [0, 1, 2, 3, 4, 5, 6, 7, 8] rfl)
        · have h20376 := ib_nle (ib_any z20372) (ib_c 0 0 0 (by decide)) c20373
          have h20377 : ib z20372 1 2147483647 := ib_w 1 2147483647 h20376.1 (by decide)
          refine lv_iload hx hb dX7_shine_199 (lv_at hl 5 rfl) ?_
          refine lv_goto (tgt := 206) hx hb dX7_shine_201 (by decide) ?_
          exact jn206 J188_l2 J188_l3 J188_l6 J188_l7 J188_l8 J188_c0_13 f20371 J20_l5 H locs ls (ib_w 0 1 hJ188_l2 (by decide)) (ib_w 0 1 hJ188_l3 (by decide)) (ib_w (-1) 300 hJ188_l4 (by decide)) (ib_w 0 299 hJ188_l5 (by decide)) (ib_w 0 119 hJ188_l8 (by decide)) (ib_w 1 1 hJ188_c0_4 (by decide)) (ib_w (-1) 300 hJ188_l5 (by decide)) hP hD hS (lv_sub hl [0, 1, 2, 3, 4, 5, 6, 7, 8] rfl)
      have jn162 : ∀ (J162_l2 : Int32) (J162_l3 : Int32) (J162_l6 : Int32) (J162_l7 : Int32) (J162_l8 : Int32) (J162_c0_13 : Int32) (J162_s0 : Int32) (H : Heap) (locs : List Loc) (ls : Array Slot), ib J162_l2 0 1 → ib J162_l3 0 1 → ib J20_l4 (-1) 300 → ib J20_l5 0 299 → ib J162_l8 0 119 → ib x_this_rule 1 1 → ib J162_s0 0 1 → va_P (dC, dI) vwCl [(a_this, .inr (7, [.ref a_this_machine, .ref a_this_plan, .int x_this_day, .ref a_this_trusts, .int x_this_rule, .int x_this_green, .int x_this_absent, .int x_this_asksReds, .ref a_this_cars, .ref a_this_gaps, .ref a_this_known, .ref a_this_left, .ref a_this_leaves, .int J162_c0_13, .int x_this_crossed, .int x_this_went, .int x_this_harmed])), (a_this_plan, .inr (4, [.int x_this_plan_cycle, .int x_this_plan_green, .int x_this_plan_rule, .int x_this_plan_least, .int x_this_plan_away, .int x_this_plan_statements, .int x_this_plan_kinds, .ref a_this_plan_calm, .ref a_this_plan_pace, .ref a_this_plan_trusts, .int x_this_plan_walkers, .ref a_this_plan_kindOf, .ref a_this_plan_comesAt, .ref a_this_plan_comers, .ref a_this_plan_names, .ref a_this_plan_code, .int x_this_plan_size, .ref a_this_plan_spans])), (a_this_plan_kindOf, .inl (cy 0, 12, .inl g_this_plan_kindOf)), (a_this_trusts, .inl (cy 0, 6, .inl g_this_trusts)), (a_this_plan_comers, .inl (cy 0, 200, .inl g_this_plan_comers)), (a_this_left, .inl (cy 0, 300, .inl J20_a5))] H → va_D A [(a_this, .inr (7, [.ref a_this_machine, .ref a_this_plan, .int x_this_day, .ref a_this_trusts, .int x_this_rule, .int x_this_green, .int x_this_absent, .int x_this_asksReds, .ref a_this_cars, .ref a_this_gaps, .ref a_this_known, .ref a_this_left, .ref a_this_leaves, .int J162_c0_13, .int x_this_crossed, .int x_this_went, .int x_this_harmed])), (a_this_plan, .inr (4, [.int x_this_plan_cycle, .int x_this_plan_green, .int x_this_plan_rule, .int x_this_plan_least, .int x_this_plan_away, .int x_this_plan_statements, .int x_this_plan_kinds, .ref a_this_plan_calm, .ref a_this_plan_pace, .ref a_this_plan_trusts, .int x_this_plan_walkers, .ref a_this_plan_kindOf, .ref a_this_plan_comesAt, .ref a_this_plan_comers, .ref a_this_plan_names, .ref a_this_plan_code, .int x_this_plan_size, .ref a_this_plan_spans])), (a_this_plan_kindOf, .inl (cy 0, 12, .inl g_this_plan_kindOf)), (a_this_trusts, .inl (cy 0, 6, .inl g_this_trusts)), (a_this_plan_comers, .inl (cy 0, 200, .inl g_this_plan_comers)), (a_this_left, .inl (cy 0, 300, .inl J20_a5))] → va_S A s.heap H locs → lv_has ls 9 [(0, .ref a_this), (1, .int J20_l1), (2, .int J162_l2), (3, .int J162_l3), (4, .int J20_l4), (5, .int J20_l5), (6, .int J162_l6), (7, .int J162_l7), (8, .int J162_l8)] → W p l e { frames := 1, cells := 0, slots := 0, locals := 22 } s m args below meth c H locs 0 0 Q (F0 m 162 ls [.int J162_s0]) := by
        intro J162_l2 J162_l3 J162_l6 J162_l7 J162_l8 J162_c0_13 J162_s0 H locs ls hJ162_l2 hJ162_l3 hJ162_l4 hJ162_l5 hJ162_l8 hJ162_c0_4 hJ162_s0 hP hD hS hl
        refine lv_istore_n (lv' := [(2, .int J162_s0), (0, .ref a_this), (1, .int J20_l1), (3, .int J162_l3), (4, .int J20_l4), (5, .int J20_l5), (6, .int J162_l6), (7, .int J162_l7), (8, .int J162_l8)]) hx hb dX7_shine_162 rfl hl (by decide) rfl (fun ls hl => ?_)
        refine lv_aload_n hx hb dX7_shine_163 rfl (lv_at hl 1 rfl) ?_
        refine k_get C0 fg_X7_41 hP 0 rfl rfl dX7_shine_164 ?_
        refine lv_iload hx hb dX7_shine_167 (lv_at hl 5 rfl) ?_
        refine lv_iload_n hx hb dX7_shine_169 rfl (lv_at hl 3 rfl) ?_
        refine lv_if_eq (tgt := 180) hx hb dX7_shine_170 (by decide) (fun c20378 => ?_) (fun c20378 => ?_)
        · have h20379 := ib_eq hJ162_l3 (ib_c 0 0 0 (by decide)) c20378
          have h20380 : ib J162_l3 0 0 := ib_w 0 0 h20379.1 (by decide)
          refine lv_iload hx hb dX7_shine_180 (lv_at hl 6 rfl) ?_
          refine lv_iconst (v := 1) hx hb dX7_shine_182 (by decide) ?_
          refine lv_isub hx hb dX7_shine_183 ?_
          refine lv_topi (fun z20381 ez20381 => ?_)
          refine lv_iconst (v := 0) hx hb dX7_shine_184 (by decide) ?_
          refine va_mmax hx hb (by rw [C0.2.2.1]; exact hl.1.symm) C0.2.2.2.1 (C0.2.2.2.2.1 _ wd875) (C0.2.2.2.2.1 _ wd876) (C0.2.2.2.2.1 _ wd299) (C0.2.2.2.2.1 _ wd877) (Nat.le_of_ble_eq_true rfl) (Nat.le_of_ble_eq_true rfl) (Nat.le_of_ble_eq_true rfl) (Nat.le_of_ble_eq_true rfl) dX7_shine_185 ?_
          refine lv_topi (fun z20382 ez20382 => ?_)
          have h20383 : ib z20382 0 2147483647 := by rw [ez20382]; exact ib_w 0 2147483647 (ib_max (ib_any z20381) (ib_c 0 0 0 (by decide))) (by decide)
          exact jn188 J162_s0 J162_l3 J162_l6 J162_l7 J162_l8 z20382 J162_c0_13 H locs ls (ib_w 0 1 hJ162_s0 (by decide)) (ib_w 0 1 h20380 (by decide)) (ib_w (-1) 300 hJ162_l4 (by decide)) (ib_w 0 299 hJ162_l5 (by decide)) (ib_w 0 119 hJ162_l8 (by decide)) (ib_w 1 1 hJ162_c0_4 (by decide)) hP hD hS (lv_sub hl [1, 2, 0, 3, 4, 5, 6, 7, 8] rfl)
        · have h20384 : ib J162_l3 1 1 := ib_w 1 1 (ib_ne_lo 0 hJ162_l3 (by decide) c20378) (by decide)
          refine lv_aload_n hx hb dX7_shine_173 rfl (lv_at hl 1 rfl) ?_
          refine k_get C0 fg_X7_22 hP 0 rfl rfl dX7_shine_174 ?_
          refine lv_goto (tgt := 188) hx hb dX7_shine_177 (by decide) ?_
          exact jn188 J162_s0 J162_l3 J162_l6 J162_l7 J162_l8 x_this_green J162_c0_13 H locs ls (ib_w 0 1 hJ162_s0 (by decide)) (ib_w 0 1 h20384 (by decide)) (ib_w (-1) 300 hJ162_l4 (by decide)) (ib_w 0 299 hJ162_l5 (by decide)) (ib_w 0 119 hJ162_l8 (by decide)) (ib_w 1 1 hJ162_c0_4 (by decide)) hP hD hS (lv_sub hl [1, 2, 0, 3, 4, 5, 6, 7, 8] rfl)
      have jn148 : ∀ (J148_l2 : Int32) (J148_l6 : Int32) (J148_l7 : Int32) (J148_l8 : Int32) (J148_c0_13 : Int32) (J148_s0 : Int32) (H : Heap) (locs : List Loc) (ls : Array Slot), ib J148_l2 0 1 → ib J20_l3 0 1 → ib J20_l4 (-1) 300 → ib J20_l5 0 299 → ib J148_l8 0 119 → ib x_this_rule 1 1 → ib J148_s0 0 1 → va_P (dC, dI) vwCl [(a_this, .inr (7, [.ref a_this_machine, .ref a_this_plan, .int x_this_day, .ref a_this_trusts, .int x_this_rule, .int x_this_green, .int x_this_absent, .int x_this_asksReds, .ref a_this_cars, .ref a_this_gaps, .ref a_this_known, .ref a_this_left, .ref a_this_leaves, .int J148_c0_13, .int x_this_crossed, .int x_this_went, .int x_this_harmed])), (a_this_plan, .inr (4, [.int x_this_plan_cycle, .int x_this_plan_green, .int x_this_plan_rule, .int x_this_plan_least, .int x_this_plan_away, .int x_this_plan_statements, .int x_this_plan_kinds, .ref a_this_plan_calm, .ref a_this_plan_pace, .ref a_this_plan_trusts, .int x_this_plan_walkers, .ref a_this_plan_kindOf, .ref a_this_plan_comesAt, .ref a_this_plan_comers, .ref a_this_plan_names, .ref a_this_plan_code, .int x_this_plan_size, .ref a_this_plan_spans])), (a_this_plan_kindOf, .inl (cy 0, 12, .inl g_this_plan_kindOf)), (a_this_trusts, .inl (cy 0, 6, .inl g_this_trusts)), (a_this_plan_comers, .inl (cy 0, 200, .inl g_this_plan_comers)), (a_this_left, .inl (cy 0, 300, .inl J20_a5))] H → va_D A [(a_this, .inr (7, [.ref a_this_machine, .ref a_this_plan, .int x_this_day, .ref a_this_trusts, .int x_this_rule, .int x_this_green, .int x_this_absent, .int x_this_asksReds, .ref a_this_cars, .ref a_this_gaps, .ref a_this_known, .ref a_this_left, .ref a_this_leaves, .int J148_c0_13, .int x_this_crossed, .int x_this_went, .int x_this_harmed])), (a_this_plan, .inr (4, [.int x_this_plan_cycle, .int x_this_plan_green, .int x_this_plan_rule, .int x_this_plan_least, .int x_this_plan_away, .int x_this_plan_statements, .int x_this_plan_kinds, .ref a_this_plan_calm, .ref a_this_plan_pace, .ref a_this_plan_trusts, .int x_this_plan_walkers, .ref a_this_plan_kindOf, .ref a_this_plan_comesAt, .ref a_this_plan_comers, .ref a_this_plan_names, .ref a_this_plan_code, .int x_this_plan_size, .ref a_this_plan_spans])), (a_this_plan_kindOf, .inl (cy 0, 12, .inl g_this_plan_kindOf)), (a_this_trusts, .inl (cy 0, 6, .inl g_this_trusts)), (a_this_plan_comers, .inl (cy 0, 200, .inl g_this_plan_comers)), (a_this_left, .inl (cy 0, 300, .inl J20_a5))] → va_S A s.heap H locs → lv_has ls 9 [(0, .ref a_this), (1, .int J20_l1), (2, .int J148_l2), (3, .int J20_l3), (4, .int J20_l4), (5, .int J20_l5), (6, .int J148_l6), (7, .int J148_l7), (8, .int J148_l8)] → W p l e { frames := 1, cells := 0, slots := 0, locals := 22 } s m args below meth c H locs 0 0 Q (F0 m 148 ls [.int J148_s0]) := by
        intro J148_l2 J148_l6 J148_l7 J148_l8 J148_c0_13 J148_s0 H locs ls hJ148_l2 hJ148_l3 hJ148_l4 hJ148_l5 hJ148_l8 hJ148_c0_4 hJ148_s0 hP hD hS hl
        refine lv_istore_n (lv' := [(3, .int J148_s0), (0, .ref a_this), (1, .int J20_l1), (2, .int J148_l2), (4, .int J20_l4), (5, .int J20_l5), (6, .int J148_l6), (7, .int J148_l7), (8, .int J148_l8)]) hx hb dX7_shine_148 rfl hl (by decide) rfl (fun ls hl => ?_)
        refine lv_iload_n hx hb dX7_shine_149 rfl (lv_at hl 3 rfl) ?_
        refine lv_if_eq (tgt := 161) hx hb dX7_shine_150 (by decide) (fun c20385 => ?_) (fun c20385 => ?_)
        · have h20386 := ib_eq hJ148_l2 (ib_c 0 0 0 (by decide)) c20385
          have h20387 : ib J148_l2 0 0 := ib_w 0 0 h20386.1 (by decide)
          refine lv_iconst (v := 0) hx hb dX7_shine_161 (by decide) ?_
          exact jn162 J148_l2 J148_s0 J148_l6 J148_l7 J148_l8 J148_c0_13 0 H locs ls (ib_w 0 1 h20387 (by decide)) (ib_w 0 1 hJ148_s0 (by decide)) (ib_w (-1) 300 hJ148_l4 (by decide)) (ib_w 0 299 hJ148_l5 (by decide)) (ib_w 0 119 hJ148_l8 (by decide)) (ib_w 1 1 hJ148_c0_4 (by decide)) (ib_w 0 1 (ib_c 0 0 0 (by decide)) (by decide)) hP hD hS (lv_sub hl [1, 2, 3, 0, 4, 5, 6, 7, 8] rfl)
        · have h20388 : ib J148_l2 1 1 := ib_w 1 1 (ib_ne_lo 0 hJ148_l2 (by decide) c20385) (by decide)
          refine lv_iload_n hx hb dX7_shine_153 rfl (lv_at hl 0 rfl) ?_
          refine lv_if_ne (tgt := 161) hx hb dX7_shine_154 (by decide) (fun c20389 => ?_) (fun c20389 => ?_)
          · have h20390 : ib J148_s0 1 1 := ib_w 1 1 (ib_ne_lo 0 hJ148_s0 (by decide) c20389) (by decide)
            refine lv_iconst (v := 0) hx hb dX7_shine_161 (by decide) ?_
            exact jn162 J148_l2 J148_s0 J148_l6 J148_l7 J148_l8 J148_c0_13 0 H locs ls (ib_w 0 1 h20388 (by decide)) (ib_w 0 1 h20390 (by decide)) (ib_w (-1) 300 hJ148_l4 (by decide)) (ib_w 0 299 hJ148_l5 (by decide)) (ib_w 0 119 hJ148_l8 (by decide)) (ib_w 1 1 hJ148_c0_4 (by decide)) (ib_w 0 1 (ib_c 0 0 0 (by decide)) (by decide)) hP hD hS (lv_sub hl [1, 2, 3, 0, 4, 5, 6, 7, 8] rfl)
          · have h20391 := ib_eq hJ148_s0 (ib_c 0 0 0 (by decide)) c20389
            have h20392 : ib J148_s0 0 0 := ib_w 0 0 h20391.1 (by decide)
            refine lv_iconst (v := 1) hx hb dX7_shine_157 (by decide) ?_
            refine lv_goto (tgt := 162) hx hb dX7_shine_158 (by decide) ?_
            exact jn162 J148_l2 J148_s0 J148_l6 J148_l7 J148_l8 J148_c0_13 1 H locs ls (ib_w 0 1 h20388 (by decide)) (ib_w 0 1 h20392 (by decide)) (ib_w (-1) 300 hJ148_l4 (by decide)) (ib_w 0 299 hJ148_l5 (by decide)) (ib_w 0 119 hJ148_l8 (by decide)) (ib_w 1 1 hJ148_c0_4 (by decide)) (ib_w 0 1 (ib_c 1 1 1 (by decide)) (by decide)) hP hD hS (lv_sub hl [1, 2, 3, 0, 4, 5, 6, 7, 8] rfl)
      have jn95 : ∀ (J95_l6 : Int32) (J95_l7 : Int32) (J95_c0_13 : Int32) (J95_s0 : Int32) (H : Heap) (locs : List Loc) (ls : Array Slot), ib J20_l2 0 1 → ib J20_l3 0 1 → ib J20_l4 (-1) 300 → ib J20_l5 0 299 → ib J95_s0 0 1 → va_P (dC, dI) vwCl [(a_this, .inr (7, [.ref a_this_machine, .ref a_this_plan, .int x_this_day, .ref a_this_trusts, .int x_this_rule, .int x_this_green, .int x_this_absent, .int x_this_asksReds, .ref a_this_cars, .ref a_this_gaps, .ref a_this_known, .ref a_this_left, .ref a_this_leaves, .int J95_c0_13, .int x_this_crossed, .int x_this_went, .int x_this_harmed])), (a_this_plan, .inr (4, [.int x_this_plan_cycle, .int x_this_plan_green, .int x_this_plan_rule, .int x_this_plan_least, .int x_this_plan_away, .int x_this_plan_statements, .int x_this_plan_kinds, .ref a_this_plan_calm, .ref a_this_plan_pace, .ref a_this_plan_trusts, .int x_this_plan_walkers, .ref a_this_plan_kindOf, .ref a_this_plan_comesAt, .ref a_this_plan_comers, .ref a_this_plan_names, .ref a_this_plan_code, .int x_this_plan_size, .ref a_this_plan_spans])), (a_this_plan_kindOf, .inl (cy 0, 12, .inl g_this_plan_kindOf)), (a_this_trusts, .inl (cy 0, 6, .inl g_this_trusts)), (a_this_plan_comers, .inl (cy 0, 200, .inl g_this_plan_comers)), (a_this_left, .inl (cy 0, 300, .inl J20_a5))] H → va_D A [(a_this, .inr (7, [.ref a_this_machine, .ref a_this_plan, .int x_this_day, .ref a_this_trusts, .int x_this_rule, .int x_this_green, .int x_this_absent, .int x_this_asksReds, .ref a_this_cars, .ref a_this_gaps, .ref a_this_known, .ref a_this_left, .ref a_this_leaves, .int J95_c0_13, .int x_this_crossed, .int x_this_went, .int x_this_harmed])), (a_this_plan, .inr (4, [.int x_this_plan_cycle, .int x_this_plan_green, .int x_this_plan_rule, .int x_this_plan_least, .int x_this_plan_away, .int x_this_plan_statements, .int x_this_plan_kinds, .ref a_this_plan_calm, .ref a_this_plan_pace, .ref a_this_plan_trusts, .int x_this_plan_walkers, .ref a_this_plan_kindOf, .ref a_this_plan_comesAt, .ref a_this_plan_comers, .ref a_this_plan_names, .ref a_this_plan_code, .int x_this_plan_size, .ref a_this_plan_spans])), (a_this_plan_kindOf, .inl (cy 0, 12, .inl g_this_plan_kindOf)), (a_this_trusts, .inl (cy 0, 6, .inl g_this_trusts)), (a_this_plan_comers, .inl (cy 0, 200, .inl g_this_plan_comers)), (a_this_left, .inl (cy 0, 300, .inl J20_a5))] → va_S A s.heap H locs → lv_has ls 9 [(0, .ref a_this), (1, .int J20_l1), (2, .int J20_l2), (3, .int J20_l3), (4, .int J20_l4), (5, .int J20_l5), (6, .int J95_l6), (7, .int J95_l7)] → W p l e { frames := 1, cells := 0, slots := 0, locals := 22 } s m args below meth c H locs 0 0 Q (F0 m 95 ls [.int J95_s0]) := by
        intro J95_l6 J95_l7 J95_c0_13 J95_s0 H locs ls hJ95_l2 hJ95_l3 hJ95_l4 hJ95_l5 hJ95_s0 hP hD hS hl
        refine lv_istore_n (lv' := [(2, .int J95_s0), (0, .ref a_this), (1, .int J20_l1), (3, .int J20_l3), (4, .int J20_l4), (5, .int J20_l5), (6, .int J95_l6), (7, .int J95_l7)]) hx hb dX7_shine_95 rfl hl (by decide) rfl (fun ls hl => ?_)
        refine lv_iload hx hb dX7_shine_96 (lv_at hl 5 rfl) ?_
        refine lv_aload_n hx hb dX7_shine_98 rfl (lv_at hl 1 rfl) ?_
        refine k_get C0 fg_X7_63 hP 0 rfl rfl dX7_shine_99 ?_
        refine k_get C0 fg_X7_73 hP 1 rfl rfl dX7_shine_102 ?_
        refine lv_irem hx hb dX7_shine_105 (ib_nz hx_this_plan_cycle (by decide)) ?_
        refine lv_topi (fun z20393 ez20393 => ?_)
        have h20394 : ib z20393 0 119 := by rw [ez20393]; exact ib_w 0 119 (ib_rem hJ95_l5 hx_this_plan_cycle (by decide)) (by decide)
        refine lv_istore (lv' := [(8, .int z20393), (2, .int J95_s0), (0, .ref a_this), (1, .int J20_l1), (3, .int J20_l3), (4, .int J20_l4), (5, .int J20_l5), (6, .int J95_l6), (7, .int J95_l7)]) hx hb dX7_shine_106 hl (by decide) rfl (fun ls hl => ?_)
        refine lv_aload_n hx hb dX7_shine_108 rfl (lv_at hl 2 rfl) ?_
        refine k_get C0 fg_X7_19 hP 0 rfl rfl dX7_shine_109 ?_
        refine lv_iconst (v := 1) hx hb dX7_shine_112 (by decide) ?_
        refine lv_icmp_ne (tgt := 211) hx hb dX7_shine_113 (by decide) (fun c20395 => ?_) (fun c20395 => ?_)
        · skip
          refine lv_iload hx hb dX7_shine_211 (lv_at hl 0 rfl) ?_
          refine lv_if_ne (tgt := 235) hx hb dX7_shine_213 (by decide) (fun c20396 => ?_) (fun c20396 => ?_)
          · have h20397 : ib z20393 1 119 := ib_w 1 119 (ib_ne_lo 0 h20394 (by decide) c20396) (by decide)
            refine lv_aload_n hx hb dX7_shine_235 rfl (lv_at hl 2 rfl) ?_
            refine k_get C0 fg_X7_41 hP 0 rfl rfl dX7_shine_236 ?_
            refine lv_iload hx hb dX7_shine_239 (lv_at hl 6 rfl) ?_
            refine lv_iload_n hx hb dX7_shine_241 rfl (lv_at hl 4 rfl) ?_
            refine lv_if_eq (tgt := 259) hx hb dX7_shine_242 (by decide) (fun c20398 => ?_) (fun c20398 => ?_)
            · have h20399 := ib_eq hJ95_l3 (ib_c 0 0 0 (by decide)) c20398
              have h20400 : ib J20_l3 0 0 := ib_w 0 0 h20399.1 (by decide)
              refine lv_iconst (v := 0) hx hb dX7_shine_259 (by decide) ?_
              exact jn260 J95_s0 J95_l6 J95_l7 z20393 J95_c0_13 0 J20_l3 H locs ls (ib_w 0 1 hJ95_s0 (by decide)) (ib_w 0 1 h20400 (by decide)) (ib_w (-1) 300 hJ95_l4 (by decide)) (ib_w 0 299 hJ95_l5 (by decide)) (ib_w 0 119 h20397 (by decide)) (ib_w 0 2147483647 (ib_c 0 0 0 (by decide)) (by decide)) (ib_w 0 1 h20400 (by decide)) hP hD hS (lv_sub hl [2, 3, 1, 4, 5, 6, 7, 8, 0] rfl)
            · have h20401 : ib J20_l3 1 1 := ib_w 1 1 (ib_ne_lo 0 hJ95_l3 (by decide) c20398) (by decide)
              refine lv_aload_n hx hb dX7_shine_245 rfl (lv_at hl 2 rfl) ?_
              refine k_get C0 fg_X7_22 hP 0 rfl rfl dX7_shine_246 ?_
              refine lv_iload hx hb dX7_shine_249 (lv_at hl 0 rfl) ?_
              refine lv_isub hx hb dX7_shine_251 ?_
              refine lv_topi (fun z20402 ez20402 => ?_)
              refine lv_iconst (v := 0) hx hb dX7_shine_252 (by decide) ?_
              refine va_mmax hx hb (by rw [C0.2.2.1]; exact hl.1.symm) C0.2.2.2.1 (C0.2.2.2.2.1 _ wd875) (C0.2.2.2.2.1 _ wd876) (C0.2.2.2.2.1 _ wd299) (C0.2.2.2.2.1 _ wd877) (Nat.le_of_ble_eq_true rfl) (Nat.le_of_ble_eq_true rfl) (Nat.le_of_ble_eq_true rfl) (Nat.le_of_ble_eq_true rfl) dX7_shine_253 ?_
              refine lv_topi (fun z20403 ez20403 => ?_)
              have h20404 : ib z20403 0 2147483647 := by rw [ez20403]; exact ib_w 0 2147483647 (ib_max (ib_any z20402) (ib_c 0 0 0 (by decide))) (by decide)
              refine lv_goto (tgt := 260) hx hb dX7_shine_256 (by decide) ?_
              exact jn260 J95_s0 J95_l6 J95_l7 z20393 J95_c0_13 z20403 J20_l3 H locs ls (ib_w 0 1 hJ95_s0 (by decide)) (ib_w 0 1 h20401 (by decide)) (ib_w (-1) 300 hJ95_l4 (by decide)) (ib_w 0 299 hJ95_l5 (by decide)) (ib_w 0 119 h20397 (by decide)) (ib_w 0 2147483647 h20404 (by decide)) (ib_w 0 1 h20401 (by decide)) hP hD hS (lv_sub hl [2, 3, 1, 4, 5, 6, 7, 8, 0] rfl)
          · have h20405 := ib_eq h20394 (ib_c 0 0 0 (by decide)) c20396
            have h20406 : ib z20393 0 0 := ib_w 0 0 h20405.1 (by decide)
            refine lv_aload_n hx hb dX7_shine_216 rfl (lv_at hl 2 rfl) ?_
            refine k_get C0 fg_X7_19 hP 0 rfl rfl dX7_shine_217 ?_
            refine lv_if_eq (tgt := 227) hx hb dX7_shine_220 (by decide) (fun c20407 => ?_) (fun c20407 => ?_)
            · have h20408 := ib_eq (ib_any x_this_rule) (ib_c 0 0 0 (by decide)) c20407
              have h20409 : ib x_this_rule 0 0 := ib_w 0 0 h20408.1 (by decide)
              refine lv_iconst (v := 1) hx hb dX7_shine_227 (by decide) ?_
              refine lv_goto (tgt := 232) hx hb dX7_shine_228 (by decide) ?_
              exact jn232 J95_s0 J95_l6 J95_l7 z20393 J95_c0_13 1 H locs ls (ib_w 0 1 hJ95_s0 (by decide)) (ib_w 0 1 hJ95_l3 (by decide)) (ib_w (-1) 300 hJ95_l4 (by decide)) (ib_w 0 299 hJ95_l5 (by decide)) (ib_w 0 0 h20406 (by decide)) (ib_w 0 1 (ib_c 1 1 1 (by decide)) (by decide)) hP hD hS (lv_sub hl [2, 3, 1, 4, 5, 6, 7, 8, 0] rfl)
            · skip
              refine lv_iload_n hx hb dX7_shine_223 rfl (lv_at hl 1 rfl) ?_
              refine lv_if_eq (tgt := 231) hx hb dX7_shine_224 (by decide) (fun c20410 => ?_) (fun c20410 => ?_)
              · have h20411 := ib_eq hJ95_s0 (ib_c 0 0 0 (by decide)) c20410
                have h20412 : ib J95_s0 0 0 := ib_w 0 0 h20411.1 (by decide)
                refine lv_iconst (v := 0) hx hb dX7_shine_231 (by decide) ?_
                exact jn232 J95_s0 J95_l6 J95_l7 z20393 J95_c0_13 0 H locs ls (ib_w 0 1 h20412 (by decide)) (ib_w 0 1 hJ95_l3 (by decide)) (ib_w (-1) 300 hJ95_l4 (by decide)) (ib_w 0 299 hJ95_l5 (by decide)) (ib_w 0 0 h20406 (by decide)) (ib_w 0 1 (ib_c 0 0 0 (by decide)) (by decide)) hP hD hS (lv_sub hl [2, 3, 1, 4, 5, 6, 7, 8, 0] rfl)
              · have h20413 : ib J95_s0 1 1 := ib_w 1 1 (ib_ne_lo 0 hJ95_s0 (by decide) c20410) (by decide)
                refine lv_iconst (v := 1) hx hb dX7_shine_227 (by decide) ?_
                refine lv_goto (tgt := 232) hx hb dX7_shine_228 (by decide) ?_
                exact jn232 J95_s0 J95_l6 J95_l7 z20393 J95_c0_13 1 H locs ls (ib_w 0 1 h20413 (by decide)) (ib_w 0 1 hJ95_l3 (by decide)) (ib_w (-1) 300 hJ95_l4 (by decide)) (ib_w 0 299 hJ95_l5 (by decide)) (ib_w 0 0 h20406 (by decide)) (ib_w 0 1 (ib_c 1 1 1 (by decide)) (by decide)) hP hD hS (lv_sub hl [2, 3, 1, 4, 5, 6, 7, 8, 0] rfl)
        · have h20414 := ib_eq (ib_any x_this_rule) (ib_c 1 1 1 (by decide)) c20395
          have h20415 : ib x_this_rule 1 1 := ib_w 1 1 h20414.1 (by decide)
          refine lv_iload hx hb dX7_shine_116 (lv_at hl 7 rfl) ?_
          refine lv_iconst (v := 1) hx hb dX7_shine_118 (by decide) ?_
          refine lv_icmp_gt (tgt := 147) hx hb dX7_shine_119 (by decide) (fun c20416 => ?_) (fun c20416 => ?_)
          · have h20417 := ib_lt (ib_c 1 1 1 (by decide)) (ib_any J95_l6) c20416
            have h20418 : ib J95_l6 2 2147483647 := ib_w 2 2147483647 h20417.2 (by decide)
            refine lv_iconst (v := 0) hx hb dX7_shine_147 (by decide) ?_
            exact jn148 J95_s0 J95_l6 J95_l7 z20393 J95_c0_13 0 H locs ls (ib_w 0 1 hJ95_s0 (by decide)) (ib_w 0 1 hJ95_l3 (by decide)) (ib_w (-1) 300 hJ95_l4 (by decide)) (ib_w 0 299 hJ95_l5 (by decide)) (ib_w 0 119 h20394 (by decide)) (ib_w 1 1 h20415 (by decide)) (ib_w 0 1 (ib_c 0 0 0 (by decide)) (by decide)) hP hD hS (lv_sub hl [2, 3, 1, 4, 5, 6, 7, 8, 0] rfl)
          · have h20419 := ib_nlt (ib_c 1 1 1 (by decide)) (ib_any J95_l6) c20416
            have h20420 : ib J95_l6 (-2147483648) 1 := ib_w (-2147483648) 1 h20419.2 (by decide)
            refine lv_iload_n hx hb dX7_shine_122 rfl (lv_at hl 1 rfl) ?_
            refine lv_if_eq (tgt := 147) hx hb dX7_shine_123 (by decide) (fun c20421 => ?_) (fun c20421 => ?_)
            · have h20422 := ib_eq hJ95_s0 (ib_c 0 0 0 (by decide)) c20421
              have h20423 : ib J95_s0 0 0 := ib_w 0 0 h20422.1 (by decide)
              refine lv_iconst (v := 0) hx hb dX7_shine_147 (by decide) ?_
              exact jn148 J95_s0 J95_l6 J95_l7 z20393 J95_c0_13 0 H locs ls (ib_w 0 1 h20423 (by decide)) (ib_w 0 1 hJ95_l3 (by decide)) (ib_w (-1) 300 hJ95_l4 (by decide)) (ib_w 0 299 hJ95_l5 (by decide)) (ib_w 0 119 h20394 (by decide)) (ib_w 1 1 h20415 (by decide)) (ib_w 0 1 (ib_c 0 0 0 (by decide)) (by decide)) hP hD hS (lv_sub hl [2, 3, 1, 4, 5, 6, 7, 8, 0] rfl)
            · have h20424 : ib J95_s0 1 1 := ib_w 1 1 (ib_ne_lo 0 hJ95_s0 (by decide) c20421) (by decide)
              refine lv_iload hx hb dX7_shine_126 (lv_at hl 6 rfl) ?_
              refine lv_iload hx hb dX7_shine_128 (lv_at hl 5 rfl) ?_
              refine lv_isub hx hb dX7_shine_130 ?_
              refine lv_topi (fun z20425 ez20425 => ?_)
              have h20426 := ib_sub hJ95_l5 hJ95_l4 (by decide)
              rw [← ez20425] at h20426
              have h20427 : ib z20425 (-300) 300 := ib_w (-300) 300 h20426.1 (by decide)
              refine lv_iconst (v := 1) hx hb dX7_shine_131 (by decide) ?_
              refine lv_isub hx hb dX7_shine_132 ?_
              refine lv_topi (fun z20428 ez20428 => ?_)
              have h20429 := ib_sub h20427 (ib_c 1 1 1 (by decide)) (by decide)
              rw [← ez20428] at h20429
              have h20430 : ib z20428 (-301) 299 := ib_w (-301) 299 h20429.1 (by decide)
              refine lv_aload_n hx hb dX7_shine_133 rfl (lv_at hl 2 rfl) ?_
              refine k_get C0 fg_X7_63 hP 0 rfl rfl dX7_shine_134 ?_
              refine k_get C0 fg_X7_131 hP 1 rfl rfl dX7_shine_137 ?_
              refine lv_icmp_lt (tgt := 147) hx hb dX7_shine_140 (by decide) (fun c20431 => ?_) (fun c20431 => ?_)
              · have h20432 := ib_lt h20430 hx_this_plan_least c20431
                have h20433 : ib z20428 (-301) 98 := ib_w (-301) 98 h20432.1 (by decide)
                refine lv_iconst (v := 0) hx hb dX7_shine_147 (by decide) ?_
                exact jn148 J95_s0 J95_l6 J95_l7 z20393 J95_c0_13 0 H locs ls (ib_w 0 1 h20424 (by decide)) (ib_w 0 1 hJ95_l3 (by decide)) (ib_w (-1) 300 hJ95_l4 (by decide)) (ib_w 0 299 hJ95_l5 (by decide)) (ib_w 0 119 h20394 (by decide)) (ib_w 1 1 h20415 (by decide)) (ib_w 0 1 (ib_c 0 0 0 (by decide)) (by decide)) hP hD hS (lv_sub hl [2, 3, 1, 4, 5, 6, 7, 8, 0] rfl)
              · have h20434 := ib_nlt h20430 hx_this_plan_least c20431
                have h20435 : ib z20428 0 299 := ib_w 0 299 h20434.1 (by decide)
                refine lv_iconst (v := 1) hx hb dX7_shine_143 (by decide) ?_
                refine lv_goto (tgt := 148) hx hb dX7_shine_144 (by decide) ?_
                exact jn148 J95_s0 J95_l6 J95_l7 z20393 J95_c0_13 1 H locs ls (ib_w 0 1 h20424 (by decide)) (ib_w 0 1 hJ95_l3 (by decide)) (ib_w (-1) 300 hJ95_l4 (by decide)) (ib_w 0 299 hJ95_l5 (by decide)) (ib_w 0 119 h20394 (by decide)) (ib_w 1 1 h20415 (by decide)) (ib_w 0 1 (ib_c 1 1 1 (by decide)) (by decide)) hP hD hS (lv_sub hl [2, 3, 1, 4, 5, 6, 7, 8, 0] rfl)
      have jn68 : ∀ (J68_l6 : Int32) (J68_s0 : Int32) (H : Heap) (locs : List Loc) (ls : Array Slot), ib J20_l2 0 1 → ib J20_l3 0 1 → ib J20_l4 (-1) 300 → ib J20_l5 0 299 → va_P (dC, dI) vwCl [(a_this, .inr (7, [.ref a_this_machine, .ref a_this_plan, .int x_this_day, .ref a_this_trusts, .int x_this_rule, .int x_this_green, .int x_this_absent, .int x_this_asksReds, .ref a_this_cars, .ref a_this_gaps, .ref a_this_known, .ref a_this_left, .ref a_this_leaves, .int J20_c0_13, .int x_this_crossed, .int x_this_went, .int x_this_harmed])), (a_this_plan, .inr (4, [.int x_this_plan_cycle, .int x_this_plan_green, .int x_this_plan_rule, .int x_this_plan_least, .int x_this_plan_away, .int x_this_plan_statements, .int x_this_plan_kinds, .ref a_this_plan_calm, .ref a_this_plan_pace, .ref a_this_plan_trusts, .int x_this_plan_walkers, .ref a_this_plan_kindOf, .ref a_this_plan_comesAt, .ref a_this_plan_comers, .ref a_this_plan_names, .ref a_this_plan_code, .int x_this_plan_size, .ref a_this_plan_spans])), (a_this_plan_kindOf, .inl (cy 0, 12, .inl g_this_plan_kindOf)), (a_this_trusts, .inl (cy 0, 6, .inl g_this_trusts)), (a_this_plan_comers, .inl (cy 0, 200, .inl g_this_plan_comers)), (a_this_left, .inl (cy 0, 300, .inl J20_a5))] H → va_D A [(a_this, .inr (7, [.ref a_this_machine, .ref a_this_plan, .int x_this_day, .ref a_this_trusts, .int x_this_rule, .int x_this_green, .int x_this_absent, .int x_this_asksReds, .ref a_this_cars, .ref a_this_gaps, .ref a_this_known, .ref a_this_left, .ref a_this_leaves, .int J20_c0_13, .int x_this_crossed, .int x_this_went, .int x_this_harmed])), (a_this_plan, .inr (4, [.int x_this_plan_cycle, .int x_this_plan_green, .int x_this_plan_rule, .int x_this_plan_least, .int x_this_plan_away, .int x_this_plan_statements, .int x_this_plan_kinds, .ref a_this_plan_calm, .ref a_this_plan_pace, .ref a_this_plan_trusts, .int x_this_plan_walkers, .ref a_this_plan_kindOf, .ref a_this_plan_comesAt, .ref a_this_plan_comers, .ref a_this_plan_names, .ref a_this_plan_code, .int x_this_plan_size, .ref a_this_plan_spans])), (a_this_plan_kindOf, .inl (cy 0, 12, .inl g_this_plan_kindOf)), (a_this_trusts, .inl (cy 0, 6, .inl g_this_trusts)), (a_this_plan_comers, .inl (cy 0, 200, .inl g_this_plan_comers)), (a_this_left, .inl (cy 0, 300, .inl J20_a5))] → va_S A s.heap H locs → lv_has ls 9 [(0, .ref a_this), (1, .int J20_l1), (2, .int J20_l2), (3, .int J20_l3), (4, .int J20_l4), (5, .int J20_l5), (6, .int J68_l6)] → W p l e { frames := 1, cells := 0, slots := 0, locals := 22 } s m args below meth c H locs 0 0 Q (F0 m 68 ls [.int J68_s0]) := by
        intro J68_l6 J68_s0 H locs ls hJ68_l2 hJ68_l3 hJ68_l4 hJ68_l5 hP hD hS hl
        refine lv_istore (lv' := [(7, .int J68_s0), (0, .ref a_this), (1, .int J20_l1), (2, .int J20_l2), (3, .int J20_l3), (4, .int J20_l4), (5, .int J20_l5), (6, .int J68_l6)]) hx hb dX7_shine_68 hl (by decide) rfl (fun ls hl => ?_)
        refine lv_aload_n hx hb dX7_shine_70 rfl (lv_at hl 1 rfl) ?_
        refine lv_dup hx hb dX7_shine_71 rfl ?_
        refine k_get C0 fg_X7_47 hP 0 rfl rfl dX7_shine_72 ?_
        refine lv_iload hx hb dX7_shine_75 (lv_at hl 0 rfl) ?_
        refine lv_ior hx hb dX7_shine_77 ?_
        refine lv_topi (fun z20436 ez20436 => ?_)
        refine k_put C0 fp_X7_47 hP hD hS 0 rfl rfl rfl (Nat.le_of_ble_eq_true rfl) dX7_shine_78 (fun H locs hP hD hS => ?_)
        have hP : va_P (dC, dI) vwCl [(a_this, .inr (7, [.ref a_this_machine, .ref a_this_plan, .int x_this_day, .ref a_this_trusts, .int x_this_rule, .int x_this_green, .int x_this_absent, .int x_this_asksReds, .ref a_this_cars, .ref a_this_gaps, .ref a_this_known, .ref a_this_left, .ref a_this_leaves, .int z20436, .int x_this_crossed, .int x_this_went, .int x_this_harmed])), (a_this_plan, .inr (4, [.int x_this_plan_cycle, .int x_this_plan_green, .int x_this_plan_rule, .int x_this_plan_least, .int x_this_plan_away, .int x_this_plan_statements, .int x_this_plan_kinds, .ref a_this_plan_calm, .ref a_this_plan_pace, .ref a_this_plan_trusts, .int x_this_plan_walkers, .ref a_this_plan_kindOf, .ref a_this_plan_comesAt, .ref a_this_plan_comers, .ref a_this_plan_names, .ref a_this_plan_code, .int x_this_plan_size, .ref a_this_plan_spans])), (a_this_plan_kindOf, .inl (cy 0, 12, .inl g_this_plan_kindOf)), (a_this_trusts, .inl (cy 0, 6, .inl g_this_trusts)), (a_this_plan_comers, .inl (cy 0, 200, .inl g_this_plan_comers)), (a_this_left, .inl (cy 0, 300, .inl J20_a5))] H := hP
        have hD : va_D A [(a_this, .inr (7, [.ref a_this_machine, .ref a_this_plan, .int x_this_day, .ref a_this_trusts, .int x_this_rule, .int x_this_green, .int x_this_absent, .int x_this_asksReds, .ref a_this_cars, .ref a_this_gaps, .ref a_this_known, .ref a_this_left, .ref a_this_leaves, .int z20436, .int x_this_crossed, .int x_this_went, .int x_this_harmed])), (a_this_plan, .inr (4, [.int x_this_plan_cycle, .int x_this_plan_green, .int x_this_plan_rule, .int x_this_plan_least, .int x_this_plan_away, .int x_this_plan_statements, .int x_this_plan_kinds, .ref a_this_plan_calm, .ref a_this_plan_pace, .ref a_this_plan_trusts, .int x_this_plan_walkers, .ref a_this_plan_kindOf, .ref a_this_plan_comesAt, .ref a_this_plan_comers, .ref a_this_plan_names, .ref a_this_plan_code, .int x_this_plan_size, .ref a_this_plan_spans])), (a_this_plan_kindOf, .inl (cy 0, 12, .inl g_this_plan_kindOf)), (a_this_trusts, .inl (cy 0, 6, .inl g_this_trusts)), (a_this_plan_comers, .inl (cy 0, 200, .inl g_this_plan_comers)), (a_this_left, .inl (cy 0, 300, .inl J20_a5))] := hD
        refine lv_iload_n hx hb dX7_shine_81 rfl (lv_at hl 3 rfl) ?_
        refine lv_if_ne (tgt := 90) hx hb dX7_shine_82 (by decide) (fun c20437 => ?_) (fun c20437 => ?_)
        · have h20438 : ib J20_l2 1 1 := ib_w 1 1 (ib_ne_lo 0 hJ68_l2 (by decide) c20437) (by decide)
          refine lv_iconst (v := 1) hx hb dX7_shine_90 (by decide) ?_
          refine lv_goto (tgt := 95) hx hb dX7_shine_91 (by decide) ?_
          exact jn95 J68_l6 J68_s0 z20436 1 H locs ls (ib_w 0 1 h20438 (by decide)) (ib_w 0 1 hJ68_l3 (by decide)) (ib_w (-1) 300 hJ68_l4 (by decide)) (ib_w 0 299 hJ68_l5 (by decide)) (ib_w 0 1 (ib_c 1 1 1 (by decide)) (by decide)) hP hD hS (lv_sub hl [1, 2, 3, 4, 5, 6, 7, 0] rfl)
        · have h20439 := ib_eq hJ68_l2 (ib_c 0 0 0 (by decide)) c20437
          have h20440 : ib J20_l2 0 0 := ib_w 0 0 h20439.1 (by decide)
          refine lv_iload hx hb dX7_shine_85 (lv_at hl 0 rfl) ?_
          refine lv_if_eq (tgt := 94) hx hb dX7_shine_87 (by decide) (fun c20441 => ?_) (fun c20441 => ?_)
          · have h20442 := ib_eq (ib_any J68_s0) (ib_c 0 0 0 (by decide)) c20441
            have h20443 : ib J68_s0 0 0 := ib_w 0 0 h20442.1 (by decide)
            refine lv_iconst (v := 0) hx hb dX7_shine_94 (by decide) ?_
            exact jn95 J68_l6 J68_s0 z20436 0 H locs ls (ib_w 0 1 h20440 (by decide)) (ib_w 0 1 hJ68_l3 (by decide)) (ib_w (-1) 300 hJ68_l4 (by decide)) (ib_w 0 299 hJ68_l5 (by decide)) (ib_w 0 1 (ib_c 0 0 0 (by decide)) (by decide)) hP hD hS (lv_sub hl [1, 2, 3, 4, 5, 6, 7, 0] rfl)
          · skip
            refine lv_iconst (v := 1) hx hb dX7_shine_90 (by decide) ?_
            refine lv_goto (tgt := 95) hx hb dX7_shine_91 (by decide) ?_
            exact jn95 J68_l6 J68_s0 z20436 1 H locs ls (ib_w 0 1 h20440 (by decide)) (ib_w 0 1 hJ68_l3 (by decide)) (ib_w (-1) 300 hJ68_l4 (by decide)) (ib_w 0 299 hJ68_l5 (by decide)) (ib_w 0 1 (ib_c 1 1 1 (by decide)) (by decide)) hP hD hS (lv_sub hl [1, 2, 3, 4, 5, 6, 7, 0] rfl)
      have jn46 : ∀ (J46_s0 : Int32) (H : Heap) (locs : List Loc) (ls : Array Slot), ib J20_l2 0 1 → ib J20_l3 0 1 → ib J20_l4 (-1) 300 → ib J20_l5 0 299 → va_P (dC, dI) vwCl [(a_this, .inr (7, [.ref a_this_machine, .ref a_this_plan, .int x_this_day, .ref a_this_trusts, .int x_this_rule, .int x_this_green, .int x_this_absent, .int x_this_asksReds, .ref a_this_cars, .ref a_this_gaps, .ref a_this_known, .ref a_this_left, .ref a_this_leaves, .int J20_c0_13, .int x_this_crossed, .int x_this_went, .int x_this_harmed])), (a_this_plan, .inr (4, [.int x_this_plan_cycle, .int x_this_plan_green, .int x_this_plan_rule, .int x_this_plan_least, .int x_this_plan_away, .int x_this_plan_statements, .int x_this_plan_kinds, .ref a_this_plan_calm, .ref a_this_plan_pace, .ref a_this_plan_trusts, .int x_this_plan_walkers, .ref a_this_plan_kindOf, .ref a_this_plan_comesAt, .ref a_this_plan_comers, .ref a_this_plan_names, .ref a_this_plan_code, .int x_this_plan_size, .ref a_this_plan_spans])), (a_this_plan_kindOf, .inl (cy 0, 12, .inl g_this_plan_kindOf)), (a_this_trusts, .inl (cy 0, 6, .inl g_this_trusts)), (a_this_plan_comers, .inl (cy 0, 200, .inl g_this_plan_comers)), (a_this_left, .inl (cy 0, 300, .inl J20_a5))] H → va_D A [(a_this, .inr (7, [.ref a_this_machine, .ref a_this_plan, .int x_this_day, .ref a_this_trusts, .int x_this_rule, .int x_this_green, .int x_this_absent, .int x_this_asksReds, .ref a_this_cars, .ref a_this_gaps, .ref a_this_known, .ref a_this_left, .ref a_this_leaves, .int J20_c0_13, .int x_this_crossed, .int x_this_went, .int x_this_harmed])), (a_this_plan, .inr (4, [.int x_this_plan_cycle, .int x_this_plan_green, .int x_this_plan_rule, .int x_this_plan_least, .int x_this_plan_away, .int x_this_plan_statements, .int x_this_plan_kinds, .ref a_this_plan_calm, .ref a_this_plan_pace, .ref a_this_plan_trusts, .int x_this_plan_walkers, .ref a_this_plan_kindOf, .ref a_this_plan_comesAt, .ref a_this_plan_comers, .ref a_this_plan_names, .ref a_this_plan_code, .int x_this_plan_size, .ref a_this_plan_spans])), (a_this_plan_kindOf, .inl (cy 0, 12, .inl g_this_plan_kindOf)), (a_this_trusts, .inl (cy 0, 6, .inl g_this_trusts)), (a_this_plan_comers, .inl (cy 0, 200, .inl g_this_plan_comers)), (a_this_left, .inl (cy 0, 300, .inl J20_a5))] → va_S A s.heap H locs → lv_has ls 9 [(0, .ref a_this), (1, .int J20_l1), (2, .int J20_l2), (3, .int J20_l3), (4, .int J20_l4), (5, .int J20_l5)] → W p l e { frames := 1, cells := 0, slots := 0, locals := 22 } s m args below meth c H locs 0 0 Q (F0 m 46 ls [.int J46_s0]) := by
        intro J46_s0 H locs ls hJ46_l2 hJ46_l3 hJ46_l4 hJ46_l5 hP hD hS hl
        refine lv_istore (lv' := [(6, .int J46_s0), (0, .ref a_this), (1, .int J20_l1), (2, .int J20_l2), (3, .int J20_l3), (4, .int J20_l4), (5, .int J20_l5)]) hx hb dX7_shine_46 hl (by decide) rfl (fun ls hl => ?_)
        refine lv_iload hx hb dX7_shine_48 (lv_at hl 0 rfl) ?_
        refine lv_if_ne (tgt := 67) hx hb dX7_shine_50 (by decide) (fun c20444 => ?_) (fun c20444 => ?_)
        · skip
          refine lv_iconst (v := 0) hx hb dX7_shine_67 (by decide) ?_
          exact jn68 J46_s0 0 H locs ls (ib_w 0 1 hJ46_l2 (by decide)) (ib_w 0 1 hJ46_l3 (by decide)) (ib_w (-1) 300 hJ46_l4 (by decide)) (ib_w 0 299 hJ46_l5 (by decide)) hP hD hS (lv_sub hl [1, 2, 3, 4, 5, 6, 0] rfl)
        · have h20445 := ib_eq (ib_any J46_s0) (ib_c 0 0 0 (by decide)) c20444
          have h20446 : ib J46_s0 0 0 := ib_w 0 0 h20445.1 (by decide)
          refine lv_aload_n hx hb dX7_shine_53 rfl (lv_at hl 1 rfl) ?_
          refine k_get C0 fg_X7_63 hP 0 rfl rfl dX7_shine_54 ?_
          refine lv_iload hx hb dX7_shine_57 (lv_at hl 6 rfl) ?_
          refine k_ji hP hD hS hA [1, 4] [0, 2, 3, 5] (wr := [(a_this, .inr (7, [.ref a_this_machine, .ref a_this_plan, .int x_this_day, .ref a_this_trusts, .int x_this_rule, .int x_this_green, .int x_this_absent, .int x_this_asksReds, .ref a_this_cars, .ref a_this_gaps, .ref a_this_known, .ref a_this_left, .ref a_this_leaves, .int J20_c0_13, .int x_this_crossed, .int x_this_went, .int x_this_harmed])), (a_this_plan_kindOf, .inl (cy 0, 12, .inl g_this_plan_kindOf)), (a_this_trusts, .inl (cy 0, 6, .inl g_this_trusts)), (a_this_left, .inl (cy 0, 300, .inl J20_a5))]) rfl rfl (by decide) (by decide) (by decide) 0 0 (Nat.le_of_ble_eq_true rfl) (Nat.le_of_ble_eq_true rfl) (fun hPc hDc => k_runV (As := [.int J20_l5]) (rest := []) C0 (s_X4_comersIn l dC dI cy sq a_this_plan x_this_plan_cycle x_this_plan_green x_this_plan_rule x_this_plan_least x_this_plan_away x_this_plan_statements x_this_plan_kinds a_this_plan_calm a_this_plan_pace a_this_plan_trusts x_this_plan_walkers a_this_plan_kindOf a_this_plan_comesAt a_this_plan_comers g_this_plan_comers a_this_plan_names a_this_plan_code x_this_plan_size a_this_plan_spans J20_l5 (ib_w 0 120 hx_this_plan_cycle (by decide)) (ib_w 0 99 hx_this_plan_least (by decide)) (ib_w 0 81 hx_this_plan_statements (by decide)) (ib_w 0 6 hx_this_plan_kinds (by decide)) (ib_w 0 12 hx_this_plan_walkers (by decide)) (ib_w 0 1600 hx_this_plan_size (by decide))) mV_X7_127 hPc hDc rfl rfl rfl hl rfl rfl (Nat.le_of_ble_eq_true rfl) ⟨(Nat.le_of_ble_eq_true rfl), (Nat.le_of_ble_eq_true rfl)⟩ ⟨(Nat.le_of_ble_eq_true rfl), (Nat.le_of_ble_eq_true rfl)⟩ dX7_shine_59) (fun r20447 u20448 H locs hw hP hD hS => ?_)
          try dsimp only at hP hD hw
          have hP : va_P (dC, dI) vwCl [(a_this, .inr (7, [.ref a_this_machine, .ref a_this_plan, .int x_this_day, .ref a_this_trusts, .int x_this_rule, .int x_this_green, .int x_this_absent, .int x_this_asksReds, .ref a_this_cars, .ref a_this_gaps, .ref a_this_known, .ref a_this_left, .ref a_this_leaves, .int J20_c0_13, .int x_this_crossed, .int x_this_went, .int x_this_harmed])), (a_this_plan_kindOf, .inl (cy 0, 12, .inl g_this_plan_kindOf)), (a_this_trusts, .inl (cy 0, 6, .inl g_this_trusts)), (a_this_left, .inl (cy 0, 300, .inl J20_a5)), (a_this_plan, .inr (4, [.int x_this_plan_cycle, .int x_this_plan_green, .int x_this_plan_rule, .int x_this_plan_least, .int x_this_plan_away, .int x_this_plan_statements, .int x_this_plan_kinds, .ref a_this_plan_calm, .ref a_this_plan_pace, .ref a_this_plan_trusts, .int x_this_plan_walkers, .ref a_this_plan_kindOf, .ref a_this_plan_comesAt, .ref a_this_plan_comers, .ref a_this_plan_names, .ref a_this_plan_code, .int x_this_plan_size, .ref a_this_plan_spans])), (a_this_plan_comers, .inl (cy 0, 200, .inl g_this_plan_comers))] H := hP
          have hD : va_D A [(a_this, .inr (7, [.ref a_this_machine, .ref a_this_plan, .int x_this_day, .ref a_this_trusts, .int x_this_rule, .int x_this_green, .int x_this_absent, .int x_this_asksReds, .ref a_this_cars, .ref a_this_gaps, .ref a_this_known, .ref a_this_left, .ref a_this_leaves, .int J20_c0_13, .int x_this_crossed, .int x_this_went, .int x_this_harmed])), (a_this_plan_kindOf, .inl (cy 0, 12, .inl g_this_plan_kindOf)), (a_this_trusts, .inl (cy 0, 6, .inl g_this_trusts)), (a_this_left, .inl (cy 0, 300, .inl J20_a5)), (a_this_plan, .inr (4, [.int x_this_plan_cycle, .int x_this_plan_green, .int x_this_plan_rule, .int x_this_plan_least, .int x_this_plan_away, .int x_this_plan_statements, .int x_this_plan_kinds, .ref a_this_plan_calm, .ref a_this_plan_pace, .ref a_this_plan_trusts, .int x_this_plan_walkers, .ref a_this_plan_kindOf, .ref a_this_plan_comesAt, .ref a_this_plan_comers, .ref a_this_plan_names, .ref a_this_plan_code, .int x_this_plan_size, .ref a_this_plan_spans])), (a_this_plan_comers, .inl (cy 0, 200, .inl g_this_plan_comers))] := hD
          refine lv_iload_n hx hb dX7_shine_62 rfl (lv_at hl 2 rfl) ?_
          refine lv_iand hx hb dX7_shine_63 ?_
          refine lv_topi (fun z20449 ez20449 => ?_)
          refine lv_goto (tgt := 68) hx hb dX7_shine_64 (by decide) ?_
          exact jn68 J46_s0 z20449 H locs ls (ib_w 0 1 hJ46_l2 (by decide)) (ib_w 0 1 hJ46_l3 (by decide)) (ib_w (-1) 300 hJ46_l4 (by decide)) (ib_w 0 299 hJ46_l5 (by decide)) (hP.sub [0, 4, 1, 2, 5, 3] rfl) (hD.sub [0, 4, 1, 2, 5, 3] (by decide) rfl) hS (lv_sub hl [1, 2, 3, 4, 5, 6, 0] rfl)
      refine lv_iload hx hb dX7_shine_20 (lv_at hl 5 rfl) ?_
      refine lv_sipush (v := 300) hx hb dX7_shine_22 (by decide) ?_
      refine lv_icmp_ge (tgt := 267) hx hb dX7_shine_25 (by decide) (fun c20450 => ?_) (fun c20450 => ?_)
      · have h20451 := ib_le (ib_c 300 300 300 (by decide)) hJ20_l5 c20450
        have h20452 : ib J20_l5 300 300 := ib_w 300 300 h20451.2 (by decide)
        subst hQ; exact k_vret hx hb hr hlk ((J20_c0_13, J20_a5)) hS True.intro hP hD (Nat.le_of_ble_eq_true rfl) (Nat.le_of_ble_eq_true rfl) dX7_shine_267
      · have h20453 := ib_nle (ib_c 300 300 300 (by decide)) hJ20_l5 c20450
        have h20454 : ib J20_l5 0 299 := ib_w 0 299 h20453.2 (by decide)
        refine lv_iload hx hb dX7_shine_28 (lv_at hl 5 rfl) ?_
        refine lv_if_le (tgt := 45) hx hb dX7_shine_30 (by decide) (fun c20455 => ?_) (fun c20455 => ?_)
        · have h20456 := ib_le h20454 (ib_c 0 0 0 (by decide)) c20455
          have h20457 : ib J20_l5 0 0 := ib_w 0 0 h20456.1 (by decide)
          refine lv_iconst (v := 0) hx hb dX7_shine_45 (by decide) ?_
          exact jn46 0 H locs ls (ib_w 0 1 hJ20_l2 (by decide)) (ib_w 0 1 hJ20_l3 (by decide)) (ib_w (-1) 300 hJ20_l4 (by decide)) (ib_w 0 299 h20457 (by decide)) hP hD hS (lv_sub hl [0, 1, 2, 3, 4, 5] rfl)
        · have h20458 := ib_nle h20454 (ib_c 0 0 0 (by decide)) c20455
          have h20459 : ib J20_l5 1 299 := ib_w 1 299 h20458.1 (by decide)
          refine lv_aload_n hx hb dX7_shine_33 rfl (lv_at hl 0 rfl) ?_
          refine k_get C0 fg_X7_41 hP 0 rfl rfl dX7_shine_34 ?_
          refine lv_iload hx hb dX7_shine_37 (lv_at hl 5 rfl) ?_
          refine lv_iconst (v := 1) hx hb dX7_shine_39 (by decide) ?_
          refine lv_isub hx hb dX7_shine_40 ?_
          refine lv_topi (fun z20460 ez20460 => ?_)
          have h20461 := ib_sub h20459 (ib_c 1 1 1 (by decide)) (by decide)
          rw [← ez20460] at h20461
          have h20462 : ib z20460 0 298 := ib_w 0 298 h20461.1 (by decide)
          refine va_iald hx hb C0.2.2.2.2.2.1 hP 5 0 rfl rfl (ib_in 300 h20462 (by decide)) dX7_shine_41 ?_
          refine lv_topi (fun z20463 ez20463 => ?_)
          refine lv_goto (tgt := 46) hx hb dX7_shine_42 (by decide) ?_
          exact jn46 z20463 H locs ls (ib_w 0 1 hJ20_l2 (by decide)) (ib_w 0 1 hJ20_l3 (by decide)) (ib_w (-1) 300 hJ20_l4 (by decide)) (ib_w 0 299 h20459 (by decide)) hP hD hS (lv_sub hl [0, 1, 2, 3, 4, 5] rfl)
  refine lv_aload_n hx hb dX7_shine_0 rfl (lv_at hl 0 rfl) ?_
  refine k_ji hP hD hS hA [0, 1, 2, 3] [4, 5] (wr := [(a_this_plan_comers, .inl (cy 0, 200, .inl g_this_plan_comers)), (a_this_left, .inl (cy 0, 300, .inl g_this_left))]) rfl rfl (by decide) (by decide) (by decide) 0 0 (Nat.le_of_ble_eq_true rfl) (Nat.le_of_ble_eq_true rfl) (fun hPc hDc => k_runV (As := []) (rest := []) C0 (s_X7_willing l dC dI cy sq a_this a_this_machine a_this_plan x_this_plan_cycle x_this_plan_green x_this_plan_rule x_this_plan_least x_this_plan_away x_this_plan_statements x_this_plan_kinds a_this_plan_calm a_this_plan_pace a_this_plan_trusts x_this_plan_walkers a_this_plan_kindOf g_this_plan_kindOf a_this_plan_comesAt a_this_plan_comers a_this_plan_names a_this_plan_code x_this_plan_size a_this_plan_spans x_this_day a_this_trusts g_this_trusts x_this_rule x_this_green x_this_absent x_this_asksReds a_this_cars a_this_gaps a_this_known a_this_left a_this_leaves x_this_pressed x_this_crossed x_this_went x_this_harmed (ib_w 0 120 hx_this_plan_cycle (by decide)) (ib_w 0 99 hx_this_plan_least (by decide)) (ib_w 0 81 hx_this_plan_statements (by decide)) (ib_w 0 6 hx_this_plan_kinds (by decide)) (ib_w 0 12 hx_this_plan_walkers (by decide)) hg_this_plan_kindOf (ib_w 0 1600 hx_this_plan_size (by decide)) (ib_w 0 1 hx_this_asksReds (by decide))) mV_X7_123 hPc hDc rfl rfl rfl hl rfl rfl (Nat.le_of_ble_eq_true rfl) ⟨(Nat.le_of_ble_eq_true rfl), (Nat.le_of_ble_eq_true rfl)⟩ ⟨(Nat.le_of_ble_eq_true rfl), (Nat.le_of_ble_eq_true rfl)⟩ dX7_shine_1) (fun r20464 u20465 H locs hw hP hD hS => ?_)
  try dsimp only at hP hD hw
  have hP : va_P (dC, dI) vwCl [(a_this_plan_comers, .inl (cy 0, 200, .inl g_this_plan_comers)), (a_this_left, .inl (cy 0, 300, .inl g_this_left)), (a_this, .inr (7, [.ref a_this_machine, .ref a_this_plan, .int x_this_day, .ref a_this_trusts, .int x_this_rule, .int x_this_green, .int x_this_absent, .int x_this_asksReds, .ref a_this_cars, .ref a_this_gaps, .ref a_this_known, .ref a_this_left, .ref a_this_leaves, .int x_this_pressed, .int x_this_crossed, .int x_this_went, .int x_this_harmed])), (a_this_plan, .inr (4, [.int x_this_plan_cycle, .int x_this_plan_green, .int x_this_plan_rule, .int x_this_plan_least, .int x_this_plan_away, .int x_this_plan_statements, .int x_this_plan_kinds, .ref a_this_plan_calm, .ref a_this_plan_pace, .ref a_this_plan_trusts, .int x_this_plan_walkers, .ref a_this_plan_kindOf, .ref a_this_plan_comesAt, .ref a_this_plan_comers, .ref a_this_plan_names, .ref a_this_plan_code, .int x_this_plan_size, .ref a_this_plan_spans])), (a_this_plan_kindOf, .inl (cy 0, 12, .inl g_this_plan_kindOf)), (a_this_trusts, .inl (cy 0, 6, .inl g_this_trusts))] H := hP
  have hD : va_D A [(a_this_plan_comers, .inl (cy 0, 200, .inl g_this_plan_comers)), (a_this_left, .inl (cy 0, 300, .inl g_this_left)), (a_this, .inr (7, [.ref a_this_machine, .ref a_this_plan, .int x_this_day, .ref a_this_trusts, .int x_this_rule, .int x_this_green, .int x_this_absent, .int x_this_asksReds, .ref a_this_cars, .ref a_this_gaps, .ref a_this_known, .ref a_this_left, .ref a_this_leaves, .int x_this_pressed, .int x_this_crossed, .int x_this_went, .int x_this_harmed])), (a_this_plan, .inr (4, [.int x_this_plan_cycle, .int x_this_plan_green, .int x_this_plan_rule, .int x_this_plan_least, .int x_this_plan_away, .int x_this_plan_statements, .int x_this_plan_kinds, .ref a_this_plan_calm, .ref a_this_plan_pace, .ref a_this_plan_trusts, .int x_this_plan_walkers, .ref a_this_plan_kindOf, .ref a_this_plan_comesAt, .ref a_this_plan_comers, .ref a_this_plan_names, .ref a_this_plan_code, .int x_this_plan_size, .ref a_this_plan_spans])), (a_this_plan_kindOf, .inl (cy 0, 12, .inl g_this_plan_kindOf)), (a_this_trusts, .inl (cy 0, 6, .inl g_this_trusts))] := hD
  refine lv_istore_n (lv' := [(1, .int r20464), (0, .ref a_this)]) hx hb dX7_shine_4 rfl hl (by decide) rfl (fun ls hl => ?_)
  refine lv_aload_n hx hb dX7_shine_5 rfl (lv_at hl 1 rfl) ?_
  refine lv_iconst (v := 0) hx hb dX7_shine_6 (by decide) ?_
  refine k_put C0 fp_X7_47 hP hD hS 2 rfl rfl rfl (Nat.le_of_ble_eq_true rfl) dX7_shine_7 (fun H locs hP hD hS => ?_)
  have hP : va_P (dC, dI) vwCl [(a_this_plan_comers, .inl (cy 0, 200, .inl g_this_plan_comers)), (a_this_left, .inl (cy 0, 300, .inl g_this_left)), (a_this, .inr (7, [.ref a_this_machine, .ref a_this_plan, .int x_this_day, .ref a_this_trusts, .int x_this_rule, .int x_this_green, .int x_this_absent, .int x_this_asksReds, .ref a_this_cars, .ref a_this_gaps, .ref a_this_known, .ref a_this_left, .ref a_this_leaves, .int 0, .int x_this_crossed, .int x_this_went, .int x_this_harmed])), (a_this_plan, .inr (4, [.int x_this_plan_cycle, .int x_this_plan_green, .int x_this_plan_rule, .int x_this_plan_least, .int x_this_plan_away, .int x_this_plan_statements, .int x_this_plan_kinds, .ref a_this_plan_calm, .ref a_this_plan_pace, .ref a_this_plan_trusts, .int x_this_plan_walkers, .ref a_this_plan_kindOf, .ref a_this_plan_comesAt, .ref a_this_plan_comers, .ref a_this_plan_names, .ref a_this_plan_code, .int x_this_plan_size, .ref a_this_plan_spans])), (a_this_plan_kindOf, .inl (cy 0, 12, .inl g_this_plan_kindOf)), (a_this_trusts, .inl (cy 0, 6, .inl g_this_trusts))] H := hP
  have hD : va_D A [(a_this_plan_comers, .inl (cy 0, 200, .inl g_this_plan_comers)), (a_this_left, .inl (cy 0, 300, .inl g_this_left)), (a_this, .inr (7, [.ref a_this_machine, .ref a_this_plan, .int x_this_day, .ref a_this_trusts, .int x_this_rule, .int x_this_green, .int x_this_absent, .int x_this_asksReds, .ref a_this_cars, .ref a_this_gaps, .ref a_this_known, .ref a_this_left, .ref a_this_leaves, .int 0, .int x_this_crossed, .int x_this_went, .int x_this_harmed])), (a_this_plan, .inr (4, [.int x_this_plan_cycle, .int x_this_plan_green, .int x_this_plan_rule, .int x_this_plan_least, .int x_this_plan_away, .int x_this_plan_statements, .int x_this_plan_kinds, .ref a_this_plan_calm, .ref a_this_plan_pace, .ref a_this_plan_trusts, .int x_this_plan_walkers, .ref a_this_plan_kindOf, .ref a_this_plan_comesAt, .ref a_this_plan_comers, .ref a_this_plan_names, .ref a_this_plan_code, .int x_this_plan_size, .ref a_this_plan_spans])), (a_this_plan_kindOf, .inl (cy 0, 12, .inl g_this_plan_kindOf)), (a_this_trusts, .inl (cy 0, 6, .inl g_this_trusts))] := hD
  refine lv_iconst (v := 0) hx hb dX7_shine_10 (by decide) ?_
  refine lv_istore_n (lv' := [(2, .int 0), (1, .int r20464), (0, .ref a_this)]) hx hb dX7_shine_11 rfl hl (by decide) rfl (fun ls hl => ?_)
  refine lv_iconst (v := 0) hx hb dX7_shine_12 (by decide) ?_
  refine lv_istore_n (lv' := [(3, .int 0), (2, .int 0), (1, .int r20464), (0, .ref a_this)]) hx hb dX7_shine_13 rfl hl (by decide) rfl (fun ls hl => ?_)
  refine lv_iconst (v := (-1)) hx hb dX7_shine_14 (by decide) ?_
  refine lv_istore (lv' := [(4, .int (-1)), (3, .int 0), (2, .int 0), (1, .int r20464), (0, .ref a_this)]) hx hb dX7_shine_15 hl (by decide) rfl (fun ls hl => ?_)
  refine lv_iconst (v := 0) hx hb dX7_shine_17 (by decide) ?_
  refine lv_istore (lv' := [(5, .int 0), (4, .int (-1)), (3, .int 0), (2, .int 0), (1, .int r20464), (0, .ref a_this)]) hx hb dX7_shine_18 hl (by decide) rfl (fun ls hl => ?_)
  exact jn20 302 r20464 0 0 (-1) 0 0 g_this_left H locs ls (ib_w 0 1 (ib_c 0 0 0 (by decide)) (by decide)) (ib_w 0 1 (ib_c 0 0 0 (by decide)) (by decide)) (ib_w (-1) 300 (ib_c (-1) (-1) (-1) (by decide)) (by decide)) (ib_w 0 300 (ib_c 0 0 0 (by decide)) (by decide)) (by have := (ib_c 0 0 0 (by decide)); unfold ib at this; omega) (hP.sub [2, 3, 4, 5, 0, 1] rfl) (hD.sub [2, 3, 4, 5, 0, 1] (by decide) rfl) hS (lv_sub hl [5, 4, 3, 2, 1, 0] rfl)
set_option maxHeartbeats 4000000 in
set_option maxRecDepth 100000 in
theorem s_X7_take (l : Launch) (dC : Nat → ClassId) (dI : Nat → Nat → Nat) (cy : Nat → ClassId) (sq : Nat → Nat) (a_this : Nat) (a_this_machine : Nat) (a_this_plan : Nat) (x_this_day : Int32) (a_this_trusts : Nat) (x_this_rule : Int32) (x_this_green : Int32) (x_this_absent : Int32) (x_this_asksReds : Int32) (a_this_cars : Nat) (a_this_gaps : Nat) (a_this_known : Nat) (a_this_left : Nat) (a_this_leaves : Nat) (x_this_pressed : Int32) (x_this_crossed : Int32) (x_this_went : Int32) (x_this_harmed : Int32) (a_arg0 : Nat) (x_arg0_cycle : Int32) (x_arg0_green : Int32) (x_arg0_rule : Int32) (x_arg0_least : Int32) (x_arg0_away : Int32) (x_arg0_statements : Int32) (x_arg0_kinds : Int32) (a_arg0_calm : Nat) (a_arg0_pace : Nat) (a_arg0_trusts : Nat) (x_arg0_walkers : Int32) (a_arg0_kindOf : Nat) (a_arg0_comesAt : Nat) (a_arg0_comers : Nat) (a_arg0_names : Nat) (a_arg0_code : Nat) (g_arg0_code : Nat → Int32) (x_arg0_size : Int32) (a_arg0_spans : Nat) (g_arg0_spans : Nat → Int32) (hx_this_asksReds : ib x_this_asksReds 0 1) (hx_arg0_cycle : ib x_arg0_cycle 0 120) (hx_arg0_least : ib x_arg0_least 0 99) (hx_arg0_statements : ib x_arg0_statements 0 81) (hx_arg0_kinds : ib x_arg0_kinds 0 6) (hx_arg0_walkers : ib x_arg0_walkers 0 12) (hx_arg0_size : ib x_arg0_size 0 1600) (hg_arg0_spans : ia g_arg0_spans 6 0 1600) : k_Met l yX7_take cX7_take 2 none { frames := 1, cells := 0, slots := 0, locals := 23 } dC dI cy sq [.ref a_this, .ref a_arg0] [(a_this, .inr (7, [.ref a_this_machine, .ref a_this_plan, .int x_this_day, .ref a_this_trusts, .int x_this_rule, .int x_this_green, .int x_this_absent, .int x_this_asksReds, .ref a_this_cars, .ref a_this_gaps, .ref a_this_known, .ref a_this_left, .ref a_this_leaves, .int x_this_pressed, .int x_this_crossed, .int x_this_went, .int x_this_harmed])), (a_arg0, .inr (4, [.int x_arg0_cycle, .int x_arg0_green, .int x_arg0_rule, .int x_arg0_least, .int x_arg0_away, .int x_arg0_statements, .int x_arg0_kinds, .ref a_arg0_calm, .ref a_arg0_pace, .ref a_arg0_trusts, .int x_arg0_walkers, .ref a_arg0_kindOf, .ref a_arg0_comesAt, .ref a_arg0_comers, .ref a_arg0_names, .ref a_arg0_code, .int x_arg0_size, .ref a_arg0_spans])), (a_arg0_spans, .inl (cy 0, 6, .inl g_arg0_spans)), (a_arg0_code, .inl (cy 0, 1600, .inl g_arg0_code))] (k_Qv dC dI (fun (u : Nat × Int32 × Int32) => match u with | (n0, n1, n2) => ib n1 (-1) (-1) ∧ ib n2 0 1) (fun u : Nat × Int32 × Int32 => match u with | (n0, n1, n2) => [(a_this, .inr (7, [.ref a_this_machine, .ref n0, .int n1, .ref a_this_trusts, .int x_this_rule, .int x_this_green, .int x_this_absent, .int n2, .ref a_this_cars, .ref a_this_gaps, .ref a_this_known, .ref a_this_left, .ref a_this_leaves, .int x_this_pressed, .int x_this_crossed, .int x_this_went, .int x_this_harmed])), (a_arg0, .inr (4, [.int x_arg0_cycle, .int x_arg0_green, .int x_arg0_rule, .int x_arg0_least, .int x_arg0_away, .int x_arg0_statements, .int x_arg0_kinds, .ref a_arg0_calm, .ref a_arg0_pace, .ref a_arg0_trusts, .int x_arg0_walkers, .ref a_arg0_kindOf, .ref a_arg0_comesAt, .ref a_arg0_comers, .ref a_arg0_names, .ref a_arg0_code, .int x_arg0_size, .ref a_arg0_spans])), (a_arg0_spans, .inl (cy 0, 6, .inl g_arg0_spans)), (a_arg0_code, .inl (cy 0, 1600, .inl g_arg0_code))])) := by
  refine k_ofW2 (by decide +kernel) (Nat.le_of_ble_eq_true rfl) ?_
  intro p e s m below meth c A ls H locs args Q hQ C0 hr hlk hin hP hD hA hS hl
  have C0 : k_cx p s m args c cX7_take 2 RX7 dC dI cy sq := C0
  have hx := C0.1
  have hb := C0.2.1
  have hl : lv_has ls 2 [(0, .ref a_this), (1, .ref a_arg0)] := hl
  refine lv_aload_n hx hb dX7_take_0 rfl (lv_at hl 0 rfl) ?_
  refine lv_aload_n hx hb dX7_take_1 rfl (lv_at hl 1 rfl) ?_
  refine k_put C0 fp_X7_63 hP hD hS 0 rfl rfl rfl (Nat.le_of_ble_eq_true rfl) dX7_take_2 (fun H locs hP hD hS => ?_)
  have hP : va_P (dC, dI) vwCl [(a_this, .inr (7, [.ref a_this_machine, .ref a_arg0, .int x_this_day, .ref a_this_trusts, .int x_this_rule, .int x_this_green, .int x_this_absent, .int x_this_asksReds, .ref a_this_cars, .ref a_this_gaps, .ref a_this_known, .ref a_this_left, .ref a_this_leaves, .int x_this_pressed, .int x_this_crossed, .int x_this_went, .int x_this_harmed])), (a_arg0, .inr (4, [.int x_arg0_cycle, .int x_arg0_green, .int x_arg0_rule, .int x_arg0_least, .int x_arg0_away, .int x_arg0_statements, .int x_arg0_kinds, .ref a_arg0_calm, .ref a_arg0_pace, .ref a_arg0_trusts, .int x_arg0_walkers, .ref a_arg0_kindOf, .ref a_arg0_comesAt, .ref a_arg0_comers, .ref a_arg0_names, .ref a_arg0_code, .int x_arg0_size, .ref a_arg0_spans])), (a_arg0_spans, .inl (cy 0, 6, .inl g_arg0_spans)), (a_arg0_code, .inl (cy 0, 1600, .inl g_arg0_code))] H := hP
  have hD : va_D A [(a_this, .inr (7, [.ref a_this_machine, .ref a_arg0, .int x_this_day, .ref a_this_trusts, .int x_this_rule, .int x_this_green, .int x_this_absent, .int x_this_asksReds, .ref a_this_cars, .ref a_this_gaps, .ref a_this_known, .ref a_this_left, .ref a_this_leaves, .int x_this_pressed, .int x_this_crossed, .int x_this_went, .int x_this_harmed])), (a_arg0, .inr (4, [.int x_arg0_cycle, .int x_arg0_green, .int x_arg0_rule, .int x_arg0_least, .int x_arg0_away, .int x_arg0_statements, .int x_arg0_kinds, .ref a_arg0_calm, .ref a_arg0_pace, .ref a_arg0_trusts, .int x_arg0_walkers, .ref a_arg0_kindOf, .ref a_arg0_comesAt, .ref a_arg0_comers, .ref a_arg0_names, .ref a_arg0_code, .int x_arg0_size, .ref a_arg0_spans])), (a_arg0_spans, .inl (cy 0, 6, .inl g_arg0_spans)), (a_arg0_code, .inl (cy 0, 1600, .inl g_arg0_code))] := hD
  refine lv_aload_n hx hb dX7_take_5 rfl (lv_at hl 0 rfl) ?_
  refine lv_aload_n hx hb dX7_take_6 rfl (lv_at hl 1 rfl) ?_
  refine lv_iconst (v := 2) hx hb dX7_take_7 (by decide) ?_
  refine lv_bipush (v := (-9)) hx hb dX7_take_8 (by decide) ?_
  refine k_ji hP hD hS hA [1, 2, 3] [0] (wr := [(a_this, .inr (7, [.ref a_this_machine, .ref a_arg0, .int x_this_day, .ref a_this_trusts, .int x_this_rule, .int x_this_green, .int x_this_absent, .int x_this_asksReds, .ref a_this_cars, .ref a_this_gaps, .ref a_this_known, .ref a_this_left, .ref a_this_leaves, .int x_this_pressed, .int x_this_crossed, .int x_this_went, .int x_this_harmed]))]) rfl rfl (by decide) (by decide) (by decide) 0 0 (Nat.le_of_ble_eq_true rfl) (Nat.le_of_ble_eq_true rfl) (fun hPc hDc => k_runV (As := [.int 2, .int (-9)]) (rest := [.ref a_this]) C0 (s_X4_uses l dC dI cy sq a_arg0 x_arg0_cycle x_arg0_green x_arg0_rule x_arg0_least x_arg0_away x_arg0_statements x_arg0_kinds a_arg0_calm a_arg0_pace a_arg0_trusts x_arg0_walkers a_arg0_kindOf a_arg0_comesAt a_arg0_comers a_arg0_names a_arg0_code g_arg0_code x_arg0_size a_arg0_spans g_arg0_spans 2 (-9) (ib_w 0 120 hx_arg0_cycle (by decide)) (ib_w 0 99 hx_arg0_least (by decide)) (ib_w 0 81 hx_arg0_statements (by decide)) (ib_w 0 6 hx_arg0_kinds (by decide)) (ib_w 0 12 hx_arg0_walkers (by decide)) (ib_w 0 1600 hx_arg0_size (by decide)) hg_arg0_spans (ib_w 0 4 (ib_c 2 2 2 (by decide)) (by decide))) mV_X7_67 hPc hDc rfl rfl rfl hl rfl rfl (Nat.le_of_ble_eq_true rfl) ⟨(Nat.le_of_ble_eq_true rfl), (Nat.le_of_ble_eq_true rfl)⟩ ⟨(Nat.le_of_ble_eq_true rfl), (Nat.le_of_ble_eq_true rfl)⟩ dX7_take_10) (fun r20496 u20497 H locs hw hP hD hS => ?_)
  try dsimp only at hP hD hw
  have hP : va_P (dC, dI) vwCl [(a_this, .inr (7, [.ref a_this_machine, .ref a_arg0, .int x_this_day, .ref a_this_trusts, .int x_this_rule, .int x_this_green, .int x_this_absent, .int x_this_asksReds, .ref a_this_cars, .ref a_this_gaps, .ref a_this_known, .ref a_this_left, .ref a_this_leaves, .int x_this_pressed, .int x_this_crossed, .int x_this_went, .int x_this_harmed])), (a_arg0, .inr (4, [.int x_arg0_cycle, .int x_arg0_green, .int x_arg0_rule, .int x_arg0_least, .int x_arg0_away, .int x_arg0_statements, .int x_arg0_kinds, .ref a_arg0_calm, .ref a_arg0_pace, .ref a_arg0_trusts, .int x_arg0_walkers, .ref a_arg0_kindOf, .ref a_arg0_comesAt, .ref a_arg0_comers, .ref a_arg0_names, .ref a_arg0_code, .int x_arg0_size, .ref a_arg0_spans])), (a_arg0_spans, .inl (cy 0, 6, .inl g_arg0_spans)), (a_arg0_code, .inl (cy 0, 1600, .inl g_arg0_code))] H := hP
  have hD : va_D A [(a_this, .inr (7, [.ref a_this_machine, .ref a_arg0, .int x_this_day, .ref a_this_trusts, .int x_this_rule, .int x_this_green, .int x_this_absent, .int x_this_asksReds, .ref a_this_cars, .ref a_this_gaps, .ref a_this_known, .ref a_this_left, .ref a_this_leaves, .int x_this_pressed, .int x_this_crossed, .int x_this_went, .int x_this_harmed])), (a_arg0, .inr (4, [.int x_arg0_cycle, .int x_arg0_green, .int x_arg0_rule, .int x_arg0_least, .int x_arg0_away, .int x_arg0_statements, .int x_arg0_kinds, .ref a_arg0_calm, .ref a_arg0_pace, .ref a_arg0_trusts, .int x_arg0_walkers, .ref a_arg0_kindOf, .ref a_arg0_comesAt, .ref a_arg0_comers, .ref a_arg0_names, .ref a_arg0_code, .int x_arg0_size, .ref a_arg0_spans])), (a_arg0_spans, .inl (cy 0, 6, .inl g_arg0_spans)), (a_arg0_code, .inl (cy 0, 1600, .inl g_arg0_code))] := hD
  have h20498 := hw
  refine k_put C0 fp_X7_28 hP hD hS 0 rfl (ib_bool (ib_w 0 1 h20498 (by decide))) (ib_boolf (ib_w 0 1 h20498 (by decide))) (Nat.le_of_ble_eq_true rfl) dX7_take_13 (fun H locs hP hD hS => ?_)
  have hP : va_P (dC, dI) vwCl [(a_this, .inr (7, [.ref a_this_machine, .ref a_arg0, .int x_this_day, .ref a_this_trusts, .int x_this_rule, .int x_this_green, .int x_this_absent, .int r20496, .ref a_this_cars, .ref a_this_gaps, .ref a_this_known, .ref a_this_left, .ref a_this_leaves, .int x_this_pressed, .int x_this_crossed, .int x_this_went, .int x_this_harmed])), (a_arg0, .inr (4, [.int x_arg0_cycle, .int x_arg0_green, .int x_arg0_rule, .int x_arg0_least, .int x_arg0_away, .int x_arg0_statements, .int x_arg0_kinds, .ref a_arg0_calm, .ref a_arg0_pace, .ref a_arg0_trusts, .int x_arg0_walkers, .ref a_arg0_kindOf, .ref a_arg0_comesAt, .ref a_arg0_comers, .ref a_arg0_names, .ref a_arg0_code, .int x_arg0_size, .ref a_arg0_spans])), (a_arg0_spans, .inl (cy 0, 6, .inl g_arg0_spans)), (a_arg0_code, .inl (cy 0, 1600, .inl g_arg0_code))] H := hP
  have hD : va_D A [(a_this, .inr (7, [.ref a_this_machine, .ref a_arg0, .int x_this_day, .ref a_this_trusts, .int x_this_rule, .int x_this_green, .int x_this_absent, .int r20496, .ref a_this_cars, .ref a_this_gaps, .ref a_this_known, .ref a_this_left, .ref a_this_leaves, .int x_this_pressed, .int x_this_crossed, .int x_this_went, .int x_this_harmed])), (a_arg0, .inr (4, [.int x_arg0_cycle, .int x_arg0_green, .int x_arg0_rule, .int x_arg0_least, .int x_arg0_away, .int x_arg0_statements, .int x_arg0_kinds, .ref a_arg0_calm, .ref a_arg0_pace, .ref a_arg0_trusts, .int x_arg0_walkers, .ref a_arg0_kindOf, .ref a_arg0_comesAt, .ref a_arg0_comers, .ref a_arg0_names, .ref a_arg0_code, .int x_arg0_size, .ref a_arg0_spans])), (a_arg0_spans, .inl (cy 0, 6, .inl g_arg0_spans)), (a_arg0_code, .inl (cy 0, 1600, .inl g_arg0_code))] := hD
  refine lv_aload_n hx hb dX7_take_16 rfl (lv_at hl 0 rfl) ?_
  refine lv_iconst (v := (-1)) hx hb dX7_take_17 (by decide) ?_
  refine k_put C0 fp_X7_9 hP hD hS 0 rfl rfl rfl (Nat.le_of_ble_eq_true rfl) dX7_take_18 (fun H locs hP hD hS => ?_)
  have hP : va_P (dC, dI) vwCl [(a_this, .inr (7, [.ref a_this_machine, .ref a_arg0, .int (-1), .ref a_this_trusts, .int x_this_rule, .int x_this_green, .int x_this_absent, .int r20496, .ref a_this_cars, .ref a_this_gaps, .ref a_this_known, .ref a_this_left, .ref a_this_leaves, .int x_this_pressed, .int x_this_crossed, .int x_this_went, .int x_this_harmed])), (a_arg0, .inr (4, [.int x_arg0_cycle, .int x_arg0_green, .int x_arg0_rule, .int x_arg0_least, .int x_arg0_away, .int x_arg0_statements, .int x_arg0_kinds, .ref a_arg0_calm, .ref a_arg0_pace, .ref a_arg0_trusts, .int x_arg0_walkers, .ref a_arg0_kindOf, .ref a_arg0_comesAt, .ref a_arg0_comers, .ref a_arg0_names, .ref a_arg0_code, .int x_arg0_size, .ref a_arg0_spans])), (a_arg0_spans, .inl (cy 0, 6, .inl g_arg0_spans)), (a_arg0_code, .inl (cy 0, 1600, .inl g_arg0_code))] H := hP
  have hD : va_D A [(a_this, .inr (7, [.ref a_this_machine, .ref a_arg0, .int (-1), .ref a_this_trusts, .int x_this_rule, .int x_this_green, .int x_this_absent, .int r20496, .ref a_this_cars, .ref a_this_gaps, .ref a_this_known, .ref a_this_left, .ref a_this_leaves, .int x_this_pressed, .int x_this_crossed, .int x_this_went, .int x_this_harmed])), (a_arg0, .inr (4, [.int x_arg0_cycle, .int x_arg0_green, .int x_arg0_rule, .int x_arg0_least, .int x_arg0_away, .int x_arg0_statements, .int x_arg0_kinds, .ref a_arg0_calm, .ref a_arg0_pace, .ref a_arg0_trusts, .int x_arg0_walkers, .ref a_arg0_kindOf, .ref a_arg0_comesAt, .ref a_arg0_comers, .ref a_arg0_names, .ref a_arg0_code, .int x_arg0_size, .ref a_arg0_spans])), (a_arg0_spans, .inl (cy 0, 6, .inl g_arg0_spans)), (a_arg0_code, .inl (cy 0, 1600, .inl g_arg0_code))] := hD
  subst hQ; exact k_vret hx hb hr hlk ((a_arg0, (-1), r20496)) hS ⟨ib_w (-1) (-1) (ib_c (-1) (-1) (-1) (by decide)) (by decide), ib_w 0 1 h20498 (by decide)⟩ hP hD (Nat.le_of_ble_eq_true rfl) (Nat.le_of_ble_eq_true rfl) dX7_take_21
set_option maxHeartbeats 4000000 in
set_option maxRecDepth 100000 in
theorem s_X7_walkers (l : Launch) (dC : Nat → ClassId) (dI : Nat → Nat → Nat) (cy : Nat → ClassId) (sq : Nat → Nat) (a_this : Nat) (a_this_machine : Nat) (a_this_plan : Nat) (x_this_plan_cycle : Int32) (x_this_plan_green : Int32) (x_this_plan_rule : Int32) (x_this_plan_least : Int32) (x_this_plan_away : Int32) (x_this_plan_statements : Int32) (x_this_plan_kinds : Int32) (a_this_plan_calm : Nat) (a_this_plan_pace : Nat) (a_this_plan_trusts : Nat) (x_this_plan_walkers : Int32) (a_this_plan_kindOf : Nat) (a_this_plan_comesAt : Nat) (a_this_plan_comers : Nat) (a_this_plan_names : Nat) (a_this_plan_code : Nat) (x_this_plan_size : Int32) (a_this_plan_spans : Nat) (x_this_day : Int32) (a_this_trusts : Nat) (x_this_rule : Int32) (x_this_green : Int32) (x_this_absent : Int32) (x_this_asksReds : Int32) (a_this_cars : Nat) (a_this_gaps : Nat) (a_this_known : Nat) (a_this_left : Nat) (a_this_leaves : Nat) (x_this_pressed : Int32) (x_this_crossed : Int32) (x_this_went : Int32) (x_this_harmed : Int32) (hx_this_plan_cycle : ib x_this_plan_cycle 0 120) (hx_this_plan_least : ib x_this_plan_least 0 99) (hx_this_plan_statements : ib x_this_plan_statements 0 81) (hx_this_plan_kinds : ib x_this_plan_kinds 0 6) (hx_this_plan_walkers : ib x_this_plan_walkers 0 12) (hx_this_plan_size : ib x_this_plan_size 0 1600) (hx_this_asksReds : ib x_this_asksReds 0 1) : k_Met l yX7_walkers cX7_walkers 1 (some .int) { frames := 0, cells := 0, slots := 0, locals := 0 } dC dI cy sq [.ref a_this] [(a_this, .inr (7, [.ref a_this_machine, .ref a_this_plan, .int x_this_day, .ref a_this_trusts, .int x_this_rule, .int x_this_green, .int x_this_absent, .int x_this_asksReds, .ref a_this_cars, .ref a_this_gaps, .ref a_this_known, .ref a_this_left, .ref a_this_leaves, .int x_this_pressed, .int x_this_crossed, .int x_this_went, .int x_this_harmed])), (a_this_plan, .inr (4, [.int x_this_plan_cycle, .int x_this_plan_green, .int x_this_plan_rule, .int x_this_plan_least, .int x_this_plan_away, .int x_this_plan_statements, .int x_this_plan_kinds, .ref a_this_plan_calm, .ref a_this_plan_pace, .ref a_this_plan_trusts, .int x_this_plan_walkers, .ref a_this_plan_kindOf, .ref a_this_plan_comesAt, .ref a_this_plan_comers, .ref a_this_plan_names, .ref a_this_plan_code, .int x_this_plan_size, .ref a_this_plan_spans]))] (k_Qi dC dI (fun (r : Int32) (_ : Unit) => ib r 0 12) (fun _ : Unit => [(a_this, .inr (7, [.ref a_this_machine, .ref a_this_plan, .int x_this_day, .ref a_this_trusts, .int x_this_rule, .int x_this_green, .int x_this_absent, .int x_this_asksReds, .ref a_this_cars, .ref a_this_gaps, .ref a_this_known, .ref a_this_left, .ref a_this_leaves, .int x_this_pressed, .int x_this_crossed, .int x_this_went, .int x_this_harmed])), (a_this_plan, .inr (4, [.int x_this_plan_cycle, .int x_this_plan_green, .int x_this_plan_rule, .int x_this_plan_least, .int x_this_plan_away, .int x_this_plan_statements, .int x_this_plan_kinds, .ref a_this_plan_calm, .ref a_this_plan_pace, .ref a_this_plan_trusts, .int x_this_plan_walkers, .ref a_this_plan_kindOf, .ref a_this_plan_comesAt, .ref a_this_plan_comers, .ref a_this_plan_names, .ref a_this_plan_code, .int x_this_plan_size, .ref a_this_plan_spans]))])) := by
  refine k_ofW2 (by decide +kernel) (Nat.le_of_ble_eq_true rfl) ?_
  intro p e s m below meth c A ls H locs args Q hQ C0 hr hlk hin hP hD hA hS hl
  have C0 : k_cx p s m args c cX7_walkers 1 RX7 dC dI cy sq := C0
  have hx := C0.1
  have hb := C0.2.1
  have hl : lv_has ls 1 [(0, .ref a_this)] := hl
  refine lv_aload_n hx hb dX7_walkers_0 rfl (lv_at hl 0 rfl) ?_
  refine k_get C0 fg_X7_63 hP 0 rfl rfl dX7_walkers_1 ?_
  refine k_get C0 fg_X7_137 hP 1 rfl rfl dX7_walkers_4 ?_
  subst hQ; exact k_iret hx hb hr hlk rfl () hS (ib_w 0 12 hx_this_plan_walkers (by decide)) hP hD (Nat.le_of_ble_eq_true rfl) (Nat.le_of_ble_eq_true rfl) dX7_walkers_7
set_option maxHeartbeats 4000000 in
set_option maxRecDepth 100000 in
theorem s_X8_accepts (l : Launch) (dC : Nat → ClassId) (dI : Nat → Nat → Nat) (cy : Nat → ClassId) (sq : Nat → Nat) (a_this : Nat) (a_this_street : Nat) (a_this_seenWalker : Nat) (a_this_seenSecond : Nat) (x_this_rows : Int32) (x_this_compared : Int32) (a_this_seconds : Nat) (x_this_found : Int32) (x_this_foundRules : Int32) (x_this_foundGreen : Int32) (x_this_chosen : Int32) (x_this_chosenLeft : Int32) (a_arg0 : Nat) (g_arg0 : Nat → Int32) (p1 : Int32) (p2 : Int32) (hx_this_rows : ib x_this_rows 0 16) (hx_this_compared : ib x_this_compared 0 1) (hx_this_found : ib x_this_found 0 60) (hg_arg0 : ia g_arg0 1600 0 255) : k_Met l yX8_accepts cX8_accepts 6 (some .boolean) { frames := 0, cells := 0, slots := 0, locals := 0 } dC dI cy sq [.ref a_this, .ref a_arg0, .int p1, .int p2] [(a_this, .inr (8, [.ref a_this_street, .ref a_this_seenWalker, .ref a_this_seenSecond, .int x_this_rows, .int x_this_compared, .ref a_this_seconds, .int x_this_found, .int x_this_foundRules, .int x_this_foundGreen, .int x_this_chosen, .int x_this_chosenLeft])), (a_arg0, .inl (cy 0, 1600, .inl g_arg0))] (k_Qi dC dI (fun (r : Int32) (_ : Unit) => ib r 0 1 ∧ (¬ r = 0 → ib p1 3 48)) (fun _ : Unit => [(a_this, .inr (8, [.ref a_this_street, .ref a_this_seenWalker, .ref a_this_seenSecond, .int x_this_rows, .int x_this_compared, .ref a_this_seconds, .int x_this_found, .int x_this_foundRules, .int x_this_foundGreen, .int x_this_chosen, .int x_this_chosenLeft])), (a_arg0, .inl (cy 0, 1600, .inl g_arg0))])) := by
  refine k_ofW2 (by decide +kernel) (Nat.le_of_ble_eq_true rfl) ?_
  intro p e s m below meth c A ls H locs args Q hQ C0 hr hlk hin hP hD hA hS hl
  have C0 : k_cx p s m args c cX8_accepts 6 RX8 dC dI cy sq := C0
  have hx := C0.1
  have hb := C0.2.1
  have hl : lv_has ls 6 [(0, .ref a_this), (1, .ref a_arg0), (2, .int p1), (3, .int p2)] := hl
  have jn22 : ∀ (n : Nat) (J22_l4 : Int32) (H : Heap) (locs : List Loc) (ls : Array Slot), ib p1 3 48 → ib J22_l4 0 50 → 51 ≤ J22_l4.toInt + (n : Int) → va_P (dC, dI) vwCl [(a_this, .inr (8, [.ref a_this_street, .ref a_this_seenWalker, .ref a_this_seenSecond, .int x_this_rows, .int x_this_compared, .ref a_this_seconds, .int x_this_found, .int x_this_foundRules, .int x_this_foundGreen, .int x_this_chosen, .int x_this_chosenLeft])), (a_arg0, .inl (cy 0, 1600, .inl g_arg0))] H → va_D A [(a_this, .inr (8, [.ref a_this_street, .ref a_this_seenWalker, .ref a_this_seenSecond, .int x_this_rows, .int x_this_compared, .ref a_this_seconds, .int x_this_found, .int x_this_foundRules, .int x_this_foundGreen, .int x_this_chosen, .int x_this_chosenLeft])), (a_arg0, .inl (cy 0, 1600, .inl g_arg0))] → va_S A s.heap H locs → lv_has ls 6 [(0, .ref a_this), (1, .ref a_arg0), (2, .int p1), (3, .int p2), (4, .int J22_l4)] → W p l e { frames := 0, cells := 0, slots := 0, locals := 0 } s m args below meth c H locs 0 0 Q (F0 m 22 ls []) := by
    intro n
    induction n with
    | zero =>
      intro J22_l4 H locs ls hJ22_l2 hJ22_l4 hm
      exact absurd hm (by have := hJ22_l4; unfold ib at this; omega)
    | succ n ih =>
      intro J22_l4 H locs ls hJ22_l2 hJ22_l4 hm22 hP hD hS hl
      have ih22 := ih
      refine lv_iload hx hb dX8_accepts_22 (lv_at hl 4 rfl) ?_
      refine lv_iload_n hx hb dX8_accepts_24 rfl (lv_at hl 2 rfl) ?_
      refine lv_icmp_ge (tgt := 78) hx hb dX8_accepts_25 (by decide) (fun c21491 => ?_) (fun c21491 => ?_)
      · have h21492 := ib_le hJ22_l2 hJ22_l4 c21491
        have h21493 : ib J22_l4 3 50 := ib_w 3 50 h21492.2 (by decide)
        refine lv_iconst (v := 1) hx hb dX8_accepts_78 (by decide) ?_
        subst hQ; exact k_iret hx hb hr hlk (k_nb 1 (by decide)) () hS ⟨ib_w 0 1 (ib_c 1 1 1 (by decide)) (by decide), fun _ => ib_w 3 48 hJ22_l2 (by decide)⟩ hP hD (Nat.le_of_ble_eq_true rfl) (Nat.le_of_ble_eq_true rfl) dX8_accepts_79
      · have h21494 := ib_nle hJ22_l2 hJ22_l4 c21491
        have h21495 : ib J22_l4 0 47 := ib_w 0 47 h21494.2 (by decide)
        refine lv_aload_n hx hb dX8_accepts_28 rfl (lv_at hl 1 rfl) ?_
        refine lv_iload hx hb dX8_accepts_29 (lv_at hl 4 rfl) ?_
        refine lv_iconst (v := 1) hx hb dX8_accepts_31 (by decide) ?_
        refine lv_iadd hx hb dX8_accepts_32 ?_
        refine lv_topi (fun z21496 ez21496 => ?_)
        have h21497 := ib_add h21495 (ib_c 1 1 1 (by decide)) (by decide)
        rw [← ez21496] at h21497
        have h21498 : ib z21496 1 48 := ib_w 1 48 h21497.1 (by decide)
        refine va_iald hx hb C0.2.2.2.2.2.1 hP 1 0 rfl rfl (ib_in 1600 h21498 (by decide)) dX8_accepts_33 ?_
        refine lv_topi (fun z21499 ez21499 => ?_)
        have h21500 : ib z21499 0 255 := by rw [ez21499]; exact ia_at hg_arg0 (ib_in 1600 h21498 (by decide))
        refine lv_sipush (v := 256) hx hb dX8_accepts_34 (by decide) ?_
        refine lv_imul hx hb dX8_accepts_37 ?_
        refine lv_topi (fun z21501 ez21501 => ?_)
        have h21502 := ib_mul h21500 (ib_c 256 256 256 (by decide)) (by decide)
        rw [← ez21501] at h21502
        have h21503 : ib z21501 0 65280 := ib_w 0 65280 h21502.1 (by decide)
        refine lv_aload_n hx hb dX8_accepts_38 rfl (lv_at hl 1 rfl) ?_
        refine lv_iload hx hb dX8_accepts_39 (lv_at hl 4 rfl) ?_
        refine lv_iconst (v := 2) hx hb dX8_accepts_41 (by decide) ?_
        refine lv_iadd hx hb dX8_accepts_42 ?_
        refine lv_topi (fun z21504 ez21504 => ?_)
        have h21505 := ib_add h21495 (ib_c 2 2 2 (by decide)) (by decide)
        rw [← ez21504] at h21505
        have h21506 : ib z21504 2 49 := ib_w 2 49 h21505.1 (by decide)
        refine va_iald hx hb C0.2.2.2.2.2.1 hP 1 0 rfl rfl (ib_in 1600 h21506 (by decide)) dX8_accepts_43 ?_
        refine lv_topi (fun z21507 ez21507 => ?_)
        have h21508 : ib z21507 0 255 := by rw [ez21507]; exact ia_at hg_arg0 (ib_in 1600 h21506 (by decide))
        refine lv_iadd hx hb dX8_accepts_44 ?_
        refine lv_topi (fun z21509 ez21509 => ?_)
        have h21510 := ib_add h21503 h21508 (by decide)
        rw [← ez21509] at h21510
        have h21511 : ib z21509 0 65535 := ib_w 0 65535 h21510.1 (by decide)
        refine lv_istore (lv' := [(5, .int z21509), (0, .ref a_this), (1, .ref a_arg0), (2, .int p1), (3, .int p2), (4, .int J22_l4)]) hx hb dX8_accepts_45 hl (by decide) rfl (fun ls hl => ?_)
        refine lv_aload_n hx hb dX8_accepts_47 rfl (lv_at hl 2 rfl) ?_
        refine lv_iload hx hb dX8_accepts_48 (lv_at hl 5 rfl) ?_
        refine va_iald hx hb C0.2.2.2.2.2.1 hP 1 0 rfl rfl (ib_in 1600 h21495 (by decide)) dX8_accepts_50 ?_
        refine lv_topi (fun z21512 ez21512 => ?_)
        have h21513 : ib z21512 0 255 := by rw [ez21512]; exact ia_at hg_arg0 (ib_in 1600 h21495 (by decide))
        refine lv_iload_n hx hb dX8_accepts_51 rfl (lv_at hl 4 rfl) ?_
        refine lv_icmp_ge (tgt := 70) hx hb dX8_accepts_52 (by decide) (fun c21514 => ?_) (fun c21514 => ?_)
        · have h21515 := ib_le (ib_any p2) h21513 c21514
          have h21516 : ib p2 (-2147483648) 255 := ib_w (-2147483648) 255 h21515.1 (by decide)
          refine lv_iconst (v := 0) hx hb dX8_accepts_70 (by decide) ?_
          subst hQ; exact k_iret hx hb hr hlk (k_nb 0 (by decide)) () hS ⟨ib_w 0 1 (ib_c 0 0 0 (by decide)) (by decide), fun h9 => absurd rfl h9⟩ hP hD (Nat.le_of_ble_eq_true rfl) (Nat.le_of_ble_eq_true rfl) dX8_accepts_71
        · have h21517 := ib_nle (ib_any p2) h21513 c21514
          have h21518 : ib p2 1 2147483647 := ib_w 1 2147483647 h21517.1 (by decide)
          refine lv_iload hx hb dX8_accepts_55 (lv_at hl 0 rfl) ?_
          refine lv_sipush (v := 300) hx hb dX8_accepts_57 (by decide) ?_
          refine lv_icmp_lt (tgt := 72) hx hb dX8_accepts_60 (by decide) (fun c21519 => ?_) (fun c21519 => ?_)
          · have h21520 := ib_lt h21511 (ib_c 300 300 300 (by decide)) c21519
            have h21521 : ib z21509 0 299 := ib_w 0 299 h21520.1 (by decide)
            obtain ⟨z21522, ez21522⟩ : ∃ y : Int32, y = J22_l4 + 3 := ⟨_, rfl⟩
            refine lv_iinc (v := z21522) (lv' := [(4, .int z21522), (5, .int z21509), (0, .ref a_this), (1, .ref a_arg0), (2, .int p1), (3, .int p2)]) hx hb dX8_accepts_72 hl (k := 5) rfl (by rw [ez21522]; rfl) (by decide) rfl (fun ls hl => ?_)
            have h21523 := ib_add h21495 (ib_c 3 3 3 (by decide)) (by decide)
            rw [← ez21522] at h21523
            have h21524 : ib z21522 3 50 := ib_w 3 50 h21523.1 (by decide)
            refine lv_goto (tgt := 22) hx hb dX8_accepts_75 (by decide) ?_
            exact ih22 z21522 H locs ls (ib_w 3 48 hJ22_l2 (by decide)) (ib_w 0 50 h21524 (by decide)) (by have := h21523.2; have : (3 : Int32).toInt = 3 := (by decide); omega) hP hD hS (lv_sub hl [2, 3, 4, 5, 0] rfl)
          · have h21525 := ib_nlt h21511 (ib_c 300 300 300 (by decide)) c21519
            have h21526 : ib z21509 300 65535 := ib_w 300 65535 h21525.1 (by decide)
            refine lv_iload hx hb dX8_accepts_63 (lv_at hl 0 rfl) ?_
            refine lv_ldc hx hb C0.2.2.2.1 (C0.2.2.2.2.1 _ wd1197) dX8_accepts_65 ?_
            refine lv_icmp_eq (tgt := 72) hx hb dX8_accepts_67 (by decide) (fun c21527 => ?_) (fun c21527 => ?_)
            · have h21528 := ib_eq h21526 (ib_c 65535 65535 65535 (by decide)) c21527
              have h21529 : ib z21509 65535 65535 := ib_w 65535 65535 h21528.1 (by decide)
              obtain ⟨z21530, ez21530⟩ : ∃ y : Int32, y = J22_l4 + 3 := ⟨_, rfl⟩
              refine lv_iinc (v := z21530) (lv' := [(4, .int z21530), (5, .int z21509), (0, .ref a_this), (1, .ref a_arg0), (2, .int p1), (3, .int p2)]) hx hb dX8_accepts_72 hl (k := 5) rfl (by rw [ez21530]; rfl) (by decide) rfl (fun ls hl => ?_)
              have h21531 := ib_add h21495 (ib_c 3 3 3 (by decide)) (by decide)
              rw [← ez21530] at h21531
              have h21532 : ib z21530 3 50 := ib_w 3 50 h21531.1 (by decide)
              refine lv_goto (tgt := 22) hx hb dX8_accepts_75 (by decide) ?_
              exact ih22 z21530 H locs ls (ib_w 3 48 hJ22_l2 (by decide)) (ib_w 0 50 h21532 (by decide)) (by have := h21531.2; have : (3 : Int32).toInt = 3 := (by decide); omega) hP hD hS (lv_sub hl [2, 3, 4, 5, 0] rfl)
            · have h21533 : ib z21509 300 65534 := ib_w 300 65534 (ib_ne_hi 65535 h21526 (by decide) c21527) (by decide)
              refine lv_iconst (v := 0) hx hb dX8_accepts_70 (by decide) ?_
              subst hQ; exact k_iret hx hb hr hlk (k_nb 0 (by decide)) () hS ⟨ib_w 0 1 (ib_c 0 0 0 (by decide)) (by decide), fun h9 => absurd rfl h9⟩ hP hD (Nat.le_of_ble_eq_true rfl) (Nat.le_of_ble_eq_true rfl) dX8_accepts_71
  refine lv_iload_n hx hb dX8_accepts_0 rfl (lv_at hl 2 rfl) ?_
  refine lv_iconst (v := 3) hx hb dX8_accepts_1 (by decide) ?_
  refine lv_icmp_lt (tgt := 17) hx hb dX8_accepts_2 (by decide) (fun c21534 => ?_) (fun c21534 => ?_)
  · have h21535 := ib_lt (ib_any p1) (ib_c 3 3 3 (by decide)) c21534
    have h21536 : ib p1 (-2147483648) 2 := ib_w (-2147483648) 2 h21535.1 (by decide)
    refine lv_iconst (v := 0) hx hb dX8_accepts_17 (by decide) ?_
    subst hQ; exact k_iret hx hb hr hlk (k_nb 0 (by decide)) () hS ⟨ib_w 0 1 (ib_c 0 0 0 (by decide)) (by decide), fun h9 => absurd rfl h9⟩ hP hD (Nat.le_of_ble_eq_true rfl) (Nat.le_of_ble_eq_true rfl) dX8_accepts_18
  · have h21537 := ib_nlt (ib_any p1) (ib_c 3 3 3 (by decide)) c21534
    have h21538 : ib p1 3 2147483647 := ib_w 3 2147483647 h21537.1 (by decide)
    refine lv_iload_n hx hb dX8_accepts_5 rfl (lv_at hl 2 rfl) ?_
    refine lv_bipush (v := 48) hx hb dX8_accepts_6 (by decide) ?_
    refine lv_icmp_gt (tgt := 17) hx hb dX8_accepts_8 (by decide) (fun c21539 => ?_) (fun c21539 => ?_)
    · have h21540 := ib_lt (ib_c 48 48 48 (by decide)) h21538 c21539
      have h21541 : ib p1 49 2147483647 := ib_w 49 2147483647 h21540.2 (by decide)
      refine lv_iconst (v := 0) hx hb dX8_accepts_17 (by decide) ?_
      subst hQ; exact k_iret hx hb hr hlk (k_nb 0 (by decide)) () hS ⟨ib_w 0 1 (ib_c 0 0 0 (by decide)) (by decide), fun h9 => absurd rfl h9⟩ hP hD (Nat.le_of_ble_eq_true rfl) (Nat.le_of_ble_eq_true rfl) dX8_accepts_18
    · have h21542 := ib_nlt (ib_c 48 48 48 (by decide)) h21538 c21539
      have h21543 : ib p1 3 48 := ib_w 3 48 h21542.2 (by decide)
      refine lv_iload_n hx hb dX8_accepts_11 rfl (lv_at hl 2 rfl) ?_
      refine lv_iconst (v := 3) hx hb dX8_accepts_12 (by decide) ?_
      refine lv_irem hx hb dX8_accepts_13 (by decide) ?_
      refine lv_topi (fun z21544 ez21544 => ?_)
      have h21545 : ib z21544 0 2 := by rw [ez21544]; exact ib_w 0 2 (ib_rem h21543 (ib_c 3 3 3 (by decide)) (by decide)) (by decide)
      refine lv_if_eq (tgt := 19) hx hb dX8_accepts_14 (by decide) (fun c21546 => ?_) (fun c21546 => ?_)
      · have h21547 := ib_eq h21545 (ib_c 0 0 0 (by decide)) c21546
        have h21548 : ib z21544 0 0 := ib_w 0 0 h21547.1 (by decide)
        refine lv_iconst (v := 0) hx hb dX8_accepts_19 (by decide) ?_
        refine lv_istore (lv' := [(4, .int 0), (0, .ref a_this), (1, .ref a_arg0), (2, .int p1), (3, .int p2)]) hx hb dX8_accepts_20 hl (by decide) rfl (fun ls hl => ?_)
        exact jn22 52 0 H locs ls (ib_w 3 48 h21543 (by decide)) (ib_w 0 50 (ib_c 0 0 0 (by decide)) (by decide)) (by have := (ib_c 0 0 0 (by decide)); unfold ib at this; omega) hP hD hS (lv_sub hl [1, 2, 3, 4, 0] rfl)
      · have h21549 : ib z21544 1 2 := ib_w 1 2 (ib_ne_lo 0 h21545 (by decide) c21546) (by decide)
        refine lv_iconst (v := 0) hx hb dX8_accepts_17 (by decide) ?_
        subst hQ; exact k_iret hx hb hr hlk (k_nb 0 (by decide)) () hS ⟨ib_w 0 1 (ib_c 0 0 0 (by decide)) (by decide), fun h9 => absurd rfl h9⟩ hP hD (Nat.le_of_ble_eq_true rfl) (Nat.le_of_ble_eq_true rfl) dX8_accepts_18
set_option maxHeartbeats 4000000 in
set_option maxRecDepth 100000 in
theorem s_X8_clear (l : Launch) (dC : Nat → ClassId) (dI : Nat → Nat → Nat) (cy : Nat → ClassId) (sq : Nat → Nat) (a_this : Nat) (a_this_street : Nat) (a_this_seenWalker : Nat) (a_this_seenSecond : Nat) (x_this_rows : Int32) (x_this_compared : Int32) (a_this_seconds : Nat) (x_this_found : Int32) (x_this_foundRules : Int32) (x_this_foundGreen : Int32) (x_this_chosen : Int32) (x_this_chosenLeft : Int32) (hx_this_rows : ib x_this_rows 0 16) (hx_this_compared : ib x_this_compared 0 1) (hx_this_found : ib x_this_found 0 60) : k_Met l yX8_clear cX8_clear 1 none { frames := 0, cells := 0, slots := 0, locals := 0 } dC dI cy sq [.ref a_this] [(a_this, .inr (8, [.ref a_this_street, .ref a_this_seenWalker, .ref a_this_seenSecond, .int x_this_rows, .int x_this_compared, .ref a_this_seconds, .int x_this_found, .int x_this_foundRules, .int x_this_foundGreen, .int x_this_chosen, .int x_this_chosenLeft]))] (k_Qv dC dI (fun (n0 : Int32) => ib n0 0 16) (fun n0 : Int32 => [(a_this, .inr (8, [.ref a_this_street, .ref a_this_seenWalker, .ref a_this_seenSecond, .int n0, .int x_this_compared, .ref a_this_seconds, .int x_this_found, .int x_this_foundRules, .int x_this_foundGreen, .int x_this_chosen, .int x_this_chosenLeft]))])) := by
  refine k_ofW2 (by decide +kernel) (Nat.le_of_ble_eq_true rfl) ?_
  intro p e s m below meth c A ls H locs args Q hQ C0 hr hlk hin hP hD hA hS hl
  have C0 : k_cx p s m args c cX8_clear 1 RX8 dC dI cy sq := C0
  have hx := C0.1
  have hb := C0.2.1
  have hl : lv_has ls 1 [(0, .ref a_this)] := hl
  refine lv_aload_n hx hb dX8_clear_0 rfl (lv_at hl 0 rfl) ?_
  refine lv_iconst (v := 0) hx hb dX8_clear_1 (by decide) ?_
  refine k_put C0 fp_X8_18 hP hD hS 0 rfl rfl rfl (Nat.le_of_ble_eq_true rfl) dX8_clear_2 (fun H locs hP hD hS => ?_)
  have hP : va_P (dC, dI) vwCl [(a_this, .inr (8, [.ref a_this_street, .ref a_this_seenWalker, .ref a_this_seenSecond, .int 0, .int x_this_compared, .ref a_this_seconds, .int x_this_found, .int x_this_foundRules, .int x_this_foundGreen, .int x_this_chosen, .int x_this_chosenLeft]))] H := hP
  have hD : va_D A [(a_this, .inr (8, [.ref a_this_street, .ref a_this_seenWalker, .ref a_this_seenSecond, .int 0, .int x_this_compared, .ref a_this_seconds, .int x_this_found, .int x_this_foundRules, .int x_this_foundGreen, .int x_this_chosen, .int x_this_chosenLeft]))] := hD
  subst hQ; exact k_vret hx hb hr hlk 0 hS (ib_w 0 16 (ib_c 0 0 0 (by decide)) (by decide)) hP hD (Nat.le_of_ble_eq_true rfl) (Nat.le_of_ble_eq_true rfl) dX8_clear_5
set_option maxHeartbeats 4000000 in
set_option maxRecDepth 100000 in
theorem s_X8_forget (l : Launch) (dC : Nat → ClassId) (dI : Nat → Nat → Nat) (cy : Nat → ClassId) (sq : Nat → Nat) (a_this : Nat) (a_this_street : Nat) (a_this_seenWalker : Nat) (a_this_seenSecond : Nat) (x_this_rows : Int32) (x_this_compared : Int32) (a_this_seconds : Nat) (x_this_found : Int32) (x_this_foundRules : Int32) (x_this_foundGreen : Int32) (x_this_chosen : Int32) (x_this_chosenLeft : Int32) (hx_this_rows : ib x_this_rows 0 16) (hx_this_compared : ib x_this_compared 0 1) (hx_this_found : ib x_this_found 0 60) : k_Met l yX8_forget cX8_forget 1 none { frames := 0, cells := 0, slots := 0, locals := 0 } dC dI cy sq [.ref a_this] [(a_this, .inr (8, [.ref a_this_street, .ref a_this_seenWalker, .ref a_this_seenSecond, .int x_this_rows, .int x_this_compared, .ref a_this_seconds, .int x_this_found, .int x_this_foundRules, .int x_this_foundGreen, .int x_this_chosen, .int x_this_chosenLeft]))] (k_Qv dC dI (fun (n0 : Int32) => ib n0 0 1) (fun n0 : Int32 => [(a_this, .inr (8, [.ref a_this_street, .ref a_this_seenWalker, .ref a_this_seenSecond, .int x_this_rows, .int n0, .ref a_this_seconds, .int x_this_found, .int x_this_foundRules, .int x_this_foundGreen, .int x_this_chosen, .int x_this_chosenLeft]))])) := by
  refine k_ofW2 (by decide +kernel) (Nat.le_of_ble_eq_true rfl) ?_
  intro p e s m below meth c A ls H locs args Q hQ C0 hr hlk hin hP hD hA hS hl
  have C0 : k_cx p s m args c cX8_forget 1 RX8 dC dI cy sq := C0
  have hx := C0.1
  have hb := C0.2.1
  have hl : lv_has ls 1 [(0, .ref a_this)] := hl
  refine lv_aload_n hx hb dX8_forget_0 rfl (lv_at hl 0 rfl) ?_
  refine lv_iconst (v := 0) hx hb dX8_forget_1 (by decide) ?_
  refine k_put C0 fp_X8_22 hP hD hS 0 rfl (k_nb 0 (by decide)) (k_fb 0 (by decide)) (Nat.le_of_ble_eq_true rfl) dX8_forget_2 (fun H locs hP hD hS => ?_)
  have hP : va_P (dC, dI) vwCl [(a_this, .inr (8, [.ref a_this_street, .ref a_this_seenWalker, .ref a_this_seenSecond, .int x_this_rows, .int 0, .ref a_this_seconds, .int x_this_found, .int x_this_foundRules, .int x_this_foundGreen, .int x_this_chosen, .int x_this_chosenLeft]))] H := hP
  have hD : va_D A [(a_this, .inr (8, [.ref a_this_street, .ref a_this_seenWalker, .ref a_this_seenSecond, .int x_this_rows, .int 0, .ref a_this_seconds, .int x_this_found, .int x_this_foundRules, .int x_this_foundGreen, .int x_this_chosen, .int x_this_chosenLeft]))] := hD
  subst hQ; exact k_vret hx hb hr hlk 0 hS (ib_w 0 1 (ib_c 0 0 0 (by decide)) (by decide)) hP hD (Nat.le_of_ble_eq_true rfl) (Nat.le_of_ble_eq_true rfl) dX8_forget_5
set_option maxHeartbeats 4000000 in
set_option maxRecDepth 100000 in
theorem s_X8_isSo (l : Launch) (dC : Nat → ClassId) (dI : Nat → Nat → Nat) (cy : Nat → ClassId) (sq : Nat → Nat) (a_this : Nat) (a_this_street : Nat) (a_this_street_machine : Nat) (a_this_street_plan : Nat) (x_this_street_day : Int32) (a_this_street_trusts : Nat) (x_this_street_rule : Int32) (x_this_street_green : Int32) (x_this_street_absent : Int32) (x_this_street_asksReds : Int32) (a_this_street_cars : Nat) (a_this_street_gaps : Nat) (a_this_street_known : Nat) (a_this_street_left : Nat) (a_this_street_leaves : Nat) (g_this_street_leaves : Nat → Int32) (x_this_street_pressed : Int32) (x_this_street_crossed : Int32) (x_this_street_went : Int32) (x_this_street_harmed : Int32) (a_this_seenWalker : Nat) (g_this_seenWalker : Nat → Int32) (a_this_seenSecond : Nat) (g_this_seenSecond : Nat → Int32) (x_this_rows : Int32) (x_this_compared : Int32) (a_this_seconds : Nat) (x_this_found : Int32) (x_this_foundRules : Int32) (x_this_foundGreen : Int32) (x_this_chosen : Int32) (x_this_chosenLeft : Int32) (hx_this_street_asksReds : ib x_this_street_asksReds 0 1) (hg_this_seenWalker : ia g_this_seenWalker 16 0 11) (hx_this_rows : ib x_this_rows 0 16) (hx_this_compared : ib x_this_compared 0 1) (hx_this_found : ib x_this_found 0 60) : k_Met l yX8_isSo cX8_isSo 2 (some .boolean) { frames := 0, cells := 0, slots := 0, locals := 0 } dC dI cy sq [.ref a_this] [(a_this, .inr (8, [.ref a_this_street, .ref a_this_seenWalker, .ref a_this_seenSecond, .int x_this_rows, .int x_this_compared, .ref a_this_seconds, .int x_this_found, .int x_this_foundRules, .int x_this_foundGreen, .int x_this_chosen, .int x_this_chosenLeft])), (a_this_street, .inr (7, [.ref a_this_street_machine, .ref a_this_street_plan, .int x_this_street_day, .ref a_this_street_trusts, .int x_this_street_rule, .int x_this_street_green, .int x_this_street_absent, .int x_this_street_asksReds, .ref a_this_street_cars, .ref a_this_street_gaps, .ref a_this_street_known, .ref a_this_street_left, .ref a_this_street_leaves, .int x_this_street_pressed, .int x_this_street_crossed, .int x_this_street_went, .int x_this_street_harmed])), (a_this_seenWalker, .inl (cy 0, 16, .inl g_this_seenWalker)), (a_this_street_leaves, .inl (cy 0, 12, .inl g_this_street_leaves)), (a_this_seenSecond, .inl (cy 0, 16, .inl g_this_seenSecond))] (k_Qi dC dI (fun (r : Int32) (_ : Unit) => ib r 0 1) (fun _ : Unit => [(a_this, .inr (8, [.ref a_this_street, .ref a_this_seenWalker, .ref a_this_seenSecond, .int x_this_rows, .int x_this_compared, .ref a_this_seconds, .int x_this_found, .int x_this_foundRules, .int x_this_foundGreen, .int x_this_chosen, .int x_this_chosenLeft])), (a_this_street, .inr (7, [.ref a_this_street_machine, .ref a_this_street_plan, .int x_this_street_day, .ref a_this_street_trusts, .int x_this_street_rule, .int x_this_street_green, .int x_this_street_absent, .int x_this_street_asksReds, .ref a_this_street_cars, .ref a_this_street_gaps, .ref a_this_street_known, .ref a_this_street_left, .ref a_this_street_leaves, .int x_this_street_pressed, .int x_this_street_crossed, .int x_this_street_went, .int x_this_street_harmed])), (a_this_seenWalker, .inl (cy 0, 16, .inl g_this_seenWalker)), (a_this_street_leaves, .inl (cy 0, 12, .inl g_this_street_leaves)), (a_this_seenSecond, .inl (cy 0, 16, .inl g_this_seenSecond))])) := by
  refine k_ofW2 (by decide +kernel) (Nat.le_of_ble_eq_true rfl) ?_
  intro p e s m below meth c A ls H locs args Q hQ C0 hr hlk hin hP hD hA hS hl
  have C0 : k_cx p s m args c cX8_isSo 2 RX8 dC dI cy sq := C0
  have hx := C0.1
  have hb := C0.2.1
  have hl : lv_has ls 2 [(0, .ref a_this)] := hl
  have jn2 : ∀ (n : Nat) (J2_l1 : Int32) (H : Heap) (locs : List Loc) (ls : Array Slot), ib J2_l1 0 16 → 17 ≤ J2_l1.toInt + (n : Int) → va_P (dC, dI) vwCl [(a_this, .inr (8, [.ref a_this_street, .ref a_this_seenWalker, .ref a_this_seenSecond, .int x_this_rows, .int x_this_compared, .ref a_this_seconds, .int x_this_found, .int x_this_foundRules, .int x_this_foundGreen, .int x_this_chosen, .int x_this_chosenLeft])), (a_this_street, .inr (7, [.ref a_this_street_machine, .ref a_this_street_plan, .int x_this_street_day, .ref a_this_street_trusts, .int x_this_street_rule, .int x_this_street_green, .int x_this_street_absent, .int x_this_street_asksReds, .ref a_this_street_cars, .ref a_this_street_gaps, .ref a_this_street_known, .ref a_this_street_left, .ref a_this_street_leaves, .int x_this_street_pressed, .int x_this_street_crossed, .int x_this_street_went, .int x_this_street_harmed])), (a_this_seenWalker, .inl (cy 0, 16, .inl g_this_seenWalker)), (a_this_street_leaves, .inl (cy 0, 12, .inl g_this_street_leaves)), (a_this_seenSecond, .inl (cy 0, 16, .inl g_this_seenSecond))] H → va_D A [(a_this, .inr (8, [.ref a_this_street, .ref a_this_seenWalker, .ref a_this_seenSecond, .int x_this_rows, .int x_this_compared, .ref a_this_seconds, .int x_this_found, .int x_this_foundRules, .int x_this_foundGreen, .int x_this_chosen, .int x_this_chosenLeft])), (a_this_street, .inr (7, [.ref a_this_street_machine, .ref a_this_street_plan, .int x_this_street_day, .ref a_this_street_trusts, .int x_this_street_rule, .int x_this_street_green, .int x_this_street_absent, .int x_this_street_asksReds, .ref a_this_street_cars, .ref a_this_street_gaps, .ref a_this_street_known, .ref a_this_street_left, .ref a_this_street_leaves, .int x_this_street_pressed, .int x_this_street_crossed, .int x_this_street_went, .int x_this_street_harmed])), (a_this_seenWalker, .inl (cy 0, 16, .inl g_this_seenWalker)), (a_this_street_leaves, .inl (cy 0, 12, .inl g_this_street_leaves)), (a_this_seenSecond, .inl (cy 0, 16, .inl g_this_seenSecond))] → va_S A s.heap H locs → lv_has ls 2 [(0, .ref a_this), (1, .int J2_l1)] → W p l e { frames := 0, cells := 0, slots := 0, locals := 0 } s m args below meth c H locs 0 0 Q (F0 m 2 ls []) := by
    intro n
    induction n with
    | zero =>
      intro J2_l1 H locs ls hJ2_l1 hm
      exact absurd hm (by have := hJ2_l1; unfold ib at this; omega)
    | succ n ih =>
      intro J2_l1 H locs ls hJ2_l1 hm2 hP hD hS hl
      have ih2 := ih
      refine lv_iload_n hx hb dX8_isSo_2 rfl (lv_at hl 1 rfl) ?_
      refine lv_aload_n hx hb dX8_isSo_3 rfl (lv_at hl 0 rfl) ?_
      refine k_get C0 fg_X8_18 hP 0 rfl rfl dX8_isSo_4 ?_
      refine lv_icmp_ge (tgt := 41) hx hb dX8_isSo_7 (by decide) (fun c23904 => ?_) (fun c23904 => ?_)
      · have h23905 := ib_le hx_this_rows hJ2_l1 c23904
        refine lv_iconst (v := 1) hx hb dX8_isSo_41 (by decide) ?_
        subst hQ; exact k_iret hx hb hr hlk (k_nb 1 (by decide)) () hS (ib_w 0 1 (ib_c 1 1 1 (by decide)) (by decide)) hP hD (Nat.le_of_ble_eq_true rfl) (Nat.le_of_ble_eq_true rfl) dX8_isSo_42
      · have h23906 := ib_nle hx_this_rows hJ2_l1 c23904
        have h23907 : ib x_this_rows 1 16 := ib_w 1 16 h23906.1 (by decide)
        have h23908 : ib J2_l1 0 15 := ib_w 0 15 h23906.2 (by decide)
        refine lv_aload_n hx hb dX8_isSo_10 rfl (lv_at hl 0 rfl) ?_
        refine k_get C0 fg_X8_44 hP 0 rfl rfl dX8_isSo_11 ?_
        refine k_get C0 fg_X8_63 hP 1 rfl rfl dX8_isSo_14 ?_
        refine lv_aload_n hx hb dX8_isSo_17 rfl (lv_at hl 0 rfl) ?_
        refine k_get C0 fg_X8_9 hP 0 rfl rfl dX8_isSo_18 ?_
        refine lv_iload_n hx hb dX8_isSo_21 rfl (lv_at hl 1 rfl) ?_
        refine va_iald hx hb C0.2.2.2.2.2.1 hP 2 0 rfl rfl (ib_in 16 h23908 (by decide)) dX8_isSo_22 ?_
        refine lv_topi (fun z23909 ez23909 => ?_)
        have h23910 : ib z23909 0 11 := by rw [ez23909]; exact ia_at hg_this_seenWalker (ib_in 16 h23908 (by decide))
        refine va_iald hx hb C0.2.2.2.2.2.1 hP 3 0 rfl rfl (ib_in 12 h23910 (by decide)) dX8_isSo_23 ?_
        refine lv_topi (fun z23911 ez23911 => ?_)
        refine lv_aload_n hx hb dX8_isSo_24 rfl (lv_at hl 0 rfl) ?_
        refine k_get C0 fg_X8_15 hP 0 rfl rfl dX8_isSo_25 ?_
        refine lv_iload_n hx hb dX8_isSo_28 rfl (lv_at hl 1 rfl) ?_
        refine va_iald hx hb C0.2.2.2.2.2.1 hP 4 0 rfl rfl (ib_in 16 h23908 (by decide)) dX8_isSo_29 ?_
        refine lv_topi (fun z23912 ez23912 => ?_)
        refine lv_icmp_eq (tgt := 35) hx hb dX8_isSo_30 (by decide) (fun c23913 => ?_) (fun c23913 => ?_)
        · have h23914 := ib_eq (ib_any z23911) (ib_any z23912) c23913
          obtain ⟨z23915, ez23915⟩ : ∃ y : Int32, y = J2_l1 + 1 := ⟨_, rfl⟩
          refine lv_iinc (v := z23915) (lv' := [(1, .int z23915), (0, .ref a_this)]) hx hb dX8_isSo_35 hl (k := 1) rfl (by rw [ez23915]; rfl) (by decide) rfl (fun ls hl => ?_)
          have h23916 := ib_add h23908 (ib_c 1 1 1 (by decide)) (by decide)
          rw [← ez23915] at h23916
          have h23917 : ib z23915 1 16 := ib_w 1 16 h23916.1 (by decide)
          refine lv_goto (tgt := 2) hx hb dX8_isSo_38 (by decide) ?_
          exact ih2 z23915 H locs ls (ib_w 0 16 h23917 (by decide)) (by have := h23916.2; have : (1 : Int32).toInt = 1 := (by decide); omega) hP hD hS (lv_sub hl [1, 0] rfl)
        · skip
          refine lv_iconst (v := 0) hx hb dX8_isSo_33 (by decide) ?_
          subst hQ; exact k_iret hx hb hr hlk (k_nb 0 (by decide)) () hS (ib_w 0 1 (ib_c 0 0 0 (by decide)) (by decide)) hP hD (Nat.le_of_ble_eq_true rfl) (Nat.le_of_ble_eq_true rfl) dX8_isSo_34
  refine lv_iconst (v := 0) hx hb dX8_isSo_0 (by decide) ?_
  refine lv_istore_n (lv' := [(1, .int 0), (0, .ref a_this)]) hx hb dX8_isSo_1 rfl hl (by decide) rfl (fun ls hl => ?_)
  exact jn2 18 0 H locs ls (ib_w 0 16 (ib_c 0 0 0 (by decide)) (by decide)) (by have := (ib_c 0 0 0 (by decide)); unfold ib at this; omega) hP hD hS (lv_sub hl [1, 0] rfl)
set_option maxHeartbeats 4000000 in
set_option maxRecDepth 100000 in
theorem s_X9_bit (l : Launch) (dC : Nat → ClassId) (dI : Nat → Nat → Nat) (cy : Nat → ClassId) (sq : Nat → Nat) (p0 : Int32) (p1 : Int32) (hp1 : ib p1 0 11) : k_Met l yX9_bit cX9_bit 2 (some .int) { frames := 0, cells := 0, slots := 0, locals := 0 } dC dI cy sq [.int p0, .int p1] [] (k_Qi dC dI (fun (r : Int32) (_ : Unit) => ib r 0 1) (fun _ : Unit => [])) := by
  refine k_ofW2 (by decide +kernel) (Nat.le_of_ble_eq_true rfl) ?_
  intro p e s m below meth c A ls H locs args Q hQ C0 hr hlk hin hP hD hA hS hl
  have C0 : k_cx p s m args c cX9_bit 2 RX9 dC dI cy sq := C0
  have hx := C0.1
  have hb := C0.2.1
  have hl : lv_has ls 2 [(0, .int p0), (1, .int p1)] := hl
  refine lv_iload_n hx hb dX9_bit_0 rfl (lv_at hl 0 rfl) ?_
  refine lv_iload_n hx hb dX9_bit_1 rfl (lv_at hl 1 rfl) ?_
  refine lv_ishr hx hb dX9_bit_2 ?_
  refine lv_topi (fun z25749 ez25749 => ?_)
  refine lv_iconst (v := 1) hx hb dX9_bit_3 (by decide) ?_
  refine lv_iand hx hb dX9_bit_4 ?_
  refine lv_topi (fun z25750 ez25750 => ?_)
  have h25751 : ib z25750 0 1 := by rw [ez25750]; exact ib_and 1 (by decide) (by decide) 1 (by decide)
  subst hQ; exact k_iret hx hb hr hlk rfl () hS (ib_w 0 1 h25751 (by decide)) hP hD (Nat.le_of_ble_eq_true rfl) (Nat.le_of_ble_eq_true rfl) dX9_bit_5
set_option maxHeartbeats 4000000 in
set_option maxRecDepth 100000 in
theorem s_X9_stands (l : Launch) (dC : Nat → ClassId) (dI : Nat → Nat → Nat) (cy : Nat → ClassId) (sq : Nat → Nat) (a_this : Nat) (a_this_tape : Nat) (x_this_tapeSize : Int32) (a_this_plan : Nat) (x_this_plan_cycle : Int32) (x_this_plan_green : Int32) (x_this_plan_rule : Int32) (x_this_plan_least : Int32) (x_this_plan_away : Int32) (x_this_plan_statements : Int32) (x_this_plan_kinds : Int32) (a_this_plan_calm : Nat) (a_this_plan_pace : Nat) (a_this_plan_trusts : Nat) (x_this_plan_walkers : Int32) (a_this_plan_kindOf : Nat) (a_this_plan_comesAt : Nat) (a_this_plan_comers : Nat) (a_this_plan_names : Nat) (a_this_plan_code : Nat) (x_this_plan_size : Int32) (a_this_plan_spans : Nat) (a_this_spare : Nat) (a_this_now : Nat) (a_this_history : Nat) (a_this_machine : Nat) (a_this_reader : Nat) (a_this_street : Nat) (a_this_choice : Nat) (a_this_ahead : Nat) (a_this_watch : Nat) (a_this_octets : Nat) (x_this_octetCount : Int32) (a_this_refusals : Nat) (x_this_drawn : Int64) (hx_this_tapeSize : ib x_this_tapeSize 0 1600) (hx_this_plan_cycle : ib x_this_plan_cycle 0 120) (hx_this_plan_least : ib x_this_plan_least 0 99) (hx_this_plan_statements : ib x_this_plan_statements 0 81) (hx_this_plan_kinds : ib x_this_plan_kinds 0 6) (hx_this_plan_walkers : ib x_this_plan_walkers 0 12) (hx_this_plan_size : ib x_this_plan_size 0 1600) (hx_this_octetCount : ib x_this_octetCount 0 11) : k_Met l yX9_stands cX9_stands 1 (some .boolean) { frames := 0, cells := 0, slots := 0, locals := 0 } dC dI cy sq [.ref a_this] [(a_this, .inr (9, [.ref a_this_tape, .int x_this_tapeSize, .ref a_this_plan, .ref a_this_spare, .ref a_this_now, .ref a_this_history, .ref a_this_machine, .ref a_this_reader, .ref a_this_street, .ref a_this_choice, .ref a_this_ahead, .ref a_this_watch, .ref a_this_octets, .int x_this_octetCount, .ref a_this_refusals, .long x_this_drawn])), (a_this_plan, .inr (4, [.int x_this_plan_cycle, .int x_this_plan_green, .int x_this_plan_rule, .int x_this_plan_least, .int x_this_plan_away, .int x_this_plan_statements, .int x_this_plan_kinds, .ref a_this_plan_calm, .ref a_this_plan_pace, .ref a_this_plan_trusts, .int x_this_plan_walkers, .ref a_this_plan_kindOf, .ref a_this_plan_comesAt, .ref a_this_plan_comers, .ref a_this_plan_names, .ref a_this_plan_code, .int x_this_plan_size, .ref a_this_plan_spans]))] (k_Qi dC dI (fun (r : Int32) (_ : Unit) => ib r 0 1 ∧ (¬ r = 0 → ib x_this_plan_cycle 1 120)) (fun _ : Unit => [(a_this, .inr (9, [.ref a_this_tape, .int x_this_tapeSize, .ref a_this_plan, .ref a_this_spare, .ref a_this_now, .ref a_this_history, .ref a_this_machine, .ref a_this_reader, .ref a_this_street, .ref a_this_choice, .ref a_this_ahead, .ref a_this_watch, .ref a_this_octets, .int x_this_octetCount, .ref a_this_refusals, .long x_this_drawn])), (a_this_plan, .inr (4, [.int x_this_plan_cycle, .int x_this_plan_green, .int x_this_plan_rule, .int x_this_plan_least, .int x_this_plan_away, .int x_this_plan_statements, .int x_this_plan_kinds, .ref a_this_plan_calm, .ref a_this_plan_pace, .ref a_this_plan_trusts, .int x_this_plan_walkers, .ref a_this_plan_kindOf, .ref a_this_plan_comesAt, .ref a_this_plan_comers, .ref a_this_plan_names, .ref a_this_plan_code, .int x_this_plan_size, .ref a_this_plan_spans]))])) := by
  refine k_ofW2 (by decide +kernel) (Nat.le_of_ble_eq_true rfl) ?_
  intro p e s m below meth c A ls H locs args Q hQ C0 hr hlk hin hP hD hA hS hl
  have C0 : k_cx p s m args c cX9_stands 1 RX9 dC dI cy sq := C0
  have hx := C0.1
  have hb := C0.2.1
  have hl : lv_has ls 1 [(0, .ref a_this)] := hl
  refine lv_aload_n hx hb dX9_stands_0 rfl (lv_at hl 0 rfl) ?_
  refine k_get C0 fg_X9_20 hP 0 rfl rfl dX9_stands_1 ?_
  refine k_get C0 fg_X9_145 hP 1 rfl rfl dX9_stands_4 ?_
  refine lv_if_le (tgt := 14) hx hb dX9_stands_7 (by decide) (fun c25802 => ?_) (fun c25802 => ?_)
  · have h25803 := ib_le hx_this_plan_cycle (ib_c 0 0 0 (by decide)) c25802
    have h25804 : ib x_this_plan_cycle 0 0 := ib_w 0 0 h25803.1 (by decide)
    refine lv_iconst (v := 0) hx hb dX9_stands_14 (by decide) ?_
    subst hQ; exact k_iret hx hb hr hlk (k_nb 0 (by decide)) () hS ⟨ib_w 0 1 (ib_c 0 0 0 (by decide)) (by decide), fun h9 => absurd rfl h9⟩ hP hD (Nat.le_of_ble_eq_true rfl) (Nat.le_of_ble_eq_true rfl) dX9_stands_15
  · have h25805 := ib_nle hx_this_plan_cycle (ib_c 0 0 0 (by decide)) c25802
    have h25806 : ib x_this_plan_cycle 1 120 := ib_w 1 120 h25805.1 (by decide)
    refine lv_iconst (v := 1) hx hb dX9_stands_10 (by decide) ?_
    refine lv_goto (tgt := 15) hx hb dX9_stands_11 (by decide) ?_
    subst hQ; exact k_iret hx hb hr hlk (k_nb 1 (by decide)) () hS ⟨ib_w 0 1 (ib_c 1 1 1 (by decide)) (by decide), fun _ => ib_w 1 120 h25806 (by decide)⟩ hP hD (Nat.le_of_ble_eq_true rfl) (Nat.le_of_ble_eq_true rfl) dX9_stands_15
set_option maxHeartbeats 4000000 in
set_option maxRecDepth 100000 in
theorem s_X9_canLive (l : Launch) (dC : Nat → ClassId) (dI : Nat → Nat → Nat) (cy : Nat → ClassId) (sq : Nat → Nat) (a_this : Nat) (a_this_tape : Nat) (x_this_tapeSize : Int32) (a_this_plan : Nat) (x_this_plan_cycle : Int32) (x_this_plan_green : Int32) (x_this_plan_rule : Int32) (x_this_plan_least : Int32) (x_this_plan_away : Int32) (x_this_plan_statements : Int32) (x_this_plan_kinds : Int32) (a_this_plan_calm : Nat) (a_this_plan_pace : Nat) (a_this_plan_trusts : Nat) (x_this_plan_walkers : Int32) (a_this_plan_kindOf : Nat) (a_this_plan_comesAt : Nat) (a_this_plan_comers : Nat) (a_this_plan_names : Nat) (a_this_plan_code : Nat) (x_this_plan_size : Int32) (a_this_plan_spans : Nat) (a_this_spare : Nat) (a_this_now : Nat) (x_this_now_day : Int32) (x_this_now_rule : Int32) (x_this_now_green : Int32) (a_this_now_trusts : Nat) (a_this_history : Nat) (a_this_machine : Nat) (a_this_reader : Nat) (a_this_street : Nat) (a_this_choice : Nat) (a_this_ahead : Nat) (a_this_watch : Nat) (a_this_octets : Nat) (x_this_octetCount : Int32) (a_this_refusals : Nat) (x_this_drawn : Int64) (p0 : Int32) (hx_this_tapeSize : ib x_this_tapeSize 0 1600) (hx_this_plan_cycle : ib x_this_plan_cycle 0 120) (hx_this_plan_least : ib x_this_plan_least 0 99) (hx_this_plan_statements : ib x_this_plan_statements 0 81) (hx_this_plan_kinds : ib x_this_plan_kinds 0 6) (hx_this_plan_walkers : ib x_this_plan_walkers 0 12) (hx_this_plan_size : ib x_this_plan_size 0 1600) (hx_this_octetCount : ib x_this_octetCount 0 11) : k_Met l yX9_canLive cX9_canLive 2 (some .boolean) { frames := 1, cells := 0, slots := 0, locals := 20 } dC dI cy sq [.ref a_this, .int p0] [(a_this, .inr (9, [.ref a_this_tape, .int x_this_tapeSize, .ref a_this_plan, .ref a_this_spare, .ref a_this_now, .ref a_this_history, .ref a_this_machine, .ref a_this_reader, .ref a_this_street, .ref a_this_choice, .ref a_this_ahead, .ref a_this_watch, .ref a_this_octets, .int x_this_octetCount, .ref a_this_refusals, .long x_this_drawn])), (a_this_plan, .inr (4, [.int x_this_plan_cycle, .int x_this_plan_green, .int x_this_plan_rule, .int x_this_plan_least, .int x_this_plan_away, .int x_this_plan_statements, .int x_this_plan_kinds, .ref a_this_plan_calm, .ref a_this_plan_pace, .ref a_this_plan_trusts, .int x_this_plan_walkers, .ref a_this_plan_kindOf, .ref a_this_plan_comesAt, .ref a_this_plan_comers, .ref a_this_plan_names, .ref a_this_plan_code, .int x_this_plan_size, .ref a_this_plan_spans])), (a_this_now, .inr (6, [.int x_this_now_day, .int x_this_now_rule, .int x_this_now_green, .ref a_this_now_trusts]))] (k_Qi dC dI (fun (r : Int32) (_ : Unit) => ib r 0 1 ∧ (¬ r = 0 → ib x_this_plan_cycle 1 120) ∧ (¬ r = 0 → ib p0 1 30)) (fun _ : Unit => [(a_this, .inr (9, [.ref a_this_tape, .int x_this_tapeSize, .ref a_this_plan, .ref a_this_spare, .ref a_this_now, .ref a_this_history, .ref a_this_machine, .ref a_this_reader, .ref a_this_street, .ref a_this_choice, .ref a_this_ahead, .ref a_this_watch, .ref a_this_octets, .int x_this_octetCount, .ref a_this_refusals, .long x_this_drawn])), (a_this_plan, .inr (4, [.int x_this_plan_cycle, .int x_this_plan_green, .int x_this_plan_rule, .int x_this_plan_least, .int x_this_plan_away, .int x_this_plan_statements, .int x_this_plan_kinds, .ref a_this_plan_calm, .ref a_this_plan_pace, .ref a_this_plan_trusts, .int x_this_plan_walkers, .ref a_this_plan_kindOf, .ref a_this_plan_comesAt, .ref a_this_plan_comers, .ref a_this_plan_names, .ref a_this_plan_code, .int x_this_plan_size, .ref a_this_plan_spans])), (a_this_now, .inr (6, [.int x_this_now_day, .int x_this_now_rule, .int x_this_now_green, .ref a_this_now_trusts]))])) := by
  refine k_ofW2 (by decide +kernel) (Nat.le_of_ble_eq_true rfl) ?_
  intro p e s m below meth c A ls H locs args Q hQ C0 hr hlk hin hP hD hA hS hl
  have C0 : k_cx p s m args c cX9_canLive 2 RX9 dC dI cy sq := C0
  have hx := C0.1
  have hb := C0.2.1
  have hl : lv_has ls 2 [(0, .ref a_this), (1, .int p0)] := hl
  refine lv_aload_n hx hb dX9_canLive_0 rfl (lv_at hl 0 rfl) ?_
  refine k_ji hP hD hS hA [0, 1] [2] (wr := [(a_this_now, .inr (6, [.int x_this_now_day, .int x_this_now_rule, .int x_this_now_green, .ref a_this_now_trusts]))]) rfl rfl (by decide) (by decide) (by decide) 0 0 (Nat.le_of_ble_eq_true rfl) (Nat.le_of_ble_eq_true rfl) (fun hPc hDc => k_runV (As := []) (rest := []) C0 (s_X9_stands l dC dI cy sq a_this a_this_tape x_this_tapeSize a_this_plan x_this_plan_cycle x_this_plan_green x_this_plan_rule x_this_plan_least x_this_plan_away x_this_plan_statements x_this_plan_kinds a_this_plan_calm a_this_plan_pace a_this_plan_trusts x_this_plan_walkers a_this_plan_kindOf a_this_plan_comesAt a_this_plan_comers a_this_plan_names a_this_plan_code x_this_plan_size a_this_plan_spans a_this_spare a_this_now a_this_history a_this_machine a_this_reader a_this_street a_this_choice a_this_ahead a_this_watch a_this_octets x_this_octetCount a_this_refusals x_this_drawn (ib_w 0 1600 hx_this_tapeSize (by decide)) (ib_w 0 120 hx_this_plan_cycle (by decide)) (ib_w 0 99 hx_this_plan_least (by decide)) (ib_w 0 81 hx_this_plan_statements (by decide)) (ib_w 0 6 hx_this_plan_kinds (by decide)) (ib_w 0 12 hx_this_plan_walkers (by decide)) (ib_w 0 1600 hx_this_plan_size (by decide)) (ib_w 0 11 hx_this_octetCount (by decide))) mV_X9_218 hPc hDc rfl rfl rfl hl rfl rfl (Nat.le_of_ble_eq_true rfl) ⟨(Nat.le_of_ble_eq_true rfl), (Nat.le_of_ble_eq_true rfl)⟩ ⟨(Nat.le_of_ble_eq_true rfl), (Nat.le_of_ble_eq_true rfl)⟩ dX9_canLive_1) (fun r26057 u26058 H locs hw hP hD hS => ?_)
  try dsimp only at hP hD hw
  have hP : va_P (dC, dI) vwCl [(a_this_now, .inr (6, [.int x_this_now_day, .int x_this_now_rule, .int x_this_now_green, .ref a_this_now_trusts])), (a_this, .inr (9, [.ref a_this_tape, .int x_this_tapeSize, .ref a_this_plan, .ref a_this_spare, .ref a_this_now, .ref a_this_history, .ref a_this_machine, .ref a_this_reader, .ref a_this_street, .ref a_this_choice, .ref a_this_ahead, .ref a_this_watch, .ref a_this_octets, .int x_this_octetCount, .ref a_this_refusals, .long x_this_drawn])), (a_this_plan, .inr (4, [.int x_this_plan_cycle, .int x_this_plan_green, .int x_this_plan_rule, .int x_this_plan_least, .int x_this_plan_away, .int x_this_plan_statements, .int x_this_plan_kinds, .ref a_this_plan_calm, .ref a_this_plan_pace, .ref a_this_plan_trusts, .int x_this_plan_walkers, .ref a_this_plan_kindOf, .ref a_this_plan_comesAt, .ref a_this_plan_comers, .ref a_this_plan_names, .ref a_this_plan_code, .int x_this_plan_size, .ref a_this_plan_spans]))] H := hP
  have hD : va_D A [(a_this_now, .inr (6, [.int x_this_now_day, .int x_this_now_rule, .int x_this_now_green, .ref a_this_now_trusts])), (a_this, .inr (9, [.ref a_this_tape, .int x_this_tapeSize, .ref a_this_plan, .ref a_this_spare, .ref a_this_now, .ref a_this_history, .ref a_this_machine, .ref a_this_reader, .ref a_this_street, .ref a_this_choice, .ref a_this_ahead, .ref a_this_watch, .ref a_this_octets, .int x_this_octetCount, .ref a_this_refusals, .long x_this_drawn])), (a_this_plan, .inr (4, [.int x_this_plan_cycle, .int x_this_plan_green, .int x_this_plan_rule, .int x_this_plan_least, .int x_this_plan_away, .int x_this_plan_statements, .int x_this_plan_kinds, .ref a_this_plan_calm, .ref a_this_plan_pace, .ref a_this_plan_trusts, .int x_this_plan_walkers, .ref a_this_plan_kindOf, .ref a_this_plan_comesAt, .ref a_this_plan_comers, .ref a_this_plan_names, .ref a_this_plan_code, .int x_this_plan_size, .ref a_this_plan_spans]))] := hD
  obtain ⟨h26059, h26060⟩ := hw
  refine lv_if_eq (tgt := 37) hx hb dX9_canLive_4 (by decide) (fun c26061 => ?_) (fun c26061 => ?_)
  · have h26062 := ib_eq h26059 (ib_c 0 0 0 (by decide)) c26061
    have h26063 : ib r26057 0 0 := ib_w 0 0 h26062.1 (by decide)
    refine lv_iconst (v := 0) hx hb dX9_canLive_37 (by decide) ?_
    subst hQ; exact k_iret hx hb hr hlk (k_nb 0 (by decide)) () hS ⟨ib_w 0 1 (ib_c 0 0 0 (by decide)) (by decide), fun h9 => absurd rfl h9, fun h9 => absurd rfl h9⟩ (hP.sub [1, 2, 0] rfl) (hD.sub [1, 2, 0] (by decide) rfl) (Nat.le_of_ble_eq_true rfl) (Nat.le_of_ble_eq_true rfl) dX9_canLive_38
  · have h26064 : ib r26057 1 1 := ib_w 1 1 (ib_ne_lo 0 h26059 (by decide) c26061) (by decide)
    have h26065 : ib x_this_plan_cycle 1 120 := ib_w 1 120 (ib_two hx_this_plan_cycle (h26060 c26061)) (by decide)
    refine lv_iload_n hx hb dX9_canLive_7 rfl (lv_at hl 1 rfl) ?_
    refine lv_iconst (v := 1) hx hb dX9_canLive_8 (by decide) ?_
    refine lv_icmp_lt (tgt := 37) hx hb dX9_canLive_9 (by decide) (fun c26066 => ?_) (fun c26066 => ?_)
    · have h26067 := ib_lt (ib_any p0) (ib_c 1 1 1 (by decide)) c26066
      have h26068 : ib p0 (-2147483648) 0 := ib_w (-2147483648) 0 h26067.1 (by decide)
      refine lv_iconst (v := 0) hx hb dX9_canLive_37 (by decide) ?_
      subst hQ; exact k_iret hx hb hr hlk (k_nb 0 (by decide)) () hS ⟨ib_w 0 1 (ib_c 0 0 0 (by decide)) (by decide), fun h9 => absurd rfl h9, fun h9 => absurd rfl h9⟩ (hP.sub [1, 2, 0] rfl) (hD.sub [1, 2, 0] (by decide) rfl) (Nat.le_of_ble_eq_true rfl) (Nat.le_of_ble_eq_true rfl) dX9_canLive_38
    · have h26069 := ib_nlt (ib_any p0) (ib_c 1 1 1 (by decide)) c26066
      have h26070 : ib p0 1 2147483647 := ib_w 1 2147483647 h26069.1 (by decide)
      refine lv_iload_n hx hb dX9_canLive_12 rfl (lv_at hl 1 rfl) ?_
      refine lv_bipush (v := 30) hx hb dX9_canLive_13 (by decide) ?_
      refine lv_icmp_gt (tgt := 37) hx hb dX9_canLive_15 (by decide) (fun c26071 => ?_) (fun c26071 => ?_)
      · have h26072 := ib_lt (ib_c 30 30 30 (by decide)) h26070 c26071
        have h26073 : ib p0 31 2147483647 := ib_w 31 2147483647 h26072.2 (by decide)
        refine lv_iconst (v := 0) hx hb dX9_canLive_37 (by decide) ?_
        subst hQ; exact k_iret hx hb hr hlk (k_nb 0 (by decide)) () hS ⟨ib_w 0 1 (ib_c 0 0 0 (by decide)) (by decide), fun h9 => absurd rfl h9, fun h9 => absurd rfl h9⟩ (hP.sub [1, 2, 0] rfl) (hD.sub [1, 2, 0] (by decide) rfl) (Nat.le_of_ble_eq_true rfl) (Nat.le_of_ble_eq_true rfl) dX9_canLive_38
      · have h26074 := ib_nlt (ib_c 30 30 30 (by decide)) h26070 c26071
        have h26075 : ib p0 1 30 := ib_w 1 30 h26074.2 (by decide)
        refine lv_aload_n hx hb dX9_canLive_18 rfl (lv_at hl 0 rfl) ?_
        refine k_get C0 fg_X9_30 hP 1 rfl rfl dX9_canLive_19 ?_
        refine k_get C0 fg_X9_154 hP 0 rfl rfl dX9_canLive_22 ?_
        refine lv_iload_n hx hb dX9_canLive_25 rfl (lv_at hl 1 rfl) ?_
        refine lv_iadd hx hb dX9_canLive_26 ?_
        refine lv_topi (fun z26076 ez26076 => ?_)
        refine lv_sipush (v := 999) hx hb dX9_canLive_27 (by decide) ?_
        refine lv_icmp_gt (tgt := 37) hx hb dX9_canLive_30 (by decide) (fun c26077 => ?_) (fun c26077 => ?_)
        · have h26078 := ib_lt (ib_c 999 999 999 (by decide)) (ib_any z26076) c26077
          have h26079 : ib z26076 1000 2147483647 := ib_w 1000 2147483647 h26078.2 (by decide)
          refine lv_iconst (v := 0) hx hb dX9_canLive_37 (by decide) ?_
          subst hQ; exact k_iret hx hb hr hlk (k_nb 0 (by decide)) () hS ⟨ib_w 0 1 (ib_c 0 0 0 (by decide)) (by decide), fun h9 => absurd rfl h9, fun h9 => absurd rfl h9⟩ (hP.sub [1, 2, 0] rfl) (hD.sub [1, 2, 0] (by decide) rfl) (Nat.le_of_ble_eq_true rfl) (Nat.le_of_ble_eq_true rfl) dX9_canLive_38
        · have h26080 := ib_nlt (ib_c 999 999 999 (by decide)) (ib_any z26076) c26077
          have h26081 : ib z26076 (-2147483648) 999 := ib_w (-2147483648) 999 h26080.2 (by decide)
          refine lv_iconst (v := 1) hx hb dX9_canLive_33 (by decide) ?_
          refine lv_goto (tgt := 38) hx hb dX9_canLive_34 (by decide) ?_
          subst hQ; exact k_iret hx hb hr hlk (k_nb 1 (by decide)) () hS ⟨ib_w 0 1 (ib_c 1 1 1 (by decide)) (by decide), fun _ => ib_w 1 120 h26065 (by decide), fun _ => ib_w 1 30 h26075 (by decide)⟩ (hP.sub [1, 2, 0] rfl) (hD.sub [1, 2, 0] (by decide) rfl) (Nat.le_of_ble_eq_true rfl) (Nat.le_of_ble_eq_true rfl) dX9_canLive_38
set_option maxHeartbeats 4000000 in
set_option maxRecDepth 100000 in
theorem s_X9_changed (l : Launch) (dC : Nat → ClassId) (dI : Nat → Nat → Nat) (cy : Nat → ClassId) (sq : Nat → Nat) (a_this : Nat) (a_this_tape : Nat) (x_this_tapeSize : Int32) (a_this_plan : Nat) (a_this_spare : Nat) (a_this_now : Nat) (a_this_history : Nat) (a_this_machine : Nat) (a_this_reader : Nat) (a_this_street : Nat) (a_this_choice : Nat) (a_this_choice_table : Nat) (x_this_choice_tableKnown : Int32) (a_this_ahead : Nat) (a_this_ahead_state : Nat) (a_this_ahead_told : Nat) (a_this_ahead_trusts : Nat) (x_this_ahead_known : Int32) (a_this_watch : Nat) (a_this_watch_seenWalker : Nat) (a_this_watch_seenSecond : Nat) (x_this_watch_rows : Int32) (x_this_watch_compared : Int32) (a_this_watch_seconds : Nat) (x_this_watch_found : Int32) (x_this_watch_foundRules : Int32) (x_this_watch_foundGreen : Int32) (x_this_watch_chosen : Int32) (x_this_watch_chosenLeft : Int32) (a_this_octets : Nat) (x_this_octetCount : Int32) (a_this_refusals : Nat) (x_this_drawn : Int64) (hx_this_tapeSize : ib x_this_tapeSize 0 1600) (hx_this_choice_tableKnown : ib x_this_choice_tableKnown 0 1) (hx_this_ahead_known : ib x_this_ahead_known 0 30) (hx_this_watch_rows : ib x_this_watch_rows 0 16) (hx_this_watch_compared : ib x_this_watch_compared 0 1) (hx_this_watch_found : ib x_this_watch_found 0 60) (hx_this_octetCount : ib x_this_octetCount 0 11) : k_Met l yX9_changed cX9_changed 1 none { frames := 1, cells := 0, slots := 0, locals := 20 } dC dI cy sq [.ref a_this] [(a_this, .inr (9, [.ref a_this_tape, .int x_this_tapeSize, .ref a_this_plan, .ref a_this_spare, .ref a_this_now, .ref a_this_history, .ref a_this_machine, .ref a_this_reader, .ref a_this_street, .ref a_this_choice, .ref a_this_ahead, .ref a_this_watch, .ref a_this_octets, .int x_this_octetCount, .ref a_this_refusals, .long x_this_drawn])), (a_this_choice, .inr (1, [.ref a_this_street, .ref a_this_choice_table, .int x_this_choice_tableKnown])), (a_this_ahead, .inr (0, [.ref a_this_street, .ref a_this_ahead_state, .ref a_this_ahead_told, .ref a_this_ahead_trusts, .int x_this_ahead_known])), (a_this_watch, .inr (8, [.ref a_this_street, .ref a_this_watch_seenWalker, .ref a_this_watch_seenSecond, .int x_this_watch_rows, .int x_this_watch_compared, .ref a_this_watch_seconds, .int x_this_watch_found, .int x_this_watch_foundRules, .int x_this_watch_foundGreen, .int x_this_watch_chosen, .int x_this_watch_chosenLeft]))] (k_Qv dC dI (fun (u : Int32 × Int32 × Int32) => match u with | (n0, n1, n2) => ib n0 0 1 ∧ ib n1 0 30 ∧ ib n2 0 1) (fun u : Int32 × Int32 × Int32 => match u with | (n0, n1, n2) => [(a_this, .inr (9, [.ref a_this_tape, .int x_this_tapeSize, .ref a_this_plan, .ref a_this_spare, .ref a_this_now, .ref a_this_history, .ref a_this_machine, .ref a_this_reader, .ref a_this_street, .ref a_this_choice, .ref a_this_ahead, .ref a_this_watch, .ref a_this_octets, .int x_this_octetCount, .ref a_this_refusals, .long x_this_drawn])), (a_this_choice, .inr (1, [.ref a_this_street, .ref a_this_choice_table, .int n0])), (a_this_ahead, .inr (0, [.ref a_this_street, .ref a_this_ahead_state, .ref a_this_ahead_told, .ref a_this_ahead_trusts, .int n1])), (a_this_watch, .inr (8, [.ref a_this_street, .ref a_this_watch_seenWalker, .ref a_this_watch_seenSecond, .int x_this_watch_rows, .int n2, .ref a_this_watch_seconds, .int x_this_watch_found, .int x_this_watch_foundRules, .int x_this_watch_foundGreen, .int x_this_watch_chosen, .int x_this_watch_chosenLeft]))])) := by
  refine k_ofW2 (by decide +kernel) (Nat.le_of_ble_eq_true rfl) ?_
  intro p e s m below meth c A ls H locs args Q hQ C0 hr hlk hin hP hD hA hS hl
  have C0 : k_cx p s m args c cX9_changed 1 RX9 dC dI cy sq := C0
  have hx := C0.1
  have hb := C0.2.1
  have hl : lv_has ls 1 [(0, .ref a_this)] := hl
  refine lv_aload_n hx hb dX9_changed_0 rfl (lv_at hl 0 rfl) ?_
  refine k_get C0 fg_X9_71 hP 0 rfl rfl dX9_changed_1 ?_
  refine k_jv hP hD hS hA [1] [0, 2, 3] (wr := [(a_this, .inr (9, [.ref a_this_tape, .int x_this_tapeSize, .ref a_this_plan, .ref a_this_spare, .ref a_this_now, .ref a_this_history, .ref a_this_machine, .ref a_this_reader, .ref a_this_street, .ref a_this_choice, .ref a_this_ahead, .ref a_this_watch, .ref a_this_octets, .int x_this_octetCount, .ref a_this_refusals, .long x_this_drawn])), (a_this_ahead, .inr (0, [.ref a_this_street, .ref a_this_ahead_state, .ref a_this_ahead_told, .ref a_this_ahead_trusts, .int x_this_ahead_known])), (a_this_watch, .inr (8, [.ref a_this_street, .ref a_this_watch_seenWalker, .ref a_this_watch_seenSecond, .int x_this_watch_rows, .int x_this_watch_compared, .ref a_this_watch_seconds, .int x_this_watch_found, .int x_this_watch_foundRules, .int x_this_watch_foundGreen, .int x_this_watch_chosen, .int x_this_watch_chosenLeft]))]) rfl rfl (by decide) (by decide) (by decide) 0 0 (Nat.le_of_ble_eq_true rfl) (Nat.le_of_ble_eq_true rfl) (fun hPc hDc => k_runV (As := []) (rest := []) C0 (s_X1_forget l dC dI cy sq a_this_choice a_this_street a_this_choice_table x_this_choice_tableKnown (ib_w 0 1 hx_this_choice_tableKnown (by decide))) mV_X9_333 hPc hDc rfl rfl rfl hl rfl rfl (Nat.le_of_ble_eq_true rfl) ⟨(Nat.le_of_ble_eq_true rfl), (Nat.le_of_ble_eq_true rfl)⟩ ⟨(Nat.le_of_ble_eq_true rfl), (Nat.le_of_ble_eq_true rfl)⟩ dX9_changed_4) (fun u26212 H locs hw hP hD hS => ?_)
  obtain ⟨v26213, ev26213⟩ : ∃ z, z = u26212 := ⟨_, rfl⟩; subst ev26213
  try dsimp only at hP hD hw
  have hP : va_P (dC, dI) vwCl [(a_this, .inr (9, [.ref a_this_tape, .int x_this_tapeSize, .ref a_this_plan, .ref a_this_spare, .ref a_this_now, .ref a_this_history, .ref a_this_machine, .ref a_this_reader, .ref a_this_street, .ref a_this_choice, .ref a_this_ahead, .ref a_this_watch, .ref a_this_octets, .int x_this_octetCount, .ref a_this_refusals, .long x_this_drawn])), (a_this_ahead, .inr (0, [.ref a_this_street, .ref a_this_ahead_state, .ref a_this_ahead_told, .ref a_this_ahead_trusts, .int x_this_ahead_known])), (a_this_watch, .inr (8, [.ref a_this_street, .ref a_this_watch_seenWalker, .ref a_this_watch_seenSecond, .int x_this_watch_rows, .int x_this_watch_compared, .ref a_this_watch_seconds, .int x_this_watch_found, .int x_this_watch_foundRules, .int x_this_watch_foundGreen, .int x_this_watch_chosen, .int x_this_watch_chosenLeft])), (a_this_choice, .inr (1, [.ref a_this_street, .ref a_this_choice_table, .int v26213]))] H := hP
  have hD : va_D A [(a_this, .inr (9, [.ref a_this_tape, .int x_this_tapeSize, .ref a_this_plan, .ref a_this_spare, .ref a_this_now, .ref a_this_history, .ref a_this_machine, .ref a_this_reader, .ref a_this_street, .ref a_this_choice, .ref a_this_ahead, .ref a_this_watch, .ref a_this_octets, .int x_this_octetCount, .ref a_this_refusals, .long x_this_drawn])), (a_this_ahead, .inr (0, [.ref a_this_street, .ref a_this_ahead_state, .ref a_this_ahead_told, .ref a_this_ahead_trusts, .int x_this_ahead_known])), (a_this_watch, .inr (8, [.ref a_this_street, .ref a_this_watch_seenWalker, .ref a_this_watch_seenSecond, .int x_this_watch_rows, .int x_this_watch_compared, .ref a_this_watch_seconds, .int x_this_watch_found, .int x_this_watch_foundRules, .int x_this_watch_foundGreen, .int x_this_watch_chosen, .int x_this_watch_chosenLeft])), (a_this_choice, .inr (1, [.ref a_this_street, .ref a_this_choice_table, .int v26213]))] := hD
  have h26214 := hw
  refine lv_aload_n hx hb dX9_changed_7 rfl (lv_at hl 0 rfl) ?_
  refine k_get C0 fg_X9_78 hP 0 rfl rfl dX9_changed_8 ?_
  refine k_jv hP hD hS hA [1] [0, 2, 3] (wr := [(a_this, .inr (9, [.ref a_this_tape, .int x_this_tapeSize, .ref a_this_plan, .ref a_this_spare, .ref a_this_now, .ref a_this_history, .ref a_this_machine, .ref a_this_reader, .ref a_this_street, .ref a_this_choice, .ref a_this_ahead, .ref a_this_watch, .ref a_this_octets, .int x_this_octetCount, .ref a_this_refusals, .long x_this_drawn])), (a_this_watch, .inr (8, [.ref a_this_street, .ref a_this_watch_seenWalker, .ref a_this_watch_seenSecond, .int x_this_watch_rows, .int x_this_watch_compared, .ref a_this_watch_seconds, .int x_this_watch_found, .int x_this_watch_foundRules, .int x_this_watch_foundGreen, .int x_this_watch_chosen, .int x_this_watch_chosenLeft])), (a_this_choice, .inr (1, [.ref a_this_street, .ref a_this_choice_table, .int v26213]))]) rfl rfl (by decide) (by decide) (by decide) 0 0 (Nat.le_of_ble_eq_true rfl) (Nat.le_of_ble_eq_true rfl) (fun hPc hDc => k_runV (As := []) (rest := []) C0 (s_X0_forget l dC dI cy sq a_this_ahead a_this_street a_this_ahead_state a_this_ahead_told a_this_ahead_trusts x_this_ahead_known (ib_w 0 30 hx_this_ahead_known (by decide))) mV_X9_336 hPc hDc rfl rfl rfl hl rfl rfl (Nat.le_of_ble_eq_true rfl) ⟨(Nat.le_of_ble_eq_true rfl), (Nat.le_of_ble_eq_true rfl)⟩ ⟨(Nat.le_of_ble_eq_true rfl), (Nat.le_of_ble_eq_true rfl)⟩ dX9_changed_11) (fun u26216 H locs hw hP hD hS => ?_)
  obtain ⟨v26217, ev26217⟩ : ∃ z, z = u26216 := ⟨_, rfl⟩; subst ev26217
  try dsimp only at hP hD hw
  have hP : va_P (dC, dI) vwCl [(a_this, .inr (9, [.ref a_this_tape, .int x_this_tapeSize, .ref a_this_plan, .ref a_this_spare, .ref a_this_now, .ref a_this_history, .ref a_this_machine, .ref a_this_reader, .ref a_this_street, .ref a_this_choice, .ref a_this_ahead, .ref a_this_watch, .ref a_this_octets, .int x_this_octetCount, .ref a_this_refusals, .long x_this_drawn])), (a_this_watch, .inr (8, [.ref a_this_street, .ref a_this_watch_seenWalker, .ref a_this_watch_seenSecond, .int x_this_watch_rows, .int x_this_watch_compared, .ref a_this_watch_seconds, .int x_this_watch_found, .int x_this_watch_foundRules, .int x_this_watch_foundGreen, .int x_this_watch_chosen, .int x_this_watch_chosenLeft])), (a_this_choice, .inr (1, [.ref a_this_street, .ref a_this_choice_table, .int v26213])), (a_this_ahead, .inr (0, [.ref a_this_street, .ref a_this_ahead_state, .ref a_this_ahead_told, .ref a_this_ahead_trusts, .int v26217]))] H := hP
  have hD : va_D A [(a_this, .inr (9, [.ref a_this_tape, .int x_this_tapeSize, .ref a_this_plan, .ref a_this_spare, .ref a_this_now, .ref a_this_history, .ref a_this_machine, .ref a_this_reader, .ref a_this_street, .ref a_this_choice, .ref a_this_ahead, .ref a_this_watch, .ref a_this_octets, .int x_this_octetCount, .ref a_this_refusals, .long x_this_drawn])), (a_this_watch, .inr (8, [.ref a_this_street, .ref a_this_watch_seenWalker, .ref a_this_watch_seenSecond, .int x_this_watch_rows, .int x_this_watch_compared, .ref a_this_watch_seconds, .int x_this_watch_found, .int x_this_watch_foundRules, .int x_this_watch_foundGreen, .int x_this_watch_chosen, .int x_this_watch_chosenLeft])), (a_this_choice, .inr (1, [.ref a_this_street, .ref a_this_choice_table, .int v26213])), (a_this_ahead, .inr (0, [.ref a_this_street, .ref a_this_ahead_state, .ref a_this_ahead_told, .ref a_this_ahead_trusts, .int v26217]))] := hD
  have h26218 := hw
  refine lv_aload_n hx hb dX9_changed_14 rfl (lv_at hl 0 rfl) ?_
  refine k_get C0 fg_X9_85 hP 0 rfl rfl dX9_changed_15 ?_
  refine k_jv hP hD hS hA [1] [0, 2, 3] (wr := [(a_this, .inr (9, [.ref a_this_tape, .int x_this_tapeSize, .ref a_this_plan, .ref a_this_spare, .ref a_this_now, .ref a_this_history, .ref a_this_machine, .ref a_this_reader, .ref a_this_street, .ref a_this_choice, .ref a_this_ahead, .ref a_this_watch, .ref a_this_octets, .int x_this_octetCount, .ref a_this_refusals, .long x_this_drawn])), (a_this_choice, .inr (1, [.ref a_this_street, .ref a_this_choice_table, .int v26213])), (a_this_ahead, .inr (0, [.ref a_this_street, .ref a_this_ahead_state, .ref a_this_ahead_told, .ref a_this_ahead_trusts, .int v26217]))]) rfl rfl (by decide) (by decide) (by decide) 0 0 (Nat.le_of_ble_eq_true rfl) (Nat.le_of_ble_eq_true rfl) (fun hPc hDc => k_runV (As := []) (rest := []) C0 (s_X8_forget l dC dI cy sq a_this_watch a_this_street a_this_watch_seenWalker a_this_watch_seenSecond x_this_watch_rows x_this_watch_compared a_this_watch_seconds x_this_watch_found x_this_watch_foundRules x_this_watch_foundGreen x_this_watch_chosen x_this_watch_chosenLeft (ib_w 0 16 hx_this_watch_rows (by decide)) (ib_w 0 1 hx_this_watch_compared (by decide)) (ib_w 0 60 hx_this_watch_found (by decide))) mV_X9_337 hPc hDc rfl rfl rfl hl rfl rfl (Nat.le_of_ble_eq_true rfl) ⟨(Nat.le_of_ble_eq_true rfl), (Nat.le_of_ble_eq_true rfl)⟩ ⟨(Nat.le_of_ble_eq_true rfl), (Nat.le_of_ble_eq_true rfl)⟩ dX9_changed_18) (fun u26220 H locs hw hP hD hS => ?_)
  obtain ⟨v26221, ev26221⟩ : ∃ z, z = u26220 := ⟨_, rfl⟩; subst ev26221
  try dsimp only at hP hD hw
  have hP : va_P (dC, dI) vwCl [(a_this, .inr (9, [.ref a_this_tape, .int x_this_tapeSize, .ref a_this_plan, .ref a_this_spare, .ref a_this_now, .ref a_this_history, .ref a_this_machine, .ref a_this_reader, .ref a_this_street, .ref a_this_choice, .ref a_this_ahead, .ref a_this_watch, .ref a_this_octets, .int x_this_octetCount, .ref a_this_refusals, .long x_this_drawn])), (a_this_choice, .inr (1, [.ref a_this_street, .ref a_this_choice_table, .int v26213])), (a_this_ahead, .inr (0, [.ref a_this_street, .ref a_this_ahead_state, .ref a_this_ahead_told, .ref a_this_ahead_trusts, .int v26217])), (a_this_watch, .inr (8, [.ref a_this_street, .ref a_this_watch_seenWalker, .ref a_this_watch_seenSecond, .int x_this_watch_rows, .int v26221, .ref a_this_watch_seconds, .int x_this_watch_found, .int x_this_watch_foundRules, .int x_this_watch_foundGreen, .int x_this_watch_chosen, .int x_this_watch_chosenLeft]))] H := hP
  have hD : va_D A [(a_this, .inr (9, [.ref a_this_tape, .int x_this_tapeSize, .ref a_this_plan, .ref a_this_spare, .ref a_this_now, .ref a_this_history, .ref a_this_machine, .ref a_this_reader, .ref a_this_street, .ref a_this_choice, .ref a_this_ahead, .ref a_this_watch, .ref a_this_octets, .int x_this_octetCount, .ref a_this_refusals, .long x_this_drawn])), (a_this_choice, .inr (1, [.ref a_this_street, .ref a_this_choice_table, .int v26213])), (a_this_ahead, .inr (0, [.ref a_this_street, .ref a_this_ahead_state, .ref a_this_ahead_told, .ref a_this_ahead_trusts, .int v26217])), (a_this_watch, .inr (8, [.ref a_this_street, .ref a_this_watch_seenWalker, .ref a_this_watch_seenSecond, .int x_this_watch_rows, .int v26221, .ref a_this_watch_seconds, .int x_this_watch_found, .int x_this_watch_foundRules, .int x_this_watch_foundGreen, .int x_this_watch_chosen, .int x_this_watch_chosenLeft]))] := hD
  have h26222 := hw
  subst hQ; exact k_vret hx hb hr hlk ((v26213, v26217, v26221)) hS ⟨ib_w 0 1 h26214 (by decide), ib_w 0 30 h26218 (by decide), ib_w 0 1 h26222 (by decide)⟩ hP hD (Nat.le_of_ble_eq_true rfl) (Nat.le_of_ble_eq_true rfl) dX9_changed_21
set_option maxHeartbeats 4000000 in
set_option maxRecDepth 100000 in
theorem s_X9_check (l : Launch) (dC : Nat → ClassId) (dI : Nat → Nat → Nat) (cy : Nat → ClassId) (sq : Nat → Nat) (a_arg0 : Nat) (g_arg0 : Nat → Int32) (p1 : Int32) (hp1 : ib p1 0 1599) : k_Met l yX9_check cX9_check 4 (some .int) { frames := 0, cells := 0, slots := 0, locals := 0 } dC dI cy sq [.ref a_arg0, .int p1] [(a_arg0, .inl (cy 0, 1600, .inl g_arg0))] (k_Qi dC dI (fun (r : Int32) (_ : Unit) => True) (fun _ : Unit => [(a_arg0, .inl (cy 0, 1600, .inl g_arg0))])) := by
  refine k_ofW2 (by decide +kernel) (Nat.le_of_ble_eq_true rfl) ?_
  intro p e s m below meth c A ls H locs args Q hQ C0 hr hlk hin hP hD hA hS hl
  have C0 : k_cx p s m args c cX9_check 4 RX9 dC dI cy sq := C0
  have hx := C0.1
  have hb := C0.2.1
  have hl : lv_has ls 4 [(0, .ref a_arg0), (1, .int p1)] := hl
  have jn5 : ∀ (n : Nat) (J5_l2 : Int32) (J5_l3 : Int32) (H : Heap) (locs : List Loc) (ls : Array Slot), ib J5_l3 0 1599 → 1600 ≤ J5_l3.toInt + (n : Int) → va_P (dC, dI) vwCl [(a_arg0, .inl (cy 0, 1600, .inl g_arg0))] H → va_D A [(a_arg0, .inl (cy 0, 1600, .inl g_arg0))] → va_S A s.heap H locs → lv_has ls 4 [(0, .ref a_arg0), (1, .int p1), (2, .int J5_l2), (3, .int J5_l3)] → W p l e { frames := 0, cells := 0, slots := 0, locals := 0 } s m args below meth c H locs 0 0 Q (F0 m 5 ls []) := by
    intro n
    induction n with
    | zero =>
      intro J5_l2 J5_l3 H locs ls hJ5_l3 hm
      exact absurd hm (by have := hJ5_l3; unfold ib at this; omega)
    | succ n ih =>
      intro J5_l2 J5_l3 H locs ls hJ5_l3 hm5 hP hD hS hl
      have ih5 := ih
      refine lv_iload_n hx hb dX9_check_5 rfl (lv_at hl 3 rfl) ?_
      refine lv_iload_n hx hb dX9_check_6 rfl (lv_at hl 1 rfl) ?_
      refine lv_icmp_ge (tgt := 28) hx hb dX9_check_7 (by decide) (fun c26479 => ?_) (fun c26479 => ?_)
      · have h26480 := ib_le hp1 hJ5_l3 c26479
        refine lv_iload_n hx hb dX9_check_28 rfl (lv_at hl 2 rfl) ?_
        subst hQ; exact k_iret hx hb hr hlk rfl () hS True.intro hP hD (Nat.le_of_ble_eq_true rfl) (Nat.le_of_ble_eq_true rfl) dX9_check_29
      · have h26481 := ib_nle hp1 hJ5_l3 c26479
        have h26482 : ib p1 1 1599 := ib_w 1 1599 h26481.1 (by decide)
        have h26483 : ib J5_l3 0 1598 := ib_w 0 1598 h26481.2 (by decide)
        refine lv_iconst (v := 3) hx hb dX9_check_10 (by decide) ?_
        refine lv_iload_n hx hb dX9_check_11 rfl (lv_at hl 2 rfl) ?_
        refine lv_imul hx hb dX9_check_12 ?_
        refine lv_topi (fun z26484 ez26484 => ?_)
        refine lv_aload_n hx hb dX9_check_13 rfl (lv_at hl 0 rfl) ?_
        refine lv_iload_n hx hb dX9_check_14 rfl (lv_at hl 3 rfl) ?_
        refine va_iald hx hb C0.2.2.2.2.2.1 hP 0 0 rfl rfl (ib_in 1600 h26483 (by decide)) dX9_check_15 ?_
        refine lv_topi (fun z26485 ez26485 => ?_)
        refine lv_iadd hx hb dX9_check_16 ?_
        refine lv_topi (fun z26486 ez26486 => ?_)
        refine lv_sipush (v := 251) hx hb dX9_check_17 (by decide) ?_
        refine lv_irem hx hb dX9_check_20 (by decide) ?_
        refine lv_topi (fun z26487 ez26487 => ?_)
        refine lv_istore_n (lv' := [(2, .int z26487), (0, .ref a_arg0), (1, .int p1), (3, .int J5_l3)]) hx hb dX9_check_21 rfl hl (by decide) rfl (fun ls hl => ?_)
        obtain ⟨z26488, ez26488⟩ : ∃ y : Int32, y = J5_l3 + 1 := ⟨_, rfl⟩
        refine lv_iinc (v := z26488) (lv' := [(3, .int z26488), (2, .int z26487), (0, .ref a_arg0), (1, .int p1)]) hx hb dX9_check_22 hl (k := 3) rfl (by rw [ez26488]; rfl) (by decide) rfl (fun ls hl => ?_)
        have h26489 := ib_add h26483 (ib_c 1 1 1 (by decide)) (by decide)
        rw [← ez26488] at h26489
        have h26490 : ib z26488 1 1599 := ib_w 1 1599 h26489.1 (by decide)
        refine lv_goto (tgt := 5) hx hb dX9_check_25 (by decide) ?_
        exact ih5 z26487 z26488 H locs ls (ib_w 0 1599 h26490 (by decide)) (by have := h26489.2; have : (1 : Int32).toInt = 1 := (by decide); omega) hP hD hS (lv_sub hl [2, 3, 1, 0] rfl)
  refine lv_bipush (v := 101) hx hb dX9_check_0 (by decide) ?_
  refine lv_istore_n (lv' := [(2, .int 101), (0, .ref a_arg0), (1, .int p1)]) hx hb dX9_check_2 rfl hl (by decide) rfl (fun ls hl => ?_)
  refine lv_iconst (v := 0) hx hb dX9_check_3 (by decide) ?_
  refine lv_istore_n (lv' := [(3, .int 0), (2, .int 101), (0, .ref a_arg0), (1, .int p1)]) hx hb dX9_check_4 rfl hl (by decide) rfl (fun ls hl => ?_)
  exact jn5 1601 101 0 H locs ls (ib_w 0 1599 (ib_c 0 0 0 (by decide)) (by decide)) (by have := (ib_c 0 0 0 (by decide)); unfold ib at this; omega) hP hD hS (lv_sub hl [2, 3, 1, 0] rfl)
set_option maxHeartbeats 4000000 in
set_option maxRecDepth 100000 in
theorem s_X9_takeTape (l : Launch) (dC : Nat → ClassId) (dI : Nat → Nat → Nat) (cy : Nat → ClassId) (sq : Nat → Nat) (a_this : Nat) (a_this_tape : Nat) (x_this_tapeSize : Int32) (a_this_plan : Nat) (a_this_spare : Nat) (a_this_now : Nat) (a_this_history : Nat) (a_this_machine : Nat) (a_this_reader : Nat) (a_this_street : Nat) (a_this_choice : Nat) (a_this_ahead : Nat) (a_this_watch : Nat) (a_this_octets : Nat) (x_this_octetCount : Int32) (a_this_refusals : Nat) (x_this_drawn : Int64) (hx_this_tapeSize : ib x_this_tapeSize 0 1600) (hx_this_octetCount : ib x_this_octetCount 0 11) : k_Met l yX9_takeTape cX9_takeTape 2 (some .int) { frames := 0, cells := 0, slots := 0, locals := 0 } dC dI cy sq [.ref a_this] [(a_this, .inr (9, [.ref a_this_tape, .int x_this_tapeSize, .ref a_this_plan, .ref a_this_spare, .ref a_this_now, .ref a_this_history, .ref a_this_machine, .ref a_this_reader, .ref a_this_street, .ref a_this_choice, .ref a_this_ahead, .ref a_this_watch, .ref a_this_octets, .int x_this_octetCount, .ref a_this_refusals, .long x_this_drawn]))] (k_Qi dC dI (fun (r : Int32) (n0 : Int32) => ib r 0 1600 ∧ ib n0 0 1600) (fun n0 : Int32 => [(a_this, .inr (9, [.ref a_this_tape, .int n0, .ref a_this_plan, .ref a_this_spare, .ref a_this_now, .ref a_this_history, .ref a_this_machine, .ref a_this_reader, .ref a_this_street, .ref a_this_choice, .ref a_this_ahead, .ref a_this_watch, .ref a_this_octets, .int x_this_octetCount, .ref a_this_refusals, .long x_this_drawn]))])) := by
  refine k_ofW2 (by decide +kernel) (Nat.le_of_ble_eq_true rfl) ?_
  intro p e s m below meth c A ls H locs args Q hQ C0 hr hlk hin hP hD hA hS hl
  have C0 : k_cx p s m args c cX9_takeTape 2 RX9 dC dI cy sq := C0
  have hx := C0.1
  have hb := C0.2.1
  have hl : lv_has ls 2 [(0, .ref a_this)] := hl
  refine lv_aload_n hx hb dX9_takeTape_0 rfl (lv_at hl 0 rfl) ?_
  refine k_get C0 fg_X9_13 hP 0 rfl rfl dX9_takeTape_1 ?_
  refine lv_istore_n (lv' := [(1, .int x_this_tapeSize), (0, .ref a_this)]) hx hb dX9_takeTape_4 rfl hl (by decide) rfl (fun ls hl => ?_)
  refine lv_aload_n hx hb dX9_takeTape_5 rfl (lv_at hl 1 rfl) ?_
  refine lv_iconst (v := 0) hx hb dX9_takeTape_6 (by decide) ?_
  refine k_put C0 fp_X9_13 hP hD hS 0 rfl rfl rfl (Nat.le_of_ble_eq_true rfl) dX9_takeTape_7 (fun H locs hP hD hS => ?_)
  have hP : va_P (dC, dI) vwCl [(a_this, .inr (9, [.ref a_this_tape, .int 0, .ref a_this_plan, .ref a_this_spare, .ref a_this_now, .ref a_this_history, .ref a_this_machine, .ref a_this_reader, .ref a_this_street, .ref a_this_choice, .ref a_this_ahead, .ref a_this_watch, .ref a_this_octets, .int x_this_octetCount, .ref a_this_refusals, .long x_this_drawn]))] H := hP
  have hD : va_D A [(a_this, .inr (9, [.ref a_this_tape, .int 0, .ref a_this_plan, .ref a_this_spare, .ref a_this_now, .ref a_this_history, .ref a_this_machine, .ref a_this_reader, .ref a_this_street, .ref a_this_choice, .ref a_this_ahead, .ref a_this_watch, .ref a_this_octets, .int x_this_octetCount, .ref a_this_refusals, .long x_this_drawn]))] := hD
  refine lv_iload_n hx hb dX9_takeTape_10 rfl (lv_at hl 0 rfl) ?_
  subst hQ; exact k_iret hx hb hr hlk rfl 0 hS ⟨ib_w 0 1600 hx_this_tapeSize (by decide), ib_w 0 1600 (ib_c 0 0 0 (by decide)) (by decide)⟩ hP hD (Nat.le_of_ble_eq_true rfl) (Nat.le_of_ble_eq_true rfl) dX9_takeTape_11
set_option maxHeartbeats 4000000 in
set_option maxRecDepth 100000 in
theorem s_X9_deny (l : Launch) (dC : Nat → ClassId) (dI : Nat → Nat → Nat) (cy : Nat → ClassId) (sq : Nat → Nat) (a_this : Nat) (a_this_tape : Nat) (x_this_tapeSize : Int32) (a_this_plan : Nat) (a_this_spare : Nat) (a_this_now : Nat) (a_this_history : Nat) (a_this_machine : Nat) (a_this_reader : Nat) (a_this_street : Nat) (a_this_choice : Nat) (a_this_ahead : Nat) (a_this_watch : Nat) (a_this_octets : Nat) (x_this_octetCount : Int32) (a_this_refusals : Nat) (g_this_refusals : Nat → Int32) (x_this_drawn : Int64) (p0 : Int32) (hx_this_tapeSize : ib x_this_tapeSize 0 1600) (hx_this_octetCount : ib x_this_octetCount 0 11) (hp0 : ib p0 0 5) : k_Met l yX9_deny cX9_deny 2 (some .boolean) { frames := 0, cells := 0, slots := 0, locals := 0 } dC dI cy sq [.ref a_this, .int p0] [(a_this, .inr (9, [.ref a_this_tape, .int x_this_tapeSize, .ref a_this_plan, .ref a_this_spare, .ref a_this_now, .ref a_this_history, .ref a_this_machine, .ref a_this_reader, .ref a_this_street, .ref a_this_choice, .ref a_this_ahead, .ref a_this_watch, .ref a_this_octets, .int x_this_octetCount, .ref a_this_refusals, .long x_this_drawn])), (a_this_refusals, .inl (cy 0, 6, .inl g_this_refusals))] (k_Qi dC dI (fun (r : Int32) (n0 : (Nat → Int32)) => ib r 0 0) (fun n0 : (Nat → Int32) => [(a_this, .inr (9, [.ref a_this_tape, .int x_this_tapeSize, .ref a_this_plan, .ref a_this_spare, .ref a_this_now, .ref a_this_history, .ref a_this_machine, .ref a_this_reader, .ref a_this_street, .ref a_this_choice, .ref a_this_ahead, .ref a_this_watch, .ref a_this_octets, .int x_this_octetCount, .ref a_this_refusals, .long x_this_drawn])), (a_this_refusals, .inl (cy 0, 6, .inl n0))])) := by
  refine k_ofW2 (by decide +kernel) (Nat.le_of_ble_eq_true rfl) ?_
  intro p e s m below meth c A ls H locs args Q hQ C0 hr hlk hin hP hD hA hS hl
  have C0 : k_cx p s m args c cX9_deny 2 RX9 dC dI cy sq := C0
  have hx := C0.1
  have hb := C0.2.1
  have hl : lv_has ls 2 [(0, .ref a_this), (1, .int p0)] := hl
  refine lv_aload_n hx hb dX9_deny_0 rfl (lv_at hl 0 rfl) ?_
  refine k_get C0 fg_X9_95 hP 0 rfl rfl dX9_deny_1 ?_
  refine lv_iload_n hx hb dX9_deny_4 rfl (lv_at hl 1 rfl) ?_
  refine lv_dup2_11 hx hb dX9_deny_5 rfl rfl ?_
  refine va_iald hx hb C0.2.2.2.2.2.1 hP 1 0 rfl rfl (ib_in 6 hp0 (by decide)) dX9_deny_6 ?_
  refine lv_topi (fun z27756 ez27756 => ?_)
  refine lv_iconst (v := 1) hx hb dX9_deny_7 (by decide) ?_
  refine lv_iadd hx hb dX9_deny_8 ?_
  refine lv_topi (fun z27757 ez27757 => ?_)
  refine va_iast hx hb C0.2.2.2.2.2.1 hP hD hS 1 0 rfl rfl (ib_in 6 hp0 (by decide)) dX9_deny_9 (fun H locs hP hD hS => ?_)
  have hP : va_P (dC, dI) vwCl [(a_this, .inr (9, [.ref a_this_tape, .int x_this_tapeSize, .ref a_this_plan, .ref a_this_spare, .ref a_this_now, .ref a_this_history, .ref a_this_machine, .ref a_this_reader, .ref a_this_street, .ref a_this_choice, .ref a_this_ahead, .ref a_this_watch, .ref a_this_octets, .int x_this_octetCount, .ref a_this_refusals, .long x_this_drawn])), (a_this_refusals, .inl (cy 0, 6, .inl (upd g_this_refusals (Int32.toNatClampNeg p0) z27757)))] H := hP
  have hD : va_D A [(a_this, .inr (9, [.ref a_this_tape, .int x_this_tapeSize, .ref a_this_plan, .ref a_this_spare, .ref a_this_now, .ref a_this_history, .ref a_this_machine, .ref a_this_reader, .ref a_this_street, .ref a_this_choice, .ref a_this_ahead, .ref a_this_watch, .ref a_this_octets, .int x_this_octetCount, .ref a_this_refusals, .long x_this_drawn])), (a_this_refusals, .inl (cy 0, 6, .inl (upd g_this_refusals (Int32.toNatClampNeg p0) z27757)))] := hD
  generalize upd g_this_refusals (Int32.toNatClampNeg p0) z27757 = f27758 at hP hD
  refine lv_iconst (v := 0) hx hb dX9_deny_10 (by decide) ?_
  subst hQ; exact k_iret hx hb hr hlk (k_nb 0 (by decide)) f27758 hS (ib_w 0 0 (ib_c 0 0 0 (by decide)) (by decide)) hP hD (Nat.le_of_ble_eq_true rfl) (Nat.le_of_ble_eq_true rfl) dX9_deny_11
set_option maxHeartbeats 4000000 in
set_option maxRecDepth 100000 in
theorem s_X9_drawAbsent (l : Launch) (dC : Nat → ClassId) (dI : Nat → Nat → Nat) (cy : Nat → ClassId) (sq : Nat → Nat) (a_this : Nat) (a_this_tape : Nat) (x_this_tapeSize : Int32) (a_this_plan : Nat) (x_this_plan_cycle : Int32) (x_this_plan_green : Int32) (x_this_plan_rule : Int32) (x_this_plan_least : Int32) (x_this_plan_away : Int32) (x_this_plan_statements : Int32) (x_this_plan_kinds : Int32) (a_this_plan_calm : Nat) (a_this_plan_pace : Nat) (a_this_plan_trusts : Nat) (x_this_plan_walkers : Int32) (a_this_plan_kindOf : Nat) (a_this_plan_comesAt : Nat) (a_this_plan_comers : Nat) (a_this_plan_names : Nat) (a_this_plan_code : Nat) (x_this_plan_size : Int32) (a_this_plan_spans : Nat) (a_this_spare : Nat) (a_this_now : Nat) (a_this_history : Nat) (a_this_machine : Nat) (a_this_reader : Nat) (a_this_street : Nat) (a_this_choice : Nat) (a_this_ahead : Nat) (a_this_watch : Nat) (a_this_octets : Nat) (x_this_octetCount : Int32) (a_this_refusals : Nat) (x_this_drawn : Int64) (hx_this_tapeSize : ib x_this_tapeSize 0 1600) (hx_this_plan_cycle : ib x_this_plan_cycle 0 120) (hx_this_plan_least : ib x_this_plan_least 0 99) (hx_this_plan_statements : ib x_this_plan_statements 0 81) (hx_this_plan_kinds : ib x_this_plan_kinds 0 6) (hx_this_plan_walkers : ib x_this_plan_walkers 0 12) (hx_this_plan_size : ib x_this_plan_size 0 1600) (hx_this_octetCount : ib x_this_octetCount 0 11) : k_Met l yX9_drawAbsent cX9_drawAbsent 3 (some .int) { frames := 0, cells := 0, slots := 0, locals := 0 } dC dI cy sq [.ref a_this] [(a_this, .inr (9, [.ref a_this_tape, .int x_this_tapeSize, .ref a_this_plan, .ref a_this_spare, .ref a_this_now, .ref a_this_history, .ref a_this_machine, .ref a_this_reader, .ref a_this_street, .ref a_this_choice, .ref a_this_ahead, .ref a_this_watch, .ref a_this_octets, .int x_this_octetCount, .ref a_this_refusals, .long x_this_drawn])), (a_this_plan, .inr (4, [.int x_this_plan_cycle, .int x_this_plan_green, .int x_this_plan_rule, .int x_this_plan_least, .int x_this_plan_away, .int x_this_plan_statements, .int x_this_plan_kinds, .ref a_this_plan_calm, .ref a_this_plan_pace, .ref a_this_plan_trusts, .int x_this_plan_walkers, .ref a_this_plan_kindOf, .ref a_this_plan_comesAt, .ref a_this_plan_comers, .ref a_this_plan_names, .ref a_this_plan_code, .int x_this_plan_size, .ref a_this_plan_spans]))] (k_Qi dC dI (fun (r : Int32) (n0 : Int64) => True) (fun n0 : Int64 => [(a_this, .inr (9, [.ref a_this_tape, .int x_this_tapeSize, .ref a_this_plan, .ref a_this_spare, .ref a_this_now, .ref a_this_history, .ref a_this_machine, .ref a_this_reader, .ref a_this_street, .ref a_this_choice, .ref a_this_ahead, .ref a_this_watch, .ref a_this_octets, .int x_this_octetCount, .ref a_this_refusals, .long n0])), (a_this_plan, .inr (4, [.int x_this_plan_cycle, .int x_this_plan_green, .int x_this_plan_rule, .int x_this_plan_least, .int x_this_plan_away, .int x_this_plan_statements, .int x_this_plan_kinds, .ref a_this_plan_calm, .ref a_this_plan_pace, .ref a_this_plan_trusts, .int x_this_plan_walkers, .ref a_this_plan_kindOf, .ref a_this_plan_comesAt, .ref a_this_plan_comers, .ref a_this_plan_names, .ref a_this_plan_code, .int x_this_plan_size, .ref a_this_plan_spans]))])) := by
  refine k_ofW2 (by decide +kernel) (Nat.le_of_ble_eq_true rfl) ?_
  intro p e s m below meth c A ls H locs args Q hQ C0 hr hlk hin hP hD hA hS hl
  have C0 : k_cx p s m args c cX9_drawAbsent 3 RX9 dC dI cy sq := C0
  have hx := C0.1
  have hb := C0.2.1
  have hl : lv_has ls 3 [(0, .ref a_this)] := hl
  have jn4 : ∀ (n : Nat) (J4_l2 : Int32) (J4_c0_15 : Int64) (J4_l1 : Int32) (H : Heap) (locs : List Loc) (ls : Array Slot), ib J4_l2 0 12 → 13 ≤ J4_l2.toInt + (n : Int) → va_P (dC, dI) vwCl [(a_this, .inr (9, [.ref a_this_tape, .int x_this_tapeSize, .ref a_this_plan, .ref a_this_spare, .ref a_this_now, .ref a_this_history, .ref a_this_machine, .ref a_this_reader, .ref a_this_street, .ref a_this_choice, .ref a_this_ahead, .ref a_this_watch, .ref a_this_octets, .int x_this_octetCount, .ref a_this_refusals, .long J4_c0_15])), (a_this_plan, .inr (4, [.int x_this_plan_cycle, .int x_this_plan_green, .int x_this_plan_rule, .int x_this_plan_least, .int x_this_plan_away, .int x_this_plan_statements, .int x_this_plan_kinds, .ref a_this_plan_calm, .ref a_this_plan_pace, .ref a_this_plan_trusts, .int x_this_plan_walkers, .ref a_this_plan_kindOf, .ref a_this_plan_comesAt, .ref a_this_plan_comers, .ref a_this_plan_names, .ref a_this_plan_code, .int x_this_plan_size, .ref a_this_plan_spans]))] H → va_D A [(a_this, .inr (9, [.ref a_this_tape, .int x_this_tapeSize, .ref a_this_plan, .ref a_this_spare, .ref a_this_now, .ref a_this_history, .ref a_this_machine, .ref a_this_reader, .ref a_this_street, .ref a_this_choice, .ref a_this_ahead, .ref a_this_watch, .ref a_this_octets, .int x_this_octetCount, .ref a_this_refusals, .long J4_c0_15])), (a_this_plan, .inr (4, [.int x_this_plan_cycle, .int x_this_plan_green, .int x_this_plan_rule, .int x_this_plan_least, .int x_this_plan_away, .int x_this_plan_statements, .int x_this_plan_kinds, .ref a_this_plan_calm, .ref a_this_plan_pace, .ref a_this_plan_trusts, .int x_this_plan_walkers, .ref a_this_plan_kindOf, .ref a_this_plan_comesAt, .ref a_this_plan_comers, .ref a_this_plan_names, .ref a_this_plan_code, .int x_this_plan_size, .ref a_this_plan_spans]))] → va_S A s.heap H locs → lv_has ls 3 [(0, .ref a_this), (1, .int J4_l1), (2, .int J4_l2)] → W p l e { frames := 0, cells := 0, slots := 0, locals := 0 } s m args below meth c H locs 0 0 Q (F0 m 4 ls []) := by
    intro n
    induction n with
    | zero =>
      intro J4_l2 J4_c0_15 J4_l1 H locs ls hJ4_l2 hm
      exact absurd hm (by have := hJ4_l2; unfold ib at this; omega)
    | succ n ih =>
      intro J4_l2 J4_c0_15 J4_l1 H locs ls hJ4_l2 hm4 hP hD hS hl
      have ih4 := ih
      have jn65 : ∀ (J65_l1 : Int32) (J65_c0_15 : Int64) (H : Heap) (locs : List Loc) (ls : Array Slot), ib J4_l2 0 11 → ib x_this_plan_walkers 1 12 → va_P (dC, dI) vwCl [(a_this, .inr (9, [.ref a_this_tape, .int x_this_tapeSize, .ref a_this_plan, .ref a_this_spare, .ref a_this_now, .ref a_this_history, .ref a_this_machine, .ref a_this_reader, .ref a_this_street, .ref a_this_choice, .ref a_this_ahead, .ref a_this_watch, .ref a_this_octets, .int x_this_octetCount, .ref a_this_refusals, .long J65_c0_15])), (a_this_plan, .inr (4, [.int x_this_plan_cycle, .int x_this_plan_green, .int x_this_plan_rule, .int x_this_plan_least, .int x_this_plan_away, .int x_this_plan_statements, .int x_this_plan_kinds, .ref a_this_plan_calm, .ref a_this_plan_pace, .ref a_this_plan_trusts, .int x_this_plan_walkers, .ref a_this_plan_kindOf, .ref a_this_plan_comesAt, .ref a_this_plan_comers, .ref a_this_plan_names, .ref a_this_plan_code, .int x_this_plan_size, .ref a_this_plan_spans]))] H → va_D A [(a_this, .inr (9, [.ref a_this_tape, .int x_this_tapeSize, .ref a_this_plan, .ref a_this_spare, .ref a_this_now, .ref a_this_history, .ref a_this_machine, .ref a_this_reader, .ref a_this_street, .ref a_this_choice, .ref a_this_ahead, .ref a_this_watch, .ref a_this_octets, .int x_this_octetCount, .ref a_this_refusals, .long J65_c0_15])), (a_this_plan, .inr (4, [.int x_this_plan_cycle, .int x_this_plan_green, .int x_this_plan_rule, .int x_this_plan_least, .int x_this_plan_away, .int x_this_plan_statements, .int x_this_plan_kinds, .ref a_this_plan_calm, .ref a_this_plan_pace, .ref a_this_plan_trusts, .int x_this_plan_walkers, .ref a_this_plan_kindOf, .ref a_this_plan_comesAt, .ref a_this_plan_comers, .ref a_this_plan_names, .ref a_this_plan_code, .int x_this_plan_size, .ref a_this_plan_spans]))] → va_S A s.heap H locs → lv_has ls 3 [(0, .ref a_this), (1, .int J65_l1), (2, .int J4_l2)] → W p l e { frames := 0, cells := 0, slots := 0, locals := 0 } s m args below meth c H locs 0 0 Q (F0 m 65 ls []) := by
        intro J65_l1 J65_c0_15 H locs ls hJ65_l2 hJ65_c1_10 hP hD hS hl
        obtain ⟨z28225, ez28225⟩ : ∃ y : Int32, y = J4_l2 + 1 := ⟨_, rfl⟩
        refine lv_iinc (v := z28225) (lv' := [(2, .int z28225), (0, .ref a_this), (1, .int J65_l1)]) hx hb dX9_drawAbsent_65 hl (k := 2) rfl (by rw [ez28225]; rfl) (by decide) rfl (fun ls hl => ?_)
        have h28226 := ib_add hJ65_l2 (ib_c 1 1 1 (by decide)) (by decide)
        rw [← ez28225] at h28226
        have h28227 : ib z28225 1 12 := ib_w 1 12 h28226.1 (by decide)
        refine lv_goto (tgt := 4) hx hb dX9_drawAbsent_68 (by decide) ?_
        exact ih4 z28225 J65_c0_15 J65_l1 H locs ls (ib_w 0 12 h28227 (by decide)) (by have := h28226.2; have : (1 : Int32).toInt = 1 := (by decide); omega) hP hD hS (lv_sub hl [1, 2, 0] rfl)
      refine lv_iload_n hx hb dX9_drawAbsent_4 rfl (lv_at hl 2 rfl) ?_
      refine lv_aload_n hx hb dX9_drawAbsent_5 rfl (lv_at hl 0 rfl) ?_
      refine k_get C0 fg_X9_20 hP 0 rfl rfl dX9_drawAbsent_6 ?_
      refine k_get C0 fg_X9_151 hP 1 rfl rfl dX9_drawAbsent_9 ?_
      refine lv_icmp_ge (tgt := 71) hx hb dX9_drawAbsent_12 (by decide) (fun c28228 => ?_) (fun c28228 => ?_)
      · have h28229 := ib_le hx_this_plan_walkers hJ4_l2 c28228
        refine lv_iload_n hx hb dX9_drawAbsent_71 rfl (lv_at hl 1 rfl) ?_
        subst hQ; exact k_iret hx hb hr hlk rfl J4_c0_15 hS True.intro hP hD (Nat.le_of_ble_eq_true rfl) (Nat.le_of_ble_eq_true rfl) dX9_drawAbsent_72
      · have h28230 := ib_nle hx_this_plan_walkers hJ4_l2 c28228
        have h28231 : ib x_this_plan_walkers 1 12 := ib_w 1 12 h28230.1 (by decide)
        have h28232 : ib J4_l2 0 11 := ib_w 0 11 h28230.2 (by decide)
        refine lv_aload_n hx hb dX9_drawAbsent_15 rfl (lv_at hl 0 rfl) ?_
        refine lv_ldc2 hx hb C0.2.2.2.1 (C0.2.2.2.2.1 _ wd1340) dX9_drawAbsent_16 ?_
        refine lv_aload_n hx hb dX9_drawAbsent_19 rfl (lv_at hl 0 rfl) ?_
        refine k_get C0 fg_X9_98 hP 0 rfl rfl dX9_drawAbsent_20 ?_
        refine lv_lmul hx hb dX9_drawAbsent_23 ?_
        refine lv_topl (fun z28233 ez28233 => ?_)
        refine lv_ldc2 hx hb C0.2.2.2.1 (C0.2.2.2.2.1 _ wd1341) dX9_drawAbsent_24 ?_
        refine lv_ladd hx hb dX9_drawAbsent_27 ?_
        refine lv_topl (fun z28234 ez28234 => ?_)
        refine lv_ldc2 hx hb C0.2.2.2.1 (C0.2.2.2.2.1 _ wd1342) dX9_drawAbsent_28 ?_
        refine lv_land hx hb dX9_drawAbsent_31 ?_
        refine lv_topl (fun z28235 ez28235 => ?_)
        refine k_put C0 fp_X9_98 hP hD hS 0 rfl rfl rfl (Nat.le_of_ble_eq_true rfl) dX9_drawAbsent_32 (fun H locs hP hD hS => ?_)
        have hP : va_P (dC, dI) vwCl [(a_this, .inr (9, [.ref a_this_tape, .int x_this_tapeSize, .ref a_this_plan, .ref a_this_spare, .ref a_this_now, .ref a_this_history, .ref a_this_machine, .ref a_this_reader, .ref a_this_street, .ref a_this_choice, .ref a_this_ahead, .ref a_this_watch, .ref a_this_octets, .int x_this_octetCount, .ref a_this_refusals, .long z28235])), (a_this_plan, .inr (4, [.int x_this_plan_cycle, .int x_this_plan_green, .int x_this_plan_rule, .int x_this_plan_least, .int x_this_plan_away, .int x_this_plan_statements, .int x_this_plan_kinds, .ref a_this_plan_calm, .ref a_this_plan_pace, .ref a_this_plan_trusts, .int x_this_plan_walkers, .ref a_this_plan_kindOf, .ref a_this_plan_comesAt, .ref a_this_plan_comers, .ref a_this_plan_names, .ref a_this_plan_code, .int x_this_plan_size, .ref a_this_plan_spans]))] H := hP
        have hD : va_D A [(a_this, .inr (9, [.ref a_this_tape, .int x_this_tapeSize, .ref a_this_plan, .ref a_this_spare, .ref a_this_now, .ref a_this_history, .ref a_this_machine, .ref a_this_reader, .ref a_this_street, .ref a_this_choice, .ref a_this_ahead, .ref a_this_watch, .ref a_this_octets, .int x_this_octetCount, .ref a_this_refusals, .long z28235])), (a_this_plan, .inr (4, [.int x_this_plan_cycle, .int x_this_plan_green, .int x_this_plan_rule, .int x_this_plan_least, .int x_this_plan_away, .int x_this_plan_statements, .int x_this_plan_kinds, .ref a_this_plan_calm, .ref a_this_plan_pace, .ref a_this_plan_trusts, .int x_this_plan_walkers, .ref a_this_plan_kindOf, .ref a_this_plan_comesAt, .ref a_this_plan_comers, .ref a_this_plan_names, .ref a_this_plan_code, .int x_this_plan_size, .ref a_this_plan_spans]))] := hD
        refine lv_aload_n hx hb dX9_drawAbsent_35 rfl (lv_at hl 0 rfl) ?_
        refine k_get C0 fg_X9_98 hP 0 rfl rfl dX9_drawAbsent_36 ?_
        refine lv_ldc2 hx hb C0.2.2.2.1 (C0.2.2.2.2.1 _ wd1343) dX9_drawAbsent_39 ?_
        refine lv_ldiv hx hb dX9_drawAbsent_42 (by decide) ?_
        refine lv_topl (fun z28236 ez28236 => ?_)
        refine lv_ldc2 hx hb C0.2.2.2.1 (C0.2.2.2.2.1 _ wd1344) dX9_drawAbsent_43 ?_
        refine lv_lrem hx hb dX9_drawAbsent_46 (by decide) ?_
        refine lv_topl (fun z28237 ez28237 => ?_)
        refine lv_aload_n hx hb dX9_drawAbsent_47 rfl (lv_at hl 0 rfl) ?_
        refine k_get C0 fg_X9_20 hP 0 rfl rfl dX9_drawAbsent_48 ?_
        refine k_get C0 fg_X9_348 hP 1 rfl rfl dX9_drawAbsent_51 ?_
        refine lv_i2l (v := x_this_plan_away.toInt64) hx hb dX9_drawAbsent_54 rfl ?_
        refine W.lcmp hx hb dX9_drawAbsent_55 ?_
        refine lv_topi (fun z28238 ez28238 => ?_)
        have h28239 : ib z28238 (-1) 1 := by rw [ez28238]; exact ib_cmp _ _
        refine lv_if_ge (tgt := 65) hx hb dX9_drawAbsent_56 (by decide) (fun c28240 => ?_) (fun c28240 => ?_)
        · have h28241 := ib_le (ib_c 0 0 0 (by decide)) h28239 c28240
          have h28242 : ib z28238 0 1 := ib_w 0 1 h28241.2 (by decide)
          obtain ⟨z28243, ez28243⟩ : ∃ y : Int32, y = J4_l2 + 1 := ⟨_, rfl⟩
          refine lv_iinc (v := z28243) (lv' := [(2, .int z28243), (0, .ref a_this), (1, .int J4_l1)]) hx hb dX9_drawAbsent_65 hl (k := 2) rfl (by rw [ez28243]; rfl) (by decide) rfl (fun ls hl => ?_)
          have h28244 := ib_add h28232 (ib_c 1 1 1 (by decide)) (by decide)
          rw [← ez28243] at h28244
          have h28245 : ib z28243 1 12 := ib_w 1 12 h28244.1 (by decide)
          refine lv_goto (tgt := 4) hx hb dX9_drawAbsent_68 (by decide) ?_
          exact ih4 z28243 z28235 J4_l1 H locs ls (ib_w 0 12 h28245 (by decide)) (by have := h28244.2; have : (1 : Int32).toInt = 1 := (by decide); omega) hP hD hS (lv_sub hl [1, 2, 0] rfl)
        · have h28246 := ib_nle (ib_c 0 0 0 (by decide)) h28239 c28240
          have h28247 : ib z28238 (-1) (-1) := ib_w (-1) (-1) h28246.2 (by decide)
          refine lv_iload_n hx hb dX9_drawAbsent_59 rfl (lv_at hl 1 rfl) ?_
          refine lv_iconst (v := 1) hx hb dX9_drawAbsent_60 (by decide) ?_
          refine lv_iload_n hx hb dX9_drawAbsent_61 rfl (lv_at hl 2 rfl) ?_
          refine lv_ishl hx hb dX9_drawAbsent_62 ?_
          refine lv_topi (fun z28248 ez28248 => ?_)
          refine lv_ior hx hb dX9_drawAbsent_63 ?_
          refine lv_topi (fun z28249 ez28249 => ?_)
          refine lv_istore_n (lv' := [(1, .int z28249), (0, .ref a_this), (2, .int J4_l2)]) hx hb dX9_drawAbsent_64 rfl hl (by decide) rfl (fun ls hl => ?_)
          exact jn65 z28249 z28235 H locs ls (ib_w 0 11 h28232 (by decide)) (ib_w 1 12 h28231 (by decide)) hP hD hS (lv_sub hl [1, 0, 2] rfl)
  refine lv_iconst (v := 0) hx hb dX9_drawAbsent_0 (by decide) ?_
  refine lv_istore_n (lv' := [(1, .int 0), (0, .ref a_this)]) hx hb dX9_drawAbsent_1 rfl hl (by decide) rfl (fun ls hl => ?_)
  refine lv_iconst (v := 0) hx hb dX9_drawAbsent_2 (by decide) ?_
  refine lv_istore_n (lv' := [(2, .int 0), (1, .int 0), (0, .ref a_this)]) hx hb dX9_drawAbsent_3 rfl hl (by decide) rfl (fun ls hl => ?_)
  exact jn4 14 0 x_this_drawn 0 H locs ls (ib_w 0 12 (ib_c 0 0 0 (by decide)) (by decide)) (by have := (ib_c 0 0 0 (by decide)); unfold ib at this; omega) hP hD hS (lv_sub hl [2, 1, 0] rfl)
set_option maxHeartbeats 4000000 in
set_option maxRecDepth 100000 in
theorem s_X9_end (l : Launch) (dC : Nat → ClassId) (dI : Nat → Nat → Nat) (cy : Nat → ClassId) (sq : Nat → Nat) (a_this : Nat) (a_this_tape : Nat) (x_this_tapeSize : Int32) (a_this_plan : Nat) (a_this_spare : Nat) (a_this_now : Nat) (a_this_history : Nat) (a_this_machine : Nat) (a_this_reader : Nat) (a_this_street : Nat) (a_this_choice : Nat) (a_this_ahead : Nat) (a_this_watch : Nat) (a_this_octets : Nat) (x_this_octetCount : Int32) (a_this_refusals : Nat) (g_this_refusals : Nat → Int32) (x_this_drawn : Int64) (p0 : Int32) (hx_this_tapeSize : ib x_this_tapeSize 0 1600) (hx_this_octetCount : ib x_this_octetCount 0 11) : k_Met l yX9_end cX9_end 2 (some .boolean) { frames := 1, cells := 0, slots := 0, locals := 21 } dC dI cy sq [.ref a_this, .int p0] [(a_this, .inr (9, [.ref a_this_tape, .int x_this_tapeSize, .ref a_this_plan, .ref a_this_spare, .ref a_this_now, .ref a_this_history, .ref a_this_machine, .ref a_this_reader, .ref a_this_street, .ref a_this_choice, .ref a_this_ahead, .ref a_this_watch, .ref a_this_octets, .int x_this_octetCount, .ref a_this_refusals, .long x_this_drawn])), (a_this_refusals, .inl (cy 0, 6, .inl g_this_refusals))] (k_Qi dC dI (fun (r : Int32) (u : Int32 × (Nat → Int32)) => match u with | (n0, n1) => ib r 0 1 ∧ ib n0 0 1600 ∧ (¬ r = 0 → ib p0 0 1600)) (fun u : Int32 × (Nat → Int32) => match u with | (n0, n1) => [(a_this, .inr (9, [.ref a_this_tape, .int n0, .ref a_this_plan, .ref a_this_spare, .ref a_this_now, .ref a_this_history, .ref a_this_machine, .ref a_this_reader, .ref a_this_street, .ref a_this_choice, .ref a_this_ahead, .ref a_this_watch, .ref a_this_octets, .int x_this_octetCount, .ref a_this_refusals, .long x_this_drawn])), (a_this_refusals, .inl (cy 0, 6, .inl n1))])) := by
  refine k_ofW2 (by decide +kernel) (Nat.le_of_ble_eq_true rfl) ?_
  intro p e s m below meth c A ls H locs args Q hQ C0 hr hlk hin hP hD hA hS hl
  have C0 : k_cx p s m args c cX9_end 2 RX9 dC dI cy sq := C0
  have hx := C0.1
  have hb := C0.2.1
  have hl : lv_has ls 2 [(0, .ref a_this), (1, .int p0)] := hl
  refine lv_iload_n hx hb dX9_end_0 rfl (lv_at hl 1 rfl) ?_
  refine lv_if_lt (tgt := 12) hx hb dX9_end_1 (by decide) (fun c28430 => ?_) (fun c28430 => ?_)
  · have h28431 := ib_lt (ib_any p0) (ib_c 0 0 0 (by decide)) c28430
    have h28432 : ib p0 (-2147483648) (-1) := ib_w (-2147483648) (-1) h28431.1 (by decide)
    refine lv_aload_n hx hb dX9_end_12 rfl (lv_at hl 0 rfl) ?_
    refine lv_iconst (v := 0) hx hb dX9_end_13 (by decide) ?_
    refine k_ji hP hD hS hA [0, 1] [] (wr := []) rfl rfl (by decide) (by decide) (by decide) 0 0 (Nat.le_of_ble_eq_true rfl) (Nat.le_of_ble_eq_true rfl) (fun hPc hDc => k_runV (As := [.int 0]) (rest := []) C0 (s_X9_deny l dC dI cy sq a_this a_this_tape x_this_tapeSize a_this_plan a_this_spare a_this_now a_this_history a_this_machine a_this_reader a_this_street a_this_choice a_this_ahead a_this_watch a_this_octets x_this_octetCount a_this_refusals g_this_refusals x_this_drawn 0 (ib_w 0 1600 hx_this_tapeSize (by decide)) (ib_w 0 11 hx_this_octetCount (by decide)) (ib_w 0 5 (ib_c 0 0 0 (by decide)) (by decide))) mV_X9_110 hPc hDc rfl rfl rfl hl rfl rfl (Nat.le_of_ble_eq_true rfl) ⟨(Nat.le_of_ble_eq_true rfl), (Nat.le_of_ble_eq_true rfl)⟩ ⟨(Nat.le_of_ble_eq_true rfl), (Nat.le_of_ble_eq_true rfl)⟩ dX9_end_14) (fun r28433 u28434 H locs hw hP hD hS => ?_)
    obtain ⟨f28435, ef28435⟩ : ∃ z, z = u28434 := ⟨_, rfl⟩; subst ef28435
    try dsimp only at hP hD hw
    have hP : va_P (dC, dI) vwCl [(a_this, .inr (9, [.ref a_this_tape, .int x_this_tapeSize, .ref a_this_plan, .ref a_this_spare, .ref a_this_now, .ref a_this_history, .ref a_this_machine, .ref a_this_reader, .ref a_this_street, .ref a_this_choice, .ref a_this_ahead, .ref a_this_watch, .ref a_this_octets, .int x_this_octetCount, .ref a_this_refusals, .long x_this_drawn])), (a_this_refusals, .inl (cy 0, 6, .inl f28435))] H := hP
    have hD : va_D A [(a_this, .inr (9, [.ref a_this_tape, .int x_this_tapeSize, .ref a_this_plan, .ref a_this_spare, .ref a_this_now, .ref a_this_history, .ref a_this_machine, .ref a_this_reader, .ref a_this_street, .ref a_this_choice, .ref a_this_ahead, .ref a_this_watch, .ref a_this_octets, .int x_this_octetCount, .ref a_this_refusals, .long x_this_drawn])), (a_this_refusals, .inl (cy 0, 6, .inl f28435))] := hD
    have h28436 := hw
    subst hQ; exact k_iret hx hb hr hlk (ib_bool (ib_w 0 1 h28436 (by decide))) ((x_this_tapeSize, f28435)) hS ⟨ib_w 0 1 h28436 (by decide), ib_w 0 1600 hx_this_tapeSize (by decide), fun h9 => absurd (ib_one h28436 (by decide)) h9⟩ hP hD (Nat.le_of_ble_eq_true rfl) (Nat.le_of_ble_eq_true rfl) dX9_end_17
  · have h28437 := ib_nlt (ib_any p0) (ib_c 0 0 0 (by decide)) c28430
    have h28438 : ib p0 0 2147483647 := ib_w 0 2147483647 h28437.1 (by decide)
    refine lv_iload_n hx hb dX9_end_4 rfl (lv_at hl 1 rfl) ?_
    refine lv_aload_n hx hb dX9_end_5 rfl (lv_at hl 0 rfl) ?_
    refine k_get C0 fg_X9_13 hP 0 rfl rfl dX9_end_6 ?_
    refine lv_icmp_le (tgt := 18) hx hb dX9_end_9 (by decide) (fun c28439 => ?_) (fun c28439 => ?_)
    · have h28440 := ib_le h28438 hx_this_tapeSize c28439
      have h28441 : ib p0 0 1600 := ib_w 0 1600 h28440.1 (by decide)
      refine lv_aload_n hx hb dX9_end_18 rfl (lv_at hl 0 rfl) ?_
      refine lv_iload_n hx hb dX9_end_19 rfl (lv_at hl 1 rfl) ?_
      refine k_put C0 fp_X9_13 hP hD hS 0 rfl rfl rfl (Nat.le_of_ble_eq_true rfl) dX9_end_20 (fun H locs hP hD hS => ?_)
      have hP : va_P (dC, dI) vwCl [(a_this, .inr (9, [.ref a_this_tape, .int p0, .ref a_this_plan, .ref a_this_spare, .ref a_this_now, .ref a_this_history, .ref a_this_machine, .ref a_this_reader, .ref a_this_street, .ref a_this_choice, .ref a_this_ahead, .ref a_this_watch, .ref a_this_octets, .int x_this_octetCount, .ref a_this_refusals, .long x_this_drawn])), (a_this_refusals, .inl (cy 0, 6, .inl g_this_refusals))] H := hP
      have hD : va_D A [(a_this, .inr (9, [.ref a_this_tape, .int p0, .ref a_this_plan, .ref a_this_spare, .ref a_this_now, .ref a_this_history, .ref a_this_machine, .ref a_this_reader, .ref a_this_street, .ref a_this_choice, .ref a_this_ahead, .ref a_this_watch, .ref a_this_octets, .int x_this_octetCount, .ref a_this_refusals, .long x_this_drawn])), (a_this_refusals, .inl (cy 0, 6, .inl g_this_refusals))] := hD
      refine lv_iconst (v := 1) hx hb dX9_end_23 (by decide) ?_
      subst hQ; exact k_iret hx hb hr hlk (k_nb 1 (by decide)) ((p0, g_this_refusals)) hS ⟨ib_w 0 1 (ib_c 1 1 1 (by decide)) (by decide), ib_w 0 1600 h28441 (by decide), fun _ => ib_w 0 1600 h28441 (by decide)⟩ hP hD (Nat.le_of_ble_eq_true rfl) (Nat.le_of_ble_eq_true rfl) dX9_end_24
    · have h28442 := ib_nle h28438 hx_this_tapeSize c28439
      have h28443 : ib p0 1 2147483647 := ib_w 1 2147483647 h28442.1 (by decide)
      refine lv_aload_n hx hb dX9_end_12 rfl (lv_at hl 0 rfl) ?_
      refine lv_iconst (v := 0) hx hb dX9_end_13 (by decide) ?_
      refine k_ji hP hD hS hA [0, 1] [] (wr := []) rfl rfl (by decide) (by decide) (by decide) 0 0 (Nat.le_of_ble_eq_true rfl) (Nat.le_of_ble_eq_true rfl) (fun hPc hDc => k_runV (As := [.int 0]) (rest := []) C0 (s_X9_deny l dC dI cy sq a_this a_this_tape x_this_tapeSize a_this_plan a_this_spare a_this_now a_this_history a_this_machine a_this_reader a_this_street a_this_choice a_this_ahead a_this_watch a_this_octets x_this_octetCount a_this_refusals g_this_refusals x_this_drawn 0 (ib_w 0 1600 hx_this_tapeSize (by decide)) (ib_w 0 11 hx_this_octetCount (by decide)) (ib_w 0 5 (ib_c 0 0 0 (by decide)) (by decide))) mV_X9_110 hPc hDc rfl rfl rfl hl rfl rfl (Nat.le_of_ble_eq_true rfl) ⟨(Nat.le_of_ble_eq_true rfl), (Nat.le_of_ble_eq_true rfl)⟩ ⟨(Nat.le_of_ble_eq_true rfl), (Nat.le_of_ble_eq_true rfl)⟩ dX9_end_14) (fun r28444 u28445 H locs hw hP hD hS => ?_)
      obtain ⟨f28446, ef28446⟩ : ∃ z, z = u28445 := ⟨_, rfl⟩; subst ef28446
      try dsimp only at hP hD hw
      have hP : va_P (dC, dI) vwCl [(a_this, .inr (9, [.ref a_this_tape, .int x_this_tapeSize, .ref a_this_plan, .ref a_this_spare, .ref a_this_now, .ref a_this_history, .ref a_this_machine, .ref a_this_reader, .ref a_this_street, .ref a_this_choice, .ref a_this_ahead, .ref a_this_watch, .ref a_this_octets, .int x_this_octetCount, .ref a_this_refusals, .long x_this_drawn])), (a_this_refusals, .inl (cy 0, 6, .inl f28446))] H := hP
      have hD : va_D A [(a_this, .inr (9, [.ref a_this_tape, .int x_this_tapeSize, .ref a_this_plan, .ref a_this_spare, .ref a_this_now, .ref a_this_history, .ref a_this_machine, .ref a_this_reader, .ref a_this_street, .ref a_this_choice, .ref a_this_ahead, .ref a_this_watch, .ref a_this_octets, .int x_this_octetCount, .ref a_this_refusals, .long x_this_drawn])), (a_this_refusals, .inl (cy 0, 6, .inl f28446))] := hD
      have h28447 := hw
      subst hQ; exact k_iret hx hb hr hlk (ib_bool (ib_w 0 1 h28447 (by decide))) ((x_this_tapeSize, f28446)) hS ⟨ib_w 0 1 h28447 (by decide), ib_w 0 1600 hx_this_tapeSize (by decide), fun h9 => absurd (ib_one h28447 (by decide)) h9⟩ hP hD (Nat.le_of_ble_eq_true rfl) (Nat.le_of_ble_eq_true rfl) dX9_end_17
set_option maxHeartbeats 4000000 in
set_option maxRecDepth 100000 in
theorem s_X9_fault (l : Launch) (dC : Nat → ClassId) (dI : Nat → Nat → Nat) (cy : Nat → ClassId) (sq : Nat → Nat) (a_this : Nat) (a_this_tape : Nat) (x_this_tapeSize : Int32) (a_this_plan : Nat) (a_this_spare : Nat) (a_this_now : Nat) (a_this_history : Nat) (a_this_machine : Nat) (a_this_reader : Nat) (x_this_reader_length : Int32) (x_this_reader_at : Int32) (x_this_reader_behind : Int32) (x_this_reader_sort : Int32) (x_this_reader_allowed : Int32) (x_this_reader_fault : Int32) (x_this_reader_place : Int32) (a_this_street : Nat) (a_this_choice : Nat) (a_this_ahead : Nat) (a_this_watch : Nat) (a_this_octets : Nat) (x_this_octetCount : Int32) (a_this_refusals : Nat) (x_this_drawn : Int64) (p0 : Int32) (hx_this_tapeSize : ib x_this_tapeSize 0 1600) (hx_this_reader_length : ib x_this_reader_length 0 1600) (hx_this_reader_at : ib x_this_reader_at 0 1600) (hx_this_reader_behind : ib x_this_reader_behind 0 1600) (hx_this_reader_sort : ib x_this_reader_sort 0 4) (hx_this_octetCount : ib x_this_octetCount 0 11) : k_Met l yX9_fault cX9_fault 2 (some .int) { frames := 0, cells := 0, slots := 0, locals := 0 } dC dI cy sq [.ref a_this, .int p0] [(a_this, .inr (9, [.ref a_this_tape, .int x_this_tapeSize, .ref a_this_plan, .ref a_this_spare, .ref a_this_now, .ref a_this_history, .ref a_this_machine, .ref a_this_reader, .ref a_this_street, .ref a_this_choice, .ref a_this_ahead, .ref a_this_watch, .ref a_this_octets, .int x_this_octetCount, .ref a_this_refusals, .long x_this_drawn])), (a_this_reader, .inr (5, [.ref a_this_tape, .int x_this_reader_length, .int x_this_reader_at, .int x_this_reader_behind, .int x_this_reader_sort, .int x_this_reader_allowed, .ref a_this_spare, .int x_this_reader_fault, .int x_this_reader_place]))] (k_Qi dC dI (fun (r : Int32) (_ : Unit) => True) (fun _ : Unit => [(a_this, .inr (9, [.ref a_this_tape, .int x_this_tapeSize, .ref a_this_plan, .ref a_this_spare, .ref a_this_now, .ref a_this_history, .ref a_this_machine, .ref a_this_reader, .ref a_this_street, .ref a_this_choice, .ref a_this_ahead, .ref a_this_watch, .ref a_this_octets, .int x_this_octetCount, .ref a_this_refusals, .long x_this_drawn])), (a_this_reader, .inr (5, [.ref a_this_tape, .int x_this_reader_length, .int x_this_reader_at, .int x_this_reader_behind, .int x_this_reader_sort, .int x_this_reader_allowed, .ref a_this_spare, .int x_this_reader_fault, .int x_this_reader_place]))])) := by
  refine k_ofW2 (by decide +kernel) (Nat.le_of_ble_eq_true rfl) ?_
  intro p e s m below meth c A ls H locs args Q hQ C0 hr hlk hin hP hD hA hS hl
  have C0 : k_cx p s m args c cX9_fault 2 RX9 dC dI cy sq := C0
  have hx := C0.1
  have hb := C0.2.1
  have hl : lv_has ls 2 [(0, .ref a_this), (1, .int p0)] := hl
  refine lv_iload_n hx hb dX9_fault_0 rfl (lv_at hl 1 rfl) ?_
  rcases Decidable.em (p0 = 0) with s28458_0 | s28458_0
  · subst s28458_0
    refine lv_lookup (tgt := 28) hx hb dX9_fault_1 (by decide) rfl (by decide) ?_
    refine lv_aload_n hx hb dX9_fault_28 rfl (lv_at hl 0 rfl) ?_
    refine k_get C0 fg_X9_53 hP 0 rfl rfl dX9_fault_29 ?_
    refine k_get C0 fg_X9_122 hP 1 rfl rfl dX9_fault_32 ?_
    subst hQ; exact k_iret hx hb hr hlk rfl () hS True.intro hP hD (Nat.le_of_ble_eq_true rfl) (Nat.le_of_ble_eq_true rfl) dX9_fault_35
  rcases Decidable.em (p0 = 1) with s28458_1 | s28458_1
  · subst s28458_1
    refine lv_lookup (tgt := 36) hx hb dX9_fault_1 (by decide) rfl (by decide) ?_
    refine lv_aload_n hx hb dX9_fault_36 rfl (lv_at hl 0 rfl) ?_
    refine k_get C0 fg_X9_53 hP 0 rfl rfl dX9_fault_37 ?_
    refine k_get C0 fg_X9_142 hP 1 rfl rfl dX9_fault_40 ?_
    subst hQ; exact k_iret hx hb hr hlk rfl () hS True.intro hP hD (Nat.le_of_ble_eq_true rfl) (Nat.le_of_ble_eq_true rfl) dX9_fault_43
  refine lv_lookup (tgt := 44) hx hb dX9_fault_1 (by decide) (off := 43) (k_look p0 s28458_0 s28458_1) (by decide) ?_
  refine lv_iconst (v := (-1)) hx hb dX9_fault_44 (by decide) ?_
  subst hQ; exact k_iret hx hb hr hlk rfl () hS True.intro hP hD (Nat.le_of_ble_eq_true rfl) (Nat.le_of_ble_eq_true rfl) dX9_fault_45
set_option maxHeartbeats 4000000 in
set_option maxRecDepth 100000 in
theorem s_X9_has (l : Launch) (dC : Nat → ClassId) (dI : Nat → Nat → Nat) (cy : Nat → ClassId) (sq : Nat → Nat) (a_this : Nat) (a_this_tape : Nat) (x_this_tapeSize : Int32) (a_this_plan : Nat) (x_this_plan_cycle : Int32) (x_this_plan_green : Int32) (x_this_plan_rule : Int32) (x_this_plan_least : Int32) (x_this_plan_away : Int32) (x_this_plan_statements : Int32) (x_this_plan_kinds : Int32) (a_this_plan_calm : Nat) (a_this_plan_pace : Nat) (a_this_plan_trusts : Nat) (x_this_plan_walkers : Int32) (a_this_plan_kindOf : Nat) (a_this_plan_comesAt : Nat) (a_this_plan_comers : Nat) (a_this_plan_names : Nat) (a_this_plan_code : Nat) (x_this_plan_size : Int32) (a_this_plan_spans : Nat) (a_this_spare : Nat) (a_this_now : Nat) (x_this_now_day : Int32) (x_this_now_rule : Int32) (x_this_now_green : Int32) (a_this_now_trusts : Nat) (a_this_history : Nat) (a_this_history_ring : Nat) (x_this_history_next : Int32) (x_this_history_count : Int32) (a_this_machine : Nat) (a_this_reader : Nat) (a_this_street : Nat) (a_this_choice : Nat) (a_this_ahead : Nat) (a_this_watch : Nat) (a_this_watch_seenWalker : Nat) (a_this_watch_seenSecond : Nat) (x_this_watch_rows : Int32) (x_this_watch_compared : Int32) (a_this_watch_seconds : Nat) (x_this_watch_found : Int32) (x_this_watch_foundRules : Int32) (x_this_watch_foundGreen : Int32) (x_this_watch_chosen : Int32) (x_this_watch_chosenLeft : Int32) (a_this_octets : Nat) (x_this_octetCount : Int32) (a_this_refusals : Nat) (x_this_drawn : Int64) (p0 : Int32) (hx_this_tapeSize : ib x_this_tapeSize 0 1600) (hx_this_plan_cycle : ib x_this_plan_cycle 0 120) (hx_this_plan_least : ib x_this_plan_least 0 99) (hx_this_plan_statements : ib x_this_plan_statements 0 81) (hx_this_plan_kinds : ib x_this_plan_kinds 0 6) (hx_this_plan_walkers : ib x_this_plan_walkers 0 12) (hx_this_plan_size : ib x_this_plan_size 0 1600) (hx_this_history_next : ib x_this_history_next 0 19) (hx_this_history_count : ib x_this_history_count 0 20) (hx_this_watch_rows : ib x_this_watch_rows 0 16) (hx_this_watch_compared : ib x_this_watch_compared 0 1) (hx_this_watch_found : ib x_this_watch_found 0 60) (hx_this_octetCount : ib x_this_octetCount 0 11) : k_Met l yX9_has cX9_has 2 (some .int) { frames := 0, cells := 0, slots := 0, locals := 0 } dC dI cy sq [.ref a_this, .int p0] [(a_this, .inr (9, [.ref a_this_tape, .int x_this_tapeSize, .ref a_this_plan, .ref a_this_spare, .ref a_this_now, .ref a_this_history, .ref a_this_machine, .ref a_this_reader, .ref a_this_street, .ref a_this_choice, .ref a_this_ahead, .ref a_this_watch, .ref a_this_octets, .int x_this_octetCount, .ref a_this_refusals, .long x_this_drawn])), (a_this_plan, .inr (4, [.int x_this_plan_cycle, .int x_this_plan_green, .int x_this_plan_rule, .int x_this_plan_least, .int x_this_plan_away, .int x_this_plan_statements, .int x_this_plan_kinds, .ref a_this_plan_calm, .ref a_this_plan_pace, .ref a_this_plan_trusts, .int x_this_plan_walkers, .ref a_this_plan_kindOf, .ref a_this_plan_comesAt, .ref a_this_plan_comers, .ref a_this_plan_names, .ref a_this_plan_code, .int x_this_plan_size, .ref a_this_plan_spans])), (a_this_now, .inr (6, [.int x_this_now_day, .int x_this_now_rule, .int x_this_now_green, .ref a_this_now_trusts])), (a_this_watch, .inr (8, [.ref a_this_street, .ref a_this_watch_seenWalker, .ref a_this_watch_seenSecond, .int x_this_watch_rows, .int x_this_watch_compared, .ref a_this_watch_seconds, .int x_this_watch_found, .int x_this_watch_foundRules, .int x_this_watch_foundGreen, .int x_this_watch_chosen, .int x_this_watch_chosenLeft])), (a_this_history, .inr (2, [.ref a_this_history_ring, .int x_this_history_next, .int x_this_history_count]))] (k_Qi dC dI (fun (r : Int32) (_ : Unit) => True) (fun _ : Unit => [(a_this, .inr (9, [.ref a_this_tape, .int x_this_tapeSize, .ref a_this_plan, .ref a_this_spare, .ref a_this_now, .ref a_this_history, .ref a_this_machine, .ref a_this_reader, .ref a_this_street, .ref a_this_choice, .ref a_this_ahead, .ref a_this_watch, .ref a_this_octets, .int x_this_octetCount, .ref a_this_refusals, .long x_this_drawn])), (a_this_plan, .inr (4, [.int x_this_plan_cycle, .int x_this_plan_green, .int x_this_plan_rule, .int x_this_plan_least, .int x_this_plan_away, .int x_this_plan_statements, .int x_this_plan_kinds, .ref a_this_plan_calm, .ref a_this_plan_pace, .ref a_this_plan_trusts, .int x_this_plan_walkers, .ref a_this_plan_kindOf, .ref a_this_plan_comesAt, .ref a_this_plan_comers, .ref a_this_plan_names, .ref a_this_plan_code, .int x_this_plan_size, .ref a_this_plan_spans])), (a_this_now, .inr (6, [.int x_this_now_day, .int x_this_now_rule, .int x_this_now_green, .ref a_this_now_trusts])), (a_this_watch, .inr (8, [.ref a_this_street, .ref a_this_watch_seenWalker, .ref a_this_watch_seenSecond, .int x_this_watch_rows, .int x_this_watch_compared, .ref a_this_watch_seconds, .int x_this_watch_found, .int x_this_watch_foundRules, .int x_this_watch_foundGreen, .int x_this_watch_chosen, .int x_this_watch_chosenLeft])), (a_this_history, .inr (2, [.ref a_this_history_ring, .int x_this_history_next, .int x_this_history_count]))])) := by
  refine k_ofW2 (by decide +kernel) (Nat.le_of_ble_eq_true rfl) ?_
  intro p e s m below meth c A ls H locs args Q hQ C0 hr hlk hin hP hD hA hS hl
  have C0 : k_cx p s m args c cX9_has 2 RX9 dC dI cy sq := C0
  have hx := C0.1
  have hb := C0.2.1
  have hl : lv_has ls 2 [(0, .ref a_this), (1, .int p0)] := hl
  refine lv_iload_n hx hb dX9_has_0 rfl (lv_at hl 1 rfl) ?_
  rcases Decidable.em (p0 = 0) with s29833_0 | s29833_0
  · subst s29833_0
    refine lv_tableIn (off := 47) (tgt := 48) hx hb dX9_has_1 (by decide) (by decide) (by decide) (by decide) ?_
    refine lv_aload_n hx hb dX9_has_48 rfl (lv_at hl 0 rfl) ?_
    refine k_get C0 fg_X9_20 hP 0 rfl rfl dX9_has_49 ?_
    refine k_get C0 fg_X9_145 hP 1 rfl rfl dX9_has_52 ?_
    subst hQ; exact k_iret hx hb hr hlk rfl () hS True.intro hP hD (Nat.le_of_ble_eq_true rfl) (Nat.le_of_ble_eq_true rfl) dX9_has_55
  rcases Decidable.em (p0 = 1) with s29833_1 | s29833_1
  · subst s29833_1
    refine lv_tableIn (off := 55) (tgt := 56) hx hb dX9_has_1 (by decide) (by decide) (by decide) (by decide) ?_
    refine lv_aload_n hx hb dX9_has_56 rfl (lv_at hl 0 rfl) ?_
    refine k_get C0 fg_X9_20 hP 0 rfl rfl dX9_has_57 ?_
    refine k_get C0 fg_X9_148 hP 1 rfl rfl dX9_has_60 ?_
    subst hQ; exact k_iret hx hb hr hlk rfl () hS True.intro hP hD (Nat.le_of_ble_eq_true rfl) (Nat.le_of_ble_eq_true rfl) dX9_has_63
  rcases Decidable.em (p0 = 2) with s29833_2 | s29833_2
  · subst s29833_2
    refine lv_tableIn (off := 63) (tgt := 64) hx hb dX9_has_1 (by decide) (by decide) (by decide) (by decide) ?_
    refine lv_aload_n hx hb dX9_has_64 rfl (lv_at hl 0 rfl) ?_
    refine k_get C0 fg_X9_20 hP 0 rfl rfl dX9_has_65 ?_
    refine k_get C0 fg_X9_151 hP 1 rfl rfl dX9_has_68 ?_
    subst hQ; exact k_iret hx hb hr hlk rfl () hS True.intro hP hD (Nat.le_of_ble_eq_true rfl) (Nat.le_of_ble_eq_true rfl) dX9_has_71
  rcases Decidable.em (p0 = 3) with s29833_3 | s29833_3
  · subst s29833_3
    refine lv_tableIn (off := 71) (tgt := 72) hx hb dX9_has_1 (by decide) (by decide) (by decide) (by decide) ?_
    refine lv_aload_n hx hb dX9_has_72 rfl (lv_at hl 0 rfl) ?_
    refine k_get C0 fg_X9_30 hP 0 rfl rfl dX9_has_73 ?_
    refine k_get C0 fg_X9_154 hP 2 rfl rfl dX9_has_76 ?_
    subst hQ; exact k_iret hx hb hr hlk rfl () hS True.intro hP hD (Nat.le_of_ble_eq_true rfl) (Nat.le_of_ble_eq_true rfl) dX9_has_79
  rcases Decidable.em (p0 = 4) with s29833_4 | s29833_4
  · subst s29833_4
    refine lv_tableIn (off := 79) (tgt := 80) hx hb dX9_has_1 (by decide) (by decide) (by decide) (by decide) ?_
    refine lv_aload_n hx hb dX9_has_80 rfl (lv_at hl 0 rfl) ?_
    refine k_get C0 fg_X9_30 hP 0 rfl rfl dX9_has_81 ?_
    refine k_get C0 fg_X9_157 hP 2 rfl rfl dX9_has_84 ?_
    subst hQ; exact k_iret hx hb hr hlk rfl () hS True.intro hP hD (Nat.le_of_ble_eq_true rfl) (Nat.le_of_ble_eq_true rfl) dX9_has_87
  rcases Decidable.em (p0 = 5) with s29833_5 | s29833_5
  · subst s29833_5
    refine lv_tableIn (off := 87) (tgt := 88) hx hb dX9_has_1 (by decide) (by decide) (by decide) (by decide) ?_
    refine lv_aload_n hx hb dX9_has_88 rfl (lv_at hl 0 rfl) ?_
    refine k_get C0 fg_X9_30 hP 0 rfl rfl dX9_has_89 ?_
    refine k_get C0 fg_X9_160 hP 2 rfl rfl dX9_has_92 ?_
    subst hQ; exact k_iret hx hb hr hlk rfl () hS True.intro hP hD (Nat.le_of_ble_eq_true rfl) (Nat.le_of_ble_eq_true rfl) dX9_has_95
  rcases Decidable.em (p0 = 6) with s29833_6 | s29833_6
  · subst s29833_6
    refine lv_tableIn (off := 95) (tgt := 96) hx hb dX9_has_1 (by decide) (by decide) (by decide) (by decide) ?_
    refine lv_aload_n hx hb dX9_has_96 rfl (lv_at hl 0 rfl) ?_
    refine k_get C0 fg_X9_85 hP 0 rfl rfl dX9_has_97 ?_
    refine k_get C0 fg_X9_163 hP 3 rfl rfl dX9_has_100 ?_
    subst hQ; exact k_iret hx hb hr hlk rfl () hS True.intro hP hD (Nat.le_of_ble_eq_true rfl) (Nat.le_of_ble_eq_true rfl) dX9_has_103
  rcases Decidable.em (p0 = 7) with s29833_7 | s29833_7
  · subst s29833_7
    refine lv_tableIn (off := 103) (tgt := 104) hx hb dX9_has_1 (by decide) (by decide) (by decide) (by decide) ?_
    refine lv_aload_n hx hb dX9_has_104 rfl (lv_at hl 0 rfl) ?_
    refine k_get C0 fg_X9_37 hP 0 rfl rfl dX9_has_105 ?_
    refine k_get C0 fg_X9_166 hP 4 rfl rfl dX9_has_108 ?_
    subst hQ; exact k_iret hx hb hr hlk rfl () hS True.intro hP hD (Nat.le_of_ble_eq_true rfl) (Nat.le_of_ble_eq_true rfl) dX9_has_111
  refine lv_tableOut (tgt := 112) hx hb dX9_has_1 (by simp only [← Int32.toInt_inj, kl0, kl1, kl2, kl3, kl4, kl5, kl6, kl7, kl60, klm1] at s29833_0 s29833_1 s29833_2 s29833_3 s29833_4 s29833_5 s29833_6 s29833_7; omega) (by decide) ?_
  refine lv_iconst (v := (-1)) hx hb dX9_has_112 (by decide) ?_
  subst hQ; exact k_iret hx hb hr hlk rfl () hS True.intro hP hD (Nat.le_of_ble_eq_true rfl) (Nat.le_of_ble_eq_true rfl) dX9_has_113
set_option maxHeartbeats 4000000 in
set_option maxRecDepth 100000 in
theorem s_X9_isImage (l : Launch) (dC : Nat → ClassId) (dI : Nat → Nat → Nat) (cy : Nat → ClassId) (sq : Nat → Nat) (a_this : Nat) (a_this_tape : Nat) (g_this_tape : Nat → Int32) (x_this_tapeSize : Int32) (a_this_plan : Nat) (x_this_plan_cycle : Int32) (x_this_plan_green : Int32) (x_this_plan_rule : Int32) (x_this_plan_least : Int32) (x_this_plan_away : Int32) (x_this_plan_statements : Int32) (x_this_plan_kinds : Int32) (a_this_plan_calm : Nat) (a_this_plan_pace : Nat) (a_this_plan_trusts : Nat) (x_this_plan_walkers : Int32) (a_this_plan_kindOf : Nat) (a_this_plan_comesAt : Nat) (a_this_plan_comers : Nat) (a_this_plan_names : Nat) (a_this_plan_code : Nat) (x_this_plan_size : Int32) (a_this_plan_spans : Nat) (a_this_spare : Nat) (a_this_now : Nat) (a_this_history : Nat) (a_this_machine : Nat) (a_this_reader : Nat) (a_this_street : Nat) (a_this_choice : Nat) (a_this_ahead : Nat) (a_this_watch : Nat) (a_this_octets : Nat) (x_this_octetCount : Int32) (a_this_refusals : Nat) (x_this_drawn : Int64) (p0 : Int32) (hg_this_tape : ia g_this_tape 1600 0 255) (hx_this_tapeSize : ib x_this_tapeSize 0 1600) (hx_this_plan_cycle : ib x_this_plan_cycle 0 120) (hx_this_plan_least : ib x_this_plan_least 0 99) (hx_this_plan_statements : ib x_this_plan_statements 0 81) (hx_this_plan_kinds : ib x_this_plan_kinds 0 6) (hx_this_plan_walkers : ib x_this_plan_walkers 0 12) (hx_this_plan_size : ib x_this_plan_size 0 1600) (hx_this_octetCount : ib x_this_octetCount 0 11) : k_Met l yX9_isImage cX9_isImage 3 (some .boolean) { frames := 1, cells := 0, slots := 0, locals := 23 } dC dI cy sq [.ref a_this, .int p0] [(a_this, .inr (9, [.ref a_this_tape, .int x_this_tapeSize, .ref a_this_plan, .ref a_this_spare, .ref a_this_now, .ref a_this_history, .ref a_this_machine, .ref a_this_reader, .ref a_this_street, .ref a_this_choice, .ref a_this_ahead, .ref a_this_watch, .ref a_this_octets, .int x_this_octetCount, .ref a_this_refusals, .long x_this_drawn])), (a_this_plan, .inr (4, [.int x_this_plan_cycle, .int x_this_plan_green, .int x_this_plan_rule, .int x_this_plan_least, .int x_this_plan_away, .int x_this_plan_statements, .int x_this_plan_kinds, .ref a_this_plan_calm, .ref a_this_plan_pace, .ref a_this_plan_trusts, .int x_this_plan_walkers, .ref a_this_plan_kindOf, .ref a_this_plan_comesAt, .ref a_this_plan_comers, .ref a_this_plan_names, .ref a_this_plan_code, .int x_this_plan_size, .ref a_this_plan_spans])), (a_this_tape, .inl (cy 0, 1600, .inl g_this_tape))] (k_Qi dC dI (fun (r : Int32) (_ : Unit) => ib r 0 1 ∧ (¬ r = 0 → ib x_this_plan_cycle 2 120) ∧ (¬ r = 0 → ib p0 5 11)) (fun _ : Unit => [(a_this, .inr (9, [.ref a_this_tape, .int x_this_tapeSize, .ref a_this_plan, .ref a_this_spare, .ref a_this_now, .ref a_this_history, .ref a_this_machine, .ref a_this_reader, .ref a_this_street, .ref a_this_choice, .ref a_this_ahead, .ref a_this_watch, .ref a_this_octets, .int x_this_octetCount, .ref a_this_refusals, .long x_this_drawn])), (a_this_plan, .inr (4, [.int x_this_plan_cycle, .int x_this_plan_green, .int x_this_plan_rule, .int x_this_plan_least, .int x_this_plan_away, .int x_this_plan_statements, .int x_this_plan_kinds, .ref a_this_plan_calm, .ref a_this_plan_pace, .ref a_this_plan_trusts, .int x_this_plan_walkers, .ref a_this_plan_kindOf, .ref a_this_plan_comesAt, .ref a_this_plan_comers, .ref a_this_plan_names, .ref a_this_plan_code, .int x_this_plan_size, .ref a_this_plan_spans])), (a_this_tape, .inl (cy 0, 1600, .inl g_this_tape))])) := by
  refine k_ofW2 (by decide +kernel) (Nat.le_of_ble_eq_true rfl) ?_
  intro p e s m below meth c A ls H locs args Q hQ C0 hr hlk hin hP hD hA hS hl
  have C0 : k_cx p s m args c cX9_isImage 3 RX9 dC dI cy sq := C0
  have hx := C0.1
  have hb := C0.2.1
  have hl : lv_has ls 3 [(0, .ref a_this), (1, .int p0)] := hl
  have jn24 : ∀ (n : Nat) (J24_l2 : Int32) (H : Heap) (locs : List Loc) (ls : Array Slot), ib p0 5 11 → ib x_this_plan_cycle 1 120 → ib J24_l2 0 6 → 7 ≤ J24_l2.toInt + (n : Int) → va_P (dC, dI) vwCl [(a_this, .inr (9, [.ref a_this_tape, .int x_this_tapeSize, .ref a_this_plan, .ref a_this_spare, .ref a_this_now, .ref a_this_history, .ref a_this_machine, .ref a_this_reader, .ref a_this_street, .ref a_this_choice, .ref a_this_ahead, .ref a_this_watch, .ref a_this_octets, .int x_this_octetCount, .ref a_this_refusals, .long x_this_drawn])), (a_this_plan, .inr (4, [.int x_this_plan_cycle, .int x_this_plan_green, .int x_this_plan_rule, .int x_this_plan_least, .int x_this_plan_away, .int x_this_plan_statements, .int x_this_plan_kinds, .ref a_this_plan_calm, .ref a_this_plan_pace, .ref a_this_plan_trusts, .int x_this_plan_walkers, .ref a_this_plan_kindOf, .ref a_this_plan_comesAt, .ref a_this_plan_comers, .ref a_this_plan_names, .ref a_this_plan_code, .int x_this_plan_size, .ref a_this_plan_spans])), (a_this_tape, .inl (cy 0, 1600, .inl g_this_tape))] H → va_D A [(a_this, .inr (9, [.ref a_this_tape, .int x_this_tapeSize, .ref a_this_plan, .ref a_this_spare, .ref a_this_now, .ref a_this_history, .ref a_this_machine, .ref a_this_reader, .ref a_this_street, .ref a_this_choice, .ref a_this_ahead, .ref a_this_watch, .ref a_this_octets, .int x_this_octetCount, .ref a_this_refusals, .long x_this_drawn])), (a_this_plan, .inr (4, [.int x_this_plan_cycle, .int x_this_plan_green, .int x_this_plan_rule, .int x_this_plan_least, .int x_this_plan_away, .int x_this_plan_statements, .int x_this_plan_kinds, .ref a_this_plan_calm, .ref a_this_plan_pace, .ref a_this_plan_trusts, .int x_this_plan_walkers, .ref a_this_plan_kindOf, .ref a_this_plan_comesAt, .ref a_this_plan_comers, .ref a_this_plan_names, .ref a_this_plan_code, .int x_this_plan_size, .ref a_this_plan_spans])), (a_this_tape, .inl (cy 0, 1600, .inl g_this_tape))] → va_S A s.heap H locs → lv_has ls 3 [(0, .ref a_this), (1, .int p0), (2, .int J24_l2)] → W p l e { frames := 1, cells := 0, slots := 0, locals := 23 } s m args below meth c H locs 0 0 Q (F0 m 24 ls []) := by
    intro n
    induction n with
    | zero =>
      intro J24_l2 H locs ls hJ24_l1 hJ24_c1_0 hJ24_l2 hm
      exact absurd hm (by have := hJ24_l2; unfold ib at this; omega)
    | succ n ih =>
      intro J24_l2 H locs ls hJ24_l1 hJ24_c1_0 hJ24_l2 hm24 hP hD hS hl
      have ih24 := ih
      refine lv_iload_n hx hb dX9_isImage_24 rfl (lv_at hl 2 rfl) ?_
      refine lv_aload_n hx hb dX9_isImage_25 rfl (lv_at hl 0 rfl) ?_
      refine k_get C0 fg_X9_20 hP 0 rfl rfl dX9_isImage_26 ?_
      refine k_get C0 fg_X9_148 hP 1 rfl rfl dX9_isImage_29 ?_
      refine lv_icmp_ge (tgt := 56) hx hb dX9_isImage_32 (by decide) (fun c31699 => ?_) (fun c31699 => ?_)
      · have h31700 := ib_le hx_this_plan_kinds hJ24_l2 c31699
        refine lv_aload_n hx hb dX9_isImage_56 rfl (lv_at hl 0 rfl) ?_
        refine k_get C0 fg_X9_9 hP 0 rfl rfl dX9_isImage_57 ?_
        refine lv_iconst (v := 0) hx hb dX9_isImage_60 (by decide) ?_
        refine va_iald hx hb C0.2.2.2.2.2.1 hP 2 0 rfl rfl (k_in 0 1600 (by decide)) dX9_isImage_61 ?_
        refine lv_topi (fun z31701 ez31701 => ?_)
        have h31702 : ib z31701 0 255 := by rw [ez31701]; exact ia_at hg_this_tape (k_in 0 1600 (by decide))
        refine lv_sipush (v := 256) hx hb dX9_isImage_62 (by decide) ?_
        refine lv_imul hx hb dX9_isImage_65 ?_
        refine lv_topi (fun z31703 ez31703 => ?_)
        have h31704 := ib_mul h31702 (ib_c 256 256 256 (by decide)) (by decide)
        rw [← ez31703] at h31704
        have h31705 : ib z31703 0 65280 := ib_w 0 65280 h31704.1 (by decide)
        refine lv_aload_n hx hb dX9_isImage_66 rfl (lv_at hl 0 rfl) ?_
        refine k_get C0 fg_X9_9 hP 0 rfl rfl dX9_isImage_67 ?_
        refine lv_iconst (v := 1) hx hb dX9_isImage_70 (by decide) ?_
        refine va_iald hx hb C0.2.2.2.2.2.1 hP 2 0 rfl rfl (k_in 1 1600 (by decide)) dX9_isImage_71 ?_
        refine lv_topi (fun z31706 ez31706 => ?_)
        have h31707 : ib z31706 0 255 := by rw [ez31706]; exact ia_at hg_this_tape (k_in 1 1600 (by decide))
        refine lv_iadd hx hb dX9_isImage_72 ?_
        refine lv_topi (fun z31708 ez31708 => ?_)
        have h31709 := ib_add h31705 h31707 (by decide)
        rw [← ez31708] at h31709
        have h31710 : ib z31708 0 65535 := ib_w 0 65535 h31709.1 (by decide)
        refine lv_sipush (v := 999) hx hb dX9_isImage_73 (by decide) ?_
        refine lv_icmp_gt (tgt := 130) hx hb dX9_isImage_76 (by decide) (fun c31711 => ?_) (fun c31711 => ?_)
        · have h31712 := ib_lt (ib_c 999 999 999 (by decide)) h31710 c31711
          have h31713 : ib z31708 1000 65535 := ib_w 1000 65535 h31712.2 (by decide)
          refine lv_iconst (v := 0) hx hb dX9_isImage_130 (by decide) ?_
          subst hQ; exact k_iret hx hb hr hlk (k_nb 0 (by decide)) () hS ⟨ib_w 0 1 (ib_c 0 0 0 (by decide)) (by decide), fun h9 => absurd rfl h9, fun h9 => absurd rfl h9⟩ hP hD (Nat.le_of_ble_eq_true rfl) (Nat.le_of_ble_eq_true rfl) dX9_isImage_131
        · have h31714 := ib_nlt (ib_c 999 999 999 (by decide)) h31710 c31711
          have h31715 : ib z31708 0 999 := ib_w 0 999 h31714.2 (by decide)
          refine lv_aload_n hx hb dX9_isImage_79 rfl (lv_at hl 0 rfl) ?_
          refine k_get C0 fg_X9_9 hP 0 rfl rfl dX9_isImage_80 ?_
          refine lv_iconst (v := 2) hx hb dX9_isImage_83 (by decide) ?_
          refine va_iald hx hb C0.2.2.2.2.2.1 hP 2 0 rfl rfl (k_in 2 1600 (by decide)) dX9_isImage_84 ?_
          refine lv_topi (fun z31716 ez31716 => ?_)
          have h31717 : ib z31716 0 255 := by rw [ez31716]; exact ia_at hg_this_tape (k_in 2 1600 (by decide))
          refine lv_iconst (v := 3) hx hb dX9_isImage_85 (by decide) ?_
          refine lv_icmp_ge (tgt := 130) hx hb dX9_isImage_86 (by decide) (fun c31718 => ?_) (fun c31718 => ?_)
          · have h31719 := ib_le (ib_c 3 3 3 (by decide)) h31717 c31718
            have h31720 : ib z31716 3 255 := ib_w 3 255 h31719.2 (by decide)
            refine lv_iconst (v := 0) hx hb dX9_isImage_130 (by decide) ?_
            subst hQ; exact k_iret hx hb hr hlk (k_nb 0 (by decide)) () hS ⟨ib_w 0 1 (ib_c 0 0 0 (by decide)) (by decide), fun h9 => absurd rfl h9, fun h9 => absurd rfl h9⟩ hP hD (Nat.le_of_ble_eq_true rfl) (Nat.le_of_ble_eq_true rfl) dX9_isImage_131
          · have h31721 := ib_nle (ib_c 3 3 3 (by decide)) h31717 c31718
            have h31722 : ib z31716 0 2 := ib_w 0 2 h31721.2 (by decide)
            refine lv_aload_n hx hb dX9_isImage_89 rfl (lv_at hl 0 rfl) ?_
            refine k_get C0 fg_X9_20 hP 0 rfl rfl dX9_isImage_90 ?_
            refine lv_aload_n hx hb dX9_isImage_93 rfl (lv_at hl 0 rfl) ?_
            refine k_get C0 fg_X9_9 hP 0 rfl rfl dX9_isImage_94 ?_
            refine lv_iconst (v := 3) hx hb dX9_isImage_97 (by decide) ?_
            refine va_iald hx hb C0.2.2.2.2.2.1 hP 2 0 rfl rfl (k_in 3 1600 (by decide)) dX9_isImage_98 ?_
            refine lv_topi (fun z31723 ez31723 => ?_)
            have h31724 : ib z31723 0 255 := by rw [ez31723]; exact ia_at hg_this_tape (k_in 3 1600 (by decide))
            refine k_ji hP hD hS hA [1] [0, 2] (wr := [(a_this, .inr (9, [.ref a_this_tape, .int x_this_tapeSize, .ref a_this_plan, .ref a_this_spare, .ref a_this_now, .ref a_this_history, .ref a_this_machine, .ref a_this_reader, .ref a_this_street, .ref a_this_choice, .ref a_this_ahead, .ref a_this_watch, .ref a_this_octets, .int x_this_octetCount, .ref a_this_refusals, .long x_this_drawn])), (a_this_tape, .inl (cy 0, 1600, .inl g_this_tape))]) rfl rfl (by decide) (by decide) (by decide) 0 0 (Nat.le_of_ble_eq_true rfl) (Nat.le_of_ble_eq_true rfl) (fun hPc hDc => k_runV (As := [.int z31723]) (rest := []) C0 (s_X4_allowsGreen l dC dI cy sq a_this_plan x_this_plan_cycle x_this_plan_green x_this_plan_rule x_this_plan_least x_this_plan_away x_this_plan_statements x_this_plan_kinds a_this_plan_calm a_this_plan_pace a_this_plan_trusts x_this_plan_walkers a_this_plan_kindOf a_this_plan_comesAt a_this_plan_comers a_this_plan_names a_this_plan_code x_this_plan_size a_this_plan_spans z31723 (ib_w 0 120 hJ24_c1_0 (by decide)) (ib_w 0 99 hx_this_plan_least (by decide)) (ib_w 0 81 hx_this_plan_statements (by decide)) (ib_w 0 6 hx_this_plan_kinds (by decide)) (ib_w 0 12 hx_this_plan_walkers (by decide)) (ib_w 0 1600 hx_this_plan_size (by decide))) mV_X9_284 hPc hDc rfl rfl rfl hl rfl rfl (Nat.le_of_ble_eq_true rfl) ⟨(Nat.le_of_ble_eq_true rfl), (Nat.le_of_ble_eq_true rfl)⟩ ⟨(Nat.le_of_ble_eq_true rfl), (Nat.le_of_ble_eq_true rfl)⟩ dX9_isImage_99) (fun r31725 u31726 H locs hw hP hD hS => ?_)
            try dsimp only at hP hD hw
            have hP : va_P (dC, dI) vwCl [(a_this, .inr (9, [.ref a_this_tape, .int x_this_tapeSize, .ref a_this_plan, .ref a_this_spare, .ref a_this_now, .ref a_this_history, .ref a_this_machine, .ref a_this_reader, .ref a_this_street, .ref a_this_choice, .ref a_this_ahead, .ref a_this_watch, .ref a_this_octets, .int x_this_octetCount, .ref a_this_refusals, .long x_this_drawn])), (a_this_tape, .inl (cy 0, 1600, .inl g_this_tape)), (a_this_plan, .inr (4, [.int x_this_plan_cycle, .int x_this_plan_green, .int x_this_plan_rule, .int x_this_plan_least, .int x_this_plan_away, .int x_this_plan_statements, .int x_this_plan_kinds, .ref a_this_plan_calm, .ref a_this_plan_pace, .ref a_this_plan_trusts, .int x_this_plan_walkers, .ref a_this_plan_kindOf, .ref a_this_plan_comesAt, .ref a_this_plan_comers, .ref a_this_plan_names, .ref a_this_plan_code, .int x_this_plan_size, .ref a_this_plan_spans]))] H := hP
            have hD : va_D A [(a_this, .inr (9, [.ref a_this_tape, .int x_this_tapeSize, .ref a_this_plan, .ref a_this_spare, .ref a_this_now, .ref a_this_history, .ref a_this_machine, .ref a_this_reader, .ref a_this_street, .ref a_this_choice, .ref a_this_ahead, .ref a_this_watch, .ref a_this_octets, .int x_this_octetCount, .ref a_this_refusals, .long x_this_drawn])), (a_this_tape, .inl (cy 0, 1600, .inl g_this_tape)), (a_this_plan, .inr (4, [.int x_this_plan_cycle, .int x_this_plan_green, .int x_this_plan_rule, .int x_this_plan_least, .int x_this_plan_away, .int x_this_plan_statements, .int x_this_plan_kinds, .ref a_this_plan_calm, .ref a_this_plan_pace, .ref a_this_plan_trusts, .int x_this_plan_walkers, .ref a_this_plan_kindOf, .ref a_this_plan_comesAt, .ref a_this_plan_comers, .ref a_this_plan_names, .ref a_this_plan_code, .int x_this_plan_size, .ref a_this_plan_spans]))] := hD
            obtain ⟨h31727, h31728, h31729⟩ := hw
            refine lv_if_eq (tgt := 130) hx hb dX9_isImage_102 (by decide) (fun c31730 => ?_) (fun c31730 => ?_)
            · have h31731 := ib_eq h31727 (ib_c 0 0 0 (by decide)) c31730
              have h31732 : ib r31725 0 0 := ib_w 0 0 h31731.1 (by decide)
              refine lv_iconst (v := 0) hx hb dX9_isImage_130 (by decide) ?_
              subst hQ; exact k_iret hx hb hr hlk (k_nb 0 (by decide)) () hS ⟨ib_w 0 1 (ib_c 0 0 0 (by decide)) (by decide), fun h9 => absurd rfl h9, fun h9 => absurd rfl h9⟩ (hP.sub [0, 2, 1] rfl) (hD.sub [0, 2, 1] (by decide) rfl) (Nat.le_of_ble_eq_true rfl) (Nat.le_of_ble_eq_true rfl) dX9_isImage_131
            · have h31733 : ib r31725 1 1 := ib_w 1 1 (ib_ne_lo 0 h31727 (by decide) c31730) (by decide)
              have h31734 : ib x_this_plan_cycle 2 120 := ib_w 2 120 (ib_two hJ24_c1_0 (h31728 c31730)) (by decide)
              have h31735 : ib z31723 1 60 := ib_w 1 60 (ib_two h31724 (h31729 c31730)) (by decide)
              refine lv_aload_n hx hb dX9_isImage_105 rfl (lv_at hl 0 rfl) ?_
              refine k_get C0 fg_X9_9 hP 0 rfl rfl dX9_isImage_106 ?_
              refine lv_iload_n hx hb dX9_isImage_109 rfl (lv_at hl 1 rfl) ?_
              refine lv_iconst (v := 1) hx hb dX9_isImage_110 (by decide) ?_
              refine lv_isub hx hb dX9_isImage_111 ?_
              refine lv_topi (fun z31736 ez31736 => ?_)
              have h31737 := ib_sub hJ24_l1 (ib_c 1 1 1 (by decide)) (by decide)
              rw [← ez31736] at h31737
              have h31738 : ib z31736 4 10 := ib_w 4 10 h31737.1 (by decide)
              refine va_iald hx hb C0.2.2.2.2.2.1 hP 1 0 rfl rfl (ib_in 1600 h31738 (by decide)) dX9_isImage_112 ?_
              refine lv_topi (fun z31739 ez31739 => ?_)
              have h31740 : ib z31739 0 255 := by rw [ez31739]; exact ia_at hg_this_tape (ib_in 1600 h31738 (by decide))
              refine lv_aload_n hx hb dX9_isImage_113 rfl (lv_at hl 0 rfl) ?_
              refine k_get C0 fg_X9_9 hP 0 rfl rfl dX9_isImage_114 ?_
              refine lv_iload_n hx hb dX9_isImage_117 rfl (lv_at hl 1 rfl) ?_
              refine lv_iconst (v := 1) hx hb dX9_isImage_118 (by decide) ?_
              refine lv_isub hx hb dX9_isImage_119 ?_
              refine lv_topi (fun z31741 ez31741 => ?_)
              have h31742 := ib_sub hJ24_l1 (ib_c 1 1 1 (by decide)) (by decide)
              rw [← ez31741] at h31742
              have h31743 : ib z31741 4 10 := ib_w 4 10 h31742.1 (by decide)
              refine k_ji hP hD hS hA [1] [0, 2] (wr := [(a_this, .inr (9, [.ref a_this_tape, .int x_this_tapeSize, .ref a_this_plan, .ref a_this_spare, .ref a_this_now, .ref a_this_history, .ref a_this_machine, .ref a_this_reader, .ref a_this_street, .ref a_this_choice, .ref a_this_ahead, .ref a_this_watch, .ref a_this_octets, .int x_this_octetCount, .ref a_this_refusals, .long x_this_drawn])), (a_this_plan, .inr (4, [.int x_this_plan_cycle, .int x_this_plan_green, .int x_this_plan_rule, .int x_this_plan_least, .int x_this_plan_away, .int x_this_plan_statements, .int x_this_plan_kinds, .ref a_this_plan_calm, .ref a_this_plan_pace, .ref a_this_plan_trusts, .int x_this_plan_walkers, .ref a_this_plan_kindOf, .ref a_this_plan_comesAt, .ref a_this_plan_comers, .ref a_this_plan_names, .ref a_this_plan_code, .int x_this_plan_size, .ref a_this_plan_spans]))]) rfl rfl (by decide) (by decide) (by decide) 0 0 (Nat.le_of_ble_eq_true rfl) (Nat.le_of_ble_eq_true rfl) (fun hPc hDc => k_runS (As := [.ref a_this_tape, .int z31741]) (rest := [.int z31739]) C0 (s_X9_check l dC dI cy sq a_this_tape g_this_tape z31741 (ib_w 0 1599 h31743 (by decide))) mS_X9_319 hPc hDc hl rfl rfl (Nat.le_of_ble_eq_true rfl) ⟨(Nat.le_of_ble_eq_true rfl), (Nat.le_of_ble_eq_true rfl)⟩ ⟨(Nat.le_of_ble_eq_true rfl), (Nat.le_of_ble_eq_true rfl)⟩ dX9_isImage_120) (fun r31744 u31745 H locs hw hP hD hS => ?_)
              try dsimp only at hP hD hw
              have hP : va_P (dC, dI) vwCl [(a_this, .inr (9, [.ref a_this_tape, .int x_this_tapeSize, .ref a_this_plan, .ref a_this_spare, .ref a_this_now, .ref a_this_history, .ref a_this_machine, .ref a_this_reader, .ref a_this_street, .ref a_this_choice, .ref a_this_ahead, .ref a_this_watch, .ref a_this_octets, .int x_this_octetCount, .ref a_this_refusals, .long x_this_drawn])), (a_this_plan, .inr (4, [.int x_this_plan_cycle, .int x_this_plan_green, .int x_this_plan_rule, .int x_this_plan_least, .int x_this_plan_away, .int x_this_plan_statements, .int x_this_plan_kinds, .ref a_this_plan_calm, .ref a_this_plan_pace, .ref a_this_plan_trusts, .int x_this_plan_walkers, .ref a_this_plan_kindOf, .ref a_this_plan_comesAt, .ref a_this_plan_comers, .ref a_this_plan_names, .ref a_this_plan_code, .int x_this_plan_size, .ref a_this_plan_spans])), (a_this_tape, .inl (cy 0, 1600, .inl g_this_tape))] H := hP
              have hD : va_D A [(a_this, .inr (9, [.ref a_this_tape, .int x_this_tapeSize, .ref a_this_plan, .ref a_this_spare, .ref a_this_now, .ref a_this_history, .ref a_this_machine, .ref a_this_reader, .ref a_this_street, .ref a_this_choice, .ref a_this_ahead, .ref a_this_watch, .ref a_this_octets, .int x_this_octetCount, .ref a_this_refusals, .long x_this_drawn])), (a_this_plan, .inr (4, [.int x_this_plan_cycle, .int x_this_plan_green, .int x_this_plan_rule, .int x_this_plan_least, .int x_this_plan_away, .int x_this_plan_statements, .int x_this_plan_kinds, .ref a_this_plan_calm, .ref a_this_plan_pace, .ref a_this_plan_trusts, .int x_this_plan_walkers, .ref a_this_plan_kindOf, .ref a_this_plan_comesAt, .ref a_this_plan_comers, .ref a_this_plan_names, .ref a_this_plan_code, .int x_this_plan_size, .ref a_this_plan_spans])), (a_this_tape, .inl (cy 0, 1600, .inl g_this_tape))] := hD
              refine lv_icmp_ne (tgt := 130) hx hb dX9_isImage_123 (by decide) (fun c31746 => ?_) (fun c31746 => ?_)
              · skip
                refine lv_iconst (v := 0) hx hb dX9_isImage_130 (by decide) ?_
                subst hQ; exact k_iret hx hb hr hlk (k_nb 0 (by decide)) () hS ⟨ib_w 0 1 (ib_c 0 0 0 (by decide)) (by decide), fun h9 => absurd rfl h9, fun h9 => absurd rfl h9⟩ hP hD (Nat.le_of_ble_eq_true rfl) (Nat.le_of_ble_eq_true rfl) dX9_isImage_131
              · have h31747 := ib_eq h31740 (ib_any r31744) c31746
                have h31748 : ib r31744 0 255 := ib_w 0 255 h31747.2 (by decide)
                refine lv_iconst (v := 1) hx hb dX9_isImage_126 (by decide) ?_
                refine lv_goto (tgt := 131) hx hb dX9_isImage_127 (by decide) ?_
                subst hQ; exact k_iret hx hb hr hlk (k_nb 1 (by decide)) () hS ⟨ib_w 0 1 (ib_c 1 1 1 (by decide)) (by decide), fun _ => ib_w 2 120 h31734 (by decide), fun _ => ib_w 5 11 hJ24_l1 (by decide)⟩ hP hD (Nat.le_of_ble_eq_true rfl) (Nat.le_of_ble_eq_true rfl) dX9_isImage_131
      · have h31749 := ib_nle hx_this_plan_kinds hJ24_l2 c31699
        have h31750 : ib x_this_plan_kinds 1 6 := ib_w 1 6 h31749.1 (by decide)
        have h31751 : ib J24_l2 0 5 := ib_w 0 5 h31749.2 (by decide)
        refine lv_aload_n hx hb dX9_isImage_35 rfl (lv_at hl 0 rfl) ?_
        refine k_get C0 fg_X9_9 hP 0 rfl rfl dX9_isImage_36 ?_
        refine lv_iconst (v := 4) hx hb dX9_isImage_39 (by decide) ?_
        refine lv_iload_n hx hb dX9_isImage_40 rfl (lv_at hl 2 rfl) ?_
        refine lv_iadd hx hb dX9_isImage_41 ?_
        refine lv_topi (fun z31752 ez31752 => ?_)
        have h31753 := ib_add (ib_c 4 4 4 (by decide)) h31751 (by decide)
        rw [← ez31752] at h31753
        have h31754 : ib z31752 4 9 := ib_w 4 9 h31753.1 (by decide)
        refine va_iald hx hb C0.2.2.2.2.2.1 hP 2 0 rfl rfl (ib_in 1600 h31754 (by decide)) dX9_isImage_42 ?_
        refine lv_topi (fun z31755 ez31755 => ?_)
        have h31756 : ib z31755 0 255 := by rw [ez31755]; exact ia_at hg_this_tape (ib_in 1600 h31754 (by decide))
        refine lv_bipush (v := 9) hx hb dX9_isImage_43 (by decide) ?_
        refine lv_icmp_le (tgt := 50) hx hb dX9_isImage_45 (by decide) (fun c31757 => ?_) (fun c31757 => ?_)
        · have h31758 := ib_le h31756 (ib_c 9 9 9 (by decide)) c31757
          have h31759 : ib z31755 0 9 := ib_w 0 9 h31758.1 (by decide)
          obtain ⟨z31760, ez31760⟩ : ∃ y : Int32, y = J24_l2 + 1 := ⟨_, rfl⟩
          refine lv_iinc (v := z31760) (lv' := [(2, .int z31760), (0, .ref a_this), (1, .int p0)]) hx hb dX9_isImage_50 hl (k := 2) rfl (by rw [ez31760]; rfl) (by decide) rfl (fun ls hl => ?_)
          have h31761 := ib_add h31751 (ib_c 1 1 1 (by decide)) (by decide)
          rw [← ez31760] at h31761
          have h31762 : ib z31760 1 6 := ib_w 1 6 h31761.1 (by decide)
          refine lv_goto (tgt := 24) hx hb dX9_isImage_53 (by decide) ?_
          exact ih24 z31760 H locs ls (ib_w 5 11 hJ24_l1 (by decide)) (ib_w 1 120 hJ24_c1_0 (by decide)) (ib_w 0 6 h31762 (by decide)) (by have := h31761.2; have : (1 : Int32).toInt = 1 := (by decide); omega) hP hD hS (lv_sub hl [1, 2, 0] rfl)
        · have h31763 := ib_nle h31756 (ib_c 9 9 9 (by decide)) c31757
          have h31764 : ib z31755 10 255 := ib_w 10 255 h31763.1 (by decide)
          refine lv_iconst (v := 0) hx hb dX9_isImage_48 (by decide) ?_
          subst hQ; exact k_iret hx hb hr hlk (k_nb 0 (by decide)) () hS ⟨ib_w 0 1 (ib_c 0 0 0 (by decide)) (by decide), fun h9 => absurd rfl h9, fun h9 => absurd rfl h9⟩ hP hD (Nat.le_of_ble_eq_true rfl) (Nat.le_of_ble_eq_true rfl) dX9_isImage_49
  refine lv_aload_n hx hb dX9_isImage_0 rfl (lv_at hl 0 rfl) ?_
  refine k_ji hP hD hS hA [0, 1] [2] (wr := [(a_this_tape, .inl (cy 0, 1600, .inl g_this_tape))]) rfl rfl (by decide) (by decide) (by decide) 0 0 (Nat.le_of_ble_eq_true rfl) (Nat.le_of_ble_eq_true rfl) (fun hPc hDc => k_runV (As := []) (rest := []) C0 (s_X9_stands l dC dI cy sq a_this a_this_tape x_this_tapeSize a_this_plan x_this_plan_cycle x_this_plan_green x_this_plan_rule x_this_plan_least x_this_plan_away x_this_plan_statements x_this_plan_kinds a_this_plan_calm a_this_plan_pace a_this_plan_trusts x_this_plan_walkers a_this_plan_kindOf a_this_plan_comesAt a_this_plan_comers a_this_plan_names a_this_plan_code x_this_plan_size a_this_plan_spans a_this_spare a_this_now a_this_history a_this_machine a_this_reader a_this_street a_this_choice a_this_ahead a_this_watch a_this_octets x_this_octetCount a_this_refusals x_this_drawn (ib_w 0 1600 hx_this_tapeSize (by decide)) (ib_w 0 120 hx_this_plan_cycle (by decide)) (ib_w 0 99 hx_this_plan_least (by decide)) (ib_w 0 81 hx_this_plan_statements (by decide)) (ib_w 0 6 hx_this_plan_kinds (by decide)) (ib_w 0 12 hx_this_plan_walkers (by decide)) (ib_w 0 1600 hx_this_plan_size (by decide)) (ib_w 0 11 hx_this_octetCount (by decide))) mV_X9_218 hPc hDc rfl rfl rfl hl rfl rfl (Nat.le_of_ble_eq_true rfl) ⟨(Nat.le_of_ble_eq_true rfl), (Nat.le_of_ble_eq_true rfl)⟩ ⟨(Nat.le_of_ble_eq_true rfl), (Nat.le_of_ble_eq_true rfl)⟩ dX9_isImage_1) (fun r31765 u31766 H locs hw hP hD hS => ?_)
  try dsimp only at hP hD hw
  have hP : va_P (dC, dI) vwCl [(a_this_tape, .inl (cy 0, 1600, .inl g_this_tape)), (a_this, .inr (9, [.ref a_this_tape, .int x_this_tapeSize, .ref a_this_plan, .ref a_this_spare, .ref a_this_now, .ref a_this_history, .ref a_this_machine, .ref a_this_reader, .ref a_this_street, .ref a_this_choice, .ref a_this_ahead, .ref a_this_watch, .ref a_this_octets, .int x_this_octetCount, .ref a_this_refusals, .long x_this_drawn])), (a_this_plan, .inr (4, [.int x_this_plan_cycle, .int x_this_plan_green, .int x_this_plan_rule, .int x_this_plan_least, .int x_this_plan_away, .int x_this_plan_statements, .int x_this_plan_kinds, .ref a_this_plan_calm, .ref a_this_plan_pace, .ref a_this_plan_trusts, .int x_this_plan_walkers, .ref a_this_plan_kindOf, .ref a_this_plan_comesAt, .ref a_this_plan_comers, .ref a_this_plan_names, .ref a_this_plan_code, .int x_this_plan_size, .ref a_this_plan_spans]))] H := hP
  have hD : va_D A [(a_this_tape, .inl (cy 0, 1600, .inl g_this_tape)), (a_this, .inr (9, [.ref a_this_tape, .int x_this_tapeSize, .ref a_this_plan, .ref a_this_spare, .ref a_this_now, .ref a_this_history, .ref a_this_machine, .ref a_this_reader, .ref a_this_street, .ref a_this_choice, .ref a_this_ahead, .ref a_this_watch, .ref a_this_octets, .int x_this_octetCount, .ref a_this_refusals, .long x_this_drawn])), (a_this_plan, .inr (4, [.int x_this_plan_cycle, .int x_this_plan_green, .int x_this_plan_rule, .int x_this_plan_least, .int x_this_plan_away, .int x_this_plan_statements, .int x_this_plan_kinds, .ref a_this_plan_calm, .ref a_this_plan_pace, .ref a_this_plan_trusts, .int x_this_plan_walkers, .ref a_this_plan_kindOf, .ref a_this_plan_comesAt, .ref a_this_plan_comers, .ref a_this_plan_names, .ref a_this_plan_code, .int x_this_plan_size, .ref a_this_plan_spans]))] := hD
  obtain ⟨h31767, h31768⟩ := hw
  refine lv_if_eq (tgt := 20) hx hb dX9_isImage_4 (by decide) (fun c31769 => ?_) (fun c31769 => ?_)
  · have h31770 := ib_eq h31767 (ib_c 0 0 0 (by decide)) c31769
    have h31771 : ib r31765 0 0 := ib_w 0 0 h31770.1 (by decide)
    refine lv_iconst (v := 0) hx hb dX9_isImage_20 (by decide) ?_
    subst hQ; exact k_iret hx hb hr hlk (k_nb 0 (by decide)) () hS ⟨ib_w 0 1 (ib_c 0 0 0 (by decide)) (by decide), fun h9 => absurd rfl h9, fun h9 => absurd rfl h9⟩ (hP.sub [1, 2, 0] rfl) (hD.sub [1, 2, 0] (by decide) rfl) (Nat.le_of_ble_eq_true rfl) (Nat.le_of_ble_eq_true rfl) dX9_isImage_21
  · have h31772 : ib r31765 1 1 := ib_w 1 1 (ib_ne_lo 0 h31767 (by decide) c31769) (by decide)
    have h31773 : ib x_this_plan_cycle 1 120 := ib_w 1 120 (ib_two hx_this_plan_cycle (h31768 c31769)) (by decide)
    refine lv_iload_n hx hb dX9_isImage_7 rfl (lv_at hl 1 rfl) ?_
    refine lv_aload_n hx hb dX9_isImage_8 rfl (lv_at hl 0 rfl) ?_
    refine k_get C0 fg_X9_20 hP 1 rfl rfl dX9_isImage_9 ?_
    refine k_get C0 fg_X9_148 hP 2 rfl rfl dX9_isImage_12 ?_
    refine lv_iconst (v := 5) hx hb dX9_isImage_15 (by decide) ?_
    refine lv_iadd hx hb dX9_isImage_16 ?_
    refine lv_topi (fun z31774 ez31774 => ?_)
    have h31775 := ib_add hx_this_plan_kinds (ib_c 5 5 5 (by decide)) (by decide)
    rw [← ez31774] at h31775
    have h31776 : ib z31774 5 11 := ib_w 5 11 h31775.1 (by decide)
    refine lv_icmp_eq (tgt := 22) hx hb dX9_isImage_17 (by decide) (fun c31777 => ?_) (fun c31777 => ?_)
    · have h31778 := ib_eq (ib_any p0) h31776 c31777
      have h31779 : ib p0 5 11 := ib_w 5 11 h31778.1 (by decide)
      refine lv_iconst (v := 0) hx hb dX9_isImage_22 (by decide) ?_
      refine lv_istore_n (lv' := [(2, .int 0), (0, .ref a_this), (1, .int p0)]) hx hb dX9_isImage_23 rfl hl (by decide) rfl (fun ls hl => ?_)
      exact jn24 8 0 H locs ls (ib_w 5 11 h31779 (by decide)) (ib_w 1 120 h31773 (by decide)) (ib_w 0 6 (ib_c 0 0 0 (by decide)) (by decide)) (by have := (ib_c 0 0 0 (by decide)); unfold ib at this; omega) (hP.sub [1, 2, 0] rfl) (hD.sub [1, 2, 0] (by decide) rfl) hS (lv_sub hl [1, 2, 0] rfl)
    · skip
      refine lv_iconst (v := 0) hx hb dX9_isImage_20 (by decide) ?_
      subst hQ; exact k_iret hx hb hr hlk (k_nb 0 (by decide)) () hS ⟨ib_w 0 1 (ib_c 0 0 0 (by decide)) (by decide), fun h9 => absurd rfl h9, fun h9 => absurd rfl h9⟩ (hP.sub [1, 2, 0] rfl) (hD.sub [1, 2, 0] (by decide) rfl) (Nat.le_of_ble_eq_true rfl) (Nat.le_of_ble_eq_true rfl) dX9_isImage_21
set_option maxHeartbeats 4000000 in
set_option maxRecDepth 100000 in
theorem s_X9_isKind (l : Launch) (dC : Nat → ClassId) (dI : Nat → Nat → Nat) (cy : Nat → ClassId) (sq : Nat → Nat) (a_this : Nat) (a_this_tape : Nat) (x_this_tapeSize : Int32) (a_this_plan : Nat) (x_this_plan_cycle : Int32) (x_this_plan_green : Int32) (x_this_plan_rule : Int32) (x_this_plan_least : Int32) (x_this_plan_away : Int32) (x_this_plan_statements : Int32) (x_this_plan_kinds : Int32) (a_this_plan_calm : Nat) (a_this_plan_pace : Nat) (a_this_plan_trusts : Nat) (x_this_plan_walkers : Int32) (a_this_plan_kindOf : Nat) (a_this_plan_comesAt : Nat) (a_this_plan_comers : Nat) (a_this_plan_names : Nat) (a_this_plan_code : Nat) (x_this_plan_size : Int32) (a_this_plan_spans : Nat) (a_this_spare : Nat) (a_this_now : Nat) (a_this_history : Nat) (a_this_machine : Nat) (a_this_reader : Nat) (a_this_street : Nat) (a_this_choice : Nat) (a_this_ahead : Nat) (a_this_watch : Nat) (a_this_octets : Nat) (x_this_octetCount : Int32) (a_this_refusals : Nat) (x_this_drawn : Int64) (p0 : Int32) (hx_this_tapeSize : ib x_this_tapeSize 0 1600) (hx_this_plan_cycle : ib x_this_plan_cycle 0 120) (hx_this_plan_least : ib x_this_plan_least 0 99) (hx_this_plan_statements : ib x_this_plan_statements 0 81) (hx_this_plan_kinds : ib x_this_plan_kinds 0 6) (hx_this_plan_walkers : ib x_this_plan_walkers 0 12) (hx_this_plan_size : ib x_this_plan_size 0 1600) (hx_this_octetCount : ib x_this_octetCount 0 11) : k_Met l yX9_isKind cX9_isKind 2 (some .boolean) { frames := 0, cells := 0, slots := 0, locals := 0 } dC dI cy sq [.ref a_this, .int p0] [(a_this, .inr (9, [.ref a_this_tape, .int x_this_tapeSize, .ref a_this_plan, .ref a_this_spare, .ref a_this_now, .ref a_this_history, .ref a_this_machine, .ref a_this_reader, .ref a_this_street, .ref a_this_choice, .ref a_this_ahead, .ref a_this_watch, .ref a_this_octets, .int x_this_octetCount, .ref a_this_refusals, .long x_this_drawn])), (a_this_plan, .inr (4, [.int x_this_plan_cycle, .int x_this_plan_green, .int x_this_plan_rule, .int x_this_plan_least, .int x_this_plan_away, .int x_this_plan_statements, .int x_this_plan_kinds, .ref a_this_plan_calm, .ref a_this_plan_pace, .ref a_this_plan_trusts, .int x_this_plan_walkers, .ref a_this_plan_kindOf, .ref a_this_plan_comesAt, .ref a_this_plan_comers, .ref a_this_plan_names, .ref a_this_plan_code, .int x_this_plan_size, .ref a_this_plan_spans]))] (k_Qi dC dI (fun (r : Int32) (_ : Unit) => ib r 0 1 ∧ (¬ r = 0 → ib x_this_plan_kinds 1 6) ∧ (¬ r = 0 → ib p0 0 5)) (fun _ : Unit => [(a_this, .inr (9, [.ref a_this_tape, .int x_this_tapeSize, .ref a_this_plan, .ref a_this_spare, .ref a_this_now, .ref a_this_history, .ref a_this_machine, .ref a_this_reader, .ref a_this_street, .ref a_this_choice, .ref a_this_ahead, .ref a_this_watch, .ref a_this_octets, .int x_this_octetCount, .ref a_this_refusals, .long x_this_drawn])), (a_this_plan, .inr (4, [.int x_this_plan_cycle, .int x_this_plan_green, .int x_this_plan_rule, .int x_this_plan_least, .int x_this_plan_away, .int x_this_plan_statements, .int x_this_plan_kinds, .ref a_this_plan_calm, .ref a_this_plan_pace, .ref a_this_plan_trusts, .int x_this_plan_walkers, .ref a_this_plan_kindOf, .ref a_this_plan_comesAt, .ref a_this_plan_comers, .ref a_this_plan_names, .ref a_this_plan_code, .int x_this_plan_size, .ref a_this_plan_spans]))])) := by
  refine k_ofW2 (by decide +kernel) (Nat.le_of_ble_eq_true rfl) ?_
  intro p e s m below meth c A ls H locs args Q hQ C0 hr hlk hin hP hD hA hS hl
  have C0 : k_cx p s m args c cX9_isKind 2 RX9 dC dI cy sq := C0
  have hx := C0.1
  have hb := C0.2.1
  have hl : lv_has ls 2 [(0, .ref a_this), (1, .int p0)] := hl
  refine lv_iload_n hx hb dX9_isKind_0 rfl (lv_at hl 1 rfl) ?_
  refine lv_if_lt (tgt := 19) hx hb dX9_isKind_1 (by decide) (fun c31880 => ?_) (fun c31880 => ?_)
  · have h31881 := ib_lt (ib_any p0) (ib_c 0 0 0 (by decide)) c31880
    have h31882 : ib p0 (-2147483648) (-1) := ib_w (-2147483648) (-1) h31881.1 (by decide)
    refine lv_iconst (v := 0) hx hb dX9_isKind_19 (by decide) ?_
    subst hQ; exact k_iret hx hb hr hlk (k_nb 0 (by decide)) () hS ⟨ib_w 0 1 (ib_c 0 0 0 (by decide)) (by decide), fun h9 => absurd rfl h9, fun h9 => absurd rfl h9⟩ hP hD (Nat.le_of_ble_eq_true rfl) (Nat.le_of_ble_eq_true rfl) dX9_isKind_20
  · have h31883 := ib_nlt (ib_any p0) (ib_c 0 0 0 (by decide)) c31880
    have h31884 : ib p0 0 2147483647 := ib_w 0 2147483647 h31883.1 (by decide)
    refine lv_iload_n hx hb dX9_isKind_4 rfl (lv_at hl 1 rfl) ?_
    refine lv_aload_n hx hb dX9_isKind_5 rfl (lv_at hl 0 rfl) ?_
    refine k_get C0 fg_X9_20 hP 0 rfl rfl dX9_isKind_6 ?_
    refine k_get C0 fg_X9_148 hP 1 rfl rfl dX9_isKind_9 ?_
    refine lv_icmp_ge (tgt := 19) hx hb dX9_isKind_12 (by decide) (fun c31885 => ?_) (fun c31885 => ?_)
    · have h31886 := ib_le hx_this_plan_kinds h31884 c31885
      refine lv_iconst (v := 0) hx hb dX9_isKind_19 (by decide) ?_
      subst hQ; exact k_iret hx hb hr hlk (k_nb 0 (by decide)) () hS ⟨ib_w 0 1 (ib_c 0 0 0 (by decide)) (by decide), fun h9 => absurd rfl h9, fun h9 => absurd rfl h9⟩ hP hD (Nat.le_of_ble_eq_true rfl) (Nat.le_of_ble_eq_true rfl) dX9_isKind_20
    · have h31887 := ib_nle hx_this_plan_kinds h31884 c31885
      have h31888 : ib x_this_plan_kinds 1 6 := ib_w 1 6 h31887.1 (by decide)
      have h31889 : ib p0 0 5 := ib_w 0 5 h31887.2 (by decide)
      refine lv_iconst (v := 1) hx hb dX9_isKind_15 (by decide) ?_
      refine lv_goto (tgt := 20) hx hb dX9_isKind_16 (by decide) ?_
      subst hQ; exact k_iret hx hb hr hlk (k_nb 1 (by decide)) () hS ⟨ib_w 0 1 (ib_c 1 1 1 (by decide)) (by decide), fun _ => ib_w 1 6 h31888 (by decide), fun _ => ib_w 0 5 h31889 (by decide)⟩ hP hD (Nat.le_of_ble_eq_true rfl) (Nat.le_of_ble_eq_true rfl) dX9_isKind_20
set_option maxHeartbeats 4000000 in
set_option maxRecDepth 100000 in
theorem s_X9_isWalker (l : Launch) (dC : Nat → ClassId) (dI : Nat → Nat → Nat) (cy : Nat → ClassId) (sq : Nat → Nat) (a_this : Nat) (a_this_tape : Nat) (x_this_tapeSize : Int32) (a_this_plan : Nat) (x_this_plan_cycle : Int32) (x_this_plan_green : Int32) (x_this_plan_rule : Int32) (x_this_plan_least : Int32) (x_this_plan_away : Int32) (x_this_plan_statements : Int32) (x_this_plan_kinds : Int32) (a_this_plan_calm : Nat) (a_this_plan_pace : Nat) (a_this_plan_trusts : Nat) (x_this_plan_walkers : Int32) (a_this_plan_kindOf : Nat) (a_this_plan_comesAt : Nat) (a_this_plan_comers : Nat) (a_this_plan_names : Nat) (a_this_plan_code : Nat) (x_this_plan_size : Int32) (a_this_plan_spans : Nat) (a_this_spare : Nat) (a_this_now : Nat) (a_this_history : Nat) (a_this_machine : Nat) (a_this_reader : Nat) (a_this_street : Nat) (a_this_choice : Nat) (a_this_ahead : Nat) (a_this_watch : Nat) (a_this_octets : Nat) (x_this_octetCount : Int32) (a_this_refusals : Nat) (x_this_drawn : Int64) (p0 : Int32) (hx_this_tapeSize : ib x_this_tapeSize 0 1600) (hx_this_plan_cycle : ib x_this_plan_cycle 0 120) (hx_this_plan_least : ib x_this_plan_least 0 99) (hx_this_plan_statements : ib x_this_plan_statements 0 81) (hx_this_plan_kinds : ib x_this_plan_kinds 0 6) (hx_this_plan_walkers : ib x_this_plan_walkers 0 12) (hx_this_plan_size : ib x_this_plan_size 0 1600) (hx_this_octetCount : ib x_this_octetCount 0 11) : k_Met l yX9_isWalker cX9_isWalker 2 (some .boolean) { frames := 0, cells := 0, slots := 0, locals := 0 } dC dI cy sq [.ref a_this, .int p0] [(a_this, .inr (9, [.ref a_this_tape, .int x_this_tapeSize, .ref a_this_plan, .ref a_this_spare, .ref a_this_now, .ref a_this_history, .ref a_this_machine, .ref a_this_reader, .ref a_this_street, .ref a_this_choice, .ref a_this_ahead, .ref a_this_watch, .ref a_this_octets, .int x_this_octetCount, .ref a_this_refusals, .long x_this_drawn])), (a_this_plan, .inr (4, [.int x_this_plan_cycle, .int x_this_plan_green, .int x_this_plan_rule, .int x_this_plan_least, .int x_this_plan_away, .int x_this_plan_statements, .int x_this_plan_kinds, .ref a_this_plan_calm, .ref a_this_plan_pace, .ref a_this_plan_trusts, .int x_this_plan_walkers, .ref a_this_plan_kindOf, .ref a_this_plan_comesAt, .ref a_this_plan_comers, .ref a_this_plan_names, .ref a_this_plan_code, .int x_this_plan_size, .ref a_this_plan_spans]))] (k_Qi dC dI (fun (r : Int32) (_ : Unit) => ib r 0 1 ∧ (¬ r = 0 → ib x_this_plan_walkers 1 12) ∧ (¬ r = 0 → ib p0 0 11)) (fun _ : Unit => [(a_this, .inr (9, [.ref a_this_tape, .int x_this_tapeSize, .ref a_this_plan, .ref a_this_spare, .ref a_this_now, .ref a_this_history, .ref a_this_machine, .ref a_this_reader, .ref a_this_street, .ref a_this_choice, .ref a_this_ahead, .ref a_this_watch, .ref a_this_octets, .int x_this_octetCount, .ref a_this_refusals, .long x_this_drawn])), (a_this_plan, .inr (4, [.int x_this_plan_cycle, .int x_this_plan_green, .int x_this_plan_rule, .int x_this_plan_least, .int x_this_plan_away, .int x_this_plan_statements, .int x_this_plan_kinds, .ref a_this_plan_calm, .ref a_this_plan_pace, .ref a_this_plan_trusts, .int x_this_plan_walkers, .ref a_this_plan_kindOf, .ref a_this_plan_comesAt, .ref a_this_plan_comers, .ref a_this_plan_names, .ref a_this_plan_code, .int x_this_plan_size, .ref a_this_plan_spans]))])) := by
  refine k_ofW2 (by decide +kernel) (Nat.le_of_ble_eq_true rfl) ?_
  intro p e s m below meth c A ls H locs args Q hQ C0 hr hlk hin hP hD hA hS hl
  have C0 : k_cx p s m args c cX9_isWalker 2 RX9 dC dI cy sq := C0
  have hx := C0.1
  have hb := C0.2.1
  have hl : lv_has ls 2 [(0, .ref a_this), (1, .int p0)] := hl
  refine lv_iload_n hx hb dX9_isWalker_0 rfl (lv_at hl 1 rfl) ?_
  refine lv_if_lt (tgt := 19) hx hb dX9_isWalker_1 (by decide) (fun c31990 => ?_) (fun c31990 => ?_)
  · have h31991 := ib_lt (ib_any p0) (ib_c 0 0 0 (by decide)) c31990
    have h31992 : ib p0 (-2147483648) (-1) := ib_w (-2147483648) (-1) h31991.1 (by decide)
    refine lv_iconst (v := 0) hx hb dX9_isWalker_19 (by decide) ?_
    subst hQ; exact k_iret hx hb hr hlk (k_nb 0 (by decide)) () hS ⟨ib_w 0 1 (ib_c 0 0 0 (by decide)) (by decide), fun h9 => absurd rfl h9, fun h9 => absurd rfl h9⟩ hP hD (Nat.le_of_ble_eq_true rfl) (Nat.le_of_ble_eq_true rfl) dX9_isWalker_20
  · have h31993 := ib_nlt (ib_any p0) (ib_c 0 0 0 (by decide)) c31990
    have h31994 : ib p0 0 2147483647 := ib_w 0 2147483647 h31993.1 (by decide)
    refine lv_iload_n hx hb dX9_isWalker_4 rfl (lv_at hl 1 rfl) ?_
    refine lv_aload_n hx hb dX9_isWalker_5 rfl (lv_at hl 0 rfl) ?_
    refine k_get C0 fg_X9_20 hP 0 rfl rfl dX9_isWalker_6 ?_
    refine k_get C0 fg_X9_151 hP 1 rfl rfl dX9_isWalker_9 ?_
    refine lv_icmp_ge (tgt := 19) hx hb dX9_isWalker_12 (by decide) (fun c31995 => ?_) (fun c31995 => ?_)
    · have h31996 := ib_le hx_this_plan_walkers h31994 c31995
      refine lv_iconst (v := 0) hx hb dX9_isWalker_19 (by decide) ?_
      subst hQ; exact k_iret hx hb hr hlk (k_nb 0 (by decide)) () hS ⟨ib_w 0 1 (ib_c 0 0 0 (by decide)) (by decide), fun h9 => absurd rfl h9, fun h9 => absurd rfl h9⟩ hP hD (Nat.le_of_ble_eq_true rfl) (Nat.le_of_ble_eq_true rfl) dX9_isWalker_20
    · have h31997 := ib_nle hx_this_plan_walkers h31994 c31995
      have h31998 : ib x_this_plan_walkers 1 12 := ib_w 1 12 h31997.1 (by decide)
      have h31999 : ib p0 0 11 := ib_w 0 11 h31997.2 (by decide)
      refine lv_iconst (v := 1) hx hb dX9_isWalker_15 (by decide) ?_
      refine lv_goto (tgt := 20) hx hb dX9_isWalker_16 (by decide) ?_
      subst hQ; exact k_iret hx hb hr hlk (k_nb 1 (by decide)) () hS ⟨ib_w 0 1 (ib_c 1 1 1 (by decide)) (by decide), fun _ => ib_w 1 12 h31998 (by decide), fun _ => ib_w 0 11 h31999 (by decide)⟩ hP hD (Nat.le_of_ble_eq_true rfl) (Nat.le_of_ble_eq_true rfl) dX9_isWalker_20
set_option maxHeartbeats 4000000 in
set_option maxRecDepth 100000 in
theorem s_X9_kind (l : Launch) (dC : Nat → ClassId) (dI : Nat → Nat → Nat) (cy : Nat → ClassId) (sq : Nat → Nat) (a_this : Nat) (a_this_tape : Nat) (x_this_tapeSize : Int32) (a_this_plan : Nat) (x_this_plan_cycle : Int32) (x_this_plan_green : Int32) (x_this_plan_rule : Int32) (x_this_plan_least : Int32) (x_this_plan_away : Int32) (x_this_plan_statements : Int32) (x_this_plan_kinds : Int32) (a_this_plan_calm : Nat) (g_this_plan_calm : Nat → Int32) (a_this_plan_pace : Nat) (g_this_plan_pace : Nat → Int32) (a_this_plan_trusts : Nat) (x_this_plan_walkers : Int32) (a_this_plan_kindOf : Nat) (g_this_plan_kindOf : Nat → Int32) (a_this_plan_comesAt : Nat) (a_this_plan_comers : Nat) (a_this_plan_names : Nat) (a_this_plan_code : Nat) (x_this_plan_size : Int32) (a_this_plan_spans : Nat) (a_this_spare : Nat) (a_this_now : Nat) (x_this_now_day : Int32) (x_this_now_rule : Int32) (x_this_now_green : Int32) (a_this_now_trusts : Nat) (g_this_now_trusts : Nat → Int32) (a_this_history : Nat) (a_this_machine : Nat) (a_this_reader : Nat) (a_this_street : Nat) (a_this_choice : Nat) (a_this_ahead : Nat) (a_this_watch : Nat) (a_this_octets : Nat) (x_this_octetCount : Int32) (a_this_refusals : Nat) (x_this_drawn : Int64) (p0 : Int32) (p1 : Int32) (hx_this_tapeSize : ib x_this_tapeSize 0 1600) (hx_this_plan_cycle : ib x_this_plan_cycle 0 120) (hx_this_plan_least : ib x_this_plan_least 0 99) (hx_this_plan_statements : ib x_this_plan_statements 0 81) (hx_this_plan_kinds : ib x_this_plan_kinds 0 6) (hx_this_plan_walkers : ib x_this_plan_walkers 0 12) (hg_this_plan_kindOf : ia g_this_plan_kindOf 12 0 5) (hx_this_plan_size : ib x_this_plan_size 0 1600) (hx_this_octetCount : ib x_this_octetCount 0 11) : k_Met l yX9_kind cX9_kind 3 (some .int) { frames := 1, cells := 0, slots := 0, locals := 23 } dC dI cy sq [.ref a_this, .int p0, .int p1] [(a_this, .inr (9, [.ref a_this_tape, .int x_this_tapeSize, .ref a_this_plan, .ref a_this_spare, .ref a_this_now, .ref a_this_history, .ref a_this_machine, .ref a_this_reader, .ref a_this_street, .ref a_this_choice, .ref a_this_ahead, .ref a_this_watch, .ref a_this_octets, .int x_this_octetCount, .ref a_this_refusals, .long x_this_drawn])), (a_this_plan, .inr (4, [.int x_this_plan_cycle, .int x_this_plan_green, .int x_this_plan_rule, .int x_this_plan_least, .int x_this_plan_away, .int x_this_plan_statements, .int x_this_plan_kinds, .ref a_this_plan_calm, .ref a_this_plan_pace, .ref a_this_plan_trusts, .int x_this_plan_walkers, .ref a_this_plan_kindOf, .ref a_this_plan_comesAt, .ref a_this_plan_comers, .ref a_this_plan_names, .ref a_this_plan_code, .int x_this_plan_size, .ref a_this_plan_spans])), (a_this_plan_calm, .inl (cy 0, 6, .inl g_this_plan_calm)), (a_this_plan_pace, .inl (cy 0, 6, .inl g_this_plan_pace)), (a_this_now, .inr (6, [.int x_this_now_day, .int x_this_now_rule, .int x_this_now_green, .ref a_this_now_trusts])), (a_this_now_trusts, .inl (cy 0, 6, .inl g_this_now_trusts)), (a_this_plan_kindOf, .inl (cy 0, 12, .inl g_this_plan_kindOf))] (k_Qi dC dI (fun (r : Int32) (_ : Unit) => True) (fun _ : Unit => [(a_this, .inr (9, [.ref a_this_tape, .int x_this_tapeSize, .ref a_this_plan, .ref a_this_spare, .ref a_this_now, .ref a_this_history, .ref a_this_machine, .ref a_this_reader, .ref a_this_street, .ref a_this_choice, .ref a_this_ahead, .ref a_this_watch, .ref a_this_octets, .int x_this_octetCount, .ref a_this_refusals, .long x_this_drawn])), (a_this_plan, .inr (4, [.int x_this_plan_cycle, .int x_this_plan_green, .int x_this_plan_rule, .int x_this_plan_least, .int x_this_plan_away, .int x_this_plan_statements, .int x_this_plan_kinds, .ref a_this_plan_calm, .ref a_this_plan_pace, .ref a_this_plan_trusts, .int x_this_plan_walkers, .ref a_this_plan_kindOf, .ref a_this_plan_comesAt, .ref a_this_plan_comers, .ref a_this_plan_names, .ref a_this_plan_code, .int x_this_plan_size, .ref a_this_plan_spans])), (a_this_plan_calm, .inl (cy 0, 6, .inl g_this_plan_calm)), (a_this_plan_pace, .inl (cy 0, 6, .inl g_this_plan_pace)), (a_this_now, .inr (6, [.int x_this_now_day, .int x_this_now_rule, .int x_this_now_green, .ref a_this_now_trusts])), (a_this_now_trusts, .inl (cy 0, 6, .inl g_this_now_trusts)), (a_this_plan_kindOf, .inl (cy 0, 12, .inl g_this_plan_kindOf))])) := by
  refine k_ofW2 (by decide +kernel) (Nat.le_of_ble_eq_true rfl) ?_
  intro p e s m below meth c A ls H locs args Q hQ C0 hr hlk hin hP hD hA hS hl
  have C0 : k_cx p s m args c cX9_kind 3 RX9 dC dI cy sq := C0
  have hx := C0.1
  have hb := C0.2.1
  have hl : lv_has ls 3 [(0, .ref a_this), (1, .int p0), (2, .int p1)] := hl
  refine lv_aload_n hx hb dX9_kind_0 rfl (lv_at hl 0 rfl) ?_
  refine lv_iload_n hx hb dX9_kind_1 rfl (lv_at hl 1 rfl) ?_
  refine k_ji hP hD hS hA [0, 1] [2, 3, 4, 5, 6] (wr := [(a_this_plan_calm, .inl (cy 0, 6, .inl g_this_plan_calm)), (a_this_plan_pace, .inl (cy 0, 6, .inl g_this_plan_pace)), (a_this_now, .inr (6, [.int x_this_now_day, .int x_this_now_rule, .int x_this_now_green, .ref a_this_now_trusts])), (a_this_now_trusts, .inl (cy 0, 6, .inl g_this_now_trusts)), (a_this_plan_kindOf, .inl (cy 0, 12, .inl g_this_plan_kindOf))]) rfl rfl (by decide) (by decide) (by decide) 0 0 (Nat.le_of_ble_eq_true rfl) (Nat.le_of_ble_eq_true rfl) (fun hPc hDc => k_runV (As := [.int p0]) (rest := []) C0 (s_X9_isKind l dC dI cy sq a_this a_this_tape x_this_tapeSize a_this_plan x_this_plan_cycle x_this_plan_green x_this_plan_rule x_this_plan_least x_this_plan_away x_this_plan_statements x_this_plan_kinds a_this_plan_calm a_this_plan_pace a_this_plan_trusts x_this_plan_walkers a_this_plan_kindOf a_this_plan_comesAt a_this_plan_comers a_this_plan_names a_this_plan_code x_this_plan_size a_this_plan_spans a_this_spare a_this_now a_this_history a_this_machine a_this_reader a_this_street a_this_choice a_this_ahead a_this_watch a_this_octets x_this_octetCount a_this_refusals x_this_drawn p0 (ib_w 0 1600 hx_this_tapeSize (by decide)) (ib_w 0 120 hx_this_plan_cycle (by decide)) (ib_w 0 99 hx_this_plan_least (by decide)) (ib_w 0 81 hx_this_plan_statements (by decide)) (ib_w 0 6 hx_this_plan_kinds (by decide)) (ib_w 0 12 hx_this_plan_walkers (by decide)) (ib_w 0 1600 hx_this_plan_size (by decide)) (ib_w 0 11 hx_this_octetCount (by decide))) mV_X9_169 hPc hDc rfl rfl rfl hl rfl rfl (Nat.le_of_ble_eq_true rfl) ⟨(Nat.le_of_ble_eq_true rfl), (Nat.le_of_ble_eq_true rfl)⟩ ⟨(Nat.le_of_ble_eq_true rfl), (Nat.le_of_ble_eq_true rfl)⟩ dX9_kind_2) (fun r32170 u32171 H locs hw hP hD hS => ?_)
  try dsimp only at hP hD hw
  have hP : va_P (dC, dI) vwCl [(a_this_plan_calm, .inl (cy 0, 6, .inl g_this_plan_calm)), (a_this_plan_pace, .inl (cy 0, 6, .inl g_this_plan_pace)), (a_this_now, .inr (6, [.int x_this_now_day, .int x_this_now_rule, .int x_this_now_green, .ref a_this_now_trusts])), (a_this_now_trusts, .inl (cy 0, 6, .inl g_this_now_trusts)), (a_this_plan_kindOf, .inl (cy 0, 12, .inl g_this_plan_kindOf)), (a_this, .inr (9, [.ref a_this_tape, .int x_this_tapeSize, .ref a_this_plan, .ref a_this_spare, .ref a_this_now, .ref a_this_history, .ref a_this_machine, .ref a_this_reader, .ref a_this_street, .ref a_this_choice, .ref a_this_ahead, .ref a_this_watch, .ref a_this_octets, .int x_this_octetCount, .ref a_this_refusals, .long x_this_drawn])), (a_this_plan, .inr (4, [.int x_this_plan_cycle, .int x_this_plan_green, .int x_this_plan_rule, .int x_this_plan_least, .int x_this_plan_away, .int x_this_plan_statements, .int x_this_plan_kinds, .ref a_this_plan_calm, .ref a_this_plan_pace, .ref a_this_plan_trusts, .int x_this_plan_walkers, .ref a_this_plan_kindOf, .ref a_this_plan_comesAt, .ref a_this_plan_comers, .ref a_this_plan_names, .ref a_this_plan_code, .int x_this_plan_size, .ref a_this_plan_spans]))] H := hP
  have hD : va_D A [(a_this_plan_calm, .inl (cy 0, 6, .inl g_this_plan_calm)), (a_this_plan_pace, .inl (cy 0, 6, .inl g_this_plan_pace)), (a_this_now, .inr (6, [.int x_this_now_day, .int x_this_now_rule, .int x_this_now_green, .ref a_this_now_trusts])), (a_this_now_trusts, .inl (cy 0, 6, .inl g_this_now_trusts)), (a_this_plan_kindOf, .inl (cy 0, 12, .inl g_this_plan_kindOf)), (a_this, .inr (9, [.ref a_this_tape, .int x_this_tapeSize, .ref a_this_plan, .ref a_this_spare, .ref a_this_now, .ref a_this_history, .ref a_this_machine, .ref a_this_reader, .ref a_this_street, .ref a_this_choice, .ref a_this_ahead, .ref a_this_watch, .ref a_this_octets, .int x_this_octetCount, .ref a_this_refusals, .long x_this_drawn])), (a_this_plan, .inr (4, [.int x_this_plan_cycle, .int x_this_plan_green, .int x_this_plan_rule, .int x_this_plan_least, .int x_this_plan_away, .int x_this_plan_statements, .int x_this_plan_kinds, .ref a_this_plan_calm, .ref a_this_plan_pace, .ref a_this_plan_trusts, .int x_this_plan_walkers, .ref a_this_plan_kindOf, .ref a_this_plan_comesAt, .ref a_this_plan_comers, .ref a_this_plan_names, .ref a_this_plan_code, .int x_this_plan_size, .ref a_this_plan_spans]))] := hD
  obtain ⟨h32172, h32173, h32174⟩ := hw
  refine lv_if_ne (tgt := 10) hx hb dX9_kind_5 (by decide) (fun c32175 => ?_) (fun c32175 => ?_)
  · have h32176 : ib r32170 1 1 := ib_w 1 1 (ib_ne_lo 0 h32172 (by decide) c32175) (by decide)
    have h32177 : ib x_this_plan_kinds 1 6 := ib_w 1 6 (ib_two hx_this_plan_kinds (h32173 c32175)) (by decide)
    have h32178 : ib p0 0 5 := ib_w 0 5 (ib_two (ib_any p0) (h32174 c32175)) (by decide)
    refine lv_iload_n hx hb dX9_kind_10 rfl (lv_at hl 2 rfl) ?_
    rcases Decidable.em (p1 = 0) with s32179_0 | s32179_0
    · subst s32179_0
      refine lv_tableIn (off := 29) (tgt := 40) hx hb dX9_kind_11 (by decide) (by decide) (by decide) (by decide) ?_
      refine lv_aload_n hx hb dX9_kind_40 rfl (lv_at hl 0 rfl) ?_
      refine k_get C0 fg_X9_20 hP 5 rfl rfl dX9_kind_41 ?_
      refine k_get C0 fg_X9_178 hP 6 rfl rfl dX9_kind_44 ?_
      refine lv_iload_n hx hb dX9_kind_47 rfl (lv_at hl 1 rfl) ?_
      refine va_iald hx hb C0.2.2.2.2.2.1 hP 0 0 rfl rfl (ib_in 6 h32178 (by decide)) dX9_kind_48 ?_
      refine lv_topi (fun z32180 ez32180 => ?_)
      subst hQ; exact k_iret hx hb hr hlk rfl () hS True.intro (hP.sub [5, 6, 0, 1, 2, 3, 4] rfl) (hD.sub [5, 6, 0, 1, 2, 3, 4] (by decide) rfl) (Nat.le_of_ble_eq_true rfl) (Nat.le_of_ble_eq_true rfl) dX9_kind_49
    rcases Decidable.em (p1 = 1) with s32179_1 | s32179_1
    · subst s32179_1
      refine lv_tableIn (off := 39) (tgt := 50) hx hb dX9_kind_11 (by decide) (by decide) (by decide) (by decide) ?_
      refine lv_aload_n hx hb dX9_kind_50 rfl (lv_at hl 0 rfl) ?_
      refine k_get C0 fg_X9_20 hP 5 rfl rfl dX9_kind_51 ?_
      refine k_get C0 fg_X9_181 hP 6 rfl rfl dX9_kind_54 ?_
      refine lv_iload_n hx hb dX9_kind_57 rfl (lv_at hl 1 rfl) ?_
      refine va_iald hx hb C0.2.2.2.2.2.1 hP 1 0 rfl rfl (ib_in 6 h32178 (by decide)) dX9_kind_58 ?_
      refine lv_topi (fun z32181 ez32181 => ?_)
      subst hQ; exact k_iret hx hb hr hlk rfl () hS True.intro (hP.sub [5, 6, 0, 1, 2, 3, 4] rfl) (hD.sub [5, 6, 0, 1, 2, 3, 4] (by decide) rfl) (Nat.le_of_ble_eq_true rfl) (Nat.le_of_ble_eq_true rfl) dX9_kind_59
    rcases Decidable.em (p1 = 2) with s32179_2 | s32179_2
    · subst s32179_2
      refine lv_tableIn (off := 49) (tgt := 60) hx hb dX9_kind_11 (by decide) (by decide) (by decide) (by decide) ?_
      refine lv_aload_n hx hb dX9_kind_60 rfl (lv_at hl 0 rfl) ?_
      refine k_get C0 fg_X9_30 hP 5 rfl rfl dX9_kind_61 ?_
      refine k_get C0 fg_X9_184 hP 2 rfl rfl dX9_kind_64 ?_
      refine lv_iload_n hx hb dX9_kind_67 rfl (lv_at hl 1 rfl) ?_
      refine va_iald hx hb C0.2.2.2.2.2.1 hP 3 0 rfl rfl (ib_in 6 h32178 (by decide)) dX9_kind_68 ?_
      refine lv_topi (fun z32182 ez32182 => ?_)
      subst hQ; exact k_iret hx hb hr hlk rfl () hS True.intro (hP.sub [5, 6, 0, 1, 2, 3, 4] rfl) (hD.sub [5, 6, 0, 1, 2, 3, 4] (by decide) rfl) (Nat.le_of_ble_eq_true rfl) (Nat.le_of_ble_eq_true rfl) dX9_kind_69
    rcases Decidable.em (p1 = 3) with s32179_3 | s32179_3
    · subst s32179_3
      refine lv_tableIn (off := 59) (tgt := 70) hx hb dX9_kind_11 (by decide) (by decide) (by decide) (by decide) ?_
      refine lv_aload_n hx hb dX9_kind_70 rfl (lv_at hl 0 rfl) ?_
      refine k_get C0 fg_X9_20 hP 5 rfl rfl dX9_kind_71 ?_
      refine lv_iload_n hx hb dX9_kind_74 rfl (lv_at hl 1 rfl) ?_
      refine k_ji hP hD hS hA [6, 4] [0, 1, 2, 3, 5] (wr := [(a_this_plan_calm, .inl (cy 0, 6, .inl g_this_plan_calm)), (a_this_plan_pace, .inl (cy 0, 6, .inl g_this_plan_pace)), (a_this_now, .inr (6, [.int x_this_now_day, .int x_this_now_rule, .int x_this_now_green, .ref a_this_now_trusts])), (a_this_now_trusts, .inl (cy 0, 6, .inl g_this_now_trusts)), (a_this, .inr (9, [.ref a_this_tape, .int x_this_tapeSize, .ref a_this_plan, .ref a_this_spare, .ref a_this_now, .ref a_this_history, .ref a_this_machine, .ref a_this_reader, .ref a_this_street, .ref a_this_choice, .ref a_this_ahead, .ref a_this_watch, .ref a_this_octets, .int x_this_octetCount, .ref a_this_refusals, .long x_this_drawn]))]) rfl rfl (by decide) (by decide) (by decide) 0 0 (Nat.le_of_ble_eq_true rfl) (Nat.le_of_ble_eq_true rfl) (fun hPc hDc => k_runV (As := [.int p0]) (rest := []) C0 (s_X4_walkersOf l dC dI cy sq a_this_plan x_this_plan_cycle x_this_plan_green x_this_plan_rule x_this_plan_least x_this_plan_away x_this_plan_statements x_this_plan_kinds a_this_plan_calm a_this_plan_pace a_this_plan_trusts x_this_plan_walkers a_this_plan_kindOf g_this_plan_kindOf a_this_plan_comesAt a_this_plan_comers a_this_plan_names a_this_plan_code x_this_plan_size a_this_plan_spans p0 (ib_w 0 120 hx_this_plan_cycle (by decide)) (ib_w 0 99 hx_this_plan_least (by decide)) (ib_w 0 81 hx_this_plan_statements (by decide)) (ib_w 0 6 h32177 (by decide)) (ib_w 0 12 hx_this_plan_walkers (by decide)) hg_this_plan_kindOf (ib_w 0 1600 hx_this_plan_size (by decide))) mV_X9_187 hPc hDc rfl rfl rfl hl rfl rfl (Nat.le_of_ble_eq_true rfl) ⟨(Nat.le_of_ble_eq_true rfl), (Nat.le_of_ble_eq_true rfl)⟩ ⟨(Nat.le_of_ble_eq_true rfl), (Nat.le_of_ble_eq_true rfl)⟩ dX9_kind_75) (fun r32183 u32184 H locs hw hP hD hS => ?_)
      try dsimp only at hP hD hw
      have hP : va_P (dC, dI) vwCl [(a_this_plan_calm, .inl (cy 0, 6, .inl g_this_plan_calm)), (a_this_plan_pace, .inl (cy 0, 6, .inl g_this_plan_pace)), (a_this_now, .inr (6, [.int x_this_now_day, .int x_this_now_rule, .int x_this_now_green, .ref a_this_now_trusts])), (a_this_now_trusts, .inl (cy 0, 6, .inl g_this_now_trusts)), (a_this, .inr (9, [.ref a_this_tape, .int x_this_tapeSize, .ref a_this_plan, .ref a_this_spare, .ref a_this_now, .ref a_this_history, .ref a_this_machine, .ref a_this_reader, .ref a_this_street, .ref a_this_choice, .ref a_this_ahead, .ref a_this_watch, .ref a_this_octets, .int x_this_octetCount, .ref a_this_refusals, .long x_this_drawn])), (a_this_plan, .inr (4, [.int x_this_plan_cycle, .int x_this_plan_green, .int x_this_plan_rule, .int x_this_plan_least, .int x_this_plan_away, .int x_this_plan_statements, .int x_this_plan_kinds, .ref a_this_plan_calm, .ref a_this_plan_pace, .ref a_this_plan_trusts, .int x_this_plan_walkers, .ref a_this_plan_kindOf, .ref a_this_plan_comesAt, .ref a_this_plan_comers, .ref a_this_plan_names, .ref a_this_plan_code, .int x_this_plan_size, .ref a_this_plan_spans])), (a_this_plan_kindOf, .inl (cy 0, 12, .inl g_this_plan_kindOf))] H := hP
      have hD : va_D A [(a_this_plan_calm, .inl (cy 0, 6, .inl g_this_plan_calm)), (a_this_plan_pace, .inl (cy 0, 6, .inl g_this_plan_pace)), (a_this_now, .inr (6, [.int x_this_now_day, .int x_this_now_rule, .int x_this_now_green, .ref a_this_now_trusts])), (a_this_now_trusts, .inl (cy 0, 6, .inl g_this_now_trusts)), (a_this, .inr (9, [.ref a_this_tape, .int x_this_tapeSize, .ref a_this_plan, .ref a_this_spare, .ref a_this_now, .ref a_this_history, .ref a_this_machine, .ref a_this_reader, .ref a_this_street, .ref a_this_choice, .ref a_this_ahead, .ref a_this_watch, .ref a_this_octets, .int x_this_octetCount, .ref a_this_refusals, .long x_this_drawn])), (a_this_plan, .inr (4, [.int x_this_plan_cycle, .int x_this_plan_green, .int x_this_plan_rule, .int x_this_plan_least, .int x_this_plan_away, .int x_this_plan_statements, .int x_this_plan_kinds, .ref a_this_plan_calm, .ref a_this_plan_pace, .ref a_this_plan_trusts, .int x_this_plan_walkers, .ref a_this_plan_kindOf, .ref a_this_plan_comesAt, .ref a_this_plan_comers, .ref a_this_plan_names, .ref a_this_plan_code, .int x_this_plan_size, .ref a_this_plan_spans])), (a_this_plan_kindOf, .inl (cy 0, 12, .inl g_this_plan_kindOf))] := hD
      subst hQ; exact k_iret hx hb hr hlk rfl () hS True.intro (hP.sub [4, 5, 0, 1, 2, 3, 6] rfl) (hD.sub [4, 5, 0, 1, 2, 3, 6] (by decide) rfl) (Nat.le_of_ble_eq_true rfl) (Nat.le_of_ble_eq_true rfl) dX9_kind_78
    refine lv_tableOut (tgt := 79) hx hb dX9_kind_11 (by simp only [← Int32.toInt_inj, kl0, kl1, kl2, kl3, kl4, kl5, kl6, kl7, kl60, klm1] at s32179_0 s32179_1 s32179_2 s32179_3; omega) (by decide) ?_
    refine lv_iconst (v := (-1)) hx hb dX9_kind_79 (by decide) ?_
    subst hQ; exact k_iret hx hb hr hlk rfl () hS True.intro (hP.sub [5, 6, 0, 1, 2, 3, 4] rfl) (hD.sub [5, 6, 0, 1, 2, 3, 4] (by decide) rfl) (Nat.le_of_ble_eq_true rfl) (Nat.le_of_ble_eq_true rfl) dX9_kind_80
  · have h32185 := ib_eq h32172 (ib_c 0 0 0 (by decide)) c32175
    have h32186 : ib r32170 0 0 := ib_w 0 0 h32185.1 (by decide)
    refine lv_iconst (v := (-1)) hx hb dX9_kind_8 (by decide) ?_
    subst hQ; exact k_iret hx hb hr hlk rfl () hS True.intro (hP.sub [5, 6, 0, 1, 2, 3, 4] rfl) (hD.sub [5, 6, 0, 1, 2, 3, 4] (by decide) rfl) (Nat.le_of_ble_eq_true rfl) (Nat.le_of_ble_eq_true rfl) dX9_kind_9
set_option maxHeartbeats 4000000 in
set_option maxRecDepth 100000 in
theorem s_X9_octet (l : Launch) (dC : Nat → ClassId) (dI : Nat → Nat → Nat) (cy : Nat → ClassId) (sq : Nat → Nat) (a_this : Nat) (a_this_tape : Nat) (x_this_tapeSize : Int32) (a_this_plan : Nat) (a_this_spare : Nat) (a_this_now : Nat) (a_this_history : Nat) (a_this_machine : Nat) (a_this_reader : Nat) (a_this_street : Nat) (a_this_choice : Nat) (a_this_ahead : Nat) (a_this_watch : Nat) (a_this_octets : Nat) (g_this_octets : Nat → Int32) (x_this_octetCount : Int32) (a_this_refusals : Nat) (x_this_drawn : Int64) (p0 : Int32) (hx_this_tapeSize : ib x_this_tapeSize 0 1600) (hx_this_octetCount : ib x_this_octetCount 0 11) : k_Met l yX9_octet cX9_octet 2 (some .int) { frames := 0, cells := 0, slots := 0, locals := 0 } dC dI cy sq [.ref a_this, .int p0] [(a_this, .inr (9, [.ref a_this_tape, .int x_this_tapeSize, .ref a_this_plan, .ref a_this_spare, .ref a_this_now, .ref a_this_history, .ref a_this_machine, .ref a_this_reader, .ref a_this_street, .ref a_this_choice, .ref a_this_ahead, .ref a_this_watch, .ref a_this_octets, .int x_this_octetCount, .ref a_this_refusals, .long x_this_drawn])), (a_this_octets, .inl (cy 0, 11, .inl g_this_octets))] (k_Qi dC dI (fun (r : Int32) (_ : Unit) => True) (fun _ : Unit => [(a_this, .inr (9, [.ref a_this_tape, .int x_this_tapeSize, .ref a_this_plan, .ref a_this_spare, .ref a_this_now, .ref a_this_history, .ref a_this_machine, .ref a_this_reader, .ref a_this_street, .ref a_this_choice, .ref a_this_ahead, .ref a_this_watch, .ref a_this_octets, .int x_this_octetCount, .ref a_this_refusals, .long x_this_drawn])), (a_this_octets, .inl (cy 0, 11, .inl g_this_octets))])) := by
  refine k_ofW2 (by decide +kernel) (Nat.le_of_ble_eq_true rfl) ?_
  intro p e s m below meth c A ls H locs args Q hQ C0 hr hlk hin hP hD hA hS hl
  have C0 : k_cx p s m args c cX9_octet 2 RX9 dC dI cy sq := C0
  have hx := C0.1
  have hb := C0.2.1
  have hl : lv_has ls 2 [(0, .ref a_this), (1, .int p0)] := hl
  refine lv_iload_n hx hb dX9_octet_0 rfl (lv_at hl 1 rfl) ?_
  refine lv_if_lt (tgt := 21) hx hb dX9_octet_1 (by decide) (fun c32809 => ?_) (fun c32809 => ?_)
  · have h32810 := ib_lt (ib_any p0) (ib_c 0 0 0 (by decide)) c32809
    have h32811 : ib p0 (-2147483648) (-1) := ib_w (-2147483648) (-1) h32810.1 (by decide)
    refine lv_iconst (v := (-1)) hx hb dX9_octet_21 (by decide) ?_
    subst hQ; exact k_iret hx hb hr hlk rfl () hS True.intro hP hD (Nat.le_of_ble_eq_true rfl) (Nat.le_of_ble_eq_true rfl) dX9_octet_22
  · have h32812 := ib_nlt (ib_any p0) (ib_c 0 0 0 (by decide)) c32809
    have h32813 : ib p0 0 2147483647 := ib_w 0 2147483647 h32812.1 (by decide)
    refine lv_iload_n hx hb dX9_octet_4 rfl (lv_at hl 1 rfl) ?_
    refine lv_aload_n hx hb dX9_octet_5 rfl (lv_at hl 0 rfl) ?_
    refine k_get C0 fg_X9_92 hP 0 rfl rfl dX9_octet_6 ?_
    refine lv_icmp_ge (tgt := 21) hx hb dX9_octet_9 (by decide) (fun c32814 => ?_) (fun c32814 => ?_)
    · have h32815 := ib_le hx_this_octetCount h32813 c32814
      refine lv_iconst (v := (-1)) hx hb dX9_octet_21 (by decide) ?_
      subst hQ; exact k_iret hx hb hr hlk rfl () hS True.intro hP hD (Nat.le_of_ble_eq_true rfl) (Nat.le_of_ble_eq_true rfl) dX9_octet_22
    · have h32816 := ib_nle hx_this_octetCount h32813 c32814
      have h32817 : ib x_this_octetCount 1 11 := ib_w 1 11 h32816.1 (by decide)
      have h32818 : ib p0 0 10 := ib_w 0 10 h32816.2 (by decide)
      refine lv_aload_n hx hb dX9_octet_12 rfl (lv_at hl 0 rfl) ?_
      refine k_get C0 fg_X9_89 hP 0 rfl rfl dX9_octet_13 ?_
      refine lv_iload_n hx hb dX9_octet_16 rfl (lv_at hl 1 rfl) ?_
      refine va_iald hx hb C0.2.2.2.2.2.1 hP 1 0 rfl rfl (ib_in 11 h32818 (by decide)) dX9_octet_17 ?_
      refine lv_topi (fun z32819 ez32819 => ?_)
      refine lv_goto (tgt := 22) hx hb dX9_octet_18 (by decide) ?_
      subst hQ; exact k_iret hx hb hr hlk rfl () hS True.intro hP hD (Nat.le_of_ble_eq_true rfl) (Nat.le_of_ble_eq_true rfl) dX9_octet_22
set_option maxHeartbeats 4000000 in
set_option maxRecDepth 100000 in
theorem s_X9_refuse (l : Launch) (dC : Nat → ClassId) (dI : Nat → Nat → Nat) (cy : Nat → ClassId) (sq : Nat → Nat) (a_this : Nat) (a_this_tape : Nat) (x_this_tapeSize : Int32) (a_this_plan : Nat) (a_this_spare : Nat) (a_this_now : Nat) (a_this_history : Nat) (a_this_machine : Nat) (a_this_reader : Nat) (a_this_street : Nat) (a_this_choice : Nat) (a_this_ahead : Nat) (a_this_watch : Nat) (a_this_octets : Nat) (x_this_octetCount : Int32) (a_this_refusals : Nat) (g_this_refusals : Nat → Int32) (x_this_drawn : Int64) (p0 : Int32) (hx_this_tapeSize : ib x_this_tapeSize 0 1600) (hx_this_octetCount : ib x_this_octetCount 0 11) (hp0 : ib p0 0 5) : k_Met l yX9_refuse cX9_refuse 2 (some .int) { frames := 0, cells := 0, slots := 0, locals := 0 } dC dI cy sq [.ref a_this, .int p0] [(a_this, .inr (9, [.ref a_this_tape, .int x_this_tapeSize, .ref a_this_plan, .ref a_this_spare, .ref a_this_now, .ref a_this_history, .ref a_this_machine, .ref a_this_reader, .ref a_this_street, .ref a_this_choice, .ref a_this_ahead, .ref a_this_watch, .ref a_this_octets, .int x_this_octetCount, .ref a_this_refusals, .long x_this_drawn])), (a_this_refusals, .inl (cy 0, 6, .inl g_this_refusals))] (k_Qi dC dI (fun (r : Int32) (n0 : (Nat → Int32)) => ib r (-1) (-1)) (fun n0 : (Nat → Int32) => [(a_this, .inr (9, [.ref a_this_tape, .int x_this_tapeSize, .ref a_this_plan, .ref a_this_spare, .ref a_this_now, .ref a_this_history, .ref a_this_machine, .ref a_this_reader, .ref a_this_street, .ref a_this_choice, .ref a_this_ahead, .ref a_this_watch, .ref a_this_octets, .int x_this_octetCount, .ref a_this_refusals, .long x_this_drawn])), (a_this_refusals, .inl (cy 0, 6, .inl n0))])) := by
  refine k_ofW2 (by decide +kernel) (Nat.le_of_ble_eq_true rfl) ?_
  intro p e s m below meth c A ls H locs args Q hQ C0 hr hlk hin hP hD hA hS hl
  have C0 : k_cx p s m args c cX9_refuse 2 RX9 dC dI cy sq := C0
  have hx := C0.1
  have hb := C0.2.1
  have hl : lv_has ls 2 [(0, .ref a_this), (1, .int p0)] := hl
  refine lv_aload_n hx hb dX9_refuse_0 rfl (lv_at hl 0 rfl) ?_
  refine k_get C0 fg_X9_95 hP 0 rfl rfl dX9_refuse_1 ?_
  refine lv_iload_n hx hb dX9_refuse_4 rfl (lv_at hl 1 rfl) ?_
  refine lv_dup2_11 hx hb dX9_refuse_5 rfl rfl ?_
  refine va_iald hx hb C0.2.2.2.2.2.1 hP 1 0 rfl rfl (ib_in 6 hp0 (by decide)) dX9_refuse_6 ?_
  refine lv_topi (fun z33154 ez33154 => ?_)
  refine lv_iconst (v := 1) hx hb dX9_refuse_7 (by decide) ?_
  refine lv_iadd hx hb dX9_refuse_8 ?_
  refine lv_topi (fun z33155 ez33155 => ?_)
  refine va_iast hx hb C0.2.2.2.2.2.1 hP hD hS 1 0 rfl rfl (ib_in 6 hp0 (by decide)) dX9_refuse_9 (fun H locs hP hD hS => ?_)
  have hP : va_P (dC, dI) vwCl [(a_this, .inr (9, [.ref a_this_tape, .int x_this_tapeSize, .ref a_this_plan, .ref a_this_spare, .ref a_this_now, .ref a_this_history, .ref a_this_machine, .ref a_this_reader, .ref a_this_street, .ref a_this_choice, .ref a_this_ahead, .ref a_this_watch, .ref a_this_octets, .int x_this_octetCount, .ref a_this_refusals, .long x_this_drawn])), (a_this_refusals, .inl (cy 0, 6, .inl (upd g_this_refusals (Int32.toNatClampNeg p0) z33155)))] H := hP
  have hD : va_D A [(a_this, .inr (9, [.ref a_this_tape, .int x_this_tapeSize, .ref a_this_plan, .ref a_this_spare, .ref a_this_now, .ref a_this_history, .ref a_this_machine, .ref a_this_reader, .ref a_this_street, .ref a_this_choice, .ref a_this_ahead, .ref a_this_watch, .ref a_this_octets, .int x_this_octetCount, .ref a_this_refusals, .long x_this_drawn])), (a_this_refusals, .inl (cy 0, 6, .inl (upd g_this_refusals (Int32.toNatClampNeg p0) z33155)))] := hD
  generalize upd g_this_refusals (Int32.toNatClampNeg p0) z33155 = f33156 at hP hD
  refine lv_iconst (v := (-1)) hx hb dX9_refuse_10 (by decide) ?_
  subst hQ; exact k_iret hx hb hr hlk rfl f33156 hS (ib_w (-1) (-1) (ib_c (-1) (-1) (-1) (by decide)) (by decide)) hP hD (Nat.le_of_ble_eq_true rfl) (Nat.le_of_ble_eq_true rfl) dX9_refuse_11
set_option maxHeartbeats 4000000 in
set_option maxRecDepth 100000 in
theorem s_X9_seed (l : Launch) (dC : Nat → ClassId) (dI : Nat → Nat → Nat) (cy : Nat → ClassId) (sq : Nat → Nat) (a_this : Nat) (a_this_tape : Nat) (x_this_tapeSize : Int32) (a_this_plan : Nat) (a_this_spare : Nat) (a_this_now : Nat) (a_this_history : Nat) (a_this_machine : Nat) (a_this_reader : Nat) (a_this_street : Nat) (a_this_choice : Nat) (a_this_ahead : Nat) (a_this_watch : Nat) (a_this_octets : Nat) (x_this_octetCount : Int32) (a_this_refusals : Nat) (g_this_refusals : Nat → Int32) (x_this_drawn : Int64) (p0 : Int32) (hx_this_tapeSize : ib x_this_tapeSize 0 1600) (hx_this_octetCount : ib x_this_octetCount 0 11) : k_Met l yX9_seed cX9_seed 2 (some .boolean) { frames := 1, cells := 0, slots := 0, locals := 21 } dC dI cy sq [.ref a_this, .int p0] [(a_this, .inr (9, [.ref a_this_tape, .int x_this_tapeSize, .ref a_this_plan, .ref a_this_spare, .ref a_this_now, .ref a_this_history, .ref a_this_machine, .ref a_this_reader, .ref a_this_street, .ref a_this_choice, .ref a_this_ahead, .ref a_this_watch, .ref a_this_octets, .int x_this_octetCount, .ref a_this_refusals, .long x_this_drawn])), (a_this_refusals, .inl (cy 0, 6, .inl g_this_refusals))] (k_Qi dC dI (fun (r : Int32) (u : Int64 × (Nat → Int32)) => match u with | (n0, n1) => ib r 0 1 ∧ (¬ r = 0 → ib p0 0 2147483647)) (fun u : Int64 × (Nat → Int32) => match u with | (n0, n1) => [(a_this, .inr (9, [.ref a_this_tape, .int x_this_tapeSize, .ref a_this_plan, .ref a_this_spare, .ref a_this_now, .ref a_this_history, .ref a_this_machine, .ref a_this_reader, .ref a_this_street, .ref a_this_choice, .ref a_this_ahead, .ref a_this_watch, .ref a_this_octets, .int x_this_octetCount, .ref a_this_refusals, .long n0])), (a_this_refusals, .inl (cy 0, 6, .inl n1))])) := by
  refine k_ofW2 (by decide +kernel) (Nat.le_of_ble_eq_true rfl) ?_
  intro p e s m below meth c A ls H locs args Q hQ C0 hr hlk hin hP hD hA hS hl
  have C0 : k_cx p s m args c cX9_seed 2 RX9 dC dI cy sq := C0
  have hx := C0.1
  have hb := C0.2.1
  have hl : lv_has ls 2 [(0, .ref a_this), (1, .int p0)] := hl
  refine lv_iload_n hx hb dX9_seed_0 rfl (lv_at hl 1 rfl) ?_
  refine lv_if_ge (tgt := 10) hx hb dX9_seed_1 (by decide) (fun c34056 => ?_) (fun c34056 => ?_)
  · have h34057 := ib_le (ib_c 0 0 0 (by decide)) (ib_any p0) c34056
    have h34058 : ib p0 0 2147483647 := ib_w 0 2147483647 h34057.2 (by decide)
    refine lv_aload_n hx hb dX9_seed_10 rfl (lv_at hl 0 rfl) ?_
    refine lv_iload_n hx hb dX9_seed_11 rfl (lv_at hl 1 rfl) ?_
    refine lv_i2l (v := p0.toInt64) hx hb dX9_seed_12 rfl ?_
    refine k_put C0 fp_X9_98 hP hD hS 0 rfl rfl rfl (Nat.le_of_ble_eq_true rfl) dX9_seed_13 (fun H locs hP hD hS => ?_)
    have hP : va_P (dC, dI) vwCl [(a_this, .inr (9, [.ref a_this_tape, .int x_this_tapeSize, .ref a_this_plan, .ref a_this_spare, .ref a_this_now, .ref a_this_history, .ref a_this_machine, .ref a_this_reader, .ref a_this_street, .ref a_this_choice, .ref a_this_ahead, .ref a_this_watch, .ref a_this_octets, .int x_this_octetCount, .ref a_this_refusals, .long p0.toInt64])), (a_this_refusals, .inl (cy 0, 6, .inl g_this_refusals))] H := hP
    have hD : va_D A [(a_this, .inr (9, [.ref a_this_tape, .int x_this_tapeSize, .ref a_this_plan, .ref a_this_spare, .ref a_this_now, .ref a_this_history, .ref a_this_machine, .ref a_this_reader, .ref a_this_street, .ref a_this_choice, .ref a_this_ahead, .ref a_this_watch, .ref a_this_octets, .int x_this_octetCount, .ref a_this_refusals, .long p0.toInt64])), (a_this_refusals, .inl (cy 0, 6, .inl g_this_refusals))] := hD
    refine lv_iconst (v := 1) hx hb dX9_seed_16 (by decide) ?_
    subst hQ; exact k_iret hx hb hr hlk (k_nb 1 (by decide)) ((p0.toInt64, g_this_refusals)) hS ⟨ib_w 0 1 (ib_c 1 1 1 (by decide)) (by decide), fun _ => ib_w 0 2147483647 h34058 (by decide)⟩ hP hD (Nat.le_of_ble_eq_true rfl) (Nat.le_of_ble_eq_true rfl) dX9_seed_17
  · have h34059 := ib_nle (ib_c 0 0 0 (by decide)) (ib_any p0) c34056
    have h34060 : ib p0 (-2147483648) (-1) := ib_w (-2147483648) (-1) h34059.2 (by decide)
    refine lv_aload_n hx hb dX9_seed_4 rfl (lv_at hl 0 rfl) ?_
    refine lv_iconst (v := 5) hx hb dX9_seed_5 (by decide) ?_
    refine k_ji hP hD hS hA [0, 1] [] (wr := []) rfl rfl (by decide) (by decide) (by decide) 0 0 (Nat.le_of_ble_eq_true rfl) (Nat.le_of_ble_eq_true rfl) (fun hPc hDc => k_runV (As := [.int 5]) (rest := []) C0 (s_X9_deny l dC dI cy sq a_this a_this_tape x_this_tapeSize a_this_plan a_this_spare a_this_now a_this_history a_this_machine a_this_reader a_this_street a_this_choice a_this_ahead a_this_watch a_this_octets x_this_octetCount a_this_refusals g_this_refusals x_this_drawn 5 (ib_w 0 1600 hx_this_tapeSize (by decide)) (ib_w 0 11 hx_this_octetCount (by decide)) (ib_w 0 5 (ib_c 5 5 5 (by decide)) (by decide))) mV_X9_110 hPc hDc rfl rfl rfl hl rfl rfl (Nat.le_of_ble_eq_true rfl) ⟨(Nat.le_of_ble_eq_true rfl), (Nat.le_of_ble_eq_true rfl)⟩ ⟨(Nat.le_of_ble_eq_true rfl), (Nat.le_of_ble_eq_true rfl)⟩ dX9_seed_6) (fun r34061 u34062 H locs hw hP hD hS => ?_)
    obtain ⟨f34063, ef34063⟩ : ∃ z, z = u34062 := ⟨_, rfl⟩; subst ef34063
    try dsimp only at hP hD hw
    have hP : va_P (dC, dI) vwCl [(a_this, .inr (9, [.ref a_this_tape, .int x_this_tapeSize, .ref a_this_plan, .ref a_this_spare, .ref a_this_now, .ref a_this_history, .ref a_this_machine, .ref a_this_reader, .ref a_this_street, .ref a_this_choice, .ref a_this_ahead, .ref a_this_watch, .ref a_this_octets, .int x_this_octetCount, .ref a_this_refusals, .long x_this_drawn])), (a_this_refusals, .inl (cy 0, 6, .inl f34063))] H := hP
    have hD : va_D A [(a_this, .inr (9, [.ref a_this_tape, .int x_this_tapeSize, .ref a_this_plan, .ref a_this_spare, .ref a_this_now, .ref a_this_history, .ref a_this_machine, .ref a_this_reader, .ref a_this_street, .ref a_this_choice, .ref a_this_ahead, .ref a_this_watch, .ref a_this_octets, .int x_this_octetCount, .ref a_this_refusals, .long x_this_drawn])), (a_this_refusals, .inl (cy 0, 6, .inl f34063))] := hD
    have h34064 := hw
    subst hQ; exact k_iret hx hb hr hlk (ib_bool (ib_w 0 1 h34064 (by decide))) ((x_this_drawn, f34063)) hS ⟨ib_w 0 1 h34064 (by decide), fun h9 => absurd (ib_one h34064 (by decide)) h9⟩ hP hD (Nat.le_of_ble_eq_true rfl) (Nat.le_of_ble_eq_true rfl) dX9_seed_9
set_option maxHeartbeats 4000000 in
set_option maxRecDepth 100000 in
theorem s_X9_status (l : Launch) (dC : Nat → ClassId) (dI : Nat → Nat → Nat) (cy : Nat → ClassId) (sq : Nat → Nat) (a_this : Nat) (a_this_tape : Nat) (x_this_tapeSize : Int32) (a_this_plan : Nat) (a_this_spare : Nat) (a_this_now : Nat) (a_this_history : Nat) (a_this_machine : Nat) (a_this_reader : Nat) (a_this_street : Nat) (a_this_choice : Nat) (a_this_ahead : Nat) (a_this_watch : Nat) (a_this_octets : Nat) (x_this_octetCount : Int32) (a_this_refusals : Nat) (g_this_refusals : Nat → Int32) (x_this_drawn : Int64) (p0 : Int32) (hx_this_tapeSize : ib x_this_tapeSize 0 1600) (hx_this_octetCount : ib x_this_octetCount 0 11) : k_Met l yX9_status cX9_status 2 (some .int) { frames := 0, cells := 0, slots := 0, locals := 0 } dC dI cy sq [.ref a_this, .int p0] [(a_this, .inr (9, [.ref a_this_tape, .int x_this_tapeSize, .ref a_this_plan, .ref a_this_spare, .ref a_this_now, .ref a_this_history, .ref a_this_machine, .ref a_this_reader, .ref a_this_street, .ref a_this_choice, .ref a_this_ahead, .ref a_this_watch, .ref a_this_octets, .int x_this_octetCount, .ref a_this_refusals, .long x_this_drawn])), (a_this_refusals, .inl (cy 0, 6, .inl g_this_refusals))] (k_Qi dC dI (fun (r : Int32) (_ : Unit) => True) (fun _ : Unit => [(a_this, .inr (9, [.ref a_this_tape, .int x_this_tapeSize, .ref a_this_plan, .ref a_this_spare, .ref a_this_now, .ref a_this_history, .ref a_this_machine, .ref a_this_reader, .ref a_this_street, .ref a_this_choice, .ref a_this_ahead, .ref a_this_watch, .ref a_this_octets, .int x_this_octetCount, .ref a_this_refusals, .long x_this_drawn])), (a_this_refusals, .inl (cy 0, 6, .inl g_this_refusals))])) := by
  refine k_ofW2 (by decide +kernel) (Nat.le_of_ble_eq_true rfl) ?_
  intro p e s m below meth c A ls H locs args Q hQ C0 hr hlk hin hP hD hA hS hl
  have C0 : k_cx p s m args c cX9_status 2 RX9 dC dI cy sq := C0
  have hx := C0.1
  have hb := C0.2.1
  have hl : lv_has ls 2 [(0, .ref a_this), (1, .int p0)] := hl
  refine lv_iload_n hx hb dX9_status_0 rfl (lv_at hl 1 rfl) ?_
  refine lv_if_lt (tgt := 19) hx hb dX9_status_1 (by decide) (fun c34175 => ?_) (fun c34175 => ?_)
  · have h34176 := ib_lt (ib_any p0) (ib_c 0 0 0 (by decide)) c34175
    have h34177 : ib p0 (-2147483648) (-1) := ib_w (-2147483648) (-1) h34176.1 (by decide)
    refine lv_iconst (v := (-1)) hx hb dX9_status_19 (by decide) ?_
    subst hQ; exact k_iret hx hb hr hlk rfl () hS True.intro hP hD (Nat.le_of_ble_eq_true rfl) (Nat.le_of_ble_eq_true rfl) dX9_status_20
  · have h34178 := ib_nlt (ib_any p0) (ib_c 0 0 0 (by decide)) c34175
    have h34179 : ib p0 0 2147483647 := ib_w 0 2147483647 h34178.1 (by decide)
    refine lv_iload_n hx hb dX9_status_4 rfl (lv_at hl 1 rfl) ?_
    refine lv_bipush (v := 6) hx hb dX9_status_5 (by decide) ?_
    refine lv_icmp_ge (tgt := 19) hx hb dX9_status_7 (by decide) (fun c34180 => ?_) (fun c34180 => ?_)
    · have h34181 := ib_le (ib_c 6 6 6 (by decide)) h34179 c34180
      have h34182 : ib p0 6 2147483647 := ib_w 6 2147483647 h34181.2 (by decide)
      refine lv_iconst (v := (-1)) hx hb dX9_status_19 (by decide) ?_
      subst hQ; exact k_iret hx hb hr hlk rfl () hS True.intro hP hD (Nat.le_of_ble_eq_true rfl) (Nat.le_of_ble_eq_true rfl) dX9_status_20
    · have h34183 := ib_nle (ib_c 6 6 6 (by decide)) h34179 c34180
      have h34184 : ib p0 0 5 := ib_w 0 5 h34183.2 (by decide)
      refine lv_aload_n hx hb dX9_status_10 rfl (lv_at hl 0 rfl) ?_
      refine k_get C0 fg_X9_95 hP 0 rfl rfl dX9_status_11 ?_
      refine lv_iload_n hx hb dX9_status_14 rfl (lv_at hl 1 rfl) ?_
      refine va_iald hx hb C0.2.2.2.2.2.1 hP 1 0 rfl rfl (ib_in 6 h34184 (by decide)) dX9_status_15 ?_
      refine lv_topi (fun z34185 ez34185 => ?_)
      refine lv_goto (tgt := 20) hx hb dX9_status_16 (by decide) ?_
      subst hQ; exact k_iret hx hb hr hlk rfl () hS True.intro hP hD (Nat.le_of_ble_eq_true rfl) (Nat.le_of_ble_eq_true rfl) dX9_status_20
