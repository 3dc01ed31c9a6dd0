set_option maxHeartbeats 4000000 in
set_option maxRecDepth 100000 in
theorem s_X4_allowsGreen (l : Launch) (dC : Nat → ClassId) (dI : Nat → Nat → Nat) (cy : Nat → ClassId) (sq : Nat → Nat) (a_this : Nat) (x_this_cycle : Int32) (x_this_green : Int32) (x_this_rule : Int32) (x_this_least : Int32) (x_this_away : Int32) (x_this_statements : Int32) (x_this_kinds : Int32) (a_this_calm : Nat) (a_this_pace : Nat) (a_this_trusts : Nat) (x_this_walkers : Int32) (a_this_kindOf : Nat) (a_this_comesAt : Nat) (a_this_comers : Nat) (a_this_names : Nat) (a_this_code : Nat) (x_this_size : Int32) (a_this_spans : Nat) (p0 : Int32) (hx_this_cycle : ib x_this_cycle 0 120) : k_Met l yX4_allowsGreen cX4_allowsGreen 2 (some .boolean) { frames := 0, cells := 0, slots := 0, locals := 0 } dC dI cy sq [.ref a_this, .int p0] [(wo_4_iiiiiiirrrirrrrrir a_this x_this_cycle x_this_green x_this_rule x_this_least x_this_away x_this_statements x_this_kinds a_this_calm a_this_pace a_this_trusts x_this_walkers a_this_kindOf a_this_comesAt a_this_comers a_this_names a_this_code x_this_size a_this_spans)] (k_Qi dC dI (fun (r : Int32) (_ : Unit) => ib r 0 1 ∧ (¬ r = 0 → ib x_this_cycle 2 120) ∧ (¬ r = 0 → ib p0 1 60) ∧ (F_X4_allowsGreen (Int32.toInt x_this_cycle) (Int32.toInt p0) = ((Int32.toInt r)))) (fun _ : Unit => [(wo_4_iiiiiiirrrirrrrrir a_this x_this_cycle x_this_green x_this_rule x_this_least x_this_away x_this_statements x_this_kinds a_this_calm a_this_pace a_this_trusts x_this_walkers a_this_kindOf a_this_comesAt a_this_comers a_this_names a_this_code x_this_size a_this_spans)])) := by
  refine k_ofW2 (by decide +kernel) (Nat.le_of_ble_eq_true rfl) ?_
  intro p e s m below meth c A ls H locs args Q hQ C0 hZ hr hlk hin hP hD hA hS hl
  have C0 : k_cx p s m args c cX4_allowsGreen 2 RX4 dC dI cy sq := C0
  have hx := C0.1
  have hb := C0.2.1
  have hl : lv_has ls 2 [(0, .ref a_this), (1, .int p0)] := hl
  obtain ⟨O, hO⟩ : ∃ o, o = F_X4_allowsGreen (Int32.toInt x_this_cycle) (Int32.toInt p0) := ⟨_, rfl⟩
  have hq := hO
  unfold F_X4_allowsGreen at hq
  have jn23 : ∀  (H : Heap) (locs : List Loc) (ls : Array Slot), (O = F_X4_allowsGreen_23 ) → va_P (dC, dI) vwCl [(wo_4_iiiiiiirrrirrrrrir a_this x_this_cycle x_this_green x_this_rule x_this_least x_this_away x_this_statements x_this_kinds a_this_calm a_this_pace a_this_trusts x_this_walkers a_this_kindOf a_this_comesAt a_this_comers a_this_names a_this_code x_this_size a_this_spans)] H → va_D A [(wo_4_iiiiiiirrrirrrrrir a_this x_this_cycle x_this_green x_this_rule x_this_least x_this_away x_this_statements x_this_kinds a_this_calm a_this_pace a_this_trusts x_this_walkers a_this_kindOf a_this_comesAt a_this_comers a_this_names a_this_code x_this_size a_this_spans)] → va_S A s.heap H locs → lv_has ls 2 [(0, .ref a_this), (1, .int p0)] → W p l e { frames := 0, cells := 0, slots := 0, locals := 0 } s m args below meth c H locs 0 0 Q (F0 m 23 ls []) := by
    intro H locs ls hq hP hD hS hl
    unfold F_X4_allowsGreen_23 at hq
    refine lv_iconst (v := 0) hx hb dX4_allowsGreen_23 rfl ?_
    subst hQ; exact k_iret hx hb hr hlk (k_nb 0 rfl) () hS ⟨ib_w 0 1 (ib_c 0 0 0 rfl) rfl, fun hq9 => absurd rfl hq9, fun hq9 => absurd rfl hq9, (hO.symm.trans (by try simp only [show (0 : Int32).toInt = (0 : Int) from rfl]; exact hq))⟩ hP hD (Nat.le_of_ble_eq_true rfl) (Nat.le_of_ble_eq_true rfl) dX4_allowsGreen_24
  refine lv_iload_n hx hb dX4_allowsGreen_0 rfl (lv_at hl 1 rfl) ?_
  refine lv_iconst (v := 1) hx hb dX4_allowsGreen_1 rfl ?_
  refine lv_icmp_lt (tgt := 23) hx hb dX4_allowsGreen_2 rfl (fun c1 => ?_) (fun c1 => ?_)
  · replace hq := lf_pos hq (lf_lt (lf_rf p0) (lf_lc 1 (1 : Int) rfl) c1)
    have h2 := ib_lt (ib_any p0) (ib_c 1 1 1 rfl) c1
    have h3 : ib p0 (-2147483648) 0 := ib_w (-2147483648) 0 h2.1 rfl
    exact jn23  H locs ls (by exact hq) hP hD hS (lv_sub hl [0, 1] rfl)
  · replace hq := lf_neg hq (lf_nlt (lf_rf p0) (lf_lc 1 (1 : Int) rfl) c1)
    have h4 := ib_nlt (ib_any p0) (ib_c 1 1 1 rfl) c1
    have h5 : ib p0 1 2147483647 := ib_w 1 2147483647 h4.1 rfl
    refine lv_iload_n hx hb dX4_allowsGreen_5 rfl (lv_at hl 1 rfl) ?_
    refine lv_bipush (v := 60) hx hb dX4_allowsGreen_6 rfl ?_
    refine lv_icmp_gt (tgt := 23) hx hb dX4_allowsGreen_8 rfl (fun c6 => ?_) (fun c6 => ?_)
    · replace hq := lf_pos hq (lf_lt (lf_lc 60 (60 : Int) rfl) (lf_rf p0) c6)
      have h7 := ib_lt (ib_c 60 60 60 rfl) h5 c6
      have h8 : ib p0 61 2147483647 := ib_w 61 2147483647 h7.2 rfl
      exact jn23  H locs ls (by exact hq) hP hD hS (lv_sub hl [0, 1] rfl)
    · replace hq := lf_neg hq (lf_nlt (lf_lc 60 (60 : Int) rfl) (lf_rf p0) c6)
      have h9 := ib_nlt (ib_c 60 60 60 rfl) h5 c6
      have h10 : ib p0 1 60 := ib_w 1 60 h9.2 rfl
      refine lv_iload_n hx hb dX4_allowsGreen_11 rfl (lv_at hl 1 rfl) ?_
      refine lv_aload_n hx hb dX4_allowsGreen_12 rfl (lv_at hl 0 rfl) ?_
      refine k_get C0 fg_X4_39 hP 0 rfl rfl dX4_allowsGreen_13 ?_
      refine lv_icmp_ge (tgt := 23) hx hb dX4_allowsGreen_16 rfl (fun c11 => ?_) (fun c11 => ?_)
      · replace hq := lf_pos hq (lf_le (lf_rf x_this_cycle) (lf_rf p0) c11)
        have h12 := ib_le hx_this_cycle h10 c11
        have h13 : ib x_this_cycle 0 60 := ib_w 0 60 h12.1 rfl
        exact jn23  H locs ls (by exact hq) hP hD hS (lv_sub hl [0, 1] rfl)
      · replace hq := lf_neg hq (lf_nle (lf_rf x_this_cycle) (lf_rf p0) c11)
        have h14 := ib_nle hx_this_cycle h10 c11
        have h15 : ib x_this_cycle 2 120 := ib_w 2 120 h14.1 rfl
        refine lv_iconst (v := 1) hx hb dX4_allowsGreen_19 rfl ?_
        refine lv_goto (tgt := 24) hx hb dX4_allowsGreen_20 rfl ?_
        subst hQ; exact k_iret hx hb hr hlk (k_nb 1 rfl) () hS ⟨ib_w 0 1 (ib_c 1 1 1 rfl) rfl, fun _ => ib_w 2 120 h15 rfl, fun _ => ib_w 1 60 h10 rfl, (hO.symm.trans (by try simp only [show (1 : Int32).toInt = (1 : Int) from rfl]; exact hq))⟩ hP hD (Nat.le_of_ble_eq_true rfl) (Nat.le_of_ble_eq_true rfl) dX4_allowsGreen_24
set_option maxHeartbeats 4000000 in
set_option maxRecDepth 100000 in
theorem s_X4_clear (l : Launch) (dC : Nat → ClassId) (dI : Nat → Nat → Nat) (cy : Nat → ClassId) (sq : Nat → Nat) (a_this : Nat) (x_this_cycle : Int32) (x_this_green : Int32) (x_this_rule : Int32) (x_this_least : Int32) (x_this_away : Int32) (x_this_statements : Int32) (x_this_kinds : Int32) (a_this_calm : Nat) (a_this_pace : Nat) (a_this_trusts : Nat) (x_this_walkers : Int32) (a_this_kindOf : Nat) (a_this_comesAt : Nat) (a_this_comers : Nat) (g_this_comers : Nat → Int32) (a_this_names : Nat) (a_this_code : Nat) (x_this_size : Int32) (a_this_spans : Nat) (g_this_spans : Nat → Int32)  : k_Met l yX4_clear cX4_clear 1 none { frames := 1, cells := 0, slots := 0, locals := 23 } dC dI cy sq [.ref a_this] [(wo_4_iiiiiiirrrirrrrrir a_this x_this_cycle x_this_green x_this_rule x_this_least x_this_away x_this_statements x_this_kinds a_this_calm a_this_pace a_this_trusts x_this_walkers a_this_kindOf a_this_comesAt a_this_comers a_this_names a_this_code x_this_size a_this_spans), (wi_0_200_0 a_this_comers cy g_this_comers), (wi_0_6_0 a_this_spans cy g_this_spans)] (k_Qv dC dI (fun (u : (Nat → Int32) × (Nat → Int32)) => match u with | (n0, n1) => ia n1 6 0 1600 ∧ (F_X4_clear (lf_A g_this_comers) (lf_A g_this_spans) = ((lf_A n0), (lf_A n1)))) (fun u : (Nat → Int32) × (Nat → Int32) => match u with | (n0, n1) => [(wo_4_iiiiiiirrrirrrrrir a_this 0 x_this_green x_this_rule x_this_least 0 0 0 a_this_calm a_this_pace a_this_trusts 0 a_this_kindOf a_this_comesAt a_this_comers a_this_names a_this_code 0 a_this_spans), (wi_0_200_0 a_this_comers cy n0), (wi_0_6_0 a_this_spans cy n1)])) := by
  refine k_ofW2 (by decide +kernel) (Nat.le_of_ble_eq_true rfl) ?_
  intro p e s m below meth c A ls H locs args Q hQ C0 hZ hr hlk hin hP hD hA hS hl
  have C0 : k_cx p s m args c cX4_clear 1 RX4 dC dI cy sq := C0
  have hx := C0.1
  have hb := C0.2.1
  have hl : lv_has ls 1 [(0, .ref a_this)] := hl
  obtain ⟨O, hO⟩ : ∃ o, o = F_X4_clear (lf_A g_this_comers) (lf_A g_this_spans) := ⟨_, rfl⟩
  have hq := hO
  unfold F_X4_clear at hq
  refine lv_aload_n hx hb dX4_clear_0 rfl (lv_at hl 0 rfl) ?_
  refine lv_iconst (v := 0) hx hb dX4_clear_1 rfl ?_
  refine k_put C0 fp_X4_39 hP hD hS 0 rfl rfl rfl (Nat.le_of_ble_eq_true rfl) dX4_clear_2 (fun H locs hP hD hS => ?_)
  replace hP : va_P (dC, dI) vwCl [(wo_4_iiiiiiirrrirrrrrir a_this 0 x_this_green x_this_rule x_this_least x_this_away x_this_statements x_this_kinds a_this_calm a_this_pace a_this_trusts x_this_walkers a_this_kindOf a_this_comesAt a_this_comers a_this_names a_this_code x_this_size a_this_spans), (wi_0_200_0 a_this_comers cy g_this_comers), (wi_0_6_0 a_this_spans cy g_this_spans)] H := hP
  replace hD := k_D hP hD
  refine lv_aload_n hx hb dX4_clear_5 rfl (lv_at hl 0 rfl) ?_
  refine lv_iconst (v := 0) hx hb dX4_clear_6 rfl ?_
  refine k_put C0 fp_X4_43 hP hD hS 0 rfl rfl rfl (Nat.le_of_ble_eq_true rfl) dX4_clear_7 (fun H locs hP hD hS => ?_)
  replace hP : va_P (dC, dI) vwCl [(wo_4_iiiiiiirrrirrrrrir a_this 0 x_this_green x_this_rule x_this_least 0 x_this_statements x_this_kinds a_this_calm a_this_pace a_this_trusts x_this_walkers a_this_kindOf a_this_comesAt a_this_comers a_this_names a_this_code x_this_size a_this_spans), (wi_0_200_0 a_this_comers cy g_this_comers), (wi_0_6_0 a_this_spans cy g_this_spans)] H := hP
  replace hD := k_D hP hD
  refine lv_aload_n hx hb dX4_clear_10 rfl (lv_at hl 0 rfl) ?_
  refine lv_iconst (v := 0) hx hb dX4_clear_11 rfl ?_
  refine k_put C0 fp_X4_46 hP hD hS 0 rfl rfl rfl (Nat.le_of_ble_eq_true rfl) dX4_clear_12 (fun H locs hP hD hS => ?_)
  replace hP : va_P (dC, dI) vwCl [(wo_4_iiiiiiirrrirrrrrir a_this 0 x_this_green x_this_rule x_this_least 0 0 x_this_kinds a_this_calm a_this_pace a_this_trusts x_this_walkers a_this_kindOf a_this_comesAt a_this_comers a_this_names a_this_code x_this_size a_this_spans), (wi_0_200_0 a_this_comers cy g_this_comers), (wi_0_6_0 a_this_spans cy g_this_spans)] H := hP
  replace hD := k_D hP hD
  refine lv_aload_n hx hb dX4_clear_15 rfl (lv_at hl 0 rfl) ?_
  refine lv_iconst (v := 0) hx hb dX4_clear_16 rfl ?_
  refine k_put C0 fp_X4_49 hP hD hS 0 rfl rfl rfl (Nat.le_of_ble_eq_true rfl) dX4_clear_17 (fun H locs hP hD hS => ?_)
  replace hP : va_P (dC, dI) vwCl [(wo_4_iiiiiiirrrirrrrrir a_this 0 x_this_green x_this_rule x_this_least 0 0 0 a_this_calm a_this_pace a_this_trusts x_this_walkers a_this_kindOf a_this_comesAt a_this_comers a_this_names a_this_code x_this_size a_this_spans), (wi_0_200_0 a_this_comers cy g_this_comers), (wi_0_6_0 a_this_spans cy g_this_spans)] H := hP
  replace hD := k_D hP hD
  refine lv_aload_n hx hb dX4_clear_20 rfl (lv_at hl 0 rfl) ?_
  refine lv_iconst (v := 0) hx hb dX4_clear_21 rfl ?_
  refine k_put C0 fp_X4_52 hP hD hS 0 rfl rfl rfl (Nat.le_of_ble_eq_true rfl) dX4_clear_22 (fun H locs hP hD hS => ?_)
  replace hP : va_P (dC, dI) vwCl [(wo_4_iiiiiiirrrirrrrrir a_this 0 x_this_green x_this_rule x_this_least 0 0 0 a_this_calm a_this_pace a_this_trusts 0 a_this_kindOf a_this_comesAt a_this_comers a_this_names a_this_code x_this_size a_this_spans), (wi_0_200_0 a_this_comers cy g_this_comers), (wi_0_6_0 a_this_spans cy g_this_spans)] H := hP
  replace hD := k_D hP hD
  refine lv_aload_n hx hb dX4_clear_25 rfl (lv_at hl 0 rfl) ?_
  refine lv_iconst (v := 0) hx hb dX4_clear_26 rfl ?_
  refine k_put C0 fp_X4_55 hP hD hS 0 rfl rfl rfl (Nat.le_of_ble_eq_true rfl) dX4_clear_27 (fun H locs hP hD hS => ?_)
  replace hP : va_P (dC, dI) vwCl [(wo_4_iiiiiiirrrirrrrrir a_this 0 x_this_green x_this_rule x_this_least 0 0 0 a_this_calm a_this_pace a_this_trusts 0 a_this_kindOf a_this_comesAt a_this_comers a_this_names a_this_code 0 a_this_spans), (wi_0_200_0 a_this_comers cy g_this_comers), (wi_0_6_0 a_this_spans cy g_this_spans)] H := hP
  replace hD := k_D hP hD
  refine lv_aload_n hx hb dX4_clear_30 rfl (lv_at hl 0 rfl) ?_
  refine k_get C0 fg_X4_27 hP 0 rfl rfl dX4_clear_31 ?_
  refine lv_iconst (v := 0) hx hb dX4_clear_34 rfl ?_
  refine k_jvm hP hD hS hA [1] [true, false, true] rfl rfl rfl 0 0 (Nat.le_of_ble_eq_true rfl) (Nat.le_of_ble_eq_true rfl) (fun hPc hDc => k_runS (As := [.ref a_this_comers, .int 0]) (rest := []) C0 hZ hS hA (c_fillx l dC dI cy sq a_this_comers 200 g_this_comers 0 (Nat.le_of_ble_eq_true rfl)) mS_X4_58 hPc hDc hl rfl rfl (Nat.le_of_ble_eq_true rfl) ⟨(Nat.le_of_ble_eq_true rfl), (Nat.le_of_ble_eq_true rfl)⟩ ⟨(Nat.le_of_ble_eq_true rfl), (Nat.le_of_ble_eq_true rfl)⟩ dX4_clear_35) (fun u2 H locs hw hP hD hS => ?_)
  obtain ⟨f3, ef3⟩ : ∃ z, z = u2 := ⟨_, rfl⟩; subst ef3
  replace hP : va_P (dC, dI) vwCl [(wo_4_iiiiiiirrrirrrrrir a_this 0 x_this_green x_this_rule x_this_least 0 0 0 a_this_calm a_this_pace a_this_trusts 0 a_this_kindOf a_this_comesAt a_this_comers a_this_names a_this_code 0 a_this_spans), (wi_0_6_0 a_this_spans cy g_this_spans), (wi_0_200_0 a_this_comers cy f3)] H := hP
  replace hD := k_D hP hD
  have ef3 := hw
  have Ef3 := lf_fle ef3 (lf_ra g_this_comers) (lf_lc 0 (0 : Int) rfl)
  refine lv_aload_n hx hb dX4_clear_38 rfl (lv_at hl 0 rfl) ?_
  refine k_get C0 fg_X4_36 hP 0 rfl rfl dX4_clear_39 ?_
  refine lv_iconst (v := 0) hx hb dX4_clear_42 rfl ?_
  refine k_jvm hP hD hS hA [1] [true, false, true] rfl rfl rfl 0 0 (Nat.le_of_ble_eq_true rfl) (Nat.le_of_ble_eq_true rfl) (fun hPc hDc => k_runS (As := [.ref a_this_spans, .int 0]) (rest := []) C0 hZ hS hA (c_fillx l dC dI cy sq a_this_spans 6 g_this_spans 0 (Nat.le_of_ble_eq_true rfl)) mS_X4_58 hPc hDc hl rfl rfl (Nat.le_of_ble_eq_true rfl) ⟨(Nat.le_of_ble_eq_true rfl), (Nat.le_of_ble_eq_true rfl)⟩ ⟨(Nat.le_of_ble_eq_true rfl), (Nat.le_of_ble_eq_true rfl)⟩ dX4_clear_43) (fun u5 H locs hw hP hD hS => ?_)
  obtain ⟨f6, ef6⟩ : ∃ z, z = u5 := ⟨_, rfl⟩; subst ef6
  replace hP : va_P (dC, dI) vwCl [(wo_4_iiiiiiirrrirrrrrir a_this 0 x_this_green x_this_rule x_this_least 0 0 0 a_this_calm a_this_pace a_this_trusts 0 a_this_kindOf a_this_comesAt a_this_comers a_this_names a_this_code 0 a_this_spans), (wi_0_200_0 a_this_comers cy f3), (wi_0_6_0 a_this_spans cy f6)] H := hP
  replace hD := k_D hP hD
  have ef6 := hw
  have h7 : ia f6 6 0 1600 := by rw [ef6]; exact lf_fill_ia (ib_w 0 1600 (ib_c 0 0 0 rfl) rfl)
  have Ef6 := lf_fle ef6 (lf_ra g_this_spans) (lf_lc 0 (0 : Int) rfl)
  subst hQ; exact k_vret hx hb hr hlk ((f3, f6)) hS ⟨h7, (hO.symm.trans (by rw [lf_ua Ef3]; rw [lf_ua Ef6]; exact hq))⟩ hP hD (Nat.le_of_ble_eq_true rfl) (Nat.le_of_ble_eq_true rfl) dX4_clear_46
set_option maxHeartbeats 4000000 in
set_option maxRecDepth 100000 in
theorem s_X4_uses (l : Launch) (dC : Nat → ClassId) (dI : Nat → Nat → Nat) (cy : Nat → ClassId) (sq : Nat → Nat) (a_this : Nat) (x_this_cycle : Int32) (x_this_green : Int32) (x_this_rule : Int32) (x_this_least : Int32) (x_this_away : Int32) (x_this_statements : Int32) (x_this_kinds : Int32) (a_this_calm : Nat) (a_this_pace : Nat) (a_this_trusts : Nat) (x_this_walkers : Int32) (a_this_kindOf : Nat) (a_this_comesAt : Nat) (a_this_comers : Nat) (a_this_names : Nat) (a_this_code : Nat) (g_this_code : Nat → Int32) (x_this_size : Int32) (a_this_spans : Nat) (g_this_spans : Nat → Int32) (p0 : Int32) (p1 : Int32) (hg_this_spans : ia g_this_spans 6 0 1600) (hp0 : ib p0 0 4) : k_Met l yX4_uses cX4_uses 4 (some .boolean) { frames := 0, cells := 0, slots := 0, locals := 0 } dC dI cy sq [.ref a_this, .int p0, .int p1] [(wo_4_iiiiiiirrrirrrrrir a_this x_this_cycle x_this_green x_this_rule x_this_least x_this_away x_this_statements x_this_kinds a_this_calm a_this_pace a_this_trusts x_this_walkers a_this_kindOf a_this_comesAt a_this_comers a_this_names a_this_code x_this_size a_this_spans), (wi_0_6_0 a_this_spans cy g_this_spans), (wi_0_1600_0 a_this_code cy g_this_code)] (k_Qi dC dI (fun (r : Int32) (_ : Unit) => ib r 0 1 ∧ (F_X4_uses (lf_A g_this_code) (lf_A g_this_spans) (Int32.toInt p0) (Int32.toInt p1) = ((Int32.toInt r)))) (fun _ : Unit => [(wo_4_iiiiiiirrrirrrrrir a_this x_this_cycle x_this_green x_this_rule x_this_least x_this_away x_this_statements x_this_kinds a_this_calm a_this_pace a_this_trusts x_this_walkers a_this_kindOf a_this_comesAt a_this_comers a_this_names a_this_code x_this_size a_this_spans), (wi_0_6_0 a_this_spans cy g_this_spans), (wi_0_1600_0 a_this_code cy g_this_code)])) := by
  refine k_ofW2 (by decide +kernel) (Nat.le_of_ble_eq_true rfl) ?_
  intro p e s m below meth c A ls H locs args Q hQ C0 hZ hr hlk hin hP hD hA hS hl
  have C0 : k_cx p s m args c cX4_uses 4 RX4 dC dI cy sq := C0
  have hx := C0.1
  have hb := C0.2.1
  have hl : lv_has ls 4 [(0, .ref a_this), (1, .int p0), (2, .int p1)] := hl
  obtain ⟨O, hO⟩ : ∃ o, o = F_X4_uses (lf_A g_this_code) (lf_A g_this_spans) (Int32.toInt p0) (Int32.toInt p1) := ⟨_, rfl⟩
  have hq := hO
  unfold F_X4_uses at hq
  have jn7 : ∀ (n : Nat) (J7_l3 : Int32) (H : Heap) (locs : List Loc) (ls : Array Slot), ib J7_l3 0 1600 → (O = F_X4_uses_7 (lf_A g_this_code) (lf_A g_this_spans) (Int32.toInt p0) (Int32.toInt p1) n (Int32.toInt J7_l3)) → 1601 ≤ J7_l3.toInt + (n : Int) → va_P (dC, dI) vwCl [(wo_4_iiiiiiirrrirrrrrir a_this x_this_cycle x_this_green x_this_rule x_this_least x_this_away x_this_statements x_this_kinds a_this_calm a_this_pace a_this_trusts x_this_walkers a_this_kindOf a_this_comesAt a_this_comers a_this_names a_this_code x_this_size a_this_spans), (wi_0_6_0 a_this_spans cy g_this_spans), (wi_0_1600_0 a_this_code cy g_this_code)] H → va_D A [(wo_4_iiiiiiirrrirrrrrir a_this x_this_cycle x_this_green x_this_rule x_this_least x_this_away x_this_statements x_this_kinds a_this_calm a_this_pace a_this_trusts x_this_walkers a_this_kindOf a_this_comesAt a_this_comers a_this_names a_this_code x_this_size a_this_spans), (wi_0_6_0 a_this_spans cy g_this_spans), (wi_0_1600_0 a_this_code cy g_this_code)] → va_S A s.heap H locs → lv_has ls 4 [(0, .ref a_this), (1, .int p0), (2, .int p1), (3, .int J7_l3)] → W p l e { frames := 0, cells := 0, slots := 0, locals := 0 } s m args below meth c H locs 0 0 Q (F0 m 7 ls []) := by
    as_aux_lemma =>
      intro n
      induction n with
      | zero =>
        intro J7_l3 H locs ls hJ7_l3 hq hm
        exact absurd hm (by have := hJ7_l3; unfold ib at this; omega)
      | succ n ih =>
        intro J7_l3 H locs ls hJ7_l3 hq hm7 hP hD hS hl
        have ih7 := ih
        obtain ⟨K7, hK7⟩ : ∃ K, K = F_X4_uses_7 (lf_A g_this_code) (lf_A g_this_spans) (Int32.toInt p0) (Int32.toInt p1) n := ⟨_, rfl⟩
        have hq : O = F_X4_uses_7b (lf_A g_this_code) (lf_A g_this_spans) (Int32.toInt p0) (Int32.toInt p1) K7 (Int32.toInt J7_l3) := by rw [hK7]; exact hq
        unfold F_X4_uses_7b at hq
        refine lv_iload_n hx hb dX4_uses_7 rfl (lv_at hl 3 rfl) ?_
        refine lv_aload_n hx hb dX4_uses_8 rfl (lv_at hl 0 rfl) ?_
        refine k_get C0 fg_X4_36 hP 0 rfl rfl dX4_uses_9 ?_
        refine lv_iload_n hx hb dX4_uses_12 rfl (lv_at hl 1 rfl) ?_
        refine lv_iconst (v := 1) hx hb dX4_uses_13 rfl ?_
        refine lv_iadd hx hb dX4_uses_14 ?_
        refine lv_topi (fun z1 ez1 => ?_)
        have h2 := ib_add hp0 (ib_c 1 1 1 rfl) rfl
        rw [← ez1] at h2
        have h3 : ib z1 1 5 := ib_w 1 5 h2.1 rfl
        have Ez1 := lf_add h2.2 (lf_rf p0) (lf_lc 1 (1 : Int) rfl)
        refine va_iald hx hb C0.2.2.2.2.2.1 hP 1 0 rfl rfl (ib_in 6 h3 rfl) dX4_uses_15 ?_
        refine lv_topi (fun z4 ez4 => ?_)
        have h5 : ib z4 0 1600 := by rw [ez4]; exact ia_at hg_this_spans (ib_in 6 h3 rfl)
        have Ez4 := lf_ld ez4 (lf_ra g_this_spans) Ez1
        refine lv_icmp_ge (tgt := 37) hx hb dX4_uses_16 rfl (fun c6 => ?_) (fun c6 => ?_)
        · replace hq := lf_pos hq (lf_le Ez4 (lf_rf J7_l3) c6)
          have h7 := ib_le h5 hJ7_l3 c6
          refine lv_iconst (v := 0) hx hb dX4_uses_37 rfl ?_
          subst hQ; exact k_iret hx hb hr hlk (k_nb 0 rfl) () hS ⟨ib_w 0 1 (ib_c 0 0 0 rfl) rfl, (hO.symm.trans (by try simp only [show (0 : Int32).toInt = (0 : Int) from rfl]; exact hq))⟩ hP hD (Nat.le_of_ble_eq_true rfl) (Nat.le_of_ble_eq_true rfl) dX4_uses_38
        · as_aux_lemma =>
            replace hq := lf_neg hq (lf_nle Ez4 (lf_rf J7_l3) c6)
            have h8 := ib_nle h5 hJ7_l3 c6
            have h9 : ib z4 1 1600 := ib_w 1 1600 h8.1 rfl
            have h10 : ib J7_l3 0 1599 := ib_w 0 1599 h8.2 rfl
            refine lv_aload_n hx hb dX4_uses_19 rfl (lv_at hl 0 rfl) ?_
            refine k_get C0 fg_X4_33 hP 0 rfl rfl dX4_uses_20 ?_
            refine lv_iload_n hx hb dX4_uses_23 rfl (lv_at hl 3 rfl) ?_
            refine va_iald hx hb C0.2.2.2.2.2.1 hP 2 0 rfl rfl (ib_in 1600 h10 rfl) dX4_uses_24 ?_
            refine lv_topi (fun z11 ez11 => ?_)
            have Ez11 := lf_ld ez11 (lf_ra g_this_code) (lf_rf J7_l3)
            refine lv_iload_n hx hb dX4_uses_25 rfl (lv_at hl 2 rfl) ?_
            refine lv_icmp_ne (tgt := 31) hx hb dX4_uses_26 rfl (fun c12 => ?_) (fun c12 => ?_)
            · replace hq := lf_neg hq (lf_ne Ez11 (lf_rf p1) c12)
              obtain ⟨z13, ez13⟩ : ∃ y : Int32, y = J7_l3 + 1 := ⟨_, rfl⟩
              refine lv_iinc (v := z13) (lv' := [(3, .int z13), (0, .ref a_this), (1, .int p0), (2, .int p1)]) hx hb dX4_uses_31 hl (k := 3) rfl (by rw [ez13]; rfl) (Nat.le_of_ble_eq_true rfl) rfl (fun ls hl => ?_)
              have h14 := ib_add h10 (ib_c 1 1 1 rfl) rfl
              rw [← ez13] at h14
              have h15 : ib z13 1 1600 := ib_w 1 1600 h14.1 rfl
              have Ez13 := lf_add h14.2 (lf_rf J7_l3) (lf_lc 1 (1 : Int) rfl)
              refine lv_goto (tgt := 7) hx hb dX4_uses_34 rfl ?_
              exact ih7 z13 H locs ls (ib_w 0 1600 h15 rfl) (by rw [← hK7]; rw [lf_u Ez13]; exact hq) (by have := h14.2; have : (1 : Int32).toInt = 1 := rfl; omega) hP hD hS (lv_sub hl [1, 2, 3, 0] rfl)
            · replace hq := lf_pos hq (lf_eq Ez11 (lf_rf p1) c12)
              have h16 := ib_eq (ib_any z11) (ib_any p1) c12
              refine lv_iconst (v := 1) hx hb dX4_uses_29 rfl ?_
              subst hQ; exact k_iret hx hb hr hlk (k_nb 1 rfl) () hS ⟨ib_w 0 1 (ib_c 1 1 1 rfl) rfl, (hO.symm.trans (by try simp only [show (1 : Int32).toInt = (1 : Int) from rfl]; exact hq))⟩ hP hD (Nat.le_of_ble_eq_true rfl) (Nat.le_of_ble_eq_true rfl) dX4_uses_30
  refine lv_aload_n hx hb dX4_uses_0 rfl (lv_at hl 0 rfl) ?_
  refine k_get C0 fg_X4_36 hP 0 rfl rfl dX4_uses_1 ?_
  refine lv_iload_n hx hb dX4_uses_4 rfl (lv_at hl 1 rfl) ?_
  refine va_iald hx hb C0.2.2.2.2.2.1 hP 1 0 rfl rfl (ib_in 6 hp0 rfl) dX4_uses_5 ?_
  refine lv_topi (fun z17 ez17 => ?_)
  have h18 : ib z17 0 1600 := by rw [ez17]; exact ia_at hg_this_spans (ib_in 6 hp0 rfl)
  have Ez17 := lf_ld ez17 (lf_ra g_this_spans) (lf_rf p0)
  refine lv_istore_n (lv' := [(3, .int z17), (0, .ref a_this), (1, .int p0), (2, .int p1)]) hx hb dX4_uses_6 rfl hl (Nat.le_of_ble_eq_true rfl) rfl (fun ls hl => ?_)
  exact jn7 1602 z17 H locs ls (ib_w 0 1600 h18 rfl) (by rw [lf_u Ez17]; exact hq) (by have := h18; unfold ib at this; omega) hP hD hS (lv_sub hl [1, 2, 3, 0] rfl)
set_option maxHeartbeats 4000000 in
set_option maxRecDepth 100000 in
theorem s_X4_walkersOf (l : Launch) (dC : Nat → ClassId) (dI : Nat → Nat → Nat) (cy : Nat → ClassId) (sq : Nat → Nat) (a_this : Nat) (x_this_cycle : Int32) (x_this_green : Int32) (x_this_rule : Int32) (x_this_least : Int32) (x_this_away : Int32) (x_this_statements : Int32) (x_this_kinds : Int32) (a_this_calm : Nat) (a_this_pace : Nat) (a_this_trusts : Nat) (x_this_walkers : Int32) (a_this_kindOf : Nat) (g_this_kindOf : Nat → Int32) (a_this_comesAt : Nat) (a_this_comers : Nat) (a_this_names : Nat) (a_this_code : Nat) (x_this_size : Int32) (a_this_spans : Nat) (p0 : Int32) (hx_this_walkers : ib x_this_walkers 0 12) (hg_this_kindOf : ia g_this_kindOf 12 0 5) : k_Met l yX4_walkersOf cX4_walkersOf 4 (some .int) { frames := 0, cells := 0, slots := 0, locals := 0 } dC dI cy sq [.ref a_this, .int p0] [(wo_4_iiiiiiirrrirrrrrir a_this x_this_cycle x_this_green x_this_rule x_this_least x_this_away x_this_statements x_this_kinds a_this_calm a_this_pace a_this_trusts x_this_walkers a_this_kindOf a_this_comesAt a_this_comers a_this_names a_this_code x_this_size a_this_spans), (wi_0_12_0 a_this_kindOf cy g_this_kindOf)] (k_Qi dC dI (fun (r : Int32) (_ : Unit) => (F_X4_walkersOf (Int32.toInt x_this_walkers) (lf_A g_this_kindOf) (Int32.toInt p0) = ((Int32.toInt r)))) (fun _ : Unit => [(wo_4_iiiiiiirrrirrrrrir a_this x_this_cycle x_this_green x_this_rule x_this_least x_this_away x_this_statements x_this_kinds a_this_calm a_this_pace a_this_trusts x_this_walkers a_this_kindOf a_this_comesAt a_this_comers a_this_names a_this_code x_this_size a_this_spans), (wi_0_12_0 a_this_kindOf cy g_this_kindOf)])) := by
  refine k_ofW2 (by decide +kernel) (Nat.le_of_ble_eq_true rfl) ?_
  intro p e s m below meth c A ls H locs args Q hQ C0 hZ hr hlk hin hP hD hA hS hl
  have C0 : k_cx p s m args c cX4_walkersOf 4 RX4 dC dI cy sq := C0
  have hx := C0.1
  have hb := C0.2.1
  have hl : lv_has ls 4 [(0, .ref a_this), (1, .int p0)] := hl
  obtain ⟨O, hO⟩ : ∃ o, o = F_X4_walkersOf (Int32.toInt x_this_walkers) (lf_A g_this_kindOf) (Int32.toInt p0) := ⟨_, rfl⟩
  have hq := hO
  unfold F_X4_walkersOf at hq
  have jn4 : ∀ (n : Nat) (J4_l2 : Int32) (J4_l3 : Int32) (H : Heap) (locs : List Loc) (ls : Array Slot), ib J4_l3 0 12 → (O = F_X4_walkersOf_4 (Int32.toInt x_this_walkers) (lf_A g_this_kindOf) (Int32.toInt p0) n (Int32.toInt J4_l2) (Int32.toInt J4_l3)) → 13 ≤ J4_l3.toInt + (n : Int) → va_P (dC, dI) vwCl [(wo_4_iiiiiiirrrirrrrrir a_this x_this_cycle x_this_green x_this_rule x_this_least x_this_away x_this_statements x_this_kinds a_this_calm a_this_pace a_this_trusts x_this_walkers a_this_kindOf a_this_comesAt a_this_comers a_this_names a_this_code x_this_size a_this_spans), (wi_0_12_0 a_this_kindOf cy g_this_kindOf)] H → va_D A [(wo_4_iiiiiiirrrirrrrrir a_this x_this_cycle x_this_green x_this_rule x_this_least x_this_away x_this_statements x_this_kinds a_this_calm a_this_pace a_this_trusts x_this_walkers a_this_kindOf a_this_comesAt a_this_comers a_this_names a_this_code x_this_size a_this_spans), (wi_0_12_0 a_this_kindOf cy g_this_kindOf)] → va_S A s.heap H locs → lv_has ls 4 [(0, .ref a_this), (1, .int p0), (2, .int J4_l2), (3, .int J4_l3)] → W p l e { frames := 0, cells := 0, slots := 0, locals := 0 } s m args below meth c H locs 0 0 Q (F0 m 4 ls []) := by
    as_aux_lemma =>
      intro n
      induction n with
      | zero =>
        intro J4_l2 J4_l3 H locs ls hJ4_l3 hq hm
        exact absurd hm (by have := hJ4_l3; unfold ib at this; omega)
      | succ n ih =>
        intro J4_l2 J4_l3 H locs ls hJ4_l3 hq hm4 hP hD hS hl
        have ih4 := ih
        obtain ⟨K4, hK4⟩ : ∃ K, K = F_X4_walkersOf_4 (Int32.toInt x_this_walkers) (lf_A g_this_kindOf) (Int32.toInt p0) n := ⟨_, rfl⟩
        have hq : O = F_X4_walkersOf_4b (Int32.toInt x_this_walkers) (lf_A g_this_kindOf) (Int32.toInt p0) K4 (Int32.toInt J4_l2) (Int32.toInt J4_l3) := by rw [hK4]; exact hq
        unfold F_X4_walkersOf_4b at hq
        have jn28 : ∀ (J28_l2 : Int32) (H : Heap) (locs : List Loc) (ls : Array Slot), ib J4_l3 0 11 → ib x_this_walkers 1 12 → (O = F_X4_walkersOf_28 (Int32.toInt J4_l3) K4 (Int32.toInt J28_l2)) → va_P (dC, dI) vwCl [(wo_4_iiiiiiirrrirrrrrir a_this x_this_cycle x_this_green x_this_rule x_this_least x_this_away x_this_statements x_this_kinds a_this_calm a_this_pace a_this_trusts x_this_walkers a_this_kindOf a_this_comesAt a_this_comers a_this_names a_this_code x_this_size a_this_spans), (wi_0_12_0 a_this_kindOf cy g_this_kindOf)] H → va_D A [(wo_4_iiiiiiirrrirrrrrir a_this x_this_cycle x_this_green x_this_rule x_this_least x_this_away x_this_statements x_this_kinds a_this_calm a_this_pace a_this_trusts x_this_walkers a_this_kindOf a_this_comesAt a_this_comers a_this_names a_this_code x_this_size a_this_spans), (wi_0_12_0 a_this_kindOf cy g_this_kindOf)] → va_S A s.heap H locs → lv_has ls 4 [(0, .ref a_this), (1, .int p0), (2, .int J28_l2), (3, .int J4_l3)] → W p l e { frames := 0, cells := 0, slots := 0, locals := 0 } s m args below meth c H locs 0 0 Q (F0 m 28 ls []) := by
          intro J28_l2 H locs ls hK28_J4_l3 hK28_x_this_walkers hq hP hD hS hl
          unfold F_X4_walkersOf_28 at hq
          obtain ⟨z1, ez1⟩ : ∃ y : Int32, y = J4_l3 + 1 := ⟨_, rfl⟩
          refine lv_iinc (v := z1) (lv' := [(3, .int z1), (0, .ref a_this), (1, .int p0), (2, .int J28_l2)]) hx hb dX4_walkersOf_28 hl (k := 3) rfl (by rw [ez1]; rfl) (Nat.le_of_ble_eq_true rfl) rfl (fun ls hl => ?_)
          have h2 := ib_add hK28_J4_l3 (ib_c 1 1 1 rfl) rfl
          rw [← ez1] at h2
          have h3 : ib z1 1 12 := ib_w 1 12 h2.1 rfl
          have Ez1 := lf_add h2.2 (lf_rf J4_l3) (lf_lc 1 (1 : Int) rfl)
          refine lv_goto (tgt := 4) hx hb dX4_walkersOf_31 rfl ?_
          exact ih4 J28_l2 z1 H locs ls (ib_w 0 12 h3 rfl) (by rw [← hK4]; rw [lf_u Ez1]; exact hq) (by have := h2.2; have : (1 : Int32).toInt = 1 := rfl; omega) hP hD hS (lv_sub hl [1, 2, 3, 0] rfl)
        refine lv_iload_n hx hb dX4_walkersOf_4 rfl (lv_at hl 3 rfl) ?_
        refine lv_aload_n hx hb dX4_walkersOf_5 rfl (lv_at hl 0 rfl) ?_
        refine k_get C0 fg_X4_52 hP 0 rfl rfl dX4_walkersOf_6 ?_
        refine lv_icmp_ge (tgt := 34) hx hb dX4_walkersOf_9 rfl (fun c4 => ?_) (fun c4 => ?_)
        · replace hq := lf_pos hq (lf_le (lf_rf x_this_walkers) (lf_rf J4_l3) c4)
          have h5 := ib_le hx_this_walkers hJ4_l3 c4
          refine lv_iload_n hx hb dX4_walkersOf_34 rfl (lv_at hl 2 rfl) ?_
          subst hQ; exact k_iret hx hb hr hlk rfl () hS ((hO.symm.trans (by exact hq))) hP hD (Nat.le_of_ble_eq_true rfl) (Nat.le_of_ble_eq_true rfl) dX4_walkersOf_35
        · as_aux_lemma =>
            replace hq := lf_neg hq (lf_nle (lf_rf x_this_walkers) (lf_rf J4_l3) c4)
            have h6 := ib_nle hx_this_walkers hJ4_l3 c4
            have h7 : ib x_this_walkers 1 12 := ib_w 1 12 h6.1 rfl
            have h8 : ib J4_l3 0 11 := ib_w 0 11 h6.2 rfl
            refine lv_aload_n hx hb dX4_walkersOf_12 rfl (lv_at hl 0 rfl) ?_
            refine k_get C0 fg_X4_21 hP 0 rfl rfl dX4_walkersOf_13 ?_
            refine lv_iload_n hx hb dX4_walkersOf_16 rfl (lv_at hl 3 rfl) ?_
            refine va_iald hx hb C0.2.2.2.2.2.1 hP 1 0 rfl rfl (ib_in 12 h8 rfl) dX4_walkersOf_17 ?_
            refine lv_topi (fun z9 ez9 => ?_)
            have h10 : ib z9 0 5 := by rw [ez9]; exact ia_at hg_this_kindOf (ib_in 12 h8 rfl)
            have Ez9 := lf_ld ez9 (lf_ra g_this_kindOf) (lf_rf J4_l3)
            refine lv_iload_n hx hb dX4_walkersOf_18 rfl (lv_at hl 1 rfl) ?_
            refine lv_icmp_ne (tgt := 28) hx hb dX4_walkersOf_19 rfl (fun c11 => ?_) (fun c11 => ?_)
            · replace hq := lf_neg hq (lf_ne Ez9 (lf_rf p0) c11)
              exact jn28 J4_l2 H locs ls (ib_w 0 11 h8 rfl) (ib_w 1 12 h7 rfl) (by exact hq) hP hD hS (lv_sub hl [0, 1, 2, 3] rfl)
            · replace hq := lf_pos hq (lf_eq Ez9 (lf_rf p0) c11)
              have h12 := ib_eq h10 (ib_any p0) c11
              have h13 : ib p0 0 5 := ib_w 0 5 h12.2 rfl
              refine lv_iload_n hx hb dX4_walkersOf_22 rfl (lv_at hl 2 rfl) ?_
              refine lv_iconst (v := 1) hx hb dX4_walkersOf_23 rfl ?_
              refine lv_iload_n hx hb dX4_walkersOf_24 rfl (lv_at hl 3 rfl) ?_
              refine lv_ishl hx hb dX4_walkersOf_25 ?_
              refine lv_topi (fun z14 ez14 => ?_)
              have Ez14 := lf_op lf_ishl ez14 (lf_lc 1 (1 : Int) rfl) (lf_rf J4_l3)
              refine lv_ior hx hb dX4_walkersOf_26 ?_
              refine lv_topi (fun z15 ez15 => ?_)
              have Ez15 := lf_op lf_ior ez15 (lf_rf J4_l2) Ez14
              refine lv_istore_n (lv' := [(2, .int z15), (0, .ref a_this), (1, .int p0), (3, .int J4_l3)]) hx hb dX4_walkersOf_27 rfl hl (Nat.le_of_ble_eq_true rfl) rfl (fun ls hl => ?_)
              exact jn28 z15 H locs ls (ib_w 0 11 h8 rfl) (ib_w 1 12 h7 rfl) (by rw [lf_u Ez15]; exact hq) hP hD hS (lv_sub hl [1, 2, 0, 3] rfl)
  refine lv_iconst (v := 0) hx hb dX4_walkersOf_0 rfl ?_
  refine lv_istore_n (lv' := [(2, .int 0), (0, .ref a_this), (1, .int p0)]) hx hb dX4_walkersOf_1 rfl hl (Nat.le_of_ble_eq_true rfl) rfl (fun ls hl => ?_)
  refine lv_iconst (v := 0) hx hb dX4_walkersOf_2 rfl ?_
  refine lv_istore_n (lv' := [(3, .int 0), (2, .int 0), (0, .ref a_this), (1, .int p0)]) hx hb dX4_walkersOf_3 rfl hl (Nat.le_of_ble_eq_true rfl) rfl (fun ls hl => ?_)
  exact jn4 14 0 0 H locs ls (ib_w 0 12 (ib_c 0 0 0 rfl) rfl) (by try simp only [show (0 : Int32).toInt = (0 : Int) from rfl]; exact hq) (by have := (ib_c 0 0 0 rfl); unfold ib at this; omega) hP hD hS (lv_sub hl [2, 3, 1, 0] rfl)
set_option maxHeartbeats 4000000 in
set_option maxRecDepth 100000 in
theorem s_X5_sortOf (l : Launch) (dC : Nat → ClassId) (dI : Nat → Nat → Nat) (cy : Nat → ClassId) (sq : Nat → Nat) (a_this : Nat) (a_this_text : Nat) (g_this_text : Nat → Int32) (x_this_length : Int32) (x_this_at : Int32) (x_this_behind : Int32) (x_this_sort : Int32) (x_this_allowed : Int32) (a_this_plan : Nat) (x_this_fault : Int32) (x_this_place : Int32) (p0 : Int32) (hg_this_text : ia g_this_text 1600 0 255) (hx_this_length : ib x_this_length 0 1600) : k_Met l yX5_sortOf cX5_sortOf 2 (some .int) { frames := 0, cells := 0, slots := 0, locals := 0 } dC dI cy sq [.ref a_this, .int p0] [(wo_5_riiiiirii a_this a_this_text x_this_length x_this_at x_this_behind x_this_sort x_this_allowed a_this_plan x_this_fault x_this_place), (wi_0_1600_0 a_this_text cy g_this_text)] (k_Qi dC dI (fun (r : Int32) (_ : Unit) => ib r 0 3 ∧ (¬ r = 0 → ib x_this_length 1 1600) ∧ (¬ r = 0 → ib p0 0 1599) ∧ (F_X5_sortOf (lf_A g_this_text) (Int32.toInt x_this_length) (Int32.toInt p0) = ((Int32.toInt r)))) (fun _ : Unit => [(wo_5_riiiiirii a_this a_this_text x_this_length x_this_at x_this_behind x_this_sort x_this_allowed a_this_plan x_this_fault x_this_place), (wi_0_1600_0 a_this_text cy g_this_text)])) := by
  refine k_ofW2 (by decide +kernel) (Nat.le_of_ble_eq_true rfl) ?_
  intro p e s m below meth c A ls H locs args Q hQ C0 hZ hr hlk hin hP hD hA hS hl
  have C0 : k_cx p s m args c cX5_sortOf 2 RX5 dC dI cy sq := C0
  have hx := C0.1
  have hb := C0.2.1
  have hl : lv_has ls 2 [(0, .ref a_this), (1, .int p0)] := hl
  obtain ⟨O, hO⟩ : ∃ o, o = F_X5_sortOf (lf_A g_this_text) (Int32.toInt x_this_length) (Int32.toInt p0) := ⟨_, rfl⟩
  have hq := hO
  unfold F_X5_sortOf at hq
  have jn64 : ∀  (H : Heap) (locs : List Loc) (ls : Array Slot), ib p0 0 1599 → ib x_this_length 1 1600 → (O = F_X5_sortOf_64 ) → va_P (dC, dI) vwCl [(wo_5_riiiiirii a_this a_this_text x_this_length x_this_at x_this_behind x_this_sort x_this_allowed a_this_plan x_this_fault x_this_place), (wi_0_1600_0 a_this_text cy g_this_text)] H → va_D A [(wo_5_riiiiirii a_this a_this_text x_this_length x_this_at x_this_behind x_this_sort x_this_allowed a_this_plan x_this_fault x_this_place), (wi_0_1600_0 a_this_text cy g_this_text)] → va_S A s.heap H locs → lv_has ls 2 [(0, .ref a_this), (1, .int p0)] → W p l e { frames := 0, cells := 0, slots := 0, locals := 0 } s m args below meth c H locs 0 0 Q (F0 m 64 ls []) := by
    intro H locs ls hK64_p0 hK64_x_this_length hq hP hD hS hl
    unfold F_X5_sortOf_64 at hq
    refine lv_iconst (v := 3) hx hb dX5_sortOf_64 rfl ?_
    subst hQ; exact k_iret hx hb hr hlk rfl () hS ⟨ib_w 0 3 (ib_c 3 3 3 rfl) rfl, fun _ => ib_w 1 1600 hK64_x_this_length rfl, fun _ => ib_w 0 1599 hK64_p0 rfl, (hO.symm.trans (by try simp only [show (3 : Int32).toInt = (3 : Int) from rfl]; exact hq))⟩ hP hD (Nat.le_of_ble_eq_true rfl) (Nat.le_of_ble_eq_true rfl) dX5_sortOf_65
  have jn38 : ∀  (H : Heap) (locs : List Loc) (ls : Array Slot), ib p0 0 1599 → ib x_this_length 1 1600 → (O = F_X5_sortOf_38 (lf_A g_this_text) (Int32.toInt p0) ) → va_P (dC, dI) vwCl [(wo_5_riiiiirii a_this a_this_text x_this_length x_this_at x_this_behind x_this_sort x_this_allowed a_this_plan x_this_fault x_this_place), (wi_0_1600_0 a_this_text cy g_this_text)] H → va_D A [(wo_5_riiiiirii a_this a_this_text x_this_length x_this_at x_this_behind x_this_sort x_this_allowed a_this_plan x_this_fault x_this_place), (wi_0_1600_0 a_this_text cy g_this_text)] → va_S A s.heap H locs → lv_has ls 2 [(0, .ref a_this), (1, .int p0)] → W p l e { frames := 0, cells := 0, slots := 0, locals := 0 } s m args below meth c H locs 0 0 Q (F0 m 38 ls []) := by
    as_aux_lemma =>
      intro H locs ls hK38_p0 hK38_x_this_length hq hP hD hS hl
      unfold F_X5_sortOf_38 at hq
      refine lv_aload_n hx hb dX5_sortOf_38 rfl (lv_at hl 0 rfl) ?_
      refine k_get C0 fg_X5_33 hP 0 rfl rfl dX5_sortOf_39 ?_
      refine lv_iload_n hx hb dX5_sortOf_42 rfl (lv_at hl 1 rfl) ?_
      refine va_iald hx hb C0.2.2.2.2.2.1 hP 1 0 rfl rfl (ib_in 1600 hK38_p0 rfl) dX5_sortOf_43 ?_
      refine lv_topi (fun z1 ez1 => ?_)
      have h2 : ib z1 0 255 := by rw [ez1]; exact ia_at hg_this_text (ib_in 1600 hK38_p0 rfl)
      have Ez1 := lf_ld ez1 (lf_ra g_this_text) (lf_rf p0)
      refine lv_bipush (v := 48) hx hb dX5_sortOf_44 rfl ?_
      refine lv_icmp_lt (tgt := 64) hx hb dX5_sortOf_46 rfl (fun c3 => ?_) (fun c3 => ?_)
      · replace hq := lf_pos hq (lf_lt Ez1 (lf_lc 48 (48 : Int) rfl) c3)
        have h4 := ib_lt h2 (ib_c 48 48 48 rfl) c3
        have h5 : ib z1 0 47 := ib_w 0 47 h4.1 rfl
        exact jn64  H locs ls (ib_w 0 1599 hK38_p0 rfl) (ib_w 1 1600 hK38_x_this_length rfl) (by exact hq) hP hD hS (lv_sub hl [0, 1] rfl)
      · as_aux_lemma =>
          replace hq := lf_neg hq (lf_nlt Ez1 (lf_lc 48 (48 : Int) rfl) c3)
          have h6 := ib_nlt h2 (ib_c 48 48 48 rfl) c3
          have h7 : ib z1 48 255 := ib_w 48 255 h6.1 rfl
          refine lv_aload_n hx hb dX5_sortOf_49 rfl (lv_at hl 0 rfl) ?_
          refine k_get C0 fg_X5_33 hP 0 rfl rfl dX5_sortOf_50 ?_
          refine lv_iload_n hx hb dX5_sortOf_53 rfl (lv_at hl 1 rfl) ?_
          refine va_iald hx hb C0.2.2.2.2.2.1 hP 1 0 rfl rfl (ib_in 1600 hK38_p0 rfl) dX5_sortOf_54 ?_
          refine lv_topi (fun z8 ez8 => ?_)
          have h9 : ib z8 0 255 := by rw [ez8]; exact ia_at hg_this_text (ib_in 1600 hK38_p0 rfl)
          have Ez8 := lf_ld ez8 (lf_ra g_this_text) (lf_rf p0)
          refine lv_bipush (v := 57) hx hb dX5_sortOf_55 rfl ?_
          refine lv_icmp_gt (tgt := 64) hx hb dX5_sortOf_57 rfl (fun c10 => ?_) (fun c10 => ?_)
          · replace hq := lf_pos hq (lf_lt (lf_lc 57 (57 : Int) rfl) Ez8 c10)
            have h11 := ib_lt (ib_c 57 57 57 rfl) h9 c10
            have h12 : ib z8 58 255 := ib_w 58 255 h11.2 rfl
            exact jn64  H locs ls (ib_w 0 1599 hK38_p0 rfl) (ib_w 1 1600 hK38_x_this_length rfl) (by exact hq) hP hD hS (lv_sub hl [0, 1] rfl)
          · replace hq := lf_neg hq (lf_nlt (lf_lc 57 (57 : Int) rfl) Ez8 c10)
            have h13 := ib_nlt (ib_c 57 57 57 rfl) h9 c10
            have h14 : ib z8 0 57 := ib_w 0 57 h13.2 rfl
            refine lv_iconst (v := 2) hx hb dX5_sortOf_60 rfl ?_
            refine lv_goto (tgt := 65) hx hb dX5_sortOf_61 rfl ?_
            subst hQ; exact k_iret hx hb hr hlk rfl () hS ⟨ib_w 0 3 (ib_c 2 2 2 rfl) rfl, fun _ => ib_w 1 1600 hK38_x_this_length rfl, fun _ => ib_w 0 1599 hK38_p0 rfl, (hO.symm.trans (by try simp only [show (2 : Int32).toInt = (2 : Int) from rfl]; exact hq))⟩ hP hD (Nat.le_of_ble_eq_true rfl) (Nat.le_of_ble_eq_true rfl) dX5_sortOf_65
  have jn12 : ∀  (H : Heap) (locs : List Loc) (ls : Array Slot), (O = F_X5_sortOf_12 ) → va_P (dC, dI) vwCl [(wo_5_riiiiirii a_this a_this_text x_this_length x_this_at x_this_behind x_this_sort x_this_allowed a_this_plan x_this_fault x_this_place), (wi_0_1600_0 a_this_text cy g_this_text)] H → va_D A [(wo_5_riiiiirii a_this a_this_text x_this_length x_this_at x_this_behind x_this_sort x_this_allowed a_this_plan x_this_fault x_this_place), (wi_0_1600_0 a_this_text cy g_this_text)] → va_S A s.heap H locs → lv_has ls 2 [(0, .ref a_this), (1, .int p0)] → W p l e { frames := 0, cells := 0, slots := 0, locals := 0 } s m args below meth c H locs 0 0 Q (F0 m 12 ls []) := by
    intro H locs ls hq hP hD hS hl
    unfold F_X5_sortOf_12 at hq
    refine lv_iconst (v := 0) hx hb dX5_sortOf_12 rfl ?_
    subst hQ; exact k_iret hx hb hr hlk rfl () hS ⟨ib_w 0 3 (ib_c 0 0 0 rfl) rfl, fun hq9 => absurd rfl hq9, fun hq9 => absurd rfl hq9, (hO.symm.trans (by try simp only [show (0 : Int32).toInt = (0 : Int) from rfl]; exact hq))⟩ hP hD (Nat.le_of_ble_eq_true rfl) (Nat.le_of_ble_eq_true rfl) dX5_sortOf_13
  refine lv_iload_n hx hb dX5_sortOf_0 rfl (lv_at hl 1 rfl) ?_
  refine lv_if_lt (tgt := 12) hx hb dX5_sortOf_1 rfl (fun c15 => ?_) (fun c15 => ?_)
  · replace hq := lf_pos hq (lf_lt (lf_rf p0) (lf_lc 0 (0 : Int) rfl) c15)
    have h16 := ib_lt (ib_any p0) (ib_c 0 0 0 rfl) c15
    have h17 : ib p0 (-2147483648) (-1) := ib_w (-2147483648) (-1) h16.1 rfl
    exact jn12  H locs ls (by exact hq) hP hD hS (lv_sub hl [0, 1] rfl)
  · as_aux_lemma =>
      replace hq := lf_neg hq (lf_nlt (lf_rf p0) (lf_lc 0 (0 : Int) rfl) c15)
      have h18 := ib_nlt (ib_any p0) (ib_c 0 0 0 rfl) c15
      have h19 : ib p0 0 2147483647 := ib_w 0 2147483647 h18.1 rfl
      refine lv_iload_n hx hb dX5_sortOf_4 rfl (lv_at hl 1 rfl) ?_
      refine lv_aload_n hx hb dX5_sortOf_5 rfl (lv_at hl 0 rfl) ?_
      refine k_get C0 fg_X5_11 hP 0 rfl rfl dX5_sortOf_6 ?_
      refine lv_icmp_lt (tgt := 14) hx hb dX5_sortOf_9 rfl (fun c20 => ?_) (fun c20 => ?_)
      · as_aux_lemma =>
          replace hq := lf_pos hq (lf_lt (lf_rf p0) (lf_rf x_this_length) c20)
          have h21 := ib_lt h19 hx_this_length c20
          have h22 : ib p0 0 1599 := ib_w 0 1599 h21.1 rfl
          have h23 : ib x_this_length 1 1600 := ib_w 1 1600 h21.2 rfl
          refine lv_aload_n hx hb dX5_sortOf_14 rfl (lv_at hl 0 rfl) ?_
          refine k_get C0 fg_X5_33 hP 0 rfl rfl dX5_sortOf_15 ?_
          refine lv_iload_n hx hb dX5_sortOf_18 rfl (lv_at hl 1 rfl) ?_
          refine va_iald hx hb C0.2.2.2.2.2.1 hP 1 0 rfl rfl (ib_in 1600 h22 rfl) dX5_sortOf_19 ?_
          refine lv_topi (fun z24 ez24 => ?_)
          have h25 : ib z24 0 255 := by rw [ez24]; exact ia_at hg_this_text (ib_in 1600 h22 rfl)
          have Ez24 := lf_ld ez24 (lf_ra g_this_text) (lf_rf p0)
          refine lv_bipush (v := 97) hx hb dX5_sortOf_20 rfl ?_
          refine lv_icmp_lt (tgt := 38) hx hb dX5_sortOf_22 rfl (fun c26 => ?_) (fun c26 => ?_)
          · replace hq := lf_pos hq (lf_lt Ez24 (lf_lc 97 (97 : Int) rfl) c26)
            have h27 := ib_lt h25 (ib_c 97 97 97 rfl) c26
            have h28 : ib z24 0 96 := ib_w 0 96 h27.1 rfl
            exact jn38  H locs ls (ib_w 0 1599 h22 rfl) (ib_w 1 1600 h23 rfl) (by exact hq) hP hD hS (lv_sub hl [0, 1] rfl)
          · as_aux_lemma =>
              replace hq := lf_neg hq (lf_nlt Ez24 (lf_lc 97 (97 : Int) rfl) c26)
              have h29 := ib_nlt h25 (ib_c 97 97 97 rfl) c26
              have h30 : ib z24 97 255 := ib_w 97 255 h29.1 rfl
              refine lv_aload_n hx hb dX5_sortOf_25 rfl (lv_at hl 0 rfl) ?_
              refine k_get C0 fg_X5_33 hP 0 rfl rfl dX5_sortOf_26 ?_
              refine lv_iload_n hx hb dX5_sortOf_29 rfl (lv_at hl 1 rfl) ?_
              refine va_iald hx hb C0.2.2.2.2.2.1 hP 1 0 rfl rfl (ib_in 1600 h22 rfl) dX5_sortOf_30 ?_
              refine lv_topi (fun z31 ez31 => ?_)
              have h32 : ib z31 0 255 := by rw [ez31]; exact ia_at hg_this_text (ib_in 1600 h22 rfl)
              have Ez31 := lf_ld ez31 (lf_ra g_this_text) (lf_rf p0)
              refine lv_bipush (v := 122) hx hb dX5_sortOf_31 rfl ?_
              refine lv_icmp_gt (tgt := 38) hx hb dX5_sortOf_33 rfl (fun c33 => ?_) (fun c33 => ?_)
              · replace hq := lf_pos hq (lf_lt (lf_lc 122 (122 : Int) rfl) Ez31 c33)
                have h34 := ib_lt (ib_c 122 122 122 rfl) h32 c33
                have h35 : ib z31 123 255 := ib_w 123 255 h34.2 rfl
                exact jn38  H locs ls (ib_w 0 1599 h22 rfl) (ib_w 1 1600 h23 rfl) (by exact hq) hP hD hS (lv_sub hl [0, 1] rfl)
              · replace hq := lf_neg hq (lf_nlt (lf_lc 122 (122 : Int) rfl) Ez31 c33)
                have h36 := ib_nlt (ib_c 122 122 122 rfl) h32 c33
                have h37 : ib z31 0 122 := ib_w 0 122 h36.2 rfl
                refine lv_iconst (v := 1) hx hb dX5_sortOf_36 rfl ?_
                subst hQ; exact k_iret hx hb hr hlk rfl () hS ⟨ib_w 0 3 (ib_c 1 1 1 rfl) rfl, fun _ => ib_w 1 1600 h23 rfl, fun _ => ib_w 0 1599 h22 rfl, (hO.symm.trans (by try simp only [show (1 : Int32).toInt = (1 : Int) from rfl]; exact hq))⟩ hP hD (Nat.le_of_ble_eq_true rfl) (Nat.le_of_ble_eq_true rfl) dX5_sortOf_37
      · replace hq := lf_neg hq (lf_nlt (lf_rf p0) (lf_rf x_this_length) c20)
        have h38 := ib_nlt h19 hx_this_length c20
        exact jn12  H locs ls (by exact hq) hP hD hS (lv_sub hl [0, 1] rfl)
set_option maxHeartbeats 4000000 in
set_option maxRecDepth 100000 in
theorem s_X5_moveTo (l : Launch) (dC : Nat → ClassId) (dI : Nat → Nat → Nat) (cy : Nat → ClassId) (sq : Nat → Nat) (a_this : Nat) (a_this_text : Nat) (g_this_text : Nat → Int32) (x_this_length : Int32) (x_this_at : Int32) (x_this_behind : Int32) (x_this_sort : Int32) (x_this_allowed : Int32) (a_this_plan : Nat) (x_this_fault : Int32) (x_this_place : Int32) (p0 : Int32) (hg_this_text : ia g_this_text 1600 0 255) (hx_this_length : ib x_this_length 0 1600) (hp0 : ib p0 0 1600) : k_Met l yX5_moveTo cX5_moveTo 3 none { frames := 1, cells := 0, slots := 0, locals := 21 } dC dI cy sq [.ref a_this, .int p0] [(wo_5_riiiiirii a_this a_this_text x_this_length x_this_at x_this_behind x_this_sort x_this_allowed a_this_plan x_this_fault x_this_place), (wi_0_1600_0 a_this_text cy g_this_text)] (k_Qv dC dI (fun (u : Int32 × Int32 × Int32) => match u with | (n0, n1, n2) => ib n0 0 1600 ∧ ib n1 0 1600 ∧ ib n2 0 4 ∧ (¬ n2 = 0 → ib n0 0 1599) ∧ (F_X5_moveTo (lf_A g_this_text) (Int32.toInt x_this_length) (Int32.toInt p0) = ((Int32.toInt n0), (Int32.toInt n1), (Int32.toInt n2)))) (fun u : Int32 × Int32 × Int32 => match u with | (n0, n1, n2) => [(wo_5_riiiiirii a_this a_this_text x_this_length n0 n1 n2 x_this_allowed a_this_plan x_this_fault x_this_place), (wi_0_1600_0 a_this_text cy g_this_text)])) := by
  refine k_ofW2 (by decide +kernel) (Nat.le_of_ble_eq_true rfl) ?_
  intro p e s m below meth c A ls H locs args Q hQ C0 hZ hr hlk hin hP hD hA hS hl
  have C0 : k_cx p s m args c cX5_moveTo 3 RX5 dC dI cy sq := C0
  have hx := C0.1
  have hb := C0.2.1
  have hl : lv_has ls 3 [(0, .ref a_this), (1, .int p0)] := hl
  obtain ⟨O, hO⟩ : ∃ o, o = F_X5_moveTo (lf_A g_this_text) (Int32.toInt x_this_length) (Int32.toInt p0) := ⟨_, rfl⟩
  have hq := hO
  unfold F_X5_moveTo at hq
  have jn188 : ∀ (J188_l2 : Int32) (J188_c0_2 : Int32) (J188_c0_3 : Int32) (J188_c0_4 : Int32) (H : Heap) (locs : List Loc) (ls : Array Slot), ib J188_l2 0 0 → ib J188_c0_2 0 1599 → ib J188_c0_3 0 1600 → ib J188_c0_4 1 2 → (¬ J188_c0_4 = 0 → ib J188_c0_2 0 1599) → (O = F_X5_moveTo_188 (Int32.toInt J188_l2) (Int32.toInt J188_c0_2) (Int32.toInt J188_c0_3) (Int32.toInt J188_c0_4)) → va_P (dC, dI) vwCl [(wo_5_riiiiirii a_this a_this_text x_this_length J188_c0_2 J188_c0_3 J188_c0_4 x_this_allowed a_this_plan x_this_fault x_this_place), (wi_0_1600_0 a_this_text cy g_this_text)] H → va_D A [(wo_5_riiiiirii a_this a_this_text x_this_length J188_c0_2 J188_c0_3 J188_c0_4 x_this_allowed a_this_plan x_this_fault x_this_place), (wi_0_1600_0 a_this_text cy g_this_text)] → va_S A s.heap H locs → lv_has ls 3 [(0, .ref a_this), (1, .int p0), (2, .int J188_l2)] → W p l e { frames := 1, cells := 0, slots := 0, locals := 21 } s m args below meth c H locs 0 0 Q (F0 m 188 ls []) := by
    intro J188_l2 J188_c0_2 J188_c0_3 J188_c0_4 H locs ls hJ188_l2 hJ188_c0_2 hJ188_c0_3 hJ188_c0_4 hJ188_ic0_0 hq hP hD hS hl
    unfold F_X5_moveTo_188 at hq
    refine lv_aload_n hx hb dX5_moveTo_188 rfl (lv_at hl 0 rfl) ?_
    refine lv_iconst (v := 4) hx hb dX5_moveTo_189 rfl ?_
    refine k_put C0 fp_X5_21 hP hD hS 0 rfl rfl rfl (Nat.le_of_ble_eq_true rfl) dX5_moveTo_190 (fun H locs hP hD hS => ?_)
    replace hP : va_P (dC, dI) vwCl [(wo_5_riiiiirii a_this a_this_text x_this_length J188_c0_2 J188_c0_3 4 x_this_allowed a_this_plan x_this_fault x_this_place), (wi_0_1600_0 a_this_text cy g_this_text)] H := hP
    replace hD := k_D hP hD
    subst hQ; exact k_vret hx hb hr hlk ((J188_c0_2, J188_c0_3, 4)) hS ⟨ib_w 0 1600 hJ188_c0_2 rfl, ib_w 0 1600 hJ188_c0_3 rfl, ib_w 0 4 (ib_c 4 4 4 rfl) rfl, fun _ => ib_w 0 1599 hJ188_c0_2 rfl, (hO.symm.trans (by try simp only [show (4 : Int32).toInt = (4 : Int) from rfl]; exact hq))⟩ hP hD (Nat.le_of_ble_eq_true rfl) (Nat.le_of_ble_eq_true rfl) dX5_moveTo_193
  have jn167 : ∀ (J167_c0_2 : Int32) (J167_c0_3 : Int32) (J167_c0_4 : Int32) (J167_s0 : Int32) (H : Heap) (locs : List Loc) (ls : Array Slot), ib J167_c0_2 0 1600 → ib J167_c0_3 0 1600 → ib J167_c0_4 0 3 → ib J167_s0 0 1 → (¬ J167_c0_4 = 0 → ib J167_c0_2 0 1599) → (O = F_X5_moveTo_167 (Int32.toInt J167_c0_2) (Int32.toInt J167_c0_3) (Int32.toInt J167_c0_4) (Int32.toInt J167_s0)) → va_P (dC, dI) vwCl [(wo_5_riiiiirii a_this a_this_text x_this_length J167_c0_2 J167_c0_3 J167_c0_4 x_this_allowed a_this_plan x_this_fault x_this_place), (wi_0_1600_0 a_this_text cy g_this_text)] H → va_D A [(wo_5_riiiiirii a_this a_this_text x_this_length J167_c0_2 J167_c0_3 J167_c0_4 x_this_allowed a_this_plan x_this_fault x_this_place), (wi_0_1600_0 a_this_text cy g_this_text)] → va_S A s.heap H locs → lv_has ls 3 [(0, .ref a_this), (1, .int p0)] → W p l e { frames := 1, cells := 0, slots := 0, locals := 21 } s m args below meth c H locs 0 0 Q (F0 m 167 ls [.int J167_s0]) := by
    as_aux_lemma =>
      intro J167_c0_2 J167_c0_3 J167_c0_4 J167_s0 H locs ls hJ167_c0_2 hJ167_c0_3 hJ167_c0_4 hJ167_s0 hJ167_ic0_0 hq hP hD hS hl
      unfold F_X5_moveTo_167 at hq
      refine lv_istore_n (lv' := [(2, .int J167_s0), (0, .ref a_this), (1, .int p0)]) hx hb dX5_moveTo_167 rfl hl (Nat.le_of_ble_eq_true rfl) rfl (fun ls hl => ?_)
      refine lv_iload_n hx hb dX5_moveTo_168 rfl (lv_at hl 0 rfl) ?_
      refine lv_if_ne (tgt := 193) hx hb dX5_moveTo_169 rfl (fun c1 => ?_) (fun c1 => ?_)
      · replace hq := lf_neg hq (lf_ne (lf_rf J167_s0) (lf_lc 0 (0 : Int) rfl) c1)
        have h2 : ib J167_s0 1 1 := ib_w 1 1 (ib_ne_lo 0 hJ167_s0 rfl c1) rfl
        subst hQ; exact k_vret hx hb hr hlk ((J167_c0_2, J167_c0_3, J167_c0_4)) hS ⟨ib_w 0 1600 hJ167_c0_2 rfl, ib_w 0 1600 hJ167_c0_3 rfl, ib_w 0 4 hJ167_c0_4 rfl, fun hq9 => ib_w 0 1599 (hJ167_ic0_0 hq9) rfl, (hO.symm.trans (by exact hq))⟩ hP hD (Nat.le_of_ble_eq_true rfl) (Nat.le_of_ble_eq_true rfl) dX5_moveTo_193
      · as_aux_lemma =>
          replace hq := lf_pos hq (lf_eq (lf_rf J167_s0) (lf_lc 0 (0 : Int) rfl) c1)
          have h3 := ib_eq hJ167_s0 (ib_c 0 0 0 rfl) c1
          have h4 : ib J167_s0 0 0 := ib_w 0 0 h3.1 rfl
          refine lv_aload_n hx hb dX5_moveTo_172 rfl (lv_at hl 1 rfl) ?_
          refine k_get C0 fg_X5_21 hP 0 rfl rfl dX5_moveTo_173 ?_
          refine lv_iconst (v := 1) hx hb dX5_moveTo_176 rfl ?_
          refine lv_icmp_eq (tgt := 188) hx hb dX5_moveTo_177 rfl (fun c5 => ?_) (fun c5 => ?_)
          · replace hq := lf_pos hq (lf_eq (lf_rf J167_c0_4) (lf_lc 1 (1 : Int) rfl) c5)
            have h6 := ib_eq hJ167_c0_4 (ib_c 1 1 1 rfl) c5
            have h7 : ib J167_c0_4 1 1 := ib_w 1 1 h6.1 rfl
            have h8 : ib J167_c0_2 0 1599 := ib_w 0 1599 (ib_two hJ167_c0_2 (hJ167_ic0_0 (ib_nz h7 rfl))) rfl
            exact jn188 J167_s0 J167_c0_2 J167_c0_3 J167_c0_4 H locs ls (ib_w 0 0 h4 rfl) (ib_w 0 1599 h8 rfl) (ib_w 0 1600 hJ167_c0_3 rfl) (ib_w 1 2 h7 rfl) (fun _ => ib_w 0 1599 h8 rfl) (by exact hq) hP hD hS (lv_sub hl [1, 2, 0] rfl)
          · replace hq := lf_neg hq (lf_ne (lf_rf J167_c0_4) (lf_lc 1 (1 : Int) rfl) c5)
            refine lv_aload_n hx hb dX5_moveTo_180 rfl (lv_at hl 1 rfl) ?_
            refine k_get C0 fg_X5_21 hP 0 rfl rfl dX5_moveTo_181 ?_
            refine lv_iconst (v := 2) hx hb dX5_moveTo_184 rfl ?_
            refine lv_icmp_ne (tgt := 193) hx hb dX5_moveTo_185 rfl (fun c9 => ?_) (fun c9 => ?_)
            · replace hq := lf_neg hq (lf_ne (lf_rf J167_c0_4) (lf_lc 2 (2 : Int) rfl) c9)
              subst hQ; exact k_vret hx hb hr hlk ((J167_c0_2, J167_c0_3, J167_c0_4)) hS ⟨ib_w 0 1600 hJ167_c0_2 rfl, ib_w 0 1600 hJ167_c0_3 rfl, ib_w 0 4 hJ167_c0_4 rfl, fun hq9 => ib_w 0 1599 (hJ167_ic0_0 hq9) rfl, (hO.symm.trans (by exact hq))⟩ hP hD (Nat.le_of_ble_eq_true rfl) (Nat.le_of_ble_eq_true rfl) dX5_moveTo_193
            · replace hq := lf_pos hq (lf_eq (lf_rf J167_c0_4) (lf_lc 2 (2 : Int) rfl) c9)
              have h10 := ib_eq hJ167_c0_4 (ib_c 2 2 2 rfl) c9
              have h11 : ib J167_c0_4 2 2 := ib_w 2 2 h10.1 rfl
              have h12 : ib J167_c0_2 0 1599 := ib_w 0 1599 (ib_two hJ167_c0_2 (hJ167_ic0_0 (ib_nz h11 rfl))) rfl
              exact jn188 J167_s0 J167_c0_2 J167_c0_3 J167_c0_4 H locs ls (ib_w 0 0 h4 rfl) (ib_w 0 1599 h12 rfl) (ib_w 0 1600 hJ167_c0_3 rfl) (ib_w 1 2 h11 rfl) (fun _ => ib_w 0 1599 h12 rfl) (by exact hq) hP hD hS (lv_sub hl [1, 2, 0] rfl)
  have jn162 : ∀ (J162_c0_2 : Int32) (J162_c0_3 : Int32) (J162_c0_4 : Int32) (H : Heap) (locs : List Loc) (ls : Array Slot), ib J162_c0_2 0 1600 → ib J162_c0_3 0 1600 → ib J162_c0_4 0 3 → (¬ J162_c0_4 = 0 → ib J162_c0_2 0 1599) → (O = F_X5_moveTo_162 (Int32.toInt J162_c0_2) (Int32.toInt J162_c0_3) (Int32.toInt J162_c0_4)) → va_P (dC, dI) vwCl [(wo_5_riiiiirii a_this a_this_text x_this_length J162_c0_2 J162_c0_3 J162_c0_4 x_this_allowed a_this_plan x_this_fault x_this_place), (wi_0_1600_0 a_this_text cy g_this_text)] H → va_D A [(wo_5_riiiiirii a_this a_this_text x_this_length J162_c0_2 J162_c0_3 J162_c0_4 x_this_allowed a_this_plan x_this_fault x_this_place), (wi_0_1600_0 a_this_text cy g_this_text)] → va_S A s.heap H locs → lv_has ls 3 [(0, .ref a_this), (1, .int p0)] → W p l e { frames := 1, cells := 0, slots := 0, locals := 21 } s m args below meth c H locs 0 0 Q (F0 m 162 ls []) := by
    intro J162_c0_2 J162_c0_3 J162_c0_4 H locs ls hJ162_c0_2 hJ162_c0_3 hJ162_c0_4 hJ162_ic0_0 hq hP hD hS hl
    unfold F_X5_moveTo_162 at hq
    refine lv_iconst (v := 1) hx hb dX5_moveTo_162 rfl ?_
    refine lv_goto (tgt := 167) hx hb dX5_moveTo_163 rfl ?_
    exact jn167 J162_c0_2 J162_c0_3 J162_c0_4 1 H locs ls (ib_w 0 1600 hJ162_c0_2 rfl) (ib_w 0 1600 hJ162_c0_3 rfl) (ib_w 0 3 hJ162_c0_4 rfl) (ib_w 0 1 (ib_c 1 1 1 rfl) rfl) (fun hq9 => ib_w 0 1599 (hJ162_ic0_0 hq9) rfl) (by try simp only [show (1 : Int32).toInt = (1 : Int) from rfl]; exact hq) hP hD hS (lv_sub hl [0, 1] rfl)
  have jn133 : ∀ (J133_c0_2 : Int32) (J133_c0_3 : Int32) (J133_c0_4 : Int32) (H : Heap) (locs : List Loc) (ls : Array Slot), ib J133_c0_2 0 1600 → ib J133_c0_3 0 1600 → ib J133_c0_4 0 3 → (¬ J133_c0_4 = 0 → ib J133_c0_2 0 1599) → (O = F_X5_moveTo_133 (lf_A g_this_text) (Int32.toInt x_this_length) (Int32.toInt p0) (Int32.toInt J133_c0_2) (Int32.toInt J133_c0_3) (Int32.toInt J133_c0_4)) → va_P (dC, dI) vwCl [(wo_5_riiiiirii a_this a_this_text x_this_length J133_c0_2 J133_c0_3 J133_c0_4 x_this_allowed a_this_plan x_this_fault x_this_place), (wi_0_1600_0 a_this_text cy g_this_text)] H → va_D A [(wo_5_riiiiirii a_this a_this_text x_this_length J133_c0_2 J133_c0_3 J133_c0_4 x_this_allowed a_this_plan x_this_fault x_this_place), (wi_0_1600_0 a_this_text cy g_this_text)] → va_S A s.heap H locs → lv_has ls 3 [(0, .ref a_this), (1, .int p0)] → W p l e { frames := 1, cells := 0, slots := 0, locals := 21 } s m args below meth c H locs 0 0 Q (F0 m 133 ls []) := by
    as_aux_lemma =>
      intro J133_c0_2 J133_c0_3 J133_c0_4 H locs ls hJ133_c0_2 hJ133_c0_3 hJ133_c0_4 hJ133_ic0_0 hq hP hD hS hl
      unfold F_X5_moveTo_133 at hq
      refine lv_aload_n hx hb dX5_moveTo_133 rfl (lv_at hl 0 rfl) ?_
      refine k_get C0 fg_X5_15 hP 0 rfl rfl dX5_moveTo_134 ?_
      refine lv_iload_n hx hb dX5_moveTo_137 rfl (lv_at hl 1 rfl) ?_
      refine lv_icmp_gt (tgt := 162) hx hb dX5_moveTo_138 rfl (fun c13 => ?_) (fun c13 => ?_)
      · replace hq := lf_pos hq (lf_lt (lf_rf p0) (lf_rf J133_c0_2) c13)
        have h14 := ib_lt hp0 hJ133_c0_2 c13
        have h15 : ib p0 0 1599 := ib_w 0 1599 h14.1 rfl
        have h16 : ib J133_c0_2 1 1600 := ib_w 1 1600 h14.2 rfl
        exact jn162 J133_c0_2 J133_c0_3 J133_c0_4 H locs ls (ib_w 0 1600 h16 rfl) (ib_w 0 1600 hJ133_c0_3 rfl) (ib_w 0 3 hJ133_c0_4 rfl) (fun hq9 => ib_w 0 1599 (hJ133_ic0_0 hq9) rfl) (by exact hq) hP hD hS (lv_sub hl [0, 1] rfl)
      · as_aux_lemma =>
          replace hq := lf_neg hq (lf_nlt (lf_rf p0) (lf_rf J133_c0_2) c13)
          have h17 := ib_nlt hp0 hJ133_c0_2 c13
          refine lv_aload_n hx hb dX5_moveTo_141 rfl (lv_at hl 0 rfl) ?_
          refine k_get C0 fg_X5_15 hP 0 rfl rfl dX5_moveTo_142 ?_
          refine lv_if_eq (tgt := 162) hx hb dX5_moveTo_145 rfl (fun c18 => ?_) (fun c18 => ?_)
          · replace hq := lf_pos hq (lf_eq (lf_rf J133_c0_2) (lf_lc 0 (0 : Int) rfl) c18)
            have h19 := ib_eq hJ133_c0_2 (ib_c 0 0 0 rfl) c18
            have h20 : ib J133_c0_2 0 0 := ib_w 0 0 h19.1 rfl
            exact jn162 J133_c0_2 J133_c0_3 J133_c0_4 H locs ls (ib_w 0 1600 h20 rfl) (ib_w 0 1600 hJ133_c0_3 rfl) (ib_w 0 3 hJ133_c0_4 rfl) (fun _ => ib_w 0 1599 h20 rfl) (by exact hq) hP hD hS (lv_sub hl [0, 1] rfl)
          · as_aux_lemma =>
              replace hq := lf_neg hq (lf_ne (lf_rf J133_c0_2) (lf_lc 0 (0 : Int) rfl) c18)
              have h21 : ib J133_c0_2 1 1600 := ib_w 1 1600 (ib_ne_lo 0 hJ133_c0_2 rfl c18) rfl
              refine lv_aload_n hx hb dX5_moveTo_148 rfl (lv_at hl 0 rfl) ?_
              refine lv_aload_n hx hb dX5_moveTo_149 rfl (lv_at hl 0 rfl) ?_
              refine k_get C0 fg_X5_15 hP 0 rfl rfl dX5_moveTo_150 ?_
              refine lv_iconst (v := 1) hx hb dX5_moveTo_153 rfl ?_
              refine lv_isub hx hb dX5_moveTo_154 ?_
              refine lv_topi (fun z22 ez22 => ?_)
              have h23 := ib_sub h21 (ib_c 1 1 1 rfl) rfl
              rw [← ez22] at h23
              have h24 : ib z22 0 1599 := ib_w 0 1599 h23.1 rfl
              have Ez22 := lf_sub h23.2 (lf_rf J133_c0_2) (lf_lc 1 (1 : Int) rfl)
              refine k_jim hP hD hS hA [0, 1] [] rfl rfl rfl 0 0 (Nat.le_of_ble_eq_true rfl) (Nat.le_of_ble_eq_true rfl) (fun hPc hDc => k_runV (As := [.int z22]) (rest := []) C0 hZ hS hA (s_X5_sortOf l dC dI cy sq a_this a_this_text g_this_text x_this_length J133_c0_2 J133_c0_3 J133_c0_4 x_this_allowed a_this_plan x_this_fault x_this_place z22 hg_this_text (ib_w 0 1600 hx_this_length rfl)) mV_X5_252 hPc hDc rfl rfl rfl hl rfl rfl (Nat.le_of_ble_eq_true rfl) ⟨(Nat.le_of_ble_eq_true rfl), (Nat.le_of_ble_eq_true rfl)⟩ ⟨(Nat.le_of_ble_eq_true rfl), (Nat.le_of_ble_eq_true rfl)⟩ dX5_moveTo_155) (fun r25 u26 H locs hw hP hD hS => ?_)
              try dsimp only at hP hD hw
              replace hP : va_P (dC, dI) vwCl [(wo_5_riiiiirii a_this a_this_text x_this_length J133_c0_2 J133_c0_3 J133_c0_4 x_this_allowed a_this_plan x_this_fault x_this_place), (wi_0_1600_0 a_this_text cy g_this_text)] H := hP
              replace hD := k_D hP hD
              obtain ⟨h27, h28, h29, h30⟩ := hw
              have h30 := by have h9 := h30; rw [lf_u Ez22] at h9; exact h9
              replace hq := lf_b1 hq h30
              refine lv_iconst (v := 3) hx hb dX5_moveTo_158 rfl ?_
              refine lv_icmp_ne (tgt := 166) hx hb dX5_moveTo_159 rfl (fun c31 => ?_) (fun c31 => ?_)
              · replace hq := lf_neg hq (lf_ne (lf_rf r25) (lf_lc 3 (3 : Int) rfl) c31)
                have h32 : ib r25 0 2 := ib_w 0 2 (ib_ne_hi 3 h27 rfl c31) rfl
                refine lv_iconst (v := 0) hx hb dX5_moveTo_166 rfl ?_
                exact jn167 J133_c0_2 J133_c0_3 J133_c0_4 0 H locs ls (ib_w 0 1600 h21 rfl) (ib_w 0 1600 hJ133_c0_3 rfl) (ib_w 0 3 hJ133_c0_4 rfl) (ib_w 0 1 (ib_c 0 0 0 rfl) rfl) (fun hq9 => ib_w 0 1599 (hJ133_ic0_0 hq9) rfl) (by try simp only [show (0 : Int32).toInt = (0 : Int) from rfl]; exact hq) hP hD hS (lv_sub hl [0, 1] rfl)
              · replace hq := lf_pos hq (lf_eq (lf_rf r25) (lf_lc 3 (3 : Int) rfl) c31)
                have h33 := ib_eq h27 (ib_c 3 3 3 rfl) c31
                have h34 : ib r25 3 3 := ib_w 3 3 h33.1 rfl
                have h35 : ib x_this_length 1 1600 := ib_w 1 1600 (ib_two hx_this_length (h28 (ib_nz h34 rfl))) rfl
                exact jn162 J133_c0_2 J133_c0_3 J133_c0_4 H locs ls (ib_w 0 1600 h21 rfl) (ib_w 0 1600 hJ133_c0_3 rfl) (ib_w 0 3 hJ133_c0_4 rfl) (fun hq9 => ib_w 0 1599 (hJ133_ic0_0 hq9) rfl) (by exact hq) hP hD hS (lv_sub hl [0, 1] rfl)
  have jn86 : ∀ (n : Nat) (J86_c0_2 : Int32) (J86_c0_3 : Int32) (J86_c0_4 : Int32) (H : Heap) (locs : List Loc) (ls : Array Slot), ib J86_c0_2 0 1600 → ib J86_c0_3 0 1600 → ib J86_c0_4 0 3 → (¬ J86_c0_4 = 0 → ib J86_c0_2 0 1599) → (O = F_X5_moveTo_86 (lf_A g_this_text) (Int32.toInt x_this_length) (Int32.toInt p0) n (Int32.toInt J86_c0_2) (Int32.toInt J86_c0_3) (Int32.toInt J86_c0_4)) → 1601 ≤ J86_c0_3.toInt + (n : Int) → va_P (dC, dI) vwCl [(wo_5_riiiiirii a_this a_this_text x_this_length J86_c0_2 J86_c0_3 J86_c0_4 x_this_allowed a_this_plan x_this_fault x_this_place), (wi_0_1600_0 a_this_text cy g_this_text)] H → va_D A [(wo_5_riiiiirii a_this a_this_text x_this_length J86_c0_2 J86_c0_3 J86_c0_4 x_this_allowed a_this_plan x_this_fault x_this_place), (wi_0_1600_0 a_this_text cy g_this_text)] → va_S A s.heap H locs → lv_has ls 3 [(0, .ref a_this), (1, .int p0)] → W p l e { frames := 1, cells := 0, slots := 0, locals := 21 } s m args below meth c H locs 0 0 Q (F0 m 86 ls []) := by
    as_aux_lemma =>
      intro n
      induction n with
      | zero =>
        intro J86_c0_2 J86_c0_3 J86_c0_4 H locs ls hJ86_c0_2 hJ86_c0_3 hJ86_c0_4 hJ86_ic0_0 hq hm
        exact absurd hm (by have := hJ86_c0_3; unfold ib at this; omega)
      | succ n ih =>
        intro J86_c0_2 J86_c0_3 J86_c0_4 H locs ls hJ86_c0_2 hJ86_c0_3 hJ86_c0_4 hJ86_ic0_0 hq hm86 hP hD hS hl
        have ih86 := ih
        obtain ⟨K86, hK86⟩ : ∃ K, K = F_X5_moveTo_86 (lf_A g_this_text) (Int32.toInt x_this_length) (Int32.toInt p0) n := ⟨_, rfl⟩
        have hq : O = F_X5_moveTo_86b (lf_A g_this_text) (Int32.toInt x_this_length) (Int32.toInt p0) K86 (Int32.toInt J86_c0_2) (Int32.toInt J86_c0_3) (Int32.toInt J86_c0_4) := by rw [hK86]; exact hq
        unfold F_X5_moveTo_86b at hq
        refine lv_aload_n hx hb dX5_moveTo_86 rfl (lv_at hl 0 rfl) ?_
        refine k_get C0 fg_X5_18 hP 0 rfl rfl dX5_moveTo_87 ?_
        refine lv_aload_n hx hb dX5_moveTo_90 rfl (lv_at hl 0 rfl) ?_
        refine k_get C0 fg_X5_11 hP 0 rfl rfl dX5_moveTo_91 ?_
        refine lv_icmp_ge (tgt := 133) hx hb dX5_moveTo_94 rfl (fun c36 => ?_) (fun c36 => ?_)
        · replace hq := lf_pos hq (lf_le (lf_rf x_this_length) (lf_rf J86_c0_3) c36)
          have h37 := ib_le hx_this_length hJ86_c0_3 c36
          exact jn133 J86_c0_2 J86_c0_3 J86_c0_4 H locs ls (ib_w 0 1600 hJ86_c0_2 rfl) (ib_w 0 1600 hJ86_c0_3 rfl) (ib_w 0 3 hJ86_c0_4 rfl) (fun hq9 => ib_w 0 1599 (hJ86_ic0_0 hq9) rfl) (by exact hq) hP hD hS (lv_sub hl [0, 1] rfl)
        · as_aux_lemma =>
            replace hq := lf_neg hq (lf_nle (lf_rf x_this_length) (lf_rf J86_c0_3) c36)
            have h38 := ib_nle hx_this_length hJ86_c0_3 c36
            have h39 : ib x_this_length 1 1600 := ib_w 1 1600 h38.1 rfl
            have h40 : ib J86_c0_3 0 1599 := ib_w 0 1599 h38.2 rfl
            refine lv_aload_n hx hb dX5_moveTo_97 rfl (lv_at hl 0 rfl) ?_
            refine k_get C0 fg_X5_21 hP 0 rfl rfl dX5_moveTo_98 ?_
            refine lv_iconst (v := 3) hx hb dX5_moveTo_101 rfl ?_
            refine lv_icmp_eq (tgt := 133) hx hb dX5_moveTo_102 rfl (fun c41 => ?_) (fun c41 => ?_)
            · replace hq := lf_pos hq (lf_eq (lf_rf J86_c0_4) (lf_lc 3 (3 : Int) rfl) c41)
              have h42 := ib_eq hJ86_c0_4 (ib_c 3 3 3 rfl) c41
              have h43 : ib J86_c0_4 3 3 := ib_w 3 3 h42.1 rfl
              have h44 : ib J86_c0_2 0 1599 := ib_w 0 1599 (ib_two hJ86_c0_2 (hJ86_ic0_0 (ib_nz h43 rfl))) rfl
              exact jn133 J86_c0_2 J86_c0_3 J86_c0_4 H locs ls (ib_w 0 1600 h44 rfl) (ib_w 0 1600 h40 rfl) (ib_w 0 3 h43 rfl) (fun _ => ib_w 0 1599 h44 rfl) (by exact hq) hP hD hS (lv_sub hl [0, 1] rfl)
            · as_aux_lemma =>
                replace hq := lf_neg hq (lf_ne (lf_rf J86_c0_4) (lf_lc 3 (3 : Int) rfl) c41)
                have h45 : ib J86_c0_4 0 2 := ib_w 0 2 (ib_ne_hi 3 hJ86_c0_4 rfl c41) rfl
                refine lv_aload_n hx hb dX5_moveTo_105 rfl (lv_at hl 0 rfl) ?_
                refine lv_aload_n hx hb dX5_moveTo_106 rfl (lv_at hl 0 rfl) ?_
                refine k_get C0 fg_X5_18 hP 0 rfl rfl dX5_moveTo_107 ?_
                refine k_jim hP hD hS hA [0, 1] [] rfl rfl rfl 0 0 (Nat.le_of_ble_eq_true rfl) (Nat.le_of_ble_eq_true rfl) (fun hPc hDc => k_runV (As := [.int J86_c0_3]) (rest := []) C0 hZ hS hA (s_X5_sortOf l dC dI cy sq a_this a_this_text g_this_text x_this_length J86_c0_2 J86_c0_3 J86_c0_4 x_this_allowed a_this_plan x_this_fault x_this_place J86_c0_3 hg_this_text (ib_w 0 1600 h39 rfl)) mV_X5_252 hPc hDc rfl rfl rfl hl rfl rfl (Nat.le_of_ble_eq_true rfl) ⟨(Nat.le_of_ble_eq_true rfl), (Nat.le_of_ble_eq_true rfl)⟩ ⟨(Nat.le_of_ble_eq_true rfl), (Nat.le_of_ble_eq_true rfl)⟩ dX5_moveTo_110) (fun r46 u47 H locs hw hP hD hS => ?_)
                try dsimp only at hP hD hw
                replace hP : va_P (dC, dI) vwCl [(wo_5_riiiiirii a_this a_this_text x_this_length J86_c0_2 J86_c0_3 J86_c0_4 x_this_allowed a_this_plan x_this_fault x_this_place), (wi_0_1600_0 a_this_text cy g_this_text)] H := hP
                replace hD := k_D hP hD
                obtain ⟨h48, h49, h50, h51⟩ := hw
                replace hq := lf_b1 hq h51
                refine lv_aload_n hx hb dX5_moveTo_113 rfl (lv_at hl 0 rfl) ?_
                refine k_get C0 fg_X5_21 hP 0 rfl rfl dX5_moveTo_114 ?_
                refine lv_icmp_ne (tgt := 133) hx hb dX5_moveTo_117 rfl (fun c52 => ?_) (fun c52 => ?_)
                · replace hq := lf_neg hq (lf_ne (lf_rf r46) (lf_rf J86_c0_4) c52)
                  exact jn133 J86_c0_2 J86_c0_3 J86_c0_4 H locs ls (ib_w 0 1600 hJ86_c0_2 rfl) (ib_w 0 1600 h40 rfl) (ib_w 0 3 h45 rfl) (fun hq9 => ib_w 0 1599 (hJ86_ic0_0 hq9) rfl) (by exact hq) hP hD hS (lv_sub hl [0, 1] rfl)
                · replace hq := lf_pos hq (lf_eq (lf_rf r46) (lf_rf J86_c0_4) c52)
                  have h53 := ib_eq h48 h45 c52
                  have h54 : ib r46 0 2 := ib_w 0 2 h53.1 rfl
                  refine lv_aload_n hx hb dX5_moveTo_120 rfl (lv_at hl 0 rfl) ?_
                  refine lv_dup hx hb dX5_moveTo_121 rfl ?_
                  refine k_get C0 fg_X5_18 hP 0 rfl rfl dX5_moveTo_122 ?_
                  refine lv_iconst (v := 1) hx hb dX5_moveTo_125 rfl ?_
                  refine lv_iadd hx hb dX5_moveTo_126 ?_
                  refine lv_topi (fun z55 ez55 => ?_)
                  have h56 := ib_add h40 (ib_c 1 1 1 rfl) rfl
                  rw [← ez55] at h56
                  have h57 : ib z55 1 1600 := ib_w 1 1600 h56.1 rfl
                  have Ez55 := lf_add h56.2 (lf_rf J86_c0_3) (lf_lc 1 (1 : Int) rfl)
                  refine k_put C0 fp_X5_18 hP hD hS 0 rfl rfl rfl (Nat.le_of_ble_eq_true rfl) dX5_moveTo_127 (fun H locs hP hD hS => ?_)
                  replace hP : va_P (dC, dI) vwCl [(wo_5_riiiiirii a_this a_this_text x_this_length J86_c0_2 z55 J86_c0_4 x_this_allowed a_this_plan x_this_fault x_this_place), (wi_0_1600_0 a_this_text cy g_this_text)] H := hP
                  replace hD := k_D hP hD
                  refine lv_goto (tgt := 86) hx hb dX5_moveTo_130 rfl ?_
                  exact ih86 J86_c0_2 z55 J86_c0_4 H locs ls (ib_w 0 1600 hJ86_c0_2 rfl) (ib_w 0 1600 h57 rfl) (ib_w 0 3 h45 rfl) (fun hq9 => ib_w 0 1599 (hJ86_ic0_0 hq9) rfl) (by rw [← hK86]; rw [lf_u Ez55]; exact hq) (by have := h56.2; have : (1 : Int32).toInt = 1 := rfl; omega) hP hD hS (lv_sub hl [0, 1] rfl)
  have jn57 : ∀ (J57_c0_2 : Int32) (H : Heap) (locs : List Loc) (ls : Array Slot), ib J57_c0_2 0 1600 → (O = F_X5_moveTo_57 (lf_A g_this_text) (Int32.toInt x_this_length) (Int32.toInt p0) (Int32.toInt J57_c0_2)) → va_P (dC, dI) vwCl [(wo_5_riiiiirii a_this a_this_text x_this_length J57_c0_2 x_this_behind x_this_sort x_this_allowed a_this_plan x_this_fault x_this_place), (wi_0_1600_0 a_this_text cy g_this_text)] H → va_D A [(wo_5_riiiiirii a_this a_this_text x_this_length J57_c0_2 x_this_behind x_this_sort x_this_allowed a_this_plan x_this_fault x_this_place), (wi_0_1600_0 a_this_text cy g_this_text)] → va_S A s.heap H locs → lv_has ls 3 [(0, .ref a_this), (1, .int p0)] → W p l e { frames := 1, cells := 0, slots := 0, locals := 21 } s m args below meth c H locs 0 0 Q (F0 m 57 ls []) := by
    as_aux_lemma =>
      intro J57_c0_2 H locs ls hJ57_c0_2 hq hP hD hS hl
      unfold F_X5_moveTo_57 at hq
      refine lv_aload_n hx hb dX5_moveTo_57 rfl (lv_at hl 0 rfl) ?_
      refine lv_aload_n hx hb dX5_moveTo_58 rfl (lv_at hl 0 rfl) ?_
      refine lv_aload_n hx hb dX5_moveTo_59 rfl (lv_at hl 0 rfl) ?_
      refine k_get C0 fg_X5_15 hP 0 rfl rfl dX5_moveTo_60 ?_
      refine k_jim hP hD hS hA [0, 1] [] rfl rfl rfl 0 0 (Nat.le_of_ble_eq_true rfl) (Nat.le_of_ble_eq_true rfl) (fun hPc hDc => k_runV (As := [.int J57_c0_2]) (rest := [.ref a_this]) C0 hZ hS hA (s_X5_sortOf l dC dI cy sq a_this a_this_text g_this_text x_this_length J57_c0_2 x_this_behind x_this_sort x_this_allowed a_this_plan x_this_fault x_this_place J57_c0_2 hg_this_text (ib_w 0 1600 hx_this_length rfl)) mV_X5_252 hPc hDc rfl rfl rfl hl rfl rfl (Nat.le_of_ble_eq_true rfl) ⟨(Nat.le_of_ble_eq_true rfl), (Nat.le_of_ble_eq_true rfl)⟩ ⟨(Nat.le_of_ble_eq_true rfl), (Nat.le_of_ble_eq_true rfl)⟩ dX5_moveTo_63) (fun r58 u59 H locs hw hP hD hS => ?_)
      try dsimp only at hP hD hw
      replace hP : va_P (dC, dI) vwCl [(wo_5_riiiiirii a_this a_this_text x_this_length J57_c0_2 x_this_behind x_this_sort x_this_allowed a_this_plan x_this_fault x_this_place), (wi_0_1600_0 a_this_text cy g_this_text)] H := hP
      replace hD := k_D hP hD
      obtain ⟨h60, h61, h62, h63⟩ := hw
      replace hq := lf_b1 hq h63
      refine k_put C0 fp_X5_21 hP hD hS 0 rfl rfl rfl (Nat.le_of_ble_eq_true rfl) dX5_moveTo_66 (fun H locs hP hD hS => ?_)
      replace hP : va_P (dC, dI) vwCl [(wo_5_riiiiirii a_this a_this_text x_this_length J57_c0_2 x_this_behind r58 x_this_allowed a_this_plan x_this_fault x_this_place), (wi_0_1600_0 a_this_text cy g_this_text)] H := hP
      replace hD := k_D hP hD
      refine lv_aload_n hx hb dX5_moveTo_69 rfl (lv_at hl 0 rfl) ?_
      refine lv_aload_n hx hb dX5_moveTo_70 rfl (lv_at hl 0 rfl) ?_
      refine k_get C0 fg_X5_15 hP 0 rfl rfl dX5_moveTo_71 ?_
      refine lv_iconst (v := 1) hx hb dX5_moveTo_74 rfl ?_
      refine lv_iadd hx hb dX5_moveTo_75 ?_
      refine lv_topi (fun z64 ez64 => ?_)
      have h65 := ib_add hJ57_c0_2 (ib_c 1 1 1 rfl) rfl
      rw [← ez64] at h65
      have h66 : ib z64 1 1601 := ib_w 1 1601 h65.1 rfl
      have Ez64 := lf_add h65.2 (lf_rf J57_c0_2) (lf_lc 1 (1 : Int) rfl)
      refine lv_aload_n hx hb dX5_moveTo_76 rfl (lv_at hl 0 rfl) ?_
      refine k_get C0 fg_X5_11 hP 0 rfl rfl dX5_moveTo_77 ?_
      refine va_mmin hx hb (by rw [C0.2.2.1]; exact hl.1.symm) C0.2.2.2.1 (C0.2.2.2.2.1 _ wd297) (C0.2.2.2.2.1 _ wd298) (C0.2.2.2.2.1 _ wd299) (C0.2.2.2.2.1 _ wd300) (Nat.le_of_ble_eq_true rfl) (Nat.le_of_ble_eq_true rfl) (Nat.le_of_ble_eq_true rfl) (Nat.le_of_ble_eq_true rfl) dX5_moveTo_80 ?_
      refine lv_topi (fun z67 ez67 => ?_)
      have h68 : ib z67 0 1600 := by rw [ez67]; exact ib_w 0 1600 (ib_min h66 hx_this_length) rfl
      have Ez67 := lf_min ez67 Ez64 (lf_rf x_this_length)
      refine k_put C0 fp_X5_18 hP hD hS 0 rfl rfl rfl (Nat.le_of_ble_eq_true rfl) dX5_moveTo_83 (fun H locs hP hD hS => ?_)
      replace hP : va_P (dC, dI) vwCl [(wo_5_riiiiirii a_this a_this_text x_this_length J57_c0_2 z67 r58 x_this_allowed a_this_plan x_this_fault x_this_place), (wi_0_1600_0 a_this_text cy g_this_text)] H := hP
      replace hD := k_D hP hD
      exact jn86 1602 J57_c0_2 z67 r58 H locs ls (ib_w 0 1600 hJ57_c0_2 rfl) (ib_w 0 1600 h68 rfl) (ib_w 0 3 h60 rfl) (fun hq9 => ib_w 0 1599 (h62 hq9) rfl) (by rw [lf_u Ez67]; exact hq) (by have := h68; unfold ib at this; omega) hP hD hS (lv_sub hl [0, 1] rfl)
  have jn5 : ∀ (n : Nat) (J5_c0_2 : Int32) (H : Heap) (locs : List Loc) (ls : Array Slot), ib J5_c0_2 0 1600 → (O = F_X5_moveTo_5 (lf_A g_this_text) (Int32.toInt x_this_length) (Int32.toInt p0) n (Int32.toInt J5_c0_2)) → 1601 ≤ J5_c0_2.toInt + (n : Int) → va_P (dC, dI) vwCl [(wo_5_riiiiirii a_this a_this_text x_this_length J5_c0_2 x_this_behind x_this_sort x_this_allowed a_this_plan x_this_fault x_this_place), (wi_0_1600_0 a_this_text cy g_this_text)] H → va_D A [(wo_5_riiiiirii a_this a_this_text x_this_length J5_c0_2 x_this_behind x_this_sort x_this_allowed a_this_plan x_this_fault x_this_place), (wi_0_1600_0 a_this_text cy g_this_text)] → va_S A s.heap H locs → lv_has ls 3 [(0, .ref a_this), (1, .int p0)] → W p l e { frames := 1, cells := 0, slots := 0, locals := 21 } s m args below meth c H locs 0 0 Q (F0 m 5 ls []) := by
    as_aux_lemma =>
      intro n
      induction n with
      | zero =>
        intro J5_c0_2 H locs ls hJ5_c0_2 hq hm
        exact absurd hm (by have := hJ5_c0_2; unfold ib at this; omega)
      | succ n ih =>
        intro J5_c0_2 H locs ls hJ5_c0_2 hq hm5 hP hD hS hl
        have ih5 := ih
        obtain ⟨K5, hK5⟩ : ∃ K, K = F_X5_moveTo_5 (lf_A g_this_text) (Int32.toInt x_this_length) (Int32.toInt p0) n := ⟨_, rfl⟩
        have hq : O = F_X5_moveTo_5b (lf_A g_this_text) (Int32.toInt x_this_length) (Int32.toInt p0) K5 (Int32.toInt J5_c0_2) := by rw [hK5]; exact hq
        unfold F_X5_moveTo_5b at hq
        have jn44 : ∀  (H : Heap) (locs : List Loc) (ls : Array Slot), ib x_this_length 1 1600 → ib J5_c0_2 0 1599 → (O = F_X5_moveTo_44 (Int32.toInt J5_c0_2) K5 ) → va_P (dC, dI) vwCl [(wo_5_riiiiirii a_this a_this_text x_this_length J5_c0_2 x_this_behind x_this_sort x_this_allowed a_this_plan x_this_fault x_this_place), (wi_0_1600_0 a_this_text cy g_this_text)] H → va_D A [(wo_5_riiiiirii a_this a_this_text x_this_length J5_c0_2 x_this_behind x_this_sort x_this_allowed a_this_plan x_this_fault x_this_place), (wi_0_1600_0 a_this_text cy g_this_text)] → va_S A s.heap H locs → lv_has ls 3 [(0, .ref a_this), (1, .int p0)] → W p l e { frames := 1, cells := 0, slots := 0, locals := 21 } s m args below meth c H locs 0 0 Q (F0 m 44 ls []) := by
          intro H locs ls hK44_x_this_length hK44_J5_c0_2 hq hP hD hS hl
          unfold F_X5_moveTo_44 at hq
          refine lv_aload_n hx hb dX5_moveTo_44 rfl (lv_at hl 0 rfl) ?_
          refine lv_dup hx hb dX5_moveTo_45 rfl ?_
          refine k_get C0 fg_X5_15 hP 0 rfl rfl dX5_moveTo_46 ?_
          refine lv_iconst (v := 1) hx hb dX5_moveTo_49 rfl ?_
          refine lv_iadd hx hb dX5_moveTo_50 ?_
          refine lv_topi (fun z69 ez69 => ?_)
          have h70 := ib_add hK44_J5_c0_2 (ib_c 1 1 1 rfl) rfl
          rw [← ez69] at h70
          have h71 : ib z69 1 1600 := ib_w 1 1600 h70.1 rfl
          have Ez69 := lf_add h70.2 (lf_rf J5_c0_2) (lf_lc 1 (1 : Int) rfl)
          refine k_put C0 fp_X5_15 hP hD hS 0 rfl rfl rfl (Nat.le_of_ble_eq_true rfl) dX5_moveTo_51 (fun H locs hP hD hS => ?_)
          replace hP : va_P (dC, dI) vwCl [(wo_5_riiiiirii a_this a_this_text x_this_length z69 x_this_behind x_this_sort x_this_allowed a_this_plan x_this_fault x_this_place), (wi_0_1600_0 a_this_text cy g_this_text)] H := hP
          replace hD := k_D hP hD
          refine lv_goto (tgt := 5) hx hb dX5_moveTo_54 rfl ?_
          exact ih5 z69 H locs ls (ib_w 0 1600 h71 rfl) (by rw [← hK5]; rw [lf_u Ez69]; exact hq) (by have := h70.2; have : (1 : Int32).toInt = 1 := rfl; omega) hP hD hS (lv_sub hl [0, 1] rfl)
        refine lv_aload_n hx hb dX5_moveTo_5 rfl (lv_at hl 0 rfl) ?_
        refine k_get C0 fg_X5_15 hP 0 rfl rfl dX5_moveTo_6 ?_
        refine lv_aload_n hx hb dX5_moveTo_9 rfl (lv_at hl 0 rfl) ?_
        refine k_get C0 fg_X5_11 hP 0 rfl rfl dX5_moveTo_10 ?_
        refine lv_icmp_ge (tgt := 57) hx hb dX5_moveTo_13 rfl (fun c72 => ?_) (fun c72 => ?_)
        · replace hq := lf_pos hq (lf_le (lf_rf x_this_length) (lf_rf J5_c0_2) c72)
          have h73 := ib_le hx_this_length hJ5_c0_2 c72
          exact jn57 J5_c0_2 H locs ls (ib_w 0 1600 hJ5_c0_2 rfl) (by exact hq) hP hD hS (lv_sub hl [0, 1] rfl)
        · as_aux_lemma =>
            replace hq := lf_neg hq (lf_nle (lf_rf x_this_length) (lf_rf J5_c0_2) c72)
            have h74 := ib_nle hx_this_length hJ5_c0_2 c72
            have h75 : ib x_this_length 1 1600 := ib_w 1 1600 h74.1 rfl
            have h76 : ib J5_c0_2 0 1599 := ib_w 0 1599 h74.2 rfl
            refine lv_aload_n hx hb dX5_moveTo_16 rfl (lv_at hl 0 rfl) ?_
            refine k_get C0 fg_X5_33 hP 0 rfl rfl dX5_moveTo_17 ?_
            refine lv_aload_n hx hb dX5_moveTo_20 rfl (lv_at hl 0 rfl) ?_
            refine k_get C0 fg_X5_15 hP 0 rfl rfl dX5_moveTo_21 ?_
            refine va_iald hx hb C0.2.2.2.2.2.1 hP 1 0 rfl rfl (ib_in 1600 h76 rfl) dX5_moveTo_24 ?_
            refine lv_topi (fun z77 ez77 => ?_)
            have h78 : ib z77 0 255 := by rw [ez77]; exact ia_at hg_this_text (ib_in 1600 h76 rfl)
            have Ez77 := lf_ld ez77 (lf_ra g_this_text) (lf_rf J5_c0_2)
            refine lv_bipush (v := 10) hx hb dX5_moveTo_25 rfl ?_
            refine lv_icmp_eq (tgt := 44) hx hb dX5_moveTo_27 rfl (fun c79 => ?_) (fun c79 => ?_)
            · replace hq := lf_pos hq (lf_eq Ez77 (lf_lc 10 (10 : Int) rfl) c79)
              have h80 := ib_eq h78 (ib_c 10 10 10 rfl) c79
              have h81 : ib z77 10 10 := ib_w 10 10 h80.1 rfl
              exact jn44  H locs ls (ib_w 1 1600 h75 rfl) (ib_w 0 1599 h76 rfl) (by exact hq) hP hD hS (lv_sub hl [0, 1] rfl)
            · replace hq := lf_neg hq (lf_ne Ez77 (lf_lc 10 (10 : Int) rfl) c79)
              refine lv_aload_n hx hb dX5_moveTo_30 rfl (lv_at hl 0 rfl) ?_
              refine k_get C0 fg_X5_33 hP 0 rfl rfl dX5_moveTo_31 ?_
              refine lv_aload_n hx hb dX5_moveTo_34 rfl (lv_at hl 0 rfl) ?_
              refine k_get C0 fg_X5_15 hP 0 rfl rfl dX5_moveTo_35 ?_
              refine va_iald hx hb C0.2.2.2.2.2.1 hP 1 0 rfl rfl (ib_in 1600 h76 rfl) dX5_moveTo_38 ?_
              refine lv_topi (fun z82 ez82 => ?_)
              have h83 : ib z82 0 255 := by rw [ez82]; exact ia_at hg_this_text (ib_in 1600 h76 rfl)
              have Ez82 := lf_ld ez82 (lf_ra g_this_text) (lf_rf J5_c0_2)
              refine lv_bipush (v := 32) hx hb dX5_moveTo_39 rfl ?_
              refine lv_icmp_ne (tgt := 57) hx hb dX5_moveTo_41 rfl (fun c84 => ?_) (fun c84 => ?_)
              · replace hq := lf_neg hq (lf_ne Ez82 (lf_lc 32 (32 : Int) rfl) c84)
                exact jn57 J5_c0_2 H locs ls (ib_w 0 1600 h76 rfl) (by exact hq) hP hD hS (lv_sub hl [0, 1] rfl)
              · replace hq := lf_pos hq (lf_eq Ez82 (lf_lc 32 (32 : Int) rfl) c84)
                have h85 := ib_eq h83 (ib_c 32 32 32 rfl) c84
                have h86 : ib z82 32 32 := ib_w 32 32 h85.1 rfl
                exact jn44  H locs ls (ib_w 1 1600 h75 rfl) (ib_w 0 1599 h76 rfl) (by exact hq) hP hD hS (lv_sub hl [0, 1] rfl)
  refine lv_aload_n hx hb dX5_moveTo_0 rfl (lv_at hl 0 rfl) ?_
  refine lv_iload_n hx hb dX5_moveTo_1 rfl (lv_at hl 1 rfl) ?_
  refine k_put C0 fp_X5_15 hP hD hS 0 rfl rfl rfl (Nat.le_of_ble_eq_true rfl) dX5_moveTo_2 (fun H locs hP hD hS => ?_)
  replace hP : va_P (dC, dI) vwCl [(wo_5_riiiiirii a_this a_this_text x_this_length p0 x_this_behind x_this_sort x_this_allowed a_this_plan x_this_fault x_this_place), (wi_0_1600_0 a_this_text cy g_this_text)] H := hP
  replace hD := k_D hP hD
  exact jn5 1602 p0 H locs ls (ib_w 0 1600 hp0 rfl) (by exact hq) (by have := hp0; unfold ib at this; omega) hP hD hS (lv_sub hl [0, 1] rfl)
set_option maxHeartbeats 4000000 in
set_option maxRecDepth 100000 in
theorem s_X5_begin (l : Launch) (dC : Nat → ClassId) (dI : Nat → Nat → Nat) (cy : Nat → ClassId) (sq : Nat → Nat) (a_this : Nat) (a_this_text : Nat) (g_this_text : Nat → Int32) (x_this_length : Int32) (x_this_at : Int32) (x_this_behind : Int32) (x_this_sort : Int32) (x_this_allowed : Int32) (a_this_plan : Nat) (x_this_fault : Int32) (x_this_place : Int32) (a_arg0 : Nat) (x_arg0_cycle : Int32) (x_arg0_green : Int32) (x_arg0_rule : Int32) (x_arg0_least : Int32) (x_arg0_away : Int32) (x_arg0_statements : Int32) (x_arg0_kinds : Int32) (a_arg0_calm : Nat) (a_arg0_pace : Nat) (a_arg0_trusts : Nat) (x_arg0_walkers : Int32) (a_arg0_kindOf : Nat) (a_arg0_comesAt : Nat) (a_arg0_comers : Nat) (g_arg0_comers : Nat → Int32) (a_arg0_names : Nat) (a_arg0_code : Nat) (x_arg0_size : Int32) (a_arg0_spans : Nat) (g_arg0_spans : Nat → Int32) (p1 : Int32) (hg_this_text : ia g_this_text 1600 0 255) (hp1 : ib p1 0 1600) : k_Met l yX5_begin cX5_begin 3 none { frames := 2, cells := 0, slots := 0, locals := 43 } dC dI cy sq [.ref a_this, .ref a_arg0, .int p1] [(wo_5_riiiiirii a_this a_this_text x_this_length x_this_at x_this_behind x_this_sort x_this_allowed a_this_plan x_this_fault x_this_place), (wo_4_iiiiiiirrrirrrrrir a_arg0 x_arg0_cycle x_arg0_green x_arg0_rule x_arg0_least x_arg0_away x_arg0_statements x_arg0_kinds a_arg0_calm a_arg0_pace a_arg0_trusts x_arg0_walkers a_arg0_kindOf a_arg0_comesAt a_arg0_comers a_arg0_names a_arg0_code x_arg0_size a_arg0_spans), (wi_0_200_0 a_arg0_comers cy g_arg0_comers), (wi_0_6_0 a_arg0_spans cy g_arg0_spans), (wi_0_1600_0 a_this_text cy g_this_text)] (k_Qv dC dI (fun (u : Int32 × Int32 × Int32 × Int32 × (Nat → Int32) × (Nat → Int32)) => match u with | (n0, n1, n2, n3, n4, n5) => ib n0 0 1600 ∧ ib n1 0 1600 ∧ ib n2 0 1600 ∧ ib n3 0 4 ∧ ia n5 6 0 1600 ∧ (¬ n3 = 0 → ib n1 0 1599) ∧ (F_X5_begin (lf_A g_this_text) (lf_A g_arg0_comers) (lf_A g_arg0_spans) (Int32.toInt p1) = ((Int32.toInt n0), (Int32.toInt n1), (Int32.toInt n2), (Int32.toInt n3), (lf_A n4), (lf_A n5)))) (fun u : Int32 × Int32 × Int32 × Int32 × (Nat → Int32) × (Nat → Int32) => match u with | (n0, n1, n2, n3, n4, n5) => [(wo_5_riiiiirii a_this a_this_text n0 n1 n2 n3 x_this_allowed a_arg0 0 (-1)), (wo_4_iiiiiiirrrirrrrrir a_arg0 0 x_arg0_green x_arg0_rule x_arg0_least 0 0 0 a_arg0_calm a_arg0_pace a_arg0_trusts 0 a_arg0_kindOf a_arg0_comesAt a_arg0_comers a_arg0_names a_arg0_code 0 a_arg0_spans), (wi_0_200_0 a_arg0_comers cy n4), (wi_0_6_0 a_arg0_spans cy n5), (wi_0_1600_0 a_this_text cy g_this_text)])) := by
  refine k_ofW2 (by decide +kernel) (Nat.le_of_ble_eq_true rfl) ?_
  intro p e s m below meth c A ls H locs args Q hQ C0 hZ hr hlk hin hP hD hA hS hl
  have C0 : k_cx p s m args c cX5_begin 3 RX5 dC dI cy sq := C0
  have hx := C0.1
  have hb := C0.2.1
  have hl : lv_has ls 3 [(0, .ref a_this), (1, .ref a_arg0), (2, .int p1)] := hl
  obtain ⟨O, hO⟩ : ∃ o, o = F_X5_begin (lf_A g_this_text) (lf_A g_arg0_comers) (lf_A g_arg0_spans) (Int32.toInt p1) := ⟨_, rfl⟩
  have hq := hO
  unfold F_X5_begin at hq
  refine lv_aload_n hx hb dX5_begin_0 rfl (lv_at hl 1 rfl) ?_
  refine k_jvm hP hD hS hA [1, 2, 3] [true, false, false, false, true] rfl rfl rfl 0 0 (Nat.le_of_ble_eq_true rfl) (Nat.le_of_ble_eq_true rfl) (fun hPc hDc => k_runV (As := []) (rest := []) C0 hZ hS hA (s_X4_clear l dC dI cy sq a_arg0 x_arg0_cycle x_arg0_green x_arg0_rule x_arg0_least x_arg0_away x_arg0_statements x_arg0_kinds a_arg0_calm a_arg0_pace a_arg0_trusts x_arg0_walkers a_arg0_kindOf a_arg0_comesAt a_arg0_comers g_arg0_comers a_arg0_names a_arg0_code x_arg0_size a_arg0_spans g_arg0_spans ) mV_X5_96 hPc hDc rfl rfl rfl hl rfl rfl (Nat.le_of_ble_eq_true rfl) ⟨(Nat.le_of_ble_eq_true rfl), (Nat.le_of_ble_eq_true rfl)⟩ ⟨(Nat.le_of_ble_eq_true rfl), (Nat.le_of_ble_eq_true rfl)⟩ dX5_begin_1) (fun u2 H locs hw hP hD hS => ?_)
  obtain ⟨f3, f4⟩ := u2
  try dsimp only at hP hD hw
  replace hP : va_P (dC, dI) vwCl [(wo_5_riiiiirii a_this a_this_text x_this_length x_this_at x_this_behind x_this_sort x_this_allowed a_this_plan x_this_fault x_this_place), (wi_0_1600_0 a_this_text cy g_this_text), (wo_4_iiiiiiirrrirrrrrir a_arg0 0 x_arg0_green x_arg0_rule x_arg0_least 0 0 0 a_arg0_calm a_arg0_pace a_arg0_trusts 0 a_arg0_kindOf a_arg0_comesAt a_arg0_comers a_arg0_names a_arg0_code 0 a_arg0_spans), (wi_0_200_0 a_arg0_comers cy f3), (wi_0_6_0 a_arg0_spans cy f4)] H := hP
  replace hD := k_D hP hD
  obtain ⟨h5, h6⟩ := hw
  replace hq := lf_p1 hq h6
  refine lv_aload_n hx hb dX5_begin_4 rfl (lv_at hl 0 rfl) ?_
  refine lv_aload_n hx hb dX5_begin_5 rfl (lv_at hl 1 rfl) ?_
  refine k_put C0 fp_X5_37 hP hD hS 0 rfl rfl rfl (Nat.le_of_ble_eq_true rfl) dX5_begin_6 (fun H locs hP hD hS => ?_)
  replace hP : va_P (dC, dI) vwCl [(wo_5_riiiiirii a_this a_this_text x_this_length x_this_at x_this_behind x_this_sort x_this_allowed a_arg0 x_this_fault x_this_place), (wi_0_1600_0 a_this_text cy g_this_text), (wo_4_iiiiiiirrrirrrrrir a_arg0 0 x_arg0_green x_arg0_rule x_arg0_least 0 0 0 a_arg0_calm a_arg0_pace a_arg0_trusts 0 a_arg0_kindOf a_arg0_comesAt a_arg0_comers a_arg0_names a_arg0_code 0 a_arg0_spans), (wi_0_200_0 a_arg0_comers cy f3), (wi_0_6_0 a_arg0_spans cy f4)] H := hP
  replace hD := k_D hP hD
  refine lv_aload_n hx hb dX5_begin_9 rfl (lv_at hl 0 rfl) ?_
  refine lv_iload_n hx hb dX5_begin_10 rfl (lv_at hl 2 rfl) ?_
  refine lv_aload_n hx hb dX5_begin_11 rfl (lv_at hl 0 rfl) ?_
  refine k_get C0 fg_X5_33 hP 0 rfl rfl dX5_begin_12 ?_
  refine va_alen hx hb C0.2.2.2.2.2.1 hP 1 0 rfl rfl (v := 1600) (show Int32.ofNat 1600 = 1600 by decide) dX5_begin_15 ?_
  refine va_mmin hx hb (by rw [C0.2.2.1]; exact hl.1.symm) C0.2.2.2.1 (C0.2.2.2.2.1 _ wd297) (C0.2.2.2.2.1 _ wd298) (C0.2.2.2.2.1 _ wd299) (C0.2.2.2.2.1 _ wd300) (Nat.le_of_ble_eq_true rfl) (Nat.le_of_ble_eq_true rfl) (Nat.le_of_ble_eq_true rfl) (Nat.le_of_ble_eq_true rfl) dX5_begin_16 ?_
  refine lv_topi (fun z7 ez7 => ?_)
  have h8 : ib z7 0 1600 := by rw [ez7]; exact ib_w 0 1600 (ib_min hp1 (ib_c 1600 1600 1600 rfl)) rfl
  have Ez7 := lf_min ez7 (lf_rf p1) (lf_lc 1600 (1600 : Int) rfl)
  refine k_put C0 fp_X5_11 hP hD hS 0 rfl rfl rfl (Nat.le_of_ble_eq_true rfl) dX5_begin_19 (fun H locs hP hD hS => ?_)
  replace hP : va_P (dC, dI) vwCl [(wo_5_riiiiirii a_this a_this_text z7 x_this_at x_this_behind x_this_sort x_this_allowed a_arg0 x_this_fault x_this_place), (wi_0_1600_0 a_this_text cy g_this_text), (wo_4_iiiiiiirrrirrrrrir a_arg0 0 x_arg0_green x_arg0_rule x_arg0_least 0 0 0 a_arg0_calm a_arg0_pace a_arg0_trusts 0 a_arg0_kindOf a_arg0_comesAt a_arg0_comers a_arg0_names a_arg0_code 0 a_arg0_spans), (wi_0_200_0 a_arg0_comers cy f3), (wi_0_6_0 a_arg0_spans cy f4)] H := hP
  replace hD := k_D hP hD
  refine lv_aload_n hx hb dX5_begin_22 rfl (lv_at hl 0 rfl) ?_
  refine lv_iconst (v := 0) hx hb dX5_begin_23 rfl ?_
  refine k_put C0 fp_X5_27 hP hD hS 0 rfl rfl rfl (Nat.le_of_ble_eq_true rfl) dX5_begin_24 (fun H locs hP hD hS => ?_)
  replace hP : va_P (dC, dI) vwCl [(wo_5_riiiiirii a_this a_this_text z7 x_this_at x_this_behind x_this_sort x_this_allowed a_arg0 0 x_this_place), (wi_0_1600_0 a_this_text cy g_this_text), (wo_4_iiiiiiirrrirrrrrir a_arg0 0 x_arg0_green x_arg0_rule x_arg0_least 0 0 0 a_arg0_calm a_arg0_pace a_arg0_trusts 0 a_arg0_kindOf a_arg0_comesAt a_arg0_comers a_arg0_names a_arg0_code 0 a_arg0_spans), (wi_0_200_0 a_arg0_comers cy f3), (wi_0_6_0 a_arg0_spans cy f4)] H := hP
  replace hD := k_D hP hD
  refine lv_aload_n hx hb dX5_begin_27 rfl (lv_at hl 0 rfl) ?_
  refine lv_iconst (v := (-1)) hx hb dX5_begin_28 rfl ?_
  refine k_put C0 fp_X5_30 hP hD hS 0 rfl rfl rfl (Nat.le_of_ble_eq_true rfl) dX5_begin_29 (fun H locs hP hD hS => ?_)
  replace hP : va_P (dC, dI) vwCl [(wo_5_riiiiirii a_this a_this_text z7 x_this_at x_this_behind x_this_sort x_this_allowed a_arg0 0 (-1)), (wi_0_1600_0 a_this_text cy g_this_text), (wo_4_iiiiiiirrrirrrrrir a_arg0 0 x_arg0_green x_arg0_rule x_arg0_least 0 0 0 a_arg0_calm a_arg0_pace a_arg0_trusts 0 a_arg0_kindOf a_arg0_comesAt a_arg0_comers a_arg0_names a_arg0_code 0 a_arg0_spans), (wi_0_200_0 a_arg0_comers cy f3), (wi_0_6_0 a_arg0_spans cy f4)] H := hP
  replace hD := k_D hP hD
  refine lv_aload_n hx hb dX5_begin_32 rfl (lv_at hl 0 rfl) ?_
  refine lv_iconst (v := 0) hx hb dX5_begin_33 rfl ?_
  refine k_jvm hP hD hS hA [0, 1] [false, false, true, true, true] rfl rfl rfl 0 0 (Nat.le_of_ble_eq_true rfl) (Nat.le_of_ble_eq_true rfl) (fun hPc hDc => k_runV (As := [.int 0]) (rest := []) C0 hZ hS hA (s_X5_moveTo l dC dI cy sq a_this a_this_text g_this_text z7 x_this_at x_this_behind x_this_sort x_this_allowed a_arg0 0 (-1) 0 hg_this_text (ib_w 0 1600 h8 rfl) (ib_w 0 1600 (ib_c 0 0 0 rfl) rfl)) mV_X5_86 hPc hDc rfl rfl rfl hl rfl rfl (Nat.le_of_ble_eq_true rfl) ⟨(Nat.le_of_ble_eq_true rfl), (Nat.le_of_ble_eq_true rfl)⟩ ⟨(Nat.le_of_ble_eq_true rfl), (Nat.le_of_ble_eq_true rfl)⟩ dX5_begin_34) (fun u10 H locs hw hP hD hS => ?_)
  obtain ⟨v11, v12, v13⟩ := u10
  try dsimp only at hP hD hw
  replace hP : va_P (dC, dI) vwCl [(wo_4_iiiiiiirrrirrrrrir a_arg0 0 x_arg0_green x_arg0_rule x_arg0_least 0 0 0 a_arg0_calm a_arg0_pace a_arg0_trusts 0 a_arg0_kindOf a_arg0_comesAt a_arg0_comers a_arg0_names a_arg0_code 0 a_arg0_spans), (wi_0_200_0 a_arg0_comers cy f3), (wi_0_6_0 a_arg0_spans cy f4), (wo_5_riiiiirii a_this a_this_text z7 v11 v12 v13 x_this_allowed a_arg0 0 (-1)), (wi_0_1600_0 a_this_text cy g_this_text)] H := hP
  replace hD := k_D hP hD
  obtain ⟨h14, h15, h16, h17, h18⟩ := hw
  have h18 := by have h9 := h18; rw [lf_u Ez7] at h9; try simp only [show (0 : Int32).toInt = (0 : Int) from rfl] at h9; exact h9
  replace hq := lf_p1 hq h18
  replace hq := lf_p1 hq rfl
  subst hQ; exact k_vret hx hb hr hlk ((z7, v11, v12, v13, f3, f4)) hS ⟨ib_w 0 1600 h8 rfl, ib_w 0 1600 h14 rfl, ib_w 0 1600 h15 rfl, ib_w 0 4 h16 rfl, h5, fun hq9 => ib_w 0 1599 (h17 hq9) rfl, (hO.symm.trans (by rw [lf_u Ez7]; exact hq))⟩ (hP.sub [3, 0, 1, 2, 4] rfl) (hD.sub [3, 0, 1, 2, 4] rfl rfl) (Nat.le_of_ble_eq_true rfl) (Nat.le_of_ble_eq_true rfl) dX5_begin_37
set_option maxHeartbeats 4000000 in
set_option maxRecDepth 100000 in
theorem s_X5_wordIn_s15 (l : Launch) (dC : Nat → ClassId) (dI : Nat → Nat → Nat) (cy : Nat → ClassId) (sq : Nat → Nat) (a_this : Nat) (a_this_text : Nat) (g_this_text : Nat → Int32) (x_this_length : Int32) (x_this_at : Int32) (x_this_behind : Int32) (x_this_sort : Int32) (x_this_allowed : Int32) (a_this_plan : Nat) (x_this_fault : Int32) (x_this_place : Int32) (hg_this_text : ia g_this_text 1600 0 255) (hx_this_at : ib x_this_at 0 1600) (hx_this_behind : ib x_this_behind 0 1600) (hx_this_sort : ib x_this_sort 0 4) (hc0_this : ¬ x_this_sort = 0 → ib x_this_at 0 1599) : k_Met l yX5_wordIn cX5_wordIn 6 (some .int) { frames := 4, cells := 0, slots := 0, locals := 141 } dC dI cy sq [.ref a_this, .ref (sq 15)] [(wo_5_riiiiirii a_this a_this_text x_this_length x_this_at x_this_behind x_this_sort x_this_allowed a_this_plan x_this_fault x_this_place), (wi_0_1600_0 a_this_text cy g_this_text)] (k_Qi dC dI (fun (r : Int32) (_ : Unit) => (F_X5_wordIn_s15 (lf_A g_this_text) (Int32.toInt x_this_at) (Int32.toInt x_this_behind) (Int32.toInt x_this_sort) = ((Int32.toInt r)))) (fun _ : Unit => [(wo_5_riiiiirii a_this a_this_text x_this_length x_this_at x_this_behind x_this_sort x_this_allowed a_this_plan x_this_fault x_this_place), (wi_0_1600_0 a_this_text cy g_this_text)])) := by
  refine k_ofW2 (by decide +kernel) (Nat.le_of_ble_eq_true rfl) ?_
  intro p e s m below meth c A ls H locs args Q hQ C0 hZ hr hlk hin hP hD hA hS hl
  have C0 : k_cx p s m args c cX5_wordIn 6 RX5 dC dI cy sq := C0
  have hx := C0.1
  have hb := C0.2.1
  have hl : lv_has ls 6 [(0, .ref a_this), (1, .ref (sq 15))] := hl
  obtain ⟨O, hO⟩ : ∃ o, o = F_X5_wordIn_s15 (lf_A g_this_text) (Int32.toInt x_this_at) (Int32.toInt x_this_behind) (Int32.toInt x_this_sort) := ⟨_, rfl⟩
  have hq := hO
  unfold F_X5_wordIn_s15 at hq
  have jn23 : ∀ (n : Nat) (J23_l2 : Int32) (J23_l3 : Int32) (J23_l4 : Int32) (J23_l5 : Int32) (H : Heap) (locs : List Loc) (ls : Array Slot), ib x_this_at 0 1599 → ib x_this_sort 1 1 → ib J23_l3 0 1603 → ib J23_l4 0 1 → ib J23_l5 0 4 → (1 * J23_l3.toInt + (-1) * J23_l5.toInt ≤ 1600) → (O = F_X5_wordIn_s15_23 (lf_A g_this_text) (Int32.toInt x_this_at) (Int32.toInt x_this_behind) n (Int32.toInt J23_l2) (Int32.toInt J23_l3) (Int32.toInt J23_l4) (Int32.toInt J23_l5)) → 5 ≤ J23_l5.toInt + (n : Int) → va_P (dC, dI) vwCl [(wo_5_riiiiirii a_this a_this_text x_this_length x_this_at x_this_behind x_this_sort x_this_allowed a_this_plan x_this_fault x_this_place), (wi_0_1600_0 a_this_text cy g_this_text)] H → va_D A [(wo_5_riiiiirii a_this a_this_text x_this_length x_this_at x_this_behind x_this_sort x_this_allowed a_this_plan x_this_fault x_this_place), (wi_0_1600_0 a_this_text cy g_this_text)] → va_S A s.heap H locs → lv_has ls 6 [(0, .ref a_this), (1, .ref (sq 15)), (2, .int J23_l2), (3, .int J23_l3), (4, .int J23_l4), (5, .int J23_l5)] → W p l e { frames := 4, cells := 0, slots := 0, locals := 141 } s m args below meth c H locs 0 0 Q (F0 m 23 ls []) := by
    as_aux_lemma =>
      intro n
      induction n with
      | zero =>
        intro J23_l2 J23_l3 J23_l4 J23_l5 H locs ls hK23_x_this_at hK23_x_this_sort hJ23_l3 hJ23_l4 hJ23_l5 hJ23_lin0 hq hm
        exact absurd hm (by have := hJ23_l5; unfold ib at this; omega)
      | succ n ih =>
        intro J23_l2 J23_l3 J23_l4 J23_l5 H locs ls hK23_x_this_at hK23_x_this_sort hJ23_l3 hJ23_l4 hJ23_l5 hJ23_lin0 hq hm23 hP hD hS hl
        have ih23 := ih
        obtain ⟨K23, hK23⟩ : ∃ K, K = F_X5_wordIn_s15_23 (lf_A g_this_text) (Int32.toInt x_this_at) (Int32.toInt x_this_behind) n := ⟨_, rfl⟩
        have hq : O = F_X5_wordIn_s15_23b (lf_A g_this_text) (Int32.toInt x_this_at) (Int32.toInt x_this_behind) K23 (Int32.toInt J23_l2) (Int32.toInt J23_l3) (Int32.toInt J23_l4) (Int32.toInt J23_l5) := by rw [hK23]; exact hq
        unfold F_X5_wordIn_s15_23b at hq
        have jn119 : ∀ (J119_l2 : Int32) (J119_l3 : Int32) (J119_l4 : Int32) (H : Heap) (locs : List Loc) (ls : Array Slot), ib x_this_at 0 1599 → ib J23_l5 0 3 → ib x_this_sort 1 1 → ib J119_l3 0 1603 → ib J119_l4 0 1 → (1 * J119_l3.toInt + (-1) * J23_l5.toInt ≤ 1601) → (O = F_X5_wordIn_s15_119 (Int32.toInt J23_l5) K23 (Int32.toInt J119_l2) (Int32.toInt J119_l3) (Int32.toInt J119_l4)) → va_P (dC, dI) vwCl [(wo_5_riiiiirii a_this a_this_text x_this_length x_this_at x_this_behind x_this_sort x_this_allowed a_this_plan x_this_fault x_this_place), (wi_0_1600_0 a_this_text cy g_this_text)] H → va_D A [(wo_5_riiiiirii a_this a_this_text x_this_length x_this_at x_this_behind x_this_sort x_this_allowed a_this_plan x_this_fault x_this_place), (wi_0_1600_0 a_this_text cy g_this_text)] → va_S A s.heap H locs → lv_has ls 6 [(0, .ref a_this), (1, .ref (sq 15)), (2, .int J119_l2), (3, .int J119_l3), (4, .int J119_l4), (5, .int J23_l5)] → W p l e { frames := 4, cells := 0, slots := 0, locals := 141 } s m args below meth c H locs 0 0 Q (F0 m 119 ls []) := by
          intro J119_l2 J119_l3 J119_l4 H locs ls hK119_x_this_at hK119_J23_l5 hK119_x_this_sort hJ119_l3 hJ119_l4 hJ119_lin0 hq hP hD hS hl
          unfold F_X5_wordIn_s15_119 at hq
          obtain ⟨z1, ez1⟩ : ∃ y : Int32, y = J23_l5 + 1 := ⟨_, rfl⟩
          refine lv_iinc (v := z1) (lv' := [(5, .int z1), (0, .ref a_this), (1, .ref (sq 15)), (2, .int J119_l2), (3, .int J119_l3), (4, .int J119_l4)]) hx hb dX5_wordIn_119 hl (k := 5) rfl (by rw [ez1]; rfl) (Nat.le_of_ble_eq_true rfl) rfl (fun ls hl => ?_)
          have h2 := ib_add hK119_J23_l5 (ib_c 1 1 1 rfl) rfl
          rw [← ez1] at h2
          have h3 : ib z1 1 4 := ib_w 1 4 h2.1 rfl
          have Ez1 := lf_add h2.2 (lf_rf J23_l5) (lf_lc 1 (1 : Int) rfl)
          refine lv_goto (tgt := 23) hx hb dX5_wordIn_122 rfl ?_
          exact ih23 J119_l2 J119_l3 J119_l4 z1 H locs ls (ib_w 0 1599 hK119_x_this_at rfl) (ib_w 1 1 hK119_x_this_sort rfl) (ib_w 0 1603 hJ119_l3 rfl) (ib_w 0 1 hJ119_l4 rfl) (ib_w 0 4 h3 rfl) (by have := h2.2; have : (1 : Int32).toInt = 1 := rfl; have := hJ119_lin0; omega) (by rw [← hK23]; rw [lf_u Ez1]; exact hq) (by have := h2.2; have : (1 : Int32).toInt = 1 := rfl; omega) hP hD hS (lv_sub hl [1, 2, 3, 4, 5, 0] rfl)
        have jn114 : ∀ (J114_s0 : Int32) (H : Heap) (locs : List Loc) (ls : Array Slot), ib J23_l3 0 1602 → ib J23_l4 0 1 → ib J23_l5 0 2 → ib x_this_at 0 1599 → ib x_this_sort 1 1 → ib J114_s0 0 1 → (1 * J23_l3.toInt + (-1) * J23_l5.toInt ≤ 1600) → (O = F_X5_wordIn_s15_114 (Int32.toInt J23_l2) (Int32.toInt J23_l3) (Int32.toInt J23_l5) K23 (Int32.toInt J114_s0)) → va_P (dC, dI) vwCl [(wo_5_riiiiirii a_this a_this_text x_this_length x_this_at x_this_behind x_this_sort x_this_allowed a_this_plan x_this_fault x_this_place), (wi_0_1600_0 a_this_text cy g_this_text)] H → va_D A [(wo_5_riiiiirii a_this a_this_text x_this_length x_this_at x_this_behind x_this_sort x_this_allowed a_this_plan x_this_fault x_this_place), (wi_0_1600_0 a_this_text cy g_this_text)] → va_S A s.heap H locs → lv_has ls 6 [(0, .ref a_this), (1, .ref (sq 15)), (2, .int J23_l2), (3, .int J23_l3), (4, .int J23_l4), (5, .int J23_l5)] → W p l e { frames := 4, cells := 0, slots := 0, locals := 141 } s m args below meth c H locs 0 0 Q (F0 m 114 ls [.int J114_s0]) := by
          intro J114_s0 H locs ls hK114_J23_l3 hK114_J23_l4 hK114_J23_l5 hK114_x_this_at hK114_x_this_sort hJ114_s0 hJ114_lin0 hq hP hD hS hl
          unfold F_X5_wordIn_s15_114 at hq
          refine lv_istore (lv' := [(4, .int J114_s0), (0, .ref a_this), (1, .ref (sq 15)), (2, .int J23_l2), (3, .int J23_l3), (5, .int J23_l5)]) hx hb dX5_wordIn_114 hl (Nat.le_of_ble_eq_true rfl) rfl (fun ls hl => ?_)
          obtain ⟨z4, ez4⟩ : ∃ y : Int32, y = J23_l3 + 1 := ⟨_, rfl⟩
          refine lv_iinc (v := z4) (lv' := [(3, .int z4), (4, .int J114_s0), (0, .ref a_this), (1, .ref (sq 15)), (2, .int J23_l2), (5, .int J23_l5)]) hx hb dX5_wordIn_116 hl (k := 4) rfl (by rw [ez4]; rfl) (Nat.le_of_ble_eq_true rfl) rfl (fun ls hl => ?_)
          have h5 := ib_add hK114_J23_l3 (ib_c 1 1 1 rfl) rfl
          rw [← ez4] at h5
          have h6 : ib z4 1 1603 := ib_w 1 1603 h5.1 rfl
          have Ez4 := lf_add h5.2 (lf_rf J23_l3) (lf_lc 1 (1 : Int) rfl)
          exact jn119 J23_l2 z4 J114_s0 H locs ls (ib_w 0 1599 hK114_x_this_at rfl) (ib_w 0 3 hK114_J23_l5 rfl) (ib_w 1 1 hK114_x_this_sort rfl) (ib_w 0 1603 h6 rfl) (ib_w 0 1 hJ114_s0 rfl) (by have := (hK114_J23_l5).1; have := hJ23_lin0; have := (h6).2; have := h5.2; have : (1 : Int32).toInt = 1 := rfl; omega) (by rw [lf_u Ez4]; exact hq) hP hD hS (lv_sub hl [2, 3, 4, 0, 1, 5] rfl)
        have jn113 : ∀  (H : Heap) (locs : List Loc) (ls : Array Slot), ib J23_l3 0 1602 → ib J23_l4 0 1 → ib J23_l5 0 2 → ib x_this_at 0 1599 → ib x_this_sort 1 1 → (1 * J23_l3.toInt + (-1) * J23_l5.toInt ≤ 1600) → (O = F_X5_wordIn_s15_113 (Int32.toInt J23_l2) (Int32.toInt J23_l3) (Int32.toInt J23_l5) K23 ) → va_P (dC, dI) vwCl [(wo_5_riiiiirii a_this a_this_text x_this_length x_this_at x_this_behind x_this_sort x_this_allowed a_this_plan x_this_fault x_this_place), (wi_0_1600_0 a_this_text cy g_this_text)] H → va_D A [(wo_5_riiiiirii a_this a_this_text x_this_length x_this_at x_this_behind x_this_sort x_this_allowed a_this_plan x_this_fault x_this_place), (wi_0_1600_0 a_this_text cy g_this_text)] → va_S A s.heap H locs → lv_has ls 6 [(0, .ref a_this), (1, .ref (sq 15)), (2, .int J23_l2), (3, .int J23_l3), (4, .int J23_l4), (5, .int J23_l5)] → W p l e { frames := 4, cells := 0, slots := 0, locals := 141 } s m args below meth c H locs 0 0 Q (F0 m 113 ls []) := by
          intro H locs ls hK113_J23_l3 hK113_J23_l4 hK113_J23_l5 hK113_x_this_at hK113_x_this_sort hJ113_lin0 hq hP hD hS hl
          unfold F_X5_wordIn_s15_113 at hq
          refine lv_iconst (v := 0) hx hb dX5_wordIn_113 rfl ?_
          exact jn114 0 H locs ls (ib_w 0 1602 hK113_J23_l3 rfl) (ib_w 0 1 hK113_J23_l4 rfl) (ib_w 0 2 hK113_J23_l5 rfl) (ib_w 0 1599 hK113_x_this_at rfl) (ib_w 1 1 hK113_x_this_sort rfl) (ib_w 0 1 (ib_c 0 0 0 rfl) rfl) (by have := hJ23_lin0; omega) (by try simp only [show (0 : Int32).toInt = (0 : Int) from rfl]; exact hq) hP hD hS (lv_sub hl [0, 1, 2, 3, 4, 5] rfl)
        have jn67 : ∀  (H : Heap) (locs : List Loc) (ls : Array Slot), ib J23_l3 0 1603 → ib J23_l4 0 1 → ib J23_l5 0 3 → ib x_this_at 0 1599 → ib x_this_sort 1 1 → (O = F_X5_wordIn_s15_67 (Int32.toInt x_this_at) (Int32.toInt J23_l2) (Int32.toInt J23_l5) K23 ) → va_P (dC, dI) vwCl [(wo_5_riiiiirii a_this a_this_text x_this_length x_this_at x_this_behind x_this_sort x_this_allowed a_this_plan x_this_fault x_this_place), (wi_0_1600_0 a_this_text cy g_this_text)] H → va_D A [(wo_5_riiiiirii a_this a_this_text x_this_length x_this_at x_this_behind x_this_sort x_this_allowed a_this_plan x_this_fault x_this_place), (wi_0_1600_0 a_this_text cy g_this_text)] → va_S A s.heap H locs → lv_has ls 6 [(0, .ref a_this), (1, .ref (sq 15)), (2, .int J23_l2), (3, .int J23_l3), (4, .int J23_l4), (5, .int J23_l5)] → W p l e { frames := 4, cells := 0, slots := 0, locals := 141 } s m args below meth c H locs 0 0 Q (F0 m 67 ls []) := by
          intro H locs ls hK67_J23_l3 hK67_J23_l4 hK67_J23_l5 hK67_x_this_at hK67_x_this_sort hq hP hD hS hl
          unfold F_X5_wordIn_s15_67 at hq
          obtain ⟨z7, ez7⟩ : ∃ y : Int32, y = J23_l2 + 1 := ⟨_, rfl⟩
          refine lv_iinc (v := z7) (lv' := [(2, .int z7), (0, .ref a_this), (1, .ref (sq 15)), (3, .int J23_l3), (4, .int J23_l4), (5, .int J23_l5)]) hx hb dX5_wordIn_67 hl (k := 2) rfl (by rw [ez7]; rfl) (Nat.le_of_ble_eq_true rfl) rfl (fun ls hl => ?_)
          have Ez7 := lf_op lf_iadd ez7 (lf_rf J23_l2) (lf_lc 1 (1 : Int) rfl)
          refine lv_aload_n hx hb dX5_wordIn_70 rfl (lv_at hl 1 rfl) ?_
          refine k_get C0 fg_X5_15 hP 0 rfl rfl dX5_wordIn_71 ?_
          refine lv_istore_n (lv' := [(3, .int x_this_at), (2, .int z7), (0, .ref a_this), (1, .ref (sq 15)), (4, .int J23_l4), (5, .int J23_l5)]) hx hb dX5_wordIn_74 rfl hl (Nat.le_of_ble_eq_true rfl) rfl (fun ls hl => ?_)
          refine lv_iconst (v := 1) hx hb dX5_wordIn_75 rfl ?_
          refine lv_istore (lv' := [(4, .int 1), (3, .int x_this_at), (2, .int z7), (0, .ref a_this), (1, .ref (sq 15)), (5, .int J23_l5)]) hx hb dX5_wordIn_76 hl (Nat.le_of_ble_eq_true rfl) rfl (fun ls hl => ?_)
          refine lv_goto (tgt := 119) hx hb dX5_wordIn_78 rfl ?_
          exact jn119 z7 x_this_at 1 H locs ls (ib_w 0 1599 hK67_x_this_at rfl) (ib_w 0 3 hK67_J23_l5 rfl) (ib_w 1 1 hK67_x_this_sort rfl) (ib_w 0 1603 hK67_x_this_at rfl) (ib_w 0 1 (ib_c 1 1 1 rfl) rfl) (by have := (hK67_J23_l5).1; have := (hK67_x_this_at).2; omega) (by rw [lf_u Ez7]; try simp only [show (1 : Int32).toInt = (1 : Int) from rfl]; exact hq) hP hD hS (lv_sub hl [3, 4, 2, 1, 0, 5] rfl)
        have jn52 : ∀  (H : Heap) (locs : List Loc) (ls : Array Slot), ib J23_l3 0 1603 → ib J23_l4 0 1 → ib J23_l5 0 3 → ib x_this_at 0 1599 → ib x_this_sort 1 1 → (O = F_X5_wordIn_s15_52 (Int32.toInt x_this_at) (Int32.toInt x_this_behind) (Int32.toInt J23_l2) (Int32.toInt J23_l3) (Int32.toInt J23_l4) (Int32.toInt J23_l5) K23 ) → va_P (dC, dI) vwCl [(wo_5_riiiiirii a_this a_this_text x_this_length x_this_at x_this_behind x_this_sort x_this_allowed a_this_plan x_this_fault x_this_place), (wi_0_1600_0 a_this_text cy g_this_text)] H → va_D A [(wo_5_riiiiirii a_this a_this_text x_this_length x_this_at x_this_behind x_this_sort x_this_allowed a_this_plan x_this_fault x_this_place), (wi_0_1600_0 a_this_text cy g_this_text)] → va_S A s.heap H locs → lv_has ls 6 [(0, .ref a_this), (1, .ref (sq 15)), (2, .int J23_l2), (3, .int J23_l3), (4, .int J23_l4), (5, .int J23_l5)] → W p l e { frames := 4, cells := 0, slots := 0, locals := 141 } s m args below meth c H locs 0 0 Q (F0 m 52 ls []) := by
          as_aux_lemma =>
            intro H locs ls hK52_J23_l3 hK52_J23_l4 hK52_J23_l5 hK52_x_this_at hK52_x_this_sort hq hP hD hS hl
            unfold F_X5_wordIn_s15_52 at hq
            refine lv_iload hx hb dX5_wordIn_52 (lv_at hl 4 rfl) ?_
            refine lv_if_eq (tgt := 67) hx hb dX5_wordIn_54 rfl (fun c8 => ?_) (fun c8 => ?_)
            · replace hq := lf_pos hq (lf_eq (lf_rf J23_l4) (lf_lc 0 (0 : Int) rfl) c8)
              have h9 := ib_eq hK52_J23_l4 (ib_c 0 0 0 rfl) c8
              have h10 : ib J23_l4 0 0 := ib_w 0 0 h9.1 rfl
              exact jn67  H locs ls (ib_w 0 1603 hK52_J23_l3 rfl) (ib_w 0 1 h10 rfl) (ib_w 0 3 hK52_J23_l5 rfl) (ib_w 0 1599 hK52_x_this_at rfl) (ib_w 1 1 hK52_x_this_sort rfl) (by exact hq) hP hD hS (lv_sub hl [0, 1, 2, 3, 4, 5] rfl)
            · replace hq := lf_neg hq (lf_ne (lf_rf J23_l4) (lf_lc 0 (0 : Int) rfl) c8)
              have h11 : ib J23_l4 1 1 := ib_w 1 1 (ib_ne_lo 0 hK52_J23_l4 rfl c8) rfl
              refine lv_iload_n hx hb dX5_wordIn_57 rfl (lv_at hl 3 rfl) ?_
              refine lv_aload_n hx hb dX5_wordIn_58 rfl (lv_at hl 0 rfl) ?_
              refine k_get C0 fg_X5_18 hP 0 rfl rfl dX5_wordIn_59 ?_
              refine lv_icmp_ne (tgt := 67) hx hb dX5_wordIn_62 rfl (fun c12 => ?_) (fun c12 => ?_)
              · replace hq := lf_neg hq (lf_ne (lf_rf J23_l3) (lf_rf x_this_behind) c12)
                exact jn67  H locs ls (ib_w 0 1603 hK52_J23_l3 rfl) (ib_w 0 1 h11 rfl) (ib_w 0 3 hK52_J23_l5 rfl) (ib_w 0 1599 hK52_x_this_at rfl) (ib_w 1 1 hK52_x_this_sort rfl) (by exact hq) hP hD hS (lv_sub hl [0, 1, 2, 3, 4, 5] rfl)
              · replace hq := lf_pos hq (lf_eq (lf_rf J23_l3) (lf_rf x_this_behind) c12)
                have h13 := ib_eq hK52_J23_l3 hx_this_behind c12
                have h14 : ib J23_l3 0 1600 := ib_w 0 1600 h13.1 rfl
                refine lv_iload_n hx hb dX5_wordIn_65 rfl (lv_at hl 2 rfl) ?_
                subst hQ; exact k_iret hx hb hr hlk rfl () hS ((hO.symm.trans (by exact hq))) hP hD (Nat.le_of_ble_eq_true rfl) (Nat.le_of_ble_eq_true rfl) dX5_wordIn_66
        refine lv_iload hx hb dX5_wordIn_23 (lv_at hl 5 rfl) ?_
        refine lv_aload_n hx hb dX5_wordIn_25 rfl (lv_at hl 1 rfl) ?_
        refine k_jim hP hD hS hA [] [true, true] rfl rfl rfl 0 0 (Nat.le_of_ble_eq_true rfl) (Nat.le_of_ble_eq_true rfl) (fun hPc hDc => k_runVO (As := []) (rest := [.int J23_l5]) C0 hZ hS hA (c_length l dC dI cy sq 15 (by decide)) mV_X5_244 hPc hDc (vk_recv hZ.1 (by decide) hS) hl rfl rfl (Nat.le_of_ble_eq_true rfl) ⟨(Nat.le_of_ble_eq_true rfl), (Nat.le_of_ble_eq_true rfl)⟩ ⟨(Nat.le_of_ble_eq_true rfl), (Nat.le_of_ble_eq_true rfl)⟩ dX5_wordIn_26) (fun r15 u16 H locs hw hP hD hS => ?_)
        replace hP : va_P (dC, dI) vwCl [(wo_5_riiiiirii a_this a_this_text x_this_length x_this_at x_this_behind x_this_sort x_this_allowed a_this_plan x_this_fault x_this_place), (wi_0_1600_0 a_this_text cy g_this_text)] H := hP
        replace hD := k_D hP hD
        obtain rfl : r15 = 3 := hw.trans (by decide)
        refine lv_icmp_gt (tgt := 125) hx hb dX5_wordIn_29 rfl (fun c17 => ?_) (fun c17 => ?_)
        · replace hq := lf_pos hq (lf_lt (lf_lc 3 (3 : Int) rfl) (lf_rf J23_l5) c17)
          have h18 := ib_lt (ib_c 3 3 3 rfl) hJ23_l5 c17
          have h19 : ib J23_l5 4 4 := ib_w 4 4 h18.2 rfl
          refine lv_iconst (v := (-1)) hx hb dX5_wordIn_125 rfl ?_
          subst hQ; exact k_iret hx hb hr hlk rfl () hS ((hO.symm.trans (by try simp only [show ((-1) : Int32).toInt = (-1 : Int) from rfl]; exact hq))) hP hD (Nat.le_of_ble_eq_true rfl) (Nat.le_of_ble_eq_true rfl) dX5_wordIn_126
        · as_aux_lemma =>
            replace hq := lf_neg hq (lf_nlt (lf_lc 3 (3 : Int) rfl) (lf_rf J23_l5) c17)
            have h20 := ib_nlt (ib_c 3 3 3 rfl) hJ23_l5 c17
            have h21 : ib J23_l5 0 3 := ib_w 0 3 h20.2 rfl
            refine lv_iload hx hb dX5_wordIn_32 (lv_at hl 5 rfl) ?_
            refine lv_aload_n hx hb dX5_wordIn_34 rfl (lv_at hl 1 rfl) ?_
            refine k_jim hP hD hS hA [] [true, true] rfl rfl rfl 0 0 (Nat.le_of_ble_eq_true rfl) (Nat.le_of_ble_eq_true rfl) (fun hPc hDc => k_runVO (As := []) (rest := [.int J23_l5]) C0 hZ hS hA (c_length l dC dI cy sq 15 (by decide)) mV_X5_244 hPc hDc (vk_recv hZ.1 (by decide) hS) hl rfl rfl (Nat.le_of_ble_eq_true rfl) ⟨(Nat.le_of_ble_eq_true rfl), (Nat.le_of_ble_eq_true rfl)⟩ ⟨(Nat.le_of_ble_eq_true rfl), (Nat.le_of_ble_eq_true rfl)⟩ dX5_wordIn_35) (fun r22 u23 H locs hw hP hD hS => ?_)
            replace hP : va_P (dC, dI) vwCl [(wo_5_riiiiirii a_this a_this_text x_this_length x_this_at x_this_behind x_this_sort x_this_allowed a_this_plan x_this_fault x_this_place), (wi_0_1600_0 a_this_text cy g_this_text)] H := hP
            replace hD := k_D hP hD
            obtain rfl : r22 = 3 := hw.trans (by decide)
            refine lv_icmp_eq (tgt := 52) hx hb dX5_wordIn_38 rfl (fun c24 => ?_) (fun c24 => ?_)
            · replace hq := lf_pos hq (lf_eq (lf_rf J23_l5) (lf_lc 3 (3 : Int) rfl) c24)
              have h25 := ib_eq h21 (ib_c 3 3 3 rfl) c24
              have h26 : ib J23_l5 3 3 := ib_w 3 3 h25.1 rfl
              exact jn52  H locs ls (ib_w 0 1603 hJ23_l3 rfl) (ib_w 0 1 hJ23_l4 rfl) (ib_w 0 3 h26 rfl) (ib_w 0 1599 hK23_x_this_at rfl) (ib_w 1 1 hK23_x_this_sort rfl) (by exact hq) hP hD hS (lv_sub hl [0, 1, 2, 3, 4, 5] rfl)
            · as_aux_lemma =>
                replace hq := lf_neg hq (lf_ne (lf_rf J23_l5) (lf_lc 3 (3 : Int) rfl) c24)
                have h27 : ib J23_l5 0 2 := ib_w 0 2 (ib_ne_hi 3 h21 rfl c24) rfl
                refine lv_aload_n hx hb dX5_wordIn_41 rfl (lv_at hl 1 rfl) ?_
                refine lv_iload hx hb dX5_wordIn_42 (lv_at hl 5 rfl) ?_
                refine k_jim hP hD hS hA [] [true, true] rfl rfl rfl 0 0 (Nat.le_of_ble_eq_true rfl) (Nat.le_of_ble_eq_true rfl) (fun hPc hDc => k_runVO (As := [.int J23_l5]) (rest := []) C0 hZ hS hA (cx_charAt l dC dI cy sq 15 (by decide) J23_l5 (ib_ch 15 3 h27 rfl rfl).1 (ib_ch 15 3 h27 rfl rfl).2.1 (ib_ch 15 3 h27 rfl rfl).2.2) mV_X5_248 hPc hDc (vk_recv hZ.1 (by decide) hS) hl rfl rfl (Nat.le_of_ble_eq_true rfl) ⟨(Nat.le_of_ble_eq_true rfl), (Nat.le_of_ble_eq_true rfl)⟩ ⟨(Nat.le_of_ble_eq_true rfl), (Nat.le_of_ble_eq_true rfl)⟩ dX5_wordIn_44) (fun r28 u29 H locs hw hP hD hS => ?_)
                replace hP : va_P (dC, dI) vwCl [(wo_5_riiiiirii a_this a_this_text x_this_length x_this_at x_this_behind x_this_sort x_this_allowed a_this_plan x_this_fault x_this_place), (wi_0_1600_0 a_this_text cy g_this_text)] H := hP
                replace hD := k_D hP hD
                have Er28 := lf_cha (j := 15) hw (lf_rf J23_l5)
                refine lv_bipush (v := 32) hx hb dX5_wordIn_47 rfl ?_
                refine lv_icmp_ne (tgt := 81) hx hb dX5_wordIn_49 rfl (fun c30 => ?_) (fun c30 => ?_)
                · as_aux_lemma =>
                    replace hq := lf_neg hq (lf_ne Er28 (lf_lc 32 (32 : Int) rfl) c30)
                    refine lv_iload hx hb dX5_wordIn_81 (lv_at hl 4 rfl) ?_
                    refine lv_if_eq (tgt := 113) hx hb dX5_wordIn_83 rfl (fun c31 => ?_) (fun c31 => ?_)
                    · replace hq := lf_pos hq (lf_eq (lf_rf J23_l4) (lf_lc 0 (0 : Int) rfl) c31)
                      have h32 := ib_eq hJ23_l4 (ib_c 0 0 0 rfl) c31
                      have h33 : ib J23_l4 0 0 := ib_w 0 0 h32.1 rfl
                      have h34 : ib J23_l3 0 1602 := ⟨(hJ23_l3).1, by have := (hJ23_l3).2; have := hJ23_lin0; have := (h27).2; omega⟩
                      exact jn113  H locs ls (ib_w 0 1602 h34 rfl) (ib_w 0 1 h33 rfl) (ib_w 0 2 h27 rfl) (ib_w 0 1599 hK23_x_this_at rfl) (ib_w 1 1 hK23_x_this_sort rfl) (by have := hJ23_lin0; omega) (by exact hq) hP hD hS (lv_sub hl [0, 1, 2, 3, 4, 5] rfl)
                    · as_aux_lemma =>
                        replace hq := lf_neg hq (lf_ne (lf_rf J23_l4) (lf_lc 0 (0 : Int) rfl) c31)
                        have h35 : ib J23_l4 1 1 := ib_w 1 1 (ib_ne_lo 0 hJ23_l4 rfl c31) rfl
                        refine lv_iload_n hx hb dX5_wordIn_86 rfl (lv_at hl 3 rfl) ?_
                        refine lv_aload_n hx hb dX5_wordIn_87 rfl (lv_at hl 0 rfl) ?_
                        refine k_get C0 fg_X5_18 hP 0 rfl rfl dX5_wordIn_88 ?_
                        refine lv_icmp_ge (tgt := 113) hx hb dX5_wordIn_91 rfl (fun c36 => ?_) (fun c36 => ?_)
                        · replace hq := lf_pos hq (lf_le (lf_rf x_this_behind) (lf_rf J23_l3) c36)
                          have h37 := ib_le hx_this_behind hJ23_l3 c36
                          have h38 : ib J23_l3 0 1602 := ⟨(hJ23_l3).1, by have := (hJ23_l3).2; have := hJ23_lin0; have := (h27).2; omega⟩
                          exact jn113  H locs ls (ib_w 0 1602 h38 rfl) (ib_w 0 1 h35 rfl) (ib_w 0 2 h27 rfl) (ib_w 0 1599 hK23_x_this_at rfl) (ib_w 1 1 hK23_x_this_sort rfl) (by have := hJ23_lin0; omega) (by exact hq) hP hD hS (lv_sub hl [0, 1, 2, 3, 4, 5] rfl)
                        · as_aux_lemma =>
                            replace hq := lf_neg hq (lf_nle (lf_rf x_this_behind) (lf_rf J23_l3) c36)
                            have h39 := ib_nle hx_this_behind hJ23_l3 c36
                            have h40 : ib x_this_behind 1 1600 := ib_w 1 1600 h39.1 rfl
                            have h41 : ib J23_l3 0 1599 := ib_w 0 1599 h39.2 rfl
                            refine lv_aload_n hx hb dX5_wordIn_94 rfl (lv_at hl 0 rfl) ?_
                            refine k_get C0 fg_X5_33 hP 0 rfl rfl dX5_wordIn_95 ?_
                            refine lv_iload_n hx hb dX5_wordIn_98 rfl (lv_at hl 3 rfl) ?_
                            refine va_iald hx hb C0.2.2.2.2.2.1 hP 1 0 rfl rfl (ib_in 1600 h41 rfl) dX5_wordIn_99 ?_
                            refine lv_topi (fun z42 ez42 => ?_)
                            have h43 : ib z42 0 255 := by rw [ez42]; exact ia_at hg_this_text (ib_in 1600 h41 rfl)
                            have Ez42 := lf_ld ez42 (lf_ra g_this_text) (lf_rf J23_l3)
                            refine lv_aload_n hx hb dX5_wordIn_100 rfl (lv_at hl 1 rfl) ?_
                            refine lv_iload hx hb dX5_wordIn_101 (lv_at hl 5 rfl) ?_
                            refine k_jim hP hD hS hA [] [true, true] rfl rfl rfl 0 0 (Nat.le_of_ble_eq_true rfl) (Nat.le_of_ble_eq_true rfl) (fun hPc hDc => k_runVO (As := [.int J23_l5]) (rest := [.int z42]) C0 hZ hS hA (cx_charAt l dC dI cy sq 15 (by decide) J23_l5 (ib_ch 15 3 h27 rfl rfl).1 (ib_ch 15 3 h27 rfl rfl).2.1 (ib_ch 15 3 h27 rfl rfl).2.2) mV_X5_248 hPc hDc (vk_recv hZ.1 (by decide) hS) hl rfl rfl (Nat.le_of_ble_eq_true rfl) ⟨(Nat.le_of_ble_eq_true rfl), (Nat.le_of_ble_eq_true rfl)⟩ ⟨(Nat.le_of_ble_eq_true rfl), (Nat.le_of_ble_eq_true rfl)⟩ dX5_wordIn_103) (fun r44 u45 H locs hw hP hD hS => ?_)
                            replace hP : va_P (dC, dI) vwCl [(wo_5_riiiiirii a_this a_this_text x_this_length x_this_at x_this_behind x_this_sort x_this_allowed a_this_plan x_this_fault x_this_place), (wi_0_1600_0 a_this_text cy g_this_text)] H := hP
                            replace hD := k_D hP hD
                            have Er44 := lf_cha (j := 15) hw (lf_rf J23_l5)
                            refine lv_icmp_ne (tgt := 113) hx hb dX5_wordIn_106 rfl (fun c46 => ?_) (fun c46 => ?_)
                            · replace hq := lf_neg hq (lf_ne Ez42 Er44 c46)
                              exact jn113  H locs ls (ib_w 0 1602 h41 rfl) (ib_w 0 1 h35 rfl) (ib_w 0 2 h27 rfl) (ib_w 0 1599 hK23_x_this_at rfl) (ib_w 1 1 hK23_x_this_sort rfl) (by have := hJ23_lin0; omega) (by exact hq) hP hD hS (lv_sub hl [0, 1, 2, 3, 4, 5] rfl)
                            · replace hq := lf_pos hq (lf_eq Ez42 Er44 c46)
                              have h47 := ib_eq h43 (ib_any r44) c46
                              have h48 : ib r44 0 255 := ib_w 0 255 h47.2 rfl
                              refine lv_iconst (v := 1) hx hb dX5_wordIn_109 rfl ?_
                              refine lv_goto (tgt := 114) hx hb dX5_wordIn_110 rfl ?_
                              exact jn114 1 H locs ls (ib_w 0 1602 h41 rfl) (ib_w 0 1 h35 rfl) (ib_w 0 2 h27 rfl) (ib_w 0 1599 hK23_x_this_at rfl) (ib_w 1 1 hK23_x_this_sort rfl) (ib_w 0 1 (ib_c 1 1 1 rfl) rfl) (by have := hJ23_lin0; omega) (by try simp only [show (1 : Int32).toInt = (1 : Int) from rfl]; exact hq) hP hD hS (lv_sub hl [0, 1, 2, 3, 4, 5] rfl)
                · replace hq := lf_pos hq (lf_eq Er28 (lf_lc 32 (32 : Int) rfl) c30)
                  have h49 := ib_eq (ib_any r28) (ib_c 32 32 32 rfl) c30
                  have h50 : ib r28 32 32 := ib_w 32 32 h49.1 rfl
                  have h51 : ib J23_l3 0 1602 := ⟨(hJ23_l3).1, by have := (hJ23_l3).2; have := hJ23_lin0; have := (h27).2; omega⟩
                  exact jn52  H locs ls (ib_w 0 1603 h51 rfl) (ib_w 0 1 hJ23_l4 rfl) (ib_w 0 3 h27 rfl) (ib_w 0 1599 hK23_x_this_at rfl) (ib_w 1 1 hK23_x_this_sort rfl) (by exact hq) hP hD hS (lv_sub hl [0, 1, 2, 3, 4, 5] rfl)
  refine lv_aload_n hx hb dX5_wordIn_0 rfl (lv_at hl 0 rfl) ?_
  refine k_get C0 fg_X5_21 hP 0 rfl rfl dX5_wordIn_1 ?_
  refine lv_iconst (v := 1) hx hb dX5_wordIn_4 rfl ?_
  refine lv_icmp_eq (tgt := 10) hx hb dX5_wordIn_5 rfl (fun c52 => ?_) (fun c52 => ?_)
  · replace hq := lf_pos hq (lf_eq (lf_rf x_this_sort) (lf_lc 1 (1 : Int) rfl) c52)
    have h53 := ib_eq hx_this_sort (ib_c 1 1 1 rfl) c52
    have h54 : ib x_this_sort 1 1 := ib_w 1 1 h53.1 rfl
    have h55 : ib x_this_at 0 1599 := ib_w 0 1599 (ib_two hx_this_at (hc0_this (ib_nz h54 rfl))) rfl
    refine lv_iconst (v := 0) hx hb dX5_wordIn_10 rfl ?_
    refine lv_istore_n (lv' := [(2, .int 0), (0, .ref a_this), (1, .ref (sq 15))]) hx hb dX5_wordIn_11 rfl hl (Nat.le_of_ble_eq_true rfl) rfl (fun ls hl => ?_)
    refine lv_aload_n hx hb dX5_wordIn_12 rfl (lv_at hl 1 rfl) ?_
    refine k_get C0 fg_X5_15 hP 0 rfl rfl dX5_wordIn_13 ?_
    refine lv_istore_n (lv' := [(3, .int x_this_at), (2, .int 0), (0, .ref a_this), (1, .ref (sq 15))]) hx hb dX5_wordIn_16 rfl hl (Nat.le_of_ble_eq_true rfl) rfl (fun ls hl => ?_)
    refine lv_iconst (v := 1) hx hb dX5_wordIn_17 rfl ?_
    refine lv_istore (lv' := [(4, .int 1), (3, .int x_this_at), (2, .int 0), (0, .ref a_this), (1, .ref (sq 15))]) hx hb dX5_wordIn_18 hl (Nat.le_of_ble_eq_true rfl) rfl (fun ls hl => ?_)
    refine lv_iconst (v := 0) hx hb dX5_wordIn_20 rfl ?_
    refine lv_istore (lv' := [(5, .int 0), (4, .int 1), (3, .int x_this_at), (2, .int 0), (0, .ref a_this), (1, .ref (sq 15))]) hx hb dX5_wordIn_21 hl (Nat.le_of_ble_eq_true rfl) rfl (fun ls hl => ?_)
    exact jn23 6 0 x_this_at 1 0 H locs ls (ib_w 0 1599 h55 rfl) (ib_w 1 1 h54 rfl) (ib_w 0 1603 h55 rfl) (ib_w 0 1 (ib_c 1 1 1 rfl) rfl) (ib_w 0 4 (ib_c 0 0 0 rfl) rfl) (by have : (0 : Int32).toInt = 0 := rfl; have := (h55).2; omega) (by try simp only [show (0 : Int32).toInt = (0 : Int) from rfl]; try simp only [show (1 : Int32).toInt = (1 : Int) from rfl]; exact hq) (by have := (ib_c 0 0 0 rfl); unfold ib at this; omega) hP hD hS (lv_sub hl [4, 5, 3, 2, 1, 0] rfl)
  · replace hq := lf_neg hq (lf_ne (lf_rf x_this_sort) (lf_lc 1 (1 : Int) rfl) c52)
    refine lv_iconst (v := (-1)) hx hb dX5_wordIn_8 rfl ?_
    subst hQ; exact k_iret hx hb hr hlk rfl () hS ((hO.symm.trans (by try simp only [show ((-1) : Int32).toInt = (-1 : Int) from rfl]; exact hq))) hP hD (Nat.le_of_ble_eq_true rfl) (Nat.le_of_ble_eq_true rfl) dX5_wordIn_9
set_option maxHeartbeats 4000000 in
set_option maxRecDepth 100000 in
theorem s_X5_sees (l : Launch) (dC : Nat → ClassId) (dI : Nat → Nat → Nat) (cy : Nat → ClassId) (sq : Nat → Nat) (a_this : Nat) (a_this_text : Nat) (g_this_text : Nat → Int32) (x_this_length : Int32) (x_this_at : Int32) (x_this_behind : Int32) (x_this_sort : Int32) (x_this_allowed : Int32) (a_this_plan : Nat) (x_this_fault : Int32) (x_this_place : Int32) (p0 : Int32) (hg_this_text : ia g_this_text 1600 0 255) (hx_this_at : ib x_this_at 0 1600) (hx_this_sort : ib x_this_sort 0 4) (hc0_this : ¬ x_this_sort = 0 → ib x_this_at 0 1599) : k_Met l yX5_sees cX5_sees 2 (some .boolean) { frames := 0, cells := 0, slots := 0, locals := 0 } dC dI cy sq [.ref a_this, .int p0] [(wo_5_riiiiirii a_this a_this_text x_this_length x_this_at x_this_behind x_this_sort x_this_allowed a_this_plan x_this_fault x_this_place), (wi_0_1600_0 a_this_text cy g_this_text)] (k_Qi dC dI (fun (r : Int32) (_ : Unit) => ib r 0 1 ∧ (¬ r = 0 → ib x_this_at 0 1599) ∧ (¬ r = 0 → ib x_this_sort 3 3) ∧ (¬ r = 0 → ib p0 0 255) ∧ (F_X5_sees (lf_A g_this_text) (Int32.toInt x_this_at) (Int32.toInt x_this_sort) (Int32.toInt p0) = ((Int32.toInt r)))) (fun _ : Unit => [(wo_5_riiiiirii a_this a_this_text x_this_length x_this_at x_this_behind x_this_sort x_this_allowed a_this_plan x_this_fault x_this_place), (wi_0_1600_0 a_this_text cy g_this_text)])) := by
  refine k_ofW2 (by decide +kernel) (Nat.le_of_ble_eq_true rfl) ?_
  intro p e s m below meth c A ls H locs args Q hQ C0 hZ hr hlk hin hP hD hA hS hl
  have C0 : k_cx p s m args c cX5_sees 2 RX5 dC dI cy sq := C0
  have hx := C0.1
  have hb := C0.2.1
  have hl : lv_has ls 2 [(0, .ref a_this), (1, .int p0)] := hl
  obtain ⟨O, hO⟩ : ∃ o, o = F_X5_sees (lf_A g_this_text) (Int32.toInt x_this_at) (Int32.toInt x_this_sort) (Int32.toInt p0) := ⟨_, rfl⟩
  have hq := hO
  unfold F_X5_sees at hq
  have jn25 : ∀  (H : Heap) (locs : List Loc) (ls : Array Slot), (O = F_X5_sees_25 ) → va_P (dC, dI) vwCl [(wo_5_riiiiirii a_this a_this_text x_this_length x_this_at x_this_behind x_this_sort x_this_allowed a_this_plan x_this_fault x_this_place), (wi_0_1600_0 a_this_text cy g_this_text)] H → va_D A [(wo_5_riiiiirii a_this a_this_text x_this_length x_this_at x_this_behind x_this_sort x_this_allowed a_this_plan x_this_fault x_this_place), (wi_0_1600_0 a_this_text cy g_this_text)] → va_S A s.heap H locs → lv_has ls 2 [(0, .ref a_this), (1, .int p0)] → W p l e { frames := 0, cells := 0, slots := 0, locals := 0 } s m args below meth c H locs 0 0 Q (F0 m 25 ls []) := by
    intro H locs ls hq hP hD hS hl
    unfold F_X5_sees_25 at hq
    refine lv_iconst (v := 0) hx hb dX5_sees_25 rfl ?_
    subst hQ; exact k_iret hx hb hr hlk (k_nb 0 rfl) () hS ⟨ib_w 0 1 (ib_c 0 0 0 rfl) rfl, fun hq9 => absurd rfl hq9, fun hq9 => absurd rfl hq9, fun hq9 => absurd rfl hq9, (hO.symm.trans (by try simp only [show (0 : Int32).toInt = (0 : Int) from rfl]; exact hq))⟩ hP hD (Nat.le_of_ble_eq_true rfl) (Nat.le_of_ble_eq_true rfl) dX5_sees_26
  refine lv_aload_n hx hb dX5_sees_0 rfl (lv_at hl 0 rfl) ?_
  refine k_get C0 fg_X5_21 hP 0 rfl rfl dX5_sees_1 ?_
  refine lv_iconst (v := 3) hx hb dX5_sees_4 rfl ?_
  refine lv_icmp_ne (tgt := 25) hx hb dX5_sees_5 rfl (fun c1 => ?_) (fun c1 => ?_)
  · replace hq := lf_neg hq (lf_ne (lf_rf x_this_sort) (lf_lc 3 (3 : Int) rfl) c1)
    exact jn25  H locs ls (by exact hq) hP hD hS (lv_sub hl [0, 1] rfl)
  · replace hq := lf_pos hq (lf_eq (lf_rf x_this_sort) (lf_lc 3 (3 : Int) rfl) c1)
    have h2 := ib_eq hx_this_sort (ib_c 3 3 3 rfl) c1
    have h3 : ib x_this_sort 3 3 := ib_w 3 3 h2.1 rfl
    have h4 : ib x_this_at 0 1599 := ib_w 0 1599 (ib_two hx_this_at (hc0_this (ib_nz h3 rfl))) rfl
    refine lv_aload_n hx hb dX5_sees_8 rfl (lv_at hl 0 rfl) ?_
    refine k_get C0 fg_X5_33 hP 0 rfl rfl dX5_sees_9 ?_
    refine lv_aload_n hx hb dX5_sees_12 rfl (lv_at hl 0 rfl) ?_
    refine k_get C0 fg_X5_15 hP 0 rfl rfl dX5_sees_13 ?_
    refine va_iald hx hb C0.2.2.2.2.2.1 hP 1 0 rfl rfl (ib_in 1600 h4 rfl) dX5_sees_16 ?_
    refine lv_topi (fun z5 ez5 => ?_)
    have h6 : ib z5 0 255 := by rw [ez5]; exact ia_at hg_this_text (ib_in 1600 h4 rfl)
    have Ez5 := lf_ld ez5 (lf_ra g_this_text) (lf_rf x_this_at)
    refine lv_iload_n hx hb dX5_sees_17 rfl (lv_at hl 1 rfl) ?_
    refine lv_icmp_ne (tgt := 25) hx hb dX5_sees_18 rfl (fun c7 => ?_) (fun c7 => ?_)
    · replace hq := lf_neg hq (lf_ne Ez5 (lf_rf p0) c7)
      exact jn25  H locs ls (by exact hq) hP hD hS (lv_sub hl [0, 1] rfl)
    · replace hq := lf_pos hq (lf_eq Ez5 (lf_rf p0) c7)
      have h8 := ib_eq h6 (ib_any p0) c7
      have h9 : ib p0 0 255 := ib_w 0 255 h8.2 rfl
      refine lv_iconst (v := 1) hx hb dX5_sees_21 rfl ?_
      refine lv_goto (tgt := 26) hx hb dX5_sees_22 rfl ?_
      subst hQ; exact k_iret hx hb hr hlk (k_nb 1 rfl) () hS ⟨ib_w 0 1 (ib_c 1 1 1 rfl) rfl, fun _ => ib_w 0 1599 h4 rfl, fun _ => ib_w 3 3 h3 rfl, fun _ => ib_w 0 255 h9 rfl, (hO.symm.trans (by try simp only [show (1 : Int32).toInt = (1 : Int) from rfl]; exact hq))⟩ hP hD (Nat.le_of_ble_eq_true rfl) (Nat.le_of_ble_eq_true rfl) dX5_sees_26
set_option maxHeartbeats 4000000 in
set_option maxRecDepth 100000 in
theorem s_X5_wordIn_s16 (l : Launch) (dC : Nat → ClassId) (dI : Nat → Nat → Nat) (cy : Nat → ClassId) (sq : Nat → Nat) (a_this : Nat) (a_this_text : Nat) (g_this_text : Nat → Int32) (x_this_length : Int32) (x_this_at : Int32) (x_this_behind : Int32) (x_this_sort : Int32) (x_this_allowed : Int32) (a_this_plan : Nat) (x_this_fault : Int32) (x_this_place : Int32) (hg_this_text : ia g_this_text 1600 0 255) (hx_this_at : ib x_this_at 0 1600) (hx_this_behind : ib x_this_behind 0 1600) (hx_this_sort : ib x_this_sort 0 4) (hc0_this : ¬ x_this_sort = 0 → ib x_this_at 0 1599) : k_Met l yX5_wordIn cX5_wordIn 6 (some .int) { frames := 4, cells := 0, slots := 0, locals := 141 } dC dI cy sq [.ref a_this, .ref (sq 16)] [(wo_5_riiiiirii a_this a_this_text x_this_length x_this_at x_this_behind x_this_sort x_this_allowed a_this_plan x_this_fault x_this_place), (wi_0_1600_0 a_this_text cy g_this_text)] (k_Qi dC dI (fun (r : Int32) (_ : Unit) => (F_X5_wordIn_s16 (lf_A g_this_text) (Int32.toInt x_this_at) (Int32.toInt x_this_behind) (Int32.toInt x_this_sort) = ((Int32.toInt r)))) (fun _ : Unit => [(wo_5_riiiiirii a_this a_this_text x_this_length x_this_at x_this_behind x_this_sort x_this_allowed a_this_plan x_this_fault x_this_place), (wi_0_1600_0 a_this_text cy g_this_text)])) := by
  refine k_ofW2 (by decide +kernel) (Nat.le_of_ble_eq_true rfl) ?_
  intro p e s m below meth c A ls H locs args Q hQ C0 hZ hr hlk hin hP hD hA hS hl
  have C0 : k_cx p s m args c cX5_wordIn 6 RX5 dC dI cy sq := C0
  have hx := C0.1
  have hb := C0.2.1
  have hl : lv_has ls 6 [(0, .ref a_this), (1, .ref (sq 16))] := hl
  obtain ⟨O, hO⟩ : ∃ o, o = F_X5_wordIn_s16 (lf_A g_this_text) (Int32.toInt x_this_at) (Int32.toInt x_this_behind) (Int32.toInt x_this_sort) := ⟨_, rfl⟩
  have hq := hO
  unfold F_X5_wordIn_s16 at hq
  have jn23 : ∀ (n : Nat) (J23_l2 : Int32) (J23_l3 : Int32) (J23_l4 : Int32) (J23_l5 : Int32) (H : Heap) (locs : List Loc) (ls : Array Slot), ib x_this_at 0 1599 → ib x_this_sort 1 1 → ib J23_l3 0 1603 → ib J23_l4 0 1 → ib J23_l5 0 4 → (1 * J23_l3.toInt + (-1) * J23_l5.toInt ≤ 1600) → (O = F_X5_wordIn_s16_23 (lf_A g_this_text) (Int32.toInt x_this_at) (Int32.toInt x_this_behind) n (Int32.toInt J23_l2) (Int32.toInt J23_l3) (Int32.toInt J23_l4) (Int32.toInt J23_l5)) → 5 ≤ J23_l5.toInt + (n : Int) → va_P (dC, dI) vwCl [(wo_5_riiiiirii a_this a_this_text x_this_length x_this_at x_this_behind x_this_sort x_this_allowed a_this_plan x_this_fault x_this_place), (wi_0_1600_0 a_this_text cy g_this_text)] H → va_D A [(wo_5_riiiiirii a_this a_this_text x_this_length x_this_at x_this_behind x_this_sort x_this_allowed a_this_plan x_this_fault x_this_place), (wi_0_1600_0 a_this_text cy g_this_text)] → va_S A s.heap H locs → lv_has ls 6 [(0, .ref a_this), (1, .ref (sq 16)), (2, .int J23_l2), (3, .int J23_l3), (4, .int J23_l4), (5, .int J23_l5)] → W p l e { frames := 4, cells := 0, slots := 0, locals := 141 } s m args below meth c H locs 0 0 Q (F0 m 23 ls []) := by
    as_aux_lemma =>
      intro n
      induction n with
      | zero =>
        intro J23_l2 J23_l3 J23_l4 J23_l5 H locs ls hK23_x_this_at hK23_x_this_sort hJ23_l3 hJ23_l4 hJ23_l5 hJ23_lin0 hq hm
        exact absurd hm (by have := hJ23_l5; unfold ib at this; omega)
      | succ n ih =>
        intro J23_l2 J23_l3 J23_l4 J23_l5 H locs ls hK23_x_this_at hK23_x_this_sort hJ23_l3 hJ23_l4 hJ23_l5 hJ23_lin0 hq hm23 hP hD hS hl
        have ih23 := ih
        obtain ⟨K23, hK23⟩ : ∃ K, K = F_X5_wordIn_s16_23 (lf_A g_this_text) (Int32.toInt x_this_at) (Int32.toInt x_this_behind) n := ⟨_, rfl⟩
        have hq : O = F_X5_wordIn_s16_23b (lf_A g_this_text) (Int32.toInt x_this_at) (Int32.toInt x_this_behind) K23 (Int32.toInt J23_l2) (Int32.toInt J23_l3) (Int32.toInt J23_l4) (Int32.toInt J23_l5) := by rw [hK23]; exact hq
        unfold F_X5_wordIn_s16_23b at hq
        have jn119 : ∀ (J119_l2 : Int32) (J119_l3 : Int32) (J119_l4 : Int32) (H : Heap) (locs : List Loc) (ls : Array Slot), ib x_this_at 0 1599 → ib J23_l5 0 3 → ib x_this_sort 1 1 → ib J119_l3 0 1603 → ib J119_l4 0 1 → (1 * J119_l3.toInt + (-1) * J23_l5.toInt ≤ 1601) → (O = F_X5_wordIn_s16_119 (Int32.toInt J23_l5) K23 (Int32.toInt J119_l2) (Int32.toInt J119_l3) (Int32.toInt J119_l4)) → va_P (dC, dI) vwCl [(wo_5_riiiiirii a_this a_this_text x_this_length x_this_at x_this_behind x_this_sort x_this_allowed a_this_plan x_this_fault x_this_place), (wi_0_1600_0 a_this_text cy g_this_text)] H → va_D A [(wo_5_riiiiirii a_this a_this_text x_this_length x_this_at x_this_behind x_this_sort x_this_allowed a_this_plan x_this_fault x_this_place), (wi_0_1600_0 a_this_text cy g_this_text)] → va_S A s.heap H locs → lv_has ls 6 [(0, .ref a_this), (1, .ref (sq 16)), (2, .int J119_l2), (3, .int J119_l3), (4, .int J119_l4), (5, .int J23_l5)] → W p l e { frames := 4, cells := 0, slots := 0, locals := 141 } s m args below meth c H locs 0 0 Q (F0 m 119 ls []) := by
          intro J119_l2 J119_l3 J119_l4 H locs ls hK119_x_this_at hK119_J23_l5 hK119_x_this_sort hJ119_l3 hJ119_l4 hJ119_lin0 hq hP hD hS hl
          unfold F_X5_wordIn_s16_119 at hq
          obtain ⟨z1, ez1⟩ : ∃ y : Int32, y = J23_l5 + 1 := ⟨_, rfl⟩
          refine lv_iinc (v := z1) (lv' := [(5, .int z1), (0, .ref a_this), (1, .ref (sq 16)), (2, .int J119_l2), (3, .int J119_l3), (4, .int J119_l4)]) hx hb dX5_wordIn_119 hl (k := 5) rfl (by rw [ez1]; rfl) (Nat.le_of_ble_eq_true rfl) rfl (fun ls hl => ?_)
          have h2 := ib_add hK119_J23_l5 (ib_c 1 1 1 rfl) rfl
          rw [← ez1] at h2
          have h3 : ib z1 1 4 := ib_w 1 4 h2.1 rfl
          have Ez1 := lf_add h2.2 (lf_rf J23_l5) (lf_lc 1 (1 : Int) rfl)
          refine lv_goto (tgt := 23) hx hb dX5_wordIn_122 rfl ?_
          exact ih23 J119_l2 J119_l3 J119_l4 z1 H locs ls (ib_w 0 1599 hK119_x_this_at rfl) (ib_w 1 1 hK119_x_this_sort rfl) (ib_w 0 1603 hJ119_l3 rfl) (ib_w 0 1 hJ119_l4 rfl) (ib_w 0 4 h3 rfl) (by have := h2.2; have : (1 : Int32).toInt = 1 := rfl; have := hJ119_lin0; omega) (by rw [← hK23]; rw [lf_u Ez1]; exact hq) (by have := h2.2; have : (1 : Int32).toInt = 1 := rfl; omega) hP hD hS (lv_sub hl [1, 2, 3, 4, 5, 0] rfl)
        have jn114 : ∀ (J114_s0 : Int32) (H : Heap) (locs : List Loc) (ls : Array Slot), ib J23_l3 0 1602 → ib J23_l4 0 1 → ib J23_l5 0 2 → ib x_this_at 0 1599 → ib x_this_sort 1 1 → ib J114_s0 0 1 → (1 * J23_l3.toInt + (-1) * J23_l5.toInt ≤ 1600) → (O = F_X5_wordIn_s16_114 (Int32.toInt J23_l2) (Int32.toInt J23_l3) (Int32.toInt J23_l5) K23 (Int32.toInt J114_s0)) → va_P (dC, dI) vwCl [(wo_5_riiiiirii a_this a_this_text x_this_length x_this_at x_this_behind x_this_sort x_this_allowed a_this_plan x_this_fault x_this_place), (wi_0_1600_0 a_this_text cy g_this_text)] H → va_D A [(wo_5_riiiiirii a_this a_this_text x_this_length x_this_at x_this_behind x_this_sort x_this_allowed a_this_plan x_this_fault x_this_place), (wi_0_1600_0 a_this_text cy g_this_text)] → va_S A s.heap H locs → lv_has ls 6 [(0, .ref a_this), (1, .ref (sq 16)), (2, .int J23_l2), (3, .int J23_l3), (4, .int J23_l4), (5, .int J23_l5)] → W p l e { frames := 4, cells := 0, slots := 0, locals := 141 } s m args below meth c H locs 0 0 Q (F0 m 114 ls [.int J114_s0]) := by
          intro J114_s0 H locs ls hK114_J23_l3 hK114_J23_l4 hK114_J23_l5 hK114_x_this_at hK114_x_this_sort hJ114_s0 hJ114_lin0 hq hP hD hS hl
          unfold F_X5_wordIn_s16_114 at hq
          refine lv_istore (lv' := [(4, .int J114_s0), (0, .ref a_this), (1, .ref (sq 16)), (2, .int J23_l2), (3, .int J23_l3), (5, .int J23_l5)]) hx hb dX5_wordIn_114 hl (Nat.le_of_ble_eq_true rfl) rfl (fun ls hl => ?_)
          obtain ⟨z4, ez4⟩ : ∃ y : Int32, y = J23_l3 + 1 := ⟨_, rfl⟩
          refine lv_iinc (v := z4) (lv' := [(3, .int z4), (4, .int J114_s0), (0, .ref a_this), (1, .ref (sq 16)), (2, .int J23_l2), (5, .int J23_l5)]) hx hb dX5_wordIn_116 hl (k := 4) rfl (by rw [ez4]; rfl) (Nat.le_of_ble_eq_true rfl) rfl (fun ls hl => ?_)
          have h5 := ib_add hK114_J23_l3 (ib_c 1 1 1 rfl) rfl
          rw [← ez4] at h5
          have h6 : ib z4 1 1603 := ib_w 1 1603 h5.1 rfl
          have Ez4 := lf_add h5.2 (lf_rf J23_l3) (lf_lc 1 (1 : Int) rfl)
          exact jn119 J23_l2 z4 J114_s0 H locs ls (ib_w 0 1599 hK114_x_this_at rfl) (ib_w 0 3 hK114_J23_l5 rfl) (ib_w 1 1 hK114_x_this_sort rfl) (ib_w 0 1603 h6 rfl) (ib_w 0 1 hJ114_s0 rfl) (by have := (hK114_J23_l5).1; have := hJ23_lin0; have := (h6).2; have := h5.2; have : (1 : Int32).toInt = 1 := rfl; omega) (by rw [lf_u Ez4]; exact hq) hP hD hS (lv_sub hl [2, 3, 4, 0, 1, 5] rfl)
        have jn113 : ∀  (H : Heap) (locs : List Loc) (ls : Array Slot), ib J23_l3 0 1602 → ib J23_l4 0 1 → ib J23_l5 0 2 → ib x_this_at 0 1599 → ib x_this_sort 1 1 → (1 * J23_l3.toInt + (-1) * J23_l5.toInt ≤ 1600) → (O = F_X5_wordIn_s16_113 (Int32.toInt J23_l2) (Int32.toInt J23_l3) (Int32.toInt J23_l5) K23 ) → va_P (dC, dI) vwCl [(wo_5_riiiiirii a_this a_this_text x_this_length x_this_at x_this_behind x_this_sort x_this_allowed a_this_plan x_this_fault x_this_place), (wi_0_1600_0 a_this_text cy g_this_text)] H → va_D A [(wo_5_riiiiirii a_this a_this_text x_this_length x_this_at x_this_behind x_this_sort x_this_allowed a_this_plan x_this_fault x_this_place), (wi_0_1600_0 a_this_text cy g_this_text)] → va_S A s.heap H locs → lv_has ls 6 [(0, .ref a_this), (1, .ref (sq 16)), (2, .int J23_l2), (3, .int J23_l3), (4, .int J23_l4), (5, .int J23_l5)] → W p l e { frames := 4, cells := 0, slots := 0, locals := 141 } s m args below meth c H locs 0 0 Q (F0 m 113 ls []) := by
          intro H locs ls hK113_J23_l3 hK113_J23_l4 hK113_J23_l5 hK113_x_this_at hK113_x_this_sort hJ113_lin0 hq hP hD hS hl
          unfold F_X5_wordIn_s16_113 at hq
          refine lv_iconst (v := 0) hx hb dX5_wordIn_113 rfl ?_
          exact jn114 0 H locs ls (ib_w 0 1602 hK113_J23_l3 rfl) (ib_w 0 1 hK113_J23_l4 rfl) (ib_w 0 2 hK113_J23_l5 rfl) (ib_w 0 1599 hK113_x_this_at rfl) (ib_w 1 1 hK113_x_this_sort rfl) (ib_w 0 1 (ib_c 0 0 0 rfl) rfl) (by have := hJ23_lin0; omega) (by try simp only [show (0 : Int32).toInt = (0 : Int) from rfl]; exact hq) hP hD hS (lv_sub hl [0, 1, 2, 3, 4, 5] rfl)
        have jn67 : ∀  (H : Heap) (locs : List Loc) (ls : Array Slot), ib J23_l3 0 1603 → ib J23_l4 0 1 → ib J23_l5 0 3 → ib x_this_at 0 1599 → ib x_this_sort 1 1 → (O = F_X5_wordIn_s16_67 (Int32.toInt x_this_at) (Int32.toInt J23_l2) (Int32.toInt J23_l5) K23 ) → va_P (dC, dI) vwCl [(wo_5_riiiiirii a_this a_this_text x_this_length x_this_at x_this_behind x_this_sort x_this_allowed a_this_plan x_this_fault x_this_place), (wi_0_1600_0 a_this_text cy g_this_text)] H → va_D A [(wo_5_riiiiirii a_this a_this_text x_this_length x_this_at x_this_behind x_this_sort x_this_allowed a_this_plan x_this_fault x_this_place), (wi_0_1600_0 a_this_text cy g_this_text)] → va_S A s.heap H locs → lv_has ls 6 [(0, .ref a_this), (1, .ref (sq 16)), (2, .int J23_l2), (3, .int J23_l3), (4, .int J23_l4), (5, .int J23_l5)] → W p l e { frames := 4, cells := 0, slots := 0, locals := 141 } s m args below meth c H locs 0 0 Q (F0 m 67 ls []) := by
          intro H locs ls hK67_J23_l3 hK67_J23_l4 hK67_J23_l5 hK67_x_this_at hK67_x_this_sort hq hP hD hS hl
          unfold F_X5_wordIn_s16_67 at hq
          obtain ⟨z7, ez7⟩ : ∃ y : Int32, y = J23_l2 + 1 := ⟨_, rfl⟩
          refine lv_iinc (v := z7) (lv' := [(2, .int z7), (0, .ref a_this), (1, .ref (sq 16)), (3, .int J23_l3), (4, .int J23_l4), (5, .int J23_l5)]) hx hb dX5_wordIn_67 hl (k := 2) rfl (by rw [ez7]; rfl) (Nat.le_of_ble_eq_true rfl) rfl (fun ls hl => ?_)
          have Ez7 := lf_op lf_iadd ez7 (lf_rf J23_l2) (lf_lc 1 (1 : Int) rfl)
          refine lv_aload_n hx hb dX5_wordIn_70 rfl (lv_at hl 1 rfl) ?_
          refine k_get C0 fg_X5_15 hP 0 rfl rfl dX5_wordIn_71 ?_
          refine lv_istore_n (lv' := [(3, .int x_this_at), (2, .int z7), (0, .ref a_this), (1, .ref (sq 16)), (4, .int J23_l4), (5, .int J23_l5)]) hx hb dX5_wordIn_74 rfl hl (Nat.le_of_ble_eq_true rfl) rfl (fun ls hl => ?_)
          refine lv_iconst (v := 1) hx hb dX5_wordIn_75 rfl ?_
          refine lv_istore (lv' := [(4, .int 1), (3, .int x_this_at), (2, .int z7), (0, .ref a_this), (1, .ref (sq 16)), (5, .int J23_l5)]) hx hb dX5_wordIn_76 hl (Nat.le_of_ble_eq_true rfl) rfl (fun ls hl => ?_)
          refine lv_goto (tgt := 119) hx hb dX5_wordIn_78 rfl ?_
          exact jn119 z7 x_this_at 1 H locs ls (ib_w 0 1599 hK67_x_this_at rfl) (ib_w 0 3 hK67_J23_l5 rfl) (ib_w 1 1 hK67_x_this_sort rfl) (ib_w 0 1603 hK67_x_this_at rfl) (ib_w 0 1 (ib_c 1 1 1 rfl) rfl) (by have := (hK67_J23_l5).1; have := (hK67_x_this_at).2; omega) (by rw [lf_u Ez7]; try simp only [show (1 : Int32).toInt = (1 : Int) from rfl]; exact hq) hP hD hS (lv_sub hl [3, 4, 2, 1, 0, 5] rfl)
        have jn52 : ∀  (H : Heap) (locs : List Loc) (ls : Array Slot), ib J23_l3 0 1603 → ib J23_l4 0 1 → ib J23_l5 0 3 → ib x_this_at 0 1599 → ib x_this_sort 1 1 → (O = F_X5_wordIn_s16_52 (Int32.toInt x_this_at) (Int32.toInt x_this_behind) (Int32.toInt J23_l2) (Int32.toInt J23_l3) (Int32.toInt J23_l4) (Int32.toInt J23_l5) K23 ) → va_P (dC, dI) vwCl [(wo_5_riiiiirii a_this a_this_text x_this_length x_this_at x_this_behind x_this_sort x_this_allowed a_this_plan x_this_fault x_this_place), (wi_0_1600_0 a_this_text cy g_this_text)] H → va_D A [(wo_5_riiiiirii a_this a_this_text x_this_length x_this_at x_this_behind x_this_sort x_this_allowed a_this_plan x_this_fault x_this_place), (wi_0_1600_0 a_this_text cy g_this_text)] → va_S A s.heap H locs → lv_has ls 6 [(0, .ref a_this), (1, .ref (sq 16)), (2, .int J23_l2), (3, .int J23_l3), (4, .int J23_l4), (5, .int J23_l5)] → W p l e { frames := 4, cells := 0, slots := 0, locals := 141 } s m args below meth c H locs 0 0 Q (F0 m 52 ls []) := by
          as_aux_lemma =>
            intro H locs ls hK52_J23_l3 hK52_J23_l4 hK52_J23_l5 hK52_x_this_at hK52_x_this_sort hq hP hD hS hl
            unfold F_X5_wordIn_s16_52 at hq
            refine lv_iload hx hb dX5_wordIn_52 (lv_at hl 4 rfl) ?_
            refine lv_if_eq (tgt := 67) hx hb dX5_wordIn_54 rfl (fun c8 => ?_) (fun c8 => ?_)
            · replace hq := lf_pos hq (lf_eq (lf_rf J23_l4) (lf_lc 0 (0 : Int) rfl) c8)
              have h9 := ib_eq hK52_J23_l4 (ib_c 0 0 0 rfl) c8
              have h10 : ib J23_l4 0 0 := ib_w 0 0 h9.1 rfl
              exact jn67  H locs ls (ib_w 0 1603 hK52_J23_l3 rfl) (ib_w 0 1 h10 rfl) (ib_w 0 3 hK52_J23_l5 rfl) (ib_w 0 1599 hK52_x_this_at rfl) (ib_w 1 1 hK52_x_this_sort rfl) (by exact hq) hP hD hS (lv_sub hl [0, 1, 2, 3, 4, 5] rfl)
            · replace hq := lf_neg hq (lf_ne (lf_rf J23_l4) (lf_lc 0 (0 : Int) rfl) c8)
              have h11 : ib J23_l4 1 1 := ib_w 1 1 (ib_ne_lo 0 hK52_J23_l4 rfl c8) rfl
              refine lv_iload_n hx hb dX5_wordIn_57 rfl (lv_at hl 3 rfl) ?_
              refine lv_aload_n hx hb dX5_wordIn_58 rfl (lv_at hl 0 rfl) ?_
              refine k_get C0 fg_X5_18 hP 0 rfl rfl dX5_wordIn_59 ?_
              refine lv_icmp_ne (tgt := 67) hx hb dX5_wordIn_62 rfl (fun c12 => ?_) (fun c12 => ?_)
              · replace hq := lf_neg hq (lf_ne (lf_rf J23_l3) (lf_rf x_this_behind) c12)
                exact jn67  H locs ls (ib_w 0 1603 hK52_J23_l3 rfl) (ib_w 0 1 h11 rfl) (ib_w 0 3 hK52_J23_l5 rfl) (ib_w 0 1599 hK52_x_this_at rfl) (ib_w 1 1 hK52_x_this_sort rfl) (by exact hq) hP hD hS (lv_sub hl [0, 1, 2, 3, 4, 5] rfl)
              · replace hq := lf_pos hq (lf_eq (lf_rf J23_l3) (lf_rf x_this_behind) c12)
                have h13 := ib_eq hK52_J23_l3 hx_this_behind c12
                have h14 : ib J23_l3 0 1600 := ib_w 0 1600 h13.1 rfl
                refine lv_iload_n hx hb dX5_wordIn_65 rfl (lv_at hl 2 rfl) ?_
                subst hQ; exact k_iret hx hb hr hlk rfl () hS ((hO.symm.trans (by exact hq))) hP hD (Nat.le_of_ble_eq_true rfl) (Nat.le_of_ble_eq_true rfl) dX5_wordIn_66
        refine lv_iload hx hb dX5_wordIn_23 (lv_at hl 5 rfl) ?_
        refine lv_aload_n hx hb dX5_wordIn_25 rfl (lv_at hl 1 rfl) ?_
        refine k_jim hP hD hS hA [] [true, true] rfl rfl rfl 0 0 (Nat.le_of_ble_eq_true rfl) (Nat.le_of_ble_eq_true rfl) (fun hPc hDc => k_runVO (As := []) (rest := [.int J23_l5]) C0 hZ hS hA (c_length l dC dI cy sq 16 (by decide)) mV_X5_244 hPc hDc (vk_recv hZ.1 (by decide) hS) hl rfl rfl (Nat.le_of_ble_eq_true rfl) ⟨(Nat.le_of_ble_eq_true rfl), (Nat.le_of_ble_eq_true rfl)⟩ ⟨(Nat.le_of_ble_eq_true rfl), (Nat.le_of_ble_eq_true rfl)⟩ dX5_wordIn_26) (fun r15 u16 H locs hw hP hD hS => ?_)
        replace hP : va_P (dC, dI) vwCl [(wo_5_riiiiirii a_this a_this_text x_this_length x_this_at x_this_behind x_this_sort x_this_allowed a_this_plan x_this_fault x_this_place), (wi_0_1600_0 a_this_text cy g_this_text)] H := hP
        replace hD := k_D hP hD
        obtain rfl : r15 = 3 := hw.trans (by decide)
        refine lv_icmp_gt (tgt := 125) hx hb dX5_wordIn_29 rfl (fun c17 => ?_) (fun c17 => ?_)
        · replace hq := lf_pos hq (lf_lt (lf_lc 3 (3 : Int) rfl) (lf_rf J23_l5) c17)
          have h18 := ib_lt (ib_c 3 3 3 rfl) hJ23_l5 c17
          have h19 : ib J23_l5 4 4 := ib_w 4 4 h18.2 rfl
          refine lv_iconst (v := (-1)) hx hb dX5_wordIn_125 rfl ?_
          subst hQ; exact k_iret hx hb hr hlk rfl () hS ((hO.symm.trans (by try simp only [show ((-1) : Int32).toInt = (-1 : Int) from rfl]; exact hq))) hP hD (Nat.le_of_ble_eq_true rfl) (Nat.le_of_ble_eq_true rfl) dX5_wordIn_126
        · as_aux_lemma =>
            replace hq := lf_neg hq (lf_nlt (lf_lc 3 (3 : Int) rfl) (lf_rf J23_l5) c17)
            have h20 := ib_nlt (ib_c 3 3 3 rfl) hJ23_l5 c17
            have h21 : ib J23_l5 0 3 := ib_w 0 3 h20.2 rfl
            refine lv_iload hx hb dX5_wordIn_32 (lv_at hl 5 rfl) ?_
            refine lv_aload_n hx hb dX5_wordIn_34 rfl (lv_at hl 1 rfl) ?_
            refine k_jim hP hD hS hA [] [true, true] rfl rfl rfl 0 0 (Nat.le_of_ble_eq_true rfl) (Nat.le_of_ble_eq_true rfl) (fun hPc hDc => k_runVO (As := []) (rest := [.int J23_l5]) C0 hZ hS hA (c_length l dC dI cy sq 16 (by decide)) mV_X5_244 hPc hDc (vk_recv hZ.1 (by decide) hS) hl rfl rfl (Nat.le_of_ble_eq_true rfl) ⟨(Nat.le_of_ble_eq_true rfl), (Nat.le_of_ble_eq_true rfl)⟩ ⟨(Nat.le_of_ble_eq_true rfl), (Nat.le_of_ble_eq_true rfl)⟩ dX5_wordIn_35) (fun r22 u23 H locs hw hP hD hS => ?_)
            replace hP : va_P (dC, dI) vwCl [(wo_5_riiiiirii a_this a_this_text x_this_length x_this_at x_this_behind x_this_sort x_this_allowed a_this_plan x_this_fault x_this_place), (wi_0_1600_0 a_this_text cy g_this_text)] H := hP
            replace hD := k_D hP hD
            obtain rfl : r22 = 3 := hw.trans (by decide)
            refine lv_icmp_eq (tgt := 52) hx hb dX5_wordIn_38 rfl (fun c24 => ?_) (fun c24 => ?_)
            · replace hq := lf_pos hq (lf_eq (lf_rf J23_l5) (lf_lc 3 (3 : Int) rfl) c24)
              have h25 := ib_eq h21 (ib_c 3 3 3 rfl) c24
              have h26 : ib J23_l5 3 3 := ib_w 3 3 h25.1 rfl
              exact jn52  H locs ls (ib_w 0 1603 hJ23_l3 rfl) (ib_w 0 1 hJ23_l4 rfl) (ib_w 0 3 h26 rfl) (ib_w 0 1599 hK23_x_this_at rfl) (ib_w 1 1 hK23_x_this_sort rfl) (by exact hq) hP hD hS (lv_sub hl [0, 1, 2, 3, 4, 5] rfl)
            · as_aux_lemma =>
                replace hq := lf_neg hq (lf_ne (lf_rf J23_l5) (lf_lc 3 (3 : Int) rfl) c24)
                have h27 : ib J23_l5 0 2 := ib_w 0 2 (ib_ne_hi 3 h21 rfl c24) rfl
                refine lv_aload_n hx hb dX5_wordIn_41 rfl (lv_at hl 1 rfl) ?_
                refine lv_iload hx hb dX5_wordIn_42 (lv_at hl 5 rfl) ?_
                refine k_jim hP hD hS hA [] [true, true] rfl rfl rfl 0 0 (Nat.le_of_ble_eq_true rfl) (Nat.le_of_ble_eq_true rfl) (fun hPc hDc => k_runVO (As := [.int J23_l5]) (rest := []) C0 hZ hS hA (cx_charAt l dC dI cy sq 16 (by decide) J23_l5 (ib_ch 16 3 h27 rfl rfl).1 (ib_ch 16 3 h27 rfl rfl).2.1 (ib_ch 16 3 h27 rfl rfl).2.2) mV_X5_248 hPc hDc (vk_recv hZ.1 (by decide) hS) hl rfl rfl (Nat.le_of_ble_eq_true rfl) ⟨(Nat.le_of_ble_eq_true rfl), (Nat.le_of_ble_eq_true rfl)⟩ ⟨(Nat.le_of_ble_eq_true rfl), (Nat.le_of_ble_eq_true rfl)⟩ dX5_wordIn_44) (fun r28 u29 H locs hw hP hD hS => ?_)
                replace hP : va_P (dC, dI) vwCl [(wo_5_riiiiirii a_this a_this_text x_this_length x_this_at x_this_behind x_this_sort x_this_allowed a_this_plan x_this_fault x_this_place), (wi_0_1600_0 a_this_text cy g_this_text)] H := hP
                replace hD := k_D hP hD
                have Er28 := lf_cha (j := 16) hw (lf_rf J23_l5)
                refine lv_bipush (v := 32) hx hb dX5_wordIn_47 rfl ?_
                refine lv_icmp_ne (tgt := 81) hx hb dX5_wordIn_49 rfl (fun c30 => ?_) (fun c30 => ?_)
                · as_aux_lemma =>
                    replace hq := lf_neg hq (lf_ne Er28 (lf_lc 32 (32 : Int) rfl) c30)
                    refine lv_iload hx hb dX5_wordIn_81 (lv_at hl 4 rfl) ?_
                    refine lv_if_eq (tgt := 113) hx hb dX5_wordIn_83 rfl (fun c31 => ?_) (fun c31 => ?_)
                    · replace hq := lf_pos hq (lf_eq (lf_rf J23_l4) (lf_lc 0 (0 : Int) rfl) c31)
                      have h32 := ib_eq hJ23_l4 (ib_c 0 0 0 rfl) c31
                      have h33 : ib J23_l4 0 0 := ib_w 0 0 h32.1 rfl
                      have h34 : ib J23_l3 0 1602 := ⟨(hJ23_l3).1, by have := (hJ23_l3).2; have := hJ23_lin0; have := (h27).2; omega⟩
                      exact jn113  H locs ls (ib_w 0 1602 h34 rfl) (ib_w 0 1 h33 rfl) (ib_w 0 2 h27 rfl) (ib_w 0 1599 hK23_x_this_at rfl) (ib_w 1 1 hK23_x_this_sort rfl) (by have := hJ23_lin0; omega) (by exact hq) hP hD hS (lv_sub hl [0, 1, 2, 3, 4, 5] rfl)
                    · as_aux_lemma =>
                        replace hq := lf_neg hq (lf_ne (lf_rf J23_l4) (lf_lc 0 (0 : Int) rfl) c31)
                        have h35 : ib J23_l4 1 1 := ib_w 1 1 (ib_ne_lo 0 hJ23_l4 rfl c31) rfl
                        refine lv_iload_n hx hb dX5_wordIn_86 rfl (lv_at hl 3 rfl) ?_
                        refine lv_aload_n hx hb dX5_wordIn_87 rfl (lv_at hl 0 rfl) ?_
                        refine k_get C0 fg_X5_18 hP 0 rfl rfl dX5_wordIn_88 ?_
                        refine lv_icmp_ge (tgt := 113) hx hb dX5_wordIn_91 rfl (fun c36 => ?_) (fun c36 => ?_)
                        · replace hq := lf_pos hq (lf_le (lf_rf x_this_behind) (lf_rf J23_l3) c36)
                          have h37 := ib_le hx_this_behind hJ23_l3 c36
                          have h38 : ib J23_l3 0 1602 := ⟨(hJ23_l3).1, by have := (hJ23_l3).2; have := hJ23_lin0; have := (h27).2; omega⟩
                          exact jn113  H locs ls (ib_w 0 1602 h38 rfl) (ib_w 0 1 h35 rfl) (ib_w 0 2 h27 rfl) (ib_w 0 1599 hK23_x_this_at rfl) (ib_w 1 1 hK23_x_this_sort rfl) (by have := hJ23_lin0; omega) (by exact hq) hP hD hS (lv_sub hl [0, 1, 2, 3, 4, 5] rfl)
                        · as_aux_lemma =>
                            replace hq := lf_neg hq (lf_nle (lf_rf x_this_behind) (lf_rf J23_l3) c36)
                            have h39 := ib_nle hx_this_behind hJ23_l3 c36
                            have h40 : ib x_this_behind 1 1600 := ib_w 1 1600 h39.1 rfl
                            have h41 : ib J23_l3 0 1599 := ib_w 0 1599 h39.2 rfl
                            refine lv_aload_n hx hb dX5_wordIn_94 rfl (lv_at hl 0 rfl) ?_
                            refine k_get C0 fg_X5_33 hP 0 rfl rfl dX5_wordIn_95 ?_
                            refine lv_iload_n hx hb dX5_wordIn_98 rfl (lv_at hl 3 rfl) ?_
                            refine va_iald hx hb C0.2.2.2.2.2.1 hP 1 0 rfl rfl (ib_in 1600 h41 rfl) dX5_wordIn_99 ?_
                            refine lv_topi (fun z42 ez42 => ?_)
                            have h43 : ib z42 0 255 := by rw [ez42]; exact ia_at hg_this_text (ib_in 1600 h41 rfl)
                            have Ez42 := lf_ld ez42 (lf_ra g_this_text) (lf_rf J23_l3)
                            refine lv_aload_n hx hb dX5_wordIn_100 rfl (lv_at hl 1 rfl) ?_
                            refine lv_iload hx hb dX5_wordIn_101 (lv_at hl 5 rfl) ?_
                            refine k_jim hP hD hS hA [] [true, true] rfl rfl rfl 0 0 (Nat.le_of_ble_eq_true rfl) (Nat.le_of_ble_eq_true rfl) (fun hPc hDc => k_runVO (As := [.int J23_l5]) (rest := [.int z42]) C0 hZ hS hA (cx_charAt l dC dI cy sq 16 (by decide) J23_l5 (ib_ch 16 3 h27 rfl rfl).1 (ib_ch 16 3 h27 rfl rfl).2.1 (ib_ch 16 3 h27 rfl rfl).2.2) mV_X5_248 hPc hDc (vk_recv hZ.1 (by decide) hS) hl rfl rfl (Nat.le_of_ble_eq_true rfl) ⟨(Nat.le_of_ble_eq_true rfl), (Nat.le_of_ble_eq_true rfl)⟩ ⟨(Nat.le_of_ble_eq_true rfl), (Nat.le_of_ble_eq_true rfl)⟩ dX5_wordIn_103) (fun r44 u45 H locs hw hP hD hS => ?_)
                            replace hP : va_P (dC, dI) vwCl [(wo_5_riiiiirii a_this a_this_text x_this_length x_this_at x_this_behind x_this_sort x_this_allowed a_this_plan x_this_fault x_this_place), (wi_0_1600_0 a_this_text cy g_this_text)] H := hP
                            replace hD := k_D hP hD
                            have Er44 := lf_cha (j := 16) hw (lf_rf J23_l5)
                            refine lv_icmp_ne (tgt := 113) hx hb dX5_wordIn_106 rfl (fun c46 => ?_) (fun c46 => ?_)
                            · replace hq := lf_neg hq (lf_ne Ez42 Er44 c46)
                              exact jn113  H locs ls (ib_w 0 1602 h41 rfl) (ib_w 0 1 h35 rfl) (ib_w 0 2 h27 rfl) (ib_w 0 1599 hK23_x_this_at rfl) (ib_w 1 1 hK23_x_this_sort rfl) (by have := hJ23_lin0; omega) (by exact hq) hP hD hS (lv_sub hl [0, 1, 2, 3, 4, 5] rfl)
                            · replace hq := lf_pos hq (lf_eq Ez42 Er44 c46)
                              have h47 := ib_eq h43 (ib_any r44) c46
                              have h48 : ib r44 0 255 := ib_w 0 255 h47.2 rfl
                              refine lv_iconst (v := 1) hx hb dX5_wordIn_109 rfl ?_
                              refine lv_goto (tgt := 114) hx hb dX5_wordIn_110 rfl ?_
                              exact jn114 1 H locs ls (ib_w 0 1602 h41 rfl) (ib_w 0 1 h35 rfl) (ib_w 0 2 h27 rfl) (ib_w 0 1599 hK23_x_this_at rfl) (ib_w 1 1 hK23_x_this_sort rfl) (ib_w 0 1 (ib_c 1 1 1 rfl) rfl) (by have := hJ23_lin0; omega) (by try simp only [show (1 : Int32).toInt = (1 : Int) from rfl]; exact hq) hP hD hS (lv_sub hl [0, 1, 2, 3, 4, 5] rfl)
                · replace hq := lf_pos hq (lf_eq Er28 (lf_lc 32 (32 : Int) rfl) c30)
                  have h49 := ib_eq (ib_any r28) (ib_c 32 32 32 rfl) c30
                  have h50 : ib r28 32 32 := ib_w 32 32 h49.1 rfl
                  have h51 : ib J23_l3 0 1602 := ⟨(hJ23_l3).1, by have := (hJ23_l3).2; have := hJ23_lin0; have := (h27).2; omega⟩
                  exact jn52  H locs ls (ib_w 0 1603 h51 rfl) (ib_w 0 1 hJ23_l4 rfl) (ib_w 0 3 h27 rfl) (ib_w 0 1599 hK23_x_this_at rfl) (ib_w 1 1 hK23_x_this_sort rfl) (by exact hq) hP hD hS (lv_sub hl [0, 1, 2, 3, 4, 5] rfl)
  refine lv_aload_n hx hb dX5_wordIn_0 rfl (lv_at hl 0 rfl) ?_
  refine k_get C0 fg_X5_21 hP 0 rfl rfl dX5_wordIn_1 ?_
  refine lv_iconst (v := 1) hx hb dX5_wordIn_4 rfl ?_
  refine lv_icmp_eq (tgt := 10) hx hb dX5_wordIn_5 rfl (fun c52 => ?_) (fun c52 => ?_)
  · replace hq := lf_pos hq (lf_eq (lf_rf x_this_sort) (lf_lc 1 (1 : Int) rfl) c52)
    have h53 := ib_eq hx_this_sort (ib_c 1 1 1 rfl) c52
    have h54 : ib x_this_sort 1 1 := ib_w 1 1 h53.1 rfl
    have h55 : ib x_this_at 0 1599 := ib_w 0 1599 (ib_two hx_this_at (hc0_this (ib_nz h54 rfl))) rfl
    refine lv_iconst (v := 0) hx hb dX5_wordIn_10 rfl ?_
    refine lv_istore_n (lv' := [(2, .int 0), (0, .ref a_this), (1, .ref (sq 16))]) hx hb dX5_wordIn_11 rfl hl (Nat.le_of_ble_eq_true rfl) rfl (fun ls hl => ?_)
    refine lv_aload_n hx hb dX5_wordIn_12 rfl (lv_at hl 1 rfl) ?_
    refine k_get C0 fg_X5_15 hP 0 rfl rfl dX5_wordIn_13 ?_
    refine lv_istore_n (lv' := [(3, .int x_this_at), (2, .int 0), (0, .ref a_this), (1, .ref (sq 16))]) hx hb dX5_wordIn_16 rfl hl (Nat.le_of_ble_eq_true rfl) rfl (fun ls hl => ?_)
    refine lv_iconst (v := 1) hx hb dX5_wordIn_17 rfl ?_
    refine lv_istore (lv' := [(4, .int 1), (3, .int x_this_at), (2, .int 0), (0, .ref a_this), (1, .ref (sq 16))]) hx hb dX5_wordIn_18 hl (Nat.le_of_ble_eq_true rfl) rfl (fun ls hl => ?_)
    refine lv_iconst (v := 0) hx hb dX5_wordIn_20 rfl ?_
    refine lv_istore (lv' := [(5, .int 0), (4, .int 1), (3, .int x_this_at), (2, .int 0), (0, .ref a_this), (1, .ref (sq 16))]) hx hb dX5_wordIn_21 hl (Nat.le_of_ble_eq_true rfl) rfl (fun ls hl => ?_)
    exact jn23 6 0 x_this_at 1 0 H locs ls (ib_w 0 1599 h55 rfl) (ib_w 1 1 h54 rfl) (ib_w 0 1603 h55 rfl) (ib_w 0 1 (ib_c 1 1 1 rfl) rfl) (ib_w 0 4 (ib_c 0 0 0 rfl) rfl) (by have : (0 : Int32).toInt = 0 := rfl; have := (h55).2; omega) (by try simp only [show (0 : Int32).toInt = (0 : Int) from rfl]; try simp only [show (1 : Int32).toInt = (1 : Int) from rfl]; exact hq) (by have := (ib_c 0 0 0 rfl); unfold ib at this; omega) hP hD hS (lv_sub hl [4, 5, 3, 2, 1, 0] rfl)
  · replace hq := lf_neg hq (lf_ne (lf_rf x_this_sort) (lf_lc 1 (1 : Int) rfl) c52)
    refine lv_iconst (v := (-1)) hx hb dX5_wordIn_8 rfl ?_
    subst hQ; exact k_iret hx hb hr hlk rfl () hS ((hO.symm.trans (by try simp only [show ((-1) : Int32).toInt = (-1 : Int) from rfl]; exact hq))) hP hD (Nat.le_of_ble_eq_true rfl) (Nat.le_of_ble_eq_true rfl) dX5_wordIn_9
set_option maxHeartbeats 4000000 in
set_option maxRecDepth 100000 in
theorem s_X5_takeWord_s16 (l : Launch) (dC : Nat → ClassId) (dI : Nat → Nat → Nat) (cy : Nat → ClassId) (sq : Nat → Nat) (a_this : Nat) (a_this_text : Nat) (g_this_text : Nat → Int32) (x_this_length : Int32) (x_this_at : Int32) (x_this_behind : Int32) (x_this_sort : Int32) (x_this_allowed : Int32) (a_this_plan : Nat) (x_this_fault : Int32) (x_this_place : Int32) (hg_this_text : ia g_this_text 1600 0 255) (hx_this_length : ib x_this_length 0 1600) (hx_this_at : ib x_this_at 0 1600) (hx_this_behind : ib x_this_behind 0 1600) (hx_this_sort : ib x_this_sort 0 4) (hc0_this : ¬ x_this_sort = 0 → ib x_this_at 0 1599) : k_Met l yX5_takeWord cX5_takeWord 3 (some .boolean) { frames := 5, cells := 0, slots := 0, locals := 166 } dC dI cy sq [.ref a_this, .ref (sq 16)] [(wo_5_riiiiirii a_this a_this_text x_this_length x_this_at x_this_behind x_this_sort x_this_allowed a_this_plan x_this_fault x_this_place), (wi_0_1600_0 a_this_text cy g_this_text)] (k_Qi dC dI (fun (r : Int32) (u : Int32 × Int32 × Int32) => match u with | (n0, n1, n2) => ib r 0 1 ∧ ib n0 0 1600 ∧ ib n1 0 1600 ∧ ib n2 0 4 ∧ (¬ n2 = 0 → ib n0 0 1599) ∧ (F_X5_takeWord_s16 (lf_A g_this_text) (Int32.toInt x_this_length) (Int32.toInt x_this_at) (Int32.toInt x_this_behind) (Int32.toInt x_this_sort) = ((Int32.toInt r), (Int32.toInt n0), (Int32.toInt n1), (Int32.toInt n2)))) (fun u : Int32 × Int32 × Int32 => match u with | (n0, n1, n2) => [(wo_5_riiiiirii a_this a_this_text x_this_length n0 n1 n2 x_this_allowed a_this_plan x_this_fault x_this_place), (wi_0_1600_0 a_this_text cy g_this_text)])) := by
  refine k_ofW2 (by decide +kernel) (Nat.le_of_ble_eq_true rfl) ?_
  intro p e s m below meth c A ls H locs args Q hQ C0 hZ hr hlk hin hP hD hA hS hl
  have C0 : k_cx p s m args c cX5_takeWord 3 RX5 dC dI cy sq := C0
  have hx := C0.1
  have hb := C0.2.1
  have hl : lv_has ls 3 [(0, .ref a_this), (1, .ref (sq 16))] := hl
  obtain ⟨O, hO⟩ : ∃ o, o = F_X5_takeWord_s16 (lf_A g_this_text) (Int32.toInt x_this_length) (Int32.toInt x_this_at) (Int32.toInt x_this_behind) (Int32.toInt x_this_sort) := ⟨_, rfl⟩
  have hq := hO
  unfold F_X5_takeWord_s16 at hq
  have jn27 : ∀ (J27_l2 : Int32) (J27_c0_2 : Int32) (J27_c0_3 : Int32) (J27_c0_4 : Int32) (H : Heap) (locs : List Loc) (ls : Array Slot), ib J27_l2 0 1 → ib J27_c0_2 0 1600 → ib J27_c0_3 0 1600 → ib J27_c0_4 0 4 → (¬ J27_c0_4 = 0 → ib J27_c0_2 0 1599) → (O = F_X5_takeWord_s16_27 (Int32.toInt J27_l2) (Int32.toInt J27_c0_2) (Int32.toInt J27_c0_3) (Int32.toInt J27_c0_4)) → va_P (dC, dI) vwCl [(wo_5_riiiiirii a_this a_this_text x_this_length J27_c0_2 J27_c0_3 J27_c0_4 x_this_allowed a_this_plan x_this_fault x_this_place), (wi_0_1600_0 a_this_text cy g_this_text)] H → va_D A [(wo_5_riiiiirii a_this a_this_text x_this_length J27_c0_2 J27_c0_3 J27_c0_4 x_this_allowed a_this_plan x_this_fault x_this_place), (wi_0_1600_0 a_this_text cy g_this_text)] → va_S A s.heap H locs → lv_has ls 3 [(0, .ref a_this), (1, .ref (sq 16)), (2, .int J27_l2)] → W p l e { frames := 5, cells := 0, slots := 0, locals := 166 } s m args below meth c H locs 0 0 Q (F0 m 27 ls []) := by
    intro J27_l2 J27_c0_2 J27_c0_3 J27_c0_4 H locs ls hJ27_l2 hJ27_c0_2 hJ27_c0_3 hJ27_c0_4 hJ27_ic0_0 hq hP hD hS hl
    unfold F_X5_takeWord_s16_27 at hq
    refine lv_iload_n hx hb dX5_takeWord_27 rfl (lv_at hl 2 rfl) ?_
    subst hQ; exact k_iret hx hb hr hlk (ib_bool (ib_w 0 1 hJ27_l2 rfl)) ((J27_c0_2, J27_c0_3, J27_c0_4)) hS ⟨ib_w 0 1 hJ27_l2 rfl, ib_w 0 1600 hJ27_c0_2 rfl, ib_w 0 1600 hJ27_c0_3 rfl, ib_w 0 4 hJ27_c0_4 rfl, fun hq9 => ib_w 0 1599 (hJ27_ic0_0 hq9) rfl, (hO.symm.trans (by exact hq))⟩ hP hD (Nat.le_of_ble_eq_true rfl) (Nat.le_of_ble_eq_true rfl) dX5_takeWord_28
  have jn14 : ∀ (J14_s0 : Int32) (H : Heap) (locs : List Loc) (ls : Array Slot), ib J14_s0 0 1 → (O = F_X5_takeWord_s16_14 (lf_A g_this_text) (Int32.toInt x_this_length) (Int32.toInt x_this_at) (Int32.toInt x_this_behind) (Int32.toInt x_this_sort) (Int32.toInt J14_s0)) → va_P (dC, dI) vwCl [(wo_5_riiiiirii a_this a_this_text x_this_length x_this_at x_this_behind x_this_sort x_this_allowed a_this_plan x_this_fault x_this_place), (wi_0_1600_0 a_this_text cy g_this_text)] H → va_D A [(wo_5_riiiiirii a_this a_this_text x_this_length x_this_at x_this_behind x_this_sort x_this_allowed a_this_plan x_this_fault x_this_place), (wi_0_1600_0 a_this_text cy g_this_text)] → va_S A s.heap H locs → lv_has ls 3 [(0, .ref a_this), (1, .ref (sq 16))] → W p l e { frames := 5, cells := 0, slots := 0, locals := 166 } s m args below meth c H locs 0 0 Q (F0 m 14 ls [.int J14_s0]) := by
    intro J14_s0 H locs ls hJ14_s0 hq hP hD hS hl
    unfold F_X5_takeWord_s16_14 at hq
    refine lv_istore_n (lv' := [(2, .int J14_s0), (0, .ref a_this), (1, .ref (sq 16))]) hx hb dX5_takeWord_14 rfl hl (Nat.le_of_ble_eq_true rfl) rfl (fun ls hl => ?_)
    refine lv_iload_n hx hb dX5_takeWord_15 rfl (lv_at hl 0 rfl) ?_
    refine lv_if_eq (tgt := 27) hx hb dX5_takeWord_16 rfl (fun c1 => ?_) (fun c1 => ?_)
    · replace hq := lf_pos hq (lf_eq (lf_rf J14_s0) (lf_lc 0 (0 : Int) rfl) c1)
      have h2 := ib_eq hJ14_s0 (ib_c 0 0 0 rfl) c1
      have h3 : ib J14_s0 0 0 := ib_w 0 0 h2.1 rfl
      exact jn27 J14_s0 x_this_at x_this_behind x_this_sort H locs ls (ib_w 0 1 h3 rfl) (ib_w 0 1600 hx_this_at rfl) (ib_w 0 1600 hx_this_behind rfl) (ib_w 0 4 hx_this_sort rfl) (fun hq9 => ib_w 0 1599 (hc0_this hq9) rfl) (by exact hq) hP hD hS (lv_sub hl [1, 2, 0] rfl)
    · replace hq := lf_neg hq (lf_ne (lf_rf J14_s0) (lf_lc 0 (0 : Int) rfl) c1)
      have h4 : ib J14_s0 1 1 := ib_w 1 1 (ib_ne_lo 0 hJ14_s0 rfl c1) rfl
      refine lv_aload_n hx hb dX5_takeWord_19 rfl (lv_at hl 1 rfl) ?_
      refine lv_aload_n hx hb dX5_takeWord_20 rfl (lv_at hl 1 rfl) ?_
      refine k_get C0 fg_X5_18 hP 0 rfl rfl dX5_takeWord_21 ?_
      refine k_jvm hP hD hS hA [0, 1] [] rfl rfl rfl 0 0 (Nat.le_of_ble_eq_true rfl) (Nat.le_of_ble_eq_true rfl) (fun hPc hDc => k_runV (As := [.int x_this_behind]) (rest := []) C0 hZ hS hA (s_X5_moveTo l dC dI cy sq a_this a_this_text g_this_text x_this_length x_this_at x_this_behind x_this_sort x_this_allowed a_this_plan x_this_fault x_this_place x_this_behind hg_this_text (ib_w 0 1600 hx_this_length rfl) (ib_w 0 1600 hx_this_behind rfl)) mV_X5_86 hPc hDc rfl rfl rfl hl rfl rfl (Nat.le_of_ble_eq_true rfl) ⟨(Nat.le_of_ble_eq_true rfl), (Nat.le_of_ble_eq_true rfl)⟩ ⟨(Nat.le_of_ble_eq_true rfl), (Nat.le_of_ble_eq_true rfl)⟩ dX5_takeWord_24) (fun u6 H locs hw hP hD hS => ?_)
      obtain ⟨v7, v8, v9⟩ := u6
      try dsimp only at hP hD hw
      replace hP : va_P (dC, dI) vwCl [(wo_5_riiiiirii a_this a_this_text x_this_length v7 v8 v9 x_this_allowed a_this_plan x_this_fault x_this_place), (wi_0_1600_0 a_this_text cy g_this_text)] H := hP
      replace hD := k_D hP hD
      obtain ⟨h10, h11, h12, h13, h14⟩ := hw
      replace hq := lf_p1 hq h14
      replace hq := lf_p1 hq rfl
      exact jn27 J14_s0 v7 v8 v9 H locs ls (ib_w 0 1 h4 rfl) (ib_w 0 1600 h10 rfl) (ib_w 0 1600 h11 rfl) (ib_w 0 4 h12 rfl) (fun hq9 => ib_w 0 1599 (h13 hq9) rfl) (by exact hq) hP hD hS (lv_sub hl [1, 2, 0] rfl)
  refine lv_aload_n hx hb dX5_takeWord_0 rfl (lv_at hl 0 rfl) ?_
  refine lv_aload_n hx hb dX5_takeWord_1 rfl (lv_at hl 1 rfl) ?_
  refine k_jim hP hD hS hA [0, 1] [] rfl rfl rfl 0 0 (Nat.le_of_ble_eq_true rfl) (Nat.le_of_ble_eq_true rfl) (fun hPc hDc => k_runV (As := [.ref (sq 16)]) (rest := []) C0 hZ hS hA (s_X5_wordIn_s16 l dC dI cy sq a_this a_this_text g_this_text x_this_length x_this_at x_this_behind x_this_sort x_this_allowed a_this_plan x_this_fault x_this_place hg_this_text (ib_w 0 1600 hx_this_at rfl) (ib_w 0 1600 hx_this_behind rfl) (ib_w 0 4 hx_this_sort rfl) (fun hq9 => ib_w 0 1599 (hc0_this hq9) rfl)) mV_X5_54 hPc hDc rfl rfl rfl hl rfl rfl (Nat.le_of_ble_eq_true rfl) ⟨(Nat.le_of_ble_eq_true rfl), (Nat.le_of_ble_eq_true rfl)⟩ ⟨(Nat.le_of_ble_eq_true rfl), (Nat.le_of_ble_eq_true rfl)⟩ dX5_takeWord_2) (fun r15 u16 H locs hw hP hD hS => ?_)
  try dsimp only at hP hD hw
  replace hP : va_P (dC, dI) vwCl [(wo_5_riiiiirii a_this a_this_text x_this_length x_this_at x_this_behind x_this_sort x_this_allowed a_this_plan x_this_fault x_this_place), (wi_0_1600_0 a_this_text cy g_this_text)] H := hP
  replace hD := k_D hP hD
  have h17 := hw
  replace hq := lf_b1 hq h17
  refine lv_iconst (v := (-1)) hx hb dX5_takeWord_5 rfl ?_
  refine lv_icmp_eq (tgt := 13) hx hb dX5_takeWord_6 rfl (fun c18 => ?_) (fun c18 => ?_)
  · replace hq := lf_pos hq (lf_eq (lf_rf r15) (lf_lc (-1) (-1 : Int) rfl) c18)
    have h19 := ib_eq (ib_any r15) (ib_c (-1) (-1) (-1) rfl) c18
    have h20 : ib r15 (-1) (-1) := ib_w (-1) (-1) h19.1 rfl
    refine lv_iconst (v := 0) hx hb dX5_takeWord_13 rfl ?_
    exact jn14 0 H locs ls (ib_w 0 1 (ib_c 0 0 0 rfl) rfl) (by try simp only [show (0 : Int32).toInt = (0 : Int) from rfl]; exact hq) hP hD hS (lv_sub hl [0, 1] rfl)
  · replace hq := lf_neg hq (lf_ne (lf_rf r15) (lf_lc (-1) (-1 : Int) rfl) c18)
    refine lv_iconst (v := 1) hx hb dX5_takeWord_9 rfl ?_
    refine lv_goto (tgt := 14) hx hb dX5_takeWord_10 rfl ?_
    exact jn14 1 H locs ls (ib_w 0 1 (ib_c 1 1 1 rfl) rfl) (by try simp only [show (1 : Int32).toInt = (1 : Int) from rfl]; exact hq) hP hD hS (lv_sub hl [0, 1] rfl)
set_option maxHeartbeats 4000000 in
set_option maxRecDepth 100000 in
theorem s_X5_wordIn_s17 (l : Launch) (dC : Nat → ClassId) (dI : Nat → Nat → Nat) (cy : Nat → ClassId) (sq : Nat → Nat) (a_this : Nat) (a_this_text : Nat) (g_this_text : Nat → Int32) (x_this_length : Int32) (x_this_at : Int32) (x_this_behind : Int32) (x_this_sort : Int32) (x_this_allowed : Int32) (a_this_plan : Nat) (x_this_fault : Int32) (x_this_place : Int32) (hg_this_text : ia g_this_text 1600 0 255) (hx_this_at : ib x_this_at 0 1600) (hx_this_behind : ib x_this_behind 0 1600) (hx_this_sort : ib x_this_sort 0 4) (hc0_this : ¬ x_this_sort = 0 → ib x_this_at 0 1599) : k_Met l yX5_wordIn cX5_wordIn 6 (some .int) { frames := 4, cells := 0, slots := 0, locals := 141 } dC dI cy sq [.ref a_this, .ref (sq 17)] [(wo_5_riiiiirii a_this a_this_text x_this_length x_this_at x_this_behind x_this_sort x_this_allowed a_this_plan x_this_fault x_this_place), (wi_0_1600_0 a_this_text cy g_this_text)] (k_Qi dC dI (fun (r : Int32) (_ : Unit) => (F_X5_wordIn_s17 (lf_A g_this_text) (Int32.toInt x_this_at) (Int32.toInt x_this_behind) (Int32.toInt x_this_sort) = ((Int32.toInt r)))) (fun _ : Unit => [(wo_5_riiiiirii a_this a_this_text x_this_length x_this_at x_this_behind x_this_sort x_this_allowed a_this_plan x_this_fault x_this_place), (wi_0_1600_0 a_this_text cy g_this_text)])) := by
  refine k_ofW2 (by decide +kernel) (Nat.le_of_ble_eq_true rfl) ?_
  intro p e s m below meth c A ls H locs args Q hQ C0 hZ hr hlk hin hP hD hA hS hl
  have C0 : k_cx p s m args c cX5_wordIn 6 RX5 dC dI cy sq := C0
  have hx := C0.1
  have hb := C0.2.1
  have hl : lv_has ls 6 [(0, .ref a_this), (1, .ref (sq 17))] := hl
  obtain ⟨O, hO⟩ : ∃ o, o = F_X5_wordIn_s17 (lf_A g_this_text) (Int32.toInt x_this_at) (Int32.toInt x_this_behind) (Int32.toInt x_this_sort) := ⟨_, rfl⟩
  have hq := hO
  unfold F_X5_wordIn_s17 at hq
  have jn23 : ∀ (n : Nat) (J23_l2 : Int32) (J23_l3 : Int32) (J23_l4 : Int32) (J23_l5 : Int32) (H : Heap) (locs : List Loc) (ls : Array Slot), ib x_this_at 0 1599 → ib x_this_sort 1 1 → ib J23_l3 0 1603 → ib J23_l4 0 1 → ib J23_l5 0 4 → (1 * J23_l3.toInt + (-1) * J23_l5.toInt ≤ 1600) → (O = F_X5_wordIn_s17_23 (lf_A g_this_text) (Int32.toInt x_this_at) (Int32.toInt x_this_behind) n (Int32.toInt J23_l2) (Int32.toInt J23_l3) (Int32.toInt J23_l4) (Int32.toInt J23_l5)) → 5 ≤ J23_l5.toInt + (n : Int) → va_P (dC, dI) vwCl [(wo_5_riiiiirii a_this a_this_text x_this_length x_this_at x_this_behind x_this_sort x_this_allowed a_this_plan x_this_fault x_this_place), (wi_0_1600_0 a_this_text cy g_this_text)] H → va_D A [(wo_5_riiiiirii a_this a_this_text x_this_length x_this_at x_this_behind x_this_sort x_this_allowed a_this_plan x_this_fault x_this_place), (wi_0_1600_0 a_this_text cy g_this_text)] → va_S A s.heap H locs → lv_has ls 6 [(0, .ref a_this), (1, .ref (sq 17)), (2, .int J23_l2), (3, .int J23_l3), (4, .int J23_l4), (5, .int J23_l5)] → W p l e { frames := 4, cells := 0, slots := 0, locals := 141 } s m args below meth c H locs 0 0 Q (F0 m 23 ls []) := by
    as_aux_lemma =>
      intro n
      induction n with
      | zero =>
        intro J23_l2 J23_l3 J23_l4 J23_l5 H locs ls hK23_x_this_at hK23_x_this_sort hJ23_l3 hJ23_l4 hJ23_l5 hJ23_lin0 hq hm
        exact absurd hm (by have := hJ23_l5; unfold ib at this; omega)
      | succ n ih =>
        intro J23_l2 J23_l3 J23_l4 J23_l5 H locs ls hK23_x_this_at hK23_x_this_sort hJ23_l3 hJ23_l4 hJ23_l5 hJ23_lin0 hq hm23 hP hD hS hl
        have ih23 := ih
        obtain ⟨K23, hK23⟩ : ∃ K, K = F_X5_wordIn_s17_23 (lf_A g_this_text) (Int32.toInt x_this_at) (Int32.toInt x_this_behind) n := ⟨_, rfl⟩
        have hq : O = F_X5_wordIn_s17_23b (lf_A g_this_text) (Int32.toInt x_this_at) (Int32.toInt x_this_behind) K23 (Int32.toInt J23_l2) (Int32.toInt J23_l3) (Int32.toInt J23_l4) (Int32.toInt J23_l5) := by rw [hK23]; exact hq
        unfold F_X5_wordIn_s17_23b at hq
        have jn119 : ∀ (J119_l2 : Int32) (J119_l3 : Int32) (J119_l4 : Int32) (H : Heap) (locs : List Loc) (ls : Array Slot), ib x_this_at 0 1599 → ib J23_l5 0 3 → ib x_this_sort 1 1 → ib J119_l3 0 1603 → ib J119_l4 0 1 → (1 * J119_l3.toInt + (-1) * J23_l5.toInt ≤ 1601) → (O = F_X5_wordIn_s17_119 (Int32.toInt J23_l5) K23 (Int32.toInt J119_l2) (Int32.toInt J119_l3) (Int32.toInt J119_l4)) → va_P (dC, dI) vwCl [(wo_5_riiiiirii a_this a_this_text x_this_length x_this_at x_this_behind x_this_sort x_this_allowed a_this_plan x_this_fault x_this_place), (wi_0_1600_0 a_this_text cy g_this_text)] H → va_D A [(wo_5_riiiiirii a_this a_this_text x_this_length x_this_at x_this_behind x_this_sort x_this_allowed a_this_plan x_this_fault x_this_place), (wi_0_1600_0 a_this_text cy g_this_text)] → va_S A s.heap H locs → lv_has ls 6 [(0, .ref a_this), (1, .ref (sq 17)), (2, .int J119_l2), (3, .int J119_l3), (4, .int J119_l4), (5, .int J23_l5)] → W p l e { frames := 4, cells := 0, slots := 0, locals := 141 } s m args below meth c H locs 0 0 Q (F0 m 119 ls []) := by
          intro J119_l2 J119_l3 J119_l4 H locs ls hK119_x_this_at hK119_J23_l5 hK119_x_this_sort hJ119_l3 hJ119_l4 hJ119_lin0 hq hP hD hS hl
          unfold F_X5_wordIn_s17_119 at hq
          obtain ⟨z1, ez1⟩ : ∃ y : Int32, y = J23_l5 + 1 := ⟨_, rfl⟩
          refine lv_iinc (v := z1) (lv' := [(5, .int z1), (0, .ref a_this), (1, .ref (sq 17)), (2, .int J119_l2), (3, .int J119_l3), (4, .int J119_l4)]) hx hb dX5_wordIn_119 hl (k := 5) rfl (by rw [ez1]; rfl) (Nat.le_of_ble_eq_true rfl) rfl (fun ls hl => ?_)
          have h2 := ib_add hK119_J23_l5 (ib_c 1 1 1 rfl) rfl
          rw [← ez1] at h2
          have h3 : ib z1 1 4 := ib_w 1 4 h2.1 rfl
          have Ez1 := lf_add h2.2 (lf_rf J23_l5) (lf_lc 1 (1 : Int) rfl)
          refine lv_goto (tgt := 23) hx hb dX5_wordIn_122 rfl ?_
          exact ih23 J119_l2 J119_l3 J119_l4 z1 H locs ls (ib_w 0 1599 hK119_x_this_at rfl) (ib_w 1 1 hK119_x_this_sort rfl) (ib_w 0 1603 hJ119_l3 rfl) (ib_w 0 1 hJ119_l4 rfl) (ib_w 0 4 h3 rfl) (by have := h2.2; have : (1 : Int32).toInt = 1 := rfl; have := hJ119_lin0; omega) (by rw [← hK23]; rw [lf_u Ez1]; exact hq) (by have := h2.2; have : (1 : Int32).toInt = 1 := rfl; omega) hP hD hS (lv_sub hl [1, 2, 3, 4, 5, 0] rfl)
        have jn114 : ∀ (J114_s0 : Int32) (H : Heap) (locs : List Loc) (ls : Array Slot), ib J23_l3 0 1602 → ib J23_l4 0 1 → ib J23_l5 0 2 → ib x_this_at 0 1599 → ib x_this_sort 1 1 → ib J114_s0 0 1 → (1 * J23_l3.toInt + (-1) * J23_l5.toInt ≤ 1600) → (O = F_X5_wordIn_s17_114 (Int32.toInt J23_l2) (Int32.toInt J23_l3) (Int32.toInt J23_l5) K23 (Int32.toInt J114_s0)) → va_P (dC, dI) vwCl [(wo_5_riiiiirii a_this a_this_text x_this_length x_this_at x_this_behind x_this_sort x_this_allowed a_this_plan x_this_fault x_this_place), (wi_0_1600_0 a_this_text cy g_this_text)] H → va_D A [(wo_5_riiiiirii a_this a_this_text x_this_length x_this_at x_this_behind x_this_sort x_this_allowed a_this_plan x_this_fault x_this_place), (wi_0_1600_0 a_this_text cy g_this_text)] → va_S A s.heap H locs → lv_has ls 6 [(0, .ref a_this), (1, .ref (sq 17)), (2, .int J23_l2), (3, .int J23_l3), (4, .int J23_l4), (5, .int J23_l5)] → W p l e { frames := 4, cells := 0, slots := 0, locals := 141 } s m args below meth c H locs 0 0 Q (F0 m 114 ls [.int J114_s0]) := by
          intro J114_s0 H locs ls hK114_J23_l3 hK114_J23_l4 hK114_J23_l5 hK114_x_this_at hK114_x_this_sort hJ114_s0 hJ114_lin0 hq hP hD hS hl
          unfold F_X5_wordIn_s17_114 at hq
          refine lv_istore (lv' := [(4, .int J114_s0), (0, .ref a_this), (1, .ref (sq 17)), (2, .int J23_l2), (3, .int J23_l3), (5, .int J23_l5)]) hx hb dX5_wordIn_114 hl (Nat.le_of_ble_eq_true rfl) rfl (fun ls hl => ?_)
          obtain ⟨z4, ez4⟩ : ∃ y : Int32, y = J23_l3 + 1 := ⟨_, rfl⟩
          refine lv_iinc (v := z4) (lv' := [(3, .int z4), (4, .int J114_s0), (0, .ref a_this), (1, .ref (sq 17)), (2, .int J23_l2), (5, .int J23_l5)]) hx hb dX5_wordIn_116 hl (k := 4) rfl (by rw [ez4]; rfl) (Nat.le_of_ble_eq_true rfl) rfl (fun ls hl => ?_)
          have h5 := ib_add hK114_J23_l3 (ib_c 1 1 1 rfl) rfl
          rw [← ez4] at h5
          have h6 : ib z4 1 1603 := ib_w 1 1603 h5.1 rfl
          have Ez4 := lf_add h5.2 (lf_rf J23_l3) (lf_lc 1 (1 : Int) rfl)
          exact jn119 J23_l2 z4 J114_s0 H locs ls (ib_w 0 1599 hK114_x_this_at rfl) (ib_w 0 3 hK114_J23_l5 rfl) (ib_w 1 1 hK114_x_this_sort rfl) (ib_w 0 1603 h6 rfl) (ib_w 0 1 hJ114_s0 rfl) (by have := (hK114_J23_l5).1; have := hJ23_lin0; have := (h6).2; have := h5.2; have : (1 : Int32).toInt = 1 := rfl; omega) (by rw [lf_u Ez4]; exact hq) hP hD hS (lv_sub hl [2, 3, 4, 0, 1, 5] rfl)
        have jn113 : ∀  (H : Heap) (locs : List Loc) (ls : Array Slot), ib J23_l3 0 1602 → ib J23_l4 0 1 → ib J23_l5 0 2 → ib x_this_at 0 1599 → ib x_this_sort 1 1 → (1 * J23_l3.toInt + (-1) * J23_l5.toInt ≤ 1600) → (O = F_X5_wordIn_s17_113 (Int32.toInt J23_l2) (Int32.toInt J23_l3) (Int32.toInt J23_l5) K23 ) → va_P (dC, dI) vwCl [(wo_5_riiiiirii a_this a_this_text x_this_length x_this_at x_this_behind x_this_sort x_this_allowed a_this_plan x_this_fault x_this_place), (wi_0_1600_0 a_this_text cy g_this_text)] H → va_D A [(wo_5_riiiiirii a_this a_this_text x_this_length x_this_at x_this_behind x_this_sort x_this_allowed a_this_plan x_this_fault x_this_place), (wi_0_1600_0 a_this_text cy g_this_text)] → va_S A s.heap H locs → lv_has ls 6 [(0, .ref a_this), (1, .ref (sq 17)), (2, .int J23_l2), (3, .int J23_l3), (4, .int J23_l4), (5, .int J23_l5)] → W p l e { frames := 4, cells := 0, slots := 0, locals := 141 } s m args below meth c H locs 0 0 Q (F0 m 113 ls []) := by
          intro H locs ls hK113_J23_l3 hK113_J23_l4 hK113_J23_l5 hK113_x_this_at hK113_x_this_sort hJ113_lin0 hq hP hD hS hl
          unfold F_X5_wordIn_s17_113 at hq
          refine lv_iconst (v := 0) hx hb dX5_wordIn_113 rfl ?_
          exact jn114 0 H locs ls (ib_w 0 1602 hK113_J23_l3 rfl) (ib_w 0 1 hK113_J23_l4 rfl) (ib_w 0 2 hK113_J23_l5 rfl) (ib_w 0 1599 hK113_x_this_at rfl) (ib_w 1 1 hK113_x_this_sort rfl) (ib_w 0 1 (ib_c 0 0 0 rfl) rfl) (by have := hJ23_lin0; omega) (by try simp only [show (0 : Int32).toInt = (0 : Int) from rfl]; exact hq) hP hD hS (lv_sub hl [0, 1, 2, 3, 4, 5] rfl)
        have jn67 : ∀  (H : Heap) (locs : List Loc) (ls : Array Slot), ib J23_l3 0 1603 → ib J23_l4 0 1 → ib J23_l5 0 3 → ib x_this_at 0 1599 → ib x_this_sort 1 1 → (O = F_X5_wordIn_s17_67 (Int32.toInt x_this_at) (Int32.toInt J23_l2) (Int32.toInt J23_l5) K23 ) → va_P (dC, dI) vwCl [(wo_5_riiiiirii a_this a_this_text x_this_length x_this_at x_this_behind x_this_sort x_this_allowed a_this_plan x_this_fault x_this_place), (wi_0_1600_0 a_this_text cy g_this_text)] H → va_D A [(wo_5_riiiiirii a_this a_this_text x_this_length x_this_at x_this_behind x_this_sort x_this_allowed a_this_plan x_this_fault x_this_place), (wi_0_1600_0 a_this_text cy g_this_text)] → va_S A s.heap H locs → lv_has ls 6 [(0, .ref a_this), (1, .ref (sq 17)), (2, .int J23_l2), (3, .int J23_l3), (4, .int J23_l4), (5, .int J23_l5)] → W p l e { frames := 4, cells := 0, slots := 0, locals := 141 } s m args below meth c H locs 0 0 Q (F0 m 67 ls []) := by
          intro H locs ls hK67_J23_l3 hK67_J23_l4 hK67_J23_l5 hK67_x_this_at hK67_x_this_sort hq hP hD hS hl
          unfold F_X5_wordIn_s17_67 at hq
          obtain ⟨z7, ez7⟩ : ∃ y : Int32, y = J23_l2 + 1 := ⟨_, rfl⟩
          refine lv_iinc (v := z7) (lv' := [(2, .int z7), (0, .ref a_this), (1, .ref (sq 17)), (3, .int J23_l3), (4, .int J23_l4), (5, .int J23_l5)]) hx hb dX5_wordIn_67 hl (k := 2) rfl (by rw [ez7]; rfl) (Nat.le_of_ble_eq_true rfl) rfl (fun ls hl => ?_)
          have Ez7 := lf_op lf_iadd ez7 (lf_rf J23_l2) (lf_lc 1 (1 : Int) rfl)
          refine lv_aload_n hx hb dX5_wordIn_70 rfl (lv_at hl 1 rfl) ?_
          refine k_get C0 fg_X5_15 hP 0 rfl rfl dX5_wordIn_71 ?_
          refine lv_istore_n (lv' := [(3, .int x_this_at), (2, .int z7), (0, .ref a_this), (1, .ref (sq 17)), (4, .int J23_l4), (5, .int J23_l5)]) hx hb dX5_wordIn_74 rfl hl (Nat.le_of_ble_eq_true rfl) rfl (fun ls hl => ?_)
          refine lv_iconst (v := 1) hx hb dX5_wordIn_75 rfl ?_
          refine lv_istore (lv' := [(4, .int 1), (3, .int x_this_at), (2, .int z7), (0, .ref a_this), (1, .ref (sq 17)), (5, .int J23_l5)]) hx hb dX5_wordIn_76 hl (Nat.le_of_ble_eq_true rfl) rfl (fun ls hl => ?_)
          refine lv_goto (tgt := 119) hx hb dX5_wordIn_78 rfl ?_
          exact jn119 z7 x_this_at 1 H locs ls (ib_w 0 1599 hK67_x_this_at rfl) (ib_w 0 3 hK67_J23_l5 rfl) (ib_w 1 1 hK67_x_this_sort rfl) (ib_w 0 1603 hK67_x_this_at rfl) (ib_w 0 1 (ib_c 1 1 1 rfl) rfl) (by have := (hK67_J23_l5).1; have := (hK67_x_this_at).2; omega) (by rw [lf_u Ez7]; try simp only [show (1 : Int32).toInt = (1 : Int) from rfl]; exact hq) hP hD hS (lv_sub hl [3, 4, 2, 1, 0, 5] rfl)
        have jn52 : ∀  (H : Heap) (locs : List Loc) (ls : Array Slot), ib J23_l3 0 1603 → ib J23_l4 0 1 → ib J23_l5 0 3 → ib x_this_at 0 1599 → ib x_this_sort 1 1 → (O = F_X5_wordIn_s17_52 (Int32.toInt x_this_at) (Int32.toInt x_this_behind) (Int32.toInt J23_l2) (Int32.toInt J23_l3) (Int32.toInt J23_l4) (Int32.toInt J23_l5) K23 ) → va_P (dC, dI) vwCl [(wo_5_riiiiirii a_this a_this_text x_this_length x_this_at x_this_behind x_this_sort x_this_allowed a_this_plan x_this_fault x_this_place), (wi_0_1600_0 a_this_text cy g_this_text)] H → va_D A [(wo_5_riiiiirii a_this a_this_text x_this_length x_this_at x_this_behind x_this_sort x_this_allowed a_this_plan x_this_fault x_this_place), (wi_0_1600_0 a_this_text cy g_this_text)] → va_S A s.heap H locs → lv_has ls 6 [(0, .ref a_this), (1, .ref (sq 17)), (2, .int J23_l2), (3, .int J23_l3), (4, .int J23_l4), (5, .int J23_l5)] → W p l e { frames := 4, cells := 0, slots := 0, locals := 141 } s m args below meth c H locs 0 0 Q (F0 m 52 ls []) := by
          as_aux_lemma =>
            intro H locs ls hK52_J23_l3 hK52_J23_l4 hK52_J23_l5 hK52_x_this_at hK52_x_this_sort hq hP hD hS hl
            unfold F_X5_wordIn_s17_52 at hq
            refine lv_iload hx hb dX5_wordIn_52 (lv_at hl 4 rfl) ?_
            refine lv_if_eq (tgt := 67) hx hb dX5_wordIn_54 rfl (fun c8 => ?_) (fun c8 => ?_)
            · replace hq := lf_pos hq (lf_eq (lf_rf J23_l4) (lf_lc 0 (0 : Int) rfl) c8)
              have h9 := ib_eq hK52_J23_l4 (ib_c 0 0 0 rfl) c8
              have h10 : ib J23_l4 0 0 := ib_w 0 0 h9.1 rfl
              exact jn67  H locs ls (ib_w 0 1603 hK52_J23_l3 rfl) (ib_w 0 1 h10 rfl) (ib_w 0 3 hK52_J23_l5 rfl) (ib_w 0 1599 hK52_x_this_at rfl) (ib_w 1 1 hK52_x_this_sort rfl) (by exact hq) hP hD hS (lv_sub hl [0, 1, 2, 3, 4, 5] rfl)
            · replace hq := lf_neg hq (lf_ne (lf_rf J23_l4) (lf_lc 0 (0 : Int) rfl) c8)
              have h11 : ib J23_l4 1 1 := ib_w 1 1 (ib_ne_lo 0 hK52_J23_l4 rfl c8) rfl
              refine lv_iload_n hx hb dX5_wordIn_57 rfl (lv_at hl 3 rfl) ?_
              refine lv_aload_n hx hb dX5_wordIn_58 rfl (lv_at hl 0 rfl) ?_
              refine k_get C0 fg_X5_18 hP 0 rfl rfl dX5_wordIn_59 ?_
              refine lv_icmp_ne (tgt := 67) hx hb dX5_wordIn_62 rfl (fun c12 => ?_) (fun c12 => ?_)
              · replace hq := lf_neg hq (lf_ne (lf_rf J23_l3) (lf_rf x_this_behind) c12)
                exact jn67  H locs ls (ib_w 0 1603 hK52_J23_l3 rfl) (ib_w 0 1 h11 rfl) (ib_w 0 3 hK52_J23_l5 rfl) (ib_w 0 1599 hK52_x_this_at rfl) (ib_w 1 1 hK52_x_this_sort rfl) (by exact hq) hP hD hS (lv_sub hl [0, 1, 2, 3, 4, 5] rfl)
              · replace hq := lf_pos hq (lf_eq (lf_rf J23_l3) (lf_rf x_this_behind) c12)
                have h13 := ib_eq hK52_J23_l3 hx_this_behind c12
                have h14 : ib J23_l3 0 1600 := ib_w 0 1600 h13.1 rfl
                refine lv_iload_n hx hb dX5_wordIn_65 rfl (lv_at hl 2 rfl) ?_
                subst hQ; exact k_iret hx hb hr hlk rfl () hS ((hO.symm.trans (by exact hq))) hP hD (Nat.le_of_ble_eq_true rfl) (Nat.le_of_ble_eq_true rfl) dX5_wordIn_66
        refine lv_iload hx hb dX5_wordIn_23 (lv_at hl 5 rfl) ?_
        refine lv_aload_n hx hb dX5_wordIn_25 rfl (lv_at hl 1 rfl) ?_
        refine k_jim hP hD hS hA [] [true, true] rfl rfl rfl 0 0 (Nat.le_of_ble_eq_true rfl) (Nat.le_of_ble_eq_true rfl) (fun hPc hDc => k_runVO (As := []) (rest := [.int J23_l5]) C0 hZ hS hA (c_length l dC dI cy sq 17 (by decide)) mV_X5_244 hPc hDc (vk_recv hZ.1 (by decide) hS) hl rfl rfl (Nat.le_of_ble_eq_true rfl) ⟨(Nat.le_of_ble_eq_true rfl), (Nat.le_of_ble_eq_true rfl)⟩ ⟨(Nat.le_of_ble_eq_true rfl), (Nat.le_of_ble_eq_true rfl)⟩ dX5_wordIn_26) (fun r15 u16 H locs hw hP hD hS => ?_)
        replace hP : va_P (dC, dI) vwCl [(wo_5_riiiiirii a_this a_this_text x_this_length x_this_at x_this_behind x_this_sort x_this_allowed a_this_plan x_this_fault x_this_place), (wi_0_1600_0 a_this_text cy g_this_text)] H := hP
        replace hD := k_D hP hD
        obtain rfl : r15 = 3 := hw.trans (by decide)
        refine lv_icmp_gt (tgt := 125) hx hb dX5_wordIn_29 rfl (fun c17 => ?_) (fun c17 => ?_)
        · replace hq := lf_pos hq (lf_lt (lf_lc 3 (3 : Int) rfl) (lf_rf J23_l5) c17)
          have h18 := ib_lt (ib_c 3 3 3 rfl) hJ23_l5 c17
          have h19 : ib J23_l5 4 4 := ib_w 4 4 h18.2 rfl
          refine lv_iconst (v := (-1)) hx hb dX5_wordIn_125 rfl ?_
          subst hQ; exact k_iret hx hb hr hlk rfl () hS ((hO.symm.trans (by try simp only [show ((-1) : Int32).toInt = (-1 : Int) from rfl]; exact hq))) hP hD (Nat.le_of_ble_eq_true rfl) (Nat.le_of_ble_eq_true rfl) dX5_wordIn_126
        · as_aux_lemma =>
            replace hq := lf_neg hq (lf_nlt (lf_lc 3 (3 : Int) rfl) (lf_rf J23_l5) c17)
            have h20 := ib_nlt (ib_c 3 3 3 rfl) hJ23_l5 c17
            have h21 : ib J23_l5 0 3 := ib_w 0 3 h20.2 rfl
            refine lv_iload hx hb dX5_wordIn_32 (lv_at hl 5 rfl) ?_
            refine lv_aload_n hx hb dX5_wordIn_34 rfl (lv_at hl 1 rfl) ?_
            refine k_jim hP hD hS hA [] [true, true] rfl rfl rfl 0 0 (Nat.le_of_ble_eq_true rfl) (Nat.le_of_ble_eq_true rfl) (fun hPc hDc => k_runVO (As := []) (rest := [.int J23_l5]) C0 hZ hS hA (c_length l dC dI cy sq 17 (by decide)) mV_X5_244 hPc hDc (vk_recv hZ.1 (by decide) hS) hl rfl rfl (Nat.le_of_ble_eq_true rfl) ⟨(Nat.le_of_ble_eq_true rfl), (Nat.le_of_ble_eq_true rfl)⟩ ⟨(Nat.le_of_ble_eq_true rfl), (Nat.le_of_ble_eq_true rfl)⟩ dX5_wordIn_35) (fun r22 u23 H locs hw hP hD hS => ?_)
            replace hP : va_P (dC, dI) vwCl [(wo_5_riiiiirii a_this a_this_text x_this_length x_this_at x_this_behind x_this_sort x_this_allowed a_this_plan x_this_fault x_this_place), (wi_0_1600_0 a_this_text cy g_this_text)] H := hP
            replace hD := k_D hP hD
            obtain rfl : r22 = 3 := hw.trans (by decide)
            refine lv_icmp_eq (tgt := 52) hx hb dX5_wordIn_38 rfl (fun c24 => ?_) (fun c24 => ?_)
            · replace hq := lf_pos hq (lf_eq (lf_rf J23_l5) (lf_lc 3 (3 : Int) rfl) c24)
              have h25 := ib_eq h21 (ib_c 3 3 3 rfl) c24
              have h26 : ib J23_l5 3 3 := ib_w 3 3 h25.1 rfl
              exact jn52  H locs ls (ib_w 0 1603 hJ23_l3 rfl) (ib_w 0 1 hJ23_l4 rfl) (ib_w 0 3 h26 rfl) (ib_w 0 1599 hK23_x_this_at rfl) (ib_w 1 1 hK23_x_this_sort rfl) (by exact hq) hP hD hS (lv_sub hl [0, 1, 2, 3, 4, 5] rfl)
            · as_aux_lemma =>
                replace hq := lf_neg hq (lf_ne (lf_rf J23_l5) (lf_lc 3 (3 : Int) rfl) c24)
                have h27 : ib J23_l5 0 2 := ib_w 0 2 (ib_ne_hi 3 h21 rfl c24) rfl
                refine lv_aload_n hx hb dX5_wordIn_41 rfl (lv_at hl 1 rfl) ?_
                refine lv_iload hx hb dX5_wordIn_42 (lv_at hl 5 rfl) ?_
                refine k_jim hP hD hS hA [] [true, true] rfl rfl rfl 0 0 (Nat.le_of_ble_eq_true rfl) (Nat.le_of_ble_eq_true rfl) (fun hPc hDc => k_runVO (As := [.int J23_l5]) (rest := []) C0 hZ hS hA (cx_charAt l dC dI cy sq 17 (by decide) J23_l5 (ib_ch 17 3 h27 rfl rfl).1 (ib_ch 17 3 h27 rfl rfl).2.1 (ib_ch 17 3 h27 rfl rfl).2.2) mV_X5_248 hPc hDc (vk_recv hZ.1 (by decide) hS) hl rfl rfl (Nat.le_of_ble_eq_true rfl) ⟨(Nat.le_of_ble_eq_true rfl), (Nat.le_of_ble_eq_true rfl)⟩ ⟨(Nat.le_of_ble_eq_true rfl), (Nat.le_of_ble_eq_true rfl)⟩ dX5_wordIn_44) (fun r28 u29 H locs hw hP hD hS => ?_)
                replace hP : va_P (dC, dI) vwCl [(wo_5_riiiiirii a_this a_this_text x_this_length x_this_at x_this_behind x_this_sort x_this_allowed a_this_plan x_this_fault x_this_place), (wi_0_1600_0 a_this_text cy g_this_text)] H := hP
                replace hD := k_D hP hD
                have Er28 := lf_cha (j := 17) hw (lf_rf J23_l5)
                refine lv_bipush (v := 32) hx hb dX5_wordIn_47 rfl ?_
                refine lv_icmp_ne (tgt := 81) hx hb dX5_wordIn_49 rfl (fun c30 => ?_) (fun c30 => ?_)
                · as_aux_lemma =>
                    replace hq := lf_neg hq (lf_ne Er28 (lf_lc 32 (32 : Int) rfl) c30)
                    refine lv_iload hx hb dX5_wordIn_81 (lv_at hl 4 rfl) ?_
                    refine lv_if_eq (tgt := 113) hx hb dX5_wordIn_83 rfl (fun c31 => ?_) (fun c31 => ?_)
                    · replace hq := lf_pos hq (lf_eq (lf_rf J23_l4) (lf_lc 0 (0 : Int) rfl) c31)
                      have h32 := ib_eq hJ23_l4 (ib_c 0 0 0 rfl) c31
                      have h33 : ib J23_l4 0 0 := ib_w 0 0 h32.1 rfl
                      have h34 : ib J23_l3 0 1602 := ⟨(hJ23_l3).1, by have := (hJ23_l3).2; have := hJ23_lin0; have := (h27).2; omega⟩
                      exact jn113  H locs ls (ib_w 0 1602 h34 rfl) (ib_w 0 1 h33 rfl) (ib_w 0 2 h27 rfl) (ib_w 0 1599 hK23_x_this_at rfl) (ib_w 1 1 hK23_x_this_sort rfl) (by have := hJ23_lin0; omega) (by exact hq) hP hD hS (lv_sub hl [0, 1, 2, 3, 4, 5] rfl)
                    · as_aux_lemma =>
                        replace hq := lf_neg hq (lf_ne (lf_rf J23_l4) (lf_lc 0 (0 : Int) rfl) c31)
                        have h35 : ib J23_l4 1 1 := ib_w 1 1 (ib_ne_lo 0 hJ23_l4 rfl c31) rfl
                        refine lv_iload_n hx hb dX5_wordIn_86 rfl (lv_at hl 3 rfl) ?_
                        refine lv_aload_n hx hb dX5_wordIn_87 rfl (lv_at hl 0 rfl) ?_
                        refine k_get C0 fg_X5_18 hP 0 rfl rfl dX5_wordIn_88 ?_
                        refine lv_icmp_ge (tgt := 113) hx hb dX5_wordIn_91 rfl (fun c36 => ?_) (fun c36 => ?_)
                        · replace hq := lf_pos hq (lf_le (lf_rf x_this_behind) (lf_rf J23_l3) c36)
                          have h37 := ib_le hx_this_behind hJ23_l3 c36
                          have h38 : ib J23_l3 0 1602 := ⟨(hJ23_l3).1, by have := (hJ23_l3).2; have := hJ23_lin0; have := (h27).2; omega⟩
                          exact jn113  H locs ls (ib_w 0 1602 h38 rfl) (ib_w 0 1 h35 rfl) (ib_w 0 2 h27 rfl) (ib_w 0 1599 hK23_x_this_at rfl) (ib_w 1 1 hK23_x_this_sort rfl) (by have := hJ23_lin0; omega) (by exact hq) hP hD hS (lv_sub hl [0, 1, 2, 3, 4, 5] rfl)
                        · as_aux_lemma =>
                            replace hq := lf_neg hq (lf_nle (lf_rf x_this_behind) (lf_rf J23_l3) c36)
                            have h39 := ib_nle hx_this_behind hJ23_l3 c36
                            have h40 : ib x_this_behind 1 1600 := ib_w 1 1600 h39.1 rfl
                            have h41 : ib J23_l3 0 1599 := ib_w 0 1599 h39.2 rfl
                            refine lv_aload_n hx hb dX5_wordIn_94 rfl (lv_at hl 0 rfl) ?_
                            refine k_get C0 fg_X5_33 hP 0 rfl rfl dX5_wordIn_95 ?_
                            refine lv_iload_n hx hb dX5_wordIn_98 rfl (lv_at hl 3 rfl) ?_
                            refine va_iald hx hb C0.2.2.2.2.2.1 hP 1 0 rfl rfl (ib_in 1600 h41 rfl) dX5_wordIn_99 ?_
                            refine lv_topi (fun z42 ez42 => ?_)
                            have h43 : ib z42 0 255 := by rw [ez42]; exact ia_at hg_this_text (ib_in 1600 h41 rfl)
                            have Ez42 := lf_ld ez42 (lf_ra g_this_text) (lf_rf J23_l3)
                            refine lv_aload_n hx hb dX5_wordIn_100 rfl (lv_at hl 1 rfl) ?_
                            refine lv_iload hx hb dX5_wordIn_101 (lv_at hl 5 rfl) ?_
                            refine k_jim hP hD hS hA [] [true, true] rfl rfl rfl 0 0 (Nat.le_of_ble_eq_true rfl) (Nat.le_of_ble_eq_true rfl) (fun hPc hDc => k_runVO (As := [.int J23_l5]) (rest := [.int z42]) C0 hZ hS hA (cx_charAt l dC dI cy sq 17 (by decide) J23_l5 (ib_ch 17 3 h27 rfl rfl).1 (ib_ch 17 3 h27 rfl rfl).2.1 (ib_ch 17 3 h27 rfl rfl).2.2) mV_X5_248 hPc hDc (vk_recv hZ.1 (by decide) hS) hl rfl rfl (Nat.le_of_ble_eq_true rfl) ⟨(Nat.le_of_ble_eq_true rfl), (Nat.le_of_ble_eq_true rfl)⟩ ⟨(Nat.le_of_ble_eq_true rfl), (Nat.le_of_ble_eq_true rfl)⟩ dX5_wordIn_103) (fun r44 u45 H locs hw hP hD hS => ?_)
                            replace hP : va_P (dC, dI) vwCl [(wo_5_riiiiirii a_this a_this_text x_this_length x_this_at x_this_behind x_this_sort x_this_allowed a_this_plan x_this_fault x_this_place), (wi_0_1600_0 a_this_text cy g_this_text)] H := hP
                            replace hD := k_D hP hD
                            have Er44 := lf_cha (j := 17) hw (lf_rf J23_l5)
                            refine lv_icmp_ne (tgt := 113) hx hb dX5_wordIn_106 rfl (fun c46 => ?_) (fun c46 => ?_)
                            · replace hq := lf_neg hq (lf_ne Ez42 Er44 c46)
                              exact jn113  H locs ls (ib_w 0 1602 h41 rfl) (ib_w 0 1 h35 rfl) (ib_w 0 2 h27 rfl) (ib_w 0 1599 hK23_x_this_at rfl) (ib_w 1 1 hK23_x_this_sort rfl) (by have := hJ23_lin0; omega) (by exact hq) hP hD hS (lv_sub hl [0, 1, 2, 3, 4, 5] rfl)
                            · replace hq := lf_pos hq (lf_eq Ez42 Er44 c46)
                              have h47 := ib_eq h43 (ib_any r44) c46
                              have h48 : ib r44 0 255 := ib_w 0 255 h47.2 rfl
                              refine lv_iconst (v := 1) hx hb dX5_wordIn_109 rfl ?_
                              refine lv_goto (tgt := 114) hx hb dX5_wordIn_110 rfl ?_
                              exact jn114 1 H locs ls (ib_w 0 1602 h41 rfl) (ib_w 0 1 h35 rfl) (ib_w 0 2 h27 rfl) (ib_w 0 1599 hK23_x_this_at rfl) (ib_w 1 1 hK23_x_this_sort rfl) (ib_w 0 1 (ib_c 1 1 1 rfl) rfl) (by have := hJ23_lin0; omega) (by try simp only [show (1 : Int32).toInt = (1 : Int) from rfl]; exact hq) hP hD hS (lv_sub hl [0, 1, 2, 3, 4, 5] rfl)
                · replace hq := lf_pos hq (lf_eq Er28 (lf_lc 32 (32 : Int) rfl) c30)
                  have h49 := ib_eq (ib_any r28) (ib_c 32 32 32 rfl) c30
                  have h50 : ib r28 32 32 := ib_w 32 32 h49.1 rfl
                  have h51 : ib J23_l3 0 1602 := ⟨(hJ23_l3).1, by have := (hJ23_l3).2; have := hJ23_lin0; have := (h27).2; omega⟩
                  exact jn52  H locs ls (ib_w 0 1603 h51 rfl) (ib_w 0 1 hJ23_l4 rfl) (ib_w 0 3 h27 rfl) (ib_w 0 1599 hK23_x_this_at rfl) (ib_w 1 1 hK23_x_this_sort rfl) (by exact hq) hP hD hS (lv_sub hl [0, 1, 2, 3, 4, 5] rfl)
  refine lv_aload_n hx hb dX5_wordIn_0 rfl (lv_at hl 0 rfl) ?_
  refine k_get C0 fg_X5_21 hP 0 rfl rfl dX5_wordIn_1 ?_
  refine lv_iconst (v := 1) hx hb dX5_wordIn_4 rfl ?_
  refine lv_icmp_eq (tgt := 10) hx hb dX5_wordIn_5 rfl (fun c52 => ?_) (fun c52 => ?_)
  · replace hq := lf_pos hq (lf_eq (lf_rf x_this_sort) (lf_lc 1 (1 : Int) rfl) c52)
    have h53 := ib_eq hx_this_sort (ib_c 1 1 1 rfl) c52
    have h54 : ib x_this_sort 1 1 := ib_w 1 1 h53.1 rfl
    have h55 : ib x_this_at 0 1599 := ib_w 0 1599 (ib_two hx_this_at (hc0_this (ib_nz h54 rfl))) rfl
    refine lv_iconst (v := 0) hx hb dX5_wordIn_10 rfl ?_
    refine lv_istore_n (lv' := [(2, .int 0), (0, .ref a_this), (1, .ref (sq 17))]) hx hb dX5_wordIn_11 rfl hl (Nat.le_of_ble_eq_true rfl) rfl (fun ls hl => ?_)
    refine lv_aload_n hx hb dX5_wordIn_12 rfl (lv_at hl 1 rfl) ?_
    refine k_get C0 fg_X5_15 hP 0 rfl rfl dX5_wordIn_13 ?_
    refine lv_istore_n (lv' := [(3, .int x_this_at), (2, .int 0), (0, .ref a_this), (1, .ref (sq 17))]) hx hb dX5_wordIn_16 rfl hl (Nat.le_of_ble_eq_true rfl) rfl (fun ls hl => ?_)
    refine lv_iconst (v := 1) hx hb dX5_wordIn_17 rfl ?_
    refine lv_istore (lv' := [(4, .int 1), (3, .int x_this_at), (2, .int 0), (0, .ref a_this), (1, .ref (sq 17))]) hx hb dX5_wordIn_18 hl (Nat.le_of_ble_eq_true rfl) rfl (fun ls hl => ?_)
    refine lv_iconst (v := 0) hx hb dX5_wordIn_20 rfl ?_
    refine lv_istore (lv' := [(5, .int 0), (4, .int 1), (3, .int x_this_at), (2, .int 0), (0, .ref a_this), (1, .ref (sq 17))]) hx hb dX5_wordIn_21 hl (Nat.le_of_ble_eq_true rfl) rfl (fun ls hl => ?_)
    exact jn23 6 0 x_this_at 1 0 H locs ls (ib_w 0 1599 h55 rfl) (ib_w 1 1 h54 rfl) (ib_w 0 1603 h55 rfl) (ib_w 0 1 (ib_c 1 1 1 rfl) rfl) (ib_w 0 4 (ib_c 0 0 0 rfl) rfl) (by have : (0 : Int32).toInt = 0 := rfl; have := (h55).2; omega) (by try simp only [show (0 : Int32).toInt = (0 : Int) from rfl]; try simp only [show (1 : Int32).toInt = (1 : Int) from rfl]; exact hq) (by have := (ib_c 0 0 0 rfl); unfold ib at this; omega) hP hD hS (lv_sub hl [4, 5, 3, 2, 1, 0] rfl)
  · replace hq := lf_neg hq (lf_ne (lf_rf x_this_sort) (lf_lc 1 (1 : Int) rfl) c52)
    refine lv_iconst (v := (-1)) hx hb dX5_wordIn_8 rfl ?_
    subst hQ; exact k_iret hx hb hr hlk rfl () hS ((hO.symm.trans (by try simp only [show ((-1) : Int32).toInt = (-1 : Int) from rfl]; exact hq))) hP hD (Nat.le_of_ble_eq_true rfl) (Nat.le_of_ble_eq_true rfl) dX5_wordIn_9
set_option maxHeartbeats 4000000 in
set_option maxRecDepth 100000 in
theorem s_X5_takeWord_s17 (l : Launch) (dC : Nat → ClassId) (dI : Nat → Nat → Nat) (cy : Nat → ClassId) (sq : Nat → Nat) (a_this : Nat) (a_this_text : Nat) (g_this_text : Nat → Int32) (x_this_length : Int32) (x_this_at : Int32) (x_this_behind : Int32) (x_this_sort : Int32) (x_this_allowed : Int32) (a_this_plan : Nat) (x_this_fault : Int32) (x_this_place : Int32) (hg_this_text : ia g_this_text 1600 0 255) (hx_this_length : ib x_this_length 0 1600) (hx_this_at : ib x_this_at 0 1600) (hx_this_behind : ib x_this_behind 0 1600) (hx_this_sort : ib x_this_sort 0 4) (hc0_this : ¬ x_this_sort = 0 → ib x_this_at 0 1599) : k_Met l yX5_takeWord cX5_takeWord 3 (some .boolean) { frames := 5, cells := 0, slots := 0, locals := 166 } dC dI cy sq [.ref a_this, .ref (sq 17)] [(wo_5_riiiiirii a_this a_this_text x_this_length x_this_at x_this_behind x_this_sort x_this_allowed a_this_plan x_this_fault x_this_place), (wi_0_1600_0 a_this_text cy g_this_text)] (k_Qi dC dI (fun (r : Int32) (u : Int32 × Int32 × Int32) => match u with | (n0, n1, n2) => ib r 0 1 ∧ ib n0 0 1600 ∧ ib n1 0 1600 ∧ ib n2 0 4 ∧ (¬ n2 = 0 → ib n0 0 1599) ∧ (F_X5_takeWord_s17 (lf_A g_this_text) (Int32.toInt x_this_length) (Int32.toInt x_this_at) (Int32.toInt x_this_behind) (Int32.toInt x_this_sort) = ((Int32.toInt r), (Int32.toInt n0), (Int32.toInt n1), (Int32.toInt n2)))) (fun u : Int32 × Int32 × Int32 => match u with | (n0, n1, n2) => [(wo_5_riiiiirii a_this a_this_text x_this_length n0 n1 n2 x_this_allowed a_this_plan x_this_fault x_this_place), (wi_0_1600_0 a_this_text cy g_this_text)])) := by
  refine k_ofW2 (by decide +kernel) (Nat.le_of_ble_eq_true rfl) ?_
  intro p e s m below meth c A ls H locs args Q hQ C0 hZ hr hlk hin hP hD hA hS hl
  have C0 : k_cx p s m args c cX5_takeWord 3 RX5 dC dI cy sq := C0
  have hx := C0.1
  have hb := C0.2.1
  have hl : lv_has ls 3 [(0, .ref a_this), (1, .ref (sq 17))] := hl
  obtain ⟨O, hO⟩ : ∃ o, o = F_X5_takeWord_s17 (lf_A g_this_text) (Int32.toInt x_this_length) (Int32.toInt x_this_at) (Int32.toInt x_this_behind) (Int32.toInt x_this_sort) := ⟨_, rfl⟩
  have hq := hO
  unfold F_X5_takeWord_s17 at hq
  have jn27 : ∀ (J27_l2 : Int32) (J27_c0_2 : Int32) (J27_c0_3 : Int32) (J27_c0_4 : Int32) (H : Heap) (locs : List Loc) (ls : Array Slot), ib J27_l2 0 1 → ib J27_c0_2 0 1600 → ib J27_c0_3 0 1600 → ib J27_c0_4 0 4 → (¬ J27_c0_4 = 0 → ib J27_c0_2 0 1599) → (O = F_X5_takeWord_s17_27 (Int32.toInt J27_l2) (Int32.toInt J27_c0_2) (Int32.toInt J27_c0_3) (Int32.toInt J27_c0_4)) → va_P (dC, dI) vwCl [(wo_5_riiiiirii a_this a_this_text x_this_length J27_c0_2 J27_c0_3 J27_c0_4 x_this_allowed a_this_plan x_this_fault x_this_place), (wi_0_1600_0 a_this_text cy g_this_text)] H → va_D A [(wo_5_riiiiirii a_this a_this_text x_this_length J27_c0_2 J27_c0_3 J27_c0_4 x_this_allowed a_this_plan x_this_fault x_this_place), (wi_0_1600_0 a_this_text cy g_this_text)] → va_S A s.heap H locs → lv_has ls 3 [(0, .ref a_this), (1, .ref (sq 17)), (2, .int J27_l2)] → W p l e { frames := 5, cells := 0, slots := 0, locals := 166 } s m args below meth c H locs 0 0 Q (F0 m 27 ls []) := by
    intro J27_l2 J27_c0_2 J27_c0_3 J27_c0_4 H locs ls hJ27_l2 hJ27_c0_2 hJ27_c0_3 hJ27_c0_4 hJ27_ic0_0 hq hP hD hS hl
    unfold F_X5_takeWord_s17_27 at hq
    refine lv_iload_n hx hb dX5_takeWord_27 rfl (lv_at hl 2 rfl) ?_
    subst hQ; exact k_iret hx hb hr hlk (ib_bool (ib_w 0 1 hJ27_l2 rfl)) ((J27_c0_2, J27_c0_3, J27_c0_4)) hS ⟨ib_w 0 1 hJ27_l2 rfl, ib_w 0 1600 hJ27_c0_2 rfl, ib_w 0 1600 hJ27_c0_3 rfl, ib_w 0 4 hJ27_c0_4 rfl, fun hq9 => ib_w 0 1599 (hJ27_ic0_0 hq9) rfl, (hO.symm.trans (by exact hq))⟩ hP hD (Nat.le_of_ble_eq_true rfl) (Nat.le_of_ble_eq_true rfl) dX5_takeWord_28
  have jn14 : ∀ (J14_s0 : Int32) (H : Heap) (locs : List Loc) (ls : Array Slot), ib J14_s0 0 1 → (O = F_X5_takeWord_s17_14 (lf_A g_this_text) (Int32.toInt x_this_length) (Int32.toInt x_this_at) (Int32.toInt x_this_behind) (Int32.toInt x_this_sort) (Int32.toInt J14_s0)) → va_P (dC, dI) vwCl [(wo_5_riiiiirii a_this a_this_text x_this_length x_this_at x_this_behind x_this_sort x_this_allowed a_this_plan x_this_fault x_this_place), (wi_0_1600_0 a_this_text cy g_this_text)] H → va_D A [(wo_5_riiiiirii a_this a_this_text x_this_length x_this_at x_this_behind x_this_sort x_this_allowed a_this_plan x_this_fault x_this_place), (wi_0_1600_0 a_this_text cy g_this_text)] → va_S A s.heap H locs → lv_has ls 3 [(0, .ref a_this), (1, .ref (sq 17))] → W p l e { frames := 5, cells := 0, slots := 0, locals := 166 } s m args below meth c H locs 0 0 Q (F0 m 14 ls [.int J14_s0]) := by
    intro J14_s0 H locs ls hJ14_s0 hq hP hD hS hl
    unfold F_X5_takeWord_s17_14 at hq
    refine lv_istore_n (lv' := [(2, .int J14_s0), (0, .ref a_this), (1, .ref (sq 17))]) hx hb dX5_takeWord_14 rfl hl (Nat.le_of_ble_eq_true rfl) rfl (fun ls hl => ?_)
    refine lv_iload_n hx hb dX5_takeWord_15 rfl (lv_at hl 0 rfl) ?_
    refine lv_if_eq (tgt := 27) hx hb dX5_takeWord_16 rfl (fun c1 => ?_) (fun c1 => ?_)
    · replace hq := lf_pos hq (lf_eq (lf_rf J14_s0) (lf_lc 0 (0 : Int) rfl) c1)
      have h2 := ib_eq hJ14_s0 (ib_c 0 0 0 rfl) c1
      have h3 : ib J14_s0 0 0 := ib_w 0 0 h2.1 rfl
      exact jn27 J14_s0 x_this_at x_this_behind x_this_sort H locs ls (ib_w 0 1 h3 rfl) (ib_w 0 1600 hx_this_at rfl) (ib_w 0 1600 hx_this_behind rfl) (ib_w 0 4 hx_this_sort rfl) (fun hq9 => ib_w 0 1599 (hc0_this hq9) rfl) (by exact hq) hP hD hS (lv_sub hl [1, 2, 0] rfl)
    · replace hq := lf_neg hq (lf_ne (lf_rf J14_s0) (lf_lc 0 (0 : Int) rfl) c1)
      have h4 : ib J14_s0 1 1 := ib_w 1 1 (ib_ne_lo 0 hJ14_s0 rfl c1) rfl
      refine lv_aload_n hx hb dX5_takeWord_19 rfl (lv_at hl 1 rfl) ?_
      refine lv_aload_n hx hb dX5_takeWord_20 rfl (lv_at hl 1 rfl) ?_
      refine k_get C0 fg_X5_18 hP 0 rfl rfl dX5_takeWord_21 ?_
      refine k_jvm hP hD hS hA [0, 1] [] rfl rfl rfl 0 0 (Nat.le_of_ble_eq_true rfl) (Nat.le_of_ble_eq_true rfl) (fun hPc hDc => k_runV (As := [.int x_this_behind]) (rest := []) C0 hZ hS hA (s_X5_moveTo l dC dI cy sq a_this a_this_text g_this_text x_this_length x_this_at x_this_behind x_this_sort x_this_allowed a_this_plan x_this_fault x_this_place x_this_behind hg_this_text (ib_w 0 1600 hx_this_length rfl) (ib_w 0 1600 hx_this_behind rfl)) mV_X5_86 hPc hDc rfl rfl rfl hl rfl rfl (Nat.le_of_ble_eq_true rfl) ⟨(Nat.le_of_ble_eq_true rfl), (Nat.le_of_ble_eq_true rfl)⟩ ⟨(Nat.le_of_ble_eq_true rfl), (Nat.le_of_ble_eq_true rfl)⟩ dX5_takeWord_24) (fun u6 H locs hw hP hD hS => ?_)
      obtain ⟨v7, v8, v9⟩ := u6
      try dsimp only at hP hD hw
      replace hP : va_P (dC, dI) vwCl [(wo_5_riiiiirii a_this a_this_text x_this_length v7 v8 v9 x_this_allowed a_this_plan x_this_fault x_this_place), (wi_0_1600_0 a_this_text cy g_this_text)] H := hP
      replace hD := k_D hP hD
      obtain ⟨h10, h11, h12, h13, h14⟩ := hw
      replace hq := lf_p1 hq h14
      replace hq := lf_p1 hq rfl
      exact jn27 J14_s0 v7 v8 v9 H locs ls (ib_w 0 1 h4 rfl) (ib_w 0 1600 h10 rfl) (ib_w 0 1600 h11 rfl) (ib_w 0 4 h12 rfl) (fun hq9 => ib_w 0 1599 (h13 hq9) rfl) (by exact hq) hP hD hS (lv_sub hl [1, 2, 0] rfl)
  refine lv_aload_n hx hb dX5_takeWord_0 rfl (lv_at hl 0 rfl) ?_
  refine lv_aload_n hx hb dX5_takeWord_1 rfl (lv_at hl 1 rfl) ?_
  refine k_jim hP hD hS hA [0, 1] [] rfl rfl rfl 0 0 (Nat.le_of_ble_eq_true rfl) (Nat.le_of_ble_eq_true rfl) (fun hPc hDc => k_runV (As := [.ref (sq 17)]) (rest := []) C0 hZ hS hA (s_X5_wordIn_s17 l dC dI cy sq a_this a_this_text g_this_text x_this_length x_this_at x_this_behind x_this_sort x_this_allowed a_this_plan x_this_fault x_this_place hg_this_text (ib_w 0 1600 hx_this_at rfl) (ib_w 0 1600 hx_this_behind rfl) (ib_w 0 4 hx_this_sort rfl) (fun hq9 => ib_w 0 1599 (hc0_this hq9) rfl)) mV_X5_54 hPc hDc rfl rfl rfl hl rfl rfl (Nat.le_of_ble_eq_true rfl) ⟨(Nat.le_of_ble_eq_true rfl), (Nat.le_of_ble_eq_true rfl)⟩ ⟨(Nat.le_of_ble_eq_true rfl), (Nat.le_of_ble_eq_true rfl)⟩ dX5_takeWord_2) (fun r15 u16 H locs hw hP hD hS => ?_)
  try dsimp only at hP hD hw
  replace hP : va_P (dC, dI) vwCl [(wo_5_riiiiirii a_this a_this_text x_this_length x_this_at x_this_behind x_this_sort x_this_allowed a_this_plan x_this_fault x_this_place), (wi_0_1600_0 a_this_text cy g_this_text)] H := hP
  replace hD := k_D hP hD
  have h17 := hw
  replace hq := lf_b1 hq h17
  refine lv_iconst (v := (-1)) hx hb dX5_takeWord_5 rfl ?_
  refine lv_icmp_eq (tgt := 13) hx hb dX5_takeWord_6 rfl (fun c18 => ?_) (fun c18 => ?_)
  · replace hq := lf_pos hq (lf_eq (lf_rf r15) (lf_lc (-1) (-1 : Int) rfl) c18)
    have h19 := ib_eq (ib_any r15) (ib_c (-1) (-1) (-1) rfl) c18
    have h20 : ib r15 (-1) (-1) := ib_w (-1) (-1) h19.1 rfl
    refine lv_iconst (v := 0) hx hb dX5_takeWord_13 rfl ?_
    exact jn14 0 H locs ls (ib_w 0 1 (ib_c 0 0 0 rfl) rfl) (by try simp only [show (0 : Int32).toInt = (0 : Int) from rfl]; exact hq) hP hD hS (lv_sub hl [0, 1] rfl)
  · replace hq := lf_neg hq (lf_ne (lf_rf r15) (lf_lc (-1) (-1 : Int) rfl) c18)
    refine lv_iconst (v := 1) hx hb dX5_takeWord_9 rfl ?_
    refine lv_goto (tgt := 14) hx hb dX5_takeWord_10 rfl ?_
    exact jn14 1 H locs ls (ib_w 0 1 (ib_c 1 1 1 rfl) rfl) (by try simp only [show (1 : Int32).toInt = (1 : Int) from rfl]; exact hq) hP hD hS (lv_sub hl [0, 1] rfl)
set_option maxHeartbeats 4000000 in
set_option maxRecDepth 100000 in
theorem s_X5_wordIn_s18 (l : Launch) (dC : Nat → ClassId) (dI : Nat → Nat → Nat) (cy : Nat → ClassId) (sq : Nat → Nat) (a_this : Nat) (a_this_text : Nat) (g_this_text : Nat → Int32) (x_this_length : Int32) (x_this_at : Int32) (x_this_behind : Int32) (x_this_sort : Int32) (x_this_allowed : Int32) (a_this_plan : Nat) (x_this_fault : Int32) (x_this_place : Int32) (hg_this_text : ia g_this_text 1600 0 255) (hx_this_at : ib x_this_at 0 1600) (hx_this_behind : ib x_this_behind 0 1600) (hx_this_sort : ib x_this_sort 0 4) (hc0_this : ¬ x_this_sort = 0 → ib x_this_at 0 1599) : k_Met l yX5_wordIn cX5_wordIn 6 (some .int) { frames := 4, cells := 0, slots := 0, locals := 141 } dC dI cy sq [.ref a_this, .ref (sq 18)] [(wo_5_riiiiirii a_this a_this_text x_this_length x_this_at x_this_behind x_this_sort x_this_allowed a_this_plan x_this_fault x_this_place), (wi_0_1600_0 a_this_text cy g_this_text)] (k_Qi dC dI (fun (r : Int32) (_ : Unit) => (F_X5_wordIn_s18 (lf_A g_this_text) (Int32.toInt x_this_at) (Int32.toInt x_this_behind) (Int32.toInt x_this_sort) = ((Int32.toInt r)))) (fun _ : Unit => [(wo_5_riiiiirii a_this a_this_text x_this_length x_this_at x_this_behind x_this_sort x_this_allowed a_this_plan x_this_fault x_this_place), (wi_0_1600_0 a_this_text cy g_this_text)])) := by
  refine k_ofW2 (by decide +kernel) (Nat.le_of_ble_eq_true rfl) ?_
  intro p e s m below meth c A ls H locs args Q hQ C0 hZ hr hlk hin hP hD hA hS hl
  have C0 : k_cx p s m args c cX5_wordIn 6 RX5 dC dI cy sq := C0
  have hx := C0.1
  have hb := C0.2.1
  have hl : lv_has ls 6 [(0, .ref a_this), (1, .ref (sq 18))] := hl
  obtain ⟨O, hO⟩ : ∃ o, o = F_X5_wordIn_s18 (lf_A g_this_text) (Int32.toInt x_this_at) (Int32.toInt x_this_behind) (Int32.toInt x_this_sort) := ⟨_, rfl⟩
  have hq := hO
  unfold F_X5_wordIn_s18 at hq
  have jn23 : ∀ (n : Nat) (J23_l2 : Int32) (J23_l3 : Int32) (J23_l4 : Int32) (J23_l5 : Int32) (H : Heap) (locs : List Loc) (ls : Array Slot), ib x_this_at 0 1599 → ib x_this_sort 1 1 → ib J23_l3 0 1603 → ib J23_l4 0 1 → ib J23_l5 0 4 → (1 * J23_l3.toInt + (-1) * J23_l5.toInt ≤ 1600) → (O = F_X5_wordIn_s18_23 (lf_A g_this_text) (Int32.toInt x_this_at) (Int32.toInt x_this_behind) n (Int32.toInt J23_l2) (Int32.toInt J23_l3) (Int32.toInt J23_l4) (Int32.toInt J23_l5)) → 5 ≤ J23_l5.toInt + (n : Int) → va_P (dC, dI) vwCl [(wo_5_riiiiirii a_this a_this_text x_this_length x_this_at x_this_behind x_this_sort x_this_allowed a_this_plan x_this_fault x_this_place), (wi_0_1600_0 a_this_text cy g_this_text)] H → va_D A [(wo_5_riiiiirii a_this a_this_text x_this_length x_this_at x_this_behind x_this_sort x_this_allowed a_this_plan x_this_fault x_this_place), (wi_0_1600_0 a_this_text cy g_this_text)] → va_S A s.heap H locs → lv_has ls 6 [(0, .ref a_this), (1, .ref (sq 18)), (2, .int J23_l2), (3, .int J23_l3), (4, .int J23_l4), (5, .int J23_l5)] → W p l e { frames := 4, cells := 0, slots := 0, locals := 141 } s m args below meth c H locs 0 0 Q (F0 m 23 ls []) := by
    as_aux_lemma =>
      intro n
      induction n with
      | zero =>
        intro J23_l2 J23_l3 J23_l4 J23_l5 H locs ls hK23_x_this_at hK23_x_this_sort hJ23_l3 hJ23_l4 hJ23_l5 hJ23_lin0 hq hm
        exact absurd hm (by have := hJ23_l5; unfold ib at this; omega)
      | succ n ih =>
        intro J23_l2 J23_l3 J23_l4 J23_l5 H locs ls hK23_x_this_at hK23_x_this_sort hJ23_l3 hJ23_l4 hJ23_l5 hJ23_lin0 hq hm23 hP hD hS hl
        have ih23 := ih
        obtain ⟨K23, hK23⟩ : ∃ K, K = F_X5_wordIn_s18_23 (lf_A g_this_text) (Int32.toInt x_this_at) (Int32.toInt x_this_behind) n := ⟨_, rfl⟩
        have hq : O = F_X5_wordIn_s18_23b (lf_A g_this_text) (Int32.toInt x_this_at) (Int32.toInt x_this_behind) K23 (Int32.toInt J23_l2) (Int32.toInt J23_l3) (Int32.toInt J23_l4) (Int32.toInt J23_l5) := by rw [hK23]; exact hq
        unfold F_X5_wordIn_s18_23b at hq
        have jn119 : ∀ (J119_l2 : Int32) (J119_l3 : Int32) (J119_l4 : Int32) (H : Heap) (locs : List Loc) (ls : Array Slot), ib x_this_at 0 1599 → ib J23_l5 0 3 → ib x_this_sort 1 1 → ib J119_l3 0 1603 → ib J119_l4 0 1 → (1 * J119_l3.toInt + (-1) * J23_l5.toInt ≤ 1601) → (O = F_X5_wordIn_s18_119 (Int32.toInt J23_l5) K23 (Int32.toInt J119_l2) (Int32.toInt J119_l3) (Int32.toInt J119_l4)) → va_P (dC, dI) vwCl [(wo_5_riiiiirii a_this a_this_text x_this_length x_this_at x_this_behind x_this_sort x_this_allowed a_this_plan x_this_fault x_this_place), (wi_0_1600_0 a_this_text cy g_this_text)] H → va_D A [(wo_5_riiiiirii a_this a_this_text x_this_length x_this_at x_this_behind x_this_sort x_this_allowed a_this_plan x_this_fault x_this_place), (wi_0_1600_0 a_this_text cy g_this_text)] → va_S A s.heap H locs → lv_has ls 6 [(0, .ref a_this), (1, .ref (sq 18)), (2, .int J119_l2), (3, .int J119_l3), (4, .int J119_l4), (5, .int J23_l5)] → W p l e { frames := 4, cells := 0, slots := 0, locals := 141 } s m args below meth c H locs 0 0 Q (F0 m 119 ls []) := by
          intro J119_l2 J119_l3 J119_l4 H locs ls hK119_x_this_at hK119_J23_l5 hK119_x_this_sort hJ119_l3 hJ119_l4 hJ119_lin0 hq hP hD hS hl
          unfold F_X5_wordIn_s18_119 at hq
          obtain ⟨z1, ez1⟩ : ∃ y : Int32, y = J23_l5 + 1 := ⟨_, rfl⟩
          refine lv_iinc (v := z1) (lv' := [(5, .int z1), (0, .ref a_this), (1, .ref (sq 18)), (2, .int J119_l2), (3, .int J119_l3), (4, .int J119_l4)]) hx hb dX5_wordIn_119 hl (k := 5) rfl (by rw [ez1]; rfl) (Nat.le_of_ble_eq_true rfl) rfl (fun ls hl => ?_)
          have h2 := ib_add hK119_J23_l5 (ib_c 1 1 1 rfl) rfl
          rw [← ez1] at h2
          have h3 : ib z1 1 4 := ib_w 1 4 h2.1 rfl
          have Ez1 := lf_add h2.2 (lf_rf J23_l5) (lf_lc 1 (1 : Int) rfl)
          refine lv_goto (tgt := 23) hx hb dX5_wordIn_122 rfl ?_
          exact ih23 J119_l2 J119_l3 J119_l4 z1 H locs ls (ib_w 0 1599 hK119_x_this_at rfl) (ib_w 1 1 hK119_x_this_sort rfl) (ib_w 0 1603 hJ119_l3 rfl) (ib_w 0 1 hJ119_l4 rfl) (ib_w 0 4 h3 rfl) (by have := h2.2; have : (1 : Int32).toInt = 1 := rfl; have := hJ119_lin0; omega) (by rw [← hK23]; rw [lf_u Ez1]; exact hq) (by have := h2.2; have : (1 : Int32).toInt = 1 := rfl; omega) hP hD hS (lv_sub hl [1, 2, 3, 4, 5, 0] rfl)
        have jn114 : ∀ (J114_s0 : Int32) (H : Heap) (locs : List Loc) (ls : Array Slot), ib J23_l3 0 1602 → ib J23_l4 0 1 → ib J23_l5 0 2 → ib x_this_at 0 1599 → ib x_this_sort 1 1 → ib J114_s0 0 1 → (1 * J23_l3.toInt + (-1) * J23_l5.toInt ≤ 1600) → (O = F_X5_wordIn_s18_114 (Int32.toInt J23_l2) (Int32.toInt J23_l3) (Int32.toInt J23_l5) K23 (Int32.toInt J114_s0)) → va_P (dC, dI) vwCl [(wo_5_riiiiirii a_this a_this_text x_this_length x_this_at x_this_behind x_this_sort x_this_allowed a_this_plan x_this_fault x_this_place), (wi_0_1600_0 a_this_text cy g_this_text)] H → va_D A [(wo_5_riiiiirii a_this a_this_text x_this_length x_this_at x_this_behind x_this_sort x_this_allowed a_this_plan x_this_fault x_this_place), (wi_0_1600_0 a_this_text cy g_this_text)] → va_S A s.heap H locs → lv_has ls 6 [(0, .ref a_this), (1, .ref (sq 18)), (2, .int J23_l2), (3, .int J23_l3), (4, .int J23_l4), (5, .int J23_l5)] → W p l e { frames := 4, cells := 0, slots := 0, locals := 141 } s m args below meth c H locs 0 0 Q (F0 m 114 ls [.int J114_s0]) := by
          intro J114_s0 H locs ls hK114_J23_l3 hK114_J23_l4 hK114_J23_l5 hK114_x_this_at hK114_x_this_sort hJ114_s0 hJ114_lin0 hq hP hD hS hl
          unfold F_X5_wordIn_s18_114 at hq
          refine lv_istore (lv' := [(4, .int J114_s0), (0, .ref a_this), (1, .ref (sq 18)), (2, .int J23_l2), (3, .int J23_l3), (5, .int J23_l5)]) hx hb dX5_wordIn_114 hl (Nat.le_of_ble_eq_true rfl) rfl (fun ls hl => ?_)
          obtain ⟨z4, ez4⟩ : ∃ y : Int32, y = J23_l3 + 1 := ⟨_, rfl⟩
          refine lv_iinc (v := z4) (lv' := [(3, .int z4), (4, .int J114_s0), (0, .ref a_this), (1, .ref (sq 18)), (2, .int J23_l2), (5, .int J23_l5)]) hx hb dX5_wordIn_116 hl (k := 4) rfl (by rw [ez4]; rfl) (Nat.le_of_ble_eq_true rfl) rfl (fun ls hl => ?_)
          have h5 := ib_add hK114_J23_l3 (ib_c 1 1 1 rfl) rfl
          rw [← ez4] at h5
          have h6 : ib z4 1 1603 := ib_w 1 1603 h5.1 rfl
          have Ez4 := lf_add h5.2 (lf_rf J23_l3) (lf_lc 1 (1 : Int) rfl)
          exact jn119 J23_l2 z4 J114_s0 H locs ls (ib_w 0 1599 hK114_x_this_at rfl) (ib_w 0 3 hK114_J23_l5 rfl) (ib_w 1 1 hK114_x_this_sort rfl) (ib_w 0 1603 h6 rfl) (ib_w 0 1 hJ114_s0 rfl) (by have := (hK114_J23_l5).1; have := hJ23_lin0; have := (h6).2; have := h5.2; have : (1 : Int32).toInt = 1 := rfl; omega) (by rw [lf_u Ez4]; exact hq) hP hD hS (lv_sub hl [2, 3, 4, 0, 1, 5] rfl)
        have jn113 : ∀  (H : Heap) (locs : List Loc) (ls : Array Slot), ib J23_l3 0 1602 → ib J23_l4 0 1 → ib J23_l5 0 2 → ib x_this_at 0 1599 → ib x_this_sort 1 1 → (1 * J23_l3.toInt + (-1) * J23_l5.toInt ≤ 1600) → (O = F_X5_wordIn_s18_113 (Int32.toInt J23_l2) (Int32.toInt J23_l3) (Int32.toInt J23_l5) K23 ) → va_P (dC, dI) vwCl [(wo_5_riiiiirii a_this a_this_text x_this_length x_this_at x_this_behind x_this_sort x_this_allowed a_this_plan x_this_fault x_this_place), (wi_0_1600_0 a_this_text cy g_this_text)] H → va_D A [(wo_5_riiiiirii a_this a_this_text x_this_length x_this_at x_this_behind x_this_sort x_this_allowed a_this_plan x_this_fault x_this_place), (wi_0_1600_0 a_this_text cy g_this_text)] → va_S A s.heap H locs → lv_has ls 6 [(0, .ref a_this), (1, .ref (sq 18)), (2, .int J23_l2), (3, .int J23_l3), (4, .int J23_l4), (5, .int J23_l5)] → W p l e { frames := 4, cells := 0, slots := 0, locals := 141 } s m args below meth c H locs 0 0 Q (F0 m 113 ls []) := by
          intro H locs ls hK113_J23_l3 hK113_J23_l4 hK113_J23_l5 hK113_x_this_at hK113_x_this_sort hJ113_lin0 hq hP hD hS hl
          unfold F_X5_wordIn_s18_113 at hq
          refine lv_iconst (v := 0) hx hb dX5_wordIn_113 rfl ?_
          exact jn114 0 H locs ls (ib_w 0 1602 hK113_J23_l3 rfl) (ib_w 0 1 hK113_J23_l4 rfl) (ib_w 0 2 hK113_J23_l5 rfl) (ib_w 0 1599 hK113_x_this_at rfl) (ib_w 1 1 hK113_x_this_sort rfl) (ib_w 0 1 (ib_c 0 0 0 rfl) rfl) (by have := hJ23_lin0; omega) (by try simp only [show (0 : Int32).toInt = (0 : Int) from rfl]; exact hq) hP hD hS (lv_sub hl [0, 1, 2, 3, 4, 5] rfl)
        have jn67 : ∀  (H : Heap) (locs : List Loc) (ls : Array Slot), ib J23_l3 0 1603 → ib J23_l4 0 1 → ib J23_l5 0 3 → ib x_this_at 0 1599 → ib x_this_sort 1 1 → (O = F_X5_wordIn_s18_67 (Int32.toInt x_this_at) (Int32.toInt J23_l2) (Int32.toInt J23_l5) K23 ) → va_P (dC, dI) vwCl [(wo_5_riiiiirii a_this a_this_text x_this_length x_this_at x_this_behind x_this_sort x_this_allowed a_this_plan x_this_fault x_this_place), (wi_0_1600_0 a_this_text cy g_this_text)] H → va_D A [(wo_5_riiiiirii a_this a_this_text x_this_length x_this_at x_this_behind x_this_sort x_this_allowed a_this_plan x_this_fault x_this_place), (wi_0_1600_0 a_this_text cy g_this_text)] → va_S A s.heap H locs → lv_has ls 6 [(0, .ref a_this), (1, .ref (sq 18)), (2, .int J23_l2), (3, .int J23_l3), (4, .int J23_l4), (5, .int J23_l5)] → W p l e { frames := 4, cells := 0, slots := 0, locals := 141 } s m args below meth c H locs 0 0 Q (F0 m 67 ls []) := by
          intro H locs ls hK67_J23_l3 hK67_J23_l4 hK67_J23_l5 hK67_x_this_at hK67_x_this_sort hq hP hD hS hl
          unfold F_X5_wordIn_s18_67 at hq
          obtain ⟨z7, ez7⟩ : ∃ y : Int32, y = J23_l2 + 1 := ⟨_, rfl⟩
          refine lv_iinc (v := z7) (lv' := [(2, .int z7), (0, .ref a_this), (1, .ref (sq 18)), (3, .int J23_l3), (4, .int J23_l4), (5, .int J23_l5)]) hx hb dX5_wordIn_67 hl (k := 2) rfl (by rw [ez7]; rfl) (Nat.le_of_ble_eq_true rfl) rfl (fun ls hl => ?_)
          have Ez7 := lf_op lf_iadd ez7 (lf_rf J23_l2) (lf_lc 1 (1 : Int) rfl)
          refine lv_aload_n hx hb dX5_wordIn_70 rfl (lv_at hl 1 rfl) ?_
          refine k_get C0 fg_X5_15 hP 0 rfl rfl dX5_wordIn_71 ?_
          refine lv_istore_n (lv' := [(3, .int x_this_at), (2, .int z7), (0, .ref a_this), (1, .ref (sq 18)), (4, .int J23_l4), (5, .int J23_l5)]) hx hb dX5_wordIn_74 rfl hl (Nat.le_of_ble_eq_true rfl) rfl (fun ls hl => ?_)
          refine lv_iconst (v := 1) hx hb dX5_wordIn_75 rfl ?_
          refine lv_istore (lv' := [(4, .int 1), (3, .int x_this_at), (2, .int z7), (0, .ref a_this), (1, .ref (sq 18)), (5, .int J23_l5)]) hx hb dX5_wordIn_76 hl (Nat.le_of_ble_eq_true rfl) rfl (fun ls hl => ?_)
          refine lv_goto (tgt := 119) hx hb dX5_wordIn_78 rfl ?_
          exact jn119 z7 x_this_at 1 H locs ls (ib_w 0 1599 hK67_x_this_at rfl) (ib_w 0 3 hK67_J23_l5 rfl) (ib_w 1 1 hK67_x_this_sort rfl) (ib_w 0 1603 hK67_x_this_at rfl) (ib_w 0 1 (ib_c 1 1 1 rfl) rfl) (by have := (hK67_J23_l5).1; have := (hK67_x_this_at).2; omega) (by rw [lf_u Ez7]; try simp only [show (1 : Int32).toInt = (1 : Int) from rfl]; exact hq) hP hD hS (lv_sub hl [3, 4, 2, 1, 0, 5] rfl)
        have jn52 : ∀  (H : Heap) (locs : List Loc) (ls : Array Slot), ib J23_l3 0 1603 → ib J23_l4 0 1 → ib J23_l5 0 3 → ib x_this_at 0 1599 → ib x_this_sort 1 1 → (O = F_X5_wordIn_s18_52 (Int32.toInt x_this_at) (Int32.toInt x_this_behind) (Int32.toInt J23_l2) (Int32.toInt J23_l3) (Int32.toInt J23_l4) (Int32.toInt J23_l5) K23 ) → va_P (dC, dI) vwCl [(wo_5_riiiiirii a_this a_this_text x_this_length x_this_at x_this_behind x_this_sort x_this_allowed a_this_plan x_this_fault x_this_place), (wi_0_1600_0 a_this_text cy g_this_text)] H → va_D A [(wo_5_riiiiirii a_this a_this_text x_this_length x_this_at x_this_behind x_this_sort x_this_allowed a_this_plan x_this_fault x_this_place), (wi_0_1600_0 a_this_text cy g_this_text)] → va_S A s.heap H locs → lv_has ls 6 [(0, .ref a_this), (1, .ref (sq 18)), (2, .int J23_l2), (3, .int J23_l3), (4, .int J23_l4), (5, .int J23_l5)] → W p l e { frames := 4, cells := 0, slots := 0, locals := 141 } s m args below meth c H locs 0 0 Q (F0 m 52 ls []) := by
          as_aux_lemma =>
            intro H locs ls hK52_J23_l3 hK52_J23_l4 hK52_J23_l5 hK52_x_this_at hK52_x_this_sort hq hP hD hS hl
            unfold F_X5_wordIn_s18_52 at hq
            refine lv_iload hx hb dX5_wordIn_52 (lv_at hl 4 rfl) ?_
            refine lv_if_eq (tgt := 67) hx hb dX5_wordIn_54 rfl (fun c8 => ?_) (fun c8 => ?_)
            · replace hq := lf_pos hq (lf_eq (lf_rf J23_l4) (lf_lc 0 (0 : Int) rfl) c8)
              have h9 := ib_eq hK52_J23_l4 (ib_c 0 0 0 rfl) c8
              have h10 : ib J23_l4 0 0 := ib_w 0 0 h9.1 rfl
              exact jn67  H locs ls (ib_w 0 1603 hK52_J23_l3 rfl) (ib_w 0 1 h10 rfl) (ib_w 0 3 hK52_J23_l5 rfl) (ib_w 0 1599 hK52_x_this_at rfl) (ib_w 1 1 hK52_x_this_sort rfl) (by exact hq) hP hD hS (lv_sub hl [0, 1, 2, 3, 4, 5] rfl)
            · replace hq := lf_neg hq (lf_ne (lf_rf J23_l4) (lf_lc 0 (0 : Int) rfl) c8)
              have h11 : ib J23_l4 1 1 := ib_w 1 1 (ib_ne_lo 0 hK52_J23_l4 rfl c8) rfl
              refine lv_iload_n hx hb dX5_wordIn_57 rfl (lv_at hl 3 rfl) ?_
              refine lv_aload_n hx hb dX5_wordIn_58 rfl (lv_at hl 0 rfl) ?_
              refine k_get C0 fg_X5_18 hP 0 rfl rfl dX5_wordIn_59 ?_
              refine lv_icmp_ne (tgt := 67) hx hb dX5_wordIn_62 rfl (fun c12 => ?_) (fun c12 => ?_)
              · replace hq := lf_neg hq (lf_ne (lf_rf J23_l3) (lf_rf x_this_behind) c12)
                exact jn67  H locs ls (ib_w 0 1603 hK52_J23_l3 rfl) (ib_w 0 1 h11 rfl) (ib_w 0 3 hK52_J23_l5 rfl) (ib_w 0 1599 hK52_x_this_at rfl) (ib_w 1 1 hK52_x_this_sort rfl) (by exact hq) hP hD hS (lv_sub hl [0, 1, 2, 3, 4, 5] rfl)
              · replace hq := lf_pos hq (lf_eq (lf_rf J23_l3) (lf_rf x_this_behind) c12)
                have h13 := ib_eq hK52_J23_l3 hx_this_behind c12
                have h14 : ib J23_l3 0 1600 := ib_w 0 1600 h13.1 rfl
                refine lv_iload_n hx hb dX5_wordIn_65 rfl (lv_at hl 2 rfl) ?_
                subst hQ; exact k_iret hx hb hr hlk rfl () hS ((hO.symm.trans (by exact hq))) hP hD (Nat.le_of_ble_eq_true rfl) (Nat.le_of_ble_eq_true rfl) dX5_wordIn_66
        refine lv_iload hx hb dX5_wordIn_23 (lv_at hl 5 rfl) ?_
        refine lv_aload_n hx hb dX5_wordIn_25 rfl (lv_at hl 1 rfl) ?_
        refine k_jim hP hD hS hA [] [true, true] rfl rfl rfl 0 0 (Nat.le_of_ble_eq_true rfl) (Nat.le_of_ble_eq_true rfl) (fun hPc hDc => k_runVO (As := []) (rest := [.int J23_l5]) C0 hZ hS hA (c_length l dC dI cy sq 18 (by decide)) mV_X5_244 hPc hDc (vk_recv hZ.1 (by decide) hS) hl rfl rfl (Nat.le_of_ble_eq_true rfl) ⟨(Nat.le_of_ble_eq_true rfl), (Nat.le_of_ble_eq_true rfl)⟩ ⟨(Nat.le_of_ble_eq_true rfl), (Nat.le_of_ble_eq_true rfl)⟩ dX5_wordIn_26) (fun r15 u16 H locs hw hP hD hS => ?_)
        replace hP : va_P (dC, dI) vwCl [(wo_5_riiiiirii a_this a_this_text x_this_length x_this_at x_this_behind x_this_sort x_this_allowed a_this_plan x_this_fault x_this_place), (wi_0_1600_0 a_this_text cy g_this_text)] H := hP
        replace hD := k_D hP hD
        obtain rfl : r15 = 3 := hw.trans (by decide)
        refine lv_icmp_gt (tgt := 125) hx hb dX5_wordIn_29 rfl (fun c17 => ?_) (fun c17 => ?_)
        · replace hq := lf_pos hq (lf_lt (lf_lc 3 (3 : Int) rfl) (lf_rf J23_l5) c17)
          have h18 := ib_lt (ib_c 3 3 3 rfl) hJ23_l5 c17
          have h19 : ib J23_l5 4 4 := ib_w 4 4 h18.2 rfl
          refine lv_iconst (v := (-1)) hx hb dX5_wordIn_125 rfl ?_
          subst hQ; exact k_iret hx hb hr hlk rfl () hS ((hO.symm.trans (by try simp only [show ((-1) : Int32).toInt = (-1 : Int) from rfl]; exact hq))) hP hD (Nat.le_of_ble_eq_true rfl) (Nat.le_of_ble_eq_true rfl) dX5_wordIn_126
        · as_aux_lemma =>
            replace hq := lf_neg hq (lf_nlt (lf_lc 3 (3 : Int) rfl) (lf_rf J23_l5) c17)
            have h20 := ib_nlt (ib_c 3 3 3 rfl) hJ23_l5 c17
            have h21 : ib J23_l5 0 3 := ib_w 0 3 h20.2 rfl
            refine lv_iload hx hb dX5_wordIn_32 (lv_at hl 5 rfl) ?_
            refine lv_aload_n hx hb dX5_wordIn_34 rfl (lv_at hl 1 rfl) ?_
            refine k_jim hP hD hS hA [] [true, true] rfl rfl rfl 0 0 (Nat.le_of_ble_eq_true rfl) (Nat.le_of_ble_eq_true rfl) (fun hPc hDc => k_runVO (As := []) (rest := [.int J23_l5]) C0 hZ hS hA (c_length l dC dI cy sq 18 (by decide)) mV_X5_244 hPc hDc (vk_recv hZ.1 (by decide) hS) hl rfl rfl (Nat.le_of_ble_eq_true rfl) ⟨(Nat.le_of_ble_eq_true rfl), (Nat.le_of_ble_eq_true rfl)⟩ ⟨(Nat.le_of_ble_eq_true rfl), (Nat.le_of_ble_eq_true rfl)⟩ dX5_wordIn_35) (fun r22 u23 H locs hw hP hD hS => ?_)
            replace hP : va_P (dC, dI) vwCl [(wo_5_riiiiirii a_this a_this_text x_this_length x_this_at x_this_behind x_this_sort x_this_allowed a_this_plan x_this_fault x_this_place), (wi_0_1600_0 a_this_text cy g_this_text)] H := hP
            replace hD := k_D hP hD
            obtain rfl : r22 = 3 := hw.trans (by decide)
            refine lv_icmp_eq (tgt := 52) hx hb dX5_wordIn_38 rfl (fun c24 => ?_) (fun c24 => ?_)
            · replace hq := lf_pos hq (lf_eq (lf_rf J23_l5) (lf_lc 3 (3 : Int) rfl) c24)
              have h25 := ib_eq h21 (ib_c 3 3 3 rfl) c24
              have h26 : ib J23_l5 3 3 := ib_w 3 3 h25.1 rfl
              exact jn52  H locs ls (ib_w 0 1603 hJ23_l3 rfl) (ib_w 0 1 hJ23_l4 rfl) (ib_w 0 3 h26 rfl) (ib_w 0 1599 hK23_x_this_at rfl) (ib_w 1 1 hK23_x_this_sort rfl) (by exact hq) hP hD hS (lv_sub hl [0, 1, 2, 3, 4, 5] rfl)
            · as_aux_lemma =>
                replace hq := lf_neg hq (lf_ne (lf_rf J23_l5) (lf_lc 3 (3 : Int) rfl) c24)
                have h27 : ib J23_l5 0 2 := ib_w 0 2 (ib_ne_hi 3 h21 rfl c24) rfl
                refine lv_aload_n hx hb dX5_wordIn_41 rfl (lv_at hl 1 rfl) ?_
                refine lv_iload hx hb dX5_wordIn_42 (lv_at hl 5 rfl) ?_
                refine k_jim hP hD hS hA [] [true, true] rfl rfl rfl 0 0 (Nat.le_of_ble_eq_true rfl) (Nat.le_of_ble_eq_true rfl) (fun hPc hDc => k_runVO (As := [.int J23_l5]) (rest := []) C0 hZ hS hA (cx_charAt l dC dI cy sq 18 (by decide) J23_l5 (ib_ch 18 3 h27 rfl rfl).1 (ib_ch 18 3 h27 rfl rfl).2.1 (ib_ch 18 3 h27 rfl rfl).2.2) mV_X5_248 hPc hDc (vk_recv hZ.1 (by decide) hS) hl rfl rfl (Nat.le_of_ble_eq_true rfl) ⟨(Nat.le_of_ble_eq_true rfl), (Nat.le_of_ble_eq_true rfl)⟩ ⟨(Nat.le_of_ble_eq_true rfl), (Nat.le_of_ble_eq_true rfl)⟩ dX5_wordIn_44) (fun r28 u29 H locs hw hP hD hS => ?_)
                replace hP : va_P (dC, dI) vwCl [(wo_5_riiiiirii a_this a_this_text x_this_length x_this_at x_this_behind x_this_sort x_this_allowed a_this_plan x_this_fault x_this_place), (wi_0_1600_0 a_this_text cy g_this_text)] H := hP
                replace hD := k_D hP hD
                have Er28 := lf_cha (j := 18) hw (lf_rf J23_l5)
                refine lv_bipush (v := 32) hx hb dX5_wordIn_47 rfl ?_
                refine lv_icmp_ne (tgt := 81) hx hb dX5_wordIn_49 rfl (fun c30 => ?_) (fun c30 => ?_)
                · as_aux_lemma =>
                    replace hq := lf_neg hq (lf_ne Er28 (lf_lc 32 (32 : Int) rfl) c30)
                    refine lv_iload hx hb dX5_wordIn_81 (lv_at hl 4 rfl) ?_
                    refine lv_if_eq (tgt := 113) hx hb dX5_wordIn_83 rfl (fun c31 => ?_) (fun c31 => ?_)
                    · replace hq := lf_pos hq (lf_eq (lf_rf J23_l4) (lf_lc 0 (0 : Int) rfl) c31)
                      have h32 := ib_eq hJ23_l4 (ib_c 0 0 0 rfl) c31
                      have h33 : ib J23_l4 0 0 := ib_w 0 0 h32.1 rfl
                      have h34 : ib J23_l3 0 1602 := ⟨(hJ23_l3).1, by have := (hJ23_l3).2; have := hJ23_lin0; have := (h27).2; omega⟩
                      exact jn113  H locs ls (ib_w 0 1602 h34 rfl) (ib_w 0 1 h33 rfl) (ib_w 0 2 h27 rfl) (ib_w 0 1599 hK23_x_this_at rfl) (ib_w 1 1 hK23_x_this_sort rfl) (by have := hJ23_lin0; omega) (by exact hq) hP hD hS (lv_sub hl [0, 1, 2, 3, 4, 5] rfl)
                    · as_aux_lemma =>
                        replace hq := lf_neg hq (lf_ne (lf_rf J23_l4) (lf_lc 0 (0 : Int) rfl) c31)
                        have h35 : ib J23_l4 1 1 := ib_w 1 1 (ib_ne_lo 0 hJ23_l4 rfl c31) rfl
                        refine lv_iload_n hx hb dX5_wordIn_86 rfl (lv_at hl 3 rfl) ?_
                        refine lv_aload_n hx hb dX5_wordIn_87 rfl (lv_at hl 0 rfl) ?_
                        refine k_get C0 fg_X5_18 hP 0 rfl rfl dX5_wordIn_88 ?_
                        refine lv_icmp_ge (tgt := 113) hx hb dX5_wordIn_91 rfl (fun c36 => ?_) (fun c36 => ?_)
                        · replace hq := lf_pos hq (lf_le (lf_rf x_this_behind) (lf_rf J23_l3) c36)
                          have h37 := ib_le hx_this_behind hJ23_l3 c36
                          have h38 : ib J23_l3 0 1602 := ⟨(hJ23_l3).1, by have := (hJ23_l3).2; have := hJ23_lin0; have := (h27).2; omega⟩
                          exact jn113  H locs ls (ib_w 0 1602 h38 rfl) (ib_w 0 1 h35 rfl) (ib_w 0 2 h27 rfl) (ib_w 0 1599 hK23_x_this_at rfl) (ib_w 1 1 hK23_x_this_sort rfl) (by have := hJ23_lin0; omega) (by exact hq) hP hD hS (lv_sub hl [0, 1, 2, 3, 4, 5] rfl)
                        · as_aux_lemma =>
                            replace hq := lf_neg hq (lf_nle (lf_rf x_this_behind) (lf_rf J23_l3) c36)
                            have h39 := ib_nle hx_this_behind hJ23_l3 c36
                            have h40 : ib x_this_behind 1 1600 := ib_w 1 1600 h39.1 rfl
                            have h41 : ib J23_l3 0 1599 := ib_w 0 1599 h39.2 rfl
                            refine lv_aload_n hx hb dX5_wordIn_94 rfl (lv_at hl 0 rfl) ?_
                            refine k_get C0 fg_X5_33 hP 0 rfl rfl dX5_wordIn_95 ?_
                            refine lv_iload_n hx hb dX5_wordIn_98 rfl (lv_at hl 3 rfl) ?_
                            refine va_iald hx hb C0.2.2.2.2.2.1 hP 1 0 rfl rfl (ib_in 1600 h41 rfl) dX5_wordIn_99 ?_
                            refine lv_topi (fun z42 ez42 => ?_)
                            have h43 : ib z42 0 255 := by rw [ez42]; exact ia_at hg_this_text (ib_in 1600 h41 rfl)
                            have Ez42 := lf_ld ez42 (lf_ra g_this_text) (lf_rf J23_l3)
                            refine lv_aload_n hx hb dX5_wordIn_100 rfl (lv_at hl 1 rfl) ?_
                            refine lv_iload hx hb dX5_wordIn_101 (lv_at hl 5 rfl) ?_
                            refine k_jim hP hD hS hA [] [true, true] rfl rfl rfl 0 0 (Nat.le_of_ble_eq_true rfl) (Nat.le_of_ble_eq_true rfl) (fun hPc hDc => k_runVO (As := [.int J23_l5]) (rest := [.int z42]) C0 hZ hS hA (cx_charAt l dC dI cy sq 18 (by decide) J23_l5 (ib_ch 18 3 h27 rfl rfl).1 (ib_ch 18 3 h27 rfl rfl).2.1 (ib_ch 18 3 h27 rfl rfl).2.2) mV_X5_248 hPc hDc (vk_recv hZ.1 (by decide) hS) hl rfl rfl (Nat.le_of_ble_eq_true rfl) ⟨(Nat.le_of_ble_eq_true rfl), (Nat.le_of_ble_eq_true rfl)⟩ ⟨(Nat.le_of_ble_eq_true rfl), (Nat.le_of_ble_eq_true rfl)⟩ dX5_wordIn_103) (fun r44 u45 H locs hw hP hD hS => ?_)
                            replace hP : va_P (dC, dI) vwCl [(wo_5_riiiiirii a_this a_this_text x_this_length x_this_at x_this_behind x_this_sort x_this_allowed a_this_plan x_this_fault x_this_place), (wi_0_1600_0 a_this_text cy g_this_text)] H := hP
                            replace hD := k_D hP hD
                            have Er44 := lf_cha (j := 18) hw (lf_rf J23_l5)
                            refine lv_icmp_ne (tgt := 113) hx hb dX5_wordIn_106 rfl (fun c46 => ?_) (fun c46 => ?_)
                            · replace hq := lf_neg hq (lf_ne Ez42 Er44 c46)
                              exact jn113  H locs ls (ib_w 0 1602 h41 rfl) (ib_w 0 1 h35 rfl) (ib_w 0 2 h27 rfl) (ib_w 0 1599 hK23_x_this_at rfl) (ib_w 1 1 hK23_x_this_sort rfl) (by have := hJ23_lin0; omega) (by exact hq) hP hD hS (lv_sub hl [0, 1, 2, 3, 4, 5] rfl)
                            · replace hq := lf_pos hq (lf_eq Ez42 Er44 c46)
                              have h47 := ib_eq h43 (ib_any r44) c46
                              have h48 : ib r44 0 255 := ib_w 0 255 h47.2 rfl
                              refine lv_iconst (v := 1) hx hb dX5_wordIn_109 rfl ?_
                              refine lv_goto (tgt := 114) hx hb dX5_wordIn_110 rfl ?_
                              exact jn114 1 H locs ls (ib_w 0 1602 h41 rfl) (ib_w 0 1 h35 rfl) (ib_w 0 2 h27 rfl) (ib_w 0 1599 hK23_x_this_at rfl) (ib_w 1 1 hK23_x_this_sort rfl) (ib_w 0 1 (ib_c 1 1 1 rfl) rfl) (by have := hJ23_lin0; omega) (by try simp only [show (1 : Int32).toInt = (1 : Int) from rfl]; exact hq) hP hD hS (lv_sub hl [0, 1, 2, 3, 4, 5] rfl)
                · replace hq := lf_pos hq (lf_eq Er28 (lf_lc 32 (32 : Int) rfl) c30)
                  have h49 := ib_eq (ib_any r28) (ib_c 32 32 32 rfl) c30
                  have h50 : ib r28 32 32 := ib_w 32 32 h49.1 rfl
                  have h51 : ib J23_l3 0 1602 := ⟨(hJ23_l3).1, by have := (hJ23_l3).2; have := hJ23_lin0; have := (h27).2; omega⟩
                  exact jn52  H locs ls (ib_w 0 1603 h51 rfl) (ib_w 0 1 hJ23_l4 rfl) (ib_w 0 3 h27 rfl) (ib_w 0 1599 hK23_x_this_at rfl) (ib_w 1 1 hK23_x_this_sort rfl) (by exact hq) hP hD hS (lv_sub hl [0, 1, 2, 3, 4, 5] rfl)
  refine lv_aload_n hx hb dX5_wordIn_0 rfl (lv_at hl 0 rfl) ?_
  refine k_get C0 fg_X5_21 hP 0 rfl rfl dX5_wordIn_1 ?_
  refine lv_iconst (v := 1) hx hb dX5_wordIn_4 rfl ?_
  refine lv_icmp_eq (tgt := 10) hx hb dX5_wordIn_5 rfl (fun c52 => ?_) (fun c52 => ?_)
  · replace hq := lf_pos hq (lf_eq (lf_rf x_this_sort) (lf_lc 1 (1 : Int) rfl) c52)
    have h53 := ib_eq hx_this_sort (ib_c 1 1 1 rfl) c52
    have h54 : ib x_this_sort 1 1 := ib_w 1 1 h53.1 rfl
    have h55 : ib x_this_at 0 1599 := ib_w 0 1599 (ib_two hx_this_at (hc0_this (ib_nz h54 rfl))) rfl
    refine lv_iconst (v := 0) hx hb dX5_wordIn_10 rfl ?_
    refine lv_istore_n (lv' := [(2, .int 0), (0, .ref a_this), (1, .ref (sq 18))]) hx hb dX5_wordIn_11 rfl hl (Nat.le_of_ble_eq_true rfl) rfl (fun ls hl => ?_)
    refine lv_aload_n hx hb dX5_wordIn_12 rfl (lv_at hl 1 rfl) ?_
    refine k_get C0 fg_X5_15 hP 0 rfl rfl dX5_wordIn_13 ?_
    refine lv_istore_n (lv' := [(3, .int x_this_at), (2, .int 0), (0, .ref a_this), (1, .ref (sq 18))]) hx hb dX5_wordIn_16 rfl hl (Nat.le_of_ble_eq_true rfl) rfl (fun ls hl => ?_)
    refine lv_iconst (v := 1) hx hb dX5_wordIn_17 rfl ?_
    refine lv_istore (lv' := [(4, .int 1), (3, .int x_this_at), (2, .int 0), (0, .ref a_this), (1, .ref (sq 18))]) hx hb dX5_wordIn_18 hl (Nat.le_of_ble_eq_true rfl) rfl (fun ls hl => ?_)
    refine lv_iconst (v := 0) hx hb dX5_wordIn_20 rfl ?_
    refine lv_istore (lv' := [(5, .int 0), (4, .int 1), (3, .int x_this_at), (2, .int 0), (0, .ref a_this), (1, .ref (sq 18))]) hx hb dX5_wordIn_21 hl (Nat.le_of_ble_eq_true rfl) rfl (fun ls hl => ?_)
    exact jn23 6 0 x_this_at 1 0 H locs ls (ib_w 0 1599 h55 rfl) (ib_w 1 1 h54 rfl) (ib_w 0 1603 h55 rfl) (ib_w 0 1 (ib_c 1 1 1 rfl) rfl) (ib_w 0 4 (ib_c 0 0 0 rfl) rfl) (by have : (0 : Int32).toInt = 0 := rfl; have := (h55).2; omega) (by try simp only [show (0 : Int32).toInt = (0 : Int) from rfl]; try simp only [show (1 : Int32).toInt = (1 : Int) from rfl]; exact hq) (by have := (ib_c 0 0 0 rfl); unfold ib at this; omega) hP hD hS (lv_sub hl [4, 5, 3, 2, 1, 0] rfl)
  · replace hq := lf_neg hq (lf_ne (lf_rf x_this_sort) (lf_lc 1 (1 : Int) rfl) c52)
    refine lv_iconst (v := (-1)) hx hb dX5_wordIn_8 rfl ?_
    subst hQ; exact k_iret hx hb hr hlk rfl () hS ((hO.symm.trans (by try simp only [show ((-1) : Int32).toInt = (-1 : Int) from rfl]; exact hq))) hP hD (Nat.le_of_ble_eq_true rfl) (Nat.le_of_ble_eq_true rfl) dX5_wordIn_9
set_option maxHeartbeats 4000000 in
set_option maxRecDepth 100000 in
theorem s_X5_takeWord_s18 (l : Launch) (dC : Nat → ClassId) (dI : Nat → Nat → Nat) (cy : Nat → ClassId) (sq : Nat → Nat) (a_this : Nat) (a_this_text : Nat) (g_this_text : Nat → Int32) (x_this_length : Int32) (x_this_at : Int32) (x_this_behind : Int32) (x_this_sort : Int32) (x_this_allowed : Int32) (a_this_plan : Nat) (x_this_fault : Int32) (x_this_place : Int32) (hg_this_text : ia g_this_text 1600 0 255) (hx_this_length : ib x_this_length 0 1600) (hx_this_at : ib x_this_at 0 1600) (hx_this_behind : ib x_this_behind 0 1600) (hx_this_sort : ib x_this_sort 0 4) (hc0_this : ¬ x_this_sort = 0 → ib x_this_at 0 1599) : k_Met l yX5_takeWord cX5_takeWord 3 (some .boolean) { frames := 5, cells := 0, slots := 0, locals := 166 } dC dI cy sq [.ref a_this, .ref (sq 18)] [(wo_5_riiiiirii a_this a_this_text x_this_length x_this_at x_this_behind x_this_sort x_this_allowed a_this_plan x_this_fault x_this_place), (wi_0_1600_0 a_this_text cy g_this_text)] (k_Qi dC dI (fun (r : Int32) (u : Int32 × Int32 × Int32) => match u with | (n0, n1, n2) => ib r 0 1 ∧ ib n0 0 1600 ∧ ib n1 0 1600 ∧ ib n2 0 4 ∧ (¬ n2 = 0 → ib n0 0 1599) ∧ (F_X5_takeWord_s18 (lf_A g_this_text) (Int32.toInt x_this_length) (Int32.toInt x_this_at) (Int32.toInt x_this_behind) (Int32.toInt x_this_sort) = ((Int32.toInt r), (Int32.toInt n0), (Int32.toInt n1), (Int32.toInt n2)))) (fun u : Int32 × Int32 × Int32 => match u with | (n0, n1, n2) => [(wo_5_riiiiirii a_this a_this_text x_this_length n0 n1 n2 x_this_allowed a_this_plan x_this_fault x_this_place), (wi_0_1600_0 a_this_text cy g_this_text)])) := by
  refine k_ofW2 (by decide +kernel) (Nat.le_of_ble_eq_true rfl) ?_
  intro p e s m below meth c A ls H locs args Q hQ C0 hZ hr hlk hin hP hD hA hS hl
  have C0 : k_cx p s m args c cX5_takeWord 3 RX5 dC dI cy sq := C0
  have hx := C0.1
  have hb := C0.2.1
  have hl : lv_has ls 3 [(0, .ref a_this), (1, .ref (sq 18))] := hl
  obtain ⟨O, hO⟩ : ∃ o, o = F_X5_takeWord_s18 (lf_A g_this_text) (Int32.toInt x_this_length) (Int32.toInt x_this_at) (Int32.toInt x_this_behind) (Int32.toInt x_this_sort) := ⟨_, rfl⟩
  have hq := hO
  unfold F_X5_takeWord_s18 at hq
  have jn27 : ∀ (J27_l2 : Int32) (J27_c0_2 : Int32) (J27_c0_3 : Int32) (J27_c0_4 : Int32) (H : Heap) (locs : List Loc) (ls : Array Slot), ib J27_l2 0 1 → ib J27_c0_2 0 1600 → ib J27_c0_3 0 1600 → ib J27_c0_4 0 4 → (¬ J27_c0_4 = 0 → ib J27_c0_2 0 1599) → (O = F_X5_takeWord_s18_27 (Int32.toInt J27_l2) (Int32.toInt J27_c0_2) (Int32.toInt J27_c0_3) (Int32.toInt J27_c0_4)) → va_P (dC, dI) vwCl [(wo_5_riiiiirii a_this a_this_text x_this_length J27_c0_2 J27_c0_3 J27_c0_4 x_this_allowed a_this_plan x_this_fault x_this_place), (wi_0_1600_0 a_this_text cy g_this_text)] H → va_D A [(wo_5_riiiiirii a_this a_this_text x_this_length J27_c0_2 J27_c0_3 J27_c0_4 x_this_allowed a_this_plan x_this_fault x_this_place), (wi_0_1600_0 a_this_text cy g_this_text)] → va_S A s.heap H locs → lv_has ls 3 [(0, .ref a_this), (1, .ref (sq 18)), (2, .int J27_l2)] → W p l e { frames := 5, cells := 0, slots := 0, locals := 166 } s m args below meth c H locs 0 0 Q (F0 m 27 ls []) := by
    intro J27_l2 J27_c0_2 J27_c0_3 J27_c0_4 H locs ls hJ27_l2 hJ27_c0_2 hJ27_c0_3 hJ27_c0_4 hJ27_ic0_0 hq hP hD hS hl
    unfold F_X5_takeWord_s18_27 at hq
    refine lv_iload_n hx hb dX5_takeWord_27 rfl (lv_at hl 2 rfl) ?_
    subst hQ; exact k_iret hx hb hr hlk (ib_bool (ib_w 0 1 hJ27_l2 rfl)) ((J27_c0_2, J27_c0_3, J27_c0_4)) hS ⟨ib_w 0 1 hJ27_l2 rfl, ib_w 0 1600 hJ27_c0_2 rfl, ib_w 0 1600 hJ27_c0_3 rfl, ib_w 0 4 hJ27_c0_4 rfl, fun hq9 => ib_w 0 1599 (hJ27_ic0_0 hq9) rfl, (hO.symm.trans (by exact hq))⟩ hP hD (Nat.le_of_ble_eq_true rfl) (Nat.le_of_ble_eq_true rfl) dX5_takeWord_28
  have jn14 : ∀ (J14_s0 : Int32) (H : Heap) (locs : List Loc) (ls : Array Slot), ib J14_s0 0 1 → (O = F_X5_takeWord_s18_14 (lf_A g_this_text) (Int32.toInt x_this_length) (Int32.toInt x_this_at) (Int32.toInt x_this_behind) (Int32.toInt x_this_sort) (Int32.toInt J14_s0)) → va_P (dC, dI) vwCl [(wo_5_riiiiirii a_this a_this_text x_this_length x_this_at x_this_behind x_this_sort x_this_allowed a_this_plan x_this_fault x_this_place), (wi_0_1600_0 a_this_text cy g_this_text)] H → va_D A [(wo_5_riiiiirii a_this a_this_text x_this_length x_this_at x_this_behind x_this_sort x_this_allowed a_this_plan x_this_fault x_this_place), (wi_0_1600_0 a_this_text cy g_this_text)] → va_S A s.heap H locs → lv_has ls 3 [(0, .ref a_this), (1, .ref (sq 18))] → W p l e { frames := 5, cells := 0, slots := 0, locals := 166 } s m args below meth c H locs 0 0 Q (F0 m 14 ls [.int J14_s0]) := by
    intro J14_s0 H locs ls hJ14_s0 hq hP hD hS hl
    unfold F_X5_takeWord_s18_14 at hq
    refine lv_istore_n (lv' := [(2, .int J14_s0), (0, .ref a_this), (1, .ref (sq 18))]) hx hb dX5_takeWord_14 rfl hl (Nat.le_of_ble_eq_true rfl) rfl (fun ls hl => ?_)
    refine lv_iload_n hx hb dX5_takeWord_15 rfl (lv_at hl 0 rfl) ?_
    refine lv_if_eq (tgt := 27) hx hb dX5_takeWord_16 rfl (fun c1 => ?_) (fun c1 => ?_)
    · replace hq := lf_pos hq (lf_eq (lf_rf J14_s0) (lf_lc 0 (0 : Int) rfl) c1)
      have h2 := ib_eq hJ14_s0 (ib_c 0 0 0 rfl) c1
      have h3 : ib J14_s0 0 0 := ib_w 0 0 h2.1 rfl
      exact jn27 J14_s0 x_this_at x_this_behind x_this_sort H locs ls (ib_w 0 1 h3 rfl) (ib_w 0 1600 hx_this_at rfl) (ib_w 0 1600 hx_this_behind rfl) (ib_w 0 4 hx_this_sort rfl) (fun hq9 => ib_w 0 1599 (hc0_this hq9) rfl) (by exact hq) hP hD hS (lv_sub hl [1, 2, 0] rfl)
    · replace hq := lf_neg hq (lf_ne (lf_rf J14_s0) (lf_lc 0 (0 : Int) rfl) c1)
      have h4 : ib J14_s0 1 1 := ib_w 1 1 (ib_ne_lo 0 hJ14_s0 rfl c1) rfl
      refine lv_aload_n hx hb dX5_takeWord_19 rfl (lv_at hl 1 rfl) ?_
      refine lv_aload_n hx hb dX5_takeWord_20 rfl (lv_at hl 1 rfl) ?_
      refine k_get C0 fg_X5_18 hP 0 rfl rfl dX5_takeWord_21 ?_
      refine k_jvm hP hD hS hA [0, 1] [] rfl rfl rfl 0 0 (Nat.le_of_ble_eq_true rfl) (Nat.le_of_ble_eq_true rfl) (fun hPc hDc => k_runV (As := [.int x_this_behind]) (rest := []) C0 hZ hS hA (s_X5_moveTo l dC dI cy sq a_this a_this_text g_this_text x_this_length x_this_at x_this_behind x_this_sort x_this_allowed a_this_plan x_this_fault x_this_place x_this_behind hg_this_text (ib_w 0 1600 hx_this_length rfl) (ib_w 0 1600 hx_this_behind rfl)) mV_X5_86 hPc hDc rfl rfl rfl hl rfl rfl (Nat.le_of_ble_eq_true rfl) ⟨(Nat.le_of_ble_eq_true rfl), (Nat.le_of_ble_eq_true rfl)⟩ ⟨(Nat.le_of_ble_eq_true rfl), (Nat.le_of_ble_eq_true rfl)⟩ dX5_takeWord_24) (fun u6 H locs hw hP hD hS => ?_)
      obtain ⟨v7, v8, v9⟩ := u6
      try dsimp only at hP hD hw
      replace hP : va_P (dC, dI) vwCl [(wo_5_riiiiirii a_this a_this_text x_this_length v7 v8 v9 x_this_allowed a_this_plan x_this_fault x_this_place), (wi_0_1600_0 a_this_text cy g_this_text)] H := hP
      replace hD := k_D hP hD
      obtain ⟨h10, h11, h12, h13, h14⟩ := hw
      replace hq := lf_p1 hq h14
      replace hq := lf_p1 hq rfl
      exact jn27 J14_s0 v7 v8 v9 H locs ls (ib_w 0 1 h4 rfl) (ib_w 0 1600 h10 rfl) (ib_w 0 1600 h11 rfl) (ib_w 0 4 h12 rfl) (fun hq9 => ib_w 0 1599 (h13 hq9) rfl) (by exact hq) hP hD hS (lv_sub hl [1, 2, 0] rfl)
  refine lv_aload_n hx hb dX5_takeWord_0 rfl (lv_at hl 0 rfl) ?_
  refine lv_aload_n hx hb dX5_takeWord_1 rfl (lv_at hl 1 rfl) ?_
  refine k_jim hP hD hS hA [0, 1] [] rfl rfl rfl 0 0 (Nat.le_of_ble_eq_true rfl) (Nat.le_of_ble_eq_true rfl) (fun hPc hDc => k_runV (As := [.ref (sq 18)]) (rest := []) C0 hZ hS hA (s_X5_wordIn_s18 l dC dI cy sq a_this a_this_text g_this_text x_this_length x_this_at x_this_behind x_this_sort x_this_allowed a_this_plan x_this_fault x_this_place hg_this_text (ib_w 0 1600 hx_this_at rfl) (ib_w 0 1600 hx_this_behind rfl) (ib_w 0 4 hx_this_sort rfl) (fun hq9 => ib_w 0 1599 (hc0_this hq9) rfl)) mV_X5_54 hPc hDc rfl rfl rfl hl rfl rfl (Nat.le_of_ble_eq_true rfl) ⟨(Nat.le_of_ble_eq_true rfl), (Nat.le_of_ble_eq_true rfl)⟩ ⟨(Nat.le_of_ble_eq_true rfl), (Nat.le_of_ble_eq_true rfl)⟩ dX5_takeWord_2) (fun r15 u16 H locs hw hP hD hS => ?_)
  try dsimp only at hP hD hw
  replace hP : va_P (dC, dI) vwCl [(wo_5_riiiiirii a_this a_this_text x_this_length x_this_at x_this_behind x_this_sort x_this_allowed a_this_plan x_this_fault x_this_place), (wi_0_1600_0 a_this_text cy g_this_text)] H := hP
  replace hD := k_D hP hD
  have h17 := hw
  replace hq := lf_b1 hq h17
  refine lv_iconst (v := (-1)) hx hb dX5_takeWord_5 rfl ?_
  refine lv_icmp_eq (tgt := 13) hx hb dX5_takeWord_6 rfl (fun c18 => ?_) (fun c18 => ?_)
  · replace hq := lf_pos hq (lf_eq (lf_rf r15) (lf_lc (-1) (-1 : Int) rfl) c18)
    have h19 := ib_eq (ib_any r15) (ib_c (-1) (-1) (-1) rfl) c18
    have h20 : ib r15 (-1) (-1) := ib_w (-1) (-1) h19.1 rfl
    refine lv_iconst (v := 0) hx hb dX5_takeWord_13 rfl ?_
    exact jn14 0 H locs ls (ib_w 0 1 (ib_c 0 0 0 rfl) rfl) (by try simp only [show (0 : Int32).toInt = (0 : Int) from rfl]; exact hq) hP hD hS (lv_sub hl [0, 1] rfl)
  · replace hq := lf_neg hq (lf_ne (lf_rf r15) (lf_lc (-1) (-1 : Int) rfl) c18)
    refine lv_iconst (v := 1) hx hb dX5_takeWord_9 rfl ?_
    refine lv_goto (tgt := 14) hx hb dX5_takeWord_10 rfl ?_
    exact jn14 1 H locs ls (ib_w 0 1 (ib_c 1 1 1 rfl) rfl) (by try simp only [show (1 : Int32).toInt = (1 : Int) from rfl]; exact hq) hP hD hS (lv_sub hl [0, 1] rfl)
set_option maxHeartbeats 4000000 in
set_option maxRecDepth 100000 in
theorem s_X5_wordIn_s19 (l : Launch) (dC : Nat → ClassId) (dI : Nat → Nat → Nat) (cy : Nat → ClassId) (sq : Nat → Nat) (a_this : Nat) (a_this_text : Nat) (g_this_text : Nat → Int32) (x_this_length : Int32) (x_this_at : Int32) (x_this_behind : Int32) (x_this_sort : Int32) (x_this_allowed : Int32) (a_this_plan : Nat) (x_this_fault : Int32) (x_this_place : Int32) (hg_this_text : ia g_this_text 1600 0 255) (hx_this_at : ib x_this_at 0 1600) (hx_this_behind : ib x_this_behind 0 1600) (hx_this_sort : ib x_this_sort 0 4) (hc0_this : ¬ x_this_sort = 0 → ib x_this_at 0 1599) : k_Met l yX5_wordIn cX5_wordIn 6 (some .int) { frames := 4, cells := 0, slots := 0, locals := 141 } dC dI cy sq [.ref a_this, .ref (sq 19)] [(wo_5_riiiiirii a_this a_this_text x_this_length x_this_at x_this_behind x_this_sort x_this_allowed a_this_plan x_this_fault x_this_place), (wi_0_1600_0 a_this_text cy g_this_text)] (k_Qi dC dI (fun (r : Int32) (_ : Unit) => (F_X5_wordIn_s19 (lf_A g_this_text) (Int32.toInt x_this_at) (Int32.toInt x_this_behind) (Int32.toInt x_this_sort) = ((Int32.toInt r)))) (fun _ : Unit => [(wo_5_riiiiirii a_this a_this_text x_this_length x_this_at x_this_behind x_this_sort x_this_allowed a_this_plan x_this_fault x_this_place), (wi_0_1600_0 a_this_text cy g_this_text)])) := by
  refine k_ofW2 (by decide +kernel) (Nat.le_of_ble_eq_true rfl) ?_
  intro p e s m below meth c A ls H locs args Q hQ C0 hZ hr hlk hin hP hD hA hS hl
  have C0 : k_cx p s m args c cX5_wordIn 6 RX5 dC dI cy sq := C0
  have hx := C0.1
  have hb := C0.2.1
  have hl : lv_has ls 6 [(0, .ref a_this), (1, .ref (sq 19))] := hl
  obtain ⟨O, hO⟩ : ∃ o, o = F_X5_wordIn_s19 (lf_A g_this_text) (Int32.toInt x_this_at) (Int32.toInt x_this_behind) (Int32.toInt x_this_sort) := ⟨_, rfl⟩
  have hq := hO
  unfold F_X5_wordIn_s19 at hq
  have jn23 : ∀ (n : Nat) (J23_l2 : Int32) (J23_l3 : Int32) (J23_l4 : Int32) (J23_l5 : Int32) (H : Heap) (locs : List Loc) (ls : Array Slot), ib x_this_at 0 1599 → ib x_this_sort 1 1 → ib J23_l3 0 1604 → ib J23_l4 0 1 → ib J23_l5 0 5 → (1 * J23_l3.toInt + (-1) * J23_l5.toInt ≤ 1600) → (O = F_X5_wordIn_s19_23 (lf_A g_this_text) (Int32.toInt x_this_at) (Int32.toInt x_this_behind) n (Int32.toInt J23_l2) (Int32.toInt J23_l3) (Int32.toInt J23_l4) (Int32.toInt J23_l5)) → 6 ≤ J23_l5.toInt + (n : Int) → va_P (dC, dI) vwCl [(wo_5_riiiiirii a_this a_this_text x_this_length x_this_at x_this_behind x_this_sort x_this_allowed a_this_plan x_this_fault x_this_place), (wi_0_1600_0 a_this_text cy g_this_text)] H → va_D A [(wo_5_riiiiirii a_this a_this_text x_this_length x_this_at x_this_behind x_this_sort x_this_allowed a_this_plan x_this_fault x_this_place), (wi_0_1600_0 a_this_text cy g_this_text)] → va_S A s.heap H locs → lv_has ls 6 [(0, .ref a_this), (1, .ref (sq 19)), (2, .int J23_l2), (3, .int J23_l3), (4, .int J23_l4), (5, .int J23_l5)] → W p l e { frames := 4, cells := 0, slots := 0, locals := 141 } s m args below meth c H locs 0 0 Q (F0 m 23 ls []) := by
    as_aux_lemma =>
      intro n
      induction n with
      | zero =>
        intro J23_l2 J23_l3 J23_l4 J23_l5 H locs ls hK23_x_this_at hK23_x_this_sort hJ23_l3 hJ23_l4 hJ23_l5 hJ23_lin0 hq hm
        exact absurd hm (by have := hJ23_l5; unfold ib at this; omega)
      | succ n ih =>
        intro J23_l2 J23_l3 J23_l4 J23_l5 H locs ls hK23_x_this_at hK23_x_this_sort hJ23_l3 hJ23_l4 hJ23_l5 hJ23_lin0 hq hm23 hP hD hS hl
        have ih23 := ih
        obtain ⟨K23, hK23⟩ : ∃ K, K = F_X5_wordIn_s19_23 (lf_A g_this_text) (Int32.toInt x_this_at) (Int32.toInt x_this_behind) n := ⟨_, rfl⟩
        have hq : O = F_X5_wordIn_s19_23b (lf_A g_this_text) (Int32.toInt x_this_at) (Int32.toInt x_this_behind) K23 (Int32.toInt J23_l2) (Int32.toInt J23_l3) (Int32.toInt J23_l4) (Int32.toInt J23_l5) := by rw [hK23]; exact hq
        unfold F_X5_wordIn_s19_23b at hq
        have jn119 : ∀ (J119_l2 : Int32) (J119_l3 : Int32) (J119_l4 : Int32) (H : Heap) (locs : List Loc) (ls : Array Slot), ib x_this_at 0 1599 → ib J23_l5 0 4 → ib x_this_sort 1 1 → ib J119_l3 0 1604 → ib J119_l4 0 1 → (1 * J119_l3.toInt + (-1) * J23_l5.toInt ≤ 1601) → (O = F_X5_wordIn_s19_119 (Int32.toInt J23_l5) K23 (Int32.toInt J119_l2) (Int32.toInt J119_l3) (Int32.toInt J119_l4)) → va_P (dC, dI) vwCl [(wo_5_riiiiirii a_this a_this_text x_this_length x_this_at x_this_behind x_this_sort x_this_allowed a_this_plan x_this_fault x_this_place), (wi_0_1600_0 a_this_text cy g_this_text)] H → va_D A [(wo_5_riiiiirii a_this a_this_text x_this_length x_this_at x_this_behind x_this_sort x_this_allowed a_this_plan x_this_fault x_this_place), (wi_0_1600_0 a_this_text cy g_this_text)] → va_S A s.heap H locs → lv_has ls 6 [(0, .ref a_this), (1, .ref (sq 19)), (2, .int J119_l2), (3, .int J119_l3), (4, .int J119_l4), (5, .int J23_l5)] → W p l e { frames := 4, cells := 0, slots := 0, locals := 141 } s m args below meth c H locs 0 0 Q (F0 m 119 ls []) := by
          intro J119_l2 J119_l3 J119_l4 H locs ls hK119_x_this_at hK119_J23_l5 hK119_x_this_sort hJ119_l3 hJ119_l4 hJ119_lin0 hq hP hD hS hl
          unfold F_X5_wordIn_s19_119 at hq
          obtain ⟨z1, ez1⟩ : ∃ y : Int32, y = J23_l5 + 1 := ⟨_, rfl⟩
          refine lv_iinc (v := z1) (lv' := [(5, .int z1), (0, .ref a_this), (1, .ref (sq 19)), (2, .int J119_l2), (3, .int J119_l3), (4, .int J119_l4)]) hx hb dX5_wordIn_119 hl (k := 5) rfl (by rw [ez1]; rfl) (Nat.le_of_ble_eq_true rfl) rfl (fun ls hl => ?_)
          have h2 := ib_add hK119_J23_l5 (ib_c 1 1 1 rfl) rfl
          rw [← ez1] at h2
          have h3 : ib z1 1 5 := ib_w 1 5 h2.1 rfl
          have Ez1 := lf_add h2.2 (lf_rf J23_l5) (lf_lc 1 (1 : Int) rfl)
          refine lv_goto (tgt := 23) hx hb dX5_wordIn_122 rfl ?_
          exact ih23 J119_l2 J119_l3 J119_l4 z1 H locs ls (ib_w 0 1599 hK119_x_this_at rfl) (ib_w 1 1 hK119_x_this_sort rfl) (ib_w 0 1604 hJ119_l3 rfl) (ib_w 0 1 hJ119_l4 rfl) (ib_w 0 5 h3 rfl) (by have := h2.2; have : (1 : Int32).toInt = 1 := rfl; have := hJ119_lin0; omega) (by rw [← hK23]; rw [lf_u Ez1]; exact hq) (by have := h2.2; have : (1 : Int32).toInt = 1 := rfl; omega) hP hD hS (lv_sub hl [1, 2, 3, 4, 5, 0] rfl)
        have jn114 : ∀ (J114_s0 : Int32) (H : Heap) (locs : List Loc) (ls : Array Slot), ib J23_l3 0 1603 → ib J23_l4 0 1 → ib J23_l5 0 3 → ib x_this_at 0 1599 → ib x_this_sort 1 1 → ib J114_s0 0 1 → (1 * J23_l3.toInt + (-1) * J23_l5.toInt ≤ 1600) → (O = F_X5_wordIn_s19_114 (Int32.toInt J23_l2) (Int32.toInt J23_l3) (Int32.toInt J23_l5) K23 (Int32.toInt J114_s0)) → va_P (dC, dI) vwCl [(wo_5_riiiiirii a_this a_this_text x_this_length x_this_at x_this_behind x_this_sort x_this_allowed a_this_plan x_this_fault x_this_place), (wi_0_1600_0 a_this_text cy g_this_text)] H → va_D A [(wo_5_riiiiirii a_this a_this_text x_this_length x_this_at x_this_behind x_this_sort x_this_allowed a_this_plan x_this_fault x_this_place), (wi_0_1600_0 a_this_text cy g_this_text)] → va_S A s.heap H locs → lv_has ls 6 [(0, .ref a_this), (1, .ref (sq 19)), (2, .int J23_l2), (3, .int J23_l3), (4, .int J23_l4), (5, .int J23_l5)] → W p l e { frames := 4, cells := 0, slots := 0, locals := 141 } s m args below meth c H locs 0 0 Q (F0 m 114 ls [.int J114_s0]) := by
          intro J114_s0 H locs ls hK114_J23_l3 hK114_J23_l4 hK114_J23_l5 hK114_x_this_at hK114_x_this_sort hJ114_s0 hJ114_lin0 hq hP hD hS hl
          unfold F_X5_wordIn_s19_114 at hq
          refine lv_istore (lv' := [(4, .int J114_s0), (0, .ref a_this), (1, .ref (sq 19)), (2, .int J23_l2), (3, .int J23_l3), (5, .int J23_l5)]) hx hb dX5_wordIn_114 hl (Nat.le_of_ble_eq_true rfl) rfl (fun ls hl => ?_)
          obtain ⟨z4, ez4⟩ : ∃ y : Int32, y = J23_l3 + 1 := ⟨_, rfl⟩
          refine lv_iinc (v := z4) (lv' := [(3, .int z4), (4, .int J114_s0), (0, .ref a_this), (1, .ref (sq 19)), (2, .int J23_l2), (5, .int J23_l5)]) hx hb dX5_wordIn_116 hl (k := 4) rfl (by rw [ez4]; rfl) (Nat.le_of_ble_eq_true rfl) rfl (fun ls hl => ?_)
          have h5 := ib_add hK114_J23_l3 (ib_c 1 1 1 rfl) rfl
          rw [← ez4] at h5
          have h6 : ib z4 1 1604 := ib_w 1 1604 h5.1 rfl
          have Ez4 := lf_add h5.2 (lf_rf J23_l3) (lf_lc 1 (1 : Int) rfl)
          exact jn119 J23_l2 z4 J114_s0 H locs ls (ib_w 0 1599 hK114_x_this_at rfl) (ib_w 0 4 hK114_J23_l5 rfl) (ib_w 1 1 hK114_x_this_sort rfl) (ib_w 0 1604 h6 rfl) (ib_w 0 1 hJ114_s0 rfl) (by have := (hK114_J23_l5).1; have := hJ23_lin0; have := (h6).2; have := h5.2; have : (1 : Int32).toInt = 1 := rfl; omega) (by rw [lf_u Ez4]; exact hq) hP hD hS (lv_sub hl [2, 3, 4, 0, 1, 5] rfl)
        have jn113 : ∀  (H : Heap) (locs : List Loc) (ls : Array Slot), ib J23_l3 0 1603 → ib J23_l4 0 1 → ib J23_l5 0 3 → ib x_this_at 0 1599 → ib x_this_sort 1 1 → (1 * J23_l3.toInt + (-1) * J23_l5.toInt ≤ 1600) → (O = F_X5_wordIn_s19_113 (Int32.toInt J23_l2) (Int32.toInt J23_l3) (Int32.toInt J23_l5) K23 ) → va_P (dC, dI) vwCl [(wo_5_riiiiirii a_this a_this_text x_this_length x_this_at x_this_behind x_this_sort x_this_allowed a_this_plan x_this_fault x_this_place), (wi_0_1600_0 a_this_text cy g_this_text)] H → va_D A [(wo_5_riiiiirii a_this a_this_text x_this_length x_this_at x_this_behind x_this_sort x_this_allowed a_this_plan x_this_fault x_this_place), (wi_0_1600_0 a_this_text cy g_this_text)] → va_S A s.heap H locs → lv_has ls 6 [(0, .ref a_this), (1, .ref (sq 19)), (2, .int J23_l2), (3, .int J23_l3), (4, .int J23_l4), (5, .int J23_l5)] → W p l e { frames := 4, cells := 0, slots := 0, locals := 141 } s m args below meth c H locs 0 0 Q (F0 m 113 ls []) := by
          intro H locs ls hK113_J23_l3 hK113_J23_l4 hK113_J23_l5 hK113_x_this_at hK113_x_this_sort hJ113_lin0 hq hP hD hS hl
          unfold F_X5_wordIn_s19_113 at hq
          refine lv_iconst (v := 0) hx hb dX5_wordIn_113 rfl ?_
          exact jn114 0 H locs ls (ib_w 0 1603 hK113_J23_l3 rfl) (ib_w 0 1 hK113_J23_l4 rfl) (ib_w 0 3 hK113_J23_l5 rfl) (ib_w 0 1599 hK113_x_this_at rfl) (ib_w 1 1 hK113_x_this_sort rfl) (ib_w 0 1 (ib_c 0 0 0 rfl) rfl) (by have := hJ23_lin0; omega) (by try simp only [show (0 : Int32).toInt = (0 : Int) from rfl]; exact hq) hP hD hS (lv_sub hl [0, 1, 2, 3, 4, 5] rfl)
        have jn67 : ∀  (H : Heap) (locs : List Loc) (ls : Array Slot), ib J23_l3 0 1604 → ib J23_l4 0 1 → ib J23_l5 0 4 → ib x_this_at 0 1599 → ib x_this_sort 1 1 → (O = F_X5_wordIn_s19_67 (Int32.toInt x_this_at) (Int32.toInt J23_l2) (Int32.toInt J23_l5) K23 ) → va_P (dC, dI) vwCl [(wo_5_riiiiirii a_this a_this_text x_this_length x_this_at x_this_behind x_this_sort x_this_allowed a_this_plan x_this_fault x_this_place), (wi_0_1600_0 a_this_text cy g_this_text)] H → va_D A [(wo_5_riiiiirii a_this a_this_text x_this_length x_this_at x_this_behind x_this_sort x_this_allowed a_this_plan x_this_fault x_this_place), (wi_0_1600_0 a_this_text cy g_this_text)] → va_S A s.heap H locs → lv_has ls 6 [(0, .ref a_this), (1, .ref (sq 19)), (2, .int J23_l2), (3, .int J23_l3), (4, .int J23_l4), (5, .int J23_l5)] → W p l e { frames := 4, cells := 0, slots := 0, locals := 141 } s m args below meth c H locs 0 0 Q (F0 m 67 ls []) := by
          intro H locs ls hK67_J23_l3 hK67_J23_l4 hK67_J23_l5 hK67_x_this_at hK67_x_this_sort hq hP hD hS hl
          unfold F_X5_wordIn_s19_67 at hq
          obtain ⟨z7, ez7⟩ : ∃ y : Int32, y = J23_l2 + 1 := ⟨_, rfl⟩
          refine lv_iinc (v := z7) (lv' := [(2, .int z7), (0, .ref a_this), (1, .ref (sq 19)), (3, .int J23_l3), (4, .int J23_l4), (5, .int J23_l5)]) hx hb dX5_wordIn_67 hl (k := 2) rfl (by rw [ez7]; rfl) (Nat.le_of_ble_eq_true rfl) rfl (fun ls hl => ?_)
          have Ez7 := lf_op lf_iadd ez7 (lf_rf J23_l2) (lf_lc 1 (1 : Int) rfl)
          refine lv_aload_n hx hb dX5_wordIn_70 rfl (lv_at hl 1 rfl) ?_
          refine k_get C0 fg_X5_15 hP 0 rfl rfl dX5_wordIn_71 ?_
          refine lv_istore_n (lv' := [(3, .int x_this_at), (2, .int z7), (0, .ref a_this), (1, .ref (sq 19)), (4, .int J23_l4), (5, .int J23_l5)]) hx hb dX5_wordIn_74 rfl hl (Nat.le_of_ble_eq_true rfl) rfl (fun ls hl => ?_)
          refine lv_iconst (v := 1) hx hb dX5_wordIn_75 rfl ?_
          refine lv_istore (lv' := [(4, .int 1), (3, .int x_this_at), (2, .int z7), (0, .ref a_this), (1, .ref (sq 19)), (5, .int J23_l5)]) hx hb dX5_wordIn_76 hl (Nat.le_of_ble_eq_true rfl) rfl (fun ls hl => ?_)
          refine lv_goto (tgt := 119) hx hb dX5_wordIn_78 rfl ?_
          exact jn119 z7 x_this_at 1 H locs ls (ib_w 0 1599 hK67_x_this_at rfl) (ib_w 0 4 hK67_J23_l5 rfl) (ib_w 1 1 hK67_x_this_sort rfl) (ib_w 0 1604 hK67_x_this_at rfl) (ib_w 0 1 (ib_c 1 1 1 rfl) rfl) (by have := (hK67_J23_l5).1; have := (hK67_x_this_at).2; omega) (by rw [lf_u Ez7]; try simp only [show (1 : Int32).toInt = (1 : Int) from rfl]; exact hq) hP hD hS (lv_sub hl [3, 4, 2, 1, 0, 5] rfl)
        have jn52 : ∀  (H : Heap) (locs : List Loc) (ls : Array Slot), ib J23_l3 0 1604 → ib J23_l4 0 1 → ib J23_l5 0 4 → ib x_this_at 0 1599 → ib x_this_sort 1 1 → (O = F_X5_wordIn_s19_52 (Int32.toInt x_this_at) (Int32.toInt x_this_behind) (Int32.toInt J23_l2) (Int32.toInt J23_l3) (Int32.toInt J23_l4) (Int32.toInt J23_l5) K23 ) → va_P (dC, dI) vwCl [(wo_5_riiiiirii a_this a_this_text x_this_length x_this_at x_this_behind x_this_sort x_this_allowed a_this_plan x_this_fault x_this_place), (wi_0_1600_0 a_this_text cy g_this_text)] H → va_D A [(wo_5_riiiiirii a_this a_this_text x_this_length x_this_at x_this_behind x_this_sort x_this_allowed a_this_plan x_this_fault x_this_place), (wi_0_1600_0 a_this_text cy g_this_text)] → va_S A s.heap H locs → lv_has ls 6 [(0, .ref a_this), (1, .ref (sq 19)), (2, .int J23_l2), (3, .int J23_l3), (4, .int J23_l4), (5, .int J23_l5)] → W p l e { frames := 4, cells := 0, slots := 0, locals := 141 } s m args below meth c H locs 0 0 Q (F0 m 52 ls []) := by
          as_aux_lemma =>
            intro H locs ls hK52_J23_l3 hK52_J23_l4 hK52_J23_l5 hK52_x_this_at hK52_x_this_sort hq hP hD hS hl
            unfold F_X5_wordIn_s19_52 at hq
            refine lv_iload hx hb dX5_wordIn_52 (lv_at hl 4 rfl) ?_
            refine lv_if_eq (tgt := 67) hx hb dX5_wordIn_54 rfl (fun c8 => ?_) (fun c8 => ?_)
            · replace hq := lf_pos hq (lf_eq (lf_rf J23_l4) (lf_lc 0 (0 : Int) rfl) c8)
              have h9 := ib_eq hK52_J23_l4 (ib_c 0 0 0 rfl) c8
              have h10 : ib J23_l4 0 0 := ib_w 0 0 h9.1 rfl
              exact jn67  H locs ls (ib_w 0 1604 hK52_J23_l3 rfl) (ib_w 0 1 h10 rfl) (ib_w 0 4 hK52_J23_l5 rfl) (ib_w 0 1599 hK52_x_this_at rfl) (ib_w 1 1 hK52_x_this_sort rfl) (by exact hq) hP hD hS (lv_sub hl [0, 1, 2, 3, 4, 5] rfl)
            · replace hq := lf_neg hq (lf_ne (lf_rf J23_l4) (lf_lc 0 (0 : Int) rfl) c8)
              have h11 : ib J23_l4 1 1 := ib_w 1 1 (ib_ne_lo 0 hK52_J23_l4 rfl c8) rfl
              refine lv_iload_n hx hb dX5_wordIn_57 rfl (lv_at hl 3 rfl) ?_
              refine lv_aload_n hx hb dX5_wordIn_58 rfl (lv_at hl 0 rfl) ?_
              refine k_get C0 fg_X5_18 hP 0 rfl rfl dX5_wordIn_59 ?_
              refine lv_icmp_ne (tgt := 67) hx hb dX5_wordIn_62 rfl (fun c12 => ?_) (fun c12 => ?_)
              · replace hq := lf_neg hq (lf_ne (lf_rf J23_l3) (lf_rf x_this_behind) c12)
                exact jn67  H locs ls (ib_w 0 1604 hK52_J23_l3 rfl) (ib_w 0 1 h11 rfl) (ib_w 0 4 hK52_J23_l5 rfl) (ib_w 0 1599 hK52_x_this_at rfl) (ib_w 1 1 hK52_x_this_sort rfl) (by exact hq) hP hD hS (lv_sub hl [0, 1, 2, 3, 4, 5] rfl)
              · replace hq := lf_pos hq (lf_eq (lf_rf J23_l3) (lf_rf x_this_behind) c12)
                have h13 := ib_eq hK52_J23_l3 hx_this_behind c12
                have h14 : ib J23_l3 0 1600 := ib_w 0 1600 h13.1 rfl
                refine lv_iload_n hx hb dX5_wordIn_65 rfl (lv_at hl 2 rfl) ?_
                subst hQ; exact k_iret hx hb hr hlk rfl () hS ((hO.symm.trans (by exact hq))) hP hD (Nat.le_of_ble_eq_true rfl) (Nat.le_of_ble_eq_true rfl) dX5_wordIn_66
        refine lv_iload hx hb dX5_wordIn_23 (lv_at hl 5 rfl) ?_
        refine lv_aload_n hx hb dX5_wordIn_25 rfl (lv_at hl 1 rfl) ?_
        refine k_jim hP hD hS hA [] [true, true] rfl rfl rfl 0 0 (Nat.le_of_ble_eq_true rfl) (Nat.le_of_ble_eq_true rfl) (fun hPc hDc => k_runVO (As := []) (rest := [.int J23_l5]) C0 hZ hS hA (c_length l dC dI cy sq 19 (by decide)) mV_X5_244 hPc hDc (vk_recv hZ.1 (by decide) hS) hl rfl rfl (Nat.le_of_ble_eq_true rfl) ⟨(Nat.le_of_ble_eq_true rfl), (Nat.le_of_ble_eq_true rfl)⟩ ⟨(Nat.le_of_ble_eq_true rfl), (Nat.le_of_ble_eq_true rfl)⟩ dX5_wordIn_26) (fun r15 u16 H locs hw hP hD hS => ?_)
        replace hP : va_P (dC, dI) vwCl [(wo_5_riiiiirii a_this a_this_text x_this_length x_this_at x_this_behind x_this_sort x_this_allowed a_this_plan x_this_fault x_this_place), (wi_0_1600_0 a_this_text cy g_this_text)] H := hP
        replace hD := k_D hP hD
        obtain rfl : r15 = 4 := hw.trans (by decide)
        refine lv_icmp_gt (tgt := 125) hx hb dX5_wordIn_29 rfl (fun c17 => ?_) (fun c17 => ?_)
        · replace hq := lf_pos hq (lf_lt (lf_lc 4 (4 : Int) rfl) (lf_rf J23_l5) c17)
          have h18 := ib_lt (ib_c 4 4 4 rfl) hJ23_l5 c17
          have h19 : ib J23_l5 5 5 := ib_w 5 5 h18.2 rfl
          refine lv_iconst (v := (-1)) hx hb dX5_wordIn_125 rfl ?_
          subst hQ; exact k_iret hx hb hr hlk rfl () hS ((hO.symm.trans (by try simp only [show ((-1) : Int32).toInt = (-1 : Int) from rfl]; exact hq))) hP hD (Nat.le_of_ble_eq_true rfl) (Nat.le_of_ble_eq_true rfl) dX5_wordIn_126
        · as_aux_lemma =>
            replace hq := lf_neg hq (lf_nlt (lf_lc 4 (4 : Int) rfl) (lf_rf J23_l5) c17)
            have h20 := ib_nlt (ib_c 4 4 4 rfl) hJ23_l5 c17
            have h21 : ib J23_l5 0 4 := ib_w 0 4 h20.2 rfl
            refine lv_iload hx hb dX5_wordIn_32 (lv_at hl 5 rfl) ?_
            refine lv_aload_n hx hb dX5_wordIn_34 rfl (lv_at hl 1 rfl) ?_
            refine k_jim hP hD hS hA [] [true, true] rfl rfl rfl 0 0 (Nat.le_of_ble_eq_true rfl) (Nat.le_of_ble_eq_true rfl) (fun hPc hDc => k_runVO (As := []) (rest := [.int J23_l5]) C0 hZ hS hA (c_length l dC dI cy sq 19 (by decide)) mV_X5_244 hPc hDc (vk_recv hZ.1 (by decide) hS) hl rfl rfl (Nat.le_of_ble_eq_true rfl) ⟨(Nat.le_of_ble_eq_true rfl), (Nat.le_of_ble_eq_true rfl)⟩ ⟨(Nat.le_of_ble_eq_true rfl), (Nat.le_of_ble_eq_true rfl)⟩ dX5_wordIn_35) (fun r22 u23 H locs hw hP hD hS => ?_)
            replace hP : va_P (dC, dI) vwCl [(wo_5_riiiiirii a_this a_this_text x_this_length x_this_at x_this_behind x_this_sort x_this_allowed a_this_plan x_this_fault x_this_place), (wi_0_1600_0 a_this_text cy g_this_text)] H := hP
            replace hD := k_D hP hD
            obtain rfl : r22 = 4 := hw.trans (by decide)
            refine lv_icmp_eq (tgt := 52) hx hb dX5_wordIn_38 rfl (fun c24 => ?_) (fun c24 => ?_)
            · replace hq := lf_pos hq (lf_eq (lf_rf J23_l5) (lf_lc 4 (4 : Int) rfl) c24)
              have h25 := ib_eq h21 (ib_c 4 4 4 rfl) c24
              have h26 : ib J23_l5 4 4 := ib_w 4 4 h25.1 rfl
              exact jn52  H locs ls (ib_w 0 1604 hJ23_l3 rfl) (ib_w 0 1 hJ23_l4 rfl) (ib_w 0 4 h26 rfl) (ib_w 0 1599 hK23_x_this_at rfl) (ib_w 1 1 hK23_x_this_sort rfl) (by exact hq) hP hD hS (lv_sub hl [0, 1, 2, 3, 4, 5] rfl)
            · as_aux_lemma =>
                replace hq := lf_neg hq (lf_ne (lf_rf J23_l5) (lf_lc 4 (4 : Int) rfl) c24)
                have h27 : ib J23_l5 0 3 := ib_w 0 3 (ib_ne_hi 4 h21 rfl c24) rfl
                refine lv_aload_n hx hb dX5_wordIn_41 rfl (lv_at hl 1 rfl) ?_
                refine lv_iload hx hb dX5_wordIn_42 (lv_at hl 5 rfl) ?_
                refine k_jim hP hD hS hA [] [true, true] rfl rfl rfl 0 0 (Nat.le_of_ble_eq_true rfl) (Nat.le_of_ble_eq_true rfl) (fun hPc hDc => k_runVO (As := [.int J23_l5]) (rest := []) C0 hZ hS hA (cx_charAt l dC dI cy sq 19 (by decide) J23_l5 (ib_ch 19 4 h27 rfl rfl).1 (ib_ch 19 4 h27 rfl rfl).2.1 (ib_ch 19 4 h27 rfl rfl).2.2) mV_X5_248 hPc hDc (vk_recv hZ.1 (by decide) hS) hl rfl rfl (Nat.le_of_ble_eq_true rfl) ⟨(Nat.le_of_ble_eq_true rfl), (Nat.le_of_ble_eq_true rfl)⟩ ⟨(Nat.le_of_ble_eq_true rfl), (Nat.le_of_ble_eq_true rfl)⟩ dX5_wordIn_44) (fun r28 u29 H locs hw hP hD hS => ?_)
                replace hP : va_P (dC, dI) vwCl [(wo_5_riiiiirii a_this a_this_text x_this_length x_this_at x_this_behind x_this_sort x_this_allowed a_this_plan x_this_fault x_this_place), (wi_0_1600_0 a_this_text cy g_this_text)] H := hP
                replace hD := k_D hP hD
                have Er28 := lf_cha (j := 19) hw (lf_rf J23_l5)
                refine lv_bipush (v := 32) hx hb dX5_wordIn_47 rfl ?_
                refine lv_icmp_ne (tgt := 81) hx hb dX5_wordIn_49 rfl (fun c30 => ?_) (fun c30 => ?_)
                · as_aux_lemma =>
                    replace hq := lf_neg hq (lf_ne Er28 (lf_lc 32 (32 : Int) rfl) c30)
                    refine lv_iload hx hb dX5_wordIn_81 (lv_at hl 4 rfl) ?_
                    refine lv_if_eq (tgt := 113) hx hb dX5_wordIn_83 rfl (fun c31 => ?_) (fun c31 => ?_)
                    · replace hq := lf_pos hq (lf_eq (lf_rf J23_l4) (lf_lc 0 (0 : Int) rfl) c31)
                      have h32 := ib_eq hJ23_l4 (ib_c 0 0 0 rfl) c31
                      have h33 : ib J23_l4 0 0 := ib_w 0 0 h32.1 rfl
                      have h34 : ib J23_l3 0 1603 := ⟨(hJ23_l3).1, by have := (hJ23_l3).2; have := hJ23_lin0; have := (h27).2; omega⟩
                      exact jn113  H locs ls (ib_w 0 1603 h34 rfl) (ib_w 0 1 h33 rfl) (ib_w 0 3 h27 rfl) (ib_w 0 1599 hK23_x_this_at rfl) (ib_w 1 1 hK23_x_this_sort rfl) (by have := hJ23_lin0; omega) (by exact hq) hP hD hS (lv_sub hl [0, 1, 2, 3, 4, 5] rfl)
                    · as_aux_lemma =>
                        replace hq := lf_neg hq (lf_ne (lf_rf J23_l4) (lf_lc 0 (0 : Int) rfl) c31)
                        have h35 : ib J23_l4 1 1 := ib_w 1 1 (ib_ne_lo 0 hJ23_l4 rfl c31) rfl
                        refine lv_iload_n hx hb dX5_wordIn_86 rfl (lv_at hl 3 rfl) ?_
                        refine lv_aload_n hx hb dX5_wordIn_87 rfl (lv_at hl 0 rfl) ?_
                        refine k_get C0 fg_X5_18 hP 0 rfl rfl dX5_wordIn_88 ?_
                        refine lv_icmp_ge (tgt := 113) hx hb dX5_wordIn_91 rfl (fun c36 => ?_) (fun c36 => ?_)
                        · replace hq := lf_pos hq (lf_le (lf_rf x_this_behind) (lf_rf J23_l3) c36)
                          have h37 := ib_le hx_this_behind hJ23_l3 c36
                          have h38 : ib J23_l3 0 1603 := ⟨(hJ23_l3).1, by have := (hJ23_l3).2; have := hJ23_lin0; have := (h27).2; omega⟩
                          exact jn113  H locs ls (ib_w 0 1603 h38 rfl) (ib_w 0 1 h35 rfl) (ib_w 0 3 h27 rfl) (ib_w 0 1599 hK23_x_this_at rfl) (ib_w 1 1 hK23_x_this_sort rfl) (by have := hJ23_lin0; omega) (by exact hq) hP hD hS (lv_sub hl [0, 1, 2, 3, 4, 5] rfl)
                        · as_aux_lemma =>
                            replace hq := lf_neg hq (lf_nle (lf_rf x_this_behind) (lf_rf J23_l3) c36)
                            have h39 := ib_nle hx_this_behind hJ23_l3 c36
                            have h40 : ib x_this_behind 1 1600 := ib_w 1 1600 h39.1 rfl
                            have h41 : ib J23_l3 0 1599 := ib_w 0 1599 h39.2 rfl
                            refine lv_aload_n hx hb dX5_wordIn_94 rfl (lv_at hl 0 rfl) ?_
                            refine k_get C0 fg_X5_33 hP 0 rfl rfl dX5_wordIn_95 ?_
                            refine lv_iload_n hx hb dX5_wordIn_98 rfl (lv_at hl 3 rfl) ?_
                            refine va_iald hx hb C0.2.2.2.2.2.1 hP 1 0 rfl rfl (ib_in 1600 h41 rfl) dX5_wordIn_99 ?_
                            refine lv_topi (fun z42 ez42 => ?_)
                            have h43 : ib z42 0 255 := by rw [ez42]; exact ia_at hg_this_text (ib_in 1600 h41 rfl)
                            have Ez42 := lf_ld ez42 (lf_ra g_this_text) (lf_rf J23_l3)
                            refine lv_aload_n hx hb dX5_wordIn_100 rfl (lv_at hl 1 rfl) ?_
                            refine lv_iload hx hb dX5_wordIn_101 (lv_at hl 5 rfl) ?_
                            refine k_jim hP hD hS hA [] [true, true] rfl rfl rfl 0 0 (Nat.le_of_ble_eq_true rfl) (Nat.le_of_ble_eq_true rfl) (fun hPc hDc => k_runVO (As := [.int J23_l5]) (rest := [.int z42]) C0 hZ hS hA (cx_charAt l dC dI cy sq 19 (by decide) J23_l5 (ib_ch 19 4 h27 rfl rfl).1 (ib_ch 19 4 h27 rfl rfl).2.1 (ib_ch 19 4 h27 rfl rfl).2.2) mV_X5_248 hPc hDc (vk_recv hZ.1 (by decide) hS) hl rfl rfl (Nat.le_of_ble_eq_true rfl) ⟨(Nat.le_of_ble_eq_true rfl), (Nat.le_of_ble_eq_true rfl)⟩ ⟨(Nat.le_of_ble_eq_true rfl), (Nat.le_of_ble_eq_true rfl)⟩ dX5_wordIn_103) (fun r44 u45 H locs hw hP hD hS => ?_)
                            replace hP : va_P (dC, dI) vwCl [(wo_5_riiiiirii a_this a_this_text x_this_length x_this_at x_this_behind x_this_sort x_this_allowed a_this_plan x_this_fault x_this_place), (wi_0_1600_0 a_this_text cy g_this_text)] H := hP
                            replace hD := k_D hP hD
                            have Er44 := lf_cha (j := 19) hw (lf_rf J23_l5)
                            refine lv_icmp_ne (tgt := 113) hx hb dX5_wordIn_106 rfl (fun c46 => ?_) (fun c46 => ?_)
                            · replace hq := lf_neg hq (lf_ne Ez42 Er44 c46)
                              exact jn113  H locs ls (ib_w 0 1603 h41 rfl) (ib_w 0 1 h35 rfl) (ib_w 0 3 h27 rfl) (ib_w 0 1599 hK23_x_this_at rfl) (ib_w 1 1 hK23_x_this_sort rfl) (by have := hJ23_lin0; omega) (by exact hq) hP hD hS (lv_sub hl [0, 1, 2, 3, 4, 5] rfl)
                            · replace hq := lf_pos hq (lf_eq Ez42 Er44 c46)
                              have h47 := ib_eq h43 (ib_any r44) c46
                              have h48 : ib r44 0 255 := ib_w 0 255 h47.2 rfl
                              refine lv_iconst (v := 1) hx hb dX5_wordIn_109 rfl ?_
                              refine lv_goto (tgt := 114) hx hb dX5_wordIn_110 rfl ?_
                              exact jn114 1 H locs ls (ib_w 0 1603 h41 rfl) (ib_w 0 1 h35 rfl) (ib_w 0 3 h27 rfl) (ib_w 0 1599 hK23_x_this_at rfl) (ib_w 1 1 hK23_x_this_sort rfl) (ib_w 0 1 (ib_c 1 1 1 rfl) rfl) (by have := hJ23_lin0; omega) (by try simp only [show (1 : Int32).toInt = (1 : Int) from rfl]; exact hq) hP hD hS (lv_sub hl [0, 1, 2, 3, 4, 5] rfl)
                · replace hq := lf_pos hq (lf_eq Er28 (lf_lc 32 (32 : Int) rfl) c30)
                  have h49 := ib_eq (ib_any r28) (ib_c 32 32 32 rfl) c30
                  have h50 : ib r28 32 32 := ib_w 32 32 h49.1 rfl
                  have h51 : ib J23_l3 0 1603 := ⟨(hJ23_l3).1, by have := (hJ23_l3).2; have := hJ23_lin0; have := (h27).2; omega⟩
                  exact jn52  H locs ls (ib_w 0 1604 h51 rfl) (ib_w 0 1 hJ23_l4 rfl) (ib_w 0 4 h27 rfl) (ib_w 0 1599 hK23_x_this_at rfl) (ib_w 1 1 hK23_x_this_sort rfl) (by exact hq) hP hD hS (lv_sub hl [0, 1, 2, 3, 4, 5] rfl)
  refine lv_aload_n hx hb dX5_wordIn_0 rfl (lv_at hl 0 rfl) ?_
  refine k_get C0 fg_X5_21 hP 0 rfl rfl dX5_wordIn_1 ?_
  refine lv_iconst (v := 1) hx hb dX5_wordIn_4 rfl ?_
  refine lv_icmp_eq (tgt := 10) hx hb dX5_wordIn_5 rfl (fun c52 => ?_) (fun c52 => ?_)
  · replace hq := lf_pos hq (lf_eq (lf_rf x_this_sort) (lf_lc 1 (1 : Int) rfl) c52)
    have h53 := ib_eq hx_this_sort (ib_c 1 1 1 rfl) c52
    have h54 : ib x_this_sort 1 1 := ib_w 1 1 h53.1 rfl
    have h55 : ib x_this_at 0 1599 := ib_w 0 1599 (ib_two hx_this_at (hc0_this (ib_nz h54 rfl))) rfl
    refine lv_iconst (v := 0) hx hb dX5_wordIn_10 rfl ?_
    refine lv_istore_n (lv' := [(2, .int 0), (0, .ref a_this), (1, .ref (sq 19))]) hx hb dX5_wordIn_11 rfl hl (Nat.le_of_ble_eq_true rfl) rfl (fun ls hl => ?_)
    refine lv_aload_n hx hb dX5_wordIn_12 rfl (lv_at hl 1 rfl) ?_
    refine k_get C0 fg_X5_15 hP 0 rfl rfl dX5_wordIn_13 ?_
    refine lv_istore_n (lv' := [(3, .int x_this_at), (2, .int 0), (0, .ref a_this), (1, .ref (sq 19))]) hx hb dX5_wordIn_16 rfl hl (Nat.le_of_ble_eq_true rfl) rfl (fun ls hl => ?_)
    refine lv_iconst (v := 1) hx hb dX5_wordIn_17 rfl ?_
    refine lv_istore (lv' := [(4, .int 1), (3, .int x_this_at), (2, .int 0), (0, .ref a_this), (1, .ref (sq 19))]) hx hb dX5_wordIn_18 hl (Nat.le_of_ble_eq_true rfl) rfl (fun ls hl => ?_)
    refine lv_iconst (v := 0) hx hb dX5_wordIn_20 rfl ?_
    refine lv_istore (lv' := [(5, .int 0), (4, .int 1), (3, .int x_this_at), (2, .int 0), (0, .ref a_this), (1, .ref (sq 19))]) hx hb dX5_wordIn_21 hl (Nat.le_of_ble_eq_true rfl) rfl (fun ls hl => ?_)
    exact jn23 7 0 x_this_at 1 0 H locs ls (ib_w 0 1599 h55 rfl) (ib_w 1 1 h54 rfl) (ib_w 0 1604 h55 rfl) (ib_w 0 1 (ib_c 1 1 1 rfl) rfl) (ib_w 0 5 (ib_c 0 0 0 rfl) rfl) (by have : (0 : Int32).toInt = 0 := rfl; have := (h55).2; omega) (by try simp only [show (0 : Int32).toInt = (0 : Int) from rfl]; try simp only [show (1 : Int32).toInt = (1 : Int) from rfl]; exact hq) (by have := (ib_c 0 0 0 rfl); unfold ib at this; omega) hP hD hS (lv_sub hl [4, 5, 3, 2, 1, 0] rfl)
  · replace hq := lf_neg hq (lf_ne (lf_rf x_this_sort) (lf_lc 1 (1 : Int) rfl) c52)
    refine lv_iconst (v := (-1)) hx hb dX5_wordIn_8 rfl ?_
    subst hQ; exact k_iret hx hb hr hlk rfl () hS ((hO.symm.trans (by try simp only [show ((-1) : Int32).toInt = (-1 : Int) from rfl]; exact hq))) hP hD (Nat.le_of_ble_eq_true rfl) (Nat.le_of_ble_eq_true rfl) dX5_wordIn_9
set_option maxHeartbeats 4000000 in
set_option maxRecDepth 100000 in
theorem s_X5_fail (l : Launch) (dC : Nat → ClassId) (dI : Nat → Nat → Nat) (cy : Nat → ClassId) (sq : Nat → Nat) (a_this : Nat) (a_this_text : Nat) (x_this_length : Int32) (x_this_at : Int32) (x_this_behind : Int32) (x_this_sort : Int32) (x_this_allowed : Int32) (a_this_plan : Nat) (x_this_fault : Int32) (x_this_place : Int32) (p0 : Int32) (p1 : Int32)  : k_Met l yX5_fail cX5_fail 3 none { frames := 0, cells := 0, slots := 0, locals := 0 } dC dI cy sq [.ref a_this, .int p0, .int p1] [(wo_5_riiiiirii a_this a_this_text x_this_length x_this_at x_this_behind x_this_sort x_this_allowed a_this_plan x_this_fault x_this_place)] (k_Qv dC dI (fun (u : Int32 × Int32) => match u with | (n0, n1) => (F_X5_fail (Int32.toInt x_this_fault) (Int32.toInt x_this_place) (Int32.toInt p0) (Int32.toInt p1) = ((Int32.toInt n0), (Int32.toInt n1)))) (fun u : Int32 × Int32 => match u with | (n0, n1) => [(wo_5_riiiiirii a_this a_this_text x_this_length x_this_length x_this_length 0 x_this_allowed a_this_plan n0 n1)])) := by
  refine k_ofW2 (by decide +kernel) (Nat.le_of_ble_eq_true rfl) ?_
  intro p e s m below meth c A ls H locs args Q hQ C0 hZ hr hlk hin hP hD hA hS hl
  have C0 : k_cx p s m args c cX5_fail 3 RX5 dC dI cy sq := C0
  have hx := C0.1
  have hb := C0.2.1
  have hl : lv_has ls 3 [(0, .ref a_this), (1, .int p0), (2, .int p1)] := hl
  obtain ⟨O, hO⟩ : ∃ o, o = F_X5_fail (Int32.toInt x_this_fault) (Int32.toInt x_this_place) (Int32.toInt p0) (Int32.toInt p1) := ⟨_, rfl⟩
  have hq := hO
  unfold F_X5_fail at hq
  have jn17 : ∀ (J17_c0_7 : Int32) (J17_c0_8 : Int32) (H : Heap) (locs : List Loc) (ls : Array Slot), (O = F_X5_fail_17 (Int32.toInt J17_c0_7) (Int32.toInt J17_c0_8)) → va_P (dC, dI) vwCl [(wo_5_riiiiirii a_this a_this_text x_this_length x_this_at x_this_behind x_this_sort x_this_allowed a_this_plan J17_c0_7 J17_c0_8)] H → va_D A [(wo_5_riiiiirii a_this a_this_text x_this_length x_this_at x_this_behind x_this_sort x_this_allowed a_this_plan J17_c0_7 J17_c0_8)] → va_S A s.heap H locs → lv_has ls 3 [(0, .ref a_this), (1, .int p0), (2, .int p1)] → W p l e { frames := 0, cells := 0, slots := 0, locals := 0 } s m args below meth c H locs 0 0 Q (F0 m 17 ls []) := by
    intro J17_c0_7 J17_c0_8 H locs ls hq hP hD hS hl
    unfold F_X5_fail_17 at hq
    refine lv_aload_n hx hb dX5_fail_17 rfl (lv_at hl 0 rfl) ?_
    refine lv_aload_n hx hb dX5_fail_18 rfl (lv_at hl 0 rfl) ?_
    refine k_get C0 fg_X5_11 hP 0 rfl rfl dX5_fail_19 ?_
    refine k_put C0 fp_X5_15 hP hD hS 0 rfl rfl rfl (Nat.le_of_ble_eq_true rfl) dX5_fail_22 (fun H locs hP hD hS => ?_)
    replace hP : va_P (dC, dI) vwCl [(wo_5_riiiiirii a_this a_this_text x_this_length x_this_length x_this_behind x_this_sort x_this_allowed a_this_plan J17_c0_7 J17_c0_8)] H := hP
    replace hD := k_D hP hD
    refine lv_aload_n hx hb dX5_fail_25 rfl (lv_at hl 0 rfl) ?_
    refine lv_aload_n hx hb dX5_fail_26 rfl (lv_at hl 0 rfl) ?_
    refine k_get C0 fg_X5_11 hP 0 rfl rfl dX5_fail_27 ?_
    refine k_put C0 fp_X5_18 hP hD hS 0 rfl rfl rfl (Nat.le_of_ble_eq_true rfl) dX5_fail_30 (fun H locs hP hD hS => ?_)
    replace hP : va_P (dC, dI) vwCl [(wo_5_riiiiirii a_this a_this_text x_this_length x_this_length x_this_length x_this_sort x_this_allowed a_this_plan J17_c0_7 J17_c0_8)] H := hP
    replace hD := k_D hP hD
    refine lv_aload_n hx hb dX5_fail_33 rfl (lv_at hl 0 rfl) ?_
    refine lv_iconst (v := 0) hx hb dX5_fail_34 rfl ?_
    refine k_put C0 fp_X5_21 hP hD hS 0 rfl rfl rfl (Nat.le_of_ble_eq_true rfl) dX5_fail_35 (fun H locs hP hD hS => ?_)
    replace hP : va_P (dC, dI) vwCl [(wo_5_riiiiirii a_this a_this_text x_this_length x_this_length x_this_length 0 x_this_allowed a_this_plan J17_c0_7 J17_c0_8)] H := hP
    replace hD := k_D hP hD
    subst hQ; exact k_vret hx hb hr hlk ((J17_c0_7, J17_c0_8)) hS ((hO.symm.trans (by exact hq))) hP hD (Nat.le_of_ble_eq_true rfl) (Nat.le_of_ble_eq_true rfl) dX5_fail_38
  refine lv_aload_n hx hb dX5_fail_0 rfl (lv_at hl 0 rfl) ?_
  refine k_get C0 fg_X5_27 hP 0 rfl rfl dX5_fail_1 ?_
  refine lv_if_ne (tgt := 17) hx hb dX5_fail_4 rfl (fun c1 => ?_) (fun c1 => ?_)
  · replace hq := lf_neg hq (lf_ne (lf_rf x_this_fault) (lf_lc 0 (0 : Int) rfl) c1)
    exact jn17 x_this_fault x_this_place H locs ls (by exact hq) hP hD hS (lv_sub hl [0, 1, 2] rfl)
  · replace hq := lf_pos hq (lf_eq (lf_rf x_this_fault) (lf_lc 0 (0 : Int) rfl) c1)
    have h2 := ib_eq (ib_any x_this_fault) (ib_c 0 0 0 rfl) c1
    have h3 : ib x_this_fault 0 0 := ib_w 0 0 h2.1 rfl
    refine lv_aload_n hx hb dX5_fail_7 rfl (lv_at hl 0 rfl) ?_
    refine lv_iload_n hx hb dX5_fail_8 rfl (lv_at hl 1 rfl) ?_
    refine k_put C0 fp_X5_27 hP hD hS 0 rfl rfl rfl (Nat.le_of_ble_eq_true rfl) dX5_fail_9 (fun H locs hP hD hS => ?_)
    replace hP : va_P (dC, dI) vwCl [(wo_5_riiiiirii a_this a_this_text x_this_length x_this_at x_this_behind x_this_sort x_this_allowed a_this_plan p0 x_this_place)] H := hP
    replace hD := k_D hP hD
    refine lv_aload_n hx hb dX5_fail_12 rfl (lv_at hl 0 rfl) ?_
    refine lv_iload_n hx hb dX5_fail_13 rfl (lv_at hl 2 rfl) ?_
    refine k_put C0 fp_X5_30 hP hD hS 0 rfl rfl rfl (Nat.le_of_ble_eq_true rfl) dX5_fail_14 (fun H locs hP hD hS => ?_)
    replace hP : va_P (dC, dI) vwCl [(wo_5_riiiiirii a_this a_this_text x_this_length x_this_at x_this_behind x_this_sort x_this_allowed a_this_plan p0 p1)] H := hP
    replace hD := k_D hP hD
    exact jn17 p0 p1 H locs ls (by exact hq) hP hD hS (lv_sub hl [0, 1, 2] rfl)
set_option maxHeartbeats 4000000 in
set_option maxRecDepth 100000 in
theorem s_X5_enters (l : Launch) (dC : Nat → ClassId) (dI : Nat → Nat → Nat) (cy : Nat → ClassId) (sq : Nat → Nat) (a_this : Nat) (a_this_text : Nat) (g_this_text : Nat → Int32) (x_this_length : Int32) (x_this_at : Int32) (x_this_behind : Int32) (x_this_sort : Int32) (x_this_allowed : Int32) (a_this_plan : Nat) (x_this_fault : Int32) (x_this_place : Int32) (p0 : Int32) (hg_this_text : ia g_this_text 1600 0 255) (hx_this_length : ib x_this_length 0 1600) (hx_this_behind : ib x_this_behind 0 1600) : k_Met l yX5_enters cX5_enters 2 (some .boolean) { frames := 2, cells := 0, slots := 0, locals := 43 } dC dI cy sq [.ref a_this, .int p0] [(wo_5_riiiiirii a_this a_this_text x_this_length x_this_at x_this_behind x_this_sort x_this_allowed a_this_plan x_this_fault x_this_place), (wi_0_1600_0 a_this_text cy g_this_text)] (k_Qi dC dI (fun (r : Int32) (u : Int32 × Int32 × Int32 × Int32 × Int32) => match u with | (n0, n1, n2, n3, n4) => ib r 0 1 ∧ ib n0 0 1600 ∧ ib n1 0 1600 ∧ ib n2 0 4 ∧ (¬ n2 = 0 → ib n0 0 1599) ∧ (¬ r = 0 → ib p0 (-2147483648) 5) ∧ (F_X5_enters (lf_A g_this_text) (Int32.toInt x_this_length) (Int32.toInt x_this_at) (Int32.toInt x_this_behind) (Int32.toInt x_this_fault) (Int32.toInt x_this_place) (Int32.toInt p0) = ((Int32.toInt r), (Int32.toInt n0), (Int32.toInt n1), (Int32.toInt n2), (Int32.toInt n3), (Int32.toInt n4)))) (fun u : Int32 × Int32 × Int32 × Int32 × Int32 => match u with | (n0, n1, n2, n3, n4) => [(wo_5_riiiiirii a_this a_this_text x_this_length n0 n1 n2 x_this_allowed a_this_plan n3 n4), (wi_0_1600_0 a_this_text cy g_this_text)])) := by
  refine k_ofW2 (by decide +kernel) (Nat.le_of_ble_eq_true rfl) ?_
  intro p e s m below meth c A ls H locs args Q hQ C0 hZ hr hlk hin hP hD hA hS hl
  have C0 : k_cx p s m args c cX5_enters 2 RX5 dC dI cy sq := C0
  have hx := C0.1
  have hb := C0.2.1
  have hl : lv_has ls 2 [(0, .ref a_this), (1, .int p0)] := hl
  obtain ⟨O, hO⟩ : ∃ o, o = F_X5_enters (lf_A g_this_text) (Int32.toInt x_this_length) (Int32.toInt x_this_at) (Int32.toInt x_this_behind) (Int32.toInt x_this_fault) (Int32.toInt x_this_place) (Int32.toInt p0) := ⟨_, rfl⟩
  have hq := hO
  unfold F_X5_enters at hq
  refine lv_iload_n hx hb dX5_enters_0 rfl (lv_at hl 1 rfl) ?_
  refine lv_bipush (v := 6) hx hb dX5_enters_1 rfl ?_
  refine lv_icmp_lt (tgt := 17) hx hb dX5_enters_3 rfl (fun c1 => ?_) (fun c1 => ?_)
  · replace hq := lf_pos hq (lf_lt (lf_rf p0) (lf_lc 6 (6 : Int) rfl) c1)
    have h2 := ib_lt (ib_any p0) (ib_c 6 6 6 rfl) c1
    have h3 : ib p0 (-2147483648) 5 := ib_w (-2147483648) 5 h2.1 rfl
    refine lv_aload_n hx hb dX5_enters_17 rfl (lv_at hl 0 rfl) ?_
    refine lv_aload_n hx hb dX5_enters_18 rfl (lv_at hl 0 rfl) ?_
    refine k_get C0 fg_X5_18 hP 0 rfl rfl dX5_enters_19 ?_
    refine k_jvm hP hD hS hA [0, 1] [] rfl rfl rfl 0 0 (Nat.le_of_ble_eq_true rfl) (Nat.le_of_ble_eq_true rfl) (fun hPc hDc => k_runV (As := [.int x_this_behind]) (rest := []) C0 hZ hS hA (s_X5_moveTo l dC dI cy sq a_this a_this_text g_this_text x_this_length x_this_at x_this_behind x_this_sort x_this_allowed a_this_plan x_this_fault x_this_place x_this_behind hg_this_text (ib_w 0 1600 hx_this_length rfl) (ib_w 0 1600 hx_this_behind rfl)) mV_X5_86 hPc hDc rfl rfl rfl hl rfl rfl (Nat.le_of_ble_eq_true rfl) ⟨(Nat.le_of_ble_eq_true rfl), (Nat.le_of_ble_eq_true rfl)⟩ ⟨(Nat.le_of_ble_eq_true rfl), (Nat.le_of_ble_eq_true rfl)⟩ dX5_enters_22) (fun u5 H locs hw hP hD hS => ?_)
    obtain ⟨v6, v7, v8⟩ := u5
    try dsimp only at hP hD hw
    replace hP : va_P (dC, dI) vwCl [(wo_5_riiiiirii a_this a_this_text x_this_length v6 v7 v8 x_this_allowed a_this_plan x_this_fault x_this_place), (wi_0_1600_0 a_this_text cy g_this_text)] H := hP
    replace hD := k_D hP hD
    obtain ⟨h9, h10, h11, h12, h13⟩ := hw
    replace hq := lf_p1 hq h13
    replace hq := lf_p1 hq rfl
    refine lv_iconst (v := 1) hx hb dX5_enters_25 rfl ?_
    subst hQ; exact k_iret hx hb hr hlk (k_nb 1 rfl) ((v6, v7, v8, x_this_fault, x_this_place)) hS ⟨ib_w 0 1 (ib_c 1 1 1 rfl) rfl, ib_w 0 1600 h9 rfl, ib_w 0 1600 h10 rfl, ib_w 0 4 h11 rfl, fun hq9 => ib_w 0 1599 (h12 hq9) rfl, fun _ => ib_w (-2147483648) 5 h3 rfl, (hO.symm.trans (by try simp only [show (1 : Int32).toInt = (1 : Int) from rfl]; exact hq))⟩ hP hD (Nat.le_of_ble_eq_true rfl) (Nat.le_of_ble_eq_true rfl) dX5_enters_26
  · replace hq := lf_neg hq (lf_nlt (lf_rf p0) (lf_lc 6 (6 : Int) rfl) c1)
    have h14 := ib_nlt (ib_any p0) (ib_c 6 6 6 rfl) c1
    have h15 : ib p0 6 2147483647 := ib_w 6 2147483647 h14.1 rfl
    refine lv_aload_n hx hb dX5_enters_6 rfl (lv_at hl 0 rfl) ?_
    refine lv_iconst (v := 4) hx hb dX5_enters_7 rfl ?_
    refine lv_aload_n hx hb dX5_enters_8 rfl (lv_at hl 0 rfl) ?_
    refine k_get C0 fg_X5_15 hP 0 rfl rfl dX5_enters_9 ?_
    refine k_jvm hP hD hS hA [0] [false, true] rfl rfl rfl 0 0 (Nat.le_of_ble_eq_true rfl) (Nat.le_of_ble_eq_true rfl) (fun hPc hDc => k_runV (As := [.int 4, .int x_this_at]) (rest := []) C0 hZ hS hA (s_X5_fail l dC dI cy sq a_this a_this_text x_this_length x_this_at x_this_behind x_this_sort x_this_allowed a_this_plan x_this_fault x_this_place 4 x_this_at ) mV_X5_78 hPc hDc rfl rfl rfl hl rfl rfl (Nat.le_of_ble_eq_true rfl) ⟨(Nat.le_of_ble_eq_true rfl), (Nat.le_of_ble_eq_true rfl)⟩ ⟨(Nat.le_of_ble_eq_true rfl), (Nat.le_of_ble_eq_true rfl)⟩ dX5_enters_12) (fun u17 H locs hw hP hD hS => ?_)
    obtain ⟨v18, v19⟩ := u17
    try dsimp only at hP hD hw
    replace hP : va_P (dC, dI) vwCl [(wi_0_1600_0 a_this_text cy g_this_text), (wo_5_riiiiirii a_this a_this_text x_this_length x_this_length x_this_length 0 x_this_allowed a_this_plan v18 v19)] H := hP
    replace hD := k_D hP hD
    have h20 := hw
    have h20 := by have h9 := h20; try simp only [show (4 : Int32).toInt = (4 : Int) from rfl] at h9; exact h9
    replace hq := lf_p1 hq h20
    refine lv_iconst (v := 0) hx hb dX5_enters_15 rfl ?_
    subst hQ; exact k_iret hx hb hr hlk (k_nb 0 rfl) ((x_this_length, x_this_length, 0, v18, v19)) hS ⟨ib_w 0 1 (ib_c 0 0 0 rfl) rfl, ib_w 0 1600 hx_this_length rfl, ib_w 0 1600 hx_this_length rfl, ib_w 0 4 (ib_c 0 0 0 rfl) rfl, fun hq9 => absurd rfl hq9, fun hq9 => absurd rfl hq9, (hO.symm.trans (by try simp only [show (0 : Int32).toInt = (0 : Int) from rfl]; exact hq))⟩ (hP.sub [1, 0] rfl) (hD.sub [1, 0] rfl rfl) (Nat.le_of_ble_eq_true rfl) (Nat.le_of_ble_eq_true rfl) dX5_enters_16
set_option maxHeartbeats 4000000 in
set_option maxRecDepth 100000 in
theorem s_X5_enters_a0_0 (l : Launch) (dC : Nat → ClassId) (dI : Nat → Nat → Nat) (cy : Nat → ClassId) (sq : Nat → Nat) (a_this : Nat) (a_this_text : Nat) (g_this_text : Nat → Int32) (x_this_length : Int32) (x_this_at : Int32) (x_this_behind : Int32) (x_this_sort : Int32) (x_this_allowed : Int32) (a_this_plan : Nat) (x_this_fault : Int32) (x_this_place : Int32) (hg_this_text : ia g_this_text 1600 0 255) (hx_this_length : ib x_this_length 0 1600) (hx_this_behind : ib x_this_behind 0 1600) : k_Met l yX5_enters cX5_enters 2 (some .boolean) { frames := 2, cells := 0, slots := 0, locals := 43 } dC dI cy sq [.ref a_this, .int 0] [(wo_5_riiiiirii a_this a_this_text x_this_length x_this_at x_this_behind x_this_sort x_this_allowed a_this_plan x_this_fault x_this_place), (wi_0_1600_0 a_this_text cy g_this_text)] (k_Qi dC dI (fun (r : Int32) (u : Int32 × Int32 × Int32) => match u with | (n0, n1, n2) => ib r 1 1 ∧ ib n0 0 1600 ∧ ib n1 0 1600 ∧ ib n2 0 4 ∧ (¬ n2 = 0 → ib n0 0 1599) ∧ (F_X5_enters_a0_0 (lf_A g_this_text) (Int32.toInt x_this_length) (Int32.toInt x_this_behind) = ((Int32.toInt r), (Int32.toInt n0), (Int32.toInt n1), (Int32.toInt n2)))) (fun u : Int32 × Int32 × Int32 => match u with | (n0, n1, n2) => [(wo_5_riiiiirii a_this a_this_text x_this_length n0 n1 n2 x_this_allowed a_this_plan x_this_fault x_this_place), (wi_0_1600_0 a_this_text cy g_this_text)])) := by
  refine k_ofW2 (by decide +kernel) (Nat.le_of_ble_eq_true rfl) ?_
  intro p e s m below meth c A ls H locs args Q hQ C0 hZ hr hlk hin hP hD hA hS hl
  have C0 : k_cx p s m args c cX5_enters 2 RX5 dC dI cy sq := C0
  have hx := C0.1
  have hb := C0.2.1
  have hl : lv_has ls 2 [(0, .ref a_this), (1, .int 0)] := hl
  obtain ⟨O, hO⟩ : ∃ o, o = F_X5_enters_a0_0 (lf_A g_this_text) (Int32.toInt x_this_length) (Int32.toInt x_this_behind) := ⟨_, rfl⟩
  have hq := hO
  unfold F_X5_enters_a0_0 at hq
  refine lv_iload_n hx hb dX5_enters_0 rfl (lv_at hl 1 rfl) ?_
  refine lv_bipush (v := 6) hx hb dX5_enters_1 rfl ?_
  refine lv_icmp_lt (tgt := 17) hx hb dX5_enters_3 rfl (fun _ => ?_) (fun h9 => absurd (by decide) h9)
  refine lv_aload_n hx hb dX5_enters_17 rfl (lv_at hl 0 rfl) ?_
  refine lv_aload_n hx hb dX5_enters_18 rfl (lv_at hl 0 rfl) ?_
  refine k_get C0 fg_X5_18 hP 0 rfl rfl dX5_enters_19 ?_
  refine k_jvm hP hD hS hA [0, 1] [] rfl rfl rfl 0 0 (Nat.le_of_ble_eq_true rfl) (Nat.le_of_ble_eq_true rfl) (fun hPc hDc => k_runV (As := [.int x_this_behind]) (rest := []) C0 hZ hS hA (s_X5_moveTo l dC dI cy sq a_this a_this_text g_this_text x_this_length x_this_at x_this_behind x_this_sort x_this_allowed a_this_plan x_this_fault x_this_place x_this_behind hg_this_text (ib_w 0 1600 hx_this_length rfl) (ib_w 0 1600 hx_this_behind rfl)) mV_X5_86 hPc hDc rfl rfl rfl hl rfl rfl (Nat.le_of_ble_eq_true rfl) ⟨(Nat.le_of_ble_eq_true rfl), (Nat.le_of_ble_eq_true rfl)⟩ ⟨(Nat.le_of_ble_eq_true rfl), (Nat.le_of_ble_eq_true rfl)⟩ dX5_enters_22) (fun u2 H locs hw hP hD hS => ?_)
  obtain ⟨v3, v4, v5⟩ := u2
  try dsimp only at hP hD hw
  replace hP : va_P (dC, dI) vwCl [(wo_5_riiiiirii a_this a_this_text x_this_length v3 v4 v5 x_this_allowed a_this_plan x_this_fault x_this_place), (wi_0_1600_0 a_this_text cy g_this_text)] H := hP
  replace hD := k_D hP hD
  obtain ⟨h6, h7, h8, h9, h10⟩ := hw
  replace hq := lf_p1 hq h10
  replace hq := lf_p1 hq rfl
  refine lv_iconst (v := 1) hx hb dX5_enters_25 rfl ?_
  subst hQ; exact k_iret hx hb hr hlk (k_nb 1 rfl) ((v3, v4, v5)) hS ⟨ib_w 1 1 (ib_c 1 1 1 rfl) rfl, ib_w 0 1600 h6 rfl, ib_w 0 1600 h7 rfl, ib_w 0 4 h8 rfl, fun hq9 => ib_w 0 1599 (h9 hq9) rfl, (hO.symm.trans (by try simp only [show (1 : Int32).toInt = (1 : Int) from rfl]; exact hq))⟩ hP hD (Nat.le_of_ble_eq_true rfl) (Nat.le_of_ble_eq_true rfl) dX5_enters_26
set_option maxHeartbeats 4000000 in
set_option maxRecDepth 100000 in
theorem s_X5_enters_a0_1 (l : Launch) (dC : Nat → ClassId) (dI : Nat → Nat → Nat) (cy : Nat → ClassId) (sq : Nat → Nat) (a_this : Nat) (a_this_text : Nat) (g_this_text : Nat → Int32) (x_this_length : Int32) (x_this_at : Int32) (x_this_behind : Int32) (x_this_sort : Int32) (x_this_allowed : Int32) (a_this_plan : Nat) (x_this_fault : Int32) (x_this_place : Int32) (hg_this_text : ia g_this_text 1600 0 255) (hx_this_length : ib x_this_length 0 1600) (hx_this_behind : ib x_this_behind 0 1600) : k_Met l yX5_enters cX5_enters 2 (some .boolean) { frames := 2, cells := 0, slots := 0, locals := 43 } dC dI cy sq [.ref a_this, .int 1] [(wo_5_riiiiirii a_this a_this_text x_this_length x_this_at x_this_behind x_this_sort x_this_allowed a_this_plan x_this_fault x_this_place), (wi_0_1600_0 a_this_text cy g_this_text)] (k_Qi dC dI (fun (r : Int32) (u : Int32 × Int32 × Int32) => match u with | (n0, n1, n2) => ib r 1 1 ∧ ib n0 0 1600 ∧ ib n1 0 1600 ∧ ib n2 0 4 ∧ (¬ n2 = 0 → ib n0 0 1599) ∧ (F_X5_enters_a0_1 (lf_A g_this_text) (Int32.toInt x_this_length) (Int32.toInt x_this_behind) = ((Int32.toInt r), (Int32.toInt n0), (Int32.toInt n1), (Int32.toInt n2)))) (fun u : Int32 × Int32 × Int32 => match u with | (n0, n1, n2) => [(wo_5_riiiiirii a_this a_this_text x_this_length n0 n1 n2 x_this_allowed a_this_plan x_this_fault x_this_place), (wi_0_1600_0 a_this_text cy g_this_text)])) := by
  refine k_ofW2 (by decide +kernel) (Nat.le_of_ble_eq_true rfl) ?_
  intro p e s m below meth c A ls H locs args Q hQ C0 hZ hr hlk hin hP hD hA hS hl
  have C0 : k_cx p s m args c cX5_enters 2 RX5 dC dI cy sq := C0
  have hx := C0.1
  have hb := C0.2.1
  have hl : lv_has ls 2 [(0, .ref a_this), (1, .int 1)] := hl
  obtain ⟨O, hO⟩ : ∃ o, o = F_X5_enters_a0_1 (lf_A g_this_text) (Int32.toInt x_this_length) (Int32.toInt x_this_behind) := ⟨_, rfl⟩
  have hq := hO
  unfold F_X5_enters_a0_1 at hq
  refine lv_iload_n hx hb dX5_enters_0 rfl (lv_at hl 1 rfl) ?_
  refine lv_bipush (v := 6) hx hb dX5_enters_1 rfl ?_
  refine lv_icmp_lt (tgt := 17) hx hb dX5_enters_3 rfl (fun _ => ?_) (fun h9 => absurd (by decide) h9)
  refine lv_aload_n hx hb dX5_enters_17 rfl (lv_at hl 0 rfl) ?_
  refine lv_aload_n hx hb dX5_enters_18 rfl (lv_at hl 0 rfl) ?_
  refine k_get C0 fg_X5_18 hP 0 rfl rfl dX5_enters_19 ?_
  refine k_jvm hP hD hS hA [0, 1] [] rfl rfl rfl 0 0 (Nat.le_of_ble_eq_true rfl) (Nat.le_of_ble_eq_true rfl) (fun hPc hDc => k_runV (As := [.int x_this_behind]) (rest := []) C0 hZ hS hA (s_X5_moveTo l dC dI cy sq a_this a_this_text g_this_text x_this_length x_this_at x_this_behind x_this_sort x_this_allowed a_this_plan x_this_fault x_this_place x_this_behind hg_this_text (ib_w 0 1600 hx_this_length rfl) (ib_w 0 1600 hx_this_behind rfl)) mV_X5_86 hPc hDc rfl rfl rfl hl rfl rfl (Nat.le_of_ble_eq_true rfl) ⟨(Nat.le_of_ble_eq_true rfl), (Nat.le_of_ble_eq_true rfl)⟩ ⟨(Nat.le_of_ble_eq_true rfl), (Nat.le_of_ble_eq_true rfl)⟩ dX5_enters_22) (fun u2 H locs hw hP hD hS => ?_)
  obtain ⟨v3, v4, v5⟩ := u2
  try dsimp only at hP hD hw
  replace hP : va_P (dC, dI) vwCl [(wo_5_riiiiirii a_this a_this_text x_this_length v3 v4 v5 x_this_allowed a_this_plan x_this_fault x_this_place), (wi_0_1600_0 a_this_text cy g_this_text)] H := hP
  replace hD := k_D hP hD
  obtain ⟨h6, h7, h8, h9, h10⟩ := hw
  replace hq := lf_p1 hq h10
  replace hq := lf_p1 hq rfl
  refine lv_iconst (v := 1) hx hb dX5_enters_25 rfl ?_
  subst hQ; exact k_iret hx hb hr hlk (k_nb 1 rfl) ((v3, v4, v5)) hS ⟨ib_w 1 1 (ib_c 1 1 1 rfl) rfl, ib_w 0 1600 h6 rfl, ib_w 0 1600 h7 rfl, ib_w 0 4 h8 rfl, fun hq9 => ib_w 0 1599 (h9 hq9) rfl, (hO.symm.trans (by try simp only [show (1 : Int32).toInt = (1 : Int) from rfl]; exact hq))⟩ hP hD (Nat.le_of_ble_eq_true rfl) (Nat.le_of_ble_eq_true rfl) dX5_enters_26
set_option maxHeartbeats 4000000 in
set_option maxRecDepth 100000 in
theorem s_X5_enters_a0_2 (l : Launch) (dC : Nat → ClassId) (dI : Nat → Nat → Nat) (cy : Nat → ClassId) (sq : Nat → Nat) (a_this : Nat) (a_this_text : Nat) (g_this_text : Nat → Int32) (x_this_length : Int32) (x_this_at : Int32) (x_this_behind : Int32) (x_this_sort : Int32) (x_this_allowed : Int32) (a_this_plan : Nat) (x_this_fault : Int32) (x_this_place : Int32) (hg_this_text : ia g_this_text 1600 0 255) (hx_this_length : ib x_this_length 0 1600) (hx_this_behind : ib x_this_behind 0 1600) : k_Met l yX5_enters cX5_enters 2 (some .boolean) { frames := 2, cells := 0, slots := 0, locals := 43 } dC dI cy sq [.ref a_this, .int 2] [(wo_5_riiiiirii a_this a_this_text x_this_length x_this_at x_this_behind x_this_sort x_this_allowed a_this_plan x_this_fault x_this_place), (wi_0_1600_0 a_this_text cy g_this_text)] (k_Qi dC dI (fun (r : Int32) (u : Int32 × Int32 × Int32) => match u with | (n0, n1, n2) => ib r 1 1 ∧ ib n0 0 1600 ∧ ib n1 0 1600 ∧ ib n2 0 4 ∧ (¬ n2 = 0 → ib n0 0 1599) ∧ (F_X5_enters_a0_2 (lf_A g_this_text) (Int32.toInt x_this_length) (Int32.toInt x_this_behind) = ((Int32.toInt r), (Int32.toInt n0), (Int32.toInt n1), (Int32.toInt n2)))) (fun u : Int32 × Int32 × Int32 => match u with | (n0, n1, n2) => [(wo_5_riiiiirii a_this a_this_text x_this_length n0 n1 n2 x_this_allowed a_this_plan x_this_fault x_this_place), (wi_0_1600_0 a_this_text cy g_this_text)])) := by
  refine k_ofW2 (by decide +kernel) (Nat.le_of_ble_eq_true rfl) ?_
  intro p e s m below meth c A ls H locs args Q hQ C0 hZ hr hlk hin hP hD hA hS hl
  have C0 : k_cx p s m args c cX5_enters 2 RX5 dC dI cy sq := C0
  have hx := C0.1
  have hb := C0.2.1
  have hl : lv_has ls 2 [(0, .ref a_this), (1, .int 2)] := hl
  obtain ⟨O, hO⟩ : ∃ o, o = F_X5_enters_a0_2 (lf_A g_this_text) (Int32.toInt x_this_length) (Int32.toInt x_this_behind) := ⟨_, rfl⟩
  have hq := hO
  unfold F_X5_enters_a0_2 at hq
  refine lv_iload_n hx hb dX5_enters_0 rfl (lv_at hl 1 rfl) ?_
  refine lv_bipush (v := 6) hx hb dX5_enters_1 rfl ?_
  refine lv_icmp_lt (tgt := 17) hx hb dX5_enters_3 rfl (fun _ => ?_) (fun h9 => absurd (by decide) h9)
  refine lv_aload_n hx hb dX5_enters_17 rfl (lv_at hl 0 rfl) ?_
  refine lv_aload_n hx hb dX5_enters_18 rfl (lv_at hl 0 rfl) ?_
  refine k_get C0 fg_X5_18 hP 0 rfl rfl dX5_enters_19 ?_
  refine k_jvm hP hD hS hA [0, 1] [] rfl rfl rfl 0 0 (Nat.le_of_ble_eq_true rfl) (Nat.le_of_ble_eq_true rfl) (fun hPc hDc => k_runV (As := [.int x_this_behind]) (rest := []) C0 hZ hS hA (s_X5_moveTo l dC dI cy sq a_this a_this_text g_this_text x_this_length x_this_at x_this_behind x_this_sort x_this_allowed a_this_plan x_this_fault x_this_place x_this_behind hg_this_text (ib_w 0 1600 hx_this_length rfl) (ib_w 0 1600 hx_this_behind rfl)) mV_X5_86 hPc hDc rfl rfl rfl hl rfl rfl (Nat.le_of_ble_eq_true rfl) ⟨(Nat.le_of_ble_eq_true rfl), (Nat.le_of_ble_eq_true rfl)⟩ ⟨(Nat.le_of_ble_eq_true rfl), (Nat.le_of_ble_eq_true rfl)⟩ dX5_enters_22) (fun u2 H locs hw hP hD hS => ?_)
  obtain ⟨v3, v4, v5⟩ := u2
  try dsimp only at hP hD hw
  replace hP : va_P (dC, dI) vwCl [(wo_5_riiiiirii a_this a_this_text x_this_length v3 v4 v5 x_this_allowed a_this_plan x_this_fault x_this_place), (wi_0_1600_0 a_this_text cy g_this_text)] H := hP
  replace hD := k_D hP hD
  obtain ⟨h6, h7, h8, h9, h10⟩ := hw
  replace hq := lf_p1 hq h10
  replace hq := lf_p1 hq rfl
  refine lv_iconst (v := 1) hx hb dX5_enters_25 rfl ?_
  subst hQ; exact k_iret hx hb hr hlk (k_nb 1 rfl) ((v3, v4, v5)) hS ⟨ib_w 1 1 (ib_c 1 1 1 rfl) rfl, ib_w 0 1600 h6 rfl, ib_w 0 1600 h7 rfl, ib_w 0 4 h8 rfl, fun hq9 => ib_w 0 1599 (h9 hq9) rfl, (hO.symm.trans (by try simp only [show (1 : Int32).toInt = (1 : Int) from rfl]; exact hq))⟩ hP hD (Nat.le_of_ble_eq_true rfl) (Nat.le_of_ble_eq_true rfl) dX5_enters_26
set_option maxHeartbeats 4000000 in
set_option maxRecDepth 100000 in
theorem s_X5_enters_a0_3 (l : Launch) (dC : Nat → ClassId) (dI : Nat → Nat → Nat) (cy : Nat → ClassId) (sq : Nat → Nat) (a_this : Nat) (a_this_text : Nat) (g_this_text : Nat → Int32) (x_this_length : Int32) (x_this_at : Int32) (x_this_behind : Int32) (x_this_sort : Int32) (x_this_allowed : Int32) (a_this_plan : Nat) (x_this_fault : Int32) (x_this_place : Int32) (hg_this_text : ia g_this_text 1600 0 255) (hx_this_length : ib x_this_length 0 1600) (hx_this_behind : ib x_this_behind 0 1600) : k_Met l yX5_enters cX5_enters 2 (some .boolean) { frames := 2, cells := 0, slots := 0, locals := 43 } dC dI cy sq [.ref a_this, .int 3] [(wo_5_riiiiirii a_this a_this_text x_this_length x_this_at x_this_behind x_this_sort x_this_allowed a_this_plan x_this_fault x_this_place), (wi_0_1600_0 a_this_text cy g_this_text)] (k_Qi dC dI (fun (r : Int32) (u : Int32 × Int32 × Int32) => match u with | (n0, n1, n2) => ib r 1 1 ∧ ib n0 0 1600 ∧ ib n1 0 1600 ∧ ib n2 0 4 ∧ (¬ n2 = 0 → ib n0 0 1599) ∧ (F_X5_enters_a0_3 (lf_A g_this_text) (Int32.toInt x_this_length) (Int32.toInt x_this_behind) = ((Int32.toInt r), (Int32.toInt n0), (Int32.toInt n1), (Int32.toInt n2)))) (fun u : Int32 × Int32 × Int32 => match u with | (n0, n1, n2) => [(wo_5_riiiiirii a_this a_this_text x_this_length n0 n1 n2 x_this_allowed a_this_plan x_this_fault x_this_place), (wi_0_1600_0 a_this_text cy g_this_text)])) := by
  refine k_ofW2 (by decide +kernel) (Nat.le_of_ble_eq_true rfl) ?_
  intro p e s m below meth c A ls H locs args Q hQ C0 hZ hr hlk hin hP hD hA hS hl
  have C0 : k_cx p s m args c cX5_enters 2 RX5 dC dI cy sq := C0
  have hx := C0.1
  have hb := C0.2.1
  have hl : lv_has ls 2 [(0, .ref a_this), (1, .int 3)] := hl
  obtain ⟨O, hO⟩ : ∃ o, o = F_X5_enters_a0_3 (lf_A g_this_text) (Int32.toInt x_this_length) (Int32.toInt x_this_behind) := ⟨_, rfl⟩
  have hq := hO
  unfold F_X5_enters_a0_3 at hq
  refine lv_iload_n hx hb dX5_enters_0 rfl (lv_at hl 1 rfl) ?_
  refine lv_bipush (v := 6) hx hb dX5_enters_1 rfl ?_
  refine lv_icmp_lt (tgt := 17) hx hb dX5_enters_3 rfl (fun _ => ?_) (fun h9 => absurd (by decide) h9)
  refine lv_aload_n hx hb dX5_enters_17 rfl (lv_at hl 0 rfl) ?_
  refine lv_aload_n hx hb dX5_enters_18 rfl (lv_at hl 0 rfl) ?_
  refine k_get C0 fg_X5_18 hP 0 rfl rfl dX5_enters_19 ?_
  refine k_jvm hP hD hS hA [0, 1] [] rfl rfl rfl 0 0 (Nat.le_of_ble_eq_true rfl) (Nat.le_of_ble_eq_true rfl) (fun hPc hDc => k_runV (As := [.int x_this_behind]) (rest := []) C0 hZ hS hA (s_X5_moveTo l dC dI cy sq a_this a_this_text g_this_text x_this_length x_this_at x_this_behind x_this_sort x_this_allowed a_this_plan x_this_fault x_this_place x_this_behind hg_this_text (ib_w 0 1600 hx_this_length rfl) (ib_w 0 1600 hx_this_behind rfl)) mV_X5_86 hPc hDc rfl rfl rfl hl rfl rfl (Nat.le_of_ble_eq_true rfl) ⟨(Nat.le_of_ble_eq_true rfl), (Nat.le_of_ble_eq_true rfl)⟩ ⟨(Nat.le_of_ble_eq_true rfl), (Nat.le_of_ble_eq_true rfl)⟩ dX5_enters_22) (fun u2 H locs hw hP hD hS => ?_)
  obtain ⟨v3, v4, v5⟩ := u2
  try dsimp only at hP hD hw
  replace hP : va_P (dC, dI) vwCl [(wo_5_riiiiirii a_this a_this_text x_this_length v3 v4 v5 x_this_allowed a_this_plan x_this_fault x_this_place), (wi_0_1600_0 a_this_text cy g_this_text)] H := hP
  replace hD := k_D hP hD
  obtain ⟨h6, h7, h8, h9, h10⟩ := hw
  replace hq := lf_p1 hq h10
  replace hq := lf_p1 hq rfl
  refine lv_iconst (v := 1) hx hb dX5_enters_25 rfl ?_
  subst hQ; exact k_iret hx hb hr hlk (k_nb 1 rfl) ((v3, v4, v5)) hS ⟨ib_w 1 1 (ib_c 1 1 1 rfl) rfl, ib_w 0 1600 h6 rfl, ib_w 0 1600 h7 rfl, ib_w 0 4 h8 rfl, fun hq9 => ib_w 0 1599 (h9 hq9) rfl, (hO.symm.trans (by try simp only [show (1 : Int32).toInt = (1 : Int) from rfl]; exact hq))⟩ hP hD (Nat.le_of_ble_eq_true rfl) (Nat.le_of_ble_eq_true rfl) dX5_enters_26
set_option maxHeartbeats 4000000 in
set_option maxRecDepth 100000 in
theorem s_X5_enters_a0_4 (l : Launch) (dC : Nat → ClassId) (dI : Nat → Nat → Nat) (cy : Nat → ClassId) (sq : Nat → Nat) (a_this : Nat) (a_this_text : Nat) (g_this_text : Nat → Int32) (x_this_length : Int32) (x_this_at : Int32) (x_this_behind : Int32) (x_this_sort : Int32) (x_this_allowed : Int32) (a_this_plan : Nat) (x_this_fault : Int32) (x_this_place : Int32) (hg_this_text : ia g_this_text 1600 0 255) (hx_this_length : ib x_this_length 0 1600) (hx_this_behind : ib x_this_behind 0 1600) : k_Met l yX5_enters cX5_enters 2 (some .boolean) { frames := 2, cells := 0, slots := 0, locals := 43 } dC dI cy sq [.ref a_this, .int 4] [(wo_5_riiiiirii a_this a_this_text x_this_length x_this_at x_this_behind x_this_sort x_this_allowed a_this_plan x_this_fault x_this_place), (wi_0_1600_0 a_this_text cy g_this_text)] (k_Qi dC dI (fun (r : Int32) (u : Int32 × Int32 × Int32) => match u with | (n0, n1, n2) => ib r 1 1 ∧ ib n0 0 1600 ∧ ib n1 0 1600 ∧ ib n2 0 4 ∧ (¬ n2 = 0 → ib n0 0 1599) ∧ (F_X5_enters_a0_4 (lf_A g_this_text) (Int32.toInt x_this_length) (Int32.toInt x_this_behind) = ((Int32.toInt r), (Int32.toInt n0), (Int32.toInt n1), (Int32.toInt n2)))) (fun u : Int32 × Int32 × Int32 => match u with | (n0, n1, n2) => [(wo_5_riiiiirii a_this a_this_text x_this_length n0 n1 n2 x_this_allowed a_this_plan x_this_fault x_this_place), (wi_0_1600_0 a_this_text cy g_this_text)])) := by
  refine k_ofW2 (by decide +kernel) (Nat.le_of_ble_eq_true rfl) ?_
  intro p e s m below meth c A ls H locs args Q hQ C0 hZ hr hlk hin hP hD hA hS hl
  have C0 : k_cx p s m args c cX5_enters 2 RX5 dC dI cy sq := C0
  have hx := C0.1
  have hb := C0.2.1
  have hl : lv_has ls 2 [(0, .ref a_this), (1, .int 4)] := hl
  obtain ⟨O, hO⟩ : ∃ o, o = F_X5_enters_a0_4 (lf_A g_this_text) (Int32.toInt x_this_length) (Int32.toInt x_this_behind) := ⟨_, rfl⟩
  have hq := hO
  unfold F_X5_enters_a0_4 at hq
  refine lv_iload_n hx hb dX5_enters_0 rfl (lv_at hl 1 rfl) ?_
  refine lv_bipush (v := 6) hx hb dX5_enters_1 rfl ?_
  refine lv_icmp_lt (tgt := 17) hx hb dX5_enters_3 rfl (fun _ => ?_) (fun h9 => absurd (by decide) h9)
  refine lv_aload_n hx hb dX5_enters_17 rfl (lv_at hl 0 rfl) ?_
  refine lv_aload_n hx hb dX5_enters_18 rfl (lv_at hl 0 rfl) ?_
  refine k_get C0 fg_X5_18 hP 0 rfl rfl dX5_enters_19 ?_
  refine k_jvm hP hD hS hA [0, 1] [] rfl rfl rfl 0 0 (Nat.le_of_ble_eq_true rfl) (Nat.le_of_ble_eq_true rfl) (fun hPc hDc => k_runV (As := [.int x_this_behind]) (rest := []) C0 hZ hS hA (s_X5_moveTo l dC dI cy sq a_this a_this_text g_this_text x_this_length x_this_at x_this_behind x_this_sort x_this_allowed a_this_plan x_this_fault x_this_place x_this_behind hg_this_text (ib_w 0 1600 hx_this_length rfl) (ib_w 0 1600 hx_this_behind rfl)) mV_X5_86 hPc hDc rfl rfl rfl hl rfl rfl (Nat.le_of_ble_eq_true rfl) ⟨(Nat.le_of_ble_eq_true rfl), (Nat.le_of_ble_eq_true rfl)⟩ ⟨(Nat.le_of_ble_eq_true rfl), (Nat.le_of_ble_eq_true rfl)⟩ dX5_enters_22) (fun u2 H locs hw hP hD hS => ?_)
  obtain ⟨v3, v4, v5⟩ := u2
  try dsimp only at hP hD hw
  replace hP : va_P (dC, dI) vwCl [(wo_5_riiiiirii a_this a_this_text x_this_length v3 v4 v5 x_this_allowed a_this_plan x_this_fault x_this_place), (wi_0_1600_0 a_this_text cy g_this_text)] H := hP
  replace hD := k_D hP hD
  obtain ⟨h6, h7, h8, h9, h10⟩ := hw
  replace hq := lf_p1 hq h10
  replace hq := lf_p1 hq rfl
  refine lv_iconst (v := 1) hx hb dX5_enters_25 rfl ?_
  subst hQ; exact k_iret hx hb hr hlk (k_nb 1 rfl) ((v3, v4, v5)) hS ⟨ib_w 1 1 (ib_c 1 1 1 rfl) rfl, ib_w 0 1600 h6 rfl, ib_w 0 1600 h7 rfl, ib_w 0 4 h8 rfl, fun hq9 => ib_w 0 1599 (h9 hq9) rfl, (hO.symm.trans (by try simp only [show (1 : Int32).toInt = (1 : Int) from rfl]; exact hq))⟩ hP hD (Nat.le_of_ble_eq_true rfl) (Nat.le_of_ble_eq_true rfl) dX5_enters_26
set_option maxHeartbeats 4000000 in
set_option maxRecDepth 100000 in
theorem s_X5_enters_a0_5 (l : Launch) (dC : Nat → ClassId) (dI : Nat → Nat → Nat) (cy : Nat → ClassId) (sq : Nat → Nat) (a_this : Nat) (a_this_text : Nat) (g_this_text : Nat → Int32) (x_this_length : Int32) (x_this_at : Int32) (x_this_behind : Int32) (x_this_sort : Int32) (x_this_allowed : Int32) (a_this_plan : Nat) (x_this_fault : Int32) (x_this_place : Int32) (hg_this_text : ia g_this_text 1600 0 255) (hx_this_length : ib x_this_length 0 1600) (hx_this_behind : ib x_this_behind 0 1600) : k_Met l yX5_enters cX5_enters 2 (some .boolean) { frames := 2, cells := 0, slots := 0, locals := 43 } dC dI cy sq [.ref a_this, .int 5] [(wo_5_riiiiirii a_this a_this_text x_this_length x_this_at x_this_behind x_this_sort x_this_allowed a_this_plan x_this_fault x_this_place), (wi_0_1600_0 a_this_text cy g_this_text)] (k_Qi dC dI (fun (r : Int32) (u : Int32 × Int32 × Int32) => match u with | (n0, n1, n2) => ib r 1 1 ∧ ib n0 0 1600 ∧ ib n1 0 1600 ∧ ib n2 0 4 ∧ (¬ n2 = 0 → ib n0 0 1599) ∧ (F_X5_enters_a0_5 (lf_A g_this_text) (Int32.toInt x_this_length) (Int32.toInt x_this_behind) = ((Int32.toInt r), (Int32.toInt n0), (Int32.toInt n1), (Int32.toInt n2)))) (fun u : Int32 × Int32 × Int32 => match u with | (n0, n1, n2) => [(wo_5_riiiiirii a_this a_this_text x_this_length n0 n1 n2 x_this_allowed a_this_plan x_this_fault x_this_place), (wi_0_1600_0 a_this_text cy g_this_text)])) := by
  refine k_ofW2 (by decide +kernel) (Nat.le_of_ble_eq_true rfl) ?_
  intro p e s m below meth c A ls H locs args Q hQ C0 hZ hr hlk hin hP hD hA hS hl
  have C0 : k_cx p s m args c cX5_enters 2 RX5 dC dI cy sq := C0
  have hx := C0.1
  have hb := C0.2.1
  have hl : lv_has ls 2 [(0, .ref a_this), (1, .int 5)] := hl
  obtain ⟨O, hO⟩ : ∃ o, o = F_X5_enters_a0_5 (lf_A g_this_text) (Int32.toInt x_this_length) (Int32.toInt x_this_behind) := ⟨_, rfl⟩
  have hq := hO
  unfold F_X5_enters_a0_5 at hq
  refine lv_iload_n hx hb dX5_enters_0 rfl (lv_at hl 1 rfl) ?_
  refine lv_bipush (v := 6) hx hb dX5_enters_1 rfl ?_
  refine lv_icmp_lt (tgt := 17) hx hb dX5_enters_3 rfl (fun _ => ?_) (fun h9 => absurd (by decide) h9)
  refine lv_aload_n hx hb dX5_enters_17 rfl (lv_at hl 0 rfl) ?_
  refine lv_aload_n hx hb dX5_enters_18 rfl (lv_at hl 0 rfl) ?_
  refine k_get C0 fg_X5_18 hP 0 rfl rfl dX5_enters_19 ?_
  refine k_jvm hP hD hS hA [0, 1] [] rfl rfl rfl 0 0 (Nat.le_of_ble_eq_true rfl) (Nat.le_of_ble_eq_true rfl) (fun hPc hDc => k_runV (As := [.int x_this_behind]) (rest := []) C0 hZ hS hA (s_X5_moveTo l dC dI cy sq a_this a_this_text g_this_text x_this_length x_this_at x_this_behind x_this_sort x_this_allowed a_this_plan x_this_fault x_this_place x_this_behind hg_this_text (ib_w 0 1600 hx_this_length rfl) (ib_w 0 1600 hx_this_behind rfl)) mV_X5_86 hPc hDc rfl rfl rfl hl rfl rfl (Nat.le_of_ble_eq_true rfl) ⟨(Nat.le_of_ble_eq_true rfl), (Nat.le_of_ble_eq_true rfl)⟩ ⟨(Nat.le_of_ble_eq_true rfl), (Nat.le_of_ble_eq_true rfl)⟩ dX5_enters_22) (fun u2 H locs hw hP hD hS => ?_)
  obtain ⟨v3, v4, v5⟩ := u2
  try dsimp only at hP hD hw
  replace hP : va_P (dC, dI) vwCl [(wo_5_riiiiirii a_this a_this_text x_this_length v3 v4 v5 x_this_allowed a_this_plan x_this_fault x_this_place), (wi_0_1600_0 a_this_text cy g_this_text)] H := hP
  replace hD := k_D hP hD
  obtain ⟨h6, h7, h8, h9, h10⟩ := hw
  replace hq := lf_p1 hq h10
  replace hq := lf_p1 hq rfl
  refine lv_iconst (v := 1) hx hb dX5_enters_25 rfl ?_
  subst hQ; exact k_iret hx hb hr hlk (k_nb 1 rfl) ((v3, v4, v5)) hS ⟨ib_w 1 1 (ib_c 1 1 1 rfl) rfl, ib_w 0 1600 h6 rfl, ib_w 0 1600 h7 rfl, ib_w 0 4 h8 rfl, fun hq9 => ib_w 0 1599 (h9 hq9) rfl, (hO.symm.trans (by try simp only [show (1 : Int32).toInt = (1 : Int) from rfl]; exact hq))⟩ hP hD (Nat.le_of_ble_eq_true rfl) (Nat.le_of_ble_eq_true rfl) dX5_enters_26
set_option maxHeartbeats 4000000 in
set_option maxRecDepth 100000 in
theorem s_X5_enters_a0_6 (l : Launch) (dC : Nat → ClassId) (dI : Nat → Nat → Nat) (cy : Nat → ClassId) (sq : Nat → Nat) (a_this : Nat) (a_this_text : Nat) (x_this_length : Int32) (x_this_at : Int32) (x_this_behind : Int32) (x_this_sort : Int32) (x_this_allowed : Int32) (a_this_plan : Nat) (x_this_fault : Int32) (x_this_place : Int32)  : k_Met l yX5_enters cX5_enters 2 (some .boolean) { frames := 1, cells := 0, slots := 0, locals := 22 } dC dI cy sq [.ref a_this, .int 6] [(wo_5_riiiiirii a_this a_this_text x_this_length x_this_at x_this_behind x_this_sort x_this_allowed a_this_plan x_this_fault x_this_place)] (k_Qi dC dI (fun (r : Int32) (u : Int32 × Int32) => match u with | (n0, n1) => ib r 0 0 ∧ (F_X5_enters_a0_6 (Int32.toInt x_this_at) (Int32.toInt x_this_fault) (Int32.toInt x_this_place) = ((Int32.toInt r), (Int32.toInt n0), (Int32.toInt n1)))) (fun u : Int32 × Int32 => match u with | (n0, n1) => [(wo_5_riiiiirii a_this a_this_text x_this_length x_this_length x_this_length 0 x_this_allowed a_this_plan n0 n1)])) := by
  refine k_ofW2 (by decide +kernel) (Nat.le_of_ble_eq_true rfl) ?_
  intro p e s m below meth c A ls H locs args Q hQ C0 hZ hr hlk hin hP hD hA hS hl
  have C0 : k_cx p s m args c cX5_enters 2 RX5 dC dI cy sq := C0
  have hx := C0.1
  have hb := C0.2.1
  have hl : lv_has ls 2 [(0, .ref a_this), (1, .int 6)] := hl
  obtain ⟨O, hO⟩ : ∃ o, o = F_X5_enters_a0_6 (Int32.toInt x_this_at) (Int32.toInt x_this_fault) (Int32.toInt x_this_place) := ⟨_, rfl⟩
  have hq := hO
  unfold F_X5_enters_a0_6 at hq
  refine lv_iload_n hx hb dX5_enters_0 rfl (lv_at hl 1 rfl) ?_
  refine lv_bipush (v := 6) hx hb dX5_enters_1 rfl ?_
  refine lv_icmp_lt (tgt := 17) hx hb dX5_enters_3 rfl (fun h9 => absurd h9 (by decide)) (fun _ => ?_)
  refine lv_aload_n hx hb dX5_enters_6 rfl (lv_at hl 0 rfl) ?_
  refine lv_iconst (v := 4) hx hb dX5_enters_7 rfl ?_
  refine lv_aload_n hx hb dX5_enters_8 rfl (lv_at hl 0 rfl) ?_
  refine k_get C0 fg_X5_15 hP 0 rfl rfl dX5_enters_9 ?_
  refine k_jvm hP hD hS hA [0] [] rfl rfl rfl 0 0 (Nat.le_of_ble_eq_true rfl) (Nat.le_of_ble_eq_true rfl) (fun hPc hDc => k_runV (As := [.int 4, .int x_this_at]) (rest := []) C0 hZ hS hA (s_X5_fail l dC dI cy sq a_this a_this_text x_this_length x_this_at x_this_behind x_this_sort x_this_allowed a_this_plan x_this_fault x_this_place 4 x_this_at ) mV_X5_78 hPc hDc rfl rfl rfl hl rfl rfl (Nat.le_of_ble_eq_true rfl) ⟨(Nat.le_of_ble_eq_true rfl), (Nat.le_of_ble_eq_true rfl)⟩ ⟨(Nat.le_of_ble_eq_true rfl), (Nat.le_of_ble_eq_true rfl)⟩ dX5_enters_12) (fun u2 H locs hw hP hD hS => ?_)
  obtain ⟨v3, v4⟩ := u2
  try dsimp only at hP hD hw
  replace hP : va_P (dC, dI) vwCl [(wo_5_riiiiirii a_this a_this_text x_this_length x_this_length x_this_length 0 x_this_allowed a_this_plan v3 v4)] H := hP
  replace hD := k_D hP hD
  have h5 := hw
  have h5 := by have h9 := h5; try simp only [show (4 : Int32).toInt = (4 : Int) from rfl] at h9; exact h9
  replace hq := lf_p1 hq h5
  refine lv_iconst (v := 0) hx hb dX5_enters_15 rfl ?_
  subst hQ; exact k_iret hx hb hr hlk (k_nb 0 rfl) ((v3, v4)) hS ⟨ib_w 0 0 (ib_c 0 0 0 rfl) rfl, (hO.symm.trans (by try simp only [show (0 : Int32).toInt = (0 : Int) from rfl]; exact hq))⟩ hP hD (Nat.le_of_ble_eq_true rfl) (Nat.le_of_ble_eq_true rfl) dX5_enters_16
set_option maxHeartbeats 4000000 in
set_option maxRecDepth 100000 in
theorem s_X5_pair_a0_6 (l : Launch) (dC : Nat → ClassId) (dI : Nat → Nat → Nat) (cy : Nat → ClassId) (sq : Nat → Nat) (a_this : Nat) (a_this_text : Nat) (g_this_text : Nat → Int32) (x_this_length : Int32) (x_this_at : Int32) (x_this_behind : Int32) (x_this_sort : Int32) (x_this_allowed : Int32) (a_this_plan : Nat) (x_this_fault : Int32) (x_this_place : Int32) (p1 : Int32) (hg_this_text : ia g_this_text 1600 0 255) (hx_this_at : ib x_this_at 0 1600) (hx_this_sort : ib x_this_sort 0 4) (hc0_this : ¬ x_this_sort = 0 → ib x_this_at 0 1599) : k_Met l yX5_pair cX5_pair 3 none { frames := 2, cells := 0, slots := 0, locals := 43 } dC dI cy sq [.ref a_this, .int 6, .int p1] [(wo_5_riiiiirii a_this a_this_text x_this_length x_this_at x_this_behind x_this_sort x_this_allowed a_this_plan x_this_fault x_this_place), (wi_0_1600_0 a_this_text cy g_this_text)] (k_Qv dC dI (fun (u : Int32 × Int32) => match u with | (n0, n1) => (F_X5_pair_a0_6 (lf_A g_this_text) (Int32.toInt x_this_at) (Int32.toInt x_this_sort) (Int32.toInt x_this_fault) (Int32.toInt x_this_place) = ((Int32.toInt n0), (Int32.toInt n1)))) (fun u : Int32 × Int32 => match u with | (n0, n1) => [(wo_5_riiiiirii a_this a_this_text x_this_length x_this_length x_this_length 0 x_this_allowed a_this_plan n0 n1), (wi_0_1600_0 a_this_text cy g_this_text)])) := by
  refine k_ofW2 (by decide +kernel) (Nat.le_of_ble_eq_true rfl) ?_
  intro p e s m below meth c A ls H locs args Q hQ C0 hZ hr hlk hin hP hD hA hS hl
  have C0 : k_cx p s m args c cX5_pair 3 RX5 dC dI cy sq := C0
  have hx := C0.1
  have hb := C0.2.1
  have hl : lv_has ls 3 [(0, .ref a_this), (1, .int 6), (2, .int p1)] := hl
  obtain ⟨O, hO⟩ : ∃ o, o = F_X5_pair_a0_6 (lf_A g_this_text) (Int32.toInt x_this_at) (Int32.toInt x_this_sort) (Int32.toInt x_this_fault) (Int32.toInt x_this_place) := ⟨_, rfl⟩
  have hq := hO
  unfold F_X5_pair_a0_6 at hq
  refine lv_aload_n hx hb dX5_pair_0 rfl (lv_at hl 0 rfl) ?_
  refine lv_bipush (v := 40) hx hb dX5_pair_1 rfl ?_
  refine k_jim hP hD hS hA [0, 1] [] rfl rfl rfl 0 0 (Nat.le_of_ble_eq_true rfl) (Nat.le_of_ble_eq_true rfl) (fun hPc hDc => k_runV (As := [.int 40]) (rest := []) C0 hZ hS hA (s_X5_sees l dC dI cy sq a_this a_this_text g_this_text x_this_length x_this_at x_this_behind x_this_sort x_this_allowed a_this_plan x_this_fault x_this_place 40 hg_this_text (ib_w 0 1600 hx_this_at rfl) (ib_w 0 4 hx_this_sort rfl) (fun hq9 => ib_w 0 1599 (hc0_this hq9) rfl)) mV_X5_213 hPc hDc rfl rfl rfl hl rfl rfl (Nat.le_of_ble_eq_true rfl) ⟨(Nat.le_of_ble_eq_true rfl), (Nat.le_of_ble_eq_true rfl)⟩ ⟨(Nat.le_of_ble_eq_true rfl), (Nat.le_of_ble_eq_true rfl)⟩ dX5_pair_3) (fun r1 u2 H locs hw hP hD hS => ?_)
  try dsimp only at hP hD hw
  replace hP : va_P (dC, dI) vwCl [(wo_5_riiiiirii a_this a_this_text x_this_length x_this_at x_this_behind x_this_sort x_this_allowed a_this_plan x_this_fault x_this_place), (wi_0_1600_0 a_this_text cy g_this_text)] H := hP
  replace hD := k_D hP hD
  obtain ⟨h3, h4, h5, h6, h7⟩ := hw
  have h7 := by have h9 := h7; try simp only [show (40 : Int32).toInt = (40 : Int) from rfl] at h9; exact h9
  replace hq := lf_b1 hq h7
  refine lv_if_ne (tgt := 21) hx hb dX5_pair_6 rfl (fun c8 => ?_) (fun c8 => ?_)
  · replace hq := lf_neg hq (lf_ne (lf_rf r1) (lf_lc 0 (0 : Int) rfl) c8)
    have h9 : ib r1 1 1 := ib_w 1 1 (ib_ne_lo 0 h3 rfl c8) rfl
    have h10 : ib x_this_at 0 1599 := ib_w 0 1599 (ib_two hx_this_at (h4 c8)) rfl
    have h11 : ib x_this_sort 3 3 := ib_w 3 3 (ib_two hx_this_sort (h5 c8)) rfl
    refine lv_aload_n hx hb dX5_pair_21 rfl (lv_at hl 0 rfl) ?_
    refine lv_iload_n hx hb dX5_pair_22 rfl (lv_at hl 1 rfl) ?_
    refine k_jim hP hD hS hA [0] [false, true] rfl rfl rfl 0 0 (Nat.le_of_ble_eq_true rfl) (Nat.le_of_ble_eq_true rfl) (fun hPc hDc => k_runV (As := [.int 6]) (rest := []) C0 hZ hS hA (s_X5_enters_a0_6 l dC dI cy sq a_this a_this_text x_this_length x_this_at x_this_behind x_this_sort x_this_allowed a_this_plan x_this_fault x_this_place ) mV_X5_209 hPc hDc rfl rfl rfl hl rfl rfl (Nat.le_of_ble_eq_true rfl) ⟨(Nat.le_of_ble_eq_true rfl), (Nat.le_of_ble_eq_true rfl)⟩ ⟨(Nat.le_of_ble_eq_true rfl), (Nat.le_of_ble_eq_true rfl)⟩ dX5_pair_23) (fun r12 u13 H locs hw hP hD hS => ?_)
    obtain ⟨v14, v15⟩ := u13
    try dsimp only at hP hD hw
    replace hP : va_P (dC, dI) vwCl [(wi_0_1600_0 a_this_text cy g_this_text), (wo_5_riiiiirii a_this a_this_text x_this_length x_this_length x_this_length 0 x_this_allowed a_this_plan v14 v15)] H := hP
    replace hD := k_D hP hD
    obtain ⟨h16, h17⟩ := hw
    replace hq := lf_p1 hq h17
    replace hq := lf_p1 hq rfl
    refine lv_if_eq (tgt := 60) hx hb dX5_pair_26 rfl (fun c18 => ?_) (fun c18 => ?_)
    · skip
      have h19 := ib_eq h16 (ib_c 0 0 0 rfl) c18
      subst hQ; exact k_vret hx hb hr hlk ((v14, v15)) hS ((hO.symm.trans (by exact hq))) (hP.sub [1, 0] rfl) (hD.sub [1, 0] rfl rfl) (Nat.le_of_ble_eq_true rfl) (Nat.le_of_ble_eq_true rfl) dX5_pair_60
    · skip
      exact absurd (ib_one h16 rfl) c18
  · replace hq := lf_pos hq (lf_eq (lf_rf r1) (lf_lc 0 (0 : Int) rfl) c8)
    have h20 := ib_eq h3 (ib_c 0 0 0 rfl) c8
    have h21 : ib r1 0 0 := ib_w 0 0 h20.1 rfl
    refine lv_aload_n hx hb dX5_pair_9 rfl (lv_at hl 0 rfl) ?_
    refine lv_iconst (v := 1) hx hb dX5_pair_10 rfl ?_
    refine lv_aload_n hx hb dX5_pair_11 rfl (lv_at hl 0 rfl) ?_
    refine k_get C0 fg_X5_15 hP 0 rfl rfl dX5_pair_12 ?_
    refine k_jvm hP hD hS hA [0] [false, true] rfl rfl rfl 0 0 (Nat.le_of_ble_eq_true rfl) (Nat.le_of_ble_eq_true rfl) (fun hPc hDc => k_runV (As := [.int 1, .int x_this_at]) (rest := []) C0 hZ hS hA (s_X5_fail l dC dI cy sq a_this a_this_text x_this_length x_this_at x_this_behind x_this_sort x_this_allowed a_this_plan x_this_fault x_this_place 1 x_this_at ) mV_X5_78 hPc hDc rfl rfl rfl hl rfl rfl (Nat.le_of_ble_eq_true rfl) ⟨(Nat.le_of_ble_eq_true rfl), (Nat.le_of_ble_eq_true rfl)⟩ ⟨(Nat.le_of_ble_eq_true rfl), (Nat.le_of_ble_eq_true rfl)⟩ dX5_pair_15) (fun u23 H locs hw hP hD hS => ?_)
    obtain ⟨v24, v25⟩ := u23
    try dsimp only at hP hD hw
    replace hP : va_P (dC, dI) vwCl [(wi_0_1600_0 a_this_text cy g_this_text), (wo_5_riiiiirii a_this a_this_text x_this_length x_this_length x_this_length 0 x_this_allowed a_this_plan v24 v25)] H := hP
    replace hD := k_D hP hD
    have h26 := hw
    have h26 := by have h9 := h26; try simp only [show (1 : Int32).toInt = (1 : Int) from rfl] at h9; exact h9
    replace hq := lf_p1 hq h26
    refine lv_goto (tgt := 60) hx hb dX5_pair_18 rfl ?_
    subst hQ; exact k_vret hx hb hr hlk ((v24, v25)) hS ((hO.symm.trans (by exact hq))) (hP.sub [1, 0] rfl) (hD.sub [1, 0] rfl rfl) (Nat.le_of_ble_eq_true rfl) (Nat.le_of_ble_eq_true rfl) dX5_pair_60
set_option maxHeartbeats 4000000 in
set_option maxRecDepth 100000 in
theorem s_X5_number_a0_0_a1_9999 (l : Launch) (dC : Nat → ClassId) (dI : Nat → Nat → Nat) (cy : Nat → ClassId) (sq : Nat → Nat) (a_this : Nat) (a_this_text : Nat) (g_this_text : Nat → Int32) (x_this_length : Int32) (x_this_at : Int32) (x_this_behind : Int32) (x_this_sort : Int32) (x_this_allowed : Int32) (a_this_plan : Nat) (x_this_fault : Int32) (x_this_place : Int32) (hg_this_text : ia g_this_text 1600 0 255) (hx_this_length : ib x_this_length 0 1600) (hx_this_at : ib x_this_at 0 1600) (hx_this_behind : ib x_this_behind 0 1600) (hx_this_sort : ib x_this_sort 0 4) (hc0_this : ¬ x_this_sort = 0 → ib x_this_at 0 1599) : k_Met l yX5_number cX5_number 5 (some .int) { frames := 2, cells := 0, slots := 0, locals := 43 } dC dI cy sq [.ref a_this, .int 0, .int 9999] [(wo_5_riiiiirii a_this a_this_text x_this_length x_this_at x_this_behind x_this_sort x_this_allowed a_this_plan x_this_fault x_this_place), (wi_0_1600_0 a_this_text cy g_this_text)] (k_Qi dC dI (fun (r : Int32) (u : Int32 × Int32 × Int32 × Int32 × Int32) => match u with | (n0, n1, n2, n3, n4) => ib r 0 9999 ∧ ib n0 0 1600 ∧ ib n1 0 1600 ∧ ib n2 0 4 ∧ (¬ n2 = 0 → ib n0 0 1599) ∧ (F_X5_number_a0_0_a1_9999 (lf_A g_this_text) (Int32.toInt x_this_length) (Int32.toInt x_this_at) (Int32.toInt x_this_behind) (Int32.toInt x_this_sort) (Int32.toInt x_this_fault) (Int32.toInt x_this_place) = ((Int32.toInt r), (Int32.toInt n0), (Int32.toInt n1), (Int32.toInt n2), (Int32.toInt n3), (Int32.toInt n4)))) (fun u : Int32 × Int32 × Int32 × Int32 × Int32 => match u with | (n0, n1, n2, n3, n4) => [(wo_5_riiiiirii a_this a_this_text x_this_length n0 n1 n2 x_this_allowed a_this_plan n3 n4), (wi_0_1600_0 a_this_text cy g_this_text)])) := by
  refine k_ofW2 (by decide +kernel) (Nat.le_of_ble_eq_true rfl) ?_
  intro p e s m below meth c A ls H locs args Q hQ C0 hZ hr hlk hin hP hD hA hS hl
  have C0 : k_cx p s m args c cX5_number 5 RX5 dC dI cy sq := C0
  have hx := C0.1
  have hb := C0.2.1
  have hl : lv_has ls 5 [(0, .ref a_this), (1, .int 0), (2, .int 9999)] := hl
  obtain ⟨O, hO⟩ : ∃ o, o = F_X5_number_a0_0_a1_9999 (lf_A g_this_text) (Int32.toInt x_this_length) (Int32.toInt x_this_at) (Int32.toInt x_this_behind) (Int32.toInt x_this_sort) (Int32.toInt x_this_fault) (Int32.toInt x_this_place) := ⟨_, rfl⟩
  have hq := hO
  unfold F_X5_number_a0_0_a1_9999 at hq
  have jn94 : ∀ (J94_l3 : Int32) (J94_l4 : Int32) (H : Heap) (locs : List Loc) (ls : Array Slot), ib J94_l4 0 1600 → ib x_this_at 0 1599 → ib x_this_sort 2 2 → (O = F_X5_number_a0_0_a1_9999_94 (Int32.toInt x_this_length) (Int32.toInt x_this_at) (Int32.toInt x_this_fault) (Int32.toInt x_this_place) (Int32.toInt J94_l3) (Int32.toInt J94_l4)) → va_P (dC, dI) vwCl [(wo_5_riiiiirii a_this a_this_text x_this_length x_this_at x_this_behind x_this_sort x_this_allowed a_this_plan x_this_fault x_this_place), (wi_0_1600_0 a_this_text cy g_this_text)] H → va_D A [(wo_5_riiiiirii a_this a_this_text x_this_length x_this_at x_this_behind x_this_sort x_this_allowed a_this_plan x_this_fault x_this_place), (wi_0_1600_0 a_this_text cy g_this_text)] → va_S A s.heap H locs → lv_has ls 5 [(0, .ref a_this), (1, .int 0), (2, .int 9999), (3, .int J94_l3), (4, .int J94_l4)] → W p l e { frames := 2, cells := 0, slots := 0, locals := 43 } s m args below meth c H locs 0 0 Q (F0 m 94 ls []) := by
    intro J94_l3 J94_l4 H locs ls hJ94_l4 hK94_x_this_at hK94_x_this_sort hq hP hD hS hl
    unfold F_X5_number_a0_0_a1_9999_94 at hq
    refine lv_aload_n hx hb dX5_number_94 rfl (lv_at hl 0 rfl) ?_
    refine lv_iconst (v := 2) hx hb dX5_number_95 rfl ?_
    refine lv_aload_n hx hb dX5_number_96 rfl (lv_at hl 0 rfl) ?_
    refine k_get C0 fg_X5_15 hP 0 rfl rfl dX5_number_97 ?_
    refine k_jvm hP hD hS hA [0] [false, true] rfl rfl rfl 0 0 (Nat.le_of_ble_eq_true rfl) (Nat.le_of_ble_eq_true rfl) (fun hPc hDc => k_runV (As := [.int 2, .int x_this_at]) (rest := []) C0 hZ hS hA (s_X5_fail l dC dI cy sq a_this a_this_text x_this_length x_this_at x_this_behind x_this_sort x_this_allowed a_this_plan x_this_fault x_this_place 2 x_this_at ) mV_X5_78 hPc hDc rfl rfl rfl hl rfl rfl (Nat.le_of_ble_eq_true rfl) ⟨(Nat.le_of_ble_eq_true rfl), (Nat.le_of_ble_eq_true rfl)⟩ ⟨(Nat.le_of_ble_eq_true rfl), (Nat.le_of_ble_eq_true rfl)⟩ dX5_number_100) (fun u2 H locs hw hP hD hS => ?_)
    obtain ⟨v3, v4⟩ := u2
    try dsimp only at hP hD hw
    replace hP : va_P (dC, dI) vwCl [(wi_0_1600_0 a_this_text cy g_this_text), (wo_5_riiiiirii a_this a_this_text x_this_length x_this_length x_this_length 0 x_this_allowed a_this_plan v3 v4)] H := hP
    replace hD := k_D hP hD
    have h5 := hw
    have h5 := by have h9 := h5; try simp only [show (2 : Int32).toInt = (2 : Int) from rfl] at h9; exact h9
    replace hq := lf_p1 hq h5
    refine lv_iload_n hx hb dX5_number_103 rfl (lv_at hl 1 rfl) ?_
    subst hQ; exact k_iret hx hb hr hlk rfl ((x_this_length, x_this_length, 0, v3, v4)) hS ⟨ib_w 0 9999 (ib_c 0 0 0 rfl) rfl, ib_w 0 1600 hx_this_length rfl, ib_w 0 1600 hx_this_length rfl, ib_w 0 4 (ib_c 0 0 0 rfl) rfl, fun hq9 => absurd rfl hq9, (hO.symm.trans (by try simp only [show (0 : Int32).toInt = (0 : Int) from rfl]; exact hq))⟩ (hP.sub [1, 0] rfl) (hD.sub [1, 0] rfl rfl) (Nat.le_of_ble_eq_true rfl) (Nat.le_of_ble_eq_true rfl) dX5_number_104
  have jn53 : ∀ (n : Nat) (J53_l3 : Int32) (J53_l4 : Int32) (H : Heap) (locs : List Loc) (ls : Array Slot), ib x_this_at 0 1599 → ib x_this_sort 2 2 → ib J53_l4 0 1600 → (O = F_X5_number_a0_0_a1_9999_53 (lf_A g_this_text) (Int32.toInt x_this_length) (Int32.toInt x_this_at) (Int32.toInt x_this_behind) (Int32.toInt x_this_fault) (Int32.toInt x_this_place) n (Int32.toInt J53_l3) (Int32.toInt J53_l4)) → 1601 ≤ J53_l4.toInt + (n : Int) → va_P (dC, dI) vwCl [(wo_5_riiiiirii a_this a_this_text x_this_length x_this_at x_this_behind x_this_sort x_this_allowed a_this_plan x_this_fault x_this_place), (wi_0_1600_0 a_this_text cy g_this_text)] H → va_D A [(wo_5_riiiiirii a_this a_this_text x_this_length x_this_at x_this_behind x_this_sort x_this_allowed a_this_plan x_this_fault x_this_place), (wi_0_1600_0 a_this_text cy g_this_text)] → va_S A s.heap H locs → lv_has ls 5 [(0, .ref a_this), (1, .int 0), (2, .int 9999), (3, .int J53_l3), (4, .int J53_l4)] → W p l e { frames := 2, cells := 0, slots := 0, locals := 43 } s m args below meth c H locs 0 0 Q (F0 m 53 ls []) := by
    as_aux_lemma =>
      intro n
      induction n with
      | zero =>
        intro J53_l3 J53_l4 H locs ls hK53_x_this_at hK53_x_this_sort hJ53_l4 hq hm
        exact absurd hm (by have := hJ53_l4; unfold ib at this; omega)
      | succ n ih =>
        intro J53_l3 J53_l4 H locs ls hK53_x_this_at hK53_x_this_sort hJ53_l4 hq hm53 hP hD hS hl
        have ih53 := ih
        obtain ⟨K53, hK53⟩ : ∃ K, K = F_X5_number_a0_0_a1_9999_53 (lf_A g_this_text) (Int32.toInt x_this_length) (Int32.toInt x_this_at) (Int32.toInt x_this_behind) (Int32.toInt x_this_fault) (Int32.toInt x_this_place) n := ⟨_, rfl⟩
        have hq : O = F_X5_number_a0_0_a1_9999_53b (lf_A g_this_text) (Int32.toInt x_this_length) (Int32.toInt x_this_at) (Int32.toInt x_this_behind) (Int32.toInt x_this_fault) (Int32.toInt x_this_place) K53 (Int32.toInt J53_l3) (Int32.toInt J53_l4) := by rw [hK53]; exact hq
        unfold F_X5_number_a0_0_a1_9999_53b at hq
        refine lv_iload hx hb dX5_number_53 (lv_at hl 4 rfl) ?_
        refine lv_aload_n hx hb dX5_number_55 rfl (lv_at hl 0 rfl) ?_
        refine k_get C0 fg_X5_18 hP 0 rfl rfl dX5_number_56 ?_
        refine lv_icmp_ge (tgt := 84) hx hb dX5_number_59 rfl (fun c6 => ?_) (fun c6 => ?_)
        · as_aux_lemma =>
            replace hq := lf_pos hq (lf_le (lf_rf x_this_behind) (lf_rf J53_l4) c6)
            have h7 := ib_le hx_this_behind hJ53_l4 c6
            refine lv_iload_n hx hb dX5_number_84 rfl (lv_at hl 3 rfl) ?_
            refine lv_iload_n hx hb dX5_number_85 rfl (lv_at hl 1 rfl) ?_
            refine lv_icmp_lt (tgt := 94) hx hb dX5_number_86 rfl (fun c8 => ?_) (fun c8 => ?_)
            · replace hq := lf_pos hq (lf_lt (lf_rf J53_l3) (lf_lc 0 (0 : Int) rfl) c8)
              have h9 := ib_lt (ib_any J53_l3) (ib_c 0 0 0 rfl) c8
              have h10 : ib J53_l3 (-2147483648) (-1) := ib_w (-2147483648) (-1) h9.1 rfl
              exact jn94 J53_l3 J53_l4 H locs ls (ib_w 0 1600 hJ53_l4 rfl) (ib_w 0 1599 hK53_x_this_at rfl) (ib_w 2 2 hK53_x_this_sort rfl) (by exact hq) hP hD hS (lv_sub hl [0, 1, 2, 3, 4] rfl)
            · as_aux_lemma =>
                replace hq := lf_neg hq (lf_nlt (lf_rf J53_l3) (lf_lc 0 (0 : Int) rfl) c8)
                have h11 := ib_nlt (ib_any J53_l3) (ib_c 0 0 0 rfl) c8
                have h12 : ib J53_l3 0 2147483647 := ib_w 0 2147483647 h11.1 rfl
                refine lv_iload_n hx hb dX5_number_89 rfl (lv_at hl 3 rfl) ?_
                refine lv_iload_n hx hb dX5_number_90 rfl (lv_at hl 2 rfl) ?_
                refine lv_icmp_le (tgt := 105) hx hb dX5_number_91 rfl (fun c13 => ?_) (fun c13 => ?_)
                · replace hq := lf_pos hq (lf_le (lf_rf J53_l3) (lf_lc 9999 (9999 : Int) rfl) c13)
                  have h14 := ib_le h12 (ib_c 9999 9999 9999 rfl) c13
                  have h15 : ib J53_l3 0 9999 := ib_w 0 9999 h14.1 rfl
                  refine lv_aload_n hx hb dX5_number_105 rfl (lv_at hl 0 rfl) ?_
                  refine lv_aload_n hx hb dX5_number_106 rfl (lv_at hl 0 rfl) ?_
                  refine k_get C0 fg_X5_18 hP 0 rfl rfl dX5_number_107 ?_
                  refine k_jvm hP hD hS hA [0, 1] [] rfl rfl rfl 0 0 (Nat.le_of_ble_eq_true rfl) (Nat.le_of_ble_eq_true rfl) (fun hPc hDc => k_runV (As := [.int x_this_behind]) (rest := []) C0 hZ hS hA (s_X5_moveTo l dC dI cy sq a_this a_this_text g_this_text x_this_length x_this_at x_this_behind x_this_sort x_this_allowed a_this_plan x_this_fault x_this_place x_this_behind hg_this_text (ib_w 0 1600 hx_this_length rfl) (ib_w 0 1600 hx_this_behind rfl)) mV_X5_86 hPc hDc rfl rfl rfl hl rfl rfl (Nat.le_of_ble_eq_true rfl) ⟨(Nat.le_of_ble_eq_true rfl), (Nat.le_of_ble_eq_true rfl)⟩ ⟨(Nat.le_of_ble_eq_true rfl), (Nat.le_of_ble_eq_true rfl)⟩ dX5_number_110) (fun u17 H locs hw hP hD hS => ?_)
                  obtain ⟨v18, v19, v20⟩ := u17
                  try dsimp only at hP hD hw
                  replace hP : va_P (dC, dI) vwCl [(wo_5_riiiiirii a_this a_this_text x_this_length v18 v19 v20 x_this_allowed a_this_plan x_this_fault x_this_place), (wi_0_1600_0 a_this_text cy g_this_text)] H := hP
                  replace hD := k_D hP hD
                  obtain ⟨h21, h22, h23, h24, h25⟩ := hw
                  replace hq := lf_p1 hq h25
                  replace hq := lf_p1 hq rfl
                  refine lv_iload_n hx hb dX5_number_113 rfl (lv_at hl 3 rfl) ?_
                  subst hQ; exact k_iret hx hb hr hlk rfl ((v18, v19, v20, x_this_fault, x_this_place)) hS ⟨ib_w 0 9999 h15 rfl, ib_w 0 1600 h21 rfl, ib_w 0 1600 h22 rfl, ib_w 0 4 h23 rfl, fun hq9 => ib_w 0 1599 (h24 hq9) rfl, (hO.symm.trans (by exact hq))⟩ hP hD (Nat.le_of_ble_eq_true rfl) (Nat.le_of_ble_eq_true rfl) dX5_number_114
                · replace hq := lf_neg hq (lf_nle (lf_rf J53_l3) (lf_lc 9999 (9999 : Int) rfl) c13)
                  have h26 := ib_nle h12 (ib_c 9999 9999 9999 rfl) c13
                  have h27 : ib J53_l3 10000 2147483647 := ib_w 10000 2147483647 h26.1 rfl
                  exact jn94 J53_l3 J53_l4 H locs ls (ib_w 0 1600 hJ53_l4 rfl) (ib_w 0 1599 hK53_x_this_at rfl) (ib_w 2 2 hK53_x_this_sort rfl) (by exact hq) hP hD hS (lv_sub hl [0, 1, 2, 3, 4] rfl)
        · as_aux_lemma =>
            replace hq := lf_neg hq (lf_nle (lf_rf x_this_behind) (lf_rf J53_l4) c6)
            have h28 := ib_nle hx_this_behind hJ53_l4 c6
            have h29 : ib x_this_behind 1 1600 := ib_w 1 1600 h28.1 rfl
            have h30 : ib J53_l4 0 1599 := ib_w 0 1599 h28.2 rfl
            refine lv_iload_n hx hb dX5_number_62 rfl (lv_at hl 3 rfl) ?_
            refine lv_bipush (v := 10) hx hb dX5_number_63 rfl ?_
            refine lv_imul hx hb dX5_number_65 ?_
            refine lv_topi (fun z31 ez31 => ?_)
            have Ez31 := lf_op lf_imul ez31 (lf_rf J53_l3) (lf_lc 10 (10 : Int) rfl)
            refine lv_aload_n hx hb dX5_number_66 rfl (lv_at hl 0 rfl) ?_
            refine k_get C0 fg_X5_33 hP 0 rfl rfl dX5_number_67 ?_
            refine lv_iload hx hb dX5_number_70 (lv_at hl 4 rfl) ?_
            refine va_iald hx hb C0.2.2.2.2.2.1 hP 1 0 rfl rfl (ib_in 1600 h30 rfl) dX5_number_72 ?_
            refine lv_topi (fun z32 ez32 => ?_)
            have h33 : ib z32 0 255 := by rw [ez32]; exact ia_at hg_this_text (ib_in 1600 h30 rfl)
            have Ez32 := lf_ld ez32 (lf_ra g_this_text) (lf_rf J53_l4)
            refine lv_iadd hx hb dX5_number_73 ?_
            refine lv_topi (fun z34 ez34 => ?_)
            have Ez34 := lf_op lf_iadd ez34 Ez31 Ez32
            refine lv_bipush (v := 48) hx hb dX5_number_74 rfl ?_
            refine lv_isub hx hb dX5_number_76 ?_
            refine lv_topi (fun z35 ez35 => ?_)
            have Ez35 := lf_op lf_isub ez35 Ez34 (lf_lc 48 (48 : Int) rfl)
            refine lv_istore_n (lv' := [(3, .int z35), (0, .ref a_this), (1, .int 0), (2, .int 9999), (4, .int J53_l4)]) hx hb dX5_number_77 rfl hl (Nat.le_of_ble_eq_true rfl) rfl (fun ls hl => ?_)
            obtain ⟨z36, ez36⟩ : ∃ y : Int32, y = J53_l4 + 1 := ⟨_, rfl⟩
            refine lv_iinc (v := z36) (lv' := [(4, .int z36), (3, .int z35), (0, .ref a_this), (1, .int 0), (2, .int 9999)]) hx hb dX5_number_78 hl (k := 4) rfl (by rw [ez36]; rfl) (Nat.le_of_ble_eq_true rfl) rfl (fun ls hl => ?_)
            have h37 := ib_add h30 (ib_c 1 1 1 rfl) rfl
            rw [← ez36] at h37
            have h38 : ib z36 1 1600 := ib_w 1 1600 h37.1 rfl
            have Ez36 := lf_add h37.2 (lf_rf J53_l4) (lf_lc 1 (1 : Int) rfl)
            refine lv_goto (tgt := 53) hx hb dX5_number_81 rfl ?_
            exact ih53 z35 z36 H locs ls (ib_w 0 1599 hK53_x_this_at rfl) (ib_w 2 2 hK53_x_this_sort rfl) (ib_w 0 1600 h38 rfl) (by rw [← hK53]; rw [lf_u Ez35]; rw [lf_u Ez36]; exact hq) (by have := h37.2; have : (1 : Int32).toInt = 1 := rfl; omega) hP hD hS (lv_sub hl [2, 3, 4, 1, 0] rfl)
  refine lv_aload_n hx hb dX5_number_0 rfl (lv_at hl 0 rfl) ?_
  refine k_get C0 fg_X5_21 hP 0 rfl rfl dX5_number_1 ?_
  refine lv_iconst (v := 2) hx hb dX5_number_4 rfl ?_
  refine lv_icmp_eq (tgt := 19) hx hb dX5_number_5 rfl (fun c39 => ?_) (fun c39 => ?_)
  · as_aux_lemma =>
      replace hq := lf_pos hq (lf_eq (lf_rf x_this_sort) (lf_lc 2 (2 : Int) rfl) c39)
      have h40 := ib_eq hx_this_sort (ib_c 2 2 2 rfl) c39
      have h41 : ib x_this_sort 2 2 := ib_w 2 2 h40.1 rfl
      have h42 : ib x_this_at 0 1599 := ib_w 0 1599 (ib_two hx_this_at (hc0_this (ib_nz h41 rfl))) rfl
      refine lv_aload_n hx hb dX5_number_19 rfl (lv_at hl 0 rfl) ?_
      refine k_get C0 fg_X5_18 hP 0 rfl rfl dX5_number_20 ?_
      refine lv_aload_n hx hb dX5_number_23 rfl (lv_at hl 0 rfl) ?_
      refine k_get C0 fg_X5_15 hP 0 rfl rfl dX5_number_24 ?_
      refine lv_isub hx hb dX5_number_27 ?_
      refine lv_topi (fun z43 ez43 => ?_)
      have h44 := ib_sub hx_this_behind h42 rfl
      rw [← ez43] at h44
      have h45 : ib z43 (-1599) 1600 := ib_w (-1599) 1600 h44.1 rfl
      have Ez43 := lf_sub h44.2 (lf_rf x_this_behind) (lf_rf x_this_at)
      refine lv_iconst (v := 4) hx hb dX5_number_28 rfl ?_
      refine lv_icmp_le (tgt := 45) hx hb dX5_number_29 rfl (fun c46 => ?_) (fun c46 => ?_)
      · replace hq := lf_pos hq (lf_le Ez43 (lf_lc 4 (4 : Int) rfl) c46)
        have h47 := ib_le h45 (ib_c 4 4 4 rfl) c46
        have h48 : ib z43 (-1599) 4 := ib_w (-1599) 4 h47.1 rfl
        refine lv_iconst (v := 0) hx hb dX5_number_45 rfl ?_
        refine lv_istore_n (lv' := [(3, .int 0), (0, .ref a_this), (1, .int 0), (2, .int 9999)]) hx hb dX5_number_46 rfl hl (Nat.le_of_ble_eq_true rfl) rfl (fun ls hl => ?_)
        refine lv_aload_n hx hb dX5_number_47 rfl (lv_at hl 1 rfl) ?_
        refine k_get C0 fg_X5_15 hP 0 rfl rfl dX5_number_48 ?_
        refine lv_istore (lv' := [(4, .int x_this_at), (3, .int 0), (0, .ref a_this), (1, .int 0), (2, .int 9999)]) hx hb dX5_number_51 hl (Nat.le_of_ble_eq_true rfl) rfl (fun ls hl => ?_)
        exact jn53 1602 0 x_this_at H locs ls (ib_w 0 1599 h42 rfl) (ib_w 2 2 h41 rfl) (ib_w 0 1600 h42 rfl) (by try simp only [show (0 : Int32).toInt = (0 : Int) from rfl]; exact hq) (by have := h42; unfold ib at this; omega) hP hD hS (lv_sub hl [2, 3, 4, 1, 0] rfl)
      · as_aux_lemma =>
          replace hq := lf_neg hq (lf_nle Ez43 (lf_lc 4 (4 : Int) rfl) c46)
          have h49 := ib_nle h45 (ib_c 4 4 4 rfl) c46
          have h50 : ib z43 5 1600 := ib_w 5 1600 h49.1 rfl
          refine lv_aload_n hx hb dX5_number_32 rfl (lv_at hl 0 rfl) ?_
          refine lv_iconst (v := 1) hx hb dX5_number_33 rfl ?_
          refine lv_aload_n hx hb dX5_number_34 rfl (lv_at hl 0 rfl) ?_
          refine k_get C0 fg_X5_15 hP 0 rfl rfl dX5_number_35 ?_
          refine lv_iconst (v := 4) hx hb dX5_number_38 rfl ?_
          refine lv_iadd hx hb dX5_number_39 ?_
          refine lv_topi (fun z51 ez51 => ?_)
          have h52 := ib_add h42 (ib_c 4 4 4 rfl) rfl
          rw [← ez51] at h52
          have h53 : ib z51 4 1603 := ib_w 4 1603 h52.1 rfl
          have Ez51 := lf_add h52.2 (lf_rf x_this_at) (lf_lc 4 (4 : Int) rfl)
          refine k_jvm hP hD hS hA [0] [false, true] rfl rfl rfl 0 0 (Nat.le_of_ble_eq_true rfl) (Nat.le_of_ble_eq_true rfl) (fun hPc hDc => k_runV (As := [.int 1, .int z51]) (rest := []) C0 hZ hS hA (s_X5_fail l dC dI cy sq a_this a_this_text x_this_length x_this_at x_this_behind x_this_sort x_this_allowed a_this_plan x_this_fault x_this_place 1 z51 ) mV_X5_78 hPc hDc rfl rfl rfl hl rfl rfl (Nat.le_of_ble_eq_true rfl) ⟨(Nat.le_of_ble_eq_true rfl), (Nat.le_of_ble_eq_true rfl)⟩ ⟨(Nat.le_of_ble_eq_true rfl), (Nat.le_of_ble_eq_true rfl)⟩ dX5_number_40) (fun u55 H locs hw hP hD hS => ?_)
          obtain ⟨v56, v57⟩ := u55
          try dsimp only at hP hD hw
          replace hP : va_P (dC, dI) vwCl [(wi_0_1600_0 a_this_text cy g_this_text), (wo_5_riiiiirii a_this a_this_text x_this_length x_this_length x_this_length 0 x_this_allowed a_this_plan v56 v57)] H := hP
          replace hD := k_D hP hD
          have h58 := hw
          have h58 := by have h9 := h58; try simp only [show (1 : Int32).toInt = (1 : Int) from rfl] at h9; rw [lf_u Ez51] at h9; exact h9
          replace hq := lf_p1 hq h58
          refine lv_iload_n hx hb dX5_number_43 rfl (lv_at hl 1 rfl) ?_
          subst hQ; exact k_iret hx hb hr hlk rfl ((x_this_length, x_this_length, 0, v56, v57)) hS ⟨ib_w 0 9999 (ib_c 0 0 0 rfl) rfl, ib_w 0 1600 hx_this_length rfl, ib_w 0 1600 hx_this_length rfl, ib_w 0 4 (ib_c 0 0 0 rfl) rfl, fun hq9 => absurd rfl hq9, (hO.symm.trans (by try simp only [show (0 : Int32).toInt = (0 : Int) from rfl]; exact hq))⟩ (hP.sub [1, 0] rfl) (hD.sub [1, 0] rfl rfl) (Nat.le_of_ble_eq_true rfl) (Nat.le_of_ble_eq_true rfl) dX5_number_44
  · replace hq := lf_neg hq (lf_ne (lf_rf x_this_sort) (lf_lc 2 (2 : Int) rfl) c39)
    refine lv_aload_n hx hb dX5_number_8 rfl (lv_at hl 0 rfl) ?_
    refine lv_iconst (v := 1) hx hb dX5_number_9 rfl ?_
    refine lv_aload_n hx hb dX5_number_10 rfl (lv_at hl 0 rfl) ?_
    refine k_get C0 fg_X5_15 hP 0 rfl rfl dX5_number_11 ?_
    refine k_jvm hP hD hS hA [0] [false, true] rfl rfl rfl 0 0 (Nat.le_of_ble_eq_true rfl) (Nat.le_of_ble_eq_true rfl) (fun hPc hDc => k_runV (As := [.int 1, .int x_this_at]) (rest := []) C0 hZ hS hA (s_X5_fail l dC dI cy sq a_this a_this_text x_this_length x_this_at x_this_behind x_this_sort x_this_allowed a_this_plan x_this_fault x_this_place 1 x_this_at ) mV_X5_78 hPc hDc rfl rfl rfl hl rfl rfl (Nat.le_of_ble_eq_true rfl) ⟨(Nat.le_of_ble_eq_true rfl), (Nat.le_of_ble_eq_true rfl)⟩ ⟨(Nat.le_of_ble_eq_true rfl), (Nat.le_of_ble_eq_true rfl)⟩ dX5_number_14) (fun u60 H locs hw hP hD hS => ?_)
    obtain ⟨v61, v62⟩ := u60
    try dsimp only at hP hD hw
    replace hP : va_P (dC, dI) vwCl [(wi_0_1600_0 a_this_text cy g_this_text), (wo_5_riiiiirii a_this a_this_text x_this_length x_this_length x_this_length 0 x_this_allowed a_this_plan v61 v62)] H := hP
    replace hD := k_D hP hD
    have h63 := hw
    have h63 := by have h9 := h63; try simp only [show (1 : Int32).toInt = (1 : Int) from rfl] at h9; exact h9
    replace hq := lf_p1 hq h63
    refine lv_iload_n hx hb dX5_number_17 rfl (lv_at hl 1 rfl) ?_
    subst hQ; exact k_iret hx hb hr hlk rfl ((x_this_length, x_this_length, 0, v61, v62)) hS ⟨ib_w 0 9999 (ib_c 0 0 0 rfl) rfl, ib_w 0 1600 hx_this_length rfl, ib_w 0 1600 hx_this_length rfl, ib_w 0 4 (ib_c 0 0 0 rfl) rfl, fun hq9 => absurd rfl hq9, (hO.symm.trans (by try simp only [show (0 : Int32).toInt = (0 : Int) from rfl]; exact hq))⟩ (hP.sub [1, 0] rfl) (hD.sub [1, 0] rfl rfl) (Nat.le_of_ble_eq_true rfl) (Nat.le_of_ble_eq_true rfl) dX5_number_18
set_option maxHeartbeats 4000000 in
set_option maxRecDepth 100000 in
theorem s_X5_emit (l : Launch) (dC : Nat → ClassId) (dI : Nat → Nat → Nat) (cy : Nat → ClassId) (sq : Nat → Nat) (a_this : Nat) (a_this_text : Nat) (x_this_length : Int32) (x_this_at : Int32) (x_this_behind : Int32) (x_this_sort : Int32) (x_this_allowed : Int32) (a_this_plan : Nat) (x_this_plan_cycle : Int32) (x_this_plan_green : Int32) (x_this_plan_rule : Int32) (x_this_plan_least : Int32) (x_this_plan_away : Int32) (x_this_plan_statements : Int32) (x_this_plan_kinds : Int32) (a_this_plan_calm : Nat) (a_this_plan_pace : Nat) (a_this_plan_trusts : Nat) (x_this_plan_walkers : Int32) (a_this_plan_kindOf : Nat) (a_this_plan_comesAt : Nat) (a_this_plan_comers : Nat) (a_this_plan_names : Nat) (a_this_plan_code : Nat) (g_this_plan_code : Nat → Int32) (x_this_plan_size : Int32) (a_this_plan_spans : Nat) (x_this_fault : Int32) (x_this_place : Int32) (p0 : Int32) (hx_this_plan_size : ib x_this_plan_size 0 1600) : k_Met l yX5_emit cX5_emit 2 none { frames := 0, cells := 0, slots := 0, locals := 0 } dC dI cy sq [.ref a_this, .int p0] [(wo_5_riiiiirii a_this a_this_text x_this_length x_this_at x_this_behind x_this_sort x_this_allowed a_this_plan x_this_fault x_this_place), (wo_4_iiiiiiirrrirrrrrir a_this_plan x_this_plan_cycle x_this_plan_green x_this_plan_rule x_this_plan_least x_this_plan_away x_this_plan_statements x_this_plan_kinds a_this_plan_calm a_this_plan_pace a_this_plan_trusts x_this_plan_walkers a_this_plan_kindOf a_this_plan_comesAt a_this_plan_comers a_this_plan_names a_this_plan_code x_this_plan_size a_this_plan_spans), (wi_0_1600_0 a_this_plan_code cy g_this_plan_code)] (k_Qv dC dI (fun (u : Int32 × (Nat → Int32)) => match u with | (n0, n1) => ib n0 1 1600 ∧ (F_X5_emit (lf_A g_this_plan_code) (Int32.toInt x_this_plan_size) (Int32.toInt p0) = ((Int32.toInt n0), (lf_A n1)))) (fun u : Int32 × (Nat → Int32) => match u with | (n0, n1) => [(wo_5_riiiiirii a_this a_this_text x_this_length x_this_at x_this_behind x_this_sort x_this_allowed a_this_plan x_this_fault x_this_place), (wo_4_iiiiiiirrrirrrrrir a_this_plan x_this_plan_cycle x_this_plan_green x_this_plan_rule x_this_plan_least x_this_plan_away x_this_plan_statements x_this_plan_kinds a_this_plan_calm a_this_plan_pace a_this_plan_trusts x_this_plan_walkers a_this_plan_kindOf a_this_plan_comesAt a_this_plan_comers a_this_plan_names a_this_plan_code n0 a_this_plan_spans), (wi_0_1600_0 a_this_plan_code cy n1)])) := by
  refine k_ofW2 (by decide +kernel) (Nat.le_of_ble_eq_true rfl) ?_
  intro p e s m below meth c A ls H locs args Q hQ C0 hZ hr hlk hin hP hD hA hS hl
  have C0 : k_cx p s m args c cX5_emit 2 RX5 dC dI cy sq := C0
  have hx := C0.1
  have hb := C0.2.1
  have hl : lv_has ls 2 [(0, .ref a_this), (1, .int p0)] := hl
  obtain ⟨O, hO⟩ : ∃ o, o = F_X5_emit (lf_A g_this_plan_code) (Int32.toInt x_this_plan_size) (Int32.toInt p0) := ⟨_, rfl⟩
  have hq := hO
  unfold F_X5_emit at hq
  refine lv_aload_n hx hb dX5_emit_0 rfl (lv_at hl 0 rfl) ?_
  refine k_get C0 fg_X5_37 hP 0 rfl rfl dX5_emit_1 ?_
  refine k_get C0 fg_X5_165 hP 1 rfl rfl dX5_emit_4 ?_
  refine lv_aload_n hx hb dX5_emit_7 rfl (lv_at hl 0 rfl) ?_
  refine k_get C0 fg_X5_37 hP 0 rfl rfl dX5_emit_8 ?_
  refine k_get C0 fg_X5_241 hP 1 rfl rfl dX5_emit_11 ?_
  refine va_alen hx hb C0.2.2.2.2.2.1 hP 2 0 rfl rfl (v := 1600) (show Int32.ofNat 1600 = 1600 by decide) dX5_emit_14 ?_
  refine lv_icmp_ge (tgt := 47) hx hb dX5_emit_15 rfl (fun c1 => ?_) (fun c1 => ?_)
  · replace hq := lf_pos hq (lf_le (lf_lc 1600 (1600 : Int) rfl) (lf_rf x_this_plan_size) c1)
    have h2 := ib_le (ib_c 1600 1600 1600 rfl) hx_this_plan_size c1
    have h3 : ib x_this_plan_size 1600 1600 := ib_w 1600 1600 h2.2 rfl
    subst hQ; exact k_vret hx hb hr hlk ((x_this_plan_size, g_this_plan_code)) hS ⟨ib_w 1 1600 h3 rfl, (hO.symm.trans (by exact hq))⟩ hP hD (Nat.le_of_ble_eq_true rfl) (Nat.le_of_ble_eq_true rfl) dX5_emit_47
  · replace hq := lf_neg hq (lf_nle (lf_lc 1600 (1600 : Int) rfl) (lf_rf x_this_plan_size) c1)
    have h4 := ib_nle (ib_c 1600 1600 1600 rfl) hx_this_plan_size c1
    have h5 : ib x_this_plan_size 0 1599 := ib_w 0 1599 h4.2 rfl
    refine lv_aload_n hx hb dX5_emit_18 rfl (lv_at hl 0 rfl) ?_
    refine k_get C0 fg_X5_37 hP 0 rfl rfl dX5_emit_19 ?_
    refine k_get C0 fg_X5_241 hP 1 rfl rfl dX5_emit_22 ?_
    refine lv_aload_n hx hb dX5_emit_25 rfl (lv_at hl 0 rfl) ?_
    refine k_get C0 fg_X5_37 hP 0 rfl rfl dX5_emit_26 ?_
    refine k_get C0 fg_X5_165 hP 1 rfl rfl dX5_emit_29 ?_
    refine lv_iload_n hx hb dX5_emit_32 rfl (lv_at hl 1 rfl) ?_
    refine va_iast hx hb C0.2.2.2.2.2.1 hP hD hS 2 0 rfl rfl (ib_in 1600 h5 rfl) dX5_emit_33 (fun H locs hP hD hS => ?_)
    replace hP : va_P (dC, dI) vwCl [(wo_5_riiiiirii a_this a_this_text x_this_length x_this_at x_this_behind x_this_sort x_this_allowed a_this_plan x_this_fault x_this_place), (wo_4_iiiiiiirrrirrrrrir a_this_plan x_this_plan_cycle x_this_plan_green x_this_plan_rule x_this_plan_least x_this_plan_away x_this_plan_statements x_this_plan_kinds a_this_plan_calm a_this_plan_pace a_this_plan_trusts x_this_plan_walkers a_this_plan_kindOf a_this_plan_comesAt a_this_plan_comers a_this_plan_names a_this_plan_code x_this_plan_size a_this_plan_spans), (wi_0_1600_0 a_this_plan_code cy (upd g_this_plan_code (Int32.toNatClampNeg x_this_plan_size) p0))] H := hP
    replace hD := k_D hP hD
    generalize ef6 : upd g_this_plan_code (Int32.toNatClampNeg x_this_plan_size) p0 = f6 at hP hD
    have Ef6 := lf_st ef6 (lf_ra g_this_plan_code) (lf_rf x_this_plan_size) (lf_rf p0)
    refine lv_aload_n hx hb dX5_emit_34 rfl (lv_at hl 0 rfl) ?_
    refine k_get C0 fg_X5_37 hP 0 rfl rfl dX5_emit_35 ?_
    refine lv_dup hx hb dX5_emit_38 rfl ?_
    refine k_get C0 fg_X5_165 hP 1 rfl rfl dX5_emit_39 ?_
    refine lv_iconst (v := 1) hx hb dX5_emit_42 rfl ?_
    refine lv_iadd hx hb dX5_emit_43 ?_
    refine lv_topi (fun z7 ez7 => ?_)
    have h8 := ib_add h5 (ib_c 1 1 1 rfl) rfl
    rw [← ez7] at h8
    have h9 : ib z7 1 1600 := ib_w 1 1600 h8.1 rfl
    have Ez7 := lf_add h8.2 (lf_rf x_this_plan_size) (lf_lc 1 (1 : Int) rfl)
    refine k_put C0 fp_X5_165 hP hD hS 1 rfl rfl rfl (Nat.le_of_ble_eq_true rfl) dX5_emit_44 (fun H locs hP hD hS => ?_)
    replace hP : va_P (dC, dI) vwCl [(wo_5_riiiiirii a_this a_this_text x_this_length x_this_at x_this_behind x_this_sort x_this_allowed a_this_plan x_this_fault x_this_place), (wo_4_iiiiiiirrrirrrrrir a_this_plan x_this_plan_cycle x_this_plan_green x_this_plan_rule x_this_plan_least x_this_plan_away x_this_plan_statements x_this_plan_kinds a_this_plan_calm a_this_plan_pace a_this_plan_trusts x_this_plan_walkers a_this_plan_kindOf a_this_plan_comesAt a_this_plan_comers a_this_plan_names a_this_plan_code z7 a_this_plan_spans), (wi_0_1600_0 a_this_plan_code cy f6)] H := hP
    replace hD := k_D hP hD
    subst hQ; exact k_vret hx hb hr hlk ((z7, f6)) hS ⟨ib_w 1 1600 h9 rfl, (hO.symm.trans (by rw [lf_u Ez7]; rw [lf_ua Ef6]; exact hq))⟩ hP hD (Nat.le_of_ble_eq_true rfl) (Nat.le_of_ble_eq_true rfl) dX5_emit_47
