set_option maxHeartbeats 4000000 in
set_option maxRecDepth 100000 in
theorem s_X5_numberBehind_a1_0_a2_199_s11 (l : Launch) (dC : Nat → ClassId) (dI : Nat → Nat → Nat) (cy : Nat → ClassId) (sq : Nat → Nat) (a_this : Nat) (a_this_text : Nat) (g_this_text : Nat → Int32) (x_this_length : Int32) (x_this_at : Int32) (x_this_behind : Int32) (x_this_sort : Int32) (x_this_allowed : Int32) (a_this_plan : Nat) (x_this_fault : Int32) (x_this_place : Int32) (hg_this_text : ia g_this_text 1600 0 255) (hx_this_length : ib x_this_length 0 1600) (hx_this_at : ib x_this_at 0 1600) (hx_this_behind : ib x_this_behind 0 1600) (hx_this_sort : ib x_this_sort 0 4) (hc0_this : ¬ x_this_sort = 0 → ib x_this_at 0 1599) : k_Met l yX5_numberBehind cX5_numberBehind 4 (some .int) { frames := 6, cells := 0, slots := 0, locals := 187 } dC dI cy sq [.ref a_this, .ref (sq 11), .int 0, .int 199] [(wo_5_riiiiirii a_this a_this_text x_this_length x_this_at x_this_behind x_this_sort x_this_allowed a_this_plan x_this_fault x_this_place), (wi_0_1600_0 a_this_text cy g_this_text)] (k_Qi dC dI (fun (r : Int32) (u : Int32 × Int32 × Int32 × Int32 × Int32) => match u with | (n0, n1, n2, n3, n4) => ib r 0 199 ∧ ib n0 0 1600 ∧ ib n1 0 1600 ∧ ib n2 0 4 ∧ (¬ n2 = 0 → ib n0 0 1599) ∧ (F_X5_numberBehind_a1_0_a2_199_s11 (lf_A g_this_text) (Int32.toInt x_this_length) (Int32.toInt x_this_at) (Int32.toInt x_this_behind) (Int32.toInt x_this_sort) (Int32.toInt x_this_fault) (Int32.toInt x_this_place) = ((Int32.toInt r), (Int32.toInt n0), (Int32.toInt n1), (Int32.toInt n2), (Int32.toInt n3), (Int32.toInt n4)))) (fun u : Int32 × Int32 × Int32 × Int32 × Int32 => match u with | (n0, n1, n2, n3, n4) => [(wo_5_riiiiirii a_this a_this_text x_this_length n0 n1 n2 x_this_allowed a_this_plan n3 n4), (wi_0_1600_0 a_this_text cy g_this_text)])) := by
  refine k_ofW2 (by decide +kernel) (Nat.le_of_ble_eq_true rfl) ?_
  intro p e s m below meth c A ls H locs args Q hQ C0 hZ hr hlk hin hP hD hA hS hl
  have C0 : k_cx p s m args c cX5_numberBehind 4 RX5 dC dI cy sq := C0
  have hx := C0.1
  have hb := C0.2.1
  have hl : lv_has ls 4 [(0, .ref a_this), (1, .ref (sq 11)), (2, .int 0), (3, .int 199)] := hl
  obtain ⟨O, hO⟩ : ∃ o, o = F_X5_numberBehind_a1_0_a2_199_s11 (lf_A g_this_text) (Int32.toInt x_this_length) (Int32.toInt x_this_at) (Int32.toInt x_this_behind) (Int32.toInt x_this_sort) (Int32.toInt x_this_fault) (Int32.toInt x_this_place) := ⟨_, rfl⟩
  have hq := hO
  unfold F_X5_numberBehind_a1_0_a2_199_s11 at hq
  refine lv_aload_n hx hb dX5_numberBehind_0 rfl (lv_at hl 0 rfl) ?_
  refine lv_aload_n hx hb dX5_numberBehind_1 rfl (lv_at hl 1 rfl) ?_
  refine k_jvm hP hD hS hA [0, 1] [] rfl rfl rfl 0 0 (Nat.le_of_ble_eq_true rfl) (Nat.le_of_ble_eq_true rfl) (fun hPc hDc => k_runV (As := [.ref (sq 11)]) (rest := []) C0 hZ hS hA (s_X5_needWord_s11 l dC dI cy sq a_this a_this_text g_this_text x_this_length x_this_at x_this_behind x_this_sort x_this_allowed a_this_plan x_this_fault x_this_place hg_this_text (ib_w 0 1600 hx_this_length rfl) (ib_w 0 1600 hx_this_at rfl) (ib_w 0 1600 hx_this_behind rfl) (ib_w 0 4 hx_this_sort rfl) (fun hq9 => ib_w 0 1599 (hc0_this hq9) rfl)) mV_X5_144 hPc hDc rfl rfl rfl hl rfl rfl (Nat.le_of_ble_eq_true rfl) ⟨(Nat.le_of_ble_eq_true rfl), (Nat.le_of_ble_eq_true rfl)⟩ ⟨(Nat.le_of_ble_eq_true rfl), (Nat.le_of_ble_eq_true rfl)⟩ dX5_numberBehind_2) (fun u2 H locs hw hP hD hS => ?_)
  obtain ⟨v3, v4, v5, v6, v7⟩ := u2
  try dsimp only at hP hD hw
  replace hP : va_P (dC, dI) vwCl [(wo_5_riiiiirii a_this a_this_text x_this_length v3 v4 v5 x_this_allowed a_this_plan v6 v7), (wi_0_1600_0 a_this_text cy g_this_text)] H := hP
  replace hD := k_D hP hD
  obtain ⟨h8, h9, h10, h11, h12⟩ := hw
  replace hq := lf_p1 hq h12
  replace hq := lf_p1 hq rfl
  replace hq := lf_p1 hq rfl
  replace hq := lf_p1 hq rfl
  refine lv_aload_n hx hb dX5_numberBehind_5 rfl (lv_at hl 0 rfl) ?_
  refine lv_iload_n hx hb dX5_numberBehind_6 rfl (lv_at hl 2 rfl) ?_
  refine lv_iload_n hx hb dX5_numberBehind_7 rfl (lv_at hl 3 rfl) ?_
  refine k_jim hP hD hS hA [0, 1] [] rfl rfl rfl 0 0 (Nat.le_of_ble_eq_true rfl) (Nat.le_of_ble_eq_true rfl) (fun hPc hDc => k_runV (As := [.int 0, .int 199]) (rest := []) C0 hZ hS hA (s_X5_number_a0_0_a1_199 l dC dI cy sq a_this a_this_text g_this_text x_this_length v3 v4 v5 x_this_allowed a_this_plan v6 v7 hg_this_text (ib_w 0 1600 hx_this_length rfl) (ib_w 0 1600 h8 rfl) (ib_w 0 1600 h9 rfl) (ib_w 0 4 h10 rfl) (fun hq9 => ib_w 0 1599 (h11 hq9) rfl)) mV_X5_168 hPc hDc rfl rfl rfl hl rfl rfl (Nat.le_of_ble_eq_true rfl) ⟨(Nat.le_of_ble_eq_true rfl), (Nat.le_of_ble_eq_true rfl)⟩ ⟨(Nat.le_of_ble_eq_true rfl), (Nat.le_of_ble_eq_true rfl)⟩ dX5_numberBehind_8) (fun r13 u14 H locs hw hP hD hS => ?_)
  obtain ⟨v15, v16, v17, v18, v19⟩ := u14
  try dsimp only at hP hD hw
  replace hP : va_P (dC, dI) vwCl [(wo_5_riiiiirii a_this a_this_text x_this_length v15 v16 v17 x_this_allowed a_this_plan v18 v19), (wi_0_1600_0 a_this_text cy g_this_text)] H := hP
  replace hD := k_D hP hD
  obtain ⟨h20, h21, h22, h23, h24, h25⟩ := hw
  replace hq := lf_p1 hq h25
  replace hq := lf_p1 hq rfl
  replace hq := lf_p1 hq rfl
  replace hq := lf_p1 hq rfl
  replace hq := lf_p1 hq rfl
  subst hQ; exact k_iret hx hb hr hlk rfl ((v15, v16, v17, v18, v19)) hS ⟨ib_w 0 199 h20 rfl, ib_w 0 1600 h21 rfl, ib_w 0 1600 h22 rfl, ib_w 0 4 h23 rfl, fun hq9 => ib_w 0 1599 (h24 hq9) rfl, (hO.symm.trans (by exact hq))⟩ hP hD (Nat.le_of_ble_eq_true rfl) (Nat.le_of_ble_eq_true rfl) dX5_numberBehind_11
set_option maxHeartbeats 4000000 in
set_option maxRecDepth 100000 in
theorem s_X5_comesStatement (l : Launch) (dC : Nat → ClassId) (dI : Nat → Nat → Nat) (cy : Nat → ClassId) (sq : Nat → Nat) (a_this : Nat) (a_this_text : Nat) (g_this_text : Nat → Int32) (x_this_length : Int32) (x_this_at : Int32) (x_this_behind : Int32) (x_this_sort : Int32) (x_this_allowed : Int32) (a_this_plan : Nat) (x_this_plan_cycle : Int32) (x_this_plan_green : Int32) (x_this_plan_rule : Int32) (x_this_plan_least : Int32) (x_this_plan_away : Int32) (x_this_plan_statements : Int32) (x_this_plan_kinds : Int32) (a_this_plan_calm : Nat) (a_this_plan_pace : Nat) (a_this_plan_trusts : Nat) (x_this_plan_walkers : Int32) (a_this_plan_kindOf : Nat) (g_this_plan_kindOf : Nat → Int32) (a_this_plan_comesAt : Nat) (g_this_plan_comesAt : Nat → Int32) (a_this_plan_comers : Nat) (g_this_plan_comers : Nat → Int32) (a_this_plan_names : Nat) (g_this_plan_names : Nat → Int32) (a_this_plan_code : Nat) (x_this_plan_size : Int32) (a_this_plan_spans : Nat) (x_this_fault : Int32) (x_this_place : Int32) (hg_this_text : ia g_this_text 1600 0 255) (hx_this_length : ib x_this_length 0 1600) (hx_this_behind : ib x_this_behind 0 1600) (hx_this_plan_kinds : ib x_this_plan_kinds 0 6) (hx_this_plan_walkers : ib x_this_plan_walkers 0 12) (hg_this_plan_kindOf : ia g_this_plan_kindOf 12 0 5) (hg_this_plan_comesAt : ia g_this_plan_comesAt 12 0 199) : k_Met l yX5_comesStatement cX5_comesStatement 3 none { frames := 7, cells := 0, slots := 0, locals := 210 } dC dI cy sq [.ref a_this] [(wo_5_riiiiirii a_this a_this_text x_this_length x_this_at x_this_behind x_this_sort x_this_allowed a_this_plan x_this_fault x_this_place), (wo_4_iiiiiiirrrirrrrrir a_this_plan x_this_plan_cycle x_this_plan_green x_this_plan_rule x_this_plan_least x_this_plan_away x_this_plan_statements x_this_plan_kinds a_this_plan_calm a_this_plan_pace a_this_plan_trusts x_this_plan_walkers a_this_plan_kindOf a_this_plan_comesAt a_this_plan_comers a_this_plan_names a_this_plan_code x_this_plan_size a_this_plan_spans), (wi_0_1600_0 a_this_text cy g_this_text), (wi_0_108_0 a_this_plan_names cy g_this_plan_names), (wi_0_12_0 a_this_plan_kindOf cy g_this_plan_kindOf), (wi_0_12_0 a_this_plan_comesAt cy g_this_plan_comesAt), (wi_0_200_0 a_this_plan_comers cy g_this_plan_comers)] (k_Qv dC dI (fun (u : Int32 × Int32 × Int32 × Int32 × Int32 × Int32 × (Nat → Int32) × (Nat → Int32) × (Nat → Int32) × (Nat → Int32)) => match u with | (n0, n1, n2, n3, n4, n5, n6, n7, n8, n9) => ib n0 0 1600 ∧ ib n1 0 1600 ∧ ib n2 0 4 ∧ ib n5 1 12 ∧ ia n7 12 0 5 ∧ ia n8 12 0 199 ∧ (¬ n2 = 0 → ib n0 0 1599) ∧ (F_X5_comesStatement (lf_A g_this_text) (Int32.toInt x_this_length) (Int32.toInt x_this_at) (Int32.toInt x_this_behind) (Int32.toInt x_this_plan_kinds) (Int32.toInt x_this_plan_walkers) (lf_A g_this_plan_kindOf) (lf_A g_this_plan_comesAt) (lf_A g_this_plan_comers) (lf_A g_this_plan_names) (Int32.toInt x_this_fault) (Int32.toInt x_this_place) = ((Int32.toInt n0), (Int32.toInt n1), (Int32.toInt n2), (Int32.toInt n3), (Int32.toInt n4), (Int32.toInt n5), (lf_A n6), (lf_A n7), (lf_A n8), (lf_A n9)))) (fun u : Int32 × Int32 × Int32 × Int32 × Int32 × Int32 × (Nat → Int32) × (Nat → Int32) × (Nat → Int32) × (Nat → Int32) => match u with | (n0, n1, n2, n3, n4, n5, n6, n7, n8, n9) => [(wo_5_riiiiirii a_this a_this_text x_this_length n0 n1 n2 x_this_allowed a_this_plan n3 n4), (wo_4_iiiiiiirrrirrrrrir a_this_plan x_this_plan_cycle x_this_plan_green x_this_plan_rule x_this_plan_least x_this_plan_away x_this_plan_statements x_this_plan_kinds a_this_plan_calm a_this_plan_pace a_this_plan_trusts n5 a_this_plan_kindOf a_this_plan_comesAt a_this_plan_comers a_this_plan_names a_this_plan_code x_this_plan_size a_this_plan_spans), (wi_0_1600_0 a_this_text cy g_this_text), (wi_0_108_0 a_this_plan_names cy n6), (wi_0_12_0 a_this_plan_kindOf cy n7), (wi_0_12_0 a_this_plan_comesAt cy n8), (wi_0_200_0 a_this_plan_comers cy n9)])) := by
  refine k_ofW2 (by decide +kernel) (Nat.le_of_ble_eq_true rfl) ?_
  intro p e s m below meth c A ls H locs args Q hQ C0 hZ hr hlk hin hP hD hA hS hl
  have C0 : k_cx p s m args c cX5_comesStatement 3 RX5 dC dI cy sq := C0
  have hx := C0.1
  have hb := C0.2.1
  have hl : lv_has ls 3 [(0, .ref a_this)] := hl
  obtain ⟨O, hO⟩ : ∃ o, o = F_X5_comesStatement (lf_A g_this_text) (Int32.toInt x_this_length) (Int32.toInt x_this_at) (Int32.toInt x_this_behind) (Int32.toInt x_this_plan_kinds) (Int32.toInt x_this_plan_walkers) (lf_A g_this_plan_kindOf) (lf_A g_this_plan_comesAt) (lf_A g_this_plan_comers) (lf_A g_this_plan_names) (Int32.toInt x_this_fault) (Int32.toInt x_this_place) := ⟨_, rfl⟩
  have hq := hO
  unfold F_X5_comesStatement at hq
  refine lv_aload_n hx hb dX5_comesStatement_0 rfl (lv_at hl 0 rfl) ?_
  refine k_get C0 fg_X5_37 hP 0 rfl rfl dX5_comesStatement_1 ?_
  refine k_get C0 fg_X5_139 hP 1 rfl rfl dX5_comesStatement_4 ?_
  refine lv_istore_n (lv' := [(1, .int x_this_plan_walkers), (0, .ref a_this)]) hx hb dX5_comesStatement_7 rfl hl (Nat.le_of_ble_eq_true rfl) rfl (fun ls hl => ?_)
  refine lv_iload_n hx hb dX5_comesStatement_8 rfl (lv_at hl 0 rfl) ?_
  refine lv_bipush (v := 12) hx hb dX5_comesStatement_9 rfl ?_
  refine lv_icmp_lt (tgt := 24) hx hb dX5_comesStatement_11 rfl (fun c1 => ?_) (fun c1 => ?_)
  · as_aux_lemma =>
      replace hq := lf_pos hq (lf_lt (lf_rf x_this_plan_walkers) (lf_lc 12 (12 : Int) rfl) c1)
      have h2 := ib_lt hx_this_plan_walkers (ib_c 12 12 12 rfl) c1
      have h3 : ib x_this_plan_walkers 0 11 := ib_w 0 11 h2.1 rfl
      refine lv_aload_n hx hb dX5_comesStatement_24 rfl (lv_at hl 1 rfl) ?_
      refine lv_aload_n hx hb dX5_comesStatement_25 rfl (lv_at hl 1 rfl) ?_
      refine k_get C0 fg_X5_18 hP 0 rfl rfl dX5_comesStatement_26 ?_
      refine k_jvm hP hD hS hA [0, 2] [false, true, false, true, true, true, true] rfl rfl rfl 0 0 (Nat.le_of_ble_eq_true rfl) (Nat.le_of_ble_eq_true rfl) (fun hPc hDc => k_runV (As := [.int x_this_behind]) (rest := []) C0 hZ hS hA (s_X5_moveTo l dC dI cy sq a_this a_this_text g_this_text x_this_length x_this_at x_this_behind x_this_sort x_this_allowed a_this_plan x_this_fault x_this_place x_this_behind hg_this_text (ib_w 0 1600 hx_this_length rfl) (ib_w 0 1600 hx_this_behind rfl)) mV_X5_86 hPc hDc rfl rfl rfl hl rfl rfl (Nat.le_of_ble_eq_true rfl) ⟨(Nat.le_of_ble_eq_true rfl), (Nat.le_of_ble_eq_true rfl)⟩ ⟨(Nat.le_of_ble_eq_true rfl), (Nat.le_of_ble_eq_true rfl)⟩ dX5_comesStatement_29) (fun u5 H locs hw hP hD hS => ?_)
      obtain ⟨v6, v7, v8⟩ := u5
      try dsimp only at hP hD hw
      replace hP : va_P (dC, dI) vwCl [(wo_4_iiiiiiirrrirrrrrir a_this_plan x_this_plan_cycle x_this_plan_green x_this_plan_rule x_this_plan_least x_this_plan_away x_this_plan_statements x_this_plan_kinds a_this_plan_calm a_this_plan_pace a_this_plan_trusts x_this_plan_walkers a_this_plan_kindOf a_this_plan_comesAt a_this_plan_comers a_this_plan_names a_this_plan_code x_this_plan_size a_this_plan_spans), (wi_0_108_0 a_this_plan_names cy g_this_plan_names), (wi_0_12_0 a_this_plan_kindOf cy g_this_plan_kindOf), (wi_0_12_0 a_this_plan_comesAt cy g_this_plan_comesAt), (wi_0_200_0 a_this_plan_comers cy g_this_plan_comers), (wo_5_riiiiirii a_this a_this_text x_this_length v6 v7 v8 x_this_allowed a_this_plan x_this_fault x_this_place), (wi_0_1600_0 a_this_text cy g_this_text)] H := hP
      replace hD := k_D hP hD
      obtain ⟨h9, h10, h11, h12, h13⟩ := hw
      replace hq := lf_p1 hq h13
      replace hq := lf_p1 hq rfl
      refine lv_aload_n hx hb dX5_comesStatement_32 rfl (lv_at hl 1 rfl) ?_
      refine lv_bipush (v := 6) hx hb dX5_comesStatement_33 rfl ?_
      refine lv_iload_n hx hb dX5_comesStatement_35 rfl (lv_at hl 0 rfl) ?_
      refine lv_iadd hx hb dX5_comesStatement_36 ?_
      refine lv_topi (fun z14 ez14 => ?_)
      have h15 := ib_add (ib_c 6 6 6 rfl) h3 rfl
      rw [← ez14] at h15
      have h16 : ib z14 6 17 := ib_w 6 17 h15.1 rfl
      have Ez14 := lf_add h15.2 (lf_lc 6 (6 : Int) rfl) (lf_rf x_this_plan_walkers)
      refine k_jvm hP hD hS hA [5, 6, 0, 1] [false, false, true, true, true] rfl rfl rfl 0 0 (Nat.le_of_ble_eq_true rfl) (Nat.le_of_ble_eq_true rfl) (fun hPc hDc => k_runV (As := [.int z14]) (rest := []) C0 hZ hS hA (s_X5_newName l dC dI cy sq a_this a_this_text g_this_text x_this_length v6 v7 v8 x_this_allowed a_this_plan x_this_plan_cycle x_this_plan_green x_this_plan_rule x_this_plan_least x_this_plan_away x_this_plan_statements x_this_plan_kinds a_this_plan_calm a_this_plan_pace a_this_plan_trusts x_this_plan_walkers a_this_plan_kindOf a_this_plan_comesAt a_this_plan_comers a_this_plan_names g_this_plan_names a_this_plan_code x_this_plan_size a_this_plan_spans x_this_fault x_this_place z14 hg_this_text (ib_w 0 1600 hx_this_length rfl) (ib_w 0 1600 h9 rfl) (ib_w 0 1600 h10 rfl) (ib_w 0 4 h11 rfl) (ib_w 0 6 hx_this_plan_kinds rfl) (ib_w 0 12 h3 rfl) (fun hq9 => ib_w 0 1599 (h12 hq9) rfl) (ib_w 0 17 h16 rfl)) mV_X5_124 hPc hDc rfl rfl rfl hl rfl rfl (Nat.le_of_ble_eq_true rfl) ⟨(Nat.le_of_ble_eq_true rfl), (Nat.le_of_ble_eq_true rfl)⟩ ⟨(Nat.le_of_ble_eq_true rfl), (Nat.le_of_ble_eq_true rfl)⟩ dX5_comesStatement_37) (fun u18 H locs hw hP hD hS => ?_)
      obtain ⟨v19, v20, v21, v22, v23, f24⟩ := u18
      try dsimp only at hP hD hw
      replace hP : va_P (dC, dI) vwCl [(wi_0_12_0 a_this_plan_kindOf cy g_this_plan_kindOf), (wi_0_12_0 a_this_plan_comesAt cy g_this_plan_comesAt), (wi_0_200_0 a_this_plan_comers cy g_this_plan_comers), (wo_5_riiiiirii a_this a_this_text x_this_length v19 v20 v21 x_this_allowed a_this_plan v22 v23), (wi_0_1600_0 a_this_text cy g_this_text), (wo_4_iiiiiiirrrirrrrrir a_this_plan x_this_plan_cycle x_this_plan_green x_this_plan_rule x_this_plan_least x_this_plan_away x_this_plan_statements x_this_plan_kinds a_this_plan_calm a_this_plan_pace a_this_plan_trusts x_this_plan_walkers a_this_plan_kindOf a_this_plan_comesAt a_this_plan_comers a_this_plan_names a_this_plan_code x_this_plan_size a_this_plan_spans), (wi_0_108_0 a_this_plan_names cy f24)] H := hP
      replace hD := k_D hP hD
      obtain ⟨h25, h26, h27, h28, h29⟩ := hw
      have h29 := by have h9 := h29; rw [lf_u Ez14] at h9; exact h9
      as_aux_lemma =>
        replace hq := lf_p1 hq h29
        replace hq := lf_p1 hq rfl
        replace hq := lf_p1 hq rfl
        replace hq := lf_p1 hq rfl
        replace hq := lf_p1 hq rfl
        refine lv_aload_n hx hb dX5_comesStatement_40 rfl (lv_at hl 1 rfl) ?_
        refine va_ldcS hx hb C0.2.2.2.1 (C0.2.2.2.2.2.2.2.2.2.2.2.2 10 (by decide)) dX5_comesStatement_41 ?_
        refine k_jvm hP hD hS hA [3, 4] [true, true, true, false, false, true, true] rfl rfl rfl 0 0 (Nat.le_of_ble_eq_true rfl) (Nat.le_of_ble_eq_true rfl) (fun hPc hDc => k_runV (As := [.ref (sq 10)]) (rest := []) C0 hZ hS hA (s_X5_needWord_s10 l dC dI cy sq a_this a_this_text g_this_text x_this_length v19 v20 v21 x_this_allowed a_this_plan v22 v23 hg_this_text (ib_w 0 1600 hx_this_length rfl) (ib_w 0 1600 h25 rfl) (ib_w 0 1600 h26 rfl) (ib_w 0 4 h27 rfl) (fun hq9 => ib_w 0 1599 (h28 hq9) rfl)) mV_X5_144 hPc hDc rfl rfl rfl hl rfl rfl (Nat.le_of_ble_eq_true rfl) ⟨(Nat.le_of_ble_eq_true rfl), (Nat.le_of_ble_eq_true rfl)⟩ ⟨(Nat.le_of_ble_eq_true rfl), (Nat.le_of_ble_eq_true rfl)⟩ dX5_comesStatement_43) (fun u31 H locs hw hP hD hS => ?_)
        obtain ⟨v32, v33, v34, v35, v36⟩ := u31
        try dsimp only at hP hD hw
        replace hP : va_P (dC, dI) vwCl [(wi_0_12_0 a_this_plan_kindOf cy g_this_plan_kindOf), (wi_0_12_0 a_this_plan_comesAt cy g_this_plan_comesAt), (wi_0_200_0 a_this_plan_comers cy g_this_plan_comers), (wo_4_iiiiiiirrrirrrrrir a_this_plan x_this_plan_cycle x_this_plan_green x_this_plan_rule x_this_plan_least x_this_plan_away x_this_plan_statements x_this_plan_kinds a_this_plan_calm a_this_plan_pace a_this_plan_trusts x_this_plan_walkers a_this_plan_kindOf a_this_plan_comesAt a_this_plan_comers a_this_plan_names a_this_plan_code x_this_plan_size a_this_plan_spans), (wi_0_108_0 a_this_plan_names cy f24), (wo_5_riiiiirii a_this a_this_text x_this_length v32 v33 v34 x_this_allowed a_this_plan v35 v36), (wi_0_1600_0 a_this_text cy g_this_text)] H := hP
        replace hD := k_D hP hD
        obtain ⟨h37, h38, h39, h40, h41⟩ := hw
        replace hq := lf_p1 hq h41
        replace hq := lf_p1 hq rfl
        replace hq := lf_p1 hq rfl
        replace hq := lf_p1 hq rfl
        refine lv_aload_n hx hb dX5_comesStatement_46 rfl (lv_at hl 1 rfl) ?_
        refine k_get C0 fg_X5_37 hP 5 rfl rfl dX5_comesStatement_47 ?_
        refine k_get C0 fg_X5_148 hP 3 rfl rfl dX5_comesStatement_50 ?_
        refine lv_iload_n hx hb dX5_comesStatement_53 rfl (lv_at hl 0 rfl) ?_
        refine lv_aload_n hx hb dX5_comesStatement_54 rfl (lv_at hl 1 rfl) ?_
        refine k_jim hP hD hS hA [5, 6, 3, 4] [true, true, true] rfl rfl rfl 0 0 (Nat.le_of_ble_eq_true rfl) (Nat.le_of_ble_eq_true rfl) (fun hPc hDc => k_runV (As := []) (rest := [.int x_this_plan_walkers, .ref a_this_plan_kindOf]) C0 hZ hS hA (s_X5_knownKind l dC dI cy sq a_this a_this_text g_this_text x_this_length v32 v33 v34 x_this_allowed a_this_plan x_this_plan_cycle x_this_plan_green x_this_plan_rule x_this_plan_least x_this_plan_away x_this_plan_statements x_this_plan_kinds a_this_plan_calm a_this_plan_pace a_this_plan_trusts x_this_plan_walkers a_this_plan_kindOf a_this_plan_comesAt a_this_plan_comers a_this_plan_names f24 a_this_plan_code x_this_plan_size a_this_plan_spans v35 v36 hg_this_text (ib_w 0 1600 hx_this_length rfl) (ib_w 0 1600 h37 rfl) (ib_w 0 1600 h38 rfl) (ib_w 0 4 h39 rfl) (ib_w 0 6 hx_this_plan_kinds rfl) (fun hq9 => ib_w 0 1599 (h40 hq9) rfl)) mV_X5_151 hPc hDc rfl rfl rfl hl rfl rfl (Nat.le_of_ble_eq_true rfl) ⟨(Nat.le_of_ble_eq_true rfl), (Nat.le_of_ble_eq_true rfl)⟩ ⟨(Nat.le_of_ble_eq_true rfl), (Nat.le_of_ble_eq_true rfl)⟩ dX5_comesStatement_55) (fun r42 u43 H locs hw hP hD hS => ?_)
        obtain ⟨v44, v45, v46, v47, v48⟩ := u43
        try dsimp only at hP hD hw
        replace hP : va_P (dC, dI) vwCl [(wi_0_12_0 a_this_plan_kindOf cy g_this_plan_kindOf), (wi_0_12_0 a_this_plan_comesAt cy g_this_plan_comesAt), (wi_0_200_0 a_this_plan_comers cy g_this_plan_comers), (wo_5_riiiiirii a_this a_this_text x_this_length v44 v45 v46 x_this_allowed a_this_plan v47 v48), (wi_0_1600_0 a_this_text cy g_this_text), (wo_4_iiiiiiirrrirrrrrir a_this_plan x_this_plan_cycle x_this_plan_green x_this_plan_rule x_this_plan_least x_this_plan_away x_this_plan_statements x_this_plan_kinds a_this_plan_calm a_this_plan_pace a_this_plan_trusts x_this_plan_walkers a_this_plan_kindOf a_this_plan_comesAt a_this_plan_comers a_this_plan_names a_this_plan_code x_this_plan_size a_this_plan_spans), (wi_0_108_0 a_this_plan_names cy f24)] H := hP
        replace hD := k_D hP hD
        obtain ⟨h49, h50, h51, h52, h53, h54⟩ := hw
        replace hq := lf_p1 hq h54
        replace hq := lf_p1 hq rfl
        as_aux_lemma =>
          replace hq := lf_p1 hq rfl
          replace hq := lf_p1 hq rfl
          replace hq := lf_p1 hq rfl
          refine va_iast hx hb C0.2.2.2.2.2.1 hP hD hS 0 0 rfl rfl (ib_in 12 h3 rfl) dX5_comesStatement_58 (fun H locs hP hD hS => ?_)
          have h56 := ia_upd hg_this_plan_kindOf (Int32.toNatClampNeg x_this_plan_walkers) (ib_w 0 5 h49 rfl)
          replace hP : va_P (dC, dI) vwCl [(wi_0_12_0 a_this_plan_kindOf cy (upd g_this_plan_kindOf (Int32.toNatClampNeg x_this_plan_walkers) r42)), (wi_0_12_0 a_this_plan_comesAt cy g_this_plan_comesAt), (wi_0_200_0 a_this_plan_comers cy g_this_plan_comers), (wo_5_riiiiirii a_this a_this_text x_this_length v44 v45 v46 x_this_allowed a_this_plan v47 v48), (wi_0_1600_0 a_this_text cy g_this_text), (wo_4_iiiiiiirrrirrrrrir a_this_plan x_this_plan_cycle x_this_plan_green x_this_plan_rule x_this_plan_least x_this_plan_away x_this_plan_statements x_this_plan_kinds a_this_plan_calm a_this_plan_pace a_this_plan_trusts x_this_plan_walkers a_this_plan_kindOf a_this_plan_comesAt a_this_plan_comers a_this_plan_names a_this_plan_code x_this_plan_size a_this_plan_spans), (wi_0_108_0 a_this_plan_names cy f24)] H := hP
          replace hD := k_D hP hD
          generalize ef55 : upd g_this_plan_kindOf (Int32.toNatClampNeg x_this_plan_walkers) r42 = f55 at hP hD h56
          have Ef55 := lf_st ef55 (lf_ra g_this_plan_kindOf) (lf_rf x_this_plan_walkers) (lf_rf r42)
          refine lv_aload_n hx hb dX5_comesStatement_59 rfl (lv_at hl 1 rfl) ?_
          refine va_ldcS hx hb C0.2.2.2.1 (C0.2.2.2.2.2.2.2.2.2.2.2.2 11 (by decide)) dX5_comesStatement_60 ?_
          refine lv_iconst (v := 0) hx hb dX5_comesStatement_62 rfl ?_
          refine lv_sipush (v := 199) hx hb dX5_comesStatement_63 rfl ?_
          refine k_jim hP hD hS hA [3, 4] [true, true, true, false, false, true, true] rfl rfl rfl 0 0 (Nat.le_of_ble_eq_true rfl) (Nat.le_of_ble_eq_true rfl) (fun hPc hDc => k_runV (As := [.ref (sq 11), .int 0, .int 199]) (rest := []) C0 hZ hS hA (s_X5_numberBehind_a1_0_a2_199_s11 l dC dI cy sq a_this a_this_text g_this_text x_this_length v44 v45 v46 x_this_allowed a_this_plan v47 v48 hg_this_text (ib_w 0 1600 hx_this_length rfl) (ib_w 0 1600 h50 rfl) (ib_w 0 1600 h51 rfl) (ib_w 0 4 h52 rfl) (fun hq9 => ib_w 0 1599 (h53 hq9) rfl)) mV_X5_70 hPc hDc rfl rfl rfl hl rfl rfl (Nat.le_of_ble_eq_true rfl) ⟨(Nat.le_of_ble_eq_true rfl), (Nat.le_of_ble_eq_true rfl)⟩ ⟨(Nat.le_of_ble_eq_true rfl), (Nat.le_of_ble_eq_true rfl)⟩ dX5_comesStatement_66) (fun r57 u58 H locs hw hP hD hS => ?_)
          obtain ⟨v59, v60, v61, v62, v63⟩ := u58
          try dsimp only at hP hD hw
          replace hP : va_P (dC, dI) vwCl [(wi_0_12_0 a_this_plan_kindOf cy f55), (wi_0_12_0 a_this_plan_comesAt cy g_this_plan_comesAt), (wi_0_200_0 a_this_plan_comers cy g_this_plan_comers), (wo_4_iiiiiiirrrirrrrrir a_this_plan x_this_plan_cycle x_this_plan_green x_this_plan_rule x_this_plan_least x_this_plan_away x_this_plan_statements x_this_plan_kinds a_this_plan_calm a_this_plan_pace a_this_plan_trusts x_this_plan_walkers a_this_plan_kindOf a_this_plan_comesAt a_this_plan_comers a_this_plan_names a_this_plan_code x_this_plan_size a_this_plan_spans), (wi_0_108_0 a_this_plan_names cy f24), (wo_5_riiiiirii a_this a_this_text x_this_length v59 v60 v61 x_this_allowed a_this_plan v62 v63), (wi_0_1600_0 a_this_text cy g_this_text)] H := hP
          replace hD := k_D hP hD
          obtain ⟨h64, h65, h66, h67, h68, h69⟩ := hw
          replace hq := lf_p1 hq h69
          replace hq := lf_p1 hq rfl
          replace hq := lf_p1 hq rfl
          replace hq := lf_p1 hq rfl
          replace hq := lf_p1 hq rfl
          refine lv_istore_n (lv' := [(2, .int r57), (1, .int x_this_plan_walkers), (0, .ref a_this)]) hx hb dX5_comesStatement_69 rfl hl (Nat.le_of_ble_eq_true rfl) rfl (fun ls hl => ?_)
          refine lv_aload_n hx hb dX5_comesStatement_70 rfl (lv_at hl 2 rfl) ?_
          refine k_get C0 fg_X5_37 hP 5 rfl rfl dX5_comesStatement_71 ?_
          refine k_get C0 fg_X5_156 hP 3 rfl rfl dX5_comesStatement_74 ?_
          refine lv_iload_n hx hb dX5_comesStatement_77 rfl (lv_at hl 1 rfl) ?_
          refine lv_iload_n hx hb dX5_comesStatement_78 rfl (lv_at hl 0 rfl) ?_
          as_aux_lemma =>
            refine va_iast hx hb C0.2.2.2.2.2.1 hP hD hS 1 0 rfl rfl (ib_in 12 h3 rfl) dX5_comesStatement_79 (fun H locs hP hD hS => ?_)
            have h71 := ia_upd hg_this_plan_comesAt (Int32.toNatClampNeg x_this_plan_walkers) (ib_w 0 199 h64 rfl)
            replace hP : va_P (dC, dI) vwCl [(wi_0_12_0 a_this_plan_kindOf cy f55), (wi_0_12_0 a_this_plan_comesAt cy (upd g_this_plan_comesAt (Int32.toNatClampNeg x_this_plan_walkers) r57)), (wi_0_200_0 a_this_plan_comers cy g_this_plan_comers), (wo_4_iiiiiiirrrirrrrrir a_this_plan x_this_plan_cycle x_this_plan_green x_this_plan_rule x_this_plan_least x_this_plan_away x_this_plan_statements x_this_plan_kinds a_this_plan_calm a_this_plan_pace a_this_plan_trusts x_this_plan_walkers a_this_plan_kindOf a_this_plan_comesAt a_this_plan_comers a_this_plan_names a_this_plan_code x_this_plan_size a_this_plan_spans), (wi_0_108_0 a_this_plan_names cy f24), (wo_5_riiiiirii a_this a_this_text x_this_length v59 v60 v61 x_this_allowed a_this_plan v62 v63), (wi_0_1600_0 a_this_text cy g_this_text)] H := hP
            replace hD := k_D hP hD
            generalize ef70 : upd g_this_plan_comesAt (Int32.toNatClampNeg x_this_plan_walkers) r57 = f70 at hP hD h71
            have Ef70 := lf_st ef70 (lf_ra g_this_plan_comesAt) (lf_rf x_this_plan_walkers) (lf_rf r57)
            refine lv_aload_n hx hb dX5_comesStatement_80 rfl (lv_at hl 2 rfl) ?_
            refine k_get C0 fg_X5_37 hP 5 rfl rfl dX5_comesStatement_81 ?_
            refine k_get C0 fg_X5_159 hP 3 rfl rfl dX5_comesStatement_84 ?_
            refine lv_iload_n hx hb dX5_comesStatement_87 rfl (lv_at hl 0 rfl) ?_
            refine lv_dup2_11 hx hb dX5_comesStatement_88 rfl rfl ?_
            refine va_iald hx hb C0.2.2.2.2.2.1 hP 2 0 rfl rfl (ib_in 200 h64 rfl) dX5_comesStatement_89 ?_
            refine lv_topi (fun z72 ez72 => ?_)
            have Ez72 := lf_ld ez72 (lf_ra g_this_plan_comers) (lf_rf r57)
            refine lv_iconst (v := 1) hx hb dX5_comesStatement_90 rfl ?_
            refine lv_iload_n hx hb dX5_comesStatement_91 rfl (lv_at hl 1 rfl) ?_
            refine lv_ishl hx hb dX5_comesStatement_92 ?_
            refine lv_topi (fun z73 ez73 => ?_)
            have Ez73 := lf_op lf_ishl ez73 (lf_lc 1 (1 : Int) rfl) (lf_rf x_this_plan_walkers)
            refine lv_ior hx hb dX5_comesStatement_93 ?_
            refine lv_topi (fun z74 ez74 => ?_)
            have Ez74 := lf_op lf_ior ez74 Ez72 Ez73
            refine va_iast hx hb C0.2.2.2.2.2.1 hP hD hS 2 0 rfl rfl (ib_in 200 h64 rfl) dX5_comesStatement_94 (fun H locs hP hD hS => ?_)
            replace hP : va_P (dC, dI) vwCl [(wi_0_12_0 a_this_plan_kindOf cy f55), (wi_0_12_0 a_this_plan_comesAt cy f70), (wi_0_200_0 a_this_plan_comers cy (upd g_this_plan_comers (Int32.toNatClampNeg r57) z74)), (wo_4_iiiiiiirrrirrrrrir a_this_plan x_this_plan_cycle x_this_plan_green x_this_plan_rule x_this_plan_least x_this_plan_away x_this_plan_statements x_this_plan_kinds a_this_plan_calm a_this_plan_pace a_this_plan_trusts x_this_plan_walkers a_this_plan_kindOf a_this_plan_comesAt a_this_plan_comers a_this_plan_names a_this_plan_code x_this_plan_size a_this_plan_spans), (wi_0_108_0 a_this_plan_names cy f24), (wo_5_riiiiirii a_this a_this_text x_this_length v59 v60 v61 x_this_allowed a_this_plan v62 v63), (wi_0_1600_0 a_this_text cy g_this_text)] H := hP
            replace hD := k_D hP hD
            generalize ef75 : upd g_this_plan_comers (Int32.toNatClampNeg r57) z74 = f75 at hP hD
            have Ef75 := lf_st ef75 (lf_ra g_this_plan_comers) (lf_rf r57) Ez74
            refine lv_aload_n hx hb dX5_comesStatement_95 rfl (lv_at hl 2 rfl) ?_
            refine k_get C0 fg_X5_37 hP 5 rfl rfl dX5_comesStatement_96 ?_
            refine lv_dup hx hb dX5_comesStatement_99 rfl ?_
            refine k_get C0 fg_X5_139 hP 3 rfl rfl dX5_comesStatement_100 ?_
            refine lv_iconst (v := 1) hx hb dX5_comesStatement_103 rfl ?_
            refine lv_iadd hx hb dX5_comesStatement_104 ?_
            refine lv_topi (fun z76 ez76 => ?_)
            have h77 := ib_add h3 (ib_c 1 1 1 rfl) rfl
            rw [← ez76] at h77
            have h78 : ib z76 1 12 := ib_w 1 12 h77.1 rfl
            have Ez76 := lf_add h77.2 (lf_rf x_this_plan_walkers) (lf_lc 1 (1 : Int) rfl)
            refine k_put C0 fp_X5_139 hP hD hS 3 rfl rfl rfl (Nat.le_of_ble_eq_true rfl) dX5_comesStatement_105 (fun H locs hP hD hS => ?_)
            replace hP : va_P (dC, dI) vwCl [(wi_0_12_0 a_this_plan_kindOf cy f55), (wi_0_12_0 a_this_plan_comesAt cy f70), (wi_0_200_0 a_this_plan_comers cy f75), (wo_4_iiiiiiirrrirrrrrir a_this_plan x_this_plan_cycle x_this_plan_green x_this_plan_rule x_this_plan_least x_this_plan_away x_this_plan_statements x_this_plan_kinds a_this_plan_calm a_this_plan_pace a_this_plan_trusts z76 a_this_plan_kindOf a_this_plan_comesAt a_this_plan_comers a_this_plan_names a_this_plan_code x_this_plan_size a_this_plan_spans), (wi_0_108_0 a_this_plan_names cy f24), (wo_5_riiiiirii a_this a_this_text x_this_length v59 v60 v61 x_this_allowed a_this_plan v62 v63), (wi_0_1600_0 a_this_text cy g_this_text)] H := hP
            replace hD := k_D hP hD
            subst hQ; exact k_vret hx hb hr hlk ((v59, v60, v61, v62, v63, z76, f24, f55, f70, f75)) hS ⟨ib_w 0 1600 h65 rfl, ib_w 0 1600 h66 rfl, ib_w 0 4 h67 rfl, ib_w 1 12 h78 rfl, h56, h71, fun hq9 => ib_w 0 1599 (h68 hq9) rfl, (hO.symm.trans (by rw [lf_u Ez76]; rw [lf_ua Ef55]; rw [lf_ua Ef70]; rw [lf_ua Ef75]; exact hq))⟩ (hP.sub [5, 3, 6, 4, 0, 1, 2] rfl) (hD.sub [5, 3, 6, 4, 0, 1, 2] rfl rfl) (Nat.le_of_ble_eq_true rfl) (Nat.le_of_ble_eq_true rfl) dX5_comesStatement_108
  · replace hq := lf_neg hq (lf_nlt (lf_rf x_this_plan_walkers) (lf_lc 12 (12 : Int) rfl) c1)
    have h79 := ib_nlt hx_this_plan_walkers (ib_c 12 12 12 rfl) c1
    have h80 : ib x_this_plan_walkers 12 12 := ib_w 12 12 h79.1 rfl
    refine lv_aload_n hx hb dX5_comesStatement_14 rfl (lv_at hl 1 rfl) ?_
    refine lv_iconst (v := 5) hx hb dX5_comesStatement_15 rfl ?_
    refine lv_aload_n hx hb dX5_comesStatement_16 rfl (lv_at hl 1 rfl) ?_
    refine k_get C0 fg_X5_15 hP 0 rfl rfl dX5_comesStatement_17 ?_
    refine k_jvm hP hD hS hA [0] [false, true, true, true, true, true, true] rfl rfl rfl 0 0 (Nat.le_of_ble_eq_true rfl) (Nat.le_of_ble_eq_true rfl) (fun hPc hDc => k_runV (As := [.int 5, .int x_this_at]) (rest := []) C0 hZ hS hA (s_X5_fail l dC dI cy sq a_this a_this_text x_this_length x_this_at x_this_behind x_this_sort x_this_allowed a_this_plan x_this_fault x_this_place 5 x_this_at ) mV_X5_78 hPc hDc rfl rfl rfl hl rfl rfl (Nat.le_of_ble_eq_true rfl) ⟨(Nat.le_of_ble_eq_true rfl), (Nat.le_of_ble_eq_true rfl)⟩ ⟨(Nat.le_of_ble_eq_true rfl), (Nat.le_of_ble_eq_true rfl)⟩ dX5_comesStatement_20) (fun u82 H locs hw hP hD hS => ?_)
    obtain ⟨v83, v84⟩ := u82
    try dsimp only at hP hD hw
    replace hP : va_P (dC, dI) vwCl [(wo_4_iiiiiiirrrirrrrrir a_this_plan x_this_plan_cycle x_this_plan_green x_this_plan_rule x_this_plan_least x_this_plan_away x_this_plan_statements x_this_plan_kinds a_this_plan_calm a_this_plan_pace a_this_plan_trusts x_this_plan_walkers a_this_plan_kindOf a_this_plan_comesAt a_this_plan_comers a_this_plan_names a_this_plan_code x_this_plan_size a_this_plan_spans), (wi_0_1600_0 a_this_text cy g_this_text), (wi_0_108_0 a_this_plan_names cy g_this_plan_names), (wi_0_12_0 a_this_plan_kindOf cy g_this_plan_kindOf), (wi_0_12_0 a_this_plan_comesAt cy g_this_plan_comesAt), (wi_0_200_0 a_this_plan_comers cy g_this_plan_comers), (wo_5_riiiiirii a_this a_this_text x_this_length x_this_length x_this_length 0 x_this_allowed a_this_plan v83 v84)] H := hP
    replace hD := k_D hP hD
    have h85 := hw
    have h85 := by have h9 := h85; try simp only [show (5 : Int32).toInt = (5 : Int) from rfl] at h9; exact h9
    replace hq := lf_p1 hq h85
    subst hQ; exact k_vret hx hb hr hlk ((x_this_length, x_this_length, 0, v83, v84, x_this_plan_walkers, g_this_plan_names, g_this_plan_kindOf, g_this_plan_comesAt, g_this_plan_comers)) hS ⟨ib_w 0 1600 hx_this_length rfl, ib_w 0 1600 hx_this_length rfl, ib_w 0 4 (ib_c 0 0 0 rfl) rfl, ib_w 1 12 h80 rfl, hg_this_plan_kindOf, hg_this_plan_comesAt, fun hq9 => absurd rfl hq9, (hO.symm.trans (by try simp only [show (0 : Int32).toInt = (0 : Int) from rfl]; exact hq))⟩ (hP.sub [6, 0, 1, 2, 3, 4, 5] rfl) (hD.sub [6, 0, 1, 2, 3, 4, 5] rfl rfl) (Nat.le_of_ble_eq_true rfl) (Nat.le_of_ble_eq_true rfl) dX5_comesStatement_23
set_option maxHeartbeats 4000000 in
set_option maxRecDepth 100000 in
theorem s_X5_wordIn_s3 (l : Launch) (dC : Nat → ClassId) (dI : Nat → Nat → Nat) (cy : Nat → ClassId) (sq : Nat → Nat) (a_this : Nat) (a_this_text : Nat) (g_this_text : Nat → Int32) (x_this_length : Int32) (x_this_at : Int32) (x_this_behind : Int32) (x_this_sort : Int32) (x_this_allowed : Int32) (a_this_plan : Nat) (x_this_fault : Int32) (x_this_place : Int32) (hg_this_text : ia g_this_text 1600 0 255) (hx_this_at : ib x_this_at 0 1600) (hx_this_behind : ib x_this_behind 0 1600) (hx_this_sort : ib x_this_sort 0 4) (hc0_this : ¬ x_this_sort = 0 → ib x_this_at 0 1599) : k_Met l yX5_wordIn cX5_wordIn 6 (some .int) { frames := 4, cells := 0, slots := 0, locals := 141 } dC dI cy sq [.ref a_this, .ref (sq 3)] [(wo_5_riiiiirii a_this a_this_text x_this_length x_this_at x_this_behind x_this_sort x_this_allowed a_this_plan x_this_fault x_this_place), (wi_0_1600_0 a_this_text cy g_this_text)] (k_Qi dC dI (fun (r : Int32) (_ : Unit) => (F_X5_wordIn_s3 (lf_A g_this_text) (Int32.toInt x_this_at) (Int32.toInt x_this_behind) (Int32.toInt x_this_sort) = ((Int32.toInt r)))) (fun _ : Unit => [(wo_5_riiiiirii a_this a_this_text x_this_length x_this_at x_this_behind x_this_sort x_this_allowed a_this_plan x_this_fault x_this_place), (wi_0_1600_0 a_this_text cy g_this_text)])) := by
  refine k_ofW2 (by decide +kernel) (Nat.le_of_ble_eq_true rfl) ?_
  intro p e s m below meth c A ls H locs args Q hQ C0 hZ hr hlk hin hP hD hA hS hl
  have C0 : k_cx p s m args c cX5_wordIn 6 RX5 dC dI cy sq := C0
  have hx := C0.1
  have hb := C0.2.1
  have hl : lv_has ls 6 [(0, .ref a_this), (1, .ref (sq 3))] := hl
  obtain ⟨O, hO⟩ : ∃ o, o = F_X5_wordIn_s3 (lf_A g_this_text) (Int32.toInt x_this_at) (Int32.toInt x_this_behind) (Int32.toInt x_this_sort) := ⟨_, rfl⟩
  have hq := hO
  unfold F_X5_wordIn_s3 at hq
  have jn23 : ∀ (n : Nat) (J23_l2 : Int32) (J23_l3 : Int32) (J23_l4 : Int32) (J23_l5 : Int32) (H : Heap) (locs : List Loc) (ls : Array Slot), ib x_this_at 0 1599 → ib x_this_sort 1 1 → ib J23_l3 0 1605 → ib J23_l4 0 1 → ib J23_l5 0 6 → (1 * J23_l3.toInt + (-1) * J23_l5.toInt ≤ 1600) → (O = F_X5_wordIn_s3_23 (lf_A g_this_text) (Int32.toInt x_this_at) (Int32.toInt x_this_behind) n (Int32.toInt J23_l2) (Int32.toInt J23_l3) (Int32.toInt J23_l4) (Int32.toInt J23_l5)) → 7 ≤ J23_l5.toInt + (n : Int) → va_P (dC, dI) vwCl [(wo_5_riiiiirii a_this a_this_text x_this_length x_this_at x_this_behind x_this_sort x_this_allowed a_this_plan x_this_fault x_this_place), (wi_0_1600_0 a_this_text cy g_this_text)] H → va_D A [(wo_5_riiiiirii a_this a_this_text x_this_length x_this_at x_this_behind x_this_sort x_this_allowed a_this_plan x_this_fault x_this_place), (wi_0_1600_0 a_this_text cy g_this_text)] → va_S A s.heap H locs → lv_has ls 6 [(0, .ref a_this), (1, .ref (sq 3)), (2, .int J23_l2), (3, .int J23_l3), (4, .int J23_l4), (5, .int J23_l5)] → W p l e { frames := 4, cells := 0, slots := 0, locals := 141 } s m args below meth c H locs 0 0 Q (F0 m 23 ls []) := by
    as_aux_lemma =>
      intro n
      induction n with
      | zero =>
        intro J23_l2 J23_l3 J23_l4 J23_l5 H locs ls hK23_x_this_at hK23_x_this_sort hJ23_l3 hJ23_l4 hJ23_l5 hJ23_lin0 hq hm
        exact absurd hm (by have := hJ23_l5; unfold ib at this; omega)
      | succ n ih =>
        intro J23_l2 J23_l3 J23_l4 J23_l5 H locs ls hK23_x_this_at hK23_x_this_sort hJ23_l3 hJ23_l4 hJ23_l5 hJ23_lin0 hq hm23 hP hD hS hl
        have ih23 := ih
        obtain ⟨K23, hK23⟩ : ∃ K, K = F_X5_wordIn_s3_23 (lf_A g_this_text) (Int32.toInt x_this_at) (Int32.toInt x_this_behind) n := ⟨_, rfl⟩
        have hq : O = F_X5_wordIn_s3_23b (lf_A g_this_text) (Int32.toInt x_this_at) (Int32.toInt x_this_behind) K23 (Int32.toInt J23_l2) (Int32.toInt J23_l3) (Int32.toInt J23_l4) (Int32.toInt J23_l5) := by rw [hK23]; exact hq
        unfold F_X5_wordIn_s3_23b at hq
        have jn119 : ∀ (J119_l2 : Int32) (J119_l3 : Int32) (J119_l4 : Int32) (H : Heap) (locs : List Loc) (ls : Array Slot), ib x_this_at 0 1599 → ib J23_l5 0 5 → ib x_this_sort 1 1 → ib J119_l3 0 1605 → ib J119_l4 0 1 → (1 * J119_l3.toInt + (-1) * J23_l5.toInt ≤ 1601) → (O = F_X5_wordIn_s3_119 (Int32.toInt J23_l5) K23 (Int32.toInt J119_l2) (Int32.toInt J119_l3) (Int32.toInt J119_l4)) → va_P (dC, dI) vwCl [(wo_5_riiiiirii a_this a_this_text x_this_length x_this_at x_this_behind x_this_sort x_this_allowed a_this_plan x_this_fault x_this_place), (wi_0_1600_0 a_this_text cy g_this_text)] H → va_D A [(wo_5_riiiiirii a_this a_this_text x_this_length x_this_at x_this_behind x_this_sort x_this_allowed a_this_plan x_this_fault x_this_place), (wi_0_1600_0 a_this_text cy g_this_text)] → va_S A s.heap H locs → lv_has ls 6 [(0, .ref a_this), (1, .ref (sq 3)), (2, .int J119_l2), (3, .int J119_l3), (4, .int J119_l4), (5, .int J23_l5)] → W p l e { frames := 4, cells := 0, slots := 0, locals := 141 } s m args below meth c H locs 0 0 Q (F0 m 119 ls []) := by
          intro J119_l2 J119_l3 J119_l4 H locs ls hK119_x_this_at hK119_J23_l5 hK119_x_this_sort hJ119_l3 hJ119_l4 hJ119_lin0 hq hP hD hS hl
          unfold F_X5_wordIn_s3_119 at hq
          obtain ⟨z1, ez1⟩ : ∃ y : Int32, y = J23_l5 + 1 := ⟨_, rfl⟩
          refine lv_iinc (v := z1) (lv' := [(5, .int z1), (0, .ref a_this), (1, .ref (sq 3)), (2, .int J119_l2), (3, .int J119_l3), (4, .int J119_l4)]) hx hb dX5_wordIn_119 hl (k := 5) rfl (by rw [ez1]; rfl) (Nat.le_of_ble_eq_true rfl) rfl (fun ls hl => ?_)
          have h2 := ib_add hK119_J23_l5 (ib_c 1 1 1 rfl) rfl
          rw [← ez1] at h2
          have h3 : ib z1 1 6 := ib_w 1 6 h2.1 rfl
          have Ez1 := lf_add h2.2 (lf_rf J23_l5) (lf_lc 1 (1 : Int) rfl)
          refine lv_goto (tgt := 23) hx hb dX5_wordIn_122 rfl ?_
          exact ih23 J119_l2 J119_l3 J119_l4 z1 H locs ls (ib_w 0 1599 hK119_x_this_at rfl) (ib_w 1 1 hK119_x_this_sort rfl) (ib_w 0 1605 hJ119_l3 rfl) (ib_w 0 1 hJ119_l4 rfl) (ib_w 0 6 h3 rfl) (by have := h2.2; have : (1 : Int32).toInt = 1 := rfl; have := hJ119_lin0; omega) (by rw [← hK23]; rw [lf_u Ez1]; exact hq) (by have := h2.2; have : (1 : Int32).toInt = 1 := rfl; omega) hP hD hS (lv_sub hl [1, 2, 3, 4, 5, 0] rfl)
        have jn114 : ∀ (J114_s0 : Int32) (H : Heap) (locs : List Loc) (ls : Array Slot), ib J23_l3 0 1604 → ib J23_l4 0 1 → ib J23_l5 0 4 → ib x_this_at 0 1599 → ib x_this_sort 1 1 → ib J114_s0 0 1 → (1 * J23_l3.toInt + (-1) * J23_l5.toInt ≤ 1600) → (O = F_X5_wordIn_s3_114 (Int32.toInt J23_l2) (Int32.toInt J23_l3) (Int32.toInt J23_l5) K23 (Int32.toInt J114_s0)) → va_P (dC, dI) vwCl [(wo_5_riiiiirii a_this a_this_text x_this_length x_this_at x_this_behind x_this_sort x_this_allowed a_this_plan x_this_fault x_this_place), (wi_0_1600_0 a_this_text cy g_this_text)] H → va_D A [(wo_5_riiiiirii a_this a_this_text x_this_length x_this_at x_this_behind x_this_sort x_this_allowed a_this_plan x_this_fault x_this_place), (wi_0_1600_0 a_this_text cy g_this_text)] → va_S A s.heap H locs → lv_has ls 6 [(0, .ref a_this), (1, .ref (sq 3)), (2, .int J23_l2), (3, .int J23_l3), (4, .int J23_l4), (5, .int J23_l5)] → W p l e { frames := 4, cells := 0, slots := 0, locals := 141 } s m args below meth c H locs 0 0 Q (F0 m 114 ls [.int J114_s0]) := by
          intro J114_s0 H locs ls hK114_J23_l3 hK114_J23_l4 hK114_J23_l5 hK114_x_this_at hK114_x_this_sort hJ114_s0 hJ114_lin0 hq hP hD hS hl
          unfold F_X5_wordIn_s3_114 at hq
          refine lv_istore (lv' := [(4, .int J114_s0), (0, .ref a_this), (1, .ref (sq 3)), (2, .int J23_l2), (3, .int J23_l3), (5, .int J23_l5)]) hx hb dX5_wordIn_114 hl (Nat.le_of_ble_eq_true rfl) rfl (fun ls hl => ?_)
          obtain ⟨z4, ez4⟩ : ∃ y : Int32, y = J23_l3 + 1 := ⟨_, rfl⟩
          refine lv_iinc (v := z4) (lv' := [(3, .int z4), (4, .int J114_s0), (0, .ref a_this), (1, .ref (sq 3)), (2, .int J23_l2), (5, .int J23_l5)]) hx hb dX5_wordIn_116 hl (k := 4) rfl (by rw [ez4]; rfl) (Nat.le_of_ble_eq_true rfl) rfl (fun ls hl => ?_)
          have h5 := ib_add hK114_J23_l3 (ib_c 1 1 1 rfl) rfl
          rw [← ez4] at h5
          have h6 : ib z4 1 1605 := ib_w 1 1605 h5.1 rfl
          have Ez4 := lf_add h5.2 (lf_rf J23_l3) (lf_lc 1 (1 : Int) rfl)
          exact jn119 J23_l2 z4 J114_s0 H locs ls (ib_w 0 1599 hK114_x_this_at rfl) (ib_w 0 5 hK114_J23_l5 rfl) (ib_w 1 1 hK114_x_this_sort rfl) (ib_w 0 1605 h6 rfl) (ib_w 0 1 hJ114_s0 rfl) (by have := (hK114_J23_l5).1; have := hJ23_lin0; have := (h6).2; have := h5.2; have : (1 : Int32).toInt = 1 := rfl; omega) (by rw [lf_u Ez4]; exact hq) hP hD hS (lv_sub hl [2, 3, 4, 0, 1, 5] rfl)
        have jn113 : ∀  (H : Heap) (locs : List Loc) (ls : Array Slot), ib J23_l3 0 1604 → ib J23_l4 0 1 → ib J23_l5 0 4 → ib x_this_at 0 1599 → ib x_this_sort 1 1 → (1 * J23_l3.toInt + (-1) * J23_l5.toInt ≤ 1600) → (O = F_X5_wordIn_s3_113 (Int32.toInt J23_l2) (Int32.toInt J23_l3) (Int32.toInt J23_l5) K23 ) → va_P (dC, dI) vwCl [(wo_5_riiiiirii a_this a_this_text x_this_length x_this_at x_this_behind x_this_sort x_this_allowed a_this_plan x_this_fault x_this_place), (wi_0_1600_0 a_this_text cy g_this_text)] H → va_D A [(wo_5_riiiiirii a_this a_this_text x_this_length x_this_at x_this_behind x_this_sort x_this_allowed a_this_plan x_this_fault x_this_place), (wi_0_1600_0 a_this_text cy g_this_text)] → va_S A s.heap H locs → lv_has ls 6 [(0, .ref a_this), (1, .ref (sq 3)), (2, .int J23_l2), (3, .int J23_l3), (4, .int J23_l4), (5, .int J23_l5)] → W p l e { frames := 4, cells := 0, slots := 0, locals := 141 } s m args below meth c H locs 0 0 Q (F0 m 113 ls []) := by
          intro H locs ls hK113_J23_l3 hK113_J23_l4 hK113_J23_l5 hK113_x_this_at hK113_x_this_sort hJ113_lin0 hq hP hD hS hl
          unfold F_X5_wordIn_s3_113 at hq
          refine lv_iconst (v := 0) hx hb dX5_wordIn_113 rfl ?_
          exact jn114 0 H locs ls (ib_w 0 1604 hK113_J23_l3 rfl) (ib_w 0 1 hK113_J23_l4 rfl) (ib_w 0 4 hK113_J23_l5 rfl) (ib_w 0 1599 hK113_x_this_at rfl) (ib_w 1 1 hK113_x_this_sort rfl) (ib_w 0 1 (ib_c 0 0 0 rfl) rfl) (by have := hJ23_lin0; omega) (by try simp only [show (0 : Int32).toInt = (0 : Int) from rfl]; exact hq) hP hD hS (lv_sub hl [0, 1, 2, 3, 4, 5] rfl)
        have jn67 : ∀  (H : Heap) (locs : List Loc) (ls : Array Slot), ib J23_l3 0 1605 → ib J23_l4 0 1 → ib J23_l5 0 5 → ib x_this_at 0 1599 → ib x_this_sort 1 1 → (O = F_X5_wordIn_s3_67 (Int32.toInt x_this_at) (Int32.toInt J23_l2) (Int32.toInt J23_l5) K23 ) → va_P (dC, dI) vwCl [(wo_5_riiiiirii a_this a_this_text x_this_length x_this_at x_this_behind x_this_sort x_this_allowed a_this_plan x_this_fault x_this_place), (wi_0_1600_0 a_this_text cy g_this_text)] H → va_D A [(wo_5_riiiiirii a_this a_this_text x_this_length x_this_at x_this_behind x_this_sort x_this_allowed a_this_plan x_this_fault x_this_place), (wi_0_1600_0 a_this_text cy g_this_text)] → va_S A s.heap H locs → lv_has ls 6 [(0, .ref a_this), (1, .ref (sq 3)), (2, .int J23_l2), (3, .int J23_l3), (4, .int J23_l4), (5, .int J23_l5)] → W p l e { frames := 4, cells := 0, slots := 0, locals := 141 } s m args below meth c H locs 0 0 Q (F0 m 67 ls []) := by
          intro H locs ls hK67_J23_l3 hK67_J23_l4 hK67_J23_l5 hK67_x_this_at hK67_x_this_sort hq hP hD hS hl
          unfold F_X5_wordIn_s3_67 at hq
          obtain ⟨z7, ez7⟩ : ∃ y : Int32, y = J23_l2 + 1 := ⟨_, rfl⟩
          refine lv_iinc (v := z7) (lv' := [(2, .int z7), (0, .ref a_this), (1, .ref (sq 3)), (3, .int J23_l3), (4, .int J23_l4), (5, .int J23_l5)]) hx hb dX5_wordIn_67 hl (k := 2) rfl (by rw [ez7]; rfl) (Nat.le_of_ble_eq_true rfl) rfl (fun ls hl => ?_)
          have Ez7 := lf_op lf_iadd ez7 (lf_rf J23_l2) (lf_lc 1 (1 : Int) rfl)
          refine lv_aload_n hx hb dX5_wordIn_70 rfl (lv_at hl 1 rfl) ?_
          refine k_get C0 fg_X5_15 hP 0 rfl rfl dX5_wordIn_71 ?_
          refine lv_istore_n (lv' := [(3, .int x_this_at), (2, .int z7), (0, .ref a_this), (1, .ref (sq 3)), (4, .int J23_l4), (5, .int J23_l5)]) hx hb dX5_wordIn_74 rfl hl (Nat.le_of_ble_eq_true rfl) rfl (fun ls hl => ?_)
          refine lv_iconst (v := 1) hx hb dX5_wordIn_75 rfl ?_
          refine lv_istore (lv' := [(4, .int 1), (3, .int x_this_at), (2, .int z7), (0, .ref a_this), (1, .ref (sq 3)), (5, .int J23_l5)]) hx hb dX5_wordIn_76 hl (Nat.le_of_ble_eq_true rfl) rfl (fun ls hl => ?_)
          refine lv_goto (tgt := 119) hx hb dX5_wordIn_78 rfl ?_
          exact jn119 z7 x_this_at 1 H locs ls (ib_w 0 1599 hK67_x_this_at rfl) (ib_w 0 5 hK67_J23_l5 rfl) (ib_w 1 1 hK67_x_this_sort rfl) (ib_w 0 1605 hK67_x_this_at rfl) (ib_w 0 1 (ib_c 1 1 1 rfl) rfl) (by have := (hK67_J23_l5).1; have := (hK67_x_this_at).2; omega) (by rw [lf_u Ez7]; try simp only [show (1 : Int32).toInt = (1 : Int) from rfl]; exact hq) hP hD hS (lv_sub hl [3, 4, 2, 1, 0, 5] rfl)
        have jn52 : ∀  (H : Heap) (locs : List Loc) (ls : Array Slot), ib J23_l3 0 1605 → ib J23_l4 0 1 → ib J23_l5 0 5 → ib x_this_at 0 1599 → ib x_this_sort 1 1 → (O = F_X5_wordIn_s3_52 (Int32.toInt x_this_at) (Int32.toInt x_this_behind) (Int32.toInt J23_l2) (Int32.toInt J23_l3) (Int32.toInt J23_l4) (Int32.toInt J23_l5) K23 ) → va_P (dC, dI) vwCl [(wo_5_riiiiirii a_this a_this_text x_this_length x_this_at x_this_behind x_this_sort x_this_allowed a_this_plan x_this_fault x_this_place), (wi_0_1600_0 a_this_text cy g_this_text)] H → va_D A [(wo_5_riiiiirii a_this a_this_text x_this_length x_this_at x_this_behind x_this_sort x_this_allowed a_this_plan x_this_fault x_this_place), (wi_0_1600_0 a_this_text cy g_this_text)] → va_S A s.heap H locs → lv_has ls 6 [(0, .ref a_this), (1, .ref (sq 3)), (2, .int J23_l2), (3, .int J23_l3), (4, .int J23_l4), (5, .int J23_l5)] → W p l e { frames := 4, cells := 0, slots := 0, locals := 141 } s m args below meth c H locs 0 0 Q (F0 m 52 ls []) := by
          as_aux_lemma =>
            intro H locs ls hK52_J23_l3 hK52_J23_l4 hK52_J23_l5 hK52_x_this_at hK52_x_this_sort hq hP hD hS hl
            unfold F_X5_wordIn_s3_52 at hq
            refine lv_iload hx hb dX5_wordIn_52 (lv_at hl 4 rfl) ?_
            refine lv_if_eq (tgt := 67) hx hb dX5_wordIn_54 rfl (fun c8 => ?_) (fun c8 => ?_)
            · replace hq := lf_pos hq (lf_eq (lf_rf J23_l4) (lf_lc 0 (0 : Int) rfl) c8)
              have h9 := ib_eq hK52_J23_l4 (ib_c 0 0 0 rfl) c8
              have h10 : ib J23_l4 0 0 := ib_w 0 0 h9.1 rfl
              exact jn67  H locs ls (ib_w 0 1605 hK52_J23_l3 rfl) (ib_w 0 1 h10 rfl) (ib_w 0 5 hK52_J23_l5 rfl) (ib_w 0 1599 hK52_x_this_at rfl) (ib_w 1 1 hK52_x_this_sort rfl) (by exact hq) hP hD hS (lv_sub hl [0, 1, 2, 3, 4, 5] rfl)
            · replace hq := lf_neg hq (lf_ne (lf_rf J23_l4) (lf_lc 0 (0 : Int) rfl) c8)
              have h11 : ib J23_l4 1 1 := ib_w 1 1 (ib_ne_lo 0 hK52_J23_l4 rfl c8) rfl
              refine lv_iload_n hx hb dX5_wordIn_57 rfl (lv_at hl 3 rfl) ?_
              refine lv_aload_n hx hb dX5_wordIn_58 rfl (lv_at hl 0 rfl) ?_
              refine k_get C0 fg_X5_18 hP 0 rfl rfl dX5_wordIn_59 ?_
              refine lv_icmp_ne (tgt := 67) hx hb dX5_wordIn_62 rfl (fun c12 => ?_) (fun c12 => ?_)
              · replace hq := lf_neg hq (lf_ne (lf_rf J23_l3) (lf_rf x_this_behind) c12)
                exact jn67  H locs ls (ib_w 0 1605 hK52_J23_l3 rfl) (ib_w 0 1 h11 rfl) (ib_w 0 5 hK52_J23_l5 rfl) (ib_w 0 1599 hK52_x_this_at rfl) (ib_w 1 1 hK52_x_this_sort rfl) (by exact hq) hP hD hS (lv_sub hl [0, 1, 2, 3, 4, 5] rfl)
              · replace hq := lf_pos hq (lf_eq (lf_rf J23_l3) (lf_rf x_this_behind) c12)
                have h13 := ib_eq hK52_J23_l3 hx_this_behind c12
                have h14 : ib J23_l3 0 1600 := ib_w 0 1600 h13.1 rfl
                refine lv_iload_n hx hb dX5_wordIn_65 rfl (lv_at hl 2 rfl) ?_
                subst hQ; exact k_iret hx hb hr hlk rfl () hS ((hO.symm.trans (by exact hq))) hP hD (Nat.le_of_ble_eq_true rfl) (Nat.le_of_ble_eq_true rfl) dX5_wordIn_66
        refine lv_iload hx hb dX5_wordIn_23 (lv_at hl 5 rfl) ?_
        refine lv_aload_n hx hb dX5_wordIn_25 rfl (lv_at hl 1 rfl) ?_
        refine k_jim hP hD hS hA [] [true, true] rfl rfl rfl 0 0 (Nat.le_of_ble_eq_true rfl) (Nat.le_of_ble_eq_true rfl) (fun hPc hDc => k_runVO (As := []) (rest := [.int J23_l5]) C0 hZ hS hA (c_length l dC dI cy sq 3 (by decide)) mV_X5_244 hPc hDc (vk_recv hZ.1 (by decide) hS) hl rfl rfl (Nat.le_of_ble_eq_true rfl) ⟨(Nat.le_of_ble_eq_true rfl), (Nat.le_of_ble_eq_true rfl)⟩ ⟨(Nat.le_of_ble_eq_true rfl), (Nat.le_of_ble_eq_true rfl)⟩ dX5_wordIn_26) (fun r15 u16 H locs hw hP hD hS => ?_)
        replace hP : va_P (dC, dI) vwCl [(wo_5_riiiiirii a_this a_this_text x_this_length x_this_at x_this_behind x_this_sort x_this_allowed a_this_plan x_this_fault x_this_place), (wi_0_1600_0 a_this_text cy g_this_text)] H := hP
        replace hD := k_D hP hD
        obtain rfl : r15 = 5 := hw.trans (by decide)
        refine lv_icmp_gt (tgt := 125) hx hb dX5_wordIn_29 rfl (fun c17 => ?_) (fun c17 => ?_)
        · replace hq := lf_pos hq (lf_lt (lf_lc 5 (5 : Int) rfl) (lf_rf J23_l5) c17)
          have h18 := ib_lt (ib_c 5 5 5 rfl) hJ23_l5 c17
          have h19 : ib J23_l5 6 6 := ib_w 6 6 h18.2 rfl
          refine lv_iconst (v := (-1)) hx hb dX5_wordIn_125 rfl ?_
          subst hQ; exact k_iret hx hb hr hlk rfl () hS ((hO.symm.trans (by try simp only [show ((-1) : Int32).toInt = (-1 : Int) from rfl]; exact hq))) hP hD (Nat.le_of_ble_eq_true rfl) (Nat.le_of_ble_eq_true rfl) dX5_wordIn_126
        · as_aux_lemma =>
            replace hq := lf_neg hq (lf_nlt (lf_lc 5 (5 : Int) rfl) (lf_rf J23_l5) c17)
            have h20 := ib_nlt (ib_c 5 5 5 rfl) hJ23_l5 c17
            have h21 : ib J23_l5 0 5 := ib_w 0 5 h20.2 rfl
            refine lv_iload hx hb dX5_wordIn_32 (lv_at hl 5 rfl) ?_
            refine lv_aload_n hx hb dX5_wordIn_34 rfl (lv_at hl 1 rfl) ?_
            refine k_jim hP hD hS hA [] [true, true] rfl rfl rfl 0 0 (Nat.le_of_ble_eq_true rfl) (Nat.le_of_ble_eq_true rfl) (fun hPc hDc => k_runVO (As := []) (rest := [.int J23_l5]) C0 hZ hS hA (c_length l dC dI cy sq 3 (by decide)) mV_X5_244 hPc hDc (vk_recv hZ.1 (by decide) hS) hl rfl rfl (Nat.le_of_ble_eq_true rfl) ⟨(Nat.le_of_ble_eq_true rfl), (Nat.le_of_ble_eq_true rfl)⟩ ⟨(Nat.le_of_ble_eq_true rfl), (Nat.le_of_ble_eq_true rfl)⟩ dX5_wordIn_35) (fun r22 u23 H locs hw hP hD hS => ?_)
            replace hP : va_P (dC, dI) vwCl [(wo_5_riiiiirii a_this a_this_text x_this_length x_this_at x_this_behind x_this_sort x_this_allowed a_this_plan x_this_fault x_this_place), (wi_0_1600_0 a_this_text cy g_this_text)] H := hP
            replace hD := k_D hP hD
            obtain rfl : r22 = 5 := hw.trans (by decide)
            refine lv_icmp_eq (tgt := 52) hx hb dX5_wordIn_38 rfl (fun c24 => ?_) (fun c24 => ?_)
            · replace hq := lf_pos hq (lf_eq (lf_rf J23_l5) (lf_lc 5 (5 : Int) rfl) c24)
              have h25 := ib_eq h21 (ib_c 5 5 5 rfl) c24
              have h26 : ib J23_l5 5 5 := ib_w 5 5 h25.1 rfl
              exact jn52  H locs ls (ib_w 0 1605 hJ23_l3 rfl) (ib_w 0 1 hJ23_l4 rfl) (ib_w 0 5 h26 rfl) (ib_w 0 1599 hK23_x_this_at rfl) (ib_w 1 1 hK23_x_this_sort rfl) (by exact hq) hP hD hS (lv_sub hl [0, 1, 2, 3, 4, 5] rfl)
            · as_aux_lemma =>
                replace hq := lf_neg hq (lf_ne (lf_rf J23_l5) (lf_lc 5 (5 : Int) rfl) c24)
                have h27 : ib J23_l5 0 4 := ib_w 0 4 (ib_ne_hi 5 h21 rfl c24) rfl
                refine lv_aload_n hx hb dX5_wordIn_41 rfl (lv_at hl 1 rfl) ?_
                refine lv_iload hx hb dX5_wordIn_42 (lv_at hl 5 rfl) ?_
                refine k_jim hP hD hS hA [] [true, true] rfl rfl rfl 0 0 (Nat.le_of_ble_eq_true rfl) (Nat.le_of_ble_eq_true rfl) (fun hPc hDc => k_runVO (As := [.int J23_l5]) (rest := []) C0 hZ hS hA (cx_charAt l dC dI cy sq 3 (by decide) J23_l5 (ib_ch 3 5 h27 rfl rfl).1 (ib_ch 3 5 h27 rfl rfl).2.1 (ib_ch 3 5 h27 rfl rfl).2.2) mV_X5_248 hPc hDc (vk_recv hZ.1 (by decide) hS) hl rfl rfl (Nat.le_of_ble_eq_true rfl) ⟨(Nat.le_of_ble_eq_true rfl), (Nat.le_of_ble_eq_true rfl)⟩ ⟨(Nat.le_of_ble_eq_true rfl), (Nat.le_of_ble_eq_true rfl)⟩ dX5_wordIn_44) (fun r28 u29 H locs hw hP hD hS => ?_)
                replace hP : va_P (dC, dI) vwCl [(wo_5_riiiiirii a_this a_this_text x_this_length x_this_at x_this_behind x_this_sort x_this_allowed a_this_plan x_this_fault x_this_place), (wi_0_1600_0 a_this_text cy g_this_text)] H := hP
                replace hD := k_D hP hD
                have Er28 := lf_cha (j := 3) hw (lf_rf J23_l5)
                refine lv_bipush (v := 32) hx hb dX5_wordIn_47 rfl ?_
                refine lv_icmp_ne (tgt := 81) hx hb dX5_wordIn_49 rfl (fun c30 => ?_) (fun c30 => ?_)
                · as_aux_lemma =>
                    replace hq := lf_neg hq (lf_ne Er28 (lf_lc 32 (32 : Int) rfl) c30)
                    refine lv_iload hx hb dX5_wordIn_81 (lv_at hl 4 rfl) ?_
                    refine lv_if_eq (tgt := 113) hx hb dX5_wordIn_83 rfl (fun c31 => ?_) (fun c31 => ?_)
                    · replace hq := lf_pos hq (lf_eq (lf_rf J23_l4) (lf_lc 0 (0 : Int) rfl) c31)
                      have h32 := ib_eq hJ23_l4 (ib_c 0 0 0 rfl) c31
                      have h33 : ib J23_l4 0 0 := ib_w 0 0 h32.1 rfl
                      have h34 : ib J23_l3 0 1604 := ⟨(hJ23_l3).1, by have := (hJ23_l3).2; have := hJ23_lin0; have := (h27).2; omega⟩
                      exact jn113  H locs ls (ib_w 0 1604 h34 rfl) (ib_w 0 1 h33 rfl) (ib_w 0 4 h27 rfl) (ib_w 0 1599 hK23_x_this_at rfl) (ib_w 1 1 hK23_x_this_sort rfl) (by have := hJ23_lin0; omega) (by exact hq) hP hD hS (lv_sub hl [0, 1, 2, 3, 4, 5] rfl)
                    · as_aux_lemma =>
                        replace hq := lf_neg hq (lf_ne (lf_rf J23_l4) (lf_lc 0 (0 : Int) rfl) c31)
                        have h35 : ib J23_l4 1 1 := ib_w 1 1 (ib_ne_lo 0 hJ23_l4 rfl c31) rfl
                        refine lv_iload_n hx hb dX5_wordIn_86 rfl (lv_at hl 3 rfl) ?_
                        refine lv_aload_n hx hb dX5_wordIn_87 rfl (lv_at hl 0 rfl) ?_
                        refine k_get C0 fg_X5_18 hP 0 rfl rfl dX5_wordIn_88 ?_
                        refine lv_icmp_ge (tgt := 113) hx hb dX5_wordIn_91 rfl (fun c36 => ?_) (fun c36 => ?_)
                        · replace hq := lf_pos hq (lf_le (lf_rf x_this_behind) (lf_rf J23_l3) c36)
                          have h37 := ib_le hx_this_behind hJ23_l3 c36
                          have h38 : ib J23_l3 0 1604 := ⟨(hJ23_l3).1, by have := (hJ23_l3).2; have := hJ23_lin0; have := (h27).2; omega⟩
                          exact jn113  H locs ls (ib_w 0 1604 h38 rfl) (ib_w 0 1 h35 rfl) (ib_w 0 4 h27 rfl) (ib_w 0 1599 hK23_x_this_at rfl) (ib_w 1 1 hK23_x_this_sort rfl) (by have := hJ23_lin0; omega) (by exact hq) hP hD hS (lv_sub hl [0, 1, 2, 3, 4, 5] rfl)
                        · as_aux_lemma =>
                            replace hq := lf_neg hq (lf_nle (lf_rf x_this_behind) (lf_rf J23_l3) c36)
                            have h39 := ib_nle hx_this_behind hJ23_l3 c36
                            have h40 : ib x_this_behind 1 1600 := ib_w 1 1600 h39.1 rfl
                            have h41 : ib J23_l3 0 1599 := ib_w 0 1599 h39.2 rfl
                            refine lv_aload_n hx hb dX5_wordIn_94 rfl (lv_at hl 0 rfl) ?_
                            refine k_get C0 fg_X5_33 hP 0 rfl rfl dX5_wordIn_95 ?_
                            refine lv_iload_n hx hb dX5_wordIn_98 rfl (lv_at hl 3 rfl) ?_
                            refine va_iald hx hb C0.2.2.2.2.2.1 hP 1 0 rfl rfl (ib_in 1600 h41 rfl) dX5_wordIn_99 ?_
                            refine lv_topi (fun z42 ez42 => ?_)
                            have h43 : ib z42 0 255 := by rw [ez42]; exact ia_at hg_this_text (ib_in 1600 h41 rfl)
                            have Ez42 := lf_ld ez42 (lf_ra g_this_text) (lf_rf J23_l3)
                            refine lv_aload_n hx hb dX5_wordIn_100 rfl (lv_at hl 1 rfl) ?_
                            refine lv_iload hx hb dX5_wordIn_101 (lv_at hl 5 rfl) ?_
                            refine k_jim hP hD hS hA [] [true, true] rfl rfl rfl 0 0 (Nat.le_of_ble_eq_true rfl) (Nat.le_of_ble_eq_true rfl) (fun hPc hDc => k_runVO (As := [.int J23_l5]) (rest := [.int z42]) C0 hZ hS hA (cx_charAt l dC dI cy sq 3 (by decide) J23_l5 (ib_ch 3 5 h27 rfl rfl).1 (ib_ch 3 5 h27 rfl rfl).2.1 (ib_ch 3 5 h27 rfl rfl).2.2) mV_X5_248 hPc hDc (vk_recv hZ.1 (by decide) hS) hl rfl rfl (Nat.le_of_ble_eq_true rfl) ⟨(Nat.le_of_ble_eq_true rfl), (Nat.le_of_ble_eq_true rfl)⟩ ⟨(Nat.le_of_ble_eq_true rfl), (Nat.le_of_ble_eq_true rfl)⟩ dX5_wordIn_103) (fun r44 u45 H locs hw hP hD hS => ?_)
                            replace hP : va_P (dC, dI) vwCl [(wo_5_riiiiirii a_this a_this_text x_this_length x_this_at x_this_behind x_this_sort x_this_allowed a_this_plan x_this_fault x_this_place), (wi_0_1600_0 a_this_text cy g_this_text)] H := hP
                            replace hD := k_D hP hD
                            have Er44 := lf_cha (j := 3) hw (lf_rf J23_l5)
                            refine lv_icmp_ne (tgt := 113) hx hb dX5_wordIn_106 rfl (fun c46 => ?_) (fun c46 => ?_)
                            · replace hq := lf_neg hq (lf_ne Ez42 Er44 c46)
                              exact jn113  H locs ls (ib_w 0 1604 h41 rfl) (ib_w 0 1 h35 rfl) (ib_w 0 4 h27 rfl) (ib_w 0 1599 hK23_x_this_at rfl) (ib_w 1 1 hK23_x_this_sort rfl) (by have := hJ23_lin0; omega) (by exact hq) hP hD hS (lv_sub hl [0, 1, 2, 3, 4, 5] rfl)
                            · replace hq := lf_pos hq (lf_eq Ez42 Er44 c46)
                              have h47 := ib_eq h43 (ib_any r44) c46
                              have h48 : ib r44 0 255 := ib_w 0 255 h47.2 rfl
                              refine lv_iconst (v := 1) hx hb dX5_wordIn_109 rfl ?_
                              refine lv_goto (tgt := 114) hx hb dX5_wordIn_110 rfl ?_
                              exact jn114 1 H locs ls (ib_w 0 1604 h41 rfl) (ib_w 0 1 h35 rfl) (ib_w 0 4 h27 rfl) (ib_w 0 1599 hK23_x_this_at rfl) (ib_w 1 1 hK23_x_this_sort rfl) (ib_w 0 1 (ib_c 1 1 1 rfl) rfl) (by have := hJ23_lin0; omega) (by try simp only [show (1 : Int32).toInt = (1 : Int) from rfl]; exact hq) hP hD hS (lv_sub hl [0, 1, 2, 3, 4, 5] rfl)
                · replace hq := lf_pos hq (lf_eq Er28 (lf_lc 32 (32 : Int) rfl) c30)
                  have h49 := ib_eq (ib_any r28) (ib_c 32 32 32 rfl) c30
                  have h50 : ib r28 32 32 := ib_w 32 32 h49.1 rfl
                  have h51 : ib J23_l3 0 1604 := ⟨(hJ23_l3).1, by have := (hJ23_l3).2; have := hJ23_lin0; have := (h27).2; omega⟩
                  exact jn52  H locs ls (ib_w 0 1605 h51 rfl) (ib_w 0 1 hJ23_l4 rfl) (ib_w 0 5 h27 rfl) (ib_w 0 1599 hK23_x_this_at rfl) (ib_w 1 1 hK23_x_this_sort rfl) (by exact hq) hP hD hS (lv_sub hl [0, 1, 2, 3, 4, 5] rfl)
  refine lv_aload_n hx hb dX5_wordIn_0 rfl (lv_at hl 0 rfl) ?_
  refine k_get C0 fg_X5_21 hP 0 rfl rfl dX5_wordIn_1 ?_
  refine lv_iconst (v := 1) hx hb dX5_wordIn_4 rfl ?_
  refine lv_icmp_eq (tgt := 10) hx hb dX5_wordIn_5 rfl (fun c52 => ?_) (fun c52 => ?_)
  · replace hq := lf_pos hq (lf_eq (lf_rf x_this_sort) (lf_lc 1 (1 : Int) rfl) c52)
    have h53 := ib_eq hx_this_sort (ib_c 1 1 1 rfl) c52
    have h54 : ib x_this_sort 1 1 := ib_w 1 1 h53.1 rfl
    have h55 : ib x_this_at 0 1599 := ib_w 0 1599 (ib_two hx_this_at (hc0_this (ib_nz h54 rfl))) rfl
    refine lv_iconst (v := 0) hx hb dX5_wordIn_10 rfl ?_
    refine lv_istore_n (lv' := [(2, .int 0), (0, .ref a_this), (1, .ref (sq 3))]) hx hb dX5_wordIn_11 rfl hl (Nat.le_of_ble_eq_true rfl) rfl (fun ls hl => ?_)
    refine lv_aload_n hx hb dX5_wordIn_12 rfl (lv_at hl 1 rfl) ?_
    refine k_get C0 fg_X5_15 hP 0 rfl rfl dX5_wordIn_13 ?_
    refine lv_istore_n (lv' := [(3, .int x_this_at), (2, .int 0), (0, .ref a_this), (1, .ref (sq 3))]) hx hb dX5_wordIn_16 rfl hl (Nat.le_of_ble_eq_true rfl) rfl (fun ls hl => ?_)
    refine lv_iconst (v := 1) hx hb dX5_wordIn_17 rfl ?_
    refine lv_istore (lv' := [(4, .int 1), (3, .int x_this_at), (2, .int 0), (0, .ref a_this), (1, .ref (sq 3))]) hx hb dX5_wordIn_18 hl (Nat.le_of_ble_eq_true rfl) rfl (fun ls hl => ?_)
    refine lv_iconst (v := 0) hx hb dX5_wordIn_20 rfl ?_
    refine lv_istore (lv' := [(5, .int 0), (4, .int 1), (3, .int x_this_at), (2, .int 0), (0, .ref a_this), (1, .ref (sq 3))]) hx hb dX5_wordIn_21 hl (Nat.le_of_ble_eq_true rfl) rfl (fun ls hl => ?_)
    exact jn23 8 0 x_this_at 1 0 H locs ls (ib_w 0 1599 h55 rfl) (ib_w 1 1 h54 rfl) (ib_w 0 1605 h55 rfl) (ib_w 0 1 (ib_c 1 1 1 rfl) rfl) (ib_w 0 6 (ib_c 0 0 0 rfl) rfl) (by have : (0 : Int32).toInt = 0 := rfl; have := (h55).2; omega) (by try simp only [show (0 : Int32).toInt = (0 : Int) from rfl]; try simp only [show (1 : Int32).toInt = (1 : Int) from rfl]; exact hq) (by have := (ib_c 0 0 0 rfl); unfold ib at this; omega) hP hD hS (lv_sub hl [4, 5, 3, 2, 1, 0] rfl)
  · replace hq := lf_neg hq (lf_ne (lf_rf x_this_sort) (lf_lc 1 (1 : Int) rfl) c52)
    refine lv_iconst (v := (-1)) hx hb dX5_wordIn_8 rfl ?_
    subst hQ; exact k_iret hx hb hr hlk rfl () hS ((hO.symm.trans (by try simp only [show ((-1) : Int32).toInt = (-1 : Int) from rfl]; exact hq))) hP hD (Nat.le_of_ble_eq_true rfl) (Nat.le_of_ble_eq_true rfl) dX5_wordIn_9
set_option maxHeartbeats 4000000 in
set_option maxRecDepth 100000 in
theorem s_X5_needWord_s3 (l : Launch) (dC : Nat → ClassId) (dI : Nat → Nat → Nat) (cy : Nat → ClassId) (sq : Nat → Nat) (a_this : Nat) (a_this_text : Nat) (g_this_text : Nat → Int32) (x_this_length : Int32) (x_this_at : Int32) (x_this_behind : Int32) (x_this_sort : Int32) (x_this_allowed : Int32) (a_this_plan : Nat) (x_this_fault : Int32) (x_this_place : Int32) (hg_this_text : ia g_this_text 1600 0 255) (hx_this_length : ib x_this_length 0 1600) (hx_this_at : ib x_this_at 0 1600) (hx_this_behind : ib x_this_behind 0 1600) (hx_this_sort : ib x_this_sort 0 4) (hc0_this : ¬ x_this_sort = 0 → ib x_this_at 0 1599) : k_Met l yX5_needWord cX5_needWord 2 none { frames := 5, cells := 0, slots := 0, locals := 166 } dC dI cy sq [.ref a_this, .ref (sq 3)] [(wo_5_riiiiirii a_this a_this_text x_this_length x_this_at x_this_behind x_this_sort x_this_allowed a_this_plan x_this_fault x_this_place), (wi_0_1600_0 a_this_text cy g_this_text)] (k_Qv dC dI (fun (u : Int32 × Int32 × Int32 × Int32 × Int32) => match u with | (n0, n1, n2, n3, n4) => ib n0 0 1600 ∧ ib n1 0 1600 ∧ ib n2 0 4 ∧ (¬ n2 = 0 → ib n0 0 1599) ∧ (F_X5_needWord_s3 (lf_A g_this_text) (Int32.toInt x_this_length) (Int32.toInt x_this_at) (Int32.toInt x_this_behind) (Int32.toInt x_this_sort) (Int32.toInt x_this_fault) (Int32.toInt x_this_place) = ((Int32.toInt n0), (Int32.toInt n1), (Int32.toInt n2), (Int32.toInt n3), (Int32.toInt n4)))) (fun u : Int32 × Int32 × Int32 × Int32 × Int32 => match u with | (n0, n1, n2, n3, n4) => [(wo_5_riiiiirii a_this a_this_text x_this_length n0 n1 n2 x_this_allowed a_this_plan n3 n4), (wi_0_1600_0 a_this_text cy g_this_text)])) := by
  refine k_ofW2 (by decide +kernel) (Nat.le_of_ble_eq_true rfl) ?_
  intro p e s m below meth c A ls H locs args Q hQ C0 hZ hr hlk hin hP hD hA hS hl
  have C0 : k_cx p s m args c cX5_needWord 2 RX5 dC dI cy sq := C0
  have hx := C0.1
  have hb := C0.2.1
  have hl : lv_has ls 2 [(0, .ref a_this), (1, .ref (sq 3))] := hl
  obtain ⟨O, hO⟩ : ∃ o, o = F_X5_needWord_s3 (lf_A g_this_text) (Int32.toInt x_this_length) (Int32.toInt x_this_at) (Int32.toInt x_this_behind) (Int32.toInt x_this_sort) (Int32.toInt x_this_fault) (Int32.toInt x_this_place) := ⟨_, rfl⟩
  have hq := hO
  unfold F_X5_needWord_s3 at hq
  refine lv_aload_n hx hb dX5_needWord_0 rfl (lv_at hl 0 rfl) ?_
  refine lv_aload_n hx hb dX5_needWord_1 rfl (lv_at hl 1 rfl) ?_
  refine k_jim hP hD hS hA [0, 1] [] rfl rfl rfl 0 0 (Nat.le_of_ble_eq_true rfl) (Nat.le_of_ble_eq_true rfl) (fun hPc hDc => k_runV (As := [.ref (sq 3)]) (rest := []) C0 hZ hS hA (s_X5_wordIn_s3 l dC dI cy sq a_this a_this_text g_this_text x_this_length x_this_at x_this_behind x_this_sort x_this_allowed a_this_plan x_this_fault x_this_place hg_this_text (ib_w 0 1600 hx_this_at rfl) (ib_w 0 1600 hx_this_behind rfl) (ib_w 0 4 hx_this_sort rfl) (fun hq9 => ib_w 0 1599 (hc0_this hq9) rfl)) mV_X5_54 hPc hDc rfl rfl rfl hl rfl rfl (Nat.le_of_ble_eq_true rfl) ⟨(Nat.le_of_ble_eq_true rfl), (Nat.le_of_ble_eq_true rfl)⟩ ⟨(Nat.le_of_ble_eq_true rfl), (Nat.le_of_ble_eq_true rfl)⟩ dX5_needWord_2) (fun r1 u2 H locs hw hP hD hS => ?_)
  try dsimp only at hP hD hw
  replace hP : va_P (dC, dI) vwCl [(wo_5_riiiiirii a_this a_this_text x_this_length x_this_at x_this_behind x_this_sort x_this_allowed a_this_plan x_this_fault x_this_place), (wi_0_1600_0 a_this_text cy g_this_text)] H := hP
  replace hD := k_D hP hD
  have h3 := hw
  replace hq := lf_b1 hq h3
  refine lv_iconst (v := (-1)) hx hb dX5_needWord_5 rfl ?_
  refine lv_icmp_ne (tgt := 21) hx hb dX5_needWord_6 rfl (fun c4 => ?_) (fun c4 => ?_)
  · replace hq := lf_neg hq (lf_ne (lf_rf r1) (lf_lc (-1) (-1 : Int) rfl) c4)
    refine lv_aload_n hx hb dX5_needWord_21 rfl (lv_at hl 0 rfl) ?_
    refine lv_aload_n hx hb dX5_needWord_22 rfl (lv_at hl 0 rfl) ?_
    refine k_get C0 fg_X5_18 hP 0 rfl rfl dX5_needWord_23 ?_
    refine k_jvm hP hD hS hA [0, 1] [] rfl rfl rfl 0 0 (Nat.le_of_ble_eq_true rfl) (Nat.le_of_ble_eq_true rfl) (fun hPc hDc => k_runV (As := [.int x_this_behind]) (rest := []) C0 hZ hS hA (s_X5_moveTo l dC dI cy sq a_this a_this_text g_this_text x_this_length x_this_at x_this_behind x_this_sort x_this_allowed a_this_plan x_this_fault x_this_place x_this_behind hg_this_text (ib_w 0 1600 hx_this_length rfl) (ib_w 0 1600 hx_this_behind rfl)) mV_X5_86 hPc hDc rfl rfl rfl hl rfl rfl (Nat.le_of_ble_eq_true rfl) ⟨(Nat.le_of_ble_eq_true rfl), (Nat.le_of_ble_eq_true rfl)⟩ ⟨(Nat.le_of_ble_eq_true rfl), (Nat.le_of_ble_eq_true rfl)⟩ dX5_needWord_26) (fun u6 H locs hw hP hD hS => ?_)
    obtain ⟨v7, v8, v9⟩ := u6
    try dsimp only at hP hD hw
    replace hP : va_P (dC, dI) vwCl [(wo_5_riiiiirii a_this a_this_text x_this_length v7 v8 v9 x_this_allowed a_this_plan x_this_fault x_this_place), (wi_0_1600_0 a_this_text cy g_this_text)] H := hP
    replace hD := k_D hP hD
    obtain ⟨h10, h11, h12, h13, h14⟩ := hw
    replace hq := lf_p1 hq h14
    replace hq := lf_p1 hq rfl
    subst hQ; exact k_vret hx hb hr hlk ((v7, v8, v9, x_this_fault, x_this_place)) hS ⟨ib_w 0 1600 h10 rfl, ib_w 0 1600 h11 rfl, ib_w 0 4 h12 rfl, fun hq9 => ib_w 0 1599 (h13 hq9) rfl, (hO.symm.trans (by exact hq))⟩ hP hD (Nat.le_of_ble_eq_true rfl) (Nat.le_of_ble_eq_true rfl) dX5_needWord_29
  · replace hq := lf_pos hq (lf_eq (lf_rf r1) (lf_lc (-1) (-1 : Int) rfl) c4)
    have h15 := ib_eq (ib_any r1) (ib_c (-1) (-1) (-1) rfl) c4
    have h16 : ib r1 (-1) (-1) := ib_w (-1) (-1) h15.1 rfl
    refine lv_aload_n hx hb dX5_needWord_9 rfl (lv_at hl 0 rfl) ?_
    refine lv_iconst (v := 1) hx hb dX5_needWord_10 rfl ?_
    refine lv_aload_n hx hb dX5_needWord_11 rfl (lv_at hl 0 rfl) ?_
    refine k_get C0 fg_X5_15 hP 0 rfl rfl dX5_needWord_12 ?_
    refine k_jvm hP hD hS hA [0] [false, true] rfl rfl rfl 0 0 (Nat.le_of_ble_eq_true rfl) (Nat.le_of_ble_eq_true rfl) (fun hPc hDc => k_runV (As := [.int 1, .int x_this_at]) (rest := []) C0 hZ hS hA (s_X5_fail l dC dI cy sq a_this a_this_text x_this_length x_this_at x_this_behind x_this_sort x_this_allowed a_this_plan x_this_fault x_this_place 1 x_this_at ) mV_X5_78 hPc hDc rfl rfl rfl hl rfl rfl (Nat.le_of_ble_eq_true rfl) ⟨(Nat.le_of_ble_eq_true rfl), (Nat.le_of_ble_eq_true rfl)⟩ ⟨(Nat.le_of_ble_eq_true rfl), (Nat.le_of_ble_eq_true rfl)⟩ dX5_needWord_15) (fun u18 H locs hw hP hD hS => ?_)
    obtain ⟨v19, v20⟩ := u18
    try dsimp only at hP hD hw
    replace hP : va_P (dC, dI) vwCl [(wi_0_1600_0 a_this_text cy g_this_text), (wo_5_riiiiirii a_this a_this_text x_this_length x_this_length x_this_length 0 x_this_allowed a_this_plan v19 v20)] H := hP
    replace hD := k_D hP hD
    have h21 := hw
    have h21 := by have h9 := h21; try simp only [show (1 : Int32).toInt = (1 : Int) from rfl] at h9; exact h9
    replace hq := lf_p1 hq h21
    refine lv_goto (tgt := 29) hx hb dX5_needWord_18 rfl ?_
    subst hQ; exact k_vret hx hb hr hlk ((x_this_length, x_this_length, 0, v19, v20)) hS ⟨ib_w 0 1600 hx_this_length rfl, ib_w 0 1600 hx_this_length rfl, ib_w 0 4 (ib_c 0 0 0 rfl) rfl, fun hq9 => absurd rfl hq9, (hO.symm.trans (by try simp only [show (0 : Int32).toInt = (0 : Int) from rfl]; exact hq))⟩ (hP.sub [1, 0] rfl) (hD.sub [1, 0] rfl rfl) (Nat.le_of_ble_eq_true rfl) (Nat.le_of_ble_eq_true rfl) dX5_needWord_29
set_option maxHeartbeats 4000000 in
set_option maxRecDepth 100000 in
theorem s_X5_number_a0_10_a1_120 (l : Launch) (dC : Nat → ClassId) (dI : Nat → Nat → Nat) (cy : Nat → ClassId) (sq : Nat → Nat) (a_this : Nat) (a_this_text : Nat) (g_this_text : Nat → Int32) (x_this_length : Int32) (x_this_at : Int32) (x_this_behind : Int32) (x_this_sort : Int32) (x_this_allowed : Int32) (a_this_plan : Nat) (x_this_fault : Int32) (x_this_place : Int32) (hg_this_text : ia g_this_text 1600 0 255) (hx_this_length : ib x_this_length 0 1600) (hx_this_at : ib x_this_at 0 1600) (hx_this_behind : ib x_this_behind 0 1600) (hx_this_sort : ib x_this_sort 0 4) (hc0_this : ¬ x_this_sort = 0 → ib x_this_at 0 1599) : k_Met l yX5_number cX5_number 5 (some .int) { frames := 2, cells := 0, slots := 0, locals := 43 } dC dI cy sq [.ref a_this, .int 10, .int 120] [(wo_5_riiiiirii a_this a_this_text x_this_length x_this_at x_this_behind x_this_sort x_this_allowed a_this_plan x_this_fault x_this_place), (wi_0_1600_0 a_this_text cy g_this_text)] (k_Qi dC dI (fun (r : Int32) (u : Int32 × Int32 × Int32 × Int32 × Int32) => match u with | (n0, n1, n2, n3, n4) => ib r 10 120 ∧ ib n0 0 1600 ∧ ib n1 0 1600 ∧ ib n2 0 4 ∧ (¬ n2 = 0 → ib n0 0 1599) ∧ (F_X5_number_a0_10_a1_120 (lf_A g_this_text) (Int32.toInt x_this_length) (Int32.toInt x_this_at) (Int32.toInt x_this_behind) (Int32.toInt x_this_sort) (Int32.toInt x_this_fault) (Int32.toInt x_this_place) = ((Int32.toInt r), (Int32.toInt n0), (Int32.toInt n1), (Int32.toInt n2), (Int32.toInt n3), (Int32.toInt n4)))) (fun u : Int32 × Int32 × Int32 × Int32 × Int32 => match u with | (n0, n1, n2, n3, n4) => [(wo_5_riiiiirii a_this a_this_text x_this_length n0 n1 n2 x_this_allowed a_this_plan n3 n4), (wi_0_1600_0 a_this_text cy g_this_text)])) := by
  refine k_ofW2 (by decide +kernel) (Nat.le_of_ble_eq_true rfl) ?_
  intro p e s m below meth c A ls H locs args Q hQ C0 hZ hr hlk hin hP hD hA hS hl
  have C0 : k_cx p s m args c cX5_number 5 RX5 dC dI cy sq := C0
  have hx := C0.1
  have hb := C0.2.1
  have hl : lv_has ls 5 [(0, .ref a_this), (1, .int 10), (2, .int 120)] := hl
  obtain ⟨O, hO⟩ : ∃ o, o = F_X5_number_a0_10_a1_120 (lf_A g_this_text) (Int32.toInt x_this_length) (Int32.toInt x_this_at) (Int32.toInt x_this_behind) (Int32.toInt x_this_sort) (Int32.toInt x_this_fault) (Int32.toInt x_this_place) := ⟨_, rfl⟩
  have hq := hO
  unfold F_X5_number_a0_10_a1_120 at hq
  have jn94 : ∀ (J94_l3 : Int32) (J94_l4 : Int32) (H : Heap) (locs : List Loc) (ls : Array Slot), ib x_this_at 0 1599 → ib x_this_sort 2 2 → ib J94_l4 0 1600 → (O = F_X5_number_a0_10_a1_120_94 (Int32.toInt x_this_length) (Int32.toInt x_this_at) (Int32.toInt x_this_fault) (Int32.toInt x_this_place) (Int32.toInt J94_l3) (Int32.toInt J94_l4)) → va_P (dC, dI) vwCl [(wo_5_riiiiirii a_this a_this_text x_this_length x_this_at x_this_behind x_this_sort x_this_allowed a_this_plan x_this_fault x_this_place), (wi_0_1600_0 a_this_text cy g_this_text)] H → va_D A [(wo_5_riiiiirii a_this a_this_text x_this_length x_this_at x_this_behind x_this_sort x_this_allowed a_this_plan x_this_fault x_this_place), (wi_0_1600_0 a_this_text cy g_this_text)] → va_S A s.heap H locs → lv_has ls 5 [(0, .ref a_this), (1, .int 10), (2, .int 120), (3, .int J94_l3), (4, .int J94_l4)] → W p l e { frames := 2, cells := 0, slots := 0, locals := 43 } s m args below meth c H locs 0 0 Q (F0 m 94 ls []) := by
    intro J94_l3 J94_l4 H locs ls hK94_x_this_at hK94_x_this_sort hJ94_l4 hq hP hD hS hl
    unfold F_X5_number_a0_10_a1_120_94 at hq
    refine lv_aload_n hx hb dX5_number_94 rfl (lv_at hl 0 rfl) ?_
    refine lv_iconst (v := 2) hx hb dX5_number_95 rfl ?_
    refine lv_aload_n hx hb dX5_number_96 rfl (lv_at hl 0 rfl) ?_
    refine k_get C0 fg_X5_15 hP 0 rfl rfl dX5_number_97 ?_
    refine k_jvm hP hD hS hA [0] [false, true] rfl rfl rfl 0 0 (Nat.le_of_ble_eq_true rfl) (Nat.le_of_ble_eq_true rfl) (fun hPc hDc => k_runV (As := [.int 2, .int x_this_at]) (rest := []) C0 hZ hS hA (s_X5_fail l dC dI cy sq a_this a_this_text x_this_length x_this_at x_this_behind x_this_sort x_this_allowed a_this_plan x_this_fault x_this_place 2 x_this_at ) mV_X5_78 hPc hDc rfl rfl rfl hl rfl rfl (Nat.le_of_ble_eq_true rfl) ⟨(Nat.le_of_ble_eq_true rfl), (Nat.le_of_ble_eq_true rfl)⟩ ⟨(Nat.le_of_ble_eq_true rfl), (Nat.le_of_ble_eq_true rfl)⟩ dX5_number_100) (fun u2 H locs hw hP hD hS => ?_)
    obtain ⟨v3, v4⟩ := u2
    try dsimp only at hP hD hw
    replace hP : va_P (dC, dI) vwCl [(wi_0_1600_0 a_this_text cy g_this_text), (wo_5_riiiiirii a_this a_this_text x_this_length x_this_length x_this_length 0 x_this_allowed a_this_plan v3 v4)] H := hP
    replace hD := k_D hP hD
    have h5 := hw
    have h5 := by have h9 := h5; try simp only [show (2 : Int32).toInt = (2 : Int) from rfl] at h9; exact h9
    replace hq := lf_p1 hq h5
    refine lv_iload_n hx hb dX5_number_103 rfl (lv_at hl 1 rfl) ?_
    subst hQ; exact k_iret hx hb hr hlk rfl ((x_this_length, x_this_length, 0, v3, v4)) hS ⟨ib_w 10 120 (ib_c 10 10 10 rfl) rfl, ib_w 0 1600 hx_this_length rfl, ib_w 0 1600 hx_this_length rfl, ib_w 0 4 (ib_c 0 0 0 rfl) rfl, fun hq9 => absurd rfl hq9, (hO.symm.trans (by try simp only [show (10 : Int32).toInt = (10 : Int) from rfl]; try simp only [show (0 : Int32).toInt = (0 : Int) from rfl]; exact hq))⟩ (hP.sub [1, 0] rfl) (hD.sub [1, 0] rfl rfl) (Nat.le_of_ble_eq_true rfl) (Nat.le_of_ble_eq_true rfl) dX5_number_104
  have jn53 : ∀ (n : Nat) (J53_l3 : Int32) (J53_l4 : Int32) (H : Heap) (locs : List Loc) (ls : Array Slot), ib x_this_at 0 1599 → ib x_this_sort 2 2 → ib J53_l4 0 1600 → (O = F_X5_number_a0_10_a1_120_53 (lf_A g_this_text) (Int32.toInt x_this_length) (Int32.toInt x_this_at) (Int32.toInt x_this_behind) (Int32.toInt x_this_fault) (Int32.toInt x_this_place) n (Int32.toInt J53_l3) (Int32.toInt J53_l4)) → 1601 ≤ J53_l4.toInt + (n : Int) → va_P (dC, dI) vwCl [(wo_5_riiiiirii a_this a_this_text x_this_length x_this_at x_this_behind x_this_sort x_this_allowed a_this_plan x_this_fault x_this_place), (wi_0_1600_0 a_this_text cy g_this_text)] H → va_D A [(wo_5_riiiiirii a_this a_this_text x_this_length x_this_at x_this_behind x_this_sort x_this_allowed a_this_plan x_this_fault x_this_place), (wi_0_1600_0 a_this_text cy g_this_text)] → va_S A s.heap H locs → lv_has ls 5 [(0, .ref a_this), (1, .int 10), (2, .int 120), (3, .int J53_l3), (4, .int J53_l4)] → W p l e { frames := 2, cells := 0, slots := 0, locals := 43 } s m args below meth c H locs 0 0 Q (F0 m 53 ls []) := by
    as_aux_lemma =>
      intro n
      induction n with
      | zero =>
        intro J53_l3 J53_l4 H locs ls hK53_x_this_at hK53_x_this_sort hJ53_l4 hq hm
        exact absurd hm (by have := hJ53_l4; unfold ib at this; omega)
      | succ n ih =>
        intro J53_l3 J53_l4 H locs ls hK53_x_this_at hK53_x_this_sort hJ53_l4 hq hm53 hP hD hS hl
        have ih53 := ih
        obtain ⟨K53, hK53⟩ : ∃ K, K = F_X5_number_a0_10_a1_120_53 (lf_A g_this_text) (Int32.toInt x_this_length) (Int32.toInt x_this_at) (Int32.toInt x_this_behind) (Int32.toInt x_this_fault) (Int32.toInt x_this_place) n := ⟨_, rfl⟩
        have hq : O = F_X5_number_a0_10_a1_120_53b (lf_A g_this_text) (Int32.toInt x_this_length) (Int32.toInt x_this_at) (Int32.toInt x_this_behind) (Int32.toInt x_this_fault) (Int32.toInt x_this_place) K53 (Int32.toInt J53_l3) (Int32.toInt J53_l4) := by rw [hK53]; exact hq
        unfold F_X5_number_a0_10_a1_120_53b at hq
        refine lv_iload hx hb dX5_number_53 (lv_at hl 4 rfl) ?_
        refine lv_aload_n hx hb dX5_number_55 rfl (lv_at hl 0 rfl) ?_
        refine k_get C0 fg_X5_18 hP 0 rfl rfl dX5_number_56 ?_
        refine lv_icmp_ge (tgt := 84) hx hb dX5_number_59 rfl (fun c6 => ?_) (fun c6 => ?_)
        · as_aux_lemma =>
            replace hq := lf_pos hq (lf_le (lf_rf x_this_behind) (lf_rf J53_l4) c6)
            have h7 := ib_le hx_this_behind hJ53_l4 c6
            refine lv_iload_n hx hb dX5_number_84 rfl (lv_at hl 3 rfl) ?_
            refine lv_iload_n hx hb dX5_number_85 rfl (lv_at hl 1 rfl) ?_
            refine lv_icmp_lt (tgt := 94) hx hb dX5_number_86 rfl (fun c8 => ?_) (fun c8 => ?_)
            · replace hq := lf_pos hq (lf_lt (lf_rf J53_l3) (lf_lc 10 (10 : Int) rfl) c8)
              have h9 := ib_lt (ib_any J53_l3) (ib_c 10 10 10 rfl) c8
              have h10 : ib J53_l3 (-2147483648) 9 := ib_w (-2147483648) 9 h9.1 rfl
              exact jn94 J53_l3 J53_l4 H locs ls (ib_w 0 1599 hK53_x_this_at rfl) (ib_w 2 2 hK53_x_this_sort rfl) (ib_w 0 1600 hJ53_l4 rfl) (by exact hq) hP hD hS (lv_sub hl [0, 1, 2, 3, 4] rfl)
            · as_aux_lemma =>
                replace hq := lf_neg hq (lf_nlt (lf_rf J53_l3) (lf_lc 10 (10 : Int) rfl) c8)
                have h11 := ib_nlt (ib_any J53_l3) (ib_c 10 10 10 rfl) c8
                have h12 : ib J53_l3 10 2147483647 := ib_w 10 2147483647 h11.1 rfl
                refine lv_iload_n hx hb dX5_number_89 rfl (lv_at hl 3 rfl) ?_
                refine lv_iload_n hx hb dX5_number_90 rfl (lv_at hl 2 rfl) ?_
                refine lv_icmp_le (tgt := 105) hx hb dX5_number_91 rfl (fun c13 => ?_) (fun c13 => ?_)
                · replace hq := lf_pos hq (lf_le (lf_rf J53_l3) (lf_lc 120 (120 : Int) rfl) c13)
                  have h14 := ib_le h12 (ib_c 120 120 120 rfl) c13
                  have h15 : ib J53_l3 10 120 := ib_w 10 120 h14.1 rfl
                  refine lv_aload_n hx hb dX5_number_105 rfl (lv_at hl 0 rfl) ?_
                  refine lv_aload_n hx hb dX5_number_106 rfl (lv_at hl 0 rfl) ?_
                  refine k_get C0 fg_X5_18 hP 0 rfl rfl dX5_number_107 ?_
                  refine k_jvm hP hD hS hA [0, 1] [] rfl rfl rfl 0 0 (Nat.le_of_ble_eq_true rfl) (Nat.le_of_ble_eq_true rfl) (fun hPc hDc => k_runV (As := [.int x_this_behind]) (rest := []) C0 hZ hS hA (s_X5_moveTo l dC dI cy sq a_this a_this_text g_this_text x_this_length x_this_at x_this_behind x_this_sort x_this_allowed a_this_plan x_this_fault x_this_place x_this_behind hg_this_text (ib_w 0 1600 hx_this_length rfl) (ib_w 0 1600 hx_this_behind rfl)) mV_X5_86 hPc hDc rfl rfl rfl hl rfl rfl (Nat.le_of_ble_eq_true rfl) ⟨(Nat.le_of_ble_eq_true rfl), (Nat.le_of_ble_eq_true rfl)⟩ ⟨(Nat.le_of_ble_eq_true rfl), (Nat.le_of_ble_eq_true rfl)⟩ dX5_number_110) (fun u17 H locs hw hP hD hS => ?_)
                  obtain ⟨v18, v19, v20⟩ := u17
                  try dsimp only at hP hD hw
                  replace hP : va_P (dC, dI) vwCl [(wo_5_riiiiirii a_this a_this_text x_this_length v18 v19 v20 x_this_allowed a_this_plan x_this_fault x_this_place), (wi_0_1600_0 a_this_text cy g_this_text)] H := hP
                  replace hD := k_D hP hD
                  obtain ⟨h21, h22, h23, h24, h25⟩ := hw
                  replace hq := lf_p1 hq h25
                  replace hq := lf_p1 hq rfl
                  refine lv_iload_n hx hb dX5_number_113 rfl (lv_at hl 3 rfl) ?_
                  subst hQ; exact k_iret hx hb hr hlk rfl ((v18, v19, v20, x_this_fault, x_this_place)) hS ⟨ib_w 10 120 h15 rfl, ib_w 0 1600 h21 rfl, ib_w 0 1600 h22 rfl, ib_w 0 4 h23 rfl, fun hq9 => ib_w 0 1599 (h24 hq9) rfl, (hO.symm.trans (by exact hq))⟩ hP hD (Nat.le_of_ble_eq_true rfl) (Nat.le_of_ble_eq_true rfl) dX5_number_114
                · replace hq := lf_neg hq (lf_nle (lf_rf J53_l3) (lf_lc 120 (120 : Int) rfl) c13)
                  have h26 := ib_nle h12 (ib_c 120 120 120 rfl) c13
                  have h27 : ib J53_l3 121 2147483647 := ib_w 121 2147483647 h26.1 rfl
                  exact jn94 J53_l3 J53_l4 H locs ls (ib_w 0 1599 hK53_x_this_at rfl) (ib_w 2 2 hK53_x_this_sort rfl) (ib_w 0 1600 hJ53_l4 rfl) (by exact hq) hP hD hS (lv_sub hl [0, 1, 2, 3, 4] rfl)
        · as_aux_lemma =>
            replace hq := lf_neg hq (lf_nle (lf_rf x_this_behind) (lf_rf J53_l4) c6)
            have h28 := ib_nle hx_this_behind hJ53_l4 c6
            have h29 : ib x_this_behind 1 1600 := ib_w 1 1600 h28.1 rfl
            have h30 : ib J53_l4 0 1599 := ib_w 0 1599 h28.2 rfl
            refine lv_iload_n hx hb dX5_number_62 rfl (lv_at hl 3 rfl) ?_
            refine lv_bipush (v := 10) hx hb dX5_number_63 rfl ?_
            refine lv_imul hx hb dX5_number_65 ?_
            refine lv_topi (fun z31 ez31 => ?_)
            have Ez31 := lf_op lf_imul ez31 (lf_rf J53_l3) (lf_lc 10 (10 : Int) rfl)
            refine lv_aload_n hx hb dX5_number_66 rfl (lv_at hl 0 rfl) ?_
            refine k_get C0 fg_X5_33 hP 0 rfl rfl dX5_number_67 ?_
            refine lv_iload hx hb dX5_number_70 (lv_at hl 4 rfl) ?_
            refine va_iald hx hb C0.2.2.2.2.2.1 hP 1 0 rfl rfl (ib_in 1600 h30 rfl) dX5_number_72 ?_
            refine lv_topi (fun z32 ez32 => ?_)
            have h33 : ib z32 0 255 := by rw [ez32]; exact ia_at hg_this_text (ib_in 1600 h30 rfl)
            have Ez32 := lf_ld ez32 (lf_ra g_this_text) (lf_rf J53_l4)
            refine lv_iadd hx hb dX5_number_73 ?_
            refine lv_topi (fun z34 ez34 => ?_)
            have Ez34 := lf_op lf_iadd ez34 Ez31 Ez32
            refine lv_bipush (v := 48) hx hb dX5_number_74 rfl ?_
            refine lv_isub hx hb dX5_number_76 ?_
            refine lv_topi (fun z35 ez35 => ?_)
            have Ez35 := lf_op lf_isub ez35 Ez34 (lf_lc 48 (48 : Int) rfl)
            refine lv_istore_n (lv' := [(3, .int z35), (0, .ref a_this), (1, .int 10), (2, .int 120), (4, .int J53_l4)]) hx hb dX5_number_77 rfl hl (Nat.le_of_ble_eq_true rfl) rfl (fun ls hl => ?_)
            obtain ⟨z36, ez36⟩ : ∃ y : Int32, y = J53_l4 + 1 := ⟨_, rfl⟩
            refine lv_iinc (v := z36) (lv' := [(4, .int z36), (3, .int z35), (0, .ref a_this), (1, .int 10), (2, .int 120)]) hx hb dX5_number_78 hl (k := 4) rfl (by rw [ez36]; rfl) (Nat.le_of_ble_eq_true rfl) rfl (fun ls hl => ?_)
            have h37 := ib_add h30 (ib_c 1 1 1 rfl) rfl
            rw [← ez36] at h37
            have h38 : ib z36 1 1600 := ib_w 1 1600 h37.1 rfl
            have Ez36 := lf_add h37.2 (lf_rf J53_l4) (lf_lc 1 (1 : Int) rfl)
            refine lv_goto (tgt := 53) hx hb dX5_number_81 rfl ?_
            exact ih53 z35 z36 H locs ls (ib_w 0 1599 hK53_x_this_at rfl) (ib_w 2 2 hK53_x_this_sort rfl) (ib_w 0 1600 h38 rfl) (by rw [← hK53]; rw [lf_u Ez35]; rw [lf_u Ez36]; exact hq) (by have := h37.2; have : (1 : Int32).toInt = 1 := rfl; omega) hP hD hS (lv_sub hl [2, 3, 4, 1, 0] rfl)
  refine lv_aload_n hx hb dX5_number_0 rfl (lv_at hl 0 rfl) ?_
  refine k_get C0 fg_X5_21 hP 0 rfl rfl dX5_number_1 ?_
  refine lv_iconst (v := 2) hx hb dX5_number_4 rfl ?_
  refine lv_icmp_eq (tgt := 19) hx hb dX5_number_5 rfl (fun c39 => ?_) (fun c39 => ?_)
  · as_aux_lemma =>
      replace hq := lf_pos hq (lf_eq (lf_rf x_this_sort) (lf_lc 2 (2 : Int) rfl) c39)
      have h40 := ib_eq hx_this_sort (ib_c 2 2 2 rfl) c39
      have h41 : ib x_this_sort 2 2 := ib_w 2 2 h40.1 rfl
      have h42 : ib x_this_at 0 1599 := ib_w 0 1599 (ib_two hx_this_at (hc0_this (ib_nz h41 rfl))) rfl
      refine lv_aload_n hx hb dX5_number_19 rfl (lv_at hl 0 rfl) ?_
      refine k_get C0 fg_X5_18 hP 0 rfl rfl dX5_number_20 ?_
      refine lv_aload_n hx hb dX5_number_23 rfl (lv_at hl 0 rfl) ?_
      refine k_get C0 fg_X5_15 hP 0 rfl rfl dX5_number_24 ?_
      refine lv_isub hx hb dX5_number_27 ?_
      refine lv_topi (fun z43 ez43 => ?_)
      have h44 := ib_sub hx_this_behind h42 rfl
      rw [← ez43] at h44
      have h45 : ib z43 (-1599) 1600 := ib_w (-1599) 1600 h44.1 rfl
      have Ez43 := lf_sub h44.2 (lf_rf x_this_behind) (lf_rf x_this_at)
      refine lv_iconst (v := 4) hx hb dX5_number_28 rfl ?_
      refine lv_icmp_le (tgt := 45) hx hb dX5_number_29 rfl (fun c46 => ?_) (fun c46 => ?_)
      · replace hq := lf_pos hq (lf_le Ez43 (lf_lc 4 (4 : Int) rfl) c46)
        have h47 := ib_le h45 (ib_c 4 4 4 rfl) c46
        have h48 : ib z43 (-1599) 4 := ib_w (-1599) 4 h47.1 rfl
        refine lv_iconst (v := 0) hx hb dX5_number_45 rfl ?_
        refine lv_istore_n (lv' := [(3, .int 0), (0, .ref a_this), (1, .int 10), (2, .int 120)]) hx hb dX5_number_46 rfl hl (Nat.le_of_ble_eq_true rfl) rfl (fun ls hl => ?_)
        refine lv_aload_n hx hb dX5_number_47 rfl (lv_at hl 1 rfl) ?_
        refine k_get C0 fg_X5_15 hP 0 rfl rfl dX5_number_48 ?_
        refine lv_istore (lv' := [(4, .int x_this_at), (3, .int 0), (0, .ref a_this), (1, .int 10), (2, .int 120)]) hx hb dX5_number_51 hl (Nat.le_of_ble_eq_true rfl) rfl (fun ls hl => ?_)
        exact jn53 1602 0 x_this_at H locs ls (ib_w 0 1599 h42 rfl) (ib_w 2 2 h41 rfl) (ib_w 0 1600 h42 rfl) (by try simp only [show (0 : Int32).toInt = (0 : Int) from rfl]; exact hq) (by have := h42; unfold ib at this; omega) hP hD hS (lv_sub hl [2, 3, 4, 1, 0] rfl)
      · as_aux_lemma =>
          replace hq := lf_neg hq (lf_nle Ez43 (lf_lc 4 (4 : Int) rfl) c46)
          have h49 := ib_nle h45 (ib_c 4 4 4 rfl) c46
          have h50 : ib z43 5 1600 := ib_w 5 1600 h49.1 rfl
          refine lv_aload_n hx hb dX5_number_32 rfl (lv_at hl 0 rfl) ?_
          refine lv_iconst (v := 1) hx hb dX5_number_33 rfl ?_
          refine lv_aload_n hx hb dX5_number_34 rfl (lv_at hl 0 rfl) ?_
          refine k_get C0 fg_X5_15 hP 0 rfl rfl dX5_number_35 ?_
          refine lv_iconst (v := 4) hx hb dX5_number_38 rfl ?_
          refine lv_iadd hx hb dX5_number_39 ?_
          refine lv_topi (fun z51 ez51 => ?_)
          have h52 := ib_add h42 (ib_c 4 4 4 rfl) rfl
          rw [← ez51] at h52
          have h53 : ib z51 4 1603 := ib_w 4 1603 h52.1 rfl
          have Ez51 := lf_add h52.2 (lf_rf x_this_at) (lf_lc 4 (4 : Int) rfl)
          refine k_jvm hP hD hS hA [0] [false, true] rfl rfl rfl 0 0 (Nat.le_of_ble_eq_true rfl) (Nat.le_of_ble_eq_true rfl) (fun hPc hDc => k_runV (As := [.int 1, .int z51]) (rest := []) C0 hZ hS hA (s_X5_fail l dC dI cy sq a_this a_this_text x_this_length x_this_at x_this_behind x_this_sort x_this_allowed a_this_plan x_this_fault x_this_place 1 z51 ) mV_X5_78 hPc hDc rfl rfl rfl hl rfl rfl (Nat.le_of_ble_eq_true rfl) ⟨(Nat.le_of_ble_eq_true rfl), (Nat.le_of_ble_eq_true rfl)⟩ ⟨(Nat.le_of_ble_eq_true rfl), (Nat.le_of_ble_eq_true rfl)⟩ dX5_number_40) (fun u55 H locs hw hP hD hS => ?_)
          obtain ⟨v56, v57⟩ := u55
          try dsimp only at hP hD hw
          replace hP : va_P (dC, dI) vwCl [(wi_0_1600_0 a_this_text cy g_this_text), (wo_5_riiiiirii a_this a_this_text x_this_length x_this_length x_this_length 0 x_this_allowed a_this_plan v56 v57)] H := hP
          replace hD := k_D hP hD
          have h58 := hw
          have h58 := by have h9 := h58; try simp only [show (1 : Int32).toInt = (1 : Int) from rfl] at h9; rw [lf_u Ez51] at h9; exact h9
          replace hq := lf_p1 hq h58
          refine lv_iload_n hx hb dX5_number_43 rfl (lv_at hl 1 rfl) ?_
          subst hQ; exact k_iret hx hb hr hlk rfl ((x_this_length, x_this_length, 0, v56, v57)) hS ⟨ib_w 10 120 (ib_c 10 10 10 rfl) rfl, ib_w 0 1600 hx_this_length rfl, ib_w 0 1600 hx_this_length rfl, ib_w 0 4 (ib_c 0 0 0 rfl) rfl, fun hq9 => absurd rfl hq9, (hO.symm.trans (by try simp only [show (10 : Int32).toInt = (10 : Int) from rfl]; try simp only [show (0 : Int32).toInt = (0 : Int) from rfl]; exact hq))⟩ (hP.sub [1, 0] rfl) (hD.sub [1, 0] rfl rfl) (Nat.le_of_ble_eq_true rfl) (Nat.le_of_ble_eq_true rfl) dX5_number_44
  · replace hq := lf_neg hq (lf_ne (lf_rf x_this_sort) (lf_lc 2 (2 : Int) rfl) c39)
    refine lv_aload_n hx hb dX5_number_8 rfl (lv_at hl 0 rfl) ?_
    refine lv_iconst (v := 1) hx hb dX5_number_9 rfl ?_
    refine lv_aload_n hx hb dX5_number_10 rfl (lv_at hl 0 rfl) ?_
    refine k_get C0 fg_X5_15 hP 0 rfl rfl dX5_number_11 ?_
    refine k_jvm hP hD hS hA [0] [false, true] rfl rfl rfl 0 0 (Nat.le_of_ble_eq_true rfl) (Nat.le_of_ble_eq_true rfl) (fun hPc hDc => k_runV (As := [.int 1, .int x_this_at]) (rest := []) C0 hZ hS hA (s_X5_fail l dC dI cy sq a_this a_this_text x_this_length x_this_at x_this_behind x_this_sort x_this_allowed a_this_plan x_this_fault x_this_place 1 x_this_at ) mV_X5_78 hPc hDc rfl rfl rfl hl rfl rfl (Nat.le_of_ble_eq_true rfl) ⟨(Nat.le_of_ble_eq_true rfl), (Nat.le_of_ble_eq_true rfl)⟩ ⟨(Nat.le_of_ble_eq_true rfl), (Nat.le_of_ble_eq_true rfl)⟩ dX5_number_14) (fun u60 H locs hw hP hD hS => ?_)
    obtain ⟨v61, v62⟩ := u60
    try dsimp only at hP hD hw
    replace hP : va_P (dC, dI) vwCl [(wi_0_1600_0 a_this_text cy g_this_text), (wo_5_riiiiirii a_this a_this_text x_this_length x_this_length x_this_length 0 x_this_allowed a_this_plan v61 v62)] H := hP
    replace hD := k_D hP hD
    have h63 := hw
    have h63 := by have h9 := h63; try simp only [show (1 : Int32).toInt = (1 : Int) from rfl] at h9; exact h9
    replace hq := lf_p1 hq h63
    refine lv_iload_n hx hb dX5_number_17 rfl (lv_at hl 1 rfl) ?_
    subst hQ; exact k_iret hx hb hr hlk rfl ((x_this_length, x_this_length, 0, v61, v62)) hS ⟨ib_w 10 120 (ib_c 10 10 10 rfl) rfl, ib_w 0 1600 hx_this_length rfl, ib_w 0 1600 hx_this_length rfl, ib_w 0 4 (ib_c 0 0 0 rfl) rfl, fun hq9 => absurd rfl hq9, (hO.symm.trans (by try simp only [show (10 : Int32).toInt = (10 : Int) from rfl]; try simp only [show (0 : Int32).toInt = (0 : Int) from rfl]; exact hq))⟩ (hP.sub [1, 0] rfl) (hD.sub [1, 0] rfl rfl) (Nat.le_of_ble_eq_true rfl) (Nat.le_of_ble_eq_true rfl) dX5_number_18
set_option maxHeartbeats 4000000 in
set_option maxRecDepth 100000 in
theorem s_X5_numberBehind_a1_10_a2_120_s3 (l : Launch) (dC : Nat → ClassId) (dI : Nat → Nat → Nat) (cy : Nat → ClassId) (sq : Nat → Nat) (a_this : Nat) (a_this_text : Nat) (g_this_text : Nat → Int32) (x_this_length : Int32) (x_this_at : Int32) (x_this_behind : Int32) (x_this_sort : Int32) (x_this_allowed : Int32) (a_this_plan : Nat) (x_this_fault : Int32) (x_this_place : Int32) (hg_this_text : ia g_this_text 1600 0 255) (hx_this_length : ib x_this_length 0 1600) (hx_this_at : ib x_this_at 0 1600) (hx_this_behind : ib x_this_behind 0 1600) (hx_this_sort : ib x_this_sort 0 4) (hc0_this : ¬ x_this_sort = 0 → ib x_this_at 0 1599) : k_Met l yX5_numberBehind cX5_numberBehind 4 (some .int) { frames := 6, cells := 0, slots := 0, locals := 187 } dC dI cy sq [.ref a_this, .ref (sq 3), .int 10, .int 120] [(wo_5_riiiiirii a_this a_this_text x_this_length x_this_at x_this_behind x_this_sort x_this_allowed a_this_plan x_this_fault x_this_place), (wi_0_1600_0 a_this_text cy g_this_text)] (k_Qi dC dI (fun (r : Int32) (u : Int32 × Int32 × Int32 × Int32 × Int32) => match u with | (n0, n1, n2, n3, n4) => ib r 10 120 ∧ ib n0 0 1600 ∧ ib n1 0 1600 ∧ ib n2 0 4 ∧ (¬ n2 = 0 → ib n0 0 1599) ∧ (F_X5_numberBehind_a1_10_a2_120_s3 (lf_A g_this_text) (Int32.toInt x_this_length) (Int32.toInt x_this_at) (Int32.toInt x_this_behind) (Int32.toInt x_this_sort) (Int32.toInt x_this_fault) (Int32.toInt x_this_place) = ((Int32.toInt r), (Int32.toInt n0), (Int32.toInt n1), (Int32.toInt n2), (Int32.toInt n3), (Int32.toInt n4)))) (fun u : Int32 × Int32 × Int32 × Int32 × Int32 => match u with | (n0, n1, n2, n3, n4) => [(wo_5_riiiiirii a_this a_this_text x_this_length n0 n1 n2 x_this_allowed a_this_plan n3 n4), (wi_0_1600_0 a_this_text cy g_this_text)])) := by
  refine k_ofW2 (by decide +kernel) (Nat.le_of_ble_eq_true rfl) ?_
  intro p e s m below meth c A ls H locs args Q hQ C0 hZ hr hlk hin hP hD hA hS hl
  have C0 : k_cx p s m args c cX5_numberBehind 4 RX5 dC dI cy sq := C0
  have hx := C0.1
  have hb := C0.2.1
  have hl : lv_has ls 4 [(0, .ref a_this), (1, .ref (sq 3)), (2, .int 10), (3, .int 120)] := hl
  obtain ⟨O, hO⟩ : ∃ o, o = F_X5_numberBehind_a1_10_a2_120_s3 (lf_A g_this_text) (Int32.toInt x_this_length) (Int32.toInt x_this_at) (Int32.toInt x_this_behind) (Int32.toInt x_this_sort) (Int32.toInt x_this_fault) (Int32.toInt x_this_place) := ⟨_, rfl⟩
  have hq := hO
  unfold F_X5_numberBehind_a1_10_a2_120_s3 at hq
  refine lv_aload_n hx hb dX5_numberBehind_0 rfl (lv_at hl 0 rfl) ?_
  refine lv_aload_n hx hb dX5_numberBehind_1 rfl (lv_at hl 1 rfl) ?_
  refine k_jvm hP hD hS hA [0, 1] [] rfl rfl rfl 0 0 (Nat.le_of_ble_eq_true rfl) (Nat.le_of_ble_eq_true rfl) (fun hPc hDc => k_runV (As := [.ref (sq 3)]) (rest := []) C0 hZ hS hA (s_X5_needWord_s3 l dC dI cy sq a_this a_this_text g_this_text x_this_length x_this_at x_this_behind x_this_sort x_this_allowed a_this_plan x_this_fault x_this_place hg_this_text (ib_w 0 1600 hx_this_length rfl) (ib_w 0 1600 hx_this_at rfl) (ib_w 0 1600 hx_this_behind rfl) (ib_w 0 4 hx_this_sort rfl) (fun hq9 => ib_w 0 1599 (hc0_this hq9) rfl)) mV_X5_144 hPc hDc rfl rfl rfl hl rfl rfl (Nat.le_of_ble_eq_true rfl) ⟨(Nat.le_of_ble_eq_true rfl), (Nat.le_of_ble_eq_true rfl)⟩ ⟨(Nat.le_of_ble_eq_true rfl), (Nat.le_of_ble_eq_true rfl)⟩ dX5_numberBehind_2) (fun u2 H locs hw hP hD hS => ?_)
  obtain ⟨v3, v4, v5, v6, v7⟩ := u2
  try dsimp only at hP hD hw
  replace hP : va_P (dC, dI) vwCl [(wo_5_riiiiirii a_this a_this_text x_this_length v3 v4 v5 x_this_allowed a_this_plan v6 v7), (wi_0_1600_0 a_this_text cy g_this_text)] H := hP
  replace hD := k_D hP hD
  obtain ⟨h8, h9, h10, h11, h12⟩ := hw
  replace hq := lf_p1 hq h12
  replace hq := lf_p1 hq rfl
  replace hq := lf_p1 hq rfl
  replace hq := lf_p1 hq rfl
  refine lv_aload_n hx hb dX5_numberBehind_5 rfl (lv_at hl 0 rfl) ?_
  refine lv_iload_n hx hb dX5_numberBehind_6 rfl (lv_at hl 2 rfl) ?_
  refine lv_iload_n hx hb dX5_numberBehind_7 rfl (lv_at hl 3 rfl) ?_
  refine k_jim hP hD hS hA [0, 1] [] rfl rfl rfl 0 0 (Nat.le_of_ble_eq_true rfl) (Nat.le_of_ble_eq_true rfl) (fun hPc hDc => k_runV (As := [.int 10, .int 120]) (rest := []) C0 hZ hS hA (s_X5_number_a0_10_a1_120 l dC dI cy sq a_this a_this_text g_this_text x_this_length v3 v4 v5 x_this_allowed a_this_plan v6 v7 hg_this_text (ib_w 0 1600 hx_this_length rfl) (ib_w 0 1600 h8 rfl) (ib_w 0 1600 h9 rfl) (ib_w 0 4 h10 rfl) (fun hq9 => ib_w 0 1599 (h11 hq9) rfl)) mV_X5_168 hPc hDc rfl rfl rfl hl rfl rfl (Nat.le_of_ble_eq_true rfl) ⟨(Nat.le_of_ble_eq_true rfl), (Nat.le_of_ble_eq_true rfl)⟩ ⟨(Nat.le_of_ble_eq_true rfl), (Nat.le_of_ble_eq_true rfl)⟩ dX5_numberBehind_8) (fun r13 u14 H locs hw hP hD hS => ?_)
  obtain ⟨v15, v16, v17, v18, v19⟩ := u14
  try dsimp only at hP hD hw
  replace hP : va_P (dC, dI) vwCl [(wo_5_riiiiirii a_this a_this_text x_this_length v15 v16 v17 x_this_allowed a_this_plan v18 v19), (wi_0_1600_0 a_this_text cy g_this_text)] H := hP
  replace hD := k_D hP hD
  obtain ⟨h20, h21, h22, h23, h24, h25⟩ := hw
  replace hq := lf_p1 hq h25
  replace hq := lf_p1 hq rfl
  replace hq := lf_p1 hq rfl
  replace hq := lf_p1 hq rfl
  replace hq := lf_p1 hq rfl
  subst hQ; exact k_iret hx hb hr hlk rfl ((v15, v16, v17, v18, v19)) hS ⟨ib_w 10 120 h20 rfl, ib_w 0 1600 h21 rfl, ib_w 0 1600 h22 rfl, ib_w 0 4 h23 rfl, fun hq9 => ib_w 0 1599 (h24 hq9) rfl, (hO.symm.trans (by exact hq))⟩ hP hD (Nat.le_of_ble_eq_true rfl) (Nat.le_of_ble_eq_true rfl) dX5_numberBehind_11
set_option maxHeartbeats 4000000 in
set_option maxRecDepth 100000 in
theorem s_X5_wordIn_s4 (l : Launch) (dC : Nat → ClassId) (dI : Nat → Nat → Nat) (cy : Nat → ClassId) (sq : Nat → Nat) (a_this : Nat) (a_this_text : Nat) (g_this_text : Nat → Int32) (x_this_length : Int32) (x_this_at : Int32) (x_this_behind : Int32) (x_this_sort : Int32) (x_this_allowed : Int32) (a_this_plan : Nat) (x_this_fault : Int32) (x_this_place : Int32) (hg_this_text : ia g_this_text 1600 0 255) (hx_this_at : ib x_this_at 0 1600) (hx_this_behind : ib x_this_behind 0 1600) (hx_this_sort : ib x_this_sort 0 4) (hc0_this : ¬ x_this_sort = 0 → ib x_this_at 0 1599) : k_Met l yX5_wordIn cX5_wordIn 6 (some .int) { frames := 4, cells := 0, slots := 0, locals := 141 } dC dI cy sq [.ref a_this, .ref (sq 4)] [(wo_5_riiiiirii a_this a_this_text x_this_length x_this_at x_this_behind x_this_sort x_this_allowed a_this_plan x_this_fault x_this_place), (wi_0_1600_0 a_this_text cy g_this_text)] (k_Qi dC dI (fun (r : Int32) (_ : Unit) => (F_X5_wordIn_s4 (lf_A g_this_text) (Int32.toInt x_this_at) (Int32.toInt x_this_behind) (Int32.toInt x_this_sort) = ((Int32.toInt r)))) (fun _ : Unit => [(wo_5_riiiiirii a_this a_this_text x_this_length x_this_at x_this_behind x_this_sort x_this_allowed a_this_plan x_this_fault x_this_place), (wi_0_1600_0 a_this_text cy g_this_text)])) := by
  refine k_ofW2 (by decide +kernel) (Nat.le_of_ble_eq_true rfl) ?_
  intro p e s m below meth c A ls H locs args Q hQ C0 hZ hr hlk hin hP hD hA hS hl
  have C0 : k_cx p s m args c cX5_wordIn 6 RX5 dC dI cy sq := C0
  have hx := C0.1
  have hb := C0.2.1
  have hl : lv_has ls 6 [(0, .ref a_this), (1, .ref (sq 4))] := hl
  obtain ⟨O, hO⟩ : ∃ o, o = F_X5_wordIn_s4 (lf_A g_this_text) (Int32.toInt x_this_at) (Int32.toInt x_this_behind) (Int32.toInt x_this_sort) := ⟨_, rfl⟩
  have hq := hO
  unfold F_X5_wordIn_s4 at hq
  have jn23 : ∀ (n : Nat) (J23_l2 : Int32) (J23_l3 : Int32) (J23_l4 : Int32) (J23_l5 : Int32) (H : Heap) (locs : List Loc) (ls : Array Slot), ib x_this_at 0 1599 → ib x_this_sort 1 1 → ib J23_l3 0 1605 → ib J23_l4 0 1 → ib J23_l5 0 6 → (1 * J23_l3.toInt + (-1) * J23_l5.toInt ≤ 1600) → (O = F_X5_wordIn_s4_23 (lf_A g_this_text) (Int32.toInt x_this_at) (Int32.toInt x_this_behind) n (Int32.toInt J23_l2) (Int32.toInt J23_l3) (Int32.toInt J23_l4) (Int32.toInt J23_l5)) → 7 ≤ J23_l5.toInt + (n : Int) → va_P (dC, dI) vwCl [(wo_5_riiiiirii a_this a_this_text x_this_length x_this_at x_this_behind x_this_sort x_this_allowed a_this_plan x_this_fault x_this_place), (wi_0_1600_0 a_this_text cy g_this_text)] H → va_D A [(wo_5_riiiiirii a_this a_this_text x_this_length x_this_at x_this_behind x_this_sort x_this_allowed a_this_plan x_this_fault x_this_place), (wi_0_1600_0 a_this_text cy g_this_text)] → va_S A s.heap H locs → lv_has ls 6 [(0, .ref a_this), (1, .ref (sq 4)), (2, .int J23_l2), (3, .int J23_l3), (4, .int J23_l4), (5, .int J23_l5)] → W p l e { frames := 4, cells := 0, slots := 0, locals := 141 } s m args below meth c H locs 0 0 Q (F0 m 23 ls []) := by
    as_aux_lemma =>
      intro n
      induction n with
      | zero =>
        intro J23_l2 J23_l3 J23_l4 J23_l5 H locs ls hK23_x_this_at hK23_x_this_sort hJ23_l3 hJ23_l4 hJ23_l5 hJ23_lin0 hq hm
        exact absurd hm (by have := hJ23_l5; unfold ib at this; omega)
      | succ n ih =>
        intro J23_l2 J23_l3 J23_l4 J23_l5 H locs ls hK23_x_this_at hK23_x_this_sort hJ23_l3 hJ23_l4 hJ23_l5 hJ23_lin0 hq hm23 hP hD hS hl
        have ih23 := ih
        obtain ⟨K23, hK23⟩ : ∃ K, K = F_X5_wordIn_s4_23 (lf_A g_this_text) (Int32.toInt x_this_at) (Int32.toInt x_this_behind) n := ⟨_, rfl⟩
        have hq : O = F_X5_wordIn_s4_23b (lf_A g_this_text) (Int32.toInt x_this_at) (Int32.toInt x_this_behind) K23 (Int32.toInt J23_l2) (Int32.toInt J23_l3) (Int32.toInt J23_l4) (Int32.toInt J23_l5) := by rw [hK23]; exact hq
        unfold F_X5_wordIn_s4_23b at hq
        have jn119 : ∀ (J119_l2 : Int32) (J119_l3 : Int32) (J119_l4 : Int32) (H : Heap) (locs : List Loc) (ls : Array Slot), ib x_this_at 0 1599 → ib J23_l5 0 5 → ib x_this_sort 1 1 → ib J119_l3 0 1605 → ib J119_l4 0 1 → (1 * J119_l3.toInt + (-1) * J23_l5.toInt ≤ 1601) → (O = F_X5_wordIn_s4_119 (Int32.toInt J23_l5) K23 (Int32.toInt J119_l2) (Int32.toInt J119_l3) (Int32.toInt J119_l4)) → va_P (dC, dI) vwCl [(wo_5_riiiiirii a_this a_this_text x_this_length x_this_at x_this_behind x_this_sort x_this_allowed a_this_plan x_this_fault x_this_place), (wi_0_1600_0 a_this_text cy g_this_text)] H → va_D A [(wo_5_riiiiirii a_this a_this_text x_this_length x_this_at x_this_behind x_this_sort x_this_allowed a_this_plan x_this_fault x_this_place), (wi_0_1600_0 a_this_text cy g_this_text)] → va_S A s.heap H locs → lv_has ls 6 [(0, .ref a_this), (1, .ref (sq 4)), (2, .int J119_l2), (3, .int J119_l3), (4, .int J119_l4), (5, .int J23_l5)] → W p l e { frames := 4, cells := 0, slots := 0, locals := 141 } s m args below meth c H locs 0 0 Q (F0 m 119 ls []) := by
          intro J119_l2 J119_l3 J119_l4 H locs ls hK119_x_this_at hK119_J23_l5 hK119_x_this_sort hJ119_l3 hJ119_l4 hJ119_lin0 hq hP hD hS hl
          unfold F_X5_wordIn_s4_119 at hq
          obtain ⟨z1, ez1⟩ : ∃ y : Int32, y = J23_l5 + 1 := ⟨_, rfl⟩
          refine lv_iinc (v := z1) (lv' := [(5, .int z1), (0, .ref a_this), (1, .ref (sq 4)), (2, .int J119_l2), (3, .int J119_l3), (4, .int J119_l4)]) hx hb dX5_wordIn_119 hl (k := 5) rfl (by rw [ez1]; rfl) (Nat.le_of_ble_eq_true rfl) rfl (fun ls hl => ?_)
          have h2 := ib_add hK119_J23_l5 (ib_c 1 1 1 rfl) rfl
          rw [← ez1] at h2
          have h3 : ib z1 1 6 := ib_w 1 6 h2.1 rfl
          have Ez1 := lf_add h2.2 (lf_rf J23_l5) (lf_lc 1 (1 : Int) rfl)
          refine lv_goto (tgt := 23) hx hb dX5_wordIn_122 rfl ?_
          exact ih23 J119_l2 J119_l3 J119_l4 z1 H locs ls (ib_w 0 1599 hK119_x_this_at rfl) (ib_w 1 1 hK119_x_this_sort rfl) (ib_w 0 1605 hJ119_l3 rfl) (ib_w 0 1 hJ119_l4 rfl) (ib_w 0 6 h3 rfl) (by have := h2.2; have : (1 : Int32).toInt = 1 := rfl; have := hJ119_lin0; omega) (by rw [← hK23]; rw [lf_u Ez1]; exact hq) (by have := h2.2; have : (1 : Int32).toInt = 1 := rfl; omega) hP hD hS (lv_sub hl [1, 2, 3, 4, 5, 0] rfl)
        have jn114 : ∀ (J114_s0 : Int32) (H : Heap) (locs : List Loc) (ls : Array Slot), ib J23_l3 0 1604 → ib J23_l4 0 1 → ib J23_l5 0 4 → ib x_this_at 0 1599 → ib x_this_sort 1 1 → ib J114_s0 0 1 → (1 * J23_l3.toInt + (-1) * J23_l5.toInt ≤ 1600) → (O = F_X5_wordIn_s4_114 (Int32.toInt J23_l2) (Int32.toInt J23_l3) (Int32.toInt J23_l5) K23 (Int32.toInt J114_s0)) → va_P (dC, dI) vwCl [(wo_5_riiiiirii a_this a_this_text x_this_length x_this_at x_this_behind x_this_sort x_this_allowed a_this_plan x_this_fault x_this_place), (wi_0_1600_0 a_this_text cy g_this_text)] H → va_D A [(wo_5_riiiiirii a_this a_this_text x_this_length x_this_at x_this_behind x_this_sort x_this_allowed a_this_plan x_this_fault x_this_place), (wi_0_1600_0 a_this_text cy g_this_text)] → va_S A s.heap H locs → lv_has ls 6 [(0, .ref a_this), (1, .ref (sq 4)), (2, .int J23_l2), (3, .int J23_l3), (4, .int J23_l4), (5, .int J23_l5)] → W p l e { frames := 4, cells := 0, slots := 0, locals := 141 } s m args below meth c H locs 0 0 Q (F0 m 114 ls [.int J114_s0]) := by
          intro J114_s0 H locs ls hK114_J23_l3 hK114_J23_l4 hK114_J23_l5 hK114_x_this_at hK114_x_this_sort hJ114_s0 hJ114_lin0 hq hP hD hS hl
          unfold F_X5_wordIn_s4_114 at hq
          refine lv_istore (lv' := [(4, .int J114_s0), (0, .ref a_this), (1, .ref (sq 4)), (2, .int J23_l2), (3, .int J23_l3), (5, .int J23_l5)]) hx hb dX5_wordIn_114 hl (Nat.le_of_ble_eq_true rfl) rfl (fun ls hl => ?_)
          obtain ⟨z4, ez4⟩ : ∃ y : Int32, y = J23_l3 + 1 := ⟨_, rfl⟩
          refine lv_iinc (v := z4) (lv' := [(3, .int z4), (4, .int J114_s0), (0, .ref a_this), (1, .ref (sq 4)), (2, .int J23_l2), (5, .int J23_l5)]) hx hb dX5_wordIn_116 hl (k := 4) rfl (by rw [ez4]; rfl) (Nat.le_of_ble_eq_true rfl) rfl (fun ls hl => ?_)
          have h5 := ib_add hK114_J23_l3 (ib_c 1 1 1 rfl) rfl
          rw [← ez4] at h5
          have h6 : ib z4 1 1605 := ib_w 1 1605 h5.1 rfl
          have Ez4 := lf_add h5.2 (lf_rf J23_l3) (lf_lc 1 (1 : Int) rfl)
          exact jn119 J23_l2 z4 J114_s0 H locs ls (ib_w 0 1599 hK114_x_this_at rfl) (ib_w 0 5 hK114_J23_l5 rfl) (ib_w 1 1 hK114_x_this_sort rfl) (ib_w 0 1605 h6 rfl) (ib_w 0 1 hJ114_s0 rfl) (by have := (hK114_J23_l5).1; have := hJ23_lin0; have := (h6).2; have := h5.2; have : (1 : Int32).toInt = 1 := rfl; omega) (by rw [lf_u Ez4]; exact hq) hP hD hS (lv_sub hl [2, 3, 4, 0, 1, 5] rfl)
        have jn113 : ∀  (H : Heap) (locs : List Loc) (ls : Array Slot), ib J23_l3 0 1604 → ib J23_l4 0 1 → ib J23_l5 0 4 → ib x_this_at 0 1599 → ib x_this_sort 1 1 → (1 * J23_l3.toInt + (-1) * J23_l5.toInt ≤ 1600) → (O = F_X5_wordIn_s4_113 (Int32.toInt J23_l2) (Int32.toInt J23_l3) (Int32.toInt J23_l5) K23 ) → va_P (dC, dI) vwCl [(wo_5_riiiiirii a_this a_this_text x_this_length x_this_at x_this_behind x_this_sort x_this_allowed a_this_plan x_this_fault x_this_place), (wi_0_1600_0 a_this_text cy g_this_text)] H → va_D A [(wo_5_riiiiirii a_this a_this_text x_this_length x_this_at x_this_behind x_this_sort x_this_allowed a_this_plan x_this_fault x_this_place), (wi_0_1600_0 a_this_text cy g_this_text)] → va_S A s.heap H locs → lv_has ls 6 [(0, .ref a_this), (1, .ref (sq 4)), (2, .int J23_l2), (3, .int J23_l3), (4, .int J23_l4), (5, .int J23_l5)] → W p l e { frames := 4, cells := 0, slots := 0, locals := 141 } s m args below meth c H locs 0 0 Q (F0 m 113 ls []) := by
          intro H locs ls hK113_J23_l3 hK113_J23_l4 hK113_J23_l5 hK113_x_this_at hK113_x_this_sort hJ113_lin0 hq hP hD hS hl
          unfold F_X5_wordIn_s4_113 at hq
          refine lv_iconst (v := 0) hx hb dX5_wordIn_113 rfl ?_
          exact jn114 0 H locs ls (ib_w 0 1604 hK113_J23_l3 rfl) (ib_w 0 1 hK113_J23_l4 rfl) (ib_w 0 4 hK113_J23_l5 rfl) (ib_w 0 1599 hK113_x_this_at rfl) (ib_w 1 1 hK113_x_this_sort rfl) (ib_w 0 1 (ib_c 0 0 0 rfl) rfl) (by have := hJ23_lin0; omega) (by try simp only [show (0 : Int32).toInt = (0 : Int) from rfl]; exact hq) hP hD hS (lv_sub hl [0, 1, 2, 3, 4, 5] rfl)
        have jn67 : ∀  (H : Heap) (locs : List Loc) (ls : Array Slot), ib J23_l3 0 1605 → ib J23_l4 0 1 → ib J23_l5 0 5 → ib x_this_at 0 1599 → ib x_this_sort 1 1 → (O = F_X5_wordIn_s4_67 (Int32.toInt x_this_at) (Int32.toInt J23_l2) (Int32.toInt J23_l5) K23 ) → va_P (dC, dI) vwCl [(wo_5_riiiiirii a_this a_this_text x_this_length x_this_at x_this_behind x_this_sort x_this_allowed a_this_plan x_this_fault x_this_place), (wi_0_1600_0 a_this_text cy g_this_text)] H → va_D A [(wo_5_riiiiirii a_this a_this_text x_this_length x_this_at x_this_behind x_this_sort x_this_allowed a_this_plan x_this_fault x_this_place), (wi_0_1600_0 a_this_text cy g_this_text)] → va_S A s.heap H locs → lv_has ls 6 [(0, .ref a_this), (1, .ref (sq 4)), (2, .int J23_l2), (3, .int J23_l3), (4, .int J23_l4), (5, .int J23_l5)] → W p l e { frames := 4, cells := 0, slots := 0, locals := 141 } s m args below meth c H locs 0 0 Q (F0 m 67 ls []) := by
          intro H locs ls hK67_J23_l3 hK67_J23_l4 hK67_J23_l5 hK67_x_this_at hK67_x_this_sort hq hP hD hS hl
          unfold F_X5_wordIn_s4_67 at hq
          obtain ⟨z7, ez7⟩ : ∃ y : Int32, y = J23_l2 + 1 := ⟨_, rfl⟩
          refine lv_iinc (v := z7) (lv' := [(2, .int z7), (0, .ref a_this), (1, .ref (sq 4)), (3, .int J23_l3), (4, .int J23_l4), (5, .int J23_l5)]) hx hb dX5_wordIn_67 hl (k := 2) rfl (by rw [ez7]; rfl) (Nat.le_of_ble_eq_true rfl) rfl (fun ls hl => ?_)
          have Ez7 := lf_op lf_iadd ez7 (lf_rf J23_l2) (lf_lc 1 (1 : Int) rfl)
          refine lv_aload_n hx hb dX5_wordIn_70 rfl (lv_at hl 1 rfl) ?_
          refine k_get C0 fg_X5_15 hP 0 rfl rfl dX5_wordIn_71 ?_
          refine lv_istore_n (lv' := [(3, .int x_this_at), (2, .int z7), (0, .ref a_this), (1, .ref (sq 4)), (4, .int J23_l4), (5, .int J23_l5)]) hx hb dX5_wordIn_74 rfl hl (Nat.le_of_ble_eq_true rfl) rfl (fun ls hl => ?_)
          refine lv_iconst (v := 1) hx hb dX5_wordIn_75 rfl ?_
          refine lv_istore (lv' := [(4, .int 1), (3, .int x_this_at), (2, .int z7), (0, .ref a_this), (1, .ref (sq 4)), (5, .int J23_l5)]) hx hb dX5_wordIn_76 hl (Nat.le_of_ble_eq_true rfl) rfl (fun ls hl => ?_)
          refine lv_goto (tgt := 119) hx hb dX5_wordIn_78 rfl ?_
          exact jn119 z7 x_this_at 1 H locs ls (ib_w 0 1599 hK67_x_this_at rfl) (ib_w 0 5 hK67_J23_l5 rfl) (ib_w 1 1 hK67_x_this_sort rfl) (ib_w 0 1605 hK67_x_this_at rfl) (ib_w 0 1 (ib_c 1 1 1 rfl) rfl) (by have := (hK67_J23_l5).1; have := (hK67_x_this_at).2; omega) (by rw [lf_u Ez7]; try simp only [show (1 : Int32).toInt = (1 : Int) from rfl]; exact hq) hP hD hS (lv_sub hl [3, 4, 2, 1, 0, 5] rfl)
        have jn52 : ∀  (H : Heap) (locs : List Loc) (ls : Array Slot), ib J23_l3 0 1605 → ib J23_l4 0 1 → ib J23_l5 0 5 → ib x_this_at 0 1599 → ib x_this_sort 1 1 → (O = F_X5_wordIn_s4_52 (Int32.toInt x_this_at) (Int32.toInt x_this_behind) (Int32.toInt J23_l2) (Int32.toInt J23_l3) (Int32.toInt J23_l4) (Int32.toInt J23_l5) K23 ) → va_P (dC, dI) vwCl [(wo_5_riiiiirii a_this a_this_text x_this_length x_this_at x_this_behind x_this_sort x_this_allowed a_this_plan x_this_fault x_this_place), (wi_0_1600_0 a_this_text cy g_this_text)] H → va_D A [(wo_5_riiiiirii a_this a_this_text x_this_length x_this_at x_this_behind x_this_sort x_this_allowed a_this_plan x_this_fault x_this_place), (wi_0_1600_0 a_this_text cy g_this_text)] → va_S A s.heap H locs → lv_has ls 6 [(0, .ref a_this), (1, .ref (sq 4)), (2, .int J23_l2), (3, .int J23_l3), (4, .int J23_l4), (5, .int J23_l5)] → W p l e { frames := 4, cells := 0, slots := 0, locals := 141 } s m args below meth c H locs 0 0 Q (F0 m 52 ls []) := by
          as_aux_lemma =>
            intro H locs ls hK52_J23_l3 hK52_J23_l4 hK52_J23_l5 hK52_x_this_at hK52_x_this_sort hq hP hD hS hl
            unfold F_X5_wordIn_s4_52 at hq
            refine lv_iload hx hb dX5_wordIn_52 (lv_at hl 4 rfl) ?_
            refine lv_if_eq (tgt := 67) hx hb dX5_wordIn_54 rfl (fun c8 => ?_) (fun c8 => ?_)
            · replace hq := lf_pos hq (lf_eq (lf_rf J23_l4) (lf_lc 0 (0 : Int) rfl) c8)
              have h9 := ib_eq hK52_J23_l4 (ib_c 0 0 0 rfl) c8
              have h10 : ib J23_l4 0 0 := ib_w 0 0 h9.1 rfl
              exact jn67  H locs ls (ib_w 0 1605 hK52_J23_l3 rfl) (ib_w 0 1 h10 rfl) (ib_w 0 5 hK52_J23_l5 rfl) (ib_w 0 1599 hK52_x_this_at rfl) (ib_w 1 1 hK52_x_this_sort rfl) (by exact hq) hP hD hS (lv_sub hl [0, 1, 2, 3, 4, 5] rfl)
            · replace hq := lf_neg hq (lf_ne (lf_rf J23_l4) (lf_lc 0 (0 : Int) rfl) c8)
              have h11 : ib J23_l4 1 1 := ib_w 1 1 (ib_ne_lo 0 hK52_J23_l4 rfl c8) rfl
              refine lv_iload_n hx hb dX5_wordIn_57 rfl (lv_at hl 3 rfl) ?_
              refine lv_aload_n hx hb dX5_wordIn_58 rfl (lv_at hl 0 rfl) ?_
              refine k_get C0 fg_X5_18 hP 0 rfl rfl dX5_wordIn_59 ?_
              refine lv_icmp_ne (tgt := 67) hx hb dX5_wordIn_62 rfl (fun c12 => ?_) (fun c12 => ?_)
              · replace hq := lf_neg hq (lf_ne (lf_rf J23_l3) (lf_rf x_this_behind) c12)
                exact jn67  H locs ls (ib_w 0 1605 hK52_J23_l3 rfl) (ib_w 0 1 h11 rfl) (ib_w 0 5 hK52_J23_l5 rfl) (ib_w 0 1599 hK52_x_this_at rfl) (ib_w 1 1 hK52_x_this_sort rfl) (by exact hq) hP hD hS (lv_sub hl [0, 1, 2, 3, 4, 5] rfl)
              · replace hq := lf_pos hq (lf_eq (lf_rf J23_l3) (lf_rf x_this_behind) c12)
                have h13 := ib_eq hK52_J23_l3 hx_this_behind c12
                have h14 : ib J23_l3 0 1600 := ib_w 0 1600 h13.1 rfl
                refine lv_iload_n hx hb dX5_wordIn_65 rfl (lv_at hl 2 rfl) ?_
                subst hQ; exact k_iret hx hb hr hlk rfl () hS ((hO.symm.trans (by exact hq))) hP hD (Nat.le_of_ble_eq_true rfl) (Nat.le_of_ble_eq_true rfl) dX5_wordIn_66
        refine lv_iload hx hb dX5_wordIn_23 (lv_at hl 5 rfl) ?_
        refine lv_aload_n hx hb dX5_wordIn_25 rfl (lv_at hl 1 rfl) ?_
        refine k_jim hP hD hS hA [] [true, true] rfl rfl rfl 0 0 (Nat.le_of_ble_eq_true rfl) (Nat.le_of_ble_eq_true rfl) (fun hPc hDc => k_runVO (As := []) (rest := [.int J23_l5]) C0 hZ hS hA (c_length l dC dI cy sq 4 (by decide)) mV_X5_244 hPc hDc (vk_recv hZ.1 (by decide) hS) hl rfl rfl (Nat.le_of_ble_eq_true rfl) ⟨(Nat.le_of_ble_eq_true rfl), (Nat.le_of_ble_eq_true rfl)⟩ ⟨(Nat.le_of_ble_eq_true rfl), (Nat.le_of_ble_eq_true rfl)⟩ dX5_wordIn_26) (fun r15 u16 H locs hw hP hD hS => ?_)
        replace hP : va_P (dC, dI) vwCl [(wo_5_riiiiirii a_this a_this_text x_this_length x_this_at x_this_behind x_this_sort x_this_allowed a_this_plan x_this_fault x_this_place), (wi_0_1600_0 a_this_text cy g_this_text)] H := hP
        replace hD := k_D hP hD
        obtain rfl : r15 = 5 := hw.trans (by decide)
        refine lv_icmp_gt (tgt := 125) hx hb dX5_wordIn_29 rfl (fun c17 => ?_) (fun c17 => ?_)
        · replace hq := lf_pos hq (lf_lt (lf_lc 5 (5 : Int) rfl) (lf_rf J23_l5) c17)
          have h18 := ib_lt (ib_c 5 5 5 rfl) hJ23_l5 c17
          have h19 : ib J23_l5 6 6 := ib_w 6 6 h18.2 rfl
          refine lv_iconst (v := (-1)) hx hb dX5_wordIn_125 rfl ?_
          subst hQ; exact k_iret hx hb hr hlk rfl () hS ((hO.symm.trans (by try simp only [show ((-1) : Int32).toInt = (-1 : Int) from rfl]; exact hq))) hP hD (Nat.le_of_ble_eq_true rfl) (Nat.le_of_ble_eq_true rfl) dX5_wordIn_126
        · as_aux_lemma =>
            replace hq := lf_neg hq (lf_nlt (lf_lc 5 (5 : Int) rfl) (lf_rf J23_l5) c17)
            have h20 := ib_nlt (ib_c 5 5 5 rfl) hJ23_l5 c17
            have h21 : ib J23_l5 0 5 := ib_w 0 5 h20.2 rfl
            refine lv_iload hx hb dX5_wordIn_32 (lv_at hl 5 rfl) ?_
            refine lv_aload_n hx hb dX5_wordIn_34 rfl (lv_at hl 1 rfl) ?_
            refine k_jim hP hD hS hA [] [true, true] rfl rfl rfl 0 0 (Nat.le_of_ble_eq_true rfl) (Nat.le_of_ble_eq_true rfl) (fun hPc hDc => k_runVO (As := []) (rest := [.int J23_l5]) C0 hZ hS hA (c_length l dC dI cy sq 4 (by decide)) mV_X5_244 hPc hDc (vk_recv hZ.1 (by decide) hS) hl rfl rfl (Nat.le_of_ble_eq_true rfl) ⟨(Nat.le_of_ble_eq_true rfl), (Nat.le_of_ble_eq_true rfl)⟩ ⟨(Nat.le_of_ble_eq_true rfl), (Nat.le_of_ble_eq_true rfl)⟩ dX5_wordIn_35) (fun r22 u23 H locs hw hP hD hS => ?_)
            replace hP : va_P (dC, dI) vwCl [(wo_5_riiiiirii a_this a_this_text x_this_length x_this_at x_this_behind x_this_sort x_this_allowed a_this_plan x_this_fault x_this_place), (wi_0_1600_0 a_this_text cy g_this_text)] H := hP
            replace hD := k_D hP hD
            obtain rfl : r22 = 5 := hw.trans (by decide)
            refine lv_icmp_eq (tgt := 52) hx hb dX5_wordIn_38 rfl (fun c24 => ?_) (fun c24 => ?_)
            · replace hq := lf_pos hq (lf_eq (lf_rf J23_l5) (lf_lc 5 (5 : Int) rfl) c24)
              have h25 := ib_eq h21 (ib_c 5 5 5 rfl) c24
              have h26 : ib J23_l5 5 5 := ib_w 5 5 h25.1 rfl
              exact jn52  H locs ls (ib_w 0 1605 hJ23_l3 rfl) (ib_w 0 1 hJ23_l4 rfl) (ib_w 0 5 h26 rfl) (ib_w 0 1599 hK23_x_this_at rfl) (ib_w 1 1 hK23_x_this_sort rfl) (by exact hq) hP hD hS (lv_sub hl [0, 1, 2, 3, 4, 5] rfl)
            · as_aux_lemma =>
                replace hq := lf_neg hq (lf_ne (lf_rf J23_l5) (lf_lc 5 (5 : Int) rfl) c24)
                have h27 : ib J23_l5 0 4 := ib_w 0 4 (ib_ne_hi 5 h21 rfl c24) rfl
                refine lv_aload_n hx hb dX5_wordIn_41 rfl (lv_at hl 1 rfl) ?_
                refine lv_iload hx hb dX5_wordIn_42 (lv_at hl 5 rfl) ?_
                refine k_jim hP hD hS hA [] [true, true] rfl rfl rfl 0 0 (Nat.le_of_ble_eq_true rfl) (Nat.le_of_ble_eq_true rfl) (fun hPc hDc => k_runVO (As := [.int J23_l5]) (rest := []) C0 hZ hS hA (cx_charAt l dC dI cy sq 4 (by decide) J23_l5 (ib_ch 4 5 h27 rfl rfl).1 (ib_ch 4 5 h27 rfl rfl).2.1 (ib_ch 4 5 h27 rfl rfl).2.2) mV_X5_248 hPc hDc (vk_recv hZ.1 (by decide) hS) hl rfl rfl (Nat.le_of_ble_eq_true rfl) ⟨(Nat.le_of_ble_eq_true rfl), (Nat.le_of_ble_eq_true rfl)⟩ ⟨(Nat.le_of_ble_eq_true rfl), (Nat.le_of_ble_eq_true rfl)⟩ dX5_wordIn_44) (fun r28 u29 H locs hw hP hD hS => ?_)
                replace hP : va_P (dC, dI) vwCl [(wo_5_riiiiirii a_this a_this_text x_this_length x_this_at x_this_behind x_this_sort x_this_allowed a_this_plan x_this_fault x_this_place), (wi_0_1600_0 a_this_text cy g_this_text)] H := hP
                replace hD := k_D hP hD
                have Er28 := lf_cha (j := 4) hw (lf_rf J23_l5)
                refine lv_bipush (v := 32) hx hb dX5_wordIn_47 rfl ?_
                refine lv_icmp_ne (tgt := 81) hx hb dX5_wordIn_49 rfl (fun c30 => ?_) (fun c30 => ?_)
                · as_aux_lemma =>
                    replace hq := lf_neg hq (lf_ne Er28 (lf_lc 32 (32 : Int) rfl) c30)
                    refine lv_iload hx hb dX5_wordIn_81 (lv_at hl 4 rfl) ?_
                    refine lv_if_eq (tgt := 113) hx hb dX5_wordIn_83 rfl (fun c31 => ?_) (fun c31 => ?_)
                    · replace hq := lf_pos hq (lf_eq (lf_rf J23_l4) (lf_lc 0 (0 : Int) rfl) c31)
                      have h32 := ib_eq hJ23_l4 (ib_c 0 0 0 rfl) c31
                      have h33 : ib J23_l4 0 0 := ib_w 0 0 h32.1 rfl
                      have h34 : ib J23_l3 0 1604 := ⟨(hJ23_l3).1, by have := (hJ23_l3).2; have := hJ23_lin0; have := (h27).2; omega⟩
                      exact jn113  H locs ls (ib_w 0 1604 h34 rfl) (ib_w 0 1 h33 rfl) (ib_w 0 4 h27 rfl) (ib_w 0 1599 hK23_x_this_at rfl) (ib_w 1 1 hK23_x_this_sort rfl) (by have := hJ23_lin0; omega) (by exact hq) hP hD hS (lv_sub hl [0, 1, 2, 3, 4, 5] rfl)
                    · as_aux_lemma =>
                        replace hq := lf_neg hq (lf_ne (lf_rf J23_l4) (lf_lc 0 (0 : Int) rfl) c31)
                        have h35 : ib J23_l4 1 1 := ib_w 1 1 (ib_ne_lo 0 hJ23_l4 rfl c31) rfl
                        refine lv_iload_n hx hb dX5_wordIn_86 rfl (lv_at hl 3 rfl) ?_
                        refine lv_aload_n hx hb dX5_wordIn_87 rfl (lv_at hl 0 rfl) ?_
                        refine k_get C0 fg_X5_18 hP 0 rfl rfl dX5_wordIn_88 ?_
                        refine lv_icmp_ge (tgt := 113) hx hb dX5_wordIn_91 rfl (fun c36 => ?_) (fun c36 => ?_)
                        · replace hq := lf_pos hq (lf_le (lf_rf x_this_behind) (lf_rf J23_l3) c36)
                          have h37 := ib_le hx_this_behind hJ23_l3 c36
                          have h38 : ib J23_l3 0 1604 := ⟨(hJ23_l3).1, by have := (hJ23_l3).2; have := hJ23_lin0; have := (h27).2; omega⟩
                          exact jn113  H locs ls (ib_w 0 1604 h38 rfl) (ib_w 0 1 h35 rfl) (ib_w 0 4 h27 rfl) (ib_w 0 1599 hK23_x_this_at rfl) (ib_w 1 1 hK23_x_this_sort rfl) (by have := hJ23_lin0; omega) (by exact hq) hP hD hS (lv_sub hl [0, 1, 2, 3, 4, 5] rfl)
                        · as_aux_lemma =>
                            replace hq := lf_neg hq (lf_nle (lf_rf x_this_behind) (lf_rf J23_l3) c36)
                            have h39 := ib_nle hx_this_behind hJ23_l3 c36
                            have h40 : ib x_this_behind 1 1600 := ib_w 1 1600 h39.1 rfl
                            have h41 : ib J23_l3 0 1599 := ib_w 0 1599 h39.2 rfl
                            refine lv_aload_n hx hb dX5_wordIn_94 rfl (lv_at hl 0 rfl) ?_
                            refine k_get C0 fg_X5_33 hP 0 rfl rfl dX5_wordIn_95 ?_
                            refine lv_iload_n hx hb dX5_wordIn_98 rfl (lv_at hl 3 rfl) ?_
                            refine va_iald hx hb C0.2.2.2.2.2.1 hP 1 0 rfl rfl (ib_in 1600 h41 rfl) dX5_wordIn_99 ?_
                            refine lv_topi (fun z42 ez42 => ?_)
                            have h43 : ib z42 0 255 := by rw [ez42]; exact ia_at hg_this_text (ib_in 1600 h41 rfl)
                            have Ez42 := lf_ld ez42 (lf_ra g_this_text) (lf_rf J23_l3)
                            refine lv_aload_n hx hb dX5_wordIn_100 rfl (lv_at hl 1 rfl) ?_
                            refine lv_iload hx hb dX5_wordIn_101 (lv_at hl 5 rfl) ?_
                            refine k_jim hP hD hS hA [] [true, true] rfl rfl rfl 0 0 (Nat.le_of_ble_eq_true rfl) (Nat.le_of_ble_eq_true rfl) (fun hPc hDc => k_runVO (As := [.int J23_l5]) (rest := [.int z42]) C0 hZ hS hA (cx_charAt l dC dI cy sq 4 (by decide) J23_l5 (ib_ch 4 5 h27 rfl rfl).1 (ib_ch 4 5 h27 rfl rfl).2.1 (ib_ch 4 5 h27 rfl rfl).2.2) mV_X5_248 hPc hDc (vk_recv hZ.1 (by decide) hS) hl rfl rfl (Nat.le_of_ble_eq_true rfl) ⟨(Nat.le_of_ble_eq_true rfl), (Nat.le_of_ble_eq_true rfl)⟩ ⟨(Nat.le_of_ble_eq_true rfl), (Nat.le_of_ble_eq_true rfl)⟩ dX5_wordIn_103) (fun r44 u45 H locs hw hP hD hS => ?_)
                            replace hP : va_P (dC, dI) vwCl [(wo_5_riiiiirii a_this a_this_text x_this_length x_this_at x_this_behind x_this_sort x_this_allowed a_this_plan x_this_fault x_this_place), (wi_0_1600_0 a_this_text cy g_this_text)] H := hP
                            replace hD := k_D hP hD
                            have Er44 := lf_cha (j := 4) hw (lf_rf J23_l5)
                            refine lv_icmp_ne (tgt := 113) hx hb dX5_wordIn_106 rfl (fun c46 => ?_) (fun c46 => ?_)
                            · replace hq := lf_neg hq (lf_ne Ez42 Er44 c46)
                              exact jn113  H locs ls (ib_w 0 1604 h41 rfl) (ib_w 0 1 h35 rfl) (ib_w 0 4 h27 rfl) (ib_w 0 1599 hK23_x_this_at rfl) (ib_w 1 1 hK23_x_this_sort rfl) (by have := hJ23_lin0; omega) (by exact hq) hP hD hS (lv_sub hl [0, 1, 2, 3, 4, 5] rfl)
                            · replace hq := lf_pos hq (lf_eq Ez42 Er44 c46)
                              have h47 := ib_eq h43 (ib_any r44) c46
                              have h48 : ib r44 0 255 := ib_w 0 255 h47.2 rfl
                              refine lv_iconst (v := 1) hx hb dX5_wordIn_109 rfl ?_
                              refine lv_goto (tgt := 114) hx hb dX5_wordIn_110 rfl ?_
                              exact jn114 1 H locs ls (ib_w 0 1604 h41 rfl) (ib_w 0 1 h35 rfl) (ib_w 0 4 h27 rfl) (ib_w 0 1599 hK23_x_this_at rfl) (ib_w 1 1 hK23_x_this_sort rfl) (ib_w 0 1 (ib_c 1 1 1 rfl) rfl) (by have := hJ23_lin0; omega) (by try simp only [show (1 : Int32).toInt = (1 : Int) from rfl]; exact hq) hP hD hS (lv_sub hl [0, 1, 2, 3, 4, 5] rfl)
                · replace hq := lf_pos hq (lf_eq Er28 (lf_lc 32 (32 : Int) rfl) c30)
                  have h49 := ib_eq (ib_any r28) (ib_c 32 32 32 rfl) c30
                  have h50 : ib r28 32 32 := ib_w 32 32 h49.1 rfl
                  have h51 : ib J23_l3 0 1604 := ⟨(hJ23_l3).1, by have := (hJ23_l3).2; have := hJ23_lin0; have := (h27).2; omega⟩
                  exact jn52  H locs ls (ib_w 0 1605 h51 rfl) (ib_w 0 1 hJ23_l4 rfl) (ib_w 0 5 h27 rfl) (ib_w 0 1599 hK23_x_this_at rfl) (ib_w 1 1 hK23_x_this_sort rfl) (by exact hq) hP hD hS (lv_sub hl [0, 1, 2, 3, 4, 5] rfl)
  refine lv_aload_n hx hb dX5_wordIn_0 rfl (lv_at hl 0 rfl) ?_
  refine k_get C0 fg_X5_21 hP 0 rfl rfl dX5_wordIn_1 ?_
  refine lv_iconst (v := 1) hx hb dX5_wordIn_4 rfl ?_
  refine lv_icmp_eq (tgt := 10) hx hb dX5_wordIn_5 rfl (fun c52 => ?_) (fun c52 => ?_)
  · replace hq := lf_pos hq (lf_eq (lf_rf x_this_sort) (lf_lc 1 (1 : Int) rfl) c52)
    have h53 := ib_eq hx_this_sort (ib_c 1 1 1 rfl) c52
    have h54 : ib x_this_sort 1 1 := ib_w 1 1 h53.1 rfl
    have h55 : ib x_this_at 0 1599 := ib_w 0 1599 (ib_two hx_this_at (hc0_this (ib_nz h54 rfl))) rfl
    refine lv_iconst (v := 0) hx hb dX5_wordIn_10 rfl ?_
    refine lv_istore_n (lv' := [(2, .int 0), (0, .ref a_this), (1, .ref (sq 4))]) hx hb dX5_wordIn_11 rfl hl (Nat.le_of_ble_eq_true rfl) rfl (fun ls hl => ?_)
    refine lv_aload_n hx hb dX5_wordIn_12 rfl (lv_at hl 1 rfl) ?_
    refine k_get C0 fg_X5_15 hP 0 rfl rfl dX5_wordIn_13 ?_
    refine lv_istore_n (lv' := [(3, .int x_this_at), (2, .int 0), (0, .ref a_this), (1, .ref (sq 4))]) hx hb dX5_wordIn_16 rfl hl (Nat.le_of_ble_eq_true rfl) rfl (fun ls hl => ?_)
    refine lv_iconst (v := 1) hx hb dX5_wordIn_17 rfl ?_
    refine lv_istore (lv' := [(4, .int 1), (3, .int x_this_at), (2, .int 0), (0, .ref a_this), (1, .ref (sq 4))]) hx hb dX5_wordIn_18 hl (Nat.le_of_ble_eq_true rfl) rfl (fun ls hl => ?_)
    refine lv_iconst (v := 0) hx hb dX5_wordIn_20 rfl ?_
    refine lv_istore (lv' := [(5, .int 0), (4, .int 1), (3, .int x_this_at), (2, .int 0), (0, .ref a_this), (1, .ref (sq 4))]) hx hb dX5_wordIn_21 hl (Nat.le_of_ble_eq_true rfl) rfl (fun ls hl => ?_)
    exact jn23 8 0 x_this_at 1 0 H locs ls (ib_w 0 1599 h55 rfl) (ib_w 1 1 h54 rfl) (ib_w 0 1605 h55 rfl) (ib_w 0 1 (ib_c 1 1 1 rfl) rfl) (ib_w 0 6 (ib_c 0 0 0 rfl) rfl) (by have : (0 : Int32).toInt = 0 := rfl; have := (h55).2; omega) (by try simp only [show (0 : Int32).toInt = (0 : Int) from rfl]; try simp only [show (1 : Int32).toInt = (1 : Int) from rfl]; exact hq) (by have := (ib_c 0 0 0 rfl); unfold ib at this; omega) hP hD hS (lv_sub hl [4, 5, 3, 2, 1, 0] rfl)
  · replace hq := lf_neg hq (lf_ne (lf_rf x_this_sort) (lf_lc 1 (1 : Int) rfl) c52)
    refine lv_iconst (v := (-1)) hx hb dX5_wordIn_8 rfl ?_
    subst hQ; exact k_iret hx hb hr hlk rfl () hS ((hO.symm.trans (by try simp only [show ((-1) : Int32).toInt = (-1 : Int) from rfl]; exact hq))) hP hD (Nat.le_of_ble_eq_true rfl) (Nat.le_of_ble_eq_true rfl) dX5_wordIn_9
set_option maxHeartbeats 4000000 in
set_option maxRecDepth 100000 in
theorem s_X5_needWord_s4 (l : Launch) (dC : Nat → ClassId) (dI : Nat → Nat → Nat) (cy : Nat → ClassId) (sq : Nat → Nat) (a_this : Nat) (a_this_text : Nat) (g_this_text : Nat → Int32) (x_this_length : Int32) (x_this_at : Int32) (x_this_behind : Int32) (x_this_sort : Int32) (x_this_allowed : Int32) (a_this_plan : Nat) (x_this_fault : Int32) (x_this_place : Int32) (hg_this_text : ia g_this_text 1600 0 255) (hx_this_length : ib x_this_length 0 1600) (hx_this_at : ib x_this_at 0 1600) (hx_this_behind : ib x_this_behind 0 1600) (hx_this_sort : ib x_this_sort 0 4) (hc0_this : ¬ x_this_sort = 0 → ib x_this_at 0 1599) : k_Met l yX5_needWord cX5_needWord 2 none { frames := 5, cells := 0, slots := 0, locals := 166 } dC dI cy sq [.ref a_this, .ref (sq 4)] [(wo_5_riiiiirii a_this a_this_text x_this_length x_this_at x_this_behind x_this_sort x_this_allowed a_this_plan x_this_fault x_this_place), (wi_0_1600_0 a_this_text cy g_this_text)] (k_Qv dC dI (fun (u : Int32 × Int32 × Int32 × Int32 × Int32) => match u with | (n0, n1, n2, n3, n4) => ib n0 0 1600 ∧ ib n1 0 1600 ∧ ib n2 0 4 ∧ (¬ n2 = 0 → ib n0 0 1599) ∧ (F_X5_needWord_s4 (lf_A g_this_text) (Int32.toInt x_this_length) (Int32.toInt x_this_at) (Int32.toInt x_this_behind) (Int32.toInt x_this_sort) (Int32.toInt x_this_fault) (Int32.toInt x_this_place) = ((Int32.toInt n0), (Int32.toInt n1), (Int32.toInt n2), (Int32.toInt n3), (Int32.toInt n4)))) (fun u : Int32 × Int32 × Int32 × Int32 × Int32 => match u with | (n0, n1, n2, n3, n4) => [(wo_5_riiiiirii a_this a_this_text x_this_length n0 n1 n2 x_this_allowed a_this_plan n3 n4), (wi_0_1600_0 a_this_text cy g_this_text)])) := by
  refine k_ofW2 (by decide +kernel) (Nat.le_of_ble_eq_true rfl) ?_
  intro p e s m below meth c A ls H locs args Q hQ C0 hZ hr hlk hin hP hD hA hS hl
  have C0 : k_cx p s m args c cX5_needWord 2 RX5 dC dI cy sq := C0
  have hx := C0.1
  have hb := C0.2.1
  have hl : lv_has ls 2 [(0, .ref a_this), (1, .ref (sq 4))] := hl
  obtain ⟨O, hO⟩ : ∃ o, o = F_X5_needWord_s4 (lf_A g_this_text) (Int32.toInt x_this_length) (Int32.toInt x_this_at) (Int32.toInt x_this_behind) (Int32.toInt x_this_sort) (Int32.toInt x_this_fault) (Int32.toInt x_this_place) := ⟨_, rfl⟩
  have hq := hO
  unfold F_X5_needWord_s4 at hq
  refine lv_aload_n hx hb dX5_needWord_0 rfl (lv_at hl 0 rfl) ?_
  refine lv_aload_n hx hb dX5_needWord_1 rfl (lv_at hl 1 rfl) ?_
  refine k_jim hP hD hS hA [0, 1] [] rfl rfl rfl 0 0 (Nat.le_of_ble_eq_true rfl) (Nat.le_of_ble_eq_true rfl) (fun hPc hDc => k_runV (As := [.ref (sq 4)]) (rest := []) C0 hZ hS hA (s_X5_wordIn_s4 l dC dI cy sq a_this a_this_text g_this_text x_this_length x_this_at x_this_behind x_this_sort x_this_allowed a_this_plan x_this_fault x_this_place hg_this_text (ib_w 0 1600 hx_this_at rfl) (ib_w 0 1600 hx_this_behind rfl) (ib_w 0 4 hx_this_sort rfl) (fun hq9 => ib_w 0 1599 (hc0_this hq9) rfl)) mV_X5_54 hPc hDc rfl rfl rfl hl rfl rfl (Nat.le_of_ble_eq_true rfl) ⟨(Nat.le_of_ble_eq_true rfl), (Nat.le_of_ble_eq_true rfl)⟩ ⟨(Nat.le_of_ble_eq_true rfl), (Nat.le_of_ble_eq_true rfl)⟩ dX5_needWord_2) (fun r1 u2 H locs hw hP hD hS => ?_)
  try dsimp only at hP hD hw
  replace hP : va_P (dC, dI) vwCl [(wo_5_riiiiirii a_this a_this_text x_this_length x_this_at x_this_behind x_this_sort x_this_allowed a_this_plan x_this_fault x_this_place), (wi_0_1600_0 a_this_text cy g_this_text)] H := hP
  replace hD := k_D hP hD
  have h3 := hw
  replace hq := lf_b1 hq h3
  refine lv_iconst (v := (-1)) hx hb dX5_needWord_5 rfl ?_
  refine lv_icmp_ne (tgt := 21) hx hb dX5_needWord_6 rfl (fun c4 => ?_) (fun c4 => ?_)
  · replace hq := lf_neg hq (lf_ne (lf_rf r1) (lf_lc (-1) (-1 : Int) rfl) c4)
    refine lv_aload_n hx hb dX5_needWord_21 rfl (lv_at hl 0 rfl) ?_
    refine lv_aload_n hx hb dX5_needWord_22 rfl (lv_at hl 0 rfl) ?_
    refine k_get C0 fg_X5_18 hP 0 rfl rfl dX5_needWord_23 ?_
    refine k_jvm hP hD hS hA [0, 1] [] rfl rfl rfl 0 0 (Nat.le_of_ble_eq_true rfl) (Nat.le_of_ble_eq_true rfl) (fun hPc hDc => k_runV (As := [.int x_this_behind]) (rest := []) C0 hZ hS hA (s_X5_moveTo l dC dI cy sq a_this a_this_text g_this_text x_this_length x_this_at x_this_behind x_this_sort x_this_allowed a_this_plan x_this_fault x_this_place x_this_behind hg_this_text (ib_w 0 1600 hx_this_length rfl) (ib_w 0 1600 hx_this_behind rfl)) mV_X5_86 hPc hDc rfl rfl rfl hl rfl rfl (Nat.le_of_ble_eq_true rfl) ⟨(Nat.le_of_ble_eq_true rfl), (Nat.le_of_ble_eq_true rfl)⟩ ⟨(Nat.le_of_ble_eq_true rfl), (Nat.le_of_ble_eq_true rfl)⟩ dX5_needWord_26) (fun u6 H locs hw hP hD hS => ?_)
    obtain ⟨v7, v8, v9⟩ := u6
    try dsimp only at hP hD hw
    replace hP : va_P (dC, dI) vwCl [(wo_5_riiiiirii a_this a_this_text x_this_length v7 v8 v9 x_this_allowed a_this_plan x_this_fault x_this_place), (wi_0_1600_0 a_this_text cy g_this_text)] H := hP
    replace hD := k_D hP hD
    obtain ⟨h10, h11, h12, h13, h14⟩ := hw
    replace hq := lf_p1 hq h14
    replace hq := lf_p1 hq rfl
    subst hQ; exact k_vret hx hb hr hlk ((v7, v8, v9, x_this_fault, x_this_place)) hS ⟨ib_w 0 1600 h10 rfl, ib_w 0 1600 h11 rfl, ib_w 0 4 h12 rfl, fun hq9 => ib_w 0 1599 (h13 hq9) rfl, (hO.symm.trans (by exact hq))⟩ hP hD (Nat.le_of_ble_eq_true rfl) (Nat.le_of_ble_eq_true rfl) dX5_needWord_29
  · replace hq := lf_pos hq (lf_eq (lf_rf r1) (lf_lc (-1) (-1 : Int) rfl) c4)
    have h15 := ib_eq (ib_any r1) (ib_c (-1) (-1) (-1) rfl) c4
    have h16 : ib r1 (-1) (-1) := ib_w (-1) (-1) h15.1 rfl
    refine lv_aload_n hx hb dX5_needWord_9 rfl (lv_at hl 0 rfl) ?_
    refine lv_iconst (v := 1) hx hb dX5_needWord_10 rfl ?_
    refine lv_aload_n hx hb dX5_needWord_11 rfl (lv_at hl 0 rfl) ?_
    refine k_get C0 fg_X5_15 hP 0 rfl rfl dX5_needWord_12 ?_
    refine k_jvm hP hD hS hA [0] [false, true] rfl rfl rfl 0 0 (Nat.le_of_ble_eq_true rfl) (Nat.le_of_ble_eq_true rfl) (fun hPc hDc => k_runV (As := [.int 1, .int x_this_at]) (rest := []) C0 hZ hS hA (s_X5_fail l dC dI cy sq a_this a_this_text x_this_length x_this_at x_this_behind x_this_sort x_this_allowed a_this_plan x_this_fault x_this_place 1 x_this_at ) mV_X5_78 hPc hDc rfl rfl rfl hl rfl rfl (Nat.le_of_ble_eq_true rfl) ⟨(Nat.le_of_ble_eq_true rfl), (Nat.le_of_ble_eq_true rfl)⟩ ⟨(Nat.le_of_ble_eq_true rfl), (Nat.le_of_ble_eq_true rfl)⟩ dX5_needWord_15) (fun u18 H locs hw hP hD hS => ?_)
    obtain ⟨v19, v20⟩ := u18
    try dsimp only at hP hD hw
    replace hP : va_P (dC, dI) vwCl [(wi_0_1600_0 a_this_text cy g_this_text), (wo_5_riiiiirii a_this a_this_text x_this_length x_this_length x_this_length 0 x_this_allowed a_this_plan v19 v20)] H := hP
    replace hD := k_D hP hD
    have h21 := hw
    have h21 := by have h9 := h21; try simp only [show (1 : Int32).toInt = (1 : Int) from rfl] at h9; exact h9
    replace hq := lf_p1 hq h21
    refine lv_goto (tgt := 29) hx hb dX5_needWord_18 rfl ?_
    subst hQ; exact k_vret hx hb hr hlk ((x_this_length, x_this_length, 0, v19, v20)) hS ⟨ib_w 0 1600 hx_this_length rfl, ib_w 0 1600 hx_this_length rfl, ib_w 0 4 (ib_c 0 0 0 rfl) rfl, fun hq9 => absurd rfl hq9, (hO.symm.trans (by try simp only [show (0 : Int32).toInt = (0 : Int) from rfl]; exact hq))⟩ (hP.sub [1, 0] rfl) (hD.sub [1, 0] rfl rfl) (Nat.le_of_ble_eq_true rfl) (Nat.le_of_ble_eq_true rfl) dX5_needWord_29
set_option maxHeartbeats 4000000 in
set_option maxRecDepth 100000 in
theorem s_X5_number_a0_1 (l : Launch) (dC : Nat → ClassId) (dI : Nat → Nat → Nat) (cy : Nat → ClassId) (sq : Nat → Nat) (a_this : Nat) (a_this_text : Nat) (g_this_text : Nat → Int32) (x_this_length : Int32) (x_this_at : Int32) (x_this_behind : Int32) (x_this_sort : Int32) (x_this_allowed : Int32) (a_this_plan : Nat) (x_this_fault : Int32) (x_this_place : Int32) (p1 : Int32) (hg_this_text : ia g_this_text 1600 0 255) (hx_this_length : ib x_this_length 0 1600) (hx_this_at : ib x_this_at 0 1600) (hx_this_behind : ib x_this_behind 0 1600) (hx_this_sort : ib x_this_sort 0 4) (hc0_this : ¬ x_this_sort = 0 → ib x_this_at 0 1599) : k_Met l yX5_number cX5_number 5 (some .int) { frames := 2, cells := 0, slots := 0, locals := 43 } dC dI cy sq [.ref a_this, .int 1, .int p1] [(wo_5_riiiiirii a_this a_this_text x_this_length x_this_at x_this_behind x_this_sort x_this_allowed a_this_plan x_this_fault x_this_place), (wi_0_1600_0 a_this_text cy g_this_text)] (k_Qi dC dI (fun (r : Int32) (u : Int32 × Int32 × Int32 × Int32 × Int32) => match u with | (n0, n1, n2, n3, n4) => ib r 1 2147483647 ∧ ib n0 0 1600 ∧ ib n1 0 1600 ∧ ib n2 0 4 ∧ (¬ n2 = 0 → ib n0 0 1599) ∧ (F_X5_number_a0_1 (lf_A g_this_text) (Int32.toInt x_this_length) (Int32.toInt x_this_at) (Int32.toInt x_this_behind) (Int32.toInt x_this_sort) (Int32.toInt x_this_fault) (Int32.toInt x_this_place) (Int32.toInt p1) = ((Int32.toInt r), (Int32.toInt n0), (Int32.toInt n1), (Int32.toInt n2), (Int32.toInt n3), (Int32.toInt n4)))) (fun u : Int32 × Int32 × Int32 × Int32 × Int32 => match u with | (n0, n1, n2, n3, n4) => [(wo_5_riiiiirii a_this a_this_text x_this_length n0 n1 n2 x_this_allowed a_this_plan n3 n4), (wi_0_1600_0 a_this_text cy g_this_text)])) := by
  refine k_ofW2 (by decide +kernel) (Nat.le_of_ble_eq_true rfl) ?_
  intro p e s m below meth c A ls H locs args Q hQ C0 hZ hr hlk hin hP hD hA hS hl
  have C0 : k_cx p s m args c cX5_number 5 RX5 dC dI cy sq := C0
  have hx := C0.1
  have hb := C0.2.1
  have hl : lv_has ls 5 [(0, .ref a_this), (1, .int 1), (2, .int p1)] := hl
  obtain ⟨O, hO⟩ : ∃ o, o = F_X5_number_a0_1 (lf_A g_this_text) (Int32.toInt x_this_length) (Int32.toInt x_this_at) (Int32.toInt x_this_behind) (Int32.toInt x_this_sort) (Int32.toInt x_this_fault) (Int32.toInt x_this_place) (Int32.toInt p1) := ⟨_, rfl⟩
  have hq := hO
  unfold F_X5_number_a0_1 at hq
  have jn94 : ∀ (J94_l3 : Int32) (J94_l4 : Int32) (H : Heap) (locs : List Loc) (ls : Array Slot), ib x_this_at 0 1599 → ib x_this_sort 2 2 → ib J94_l4 0 1600 → (O = F_X5_number_a0_1_94 (Int32.toInt x_this_length) (Int32.toInt x_this_at) (Int32.toInt x_this_fault) (Int32.toInt x_this_place) (Int32.toInt J94_l3) (Int32.toInt J94_l4)) → va_P (dC, dI) vwCl [(wo_5_riiiiirii a_this a_this_text x_this_length x_this_at x_this_behind x_this_sort x_this_allowed a_this_plan x_this_fault x_this_place), (wi_0_1600_0 a_this_text cy g_this_text)] H → va_D A [(wo_5_riiiiirii a_this a_this_text x_this_length x_this_at x_this_behind x_this_sort x_this_allowed a_this_plan x_this_fault x_this_place), (wi_0_1600_0 a_this_text cy g_this_text)] → va_S A s.heap H locs → lv_has ls 5 [(0, .ref a_this), (1, .int 1), (2, .int p1), (3, .int J94_l3), (4, .int J94_l4)] → W p l e { frames := 2, cells := 0, slots := 0, locals := 43 } s m args below meth c H locs 0 0 Q (F0 m 94 ls []) := by
    intro J94_l3 J94_l4 H locs ls hK94_x_this_at hK94_x_this_sort hJ94_l4 hq hP hD hS hl
    unfold F_X5_number_a0_1_94 at hq
    refine lv_aload_n hx hb dX5_number_94 rfl (lv_at hl 0 rfl) ?_
    refine lv_iconst (v := 2) hx hb dX5_number_95 rfl ?_
    refine lv_aload_n hx hb dX5_number_96 rfl (lv_at hl 0 rfl) ?_
    refine k_get C0 fg_X5_15 hP 0 rfl rfl dX5_number_97 ?_
    refine k_jvm hP hD hS hA [0] [false, true] rfl rfl rfl 0 0 (Nat.le_of_ble_eq_true rfl) (Nat.le_of_ble_eq_true rfl) (fun hPc hDc => k_runV (As := [.int 2, .int x_this_at]) (rest := []) C0 hZ hS hA (s_X5_fail l dC dI cy sq a_this a_this_text x_this_length x_this_at x_this_behind x_this_sort x_this_allowed a_this_plan x_this_fault x_this_place 2 x_this_at ) mV_X5_78 hPc hDc rfl rfl rfl hl rfl rfl (Nat.le_of_ble_eq_true rfl) ⟨(Nat.le_of_ble_eq_true rfl), (Nat.le_of_ble_eq_true rfl)⟩ ⟨(Nat.le_of_ble_eq_true rfl), (Nat.le_of_ble_eq_true rfl)⟩ dX5_number_100) (fun u2 H locs hw hP hD hS => ?_)
    obtain ⟨v3, v4⟩ := u2
    try dsimp only at hP hD hw
    replace hP : va_P (dC, dI) vwCl [(wi_0_1600_0 a_this_text cy g_this_text), (wo_5_riiiiirii a_this a_this_text x_this_length x_this_length x_this_length 0 x_this_allowed a_this_plan v3 v4)] H := hP
    replace hD := k_D hP hD
    have h5 := hw
    have h5 := by have h9 := h5; try simp only [show (2 : Int32).toInt = (2 : Int) from rfl] at h9; exact h9
    replace hq := lf_p1 hq h5
    refine lv_iload_n hx hb dX5_number_103 rfl (lv_at hl 1 rfl) ?_
    subst hQ; exact k_iret hx hb hr hlk rfl ((x_this_length, x_this_length, 0, v3, v4)) hS ⟨ib_w 1 2147483647 (ib_c 1 1 1 rfl) rfl, ib_w 0 1600 hx_this_length rfl, ib_w 0 1600 hx_this_length rfl, ib_w 0 4 (ib_c 0 0 0 rfl) rfl, fun hq9 => absurd rfl hq9, (hO.symm.trans (by try simp only [show (1 : Int32).toInt = (1 : Int) from rfl]; try simp only [show (0 : Int32).toInt = (0 : Int) from rfl]; exact hq))⟩ (hP.sub [1, 0] rfl) (hD.sub [1, 0] rfl rfl) (Nat.le_of_ble_eq_true rfl) (Nat.le_of_ble_eq_true rfl) dX5_number_104
  have jn53 : ∀ (n : Nat) (J53_l3 : Int32) (J53_l4 : Int32) (H : Heap) (locs : List Loc) (ls : Array Slot), ib x_this_at 0 1599 → ib x_this_sort 2 2 → ib J53_l4 0 1600 → (O = F_X5_number_a0_1_53 (lf_A g_this_text) (Int32.toInt x_this_length) (Int32.toInt x_this_at) (Int32.toInt x_this_behind) (Int32.toInt x_this_fault) (Int32.toInt x_this_place) (Int32.toInt p1) n (Int32.toInt J53_l3) (Int32.toInt J53_l4)) → 1601 ≤ J53_l4.toInt + (n : Int) → va_P (dC, dI) vwCl [(wo_5_riiiiirii a_this a_this_text x_this_length x_this_at x_this_behind x_this_sort x_this_allowed a_this_plan x_this_fault x_this_place), (wi_0_1600_0 a_this_text cy g_this_text)] H → va_D A [(wo_5_riiiiirii a_this a_this_text x_this_length x_this_at x_this_behind x_this_sort x_this_allowed a_this_plan x_this_fault x_this_place), (wi_0_1600_0 a_this_text cy g_this_text)] → va_S A s.heap H locs → lv_has ls 5 [(0, .ref a_this), (1, .int 1), (2, .int p1), (3, .int J53_l3), (4, .int J53_l4)] → W p l e { frames := 2, cells := 0, slots := 0, locals := 43 } s m args below meth c H locs 0 0 Q (F0 m 53 ls []) := by
    as_aux_lemma =>
      intro n
      induction n with
      | zero =>
        intro J53_l3 J53_l4 H locs ls hK53_x_this_at hK53_x_this_sort hJ53_l4 hq hm
        exact absurd hm (by have := hJ53_l4; unfold ib at this; omega)
      | succ n ih =>
        intro J53_l3 J53_l4 H locs ls hK53_x_this_at hK53_x_this_sort hJ53_l4 hq hm53 hP hD hS hl
        have ih53 := ih
        obtain ⟨K53, hK53⟩ : ∃ K, K = F_X5_number_a0_1_53 (lf_A g_this_text) (Int32.toInt x_this_length) (Int32.toInt x_this_at) (Int32.toInt x_this_behind) (Int32.toInt x_this_fault) (Int32.toInt x_this_place) (Int32.toInt p1) n := ⟨_, rfl⟩
        have hq : O = F_X5_number_a0_1_53b (lf_A g_this_text) (Int32.toInt x_this_length) (Int32.toInt x_this_at) (Int32.toInt x_this_behind) (Int32.toInt x_this_fault) (Int32.toInt x_this_place) (Int32.toInt p1) K53 (Int32.toInt J53_l3) (Int32.toInt J53_l4) := by rw [hK53]; exact hq
        unfold F_X5_number_a0_1_53b at hq
        refine lv_iload hx hb dX5_number_53 (lv_at hl 4 rfl) ?_
        refine lv_aload_n hx hb dX5_number_55 rfl (lv_at hl 0 rfl) ?_
        refine k_get C0 fg_X5_18 hP 0 rfl rfl dX5_number_56 ?_
        refine lv_icmp_ge (tgt := 84) hx hb dX5_number_59 rfl (fun c6 => ?_) (fun c6 => ?_)
        · as_aux_lemma =>
            replace hq := lf_pos hq (lf_le (lf_rf x_this_behind) (lf_rf J53_l4) c6)
            have h7 := ib_le hx_this_behind hJ53_l4 c6
            refine lv_iload_n hx hb dX5_number_84 rfl (lv_at hl 3 rfl) ?_
            refine lv_iload_n hx hb dX5_number_85 rfl (lv_at hl 1 rfl) ?_
            refine lv_icmp_lt (tgt := 94) hx hb dX5_number_86 rfl (fun c8 => ?_) (fun c8 => ?_)
            · replace hq := lf_pos hq (lf_lt (lf_rf J53_l3) (lf_lc 1 (1 : Int) rfl) c8)
              have h9 := ib_lt (ib_any J53_l3) (ib_c 1 1 1 rfl) c8
              have h10 : ib J53_l3 (-2147483648) 0 := ib_w (-2147483648) 0 h9.1 rfl
              exact jn94 J53_l3 J53_l4 H locs ls (ib_w 0 1599 hK53_x_this_at rfl) (ib_w 2 2 hK53_x_this_sort rfl) (ib_w 0 1600 hJ53_l4 rfl) (by exact hq) hP hD hS (lv_sub hl [0, 1, 2, 3, 4] rfl)
            · as_aux_lemma =>
                replace hq := lf_neg hq (lf_nlt (lf_rf J53_l3) (lf_lc 1 (1 : Int) rfl) c8)
                have h11 := ib_nlt (ib_any J53_l3) (ib_c 1 1 1 rfl) c8
                have h12 : ib J53_l3 1 2147483647 := ib_w 1 2147483647 h11.1 rfl
                refine lv_iload_n hx hb dX5_number_89 rfl (lv_at hl 3 rfl) ?_
                refine lv_iload_n hx hb dX5_number_90 rfl (lv_at hl 2 rfl) ?_
                refine lv_icmp_le (tgt := 105) hx hb dX5_number_91 rfl (fun c13 => ?_) (fun c13 => ?_)
                · replace hq := lf_pos hq (lf_le (lf_rf J53_l3) (lf_rf p1) c13)
                  have h14 := ib_le h12 (ib_any p1) c13
                  have h15 : ib p1 1 2147483647 := ib_w 1 2147483647 h14.2 rfl
                  refine lv_aload_n hx hb dX5_number_105 rfl (lv_at hl 0 rfl) ?_
                  refine lv_aload_n hx hb dX5_number_106 rfl (lv_at hl 0 rfl) ?_
                  refine k_get C0 fg_X5_18 hP 0 rfl rfl dX5_number_107 ?_
                  refine k_jvm hP hD hS hA [0, 1] [] rfl rfl rfl 0 0 (Nat.le_of_ble_eq_true rfl) (Nat.le_of_ble_eq_true rfl) (fun hPc hDc => k_runV (As := [.int x_this_behind]) (rest := []) C0 hZ hS hA (s_X5_moveTo l dC dI cy sq a_this a_this_text g_this_text x_this_length x_this_at x_this_behind x_this_sort x_this_allowed a_this_plan x_this_fault x_this_place x_this_behind hg_this_text (ib_w 0 1600 hx_this_length rfl) (ib_w 0 1600 hx_this_behind rfl)) mV_X5_86 hPc hDc rfl rfl rfl hl rfl rfl (Nat.le_of_ble_eq_true rfl) ⟨(Nat.le_of_ble_eq_true rfl), (Nat.le_of_ble_eq_true rfl)⟩ ⟨(Nat.le_of_ble_eq_true rfl), (Nat.le_of_ble_eq_true rfl)⟩ dX5_number_110) (fun u17 H locs hw hP hD hS => ?_)
                  obtain ⟨v18, v19, v20⟩ := u17
                  try dsimp only at hP hD hw
                  replace hP : va_P (dC, dI) vwCl [(wo_5_riiiiirii a_this a_this_text x_this_length v18 v19 v20 x_this_allowed a_this_plan x_this_fault x_this_place), (wi_0_1600_0 a_this_text cy g_this_text)] H := hP
                  replace hD := k_D hP hD
                  obtain ⟨h21, h22, h23, h24, h25⟩ := hw
                  replace hq := lf_p1 hq h25
                  replace hq := lf_p1 hq rfl
                  refine lv_iload_n hx hb dX5_number_113 rfl (lv_at hl 3 rfl) ?_
                  subst hQ; exact k_iret hx hb hr hlk rfl ((v18, v19, v20, x_this_fault, x_this_place)) hS ⟨ib_w 1 2147483647 h12 rfl, ib_w 0 1600 h21 rfl, ib_w 0 1600 h22 rfl, ib_w 0 4 h23 rfl, fun hq9 => ib_w 0 1599 (h24 hq9) rfl, (hO.symm.trans (by exact hq))⟩ hP hD (Nat.le_of_ble_eq_true rfl) (Nat.le_of_ble_eq_true rfl) dX5_number_114
                · replace hq := lf_neg hq (lf_nle (lf_rf J53_l3) (lf_rf p1) c13)
                  have h26 := ib_nle h12 (ib_any p1) c13
                  have h27 : ib p1 (-2147483648) 2147483646 := ib_w (-2147483648) 2147483646 h26.2 rfl
                  exact jn94 J53_l3 J53_l4 H locs ls (ib_w 0 1599 hK53_x_this_at rfl) (ib_w 2 2 hK53_x_this_sort rfl) (ib_w 0 1600 hJ53_l4 rfl) (by exact hq) hP hD hS (lv_sub hl [0, 1, 2, 3, 4] rfl)
        · as_aux_lemma =>
            replace hq := lf_neg hq (lf_nle (lf_rf x_this_behind) (lf_rf J53_l4) c6)
            have h28 := ib_nle hx_this_behind hJ53_l4 c6
            have h29 : ib x_this_behind 1 1600 := ib_w 1 1600 h28.1 rfl
            have h30 : ib J53_l4 0 1599 := ib_w 0 1599 h28.2 rfl
            refine lv_iload_n hx hb dX5_number_62 rfl (lv_at hl 3 rfl) ?_
            refine lv_bipush (v := 10) hx hb dX5_number_63 rfl ?_
            refine lv_imul hx hb dX5_number_65 ?_
            refine lv_topi (fun z31 ez31 => ?_)
            have Ez31 := lf_op lf_imul ez31 (lf_rf J53_l3) (lf_lc 10 (10 : Int) rfl)
            refine lv_aload_n hx hb dX5_number_66 rfl (lv_at hl 0 rfl) ?_
            refine k_get C0 fg_X5_33 hP 0 rfl rfl dX5_number_67 ?_
            refine lv_iload hx hb dX5_number_70 (lv_at hl 4 rfl) ?_
            refine va_iald hx hb C0.2.2.2.2.2.1 hP 1 0 rfl rfl (ib_in 1600 h30 rfl) dX5_number_72 ?_
            refine lv_topi (fun z32 ez32 => ?_)
            have h33 : ib z32 0 255 := by rw [ez32]; exact ia_at hg_this_text (ib_in 1600 h30 rfl)
            have Ez32 := lf_ld ez32 (lf_ra g_this_text) (lf_rf J53_l4)
            refine lv_iadd hx hb dX5_number_73 ?_
            refine lv_topi (fun z34 ez34 => ?_)
            have Ez34 := lf_op lf_iadd ez34 Ez31 Ez32
            refine lv_bipush (v := 48) hx hb dX5_number_74 rfl ?_
            refine lv_isub hx hb dX5_number_76 ?_
            refine lv_topi (fun z35 ez35 => ?_)
            have Ez35 := lf_op lf_isub ez35 Ez34 (lf_lc 48 (48 : Int) rfl)
            refine lv_istore_n (lv' := [(3, .int z35), (0, .ref a_this), (1, .int 1), (2, .int p1), (4, .int J53_l4)]) hx hb dX5_number_77 rfl hl (Nat.le_of_ble_eq_true rfl) rfl (fun ls hl => ?_)
            obtain ⟨z36, ez36⟩ : ∃ y : Int32, y = J53_l4 + 1 := ⟨_, rfl⟩
            refine lv_iinc (v := z36) (lv' := [(4, .int z36), (3, .int z35), (0, .ref a_this), (1, .int 1), (2, .int p1)]) hx hb dX5_number_78 hl (k := 4) rfl (by rw [ez36]; rfl) (Nat.le_of_ble_eq_true rfl) rfl (fun ls hl => ?_)
            have h37 := ib_add h30 (ib_c 1 1 1 rfl) rfl
            rw [← ez36] at h37
            have h38 : ib z36 1 1600 := ib_w 1 1600 h37.1 rfl
            have Ez36 := lf_add h37.2 (lf_rf J53_l4) (lf_lc 1 (1 : Int) rfl)
            refine lv_goto (tgt := 53) hx hb dX5_number_81 rfl ?_
            exact ih53 z35 z36 H locs ls (ib_w 0 1599 hK53_x_this_at rfl) (ib_w 2 2 hK53_x_this_sort rfl) (ib_w 0 1600 h38 rfl) (by rw [← hK53]; rw [lf_u Ez35]; rw [lf_u Ez36]; exact hq) (by have := h37.2; have : (1 : Int32).toInt = 1 := rfl; omega) hP hD hS (lv_sub hl [2, 3, 4, 1, 0] rfl)
  refine lv_aload_n hx hb dX5_number_0 rfl (lv_at hl 0 rfl) ?_
  refine k_get C0 fg_X5_21 hP 0 rfl rfl dX5_number_1 ?_
  refine lv_iconst (v := 2) hx hb dX5_number_4 rfl ?_
  refine lv_icmp_eq (tgt := 19) hx hb dX5_number_5 rfl (fun c39 => ?_) (fun c39 => ?_)
  · as_aux_lemma =>
      replace hq := lf_pos hq (lf_eq (lf_rf x_this_sort) (lf_lc 2 (2 : Int) rfl) c39)
      have h40 := ib_eq hx_this_sort (ib_c 2 2 2 rfl) c39
      have h41 : ib x_this_sort 2 2 := ib_w 2 2 h40.1 rfl
      have h42 : ib x_this_at 0 1599 := ib_w 0 1599 (ib_two hx_this_at (hc0_this (ib_nz h41 rfl))) rfl
      refine lv_aload_n hx hb dX5_number_19 rfl (lv_at hl 0 rfl) ?_
      refine k_get C0 fg_X5_18 hP 0 rfl rfl dX5_number_20 ?_
      refine lv_aload_n hx hb dX5_number_23 rfl (lv_at hl 0 rfl) ?_
      refine k_get C0 fg_X5_15 hP 0 rfl rfl dX5_number_24 ?_
      refine lv_isub hx hb dX5_number_27 ?_
      refine lv_topi (fun z43 ez43 => ?_)
      have h44 := ib_sub hx_this_behind h42 rfl
      rw [← ez43] at h44
      have h45 : ib z43 (-1599) 1600 := ib_w (-1599) 1600 h44.1 rfl
      have Ez43 := lf_sub h44.2 (lf_rf x_this_behind) (lf_rf x_this_at)
      refine lv_iconst (v := 4) hx hb dX5_number_28 rfl ?_
      refine lv_icmp_le (tgt := 45) hx hb dX5_number_29 rfl (fun c46 => ?_) (fun c46 => ?_)
      · replace hq := lf_pos hq (lf_le Ez43 (lf_lc 4 (4 : Int) rfl) c46)
        have h47 := ib_le h45 (ib_c 4 4 4 rfl) c46
        have h48 : ib z43 (-1599) 4 := ib_w (-1599) 4 h47.1 rfl
        refine lv_iconst (v := 0) hx hb dX5_number_45 rfl ?_
        refine lv_istore_n (lv' := [(3, .int 0), (0, .ref a_this), (1, .int 1), (2, .int p1)]) hx hb dX5_number_46 rfl hl (Nat.le_of_ble_eq_true rfl) rfl (fun ls hl => ?_)
        refine lv_aload_n hx hb dX5_number_47 rfl (lv_at hl 1 rfl) ?_
        refine k_get C0 fg_X5_15 hP 0 rfl rfl dX5_number_48 ?_
        refine lv_istore (lv' := [(4, .int x_this_at), (3, .int 0), (0, .ref a_this), (1, .int 1), (2, .int p1)]) hx hb dX5_number_51 hl (Nat.le_of_ble_eq_true rfl) rfl (fun ls hl => ?_)
        exact jn53 1602 0 x_this_at H locs ls (ib_w 0 1599 h42 rfl) (ib_w 2 2 h41 rfl) (ib_w 0 1600 h42 rfl) (by try simp only [show (0 : Int32).toInt = (0 : Int) from rfl]; exact hq) (by have := h42; unfold ib at this; omega) hP hD hS (lv_sub hl [2, 3, 4, 1, 0] rfl)
      · as_aux_lemma =>
          replace hq := lf_neg hq (lf_nle Ez43 (lf_lc 4 (4 : Int) rfl) c46)
          have h49 := ib_nle h45 (ib_c 4 4 4 rfl) c46
          have h50 : ib z43 5 1600 := ib_w 5 1600 h49.1 rfl
          refine lv_aload_n hx hb dX5_number_32 rfl (lv_at hl 0 rfl) ?_
          refine lv_iconst (v := 1) hx hb dX5_number_33 rfl ?_
          refine lv_aload_n hx hb dX5_number_34 rfl (lv_at hl 0 rfl) ?_
          refine k_get C0 fg_X5_15 hP 0 rfl rfl dX5_number_35 ?_
          refine lv_iconst (v := 4) hx hb dX5_number_38 rfl ?_
          refine lv_iadd hx hb dX5_number_39 ?_
          refine lv_topi (fun z51 ez51 => ?_)
          have h52 := ib_add h42 (ib_c 4 4 4 rfl) rfl
          rw [← ez51] at h52
          have h53 : ib z51 4 1603 := ib_w 4 1603 h52.1 rfl
          have Ez51 := lf_add h52.2 (lf_rf x_this_at) (lf_lc 4 (4 : Int) rfl)
          refine k_jvm hP hD hS hA [0] [false, true] rfl rfl rfl 0 0 (Nat.le_of_ble_eq_true rfl) (Nat.le_of_ble_eq_true rfl) (fun hPc hDc => k_runV (As := [.int 1, .int z51]) (rest := []) C0 hZ hS hA (s_X5_fail l dC dI cy sq a_this a_this_text x_this_length x_this_at x_this_behind x_this_sort x_this_allowed a_this_plan x_this_fault x_this_place 1 z51 ) mV_X5_78 hPc hDc rfl rfl rfl hl rfl rfl (Nat.le_of_ble_eq_true rfl) ⟨(Nat.le_of_ble_eq_true rfl), (Nat.le_of_ble_eq_true rfl)⟩ ⟨(Nat.le_of_ble_eq_true rfl), (Nat.le_of_ble_eq_true rfl)⟩ dX5_number_40) (fun u55 H locs hw hP hD hS => ?_)
          obtain ⟨v56, v57⟩ := u55
          try dsimp only at hP hD hw
          replace hP : va_P (dC, dI) vwCl [(wi_0_1600_0 a_this_text cy g_this_text), (wo_5_riiiiirii a_this a_this_text x_this_length x_this_length x_this_length 0 x_this_allowed a_this_plan v56 v57)] H := hP
          replace hD := k_D hP hD
          have h58 := hw
          have h58 := by have h9 := h58; try simp only [show (1 : Int32).toInt = (1 : Int) from rfl] at h9; rw [lf_u Ez51] at h9; exact h9
          replace hq := lf_p1 hq h58
          refine lv_iload_n hx hb dX5_number_43 rfl (lv_at hl 1 rfl) ?_
          subst hQ; exact k_iret hx hb hr hlk rfl ((x_this_length, x_this_length, 0, v56, v57)) hS ⟨ib_w 1 2147483647 (ib_c 1 1 1 rfl) rfl, ib_w 0 1600 hx_this_length rfl, ib_w 0 1600 hx_this_length rfl, ib_w 0 4 (ib_c 0 0 0 rfl) rfl, fun hq9 => absurd rfl hq9, (hO.symm.trans (by try simp only [show (1 : Int32).toInt = (1 : Int) from rfl]; try simp only [show (0 : Int32).toInt = (0 : Int) from rfl]; exact hq))⟩ (hP.sub [1, 0] rfl) (hD.sub [1, 0] rfl rfl) (Nat.le_of_ble_eq_true rfl) (Nat.le_of_ble_eq_true rfl) dX5_number_44
  · replace hq := lf_neg hq (lf_ne (lf_rf x_this_sort) (lf_lc 2 (2 : Int) rfl) c39)
    refine lv_aload_n hx hb dX5_number_8 rfl (lv_at hl 0 rfl) ?_
    refine lv_iconst (v := 1) hx hb dX5_number_9 rfl ?_
    refine lv_aload_n hx hb dX5_number_10 rfl (lv_at hl 0 rfl) ?_
    refine k_get C0 fg_X5_15 hP 0 rfl rfl dX5_number_11 ?_
    refine k_jvm hP hD hS hA [0] [false, true] rfl rfl rfl 0 0 (Nat.le_of_ble_eq_true rfl) (Nat.le_of_ble_eq_true rfl) (fun hPc hDc => k_runV (As := [.int 1, .int x_this_at]) (rest := []) C0 hZ hS hA (s_X5_fail l dC dI cy sq a_this a_this_text x_this_length x_this_at x_this_behind x_this_sort x_this_allowed a_this_plan x_this_fault x_this_place 1 x_this_at ) mV_X5_78 hPc hDc rfl rfl rfl hl rfl rfl (Nat.le_of_ble_eq_true rfl) ⟨(Nat.le_of_ble_eq_true rfl), (Nat.le_of_ble_eq_true rfl)⟩ ⟨(Nat.le_of_ble_eq_true rfl), (Nat.le_of_ble_eq_true rfl)⟩ dX5_number_14) (fun u60 H locs hw hP hD hS => ?_)
    obtain ⟨v61, v62⟩ := u60
    try dsimp only at hP hD hw
    replace hP : va_P (dC, dI) vwCl [(wi_0_1600_0 a_this_text cy g_this_text), (wo_5_riiiiirii a_this a_this_text x_this_length x_this_length x_this_length 0 x_this_allowed a_this_plan v61 v62)] H := hP
    replace hD := k_D hP hD
    have h63 := hw
    have h63 := by have h9 := h63; try simp only [show (1 : Int32).toInt = (1 : Int) from rfl] at h9; exact h9
    replace hq := lf_p1 hq h63
    refine lv_iload_n hx hb dX5_number_17 rfl (lv_at hl 1 rfl) ?_
    subst hQ; exact k_iret hx hb hr hlk rfl ((x_this_length, x_this_length, 0, v61, v62)) hS ⟨ib_w 1 2147483647 (ib_c 1 1 1 rfl) rfl, ib_w 0 1600 hx_this_length rfl, ib_w 0 1600 hx_this_length rfl, ib_w 0 4 (ib_c 0 0 0 rfl) rfl, fun hq9 => absurd rfl hq9, (hO.symm.trans (by try simp only [show (1 : Int32).toInt = (1 : Int) from rfl]; try simp only [show (0 : Int32).toInt = (0 : Int) from rfl]; exact hq))⟩ (hP.sub [1, 0] rfl) (hD.sub [1, 0] rfl rfl) (Nat.le_of_ble_eq_true rfl) (Nat.le_of_ble_eq_true rfl) dX5_number_18
set_option maxHeartbeats 4000000 in
set_option maxRecDepth 100000 in
theorem s_X5_numberBehind_a1_1_s4 (l : Launch) (dC : Nat → ClassId) (dI : Nat → Nat → Nat) (cy : Nat → ClassId) (sq : Nat → Nat) (a_this : Nat) (a_this_text : Nat) (g_this_text : Nat → Int32) (x_this_length : Int32) (x_this_at : Int32) (x_this_behind : Int32) (x_this_sort : Int32) (x_this_allowed : Int32) (a_this_plan : Nat) (x_this_fault : Int32) (x_this_place : Int32) (p2 : Int32) (hg_this_text : ia g_this_text 1600 0 255) (hx_this_length : ib x_this_length 0 1600) (hx_this_at : ib x_this_at 0 1600) (hx_this_behind : ib x_this_behind 0 1600) (hx_this_sort : ib x_this_sort 0 4) (hc0_this : ¬ x_this_sort = 0 → ib x_this_at 0 1599) : k_Met l yX5_numberBehind cX5_numberBehind 4 (some .int) { frames := 6, cells := 0, slots := 0, locals := 187 } dC dI cy sq [.ref a_this, .ref (sq 4), .int 1, .int p2] [(wo_5_riiiiirii a_this a_this_text x_this_length x_this_at x_this_behind x_this_sort x_this_allowed a_this_plan x_this_fault x_this_place), (wi_0_1600_0 a_this_text cy g_this_text)] (k_Qi dC dI (fun (r : Int32) (u : Int32 × Int32 × Int32 × Int32 × Int32) => match u with | (n0, n1, n2, n3, n4) => ib r 1 2147483647 ∧ ib n0 0 1600 ∧ ib n1 0 1600 ∧ ib n2 0 4 ∧ (¬ n2 = 0 → ib n0 0 1599) ∧ (F_X5_numberBehind_a1_1_s4 (lf_A g_this_text) (Int32.toInt x_this_length) (Int32.toInt x_this_at) (Int32.toInt x_this_behind) (Int32.toInt x_this_sort) (Int32.toInt x_this_fault) (Int32.toInt x_this_place) (Int32.toInt p2) = ((Int32.toInt r), (Int32.toInt n0), (Int32.toInt n1), (Int32.toInt n2), (Int32.toInt n3), (Int32.toInt n4)))) (fun u : Int32 × Int32 × Int32 × Int32 × Int32 => match u with | (n0, n1, n2, n3, n4) => [(wo_5_riiiiirii a_this a_this_text x_this_length n0 n1 n2 x_this_allowed a_this_plan n3 n4), (wi_0_1600_0 a_this_text cy g_this_text)])) := by
  refine k_ofW2 (by decide +kernel) (Nat.le_of_ble_eq_true rfl) ?_
  intro p e s m below meth c A ls H locs args Q hQ C0 hZ hr hlk hin hP hD hA hS hl
  have C0 : k_cx p s m args c cX5_numberBehind 4 RX5 dC dI cy sq := C0
  have hx := C0.1
  have hb := C0.2.1
  have hl : lv_has ls 4 [(0, .ref a_this), (1, .ref (sq 4)), (2, .int 1), (3, .int p2)] := hl
  obtain ⟨O, hO⟩ : ∃ o, o = F_X5_numberBehind_a1_1_s4 (lf_A g_this_text) (Int32.toInt x_this_length) (Int32.toInt x_this_at) (Int32.toInt x_this_behind) (Int32.toInt x_this_sort) (Int32.toInt x_this_fault) (Int32.toInt x_this_place) (Int32.toInt p2) := ⟨_, rfl⟩
  have hq := hO
  unfold F_X5_numberBehind_a1_1_s4 at hq
  refine lv_aload_n hx hb dX5_numberBehind_0 rfl (lv_at hl 0 rfl) ?_
  refine lv_aload_n hx hb dX5_numberBehind_1 rfl (lv_at hl 1 rfl) ?_
  refine k_jvm hP hD hS hA [0, 1] [] rfl rfl rfl 0 0 (Nat.le_of_ble_eq_true rfl) (Nat.le_of_ble_eq_true rfl) (fun hPc hDc => k_runV (As := [.ref (sq 4)]) (rest := []) C0 hZ hS hA (s_X5_needWord_s4 l dC dI cy sq a_this a_this_text g_this_text x_this_length x_this_at x_this_behind x_this_sort x_this_allowed a_this_plan x_this_fault x_this_place hg_this_text (ib_w 0 1600 hx_this_length rfl) (ib_w 0 1600 hx_this_at rfl) (ib_w 0 1600 hx_this_behind rfl) (ib_w 0 4 hx_this_sort rfl) (fun hq9 => ib_w 0 1599 (hc0_this hq9) rfl)) mV_X5_144 hPc hDc rfl rfl rfl hl rfl rfl (Nat.le_of_ble_eq_true rfl) ⟨(Nat.le_of_ble_eq_true rfl), (Nat.le_of_ble_eq_true rfl)⟩ ⟨(Nat.le_of_ble_eq_true rfl), (Nat.le_of_ble_eq_true rfl)⟩ dX5_numberBehind_2) (fun u2 H locs hw hP hD hS => ?_)
  obtain ⟨v3, v4, v5, v6, v7⟩ := u2
  try dsimp only at hP hD hw
  replace hP : va_P (dC, dI) vwCl [(wo_5_riiiiirii a_this a_this_text x_this_length v3 v4 v5 x_this_allowed a_this_plan v6 v7), (wi_0_1600_0 a_this_text cy g_this_text)] H := hP
  replace hD := k_D hP hD
  obtain ⟨h8, h9, h10, h11, h12⟩ := hw
  replace hq := lf_p1 hq h12
  replace hq := lf_p1 hq rfl
  replace hq := lf_p1 hq rfl
  replace hq := lf_p1 hq rfl
  refine lv_aload_n hx hb dX5_numberBehind_5 rfl (lv_at hl 0 rfl) ?_
  refine lv_iload_n hx hb dX5_numberBehind_6 rfl (lv_at hl 2 rfl) ?_
  refine lv_iload_n hx hb dX5_numberBehind_7 rfl (lv_at hl 3 rfl) ?_
  refine k_jim hP hD hS hA [0, 1] [] rfl rfl rfl 0 0 (Nat.le_of_ble_eq_true rfl) (Nat.le_of_ble_eq_true rfl) (fun hPc hDc => k_runV (As := [.int 1, .int p2]) (rest := []) C0 hZ hS hA (s_X5_number_a0_1 l dC dI cy sq a_this a_this_text g_this_text x_this_length v3 v4 v5 x_this_allowed a_this_plan v6 v7 p2 hg_this_text (ib_w 0 1600 hx_this_length rfl) (ib_w 0 1600 h8 rfl) (ib_w 0 1600 h9 rfl) (ib_w 0 4 h10 rfl) (fun hq9 => ib_w 0 1599 (h11 hq9) rfl)) mV_X5_168 hPc hDc rfl rfl rfl hl rfl rfl (Nat.le_of_ble_eq_true rfl) ⟨(Nat.le_of_ble_eq_true rfl), (Nat.le_of_ble_eq_true rfl)⟩ ⟨(Nat.le_of_ble_eq_true rfl), (Nat.le_of_ble_eq_true rfl)⟩ dX5_numberBehind_8) (fun r13 u14 H locs hw hP hD hS => ?_)
  obtain ⟨v15, v16, v17, v18, v19⟩ := u14
  try dsimp only at hP hD hw
  replace hP : va_P (dC, dI) vwCl [(wo_5_riiiiirii a_this a_this_text x_this_length v15 v16 v17 x_this_allowed a_this_plan v18 v19), (wi_0_1600_0 a_this_text cy g_this_text)] H := hP
  replace hD := k_D hP hD
  obtain ⟨h20, h21, h22, h23, h24, h25⟩ := hw
  replace hq := lf_p1 hq h25
  replace hq := lf_p1 hq rfl
  replace hq := lf_p1 hq rfl
  replace hq := lf_p1 hq rfl
  replace hq := lf_p1 hq rfl
  subst hQ; exact k_iret hx hb hr hlk rfl ((v15, v16, v17, v18, v19)) hS ⟨ib_w 1 2147483647 h20 rfl, ib_w 0 1600 h21 rfl, ib_w 0 1600 h22 rfl, ib_w 0 4 h23 rfl, fun hq9 => ib_w 0 1599 (h24 hq9) rfl, (hO.symm.trans (by exact hq))⟩ hP hD (Nat.le_of_ble_eq_true rfl) (Nat.le_of_ble_eq_true rfl) dX5_numberBehind_11
set_option maxHeartbeats 4000000 in
set_option maxRecDepth 100000 in
theorem s_X5_wordIn_s5 (l : Launch) (dC : Nat → ClassId) (dI : Nat → Nat → Nat) (cy : Nat → ClassId) (sq : Nat → Nat) (a_this : Nat) (a_this_text : Nat) (g_this_text : Nat → Int32) (x_this_length : Int32) (x_this_at : Int32) (x_this_behind : Int32) (x_this_sort : Int32) (x_this_allowed : Int32) (a_this_plan : Nat) (x_this_fault : Int32) (x_this_place : Int32) (hg_this_text : ia g_this_text 1600 0 255) (hx_this_at : ib x_this_at 0 1600) (hx_this_behind : ib x_this_behind 0 1600) (hx_this_sort : ib x_this_sort 0 4) (hc0_this : ¬ x_this_sort = 0 → ib x_this_at 0 1599) : k_Met l yX5_wordIn cX5_wordIn 6 (some .int) { frames := 4, cells := 0, slots := 0, locals := 141 } dC dI cy sq [.ref a_this, .ref (sq 5)] [(wo_5_riiiiirii a_this a_this_text x_this_length x_this_at x_this_behind x_this_sort x_this_allowed a_this_plan x_this_fault x_this_place), (wi_0_1600_0 a_this_text cy g_this_text)] (k_Qi dC dI (fun (r : Int32) (_ : Unit) => (F_X5_wordIn_s5 (lf_A g_this_text) (Int32.toInt x_this_at) (Int32.toInt x_this_behind) (Int32.toInt x_this_sort) = ((Int32.toInt r)))) (fun _ : Unit => [(wo_5_riiiiirii a_this a_this_text x_this_length x_this_at x_this_behind x_this_sort x_this_allowed a_this_plan x_this_fault x_this_place), (wi_0_1600_0 a_this_text cy g_this_text)])) := by
  refine k_ofW2 (by decide +kernel) (Nat.le_of_ble_eq_true rfl) ?_
  intro p e s m below meth c A ls H locs args Q hQ C0 hZ hr hlk hin hP hD hA hS hl
  have C0 : k_cx p s m args c cX5_wordIn 6 RX5 dC dI cy sq := C0
  have hx := C0.1
  have hb := C0.2.1
  have hl : lv_has ls 6 [(0, .ref a_this), (1, .ref (sq 5))] := hl
  obtain ⟨O, hO⟩ : ∃ o, o = F_X5_wordIn_s5 (lf_A g_this_text) (Int32.toInt x_this_at) (Int32.toInt x_this_behind) (Int32.toInt x_this_sort) := ⟨_, rfl⟩
  have hq := hO
  unfold F_X5_wordIn_s5 at hq
  have jn23 : ∀ (n : Nat) (J23_l2 : Int32) (J23_l3 : Int32) (J23_l4 : Int32) (J23_l5 : Int32) (H : Heap) (locs : List Loc) (ls : Array Slot), ib x_this_at 0 1599 → ib x_this_sort 1 1 → ib J23_l3 0 1604 → ib J23_l4 0 1 → ib J23_l5 0 5 → (1 * J23_l3.toInt + (-1) * J23_l5.toInt ≤ 1600) → (O = F_X5_wordIn_s5_23 (lf_A g_this_text) (Int32.toInt x_this_at) (Int32.toInt x_this_behind) n (Int32.toInt J23_l2) (Int32.toInt J23_l3) (Int32.toInt J23_l4) (Int32.toInt J23_l5)) → 6 ≤ J23_l5.toInt + (n : Int) → va_P (dC, dI) vwCl [(wo_5_riiiiirii a_this a_this_text x_this_length x_this_at x_this_behind x_this_sort x_this_allowed a_this_plan x_this_fault x_this_place), (wi_0_1600_0 a_this_text cy g_this_text)] H → va_D A [(wo_5_riiiiirii a_this a_this_text x_this_length x_this_at x_this_behind x_this_sort x_this_allowed a_this_plan x_this_fault x_this_place), (wi_0_1600_0 a_this_text cy g_this_text)] → va_S A s.heap H locs → lv_has ls 6 [(0, .ref a_this), (1, .ref (sq 5)), (2, .int J23_l2), (3, .int J23_l3), (4, .int J23_l4), (5, .int J23_l5)] → W p l e { frames := 4, cells := 0, slots := 0, locals := 141 } s m args below meth c H locs 0 0 Q (F0 m 23 ls []) := by
    as_aux_lemma =>
      intro n
      induction n with
      | zero =>
        intro J23_l2 J23_l3 J23_l4 J23_l5 H locs ls hK23_x_this_at hK23_x_this_sort hJ23_l3 hJ23_l4 hJ23_l5 hJ23_lin0 hq hm
        exact absurd hm (by have := hJ23_l5; unfold ib at this; omega)
      | succ n ih =>
        intro J23_l2 J23_l3 J23_l4 J23_l5 H locs ls hK23_x_this_at hK23_x_this_sort hJ23_l3 hJ23_l4 hJ23_l5 hJ23_lin0 hq hm23 hP hD hS hl
        have ih23 := ih
        obtain ⟨K23, hK23⟩ : ∃ K, K = F_X5_wordIn_s5_23 (lf_A g_this_text) (Int32.toInt x_this_at) (Int32.toInt x_this_behind) n := ⟨_, rfl⟩
        have hq : O = F_X5_wordIn_s5_23b (lf_A g_this_text) (Int32.toInt x_this_at) (Int32.toInt x_this_behind) K23 (Int32.toInt J23_l2) (Int32.toInt J23_l3) (Int32.toInt J23_l4) (Int32.toInt J23_l5) := by rw [hK23]; exact hq
        unfold F_X5_wordIn_s5_23b at hq
        have jn119 : ∀ (J119_l2 : Int32) (J119_l3 : Int32) (J119_l4 : Int32) (H : Heap) (locs : List Loc) (ls : Array Slot), ib x_this_at 0 1599 → ib J23_l5 0 4 → ib x_this_sort 1 1 → ib J119_l3 0 1604 → ib J119_l4 0 1 → (1 * J119_l3.toInt + (-1) * J23_l5.toInt ≤ 1601) → (O = F_X5_wordIn_s5_119 (Int32.toInt J23_l5) K23 (Int32.toInt J119_l2) (Int32.toInt J119_l3) (Int32.toInt J119_l4)) → va_P (dC, dI) vwCl [(wo_5_riiiiirii a_this a_this_text x_this_length x_this_at x_this_behind x_this_sort x_this_allowed a_this_plan x_this_fault x_this_place), (wi_0_1600_0 a_this_text cy g_this_text)] H → va_D A [(wo_5_riiiiirii a_this a_this_text x_this_length x_this_at x_this_behind x_this_sort x_this_allowed a_this_plan x_this_fault x_this_place), (wi_0_1600_0 a_this_text cy g_this_text)] → va_S A s.heap H locs → lv_has ls 6 [(0, .ref a_this), (1, .ref (sq 5)), (2, .int J119_l2), (3, .int J119_l3), (4, .int J119_l4), (5, .int J23_l5)] → W p l e { frames := 4, cells := 0, slots := 0, locals := 141 } s m args below meth c H locs 0 0 Q (F0 m 119 ls []) := by
          intro J119_l2 J119_l3 J119_l4 H locs ls hK119_x_this_at hK119_J23_l5 hK119_x_this_sort hJ119_l3 hJ119_l4 hJ119_lin0 hq hP hD hS hl
          unfold F_X5_wordIn_s5_119 at hq
          obtain ⟨z1, ez1⟩ : ∃ y : Int32, y = J23_l5 + 1 := ⟨_, rfl⟩
          refine lv_iinc (v := z1) (lv' := [(5, .int z1), (0, .ref a_this), (1, .ref (sq 5)), (2, .int J119_l2), (3, .int J119_l3), (4, .int J119_l4)]) hx hb dX5_wordIn_119 hl (k := 5) rfl (by rw [ez1]; rfl) (Nat.le_of_ble_eq_true rfl) rfl (fun ls hl => ?_)
          have h2 := ib_add hK119_J23_l5 (ib_c 1 1 1 rfl) rfl
          rw [← ez1] at h2
          have h3 : ib z1 1 5 := ib_w 1 5 h2.1 rfl
          have Ez1 := lf_add h2.2 (lf_rf J23_l5) (lf_lc 1 (1 : Int) rfl)
          refine lv_goto (tgt := 23) hx hb dX5_wordIn_122 rfl ?_
          exact ih23 J119_l2 J119_l3 J119_l4 z1 H locs ls (ib_w 0 1599 hK119_x_this_at rfl) (ib_w 1 1 hK119_x_this_sort rfl) (ib_w 0 1604 hJ119_l3 rfl) (ib_w 0 1 hJ119_l4 rfl) (ib_w 0 5 h3 rfl) (by have := h2.2; have : (1 : Int32).toInt = 1 := rfl; have := hJ119_lin0; omega) (by rw [← hK23]; rw [lf_u Ez1]; exact hq) (by have := h2.2; have : (1 : Int32).toInt = 1 := rfl; omega) hP hD hS (lv_sub hl [1, 2, 3, 4, 5, 0] rfl)
        have jn114 : ∀ (J114_s0 : Int32) (H : Heap) (locs : List Loc) (ls : Array Slot), ib J23_l3 0 1603 → ib J23_l4 0 1 → ib J23_l5 0 3 → ib x_this_at 0 1599 → ib x_this_sort 1 1 → ib J114_s0 0 1 → (1 * J23_l3.toInt + (-1) * J23_l5.toInt ≤ 1600) → (O = F_X5_wordIn_s5_114 (Int32.toInt J23_l2) (Int32.toInt J23_l3) (Int32.toInt J23_l5) K23 (Int32.toInt J114_s0)) → va_P (dC, dI) vwCl [(wo_5_riiiiirii a_this a_this_text x_this_length x_this_at x_this_behind x_this_sort x_this_allowed a_this_plan x_this_fault x_this_place), (wi_0_1600_0 a_this_text cy g_this_text)] H → va_D A [(wo_5_riiiiirii a_this a_this_text x_this_length x_this_at x_this_behind x_this_sort x_this_allowed a_this_plan x_this_fault x_this_place), (wi_0_1600_0 a_this_text cy g_this_text)] → va_S A s.heap H locs → lv_has ls 6 [(0, .ref a_this), (1, .ref (sq 5)), (2, .int J23_l2), (3, .int J23_l3), (4, .int J23_l4), (5, .int J23_l5)] → W p l e { frames := 4, cells := 0, slots := 0, locals := 141 } s m args below meth c H locs 0 0 Q (F0 m 114 ls [.int J114_s0]) := by
          intro J114_s0 H locs ls hK114_J23_l3 hK114_J23_l4 hK114_J23_l5 hK114_x_this_at hK114_x_this_sort hJ114_s0 hJ114_lin0 hq hP hD hS hl
          unfold F_X5_wordIn_s5_114 at hq
          refine lv_istore (lv' := [(4, .int J114_s0), (0, .ref a_this), (1, .ref (sq 5)), (2, .int J23_l2), (3, .int J23_l3), (5, .int J23_l5)]) hx hb dX5_wordIn_114 hl (Nat.le_of_ble_eq_true rfl) rfl (fun ls hl => ?_)
          obtain ⟨z4, ez4⟩ : ∃ y : Int32, y = J23_l3 + 1 := ⟨_, rfl⟩
          refine lv_iinc (v := z4) (lv' := [(3, .int z4), (4, .int J114_s0), (0, .ref a_this), (1, .ref (sq 5)), (2, .int J23_l2), (5, .int J23_l5)]) hx hb dX5_wordIn_116 hl (k := 4) rfl (by rw [ez4]; rfl) (Nat.le_of_ble_eq_true rfl) rfl (fun ls hl => ?_)
          have h5 := ib_add hK114_J23_l3 (ib_c 1 1 1 rfl) rfl
          rw [← ez4] at h5
          have h6 : ib z4 1 1604 := ib_w 1 1604 h5.1 rfl
          have Ez4 := lf_add h5.2 (lf_rf J23_l3) (lf_lc 1 (1 : Int) rfl)
          exact jn119 J23_l2 z4 J114_s0 H locs ls (ib_w 0 1599 hK114_x_this_at rfl) (ib_w 0 4 hK114_J23_l5 rfl) (ib_w 1 1 hK114_x_this_sort rfl) (ib_w 0 1604 h6 rfl) (ib_w 0 1 hJ114_s0 rfl) (by have := (hK114_J23_l5).1; have := hJ23_lin0; have := (h6).2; have := h5.2; have : (1 : Int32).toInt = 1 := rfl; omega) (by rw [lf_u Ez4]; exact hq) hP hD hS (lv_sub hl [2, 3, 4, 0, 1, 5] rfl)
        have jn113 : ∀  (H : Heap) (locs : List Loc) (ls : Array Slot), ib J23_l3 0 1603 → ib J23_l4 0 1 → ib J23_l5 0 3 → ib x_this_at 0 1599 → ib x_this_sort 1 1 → (1 * J23_l3.toInt + (-1) * J23_l5.toInt ≤ 1600) → (O = F_X5_wordIn_s5_113 (Int32.toInt J23_l2) (Int32.toInt J23_l3) (Int32.toInt J23_l5) K23 ) → va_P (dC, dI) vwCl [(wo_5_riiiiirii a_this a_this_text x_this_length x_this_at x_this_behind x_this_sort x_this_allowed a_this_plan x_this_fault x_this_place), (wi_0_1600_0 a_this_text cy g_this_text)] H → va_D A [(wo_5_riiiiirii a_this a_this_text x_this_length x_this_at x_this_behind x_this_sort x_this_allowed a_this_plan x_this_fault x_this_place), (wi_0_1600_0 a_this_text cy g_this_text)] → va_S A s.heap H locs → lv_has ls 6 [(0, .ref a_this), (1, .ref (sq 5)), (2, .int J23_l2), (3, .int J23_l3), (4, .int J23_l4), (5, .int J23_l5)] → W p l e { frames := 4, cells := 0, slots := 0, locals := 141 } s m args below meth c H locs 0 0 Q (F0 m 113 ls []) := by
          intro H locs ls hK113_J23_l3 hK113_J23_l4 hK113_J23_l5 hK113_x_this_at hK113_x_this_sort hJ113_lin0 hq hP hD hS hl
          unfold F_X5_wordIn_s5_113 at hq
          refine lv_iconst (v := 0) hx hb dX5_wordIn_113 rfl ?_
          exact jn114 0 H locs ls (ib_w 0 1603 hK113_J23_l3 rfl) (ib_w 0 1 hK113_J23_l4 rfl) (ib_w 0 3 hK113_J23_l5 rfl) (ib_w 0 1599 hK113_x_this_at rfl) (ib_w 1 1 hK113_x_this_sort rfl) (ib_w 0 1 (ib_c 0 0 0 rfl) rfl) (by have := hJ23_lin0; omega) (by try simp only [show (0 : Int32).toInt = (0 : Int) from rfl]; exact hq) hP hD hS (lv_sub hl [0, 1, 2, 3, 4, 5] rfl)
        have jn67 : ∀  (H : Heap) (locs : List Loc) (ls : Array Slot), ib J23_l3 0 1604 → ib J23_l4 0 1 → ib J23_l5 0 4 → ib x_this_at 0 1599 → ib x_this_sort 1 1 → (O = F_X5_wordIn_s5_67 (Int32.toInt x_this_at) (Int32.toInt J23_l2) (Int32.toInt J23_l5) K23 ) → va_P (dC, dI) vwCl [(wo_5_riiiiirii a_this a_this_text x_this_length x_this_at x_this_behind x_this_sort x_this_allowed a_this_plan x_this_fault x_this_place), (wi_0_1600_0 a_this_text cy g_this_text)] H → va_D A [(wo_5_riiiiirii a_this a_this_text x_this_length x_this_at x_this_behind x_this_sort x_this_allowed a_this_plan x_this_fault x_this_place), (wi_0_1600_0 a_this_text cy g_this_text)] → va_S A s.heap H locs → lv_has ls 6 [(0, .ref a_this), (1, .ref (sq 5)), (2, .int J23_l2), (3, .int J23_l3), (4, .int J23_l4), (5, .int J23_l5)] → W p l e { frames := 4, cells := 0, slots := 0, locals := 141 } s m args below meth c H locs 0 0 Q (F0 m 67 ls []) := by
          intro H locs ls hK67_J23_l3 hK67_J23_l4 hK67_J23_l5 hK67_x_this_at hK67_x_this_sort hq hP hD hS hl
          unfold F_X5_wordIn_s5_67 at hq
          obtain ⟨z7, ez7⟩ : ∃ y : Int32, y = J23_l2 + 1 := ⟨_, rfl⟩
          refine lv_iinc (v := z7) (lv' := [(2, .int z7), (0, .ref a_this), (1, .ref (sq 5)), (3, .int J23_l3), (4, .int J23_l4), (5, .int J23_l5)]) hx hb dX5_wordIn_67 hl (k := 2) rfl (by rw [ez7]; rfl) (Nat.le_of_ble_eq_true rfl) rfl (fun ls hl => ?_)
          have Ez7 := lf_op lf_iadd ez7 (lf_rf J23_l2) (lf_lc 1 (1 : Int) rfl)
          refine lv_aload_n hx hb dX5_wordIn_70 rfl (lv_at hl 1 rfl) ?_
          refine k_get C0 fg_X5_15 hP 0 rfl rfl dX5_wordIn_71 ?_
          refine lv_istore_n (lv' := [(3, .int x_this_at), (2, .int z7), (0, .ref a_this), (1, .ref (sq 5)), (4, .int J23_l4), (5, .int J23_l5)]) hx hb dX5_wordIn_74 rfl hl (Nat.le_of_ble_eq_true rfl) rfl (fun ls hl => ?_)
          refine lv_iconst (v := 1) hx hb dX5_wordIn_75 rfl ?_
          refine lv_istore (lv' := [(4, .int 1), (3, .int x_this_at), (2, .int z7), (0, .ref a_this), (1, .ref (sq 5)), (5, .int J23_l5)]) hx hb dX5_wordIn_76 hl (Nat.le_of_ble_eq_true rfl) rfl (fun ls hl => ?_)
          refine lv_goto (tgt := 119) hx hb dX5_wordIn_78 rfl ?_
          exact jn119 z7 x_this_at 1 H locs ls (ib_w 0 1599 hK67_x_this_at rfl) (ib_w 0 4 hK67_J23_l5 rfl) (ib_w 1 1 hK67_x_this_sort rfl) (ib_w 0 1604 hK67_x_this_at rfl) (ib_w 0 1 (ib_c 1 1 1 rfl) rfl) (by have := (hK67_J23_l5).1; have := (hK67_x_this_at).2; omega) (by rw [lf_u Ez7]; try simp only [show (1 : Int32).toInt = (1 : Int) from rfl]; exact hq) hP hD hS (lv_sub hl [3, 4, 2, 1, 0, 5] rfl)
        have jn52 : ∀  (H : Heap) (locs : List Loc) (ls : Array Slot), ib J23_l3 0 1604 → ib J23_l4 0 1 → ib J23_l5 0 4 → ib x_this_at 0 1599 → ib x_this_sort 1 1 → (O = F_X5_wordIn_s5_52 (Int32.toInt x_this_at) (Int32.toInt x_this_behind) (Int32.toInt J23_l2) (Int32.toInt J23_l3) (Int32.toInt J23_l4) (Int32.toInt J23_l5) K23 ) → va_P (dC, dI) vwCl [(wo_5_riiiiirii a_this a_this_text x_this_length x_this_at x_this_behind x_this_sort x_this_allowed a_this_plan x_this_fault x_this_place), (wi_0_1600_0 a_this_text cy g_this_text)] H → va_D A [(wo_5_riiiiirii a_this a_this_text x_this_length x_this_at x_this_behind x_this_sort x_this_allowed a_this_plan x_this_fault x_this_place), (wi_0_1600_0 a_this_text cy g_this_text)] → va_S A s.heap H locs → lv_has ls 6 [(0, .ref a_this), (1, .ref (sq 5)), (2, .int J23_l2), (3, .int J23_l3), (4, .int J23_l4), (5, .int J23_l5)] → W p l e { frames := 4, cells := 0, slots := 0, locals := 141 } s m args below meth c H locs 0 0 Q (F0 m 52 ls []) := by
          as_aux_lemma =>
            intro H locs ls hK52_J23_l3 hK52_J23_l4 hK52_J23_l5 hK52_x_this_at hK52_x_this_sort hq hP hD hS hl
            unfold F_X5_wordIn_s5_52 at hq
            refine lv_iload hx hb dX5_wordIn_52 (lv_at hl 4 rfl) ?_
            refine lv_if_eq (tgt := 67) hx hb dX5_wordIn_54 rfl (fun c8 => ?_) (fun c8 => ?_)
            · replace hq := lf_pos hq (lf_eq (lf_rf J23_l4) (lf_lc 0 (0 : Int) rfl) c8)
              have h9 := ib_eq hK52_J23_l4 (ib_c 0 0 0 rfl) c8
              have h10 : ib J23_l4 0 0 := ib_w 0 0 h9.1 rfl
              exact jn67  H locs ls (ib_w 0 1604 hK52_J23_l3 rfl) (ib_w 0 1 h10 rfl) (ib_w 0 4 hK52_J23_l5 rfl) (ib_w 0 1599 hK52_x_this_at rfl) (ib_w 1 1 hK52_x_this_sort rfl) (by exact hq) hP hD hS (lv_sub hl [0, 1, 2, 3, 4, 5] rfl)
            · replace hq := lf_neg hq (lf_ne (lf_rf J23_l4) (lf_lc 0 (0 : Int) rfl) c8)
              have h11 : ib J23_l4 1 1 := ib_w 1 1 (ib_ne_lo 0 hK52_J23_l4 rfl c8) rfl
              refine lv_iload_n hx hb dX5_wordIn_57 rfl (lv_at hl 3 rfl) ?_
              refine lv_aload_n hx hb dX5_wordIn_58 rfl (lv_at hl 0 rfl) ?_
              refine k_get C0 fg_X5_18 hP 0 rfl rfl dX5_wordIn_59 ?_
              refine lv_icmp_ne (tgt := 67) hx hb dX5_wordIn_62 rfl (fun c12 => ?_) (fun c12 => ?_)
              · replace hq := lf_neg hq (lf_ne (lf_rf J23_l3) (lf_rf x_this_behind) c12)
                exact jn67  H locs ls (ib_w 0 1604 hK52_J23_l3 rfl) (ib_w 0 1 h11 rfl) (ib_w 0 4 hK52_J23_l5 rfl) (ib_w 0 1599 hK52_x_this_at rfl) (ib_w 1 1 hK52_x_this_sort rfl) (by exact hq) hP hD hS (lv_sub hl [0, 1, 2, 3, 4, 5] rfl)
              · replace hq := lf_pos hq (lf_eq (lf_rf J23_l3) (lf_rf x_this_behind) c12)
                have h13 := ib_eq hK52_J23_l3 hx_this_behind c12
                have h14 : ib J23_l3 0 1600 := ib_w 0 1600 h13.1 rfl
                refine lv_iload_n hx hb dX5_wordIn_65 rfl (lv_at hl 2 rfl) ?_
                subst hQ; exact k_iret hx hb hr hlk rfl () hS ((hO.symm.trans (by exact hq))) hP hD (Nat.le_of_ble_eq_true rfl) (Nat.le_of_ble_eq_true rfl) dX5_wordIn_66
        refine lv_iload hx hb dX5_wordIn_23 (lv_at hl 5 rfl) ?_
        refine lv_aload_n hx hb dX5_wordIn_25 rfl (lv_at hl 1 rfl) ?_
        refine k_jim hP hD hS hA [] [true, true] rfl rfl rfl 0 0 (Nat.le_of_ble_eq_true rfl) (Nat.le_of_ble_eq_true rfl) (fun hPc hDc => k_runVO (As := []) (rest := [.int J23_l5]) C0 hZ hS hA (c_length l dC dI cy sq 5 (by decide)) mV_X5_244 hPc hDc (vk_recv hZ.1 (by decide) hS) hl rfl rfl (Nat.le_of_ble_eq_true rfl) ⟨(Nat.le_of_ble_eq_true rfl), (Nat.le_of_ble_eq_true rfl)⟩ ⟨(Nat.le_of_ble_eq_true rfl), (Nat.le_of_ble_eq_true rfl)⟩ dX5_wordIn_26) (fun r15 u16 H locs hw hP hD hS => ?_)
        replace hP : va_P (dC, dI) vwCl [(wo_5_riiiiirii a_this a_this_text x_this_length x_this_at x_this_behind x_this_sort x_this_allowed a_this_plan x_this_fault x_this_place), (wi_0_1600_0 a_this_text cy g_this_text)] H := hP
        replace hD := k_D hP hD
        obtain rfl : r15 = 4 := hw.trans (by decide)
        refine lv_icmp_gt (tgt := 125) hx hb dX5_wordIn_29 rfl (fun c17 => ?_) (fun c17 => ?_)
        · replace hq := lf_pos hq (lf_lt (lf_lc 4 (4 : Int) rfl) (lf_rf J23_l5) c17)
          have h18 := ib_lt (ib_c 4 4 4 rfl) hJ23_l5 c17
          have h19 : ib J23_l5 5 5 := ib_w 5 5 h18.2 rfl
          refine lv_iconst (v := (-1)) hx hb dX5_wordIn_125 rfl ?_
          subst hQ; exact k_iret hx hb hr hlk rfl () hS ((hO.symm.trans (by try simp only [show ((-1) : Int32).toInt = (-1 : Int) from rfl]; exact hq))) hP hD (Nat.le_of_ble_eq_true rfl) (Nat.le_of_ble_eq_true rfl) dX5_wordIn_126
        · as_aux_lemma =>
            replace hq := lf_neg hq (lf_nlt (lf_lc 4 (4 : Int) rfl) (lf_rf J23_l5) c17)
            have h20 := ib_nlt (ib_c 4 4 4 rfl) hJ23_l5 c17
            have h21 : ib J23_l5 0 4 := ib_w 0 4 h20.2 rfl
            refine lv_iload hx hb dX5_wordIn_32 (lv_at hl 5 rfl) ?_
            refine lv_aload_n hx hb dX5_wordIn_34 rfl (lv_at hl 1 rfl) ?_
            refine k_jim hP hD hS hA [] [true, true] rfl rfl rfl 0 0 (Nat.le_of_ble_eq_true rfl) (Nat.le_of_ble_eq_true rfl) (fun hPc hDc => k_runVO (As := []) (rest := [.int J23_l5]) C0 hZ hS hA (c_length l dC dI cy sq 5 (by decide)) mV_X5_244 hPc hDc (vk_recv hZ.1 (by decide) hS) hl rfl rfl (Nat.le_of_ble_eq_true rfl) ⟨(Nat.le_of_ble_eq_true rfl), (Nat.le_of_ble_eq_true rfl)⟩ ⟨(Nat.le_of_ble_eq_true rfl), (Nat.le_of_ble_eq_true rfl)⟩ dX5_wordIn_35) (fun r22 u23 H locs hw hP hD hS => ?_)
            replace hP : va_P (dC, dI) vwCl [(wo_5_riiiiirii a_this a_this_text x_this_length x_this_at x_this_behind x_this_sort x_this_allowed a_this_plan x_this_fault x_this_place), (wi_0_1600_0 a_this_text cy g_this_text)] H := hP
            replace hD := k_D hP hD
            obtain rfl : r22 = 4 := hw.trans (by decide)
            refine lv_icmp_eq (tgt := 52) hx hb dX5_wordIn_38 rfl (fun c24 => ?_) (fun c24 => ?_)
            · replace hq := lf_pos hq (lf_eq (lf_rf J23_l5) (lf_lc 4 (4 : Int) rfl) c24)
              have h25 := ib_eq h21 (ib_c 4 4 4 rfl) c24
              have h26 : ib J23_l5 4 4 := ib_w 4 4 h25.1 rfl
              exact jn52  H locs ls (ib_w 0 1604 hJ23_l3 rfl) (ib_w 0 1 hJ23_l4 rfl) (ib_w 0 4 h26 rfl) (ib_w 0 1599 hK23_x_this_at rfl) (ib_w 1 1 hK23_x_this_sort rfl) (by exact hq) hP hD hS (lv_sub hl [0, 1, 2, 3, 4, 5] rfl)
            · as_aux_lemma =>
                replace hq := lf_neg hq (lf_ne (lf_rf J23_l5) (lf_lc 4 (4 : Int) rfl) c24)
                have h27 : ib J23_l5 0 3 := ib_w 0 3 (ib_ne_hi 4 h21 rfl c24) rfl
                refine lv_aload_n hx hb dX5_wordIn_41 rfl (lv_at hl 1 rfl) ?_
                refine lv_iload hx hb dX5_wordIn_42 (lv_at hl 5 rfl) ?_
                refine k_jim hP hD hS hA [] [true, true] rfl rfl rfl 0 0 (Nat.le_of_ble_eq_true rfl) (Nat.le_of_ble_eq_true rfl) (fun hPc hDc => k_runVO (As := [.int J23_l5]) (rest := []) C0 hZ hS hA (cx_charAt l dC dI cy sq 5 (by decide) J23_l5 (ib_ch 5 4 h27 rfl rfl).1 (ib_ch 5 4 h27 rfl rfl).2.1 (ib_ch 5 4 h27 rfl rfl).2.2) mV_X5_248 hPc hDc (vk_recv hZ.1 (by decide) hS) hl rfl rfl (Nat.le_of_ble_eq_true rfl) ⟨(Nat.le_of_ble_eq_true rfl), (Nat.le_of_ble_eq_true rfl)⟩ ⟨(Nat.le_of_ble_eq_true rfl), (Nat.le_of_ble_eq_true rfl)⟩ dX5_wordIn_44) (fun r28 u29 H locs hw hP hD hS => ?_)
                replace hP : va_P (dC, dI) vwCl [(wo_5_riiiiirii a_this a_this_text x_this_length x_this_at x_this_behind x_this_sort x_this_allowed a_this_plan x_this_fault x_this_place), (wi_0_1600_0 a_this_text cy g_this_text)] H := hP
                replace hD := k_D hP hD
                have Er28 := lf_cha (j := 5) hw (lf_rf J23_l5)
                refine lv_bipush (v := 32) hx hb dX5_wordIn_47 rfl ?_
                refine lv_icmp_ne (tgt := 81) hx hb dX5_wordIn_49 rfl (fun c30 => ?_) (fun c30 => ?_)
                · as_aux_lemma =>
                    replace hq := lf_neg hq (lf_ne Er28 (lf_lc 32 (32 : Int) rfl) c30)
                    refine lv_iload hx hb dX5_wordIn_81 (lv_at hl 4 rfl) ?_
                    refine lv_if_eq (tgt := 113) hx hb dX5_wordIn_83 rfl (fun c31 => ?_) (fun c31 => ?_)
                    · replace hq := lf_pos hq (lf_eq (lf_rf J23_l4) (lf_lc 0 (0 : Int) rfl) c31)
                      have h32 := ib_eq hJ23_l4 (ib_c 0 0 0 rfl) c31
                      have h33 : ib J23_l4 0 0 := ib_w 0 0 h32.1 rfl
                      have h34 : ib J23_l3 0 1603 := ⟨(hJ23_l3).1, by have := (hJ23_l3).2; have := hJ23_lin0; have := (h27).2; omega⟩
                      exact jn113  H locs ls (ib_w 0 1603 h34 rfl) (ib_w 0 1 h33 rfl) (ib_w 0 3 h27 rfl) (ib_w 0 1599 hK23_x_this_at rfl) (ib_w 1 1 hK23_x_this_sort rfl) (by have := hJ23_lin0; omega) (by exact hq) hP hD hS (lv_sub hl [0, 1, 2, 3, 4, 5] rfl)
                    · as_aux_lemma =>
                        replace hq := lf_neg hq (lf_ne (lf_rf J23_l4) (lf_lc 0 (0 : Int) rfl) c31)
                        have h35 : ib J23_l4 1 1 := ib_w 1 1 (ib_ne_lo 0 hJ23_l4 rfl c31) rfl
                        refine lv_iload_n hx hb dX5_wordIn_86 rfl (lv_at hl 3 rfl) ?_
                        refine lv_aload_n hx hb dX5_wordIn_87 rfl (lv_at hl 0 rfl) ?_
                        refine k_get C0 fg_X5_18 hP 0 rfl rfl dX5_wordIn_88 ?_
                        refine lv_icmp_ge (tgt := 113) hx hb dX5_wordIn_91 rfl (fun c36 => ?_) (fun c36 => ?_)
                        · replace hq := lf_pos hq (lf_le (lf_rf x_this_behind) (lf_rf J23_l3) c36)
                          have h37 := ib_le hx_this_behind hJ23_l3 c36
                          have h38 : ib J23_l3 0 1603 := ⟨(hJ23_l3).1, by have := (hJ23_l3).2; have := hJ23_lin0; have := (h27).2; omega⟩
                          exact jn113  H locs ls (ib_w 0 1603 h38 rfl) (ib_w 0 1 h35 rfl) (ib_w 0 3 h27 rfl) (ib_w 0 1599 hK23_x_this_at rfl) (ib_w 1 1 hK23_x_this_sort rfl) (by have := hJ23_lin0; omega) (by exact hq) hP hD hS (lv_sub hl [0, 1, 2, 3, 4, 5] rfl)
                        · as_aux_lemma =>
                            replace hq := lf_neg hq (lf_nle (lf_rf x_this_behind) (lf_rf J23_l3) c36)
                            have h39 := ib_nle hx_this_behind hJ23_l3 c36
                            have h40 : ib x_this_behind 1 1600 := ib_w 1 1600 h39.1 rfl
                            have h41 : ib J23_l3 0 1599 := ib_w 0 1599 h39.2 rfl
                            refine lv_aload_n hx hb dX5_wordIn_94 rfl (lv_at hl 0 rfl) ?_
                            refine k_get C0 fg_X5_33 hP 0 rfl rfl dX5_wordIn_95 ?_
                            refine lv_iload_n hx hb dX5_wordIn_98 rfl (lv_at hl 3 rfl) ?_
                            refine va_iald hx hb C0.2.2.2.2.2.1 hP 1 0 rfl rfl (ib_in 1600 h41 rfl) dX5_wordIn_99 ?_
                            refine lv_topi (fun z42 ez42 => ?_)
                            have h43 : ib z42 0 255 := by rw [ez42]; exact ia_at hg_this_text (ib_in 1600 h41 rfl)
                            have Ez42 := lf_ld ez42 (lf_ra g_this_text) (lf_rf J23_l3)
                            refine lv_aload_n hx hb dX5_wordIn_100 rfl (lv_at hl 1 rfl) ?_
                            refine lv_iload hx hb dX5_wordIn_101 (lv_at hl 5 rfl) ?_
                            refine k_jim hP hD hS hA [] [true, true] rfl rfl rfl 0 0 (Nat.le_of_ble_eq_true rfl) (Nat.le_of_ble_eq_true rfl) (fun hPc hDc => k_runVO (As := [.int J23_l5]) (rest := [.int z42]) C0 hZ hS hA (cx_charAt l dC dI cy sq 5 (by decide) J23_l5 (ib_ch 5 4 h27 rfl rfl).1 (ib_ch 5 4 h27 rfl rfl).2.1 (ib_ch 5 4 h27 rfl rfl).2.2) mV_X5_248 hPc hDc (vk_recv hZ.1 (by decide) hS) hl rfl rfl (Nat.le_of_ble_eq_true rfl) ⟨(Nat.le_of_ble_eq_true rfl), (Nat.le_of_ble_eq_true rfl)⟩ ⟨(Nat.le_of_ble_eq_true rfl), (Nat.le_of_ble_eq_true rfl)⟩ dX5_wordIn_103) (fun r44 u45 H locs hw hP hD hS => ?_)
                            replace hP : va_P (dC, dI) vwCl [(wo_5_riiiiirii a_this a_this_text x_this_length x_this_at x_this_behind x_this_sort x_this_allowed a_this_plan x_this_fault x_this_place), (wi_0_1600_0 a_this_text cy g_this_text)] H := hP
                            replace hD := k_D hP hD
                            have Er44 := lf_cha (j := 5) hw (lf_rf J23_l5)
                            refine lv_icmp_ne (tgt := 113) hx hb dX5_wordIn_106 rfl (fun c46 => ?_) (fun c46 => ?_)
                            · replace hq := lf_neg hq (lf_ne Ez42 Er44 c46)
                              exact jn113  H locs ls (ib_w 0 1603 h41 rfl) (ib_w 0 1 h35 rfl) (ib_w 0 3 h27 rfl) (ib_w 0 1599 hK23_x_this_at rfl) (ib_w 1 1 hK23_x_this_sort rfl) (by have := hJ23_lin0; omega) (by exact hq) hP hD hS (lv_sub hl [0, 1, 2, 3, 4, 5] rfl)
                            · replace hq := lf_pos hq (lf_eq Ez42 Er44 c46)
                              have h47 := ib_eq h43 (ib_any r44) c46
                              have h48 : ib r44 0 255 := ib_w 0 255 h47.2 rfl
                              refine lv_iconst (v := 1) hx hb dX5_wordIn_109 rfl ?_
                              refine lv_goto (tgt := 114) hx hb dX5_wordIn_110 rfl ?_
                              exact jn114 1 H locs ls (ib_w 0 1603 h41 rfl) (ib_w 0 1 h35 rfl) (ib_w 0 3 h27 rfl) (ib_w 0 1599 hK23_x_this_at rfl) (ib_w 1 1 hK23_x_this_sort rfl) (ib_w 0 1 (ib_c 1 1 1 rfl) rfl) (by have := hJ23_lin0; omega) (by try simp only [show (1 : Int32).toInt = (1 : Int) from rfl]; exact hq) hP hD hS (lv_sub hl [0, 1, 2, 3, 4, 5] rfl)
                · replace hq := lf_pos hq (lf_eq Er28 (lf_lc 32 (32 : Int) rfl) c30)
                  have h49 := ib_eq (ib_any r28) (ib_c 32 32 32 rfl) c30
                  have h50 : ib r28 32 32 := ib_w 32 32 h49.1 rfl
                  have h51 : ib J23_l3 0 1603 := ⟨(hJ23_l3).1, by have := (hJ23_l3).2; have := hJ23_lin0; have := (h27).2; omega⟩
                  exact jn52  H locs ls (ib_w 0 1604 h51 rfl) (ib_w 0 1 hJ23_l4 rfl) (ib_w 0 4 h27 rfl) (ib_w 0 1599 hK23_x_this_at rfl) (ib_w 1 1 hK23_x_this_sort rfl) (by exact hq) hP hD hS (lv_sub hl [0, 1, 2, 3, 4, 5] rfl)
  refine lv_aload_n hx hb dX5_wordIn_0 rfl (lv_at hl 0 rfl) ?_
  refine k_get C0 fg_X5_21 hP 0 rfl rfl dX5_wordIn_1 ?_
  refine lv_iconst (v := 1) hx hb dX5_wordIn_4 rfl ?_
  refine lv_icmp_eq (tgt := 10) hx hb dX5_wordIn_5 rfl (fun c52 => ?_) (fun c52 => ?_)
  · replace hq := lf_pos hq (lf_eq (lf_rf x_this_sort) (lf_lc 1 (1 : Int) rfl) c52)
    have h53 := ib_eq hx_this_sort (ib_c 1 1 1 rfl) c52
    have h54 : ib x_this_sort 1 1 := ib_w 1 1 h53.1 rfl
    have h55 : ib x_this_at 0 1599 := ib_w 0 1599 (ib_two hx_this_at (hc0_this (ib_nz h54 rfl))) rfl
    refine lv_iconst (v := 0) hx hb dX5_wordIn_10 rfl ?_
    refine lv_istore_n (lv' := [(2, .int 0), (0, .ref a_this), (1, .ref (sq 5))]) hx hb dX5_wordIn_11 rfl hl (Nat.le_of_ble_eq_true rfl) rfl (fun ls hl => ?_)
    refine lv_aload_n hx hb dX5_wordIn_12 rfl (lv_at hl 1 rfl) ?_
    refine k_get C0 fg_X5_15 hP 0 rfl rfl dX5_wordIn_13 ?_
    refine lv_istore_n (lv' := [(3, .int x_this_at), (2, .int 0), (0, .ref a_this), (1, .ref (sq 5))]) hx hb dX5_wordIn_16 rfl hl (Nat.le_of_ble_eq_true rfl) rfl (fun ls hl => ?_)
    refine lv_iconst (v := 1) hx hb dX5_wordIn_17 rfl ?_
    refine lv_istore (lv' := [(4, .int 1), (3, .int x_this_at), (2, .int 0), (0, .ref a_this), (1, .ref (sq 5))]) hx hb dX5_wordIn_18 hl (Nat.le_of_ble_eq_true rfl) rfl (fun ls hl => ?_)
    refine lv_iconst (v := 0) hx hb dX5_wordIn_20 rfl ?_
    refine lv_istore (lv' := [(5, .int 0), (4, .int 1), (3, .int x_this_at), (2, .int 0), (0, .ref a_this), (1, .ref (sq 5))]) hx hb dX5_wordIn_21 hl (Nat.le_of_ble_eq_true rfl) rfl (fun ls hl => ?_)
    exact jn23 7 0 x_this_at 1 0 H locs ls (ib_w 0 1599 h55 rfl) (ib_w 1 1 h54 rfl) (ib_w 0 1604 h55 rfl) (ib_w 0 1 (ib_c 1 1 1 rfl) rfl) (ib_w 0 5 (ib_c 0 0 0 rfl) rfl) (by have : (0 : Int32).toInt = 0 := rfl; have := (h55).2; omega) (by try simp only [show (0 : Int32).toInt = (0 : Int) from rfl]; try simp only [show (1 : Int32).toInt = (1 : Int) from rfl]; exact hq) (by have := (ib_c 0 0 0 rfl); unfold ib at this; omega) hP hD hS (lv_sub hl [4, 5, 3, 2, 1, 0] rfl)
  · replace hq := lf_neg hq (lf_ne (lf_rf x_this_sort) (lf_lc 1 (1 : Int) rfl) c52)
    refine lv_iconst (v := (-1)) hx hb dX5_wordIn_8 rfl ?_
    subst hQ; exact k_iret hx hb hr hlk rfl () hS ((hO.symm.trans (by try simp only [show ((-1) : Int32).toInt = (-1 : Int) from rfl]; exact hq))) hP hD (Nat.le_of_ble_eq_true rfl) (Nat.le_of_ble_eq_true rfl) dX5_wordIn_9
set_option maxHeartbeats 4000000 in
set_option maxRecDepth 100000 in
theorem s_X5_needWord_s5 (l : Launch) (dC : Nat → ClassId) (dI : Nat → Nat → Nat) (cy : Nat → ClassId) (sq : Nat → Nat) (a_this : Nat) (a_this_text : Nat) (g_this_text : Nat → Int32) (x_this_length : Int32) (x_this_at : Int32) (x_this_behind : Int32) (x_this_sort : Int32) (x_this_allowed : Int32) (a_this_plan : Nat) (x_this_fault : Int32) (x_this_place : Int32) (hg_this_text : ia g_this_text 1600 0 255) (hx_this_length : ib x_this_length 0 1600) (hx_this_at : ib x_this_at 0 1600) (hx_this_behind : ib x_this_behind 0 1600) (hx_this_sort : ib x_this_sort 0 4) (hc0_this : ¬ x_this_sort = 0 → ib x_this_at 0 1599) : k_Met l yX5_needWord cX5_needWord 2 none { frames := 5, cells := 0, slots := 0, locals := 166 } dC dI cy sq [.ref a_this, .ref (sq 5)] [(wo_5_riiiiirii a_this a_this_text x_this_length x_this_at x_this_behind x_this_sort x_this_allowed a_this_plan x_this_fault x_this_place), (wi_0_1600_0 a_this_text cy g_this_text)] (k_Qv dC dI (fun (u : Int32 × Int32 × Int32 × Int32 × Int32) => match u with | (n0, n1, n2, n3, n4) => ib n0 0 1600 ∧ ib n1 0 1600 ∧ ib n2 0 4 ∧ (¬ n2 = 0 → ib n0 0 1599) ∧ (F_X5_needWord_s5 (lf_A g_this_text) (Int32.toInt x_this_length) (Int32.toInt x_this_at) (Int32.toInt x_this_behind) (Int32.toInt x_this_sort) (Int32.toInt x_this_fault) (Int32.toInt x_this_place) = ((Int32.toInt n0), (Int32.toInt n1), (Int32.toInt n2), (Int32.toInt n3), (Int32.toInt n4)))) (fun u : Int32 × Int32 × Int32 × Int32 × Int32 => match u with | (n0, n1, n2, n3, n4) => [(wo_5_riiiiirii a_this a_this_text x_this_length n0 n1 n2 x_this_allowed a_this_plan n3 n4), (wi_0_1600_0 a_this_text cy g_this_text)])) := by
  refine k_ofW2 (by decide +kernel) (Nat.le_of_ble_eq_true rfl) ?_
  intro p e s m below meth c A ls H locs args Q hQ C0 hZ hr hlk hin hP hD hA hS hl
  have C0 : k_cx p s m args c cX5_needWord 2 RX5 dC dI cy sq := C0
  have hx := C0.1
  have hb := C0.2.1
  have hl : lv_has ls 2 [(0, .ref a_this), (1, .ref (sq 5))] := hl
  obtain ⟨O, hO⟩ : ∃ o, o = F_X5_needWord_s5 (lf_A g_this_text) (Int32.toInt x_this_length) (Int32.toInt x_this_at) (Int32.toInt x_this_behind) (Int32.toInt x_this_sort) (Int32.toInt x_this_fault) (Int32.toInt x_this_place) := ⟨_, rfl⟩
  have hq := hO
  unfold F_X5_needWord_s5 at hq
  refine lv_aload_n hx hb dX5_needWord_0 rfl (lv_at hl 0 rfl) ?_
  refine lv_aload_n hx hb dX5_needWord_1 rfl (lv_at hl 1 rfl) ?_
  refine k_jim hP hD hS hA [0, 1] [] rfl rfl rfl 0 0 (Nat.le_of_ble_eq_true rfl) (Nat.le_of_ble_eq_true rfl) (fun hPc hDc => k_runV (As := [.ref (sq 5)]) (rest := []) C0 hZ hS hA (s_X5_wordIn_s5 l dC dI cy sq a_this a_this_text g_this_text x_this_length x_this_at x_this_behind x_this_sort x_this_allowed a_this_plan x_this_fault x_this_place hg_this_text (ib_w 0 1600 hx_this_at rfl) (ib_w 0 1600 hx_this_behind rfl) (ib_w 0 4 hx_this_sort rfl) (fun hq9 => ib_w 0 1599 (hc0_this hq9) rfl)) mV_X5_54 hPc hDc rfl rfl rfl hl rfl rfl (Nat.le_of_ble_eq_true rfl) ⟨(Nat.le_of_ble_eq_true rfl), (Nat.le_of_ble_eq_true rfl)⟩ ⟨(Nat.le_of_ble_eq_true rfl), (Nat.le_of_ble_eq_true rfl)⟩ dX5_needWord_2) (fun r1 u2 H locs hw hP hD hS => ?_)
  try dsimp only at hP hD hw
  replace hP : va_P (dC, dI) vwCl [(wo_5_riiiiirii a_this a_this_text x_this_length x_this_at x_this_behind x_this_sort x_this_allowed a_this_plan x_this_fault x_this_place), (wi_0_1600_0 a_this_text cy g_this_text)] H := hP
  replace hD := k_D hP hD
  have h3 := hw
  replace hq := lf_b1 hq h3
  refine lv_iconst (v := (-1)) hx hb dX5_needWord_5 rfl ?_
  refine lv_icmp_ne (tgt := 21) hx hb dX5_needWord_6 rfl (fun c4 => ?_) (fun c4 => ?_)
  · replace hq := lf_neg hq (lf_ne (lf_rf r1) (lf_lc (-1) (-1 : Int) rfl) c4)
    refine lv_aload_n hx hb dX5_needWord_21 rfl (lv_at hl 0 rfl) ?_
    refine lv_aload_n hx hb dX5_needWord_22 rfl (lv_at hl 0 rfl) ?_
    refine k_get C0 fg_X5_18 hP 0 rfl rfl dX5_needWord_23 ?_
    refine k_jvm hP hD hS hA [0, 1] [] rfl rfl rfl 0 0 (Nat.le_of_ble_eq_true rfl) (Nat.le_of_ble_eq_true rfl) (fun hPc hDc => k_runV (As := [.int x_this_behind]) (rest := []) C0 hZ hS hA (s_X5_moveTo l dC dI cy sq a_this a_this_text g_this_text x_this_length x_this_at x_this_behind x_this_sort x_this_allowed a_this_plan x_this_fault x_this_place x_this_behind hg_this_text (ib_w 0 1600 hx_this_length rfl) (ib_w 0 1600 hx_this_behind rfl)) mV_X5_86 hPc hDc rfl rfl rfl hl rfl rfl (Nat.le_of_ble_eq_true rfl) ⟨(Nat.le_of_ble_eq_true rfl), (Nat.le_of_ble_eq_true rfl)⟩ ⟨(Nat.le_of_ble_eq_true rfl), (Nat.le_of_ble_eq_true rfl)⟩ dX5_needWord_26) (fun u6 H locs hw hP hD hS => ?_)
    obtain ⟨v7, v8, v9⟩ := u6
    try dsimp only at hP hD hw
    replace hP : va_P (dC, dI) vwCl [(wo_5_riiiiirii a_this a_this_text x_this_length v7 v8 v9 x_this_allowed a_this_plan x_this_fault x_this_place), (wi_0_1600_0 a_this_text cy g_this_text)] H := hP
    replace hD := k_D hP hD
    obtain ⟨h10, h11, h12, h13, h14⟩ := hw
    replace hq := lf_p1 hq h14
    replace hq := lf_p1 hq rfl
    subst hQ; exact k_vret hx hb hr hlk ((v7, v8, v9, x_this_fault, x_this_place)) hS ⟨ib_w 0 1600 h10 rfl, ib_w 0 1600 h11 rfl, ib_w 0 4 h12 rfl, fun hq9 => ib_w 0 1599 (h13 hq9) rfl, (hO.symm.trans (by exact hq))⟩ hP hD (Nat.le_of_ble_eq_true rfl) (Nat.le_of_ble_eq_true rfl) dX5_needWord_29
  · replace hq := lf_pos hq (lf_eq (lf_rf r1) (lf_lc (-1) (-1 : Int) rfl) c4)
    have h15 := ib_eq (ib_any r1) (ib_c (-1) (-1) (-1) rfl) c4
    have h16 : ib r1 (-1) (-1) := ib_w (-1) (-1) h15.1 rfl
    refine lv_aload_n hx hb dX5_needWord_9 rfl (lv_at hl 0 rfl) ?_
    refine lv_iconst (v := 1) hx hb dX5_needWord_10 rfl ?_
    refine lv_aload_n hx hb dX5_needWord_11 rfl (lv_at hl 0 rfl) ?_
    refine k_get C0 fg_X5_15 hP 0 rfl rfl dX5_needWord_12 ?_
    refine k_jvm hP hD hS hA [0] [false, true] rfl rfl rfl 0 0 (Nat.le_of_ble_eq_true rfl) (Nat.le_of_ble_eq_true rfl) (fun hPc hDc => k_runV (As := [.int 1, .int x_this_at]) (rest := []) C0 hZ hS hA (s_X5_fail l dC dI cy sq a_this a_this_text x_this_length x_this_at x_this_behind x_this_sort x_this_allowed a_this_plan x_this_fault x_this_place 1 x_this_at ) mV_X5_78 hPc hDc rfl rfl rfl hl rfl rfl (Nat.le_of_ble_eq_true rfl) ⟨(Nat.le_of_ble_eq_true rfl), (Nat.le_of_ble_eq_true rfl)⟩ ⟨(Nat.le_of_ble_eq_true rfl), (Nat.le_of_ble_eq_true rfl)⟩ dX5_needWord_15) (fun u18 H locs hw hP hD hS => ?_)
    obtain ⟨v19, v20⟩ := u18
    try dsimp only at hP hD hw
    replace hP : va_P (dC, dI) vwCl [(wi_0_1600_0 a_this_text cy g_this_text), (wo_5_riiiiirii a_this a_this_text x_this_length x_this_length x_this_length 0 x_this_allowed a_this_plan v19 v20)] H := hP
    replace hD := k_D hP hD
    have h21 := hw
    have h21 := by have h9 := h21; try simp only [show (1 : Int32).toInt = (1 : Int) from rfl] at h9; exact h9
    replace hq := lf_p1 hq h21
    refine lv_goto (tgt := 29) hx hb dX5_needWord_18 rfl ?_
    subst hQ; exact k_vret hx hb hr hlk ((x_this_length, x_this_length, 0, v19, v20)) hS ⟨ib_w 0 1600 hx_this_length rfl, ib_w 0 1600 hx_this_length rfl, ib_w 0 4 (ib_c 0 0 0 rfl) rfl, fun hq9 => absurd rfl hq9, (hO.symm.trans (by try simp only [show (0 : Int32).toInt = (0 : Int) from rfl]; exact hq))⟩ (hP.sub [1, 0] rfl) (hD.sub [1, 0] rfl rfl) (Nat.le_of_ble_eq_true rfl) (Nat.le_of_ble_eq_true rfl) dX5_needWord_29
set_option maxHeartbeats 4000000 in
set_option maxRecDepth 100000 in
theorem s_X5_number_a0_0_a1_2 (l : Launch) (dC : Nat → ClassId) (dI : Nat → Nat → Nat) (cy : Nat → ClassId) (sq : Nat → Nat) (a_this : Nat) (a_this_text : Nat) (g_this_text : Nat → Int32) (x_this_length : Int32) (x_this_at : Int32) (x_this_behind : Int32) (x_this_sort : Int32) (x_this_allowed : Int32) (a_this_plan : Nat) (x_this_fault : Int32) (x_this_place : Int32) (hg_this_text : ia g_this_text 1600 0 255) (hx_this_length : ib x_this_length 0 1600) (hx_this_at : ib x_this_at 0 1600) (hx_this_behind : ib x_this_behind 0 1600) (hx_this_sort : ib x_this_sort 0 4) (hc0_this : ¬ x_this_sort = 0 → ib x_this_at 0 1599) : k_Met l yX5_number cX5_number 5 (some .int) { frames := 2, cells := 0, slots := 0, locals := 43 } dC dI cy sq [.ref a_this, .int 0, .int 2] [(wo_5_riiiiirii a_this a_this_text x_this_length x_this_at x_this_behind x_this_sort x_this_allowed a_this_plan x_this_fault x_this_place), (wi_0_1600_0 a_this_text cy g_this_text)] (k_Qi dC dI (fun (r : Int32) (u : Int32 × Int32 × Int32 × Int32 × Int32) => match u with | (n0, n1, n2, n3, n4) => ib r 0 2 ∧ ib n0 0 1600 ∧ ib n1 0 1600 ∧ ib n2 0 4 ∧ (¬ n2 = 0 → ib n0 0 1599) ∧ (F_X5_number_a0_0_a1_2 (lf_A g_this_text) (Int32.toInt x_this_length) (Int32.toInt x_this_at) (Int32.toInt x_this_behind) (Int32.toInt x_this_sort) (Int32.toInt x_this_fault) (Int32.toInt x_this_place) = ((Int32.toInt r), (Int32.toInt n0), (Int32.toInt n1), (Int32.toInt n2), (Int32.toInt n3), (Int32.toInt n4)))) (fun u : Int32 × Int32 × Int32 × Int32 × Int32 => match u with | (n0, n1, n2, n3, n4) => [(wo_5_riiiiirii a_this a_this_text x_this_length n0 n1 n2 x_this_allowed a_this_plan n3 n4), (wi_0_1600_0 a_this_text cy g_this_text)])) := by
  refine k_ofW2 (by decide +kernel) (Nat.le_of_ble_eq_true rfl) ?_
  intro p e s m below meth c A ls H locs args Q hQ C0 hZ hr hlk hin hP hD hA hS hl
  have C0 : k_cx p s m args c cX5_number 5 RX5 dC dI cy sq := C0
  have hx := C0.1
  have hb := C0.2.1
  have hl : lv_has ls 5 [(0, .ref a_this), (1, .int 0), (2, .int 2)] := hl
  obtain ⟨O, hO⟩ : ∃ o, o = F_X5_number_a0_0_a1_2 (lf_A g_this_text) (Int32.toInt x_this_length) (Int32.toInt x_this_at) (Int32.toInt x_this_behind) (Int32.toInt x_this_sort) (Int32.toInt x_this_fault) (Int32.toInt x_this_place) := ⟨_, rfl⟩
  have hq := hO
  unfold F_X5_number_a0_0_a1_2 at hq
  have jn94 : ∀ (J94_l3 : Int32) (J94_l4 : Int32) (H : Heap) (locs : List Loc) (ls : Array Slot), ib J94_l4 0 1600 → ib x_this_at 0 1599 → ib x_this_sort 2 2 → (O = F_X5_number_a0_0_a1_2_94 (Int32.toInt x_this_length) (Int32.toInt x_this_at) (Int32.toInt x_this_fault) (Int32.toInt x_this_place) (Int32.toInt J94_l3) (Int32.toInt J94_l4)) → va_P (dC, dI) vwCl [(wo_5_riiiiirii a_this a_this_text x_this_length x_this_at x_this_behind x_this_sort x_this_allowed a_this_plan x_this_fault x_this_place), (wi_0_1600_0 a_this_text cy g_this_text)] H → va_D A [(wo_5_riiiiirii a_this a_this_text x_this_length x_this_at x_this_behind x_this_sort x_this_allowed a_this_plan x_this_fault x_this_place), (wi_0_1600_0 a_this_text cy g_this_text)] → va_S A s.heap H locs → lv_has ls 5 [(0, .ref a_this), (1, .int 0), (2, .int 2), (3, .int J94_l3), (4, .int J94_l4)] → W p l e { frames := 2, cells := 0, slots := 0, locals := 43 } s m args below meth c H locs 0 0 Q (F0 m 94 ls []) := by
    intro J94_l3 J94_l4 H locs ls hJ94_l4 hK94_x_this_at hK94_x_this_sort hq hP hD hS hl
    unfold F_X5_number_a0_0_a1_2_94 at hq
    refine lv_aload_n hx hb dX5_number_94 rfl (lv_at hl 0 rfl) ?_
    refine lv_iconst (v := 2) hx hb dX5_number_95 rfl ?_
    refine lv_aload_n hx hb dX5_number_96 rfl (lv_at hl 0 rfl) ?_
    refine k_get C0 fg_X5_15 hP 0 rfl rfl dX5_number_97 ?_
    refine k_jvm hP hD hS hA [0] [false, true] rfl rfl rfl 0 0 (Nat.le_of_ble_eq_true rfl) (Nat.le_of_ble_eq_true rfl) (fun hPc hDc => k_runV (As := [.int 2, .int x_this_at]) (rest := []) C0 hZ hS hA (s_X5_fail l dC dI cy sq a_this a_this_text x_this_length x_this_at x_this_behind x_this_sort x_this_allowed a_this_plan x_this_fault x_this_place 2 x_this_at ) mV_X5_78 hPc hDc rfl rfl rfl hl rfl rfl (Nat.le_of_ble_eq_true rfl) ⟨(Nat.le_of_ble_eq_true rfl), (Nat.le_of_ble_eq_true rfl)⟩ ⟨(Nat.le_of_ble_eq_true rfl), (Nat.le_of_ble_eq_true rfl)⟩ dX5_number_100) (fun u2 H locs hw hP hD hS => ?_)
    obtain ⟨v3, v4⟩ := u2
    try dsimp only at hP hD hw
    replace hP : va_P (dC, dI) vwCl [(wi_0_1600_0 a_this_text cy g_this_text), (wo_5_riiiiirii a_this a_this_text x_this_length x_this_length x_this_length 0 x_this_allowed a_this_plan v3 v4)] H := hP
    replace hD := k_D hP hD
    have h5 := hw
    have h5 := by have h9 := h5; try simp only [show (2 : Int32).toInt = (2 : Int) from rfl] at h9; exact h9
    replace hq := lf_p1 hq h5
    refine lv_iload_n hx hb dX5_number_103 rfl (lv_at hl 1 rfl) ?_
    subst hQ; exact k_iret hx hb hr hlk rfl ((x_this_length, x_this_length, 0, v3, v4)) hS ⟨ib_w 0 2 (ib_c 0 0 0 rfl) rfl, ib_w 0 1600 hx_this_length rfl, ib_w 0 1600 hx_this_length rfl, ib_w 0 4 (ib_c 0 0 0 rfl) rfl, fun hq9 => absurd rfl hq9, (hO.symm.trans (by try simp only [show (0 : Int32).toInt = (0 : Int) from rfl]; exact hq))⟩ (hP.sub [1, 0] rfl) (hD.sub [1, 0] rfl rfl) (Nat.le_of_ble_eq_true rfl) (Nat.le_of_ble_eq_true rfl) dX5_number_104
  have jn53 : ∀ (n : Nat) (J53_l3 : Int32) (J53_l4 : Int32) (H : Heap) (locs : List Loc) (ls : Array Slot), ib x_this_at 0 1599 → ib x_this_sort 2 2 → ib J53_l4 0 1600 → (O = F_X5_number_a0_0_a1_2_53 (lf_A g_this_text) (Int32.toInt x_this_length) (Int32.toInt x_this_at) (Int32.toInt x_this_behind) (Int32.toInt x_this_fault) (Int32.toInt x_this_place) n (Int32.toInt J53_l3) (Int32.toInt J53_l4)) → 1601 ≤ J53_l4.toInt + (n : Int) → va_P (dC, dI) vwCl [(wo_5_riiiiirii a_this a_this_text x_this_length x_this_at x_this_behind x_this_sort x_this_allowed a_this_plan x_this_fault x_this_place), (wi_0_1600_0 a_this_text cy g_this_text)] H → va_D A [(wo_5_riiiiirii a_this a_this_text x_this_length x_this_at x_this_behind x_this_sort x_this_allowed a_this_plan x_this_fault x_this_place), (wi_0_1600_0 a_this_text cy g_this_text)] → va_S A s.heap H locs → lv_has ls 5 [(0, .ref a_this), (1, .int 0), (2, .int 2), (3, .int J53_l3), (4, .int J53_l4)] → W p l e { frames := 2, cells := 0, slots := 0, locals := 43 } s m args below meth c H locs 0 0 Q (F0 m 53 ls []) := by
    as_aux_lemma =>
      intro n
      induction n with
      | zero =>
        intro J53_l3 J53_l4 H locs ls hK53_x_this_at hK53_x_this_sort hJ53_l4 hq hm
        exact absurd hm (by have := hJ53_l4; unfold ib at this; omega)
      | succ n ih =>
        intro J53_l3 J53_l4 H locs ls hK53_x_this_at hK53_x_this_sort hJ53_l4 hq hm53 hP hD hS hl
        have ih53 := ih
        obtain ⟨K53, hK53⟩ : ∃ K, K = F_X5_number_a0_0_a1_2_53 (lf_A g_this_text) (Int32.toInt x_this_length) (Int32.toInt x_this_at) (Int32.toInt x_this_behind) (Int32.toInt x_this_fault) (Int32.toInt x_this_place) n := ⟨_, rfl⟩
        have hq : O = F_X5_number_a0_0_a1_2_53b (lf_A g_this_text) (Int32.toInt x_this_length) (Int32.toInt x_this_at) (Int32.toInt x_this_behind) (Int32.toInt x_this_fault) (Int32.toInt x_this_place) K53 (Int32.toInt J53_l3) (Int32.toInt J53_l4) := by rw [hK53]; exact hq
        unfold F_X5_number_a0_0_a1_2_53b at hq
        refine lv_iload hx hb dX5_number_53 (lv_at hl 4 rfl) ?_
        refine lv_aload_n hx hb dX5_number_55 rfl (lv_at hl 0 rfl) ?_
        refine k_get C0 fg_X5_18 hP 0 rfl rfl dX5_number_56 ?_
        refine lv_icmp_ge (tgt := 84) hx hb dX5_number_59 rfl (fun c6 => ?_) (fun c6 => ?_)
        · as_aux_lemma =>
            replace hq := lf_pos hq (lf_le (lf_rf x_this_behind) (lf_rf J53_l4) c6)
            have h7 := ib_le hx_this_behind hJ53_l4 c6
            refine lv_iload_n hx hb dX5_number_84 rfl (lv_at hl 3 rfl) ?_
            refine lv_iload_n hx hb dX5_number_85 rfl (lv_at hl 1 rfl) ?_
            refine lv_icmp_lt (tgt := 94) hx hb dX5_number_86 rfl (fun c8 => ?_) (fun c8 => ?_)
            · replace hq := lf_pos hq (lf_lt (lf_rf J53_l3) (lf_lc 0 (0 : Int) rfl) c8)
              have h9 := ib_lt (ib_any J53_l3) (ib_c 0 0 0 rfl) c8
              have h10 : ib J53_l3 (-2147483648) (-1) := ib_w (-2147483648) (-1) h9.1 rfl
              exact jn94 J53_l3 J53_l4 H locs ls (ib_w 0 1600 hJ53_l4 rfl) (ib_w 0 1599 hK53_x_this_at rfl) (ib_w 2 2 hK53_x_this_sort rfl) (by exact hq) hP hD hS (lv_sub hl [0, 1, 2, 3, 4] rfl)
            · as_aux_lemma =>
                replace hq := lf_neg hq (lf_nlt (lf_rf J53_l3) (lf_lc 0 (0 : Int) rfl) c8)
                have h11 := ib_nlt (ib_any J53_l3) (ib_c 0 0 0 rfl) c8
                have h12 : ib J53_l3 0 2147483647 := ib_w 0 2147483647 h11.1 rfl
                refine lv_iload_n hx hb dX5_number_89 rfl (lv_at hl 3 rfl) ?_
                refine lv_iload_n hx hb dX5_number_90 rfl (lv_at hl 2 rfl) ?_
                refine lv_icmp_le (tgt := 105) hx hb dX5_number_91 rfl (fun c13 => ?_) (fun c13 => ?_)
                · replace hq := lf_pos hq (lf_le (lf_rf J53_l3) (lf_lc 2 (2 : Int) rfl) c13)
                  have h14 := ib_le h12 (ib_c 2 2 2 rfl) c13
                  have h15 : ib J53_l3 0 2 := ib_w 0 2 h14.1 rfl
                  refine lv_aload_n hx hb dX5_number_105 rfl (lv_at hl 0 rfl) ?_
                  refine lv_aload_n hx hb dX5_number_106 rfl (lv_at hl 0 rfl) ?_
                  refine k_get C0 fg_X5_18 hP 0 rfl rfl dX5_number_107 ?_
                  refine k_jvm hP hD hS hA [0, 1] [] rfl rfl rfl 0 0 (Nat.le_of_ble_eq_true rfl) (Nat.le_of_ble_eq_true rfl) (fun hPc hDc => k_runV (As := [.int x_this_behind]) (rest := []) C0 hZ hS hA (s_X5_moveTo l dC dI cy sq a_this a_this_text g_this_text x_this_length x_this_at x_this_behind x_this_sort x_this_allowed a_this_plan x_this_fault x_this_place x_this_behind hg_this_text (ib_w 0 1600 hx_this_length rfl) (ib_w 0 1600 hx_this_behind rfl)) mV_X5_86 hPc hDc rfl rfl rfl hl rfl rfl (Nat.le_of_ble_eq_true rfl) ⟨(Nat.le_of_ble_eq_true rfl), (Nat.le_of_ble_eq_true rfl)⟩ ⟨(Nat.le_of_ble_eq_true rfl), (Nat.le_of_ble_eq_true rfl)⟩ dX5_number_110) (fun u17 H locs hw hP hD hS => ?_)
                  obtain ⟨v18, v19, v20⟩ := u17
                  try dsimp only at hP hD hw
                  replace hP : va_P (dC, dI) vwCl [(wo_5_riiiiirii a_this a_this_text x_this_length v18 v19 v20 x_this_allowed a_this_plan x_this_fault x_this_place), (wi_0_1600_0 a_this_text cy g_this_text)] H := hP
                  replace hD := k_D hP hD
                  obtain ⟨h21, h22, h23, h24, h25⟩ := hw
                  replace hq := lf_p1 hq h25
                  replace hq := lf_p1 hq rfl
                  refine lv_iload_n hx hb dX5_number_113 rfl (lv_at hl 3 rfl) ?_
                  subst hQ; exact k_iret hx hb hr hlk rfl ((v18, v19, v20, x_this_fault, x_this_place)) hS ⟨ib_w 0 2 h15 rfl, ib_w 0 1600 h21 rfl, ib_w 0 1600 h22 rfl, ib_w 0 4 h23 rfl, fun hq9 => ib_w 0 1599 (h24 hq9) rfl, (hO.symm.trans (by exact hq))⟩ hP hD (Nat.le_of_ble_eq_true rfl) (Nat.le_of_ble_eq_true rfl) dX5_number_114
                · replace hq := lf_neg hq (lf_nle (lf_rf J53_l3) (lf_lc 2 (2 : Int) rfl) c13)
                  have h26 := ib_nle h12 (ib_c 2 2 2 rfl) c13
                  have h27 : ib J53_l3 3 2147483647 := ib_w 3 2147483647 h26.1 rfl
                  exact jn94 J53_l3 J53_l4 H locs ls (ib_w 0 1600 hJ53_l4 rfl) (ib_w 0 1599 hK53_x_this_at rfl) (ib_w 2 2 hK53_x_this_sort rfl) (by exact hq) hP hD hS (lv_sub hl [0, 1, 2, 3, 4] rfl)
        · as_aux_lemma =>
            replace hq := lf_neg hq (lf_nle (lf_rf x_this_behind) (lf_rf J53_l4) c6)
            have h28 := ib_nle hx_this_behind hJ53_l4 c6
            have h29 : ib x_this_behind 1 1600 := ib_w 1 1600 h28.1 rfl
            have h30 : ib J53_l4 0 1599 := ib_w 0 1599 h28.2 rfl
            refine lv_iload_n hx hb dX5_number_62 rfl (lv_at hl 3 rfl) ?_
            refine lv_bipush (v := 10) hx hb dX5_number_63 rfl ?_
            refine lv_imul hx hb dX5_number_65 ?_
            refine lv_topi (fun z31 ez31 => ?_)
            have Ez31 := lf_op lf_imul ez31 (lf_rf J53_l3) (lf_lc 10 (10 : Int) rfl)
            refine lv_aload_n hx hb dX5_number_66 rfl (lv_at hl 0 rfl) ?_
            refine k_get C0 fg_X5_33 hP 0 rfl rfl dX5_number_67 ?_
            refine lv_iload hx hb dX5_number_70 (lv_at hl 4 rfl) ?_
            refine va_iald hx hb C0.2.2.2.2.2.1 hP 1 0 rfl rfl (ib_in 1600 h30 rfl) dX5_number_72 ?_
            refine lv_topi (fun z32 ez32 => ?_)
            have h33 : ib z32 0 255 := by rw [ez32]; exact ia_at hg_this_text (ib_in 1600 h30 rfl)
            have Ez32 := lf_ld ez32 (lf_ra g_this_text) (lf_rf J53_l4)
            refine lv_iadd hx hb dX5_number_73 ?_
            refine lv_topi (fun z34 ez34 => ?_)
            have Ez34 := lf_op lf_iadd ez34 Ez31 Ez32
            refine lv_bipush (v := 48) hx hb dX5_number_74 rfl ?_
            refine lv_isub hx hb dX5_number_76 ?_
            refine lv_topi (fun z35 ez35 => ?_)
            have Ez35 := lf_op lf_isub ez35 Ez34 (lf_lc 48 (48 : Int) rfl)
            refine lv_istore_n (lv' := [(3, .int z35), (0, .ref a_this), (1, .int 0), (2, .int 2), (4, .int J53_l4)]) hx hb dX5_number_77 rfl hl (Nat.le_of_ble_eq_true rfl) rfl (fun ls hl => ?_)
            obtain ⟨z36, ez36⟩ : ∃ y : Int32, y = J53_l4 + 1 := ⟨_, rfl⟩
            refine lv_iinc (v := z36) (lv' := [(4, .int z36), (3, .int z35), (0, .ref a_this), (1, .int 0), (2, .int 2)]) hx hb dX5_number_78 hl (k := 4) rfl (by rw [ez36]; rfl) (Nat.le_of_ble_eq_true rfl) rfl (fun ls hl => ?_)
            have h37 := ib_add h30 (ib_c 1 1 1 rfl) rfl
            rw [← ez36] at h37
            have h38 : ib z36 1 1600 := ib_w 1 1600 h37.1 rfl
            have Ez36 := lf_add h37.2 (lf_rf J53_l4) (lf_lc 1 (1 : Int) rfl)
            refine lv_goto (tgt := 53) hx hb dX5_number_81 rfl ?_
            exact ih53 z35 z36 H locs ls (ib_w 0 1599 hK53_x_this_at rfl) (ib_w 2 2 hK53_x_this_sort rfl) (ib_w 0 1600 h38 rfl) (by rw [← hK53]; rw [lf_u Ez35]; rw [lf_u Ez36]; exact hq) (by have := h37.2; have : (1 : Int32).toInt = 1 := rfl; omega) hP hD hS (lv_sub hl [2, 3, 4, 1, 0] rfl)
  refine lv_aload_n hx hb dX5_number_0 rfl (lv_at hl 0 rfl) ?_
  refine k_get C0 fg_X5_21 hP 0 rfl rfl dX5_number_1 ?_
  refine lv_iconst (v := 2) hx hb dX5_number_4 rfl ?_
  refine lv_icmp_eq (tgt := 19) hx hb dX5_number_5 rfl (fun c39 => ?_) (fun c39 => ?_)
  · as_aux_lemma =>
      replace hq := lf_pos hq (lf_eq (lf_rf x_this_sort) (lf_lc 2 (2 : Int) rfl) c39)
      have h40 := ib_eq hx_this_sort (ib_c 2 2 2 rfl) c39
      have h41 : ib x_this_sort 2 2 := ib_w 2 2 h40.1 rfl
      have h42 : ib x_this_at 0 1599 := ib_w 0 1599 (ib_two hx_this_at (hc0_this (ib_nz h41 rfl))) rfl
      refine lv_aload_n hx hb dX5_number_19 rfl (lv_at hl 0 rfl) ?_
      refine k_get C0 fg_X5_18 hP 0 rfl rfl dX5_number_20 ?_
      refine lv_aload_n hx hb dX5_number_23 rfl (lv_at hl 0 rfl) ?_
      refine k_get C0 fg_X5_15 hP 0 rfl rfl dX5_number_24 ?_
      refine lv_isub hx hb dX5_number_27 ?_
      refine lv_topi (fun z43 ez43 => ?_)
      have h44 := ib_sub hx_this_behind h42 rfl
      rw [← ez43] at h44
      have h45 : ib z43 (-1599) 1600 := ib_w (-1599) 1600 h44.1 rfl
      have Ez43 := lf_sub h44.2 (lf_rf x_this_behind) (lf_rf x_this_at)
      refine lv_iconst (v := 4) hx hb dX5_number_28 rfl ?_
      refine lv_icmp_le (tgt := 45) hx hb dX5_number_29 rfl (fun c46 => ?_) (fun c46 => ?_)
      · replace hq := lf_pos hq (lf_le Ez43 (lf_lc 4 (4 : Int) rfl) c46)
        have h47 := ib_le h45 (ib_c 4 4 4 rfl) c46
        have h48 : ib z43 (-1599) 4 := ib_w (-1599) 4 h47.1 rfl
        refine lv_iconst (v := 0) hx hb dX5_number_45 rfl ?_
        refine lv_istore_n (lv' := [(3, .int 0), (0, .ref a_this), (1, .int 0), (2, .int 2)]) hx hb dX5_number_46 rfl hl (Nat.le_of_ble_eq_true rfl) rfl (fun ls hl => ?_)
        refine lv_aload_n hx hb dX5_number_47 rfl (lv_at hl 1 rfl) ?_
        refine k_get C0 fg_X5_15 hP 0 rfl rfl dX5_number_48 ?_
        refine lv_istore (lv' := [(4, .int x_this_at), (3, .int 0), (0, .ref a_this), (1, .int 0), (2, .int 2)]) hx hb dX5_number_51 hl (Nat.le_of_ble_eq_true rfl) rfl (fun ls hl => ?_)
        exact jn53 1602 0 x_this_at H locs ls (ib_w 0 1599 h42 rfl) (ib_w 2 2 h41 rfl) (ib_w 0 1600 h42 rfl) (by try simp only [show (0 : Int32).toInt = (0 : Int) from rfl]; exact hq) (by have := h42; unfold ib at this; omega) hP hD hS (lv_sub hl [2, 3, 4, 1, 0] rfl)
      · as_aux_lemma =>
          replace hq := lf_neg hq (lf_nle Ez43 (lf_lc 4 (4 : Int) rfl) c46)
          have h49 := ib_nle h45 (ib_c 4 4 4 rfl) c46
          have h50 : ib z43 5 1600 := ib_w 5 1600 h49.1 rfl
          refine lv_aload_n hx hb dX5_number_32 rfl (lv_at hl 0 rfl) ?_
          refine lv_iconst (v := 1) hx hb dX5_number_33 rfl ?_
          refine lv_aload_n hx hb dX5_number_34 rfl (lv_at hl 0 rfl) ?_
          refine k_get C0 fg_X5_15 hP 0 rfl rfl dX5_number_35 ?_
          refine lv_iconst (v := 4) hx hb dX5_number_38 rfl ?_
          refine lv_iadd hx hb dX5_number_39 ?_
          refine lv_topi (fun z51 ez51 => ?_)
          have h52 := ib_add h42 (ib_c 4 4 4 rfl) rfl
          rw [← ez51] at h52
          have h53 : ib z51 4 1603 := ib_w 4 1603 h52.1 rfl
          have Ez51 := lf_add h52.2 (lf_rf x_this_at) (lf_lc 4 (4 : Int) rfl)
          refine k_jvm hP hD hS hA [0] [false, true] rfl rfl rfl 0 0 (Nat.le_of_ble_eq_true rfl) (Nat.le_of_ble_eq_true rfl) (fun hPc hDc => k_runV (As := [.int 1, .int z51]) (rest := []) C0 hZ hS hA (s_X5_fail l dC dI cy sq a_this a_this_text x_this_length x_this_at x_this_behind x_this_sort x_this_allowed a_this_plan x_this_fault x_this_place 1 z51 ) mV_X5_78 hPc hDc rfl rfl rfl hl rfl rfl (Nat.le_of_ble_eq_true rfl) ⟨(Nat.le_of_ble_eq_true rfl), (Nat.le_of_ble_eq_true rfl)⟩ ⟨(Nat.le_of_ble_eq_true rfl), (Nat.le_of_ble_eq_true rfl)⟩ dX5_number_40) (fun u55 H locs hw hP hD hS => ?_)
          obtain ⟨v56, v57⟩ := u55
          try dsimp only at hP hD hw
          replace hP : va_P (dC, dI) vwCl [(wi_0_1600_0 a_this_text cy g_this_text), (wo_5_riiiiirii a_this a_this_text x_this_length x_this_length x_this_length 0 x_this_allowed a_this_plan v56 v57)] H := hP
          replace hD := k_D hP hD
          have h58 := hw
          have h58 := by have h9 := h58; try simp only [show (1 : Int32).toInt = (1 : Int) from rfl] at h9; rw [lf_u Ez51] at h9; exact h9
          replace hq := lf_p1 hq h58
          refine lv_iload_n hx hb dX5_number_43 rfl (lv_at hl 1 rfl) ?_
          subst hQ; exact k_iret hx hb hr hlk rfl ((x_this_length, x_this_length, 0, v56, v57)) hS ⟨ib_w 0 2 (ib_c 0 0 0 rfl) rfl, ib_w 0 1600 hx_this_length rfl, ib_w 0 1600 hx_this_length rfl, ib_w 0 4 (ib_c 0 0 0 rfl) rfl, fun hq9 => absurd rfl hq9, (hO.symm.trans (by try simp only [show (0 : Int32).toInt = (0 : Int) from rfl]; exact hq))⟩ (hP.sub [1, 0] rfl) (hD.sub [1, 0] rfl rfl) (Nat.le_of_ble_eq_true rfl) (Nat.le_of_ble_eq_true rfl) dX5_number_44
  · replace hq := lf_neg hq (lf_ne (lf_rf x_this_sort) (lf_lc 2 (2 : Int) rfl) c39)
    refine lv_aload_n hx hb dX5_number_8 rfl (lv_at hl 0 rfl) ?_
    refine lv_iconst (v := 1) hx hb dX5_number_9 rfl ?_
    refine lv_aload_n hx hb dX5_number_10 rfl (lv_at hl 0 rfl) ?_
    refine k_get C0 fg_X5_15 hP 0 rfl rfl dX5_number_11 ?_
    refine k_jvm hP hD hS hA [0] [false, true] rfl rfl rfl 0 0 (Nat.le_of_ble_eq_true rfl) (Nat.le_of_ble_eq_true rfl) (fun hPc hDc => k_runV (As := [.int 1, .int x_this_at]) (rest := []) C0 hZ hS hA (s_X5_fail l dC dI cy sq a_this a_this_text x_this_length x_this_at x_this_behind x_this_sort x_this_allowed a_this_plan x_this_fault x_this_place 1 x_this_at ) mV_X5_78 hPc hDc rfl rfl rfl hl rfl rfl (Nat.le_of_ble_eq_true rfl) ⟨(Nat.le_of_ble_eq_true rfl), (Nat.le_of_ble_eq_true rfl)⟩ ⟨(Nat.le_of_ble_eq_true rfl), (Nat.le_of_ble_eq_true rfl)⟩ dX5_number_14) (fun u60 H locs hw hP hD hS => ?_)
    obtain ⟨v61, v62⟩ := u60
    try dsimp only at hP hD hw
    replace hP : va_P (dC, dI) vwCl [(wi_0_1600_0 a_this_text cy g_this_text), (wo_5_riiiiirii a_this a_this_text x_this_length x_this_length x_this_length 0 x_this_allowed a_this_plan v61 v62)] H := hP
    replace hD := k_D hP hD
    have h63 := hw
    have h63 := by have h9 := h63; try simp only [show (1 : Int32).toInt = (1 : Int) from rfl] at h9; exact h9
    replace hq := lf_p1 hq h63
    refine lv_iload_n hx hb dX5_number_17 rfl (lv_at hl 1 rfl) ?_
    subst hQ; exact k_iret hx hb hr hlk rfl ((x_this_length, x_this_length, 0, v61, v62)) hS ⟨ib_w 0 2 (ib_c 0 0 0 rfl) rfl, ib_w 0 1600 hx_this_length rfl, ib_w 0 1600 hx_this_length rfl, ib_w 0 4 (ib_c 0 0 0 rfl) rfl, fun hq9 => absurd rfl hq9, (hO.symm.trans (by try simp only [show (0 : Int32).toInt = (0 : Int) from rfl]; exact hq))⟩ (hP.sub [1, 0] rfl) (hD.sub [1, 0] rfl rfl) (Nat.le_of_ble_eq_true rfl) (Nat.le_of_ble_eq_true rfl) dX5_number_18
set_option maxHeartbeats 4000000 in
set_option maxRecDepth 100000 in
theorem s_X5_numberBehind_a1_0_a2_2_s5 (l : Launch) (dC : Nat → ClassId) (dI : Nat → Nat → Nat) (cy : Nat → ClassId) (sq : Nat → Nat) (a_this : Nat) (a_this_text : Nat) (g_this_text : Nat → Int32) (x_this_length : Int32) (x_this_at : Int32) (x_this_behind : Int32) (x_this_sort : Int32) (x_this_allowed : Int32) (a_this_plan : Nat) (x_this_fault : Int32) (x_this_place : Int32) (hg_this_text : ia g_this_text 1600 0 255) (hx_this_length : ib x_this_length 0 1600) (hx_this_at : ib x_this_at 0 1600) (hx_this_behind : ib x_this_behind 0 1600) (hx_this_sort : ib x_this_sort 0 4) (hc0_this : ¬ x_this_sort = 0 → ib x_this_at 0 1599) : k_Met l yX5_numberBehind cX5_numberBehind 4 (some .int) { frames := 6, cells := 0, slots := 0, locals := 187 } dC dI cy sq [.ref a_this, .ref (sq 5), .int 0, .int 2] [(wo_5_riiiiirii a_this a_this_text x_this_length x_this_at x_this_behind x_this_sort x_this_allowed a_this_plan x_this_fault x_this_place), (wi_0_1600_0 a_this_text cy g_this_text)] (k_Qi dC dI (fun (r : Int32) (u : Int32 × Int32 × Int32 × Int32 × Int32) => match u with | (n0, n1, n2, n3, n4) => ib r 0 2 ∧ ib n0 0 1600 ∧ ib n1 0 1600 ∧ ib n2 0 4 ∧ (¬ n2 = 0 → ib n0 0 1599) ∧ (F_X5_numberBehind_a1_0_a2_2_s5 (lf_A g_this_text) (Int32.toInt x_this_length) (Int32.toInt x_this_at) (Int32.toInt x_this_behind) (Int32.toInt x_this_sort) (Int32.toInt x_this_fault) (Int32.toInt x_this_place) = ((Int32.toInt r), (Int32.toInt n0), (Int32.toInt n1), (Int32.toInt n2), (Int32.toInt n3), (Int32.toInt n4)))) (fun u : Int32 × Int32 × Int32 × Int32 × Int32 => match u with | (n0, n1, n2, n3, n4) => [(wo_5_riiiiirii a_this a_this_text x_this_length n0 n1 n2 x_this_allowed a_this_plan n3 n4), (wi_0_1600_0 a_this_text cy g_this_text)])) := by
  refine k_ofW2 (by decide +kernel) (Nat.le_of_ble_eq_true rfl) ?_
  intro p e s m below meth c A ls H locs args Q hQ C0 hZ hr hlk hin hP hD hA hS hl
  have C0 : k_cx p s m args c cX5_numberBehind 4 RX5 dC dI cy sq := C0
  have hx := C0.1
  have hb := C0.2.1
  have hl : lv_has ls 4 [(0, .ref a_this), (1, .ref (sq 5)), (2, .int 0), (3, .int 2)] := hl
  obtain ⟨O, hO⟩ : ∃ o, o = F_X5_numberBehind_a1_0_a2_2_s5 (lf_A g_this_text) (Int32.toInt x_this_length) (Int32.toInt x_this_at) (Int32.toInt x_this_behind) (Int32.toInt x_this_sort) (Int32.toInt x_this_fault) (Int32.toInt x_this_place) := ⟨_, rfl⟩
  have hq := hO
  unfold F_X5_numberBehind_a1_0_a2_2_s5 at hq
  refine lv_aload_n hx hb dX5_numberBehind_0 rfl (lv_at hl 0 rfl) ?_
  refine lv_aload_n hx hb dX5_numberBehind_1 rfl (lv_at hl 1 rfl) ?_
  refine k_jvm hP hD hS hA [0, 1] [] rfl rfl rfl 0 0 (Nat.le_of_ble_eq_true rfl) (Nat.le_of_ble_eq_true rfl) (fun hPc hDc => k_runV (As := [.ref (sq 5)]) (rest := []) C0 hZ hS hA (s_X5_needWord_s5 l dC dI cy sq a_this a_this_text g_this_text x_this_length x_this_at x_this_behind x_this_sort x_this_allowed a_this_plan x_this_fault x_this_place hg_this_text (ib_w 0 1600 hx_this_length rfl) (ib_w 0 1600 hx_this_at rfl) (ib_w 0 1600 hx_this_behind rfl) (ib_w 0 4 hx_this_sort rfl) (fun hq9 => ib_w 0 1599 (hc0_this hq9) rfl)) mV_X5_144 hPc hDc rfl rfl rfl hl rfl rfl (Nat.le_of_ble_eq_true rfl) ⟨(Nat.le_of_ble_eq_true rfl), (Nat.le_of_ble_eq_true rfl)⟩ ⟨(Nat.le_of_ble_eq_true rfl), (Nat.le_of_ble_eq_true rfl)⟩ dX5_numberBehind_2) (fun u2 H locs hw hP hD hS => ?_)
  obtain ⟨v3, v4, v5, v6, v7⟩ := u2
  try dsimp only at hP hD hw
  replace hP : va_P (dC, dI) vwCl [(wo_5_riiiiirii a_this a_this_text x_this_length v3 v4 v5 x_this_allowed a_this_plan v6 v7), (wi_0_1600_0 a_this_text cy g_this_text)] H := hP
  replace hD := k_D hP hD
  obtain ⟨h8, h9, h10, h11, h12⟩ := hw
  replace hq := lf_p1 hq h12
  replace hq := lf_p1 hq rfl
  replace hq := lf_p1 hq rfl
  replace hq := lf_p1 hq rfl
  refine lv_aload_n hx hb dX5_numberBehind_5 rfl (lv_at hl 0 rfl) ?_
  refine lv_iload_n hx hb dX5_numberBehind_6 rfl (lv_at hl 2 rfl) ?_
  refine lv_iload_n hx hb dX5_numberBehind_7 rfl (lv_at hl 3 rfl) ?_
  refine k_jim hP hD hS hA [0, 1] [] rfl rfl rfl 0 0 (Nat.le_of_ble_eq_true rfl) (Nat.le_of_ble_eq_true rfl) (fun hPc hDc => k_runV (As := [.int 0, .int 2]) (rest := []) C0 hZ hS hA (s_X5_number_a0_0_a1_2 l dC dI cy sq a_this a_this_text g_this_text x_this_length v3 v4 v5 x_this_allowed a_this_plan v6 v7 hg_this_text (ib_w 0 1600 hx_this_length rfl) (ib_w 0 1600 h8 rfl) (ib_w 0 1600 h9 rfl) (ib_w 0 4 h10 rfl) (fun hq9 => ib_w 0 1599 (h11 hq9) rfl)) mV_X5_168 hPc hDc rfl rfl rfl hl rfl rfl (Nat.le_of_ble_eq_true rfl) ⟨(Nat.le_of_ble_eq_true rfl), (Nat.le_of_ble_eq_true rfl)⟩ ⟨(Nat.le_of_ble_eq_true rfl), (Nat.le_of_ble_eq_true rfl)⟩ dX5_numberBehind_8) (fun r13 u14 H locs hw hP hD hS => ?_)
  obtain ⟨v15, v16, v17, v18, v19⟩ := u14
  try dsimp only at hP hD hw
  replace hP : va_P (dC, dI) vwCl [(wo_5_riiiiirii a_this a_this_text x_this_length v15 v16 v17 x_this_allowed a_this_plan v18 v19), (wi_0_1600_0 a_this_text cy g_this_text)] H := hP
  replace hD := k_D hP hD
  obtain ⟨h20, h21, h22, h23, h24, h25⟩ := hw
  replace hq := lf_p1 hq h25
  replace hq := lf_p1 hq rfl
  replace hq := lf_p1 hq rfl
  replace hq := lf_p1 hq rfl
  replace hq := lf_p1 hq rfl
  subst hQ; exact k_iret hx hb hr hlk rfl ((v15, v16, v17, v18, v19)) hS ⟨ib_w 0 2 h20 rfl, ib_w 0 1600 h21 rfl, ib_w 0 1600 h22 rfl, ib_w 0 4 h23 rfl, fun hq9 => ib_w 0 1599 (h24 hq9) rfl, (hO.symm.trans (by exact hq))⟩ hP hD (Nat.le_of_ble_eq_true rfl) (Nat.le_of_ble_eq_true rfl) dX5_numberBehind_11
set_option maxHeartbeats 4000000 in
set_option maxRecDepth 100000 in
theorem s_X5_wordIn_s6 (l : Launch) (dC : Nat → ClassId) (dI : Nat → Nat → Nat) (cy : Nat → ClassId) (sq : Nat → Nat) (a_this : Nat) (a_this_text : Nat) (g_this_text : Nat → Int32) (x_this_length : Int32) (x_this_at : Int32) (x_this_behind : Int32) (x_this_sort : Int32) (x_this_allowed : Int32) (a_this_plan : Nat) (x_this_fault : Int32) (x_this_place : Int32) (hg_this_text : ia g_this_text 1600 0 255) (hx_this_at : ib x_this_at 0 1600) (hx_this_behind : ib x_this_behind 0 1600) (hx_this_sort : ib x_this_sort 0 4) (hc0_this : ¬ x_this_sort = 0 → ib x_this_at 0 1599) : k_Met l yX5_wordIn cX5_wordIn 6 (some .int) { frames := 4, cells := 0, slots := 0, locals := 141 } dC dI cy sq [.ref a_this, .ref (sq 6)] [(wo_5_riiiiirii a_this a_this_text x_this_length x_this_at x_this_behind x_this_sort x_this_allowed a_this_plan x_this_fault x_this_place), (wi_0_1600_0 a_this_text cy g_this_text)] (k_Qi dC dI (fun (r : Int32) (_ : Unit) => (F_X5_wordIn_s6 (lf_A g_this_text) (Int32.toInt x_this_at) (Int32.toInt x_this_behind) (Int32.toInt x_this_sort) = ((Int32.toInt r)))) (fun _ : Unit => [(wo_5_riiiiirii a_this a_this_text x_this_length x_this_at x_this_behind x_this_sort x_this_allowed a_this_plan x_this_fault x_this_place), (wi_0_1600_0 a_this_text cy g_this_text)])) := by
  refine k_ofW2 (by decide +kernel) (Nat.le_of_ble_eq_true rfl) ?_
  intro p e s m below meth c A ls H locs args Q hQ C0 hZ hr hlk hin hP hD hA hS hl
  have C0 : k_cx p s m args c cX5_wordIn 6 RX5 dC dI cy sq := C0
  have hx := C0.1
  have hb := C0.2.1
  have hl : lv_has ls 6 [(0, .ref a_this), (1, .ref (sq 6))] := hl
  obtain ⟨O, hO⟩ : ∃ o, o = F_X5_wordIn_s6 (lf_A g_this_text) (Int32.toInt x_this_at) (Int32.toInt x_this_behind) (Int32.toInt x_this_sort) := ⟨_, rfl⟩
  have hq := hO
  unfold F_X5_wordIn_s6 at hq
  have jn23 : ∀ (n : Nat) (J23_l2 : Int32) (J23_l3 : Int32) (J23_l4 : Int32) (J23_l5 : Int32) (H : Heap) (locs : List Loc) (ls : Array Slot), ib x_this_at 0 1599 → ib x_this_sort 1 1 → ib J23_l3 0 1605 → ib J23_l4 0 1 → ib J23_l5 0 6 → (1 * J23_l3.toInt + (-1) * J23_l5.toInt ≤ 1600) → (O = F_X5_wordIn_s6_23 (lf_A g_this_text) (Int32.toInt x_this_at) (Int32.toInt x_this_behind) n (Int32.toInt J23_l2) (Int32.toInt J23_l3) (Int32.toInt J23_l4) (Int32.toInt J23_l5)) → 7 ≤ J23_l5.toInt + (n : Int) → va_P (dC, dI) vwCl [(wo_5_riiiiirii a_this a_this_text x_this_length x_this_at x_this_behind x_this_sort x_this_allowed a_this_plan x_this_fault x_this_place), (wi_0_1600_0 a_this_text cy g_this_text)] H → va_D A [(wo_5_riiiiirii a_this a_this_text x_this_length x_this_at x_this_behind x_this_sort x_this_allowed a_this_plan x_this_fault x_this_place), (wi_0_1600_0 a_this_text cy g_this_text)] → va_S A s.heap H locs → lv_has ls 6 [(0, .ref a_this), (1, .ref (sq 6)), (2, .int J23_l2), (3, .int J23_l3), (4, .int J23_l4), (5, .int J23_l5)] → W p l e { frames := 4, cells := 0, slots := 0, locals := 141 } s m args below meth c H locs 0 0 Q (F0 m 23 ls []) := by
    as_aux_lemma =>
      intro n
      induction n with
      | zero =>
        intro J23_l2 J23_l3 J23_l4 J23_l5 H locs ls hK23_x_this_at hK23_x_this_sort hJ23_l3 hJ23_l4 hJ23_l5 hJ23_lin0 hq hm
        exact absurd hm (by have := hJ23_l5; unfold ib at this; omega)
      | succ n ih =>
        intro J23_l2 J23_l3 J23_l4 J23_l5 H locs ls hK23_x_this_at hK23_x_this_sort hJ23_l3 hJ23_l4 hJ23_l5 hJ23_lin0 hq hm23 hP hD hS hl
        have ih23 := ih
        obtain ⟨K23, hK23⟩ : ∃ K, K = F_X5_wordIn_s6_23 (lf_A g_this_text) (Int32.toInt x_this_at) (Int32.toInt x_this_behind) n := ⟨_, rfl⟩
        have hq : O = F_X5_wordIn_s6_23b (lf_A g_this_text) (Int32.toInt x_this_at) (Int32.toInt x_this_behind) K23 (Int32.toInt J23_l2) (Int32.toInt J23_l3) (Int32.toInt J23_l4) (Int32.toInt J23_l5) := by rw [hK23]; exact hq
        unfold F_X5_wordIn_s6_23b at hq
        have jn119 : ∀ (J119_l2 : Int32) (J119_l3 : Int32) (J119_l4 : Int32) (H : Heap) (locs : List Loc) (ls : Array Slot), ib x_this_at 0 1599 → ib J23_l5 0 5 → ib x_this_sort 1 1 → ib J119_l3 0 1605 → ib J119_l4 0 1 → (1 * J119_l3.toInt + (-1) * J23_l5.toInt ≤ 1601) → (O = F_X5_wordIn_s6_119 (Int32.toInt J23_l5) K23 (Int32.toInt J119_l2) (Int32.toInt J119_l3) (Int32.toInt J119_l4)) → va_P (dC, dI) vwCl [(wo_5_riiiiirii a_this a_this_text x_this_length x_this_at x_this_behind x_this_sort x_this_allowed a_this_plan x_this_fault x_this_place), (wi_0_1600_0 a_this_text cy g_this_text)] H → va_D A [(wo_5_riiiiirii a_this a_this_text x_this_length x_this_at x_this_behind x_this_sort x_this_allowed a_this_plan x_this_fault x_this_place), (wi_0_1600_0 a_this_text cy g_this_text)] → va_S A s.heap H locs → lv_has ls 6 [(0, .ref a_this), (1, .ref (sq 6)), (2, .int J119_l2), (3, .int J119_l3), (4, .int J119_l4), (5, .int J23_l5)] → W p l e { frames := 4, cells := 0, slots := 0, locals := 141 } s m args below meth c H locs 0 0 Q (F0 m 119 ls []) := by
          intro J119_l2 J119_l3 J119_l4 H locs ls hK119_x_this_at hK119_J23_l5 hK119_x_this_sort hJ119_l3 hJ119_l4 hJ119_lin0 hq hP hD hS hl
          unfold F_X5_wordIn_s6_119 at hq
          obtain ⟨z1, ez1⟩ : ∃ y : Int32, y = J23_l5 + 1 := ⟨_, rfl⟩
          refine lv_iinc (v := z1) (lv' := [(5, .int z1), (0, .ref a_this), (1, .ref (sq 6)), (2, .int J119_l2), (3, .int J119_l3), (4, .int J119_l4)]) hx hb dX5_wordIn_119 hl (k := 5) rfl (by rw [ez1]; rfl) (Nat.le_of_ble_eq_true rfl) rfl (fun ls hl => ?_)
          have h2 := ib_add hK119_J23_l5 (ib_c 1 1 1 rfl) rfl
          rw [← ez1] at h2
          have h3 : ib z1 1 6 := ib_w 1 6 h2.1 rfl
          have Ez1 := lf_add h2.2 (lf_rf J23_l5) (lf_lc 1 (1 : Int) rfl)
          refine lv_goto (tgt := 23) hx hb dX5_wordIn_122 rfl ?_
          exact ih23 J119_l2 J119_l3 J119_l4 z1 H locs ls (ib_w 0 1599 hK119_x_this_at rfl) (ib_w 1 1 hK119_x_this_sort rfl) (ib_w 0 1605 hJ119_l3 rfl) (ib_w 0 1 hJ119_l4 rfl) (ib_w 0 6 h3 rfl) (by have := h2.2; have : (1 : Int32).toInt = 1 := rfl; have := hJ119_lin0; omega) (by rw [← hK23]; rw [lf_u Ez1]; exact hq) (by have := h2.2; have : (1 : Int32).toInt = 1 := rfl; omega) hP hD hS (lv_sub hl [1, 2, 3, 4, 5, 0] rfl)
        have jn114 : ∀ (J114_s0 : Int32) (H : Heap) (locs : List Loc) (ls : Array Slot), ib J23_l3 0 1604 → ib J23_l4 0 1 → ib J23_l5 0 4 → ib x_this_at 0 1599 → ib x_this_sort 1 1 → ib J114_s0 0 1 → (1 * J23_l3.toInt + (-1) * J23_l5.toInt ≤ 1600) → (O = F_X5_wordIn_s6_114 (Int32.toInt J23_l2) (Int32.toInt J23_l3) (Int32.toInt J23_l5) K23 (Int32.toInt J114_s0)) → va_P (dC, dI) vwCl [(wo_5_riiiiirii a_this a_this_text x_this_length x_this_at x_this_behind x_this_sort x_this_allowed a_this_plan x_this_fault x_this_place), (wi_0_1600_0 a_this_text cy g_this_text)] H → va_D A [(wo_5_riiiiirii a_this a_this_text x_this_length x_this_at x_this_behind x_this_sort x_this_allowed a_this_plan x_this_fault x_this_place), (wi_0_1600_0 a_this_text cy g_this_text)] → va_S A s.heap H locs → lv_has ls 6 [(0, .ref a_this), (1, .ref (sq 6)), (2, .int J23_l2), (3, .int J23_l3), (4, .int J23_l4), (5, .int J23_l5)] → W p l e { frames := 4, cells := 0, slots := 0, locals := 141 } s m args below meth c H locs 0 0 Q (F0 m 114 ls [.int J114_s0]) := by
          intro J114_s0 H locs ls hK114_J23_l3 hK114_J23_l4 hK114_J23_l5 hK114_x_this_at hK114_x_this_sort hJ114_s0 hJ114_lin0 hq hP hD hS hl
          unfold F_X5_wordIn_s6_114 at hq
          refine lv_istore (lv' := [(4, .int J114_s0), (0, .ref a_this), (1, .ref (sq 6)), (2, .int J23_l2), (3, .int J23_l3), (5, .int J23_l5)]) hx hb dX5_wordIn_114 hl (Nat.le_of_ble_eq_true rfl) rfl (fun ls hl => ?_)
          obtain ⟨z4, ez4⟩ : ∃ y : Int32, y = J23_l3 + 1 := ⟨_, rfl⟩
          refine lv_iinc (v := z4) (lv' := [(3, .int z4), (4, .int J114_s0), (0, .ref a_this), (1, .ref (sq 6)), (2, .int J23_l2), (5, .int J23_l5)]) hx hb dX5_wordIn_116 hl (k := 4) rfl (by rw [ez4]; rfl) (Nat.le_of_ble_eq_true rfl) rfl (fun ls hl => ?_)
          have h5 := ib_add hK114_J23_l3 (ib_c 1 1 1 rfl) rfl
          rw [← ez4] at h5
          have h6 : ib z4 1 1605 := ib_w 1 1605 h5.1 rfl
          have Ez4 := lf_add h5.2 (lf_rf J23_l3) (lf_lc 1 (1 : Int) rfl)
          exact jn119 J23_l2 z4 J114_s0 H locs ls (ib_w 0 1599 hK114_x_this_at rfl) (ib_w 0 5 hK114_J23_l5 rfl) (ib_w 1 1 hK114_x_this_sort rfl) (ib_w 0 1605 h6 rfl) (ib_w 0 1 hJ114_s0 rfl) (by have := (hK114_J23_l5).1; have := hJ23_lin0; have := (h6).2; have := h5.2; have : (1 : Int32).toInt = 1 := rfl; omega) (by rw [lf_u Ez4]; exact hq) hP hD hS (lv_sub hl [2, 3, 4, 0, 1, 5] rfl)
        have jn113 : ∀  (H : Heap) (locs : List Loc) (ls : Array Slot), ib J23_l3 0 1604 → ib J23_l4 0 1 → ib J23_l5 0 4 → ib x_this_at 0 1599 → ib x_this_sort 1 1 → (1 * J23_l3.toInt + (-1) * J23_l5.toInt ≤ 1600) → (O = F_X5_wordIn_s6_113 (Int32.toInt J23_l2) (Int32.toInt J23_l3) (Int32.toInt J23_l5) K23 ) → va_P (dC, dI) vwCl [(wo_5_riiiiirii a_this a_this_text x_this_length x_this_at x_this_behind x_this_sort x_this_allowed a_this_plan x_this_fault x_this_place), (wi_0_1600_0 a_this_text cy g_this_text)] H → va_D A [(wo_5_riiiiirii a_this a_this_text x_this_length x_this_at x_this_behind x_this_sort x_this_allowed a_this_plan x_this_fault x_this_place), (wi_0_1600_0 a_this_text cy g_this_text)] → va_S A s.heap H locs → lv_has ls 6 [(0, .ref a_this), (1, .ref (sq 6)), (2, .int J23_l2), (3, .int J23_l3), (4, .int J23_l4), (5, .int J23_l5)] → W p l e { frames := 4, cells := 0, slots := 0, locals := 141 } s m args below meth c H locs 0 0 Q (F0 m 113 ls []) := by
          intro H locs ls hK113_J23_l3 hK113_J23_l4 hK113_J23_l5 hK113_x_this_at hK113_x_this_sort hJ113_lin0 hq hP hD hS hl
          unfold F_X5_wordIn_s6_113 at hq
          refine lv_iconst (v := 0) hx hb dX5_wordIn_113 rfl ?_
          exact jn114 0 H locs ls (ib_w 0 1604 hK113_J23_l3 rfl) (ib_w 0 1 hK113_J23_l4 rfl) (ib_w 0 4 hK113_J23_l5 rfl) (ib_w 0 1599 hK113_x_this_at rfl) (ib_w 1 1 hK113_x_this_sort rfl) (ib_w 0 1 (ib_c 0 0 0 rfl) rfl) (by have := hJ23_lin0; omega) (by try simp only [show (0 : Int32).toInt = (0 : Int) from rfl]; exact hq) hP hD hS (lv_sub hl [0, 1, 2, 3, 4, 5] rfl)
        have jn67 : ∀  (H : Heap) (locs : List Loc) (ls : Array Slot), ib J23_l3 0 1605 → ib J23_l4 0 1 → ib J23_l5 0 5 → ib x_this_at 0 1599 → ib x_this_sort 1 1 → (O = F_X5_wordIn_s6_67 (Int32.toInt x_this_at) (Int32.toInt J23_l2) (Int32.toInt J23_l5) K23 ) → va_P (dC, dI) vwCl [(wo_5_riiiiirii a_this a_this_text x_this_length x_this_at x_this_behind x_this_sort x_this_allowed a_this_plan x_this_fault x_this_place), (wi_0_1600_0 a_this_text cy g_this_text)] H → va_D A [(wo_5_riiiiirii a_this a_this_text x_this_length x_this_at x_this_behind x_this_sort x_this_allowed a_this_plan x_this_fault x_this_place), (wi_0_1600_0 a_this_text cy g_this_text)] → va_S A s.heap H locs → lv_has ls 6 [(0, .ref a_this), (1, .ref (sq 6)), (2, .int J23_l2), (3, .int J23_l3), (4, .int J23_l4), (5, .int J23_l5)] → W p l e { frames := 4, cells := 0, slots := 0, locals := 141 } s m args below meth c H locs 0 0 Q (F0 m 67 ls []) := by
          intro H locs ls hK67_J23_l3 hK67_J23_l4 hK67_J23_l5 hK67_x_this_at hK67_x_this_sort hq hP hD hS hl
          unfold F_X5_wordIn_s6_67 at hq
          obtain ⟨z7, ez7⟩ : ∃ y : Int32, y = J23_l2 + 1 := ⟨_, rfl⟩
          refine lv_iinc (v := z7) (lv' := [(2, .int z7), (0, .ref a_this), (1, .ref (sq 6)), (3, .int J23_l3), (4, .int J23_l4), (5, .int J23_l5)]) hx hb dX5_wordIn_67 hl (k := 2) rfl (by rw [ez7]; rfl) (Nat.le_of_ble_eq_true rfl) rfl (fun ls hl => ?_)
          have Ez7 := lf_op lf_iadd ez7 (lf_rf J23_l2) (lf_lc 1 (1 : Int) rfl)
          refine lv_aload_n hx hb dX5_wordIn_70 rfl (lv_at hl 1 rfl) ?_
          refine k_get C0 fg_X5_15 hP 0 rfl rfl dX5_wordIn_71 ?_
          refine lv_istore_n (lv' := [(3, .int x_this_at), (2, .int z7), (0, .ref a_this), (1, .ref (sq 6)), (4, .int J23_l4), (5, .int J23_l5)]) hx hb dX5_wordIn_74 rfl hl (Nat.le_of_ble_eq_true rfl) rfl (fun ls hl => ?_)
          refine lv_iconst (v := 1) hx hb dX5_wordIn_75 rfl ?_
          refine lv_istore (lv' := [(4, .int 1), (3, .int x_this_at), (2, .int z7), (0, .ref a_this), (1, .ref (sq 6)), (5, .int J23_l5)]) hx hb dX5_wordIn_76 hl (Nat.le_of_ble_eq_true rfl) rfl (fun ls hl => ?_)
          refine lv_goto (tgt := 119) hx hb dX5_wordIn_78 rfl ?_
          exact jn119 z7 x_this_at 1 H locs ls (ib_w 0 1599 hK67_x_this_at rfl) (ib_w 0 5 hK67_J23_l5 rfl) (ib_w 1 1 hK67_x_this_sort rfl) (ib_w 0 1605 hK67_x_this_at rfl) (ib_w 0 1 (ib_c 1 1 1 rfl) rfl) (by have := (hK67_J23_l5).1; have := (hK67_x_this_at).2; omega) (by rw [lf_u Ez7]; try simp only [show (1 : Int32).toInt = (1 : Int) from rfl]; exact hq) hP hD hS (lv_sub hl [3, 4, 2, 1, 0, 5] rfl)
        have jn52 : ∀  (H : Heap) (locs : List Loc) (ls : Array Slot), ib J23_l3 0 1605 → ib J23_l4 0 1 → ib J23_l5 0 5 → ib x_this_at 0 1599 → ib x_this_sort 1 1 → (O = F_X5_wordIn_s6_52 (Int32.toInt x_this_at) (Int32.toInt x_this_behind) (Int32.toInt J23_l2) (Int32.toInt J23_l3) (Int32.toInt J23_l4) (Int32.toInt J23_l5) K23 ) → va_P (dC, dI) vwCl [(wo_5_riiiiirii a_this a_this_text x_this_length x_this_at x_this_behind x_this_sort x_this_allowed a_this_plan x_this_fault x_this_place), (wi_0_1600_0 a_this_text cy g_this_text)] H → va_D A [(wo_5_riiiiirii a_this a_this_text x_this_length x_this_at x_this_behind x_this_sort x_this_allowed a_this_plan x_this_fault x_this_place), (wi_0_1600_0 a_this_text cy g_this_text)] → va_S A s.heap H locs → lv_has ls 6 [(0, .ref a_this), (1, .ref (sq 6)), (2, .int J23_l2), (3, .int J23_l3), (4, .int J23_l4), (5, .int J23_l5)] → W p l e { frames := 4, cells := 0, slots := 0, locals := 141 } s m args below meth c H locs 0 0 Q (F0 m 52 ls []) := by
          as_aux_lemma =>
            intro H locs ls hK52_J23_l3 hK52_J23_l4 hK52_J23_l5 hK52_x_this_at hK52_x_this_sort hq hP hD hS hl
            unfold F_X5_wordIn_s6_52 at hq
            refine lv_iload hx hb dX5_wordIn_52 (lv_at hl 4 rfl) ?_
            refine lv_if_eq (tgt := 67) hx hb dX5_wordIn_54 rfl (fun c8 => ?_) (fun c8 => ?_)
            · replace hq := lf_pos hq (lf_eq (lf_rf J23_l4) (lf_lc 0 (0 : Int) rfl) c8)
              have h9 := ib_eq hK52_J23_l4 (ib_c 0 0 0 rfl) c8
              have h10 : ib J23_l4 0 0 := ib_w 0 0 h9.1 rfl
              exact jn67  H locs ls (ib_w 0 1605 hK52_J23_l3 rfl) (ib_w 0 1 h10 rfl) (ib_w 0 5 hK52_J23_l5 rfl) (ib_w 0 1599 hK52_x_this_at rfl) (ib_w 1 1 hK52_x_this_sort rfl) (by exact hq) hP hD hS (lv_sub hl [0, 1, 2, 3, 4, 5] rfl)
            · replace hq := lf_neg hq (lf_ne (lf_rf J23_l4) (lf_lc 0 (0 : Int) rfl) c8)
              have h11 : ib J23_l4 1 1 := ib_w 1 1 (ib_ne_lo 0 hK52_J23_l4 rfl c8) rfl
              refine lv_iload_n hx hb dX5_wordIn_57 rfl (lv_at hl 3 rfl) ?_
              refine lv_aload_n hx hb dX5_wordIn_58 rfl (lv_at hl 0 rfl) ?_
              refine k_get C0 fg_X5_18 hP 0 rfl rfl dX5_wordIn_59 ?_
              refine lv_icmp_ne (tgt := 67) hx hb dX5_wordIn_62 rfl (fun c12 => ?_) (fun c12 => ?_)
              · replace hq := lf_neg hq (lf_ne (lf_rf J23_l3) (lf_rf x_this_behind) c12)
                exact jn67  H locs ls (ib_w 0 1605 hK52_J23_l3 rfl) (ib_w 0 1 h11 rfl) (ib_w 0 5 hK52_J23_l5 rfl) (ib_w 0 1599 hK52_x_this_at rfl) (ib_w 1 1 hK52_x_this_sort rfl) (by exact hq) hP hD hS (lv_sub hl [0, 1, 2, 3, 4, 5] rfl)
              · replace hq := lf_pos hq (lf_eq (lf_rf J23_l3) (lf_rf x_this_behind) c12)
                have h13 := ib_eq hK52_J23_l3 hx_this_behind c12
                have h14 : ib J23_l3 0 1600 := ib_w 0 1600 h13.1 rfl
                refine lv_iload_n hx hb dX5_wordIn_65 rfl (lv_at hl 2 rfl) ?_
                subst hQ; exact k_iret hx hb hr hlk rfl () hS ((hO.symm.trans (by exact hq))) hP hD (Nat.le_of_ble_eq_true rfl) (Nat.le_of_ble_eq_true rfl) dX5_wordIn_66
        refine lv_iload hx hb dX5_wordIn_23 (lv_at hl 5 rfl) ?_
        refine lv_aload_n hx hb dX5_wordIn_25 rfl (lv_at hl 1 rfl) ?_
        refine k_jim hP hD hS hA [] [true, true] rfl rfl rfl 0 0 (Nat.le_of_ble_eq_true rfl) (Nat.le_of_ble_eq_true rfl) (fun hPc hDc => k_runVO (As := []) (rest := [.int J23_l5]) C0 hZ hS hA (c_length l dC dI cy sq 6 (by decide)) mV_X5_244 hPc hDc (vk_recv hZ.1 (by decide) hS) hl rfl rfl (Nat.le_of_ble_eq_true rfl) ⟨(Nat.le_of_ble_eq_true rfl), (Nat.le_of_ble_eq_true rfl)⟩ ⟨(Nat.le_of_ble_eq_true rfl), (Nat.le_of_ble_eq_true rfl)⟩ dX5_wordIn_26) (fun r15 u16 H locs hw hP hD hS => ?_)
        replace hP : va_P (dC, dI) vwCl [(wo_5_riiiiirii a_this a_this_text x_this_length x_this_at x_this_behind x_this_sort x_this_allowed a_this_plan x_this_fault x_this_place), (wi_0_1600_0 a_this_text cy g_this_text)] H := hP
        replace hD := k_D hP hD
        obtain rfl : r15 = 5 := hw.trans (by decide)
        refine lv_icmp_gt (tgt := 125) hx hb dX5_wordIn_29 rfl (fun c17 => ?_) (fun c17 => ?_)
        · replace hq := lf_pos hq (lf_lt (lf_lc 5 (5 : Int) rfl) (lf_rf J23_l5) c17)
          have h18 := ib_lt (ib_c 5 5 5 rfl) hJ23_l5 c17
          have h19 : ib J23_l5 6 6 := ib_w 6 6 h18.2 rfl
          refine lv_iconst (v := (-1)) hx hb dX5_wordIn_125 rfl ?_
          subst hQ; exact k_iret hx hb hr hlk rfl () hS ((hO.symm.trans (by try simp only [show ((-1) : Int32).toInt = (-1 : Int) from rfl]; exact hq))) hP hD (Nat.le_of_ble_eq_true rfl) (Nat.le_of_ble_eq_true rfl) dX5_wordIn_126
        · as_aux_lemma =>
            replace hq := lf_neg hq (lf_nlt (lf_lc 5 (5 : Int) rfl) (lf_rf J23_l5) c17)
            have h20 := ib_nlt (ib_c 5 5 5 rfl) hJ23_l5 c17
            have h21 : ib J23_l5 0 5 := ib_w 0 5 h20.2 rfl
            refine lv_iload hx hb dX5_wordIn_32 (lv_at hl 5 rfl) ?_
            refine lv_aload_n hx hb dX5_wordIn_34 rfl (lv_at hl 1 rfl) ?_
            refine k_jim hP hD hS hA [] [true, true] rfl rfl rfl 0 0 (Nat.le_of_ble_eq_true rfl) (Nat.le_of_ble_eq_true rfl) (fun hPc hDc => k_runVO (As := []) (rest := [.int J23_l5]) C0 hZ hS hA (c_length l dC dI cy sq 6 (by decide)) mV_X5_244 hPc hDc (vk_recv hZ.1 (by decide) hS) hl rfl rfl (Nat.le_of_ble_eq_true rfl) ⟨(Nat.le_of_ble_eq_true rfl), (Nat.le_of_ble_eq_true rfl)⟩ ⟨(Nat.le_of_ble_eq_true rfl), (Nat.le_of_ble_eq_true rfl)⟩ dX5_wordIn_35) (fun r22 u23 H locs hw hP hD hS => ?_)
            replace hP : va_P (dC, dI) vwCl [(wo_5_riiiiirii a_this a_this_text x_this_length x_this_at x_this_behind x_this_sort x_this_allowed a_this_plan x_this_fault x_this_place), (wi_0_1600_0 a_this_text cy g_this_text)] H := hP
            replace hD := k_D hP hD
            obtain rfl : r22 = 5 := hw.trans (by decide)
            refine lv_icmp_eq (tgt := 52) hx hb dX5_wordIn_38 rfl (fun c24 => ?_) (fun c24 => ?_)
            · replace hq := lf_pos hq (lf_eq (lf_rf J23_l5) (lf_lc 5 (5 : Int) rfl) c24)
              have h25 := ib_eq h21 (ib_c 5 5 5 rfl) c24
              have h26 : ib J23_l5 5 5 := ib_w 5 5 h25.1 rfl
              exact jn52  H locs ls (ib_w 0 1605 hJ23_l3 rfl) (ib_w 0 1 hJ23_l4 rfl) (ib_w 0 5 h26 rfl) (ib_w 0 1599 hK23_x_this_at rfl) (ib_w 1 1 hK23_x_this_sort rfl) (by exact hq) hP hD hS (lv_sub hl [0, 1, 2, 3, 4, 5] rfl)
            · as_aux_lemma =>
                replace hq := lf_neg hq (lf_ne (lf_rf J23_l5) (lf_lc 5 (5 : Int) rfl) c24)
                have h27 : ib J23_l5 0 4 := ib_w 0 4 (ib_ne_hi 5 h21 rfl c24) rfl
                refine lv_aload_n hx hb dX5_wordIn_41 rfl (lv_at hl 1 rfl) ?_
                refine lv_iload hx hb dX5_wordIn_42 (lv_at hl 5 rfl) ?_
                refine k_jim hP hD hS hA [] [true, true] rfl rfl rfl 0 0 (Nat.le_of_ble_eq_true rfl) (Nat.le_of_ble_eq_true rfl) (fun hPc hDc => k_runVO (As := [.int J23_l5]) (rest := []) C0 hZ hS hA (cx_charAt l dC dI cy sq 6 (by decide) J23_l5 (ib_ch 6 5 h27 rfl rfl).1 (ib_ch 6 5 h27 rfl rfl).2.1 (ib_ch 6 5 h27 rfl rfl).2.2) mV_X5_248 hPc hDc (vk_recv hZ.1 (by decide) hS) hl rfl rfl (Nat.le_of_ble_eq_true rfl) ⟨(Nat.le_of_ble_eq_true rfl), (Nat.le_of_ble_eq_true rfl)⟩ ⟨(Nat.le_of_ble_eq_true rfl), (Nat.le_of_ble_eq_true rfl)⟩ dX5_wordIn_44) (fun r28 u29 H locs hw hP hD hS => ?_)
                replace hP : va_P (dC, dI) vwCl [(wo_5_riiiiirii a_this a_this_text x_this_length x_this_at x_this_behind x_this_sort x_this_allowed a_this_plan x_this_fault x_this_place), (wi_0_1600_0 a_this_text cy g_this_text)] H := hP
                replace hD := k_D hP hD
                have Er28 := lf_cha (j := 6) hw (lf_rf J23_l5)
                refine lv_bipush (v := 32) hx hb dX5_wordIn_47 rfl ?_
                refine lv_icmp_ne (tgt := 81) hx hb dX5_wordIn_49 rfl (fun c30 => ?_) (fun c30 => ?_)
                · as_aux_lemma =>
                    replace hq := lf_neg hq (lf_ne Er28 (lf_lc 32 (32 : Int) rfl) c30)
                    refine lv_iload hx hb dX5_wordIn_81 (lv_at hl 4 rfl) ?_
                    refine lv_if_eq (tgt := 113) hx hb dX5_wordIn_83 rfl (fun c31 => ?_) (fun c31 => ?_)
                    · replace hq := lf_pos hq (lf_eq (lf_rf J23_l4) (lf_lc 0 (0 : Int) rfl) c31)
                      have h32 := ib_eq hJ23_l4 (ib_c 0 0 0 rfl) c31
                      have h33 : ib J23_l4 0 0 := ib_w 0 0 h32.1 rfl
                      have h34 : ib J23_l3 0 1604 := ⟨(hJ23_l3).1, by have := (hJ23_l3).2; have := hJ23_lin0; have := (h27).2; omega⟩
                      exact jn113  H locs ls (ib_w 0 1604 h34 rfl) (ib_w 0 1 h33 rfl) (ib_w 0 4 h27 rfl) (ib_w 0 1599 hK23_x_this_at rfl) (ib_w 1 1 hK23_x_this_sort rfl) (by have := hJ23_lin0; omega) (by exact hq) hP hD hS (lv_sub hl [0, 1, 2, 3, 4, 5] rfl)
                    · as_aux_lemma =>
                        replace hq := lf_neg hq (lf_ne (lf_rf J23_l4) (lf_lc 0 (0 : Int) rfl) c31)
                        have h35 : ib J23_l4 1 1 := ib_w 1 1 (ib_ne_lo 0 hJ23_l4 rfl c31) rfl
                        refine lv_iload_n hx hb dX5_wordIn_86 rfl (lv_at hl 3 rfl) ?_
                        refine lv_aload_n hx hb dX5_wordIn_87 rfl (lv_at hl 0 rfl) ?_
                        refine k_get C0 fg_X5_18 hP 0 rfl rfl dX5_wordIn_88 ?_
                        refine lv_icmp_ge (tgt := 113) hx hb dX5_wordIn_91 rfl (fun c36 => ?_) (fun c36 => ?_)
                        · replace hq := lf_pos hq (lf_le (lf_rf x_this_behind) (lf_rf J23_l3) c36)
                          have h37 := ib_le hx_this_behind hJ23_l3 c36
                          have h38 : ib J23_l3 0 1604 := ⟨(hJ23_l3).1, by have := (hJ23_l3).2; have := hJ23_lin0; have := (h27).2; omega⟩
                          exact jn113  H locs ls (ib_w 0 1604 h38 rfl) (ib_w 0 1 h35 rfl) (ib_w 0 4 h27 rfl) (ib_w 0 1599 hK23_x_this_at rfl) (ib_w 1 1 hK23_x_this_sort rfl) (by have := hJ23_lin0; omega) (by exact hq) hP hD hS (lv_sub hl [0, 1, 2, 3, 4, 5] rfl)
                        · as_aux_lemma =>
                            replace hq := lf_neg hq (lf_nle (lf_rf x_this_behind) (lf_rf J23_l3) c36)
                            have h39 := ib_nle hx_this_behind hJ23_l3 c36
                            have h40 : ib x_this_behind 1 1600 := ib_w 1 1600 h39.1 rfl
                            have h41 : ib J23_l3 0 1599 := ib_w 0 1599 h39.2 rfl
                            refine lv_aload_n hx hb dX5_wordIn_94 rfl (lv_at hl 0 rfl) ?_
                            refine k_get C0 fg_X5_33 hP 0 rfl rfl dX5_wordIn_95 ?_
                            refine lv_iload_n hx hb dX5_wordIn_98 rfl (lv_at hl 3 rfl) ?_
                            refine va_iald hx hb C0.2.2.2.2.2.1 hP 1 0 rfl rfl (ib_in 1600 h41 rfl) dX5_wordIn_99 ?_
                            refine lv_topi (fun z42 ez42 => ?_)
                            have h43 : ib z42 0 255 := by rw [ez42]; exact ia_at hg_this_text (ib_in 1600 h41 rfl)
                            have Ez42 := lf_ld ez42 (lf_ra g_this_text) (lf_rf J23_l3)
                            refine lv_aload_n hx hb dX5_wordIn_100 rfl (lv_at hl 1 rfl) ?_
                            refine lv_iload hx hb dX5_wordIn_101 (lv_at hl 5 rfl) ?_
                            refine k_jim hP hD hS hA [] [true, true] rfl rfl rfl 0 0 (Nat.le_of_ble_eq_true rfl) (Nat.le_of_ble_eq_true rfl) (fun hPc hDc => k_runVO (As := [.int J23_l5]) (rest := [.int z42]) C0 hZ hS hA (cx_charAt l dC dI cy sq 6 (by decide) J23_l5 (ib_ch 6 5 h27 rfl rfl).1 (ib_ch 6 5 h27 rfl rfl).2.1 (ib_ch 6 5 h27 rfl rfl).2.2) mV_X5_248 hPc hDc (vk_recv hZ.1 (by decide) hS) hl rfl rfl (Nat.le_of_ble_eq_true rfl) ⟨(Nat.le_of_ble_eq_true rfl), (Nat.le_of_ble_eq_true rfl)⟩ ⟨(Nat.le_of_ble_eq_true rfl), (Nat.le_of_ble_eq_true rfl)⟩ dX5_wordIn_103) (fun r44 u45 H locs hw hP hD hS => ?_)
                            replace hP : va_P (dC, dI) vwCl [(wo_5_riiiiirii a_this a_this_text x_this_length x_this_at x_this_behind x_this_sort x_this_allowed a_this_plan x_this_fault x_this_place), (wi_0_1600_0 a_this_text cy g_this_text)] H := hP
                            replace hD := k_D hP hD
                            have Er44 := lf_cha (j := 6) hw (lf_rf J23_l5)
                            refine lv_icmp_ne (tgt := 113) hx hb dX5_wordIn_106 rfl (fun c46 => ?_) (fun c46 => ?_)
                            · replace hq := lf_neg hq (lf_ne Ez42 Er44 c46)
                              exact jn113  H locs ls (ib_w 0 1604 h41 rfl) (ib_w 0 1 h35 rfl) (ib_w 0 4 h27 rfl) (ib_w 0 1599 hK23_x_this_at rfl) (ib_w 1 1 hK23_x_this_sort rfl) (by have := hJ23_lin0; omega) (by exact hq) hP hD hS (lv_sub hl [0, 1, 2, 3, 4, 5] rfl)
                            · replace hq := lf_pos hq (lf_eq Ez42 Er44 c46)
                              have h47 := ib_eq h43 (ib_any r44) c46
                              have h48 : ib r44 0 255 := ib_w 0 255 h47.2 rfl
                              refine lv_iconst (v := 1) hx hb dX5_wordIn_109 rfl ?_
                              refine lv_goto (tgt := 114) hx hb dX5_wordIn_110 rfl ?_
                              exact jn114 1 H locs ls (ib_w 0 1604 h41 rfl) (ib_w 0 1 h35 rfl) (ib_w 0 4 h27 rfl) (ib_w 0 1599 hK23_x_this_at rfl) (ib_w 1 1 hK23_x_this_sort rfl) (ib_w 0 1 (ib_c 1 1 1 rfl) rfl) (by have := hJ23_lin0; omega) (by try simp only [show (1 : Int32).toInt = (1 : Int) from rfl]; exact hq) hP hD hS (lv_sub hl [0, 1, 2, 3, 4, 5] rfl)
                · replace hq := lf_pos hq (lf_eq Er28 (lf_lc 32 (32 : Int) rfl) c30)
                  have h49 := ib_eq (ib_any r28) (ib_c 32 32 32 rfl) c30
                  have h50 : ib r28 32 32 := ib_w 32 32 h49.1 rfl
                  have h51 : ib J23_l3 0 1604 := ⟨(hJ23_l3).1, by have := (hJ23_l3).2; have := hJ23_lin0; have := (h27).2; omega⟩
                  exact jn52  H locs ls (ib_w 0 1605 h51 rfl) (ib_w 0 1 hJ23_l4 rfl) (ib_w 0 5 h27 rfl) (ib_w 0 1599 hK23_x_this_at rfl) (ib_w 1 1 hK23_x_this_sort rfl) (by exact hq) hP hD hS (lv_sub hl [0, 1, 2, 3, 4, 5] rfl)
  refine lv_aload_n hx hb dX5_wordIn_0 rfl (lv_at hl 0 rfl) ?_
  refine k_get C0 fg_X5_21 hP 0 rfl rfl dX5_wordIn_1 ?_
  refine lv_iconst (v := 1) hx hb dX5_wordIn_4 rfl ?_
  refine lv_icmp_eq (tgt := 10) hx hb dX5_wordIn_5 rfl (fun c52 => ?_) (fun c52 => ?_)
  · replace hq := lf_pos hq (lf_eq (lf_rf x_this_sort) (lf_lc 1 (1 : Int) rfl) c52)
    have h53 := ib_eq hx_this_sort (ib_c 1 1 1 rfl) c52
    have h54 : ib x_this_sort 1 1 := ib_w 1 1 h53.1 rfl
    have h55 : ib x_this_at 0 1599 := ib_w 0 1599 (ib_two hx_this_at (hc0_this (ib_nz h54 rfl))) rfl
    refine lv_iconst (v := 0) hx hb dX5_wordIn_10 rfl ?_
    refine lv_istore_n (lv' := [(2, .int 0), (0, .ref a_this), (1, .ref (sq 6))]) hx hb dX5_wordIn_11 rfl hl (Nat.le_of_ble_eq_true rfl) rfl (fun ls hl => ?_)
    refine lv_aload_n hx hb dX5_wordIn_12 rfl (lv_at hl 1 rfl) ?_
    refine k_get C0 fg_X5_15 hP 0 rfl rfl dX5_wordIn_13 ?_
    refine lv_istore_n (lv' := [(3, .int x_this_at), (2, .int 0), (0, .ref a_this), (1, .ref (sq 6))]) hx hb dX5_wordIn_16 rfl hl (Nat.le_of_ble_eq_true rfl) rfl (fun ls hl => ?_)
    refine lv_iconst (v := 1) hx hb dX5_wordIn_17 rfl ?_
    refine lv_istore (lv' := [(4, .int 1), (3, .int x_this_at), (2, .int 0), (0, .ref a_this), (1, .ref (sq 6))]) hx hb dX5_wordIn_18 hl (Nat.le_of_ble_eq_true rfl) rfl (fun ls hl => ?_)
    refine lv_iconst (v := 0) hx hb dX5_wordIn_20 rfl ?_
    refine lv_istore (lv' := [(5, .int 0), (4, .int 1), (3, .int x_this_at), (2, .int 0), (0, .ref a_this), (1, .ref (sq 6))]) hx hb dX5_wordIn_21 hl (Nat.le_of_ble_eq_true rfl) rfl (fun ls hl => ?_)
    exact jn23 8 0 x_this_at 1 0 H locs ls (ib_w 0 1599 h55 rfl) (ib_w 1 1 h54 rfl) (ib_w 0 1605 h55 rfl) (ib_w 0 1 (ib_c 1 1 1 rfl) rfl) (ib_w 0 6 (ib_c 0 0 0 rfl) rfl) (by have : (0 : Int32).toInt = 0 := rfl; have := (h55).2; omega) (by try simp only [show (0 : Int32).toInt = (0 : Int) from rfl]; try simp only [show (1 : Int32).toInt = (1 : Int) from rfl]; exact hq) (by have := (ib_c 0 0 0 rfl); unfold ib at this; omega) hP hD hS (lv_sub hl [4, 5, 3, 2, 1, 0] rfl)
  · replace hq := lf_neg hq (lf_ne (lf_rf x_this_sort) (lf_lc 1 (1 : Int) rfl) c52)
    refine lv_iconst (v := (-1)) hx hb dX5_wordIn_8 rfl ?_
    subst hQ; exact k_iret hx hb hr hlk rfl () hS ((hO.symm.trans (by try simp only [show ((-1) : Int32).toInt = (-1 : Int) from rfl]; exact hq))) hP hD (Nat.le_of_ble_eq_true rfl) (Nat.le_of_ble_eq_true rfl) dX5_wordIn_9
set_option maxHeartbeats 4000000 in
set_option maxRecDepth 100000 in
theorem s_X5_needWord_s6 (l : Launch) (dC : Nat → ClassId) (dI : Nat → Nat → Nat) (cy : Nat → ClassId) (sq : Nat → Nat) (a_this : Nat) (a_this_text : Nat) (g_this_text : Nat → Int32) (x_this_length : Int32) (x_this_at : Int32) (x_this_behind : Int32) (x_this_sort : Int32) (x_this_allowed : Int32) (a_this_plan : Nat) (x_this_fault : Int32) (x_this_place : Int32) (hg_this_text : ia g_this_text 1600 0 255) (hx_this_length : ib x_this_length 0 1600) (hx_this_at : ib x_this_at 0 1600) (hx_this_behind : ib x_this_behind 0 1600) (hx_this_sort : ib x_this_sort 0 4) (hc0_this : ¬ x_this_sort = 0 → ib x_this_at 0 1599) : k_Met l yX5_needWord cX5_needWord 2 none { frames := 5, cells := 0, slots := 0, locals := 166 } dC dI cy sq [.ref a_this, .ref (sq 6)] [(wo_5_riiiiirii a_this a_this_text x_this_length x_this_at x_this_behind x_this_sort x_this_allowed a_this_plan x_this_fault x_this_place), (wi_0_1600_0 a_this_text cy g_this_text)] (k_Qv dC dI (fun (u : Int32 × Int32 × Int32 × Int32 × Int32) => match u with | (n0, n1, n2, n3, n4) => ib n0 0 1600 ∧ ib n1 0 1600 ∧ ib n2 0 4 ∧ (¬ n2 = 0 → ib n0 0 1599) ∧ (F_X5_needWord_s6 (lf_A g_this_text) (Int32.toInt x_this_length) (Int32.toInt x_this_at) (Int32.toInt x_this_behind) (Int32.toInt x_this_sort) (Int32.toInt x_this_fault) (Int32.toInt x_this_place) = ((Int32.toInt n0), (Int32.toInt n1), (Int32.toInt n2), (Int32.toInt n3), (Int32.toInt n4)))) (fun u : Int32 × Int32 × Int32 × Int32 × Int32 => match u with | (n0, n1, n2, n3, n4) => [(wo_5_riiiiirii a_this a_this_text x_this_length n0 n1 n2 x_this_allowed a_this_plan n3 n4), (wi_0_1600_0 a_this_text cy g_this_text)])) := by
  refine k_ofW2 (by decide +kernel) (Nat.le_of_ble_eq_true rfl) ?_
  intro p e s m below meth c A ls H locs args Q hQ C0 hZ hr hlk hin hP hD hA hS hl
  have C0 : k_cx p s m args c cX5_needWord 2 RX5 dC dI cy sq := C0
  have hx := C0.1
  have hb := C0.2.1
  have hl : lv_has ls 2 [(0, .ref a_this), (1, .ref (sq 6))] := hl
  obtain ⟨O, hO⟩ : ∃ o, o = F_X5_needWord_s6 (lf_A g_this_text) (Int32.toInt x_this_length) (Int32.toInt x_this_at) (Int32.toInt x_this_behind) (Int32.toInt x_this_sort) (Int32.toInt x_this_fault) (Int32.toInt x_this_place) := ⟨_, rfl⟩
  have hq := hO
  unfold F_X5_needWord_s6 at hq
  refine lv_aload_n hx hb dX5_needWord_0 rfl (lv_at hl 0 rfl) ?_
  refine lv_aload_n hx hb dX5_needWord_1 rfl (lv_at hl 1 rfl) ?_
  refine k_jim hP hD hS hA [0, 1] [] rfl rfl rfl 0 0 (Nat.le_of_ble_eq_true rfl) (Nat.le_of_ble_eq_true rfl) (fun hPc hDc => k_runV (As := [.ref (sq 6)]) (rest := []) C0 hZ hS hA (s_X5_wordIn_s6 l dC dI cy sq a_this a_this_text g_this_text x_this_length x_this_at x_this_behind x_this_sort x_this_allowed a_this_plan x_this_fault x_this_place hg_this_text (ib_w 0 1600 hx_this_at rfl) (ib_w 0 1600 hx_this_behind rfl) (ib_w 0 4 hx_this_sort rfl) (fun hq9 => ib_w 0 1599 (hc0_this hq9) rfl)) mV_X5_54 hPc hDc rfl rfl rfl hl rfl rfl (Nat.le_of_ble_eq_true rfl) ⟨(Nat.le_of_ble_eq_true rfl), (Nat.le_of_ble_eq_true rfl)⟩ ⟨(Nat.le_of_ble_eq_true rfl), (Nat.le_of_ble_eq_true rfl)⟩ dX5_needWord_2) (fun r1 u2 H locs hw hP hD hS => ?_)
  try dsimp only at hP hD hw
  replace hP : va_P (dC, dI) vwCl [(wo_5_riiiiirii a_this a_this_text x_this_length x_this_at x_this_behind x_this_sort x_this_allowed a_this_plan x_this_fault x_this_place), (wi_0_1600_0 a_this_text cy g_this_text)] H := hP
  replace hD := k_D hP hD
  have h3 := hw
  replace hq := lf_b1 hq h3
  refine lv_iconst (v := (-1)) hx hb dX5_needWord_5 rfl ?_
  refine lv_icmp_ne (tgt := 21) hx hb dX5_needWord_6 rfl (fun c4 => ?_) (fun c4 => ?_)
  · replace hq := lf_neg hq (lf_ne (lf_rf r1) (lf_lc (-1) (-1 : Int) rfl) c4)
    refine lv_aload_n hx hb dX5_needWord_21 rfl (lv_at hl 0 rfl) ?_
    refine lv_aload_n hx hb dX5_needWord_22 rfl (lv_at hl 0 rfl) ?_
    refine k_get C0 fg_X5_18 hP 0 rfl rfl dX5_needWord_23 ?_
    refine k_jvm hP hD hS hA [0, 1] [] rfl rfl rfl 0 0 (Nat.le_of_ble_eq_true rfl) (Nat.le_of_ble_eq_true rfl) (fun hPc hDc => k_runV (As := [.int x_this_behind]) (rest := []) C0 hZ hS hA (s_X5_moveTo l dC dI cy sq a_this a_this_text g_this_text x_this_length x_this_at x_this_behind x_this_sort x_this_allowed a_this_plan x_this_fault x_this_place x_this_behind hg_this_text (ib_w 0 1600 hx_this_length rfl) (ib_w 0 1600 hx_this_behind rfl)) mV_X5_86 hPc hDc rfl rfl rfl hl rfl rfl (Nat.le_of_ble_eq_true rfl) ⟨(Nat.le_of_ble_eq_true rfl), (Nat.le_of_ble_eq_true rfl)⟩ ⟨(Nat.le_of_ble_eq_true rfl), (Nat.le_of_ble_eq_true rfl)⟩ dX5_needWord_26) (fun u6 H locs hw hP hD hS => ?_)
    obtain ⟨v7, v8, v9⟩ := u6
    try dsimp only at hP hD hw
    replace hP : va_P (dC, dI) vwCl [(wo_5_riiiiirii a_this a_this_text x_this_length v7 v8 v9 x_this_allowed a_this_plan x_this_fault x_this_place), (wi_0_1600_0 a_this_text cy g_this_text)] H := hP
    replace hD := k_D hP hD
    obtain ⟨h10, h11, h12, h13, h14⟩ := hw
    replace hq := lf_p1 hq h14
    replace hq := lf_p1 hq rfl
    subst hQ; exact k_vret hx hb hr hlk ((v7, v8, v9, x_this_fault, x_this_place)) hS ⟨ib_w 0 1600 h10 rfl, ib_w 0 1600 h11 rfl, ib_w 0 4 h12 rfl, fun hq9 => ib_w 0 1599 (h13 hq9) rfl, (hO.symm.trans (by exact hq))⟩ hP hD (Nat.le_of_ble_eq_true rfl) (Nat.le_of_ble_eq_true rfl) dX5_needWord_29
  · replace hq := lf_pos hq (lf_eq (lf_rf r1) (lf_lc (-1) (-1 : Int) rfl) c4)
    have h15 := ib_eq (ib_any r1) (ib_c (-1) (-1) (-1) rfl) c4
    have h16 : ib r1 (-1) (-1) := ib_w (-1) (-1) h15.1 rfl
    refine lv_aload_n hx hb dX5_needWord_9 rfl (lv_at hl 0 rfl) ?_
    refine lv_iconst (v := 1) hx hb dX5_needWord_10 rfl ?_
    refine lv_aload_n hx hb dX5_needWord_11 rfl (lv_at hl 0 rfl) ?_
    refine k_get C0 fg_X5_15 hP 0 rfl rfl dX5_needWord_12 ?_
    refine k_jvm hP hD hS hA [0] [false, true] rfl rfl rfl 0 0 (Nat.le_of_ble_eq_true rfl) (Nat.le_of_ble_eq_true rfl) (fun hPc hDc => k_runV (As := [.int 1, .int x_this_at]) (rest := []) C0 hZ hS hA (s_X5_fail l dC dI cy sq a_this a_this_text x_this_length x_this_at x_this_behind x_this_sort x_this_allowed a_this_plan x_this_fault x_this_place 1 x_this_at ) mV_X5_78 hPc hDc rfl rfl rfl hl rfl rfl (Nat.le_of_ble_eq_true rfl) ⟨(Nat.le_of_ble_eq_true rfl), (Nat.le_of_ble_eq_true rfl)⟩ ⟨(Nat.le_of_ble_eq_true rfl), (Nat.le_of_ble_eq_true rfl)⟩ dX5_needWord_15) (fun u18 H locs hw hP hD hS => ?_)
    obtain ⟨v19, v20⟩ := u18
    try dsimp only at hP hD hw
    replace hP : va_P (dC, dI) vwCl [(wi_0_1600_0 a_this_text cy g_this_text), (wo_5_riiiiirii a_this a_this_text x_this_length x_this_length x_this_length 0 x_this_allowed a_this_plan v19 v20)] H := hP
    replace hD := k_D hP hD
    have h21 := hw
    have h21 := by have h9 := h21; try simp only [show (1 : Int32).toInt = (1 : Int) from rfl] at h9; exact h9
    replace hq := lf_p1 hq h21
    refine lv_goto (tgt := 29) hx hb dX5_needWord_18 rfl ?_
    subst hQ; exact k_vret hx hb hr hlk ((x_this_length, x_this_length, 0, v19, v20)) hS ⟨ib_w 0 1600 hx_this_length rfl, ib_w 0 1600 hx_this_length rfl, ib_w 0 4 (ib_c 0 0 0 rfl) rfl, fun hq9 => absurd rfl hq9, (hO.symm.trans (by try simp only [show (0 : Int32).toInt = (0 : Int) from rfl]; exact hq))⟩ (hP.sub [1, 0] rfl) (hD.sub [1, 0] rfl rfl) (Nat.le_of_ble_eq_true rfl) (Nat.le_of_ble_eq_true rfl) dX5_needWord_29
set_option maxHeartbeats 4000000 in
set_option maxRecDepth 100000 in
theorem s_X5_number_a0_0_a1_99 (l : Launch) (dC : Nat → ClassId) (dI : Nat → Nat → Nat) (cy : Nat → ClassId) (sq : Nat → Nat) (a_this : Nat) (a_this_text : Nat) (g_this_text : Nat → Int32) (x_this_length : Int32) (x_this_at : Int32) (x_this_behind : Int32) (x_this_sort : Int32) (x_this_allowed : Int32) (a_this_plan : Nat) (x_this_fault : Int32) (x_this_place : Int32) (hg_this_text : ia g_this_text 1600 0 255) (hx_this_length : ib x_this_length 0 1600) (hx_this_at : ib x_this_at 0 1600) (hx_this_behind : ib x_this_behind 0 1600) (hx_this_sort : ib x_this_sort 0 4) (hc0_this : ¬ x_this_sort = 0 → ib x_this_at 0 1599) : k_Met l yX5_number cX5_number 5 (some .int) { frames := 2, cells := 0, slots := 0, locals := 43 } dC dI cy sq [.ref a_this, .int 0, .int 99] [(wo_5_riiiiirii a_this a_this_text x_this_length x_this_at x_this_behind x_this_sort x_this_allowed a_this_plan x_this_fault x_this_place), (wi_0_1600_0 a_this_text cy g_this_text)] (k_Qi dC dI (fun (r : Int32) (u : Int32 × Int32 × Int32 × Int32 × Int32) => match u with | (n0, n1, n2, n3, n4) => ib r 0 99 ∧ ib n0 0 1600 ∧ ib n1 0 1600 ∧ ib n2 0 4 ∧ (¬ n2 = 0 → ib n0 0 1599) ∧ (F_X5_number_a0_0_a1_99 (lf_A g_this_text) (Int32.toInt x_this_length) (Int32.toInt x_this_at) (Int32.toInt x_this_behind) (Int32.toInt x_this_sort) (Int32.toInt x_this_fault) (Int32.toInt x_this_place) = ((Int32.toInt r), (Int32.toInt n0), (Int32.toInt n1), (Int32.toInt n2), (Int32.toInt n3), (Int32.toInt n4)))) (fun u : Int32 × Int32 × Int32 × Int32 × Int32 => match u with | (n0, n1, n2, n3, n4) => [(wo_5_riiiiirii a_this a_this_text x_this_length n0 n1 n2 x_this_allowed a_this_plan n3 n4), (wi_0_1600_0 a_this_text cy g_this_text)])) := by
  refine k_ofW2 (by decide +kernel) (Nat.le_of_ble_eq_true rfl) ?_
  intro p e s m below meth c A ls H locs args Q hQ C0 hZ hr hlk hin hP hD hA hS hl
  have C0 : k_cx p s m args c cX5_number 5 RX5 dC dI cy sq := C0
  have hx := C0.1
  have hb := C0.2.1
  have hl : lv_has ls 5 [(0, .ref a_this), (1, .int 0), (2, .int 99)] := hl
  obtain ⟨O, hO⟩ : ∃ o, o = F_X5_number_a0_0_a1_99 (lf_A g_this_text) (Int32.toInt x_this_length) (Int32.toInt x_this_at) (Int32.toInt x_this_behind) (Int32.toInt x_this_sort) (Int32.toInt x_this_fault) (Int32.toInt x_this_place) := ⟨_, rfl⟩
  have hq := hO
  unfold F_X5_number_a0_0_a1_99 at hq
  have jn94 : ∀ (J94_l3 : Int32) (J94_l4 : Int32) (H : Heap) (locs : List Loc) (ls : Array Slot), ib J94_l4 0 1600 → ib x_this_at 0 1599 → ib x_this_sort 2 2 → (O = F_X5_number_a0_0_a1_99_94 (Int32.toInt x_this_length) (Int32.toInt x_this_at) (Int32.toInt x_this_fault) (Int32.toInt x_this_place) (Int32.toInt J94_l3) (Int32.toInt J94_l4)) → va_P (dC, dI) vwCl [(wo_5_riiiiirii a_this a_this_text x_this_length x_this_at x_this_behind x_this_sort x_this_allowed a_this_plan x_this_fault x_this_place), (wi_0_1600_0 a_this_text cy g_this_text)] H → va_D A [(wo_5_riiiiirii a_this a_this_text x_this_length x_this_at x_this_behind x_this_sort x_this_allowed a_this_plan x_this_fault x_this_place), (wi_0_1600_0 a_this_text cy g_this_text)] → va_S A s.heap H locs → lv_has ls 5 [(0, .ref a_this), (1, .int 0), (2, .int 99), (3, .int J94_l3), (4, .int J94_l4)] → W p l e { frames := 2, cells := 0, slots := 0, locals := 43 } s m args below meth c H locs 0 0 Q (F0 m 94 ls []) := by
    intro J94_l3 J94_l4 H locs ls hJ94_l4 hK94_x_this_at hK94_x_this_sort hq hP hD hS hl
    unfold F_X5_number_a0_0_a1_99_94 at hq
    refine lv_aload_n hx hb dX5_number_94 rfl (lv_at hl 0 rfl) ?_
    refine lv_iconst (v := 2) hx hb dX5_number_95 rfl ?_
    refine lv_aload_n hx hb dX5_number_96 rfl (lv_at hl 0 rfl) ?_
    refine k_get C0 fg_X5_15 hP 0 rfl rfl dX5_number_97 ?_
    refine k_jvm hP hD hS hA [0] [false, true] rfl rfl rfl 0 0 (Nat.le_of_ble_eq_true rfl) (Nat.le_of_ble_eq_true rfl) (fun hPc hDc => k_runV (As := [.int 2, .int x_this_at]) (rest := []) C0 hZ hS hA (s_X5_fail l dC dI cy sq a_this a_this_text x_this_length x_this_at x_this_behind x_this_sort x_this_allowed a_this_plan x_this_fault x_this_place 2 x_this_at ) mV_X5_78 hPc hDc rfl rfl rfl hl rfl rfl (Nat.le_of_ble_eq_true rfl) ⟨(Nat.le_of_ble_eq_true rfl), (Nat.le_of_ble_eq_true rfl)⟩ ⟨(Nat.le_of_ble_eq_true rfl), (Nat.le_of_ble_eq_true rfl)⟩ dX5_number_100) (fun u2 H locs hw hP hD hS => ?_)
    obtain ⟨v3, v4⟩ := u2
    try dsimp only at hP hD hw
    replace hP : va_P (dC, dI) vwCl [(wi_0_1600_0 a_this_text cy g_this_text), (wo_5_riiiiirii a_this a_this_text x_this_length x_this_length x_this_length 0 x_this_allowed a_this_plan v3 v4)] H := hP
    replace hD := k_D hP hD
    have h5 := hw
    have h5 := by have h9 := h5; try simp only [show (2 : Int32).toInt = (2 : Int) from rfl] at h9; exact h9
    replace hq := lf_p1 hq h5
    refine lv_iload_n hx hb dX5_number_103 rfl (lv_at hl 1 rfl) ?_
    subst hQ; exact k_iret hx hb hr hlk rfl ((x_this_length, x_this_length, 0, v3, v4)) hS ⟨ib_w 0 99 (ib_c 0 0 0 rfl) rfl, ib_w 0 1600 hx_this_length rfl, ib_w 0 1600 hx_this_length rfl, ib_w 0 4 (ib_c 0 0 0 rfl) rfl, fun hq9 => absurd rfl hq9, (hO.symm.trans (by try simp only [show (0 : Int32).toInt = (0 : Int) from rfl]; exact hq))⟩ (hP.sub [1, 0] rfl) (hD.sub [1, 0] rfl rfl) (Nat.le_of_ble_eq_true rfl) (Nat.le_of_ble_eq_true rfl) dX5_number_104
  have jn53 : ∀ (n : Nat) (J53_l3 : Int32) (J53_l4 : Int32) (H : Heap) (locs : List Loc) (ls : Array Slot), ib x_this_at 0 1599 → ib x_this_sort 2 2 → ib J53_l4 0 1600 → (O = F_X5_number_a0_0_a1_99_53 (lf_A g_this_text) (Int32.toInt x_this_length) (Int32.toInt x_this_at) (Int32.toInt x_this_behind) (Int32.toInt x_this_fault) (Int32.toInt x_this_place) n (Int32.toInt J53_l3) (Int32.toInt J53_l4)) → 1601 ≤ J53_l4.toInt + (n : Int) → va_P (dC, dI) vwCl [(wo_5_riiiiirii a_this a_this_text x_this_length x_this_at x_this_behind x_this_sort x_this_allowed a_this_plan x_this_fault x_this_place), (wi_0_1600_0 a_this_text cy g_this_text)] H → va_D A [(wo_5_riiiiirii a_this a_this_text x_this_length x_this_at x_this_behind x_this_sort x_this_allowed a_this_plan x_this_fault x_this_place), (wi_0_1600_0 a_this_text cy g_this_text)] → va_S A s.heap H locs → lv_has ls 5 [(0, .ref a_this), (1, .int 0), (2, .int 99), (3, .int J53_l3), (4, .int J53_l4)] → W p l e { frames := 2, cells := 0, slots := 0, locals := 43 } s m args below meth c H locs 0 0 Q (F0 m 53 ls []) := by
    as_aux_lemma =>
      intro n
      induction n with
      | zero =>
        intro J53_l3 J53_l4 H locs ls hK53_x_this_at hK53_x_this_sort hJ53_l4 hq hm
        exact absurd hm (by have := hJ53_l4; unfold ib at this; omega)
      | succ n ih =>
        intro J53_l3 J53_l4 H locs ls hK53_x_this_at hK53_x_this_sort hJ53_l4 hq hm53 hP hD hS hl
        have ih53 := ih
        obtain ⟨K53, hK53⟩ : ∃ K, K = F_X5_number_a0_0_a1_99_53 (lf_A g_this_text) (Int32.toInt x_this_length) (Int32.toInt x_this_at) (Int32.toInt x_this_behind) (Int32.toInt x_this_fault) (Int32.toInt x_this_place) n := ⟨_, rfl⟩
        have hq : O = F_X5_number_a0_0_a1_99_53b (lf_A g_this_text) (Int32.toInt x_this_length) (Int32.toInt x_this_at) (Int32.toInt x_this_behind) (Int32.toInt x_this_fault) (Int32.toInt x_this_place) K53 (Int32.toInt J53_l3) (Int32.toInt J53_l4) := by rw [hK53]; exact hq
        unfold F_X5_number_a0_0_a1_99_53b at hq
        refine lv_iload hx hb dX5_number_53 (lv_at hl 4 rfl) ?_
        refine lv_aload_n hx hb dX5_number_55 rfl (lv_at hl 0 rfl) ?_
        refine k_get C0 fg_X5_18 hP 0 rfl rfl dX5_number_56 ?_
        refine lv_icmp_ge (tgt := 84) hx hb dX5_number_59 rfl (fun c6 => ?_) (fun c6 => ?_)
        · as_aux_lemma =>
            replace hq := lf_pos hq (lf_le (lf_rf x_this_behind) (lf_rf J53_l4) c6)
            have h7 := ib_le hx_this_behind hJ53_l4 c6
            refine lv_iload_n hx hb dX5_number_84 rfl (lv_at hl 3 rfl) ?_
            refine lv_iload_n hx hb dX5_number_85 rfl (lv_at hl 1 rfl) ?_
            refine lv_icmp_lt (tgt := 94) hx hb dX5_number_86 rfl (fun c8 => ?_) (fun c8 => ?_)
            · replace hq := lf_pos hq (lf_lt (lf_rf J53_l3) (lf_lc 0 (0 : Int) rfl) c8)
              have h9 := ib_lt (ib_any J53_l3) (ib_c 0 0 0 rfl) c8
              have h10 : ib J53_l3 (-2147483648) (-1) := ib_w (-2147483648) (-1) h9.1 rfl
              exact jn94 J53_l3 J53_l4 H locs ls (ib_w 0 1600 hJ53_l4 rfl) (ib_w 0 1599 hK53_x_this_at rfl) (ib_w 2 2 hK53_x_this_sort rfl) (by exact hq) hP hD hS (lv_sub hl [0, 1, 2, 3, 4] rfl)
            · as_aux_lemma =>
                replace hq := lf_neg hq (lf_nlt (lf_rf J53_l3) (lf_lc 0 (0 : Int) rfl) c8)
                have h11 := ib_nlt (ib_any J53_l3) (ib_c 0 0 0 rfl) c8
                have h12 : ib J53_l3 0 2147483647 := ib_w 0 2147483647 h11.1 rfl
                refine lv_iload_n hx hb dX5_number_89 rfl (lv_at hl 3 rfl) ?_
                refine lv_iload_n hx hb dX5_number_90 rfl (lv_at hl 2 rfl) ?_
                refine lv_icmp_le (tgt := 105) hx hb dX5_number_91 rfl (fun c13 => ?_) (fun c13 => ?_)
                · replace hq := lf_pos hq (lf_le (lf_rf J53_l3) (lf_lc 99 (99 : Int) rfl) c13)
                  have h14 := ib_le h12 (ib_c 99 99 99 rfl) c13
                  have h15 : ib J53_l3 0 99 := ib_w 0 99 h14.1 rfl
                  refine lv_aload_n hx hb dX5_number_105 rfl (lv_at hl 0 rfl) ?_
                  refine lv_aload_n hx hb dX5_number_106 rfl (lv_at hl 0 rfl) ?_
                  refine k_get C0 fg_X5_18 hP 0 rfl rfl dX5_number_107 ?_
                  refine k_jvm hP hD hS hA [0, 1] [] rfl rfl rfl 0 0 (Nat.le_of_ble_eq_true rfl) (Nat.le_of_ble_eq_true rfl) (fun hPc hDc => k_runV (As := [.int x_this_behind]) (rest := []) C0 hZ hS hA (s_X5_moveTo l dC dI cy sq a_this a_this_text g_this_text x_this_length x_this_at x_this_behind x_this_sort x_this_allowed a_this_plan x_this_fault x_this_place x_this_behind hg_this_text (ib_w 0 1600 hx_this_length rfl) (ib_w 0 1600 hx_this_behind rfl)) mV_X5_86 hPc hDc rfl rfl rfl hl rfl rfl (Nat.le_of_ble_eq_true rfl) ⟨(Nat.le_of_ble_eq_true rfl), (Nat.le_of_ble_eq_true rfl)⟩ ⟨(Nat.le_of_ble_eq_true rfl), (Nat.le_of_ble_eq_true rfl)⟩ dX5_number_110) (fun u17 H locs hw hP hD hS => ?_)
                  obtain ⟨v18, v19, v20⟩ := u17
                  try dsimp only at hP hD hw
                  replace hP : va_P (dC, dI) vwCl [(wo_5_riiiiirii a_this a_this_text x_this_length v18 v19 v20 x_this_allowed a_this_plan x_this_fault x_this_place), (wi_0_1600_0 a_this_text cy g_this_text)] H := hP
                  replace hD := k_D hP hD
                  obtain ⟨h21, h22, h23, h24, h25⟩ := hw
                  replace hq := lf_p1 hq h25
                  replace hq := lf_p1 hq rfl
                  refine lv_iload_n hx hb dX5_number_113 rfl (lv_at hl 3 rfl) ?_
                  subst hQ; exact k_iret hx hb hr hlk rfl ((v18, v19, v20, x_this_fault, x_this_place)) hS ⟨ib_w 0 99 h15 rfl, ib_w 0 1600 h21 rfl, ib_w 0 1600 h22 rfl, ib_w 0 4 h23 rfl, fun hq9 => ib_w 0 1599 (h24 hq9) rfl, (hO.symm.trans (by exact hq))⟩ hP hD (Nat.le_of_ble_eq_true rfl) (Nat.le_of_ble_eq_true rfl) dX5_number_114
                · replace hq := lf_neg hq (lf_nle (lf_rf J53_l3) (lf_lc 99 (99 : Int) rfl) c13)
                  have h26 := ib_nle h12 (ib_c 99 99 99 rfl) c13
                  have h27 : ib J53_l3 100 2147483647 := ib_w 100 2147483647 h26.1 rfl
                  exact jn94 J53_l3 J53_l4 H locs ls (ib_w 0 1600 hJ53_l4 rfl) (ib_w 0 1599 hK53_x_this_at rfl) (ib_w 2 2 hK53_x_this_sort rfl) (by exact hq) hP hD hS (lv_sub hl [0, 1, 2, 3, 4] rfl)
        · as_aux_lemma =>
            replace hq := lf_neg hq (lf_nle (lf_rf x_this_behind) (lf_rf J53_l4) c6)
            have h28 := ib_nle hx_this_behind hJ53_l4 c6
            have h29 : ib x_this_behind 1 1600 := ib_w 1 1600 h28.1 rfl
            have h30 : ib J53_l4 0 1599 := ib_w 0 1599 h28.2 rfl
            refine lv_iload_n hx hb dX5_number_62 rfl (lv_at hl 3 rfl) ?_
            refine lv_bipush (v := 10) hx hb dX5_number_63 rfl ?_
            refine lv_imul hx hb dX5_number_65 ?_
            refine lv_topi (fun z31 ez31 => ?_)
            have Ez31 := lf_op lf_imul ez31 (lf_rf J53_l3) (lf_lc 10 (10 : Int) rfl)
            refine lv_aload_n hx hb dX5_number_66 rfl (lv_at hl 0 rfl) ?_
            refine k_get C0 fg_X5_33 hP 0 rfl rfl dX5_number_67 ?_
            refine lv_iload hx hb dX5_number_70 (lv_at hl 4 rfl) ?_
            refine va_iald hx hb C0.2.2.2.2.2.1 hP 1 0 rfl rfl (ib_in 1600 h30 rfl) dX5_number_72 ?_
            refine lv_topi (fun z32 ez32 => ?_)
            have h33 : ib z32 0 255 := by rw [ez32]; exact ia_at hg_this_text (ib_in 1600 h30 rfl)
            have Ez32 := lf_ld ez32 (lf_ra g_this_text) (lf_rf J53_l4)
            refine lv_iadd hx hb dX5_number_73 ?_
            refine lv_topi (fun z34 ez34 => ?_)
            have Ez34 := lf_op lf_iadd ez34 Ez31 Ez32
            refine lv_bipush (v := 48) hx hb dX5_number_74 rfl ?_
            refine lv_isub hx hb dX5_number_76 ?_
            refine lv_topi (fun z35 ez35 => ?_)
            have Ez35 := lf_op lf_isub ez35 Ez34 (lf_lc 48 (48 : Int) rfl)
            refine lv_istore_n (lv' := [(3, .int z35), (0, .ref a_this), (1, .int 0), (2, .int 99), (4, .int J53_l4)]) hx hb dX5_number_77 rfl hl (Nat.le_of_ble_eq_true rfl) rfl (fun ls hl => ?_)
            obtain ⟨z36, ez36⟩ : ∃ y : Int32, y = J53_l4 + 1 := ⟨_, rfl⟩
            refine lv_iinc (v := z36) (lv' := [(4, .int z36), (3, .int z35), (0, .ref a_this), (1, .int 0), (2, .int 99)]) hx hb dX5_number_78 hl (k := 4) rfl (by rw [ez36]; rfl) (Nat.le_of_ble_eq_true rfl) rfl (fun ls hl => ?_)
            have h37 := ib_add h30 (ib_c 1 1 1 rfl) rfl
            rw [← ez36] at h37
            have h38 : ib z36 1 1600 := ib_w 1 1600 h37.1 rfl
            have Ez36 := lf_add h37.2 (lf_rf J53_l4) (lf_lc 1 (1 : Int) rfl)
            refine lv_goto (tgt := 53) hx hb dX5_number_81 rfl ?_
            exact ih53 z35 z36 H locs ls (ib_w 0 1599 hK53_x_this_at rfl) (ib_w 2 2 hK53_x_this_sort rfl) (ib_w 0 1600 h38 rfl) (by rw [← hK53]; rw [lf_u Ez35]; rw [lf_u Ez36]; exact hq) (by have := h37.2; have : (1 : Int32).toInt = 1 := rfl; omega) hP hD hS (lv_sub hl [2, 3, 4, 1, 0] rfl)
  refine lv_aload_n hx hb dX5_number_0 rfl (lv_at hl 0 rfl) ?_
  refine k_get C0 fg_X5_21 hP 0 rfl rfl dX5_number_1 ?_
  refine lv_iconst (v := 2) hx hb dX5_number_4 rfl ?_
  refine lv_icmp_eq (tgt := 19) hx hb dX5_number_5 rfl (fun c39 => ?_) (fun c39 => ?_)
  · as_aux_lemma =>
      replace hq := lf_pos hq (lf_eq (lf_rf x_this_sort) (lf_lc 2 (2 : Int) rfl) c39)
      have h40 := ib_eq hx_this_sort (ib_c 2 2 2 rfl) c39
      have h41 : ib x_this_sort 2 2 := ib_w 2 2 h40.1 rfl
      have h42 : ib x_this_at 0 1599 := ib_w 0 1599 (ib_two hx_this_at (hc0_this (ib_nz h41 rfl))) rfl
      refine lv_aload_n hx hb dX5_number_19 rfl (lv_at hl 0 rfl) ?_
      refine k_get C0 fg_X5_18 hP 0 rfl rfl dX5_number_20 ?_
      refine lv_aload_n hx hb dX5_number_23 rfl (lv_at hl 0 rfl) ?_
      refine k_get C0 fg_X5_15 hP 0 rfl rfl dX5_number_24 ?_
      refine lv_isub hx hb dX5_number_27 ?_
      refine lv_topi (fun z43 ez43 => ?_)
      have h44 := ib_sub hx_this_behind h42 rfl
      rw [← ez43] at h44
      have h45 : ib z43 (-1599) 1600 := ib_w (-1599) 1600 h44.1 rfl
      have Ez43 := lf_sub h44.2 (lf_rf x_this_behind) (lf_rf x_this_at)
      refine lv_iconst (v := 4) hx hb dX5_number_28 rfl ?_
      refine lv_icmp_le (tgt := 45) hx hb dX5_number_29 rfl (fun c46 => ?_) (fun c46 => ?_)
      · replace hq := lf_pos hq (lf_le Ez43 (lf_lc 4 (4 : Int) rfl) c46)
        have h47 := ib_le h45 (ib_c 4 4 4 rfl) c46
        have h48 : ib z43 (-1599) 4 := ib_w (-1599) 4 h47.1 rfl
        refine lv_iconst (v := 0) hx hb dX5_number_45 rfl ?_
        refine lv_istore_n (lv' := [(3, .int 0), (0, .ref a_this), (1, .int 0), (2, .int 99)]) hx hb dX5_number_46 rfl hl (Nat.le_of_ble_eq_true rfl) rfl (fun ls hl => ?_)
        refine lv_aload_n hx hb dX5_number_47 rfl (lv_at hl 1 rfl) ?_
        refine k_get C0 fg_X5_15 hP 0 rfl rfl dX5_number_48 ?_
        refine lv_istore (lv' := [(4, .int x_this_at), (3, .int 0), (0, .ref a_this), (1, .int 0), (2, .int 99)]) hx hb dX5_number_51 hl (Nat.le_of_ble_eq_true rfl) rfl (fun ls hl => ?_)
        exact jn53 1602 0 x_this_at H locs ls (ib_w 0 1599 h42 rfl) (ib_w 2 2 h41 rfl) (ib_w 0 1600 h42 rfl) (by try simp only [show (0 : Int32).toInt = (0 : Int) from rfl]; exact hq) (by have := h42; unfold ib at this; omega) hP hD hS (lv_sub hl [2, 3, 4, 1, 0] rfl)
      · as_aux_lemma =>
          replace hq := lf_neg hq (lf_nle Ez43 (lf_lc 4 (4 : Int) rfl) c46)
          have h49 := ib_nle h45 (ib_c 4 4 4 rfl) c46
          have h50 : ib z43 5 1600 := ib_w 5 1600 h49.1 rfl
          refine lv_aload_n hx hb dX5_number_32 rfl (lv_at hl 0 rfl) ?_
          refine lv_iconst (v := 1) hx hb dX5_number_33 rfl ?_
          refine lv_aload_n hx hb dX5_number_34 rfl (lv_at hl 0 rfl) ?_
          refine k_get C0 fg_X5_15 hP 0 rfl rfl dX5_number_35 ?_
          refine lv_iconst (v := 4) hx hb dX5_number_38 rfl ?_
          refine lv_iadd hx hb dX5_number_39 ?_
          refine lv_topi (fun z51 ez51 => ?_)
          have h52 := ib_add h42 (ib_c 4 4 4 rfl) rfl
          rw [← ez51] at h52
          have h53 : ib z51 4 1603 := ib_w 4 1603 h52.1 rfl
          have Ez51 := lf_add h52.2 (lf_rf x_this_at) (lf_lc 4 (4 : Int) rfl)
          refine k_jvm hP hD hS hA [0] [false, true] rfl rfl rfl 0 0 (Nat.le_of_ble_eq_true rfl) (Nat.le_of_ble_eq_true rfl) (fun hPc hDc => k_runV (As := [.int 1, .int z51]) (rest := []) C0 hZ hS hA (s_X5_fail l dC dI cy sq a_this a_this_text x_this_length x_this_at x_this_behind x_this_sort x_this_allowed a_this_plan x_this_fault x_this_place 1 z51 ) mV_X5_78 hPc hDc rfl rfl rfl hl rfl rfl (Nat.le_of_ble_eq_true rfl) ⟨(Nat.le_of_ble_eq_true rfl), (Nat.le_of_ble_eq_true rfl)⟩ ⟨(Nat.le_of_ble_eq_true rfl), (Nat.le_of_ble_eq_true rfl)⟩ dX5_number_40) (fun u55 H locs hw hP hD hS => ?_)
          obtain ⟨v56, v57⟩ := u55
          try dsimp only at hP hD hw
          replace hP : va_P (dC, dI) vwCl [(wi_0_1600_0 a_this_text cy g_this_text), (wo_5_riiiiirii a_this a_this_text x_this_length x_this_length x_this_length 0 x_this_allowed a_this_plan v56 v57)] H := hP
          replace hD := k_D hP hD
          have h58 := hw
          have h58 := by have h9 := h58; try simp only [show (1 : Int32).toInt = (1 : Int) from rfl] at h9; rw [lf_u Ez51] at h9; exact h9
          replace hq := lf_p1 hq h58
          refine lv_iload_n hx hb dX5_number_43 rfl (lv_at hl 1 rfl) ?_
          subst hQ; exact k_iret hx hb hr hlk rfl ((x_this_length, x_this_length, 0, v56, v57)) hS ⟨ib_w 0 99 (ib_c 0 0 0 rfl) rfl, ib_w 0 1600 hx_this_length rfl, ib_w 0 1600 hx_this_length rfl, ib_w 0 4 (ib_c 0 0 0 rfl) rfl, fun hq9 => absurd rfl hq9, (hO.symm.trans (by try simp only [show (0 : Int32).toInt = (0 : Int) from rfl]; exact hq))⟩ (hP.sub [1, 0] rfl) (hD.sub [1, 0] rfl rfl) (Nat.le_of_ble_eq_true rfl) (Nat.le_of_ble_eq_true rfl) dX5_number_44
  · replace hq := lf_neg hq (lf_ne (lf_rf x_this_sort) (lf_lc 2 (2 : Int) rfl) c39)
    refine lv_aload_n hx hb dX5_number_8 rfl (lv_at hl 0 rfl) ?_
    refine lv_iconst (v := 1) hx hb dX5_number_9 rfl ?_
    refine lv_aload_n hx hb dX5_number_10 rfl (lv_at hl 0 rfl) ?_
    refine k_get C0 fg_X5_15 hP 0 rfl rfl dX5_number_11 ?_
    refine k_jvm hP hD hS hA [0] [false, true] rfl rfl rfl 0 0 (Nat.le_of_ble_eq_true rfl) (Nat.le_of_ble_eq_true rfl) (fun hPc hDc => k_runV (As := [.int 1, .int x_this_at]) (rest := []) C0 hZ hS hA (s_X5_fail l dC dI cy sq a_this a_this_text x_this_length x_this_at x_this_behind x_this_sort x_this_allowed a_this_plan x_this_fault x_this_place 1 x_this_at ) mV_X5_78 hPc hDc rfl rfl rfl hl rfl rfl (Nat.le_of_ble_eq_true rfl) ⟨(Nat.le_of_ble_eq_true rfl), (Nat.le_of_ble_eq_true rfl)⟩ ⟨(Nat.le_of_ble_eq_true rfl), (Nat.le_of_ble_eq_true rfl)⟩ dX5_number_14) (fun u60 H locs hw hP hD hS => ?_)
    obtain ⟨v61, v62⟩ := u60
    try dsimp only at hP hD hw
    replace hP : va_P (dC, dI) vwCl [(wi_0_1600_0 a_this_text cy g_this_text), (wo_5_riiiiirii a_this a_this_text x_this_length x_this_length x_this_length 0 x_this_allowed a_this_plan v61 v62)] H := hP
    replace hD := k_D hP hD
    have h63 := hw
    have h63 := by have h9 := h63; try simp only [show (1 : Int32).toInt = (1 : Int) from rfl] at h9; exact h9
    replace hq := lf_p1 hq h63
    refine lv_iload_n hx hb dX5_number_17 rfl (lv_at hl 1 rfl) ?_
    subst hQ; exact k_iret hx hb hr hlk rfl ((x_this_length, x_this_length, 0, v61, v62)) hS ⟨ib_w 0 99 (ib_c 0 0 0 rfl) rfl, ib_w 0 1600 hx_this_length rfl, ib_w 0 1600 hx_this_length rfl, ib_w 0 4 (ib_c 0 0 0 rfl) rfl, fun hq9 => absurd rfl hq9, (hO.symm.trans (by try simp only [show (0 : Int32).toInt = (0 : Int) from rfl]; exact hq))⟩ (hP.sub [1, 0] rfl) (hD.sub [1, 0] rfl rfl) (Nat.le_of_ble_eq_true rfl) (Nat.le_of_ble_eq_true rfl) dX5_number_18
set_option maxHeartbeats 4000000 in
set_option maxRecDepth 100000 in
theorem s_X5_numberBehind_a1_0_a2_99_s6 (l : Launch) (dC : Nat → ClassId) (dI : Nat → Nat → Nat) (cy : Nat → ClassId) (sq : Nat → Nat) (a_this : Nat) (a_this_text : Nat) (g_this_text : Nat → Int32) (x_this_length : Int32) (x_this_at : Int32) (x_this_behind : Int32) (x_this_sort : Int32) (x_this_allowed : Int32) (a_this_plan : Nat) (x_this_fault : Int32) (x_this_place : Int32) (hg_this_text : ia g_this_text 1600 0 255) (hx_this_length : ib x_this_length 0 1600) (hx_this_at : ib x_this_at 0 1600) (hx_this_behind : ib x_this_behind 0 1600) (hx_this_sort : ib x_this_sort 0 4) (hc0_this : ¬ x_this_sort = 0 → ib x_this_at 0 1599) : k_Met l yX5_numberBehind cX5_numberBehind 4 (some .int) { frames := 6, cells := 0, slots := 0, locals := 187 } dC dI cy sq [.ref a_this, .ref (sq 6), .int 0, .int 99] [(wo_5_riiiiirii a_this a_this_text x_this_length x_this_at x_this_behind x_this_sort x_this_allowed a_this_plan x_this_fault x_this_place), (wi_0_1600_0 a_this_text cy g_this_text)] (k_Qi dC dI (fun (r : Int32) (u : Int32 × Int32 × Int32 × Int32 × Int32) => match u with | (n0, n1, n2, n3, n4) => ib r 0 99 ∧ ib n0 0 1600 ∧ ib n1 0 1600 ∧ ib n2 0 4 ∧ (¬ n2 = 0 → ib n0 0 1599) ∧ (F_X5_numberBehind_a1_0_a2_99_s6 (lf_A g_this_text) (Int32.toInt x_this_length) (Int32.toInt x_this_at) (Int32.toInt x_this_behind) (Int32.toInt x_this_sort) (Int32.toInt x_this_fault) (Int32.toInt x_this_place) = ((Int32.toInt r), (Int32.toInt n0), (Int32.toInt n1), (Int32.toInt n2), (Int32.toInt n3), (Int32.toInt n4)))) (fun u : Int32 × Int32 × Int32 × Int32 × Int32 => match u with | (n0, n1, n2, n3, n4) => [(wo_5_riiiiirii a_this a_this_text x_this_length n0 n1 n2 x_this_allowed a_this_plan n3 n4), (wi_0_1600_0 a_this_text cy g_this_text)])) := by
  refine k_ofW2 (by decide +kernel) (Nat.le_of_ble_eq_true rfl) ?_
  intro p e s m below meth c A ls H locs args Q hQ C0 hZ hr hlk hin hP hD hA hS hl
  have C0 : k_cx p s m args c cX5_numberBehind 4 RX5 dC dI cy sq := C0
  have hx := C0.1
  have hb := C0.2.1
  have hl : lv_has ls 4 [(0, .ref a_this), (1, .ref (sq 6)), (2, .int 0), (3, .int 99)] := hl
  obtain ⟨O, hO⟩ : ∃ o, o = F_X5_numberBehind_a1_0_a2_99_s6 (lf_A g_this_text) (Int32.toInt x_this_length) (Int32.toInt x_this_at) (Int32.toInt x_this_behind) (Int32.toInt x_this_sort) (Int32.toInt x_this_fault) (Int32.toInt x_this_place) := ⟨_, rfl⟩
  have hq := hO
  unfold F_X5_numberBehind_a1_0_a2_99_s6 at hq
  refine lv_aload_n hx hb dX5_numberBehind_0 rfl (lv_at hl 0 rfl) ?_
  refine lv_aload_n hx hb dX5_numberBehind_1 rfl (lv_at hl 1 rfl) ?_
  refine k_jvm hP hD hS hA [0, 1] [] rfl rfl rfl 0 0 (Nat.le_of_ble_eq_true rfl) (Nat.le_of_ble_eq_true rfl) (fun hPc hDc => k_runV (As := [.ref (sq 6)]) (rest := []) C0 hZ hS hA (s_X5_needWord_s6 l dC dI cy sq a_this a_this_text g_this_text x_this_length x_this_at x_this_behind x_this_sort x_this_allowed a_this_plan x_this_fault x_this_place hg_this_text (ib_w 0 1600 hx_this_length rfl) (ib_w 0 1600 hx_this_at rfl) (ib_w 0 1600 hx_this_behind rfl) (ib_w 0 4 hx_this_sort rfl) (fun hq9 => ib_w 0 1599 (hc0_this hq9) rfl)) mV_X5_144 hPc hDc rfl rfl rfl hl rfl rfl (Nat.le_of_ble_eq_true rfl) ⟨(Nat.le_of_ble_eq_true rfl), (Nat.le_of_ble_eq_true rfl)⟩ ⟨(Nat.le_of_ble_eq_true rfl), (Nat.le_of_ble_eq_true rfl)⟩ dX5_numberBehind_2) (fun u2 H locs hw hP hD hS => ?_)
  obtain ⟨v3, v4, v5, v6, v7⟩ := u2
  try dsimp only at hP hD hw
  replace hP : va_P (dC, dI) vwCl [(wo_5_riiiiirii a_this a_this_text x_this_length v3 v4 v5 x_this_allowed a_this_plan v6 v7), (wi_0_1600_0 a_this_text cy g_this_text)] H := hP
  replace hD := k_D hP hD
  obtain ⟨h8, h9, h10, h11, h12⟩ := hw
  replace hq := lf_p1 hq h12
  replace hq := lf_p1 hq rfl
  replace hq := lf_p1 hq rfl
  replace hq := lf_p1 hq rfl
  refine lv_aload_n hx hb dX5_numberBehind_5 rfl (lv_at hl 0 rfl) ?_
  refine lv_iload_n hx hb dX5_numberBehind_6 rfl (lv_at hl 2 rfl) ?_
  refine lv_iload_n hx hb dX5_numberBehind_7 rfl (lv_at hl 3 rfl) ?_
  refine k_jim hP hD hS hA [0, 1] [] rfl rfl rfl 0 0 (Nat.le_of_ble_eq_true rfl) (Nat.le_of_ble_eq_true rfl) (fun hPc hDc => k_runV (As := [.int 0, .int 99]) (rest := []) C0 hZ hS hA (s_X5_number_a0_0_a1_99 l dC dI cy sq a_this a_this_text g_this_text x_this_length v3 v4 v5 x_this_allowed a_this_plan v6 v7 hg_this_text (ib_w 0 1600 hx_this_length rfl) (ib_w 0 1600 h8 rfl) (ib_w 0 1600 h9 rfl) (ib_w 0 4 h10 rfl) (fun hq9 => ib_w 0 1599 (h11 hq9) rfl)) mV_X5_168 hPc hDc rfl rfl rfl hl rfl rfl (Nat.le_of_ble_eq_true rfl) ⟨(Nat.le_of_ble_eq_true rfl), (Nat.le_of_ble_eq_true rfl)⟩ ⟨(Nat.le_of_ble_eq_true rfl), (Nat.le_of_ble_eq_true rfl)⟩ dX5_numberBehind_8) (fun r13 u14 H locs hw hP hD hS => ?_)
  obtain ⟨v15, v16, v17, v18, v19⟩ := u14
  try dsimp only at hP hD hw
  replace hP : va_P (dC, dI) vwCl [(wo_5_riiiiirii a_this a_this_text x_this_length v15 v16 v17 x_this_allowed a_this_plan v18 v19), (wi_0_1600_0 a_this_text cy g_this_text)] H := hP
  replace hD := k_D hP hD
  obtain ⟨h20, h21, h22, h23, h24, h25⟩ := hw
  replace hq := lf_p1 hq h25
  replace hq := lf_p1 hq rfl
  replace hq := lf_p1 hq rfl
  replace hq := lf_p1 hq rfl
  replace hq := lf_p1 hq rfl
  subst hQ; exact k_iret hx hb hr hlk rfl ((v15, v16, v17, v18, v19)) hS ⟨ib_w 0 99 h20 rfl, ib_w 0 1600 h21 rfl, ib_w 0 1600 h22 rfl, ib_w 0 4 h23 rfl, fun hq9 => ib_w 0 1599 (h24 hq9) rfl, (hO.symm.trans (by exact hq))⟩ hP hD (Nat.le_of_ble_eq_true rfl) (Nat.le_of_ble_eq_true rfl) dX5_numberBehind_11
set_option maxHeartbeats 4000000 in
set_option maxRecDepth 100000 in
theorem s_X5_firstStatement (l : Launch) (dC : Nat → ClassId) (dI : Nat → Nat → Nat) (cy : Nat → ClassId) (sq : Nat → Nat) (a_this : Nat) (a_this_text : Nat) (g_this_text : Nat → Int32) (x_this_length : Int32) (x_this_at : Int32) (x_this_behind : Int32) (x_this_sort : Int32) (x_this_allowed : Int32) (a_this_plan : Nat) (x_this_plan_cycle : Int32) (x_this_plan_green : Int32) (x_this_plan_rule : Int32) (x_this_plan_least : Int32) (x_this_plan_away : Int32) (x_this_plan_statements : Int32) (x_this_plan_kinds : Int32) (a_this_plan_calm : Nat) (a_this_plan_pace : Nat) (a_this_plan_trusts : Nat) (x_this_plan_walkers : Int32) (a_this_plan_kindOf : Nat) (a_this_plan_comesAt : Nat) (a_this_plan_comers : Nat) (a_this_plan_names : Nat) (a_this_plan_code : Nat) (x_this_plan_size : Int32) (a_this_plan_spans : Nat) (x_this_fault : Int32) (x_this_place : Int32) (hg_this_text : ia g_this_text 1600 0 255) (hx_this_length : ib x_this_length 0 1600) (hx_this_at : ib x_this_at 0 1600) (hx_this_behind : ib x_this_behind 0 1600) (hx_this_sort : ib x_this_sort 0 4) (hc0_this : ¬ x_this_sort = 0 → ib x_this_at 0 1599) : k_Met l yX5_firstStatement cX5_firstStatement 1 none { frames := 7, cells := 0, slots := 0, locals := 210 } dC dI cy sq [.ref a_this] [(wo_5_riiiiirii a_this a_this_text x_this_length x_this_at x_this_behind x_this_sort x_this_allowed a_this_plan x_this_fault x_this_place), (wi_0_1600_0 a_this_text cy g_this_text), (wo_4_iiiiiiirrrirrrrrir a_this_plan x_this_plan_cycle x_this_plan_green x_this_plan_rule x_this_plan_least x_this_plan_away x_this_plan_statements x_this_plan_kinds a_this_plan_calm a_this_plan_pace a_this_plan_trusts x_this_plan_walkers a_this_plan_kindOf a_this_plan_comesAt a_this_plan_comers a_this_plan_names a_this_plan_code x_this_plan_size a_this_plan_spans)] (k_Qv dC dI (fun (u : Int32 × Int32 × Int32 × Int32 × Int32 × Int32 × Int32 × Int32 × Int32) => match u with | (n0, n1, n2, n3, n4, n5, n6, n7, n8) => ib n0 0 1600 ∧ ib n1 0 1600 ∧ ib n2 0 4 ∧ ib n5 10 120 ∧ ib n6 1 2147483647 ∧ ib n7 0 2 ∧ ib n8 0 99 ∧ (¬ n2 = 0 → ib n0 0 1599) ∧ (F_X5_firstStatement (lf_A g_this_text) (Int32.toInt x_this_length) (Int32.toInt x_this_at) (Int32.toInt x_this_behind) (Int32.toInt x_this_sort) (Int32.toInt x_this_fault) (Int32.toInt x_this_place) = ((Int32.toInt n0), (Int32.toInt n1), (Int32.toInt n2), (Int32.toInt n3), (Int32.toInt n4), (Int32.toInt n5), (Int32.toInt n6), (Int32.toInt n7), (Int32.toInt n8)))) (fun u : Int32 × Int32 × Int32 × Int32 × Int32 × Int32 × Int32 × Int32 × Int32 => match u with | (n0, n1, n2, n3, n4, n5, n6, n7, n8) => [(wo_5_riiiiirii a_this a_this_text x_this_length n0 n1 n2 x_this_allowed a_this_plan n3 n4), (wi_0_1600_0 a_this_text cy g_this_text), (wo_4_iiiiiiirrrirrrrrir a_this_plan n5 n6 n7 n8 x_this_plan_away x_this_plan_statements x_this_plan_kinds a_this_plan_calm a_this_plan_pace a_this_plan_trusts x_this_plan_walkers a_this_plan_kindOf a_this_plan_comesAt a_this_plan_comers a_this_plan_names a_this_plan_code x_this_plan_size a_this_plan_spans)])) := by
  refine k_ofW2 (by decide +kernel) (Nat.le_of_ble_eq_true rfl) ?_
  intro p e s m below meth c A ls H locs args Q hQ C0 hZ hr hlk hin hP hD hA hS hl
  have C0 : k_cx p s m args c cX5_firstStatement 1 RX5 dC dI cy sq := C0
  have hx := C0.1
  have hb := C0.2.1
  have hl : lv_has ls 1 [(0, .ref a_this)] := hl
  obtain ⟨O, hO⟩ : ∃ o, o = F_X5_firstStatement (lf_A g_this_text) (Int32.toInt x_this_length) (Int32.toInt x_this_at) (Int32.toInt x_this_behind) (Int32.toInt x_this_sort) (Int32.toInt x_this_fault) (Int32.toInt x_this_place) := ⟨_, rfl⟩
  have hq := hO
  unfold F_X5_firstStatement at hq
  refine lv_aload_n hx hb dX5_firstStatement_0 rfl (lv_at hl 0 rfl) ?_
  refine k_get C0 fg_X5_37 hP 0 rfl rfl dX5_firstStatement_1 ?_
  refine lv_aload_n hx hb dX5_firstStatement_4 rfl (lv_at hl 0 rfl) ?_
  refine va_ldcS hx hb C0.2.2.2.1 (C0.2.2.2.2.2.2.2.2.2.2.2.2 3 (by decide)) dX5_firstStatement_5 ?_
  refine lv_bipush (v := 10) hx hb dX5_firstStatement_7 rfl ?_
  refine lv_bipush (v := 120) hx hb dX5_firstStatement_9 rfl ?_
  refine k_jim hP hD hS hA [0, 1] [false, false, true] rfl rfl rfl 0 0 (Nat.le_of_ble_eq_true rfl) (Nat.le_of_ble_eq_true rfl) (fun hPc hDc => k_runV (As := [.ref (sq 3), .int 10, .int 120]) (rest := [.ref a_this_plan]) C0 hZ hS hA (s_X5_numberBehind_a1_10_a2_120_s3 l dC dI cy sq a_this a_this_text g_this_text x_this_length x_this_at x_this_behind x_this_sort x_this_allowed a_this_plan x_this_fault x_this_place hg_this_text (ib_w 0 1600 hx_this_length rfl) (ib_w 0 1600 hx_this_at rfl) (ib_w 0 1600 hx_this_behind rfl) (ib_w 0 4 hx_this_sort rfl) (fun hq9 => ib_w 0 1599 (hc0_this hq9) rfl)) mV_X5_70 hPc hDc rfl rfl rfl hl rfl rfl (Nat.le_of_ble_eq_true rfl) ⟨(Nat.le_of_ble_eq_true rfl), (Nat.le_of_ble_eq_true rfl)⟩ ⟨(Nat.le_of_ble_eq_true rfl), (Nat.le_of_ble_eq_true rfl)⟩ dX5_firstStatement_11) (fun r1 u2 H locs hw hP hD hS => ?_)
  obtain ⟨v3, v4, v5, v6, v7⟩ := u2
  try dsimp only at hP hD hw
  replace hP : va_P (dC, dI) vwCl [(wo_4_iiiiiiirrrirrrrrir a_this_plan x_this_plan_cycle x_this_plan_green x_this_plan_rule x_this_plan_least x_this_plan_away x_this_plan_statements x_this_plan_kinds a_this_plan_calm a_this_plan_pace a_this_plan_trusts x_this_plan_walkers a_this_plan_kindOf a_this_plan_comesAt a_this_plan_comers a_this_plan_names a_this_plan_code x_this_plan_size a_this_plan_spans), (wo_5_riiiiirii a_this a_this_text x_this_length v3 v4 v5 x_this_allowed a_this_plan v6 v7), (wi_0_1600_0 a_this_text cy g_this_text)] H := hP
  replace hD := k_D hP hD
  obtain ⟨h8, h9, h10, h11, h12, h13⟩ := hw
  replace hq := lf_p1 hq h13
  replace hq := lf_p1 hq rfl
  replace hq := lf_p1 hq rfl
  replace hq := lf_p1 hq rfl
  replace hq := lf_p1 hq rfl
  refine k_put C0 fp_X5_107 hP hD hS 0 rfl rfl rfl (Nat.le_of_ble_eq_true rfl) dX5_firstStatement_14 (fun H locs hP hD hS => ?_)
  replace hP : va_P (dC, dI) vwCl [(wo_4_iiiiiiirrrirrrrrir a_this_plan r1 x_this_plan_green x_this_plan_rule x_this_plan_least x_this_plan_away x_this_plan_statements x_this_plan_kinds a_this_plan_calm a_this_plan_pace a_this_plan_trusts x_this_plan_walkers a_this_plan_kindOf a_this_plan_comesAt a_this_plan_comers a_this_plan_names a_this_plan_code x_this_plan_size a_this_plan_spans), (wo_5_riiiiirii a_this a_this_text x_this_length v3 v4 v5 x_this_allowed a_this_plan v6 v7), (wi_0_1600_0 a_this_text cy g_this_text)] H := hP
  replace hD := k_D hP hD
  refine lv_aload_n hx hb dX5_firstStatement_17 rfl (lv_at hl 0 rfl) ?_
  as_aux_lemma =>
    refine k_get C0 fg_X5_37 hP 1 rfl rfl dX5_firstStatement_18 ?_
    refine lv_aload_n hx hb dX5_firstStatement_21 rfl (lv_at hl 0 rfl) ?_
    refine va_ldcS hx hb C0.2.2.2.1 (C0.2.2.2.2.2.2.2.2.2.2.2.2 4 (by decide)) dX5_firstStatement_22 ?_
    refine lv_iconst (v := 1) hx hb dX5_firstStatement_24 rfl ?_
    refine lv_bipush (v := 60) hx hb dX5_firstStatement_25 rfl ?_
    refine lv_aload_n hx hb dX5_firstStatement_27 rfl (lv_at hl 0 rfl) ?_
    refine k_get C0 fg_X5_37 hP 1 rfl rfl dX5_firstStatement_28 ?_
    refine k_get C0 fg_X5_107 hP 0 rfl rfl dX5_firstStatement_31 ?_
    refine lv_iconst (v := 1) hx hb dX5_firstStatement_34 rfl ?_
    refine lv_isub hx hb dX5_firstStatement_35 ?_
    refine lv_topi (fun z14 ez14 => ?_)
    have h15 := ib_sub h8 (ib_c 1 1 1 rfl) rfl
    rw [← ez14] at h15
    have h16 : ib z14 9 119 := ib_w 9 119 h15.1 rfl
    have Ez14 := lf_sub h15.2 (lf_rf r1) (lf_lc 1 (1 : Int) rfl)
    refine va_mmin hx hb (by rw [C0.2.2.1]; exact hl.1.symm) C0.2.2.2.1 (C0.2.2.2.2.1 _ wd297) (C0.2.2.2.2.1 _ wd298) (C0.2.2.2.2.1 _ wd299) (C0.2.2.2.2.1 _ wd300) (Nat.le_of_ble_eq_true rfl) (Nat.le_of_ble_eq_true rfl) (Nat.le_of_ble_eq_true rfl) (Nat.le_of_ble_eq_true rfl) dX5_firstStatement_36 ?_
    refine lv_topi (fun z17 ez17 => ?_)
    have h18 : ib z17 9 60 := by rw [ez17]; exact ib_w 9 60 (ib_min (ib_c 60 60 60 rfl) h16) rfl
    have Ez17 := lf_min ez17 (lf_lc 60 (60 : Int) rfl) Ez14
    refine k_jim hP hD hS hA [1, 2] [true] rfl rfl rfl 0 0 (Nat.le_of_ble_eq_true rfl) (Nat.le_of_ble_eq_true rfl) (fun hPc hDc => k_runV (As := [.ref (sq 4), .int 1, .int z17]) (rest := [.ref a_this_plan]) C0 hZ hS hA (s_X5_numberBehind_a1_1_s4 l dC dI cy sq a_this a_this_text g_this_text x_this_length v3 v4 v5 x_this_allowed a_this_plan v6 v7 z17 hg_this_text (ib_w 0 1600 hx_this_length rfl) (ib_w 0 1600 h9 rfl) (ib_w 0 1600 h10 rfl) (ib_w 0 4 h11 rfl) (fun hq9 => ib_w 0 1599 (h12 hq9) rfl)) mV_X5_70 hPc hDc rfl rfl rfl hl rfl rfl (Nat.le_of_ble_eq_true rfl) ⟨(Nat.le_of_ble_eq_true rfl), (Nat.le_of_ble_eq_true rfl)⟩ ⟨(Nat.le_of_ble_eq_true rfl), (Nat.le_of_ble_eq_true rfl)⟩ dX5_firstStatement_39) (fun r19 u20 H locs hw hP hD hS => ?_)
    obtain ⟨v21, v22, v23, v24, v25⟩ := u20
    try dsimp only at hP hD hw
    replace hP : va_P (dC, dI) vwCl [(wo_4_iiiiiiirrrirrrrrir a_this_plan r1 x_this_plan_green x_this_plan_rule x_this_plan_least x_this_plan_away x_this_plan_statements x_this_plan_kinds a_this_plan_calm a_this_plan_pace a_this_plan_trusts x_this_plan_walkers a_this_plan_kindOf a_this_plan_comesAt a_this_plan_comers a_this_plan_names a_this_plan_code x_this_plan_size a_this_plan_spans), (wo_5_riiiiirii a_this a_this_text x_this_length v21 v22 v23 x_this_allowed a_this_plan v24 v25), (wi_0_1600_0 a_this_text cy g_this_text)] H := hP
    replace hD := k_D hP hD
    obtain ⟨h26, h27, h28, h29, h30, h31⟩ := hw
    have h31 := by have h9 := h31; rw [lf_u Ez17] at h9; exact h9
    replace hq := lf_p1 hq h31
    replace hq := lf_p1 hq rfl
    replace hq := lf_p1 hq rfl
    replace hq := lf_p1 hq rfl
    as_aux_lemma =>
      replace hq := lf_p1 hq rfl
      refine k_put C0 fp_X5_111 hP hD hS 0 rfl rfl rfl (Nat.le_of_ble_eq_true rfl) dX5_firstStatement_42 (fun H locs hP hD hS => ?_)
      replace hP : va_P (dC, dI) vwCl [(wo_4_iiiiiiirrrirrrrrir a_this_plan r1 r19 x_this_plan_rule x_this_plan_least x_this_plan_away x_this_plan_statements x_this_plan_kinds a_this_plan_calm a_this_plan_pace a_this_plan_trusts x_this_plan_walkers a_this_plan_kindOf a_this_plan_comesAt a_this_plan_comers a_this_plan_names a_this_plan_code x_this_plan_size a_this_plan_spans), (wo_5_riiiiirii a_this a_this_text x_this_length v21 v22 v23 x_this_allowed a_this_plan v24 v25), (wi_0_1600_0 a_this_text cy g_this_text)] H := hP
      replace hD := k_D hP hD
      refine lv_aload_n hx hb dX5_firstStatement_45 rfl (lv_at hl 0 rfl) ?_
      refine k_get C0 fg_X5_37 hP 1 rfl rfl dX5_firstStatement_46 ?_
      refine lv_aload_n hx hb dX5_firstStatement_49 rfl (lv_at hl 0 rfl) ?_
      refine va_ldcS hx hb C0.2.2.2.1 (C0.2.2.2.2.2.2.2.2.2.2.2.2 5 (by decide)) dX5_firstStatement_50 ?_
      refine lv_iconst (v := 0) hx hb dX5_firstStatement_52 rfl ?_
      refine lv_iconst (v := 2) hx hb dX5_firstStatement_53 rfl ?_
      refine k_jim hP hD hS hA [1, 2] [true] rfl rfl rfl 0 0 (Nat.le_of_ble_eq_true rfl) (Nat.le_of_ble_eq_true rfl) (fun hPc hDc => k_runV (As := [.ref (sq 5), .int 0, .int 2]) (rest := [.ref a_this_plan]) C0 hZ hS hA (s_X5_numberBehind_a1_0_a2_2_s5 l dC dI cy sq a_this a_this_text g_this_text x_this_length v21 v22 v23 x_this_allowed a_this_plan v24 v25 hg_this_text (ib_w 0 1600 hx_this_length rfl) (ib_w 0 1600 h27 rfl) (ib_w 0 1600 h28 rfl) (ib_w 0 4 h29 rfl) (fun hq9 => ib_w 0 1599 (h30 hq9) rfl)) mV_X5_70 hPc hDc rfl rfl rfl hl rfl rfl (Nat.le_of_ble_eq_true rfl) ⟨(Nat.le_of_ble_eq_true rfl), (Nat.le_of_ble_eq_true rfl)⟩ ⟨(Nat.le_of_ble_eq_true rfl), (Nat.le_of_ble_eq_true rfl)⟩ dX5_firstStatement_54) (fun r32 u33 H locs hw hP hD hS => ?_)
      obtain ⟨v34, v35, v36, v37, v38⟩ := u33
      try dsimp only at hP hD hw
      replace hP : va_P (dC, dI) vwCl [(wo_4_iiiiiiirrrirrrrrir a_this_plan r1 r19 x_this_plan_rule x_this_plan_least x_this_plan_away x_this_plan_statements x_this_plan_kinds a_this_plan_calm a_this_plan_pace a_this_plan_trusts x_this_plan_walkers a_this_plan_kindOf a_this_plan_comesAt a_this_plan_comers a_this_plan_names a_this_plan_code x_this_plan_size a_this_plan_spans), (wo_5_riiiiirii a_this a_this_text x_this_length v34 v35 v36 x_this_allowed a_this_plan v37 v38), (wi_0_1600_0 a_this_text cy g_this_text)] H := hP
      replace hD := k_D hP hD
      obtain ⟨h39, h40, h41, h42, h43, h44⟩ := hw
      replace hq := lf_p1 hq h44
      replace hq := lf_p1 hq rfl
      replace hq := lf_p1 hq rfl
      replace hq := lf_p1 hq rfl
      replace hq := lf_p1 hq rfl
      refine k_put C0 fp_X5_115 hP hD hS 0 rfl rfl rfl (Nat.le_of_ble_eq_true rfl) dX5_firstStatement_57 (fun H locs hP hD hS => ?_)
      replace hP : va_P (dC, dI) vwCl [(wo_4_iiiiiiirrrirrrrrir a_this_plan r1 r19 r32 x_this_plan_least x_this_plan_away x_this_plan_statements x_this_plan_kinds a_this_plan_calm a_this_plan_pace a_this_plan_trusts x_this_plan_walkers a_this_plan_kindOf a_this_plan_comesAt a_this_plan_comers a_this_plan_names a_this_plan_code x_this_plan_size a_this_plan_spans), (wo_5_riiiiirii a_this a_this_text x_this_length v34 v35 v36 x_this_allowed a_this_plan v37 v38), (wi_0_1600_0 a_this_text cy g_this_text)] H := hP
      replace hD := k_D hP hD
      refine lv_aload_n hx hb dX5_firstStatement_60 rfl (lv_at hl 0 rfl) ?_
      refine k_get C0 fg_X5_37 hP 1 rfl rfl dX5_firstStatement_61 ?_
      refine lv_aload_n hx hb dX5_firstStatement_64 rfl (lv_at hl 0 rfl) ?_
      refine va_ldcS hx hb C0.2.2.2.1 (C0.2.2.2.2.2.2.2.2.2.2.2.2 6 (by decide)) dX5_firstStatement_65 ?_
      refine lv_iconst (v := 0) hx hb dX5_firstStatement_67 rfl ?_
      refine lv_bipush (v := 99) hx hb dX5_firstStatement_68 rfl ?_
      refine k_jim hP hD hS hA [1, 2] [true] rfl rfl rfl 0 0 (Nat.le_of_ble_eq_true rfl) (Nat.le_of_ble_eq_true rfl) (fun hPc hDc => k_runV (As := [.ref (sq 6), .int 0, .int 99]) (rest := [.ref a_this_plan]) C0 hZ hS hA (s_X5_numberBehind_a1_0_a2_99_s6 l dC dI cy sq a_this a_this_text g_this_text x_this_length v34 v35 v36 x_this_allowed a_this_plan v37 v38 hg_this_text (ib_w 0 1600 hx_this_length rfl) (ib_w 0 1600 h40 rfl) (ib_w 0 1600 h41 rfl) (ib_w 0 4 h42 rfl) (fun hq9 => ib_w 0 1599 (h43 hq9) rfl)) mV_X5_70 hPc hDc rfl rfl rfl hl rfl rfl (Nat.le_of_ble_eq_true rfl) ⟨(Nat.le_of_ble_eq_true rfl), (Nat.le_of_ble_eq_true rfl)⟩ ⟨(Nat.le_of_ble_eq_true rfl), (Nat.le_of_ble_eq_true rfl)⟩ dX5_firstStatement_70) (fun r45 u46 H locs hw hP hD hS => ?_)
      obtain ⟨v47, v48, v49, v50, v51⟩ := u46
      try dsimp only at hP hD hw
      replace hP : va_P (dC, dI) vwCl [(wo_4_iiiiiiirrrirrrrrir a_this_plan r1 r19 r32 x_this_plan_least x_this_plan_away x_this_plan_statements x_this_plan_kinds a_this_plan_calm a_this_plan_pace a_this_plan_trusts x_this_plan_walkers a_this_plan_kindOf a_this_plan_comesAt a_this_plan_comers a_this_plan_names a_this_plan_code x_this_plan_size a_this_plan_spans), (wo_5_riiiiirii a_this a_this_text x_this_length v47 v48 v49 x_this_allowed a_this_plan v50 v51), (wi_0_1600_0 a_this_text cy g_this_text)] H := hP
      replace hD := k_D hP hD
      obtain ⟨h52, h53, h54, h55, h56, h57⟩ := hw
      replace hq := lf_p1 hq h57
      replace hq := lf_p1 hq rfl
      replace hq := lf_p1 hq rfl
      replace hq := lf_p1 hq rfl
      replace hq := lf_p1 hq rfl
      refine k_put C0 fp_X5_119 hP hD hS 0 rfl rfl rfl (Nat.le_of_ble_eq_true rfl) dX5_firstStatement_73 (fun H locs hP hD hS => ?_)
      replace hP : va_P (dC, dI) vwCl [(wo_4_iiiiiiirrrirrrrrir a_this_plan r1 r19 r32 r45 x_this_plan_away x_this_plan_statements x_this_plan_kinds a_this_plan_calm a_this_plan_pace a_this_plan_trusts x_this_plan_walkers a_this_plan_kindOf a_this_plan_comesAt a_this_plan_comers a_this_plan_names a_this_plan_code x_this_plan_size a_this_plan_spans), (wo_5_riiiiirii a_this a_this_text x_this_length v47 v48 v49 x_this_allowed a_this_plan v50 v51), (wi_0_1600_0 a_this_text cy g_this_text)] H := hP
      replace hD := k_D hP hD
      subst hQ; exact k_vret hx hb hr hlk ((v47, v48, v49, v50, v51, r1, r19, r32, r45)) hS ⟨ib_w 0 1600 h53 rfl, ib_w 0 1600 h54 rfl, ib_w 0 4 h55 rfl, ib_w 10 120 h8 rfl, ib_w 1 2147483647 h26 rfl, ib_w 0 2 h39 rfl, ib_w 0 99 h52 rfl, fun hq9 => ib_w 0 1599 (h56 hq9) rfl, (hO.symm.trans (by exact hq))⟩ (hP.sub [1, 2, 0] rfl) (hD.sub [1, 2, 0] rfl rfl) (Nat.le_of_ble_eq_true rfl) (Nat.le_of_ble_eq_true rfl) dX5_firstStatement_76
set_option maxHeartbeats 4000000 in
set_option maxRecDepth 100000 in
theorem s_X5_wordIn_s7 (l : Launch) (dC : Nat → ClassId) (dI : Nat → Nat → Nat) (cy : Nat → ClassId) (sq : Nat → Nat) (a_this : Nat) (a_this_text : Nat) (g_this_text : Nat → Int32) (x_this_length : Int32) (x_this_at : Int32) (x_this_behind : Int32) (x_this_sort : Int32) (x_this_allowed : Int32) (a_this_plan : Nat) (x_this_fault : Int32) (x_this_place : Int32) (hg_this_text : ia g_this_text 1600 0 255) (hx_this_at : ib x_this_at 0 1600) (hx_this_behind : ib x_this_behind 0 1600) (hx_this_sort : ib x_this_sort 0 4) (hc0_this : ¬ x_this_sort = 0 → ib x_this_at 0 1599) : k_Met l yX5_wordIn cX5_wordIn 6 (some .int) { frames := 4, cells := 0, slots := 0, locals := 141 } dC dI cy sq [.ref a_this, .ref (sq 7)] [(wo_5_riiiiirii a_this a_this_text x_this_length x_this_at x_this_behind x_this_sort x_this_allowed a_this_plan x_this_fault x_this_place), (wi_0_1600_0 a_this_text cy g_this_text)] (k_Qi dC dI (fun (r : Int32) (_ : Unit) => (F_X5_wordIn_s7 (lf_A g_this_text) (Int32.toInt x_this_at) (Int32.toInt x_this_behind) (Int32.toInt x_this_sort) = ((Int32.toInt r)))) (fun _ : Unit => [(wo_5_riiiiirii a_this a_this_text x_this_length x_this_at x_this_behind x_this_sort x_this_allowed a_this_plan x_this_fault x_this_place), (wi_0_1600_0 a_this_text cy g_this_text)])) := by
  refine k_ofW2 (by decide +kernel) (Nat.le_of_ble_eq_true rfl) ?_
  intro p e s m below meth c A ls H locs args Q hQ C0 hZ hr hlk hin hP hD hA hS hl
  have C0 : k_cx p s m args c cX5_wordIn 6 RX5 dC dI cy sq := C0
  have hx := C0.1
  have hb := C0.2.1
  have hl : lv_has ls 6 [(0, .ref a_this), (1, .ref (sq 7))] := hl
  obtain ⟨O, hO⟩ : ∃ o, o = F_X5_wordIn_s7 (lf_A g_this_text) (Int32.toInt x_this_at) (Int32.toInt x_this_behind) (Int32.toInt x_this_sort) := ⟨_, rfl⟩
  have hq := hO
  unfold F_X5_wordIn_s7 at hq
  have jn23 : ∀ (n : Nat) (J23_l2 : Int32) (J23_l3 : Int32) (J23_l4 : Int32) (J23_l5 : Int32) (H : Heap) (locs : List Loc) (ls : Array Slot), ib x_this_at 0 1599 → ib x_this_sort 1 1 → ib J23_l3 0 1604 → ib J23_l4 0 1 → ib J23_l5 0 5 → (1 * J23_l3.toInt + (-1) * J23_l5.toInt ≤ 1600) → (O = F_X5_wordIn_s7_23 (lf_A g_this_text) (Int32.toInt x_this_at) (Int32.toInt x_this_behind) n (Int32.toInt J23_l2) (Int32.toInt J23_l3) (Int32.toInt J23_l4) (Int32.toInt J23_l5)) → 6 ≤ J23_l5.toInt + (n : Int) → va_P (dC, dI) vwCl [(wo_5_riiiiirii a_this a_this_text x_this_length x_this_at x_this_behind x_this_sort x_this_allowed a_this_plan x_this_fault x_this_place), (wi_0_1600_0 a_this_text cy g_this_text)] H → va_D A [(wo_5_riiiiirii a_this a_this_text x_this_length x_this_at x_this_behind x_this_sort x_this_allowed a_this_plan x_this_fault x_this_place), (wi_0_1600_0 a_this_text cy g_this_text)] → va_S A s.heap H locs → lv_has ls 6 [(0, .ref a_this), (1, .ref (sq 7)), (2, .int J23_l2), (3, .int J23_l3), (4, .int J23_l4), (5, .int J23_l5)] → W p l e { frames := 4, cells := 0, slots := 0, locals := 141 } s m args below meth c H locs 0 0 Q (F0 m 23 ls []) := by
    as_aux_lemma =>
      intro n
      induction n with
      | zero =>
        intro J23_l2 J23_l3 J23_l4 J23_l5 H locs ls hK23_x_this_at hK23_x_this_sort hJ23_l3 hJ23_l4 hJ23_l5 hJ23_lin0 hq hm
        exact absurd hm (by have := hJ23_l5; unfold ib at this; omega)
      | succ n ih =>
        intro J23_l2 J23_l3 J23_l4 J23_l5 H locs ls hK23_x_this_at hK23_x_this_sort hJ23_l3 hJ23_l4 hJ23_l5 hJ23_lin0 hq hm23 hP hD hS hl
        have ih23 := ih
        obtain ⟨K23, hK23⟩ : ∃ K, K = F_X5_wordIn_s7_23 (lf_A g_this_text) (Int32.toInt x_this_at) (Int32.toInt x_this_behind) n := ⟨_, rfl⟩
        have hq : O = F_X5_wordIn_s7_23b (lf_A g_this_text) (Int32.toInt x_this_at) (Int32.toInt x_this_behind) K23 (Int32.toInt J23_l2) (Int32.toInt J23_l3) (Int32.toInt J23_l4) (Int32.toInt J23_l5) := by rw [hK23]; exact hq
        unfold F_X5_wordIn_s7_23b at hq
        have jn119 : ∀ (J119_l2 : Int32) (J119_l3 : Int32) (J119_l4 : Int32) (H : Heap) (locs : List Loc) (ls : Array Slot), ib x_this_at 0 1599 → ib J23_l5 0 4 → ib x_this_sort 1 1 → ib J119_l3 0 1604 → ib J119_l4 0 1 → (1 * J119_l3.toInt + (-1) * J23_l5.toInt ≤ 1601) → (O = F_X5_wordIn_s7_119 (Int32.toInt J23_l5) K23 (Int32.toInt J119_l2) (Int32.toInt J119_l3) (Int32.toInt J119_l4)) → va_P (dC, dI) vwCl [(wo_5_riiiiirii a_this a_this_text x_this_length x_this_at x_this_behind x_this_sort x_this_allowed a_this_plan x_this_fault x_this_place), (wi_0_1600_0 a_this_text cy g_this_text)] H → va_D A [(wo_5_riiiiirii a_this a_this_text x_this_length x_this_at x_this_behind x_this_sort x_this_allowed a_this_plan x_this_fault x_this_place), (wi_0_1600_0 a_this_text cy g_this_text)] → va_S A s.heap H locs → lv_has ls 6 [(0, .ref a_this), (1, .ref (sq 7)), (2, .int J119_l2), (3, .int J119_l3), (4, .int J119_l4), (5, .int J23_l5)] → W p l e { frames := 4, cells := 0, slots := 0, locals := 141 } s m args below meth c H locs 0 0 Q (F0 m 119 ls []) := by
          intro J119_l2 J119_l3 J119_l4 H locs ls hK119_x_this_at hK119_J23_l5 hK119_x_this_sort hJ119_l3 hJ119_l4 hJ119_lin0 hq hP hD hS hl
          unfold F_X5_wordIn_s7_119 at hq
          obtain ⟨z1, ez1⟩ : ∃ y : Int32, y = J23_l5 + 1 := ⟨_, rfl⟩
          refine lv_iinc (v := z1) (lv' := [(5, .int z1), (0, .ref a_this), (1, .ref (sq 7)), (2, .int J119_l2), (3, .int J119_l3), (4, .int J119_l4)]) hx hb dX5_wordIn_119 hl (k := 5) rfl (by rw [ez1]; rfl) (Nat.le_of_ble_eq_true rfl) rfl (fun ls hl => ?_)
          have h2 := ib_add hK119_J23_l5 (ib_c 1 1 1 rfl) rfl
          rw [← ez1] at h2
          have h3 : ib z1 1 5 := ib_w 1 5 h2.1 rfl
          have Ez1 := lf_add h2.2 (lf_rf J23_l5) (lf_lc 1 (1 : Int) rfl)
          refine lv_goto (tgt := 23) hx hb dX5_wordIn_122 rfl ?_
          exact ih23 J119_l2 J119_l3 J119_l4 z1 H locs ls (ib_w 0 1599 hK119_x_this_at rfl) (ib_w 1 1 hK119_x_this_sort rfl) (ib_w 0 1604 hJ119_l3 rfl) (ib_w 0 1 hJ119_l4 rfl) (ib_w 0 5 h3 rfl) (by have := h2.2; have : (1 : Int32).toInt = 1 := rfl; have := hJ119_lin0; omega) (by rw [← hK23]; rw [lf_u Ez1]; exact hq) (by have := h2.2; have : (1 : Int32).toInt = 1 := rfl; omega) hP hD hS (lv_sub hl [1, 2, 3, 4, 5, 0] rfl)
        have jn114 : ∀ (J114_s0 : Int32) (H : Heap) (locs : List Loc) (ls : Array Slot), ib J23_l3 0 1603 → ib J23_l4 0 1 → ib J23_l5 0 3 → ib x_this_at 0 1599 → ib x_this_sort 1 1 → ib J114_s0 0 1 → (1 * J23_l3.toInt + (-1) * J23_l5.toInt ≤ 1600) → (O = F_X5_wordIn_s7_114 (Int32.toInt J23_l2) (Int32.toInt J23_l3) (Int32.toInt J23_l5) K23 (Int32.toInt J114_s0)) → va_P (dC, dI) vwCl [(wo_5_riiiiirii a_this a_this_text x_this_length x_this_at x_this_behind x_this_sort x_this_allowed a_this_plan x_this_fault x_this_place), (wi_0_1600_0 a_this_text cy g_this_text)] H → va_D A [(wo_5_riiiiirii a_this a_this_text x_this_length x_this_at x_this_behind x_this_sort x_this_allowed a_this_plan x_this_fault x_this_place), (wi_0_1600_0 a_this_text cy g_this_text)] → va_S A s.heap H locs → lv_has ls 6 [(0, .ref a_this), (1, .ref (sq 7)), (2, .int J23_l2), (3, .int J23_l3), (4, .int J23_l4), (5, .int J23_l5)] → W p l e { frames := 4, cells := 0, slots := 0, locals := 141 } s m args below meth c H locs 0 0 Q (F0 m 114 ls [.int J114_s0]) := by
          intro J114_s0 H locs ls hK114_J23_l3 hK114_J23_l4 hK114_J23_l5 hK114_x_this_at hK114_x_this_sort hJ114_s0 hJ114_lin0 hq hP hD hS hl
          unfold F_X5_wordIn_s7_114 at hq
          refine lv_istore (lv' := [(4, .int J114_s0), (0, .ref a_this), (1, .ref (sq 7)), (2, .int J23_l2), (3, .int J23_l3), (5, .int J23_l5)]) hx hb dX5_wordIn_114 hl (Nat.le_of_ble_eq_true rfl) rfl (fun ls hl => ?_)
          obtain ⟨z4, ez4⟩ : ∃ y : Int32, y = J23_l3 + 1 := ⟨_, rfl⟩
          refine lv_iinc (v := z4) (lv' := [(3, .int z4), (4, .int J114_s0), (0, .ref a_this), (1, .ref (sq 7)), (2, .int J23_l2), (5, .int J23_l5)]) hx hb dX5_wordIn_116 hl (k := 4) rfl (by rw [ez4]; rfl) (Nat.le_of_ble_eq_true rfl) rfl (fun ls hl => ?_)
          have h5 := ib_add hK114_J23_l3 (ib_c 1 1 1 rfl) rfl
          rw [← ez4] at h5
          have h6 : ib z4 1 1604 := ib_w 1 1604 h5.1 rfl
          have Ez4 := lf_add h5.2 (lf_rf J23_l3) (lf_lc 1 (1 : Int) rfl)
          exact jn119 J23_l2 z4 J114_s0 H locs ls (ib_w 0 1599 hK114_x_this_at rfl) (ib_w 0 4 hK114_J23_l5 rfl) (ib_w 1 1 hK114_x_this_sort rfl) (ib_w 0 1604 h6 rfl) (ib_w 0 1 hJ114_s0 rfl) (by have := (hK114_J23_l5).1; have := hJ23_lin0; have := (h6).2; have := h5.2; have : (1 : Int32).toInt = 1 := rfl; omega) (by rw [lf_u Ez4]; exact hq) hP hD hS (lv_sub hl [2, 3, 4, 0, 1, 5] rfl)
        have jn113 : ∀  (H : Heap) (locs : List Loc) (ls : Array Slot), ib J23_l3 0 1603 → ib J23_l4 0 1 → ib J23_l5 0 3 → ib x_this_at 0 1599 → ib x_this_sort 1 1 → (1 * J23_l3.toInt + (-1) * J23_l5.toInt ≤ 1600) → (O = F_X5_wordIn_s7_113 (Int32.toInt J23_l2) (Int32.toInt J23_l3) (Int32.toInt J23_l5) K23 ) → va_P (dC, dI) vwCl [(wo_5_riiiiirii a_this a_this_text x_this_length x_this_at x_this_behind x_this_sort x_this_allowed a_this_plan x_this_fault x_this_place), (wi_0_1600_0 a_this_text cy g_this_text)] H → va_D A [(wo_5_riiiiirii a_this a_this_text x_this_length x_this_at x_this_behind x_this_sort x_this_allowed a_this_plan x_this_fault x_this_place), (wi_0_1600_0 a_this_text cy g_this_text)] → va_S A s.heap H locs → lv_has ls 6 [(0, .ref a_this), (1, .ref (sq 7)), (2, .int J23_l2), (3, .int J23_l3), (4, .int J23_l4), (5, .int J23_l5)] → W p l e { frames := 4, cells := 0, slots := 0, locals := 141 } s m args below meth c H locs 0 0 Q (F0 m 113 ls []) := by
          intro H locs ls hK113_J23_l3 hK113_J23_l4 hK113_J23_l5 hK113_x_this_at hK113_x_this_sort hJ113_lin0 hq hP hD hS hl
          unfold F_X5_wordIn_s7_113 at hq
          refine lv_iconst (v := 0) hx hb dX5_wordIn_113 rfl ?_
          exact jn114 0 H locs ls (ib_w 0 1603 hK113_J23_l3 rfl) (ib_w 0 1 hK113_J23_l4 rfl) (ib_w 0 3 hK113_J23_l5 rfl) (ib_w 0 1599 hK113_x_this_at rfl) (ib_w 1 1 hK113_x_this_sort rfl) (ib_w 0 1 (ib_c 0 0 0 rfl) rfl) (by have := hJ23_lin0; omega) (by try simp only [show (0 : Int32).toInt = (0 : Int) from rfl]; exact hq) hP hD hS (lv_sub hl [0, 1, 2, 3, 4, 5] rfl)
        have jn67 : ∀  (H : Heap) (locs : List Loc) (ls : Array Slot), ib J23_l3 0 1604 → ib J23_l4 0 1 → ib J23_l5 0 4 → ib x_this_at 0 1599 → ib x_this_sort 1 1 → (O = F_X5_wordIn_s7_67 (Int32.toInt x_this_at) (Int32.toInt J23_l2) (Int32.toInt J23_l5) K23 ) → va_P (dC, dI) vwCl [(wo_5_riiiiirii a_this a_this_text x_this_length x_this_at x_this_behind x_this_sort x_this_allowed a_this_plan x_this_fault x_this_place), (wi_0_1600_0 a_this_text cy g_this_text)] H → va_D A [(wo_5_riiiiirii a_this a_this_text x_this_length x_this_at x_this_behind x_this_sort x_this_allowed a_this_plan x_this_fault x_this_place), (wi_0_1600_0 a_this_text cy g_this_text)] → va_S A s.heap H locs → lv_has ls 6 [(0, .ref a_this), (1, .ref (sq 7)), (2, .int J23_l2), (3, .int J23_l3), (4, .int J23_l4), (5, .int J23_l5)] → W p l e { frames := 4, cells := 0, slots := 0, locals := 141 } s m args below meth c H locs 0 0 Q (F0 m 67 ls []) := by
          intro H locs ls hK67_J23_l3 hK67_J23_l4 hK67_J23_l5 hK67_x_this_at hK67_x_this_sort hq hP hD hS hl
          unfold F_X5_wordIn_s7_67 at hq
          obtain ⟨z7, ez7⟩ : ∃ y : Int32, y = J23_l2 + 1 := ⟨_, rfl⟩
          refine lv_iinc (v := z7) (lv' := [(2, .int z7), (0, .ref a_this), (1, .ref (sq 7)), (3, .int J23_l3), (4, .int J23_l4), (5, .int J23_l5)]) hx hb dX5_wordIn_67 hl (k := 2) rfl (by rw [ez7]; rfl) (Nat.le_of_ble_eq_true rfl) rfl (fun ls hl => ?_)
          have Ez7 := lf_op lf_iadd ez7 (lf_rf J23_l2) (lf_lc 1 (1 : Int) rfl)
          refine lv_aload_n hx hb dX5_wordIn_70 rfl (lv_at hl 1 rfl) ?_
          refine k_get C0 fg_X5_15 hP 0 rfl rfl dX5_wordIn_71 ?_
          refine lv_istore_n (lv' := [(3, .int x_this_at), (2, .int z7), (0, .ref a_this), (1, .ref (sq 7)), (4, .int J23_l4), (5, .int J23_l5)]) hx hb dX5_wordIn_74 rfl hl (Nat.le_of_ble_eq_true rfl) rfl (fun ls hl => ?_)
          refine lv_iconst (v := 1) hx hb dX5_wordIn_75 rfl ?_
          refine lv_istore (lv' := [(4, .int 1), (3, .int x_this_at), (2, .int z7), (0, .ref a_this), (1, .ref (sq 7)), (5, .int J23_l5)]) hx hb dX5_wordIn_76 hl (Nat.le_of_ble_eq_true rfl) rfl (fun ls hl => ?_)
          refine lv_goto (tgt := 119) hx hb dX5_wordIn_78 rfl ?_
          exact jn119 z7 x_this_at 1 H locs ls (ib_w 0 1599 hK67_x_this_at rfl) (ib_w 0 4 hK67_J23_l5 rfl) (ib_w 1 1 hK67_x_this_sort rfl) (ib_w 0 1604 hK67_x_this_at rfl) (ib_w 0 1 (ib_c 1 1 1 rfl) rfl) (by have := (hK67_J23_l5).1; have := (hK67_x_this_at).2; omega) (by rw [lf_u Ez7]; try simp only [show (1 : Int32).toInt = (1 : Int) from rfl]; exact hq) hP hD hS (lv_sub hl [3, 4, 2, 1, 0, 5] rfl)
        have jn52 : ∀  (H : Heap) (locs : List Loc) (ls : Array Slot), ib J23_l3 0 1604 → ib J23_l4 0 1 → ib J23_l5 0 4 → ib x_this_at 0 1599 → ib x_this_sort 1 1 → (O = F_X5_wordIn_s7_52 (Int32.toInt x_this_at) (Int32.toInt x_this_behind) (Int32.toInt J23_l2) (Int32.toInt J23_l3) (Int32.toInt J23_l4) (Int32.toInt J23_l5) K23 ) → va_P (dC, dI) vwCl [(wo_5_riiiiirii a_this a_this_text x_this_length x_this_at x_this_behind x_this_sort x_this_allowed a_this_plan x_this_fault x_this_place), (wi_0_1600_0 a_this_text cy g_this_text)] H → va_D A [(wo_5_riiiiirii a_this a_this_text x_this_length x_this_at x_this_behind x_this_sort x_this_allowed a_this_plan x_this_fault x_this_place), (wi_0_1600_0 a_this_text cy g_this_text)] → va_S A s.heap H locs → lv_has ls 6 [(0, .ref a_this), (1, .ref (sq 7)), (2, .int J23_l2), (3, .int J23_l3), (4, .int J23_l4), (5, .int J23_l5)] → W p l e { frames := 4, cells := 0, slots := 0, locals := 141 } s m args below meth c H locs 0 0 Q (F0 m 52 ls []) := by
          as_aux_lemma =>
            intro H locs ls hK52_J23_l3 hK52_J23_l4 hK52_J23_l5 hK52_x_this_at hK52_x_this_sort hq hP hD hS hl
            unfold F_X5_wordIn_s7_52 at hq
            refine lv_iload hx hb dX5_wordIn_52 (lv_at hl 4 rfl) ?_
            refine lv_if_eq (tgt := 67) hx hb dX5_wordIn_54 rfl (fun c8 => ?_) (fun c8 => ?_)
            · replace hq := lf_pos hq (lf_eq (lf_rf J23_l4) (lf_lc 0 (0 : Int) rfl) c8)
              have h9 := ib_eq hK52_J23_l4 (ib_c 0 0 0 rfl) c8
              have h10 : ib J23_l4 0 0 := ib_w 0 0 h9.1 rfl
              exact jn67  H locs ls (ib_w 0 1604 hK52_J23_l3 rfl) (ib_w 0 1 h10 rfl) (ib_w 0 4 hK52_J23_l5 rfl) (ib_w 0 1599 hK52_x_this_at rfl) (ib_w 1 1 hK52_x_this_sort rfl) (by exact hq) hP hD hS (lv_sub hl [0, 1, 2, 3, 4, 5] rfl)
            · replace hq := lf_neg hq (lf_ne (lf_rf J23_l4) (lf_lc 0 (0 : Int) rfl) c8)
              have h11 : ib J23_l4 1 1 := ib_w 1 1 (ib_ne_lo 0 hK52_J23_l4 rfl c8) rfl
              refine lv_iload_n hx hb dX5_wordIn_57 rfl (lv_at hl 3 rfl) ?_
              refine lv_aload_n hx hb dX5_wordIn_58 rfl (lv_at hl 0 rfl) ?_
              refine k_get C0 fg_X5_18 hP 0 rfl rfl dX5_wordIn_59 ?_
              refine lv_icmp_ne (tgt := 67) hx hb dX5_wordIn_62 rfl (fun c12 => ?_) (fun c12 => ?_)
              · replace hq := lf_neg hq (lf_ne (lf_rf J23_l3) (lf_rf x_this_behind) c12)
                exact jn67  H locs ls (ib_w 0 1604 hK52_J23_l3 rfl) (ib_w 0 1 h11 rfl) (ib_w 0 4 hK52_J23_l5 rfl) (ib_w 0 1599 hK52_x_this_at rfl) (ib_w 1 1 hK52_x_this_sort rfl) (by exact hq) hP hD hS (lv_sub hl [0, 1, 2, 3, 4, 5] rfl)
              · replace hq := lf_pos hq (lf_eq (lf_rf J23_l3) (lf_rf x_this_behind) c12)
                have h13 := ib_eq hK52_J23_l3 hx_this_behind c12
                have h14 : ib J23_l3 0 1600 := ib_w 0 1600 h13.1 rfl
                refine lv_iload_n hx hb dX5_wordIn_65 rfl (lv_at hl 2 rfl) ?_
                subst hQ; exact k_iret hx hb hr hlk rfl () hS ((hO.symm.trans (by exact hq))) hP hD (Nat.le_of_ble_eq_true rfl) (Nat.le_of_ble_eq_true rfl) dX5_wordIn_66
        refine lv_iload hx hb dX5_wordIn_23 (lv_at hl 5 rfl) ?_
        refine lv_aload_n hx hb dX5_wordIn_25 rfl (lv_at hl 1 rfl) ?_
        refine k_jim hP hD hS hA [] [true, true] rfl rfl rfl 0 0 (Nat.le_of_ble_eq_true rfl) (Nat.le_of_ble_eq_true rfl) (fun hPc hDc => k_runVO (As := []) (rest := [.int J23_l5]) C0 hZ hS hA (c_length l dC dI cy sq 7 (by decide)) mV_X5_244 hPc hDc (vk_recv hZ.1 (by decide) hS) hl rfl rfl (Nat.le_of_ble_eq_true rfl) ⟨(Nat.le_of_ble_eq_true rfl), (Nat.le_of_ble_eq_true rfl)⟩ ⟨(Nat.le_of_ble_eq_true rfl), (Nat.le_of_ble_eq_true rfl)⟩ dX5_wordIn_26) (fun r15 u16 H locs hw hP hD hS => ?_)
        replace hP : va_P (dC, dI) vwCl [(wo_5_riiiiirii a_this a_this_text x_this_length x_this_at x_this_behind x_this_sort x_this_allowed a_this_plan x_this_fault x_this_place), (wi_0_1600_0 a_this_text cy g_this_text)] H := hP
        replace hD := k_D hP hD
        obtain rfl : r15 = 4 := hw.trans (by decide)
        refine lv_icmp_gt (tgt := 125) hx hb dX5_wordIn_29 rfl (fun c17 => ?_) (fun c17 => ?_)
        · replace hq := lf_pos hq (lf_lt (lf_lc 4 (4 : Int) rfl) (lf_rf J23_l5) c17)
          have h18 := ib_lt (ib_c 4 4 4 rfl) hJ23_l5 c17
          have h19 : ib J23_l5 5 5 := ib_w 5 5 h18.2 rfl
          refine lv_iconst (v := (-1)) hx hb dX5_wordIn_125 rfl ?_
          subst hQ; exact k_iret hx hb hr hlk rfl () hS ((hO.symm.trans (by try simp only [show ((-1) : Int32).toInt = (-1 : Int) from rfl]; exact hq))) hP hD (Nat.le_of_ble_eq_true rfl) (Nat.le_of_ble_eq_true rfl) dX5_wordIn_126
        · as_aux_lemma =>
            replace hq := lf_neg hq (lf_nlt (lf_lc 4 (4 : Int) rfl) (lf_rf J23_l5) c17)
            have h20 := ib_nlt (ib_c 4 4 4 rfl) hJ23_l5 c17
            have h21 : ib J23_l5 0 4 := ib_w 0 4 h20.2 rfl
            refine lv_iload hx hb dX5_wordIn_32 (lv_at hl 5 rfl) ?_
            refine lv_aload_n hx hb dX5_wordIn_34 rfl (lv_at hl 1 rfl) ?_
            refine k_jim hP hD hS hA [] [true, true] rfl rfl rfl 0 0 (Nat.le_of_ble_eq_true rfl) (Nat.le_of_ble_eq_true rfl) (fun hPc hDc => k_runVO (As := []) (rest := [.int J23_l5]) C0 hZ hS hA (c_length l dC dI cy sq 7 (by decide)) mV_X5_244 hPc hDc (vk_recv hZ.1 (by decide) hS) hl rfl rfl (Nat.le_of_ble_eq_true rfl) ⟨(Nat.le_of_ble_eq_true rfl), (Nat.le_of_ble_eq_true rfl)⟩ ⟨(Nat.le_of_ble_eq_true rfl), (Nat.le_of_ble_eq_true rfl)⟩ dX5_wordIn_35) (fun r22 u23 H locs hw hP hD hS => ?_)
            replace hP : va_P (dC, dI) vwCl [(wo_5_riiiiirii a_this a_this_text x_this_length x_this_at x_this_behind x_this_sort x_this_allowed a_this_plan x_this_fault x_this_place), (wi_0_1600_0 a_this_text cy g_this_text)] H := hP
            replace hD := k_D hP hD
            obtain rfl : r22 = 4 := hw.trans (by decide)
            refine lv_icmp_eq (tgt := 52) hx hb dX5_wordIn_38 rfl (fun c24 => ?_) (fun c24 => ?_)
            · replace hq := lf_pos hq (lf_eq (lf_rf J23_l5) (lf_lc 4 (4 : Int) rfl) c24)
              have h25 := ib_eq h21 (ib_c 4 4 4 rfl) c24
              have h26 : ib J23_l5 4 4 := ib_w 4 4 h25.1 rfl
              exact jn52  H locs ls (ib_w 0 1604 hJ23_l3 rfl) (ib_w 0 1 hJ23_l4 rfl) (ib_w 0 4 h26 rfl) (ib_w 0 1599 hK23_x_this_at rfl) (ib_w 1 1 hK23_x_this_sort rfl) (by exact hq) hP hD hS (lv_sub hl [0, 1, 2, 3, 4, 5] rfl)
            · as_aux_lemma =>
                replace hq := lf_neg hq (lf_ne (lf_rf J23_l5) (lf_lc 4 (4 : Int) rfl) c24)
                have h27 : ib J23_l5 0 3 := ib_w 0 3 (ib_ne_hi 4 h21 rfl c24) rfl
                refine lv_aload_n hx hb dX5_wordIn_41 rfl (lv_at hl 1 rfl) ?_
                refine lv_iload hx hb dX5_wordIn_42 (lv_at hl 5 rfl) ?_
                refine k_jim hP hD hS hA [] [true, true] rfl rfl rfl 0 0 (Nat.le_of_ble_eq_true rfl) (Nat.le_of_ble_eq_true rfl) (fun hPc hDc => k_runVO (As := [.int J23_l5]) (rest := []) C0 hZ hS hA (cx_charAt l dC dI cy sq 7 (by decide) J23_l5 (ib_ch 7 4 h27 rfl rfl).1 (ib_ch 7 4 h27 rfl rfl).2.1 (ib_ch 7 4 h27 rfl rfl).2.2) mV_X5_248 hPc hDc (vk_recv hZ.1 (by decide) hS) hl rfl rfl (Nat.le_of_ble_eq_true rfl) ⟨(Nat.le_of_ble_eq_true rfl), (Nat.le_of_ble_eq_true rfl)⟩ ⟨(Nat.le_of_ble_eq_true rfl), (Nat.le_of_ble_eq_true rfl)⟩ dX5_wordIn_44) (fun r28 u29 H locs hw hP hD hS => ?_)
                replace hP : va_P (dC, dI) vwCl [(wo_5_riiiiirii a_this a_this_text x_this_length x_this_at x_this_behind x_this_sort x_this_allowed a_this_plan x_this_fault x_this_place), (wi_0_1600_0 a_this_text cy g_this_text)] H := hP
                replace hD := k_D hP hD
                have Er28 := lf_cha (j := 7) hw (lf_rf J23_l5)
                refine lv_bipush (v := 32) hx hb dX5_wordIn_47 rfl ?_
                refine lv_icmp_ne (tgt := 81) hx hb dX5_wordIn_49 rfl (fun c30 => ?_) (fun c30 => ?_)
                · as_aux_lemma =>
                    replace hq := lf_neg hq (lf_ne Er28 (lf_lc 32 (32 : Int) rfl) c30)
                    refine lv_iload hx hb dX5_wordIn_81 (lv_at hl 4 rfl) ?_
                    refine lv_if_eq (tgt := 113) hx hb dX5_wordIn_83 rfl (fun c31 => ?_) (fun c31 => ?_)
                    · replace hq := lf_pos hq (lf_eq (lf_rf J23_l4) (lf_lc 0 (0 : Int) rfl) c31)
                      have h32 := ib_eq hJ23_l4 (ib_c 0 0 0 rfl) c31
                      have h33 : ib J23_l4 0 0 := ib_w 0 0 h32.1 rfl
                      have h34 : ib J23_l3 0 1603 := ⟨(hJ23_l3).1, by have := (hJ23_l3).2; have := hJ23_lin0; have := (h27).2; omega⟩
                      exact jn113  H locs ls (ib_w 0 1603 h34 rfl) (ib_w 0 1 h33 rfl) (ib_w 0 3 h27 rfl) (ib_w 0 1599 hK23_x_this_at rfl) (ib_w 1 1 hK23_x_this_sort rfl) (by have := hJ23_lin0; omega) (by exact hq) hP hD hS (lv_sub hl [0, 1, 2, 3, 4, 5] rfl)
                    · as_aux_lemma =>
                        replace hq := lf_neg hq (lf_ne (lf_rf J23_l4) (lf_lc 0 (0 : Int) rfl) c31)
                        have h35 : ib J23_l4 1 1 := ib_w 1 1 (ib_ne_lo 0 hJ23_l4 rfl c31) rfl
                        refine lv_iload_n hx hb dX5_wordIn_86 rfl (lv_at hl 3 rfl) ?_
                        refine lv_aload_n hx hb dX5_wordIn_87 rfl (lv_at hl 0 rfl) ?_
                        refine k_get C0 fg_X5_18 hP 0 rfl rfl dX5_wordIn_88 ?_
                        refine lv_icmp_ge (tgt := 113) hx hb dX5_wordIn_91 rfl (fun c36 => ?_) (fun c36 => ?_)
                        · replace hq := lf_pos hq (lf_le (lf_rf x_this_behind) (lf_rf J23_l3) c36)
                          have h37 := ib_le hx_this_behind hJ23_l3 c36
                          have h38 : ib J23_l3 0 1603 := ⟨(hJ23_l3).1, by have := (hJ23_l3).2; have := hJ23_lin0; have := (h27).2; omega⟩
                          exact jn113  H locs ls (ib_w 0 1603 h38 rfl) (ib_w 0 1 h35 rfl) (ib_w 0 3 h27 rfl) (ib_w 0 1599 hK23_x_this_at rfl) (ib_w 1 1 hK23_x_this_sort rfl) (by have := hJ23_lin0; omega) (by exact hq) hP hD hS (lv_sub hl [0, 1, 2, 3, 4, 5] rfl)
                        · as_aux_lemma =>
                            replace hq := lf_neg hq (lf_nle (lf_rf x_this_behind) (lf_rf J23_l3) c36)
                            have h39 := ib_nle hx_this_behind hJ23_l3 c36
                            have h40 : ib x_this_behind 1 1600 := ib_w 1 1600 h39.1 rfl
                            have h41 : ib J23_l3 0 1599 := ib_w 0 1599 h39.2 rfl
                            refine lv_aload_n hx hb dX5_wordIn_94 rfl (lv_at hl 0 rfl) ?_
                            refine k_get C0 fg_X5_33 hP 0 rfl rfl dX5_wordIn_95 ?_
                            refine lv_iload_n hx hb dX5_wordIn_98 rfl (lv_at hl 3 rfl) ?_
                            refine va_iald hx hb C0.2.2.2.2.2.1 hP 1 0 rfl rfl (ib_in 1600 h41 rfl) dX5_wordIn_99 ?_
                            refine lv_topi (fun z42 ez42 => ?_)
                            have h43 : ib z42 0 255 := by rw [ez42]; exact ia_at hg_this_text (ib_in 1600 h41 rfl)
                            have Ez42 := lf_ld ez42 (lf_ra g_this_text) (lf_rf J23_l3)
                            refine lv_aload_n hx hb dX5_wordIn_100 rfl (lv_at hl 1 rfl) ?_
                            refine lv_iload hx hb dX5_wordIn_101 (lv_at hl 5 rfl) ?_
                            refine k_jim hP hD hS hA [] [true, true] rfl rfl rfl 0 0 (Nat.le_of_ble_eq_true rfl) (Nat.le_of_ble_eq_true rfl) (fun hPc hDc => k_runVO (As := [.int J23_l5]) (rest := [.int z42]) C0 hZ hS hA (cx_charAt l dC dI cy sq 7 (by decide) J23_l5 (ib_ch 7 4 h27 rfl rfl).1 (ib_ch 7 4 h27 rfl rfl).2.1 (ib_ch 7 4 h27 rfl rfl).2.2) mV_X5_248 hPc hDc (vk_recv hZ.1 (by decide) hS) hl rfl rfl (Nat.le_of_ble_eq_true rfl) ⟨(Nat.le_of_ble_eq_true rfl), (Nat.le_of_ble_eq_true rfl)⟩ ⟨(Nat.le_of_ble_eq_true rfl), (Nat.le_of_ble_eq_true rfl)⟩ dX5_wordIn_103) (fun r44 u45 H locs hw hP hD hS => ?_)
                            replace hP : va_P (dC, dI) vwCl [(wo_5_riiiiirii a_this a_this_text x_this_length x_this_at x_this_behind x_this_sort x_this_allowed a_this_plan x_this_fault x_this_place), (wi_0_1600_0 a_this_text cy g_this_text)] H := hP
                            replace hD := k_D hP hD
                            have Er44 := lf_cha (j := 7) hw (lf_rf J23_l5)
                            refine lv_icmp_ne (tgt := 113) hx hb dX5_wordIn_106 rfl (fun c46 => ?_) (fun c46 => ?_)
                            · replace hq := lf_neg hq (lf_ne Ez42 Er44 c46)
                              exact jn113  H locs ls (ib_w 0 1603 h41 rfl) (ib_w 0 1 h35 rfl) (ib_w 0 3 h27 rfl) (ib_w 0 1599 hK23_x_this_at rfl) (ib_w 1 1 hK23_x_this_sort rfl) (by have := hJ23_lin0; omega) (by exact hq) hP hD hS (lv_sub hl [0, 1, 2, 3, 4, 5] rfl)
                            · replace hq := lf_pos hq (lf_eq Ez42 Er44 c46)
                              have h47 := ib_eq h43 (ib_any r44) c46
                              have h48 : ib r44 0 255 := ib_w 0 255 h47.2 rfl
                              refine lv_iconst (v := 1) hx hb dX5_wordIn_109 rfl ?_
                              refine lv_goto (tgt := 114) hx hb dX5_wordIn_110 rfl ?_
                              exact jn114 1 H locs ls (ib_w 0 1603 h41 rfl) (ib_w 0 1 h35 rfl) (ib_w 0 3 h27 rfl) (ib_w 0 1599 hK23_x_this_at rfl) (ib_w 1 1 hK23_x_this_sort rfl) (ib_w 0 1 (ib_c 1 1 1 rfl) rfl) (by have := hJ23_lin0; omega) (by try simp only [show (1 : Int32).toInt = (1 : Int) from rfl]; exact hq) hP hD hS (lv_sub hl [0, 1, 2, 3, 4, 5] rfl)
                · replace hq := lf_pos hq (lf_eq Er28 (lf_lc 32 (32 : Int) rfl) c30)
                  have h49 := ib_eq (ib_any r28) (ib_c 32 32 32 rfl) c30
                  have h50 : ib r28 32 32 := ib_w 32 32 h49.1 rfl
                  have h51 : ib J23_l3 0 1603 := ⟨(hJ23_l3).1, by have := (hJ23_l3).2; have := hJ23_lin0; have := (h27).2; omega⟩
                  exact jn52  H locs ls (ib_w 0 1604 h51 rfl) (ib_w 0 1 hJ23_l4 rfl) (ib_w 0 4 h27 rfl) (ib_w 0 1599 hK23_x_this_at rfl) (ib_w 1 1 hK23_x_this_sort rfl) (by exact hq) hP hD hS (lv_sub hl [0, 1, 2, 3, 4, 5] rfl)
  refine lv_aload_n hx hb dX5_wordIn_0 rfl (lv_at hl 0 rfl) ?_
  refine k_get C0 fg_X5_21 hP 0 rfl rfl dX5_wordIn_1 ?_
  refine lv_iconst (v := 1) hx hb dX5_wordIn_4 rfl ?_
  refine lv_icmp_eq (tgt := 10) hx hb dX5_wordIn_5 rfl (fun c52 => ?_) (fun c52 => ?_)
  · replace hq := lf_pos hq (lf_eq (lf_rf x_this_sort) (lf_lc 1 (1 : Int) rfl) c52)
    have h53 := ib_eq hx_this_sort (ib_c 1 1 1 rfl) c52
    have h54 : ib x_this_sort 1 1 := ib_w 1 1 h53.1 rfl
    have h55 : ib x_this_at 0 1599 := ib_w 0 1599 (ib_two hx_this_at (hc0_this (ib_nz h54 rfl))) rfl
    refine lv_iconst (v := 0) hx hb dX5_wordIn_10 rfl ?_
    refine lv_istore_n (lv' := [(2, .int 0), (0, .ref a_this), (1, .ref (sq 7))]) hx hb dX5_wordIn_11 rfl hl (Nat.le_of_ble_eq_true rfl) rfl (fun ls hl => ?_)
    refine lv_aload_n hx hb dX5_wordIn_12 rfl (lv_at hl 1 rfl) ?_
    refine k_get C0 fg_X5_15 hP 0 rfl rfl dX5_wordIn_13 ?_
    refine lv_istore_n (lv' := [(3, .int x_this_at), (2, .int 0), (0, .ref a_this), (1, .ref (sq 7))]) hx hb dX5_wordIn_16 rfl hl (Nat.le_of_ble_eq_true rfl) rfl (fun ls hl => ?_)
    refine lv_iconst (v := 1) hx hb dX5_wordIn_17 rfl ?_
    refine lv_istore (lv' := [(4, .int 1), (3, .int x_this_at), (2, .int 0), (0, .ref a_this), (1, .ref (sq 7))]) hx hb dX5_wordIn_18 hl (Nat.le_of_ble_eq_true rfl) rfl (fun ls hl => ?_)
    refine lv_iconst (v := 0) hx hb dX5_wordIn_20 rfl ?_
    refine lv_istore (lv' := [(5, .int 0), (4, .int 1), (3, .int x_this_at), (2, .int 0), (0, .ref a_this), (1, .ref (sq 7))]) hx hb dX5_wordIn_21 hl (Nat.le_of_ble_eq_true rfl) rfl (fun ls hl => ?_)
    exact jn23 7 0 x_this_at 1 0 H locs ls (ib_w 0 1599 h55 rfl) (ib_w 1 1 h54 rfl) (ib_w 0 1604 h55 rfl) (ib_w 0 1 (ib_c 1 1 1 rfl) rfl) (ib_w 0 5 (ib_c 0 0 0 rfl) rfl) (by have : (0 : Int32).toInt = 0 := rfl; have := (h55).2; omega) (by try simp only [show (0 : Int32).toInt = (0 : Int) from rfl]; try simp only [show (1 : Int32).toInt = (1 : Int) from rfl]; exact hq) (by have := (ib_c 0 0 0 rfl); unfold ib at this; omega) hP hD hS (lv_sub hl [4, 5, 3, 2, 1, 0] rfl)
  · replace hq := lf_neg hq (lf_ne (lf_rf x_this_sort) (lf_lc 1 (1 : Int) rfl) c52)
    refine lv_iconst (v := (-1)) hx hb dX5_wordIn_8 rfl ?_
    subst hQ; exact k_iret hx hb hr hlk rfl () hS ((hO.symm.trans (by try simp only [show ((-1) : Int32).toInt = (-1 : Int) from rfl]; exact hq))) hP hD (Nat.le_of_ble_eq_true rfl) (Nat.le_of_ble_eq_true rfl) dX5_wordIn_9
set_option maxHeartbeats 4000000 in
set_option maxRecDepth 100000 in
theorem s_X5_needWord_s7 (l : Launch) (dC : Nat → ClassId) (dI : Nat → Nat → Nat) (cy : Nat → ClassId) (sq : Nat → Nat) (a_this : Nat) (a_this_text : Nat) (g_this_text : Nat → Int32) (x_this_length : Int32) (x_this_at : Int32) (x_this_behind : Int32) (x_this_sort : Int32) (x_this_allowed : Int32) (a_this_plan : Nat) (x_this_fault : Int32) (x_this_place : Int32) (hg_this_text : ia g_this_text 1600 0 255) (hx_this_length : ib x_this_length 0 1600) (hx_this_at : ib x_this_at 0 1600) (hx_this_behind : ib x_this_behind 0 1600) (hx_this_sort : ib x_this_sort 0 4) (hc0_this : ¬ x_this_sort = 0 → ib x_this_at 0 1599) : k_Met l yX5_needWord cX5_needWord 2 none { frames := 5, cells := 0, slots := 0, locals := 166 } dC dI cy sq [.ref a_this, .ref (sq 7)] [(wo_5_riiiiirii a_this a_this_text x_this_length x_this_at x_this_behind x_this_sort x_this_allowed a_this_plan x_this_fault x_this_place), (wi_0_1600_0 a_this_text cy g_this_text)] (k_Qv dC dI (fun (u : Int32 × Int32 × Int32 × Int32 × Int32) => match u with | (n0, n1, n2, n3, n4) => ib n0 0 1600 ∧ ib n1 0 1600 ∧ ib n2 0 4 ∧ (¬ n2 = 0 → ib n0 0 1599) ∧ (F_X5_needWord_s7 (lf_A g_this_text) (Int32.toInt x_this_length) (Int32.toInt x_this_at) (Int32.toInt x_this_behind) (Int32.toInt x_this_sort) (Int32.toInt x_this_fault) (Int32.toInt x_this_place) = ((Int32.toInt n0), (Int32.toInt n1), (Int32.toInt n2), (Int32.toInt n3), (Int32.toInt n4)))) (fun u : Int32 × Int32 × Int32 × Int32 × Int32 => match u with | (n0, n1, n2, n3, n4) => [(wo_5_riiiiirii a_this a_this_text x_this_length n0 n1 n2 x_this_allowed a_this_plan n3 n4), (wi_0_1600_0 a_this_text cy g_this_text)])) := by
  refine k_ofW2 (by decide +kernel) (Nat.le_of_ble_eq_true rfl) ?_
  intro p e s m below meth c A ls H locs args Q hQ C0 hZ hr hlk hin hP hD hA hS hl
  have C0 : k_cx p s m args c cX5_needWord 2 RX5 dC dI cy sq := C0
  have hx := C0.1
  have hb := C0.2.1
  have hl : lv_has ls 2 [(0, .ref a_this), (1, .ref (sq 7))] := hl
  obtain ⟨O, hO⟩ : ∃ o, o = F_X5_needWord_s7 (lf_A g_this_text) (Int32.toInt x_this_length) (Int32.toInt x_this_at) (Int32.toInt x_this_behind) (Int32.toInt x_this_sort) (Int32.toInt x_this_fault) (Int32.toInt x_this_place) := ⟨_, rfl⟩
  have hq := hO
  unfold F_X5_needWord_s7 at hq
  refine lv_aload_n hx hb dX5_needWord_0 rfl (lv_at hl 0 rfl) ?_
  refine lv_aload_n hx hb dX5_needWord_1 rfl (lv_at hl 1 rfl) ?_
  refine k_jim hP hD hS hA [0, 1] [] rfl rfl rfl 0 0 (Nat.le_of_ble_eq_true rfl) (Nat.le_of_ble_eq_true rfl) (fun hPc hDc => k_runV (As := [.ref (sq 7)]) (rest := []) C0 hZ hS hA (s_X5_wordIn_s7 l dC dI cy sq a_this a_this_text g_this_text x_this_length x_this_at x_this_behind x_this_sort x_this_allowed a_this_plan x_this_fault x_this_place hg_this_text (ib_w 0 1600 hx_this_at rfl) (ib_w 0 1600 hx_this_behind rfl) (ib_w 0 4 hx_this_sort rfl) (fun hq9 => ib_w 0 1599 (hc0_this hq9) rfl)) mV_X5_54 hPc hDc rfl rfl rfl hl rfl rfl (Nat.le_of_ble_eq_true rfl) ⟨(Nat.le_of_ble_eq_true rfl), (Nat.le_of_ble_eq_true rfl)⟩ ⟨(Nat.le_of_ble_eq_true rfl), (Nat.le_of_ble_eq_true rfl)⟩ dX5_needWord_2) (fun r1 u2 H locs hw hP hD hS => ?_)
  try dsimp only at hP hD hw
  replace hP : va_P (dC, dI) vwCl [(wo_5_riiiiirii a_this a_this_text x_this_length x_this_at x_this_behind x_this_sort x_this_allowed a_this_plan x_this_fault x_this_place), (wi_0_1600_0 a_this_text cy g_this_text)] H := hP
  replace hD := k_D hP hD
  have h3 := hw
  replace hq := lf_b1 hq h3
  refine lv_iconst (v := (-1)) hx hb dX5_needWord_5 rfl ?_
  refine lv_icmp_ne (tgt := 21) hx hb dX5_needWord_6 rfl (fun c4 => ?_) (fun c4 => ?_)
  · replace hq := lf_neg hq (lf_ne (lf_rf r1) (lf_lc (-1) (-1 : Int) rfl) c4)
    refine lv_aload_n hx hb dX5_needWord_21 rfl (lv_at hl 0 rfl) ?_
    refine lv_aload_n hx hb dX5_needWord_22 rfl (lv_at hl 0 rfl) ?_
    refine k_get C0 fg_X5_18 hP 0 rfl rfl dX5_needWord_23 ?_
    refine k_jvm hP hD hS hA [0, 1] [] rfl rfl rfl 0 0 (Nat.le_of_ble_eq_true rfl) (Nat.le_of_ble_eq_true rfl) (fun hPc hDc => k_runV (As := [.int x_this_behind]) (rest := []) C0 hZ hS hA (s_X5_moveTo l dC dI cy sq a_this a_this_text g_this_text x_this_length x_this_at x_this_behind x_this_sort x_this_allowed a_this_plan x_this_fault x_this_place x_this_behind hg_this_text (ib_w 0 1600 hx_this_length rfl) (ib_w 0 1600 hx_this_behind rfl)) mV_X5_86 hPc hDc rfl rfl rfl hl rfl rfl (Nat.le_of_ble_eq_true rfl) ⟨(Nat.le_of_ble_eq_true rfl), (Nat.le_of_ble_eq_true rfl)⟩ ⟨(Nat.le_of_ble_eq_true rfl), (Nat.le_of_ble_eq_true rfl)⟩ dX5_needWord_26) (fun u6 H locs hw hP hD hS => ?_)
    obtain ⟨v7, v8, v9⟩ := u6
    try dsimp only at hP hD hw
    replace hP : va_P (dC, dI) vwCl [(wo_5_riiiiirii a_this a_this_text x_this_length v7 v8 v9 x_this_allowed a_this_plan x_this_fault x_this_place), (wi_0_1600_0 a_this_text cy g_this_text)] H := hP
    replace hD := k_D hP hD
    obtain ⟨h10, h11, h12, h13, h14⟩ := hw
    replace hq := lf_p1 hq h14
    replace hq := lf_p1 hq rfl
    subst hQ; exact k_vret hx hb hr hlk ((v7, v8, v9, x_this_fault, x_this_place)) hS ⟨ib_w 0 1600 h10 rfl, ib_w 0 1600 h11 rfl, ib_w 0 4 h12 rfl, fun hq9 => ib_w 0 1599 (h13 hq9) rfl, (hO.symm.trans (by exact hq))⟩ hP hD (Nat.le_of_ble_eq_true rfl) (Nat.le_of_ble_eq_true rfl) dX5_needWord_29
  · replace hq := lf_pos hq (lf_eq (lf_rf r1) (lf_lc (-1) (-1 : Int) rfl) c4)
    have h15 := ib_eq (ib_any r1) (ib_c (-1) (-1) (-1) rfl) c4
    have h16 : ib r1 (-1) (-1) := ib_w (-1) (-1) h15.1 rfl
    refine lv_aload_n hx hb dX5_needWord_9 rfl (lv_at hl 0 rfl) ?_
    refine lv_iconst (v := 1) hx hb dX5_needWord_10 rfl ?_
    refine lv_aload_n hx hb dX5_needWord_11 rfl (lv_at hl 0 rfl) ?_
    refine k_get C0 fg_X5_15 hP 0 rfl rfl dX5_needWord_12 ?_
    refine k_jvm hP hD hS hA [0] [false, true] rfl rfl rfl 0 0 (Nat.le_of_ble_eq_true rfl) (Nat.le_of_ble_eq_true rfl) (fun hPc hDc => k_runV (As := [.int 1, .int x_this_at]) (rest := []) C0 hZ hS hA (s_X5_fail l dC dI cy sq a_this a_this_text x_this_length x_this_at x_this_behind x_this_sort x_this_allowed a_this_plan x_this_fault x_this_place 1 x_this_at ) mV_X5_78 hPc hDc rfl rfl rfl hl rfl rfl (Nat.le_of_ble_eq_true rfl) ⟨(Nat.le_of_ble_eq_true rfl), (Nat.le_of_ble_eq_true rfl)⟩ ⟨(Nat.le_of_ble_eq_true rfl), (Nat.le_of_ble_eq_true rfl)⟩ dX5_needWord_15) (fun u18 H locs hw hP hD hS => ?_)
    obtain ⟨v19, v20⟩ := u18
    try dsimp only at hP hD hw
    replace hP : va_P (dC, dI) vwCl [(wi_0_1600_0 a_this_text cy g_this_text), (wo_5_riiiiirii a_this a_this_text x_this_length x_this_length x_this_length 0 x_this_allowed a_this_plan v19 v20)] H := hP
    replace hD := k_D hP hD
    have h21 := hw
    have h21 := by have h9 := h21; try simp only [show (1 : Int32).toInt = (1 : Int) from rfl] at h9; exact h9
    replace hq := lf_p1 hq h21
    refine lv_goto (tgt := 29) hx hb dX5_needWord_18 rfl ?_
    subst hQ; exact k_vret hx hb hr hlk ((x_this_length, x_this_length, 0, v19, v20)) hS ⟨ib_w 0 1600 hx_this_length rfl, ib_w 0 1600 hx_this_length rfl, ib_w 0 4 (ib_c 0 0 0 rfl) rfl, fun hq9 => absurd rfl hq9, (hO.symm.trans (by try simp only [show (0 : Int32).toInt = (0 : Int) from rfl]; exact hq))⟩ (hP.sub [1, 0] rfl) (hD.sub [1, 0] rfl rfl) (Nat.le_of_ble_eq_true rfl) (Nat.le_of_ble_eq_true rfl) dX5_needWord_29
set_option maxHeartbeats 4000000 in
set_option maxRecDepth 100000 in
theorem s_X5_numberBehind_a1_0_a2_99_s7 (l : Launch) (dC : Nat → ClassId) (dI : Nat → Nat → Nat) (cy : Nat → ClassId) (sq : Nat → Nat) (a_this : Nat) (a_this_text : Nat) (g_this_text : Nat → Int32) (x_this_length : Int32) (x_this_at : Int32) (x_this_behind : Int32) (x_this_sort : Int32) (x_this_allowed : Int32) (a_this_plan : Nat) (x_this_fault : Int32) (x_this_place : Int32) (hg_this_text : ia g_this_text 1600 0 255) (hx_this_length : ib x_this_length 0 1600) (hx_this_at : ib x_this_at 0 1600) (hx_this_behind : ib x_this_behind 0 1600) (hx_this_sort : ib x_this_sort 0 4) (hc0_this : ¬ x_this_sort = 0 → ib x_this_at 0 1599) : k_Met l yX5_numberBehind cX5_numberBehind 4 (some .int) { frames := 6, cells := 0, slots := 0, locals := 187 } dC dI cy sq [.ref a_this, .ref (sq 7), .int 0, .int 99] [(wo_5_riiiiirii a_this a_this_text x_this_length x_this_at x_this_behind x_this_sort x_this_allowed a_this_plan x_this_fault x_this_place), (wi_0_1600_0 a_this_text cy g_this_text)] (k_Qi dC dI (fun (r : Int32) (u : Int32 × Int32 × Int32 × Int32 × Int32) => match u with | (n0, n1, n2, n3, n4) => ib r 0 99 ∧ ib n0 0 1600 ∧ ib n1 0 1600 ∧ ib n2 0 4 ∧ (¬ n2 = 0 → ib n0 0 1599) ∧ (F_X5_numberBehind_a1_0_a2_99_s7 (lf_A g_this_text) (Int32.toInt x_this_length) (Int32.toInt x_this_at) (Int32.toInt x_this_behind) (Int32.toInt x_this_sort) (Int32.toInt x_this_fault) (Int32.toInt x_this_place) = ((Int32.toInt r), (Int32.toInt n0), (Int32.toInt n1), (Int32.toInt n2), (Int32.toInt n3), (Int32.toInt n4)))) (fun u : Int32 × Int32 × Int32 × Int32 × Int32 => match u with | (n0, n1, n2, n3, n4) => [(wo_5_riiiiirii a_this a_this_text x_this_length n0 n1 n2 x_this_allowed a_this_plan n3 n4), (wi_0_1600_0 a_this_text cy g_this_text)])) := by
  refine k_ofW2 (by decide +kernel) (Nat.le_of_ble_eq_true rfl) ?_
  intro p e s m below meth c A ls H locs args Q hQ C0 hZ hr hlk hin hP hD hA hS hl
  have C0 : k_cx p s m args c cX5_numberBehind 4 RX5 dC dI cy sq := C0
  have hx := C0.1
  have hb := C0.2.1
  have hl : lv_has ls 4 [(0, .ref a_this), (1, .ref (sq 7)), (2, .int 0), (3, .int 99)] := hl
  obtain ⟨O, hO⟩ : ∃ o, o = F_X5_numberBehind_a1_0_a2_99_s7 (lf_A g_this_text) (Int32.toInt x_this_length) (Int32.toInt x_this_at) (Int32.toInt x_this_behind) (Int32.toInt x_this_sort) (Int32.toInt x_this_fault) (Int32.toInt x_this_place) := ⟨_, rfl⟩
  have hq := hO
  unfold F_X5_numberBehind_a1_0_a2_99_s7 at hq
  refine lv_aload_n hx hb dX5_numberBehind_0 rfl (lv_at hl 0 rfl) ?_
  refine lv_aload_n hx hb dX5_numberBehind_1 rfl (lv_at hl 1 rfl) ?_
  refine k_jvm hP hD hS hA [0, 1] [] rfl rfl rfl 0 0 (Nat.le_of_ble_eq_true rfl) (Nat.le_of_ble_eq_true rfl) (fun hPc hDc => k_runV (As := [.ref (sq 7)]) (rest := []) C0 hZ hS hA (s_X5_needWord_s7 l dC dI cy sq a_this a_this_text g_this_text x_this_length x_this_at x_this_behind x_this_sort x_this_allowed a_this_plan x_this_fault x_this_place hg_this_text (ib_w 0 1600 hx_this_length rfl) (ib_w 0 1600 hx_this_at rfl) (ib_w 0 1600 hx_this_behind rfl) (ib_w 0 4 hx_this_sort rfl) (fun hq9 => ib_w 0 1599 (hc0_this hq9) rfl)) mV_X5_144 hPc hDc rfl rfl rfl hl rfl rfl (Nat.le_of_ble_eq_true rfl) ⟨(Nat.le_of_ble_eq_true rfl), (Nat.le_of_ble_eq_true rfl)⟩ ⟨(Nat.le_of_ble_eq_true rfl), (Nat.le_of_ble_eq_true rfl)⟩ dX5_numberBehind_2) (fun u2 H locs hw hP hD hS => ?_)
  obtain ⟨v3, v4, v5, v6, v7⟩ := u2
  try dsimp only at hP hD hw
  replace hP : va_P (dC, dI) vwCl [(wo_5_riiiiirii a_this a_this_text x_this_length v3 v4 v5 x_this_allowed a_this_plan v6 v7), (wi_0_1600_0 a_this_text cy g_this_text)] H := hP
  replace hD := k_D hP hD
  obtain ⟨h8, h9, h10, h11, h12⟩ := hw
  replace hq := lf_p1 hq h12
  replace hq := lf_p1 hq rfl
  replace hq := lf_p1 hq rfl
  replace hq := lf_p1 hq rfl
  refine lv_aload_n hx hb dX5_numberBehind_5 rfl (lv_at hl 0 rfl) ?_
  refine lv_iload_n hx hb dX5_numberBehind_6 rfl (lv_at hl 2 rfl) ?_
  refine lv_iload_n hx hb dX5_numberBehind_7 rfl (lv_at hl 3 rfl) ?_
  refine k_jim hP hD hS hA [0, 1] [] rfl rfl rfl 0 0 (Nat.le_of_ble_eq_true rfl) (Nat.le_of_ble_eq_true rfl) (fun hPc hDc => k_runV (As := [.int 0, .int 99]) (rest := []) C0 hZ hS hA (s_X5_number_a0_0_a1_99 l dC dI cy sq a_this a_this_text g_this_text x_this_length v3 v4 v5 x_this_allowed a_this_plan v6 v7 hg_this_text (ib_w 0 1600 hx_this_length rfl) (ib_w 0 1600 h8 rfl) (ib_w 0 1600 h9 rfl) (ib_w 0 4 h10 rfl) (fun hq9 => ib_w 0 1599 (h11 hq9) rfl)) mV_X5_168 hPc hDc rfl rfl rfl hl rfl rfl (Nat.le_of_ble_eq_true rfl) ⟨(Nat.le_of_ble_eq_true rfl), (Nat.le_of_ble_eq_true rfl)⟩ ⟨(Nat.le_of_ble_eq_true rfl), (Nat.le_of_ble_eq_true rfl)⟩ dX5_numberBehind_8) (fun r13 u14 H locs hw hP hD hS => ?_)
  obtain ⟨v15, v16, v17, v18, v19⟩ := u14
  try dsimp only at hP hD hw
  replace hP : va_P (dC, dI) vwCl [(wo_5_riiiiirii a_this a_this_text x_this_length v15 v16 v17 x_this_allowed a_this_plan v18 v19), (wi_0_1600_0 a_this_text cy g_this_text)] H := hP
  replace hD := k_D hP hD
  obtain ⟨h20, h21, h22, h23, h24, h25⟩ := hw
  replace hq := lf_p1 hq h25
  replace hq := lf_p1 hq rfl
  replace hq := lf_p1 hq rfl
  replace hq := lf_p1 hq rfl
  replace hq := lf_p1 hq rfl
  subst hQ; exact k_iret hx hb hr hlk rfl ((v15, v16, v17, v18, v19)) hS ⟨ib_w 0 99 h20 rfl, ib_w 0 1600 h21 rfl, ib_w 0 1600 h22 rfl, ib_w 0 4 h23 rfl, fun hq9 => ib_w 0 1599 (h24 hq9) rfl, (hO.symm.trans (by exact hq))⟩ hP hD (Nat.le_of_ble_eq_true rfl) (Nat.le_of_ble_eq_true rfl) dX5_numberBehind_11
set_option maxHeartbeats 4000000 in
set_option maxRecDepth 100000 in
theorem s_X5_wordIn_s8 (l : Launch) (dC : Nat → ClassId) (dI : Nat → Nat → Nat) (cy : Nat → ClassId) (sq : Nat → Nat) (a_this : Nat) (a_this_text : Nat) (g_this_text : Nat → Int32) (x_this_length : Int32) (x_this_at : Int32) (x_this_behind : Int32) (x_this_sort : Int32) (x_this_allowed : Int32) (a_this_plan : Nat) (x_this_fault : Int32) (x_this_place : Int32) (hg_this_text : ia g_this_text 1600 0 255) (hx_this_at : ib x_this_at 0 1600) (hx_this_behind : ib x_this_behind 0 1600) (hx_this_sort : ib x_this_sort 0 4) (hc0_this : ¬ x_this_sort = 0 → ib x_this_at 0 1599) : k_Met l yX5_wordIn cX5_wordIn 6 (some .int) { frames := 4, cells := 0, slots := 0, locals := 141 } dC dI cy sq [.ref a_this, .ref (sq 8)] [(wo_5_riiiiirii a_this a_this_text x_this_length x_this_at x_this_behind x_this_sort x_this_allowed a_this_plan x_this_fault x_this_place), (wi_0_1600_0 a_this_text cy g_this_text)] (k_Qi dC dI (fun (r : Int32) (_ : Unit) => (F_X5_wordIn_s8 (lf_A g_this_text) (Int32.toInt x_this_at) (Int32.toInt x_this_behind) (Int32.toInt x_this_sort) = ((Int32.toInt r)))) (fun _ : Unit => [(wo_5_riiiiirii a_this a_this_text x_this_length x_this_at x_this_behind x_this_sort x_this_allowed a_this_plan x_this_fault x_this_place), (wi_0_1600_0 a_this_text cy g_this_text)])) := by
  refine k_ofW2 (by decide +kernel) (Nat.le_of_ble_eq_true rfl) ?_
  intro p e s m below meth c A ls H locs args Q hQ C0 hZ hr hlk hin hP hD hA hS hl
  have C0 : k_cx p s m args c cX5_wordIn 6 RX5 dC dI cy sq := C0
  have hx := C0.1
  have hb := C0.2.1
  have hl : lv_has ls 6 [(0, .ref a_this), (1, .ref (sq 8))] := hl
  obtain ⟨O, hO⟩ : ∃ o, o = F_X5_wordIn_s8 (lf_A g_this_text) (Int32.toInt x_this_at) (Int32.toInt x_this_behind) (Int32.toInt x_this_sort) := ⟨_, rfl⟩
  have hq := hO
  unfold F_X5_wordIn_s8 at hq
  have jn23 : ∀ (n : Nat) (J23_l2 : Int32) (J23_l3 : Int32) (J23_l4 : Int32) (J23_l5 : Int32) (H : Heap) (locs : List Loc) (ls : Array Slot), ib x_this_at 0 1599 → ib x_this_sort 1 1 → ib J23_l3 0 1604 → ib J23_l4 0 1 → ib J23_l5 0 5 → (1 * J23_l3.toInt + (-1) * J23_l5.toInt ≤ 1600) → (O = F_X5_wordIn_s8_23 (lf_A g_this_text) (Int32.toInt x_this_at) (Int32.toInt x_this_behind) n (Int32.toInt J23_l2) (Int32.toInt J23_l3) (Int32.toInt J23_l4) (Int32.toInt J23_l5)) → 6 ≤ J23_l5.toInt + (n : Int) → va_P (dC, dI) vwCl [(wo_5_riiiiirii a_this a_this_text x_this_length x_this_at x_this_behind x_this_sort x_this_allowed a_this_plan x_this_fault x_this_place), (wi_0_1600_0 a_this_text cy g_this_text)] H → va_D A [(wo_5_riiiiirii a_this a_this_text x_this_length x_this_at x_this_behind x_this_sort x_this_allowed a_this_plan x_this_fault x_this_place), (wi_0_1600_0 a_this_text cy g_this_text)] → va_S A s.heap H locs → lv_has ls 6 [(0, .ref a_this), (1, .ref (sq 8)), (2, .int J23_l2), (3, .int J23_l3), (4, .int J23_l4), (5, .int J23_l5)] → W p l e { frames := 4, cells := 0, slots := 0, locals := 141 } s m args below meth c H locs 0 0 Q (F0 m 23 ls []) := by
    as_aux_lemma =>
      intro n
      induction n with
      | zero =>
        intro J23_l2 J23_l3 J23_l4 J23_l5 H locs ls hK23_x_this_at hK23_x_this_sort hJ23_l3 hJ23_l4 hJ23_l5 hJ23_lin0 hq hm
        exact absurd hm (by have := hJ23_l5; unfold ib at this; omega)
      | succ n ih =>
        intro J23_l2 J23_l3 J23_l4 J23_l5 H locs ls hK23_x_this_at hK23_x_this_sort hJ23_l3 hJ23_l4 hJ23_l5 hJ23_lin0 hq hm23 hP hD hS hl
        have ih23 := ih
        obtain ⟨K23, hK23⟩ : ∃ K, K = F_X5_wordIn_s8_23 (lf_A g_this_text) (Int32.toInt x_this_at) (Int32.toInt x_this_behind) n := ⟨_, rfl⟩
        have hq : O = F_X5_wordIn_s8_23b (lf_A g_this_text) (Int32.toInt x_this_at) (Int32.toInt x_this_behind) K23 (Int32.toInt J23_l2) (Int32.toInt J23_l3) (Int32.toInt J23_l4) (Int32.toInt J23_l5) := by rw [hK23]; exact hq
        unfold F_X5_wordIn_s8_23b at hq
        have jn119 : ∀ (J119_l2 : Int32) (J119_l3 : Int32) (J119_l4 : Int32) (H : Heap) (locs : List Loc) (ls : Array Slot), ib x_this_at 0 1599 → ib J23_l5 0 4 → ib x_this_sort 1 1 → ib J119_l3 0 1604 → ib J119_l4 0 1 → (1 * J119_l3.toInt + (-1) * J23_l5.toInt ≤ 1601) → (O = F_X5_wordIn_s8_119 (Int32.toInt J23_l5) K23 (Int32.toInt J119_l2) (Int32.toInt J119_l3) (Int32.toInt J119_l4)) → va_P (dC, dI) vwCl [(wo_5_riiiiirii a_this a_this_text x_this_length x_this_at x_this_behind x_this_sort x_this_allowed a_this_plan x_this_fault x_this_place), (wi_0_1600_0 a_this_text cy g_this_text)] H → va_D A [(wo_5_riiiiirii a_this a_this_text x_this_length x_this_at x_this_behind x_this_sort x_this_allowed a_this_plan x_this_fault x_this_place), (wi_0_1600_0 a_this_text cy g_this_text)] → va_S A s.heap H locs → lv_has ls 6 [(0, .ref a_this), (1, .ref (sq 8)), (2, .int J119_l2), (3, .int J119_l3), (4, .int J119_l4), (5, .int J23_l5)] → W p l e { frames := 4, cells := 0, slots := 0, locals := 141 } s m args below meth c H locs 0 0 Q (F0 m 119 ls []) := by
          intro J119_l2 J119_l3 J119_l4 H locs ls hK119_x_this_at hK119_J23_l5 hK119_x_this_sort hJ119_l3 hJ119_l4 hJ119_lin0 hq hP hD hS hl
          unfold F_X5_wordIn_s8_119 at hq
          obtain ⟨z1, ez1⟩ : ∃ y : Int32, y = J23_l5 + 1 := ⟨_, rfl⟩
          refine lv_iinc (v := z1) (lv' := [(5, .int z1), (0, .ref a_this), (1, .ref (sq 8)), (2, .int J119_l2), (3, .int J119_l3), (4, .int J119_l4)]) hx hb dX5_wordIn_119 hl (k := 5) rfl (by rw [ez1]; rfl) (Nat.le_of_ble_eq_true rfl) rfl (fun ls hl => ?_)
          have h2 := ib_add hK119_J23_l5 (ib_c 1 1 1 rfl) rfl
          rw [← ez1] at h2
          have h3 : ib z1 1 5 := ib_w 1 5 h2.1 rfl
          have Ez1 := lf_add h2.2 (lf_rf J23_l5) (lf_lc 1 (1 : Int) rfl)
          refine lv_goto (tgt := 23) hx hb dX5_wordIn_122 rfl ?_
          exact ih23 J119_l2 J119_l3 J119_l4 z1 H locs ls (ib_w 0 1599 hK119_x_this_at rfl) (ib_w 1 1 hK119_x_this_sort rfl) (ib_w 0 1604 hJ119_l3 rfl) (ib_w 0 1 hJ119_l4 rfl) (ib_w 0 5 h3 rfl) (by have := h2.2; have : (1 : Int32).toInt = 1 := rfl; have := hJ119_lin0; omega) (by rw [← hK23]; rw [lf_u Ez1]; exact hq) (by have := h2.2; have : (1 : Int32).toInt = 1 := rfl; omega) hP hD hS (lv_sub hl [1, 2, 3, 4, 5, 0] rfl)
        have jn114 : ∀ (J114_s0 : Int32) (H : Heap) (locs : List Loc) (ls : Array Slot), ib J23_l3 0 1603 → ib J23_l4 0 1 → ib J23_l5 0 3 → ib x_this_at 0 1599 → ib x_this_sort 1 1 → ib J114_s0 0 1 → (1 * J23_l3.toInt + (-1) * J23_l5.toInt ≤ 1600) → (O = F_X5_wordIn_s8_114 (Int32.toInt J23_l2) (Int32.toInt J23_l3) (Int32.toInt J23_l5) K23 (Int32.toInt J114_s0)) → va_P (dC, dI) vwCl [(wo_5_riiiiirii a_this a_this_text x_this_length x_this_at x_this_behind x_this_sort x_this_allowed a_this_plan x_this_fault x_this_place), (wi_0_1600_0 a_this_text cy g_this_text)] H → va_D A [(wo_5_riiiiirii a_this a_this_text x_this_length x_this_at x_this_behind x_this_sort x_this_allowed a_this_plan x_this_fault x_this_place), (wi_0_1600_0 a_this_text cy g_this_text)] → va_S A s.heap H locs → lv_has ls 6 [(0, .ref a_this), (1, .ref (sq 8)), (2, .int J23_l2), (3, .int J23_l3), (4, .int J23_l4), (5, .int J23_l5)] → W p l e { frames := 4, cells := 0, slots := 0, locals := 141 } s m args below meth c H locs 0 0 Q (F0 m 114 ls [.int J114_s0]) := by
          intro J114_s0 H locs ls hK114_J23_l3 hK114_J23_l4 hK114_J23_l5 hK114_x_this_at hK114_x_this_sort hJ114_s0 hJ114_lin0 hq hP hD hS hl
          unfold F_X5_wordIn_s8_114 at hq
          refine lv_istore (lv' := [(4, .int J114_s0), (0, .ref a_this), (1, .ref (sq 8)), (2, .int J23_l2), (3, .int J23_l3), (5, .int J23_l5)]) hx hb dX5_wordIn_114 hl (Nat.le_of_ble_eq_true rfl) rfl (fun ls hl => ?_)
          obtain ⟨z4, ez4⟩ : ∃ y : Int32, y = J23_l3 + 1 := ⟨_, rfl⟩
          refine lv_iinc (v := z4) (lv' := [(3, .int z4), (4, .int J114_s0), (0, .ref a_this), (1, .ref (sq 8)), (2, .int J23_l2), (5, .int J23_l5)]) hx hb dX5_wordIn_116 hl (k := 4) rfl (by rw [ez4]; rfl) (Nat.le_of_ble_eq_true rfl) rfl (fun ls hl => ?_)
          have h5 := ib_add hK114_J23_l3 (ib_c 1 1 1 rfl) rfl
          rw [← ez4] at h5
          have h6 : ib z4 1 1604 := ib_w 1 1604 h5.1 rfl
          have Ez4 := lf_add h5.2 (lf_rf J23_l3) (lf_lc 1 (1 : Int) rfl)
          exact jn119 J23_l2 z4 J114_s0 H locs ls (ib_w 0 1599 hK114_x_this_at rfl) (ib_w 0 4 hK114_J23_l5 rfl) (ib_w 1 1 hK114_x_this_sort rfl) (ib_w 0 1604 h6 rfl) (ib_w 0 1 hJ114_s0 rfl) (by have := (hK114_J23_l5).1; have := hJ23_lin0; have := (h6).2; have := h5.2; have : (1 : Int32).toInt = 1 := rfl; omega) (by rw [lf_u Ez4]; exact hq) hP hD hS (lv_sub hl [2, 3, 4, 0, 1, 5] rfl)
        have jn113 : ∀  (H : Heap) (locs : List Loc) (ls : Array Slot), ib J23_l3 0 1603 → ib J23_l4 0 1 → ib J23_l5 0 3 → ib x_this_at 0 1599 → ib x_this_sort 1 1 → (1 * J23_l3.toInt + (-1) * J23_l5.toInt ≤ 1600) → (O = F_X5_wordIn_s8_113 (Int32.toInt J23_l2) (Int32.toInt J23_l3) (Int32.toInt J23_l5) K23 ) → va_P (dC, dI) vwCl [(wo_5_riiiiirii a_this a_this_text x_this_length x_this_at x_this_behind x_this_sort x_this_allowed a_this_plan x_this_fault x_this_place), (wi_0_1600_0 a_this_text cy g_this_text)] H → va_D A [(wo_5_riiiiirii a_this a_this_text x_this_length x_this_at x_this_behind x_this_sort x_this_allowed a_this_plan x_this_fault x_this_place), (wi_0_1600_0 a_this_text cy g_this_text)] → va_S A s.heap H locs → lv_has ls 6 [(0, .ref a_this), (1, .ref (sq 8)), (2, .int J23_l2), (3, .int J23_l3), (4, .int J23_l4), (5, .int J23_l5)] → W p l e { frames := 4, cells := 0, slots := 0, locals := 141 } s m args below meth c H locs 0 0 Q (F0 m 113 ls []) := by
          intro H locs ls hK113_J23_l3 hK113_J23_l4 hK113_J23_l5 hK113_x_this_at hK113_x_this_sort hJ113_lin0 hq hP hD hS hl
          unfold F_X5_wordIn_s8_113 at hq
          refine lv_iconst (v := 0) hx hb dX5_wordIn_113 rfl ?_
          exact jn114 0 H locs ls (ib_w 0 1603 hK113_J23_l3 rfl) (ib_w 0 1 hK113_J23_l4 rfl) (ib_w 0 3 hK113_J23_l5 rfl) (ib_w 0 1599 hK113_x_this_at rfl) (ib_w 1 1 hK113_x_this_sort rfl) (ib_w 0 1 (ib_c 0 0 0 rfl) rfl) (by have := hJ23_lin0; omega) (by try simp only [show (0 : Int32).toInt = (0 : Int) from rfl]; exact hq) hP hD hS (lv_sub hl [0, 1, 2, 3, 4, 5] rfl)
        have jn67 : ∀  (H : Heap) (locs : List Loc) (ls : Array Slot), ib J23_l3 0 1604 → ib J23_l4 0 1 → ib J23_l5 0 4 → ib x_this_at 0 1599 → ib x_this_sort 1 1 → (O = F_X5_wordIn_s8_67 (Int32.toInt x_this_at) (Int32.toInt J23_l2) (Int32.toInt J23_l5) K23 ) → va_P (dC, dI) vwCl [(wo_5_riiiiirii a_this a_this_text x_this_length x_this_at x_this_behind x_this_sort x_this_allowed a_this_plan x_this_fault x_this_place), (wi_0_1600_0 a_this_text cy g_this_text)] H → va_D A [(wo_5_riiiiirii a_this a_this_text x_this_length x_this_at x_this_behind x_this_sort x_this_allowed a_this_plan x_this_fault x_this_place), (wi_0_1600_0 a_this_text cy g_this_text)] → va_S A s.heap H locs → lv_has ls 6 [(0, .ref a_this), (1, .ref (sq 8)), (2, .int J23_l2), (3, .int J23_l3), (4, .int J23_l4), (5, .int J23_l5)] → W p l e { frames := 4, cells := 0, slots := 0, locals := 141 } s m args below meth c H locs 0 0 Q (F0 m 67 ls []) := by
          intro H locs ls hK67_J23_l3 hK67_J23_l4 hK67_J23_l5 hK67_x_this_at hK67_x_this_sort hq hP hD hS hl
          unfold F_X5_wordIn_s8_67 at hq
          obtain ⟨z7, ez7⟩ : ∃ y : Int32, y = J23_l2 + 1 := ⟨_, rfl⟩
          refine lv_iinc (v := z7) (lv' := [(2, .int z7), (0, .ref a_this), (1, .ref (sq 8)), (3, .int J23_l3), (4, .int J23_l4), (5, .int J23_l5)]) hx hb dX5_wordIn_67 hl (k := 2) rfl (by rw [ez7]; rfl) (Nat.le_of_ble_eq_true rfl) rfl (fun ls hl => ?_)
          have Ez7 := lf_op lf_iadd ez7 (lf_rf J23_l2) (lf_lc 1 (1 : Int) rfl)
          refine lv_aload_n hx hb dX5_wordIn_70 rfl (lv_at hl 1 rfl) ?_
          refine k_get C0 fg_X5_15 hP 0 rfl rfl dX5_wordIn_71 ?_
          refine lv_istore_n (lv' := [(3, .int x_this_at), (2, .int z7), (0, .ref a_this), (1, .ref (sq 8)), (4, .int J23_l4), (5, .int J23_l5)]) hx hb dX5_wordIn_74 rfl hl (Nat.le_of_ble_eq_true rfl) rfl (fun ls hl => ?_)
          refine lv_iconst (v := 1) hx hb dX5_wordIn_75 rfl ?_
          refine lv_istore (lv' := [(4, .int 1), (3, .int x_this_at), (2, .int z7), (0, .ref a_this), (1, .ref (sq 8)), (5, .int J23_l5)]) hx hb dX5_wordIn_76 hl (Nat.le_of_ble_eq_true rfl) rfl (fun ls hl => ?_)
          refine lv_goto (tgt := 119) hx hb dX5_wordIn_78 rfl ?_
          exact jn119 z7 x_this_at 1 H locs ls (ib_w 0 1599 hK67_x_this_at rfl) (ib_w 0 4 hK67_J23_l5 rfl) (ib_w 1 1 hK67_x_this_sort rfl) (ib_w 0 1604 hK67_x_this_at rfl) (ib_w 0 1 (ib_c 1 1 1 rfl) rfl) (by have := (hK67_J23_l5).1; have := (hK67_x_this_at).2; omega) (by rw [lf_u Ez7]; try simp only [show (1 : Int32).toInt = (1 : Int) from rfl]; exact hq) hP hD hS (lv_sub hl [3, 4, 2, 1, 0, 5] rfl)
        have jn52 : ∀  (H : Heap) (locs : List Loc) (ls : Array Slot), ib J23_l3 0 1604 → ib J23_l4 0 1 → ib J23_l5 0 4 → ib x_this_at 0 1599 → ib x_this_sort 1 1 → (O = F_X5_wordIn_s8_52 (Int32.toInt x_this_at) (Int32.toInt x_this_behind) (Int32.toInt J23_l2) (Int32.toInt J23_l3) (Int32.toInt J23_l4) (Int32.toInt J23_l5) K23 ) → va_P (dC, dI) vwCl [(wo_5_riiiiirii a_this a_this_text x_this_length x_this_at x_this_behind x_this_sort x_this_allowed a_this_plan x_this_fault x_this_place), (wi_0_1600_0 a_this_text cy g_this_text)] H → va_D A [(wo_5_riiiiirii a_this a_this_text x_this_length x_this_at x_this_behind x_this_sort x_this_allowed a_this_plan x_this_fault x_this_place), (wi_0_1600_0 a_this_text cy g_this_text)] → va_S A s.heap H locs → lv_has ls 6 [(0, .ref a_this), (1, .ref (sq 8)), (2, .int J23_l2), (3, .int J23_l3), (4, .int J23_l4), (5, .int J23_l5)] → W p l e { frames := 4, cells := 0, slots := 0, locals := 141 } s m args below meth c H locs 0 0 Q (F0 m 52 ls []) := by
          as_aux_lemma =>
            intro H locs ls hK52_J23_l3 hK52_J23_l4 hK52_J23_l5 hK52_x_this_at hK52_x_this_sort hq hP hD hS hl
            unfold F_X5_wordIn_s8_52 at hq
            refine lv_iload hx hb dX5_wordIn_52 (lv_at hl 4 rfl) ?_
            refine lv_if_eq (tgt := 67) hx hb dX5_wordIn_54 rfl (fun c8 => ?_) (fun c8 => ?_)
            · replace hq := lf_pos hq (lf_eq (lf_rf J23_l4) (lf_lc 0 (0 : Int) rfl) c8)
              have h9 := ib_eq hK52_J23_l4 (ib_c 0 0 0 rfl) c8
              have h10 : ib J23_l4 0 0 := ib_w 0 0 h9.1 rfl
              exact jn67  H locs ls (ib_w 0 1604 hK52_J23_l3 rfl) (ib_w 0 1 h10 rfl) (ib_w 0 4 hK52_J23_l5 rfl) (ib_w 0 1599 hK52_x_this_at rfl) (ib_w 1 1 hK52_x_this_sort rfl) (by exact hq) hP hD hS (lv_sub hl [0, 1, 2, 3, 4, 5] rfl)
            · replace hq := lf_neg hq (lf_ne (lf_rf J23_l4) (lf_lc 0 (0 : Int) rfl) c8)
              have h11 : ib J23_l4 1 1 := ib_w 1 1 (ib_ne_lo 0 hK52_J23_l4 rfl c8) rfl
              refine lv_iload_n hx hb dX5_wordIn_57 rfl (lv_at hl 3 rfl) ?_
              refine lv_aload_n hx hb dX5_wordIn_58 rfl (lv_at hl 0 rfl) ?_
              refine k_get C0 fg_X5_18 hP 0 rfl rfl dX5_wordIn_59 ?_
              refine lv_icmp_ne (tgt := 67) hx hb dX5_wordIn_62 rfl (fun c12 => ?_) (fun c12 => ?_)
              · replace hq := lf_neg hq (lf_ne (lf_rf J23_l3) (lf_rf x_this_behind) c12)
                exact jn67  H locs ls (ib_w 0 1604 hK52_J23_l3 rfl) (ib_w 0 1 h11 rfl) (ib_w 0 4 hK52_J23_l5 rfl) (ib_w 0 1599 hK52_x_this_at rfl) (ib_w 1 1 hK52_x_this_sort rfl) (by exact hq) hP hD hS (lv_sub hl [0, 1, 2, 3, 4, 5] rfl)
              · replace hq := lf_pos hq (lf_eq (lf_rf J23_l3) (lf_rf x_this_behind) c12)
                have h13 := ib_eq hK52_J23_l3 hx_this_behind c12
                have h14 : ib J23_l3 0 1600 := ib_w 0 1600 h13.1 rfl
                refine lv_iload_n hx hb dX5_wordIn_65 rfl (lv_at hl 2 rfl) ?_
                subst hQ; exact k_iret hx hb hr hlk rfl () hS ((hO.symm.trans (by exact hq))) hP hD (Nat.le_of_ble_eq_true rfl) (Nat.le_of_ble_eq_true rfl) dX5_wordIn_66
        refine lv_iload hx hb dX5_wordIn_23 (lv_at hl 5 rfl) ?_
        refine lv_aload_n hx hb dX5_wordIn_25 rfl (lv_at hl 1 rfl) ?_
        refine k_jim hP hD hS hA [] [true, true] rfl rfl rfl 0 0 (Nat.le_of_ble_eq_true rfl) (Nat.le_of_ble_eq_true rfl) (fun hPc hDc => k_runVO (As := []) (rest := [.int J23_l5]) C0 hZ hS hA (c_length l dC dI cy sq 8 (by decide)) mV_X5_244 hPc hDc (vk_recv hZ.1 (by decide) hS) hl rfl rfl (Nat.le_of_ble_eq_true rfl) ⟨(Nat.le_of_ble_eq_true rfl), (Nat.le_of_ble_eq_true rfl)⟩ ⟨(Nat.le_of_ble_eq_true rfl), (Nat.le_of_ble_eq_true rfl)⟩ dX5_wordIn_26) (fun r15 u16 H locs hw hP hD hS => ?_)
        replace hP : va_P (dC, dI) vwCl [(wo_5_riiiiirii a_this a_this_text x_this_length x_this_at x_this_behind x_this_sort x_this_allowed a_this_plan x_this_fault x_this_place), (wi_0_1600_0 a_this_text cy g_this_text)] H := hP
        replace hD := k_D hP hD
        obtain rfl : r15 = 4 := hw.trans (by decide)
        refine lv_icmp_gt (tgt := 125) hx hb dX5_wordIn_29 rfl (fun c17 => ?_) (fun c17 => ?_)
        · replace hq := lf_pos hq (lf_lt (lf_lc 4 (4 : Int) rfl) (lf_rf J23_l5) c17)
          have h18 := ib_lt (ib_c 4 4 4 rfl) hJ23_l5 c17
          have h19 : ib J23_l5 5 5 := ib_w 5 5 h18.2 rfl
          refine lv_iconst (v := (-1)) hx hb dX5_wordIn_125 rfl ?_
          subst hQ; exact k_iret hx hb hr hlk rfl () hS ((hO.symm.trans (by try simp only [show ((-1) : Int32).toInt = (-1 : Int) from rfl]; exact hq))) hP hD (Nat.le_of_ble_eq_true rfl) (Nat.le_of_ble_eq_true rfl) dX5_wordIn_126
        · as_aux_lemma =>
            replace hq := lf_neg hq (lf_nlt (lf_lc 4 (4 : Int) rfl) (lf_rf J23_l5) c17)
            have h20 := ib_nlt (ib_c 4 4 4 rfl) hJ23_l5 c17
            have h21 : ib J23_l5 0 4 := ib_w 0 4 h20.2 rfl
            refine lv_iload hx hb dX5_wordIn_32 (lv_at hl 5 rfl) ?_
            refine lv_aload_n hx hb dX5_wordIn_34 rfl (lv_at hl 1 rfl) ?_
            refine k_jim hP hD hS hA [] [true, true] rfl rfl rfl 0 0 (Nat.le_of_ble_eq_true rfl) (Nat.le_of_ble_eq_true rfl) (fun hPc hDc => k_runVO (As := []) (rest := [.int J23_l5]) C0 hZ hS hA (c_length l dC dI cy sq 8 (by decide)) mV_X5_244 hPc hDc (vk_recv hZ.1 (by decide) hS) hl rfl rfl (Nat.le_of_ble_eq_true rfl) ⟨(Nat.le_of_ble_eq_true rfl), (Nat.le_of_ble_eq_true rfl)⟩ ⟨(Nat.le_of_ble_eq_true rfl), (Nat.le_of_ble_eq_true rfl)⟩ dX5_wordIn_35) (fun r22 u23 H locs hw hP hD hS => ?_)
            replace hP : va_P (dC, dI) vwCl [(wo_5_riiiiirii a_this a_this_text x_this_length x_this_at x_this_behind x_this_sort x_this_allowed a_this_plan x_this_fault x_this_place), (wi_0_1600_0 a_this_text cy g_this_text)] H := hP
            replace hD := k_D hP hD
            obtain rfl : r22 = 4 := hw.trans (by decide)
            refine lv_icmp_eq (tgt := 52) hx hb dX5_wordIn_38 rfl (fun c24 => ?_) (fun c24 => ?_)
            · replace hq := lf_pos hq (lf_eq (lf_rf J23_l5) (lf_lc 4 (4 : Int) rfl) c24)
              have h25 := ib_eq h21 (ib_c 4 4 4 rfl) c24
              have h26 : ib J23_l5 4 4 := ib_w 4 4 h25.1 rfl
              exact jn52  H locs ls (ib_w 0 1604 hJ23_l3 rfl) (ib_w 0 1 hJ23_l4 rfl) (ib_w 0 4 h26 rfl) (ib_w 0 1599 hK23_x_this_at rfl) (ib_w 1 1 hK23_x_this_sort rfl) (by exact hq) hP hD hS (lv_sub hl [0, 1, 2, 3, 4, 5] rfl)
            · as_aux_lemma =>
                replace hq := lf_neg hq (lf_ne (lf_rf J23_l5) (lf_lc 4 (4 : Int) rfl) c24)
                have h27 : ib J23_l5 0 3 := ib_w 0 3 (ib_ne_hi 4 h21 rfl c24) rfl
                refine lv_aload_n hx hb dX5_wordIn_41 rfl (lv_at hl 1 rfl) ?_
                refine lv_iload hx hb dX5_wordIn_42 (lv_at hl 5 rfl) ?_
                refine k_jim hP hD hS hA [] [true, true] rfl rfl rfl 0 0 (Nat.le_of_ble_eq_true rfl) (Nat.le_of_ble_eq_true rfl) (fun hPc hDc => k_runVO (As := [.int J23_l5]) (rest := []) C0 hZ hS hA (cx_charAt l dC dI cy sq 8 (by decide) J23_l5 (ib_ch 8 4 h27 rfl rfl).1 (ib_ch 8 4 h27 rfl rfl).2.1 (ib_ch 8 4 h27 rfl rfl).2.2) mV_X5_248 hPc hDc (vk_recv hZ.1 (by decide) hS) hl rfl rfl (Nat.le_of_ble_eq_true rfl) ⟨(Nat.le_of_ble_eq_true rfl), (Nat.le_of_ble_eq_true rfl)⟩ ⟨(Nat.le_of_ble_eq_true rfl), (Nat.le_of_ble_eq_true rfl)⟩ dX5_wordIn_44) (fun r28 u29 H locs hw hP hD hS => ?_)
                replace hP : va_P (dC, dI) vwCl [(wo_5_riiiiirii a_this a_this_text x_this_length x_this_at x_this_behind x_this_sort x_this_allowed a_this_plan x_this_fault x_this_place), (wi_0_1600_0 a_this_text cy g_this_text)] H := hP
                replace hD := k_D hP hD
                have Er28 := lf_cha (j := 8) hw (lf_rf J23_l5)
                refine lv_bipush (v := 32) hx hb dX5_wordIn_47 rfl ?_
                refine lv_icmp_ne (tgt := 81) hx hb dX5_wordIn_49 rfl (fun c30 => ?_) (fun c30 => ?_)
                · as_aux_lemma =>
                    replace hq := lf_neg hq (lf_ne Er28 (lf_lc 32 (32 : Int) rfl) c30)
                    refine lv_iload hx hb dX5_wordIn_81 (lv_at hl 4 rfl) ?_
                    refine lv_if_eq (tgt := 113) hx hb dX5_wordIn_83 rfl (fun c31 => ?_) (fun c31 => ?_)
                    · replace hq := lf_pos hq (lf_eq (lf_rf J23_l4) (lf_lc 0 (0 : Int) rfl) c31)
                      have h32 := ib_eq hJ23_l4 (ib_c 0 0 0 rfl) c31
                      have h33 : ib J23_l4 0 0 := ib_w 0 0 h32.1 rfl
                      have h34 : ib J23_l3 0 1603 := ⟨(hJ23_l3).1, by have := (hJ23_l3).2; have := hJ23_lin0; have := (h27).2; omega⟩
                      exact jn113  H locs ls (ib_w 0 1603 h34 rfl) (ib_w 0 1 h33 rfl) (ib_w 0 3 h27 rfl) (ib_w 0 1599 hK23_x_this_at rfl) (ib_w 1 1 hK23_x_this_sort rfl) (by have := hJ23_lin0; omega) (by exact hq) hP hD hS (lv_sub hl [0, 1, 2, 3, 4, 5] rfl)
                    · as_aux_lemma =>
                        replace hq := lf_neg hq (lf_ne (lf_rf J23_l4) (lf_lc 0 (0 : Int) rfl) c31)
                        have h35 : ib J23_l4 1 1 := ib_w 1 1 (ib_ne_lo 0 hJ23_l4 rfl c31) rfl
                        refine lv_iload_n hx hb dX5_wordIn_86 rfl (lv_at hl 3 rfl) ?_
                        refine lv_aload_n hx hb dX5_wordIn_87 rfl (lv_at hl 0 rfl) ?_
                        refine k_get C0 fg_X5_18 hP 0 rfl rfl dX5_wordIn_88 ?_
                        refine lv_icmp_ge (tgt := 113) hx hb dX5_wordIn_91 rfl (fun c36 => ?_) (fun c36 => ?_)
                        · replace hq := lf_pos hq (lf_le (lf_rf x_this_behind) (lf_rf J23_l3) c36)
                          have h37 := ib_le hx_this_behind hJ23_l3 c36
                          have h38 : ib J23_l3 0 1603 := ⟨(hJ23_l3).1, by have := (hJ23_l3).2; have := hJ23_lin0; have := (h27).2; omega⟩
                          exact jn113  H locs ls (ib_w 0 1603 h38 rfl) (ib_w 0 1 h35 rfl) (ib_w 0 3 h27 rfl) (ib_w 0 1599 hK23_x_this_at rfl) (ib_w 1 1 hK23_x_this_sort rfl) (by have := hJ23_lin0; omega) (by exact hq) hP hD hS (lv_sub hl [0, 1, 2, 3, 4, 5] rfl)
                        · as_aux_lemma =>
                            replace hq := lf_neg hq (lf_nle (lf_rf x_this_behind) (lf_rf J23_l3) c36)
                            have h39 := ib_nle hx_this_behind hJ23_l3 c36
                            have h40 : ib x_this_behind 1 1600 := ib_w 1 1600 h39.1 rfl
                            have h41 : ib J23_l3 0 1599 := ib_w 0 1599 h39.2 rfl
                            refine lv_aload_n hx hb dX5_wordIn_94 rfl (lv_at hl 0 rfl) ?_
                            refine k_get C0 fg_X5_33 hP 0 rfl rfl dX5_wordIn_95 ?_
                            refine lv_iload_n hx hb dX5_wordIn_98 rfl (lv_at hl 3 rfl) ?_
                            refine va_iald hx hb C0.2.2.2.2.2.1 hP 1 0 rfl rfl (ib_in 1600 h41 rfl) dX5_wordIn_99 ?_
                            refine lv_topi (fun z42 ez42 => ?_)
                            have h43 : ib z42 0 255 := by rw [ez42]; exact ia_at hg_this_text (ib_in 1600 h41 rfl)
                            have Ez42 := lf_ld ez42 (lf_ra g_this_text) (lf_rf J23_l3)
                            refine lv_aload_n hx hb dX5_wordIn_100 rfl (lv_at hl 1 rfl) ?_
                            refine lv_iload hx hb dX5_wordIn_101 (lv_at hl 5 rfl) ?_
                            refine k_jim hP hD hS hA [] [true, true] rfl rfl rfl 0 0 (Nat.le_of_ble_eq_true rfl) (Nat.le_of_ble_eq_true rfl) (fun hPc hDc => k_runVO (As := [.int J23_l5]) (rest := [.int z42]) C0 hZ hS hA (cx_charAt l dC dI cy sq 8 (by decide) J23_l5 (ib_ch 8 4 h27 rfl rfl).1 (ib_ch 8 4 h27 rfl rfl).2.1 (ib_ch 8 4 h27 rfl rfl).2.2) mV_X5_248 hPc hDc (vk_recv hZ.1 (by decide) hS) hl rfl rfl (Nat.le_of_ble_eq_true rfl) ⟨(Nat.le_of_ble_eq_true rfl), (Nat.le_of_ble_eq_true rfl)⟩ ⟨(Nat.le_of_ble_eq_true rfl), (Nat.le_of_ble_eq_true rfl)⟩ dX5_wordIn_103) (fun r44 u45 H locs hw hP hD hS => ?_)
                            replace hP : va_P (dC, dI) vwCl [(wo_5_riiiiirii a_this a_this_text x_this_length x_this_at x_this_behind x_this_sort x_this_allowed a_this_plan x_this_fault x_this_place), (wi_0_1600_0 a_this_text cy g_this_text)] H := hP
                            replace hD := k_D hP hD
                            have Er44 := lf_cha (j := 8) hw (lf_rf J23_l5)
                            refine lv_icmp_ne (tgt := 113) hx hb dX5_wordIn_106 rfl (fun c46 => ?_) (fun c46 => ?_)
                            · replace hq := lf_neg hq (lf_ne Ez42 Er44 c46)
                              exact jn113  H locs ls (ib_w 0 1603 h41 rfl) (ib_w 0 1 h35 rfl) (ib_w 0 3 h27 rfl) (ib_w 0 1599 hK23_x_this_at rfl) (ib_w 1 1 hK23_x_this_sort rfl) (by have := hJ23_lin0; omega) (by exact hq) hP hD hS (lv_sub hl [0, 1, 2, 3, 4, 5] rfl)
                            · replace hq := lf_pos hq (lf_eq Ez42 Er44 c46)
                              have h47 := ib_eq h43 (ib_any r44) c46
                              have h48 : ib r44 0 255 := ib_w 0 255 h47.2 rfl
                              refine lv_iconst (v := 1) hx hb dX5_wordIn_109 rfl ?_
                              refine lv_goto (tgt := 114) hx hb dX5_wordIn_110 rfl ?_
                              exact jn114 1 H locs ls (ib_w 0 1603 h41 rfl) (ib_w 0 1 h35 rfl) (ib_w 0 3 h27 rfl) (ib_w 0 1599 hK23_x_this_at rfl) (ib_w 1 1 hK23_x_this_sort rfl) (ib_w 0 1 (ib_c 1 1 1 rfl) rfl) (by have := hJ23_lin0; omega) (by try simp only [show (1 : Int32).toInt = (1 : Int) from rfl]; exact hq) hP hD hS (lv_sub hl [0, 1, 2, 3, 4, 5] rfl)
                · replace hq := lf_pos hq (lf_eq Er28 (lf_lc 32 (32 : Int) rfl) c30)
                  have h49 := ib_eq (ib_any r28) (ib_c 32 32 32 rfl) c30
                  have h50 : ib r28 32 32 := ib_w 32 32 h49.1 rfl
                  have h51 : ib J23_l3 0 1603 := ⟨(hJ23_l3).1, by have := (hJ23_l3).2; have := hJ23_lin0; have := (h27).2; omega⟩
                  exact jn52  H locs ls (ib_w 0 1604 h51 rfl) (ib_w 0 1 hJ23_l4 rfl) (ib_w 0 4 h27 rfl) (ib_w 0 1599 hK23_x_this_at rfl) (ib_w 1 1 hK23_x_this_sort rfl) (by exact hq) hP hD hS (lv_sub hl [0, 1, 2, 3, 4, 5] rfl)
  refine lv_aload_n hx hb dX5_wordIn_0 rfl (lv_at hl 0 rfl) ?_
  refine k_get C0 fg_X5_21 hP 0 rfl rfl dX5_wordIn_1 ?_
  refine lv_iconst (v := 1) hx hb dX5_wordIn_4 rfl ?_
  refine lv_icmp_eq (tgt := 10) hx hb dX5_wordIn_5 rfl (fun c52 => ?_) (fun c52 => ?_)
  · replace hq := lf_pos hq (lf_eq (lf_rf x_this_sort) (lf_lc 1 (1 : Int) rfl) c52)
    have h53 := ib_eq hx_this_sort (ib_c 1 1 1 rfl) c52
    have h54 : ib x_this_sort 1 1 := ib_w 1 1 h53.1 rfl
    have h55 : ib x_this_at 0 1599 := ib_w 0 1599 (ib_two hx_this_at (hc0_this (ib_nz h54 rfl))) rfl
    refine lv_iconst (v := 0) hx hb dX5_wordIn_10 rfl ?_
    refine lv_istore_n (lv' := [(2, .int 0), (0, .ref a_this), (1, .ref (sq 8))]) hx hb dX5_wordIn_11 rfl hl (Nat.le_of_ble_eq_true rfl) rfl (fun ls hl => ?_)
    refine lv_aload_n hx hb dX5_wordIn_12 rfl (lv_at hl 1 rfl) ?_
    refine k_get C0 fg_X5_15 hP 0 rfl rfl dX5_wordIn_13 ?_
    refine lv_istore_n (lv' := [(3, .int x_this_at), (2, .int 0), (0, .ref a_this), (1, .ref (sq 8))]) hx hb dX5_wordIn_16 rfl hl (Nat.le_of_ble_eq_true rfl) rfl (fun ls hl => ?_)
    refine lv_iconst (v := 1) hx hb dX5_wordIn_17 rfl ?_
    refine lv_istore (lv' := [(4, .int 1), (3, .int x_this_at), (2, .int 0), (0, .ref a_this), (1, .ref (sq 8))]) hx hb dX5_wordIn_18 hl (Nat.le_of_ble_eq_true rfl) rfl (fun ls hl => ?_)
    refine lv_iconst (v := 0) hx hb dX5_wordIn_20 rfl ?_
    refine lv_istore (lv' := [(5, .int 0), (4, .int 1), (3, .int x_this_at), (2, .int 0), (0, .ref a_this), (1, .ref (sq 8))]) hx hb dX5_wordIn_21 hl (Nat.le_of_ble_eq_true rfl) rfl (fun ls hl => ?_)
    exact jn23 7 0 x_this_at 1 0 H locs ls (ib_w 0 1599 h55 rfl) (ib_w 1 1 h54 rfl) (ib_w 0 1604 h55 rfl) (ib_w 0 1 (ib_c 1 1 1 rfl) rfl) (ib_w 0 5 (ib_c 0 0 0 rfl) rfl) (by have : (0 : Int32).toInt = 0 := rfl; have := (h55).2; omega) (by try simp only [show (0 : Int32).toInt = (0 : Int) from rfl]; try simp only [show (1 : Int32).toInt = (1 : Int) from rfl]; exact hq) (by have := (ib_c 0 0 0 rfl); unfold ib at this; omega) hP hD hS (lv_sub hl [4, 5, 3, 2, 1, 0] rfl)
  · replace hq := lf_neg hq (lf_ne (lf_rf x_this_sort) (lf_lc 1 (1 : Int) rfl) c52)
    refine lv_iconst (v := (-1)) hx hb dX5_wordIn_8 rfl ?_
    subst hQ; exact k_iret hx hb hr hlk rfl () hS ((hO.symm.trans (by try simp only [show ((-1) : Int32).toInt = (-1 : Int) from rfl]; exact hq))) hP hD (Nat.le_of_ble_eq_true rfl) (Nat.le_of_ble_eq_true rfl) dX5_wordIn_9
