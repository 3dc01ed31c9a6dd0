set_option maxHeartbeats 4000000 in
set_option maxRecDepth 100000 in
theorem s_X5_fact_a0_1 (l : Launch) (dC : Nat → ClassId) (dI : Nat → Nat → Nat) (cy : Nat → ClassId) (sq : Nat → Nat) (a_this : Nat) (a_this_text : Nat) (g_this_text : Nat → Int32) (x_this_length : Int32) (x_this_at : Int32) (x_this_behind : Int32) (x_this_sort : Int32) (x_this_allowed : Int32) (a_this_plan : Nat) (x_this_plan_cycle : Int32) (x_this_plan_green : Int32) (x_this_plan_rule : Int32) (x_this_plan_least : Int32) (x_this_plan_away : Int32) (x_this_plan_statements : Int32) (x_this_plan_kinds : Int32) (a_this_plan_calm : Nat) (a_this_plan_pace : Nat) (a_this_plan_trusts : Nat) (x_this_plan_walkers : Int32) (a_this_plan_kindOf : Nat) (a_this_plan_comesAt : Nat) (a_this_plan_comers : Nat) (a_this_plan_names : Nat) (a_this_plan_code : Nat) (g_this_plan_code : Nat → Int32) (x_this_plan_size : Int32) (a_this_plan_spans : Nat) (x_this_fault : Int32) (x_this_place : Int32) (hg_this_text : ia g_this_text 1600 0 255) (hx_this_length : ib x_this_length 0 1600) (hx_this_at : ib x_this_at 0 1600) (hx_this_behind : ib x_this_behind 0 1600) (hx_this_sort : ib x_this_sort 0 4) (hx_this_plan_size : ib x_this_plan_size 0 1600) (hc0_this : ¬ x_this_sort = 0 → ib x_this_at 0 1599) : k_Met l yX5_fact cX5_fact 3 none { frames := 29, cells := 0, slots := 0, locals := 700 } dC dI cy sq [.ref a_this, .int 1] [(wo_5_riiiiirii a_this a_this_text x_this_length x_this_at x_this_behind x_this_sort x_this_allowed a_this_plan x_this_fault x_this_place), (wi_0_1600_0 a_this_text cy g_this_text), (wo_4_iiiiiiirrrirrrrrir a_this_plan x_this_plan_cycle x_this_plan_green x_this_plan_rule x_this_plan_least x_this_plan_away x_this_plan_statements x_this_plan_kinds a_this_plan_calm a_this_plan_pace a_this_plan_trusts x_this_plan_walkers a_this_plan_kindOf a_this_plan_comesAt a_this_plan_comers a_this_plan_names a_this_plan_code x_this_plan_size a_this_plan_spans), (wi_0_1600_0 a_this_plan_code cy g_this_plan_code)] (k_Qv dC dI (fun (u : Int32 × Int32 × Int32 × Int32 × Int32 × Int32 × (Nat → Int32)) => match u with | (n0, n1, n2, n3, n4, n5, n6) => ib n0 0 1600 ∧ ib n1 0 1600 ∧ ib n2 0 4 ∧ ib n5 0 1600 ∧ (¬ n2 = 0 → ib n0 0 1599) ∧ (F_X5_fact_a0_1 (lf_A g_this_text) (Int32.toInt x_this_length) (Int32.toInt x_this_at) (Int32.toInt x_this_behind) (Int32.toInt x_this_sort) (Int32.toInt x_this_allowed) (lf_A g_this_plan_code) (Int32.toInt x_this_plan_size) (Int32.toInt x_this_fault) (Int32.toInt x_this_place) = ((Int32.toInt n0), (Int32.toInt n1), (Int32.toInt n2), (Int32.toInt n3), (Int32.toInt n4), (Int32.toInt n5), (lf_A n6)))) (fun u : Int32 × Int32 × Int32 × Int32 × Int32 × Int32 × (Nat → Int32) => match u with | (n0, n1, n2, n3, n4, n5, n6) => [(wo_5_riiiiirii a_this a_this_text x_this_length n0 n1 n2 x_this_allowed a_this_plan n3 n4), (wi_0_1600_0 a_this_text cy g_this_text), (wo_4_iiiiiiirrrirrrrrir a_this_plan x_this_plan_cycle x_this_plan_green x_this_plan_rule x_this_plan_least x_this_plan_away x_this_plan_statements x_this_plan_kinds a_this_plan_calm a_this_plan_pace a_this_plan_trusts x_this_plan_walkers a_this_plan_kindOf a_this_plan_comesAt a_this_plan_comers a_this_plan_names a_this_plan_code n5 a_this_plan_spans), (wi_0_1600_0 a_this_plan_code cy n6)])) := by
  refine k_ofW2 (by decide +kernel) (Nat.le_of_ble_eq_true rfl) ?_
  intro p e s m below meth c A ls H locs args Q hQ C0 hZ hr hlk hin hP hD hA hS hl
  have C0 : k_cx p s m args c cX5_fact 3 RX5 dC dI cy sq := C0
  have hx := C0.1
  have hb := C0.2.1
  have hl : lv_has ls 3 [(0, .ref a_this), (1, .int 1)] := hl
  obtain ⟨O, hO⟩ : ∃ o, o = F_X5_fact_a0_1 (lf_A g_this_text) (Int32.toInt x_this_length) (Int32.toInt x_this_at) (Int32.toInt x_this_behind) (Int32.toInt x_this_sort) (Int32.toInt x_this_allowed) (lf_A g_this_plan_code) (Int32.toInt x_this_plan_size) (Int32.toInt x_this_fault) (Int32.toInt x_this_place) := ⟨_, rfl⟩
  have hq := hO
  unfold F_X5_fact_a0_1 at hq
  refine lv_aload_n hx hb dX5_fact_0 rfl (lv_at hl 0 rfl) ?_
  refine va_ldcS hx hb C0.2.2.2.1 (C0.2.2.2.2.2.2.2.2.2.2.2.2 15 (by decide)) dX5_fact_1 ?_
  refine k_jim hP hD hS hA [0, 1] [false, false, true, true] rfl rfl rfl 0 0 (Nat.le_of_ble_eq_true rfl) (Nat.le_of_ble_eq_true rfl) (fun hPc hDc => k_runV (As := [.ref (sq 15)]) (rest := []) C0 hZ hS hA (s_X5_wordIn_s15 l dC dI cy sq a_this a_this_text g_this_text x_this_length x_this_at x_this_behind x_this_sort x_this_allowed a_this_plan x_this_fault x_this_place hg_this_text (ib_w 0 1600 hx_this_at rfl) (ib_w 0 1600 hx_this_behind rfl) (ib_w 0 4 hx_this_sort rfl) (fun hq9 => ib_w 0 1599 (hc0_this hq9) rfl)) mV_X5_54 hPc hDc rfl rfl rfl hl rfl rfl (Nat.le_of_ble_eq_true rfl) ⟨(Nat.le_of_ble_eq_true rfl), (Nat.le_of_ble_eq_true rfl)⟩ ⟨(Nat.le_of_ble_eq_true rfl), (Nat.le_of_ble_eq_true rfl)⟩ dX5_fact_3) (fun r1 u2 H locs hw hP hD hS => ?_)
  try dsimp only at hP hD hw
  replace hP : va_P (dC, dI) vwCl [(wo_4_iiiiiiirrrirrrrrir a_this_plan x_this_plan_cycle x_this_plan_green x_this_plan_rule x_this_plan_least x_this_plan_away x_this_plan_statements x_this_plan_kinds a_this_plan_calm a_this_plan_pace a_this_plan_trusts x_this_plan_walkers a_this_plan_kindOf a_this_plan_comesAt a_this_plan_comers a_this_plan_names a_this_plan_code x_this_plan_size a_this_plan_spans), (wi_0_1600_0 a_this_plan_code cy g_this_plan_code), (wo_5_riiiiirii a_this a_this_text x_this_length x_this_at x_this_behind x_this_sort x_this_allowed a_this_plan x_this_fault x_this_place), (wi_0_1600_0 a_this_text cy g_this_text)] H := hP
  replace hD := k_D hP hD
  have h3 := hw
  replace hq := lf_b1 hq h3
  refine lv_iconst (v := (-1)) hx hb dX5_fact_6 rfl ?_
  refine lv_icmp_eq (tgt := 34) hx hb dX5_fact_7 rfl (fun c4 => ?_) (fun c4 => ?_)
  · as_aux_lemma =>
      replace hq := lf_pos hq (lf_eq (lf_rf r1) (lf_lc (-1) (-1 : Int) rfl) c4)
      have h5 := ib_eq (ib_any r1) (ib_c (-1) (-1) (-1) rfl) c4
      have h6 : ib r1 (-1) (-1) := ib_w (-1) (-1) h5.1 rfl
      refine lv_aload_n hx hb dX5_fact_34 rfl (lv_at hl 0 rfl) ?_
      refine lv_bipush (v := 91) hx hb dX5_fact_35 rfl ?_
      refine k_jim hP hD hS hA [2, 3] [true, true] rfl rfl rfl 0 0 (Nat.le_of_ble_eq_true rfl) (Nat.le_of_ble_eq_true rfl) (fun hPc hDc => k_runV (As := [.int 91]) (rest := []) C0 hZ hS hA (s_X5_sees l dC dI cy sq a_this a_this_text g_this_text x_this_length x_this_at x_this_behind x_this_sort x_this_allowed a_this_plan x_this_fault x_this_place 91 hg_this_text (ib_w 0 1600 hx_this_at rfl) (ib_w 0 4 hx_this_sort rfl) (fun hq9 => ib_w 0 1599 (hc0_this hq9) rfl)) mV_X5_213 hPc hDc rfl rfl rfl hl rfl rfl (Nat.le_of_ble_eq_true rfl) ⟨(Nat.le_of_ble_eq_true rfl), (Nat.le_of_ble_eq_true rfl)⟩ ⟨(Nat.le_of_ble_eq_true rfl), (Nat.le_of_ble_eq_true rfl)⟩ dX5_fact_37) (fun r7 u8 H locs hw hP hD hS => ?_)
      try dsimp only at hP hD hw
      replace hP : va_P (dC, dI) vwCl [(wo_4_iiiiiiirrrirrrrrir a_this_plan x_this_plan_cycle x_this_plan_green x_this_plan_rule x_this_plan_least x_this_plan_away x_this_plan_statements x_this_plan_kinds a_this_plan_calm a_this_plan_pace a_this_plan_trusts x_this_plan_walkers a_this_plan_kindOf a_this_plan_comesAt a_this_plan_comers a_this_plan_names a_this_plan_code x_this_plan_size a_this_plan_spans), (wi_0_1600_0 a_this_plan_code cy g_this_plan_code), (wo_5_riiiiirii a_this a_this_text x_this_length x_this_at x_this_behind x_this_sort x_this_allowed a_this_plan x_this_fault x_this_place), (wi_0_1600_0 a_this_text cy g_this_text)] H := hP
      replace hD := k_D hP hD
      obtain ⟨h9, h10, h11, h12, h13⟩ := hw
      have h13 := by have h9 := h13; try simp only [show (91 : Int32).toInt = (91 : Int) from rfl] at h9; exact h9
      replace hq := lf_b1 hq h13
      refine lv_if_eq (tgt := 67) hx hb dX5_fact_40 rfl (fun c14 => ?_) (fun c14 => ?_)
      · as_aux_lemma =>
          replace hq := lf_pos hq (lf_eq (lf_rf r7) (lf_lc 0 (0 : Int) rfl) c14)
          have h15 := ib_eq h9 (ib_c 0 0 0 rfl) c14
          have h16 : ib r7 0 0 := ib_w 0 0 h15.1 rfl
          refine lv_aload_n hx hb dX5_fact_67 rfl (lv_at hl 0 rfl) ?_
          refine va_ldcS hx hb C0.2.2.2.1 (C0.2.2.2.2.2.2.2.2.2.2.2.2 16 (by decide)) dX5_fact_68 ?_
          refine k_jim hP hD hS hA [2, 3] [true, true] rfl rfl rfl 0 0 (Nat.le_of_ble_eq_true rfl) (Nat.le_of_ble_eq_true rfl) (fun hPc hDc => k_runV (As := [.ref (sq 16)]) (rest := []) C0 hZ hS hA (s_X5_takeWord_s16 l dC dI cy sq a_this a_this_text g_this_text x_this_length x_this_at x_this_behind x_this_sort x_this_allowed a_this_plan x_this_fault x_this_place hg_this_text (ib_w 0 1600 hx_this_length rfl) (ib_w 0 1600 hx_this_at rfl) (ib_w 0 1600 hx_this_behind rfl) (ib_w 0 4 hx_this_sort rfl) (fun hq9 => ib_w 0 1599 (hc0_this hq9) rfl)) mV_X5_195 hPc hDc rfl rfl rfl hl rfl rfl (Nat.le_of_ble_eq_true rfl) ⟨(Nat.le_of_ble_eq_true rfl), (Nat.le_of_ble_eq_true rfl)⟩ ⟨(Nat.le_of_ble_eq_true rfl), (Nat.le_of_ble_eq_true rfl)⟩ dX5_fact_70) (fun r17 u18 H locs hw hP hD hS => ?_)
          obtain ⟨v19, v20, v21⟩ := u18
          try dsimp only at hP hD hw
          replace hP : va_P (dC, dI) vwCl [(wo_4_iiiiiiirrrirrrrrir a_this_plan x_this_plan_cycle x_this_plan_green x_this_plan_rule x_this_plan_least x_this_plan_away x_this_plan_statements x_this_plan_kinds a_this_plan_calm a_this_plan_pace a_this_plan_trusts x_this_plan_walkers a_this_plan_kindOf a_this_plan_comesAt a_this_plan_comers a_this_plan_names a_this_plan_code x_this_plan_size a_this_plan_spans), (wi_0_1600_0 a_this_plan_code cy g_this_plan_code), (wo_5_riiiiirii a_this a_this_text x_this_length v19 v20 v21 x_this_allowed a_this_plan x_this_fault x_this_place), (wi_0_1600_0 a_this_text cy g_this_text)] H := hP
          replace hD := k_D hP hD
          obtain ⟨h22, h23, h24, h25, h26, h27⟩ := hw
          replace hq := lf_p1 hq h27
          replace hq := lf_p1 hq rfl
          replace hq := lf_p1 hq rfl
          refine lv_if_eq (tgt := 84) hx hb dX5_fact_73 rfl (fun c28 => ?_) (fun c28 => ?_)
          · as_aux_lemma =>
              replace hq := lf_pos hq (lf_eq (lf_rf r17) (lf_lc 0 (0 : Int) rfl) c28)
              have h29 := ib_eq h22 (ib_c 0 0 0 rfl) c28
              have h30 : ib r17 0 0 := ib_w 0 0 h29.1 rfl
              refine lv_aload_n hx hb dX5_fact_84 rfl (lv_at hl 0 rfl) ?_
              refine lv_iload_n hx hb dX5_fact_85 rfl (lv_at hl 1 rfl) ?_
              refine k_jvm hP hD hS hA [2, 3, 0, 1] [] rfl rfl rfl 0 0 (Nat.le_of_ble_eq_true rfl) (Nat.le_of_ble_eq_true rfl) (fun hPc hDc => k_runV (As := [.int 1]) (rest := []) C0 hZ hS hA (s_X5_sum_a0_1 l dC dI cy sq a_this a_this_text g_this_text x_this_length v19 v20 v21 x_this_allowed a_this_plan x_this_plan_cycle x_this_plan_green x_this_plan_rule x_this_plan_least x_this_plan_away x_this_plan_statements x_this_plan_kinds a_this_plan_calm a_this_plan_pace a_this_plan_trusts x_this_plan_walkers a_this_plan_kindOf a_this_plan_comesAt a_this_plan_comers a_this_plan_names a_this_plan_code g_this_plan_code x_this_plan_size a_this_plan_spans x_this_fault x_this_place hg_this_text (ib_w 0 1600 hx_this_length rfl) (ib_w 0 1600 h23 rfl) (ib_w 0 1600 h24 rfl) (ib_w 0 4 h25 rfl) (ib_w 0 1600 hx_this_plan_size rfl) (fun hq9 => ib_w 0 1599 (h26 hq9) rfl)) mV_X5_93 hPc hDc rfl rfl rfl hl rfl rfl (Nat.le_of_ble_eq_true rfl) ⟨(Nat.le_of_ble_eq_true rfl), (Nat.le_of_ble_eq_true rfl)⟩ ⟨(Nat.le_of_ble_eq_true rfl), (Nat.le_of_ble_eq_true rfl)⟩ dX5_fact_86) (fun u32 H locs hw hP hD hS => ?_)
              obtain ⟨v33, v34, v35, v36, v37, v38, f39⟩ := u32
              try dsimp only at hP hD hw
              replace hP : va_P (dC, dI) vwCl [(wo_5_riiiiirii a_this a_this_text x_this_length v33 v34 v35 x_this_allowed a_this_plan v36 v37), (wi_0_1600_0 a_this_text cy g_this_text), (wo_4_iiiiiiirrrirrrrrir a_this_plan x_this_plan_cycle x_this_plan_green x_this_plan_rule x_this_plan_least x_this_plan_away x_this_plan_statements x_this_plan_kinds a_this_plan_calm a_this_plan_pace a_this_plan_trusts x_this_plan_walkers a_this_plan_kindOf a_this_plan_comesAt a_this_plan_comers a_this_plan_names a_this_plan_code v38 a_this_plan_spans), (wi_0_1600_0 a_this_plan_code cy f39)] H := hP
              replace hD := k_D hP hD
              obtain ⟨h40, h41, h42, h43, h44, h45⟩ := hw
              replace hq := lf_p1 hq h45
              replace hq := lf_p1 hq rfl
              replace hq := lf_p1 hq rfl
              replace hq := lf_p1 hq rfl
              replace hq := lf_p1 hq rfl
              replace hq := lf_p1 hq rfl
              refine lv_aload_n hx hb dX5_fact_89 rfl (lv_at hl 0 rfl) ?_
              refine k_jim hP hD hS hA [0, 1] [false, false, true, true] rfl rfl rfl 0 0 (Nat.le_of_ble_eq_true rfl) (Nat.le_of_ble_eq_true rfl) (fun hPc hDc => k_runV (As := []) (rest := []) C0 hZ hS hA (s_X5_signHere l dC dI cy sq a_this a_this_text g_this_text x_this_length v33 v34 v35 x_this_allowed a_this_plan v36 v37 hg_this_text (ib_w 0 1600 hx_this_length rfl) (ib_w 0 1600 h40 rfl) (ib_w 0 1600 h41 rfl) (ib_w 0 4 h42 rfl) (fun hq9 => ib_w 0 1599 (h44 hq9) rfl)) mV_X5_219 hPc hDc rfl rfl rfl hl rfl rfl (Nat.le_of_ble_eq_true rfl) ⟨(Nat.le_of_ble_eq_true rfl), (Nat.le_of_ble_eq_true rfl)⟩ ⟨(Nat.le_of_ble_eq_true rfl), (Nat.le_of_ble_eq_true rfl)⟩ dX5_fact_90) (fun r46 u47 H locs hw hP hD hS => ?_)
              obtain ⟨v48, v49, v50, v51, v52⟩ := u47
              try dsimp only at hP hD hw
              replace hP : va_P (dC, dI) vwCl [(wo_4_iiiiiiirrrirrrrrir a_this_plan x_this_plan_cycle x_this_plan_green x_this_plan_rule x_this_plan_least x_this_plan_away x_this_plan_statements x_this_plan_kinds a_this_plan_calm a_this_plan_pace a_this_plan_trusts x_this_plan_walkers a_this_plan_kindOf a_this_plan_comesAt a_this_plan_comers a_this_plan_names a_this_plan_code v38 a_this_plan_spans), (wi_0_1600_0 a_this_plan_code cy f39), (wo_5_riiiiirii a_this a_this_text x_this_length v48 v49 v50 x_this_allowed a_this_plan v51 v52), (wi_0_1600_0 a_this_text cy g_this_text)] H := hP
              replace hD := k_D hP hD
              obtain ⟨h53, h54, h55, h56, h57, h58⟩ := hw
              replace hq := lf_p1 hq h58
              replace hq := lf_p1 hq rfl
              replace hq := lf_p1 hq rfl
              replace hq := lf_p1 hq rfl
              replace hq := lf_p1 hq rfl
              refine lv_istore_n (lv' := [(2, .int r46), (0, .ref a_this), (1, .int 1)]) hx hb dX5_fact_93 rfl hl (Nat.le_of_ble_eq_true rfl) rfl (fun ls hl => ?_)
              as_aux_lemma =>
                refine lv_aload_n hx hb dX5_fact_94 rfl (lv_at hl 1 rfl) ?_
                refine lv_aload_n hx hb dX5_fact_95 rfl (lv_at hl 1 rfl) ?_
                refine k_get C0 fg_X5_18 hP 2 rfl rfl dX5_fact_96 ?_
                refine k_jvm hP hD hS hA [2, 3] [true, true] rfl rfl rfl 0 0 (Nat.le_of_ble_eq_true rfl) (Nat.le_of_ble_eq_true rfl) (fun hPc hDc => k_runV (As := [.int v49]) (rest := []) C0 hZ hS hA (s_X5_moveTo l dC dI cy sq a_this a_this_text g_this_text x_this_length v48 v49 v50 x_this_allowed a_this_plan v51 v52 v49 hg_this_text (ib_w 0 1600 hx_this_length rfl) (ib_w 0 1600 h55 rfl)) mV_X5_86 hPc hDc rfl rfl rfl hl rfl rfl (Nat.le_of_ble_eq_true rfl) ⟨(Nat.le_of_ble_eq_true rfl), (Nat.le_of_ble_eq_true rfl)⟩ ⟨(Nat.le_of_ble_eq_true rfl), (Nat.le_of_ble_eq_true rfl)⟩ dX5_fact_99) (fun u60 H locs hw hP hD hS => ?_)
                obtain ⟨v61, v62, v63⟩ := u60
                try dsimp only at hP hD hw
                replace hP : va_P (dC, dI) vwCl [(wo_4_iiiiiiirrrirrrrrir a_this_plan x_this_plan_cycle x_this_plan_green x_this_plan_rule x_this_plan_least x_this_plan_away x_this_plan_statements x_this_plan_kinds a_this_plan_calm a_this_plan_pace a_this_plan_trusts x_this_plan_walkers a_this_plan_kindOf a_this_plan_comesAt a_this_plan_comers a_this_plan_names a_this_plan_code v38 a_this_plan_spans), (wi_0_1600_0 a_this_plan_code cy f39), (wo_5_riiiiirii a_this a_this_text x_this_length v61 v62 v63 x_this_allowed a_this_plan v51 v52), (wi_0_1600_0 a_this_text cy g_this_text)] H := hP
                replace hD := k_D hP hD
                obtain ⟨h64, h65, h66, h67, h68⟩ := hw
                replace hq := lf_p1 hq h68
                replace hq := lf_p1 hq rfl
                refine lv_aload_n hx hb dX5_fact_102 rfl (lv_at hl 1 rfl) ?_
                refine lv_iload_n hx hb dX5_fact_103 rfl (lv_at hl 2 rfl) ?_
                refine k_jvm hP hD hS hA [2, 3, 0, 1] [] rfl rfl rfl 0 0 (Nat.le_of_ble_eq_true rfl) (Nat.le_of_ble_eq_true rfl) (fun hPc hDc => k_runV (As := [.int 1]) (rest := []) C0 hZ hS hA (s_X5_sum_a0_1 l dC dI cy sq a_this a_this_text g_this_text x_this_length v61 v62 v63 x_this_allowed a_this_plan x_this_plan_cycle x_this_plan_green x_this_plan_rule x_this_plan_least x_this_plan_away x_this_plan_statements x_this_plan_kinds a_this_plan_calm a_this_plan_pace a_this_plan_trusts x_this_plan_walkers a_this_plan_kindOf a_this_plan_comesAt a_this_plan_comers a_this_plan_names a_this_plan_code f39 v38 a_this_plan_spans v51 v52 hg_this_text (ib_w 0 1600 hx_this_length rfl) (ib_w 0 1600 h64 rfl) (ib_w 0 1600 h65 rfl) (ib_w 0 4 h66 rfl) (ib_w 0 1600 h43 rfl) (fun hq9 => ib_w 0 1599 (h67 hq9) rfl)) mV_X5_93 hPc hDc rfl rfl rfl hl rfl rfl (Nat.le_of_ble_eq_true rfl) ⟨(Nat.le_of_ble_eq_true rfl), (Nat.le_of_ble_eq_true rfl)⟩ ⟨(Nat.le_of_ble_eq_true rfl), (Nat.le_of_ble_eq_true rfl)⟩ dX5_fact_104) (fun u70 H locs hw hP hD hS => ?_)
                obtain ⟨v71, v72, v73, v74, v75, v76, f77⟩ := u70
                try dsimp only at hP hD hw
                replace hP : va_P (dC, dI) vwCl [(wo_5_riiiiirii a_this a_this_text x_this_length v71 v72 v73 x_this_allowed a_this_plan v74 v75), (wi_0_1600_0 a_this_text cy g_this_text), (wo_4_iiiiiiirrrirrrrrir a_this_plan x_this_plan_cycle x_this_plan_green x_this_plan_rule x_this_plan_least x_this_plan_away x_this_plan_statements x_this_plan_kinds a_this_plan_calm a_this_plan_pace a_this_plan_trusts x_this_plan_walkers a_this_plan_kindOf a_this_plan_comesAt a_this_plan_comers a_this_plan_names a_this_plan_code v76 a_this_plan_spans), (wi_0_1600_0 a_this_plan_code cy f77)] H := hP
                replace hD := k_D hP hD
                obtain ⟨h78, h79, h80, h81, h82, h83⟩ := hw
                replace hq := lf_p1 hq h83
                replace hq := lf_p1 hq rfl
                replace hq := lf_p1 hq rfl
                replace hq := lf_p1 hq rfl
                replace hq := lf_p1 hq rfl
                replace hq := lf_p1 hq rfl
                refine lv_aload_n hx hb dX5_fact_107 rfl (lv_at hl 1 rfl) ?_
                refine lv_iload_n hx hb dX5_fact_108 rfl (lv_at hl 0 rfl) ?_
                refine k_jvm hP hD hS hA [0, 2, 3] [false, true] rfl rfl rfl 0 0 (Nat.le_of_ble_eq_true rfl) (Nat.le_of_ble_eq_true rfl) (fun hPc hDc => k_runV (As := [.int r46]) (rest := []) C0 hZ hS hA (s_X5_emit l dC dI cy sq a_this a_this_text x_this_length v71 v72 v73 x_this_allowed a_this_plan x_this_plan_cycle x_this_plan_green x_this_plan_rule x_this_plan_least x_this_plan_away x_this_plan_statements x_this_plan_kinds a_this_plan_calm a_this_plan_pace a_this_plan_trusts x_this_plan_walkers a_this_plan_kindOf a_this_plan_comesAt a_this_plan_comers a_this_plan_names a_this_plan_code f77 v76 a_this_plan_spans v74 v75 r46 (ib_w 0 1600 h81 rfl)) mV_X5_199 hPc hDc rfl rfl rfl hl rfl rfl (Nat.le_of_ble_eq_true rfl) ⟨(Nat.le_of_ble_eq_true rfl), (Nat.le_of_ble_eq_true rfl)⟩ ⟨(Nat.le_of_ble_eq_true rfl), (Nat.le_of_ble_eq_true rfl)⟩ dX5_fact_109) (fun u85 H locs hw hP hD hS => ?_)
                obtain ⟨v86, f87⟩ := u85
                try dsimp only at hP hD hw
                replace hP : va_P (dC, dI) vwCl [(wi_0_1600_0 a_this_text cy g_this_text), (wo_5_riiiiirii a_this a_this_text x_this_length v71 v72 v73 x_this_allowed a_this_plan v74 v75), (wo_4_iiiiiiirrrirrrrrir a_this_plan x_this_plan_cycle x_this_plan_green x_this_plan_rule x_this_plan_least x_this_plan_away x_this_plan_statements x_this_plan_kinds a_this_plan_calm a_this_plan_pace a_this_plan_trusts x_this_plan_walkers a_this_plan_kindOf a_this_plan_comesAt a_this_plan_comers a_this_plan_names a_this_plan_code v86 a_this_plan_spans), (wi_0_1600_0 a_this_plan_code cy f87)] H := hP
                replace hD := k_D hP hD
                obtain ⟨h88, h89⟩ := hw
                replace hq := lf_p1 hq h89
                subst hQ; exact k_vret hx hb hr hlk ((v71, v72, v73, v74, v75, v86, f87)) hS ⟨ib_w 0 1600 h78 rfl, ib_w 0 1600 h79 rfl, ib_w 0 4 h80 rfl, ib_w 0 1600 h88 rfl, fun hq9 => ib_w 0 1599 (h82 hq9) rfl, (hO.symm.trans (by exact hq))⟩ (hP.sub [1, 0, 2, 3] rfl) (hD.sub [1, 0, 2, 3] rfl rfl) (Nat.le_of_ble_eq_true rfl) (Nat.le_of_ble_eq_true rfl) dX5_fact_112
          · replace hq := lf_neg hq (lf_ne (lf_rf r17) (lf_lc 0 (0 : Int) rfl) c28)
            have h90 : ib r17 1 1 := ib_w 1 1 (ib_ne_lo 0 h22 rfl c28) rfl
            refine lv_aload_n hx hb dX5_fact_76 rfl (lv_at hl 0 rfl) ?_
            refine lv_iconst (v := 1) hx hb dX5_fact_77 rfl ?_
            refine k_jvm hP hD hS hA [2, 0, 1] [false, false, false, true] rfl rfl rfl 0 0 (Nat.le_of_ble_eq_true rfl) (Nat.le_of_ble_eq_true rfl) (fun hPc hDc => k_runV (As := [.int 1]) (rest := []) C0 hZ hS hA (s_X5_emit l dC dI cy sq a_this a_this_text x_this_length v19 v20 v21 x_this_allowed a_this_plan x_this_plan_cycle x_this_plan_green x_this_plan_rule x_this_plan_least x_this_plan_away x_this_plan_statements x_this_plan_kinds a_this_plan_calm a_this_plan_pace a_this_plan_trusts x_this_plan_walkers a_this_plan_kindOf a_this_plan_comesAt a_this_plan_comers a_this_plan_names a_this_plan_code g_this_plan_code x_this_plan_size a_this_plan_spans x_this_fault x_this_place 1 (ib_w 0 1600 hx_this_plan_size rfl)) mV_X5_199 hPc hDc rfl rfl rfl hl rfl rfl (Nat.le_of_ble_eq_true rfl) ⟨(Nat.le_of_ble_eq_true rfl), (Nat.le_of_ble_eq_true rfl)⟩ ⟨(Nat.le_of_ble_eq_true rfl), (Nat.le_of_ble_eq_true rfl)⟩ dX5_fact_78) (fun u92 H locs hw hP hD hS => ?_)
            obtain ⟨v93, f94⟩ := u92
            try dsimp only at hP hD hw
            replace hP : va_P (dC, dI) vwCl [(wi_0_1600_0 a_this_text cy g_this_text), (wo_5_riiiiirii a_this a_this_text x_this_length v19 v20 v21 x_this_allowed a_this_plan x_this_fault x_this_place), (wo_4_iiiiiiirrrirrrrrir a_this_plan x_this_plan_cycle x_this_plan_green x_this_plan_rule x_this_plan_least x_this_plan_away x_this_plan_statements x_this_plan_kinds a_this_plan_calm a_this_plan_pace a_this_plan_trusts x_this_plan_walkers a_this_plan_kindOf a_this_plan_comesAt a_this_plan_comers a_this_plan_names a_this_plan_code v93 a_this_plan_spans), (wi_0_1600_0 a_this_plan_code cy f94)] H := hP
            replace hD := k_D hP hD
            obtain ⟨h95, h96⟩ := hw
            have h96 := by have h9 := h96; try simp only [show (1 : Int32).toInt = (1 : Int) from rfl] at h9; exact h9
            replace hq := lf_p1 hq h96
            refine lv_goto (tgt := 112) hx hb dX5_fact_81 rfl ?_
            subst hQ; exact k_vret hx hb hr hlk ((v19, v20, v21, x_this_fault, x_this_place, v93, f94)) hS ⟨ib_w 0 1600 h23 rfl, ib_w 0 1600 h24 rfl, ib_w 0 4 h25 rfl, ib_w 0 1600 h95 rfl, fun hq9 => ib_w 0 1599 (h26 hq9) rfl, (hO.symm.trans (by exact hq))⟩ (hP.sub [1, 0, 2, 3] rfl) (hD.sub [1, 0, 2, 3] rfl rfl) (Nat.le_of_ble_eq_true rfl) (Nat.le_of_ble_eq_true rfl) dX5_fact_112
      · as_aux_lemma =>
          replace hq := lf_neg hq (lf_ne (lf_rf r7) (lf_lc 0 (0 : Int) rfl) c14)
          have h97 : ib r7 1 1 := ib_w 1 1 (ib_ne_lo 0 h9 rfl c14) rfl
          have h98 : ib x_this_at 0 1599 := ib_w 0 1599 (ib_two hx_this_at (h10 c14)) rfl
          have h99 : ib x_this_sort 3 3 := ib_w 3 3 (ib_two hx_this_sort (h11 c14)) rfl
          refine lv_aload_n hx hb dX5_fact_43 rfl (lv_at hl 0 rfl) ?_
          refine lv_iload_n hx hb dX5_fact_44 rfl (lv_at hl 1 rfl) ?_
          refine k_jim hP hD hS hA [2, 3] [true, true] rfl rfl rfl 0 0 (Nat.le_of_ble_eq_true rfl) (Nat.le_of_ble_eq_true rfl) (fun hPc hDc => k_runV (As := [.int 1]) (rest := []) C0 hZ hS hA (s_X5_enters_a0_1 l dC dI cy sq a_this a_this_text g_this_text x_this_length x_this_at x_this_behind x_this_sort x_this_allowed a_this_plan x_this_fault x_this_place hg_this_text (ib_w 0 1600 hx_this_length rfl) (ib_w 0 1600 hx_this_behind rfl)) mV_X5_209 hPc hDc rfl rfl rfl hl rfl rfl (Nat.le_of_ble_eq_true rfl) ⟨(Nat.le_of_ble_eq_true rfl), (Nat.le_of_ble_eq_true rfl)⟩ ⟨(Nat.le_of_ble_eq_true rfl), (Nat.le_of_ble_eq_true rfl)⟩ dX5_fact_45) (fun r100 u101 H locs hw hP hD hS => ?_)
          obtain ⟨v102, v103, v104⟩ := u101
          try dsimp only at hP hD hw
          replace hP : va_P (dC, dI) vwCl [(wo_4_iiiiiiirrrirrrrrir a_this_plan x_this_plan_cycle x_this_plan_green x_this_plan_rule x_this_plan_least x_this_plan_away x_this_plan_statements x_this_plan_kinds a_this_plan_calm a_this_plan_pace a_this_plan_trusts x_this_plan_walkers a_this_plan_kindOf a_this_plan_comesAt a_this_plan_comers a_this_plan_names a_this_plan_code x_this_plan_size a_this_plan_spans), (wi_0_1600_0 a_this_plan_code cy g_this_plan_code), (wo_5_riiiiirii a_this a_this_text x_this_length v102 v103 v104 x_this_allowed a_this_plan x_this_fault x_this_place), (wi_0_1600_0 a_this_text cy g_this_text)] H := hP
          replace hD := k_D hP hD
          obtain ⟨h105, h106, h107, h108, h109, h110⟩ := hw
          replace hq := lf_p1 hq h110
          replace hq := lf_p1 hq rfl
          replace hq := lf_p1 hq rfl
          refine lv_if_eq (tgt := 112) hx hb dX5_fact_48 rfl (fun c111 => ?_) (fun c111 => ?_)
          · skip
            have h112 := ib_eq h105 (ib_c 0 0 0 rfl) c111
            exact ib_no (ib_w 1 0 h112.1 rfl) rfl
          · as_aux_lemma =>
              skip
              refine lv_aload_n hx hb dX5_fact_51 rfl (lv_at hl 0 rfl) ?_
              refine lv_iload_n hx hb dX5_fact_52 rfl (lv_at hl 1 rfl) ?_
              refine lv_iconst (v := 1) hx hb dX5_fact_53 rfl ?_
              refine lv_iadd hx hb dX5_fact_54 ?_
              refine k_topi (y := 2) (by decide) ?_
              refine k_jvm hP hD hS hA [2, 3, 0, 1] [] rfl rfl rfl 0 0 (Nat.le_of_ble_eq_true rfl) (Nat.le_of_ble_eq_true rfl) (fun hPc hDc => k_runV (As := [.int 2]) (rest := []) C0 hZ hS hA (s_X5_test_a0_2 l dC dI cy sq a_this a_this_text g_this_text x_this_length v102 v103 v104 x_this_allowed a_this_plan x_this_plan_cycle x_this_plan_green x_this_plan_rule x_this_plan_least x_this_plan_away x_this_plan_statements x_this_plan_kinds a_this_plan_calm a_this_plan_pace a_this_plan_trusts x_this_plan_walkers a_this_plan_kindOf a_this_plan_comesAt a_this_plan_comers a_this_plan_names a_this_plan_code g_this_plan_code x_this_plan_size a_this_plan_spans x_this_fault x_this_place hg_this_text (ib_w 0 1600 hx_this_length rfl) (ib_w 0 1600 h106 rfl) (ib_w 0 1600 h107 rfl) (ib_w 0 4 h108 rfl) (ib_w 0 1600 hx_this_plan_size rfl) (fun hq9 => ib_w 0 1599 (h109 hq9) rfl)) mV_X5_90 hPc hDc rfl rfl rfl hl rfl rfl (Nat.le_of_ble_eq_true rfl) ⟨(Nat.le_of_ble_eq_true rfl), (Nat.le_of_ble_eq_true rfl)⟩ ⟨(Nat.le_of_ble_eq_true rfl), (Nat.le_of_ble_eq_true rfl)⟩ dX5_fact_55) (fun u114 H locs hw hP hD hS => ?_)
              obtain ⟨v115, v116, v117, v118, v119, v120, f121⟩ := u114
              try dsimp only at hP hD hw
              replace hP : va_P (dC, dI) vwCl [(wo_5_riiiiirii a_this a_this_text x_this_length v115 v116 v117 x_this_allowed a_this_plan v118 v119), (wi_0_1600_0 a_this_text cy g_this_text), (wo_4_iiiiiiirrrirrrrrir a_this_plan x_this_plan_cycle x_this_plan_green x_this_plan_rule x_this_plan_least x_this_plan_away x_this_plan_statements x_this_plan_kinds a_this_plan_calm a_this_plan_pace a_this_plan_trusts x_this_plan_walkers a_this_plan_kindOf a_this_plan_comesAt a_this_plan_comers a_this_plan_names a_this_plan_code v120 a_this_plan_spans), (wi_0_1600_0 a_this_plan_code cy f121)] H := hP
              replace hD := k_D hP hD
              obtain ⟨h122, h123, h124, h125, h126, h127⟩ := hw
              replace hq := lf_p1 hq h127
              replace hq := lf_p1 hq rfl
              replace hq := lf_p1 hq rfl
              replace hq := lf_p1 hq rfl
              replace hq := lf_p1 hq rfl
              replace hq := lf_p1 hq rfl
              refine lv_aload_n hx hb dX5_fact_58 rfl (lv_at hl 0 rfl) ?_
              refine lv_bipush (v := 93) hx hb dX5_fact_59 rfl ?_
              refine k_jvm hP hD hS hA [0, 1] [false, false, true, true] rfl rfl rfl 0 0 (Nat.le_of_ble_eq_true rfl) (Nat.le_of_ble_eq_true rfl) (fun hPc hDc => k_runV (As := [.int 93]) (rest := []) C0 hZ hS hA (s_X5_need l dC dI cy sq a_this a_this_text g_this_text x_this_length v115 v116 v117 x_this_allowed a_this_plan v118 v119 93 hg_this_text (ib_w 0 1600 hx_this_length rfl) (ib_w 0 1600 h122 rfl) (ib_w 0 1600 h123 rfl) (ib_w 0 4 h124 rfl) (fun hq9 => ib_w 0 1599 (h126 hq9) rfl)) mV_X5_48 hPc hDc rfl rfl rfl hl rfl rfl (Nat.le_of_ble_eq_true rfl) ⟨(Nat.le_of_ble_eq_true rfl), (Nat.le_of_ble_eq_true rfl)⟩ ⟨(Nat.le_of_ble_eq_true rfl), (Nat.le_of_ble_eq_true rfl)⟩ dX5_fact_61) (fun u129 H locs hw hP hD hS => ?_)
              obtain ⟨v130, v131, v132, v133, v134⟩ := u129
              try dsimp only at hP hD hw
              replace hP : va_P (dC, dI) vwCl [(wo_4_iiiiiiirrrirrrrrir a_this_plan x_this_plan_cycle x_this_plan_green x_this_plan_rule x_this_plan_least x_this_plan_away x_this_plan_statements x_this_plan_kinds a_this_plan_calm a_this_plan_pace a_this_plan_trusts x_this_plan_walkers a_this_plan_kindOf a_this_plan_comesAt a_this_plan_comers a_this_plan_names a_this_plan_code v120 a_this_plan_spans), (wi_0_1600_0 a_this_plan_code cy f121), (wo_5_riiiiirii a_this a_this_text x_this_length v130 v131 v132 x_this_allowed a_this_plan v133 v134), (wi_0_1600_0 a_this_text cy g_this_text)] H := hP
              replace hD := k_D hP hD
              obtain ⟨h135, h136, h137, h138, h139⟩ := hw
              have h139 := by have h9 := h139; try simp only [show (93 : Int32).toInt = (93 : Int) from rfl] at h9; exact h9
              replace hq := lf_p1 hq h139
              replace hq := lf_p1 hq rfl
              replace hq := lf_p1 hq rfl
              replace hq := lf_p1 hq rfl
              refine lv_goto (tgt := 112) hx hb dX5_fact_64 rfl ?_
              subst hQ; exact k_vret hx hb hr hlk ((v130, v131, v132, v133, v134, v120, f121)) hS ⟨ib_w 0 1600 h135 rfl, ib_w 0 1600 h136 rfl, ib_w 0 4 h137 rfl, ib_w 0 1600 h125 rfl, fun hq9 => ib_w 0 1599 (h138 hq9) rfl, (hO.symm.trans (by exact hq))⟩ (hP.sub [2, 3, 0, 1] rfl) (hD.sub [2, 3, 0, 1] rfl rfl) (Nat.le_of_ble_eq_true rfl) (Nat.le_of_ble_eq_true rfl) dX5_fact_112
  · as_aux_lemma =>
      replace hq := lf_neg hq (lf_ne (lf_rf r1) (lf_lc (-1) (-1 : Int) rfl) c4)
      refine lv_aload_n hx hb dX5_fact_10 rfl (lv_at hl 0 rfl) ?_
      refine lv_iload_n hx hb dX5_fact_11 rfl (lv_at hl 1 rfl) ?_
      refine k_jim hP hD hS hA [2, 3] [true, true] rfl rfl rfl 0 0 (Nat.le_of_ble_eq_true rfl) (Nat.le_of_ble_eq_true rfl) (fun hPc hDc => k_runV (As := [.int 1]) (rest := []) C0 hZ hS hA (s_X5_enters_a0_1 l dC dI cy sq a_this a_this_text g_this_text x_this_length x_this_at x_this_behind x_this_sort x_this_allowed a_this_plan x_this_fault x_this_place hg_this_text (ib_w 0 1600 hx_this_length rfl) (ib_w 0 1600 hx_this_behind rfl)) mV_X5_209 hPc hDc rfl rfl rfl hl rfl rfl (Nat.le_of_ble_eq_true rfl) ⟨(Nat.le_of_ble_eq_true rfl), (Nat.le_of_ble_eq_true rfl)⟩ ⟨(Nat.le_of_ble_eq_true rfl), (Nat.le_of_ble_eq_true rfl)⟩ dX5_fact_12) (fun r140 u141 H locs hw hP hD hS => ?_)
      obtain ⟨v142, v143, v144⟩ := u141
      try dsimp only at hP hD hw
      replace hP : va_P (dC, dI) vwCl [(wo_4_iiiiiiirrrirrrrrir a_this_plan x_this_plan_cycle x_this_plan_green x_this_plan_rule x_this_plan_least x_this_plan_away x_this_plan_statements x_this_plan_kinds a_this_plan_calm a_this_plan_pace a_this_plan_trusts x_this_plan_walkers a_this_plan_kindOf a_this_plan_comesAt a_this_plan_comers a_this_plan_names a_this_plan_code x_this_plan_size a_this_plan_spans), (wi_0_1600_0 a_this_plan_code cy g_this_plan_code), (wo_5_riiiiirii a_this a_this_text x_this_length v142 v143 v144 x_this_allowed a_this_plan x_this_fault x_this_place), (wi_0_1600_0 a_this_text cy g_this_text)] H := hP
      replace hD := k_D hP hD
      obtain ⟨h145, h146, h147, h148, h149, h150⟩ := hw
      replace hq := lf_p1 hq h150
      replace hq := lf_p1 hq rfl
      replace hq := lf_p1 hq rfl
      refine lv_if_eq (tgt := 112) hx hb dX5_fact_15 rfl (fun c151 => ?_) (fun c151 => ?_)
      · skip
        have h152 := ib_eq h145 (ib_c 0 0 0 rfl) c151
        exact ib_no (ib_w 1 0 h152.1 rfl) rfl
      · as_aux_lemma =>
          skip
          refine lv_aload_n hx hb dX5_fact_18 rfl (lv_at hl 0 rfl) ?_
          refine lv_iload_n hx hb dX5_fact_19 rfl (lv_at hl 1 rfl) ?_
          refine lv_iconst (v := 1) hx hb dX5_fact_20 rfl ?_
          refine lv_iadd hx hb dX5_fact_21 ?_
          refine k_topi (y := 2) (by decide) ?_
          refine k_jvm hP hD hS hA [2, 3, 0, 1] [] rfl rfl rfl 0 0 (Nat.le_of_ble_eq_true rfl) (Nat.le_of_ble_eq_true rfl) (fun hPc hDc => k_runV (As := [.int 2]) (rest := []) C0 hZ hS hA (s_X5_fact_a0_2 l dC dI cy sq a_this a_this_text g_this_text x_this_length v142 v143 v144 x_this_allowed a_this_plan x_this_plan_cycle x_this_plan_green x_this_plan_rule x_this_plan_least x_this_plan_away x_this_plan_statements x_this_plan_kinds a_this_plan_calm a_this_plan_pace a_this_plan_trusts x_this_plan_walkers a_this_plan_kindOf a_this_plan_comesAt a_this_plan_comers a_this_plan_names a_this_plan_code g_this_plan_code x_this_plan_size a_this_plan_spans x_this_fault x_this_place hg_this_text (ib_w 0 1600 hx_this_length rfl) (ib_w 0 1600 h146 rfl) (ib_w 0 1600 h147 rfl) (ib_w 0 4 h148 rfl) (ib_w 0 1600 hx_this_plan_size rfl) (fun hq9 => ib_w 0 1599 (h149 hq9) rfl)) mV_X5_202 hPc hDc rfl rfl rfl hl rfl rfl (Nat.le_of_ble_eq_true rfl) ⟨(Nat.le_of_ble_eq_true rfl), (Nat.le_of_ble_eq_true rfl)⟩ ⟨(Nat.le_of_ble_eq_true rfl), (Nat.le_of_ble_eq_true rfl)⟩ dX5_fact_22) (fun u154 H locs hw hP hD hS => ?_)
          obtain ⟨v155, v156, v157, v158, v159, v160, f161⟩ := u154
          try dsimp only at hP hD hw
          replace hP : va_P (dC, dI) vwCl [(wo_5_riiiiirii a_this a_this_text x_this_length v155 v156 v157 x_this_allowed a_this_plan v158 v159), (wi_0_1600_0 a_this_text cy g_this_text), (wo_4_iiiiiiirrrirrrrrir a_this_plan x_this_plan_cycle x_this_plan_green x_this_plan_rule x_this_plan_least x_this_plan_away x_this_plan_statements x_this_plan_kinds a_this_plan_calm a_this_plan_pace a_this_plan_trusts x_this_plan_walkers a_this_plan_kindOf a_this_plan_comesAt a_this_plan_comers a_this_plan_names a_this_plan_code v160 a_this_plan_spans), (wi_0_1600_0 a_this_plan_code cy f161)] H := hP
          replace hD := k_D hP hD
          obtain ⟨h162, h163, h164, h165, h166, h167⟩ := hw
          replace hq := lf_p1 hq h167
          replace hq := lf_p1 hq rfl
          replace hq := lf_p1 hq rfl
          replace hq := lf_p1 hq rfl
          replace hq := lf_p1 hq rfl
          replace hq := lf_p1 hq rfl
          refine lv_aload_n hx hb dX5_fact_25 rfl (lv_at hl 0 rfl) ?_
          refine lv_bipush (v := (-31)) hx hb dX5_fact_26 rfl ?_
          refine k_jvm hP hD hS hA [0, 2, 3] [false, true] rfl rfl rfl 0 0 (Nat.le_of_ble_eq_true rfl) (Nat.le_of_ble_eq_true rfl) (fun hPc hDc => k_runV (As := [.int (-31)]) (rest := []) C0 hZ hS hA (s_X5_emit l dC dI cy sq a_this a_this_text x_this_length v155 v156 v157 x_this_allowed a_this_plan x_this_plan_cycle x_this_plan_green x_this_plan_rule x_this_plan_least x_this_plan_away x_this_plan_statements x_this_plan_kinds a_this_plan_calm a_this_plan_pace a_this_plan_trusts x_this_plan_walkers a_this_plan_kindOf a_this_plan_comesAt a_this_plan_comers a_this_plan_names a_this_plan_code f161 v160 a_this_plan_spans v158 v159 (-31) (ib_w 0 1600 h165 rfl)) mV_X5_199 hPc hDc rfl rfl rfl hl rfl rfl (Nat.le_of_ble_eq_true rfl) ⟨(Nat.le_of_ble_eq_true rfl), (Nat.le_of_ble_eq_true rfl)⟩ ⟨(Nat.le_of_ble_eq_true rfl), (Nat.le_of_ble_eq_true rfl)⟩ dX5_fact_28) (fun u169 H locs hw hP hD hS => ?_)
          obtain ⟨v170, f171⟩ := u169
          try dsimp only at hP hD hw
          replace hP : va_P (dC, dI) vwCl [(wi_0_1600_0 a_this_text cy g_this_text), (wo_5_riiiiirii a_this a_this_text x_this_length v155 v156 v157 x_this_allowed a_this_plan v158 v159), (wo_4_iiiiiiirrrirrrrrir a_this_plan x_this_plan_cycle x_this_plan_green x_this_plan_rule x_this_plan_least x_this_plan_away x_this_plan_statements x_this_plan_kinds a_this_plan_calm a_this_plan_pace a_this_plan_trusts x_this_plan_walkers a_this_plan_kindOf a_this_plan_comesAt a_this_plan_comers a_this_plan_names a_this_plan_code v170 a_this_plan_spans), (wi_0_1600_0 a_this_plan_code cy f171)] H := hP
          replace hD := k_D hP hD
          obtain ⟨h172, h173⟩ := hw
          have h173 := by have h9 := h173; try simp only [show ((-31) : Int32).toInt = (-31 : Int) from rfl] at h9; exact h9
          replace hq := lf_p1 hq h173
          refine lv_goto (tgt := 112) hx hb dX5_fact_31 rfl ?_
          subst hQ; exact k_vret hx hb hr hlk ((v155, v156, v157, v158, v159, v170, f171)) hS ⟨ib_w 0 1600 h162 rfl, ib_w 0 1600 h163 rfl, ib_w 0 4 h164 rfl, ib_w 0 1600 h172 rfl, fun hq9 => ib_w 0 1599 (h166 hq9) rfl, (hO.symm.trans (by exact hq))⟩ (hP.sub [1, 0, 2, 3] rfl) (hD.sub [1, 0, 2, 3] rfl rfl) (Nat.le_of_ble_eq_true rfl) (Nat.le_of_ble_eq_true rfl) dX5_fact_112
set_option maxHeartbeats 4000000 in
set_option maxRecDepth 100000 in
theorem s_X5_both_a0_1 (l : Launch) (dC : Nat → ClassId) (dI : Nat → Nat → Nat) (cy : Nat → ClassId) (sq : Nat → Nat) (a_this : Nat) (a_this_text : Nat) (g_this_text : Nat → Int32) (x_this_length : Int32) (x_this_at : Int32) (x_this_behind : Int32) (x_this_sort : Int32) (x_this_allowed : Int32) (a_this_plan : Nat) (x_this_plan_cycle : Int32) (x_this_plan_green : Int32) (x_this_plan_rule : Int32) (x_this_plan_least : Int32) (x_this_plan_away : Int32) (x_this_plan_statements : Int32) (x_this_plan_kinds : Int32) (a_this_plan_calm : Nat) (a_this_plan_pace : Nat) (a_this_plan_trusts : Nat) (x_this_plan_walkers : Int32) (a_this_plan_kindOf : Nat) (a_this_plan_comesAt : Nat) (a_this_plan_comers : Nat) (a_this_plan_names : Nat) (a_this_plan_code : Nat) (g_this_plan_code : Nat → Int32) (x_this_plan_size : Int32) (a_this_plan_spans : Nat) (x_this_fault : Int32) (x_this_place : Int32) (hg_this_text : ia g_this_text 1600 0 255) (hx_this_length : ib x_this_length 0 1600) (hx_this_at : ib x_this_at 0 1600) (hx_this_behind : ib x_this_behind 0 1600) (hx_this_sort : ib x_this_sort 0 4) (hx_this_plan_size : ib x_this_plan_size 0 1600) (hc0_this : ¬ x_this_sort = 0 → ib x_this_at 0 1599) : k_Met l yX5_both cX5_both 3 none { frames := 30, cells := 0, slots := 0, locals := 722 } dC dI cy sq [.ref a_this, .int 1] [(wo_5_riiiiirii a_this a_this_text x_this_length x_this_at x_this_behind x_this_sort x_this_allowed a_this_plan x_this_fault x_this_place), (wi_0_1600_0 a_this_text cy g_this_text), (wo_4_iiiiiiirrrirrrrrir a_this_plan x_this_plan_cycle x_this_plan_green x_this_plan_rule x_this_plan_least x_this_plan_away x_this_plan_statements x_this_plan_kinds a_this_plan_calm a_this_plan_pace a_this_plan_trusts x_this_plan_walkers a_this_plan_kindOf a_this_plan_comesAt a_this_plan_comers a_this_plan_names a_this_plan_code x_this_plan_size a_this_plan_spans), (wi_0_1600_0 a_this_plan_code cy g_this_plan_code)] (k_Qv dC dI (fun (u : Int32 × Int32 × Int32 × Int32 × Int32 × Int32 × (Nat → Int32)) => match u with | (n0, n1, n2, n3, n4, n5, n6) => ib n0 0 1600 ∧ ib n1 0 1600 ∧ ib n2 0 4 ∧ ib n5 0 1600 ∧ (¬ n2 = 0 → ib n0 0 1599) ∧ (F_X5_both_a0_1 (lf_A g_this_text) (Int32.toInt x_this_length) (Int32.toInt x_this_at) (Int32.toInt x_this_behind) (Int32.toInt x_this_sort) (Int32.toInt x_this_allowed) (lf_A g_this_plan_code) (Int32.toInt x_this_plan_size) (Int32.toInt x_this_fault) (Int32.toInt x_this_place) = ((Int32.toInt n0), (Int32.toInt n1), (Int32.toInt n2), (Int32.toInt n3), (Int32.toInt n4), (Int32.toInt n5), (lf_A n6)))) (fun u : Int32 × Int32 × Int32 × Int32 × Int32 × Int32 × (Nat → Int32) => match u with | (n0, n1, n2, n3, n4, n5, n6) => [(wo_5_riiiiirii a_this a_this_text x_this_length n0 n1 n2 x_this_allowed a_this_plan n3 n4), (wi_0_1600_0 a_this_text cy g_this_text), (wo_4_iiiiiiirrrirrrrrir a_this_plan x_this_plan_cycle x_this_plan_green x_this_plan_rule x_this_plan_least x_this_plan_away x_this_plan_statements x_this_plan_kinds a_this_plan_calm a_this_plan_pace a_this_plan_trusts x_this_plan_walkers a_this_plan_kindOf a_this_plan_comesAt a_this_plan_comers a_this_plan_names a_this_plan_code n5 a_this_plan_spans), (wi_0_1600_0 a_this_plan_code cy n6)])) := by
  refine k_ofW2 (by decide +kernel) (Nat.le_of_ble_eq_true rfl) ?_
  intro p e s m below meth c A ls H locs args Q hQ C0 hZ hr hlk hin hP hD hA hS hl
  have C0 : k_cx p s m args c cX5_both 3 RX5 dC dI cy sq := C0
  have hx := C0.1
  have hb := C0.2.1
  have hl : lv_has ls 3 [(0, .ref a_this), (1, .int 1)] := hl
  obtain ⟨O, hO⟩ : ∃ o, o = F_X5_both_a0_1 (lf_A g_this_text) (Int32.toInt x_this_length) (Int32.toInt x_this_at) (Int32.toInt x_this_behind) (Int32.toInt x_this_sort) (Int32.toInt x_this_allowed) (lf_A g_this_plan_code) (Int32.toInt x_this_plan_size) (Int32.toInt x_this_fault) (Int32.toInt x_this_place) := ⟨_, rfl⟩
  have hq := hO
  unfold F_X5_both_a0_1 at hq
  have jn7 : ∀ (n : Nat) (J7_c0_2 : Int32) (J7_c0_3 : Int32) (J7_c0_4 : Int32) (J7_c0_7 : Int32) (J7_c0_8 : Int32) (J7_c2_16 : Int32) (J7_a3 : Nat → Int32) (J7_l2 : Int32) (H : Heap) (locs : List Loc) (ls : Array Slot), ib J7_c0_2 0 1600 → ib J7_c0_3 0 1600 → ib J7_c0_4 0 4 → ib J7_c2_16 0 1600 → ib J7_l2 0 1600 → (¬ J7_c0_4 = 0 → ib J7_c0_2 0 1599) → (O = F_X5_both_a0_1_7 (lf_A g_this_text) (Int32.toInt x_this_length) (Int32.toInt x_this_allowed) n (Int32.toInt J7_c0_2) (Int32.toInt J7_c0_3) (Int32.toInt J7_c0_4) (Int32.toInt J7_c0_7) (Int32.toInt J7_c0_8) (Int32.toInt J7_c2_16) (lf_A J7_a3) (Int32.toInt J7_l2)) → 1601 ≤ J7_l2.toInt + (n : Int) → va_P (dC, dI) vwCl [(wo_5_riiiiirii a_this a_this_text x_this_length J7_c0_2 J7_c0_3 J7_c0_4 x_this_allowed a_this_plan J7_c0_7 J7_c0_8), (wi_0_1600_0 a_this_text cy g_this_text), (wo_4_iiiiiiirrrirrrrrir a_this_plan x_this_plan_cycle x_this_plan_green x_this_plan_rule x_this_plan_least x_this_plan_away x_this_plan_statements x_this_plan_kinds a_this_plan_calm a_this_plan_pace a_this_plan_trusts x_this_plan_walkers a_this_plan_kindOf a_this_plan_comesAt a_this_plan_comers a_this_plan_names a_this_plan_code J7_c2_16 a_this_plan_spans), (wi_0_1600_0 a_this_plan_code cy J7_a3)] H → va_D A [(wo_5_riiiiirii a_this a_this_text x_this_length J7_c0_2 J7_c0_3 J7_c0_4 x_this_allowed a_this_plan J7_c0_7 J7_c0_8), (wi_0_1600_0 a_this_text cy g_this_text), (wo_4_iiiiiiirrrirrrrrir a_this_plan x_this_plan_cycle x_this_plan_green x_this_plan_rule x_this_plan_least x_this_plan_away x_this_plan_statements x_this_plan_kinds a_this_plan_calm a_this_plan_pace a_this_plan_trusts x_this_plan_walkers a_this_plan_kindOf a_this_plan_comesAt a_this_plan_comers a_this_plan_names a_this_plan_code J7_c2_16 a_this_plan_spans), (wi_0_1600_0 a_this_plan_code cy J7_a3)] → va_S A s.heap H locs → lv_has ls 3 [(0, .ref a_this), (1, .int 1), (2, .int J7_l2)] → W p l e { frames := 30, cells := 0, slots := 0, locals := 722 } s m args below meth c H locs 0 0 Q (F0 m 7 ls []) := by
    as_aux_lemma =>
      intro n
      induction n with
      | zero =>
        intro J7_c0_2 J7_c0_3 J7_c0_4 J7_c0_7 J7_c0_8 J7_c2_16 J7_a3 J7_l2 H locs ls hJ7_c0_2 hJ7_c0_3 hJ7_c0_4 hJ7_c2_16 hJ7_l2 hJ7_ic0_0 hq hm
        exact absurd hm (by have := hJ7_l2; unfold ib at this; omega)
      | succ n ih =>
        intro J7_c0_2 J7_c0_3 J7_c0_4 J7_c0_7 J7_c0_8 J7_c2_16 J7_a3 J7_l2 H locs ls hJ7_c0_2 hJ7_c0_3 hJ7_c0_4 hJ7_c2_16 hJ7_l2 hJ7_ic0_0 hq hm7 hP hD hS hl
        have ih7 := ih
        obtain ⟨K7, hK7⟩ : ∃ K, K = F_X5_both_a0_1_7 (lf_A g_this_text) (Int32.toInt x_this_length) (Int32.toInt x_this_allowed) n := ⟨_, rfl⟩
        have hq : O = F_X5_both_a0_1_7b (lf_A g_this_text) (Int32.toInt x_this_length) (Int32.toInt x_this_allowed) K7 (Int32.toInt J7_c0_2) (Int32.toInt J7_c0_3) (Int32.toInt J7_c0_4) (Int32.toInt J7_c0_7) (Int32.toInt J7_c0_8) (Int32.toInt J7_c2_16) (lf_A J7_a3) (Int32.toInt J7_l2) := by rw [hK7]; exact hq
        unfold F_X5_both_a0_1_7b at hq
        refine lv_iload_n hx hb dX5_both_7 rfl (lv_at hl 2 rfl) ?_
        refine lv_sipush (v := 1600) hx hb dX5_both_8 rfl ?_
        refine lv_icmp_ge (tgt := 40) hx hb dX5_both_11 rfl (fun c1 => ?_) (fun c1 => ?_)
        · replace hq := lf_pos hq (lf_le (lf_lc 1600 (1600 : Int) rfl) (lf_rf J7_l2) c1)
          have h2 := ib_le (ib_c 1600 1600 1600 rfl) hJ7_l2 c1
          have h3 : ib J7_l2 1600 1600 := ib_w 1600 1600 h2.2 rfl
          subst hQ; exact k_vret hx hb hr hlk ((J7_c0_2, J7_c0_3, J7_c0_4, J7_c0_7, J7_c0_8, J7_c2_16, J7_a3)) hS ⟨ib_w 0 1600 hJ7_c0_2 rfl, ib_w 0 1600 hJ7_c0_3 rfl, ib_w 0 4 hJ7_c0_4 rfl, ib_w 0 1600 hJ7_c2_16 rfl, fun hq9 => ib_w 0 1599 (hJ7_ic0_0 hq9) rfl, (hO.symm.trans (by exact hq))⟩ hP hD (Nat.le_of_ble_eq_true rfl) (Nat.le_of_ble_eq_true rfl) dX5_both_40
        · as_aux_lemma =>
            replace hq := lf_neg hq (lf_nle (lf_lc 1600 (1600 : Int) rfl) (lf_rf J7_l2) c1)
            have h4 := ib_nle (ib_c 1600 1600 1600 rfl) hJ7_l2 c1
            have h5 : ib J7_l2 0 1599 := ib_w 0 1599 h4.2 rfl
            refine lv_aload_n hx hb dX5_both_14 rfl (lv_at hl 0 rfl) ?_
            refine va_ldcS hx hb C0.2.2.2.1 (C0.2.2.2.2.2.2.2.2.2.2.2.2 14 (by decide)) dX5_both_15 ?_
            refine k_jim hP hD hS hA [0, 1] [false, false, true, true] rfl rfl rfl 0 0 (Nat.le_of_ble_eq_true rfl) (Nat.le_of_ble_eq_true rfl) (fun hPc hDc => k_runV (As := [.ref (sq 14)]) (rest := []) C0 hZ hS hA (s_X5_takeWord_s14 l dC dI cy sq a_this a_this_text g_this_text x_this_length J7_c0_2 J7_c0_3 J7_c0_4 x_this_allowed a_this_plan J7_c0_7 J7_c0_8 hg_this_text (ib_w 0 1600 hx_this_length rfl) (ib_w 0 1600 hJ7_c0_2 rfl) (ib_w 0 1600 hJ7_c0_3 rfl) (ib_w 0 4 hJ7_c0_4 rfl) (fun hq9 => ib_w 0 1599 (hJ7_ic0_0 hq9) rfl)) mV_X5_195 hPc hDc rfl rfl rfl hl rfl rfl (Nat.le_of_ble_eq_true rfl) ⟨(Nat.le_of_ble_eq_true rfl), (Nat.le_of_ble_eq_true rfl)⟩ ⟨(Nat.le_of_ble_eq_true rfl), (Nat.le_of_ble_eq_true rfl)⟩ dX5_both_17) (fun r6 u7 H locs hw hP hD hS => ?_)
            obtain ⟨v8, v9, v10⟩ := u7
            try dsimp only at hP hD hw
            replace hP : va_P (dC, dI) vwCl [(wo_4_iiiiiiirrrirrrrrir a_this_plan x_this_plan_cycle x_this_plan_green x_this_plan_rule x_this_plan_least x_this_plan_away x_this_plan_statements x_this_plan_kinds a_this_plan_calm a_this_plan_pace a_this_plan_trusts x_this_plan_walkers a_this_plan_kindOf a_this_plan_comesAt a_this_plan_comers a_this_plan_names a_this_plan_code J7_c2_16 a_this_plan_spans), (wi_0_1600_0 a_this_plan_code cy J7_a3), (wo_5_riiiiirii a_this a_this_text x_this_length v8 v9 v10 x_this_allowed a_this_plan J7_c0_7 J7_c0_8), (wi_0_1600_0 a_this_text cy g_this_text)] H := hP
            replace hD := k_D hP hD
            obtain ⟨h11, h12, h13, h14, h15, h16⟩ := hw
            replace hq := lf_p1 hq h16
            replace hq := lf_p1 hq rfl
            replace hq := lf_p1 hq rfl
            refine lv_if_eq (tgt := 40) hx hb dX5_both_20 rfl (fun c17 => ?_) (fun c17 => ?_)
            · replace hq := lf_pos hq (lf_eq (lf_rf r6) (lf_lc 0 (0 : Int) rfl) c17)
              have h18 := ib_eq h11 (ib_c 0 0 0 rfl) c17
              have h19 : ib r6 0 0 := ib_w 0 0 h18.1 rfl
              subst hQ; exact k_vret hx hb hr hlk ((v8, v9, v10, J7_c0_7, J7_c0_8, J7_c2_16, J7_a3)) hS ⟨ib_w 0 1600 h12 rfl, ib_w 0 1600 h13 rfl, ib_w 0 4 h14 rfl, ib_w 0 1600 hJ7_c2_16 rfl, fun hq9 => ib_w 0 1599 (h15 hq9) rfl, (hO.symm.trans (by exact hq))⟩ (hP.sub [2, 3, 0, 1] rfl) (hD.sub [2, 3, 0, 1] rfl rfl) (Nat.le_of_ble_eq_true rfl) (Nat.le_of_ble_eq_true rfl) dX5_both_40
            · as_aux_lemma =>
                replace hq := lf_neg hq (lf_ne (lf_rf r6) (lf_lc 0 (0 : Int) rfl) c17)
                have h20 : ib r6 1 1 := ib_w 1 1 (ib_ne_lo 0 h11 rfl c17) rfl
                refine lv_aload_n hx hb dX5_both_23 rfl (lv_at hl 0 rfl) ?_
                refine lv_iload_n hx hb dX5_both_24 rfl (lv_at hl 1 rfl) ?_
                refine k_jvm hP hD hS hA [2, 3, 0, 1] [] rfl rfl rfl 0 0 (Nat.le_of_ble_eq_true rfl) (Nat.le_of_ble_eq_true rfl) (fun hPc hDc => k_runV (As := [.int 1]) (rest := []) C0 hZ hS hA (s_X5_fact_a0_1 l dC dI cy sq a_this a_this_text g_this_text x_this_length v8 v9 v10 x_this_allowed a_this_plan x_this_plan_cycle x_this_plan_green x_this_plan_rule x_this_plan_least x_this_plan_away x_this_plan_statements x_this_plan_kinds a_this_plan_calm a_this_plan_pace a_this_plan_trusts x_this_plan_walkers a_this_plan_kindOf a_this_plan_comesAt a_this_plan_comers a_this_plan_names a_this_plan_code J7_a3 J7_c2_16 a_this_plan_spans J7_c0_7 J7_c0_8 hg_this_text (ib_w 0 1600 hx_this_length rfl) (ib_w 0 1600 h12 rfl) (ib_w 0 1600 h13 rfl) (ib_w 0 4 h14 rfl) (ib_w 0 1600 hJ7_c2_16 rfl) (fun hq9 => ib_w 0 1599 (h15 hq9) rfl)) mV_X5_202 hPc hDc rfl rfl rfl hl rfl rfl (Nat.le_of_ble_eq_true rfl) ⟨(Nat.le_of_ble_eq_true rfl), (Nat.le_of_ble_eq_true rfl)⟩ ⟨(Nat.le_of_ble_eq_true rfl), (Nat.le_of_ble_eq_true rfl)⟩ dX5_both_25) (fun u22 H locs hw hP hD hS => ?_)
                obtain ⟨v23, v24, v25, v26, v27, v28, f29⟩ := u22
                try dsimp only at hP hD hw
                replace hP : va_P (dC, dI) vwCl [(wo_5_riiiiirii a_this a_this_text x_this_length v23 v24 v25 x_this_allowed a_this_plan v26 v27), (wi_0_1600_0 a_this_text cy g_this_text), (wo_4_iiiiiiirrrirrrrrir a_this_plan x_this_plan_cycle x_this_plan_green x_this_plan_rule x_this_plan_least x_this_plan_away x_this_plan_statements x_this_plan_kinds a_this_plan_calm a_this_plan_pace a_this_plan_trusts x_this_plan_walkers a_this_plan_kindOf a_this_plan_comesAt a_this_plan_comers a_this_plan_names a_this_plan_code v28 a_this_plan_spans), (wi_0_1600_0 a_this_plan_code cy f29)] H := hP
                replace hD := k_D hP hD
                obtain ⟨h30, h31, h32, h33, h34, h35⟩ := hw
                replace hq := lf_p1 hq h35
                replace hq := lf_p1 hq rfl
                replace hq := lf_p1 hq rfl
                replace hq := lf_p1 hq rfl
                replace hq := lf_p1 hq rfl
                replace hq := lf_p1 hq rfl
                refine lv_aload_n hx hb dX5_both_28 rfl (lv_at hl 0 rfl) ?_
                refine lv_bipush (v := (-29)) hx hb dX5_both_29 rfl ?_
                refine k_jvm hP hD hS hA [0, 2, 3] [false, true] rfl rfl rfl 0 0 (Nat.le_of_ble_eq_true rfl) (Nat.le_of_ble_eq_true rfl) (fun hPc hDc => k_runV (As := [.int (-29)]) (rest := []) C0 hZ hS hA (s_X5_emit l dC dI cy sq a_this a_this_text x_this_length v23 v24 v25 x_this_allowed a_this_plan x_this_plan_cycle x_this_plan_green x_this_plan_rule x_this_plan_least x_this_plan_away x_this_plan_statements x_this_plan_kinds a_this_plan_calm a_this_plan_pace a_this_plan_trusts x_this_plan_walkers a_this_plan_kindOf a_this_plan_comesAt a_this_plan_comers a_this_plan_names a_this_plan_code f29 v28 a_this_plan_spans v26 v27 (-29) (ib_w 0 1600 h33 rfl)) mV_X5_199 hPc hDc rfl rfl rfl hl rfl rfl (Nat.le_of_ble_eq_true rfl) ⟨(Nat.le_of_ble_eq_true rfl), (Nat.le_of_ble_eq_true rfl)⟩ ⟨(Nat.le_of_ble_eq_true rfl), (Nat.le_of_ble_eq_true rfl)⟩ dX5_both_31) (fun u37 H locs hw hP hD hS => ?_)
                obtain ⟨v38, f39⟩ := u37
                try dsimp only at hP hD hw
                replace hP : va_P (dC, dI) vwCl [(wi_0_1600_0 a_this_text cy g_this_text), (wo_5_riiiiirii a_this a_this_text x_this_length v23 v24 v25 x_this_allowed a_this_plan v26 v27), (wo_4_iiiiiiirrrirrrrrir a_this_plan x_this_plan_cycle x_this_plan_green x_this_plan_rule x_this_plan_least x_this_plan_away x_this_plan_statements x_this_plan_kinds a_this_plan_calm a_this_plan_pace a_this_plan_trusts x_this_plan_walkers a_this_plan_kindOf a_this_plan_comesAt a_this_plan_comers a_this_plan_names a_this_plan_code v38 a_this_plan_spans), (wi_0_1600_0 a_this_plan_code cy f39)] H := hP
                replace hD := k_D hP hD
                obtain ⟨h40, h41⟩ := hw
                have h41 := by have h9 := h41; try simp only [show ((-29) : Int32).toInt = (-29 : Int) from rfl] at h9; exact h9
                replace hq := lf_p1 hq h41
                obtain ⟨z42, ez42⟩ : ∃ y : Int32, y = J7_l2 + 1 := ⟨_, rfl⟩
                refine lv_iinc (v := z42) (lv' := [(2, .int z42), (0, .ref a_this), (1, .int 1)]) hx hb dX5_both_34 hl (k := 2) rfl (by rw [ez42]; rfl) (Nat.le_of_ble_eq_true rfl) rfl (fun ls hl => ?_)
                have h43 := ib_add h5 (ib_c 1 1 1 rfl) rfl
                rw [← ez42] at h43
                have h44 : ib z42 1 1600 := ib_w 1 1600 h43.1 rfl
                have Ez42 := lf_add h43.2 (lf_rf J7_l2) (lf_lc 1 (1 : Int) rfl)
                refine lv_goto (tgt := 7) hx hb dX5_both_37 rfl ?_
                exact ih7 v23 v24 v25 v26 v27 v38 f39 z42 H locs ls (ib_w 0 1600 h30 rfl) (ib_w 0 1600 h31 rfl) (ib_w 0 4 h32 rfl) (ib_w 0 1600 h40 rfl) (ib_w 0 1600 h44 rfl) (fun hq9 => ib_w 0 1599 (h34 hq9) rfl) (by rw [← hK7]; rw [lf_u Ez42]; exact hq) (by have := h43.2; have : (1 : Int32).toInt = 1 := rfl; omega) (hP.sub [1, 0, 2, 3] rfl) (hD.sub [1, 0, 2, 3] rfl rfl) hS (lv_sub hl [1, 2, 0] rfl)
  refine lv_aload_n hx hb dX5_both_0 rfl (lv_at hl 0 rfl) ?_
  refine lv_iload_n hx hb dX5_both_1 rfl (lv_at hl 1 rfl) ?_
  refine k_jvm hP hD hS hA [0, 1, 2, 3] [] rfl rfl rfl 0 0 (Nat.le_of_ble_eq_true rfl) (Nat.le_of_ble_eq_true rfl) (fun hPc hDc => k_runV (As := [.int 1]) (rest := []) C0 hZ hS hA (s_X5_fact_a0_1 l dC dI cy sq a_this a_this_text g_this_text x_this_length x_this_at x_this_behind x_this_sort x_this_allowed a_this_plan x_this_plan_cycle x_this_plan_green x_this_plan_rule x_this_plan_least x_this_plan_away x_this_plan_statements x_this_plan_kinds a_this_plan_calm a_this_plan_pace a_this_plan_trusts x_this_plan_walkers a_this_plan_kindOf a_this_plan_comesAt a_this_plan_comers a_this_plan_names a_this_plan_code g_this_plan_code x_this_plan_size a_this_plan_spans x_this_fault x_this_place hg_this_text (ib_w 0 1600 hx_this_length rfl) (ib_w 0 1600 hx_this_at rfl) (ib_w 0 1600 hx_this_behind rfl) (ib_w 0 4 hx_this_sort rfl) (ib_w 0 1600 hx_this_plan_size rfl) (fun hq9 => ib_w 0 1599 (hc0_this hq9) rfl)) mV_X5_202 hPc hDc rfl rfl rfl hl rfl rfl (Nat.le_of_ble_eq_true rfl) ⟨(Nat.le_of_ble_eq_true rfl), (Nat.le_of_ble_eq_true rfl)⟩ ⟨(Nat.le_of_ble_eq_true rfl), (Nat.le_of_ble_eq_true rfl)⟩ dX5_both_2) (fun u46 H locs hw hP hD hS => ?_)
  obtain ⟨v47, v48, v49, v50, v51, v52, f53⟩ := u46
  try dsimp only at hP hD hw
  replace hP : va_P (dC, dI) vwCl [(wo_5_riiiiirii a_this a_this_text x_this_length v47 v48 v49 x_this_allowed a_this_plan v50 v51), (wi_0_1600_0 a_this_text cy g_this_text), (wo_4_iiiiiiirrrirrrrrir a_this_plan x_this_plan_cycle x_this_plan_green x_this_plan_rule x_this_plan_least x_this_plan_away x_this_plan_statements x_this_plan_kinds a_this_plan_calm a_this_plan_pace a_this_plan_trusts x_this_plan_walkers a_this_plan_kindOf a_this_plan_comesAt a_this_plan_comers a_this_plan_names a_this_plan_code v52 a_this_plan_spans), (wi_0_1600_0 a_this_plan_code cy f53)] H := hP
  replace hD := k_D hP hD
  obtain ⟨h54, h55, h56, h57, h58, h59⟩ := hw
  replace hq := lf_p1 hq h59
  replace hq := lf_p1 hq rfl
  replace hq := lf_p1 hq rfl
  replace hq := lf_p1 hq rfl
  replace hq := lf_p1 hq rfl
  replace hq := lf_p1 hq rfl
  refine lv_iconst (v := 0) hx hb dX5_both_5 rfl ?_
  refine lv_istore_n (lv' := [(2, .int 0), (0, .ref a_this), (1, .int 1)]) hx hb dX5_both_6 rfl hl (Nat.le_of_ble_eq_true rfl) rfl (fun ls hl => ?_)
  exact jn7 1602 v47 v48 v49 v50 v51 v52 f53 0 H locs ls (ib_w 0 1600 h54 rfl) (ib_w 0 1600 h55 rfl) (ib_w 0 4 h56 rfl) (ib_w 0 1600 h57 rfl) (ib_w 0 1600 (ib_c 0 0 0 rfl) rfl) (fun hq9 => ib_w 0 1599 (h58 hq9) rfl) (by try simp only [show (0 : Int32).toInt = (0 : Int) from rfl]; exact hq) (by have := (ib_c 0 0 0 rfl); unfold ib at this; omega) hP hD hS (lv_sub hl [1, 2, 0] rfl)
set_option maxHeartbeats 4000000 in
set_option maxRecDepth 100000 in
theorem s_X5_test_a0_1 (l : Launch) (dC : Nat → ClassId) (dI : Nat → Nat → Nat) (cy : Nat → ClassId) (sq : Nat → Nat) (a_this : Nat) (a_this_text : Nat) (g_this_text : Nat → Int32) (x_this_length : Int32) (x_this_at : Int32) (x_this_behind : Int32) (x_this_sort : Int32) (x_this_allowed : Int32) (a_this_plan : Nat) (x_this_plan_cycle : Int32) (x_this_plan_green : Int32) (x_this_plan_rule : Int32) (x_this_plan_least : Int32) (x_this_plan_away : Int32) (x_this_plan_statements : Int32) (x_this_plan_kinds : Int32) (a_this_plan_calm : Nat) (a_this_plan_pace : Nat) (a_this_plan_trusts : Nat) (x_this_plan_walkers : Int32) (a_this_plan_kindOf : Nat) (a_this_plan_comesAt : Nat) (a_this_plan_comers : Nat) (a_this_plan_names : Nat) (a_this_plan_code : Nat) (g_this_plan_code : Nat → Int32) (x_this_plan_size : Int32) (a_this_plan_spans : Nat) (x_this_fault : Int32) (x_this_place : Int32) (hg_this_text : ia g_this_text 1600 0 255) (hx_this_length : ib x_this_length 0 1600) (hx_this_at : ib x_this_at 0 1600) (hx_this_behind : ib x_this_behind 0 1600) (hx_this_sort : ib x_this_sort 0 4) (hx_this_plan_size : ib x_this_plan_size 0 1600) (hc0_this : ¬ x_this_sort = 0 → ib x_this_at 0 1599) : k_Met l yX5_test cX5_test 3 none { frames := 31, cells := 0, slots := 0, locals := 744 } dC dI cy sq [.ref a_this, .int 1] [(wo_5_riiiiirii a_this a_this_text x_this_length x_this_at x_this_behind x_this_sort x_this_allowed a_this_plan x_this_fault x_this_place), (wi_0_1600_0 a_this_text cy g_this_text), (wo_4_iiiiiiirrrirrrrrir a_this_plan x_this_plan_cycle x_this_plan_green x_this_plan_rule x_this_plan_least x_this_plan_away x_this_plan_statements x_this_plan_kinds a_this_plan_calm a_this_plan_pace a_this_plan_trusts x_this_plan_walkers a_this_plan_kindOf a_this_plan_comesAt a_this_plan_comers a_this_plan_names a_this_plan_code x_this_plan_size a_this_plan_spans), (wi_0_1600_0 a_this_plan_code cy g_this_plan_code)] (k_Qv dC dI (fun (u : Int32 × Int32 × Int32 × Int32 × Int32 × Int32 × (Nat → Int32)) => match u with | (n0, n1, n2, n3, n4, n5, n6) => ib n0 0 1600 ∧ ib n1 0 1600 ∧ ib n2 0 4 ∧ ib n5 0 1600 ∧ (¬ n2 = 0 → ib n0 0 1599) ∧ (F_X5_test_a0_1 (lf_A g_this_text) (Int32.toInt x_this_length) (Int32.toInt x_this_at) (Int32.toInt x_this_behind) (Int32.toInt x_this_sort) (Int32.toInt x_this_allowed) (lf_A g_this_plan_code) (Int32.toInt x_this_plan_size) (Int32.toInt x_this_fault) (Int32.toInt x_this_place) = ((Int32.toInt n0), (Int32.toInt n1), (Int32.toInt n2), (Int32.toInt n3), (Int32.toInt n4), (Int32.toInt n5), (lf_A n6)))) (fun u : Int32 × Int32 × Int32 × Int32 × Int32 × Int32 × (Nat → Int32) => match u with | (n0, n1, n2, n3, n4, n5, n6) => [(wo_5_riiiiirii a_this a_this_text x_this_length n0 n1 n2 x_this_allowed a_this_plan n3 n4), (wi_0_1600_0 a_this_text cy g_this_text), (wo_4_iiiiiiirrrirrrrrir a_this_plan x_this_plan_cycle x_this_plan_green x_this_plan_rule x_this_plan_least x_this_plan_away x_this_plan_statements x_this_plan_kinds a_this_plan_calm a_this_plan_pace a_this_plan_trusts x_this_plan_walkers a_this_plan_kindOf a_this_plan_comesAt a_this_plan_comers a_this_plan_names a_this_plan_code n5 a_this_plan_spans), (wi_0_1600_0 a_this_plan_code cy n6)])) := by
  refine k_ofW2 (by decide +kernel) (Nat.le_of_ble_eq_true rfl) ?_
  intro p e s m below meth c A ls H locs args Q hQ C0 hZ hr hlk hin hP hD hA hS hl
  have C0 : k_cx p s m args c cX5_test 3 RX5 dC dI cy sq := C0
  have hx := C0.1
  have hb := C0.2.1
  have hl : lv_has ls 3 [(0, .ref a_this), (1, .int 1)] := hl
  obtain ⟨O, hO⟩ : ∃ o, o = F_X5_test_a0_1 (lf_A g_this_text) (Int32.toInt x_this_length) (Int32.toInt x_this_at) (Int32.toInt x_this_behind) (Int32.toInt x_this_sort) (Int32.toInt x_this_allowed) (lf_A g_this_plan_code) (Int32.toInt x_this_plan_size) (Int32.toInt x_this_fault) (Int32.toInt x_this_place) := ⟨_, rfl⟩
  have hq := hO
  unfold F_X5_test_a0_1 at hq
  have jn7 : ∀ (n : Nat) (J7_c0_2 : Int32) (J7_c0_3 : Int32) (J7_c0_4 : Int32) (J7_c0_7 : Int32) (J7_c0_8 : Int32) (J7_c2_16 : Int32) (J7_a3 : Nat → Int32) (J7_l2 : Int32) (H : Heap) (locs : List Loc) (ls : Array Slot), ib J7_c0_2 0 1600 → ib J7_c0_3 0 1600 → ib J7_c0_4 0 4 → ib J7_c2_16 0 1600 → ib J7_l2 0 1600 → (¬ J7_c0_4 = 0 → ib J7_c0_2 0 1599) → (O = F_X5_test_a0_1_7 (lf_A g_this_text) (Int32.toInt x_this_length) (Int32.toInt x_this_allowed) n (Int32.toInt J7_c0_2) (Int32.toInt J7_c0_3) (Int32.toInt J7_c0_4) (Int32.toInt J7_c0_7) (Int32.toInt J7_c0_8) (Int32.toInt J7_c2_16) (lf_A J7_a3) (Int32.toInt J7_l2)) → 1601 ≤ J7_l2.toInt + (n : Int) → va_P (dC, dI) vwCl [(wo_5_riiiiirii a_this a_this_text x_this_length J7_c0_2 J7_c0_3 J7_c0_4 x_this_allowed a_this_plan J7_c0_7 J7_c0_8), (wi_0_1600_0 a_this_text cy g_this_text), (wo_4_iiiiiiirrrirrrrrir a_this_plan x_this_plan_cycle x_this_plan_green x_this_plan_rule x_this_plan_least x_this_plan_away x_this_plan_statements x_this_plan_kinds a_this_plan_calm a_this_plan_pace a_this_plan_trusts x_this_plan_walkers a_this_plan_kindOf a_this_plan_comesAt a_this_plan_comers a_this_plan_names a_this_plan_code J7_c2_16 a_this_plan_spans), (wi_0_1600_0 a_this_plan_code cy J7_a3)] H → va_D A [(wo_5_riiiiirii a_this a_this_text x_this_length J7_c0_2 J7_c0_3 J7_c0_4 x_this_allowed a_this_plan J7_c0_7 J7_c0_8), (wi_0_1600_0 a_this_text cy g_this_text), (wo_4_iiiiiiirrrirrrrrir a_this_plan x_this_plan_cycle x_this_plan_green x_this_plan_rule x_this_plan_least x_this_plan_away x_this_plan_statements x_this_plan_kinds a_this_plan_calm a_this_plan_pace a_this_plan_trusts x_this_plan_walkers a_this_plan_kindOf a_this_plan_comesAt a_this_plan_comers a_this_plan_names a_this_plan_code J7_c2_16 a_this_plan_spans), (wi_0_1600_0 a_this_plan_code cy J7_a3)] → va_S A s.heap H locs → lv_has ls 3 [(0, .ref a_this), (1, .int 1), (2, .int J7_l2)] → W p l e { frames := 31, cells := 0, slots := 0, locals := 744 } s m args below meth c H locs 0 0 Q (F0 m 7 ls []) := by
    as_aux_lemma =>
      intro n
      induction n with
      | zero =>
        intro J7_c0_2 J7_c0_3 J7_c0_4 J7_c0_7 J7_c0_8 J7_c2_16 J7_a3 J7_l2 H locs ls hJ7_c0_2 hJ7_c0_3 hJ7_c0_4 hJ7_c2_16 hJ7_l2 hJ7_ic0_0 hq hm
        exact absurd hm (by have := hJ7_l2; unfold ib at this; omega)
      | succ n ih =>
        intro J7_c0_2 J7_c0_3 J7_c0_4 J7_c0_7 J7_c0_8 J7_c2_16 J7_a3 J7_l2 H locs ls hJ7_c0_2 hJ7_c0_3 hJ7_c0_4 hJ7_c2_16 hJ7_l2 hJ7_ic0_0 hq hm7 hP hD hS hl
        have ih7 := ih
        obtain ⟨K7, hK7⟩ : ∃ K, K = F_X5_test_a0_1_7 (lf_A g_this_text) (Int32.toInt x_this_length) (Int32.toInt x_this_allowed) n := ⟨_, rfl⟩
        have hq : O = F_X5_test_a0_1_7b (lf_A g_this_text) (Int32.toInt x_this_length) (Int32.toInt x_this_allowed) K7 (Int32.toInt J7_c0_2) (Int32.toInt J7_c0_3) (Int32.toInt J7_c0_4) (Int32.toInt J7_c0_7) (Int32.toInt J7_c0_8) (Int32.toInt J7_c2_16) (lf_A J7_a3) (Int32.toInt J7_l2) := by rw [hK7]; exact hq
        unfold F_X5_test_a0_1_7b at hq
        refine lv_iload_n hx hb dX5_test_7 rfl (lv_at hl 2 rfl) ?_
        refine lv_sipush (v := 1600) hx hb dX5_test_8 rfl ?_
        refine lv_icmp_ge (tgt := 40) hx hb dX5_test_11 rfl (fun c1 => ?_) (fun c1 => ?_)
        · replace hq := lf_pos hq (lf_le (lf_lc 1600 (1600 : Int) rfl) (lf_rf J7_l2) c1)
          have h2 := ib_le (ib_c 1600 1600 1600 rfl) hJ7_l2 c1
          have h3 : ib J7_l2 1600 1600 := ib_w 1600 1600 h2.2 rfl
          subst hQ; exact k_vret hx hb hr hlk ((J7_c0_2, J7_c0_3, J7_c0_4, J7_c0_7, J7_c0_8, J7_c2_16, J7_a3)) hS ⟨ib_w 0 1600 hJ7_c0_2 rfl, ib_w 0 1600 hJ7_c0_3 rfl, ib_w 0 4 hJ7_c0_4 rfl, ib_w 0 1600 hJ7_c2_16 rfl, fun hq9 => ib_w 0 1599 (hJ7_ic0_0 hq9) rfl, (hO.symm.trans (by exact hq))⟩ hP hD (Nat.le_of_ble_eq_true rfl) (Nat.le_of_ble_eq_true rfl) dX5_test_40
        · as_aux_lemma =>
            replace hq := lf_neg hq (lf_nle (lf_lc 1600 (1600 : Int) rfl) (lf_rf J7_l2) c1)
            have h4 := ib_nle (ib_c 1600 1600 1600 rfl) hJ7_l2 c1
            have h5 : ib J7_l2 0 1599 := ib_w 0 1599 h4.2 rfl
            refine lv_aload_n hx hb dX5_test_14 rfl (lv_at hl 0 rfl) ?_
            refine va_ldcS hx hb C0.2.2.2.1 (C0.2.2.2.2.2.2.2.2.2.2.2.2 13 (by decide)) dX5_test_15 ?_
            refine k_jim hP hD hS hA [0, 1] [false, false, true, true] rfl rfl rfl 0 0 (Nat.le_of_ble_eq_true rfl) (Nat.le_of_ble_eq_true rfl) (fun hPc hDc => k_runV (As := [.ref (sq 13)]) (rest := []) C0 hZ hS hA (s_X5_takeWord_s13 l dC dI cy sq a_this a_this_text g_this_text x_this_length J7_c0_2 J7_c0_3 J7_c0_4 x_this_allowed a_this_plan J7_c0_7 J7_c0_8 hg_this_text (ib_w 0 1600 hx_this_length rfl) (ib_w 0 1600 hJ7_c0_2 rfl) (ib_w 0 1600 hJ7_c0_3 rfl) (ib_w 0 4 hJ7_c0_4 rfl) (fun hq9 => ib_w 0 1599 (hJ7_ic0_0 hq9) rfl)) mV_X5_195 hPc hDc rfl rfl rfl hl rfl rfl (Nat.le_of_ble_eq_true rfl) ⟨(Nat.le_of_ble_eq_true rfl), (Nat.le_of_ble_eq_true rfl)⟩ ⟨(Nat.le_of_ble_eq_true rfl), (Nat.le_of_ble_eq_true rfl)⟩ dX5_test_17) (fun r6 u7 H locs hw hP hD hS => ?_)
            obtain ⟨v8, v9, v10⟩ := u7
            try dsimp only at hP hD hw
            replace hP : va_P (dC, dI) vwCl [(wo_4_iiiiiiirrrirrrrrir a_this_plan x_this_plan_cycle x_this_plan_green x_this_plan_rule x_this_plan_least x_this_plan_away x_this_plan_statements x_this_plan_kinds a_this_plan_calm a_this_plan_pace a_this_plan_trusts x_this_plan_walkers a_this_plan_kindOf a_this_plan_comesAt a_this_plan_comers a_this_plan_names a_this_plan_code J7_c2_16 a_this_plan_spans), (wi_0_1600_0 a_this_plan_code cy J7_a3), (wo_5_riiiiirii a_this a_this_text x_this_length v8 v9 v10 x_this_allowed a_this_plan J7_c0_7 J7_c0_8), (wi_0_1600_0 a_this_text cy g_this_text)] H := hP
            replace hD := k_D hP hD
            obtain ⟨h11, h12, h13, h14, h15, h16⟩ := hw
            replace hq := lf_p1 hq h16
            replace hq := lf_p1 hq rfl
            replace hq := lf_p1 hq rfl
            refine lv_if_eq (tgt := 40) hx hb dX5_test_20 rfl (fun c17 => ?_) (fun c17 => ?_)
            · replace hq := lf_pos hq (lf_eq (lf_rf r6) (lf_lc 0 (0 : Int) rfl) c17)
              have h18 := ib_eq h11 (ib_c 0 0 0 rfl) c17
              have h19 : ib r6 0 0 := ib_w 0 0 h18.1 rfl
              subst hQ; exact k_vret hx hb hr hlk ((v8, v9, v10, J7_c0_7, J7_c0_8, J7_c2_16, J7_a3)) hS ⟨ib_w 0 1600 h12 rfl, ib_w 0 1600 h13 rfl, ib_w 0 4 h14 rfl, ib_w 0 1600 hJ7_c2_16 rfl, fun hq9 => ib_w 0 1599 (h15 hq9) rfl, (hO.symm.trans (by exact hq))⟩ (hP.sub [2, 3, 0, 1] rfl) (hD.sub [2, 3, 0, 1] rfl rfl) (Nat.le_of_ble_eq_true rfl) (Nat.le_of_ble_eq_true rfl) dX5_test_40
            · as_aux_lemma =>
                replace hq := lf_neg hq (lf_ne (lf_rf r6) (lf_lc 0 (0 : Int) rfl) c17)
                have h20 : ib r6 1 1 := ib_w 1 1 (ib_ne_lo 0 h11 rfl c17) rfl
                refine lv_aload_n hx hb dX5_test_23 rfl (lv_at hl 0 rfl) ?_
                refine lv_iload_n hx hb dX5_test_24 rfl (lv_at hl 1 rfl) ?_
                refine k_jvm hP hD hS hA [2, 3, 0, 1] [] rfl rfl rfl 0 0 (Nat.le_of_ble_eq_true rfl) (Nat.le_of_ble_eq_true rfl) (fun hPc hDc => k_runV (As := [.int 1]) (rest := []) C0 hZ hS hA (s_X5_both_a0_1 l dC dI cy sq a_this a_this_text g_this_text x_this_length v8 v9 v10 x_this_allowed a_this_plan x_this_plan_cycle x_this_plan_green x_this_plan_rule x_this_plan_least x_this_plan_away x_this_plan_statements x_this_plan_kinds a_this_plan_calm a_this_plan_pace a_this_plan_trusts x_this_plan_walkers a_this_plan_kindOf a_this_plan_comesAt a_this_plan_comers a_this_plan_names a_this_plan_code J7_a3 J7_c2_16 a_this_plan_spans J7_c0_7 J7_c0_8 hg_this_text (ib_w 0 1600 hx_this_length rfl) (ib_w 0 1600 h12 rfl) (ib_w 0 1600 h13 rfl) (ib_w 0 4 h14 rfl) (ib_w 0 1600 hJ7_c2_16 rfl) (fun hq9 => ib_w 0 1599 (h15 hq9) rfl)) mV_X5_190 hPc hDc rfl rfl rfl hl rfl rfl (Nat.le_of_ble_eq_true rfl) ⟨(Nat.le_of_ble_eq_true rfl), (Nat.le_of_ble_eq_true rfl)⟩ ⟨(Nat.le_of_ble_eq_true rfl), (Nat.le_of_ble_eq_true rfl)⟩ dX5_test_25) (fun u22 H locs hw hP hD hS => ?_)
                obtain ⟨v23, v24, v25, v26, v27, v28, f29⟩ := u22
                try dsimp only at hP hD hw
                replace hP : va_P (dC, dI) vwCl [(wo_5_riiiiirii a_this a_this_text x_this_length v23 v24 v25 x_this_allowed a_this_plan v26 v27), (wi_0_1600_0 a_this_text cy g_this_text), (wo_4_iiiiiiirrrirrrrrir a_this_plan x_this_plan_cycle x_this_plan_green x_this_plan_rule x_this_plan_least x_this_plan_away x_this_plan_statements x_this_plan_kinds a_this_plan_calm a_this_plan_pace a_this_plan_trusts x_this_plan_walkers a_this_plan_kindOf a_this_plan_comesAt a_this_plan_comers a_this_plan_names a_this_plan_code v28 a_this_plan_spans), (wi_0_1600_0 a_this_plan_code cy f29)] H := hP
                replace hD := k_D hP hD
                obtain ⟨h30, h31, h32, h33, h34, h35⟩ := hw
                replace hq := lf_p1 hq h35
                replace hq := lf_p1 hq rfl
                replace hq := lf_p1 hq rfl
                replace hq := lf_p1 hq rfl
                replace hq := lf_p1 hq rfl
                replace hq := lf_p1 hq rfl
                refine lv_aload_n hx hb dX5_test_28 rfl (lv_at hl 0 rfl) ?_
                refine lv_bipush (v := (-30)) hx hb dX5_test_29 rfl ?_
                refine k_jvm hP hD hS hA [0, 2, 3] [false, true] rfl rfl rfl 0 0 (Nat.le_of_ble_eq_true rfl) (Nat.le_of_ble_eq_true rfl) (fun hPc hDc => k_runV (As := [.int (-30)]) (rest := []) C0 hZ hS hA (s_X5_emit l dC dI cy sq a_this a_this_text x_this_length v23 v24 v25 x_this_allowed a_this_plan x_this_plan_cycle x_this_plan_green x_this_plan_rule x_this_plan_least x_this_plan_away x_this_plan_statements x_this_plan_kinds a_this_plan_calm a_this_plan_pace a_this_plan_trusts x_this_plan_walkers a_this_plan_kindOf a_this_plan_comesAt a_this_plan_comers a_this_plan_names a_this_plan_code f29 v28 a_this_plan_spans v26 v27 (-30) (ib_w 0 1600 h33 rfl)) mV_X5_199 hPc hDc rfl rfl rfl hl rfl rfl (Nat.le_of_ble_eq_true rfl) ⟨(Nat.le_of_ble_eq_true rfl), (Nat.le_of_ble_eq_true rfl)⟩ ⟨(Nat.le_of_ble_eq_true rfl), (Nat.le_of_ble_eq_true rfl)⟩ dX5_test_31) (fun u37 H locs hw hP hD hS => ?_)
                obtain ⟨v38, f39⟩ := u37
                try dsimp only at hP hD hw
                replace hP : va_P (dC, dI) vwCl [(wi_0_1600_0 a_this_text cy g_this_text), (wo_5_riiiiirii a_this a_this_text x_this_length v23 v24 v25 x_this_allowed a_this_plan v26 v27), (wo_4_iiiiiiirrrirrrrrir a_this_plan x_this_plan_cycle x_this_plan_green x_this_plan_rule x_this_plan_least x_this_plan_away x_this_plan_statements x_this_plan_kinds a_this_plan_calm a_this_plan_pace a_this_plan_trusts x_this_plan_walkers a_this_plan_kindOf a_this_plan_comesAt a_this_plan_comers a_this_plan_names a_this_plan_code v38 a_this_plan_spans), (wi_0_1600_0 a_this_plan_code cy f39)] H := hP
                replace hD := k_D hP hD
                obtain ⟨h40, h41⟩ := hw
                have h41 := by have h9 := h41; try simp only [show ((-30) : Int32).toInt = (-30 : Int) from rfl] at h9; exact h9
                replace hq := lf_p1 hq h41
                obtain ⟨z42, ez42⟩ : ∃ y : Int32, y = J7_l2 + 1 := ⟨_, rfl⟩
                refine lv_iinc (v := z42) (lv' := [(2, .int z42), (0, .ref a_this), (1, .int 1)]) hx hb dX5_test_34 hl (k := 2) rfl (by rw [ez42]; rfl) (Nat.le_of_ble_eq_true rfl) rfl (fun ls hl => ?_)
                have h43 := ib_add h5 (ib_c 1 1 1 rfl) rfl
                rw [← ez42] at h43
                have h44 : ib z42 1 1600 := ib_w 1 1600 h43.1 rfl
                have Ez42 := lf_add h43.2 (lf_rf J7_l2) (lf_lc 1 (1 : Int) rfl)
                refine lv_goto (tgt := 7) hx hb dX5_test_37 rfl ?_
                exact ih7 v23 v24 v25 v26 v27 v38 f39 z42 H locs ls (ib_w 0 1600 h30 rfl) (ib_w 0 1600 h31 rfl) (ib_w 0 4 h32 rfl) (ib_w 0 1600 h40 rfl) (ib_w 0 1600 h44 rfl) (fun hq9 => ib_w 0 1599 (h34 hq9) rfl) (by rw [← hK7]; rw [lf_u Ez42]; exact hq) (by have := h43.2; have : (1 : Int32).toInt = 1 := rfl; omega) (hP.sub [1, 0, 2, 3] rfl) (hD.sub [1, 0, 2, 3] rfl rfl) hS (lv_sub hl [1, 2, 0] rfl)
  refine lv_aload_n hx hb dX5_test_0 rfl (lv_at hl 0 rfl) ?_
  refine lv_iload_n hx hb dX5_test_1 rfl (lv_at hl 1 rfl) ?_
  refine k_jvm hP hD hS hA [0, 1, 2, 3] [] rfl rfl rfl 0 0 (Nat.le_of_ble_eq_true rfl) (Nat.le_of_ble_eq_true rfl) (fun hPc hDc => k_runV (As := [.int 1]) (rest := []) C0 hZ hS hA (s_X5_both_a0_1 l dC dI cy sq a_this a_this_text g_this_text x_this_length x_this_at x_this_behind x_this_sort x_this_allowed a_this_plan x_this_plan_cycle x_this_plan_green x_this_plan_rule x_this_plan_least x_this_plan_away x_this_plan_statements x_this_plan_kinds a_this_plan_calm a_this_plan_pace a_this_plan_trusts x_this_plan_walkers a_this_plan_kindOf a_this_plan_comesAt a_this_plan_comers a_this_plan_names a_this_plan_code g_this_plan_code x_this_plan_size a_this_plan_spans x_this_fault x_this_place hg_this_text (ib_w 0 1600 hx_this_length rfl) (ib_w 0 1600 hx_this_at rfl) (ib_w 0 1600 hx_this_behind rfl) (ib_w 0 4 hx_this_sort rfl) (ib_w 0 1600 hx_this_plan_size rfl) (fun hq9 => ib_w 0 1599 (hc0_this hq9) rfl)) mV_X5_190 hPc hDc rfl rfl rfl hl rfl rfl (Nat.le_of_ble_eq_true rfl) ⟨(Nat.le_of_ble_eq_true rfl), (Nat.le_of_ble_eq_true rfl)⟩ ⟨(Nat.le_of_ble_eq_true rfl), (Nat.le_of_ble_eq_true rfl)⟩ dX5_test_2) (fun u46 H locs hw hP hD hS => ?_)
  obtain ⟨v47, v48, v49, v50, v51, v52, f53⟩ := u46
  try dsimp only at hP hD hw
  replace hP : va_P (dC, dI) vwCl [(wo_5_riiiiirii a_this a_this_text x_this_length v47 v48 v49 x_this_allowed a_this_plan v50 v51), (wi_0_1600_0 a_this_text cy g_this_text), (wo_4_iiiiiiirrrirrrrrir a_this_plan x_this_plan_cycle x_this_plan_green x_this_plan_rule x_this_plan_least x_this_plan_away x_this_plan_statements x_this_plan_kinds a_this_plan_calm a_this_plan_pace a_this_plan_trusts x_this_plan_walkers a_this_plan_kindOf a_this_plan_comesAt a_this_plan_comers a_this_plan_names a_this_plan_code v52 a_this_plan_spans), (wi_0_1600_0 a_this_plan_code cy f53)] H := hP
  replace hD := k_D hP hD
  obtain ⟨h54, h55, h56, h57, h58, h59⟩ := hw
  replace hq := lf_p1 hq h59
  replace hq := lf_p1 hq rfl
  replace hq := lf_p1 hq rfl
  replace hq := lf_p1 hq rfl
  replace hq := lf_p1 hq rfl
  replace hq := lf_p1 hq rfl
  refine lv_iconst (v := 0) hx hb dX5_test_5 rfl ?_
  refine lv_istore_n (lv' := [(2, .int 0), (0, .ref a_this), (1, .int 1)]) hx hb dX5_test_6 rfl hl (Nat.le_of_ble_eq_true rfl) rfl (fun ls hl => ?_)
  exact jn7 1602 v47 v48 v49 v50 v51 v52 f53 0 H locs ls (ib_w 0 1600 h54 rfl) (ib_w 0 1600 h55 rfl) (ib_w 0 4 h56 rfl) (ib_w 0 1600 h57 rfl) (ib_w 0 1600 (ib_c 0 0 0 rfl) rfl) (fun hq9 => ib_w 0 1599 (h58 hq9) rfl) (by try simp only [show (0 : Int32).toInt = (0 : Int) from rfl]; exact hq) (by have := (ib_c 0 0 0 rfl); unfold ib at this; omega) hP hD hS (lv_sub hl [1, 2, 0] rfl)
set_option maxHeartbeats 4000000 in
set_option maxRecDepth 100000 in
theorem s_X5_fact_a0_0 (l : Launch) (dC : Nat → ClassId) (dI : Nat → Nat → Nat) (cy : Nat → ClassId) (sq : Nat → Nat) (a_this : Nat) (a_this_text : Nat) (g_this_text : Nat → Int32) (x_this_length : Int32) (x_this_at : Int32) (x_this_behind : Int32) (x_this_sort : Int32) (x_this_allowed : Int32) (a_this_plan : Nat) (x_this_plan_cycle : Int32) (x_this_plan_green : Int32) (x_this_plan_rule : Int32) (x_this_plan_least : Int32) (x_this_plan_away : Int32) (x_this_plan_statements : Int32) (x_this_plan_kinds : Int32) (a_this_plan_calm : Nat) (a_this_plan_pace : Nat) (a_this_plan_trusts : Nat) (x_this_plan_walkers : Int32) (a_this_plan_kindOf : Nat) (a_this_plan_comesAt : Nat) (a_this_plan_comers : Nat) (a_this_plan_names : Nat) (a_this_plan_code : Nat) (g_this_plan_code : Nat → Int32) (x_this_plan_size : Int32) (a_this_plan_spans : Nat) (x_this_fault : Int32) (x_this_place : Int32) (hg_this_text : ia g_this_text 1600 0 255) (hx_this_length : ib x_this_length 0 1600) (hx_this_at : ib x_this_at 0 1600) (hx_this_behind : ib x_this_behind 0 1600) (hx_this_sort : ib x_this_sort 0 4) (hx_this_plan_size : ib x_this_plan_size 0 1600) (hc0_this : ¬ x_this_sort = 0 → ib x_this_at 0 1599) : k_Met l yX5_fact cX5_fact 3 none { frames := 33, cells := 0, slots := 0, locals := 789 } dC dI cy sq [.ref a_this, .int 0] [(wo_5_riiiiirii a_this a_this_text x_this_length x_this_at x_this_behind x_this_sort x_this_allowed a_this_plan x_this_fault x_this_place), (wi_0_1600_0 a_this_text cy g_this_text), (wo_4_iiiiiiirrrirrrrrir a_this_plan x_this_plan_cycle x_this_plan_green x_this_plan_rule x_this_plan_least x_this_plan_away x_this_plan_statements x_this_plan_kinds a_this_plan_calm a_this_plan_pace a_this_plan_trusts x_this_plan_walkers a_this_plan_kindOf a_this_plan_comesAt a_this_plan_comers a_this_plan_names a_this_plan_code x_this_plan_size a_this_plan_spans), (wi_0_1600_0 a_this_plan_code cy g_this_plan_code)] (k_Qv dC dI (fun (u : Int32 × Int32 × Int32 × Int32 × Int32 × Int32 × (Nat → Int32)) => match u with | (n0, n1, n2, n3, n4, n5, n6) => ib n0 0 1600 ∧ ib n1 0 1600 ∧ ib n2 0 4 ∧ ib n5 0 1600 ∧ (¬ n2 = 0 → ib n0 0 1599) ∧ (F_X5_fact_a0_0 (lf_A g_this_text) (Int32.toInt x_this_length) (Int32.toInt x_this_at) (Int32.toInt x_this_behind) (Int32.toInt x_this_sort) (Int32.toInt x_this_allowed) (lf_A g_this_plan_code) (Int32.toInt x_this_plan_size) (Int32.toInt x_this_fault) (Int32.toInt x_this_place) = ((Int32.toInt n0), (Int32.toInt n1), (Int32.toInt n2), (Int32.toInt n3), (Int32.toInt n4), (Int32.toInt n5), (lf_A n6)))) (fun u : Int32 × Int32 × Int32 × Int32 × Int32 × Int32 × (Nat → Int32) => match u with | (n0, n1, n2, n3, n4, n5, n6) => [(wo_5_riiiiirii a_this a_this_text x_this_length n0 n1 n2 x_this_allowed a_this_plan n3 n4), (wi_0_1600_0 a_this_text cy g_this_text), (wo_4_iiiiiiirrrirrrrrir a_this_plan x_this_plan_cycle x_this_plan_green x_this_plan_rule x_this_plan_least x_this_plan_away x_this_plan_statements x_this_plan_kinds a_this_plan_calm a_this_plan_pace a_this_plan_trusts x_this_plan_walkers a_this_plan_kindOf a_this_plan_comesAt a_this_plan_comers a_this_plan_names a_this_plan_code n5 a_this_plan_spans), (wi_0_1600_0 a_this_plan_code cy n6)])) := by
  refine k_ofW2 (by decide +kernel) (Nat.le_of_ble_eq_true rfl) ?_
  intro p e s m below meth c A ls H locs args Q hQ C0 hZ hr hlk hin hP hD hA hS hl
  have C0 : k_cx p s m args c cX5_fact 3 RX5 dC dI cy sq := C0
  have hx := C0.1
  have hb := C0.2.1
  have hl : lv_has ls 3 [(0, .ref a_this), (1, .int 0)] := hl
  obtain ⟨O, hO⟩ : ∃ o, o = F_X5_fact_a0_0 (lf_A g_this_text) (Int32.toInt x_this_length) (Int32.toInt x_this_at) (Int32.toInt x_this_behind) (Int32.toInt x_this_sort) (Int32.toInt x_this_allowed) (lf_A g_this_plan_code) (Int32.toInt x_this_plan_size) (Int32.toInt x_this_fault) (Int32.toInt x_this_place) := ⟨_, rfl⟩
  have hq := hO
  unfold F_X5_fact_a0_0 at hq
  refine lv_aload_n hx hb dX5_fact_0 rfl (lv_at hl 0 rfl) ?_
  refine va_ldcS hx hb C0.2.2.2.1 (C0.2.2.2.2.2.2.2.2.2.2.2.2 15 (by decide)) dX5_fact_1 ?_
  refine k_jim hP hD hS hA [0, 1] [false, false, true, true] rfl rfl rfl 0 0 (Nat.le_of_ble_eq_true rfl) (Nat.le_of_ble_eq_true rfl) (fun hPc hDc => k_runV (As := [.ref (sq 15)]) (rest := []) C0 hZ hS hA (s_X5_wordIn_s15 l dC dI cy sq a_this a_this_text g_this_text x_this_length x_this_at x_this_behind x_this_sort x_this_allowed a_this_plan x_this_fault x_this_place hg_this_text (ib_w 0 1600 hx_this_at rfl) (ib_w 0 1600 hx_this_behind rfl) (ib_w 0 4 hx_this_sort rfl) (fun hq9 => ib_w 0 1599 (hc0_this hq9) rfl)) mV_X5_54 hPc hDc rfl rfl rfl hl rfl rfl (Nat.le_of_ble_eq_true rfl) ⟨(Nat.le_of_ble_eq_true rfl), (Nat.le_of_ble_eq_true rfl)⟩ ⟨(Nat.le_of_ble_eq_true rfl), (Nat.le_of_ble_eq_true rfl)⟩ dX5_fact_3) (fun r1 u2 H locs hw hP hD hS => ?_)
  try dsimp only at hP hD hw
  replace hP : va_P (dC, dI) vwCl [(wo_4_iiiiiiirrrirrrrrir a_this_plan x_this_plan_cycle x_this_plan_green x_this_plan_rule x_this_plan_least x_this_plan_away x_this_plan_statements x_this_plan_kinds a_this_plan_calm a_this_plan_pace a_this_plan_trusts x_this_plan_walkers a_this_plan_kindOf a_this_plan_comesAt a_this_plan_comers a_this_plan_names a_this_plan_code x_this_plan_size a_this_plan_spans), (wi_0_1600_0 a_this_plan_code cy g_this_plan_code), (wo_5_riiiiirii a_this a_this_text x_this_length x_this_at x_this_behind x_this_sort x_this_allowed a_this_plan x_this_fault x_this_place), (wi_0_1600_0 a_this_text cy g_this_text)] H := hP
  replace hD := k_D hP hD
  have h3 := hw
  replace hq := lf_b1 hq h3
  refine lv_iconst (v := (-1)) hx hb dX5_fact_6 rfl ?_
  refine lv_icmp_eq (tgt := 34) hx hb dX5_fact_7 rfl (fun c4 => ?_) (fun c4 => ?_)
  · as_aux_lemma =>
      replace hq := lf_pos hq (lf_eq (lf_rf r1) (lf_lc (-1) (-1 : Int) rfl) c4)
      have h5 := ib_eq (ib_any r1) (ib_c (-1) (-1) (-1) rfl) c4
      have h6 : ib r1 (-1) (-1) := ib_w (-1) (-1) h5.1 rfl
      refine lv_aload_n hx hb dX5_fact_34 rfl (lv_at hl 0 rfl) ?_
      refine lv_bipush (v := 91) hx hb dX5_fact_35 rfl ?_
      refine k_jim hP hD hS hA [2, 3] [true, true] rfl rfl rfl 0 0 (Nat.le_of_ble_eq_true rfl) (Nat.le_of_ble_eq_true rfl) (fun hPc hDc => k_runV (As := [.int 91]) (rest := []) C0 hZ hS hA (s_X5_sees l dC dI cy sq a_this a_this_text g_this_text x_this_length x_this_at x_this_behind x_this_sort x_this_allowed a_this_plan x_this_fault x_this_place 91 hg_this_text (ib_w 0 1600 hx_this_at rfl) (ib_w 0 4 hx_this_sort rfl) (fun hq9 => ib_w 0 1599 (hc0_this hq9) rfl)) mV_X5_213 hPc hDc rfl rfl rfl hl rfl rfl (Nat.le_of_ble_eq_true rfl) ⟨(Nat.le_of_ble_eq_true rfl), (Nat.le_of_ble_eq_true rfl)⟩ ⟨(Nat.le_of_ble_eq_true rfl), (Nat.le_of_ble_eq_true rfl)⟩ dX5_fact_37) (fun r7 u8 H locs hw hP hD hS => ?_)
      try dsimp only at hP hD hw
      replace hP : va_P (dC, dI) vwCl [(wo_4_iiiiiiirrrirrrrrir a_this_plan x_this_plan_cycle x_this_plan_green x_this_plan_rule x_this_plan_least x_this_plan_away x_this_plan_statements x_this_plan_kinds a_this_plan_calm a_this_plan_pace a_this_plan_trusts x_this_plan_walkers a_this_plan_kindOf a_this_plan_comesAt a_this_plan_comers a_this_plan_names a_this_plan_code x_this_plan_size a_this_plan_spans), (wi_0_1600_0 a_this_plan_code cy g_this_plan_code), (wo_5_riiiiirii a_this a_this_text x_this_length x_this_at x_this_behind x_this_sort x_this_allowed a_this_plan x_this_fault x_this_place), (wi_0_1600_0 a_this_text cy g_this_text)] H := hP
      replace hD := k_D hP hD
      obtain ⟨h9, h10, h11, h12, h13⟩ := hw
      have h13 := by have h9 := h13; try simp only [show (91 : Int32).toInt = (91 : Int) from rfl] at h9; exact h9
      replace hq := lf_b1 hq h13
      refine lv_if_eq (tgt := 67) hx hb dX5_fact_40 rfl (fun c14 => ?_) (fun c14 => ?_)
      · as_aux_lemma =>
          replace hq := lf_pos hq (lf_eq (lf_rf r7) (lf_lc 0 (0 : Int) rfl) c14)
          have h15 := ib_eq h9 (ib_c 0 0 0 rfl) c14
          have h16 : ib r7 0 0 := ib_w 0 0 h15.1 rfl
          refine lv_aload_n hx hb dX5_fact_67 rfl (lv_at hl 0 rfl) ?_
          refine va_ldcS hx hb C0.2.2.2.1 (C0.2.2.2.2.2.2.2.2.2.2.2.2 16 (by decide)) dX5_fact_68 ?_
          refine k_jim hP hD hS hA [2, 3] [true, true] rfl rfl rfl 0 0 (Nat.le_of_ble_eq_true rfl) (Nat.le_of_ble_eq_true rfl) (fun hPc hDc => k_runV (As := [.ref (sq 16)]) (rest := []) C0 hZ hS hA (s_X5_takeWord_s16 l dC dI cy sq a_this a_this_text g_this_text x_this_length x_this_at x_this_behind x_this_sort x_this_allowed a_this_plan x_this_fault x_this_place hg_this_text (ib_w 0 1600 hx_this_length rfl) (ib_w 0 1600 hx_this_at rfl) (ib_w 0 1600 hx_this_behind rfl) (ib_w 0 4 hx_this_sort rfl) (fun hq9 => ib_w 0 1599 (hc0_this hq9) rfl)) mV_X5_195 hPc hDc rfl rfl rfl hl rfl rfl (Nat.le_of_ble_eq_true rfl) ⟨(Nat.le_of_ble_eq_true rfl), (Nat.le_of_ble_eq_true rfl)⟩ ⟨(Nat.le_of_ble_eq_true rfl), (Nat.le_of_ble_eq_true rfl)⟩ dX5_fact_70) (fun r17 u18 H locs hw hP hD hS => ?_)
          obtain ⟨v19, v20, v21⟩ := u18
          try dsimp only at hP hD hw
          replace hP : va_P (dC, dI) vwCl [(wo_4_iiiiiiirrrirrrrrir a_this_plan x_this_plan_cycle x_this_plan_green x_this_plan_rule x_this_plan_least x_this_plan_away x_this_plan_statements x_this_plan_kinds a_this_plan_calm a_this_plan_pace a_this_plan_trusts x_this_plan_walkers a_this_plan_kindOf a_this_plan_comesAt a_this_plan_comers a_this_plan_names a_this_plan_code x_this_plan_size a_this_plan_spans), (wi_0_1600_0 a_this_plan_code cy g_this_plan_code), (wo_5_riiiiirii a_this a_this_text x_this_length v19 v20 v21 x_this_allowed a_this_plan x_this_fault x_this_place), (wi_0_1600_0 a_this_text cy g_this_text)] H := hP
          replace hD := k_D hP hD
          obtain ⟨h22, h23, h24, h25, h26, h27⟩ := hw
          replace hq := lf_p1 hq h27
          replace hq := lf_p1 hq rfl
          replace hq := lf_p1 hq rfl
          refine lv_if_eq (tgt := 84) hx hb dX5_fact_73 rfl (fun c28 => ?_) (fun c28 => ?_)
          · as_aux_lemma =>
              replace hq := lf_pos hq (lf_eq (lf_rf r17) (lf_lc 0 (0 : Int) rfl) c28)
              have h29 := ib_eq h22 (ib_c 0 0 0 rfl) c28
              have h30 : ib r17 0 0 := ib_w 0 0 h29.1 rfl
              refine lv_aload_n hx hb dX5_fact_84 rfl (lv_at hl 0 rfl) ?_
              refine lv_iload_n hx hb dX5_fact_85 rfl (lv_at hl 1 rfl) ?_
              refine k_jvm hP hD hS hA [2, 3, 0, 1] [] rfl rfl rfl 0 0 (Nat.le_of_ble_eq_true rfl) (Nat.le_of_ble_eq_true rfl) (fun hPc hDc => k_runV (As := [.int 0]) (rest := []) C0 hZ hS hA (s_X5_sum_a0_0 l dC dI cy sq a_this a_this_text g_this_text x_this_length v19 v20 v21 x_this_allowed a_this_plan x_this_plan_cycle x_this_plan_green x_this_plan_rule x_this_plan_least x_this_plan_away x_this_plan_statements x_this_plan_kinds a_this_plan_calm a_this_plan_pace a_this_plan_trusts x_this_plan_walkers a_this_plan_kindOf a_this_plan_comesAt a_this_plan_comers a_this_plan_names a_this_plan_code g_this_plan_code x_this_plan_size a_this_plan_spans x_this_fault x_this_place hg_this_text (ib_w 0 1600 hx_this_length rfl) (ib_w 0 1600 h23 rfl) (ib_w 0 1600 h24 rfl) (ib_w 0 4 h25 rfl) (ib_w 0 1600 hx_this_plan_size rfl) (fun hq9 => ib_w 0 1599 (h26 hq9) rfl)) mV_X5_93 hPc hDc rfl rfl rfl hl rfl rfl (Nat.le_of_ble_eq_true rfl) ⟨(Nat.le_of_ble_eq_true rfl), (Nat.le_of_ble_eq_true rfl)⟩ ⟨(Nat.le_of_ble_eq_true rfl), (Nat.le_of_ble_eq_true rfl)⟩ dX5_fact_86) (fun u32 H locs hw hP hD hS => ?_)
              obtain ⟨v33, v34, v35, v36, v37, v38, f39⟩ := u32
              try dsimp only at hP hD hw
              replace hP : va_P (dC, dI) vwCl [(wo_5_riiiiirii a_this a_this_text x_this_length v33 v34 v35 x_this_allowed a_this_plan v36 v37), (wi_0_1600_0 a_this_text cy g_this_text), (wo_4_iiiiiiirrrirrrrrir a_this_plan x_this_plan_cycle x_this_plan_green x_this_plan_rule x_this_plan_least x_this_plan_away x_this_plan_statements x_this_plan_kinds a_this_plan_calm a_this_plan_pace a_this_plan_trusts x_this_plan_walkers a_this_plan_kindOf a_this_plan_comesAt a_this_plan_comers a_this_plan_names a_this_plan_code v38 a_this_plan_spans), (wi_0_1600_0 a_this_plan_code cy f39)] H := hP
              replace hD := k_D hP hD
              obtain ⟨h40, h41, h42, h43, h44, h45⟩ := hw
              replace hq := lf_p1 hq h45
              replace hq := lf_p1 hq rfl
              replace hq := lf_p1 hq rfl
              replace hq := lf_p1 hq rfl
              replace hq := lf_p1 hq rfl
              replace hq := lf_p1 hq rfl
              refine lv_aload_n hx hb dX5_fact_89 rfl (lv_at hl 0 rfl) ?_
              refine k_jim hP hD hS hA [0, 1] [false, false, true, true] rfl rfl rfl 0 0 (Nat.le_of_ble_eq_true rfl) (Nat.le_of_ble_eq_true rfl) (fun hPc hDc => k_runV (As := []) (rest := []) C0 hZ hS hA (s_X5_signHere l dC dI cy sq a_this a_this_text g_this_text x_this_length v33 v34 v35 x_this_allowed a_this_plan v36 v37 hg_this_text (ib_w 0 1600 hx_this_length rfl) (ib_w 0 1600 h40 rfl) (ib_w 0 1600 h41 rfl) (ib_w 0 4 h42 rfl) (fun hq9 => ib_w 0 1599 (h44 hq9) rfl)) mV_X5_219 hPc hDc rfl rfl rfl hl rfl rfl (Nat.le_of_ble_eq_true rfl) ⟨(Nat.le_of_ble_eq_true rfl), (Nat.le_of_ble_eq_true rfl)⟩ ⟨(Nat.le_of_ble_eq_true rfl), (Nat.le_of_ble_eq_true rfl)⟩ dX5_fact_90) (fun r46 u47 H locs hw hP hD hS => ?_)
              obtain ⟨v48, v49, v50, v51, v52⟩ := u47
              try dsimp only at hP hD hw
              replace hP : va_P (dC, dI) vwCl [(wo_4_iiiiiiirrrirrrrrir a_this_plan x_this_plan_cycle x_this_plan_green x_this_plan_rule x_this_plan_least x_this_plan_away x_this_plan_statements x_this_plan_kinds a_this_plan_calm a_this_plan_pace a_this_plan_trusts x_this_plan_walkers a_this_plan_kindOf a_this_plan_comesAt a_this_plan_comers a_this_plan_names a_this_plan_code v38 a_this_plan_spans), (wi_0_1600_0 a_this_plan_code cy f39), (wo_5_riiiiirii a_this a_this_text x_this_length v48 v49 v50 x_this_allowed a_this_plan v51 v52), (wi_0_1600_0 a_this_text cy g_this_text)] H := hP
              replace hD := k_D hP hD
              obtain ⟨h53, h54, h55, h56, h57, h58⟩ := hw
              replace hq := lf_p1 hq h58
              replace hq := lf_p1 hq rfl
              replace hq := lf_p1 hq rfl
              replace hq := lf_p1 hq rfl
              replace hq := lf_p1 hq rfl
              refine lv_istore_n (lv' := [(2, .int r46), (0, .ref a_this), (1, .int 0)]) hx hb dX5_fact_93 rfl hl (Nat.le_of_ble_eq_true rfl) rfl (fun ls hl => ?_)
              as_aux_lemma =>
                refine lv_aload_n hx hb dX5_fact_94 rfl (lv_at hl 1 rfl) ?_
                refine lv_aload_n hx hb dX5_fact_95 rfl (lv_at hl 1 rfl) ?_
                refine k_get C0 fg_X5_18 hP 2 rfl rfl dX5_fact_96 ?_
                refine k_jvm hP hD hS hA [2, 3] [true, true] rfl rfl rfl 0 0 (Nat.le_of_ble_eq_true rfl) (Nat.le_of_ble_eq_true rfl) (fun hPc hDc => k_runV (As := [.int v49]) (rest := []) C0 hZ hS hA (s_X5_moveTo l dC dI cy sq a_this a_this_text g_this_text x_this_length v48 v49 v50 x_this_allowed a_this_plan v51 v52 v49 hg_this_text (ib_w 0 1600 hx_this_length rfl) (ib_w 0 1600 h55 rfl)) mV_X5_86 hPc hDc rfl rfl rfl hl rfl rfl (Nat.le_of_ble_eq_true rfl) ⟨(Nat.le_of_ble_eq_true rfl), (Nat.le_of_ble_eq_true rfl)⟩ ⟨(Nat.le_of_ble_eq_true rfl), (Nat.le_of_ble_eq_true rfl)⟩ dX5_fact_99) (fun u60 H locs hw hP hD hS => ?_)
                obtain ⟨v61, v62, v63⟩ := u60
                try dsimp only at hP hD hw
                replace hP : va_P (dC, dI) vwCl [(wo_4_iiiiiiirrrirrrrrir a_this_plan x_this_plan_cycle x_this_plan_green x_this_plan_rule x_this_plan_least x_this_plan_away x_this_plan_statements x_this_plan_kinds a_this_plan_calm a_this_plan_pace a_this_plan_trusts x_this_plan_walkers a_this_plan_kindOf a_this_plan_comesAt a_this_plan_comers a_this_plan_names a_this_plan_code v38 a_this_plan_spans), (wi_0_1600_0 a_this_plan_code cy f39), (wo_5_riiiiirii a_this a_this_text x_this_length v61 v62 v63 x_this_allowed a_this_plan v51 v52), (wi_0_1600_0 a_this_text cy g_this_text)] H := hP
                replace hD := k_D hP hD
                obtain ⟨h64, h65, h66, h67, h68⟩ := hw
                replace hq := lf_p1 hq h68
                replace hq := lf_p1 hq rfl
                refine lv_aload_n hx hb dX5_fact_102 rfl (lv_at hl 1 rfl) ?_
                refine lv_iload_n hx hb dX5_fact_103 rfl (lv_at hl 2 rfl) ?_
                refine k_jvm hP hD hS hA [2, 3, 0, 1] [] rfl rfl rfl 0 0 (Nat.le_of_ble_eq_true rfl) (Nat.le_of_ble_eq_true rfl) (fun hPc hDc => k_runV (As := [.int 0]) (rest := []) C0 hZ hS hA (s_X5_sum_a0_0 l dC dI cy sq a_this a_this_text g_this_text x_this_length v61 v62 v63 x_this_allowed a_this_plan x_this_plan_cycle x_this_plan_green x_this_plan_rule x_this_plan_least x_this_plan_away x_this_plan_statements x_this_plan_kinds a_this_plan_calm a_this_plan_pace a_this_plan_trusts x_this_plan_walkers a_this_plan_kindOf a_this_plan_comesAt a_this_plan_comers a_this_plan_names a_this_plan_code f39 v38 a_this_plan_spans v51 v52 hg_this_text (ib_w 0 1600 hx_this_length rfl) (ib_w 0 1600 h64 rfl) (ib_w 0 1600 h65 rfl) (ib_w 0 4 h66 rfl) (ib_w 0 1600 h43 rfl) (fun hq9 => ib_w 0 1599 (h67 hq9) rfl)) mV_X5_93 hPc hDc rfl rfl rfl hl rfl rfl (Nat.le_of_ble_eq_true rfl) ⟨(Nat.le_of_ble_eq_true rfl), (Nat.le_of_ble_eq_true rfl)⟩ ⟨(Nat.le_of_ble_eq_true rfl), (Nat.le_of_ble_eq_true rfl)⟩ dX5_fact_104) (fun u70 H locs hw hP hD hS => ?_)
                obtain ⟨v71, v72, v73, v74, v75, v76, f77⟩ := u70
                try dsimp only at hP hD hw
                replace hP : va_P (dC, dI) vwCl [(wo_5_riiiiirii a_this a_this_text x_this_length v71 v72 v73 x_this_allowed a_this_plan v74 v75), (wi_0_1600_0 a_this_text cy g_this_text), (wo_4_iiiiiiirrrirrrrrir a_this_plan x_this_plan_cycle x_this_plan_green x_this_plan_rule x_this_plan_least x_this_plan_away x_this_plan_statements x_this_plan_kinds a_this_plan_calm a_this_plan_pace a_this_plan_trusts x_this_plan_walkers a_this_plan_kindOf a_this_plan_comesAt a_this_plan_comers a_this_plan_names a_this_plan_code v76 a_this_plan_spans), (wi_0_1600_0 a_this_plan_code cy f77)] H := hP
                replace hD := k_D hP hD
                obtain ⟨h78, h79, h80, h81, h82, h83⟩ := hw
                replace hq := lf_p1 hq h83
                replace hq := lf_p1 hq rfl
                replace hq := lf_p1 hq rfl
                replace hq := lf_p1 hq rfl
                replace hq := lf_p1 hq rfl
                replace hq := lf_p1 hq rfl
                refine lv_aload_n hx hb dX5_fact_107 rfl (lv_at hl 1 rfl) ?_
                refine lv_iload_n hx hb dX5_fact_108 rfl (lv_at hl 0 rfl) ?_
                refine k_jvm hP hD hS hA [0, 2, 3] [false, true] rfl rfl rfl 0 0 (Nat.le_of_ble_eq_true rfl) (Nat.le_of_ble_eq_true rfl) (fun hPc hDc => k_runV (As := [.int r46]) (rest := []) C0 hZ hS hA (s_X5_emit l dC dI cy sq a_this a_this_text x_this_length v71 v72 v73 x_this_allowed a_this_plan x_this_plan_cycle x_this_plan_green x_this_plan_rule x_this_plan_least x_this_plan_away x_this_plan_statements x_this_plan_kinds a_this_plan_calm a_this_plan_pace a_this_plan_trusts x_this_plan_walkers a_this_plan_kindOf a_this_plan_comesAt a_this_plan_comers a_this_plan_names a_this_plan_code f77 v76 a_this_plan_spans v74 v75 r46 (ib_w 0 1600 h81 rfl)) mV_X5_199 hPc hDc rfl rfl rfl hl rfl rfl (Nat.le_of_ble_eq_true rfl) ⟨(Nat.le_of_ble_eq_true rfl), (Nat.le_of_ble_eq_true rfl)⟩ ⟨(Nat.le_of_ble_eq_true rfl), (Nat.le_of_ble_eq_true rfl)⟩ dX5_fact_109) (fun u85 H locs hw hP hD hS => ?_)
                obtain ⟨v86, f87⟩ := u85
                try dsimp only at hP hD hw
                replace hP : va_P (dC, dI) vwCl [(wi_0_1600_0 a_this_text cy g_this_text), (wo_5_riiiiirii a_this a_this_text x_this_length v71 v72 v73 x_this_allowed a_this_plan v74 v75), (wo_4_iiiiiiirrrirrrrrir a_this_plan x_this_plan_cycle x_this_plan_green x_this_plan_rule x_this_plan_least x_this_plan_away x_this_plan_statements x_this_plan_kinds a_this_plan_calm a_this_plan_pace a_this_plan_trusts x_this_plan_walkers a_this_plan_kindOf a_this_plan_comesAt a_this_plan_comers a_this_plan_names a_this_plan_code v86 a_this_plan_spans), (wi_0_1600_0 a_this_plan_code cy f87)] H := hP
                replace hD := k_D hP hD
                obtain ⟨h88, h89⟩ := hw
                replace hq := lf_p1 hq h89
                subst hQ; exact k_vret hx hb hr hlk ((v71, v72, v73, v74, v75, v86, f87)) hS ⟨ib_w 0 1600 h78 rfl, ib_w 0 1600 h79 rfl, ib_w 0 4 h80 rfl, ib_w 0 1600 h88 rfl, fun hq9 => ib_w 0 1599 (h82 hq9) rfl, (hO.symm.trans (by exact hq))⟩ (hP.sub [1, 0, 2, 3] rfl) (hD.sub [1, 0, 2, 3] rfl rfl) (Nat.le_of_ble_eq_true rfl) (Nat.le_of_ble_eq_true rfl) dX5_fact_112
          · replace hq := lf_neg hq (lf_ne (lf_rf r17) (lf_lc 0 (0 : Int) rfl) c28)
            have h90 : ib r17 1 1 := ib_w 1 1 (ib_ne_lo 0 h22 rfl c28) rfl
            refine lv_aload_n hx hb dX5_fact_76 rfl (lv_at hl 0 rfl) ?_
            refine lv_iconst (v := 1) hx hb dX5_fact_77 rfl ?_
            refine k_jvm hP hD hS hA [2, 0, 1] [false, false, false, true] rfl rfl rfl 0 0 (Nat.le_of_ble_eq_true rfl) (Nat.le_of_ble_eq_true rfl) (fun hPc hDc => k_runV (As := [.int 1]) (rest := []) C0 hZ hS hA (s_X5_emit l dC dI cy sq a_this a_this_text x_this_length v19 v20 v21 x_this_allowed a_this_plan x_this_plan_cycle x_this_plan_green x_this_plan_rule x_this_plan_least x_this_plan_away x_this_plan_statements x_this_plan_kinds a_this_plan_calm a_this_plan_pace a_this_plan_trusts x_this_plan_walkers a_this_plan_kindOf a_this_plan_comesAt a_this_plan_comers a_this_plan_names a_this_plan_code g_this_plan_code x_this_plan_size a_this_plan_spans x_this_fault x_this_place 1 (ib_w 0 1600 hx_this_plan_size rfl)) mV_X5_199 hPc hDc rfl rfl rfl hl rfl rfl (Nat.le_of_ble_eq_true rfl) ⟨(Nat.le_of_ble_eq_true rfl), (Nat.le_of_ble_eq_true rfl)⟩ ⟨(Nat.le_of_ble_eq_true rfl), (Nat.le_of_ble_eq_true rfl)⟩ dX5_fact_78) (fun u92 H locs hw hP hD hS => ?_)
            obtain ⟨v93, f94⟩ := u92
            try dsimp only at hP hD hw
            replace hP : va_P (dC, dI) vwCl [(wi_0_1600_0 a_this_text cy g_this_text), (wo_5_riiiiirii a_this a_this_text x_this_length v19 v20 v21 x_this_allowed a_this_plan x_this_fault x_this_place), (wo_4_iiiiiiirrrirrrrrir a_this_plan x_this_plan_cycle x_this_plan_green x_this_plan_rule x_this_plan_least x_this_plan_away x_this_plan_statements x_this_plan_kinds a_this_plan_calm a_this_plan_pace a_this_plan_trusts x_this_plan_walkers a_this_plan_kindOf a_this_plan_comesAt a_this_plan_comers a_this_plan_names a_this_plan_code v93 a_this_plan_spans), (wi_0_1600_0 a_this_plan_code cy f94)] H := hP
            replace hD := k_D hP hD
            obtain ⟨h95, h96⟩ := hw
            have h96 := by have h9 := h96; try simp only [show (1 : Int32).toInt = (1 : Int) from rfl] at h9; exact h9
            replace hq := lf_p1 hq h96
            refine lv_goto (tgt := 112) hx hb dX5_fact_81 rfl ?_
            subst hQ; exact k_vret hx hb hr hlk ((v19, v20, v21, x_this_fault, x_this_place, v93, f94)) hS ⟨ib_w 0 1600 h23 rfl, ib_w 0 1600 h24 rfl, ib_w 0 4 h25 rfl, ib_w 0 1600 h95 rfl, fun hq9 => ib_w 0 1599 (h26 hq9) rfl, (hO.symm.trans (by exact hq))⟩ (hP.sub [1, 0, 2, 3] rfl) (hD.sub [1, 0, 2, 3] rfl rfl) (Nat.le_of_ble_eq_true rfl) (Nat.le_of_ble_eq_true rfl) dX5_fact_112
      · as_aux_lemma =>
          replace hq := lf_neg hq (lf_ne (lf_rf r7) (lf_lc 0 (0 : Int) rfl) c14)
          have h97 : ib r7 1 1 := ib_w 1 1 (ib_ne_lo 0 h9 rfl c14) rfl
          have h98 : ib x_this_at 0 1599 := ib_w 0 1599 (ib_two hx_this_at (h10 c14)) rfl
          have h99 : ib x_this_sort 3 3 := ib_w 3 3 (ib_two hx_this_sort (h11 c14)) rfl
          refine lv_aload_n hx hb dX5_fact_43 rfl (lv_at hl 0 rfl) ?_
          refine lv_iload_n hx hb dX5_fact_44 rfl (lv_at hl 1 rfl) ?_
          refine k_jim hP hD hS hA [2, 3] [true, true] rfl rfl rfl 0 0 (Nat.le_of_ble_eq_true rfl) (Nat.le_of_ble_eq_true rfl) (fun hPc hDc => k_runV (As := [.int 0]) (rest := []) C0 hZ hS hA (s_X5_enters_a0_0 l dC dI cy sq a_this a_this_text g_this_text x_this_length x_this_at x_this_behind x_this_sort x_this_allowed a_this_plan x_this_fault x_this_place hg_this_text (ib_w 0 1600 hx_this_length rfl) (ib_w 0 1600 hx_this_behind rfl)) mV_X5_209 hPc hDc rfl rfl rfl hl rfl rfl (Nat.le_of_ble_eq_true rfl) ⟨(Nat.le_of_ble_eq_true rfl), (Nat.le_of_ble_eq_true rfl)⟩ ⟨(Nat.le_of_ble_eq_true rfl), (Nat.le_of_ble_eq_true rfl)⟩ dX5_fact_45) (fun r100 u101 H locs hw hP hD hS => ?_)
          obtain ⟨v102, v103, v104⟩ := u101
          try dsimp only at hP hD hw
          replace hP : va_P (dC, dI) vwCl [(wo_4_iiiiiiirrrirrrrrir a_this_plan x_this_plan_cycle x_this_plan_green x_this_plan_rule x_this_plan_least x_this_plan_away x_this_plan_statements x_this_plan_kinds a_this_plan_calm a_this_plan_pace a_this_plan_trusts x_this_plan_walkers a_this_plan_kindOf a_this_plan_comesAt a_this_plan_comers a_this_plan_names a_this_plan_code x_this_plan_size a_this_plan_spans), (wi_0_1600_0 a_this_plan_code cy g_this_plan_code), (wo_5_riiiiirii a_this a_this_text x_this_length v102 v103 v104 x_this_allowed a_this_plan x_this_fault x_this_place), (wi_0_1600_0 a_this_text cy g_this_text)] H := hP
          replace hD := k_D hP hD
          obtain ⟨h105, h106, h107, h108, h109, h110⟩ := hw
          replace hq := lf_p1 hq h110
          replace hq := lf_p1 hq rfl
          replace hq := lf_p1 hq rfl
          refine lv_if_eq (tgt := 112) hx hb dX5_fact_48 rfl (fun c111 => ?_) (fun c111 => ?_)
          · skip
            have h112 := ib_eq h105 (ib_c 0 0 0 rfl) c111
            exact ib_no (ib_w 1 0 h112.1 rfl) rfl
          · as_aux_lemma =>
              skip
              refine lv_aload_n hx hb dX5_fact_51 rfl (lv_at hl 0 rfl) ?_
              refine lv_iload_n hx hb dX5_fact_52 rfl (lv_at hl 1 rfl) ?_
              refine lv_iconst (v := 1) hx hb dX5_fact_53 rfl ?_
              refine lv_iadd hx hb dX5_fact_54 ?_
              refine k_topi (y := 1) (by decide) ?_
              refine k_jvm hP hD hS hA [2, 3, 0, 1] [] rfl rfl rfl 0 0 (Nat.le_of_ble_eq_true rfl) (Nat.le_of_ble_eq_true rfl) (fun hPc hDc => k_runV (As := [.int 1]) (rest := []) C0 hZ hS hA (s_X5_test_a0_1 l dC dI cy sq a_this a_this_text g_this_text x_this_length v102 v103 v104 x_this_allowed a_this_plan x_this_plan_cycle x_this_plan_green x_this_plan_rule x_this_plan_least x_this_plan_away x_this_plan_statements x_this_plan_kinds a_this_plan_calm a_this_plan_pace a_this_plan_trusts x_this_plan_walkers a_this_plan_kindOf a_this_plan_comesAt a_this_plan_comers a_this_plan_names a_this_plan_code g_this_plan_code x_this_plan_size a_this_plan_spans x_this_fault x_this_place hg_this_text (ib_w 0 1600 hx_this_length rfl) (ib_w 0 1600 h106 rfl) (ib_w 0 1600 h107 rfl) (ib_w 0 4 h108 rfl) (ib_w 0 1600 hx_this_plan_size rfl) (fun hq9 => ib_w 0 1599 (h109 hq9) rfl)) mV_X5_90 hPc hDc rfl rfl rfl hl rfl rfl (Nat.le_of_ble_eq_true rfl) ⟨(Nat.le_of_ble_eq_true rfl), (Nat.le_of_ble_eq_true rfl)⟩ ⟨(Nat.le_of_ble_eq_true rfl), (Nat.le_of_ble_eq_true rfl)⟩ dX5_fact_55) (fun u114 H locs hw hP hD hS => ?_)
              obtain ⟨v115, v116, v117, v118, v119, v120, f121⟩ := u114
              try dsimp only at hP hD hw
              replace hP : va_P (dC, dI) vwCl [(wo_5_riiiiirii a_this a_this_text x_this_length v115 v116 v117 x_this_allowed a_this_plan v118 v119), (wi_0_1600_0 a_this_text cy g_this_text), (wo_4_iiiiiiirrrirrrrrir a_this_plan x_this_plan_cycle x_this_plan_green x_this_plan_rule x_this_plan_least x_this_plan_away x_this_plan_statements x_this_plan_kinds a_this_plan_calm a_this_plan_pace a_this_plan_trusts x_this_plan_walkers a_this_plan_kindOf a_this_plan_comesAt a_this_plan_comers a_this_plan_names a_this_plan_code v120 a_this_plan_spans), (wi_0_1600_0 a_this_plan_code cy f121)] H := hP
              replace hD := k_D hP hD
              obtain ⟨h122, h123, h124, h125, h126, h127⟩ := hw
              replace hq := lf_p1 hq h127
              replace hq := lf_p1 hq rfl
              replace hq := lf_p1 hq rfl
              replace hq := lf_p1 hq rfl
              replace hq := lf_p1 hq rfl
              replace hq := lf_p1 hq rfl
              refine lv_aload_n hx hb dX5_fact_58 rfl (lv_at hl 0 rfl) ?_
              refine lv_bipush (v := 93) hx hb dX5_fact_59 rfl ?_
              refine k_jvm hP hD hS hA [0, 1] [false, false, true, true] rfl rfl rfl 0 0 (Nat.le_of_ble_eq_true rfl) (Nat.le_of_ble_eq_true rfl) (fun hPc hDc => k_runV (As := [.int 93]) (rest := []) C0 hZ hS hA (s_X5_need l dC dI cy sq a_this a_this_text g_this_text x_this_length v115 v116 v117 x_this_allowed a_this_plan v118 v119 93 hg_this_text (ib_w 0 1600 hx_this_length rfl) (ib_w 0 1600 h122 rfl) (ib_w 0 1600 h123 rfl) (ib_w 0 4 h124 rfl) (fun hq9 => ib_w 0 1599 (h126 hq9) rfl)) mV_X5_48 hPc hDc rfl rfl rfl hl rfl rfl (Nat.le_of_ble_eq_true rfl) ⟨(Nat.le_of_ble_eq_true rfl), (Nat.le_of_ble_eq_true rfl)⟩ ⟨(Nat.le_of_ble_eq_true rfl), (Nat.le_of_ble_eq_true rfl)⟩ dX5_fact_61) (fun u129 H locs hw hP hD hS => ?_)
              obtain ⟨v130, v131, v132, v133, v134⟩ := u129
              try dsimp only at hP hD hw
              replace hP : va_P (dC, dI) vwCl [(wo_4_iiiiiiirrrirrrrrir a_this_plan x_this_plan_cycle x_this_plan_green x_this_plan_rule x_this_plan_least x_this_plan_away x_this_plan_statements x_this_plan_kinds a_this_plan_calm a_this_plan_pace a_this_plan_trusts x_this_plan_walkers a_this_plan_kindOf a_this_plan_comesAt a_this_plan_comers a_this_plan_names a_this_plan_code v120 a_this_plan_spans), (wi_0_1600_0 a_this_plan_code cy f121), (wo_5_riiiiirii a_this a_this_text x_this_length v130 v131 v132 x_this_allowed a_this_plan v133 v134), (wi_0_1600_0 a_this_text cy g_this_text)] H := hP
              replace hD := k_D hP hD
              obtain ⟨h135, h136, h137, h138, h139⟩ := hw
              have h139 := by have h9 := h139; try simp only [show (93 : Int32).toInt = (93 : Int) from rfl] at h9; exact h9
              replace hq := lf_p1 hq h139
              replace hq := lf_p1 hq rfl
              replace hq := lf_p1 hq rfl
              replace hq := lf_p1 hq rfl
              refine lv_goto (tgt := 112) hx hb dX5_fact_64 rfl ?_
              subst hQ; exact k_vret hx hb hr hlk ((v130, v131, v132, v133, v134, v120, f121)) hS ⟨ib_w 0 1600 h135 rfl, ib_w 0 1600 h136 rfl, ib_w 0 4 h137 rfl, ib_w 0 1600 h125 rfl, fun hq9 => ib_w 0 1599 (h138 hq9) rfl, (hO.symm.trans (by exact hq))⟩ (hP.sub [2, 3, 0, 1] rfl) (hD.sub [2, 3, 0, 1] rfl rfl) (Nat.le_of_ble_eq_true rfl) (Nat.le_of_ble_eq_true rfl) dX5_fact_112
  · as_aux_lemma =>
      replace hq := lf_neg hq (lf_ne (lf_rf r1) (lf_lc (-1) (-1 : Int) rfl) c4)
      refine lv_aload_n hx hb dX5_fact_10 rfl (lv_at hl 0 rfl) ?_
      refine lv_iload_n hx hb dX5_fact_11 rfl (lv_at hl 1 rfl) ?_
      refine k_jim hP hD hS hA [2, 3] [true, true] rfl rfl rfl 0 0 (Nat.le_of_ble_eq_true rfl) (Nat.le_of_ble_eq_true rfl) (fun hPc hDc => k_runV (As := [.int 0]) (rest := []) C0 hZ hS hA (s_X5_enters_a0_0 l dC dI cy sq a_this a_this_text g_this_text x_this_length x_this_at x_this_behind x_this_sort x_this_allowed a_this_plan x_this_fault x_this_place hg_this_text (ib_w 0 1600 hx_this_length rfl) (ib_w 0 1600 hx_this_behind rfl)) mV_X5_209 hPc hDc rfl rfl rfl hl rfl rfl (Nat.le_of_ble_eq_true rfl) ⟨(Nat.le_of_ble_eq_true rfl), (Nat.le_of_ble_eq_true rfl)⟩ ⟨(Nat.le_of_ble_eq_true rfl), (Nat.le_of_ble_eq_true rfl)⟩ dX5_fact_12) (fun r140 u141 H locs hw hP hD hS => ?_)
      obtain ⟨v142, v143, v144⟩ := u141
      try dsimp only at hP hD hw
      replace hP : va_P (dC, dI) vwCl [(wo_4_iiiiiiirrrirrrrrir a_this_plan x_this_plan_cycle x_this_plan_green x_this_plan_rule x_this_plan_least x_this_plan_away x_this_plan_statements x_this_plan_kinds a_this_plan_calm a_this_plan_pace a_this_plan_trusts x_this_plan_walkers a_this_plan_kindOf a_this_plan_comesAt a_this_plan_comers a_this_plan_names a_this_plan_code x_this_plan_size a_this_plan_spans), (wi_0_1600_0 a_this_plan_code cy g_this_plan_code), (wo_5_riiiiirii a_this a_this_text x_this_length v142 v143 v144 x_this_allowed a_this_plan x_this_fault x_this_place), (wi_0_1600_0 a_this_text cy g_this_text)] H := hP
      replace hD := k_D hP hD
      obtain ⟨h145, h146, h147, h148, h149, h150⟩ := hw
      replace hq := lf_p1 hq h150
      replace hq := lf_p1 hq rfl
      replace hq := lf_p1 hq rfl
      refine lv_if_eq (tgt := 112) hx hb dX5_fact_15 rfl (fun c151 => ?_) (fun c151 => ?_)
      · skip
        have h152 := ib_eq h145 (ib_c 0 0 0 rfl) c151
        exact ib_no (ib_w 1 0 h152.1 rfl) rfl
      · as_aux_lemma =>
          skip
          refine lv_aload_n hx hb dX5_fact_18 rfl (lv_at hl 0 rfl) ?_
          refine lv_iload_n hx hb dX5_fact_19 rfl (lv_at hl 1 rfl) ?_
          refine lv_iconst (v := 1) hx hb dX5_fact_20 rfl ?_
          refine lv_iadd hx hb dX5_fact_21 ?_
          refine k_topi (y := 1) (by decide) ?_
          refine k_jvm hP hD hS hA [2, 3, 0, 1] [] rfl rfl rfl 0 0 (Nat.le_of_ble_eq_true rfl) (Nat.le_of_ble_eq_true rfl) (fun hPc hDc => k_runV (As := [.int 1]) (rest := []) C0 hZ hS hA (s_X5_fact_a0_1 l dC dI cy sq a_this a_this_text g_this_text x_this_length v142 v143 v144 x_this_allowed a_this_plan x_this_plan_cycle x_this_plan_green x_this_plan_rule x_this_plan_least x_this_plan_away x_this_plan_statements x_this_plan_kinds a_this_plan_calm a_this_plan_pace a_this_plan_trusts x_this_plan_walkers a_this_plan_kindOf a_this_plan_comesAt a_this_plan_comers a_this_plan_names a_this_plan_code g_this_plan_code x_this_plan_size a_this_plan_spans x_this_fault x_this_place hg_this_text (ib_w 0 1600 hx_this_length rfl) (ib_w 0 1600 h146 rfl) (ib_w 0 1600 h147 rfl) (ib_w 0 4 h148 rfl) (ib_w 0 1600 hx_this_plan_size rfl) (fun hq9 => ib_w 0 1599 (h149 hq9) rfl)) mV_X5_202 hPc hDc rfl rfl rfl hl rfl rfl (Nat.le_of_ble_eq_true rfl) ⟨(Nat.le_of_ble_eq_true rfl), (Nat.le_of_ble_eq_true rfl)⟩ ⟨(Nat.le_of_ble_eq_true rfl), (Nat.le_of_ble_eq_true rfl)⟩ dX5_fact_22) (fun u154 H locs hw hP hD hS => ?_)
          obtain ⟨v155, v156, v157, v158, v159, v160, f161⟩ := u154
          try dsimp only at hP hD hw
          replace hP : va_P (dC, dI) vwCl [(wo_5_riiiiirii a_this a_this_text x_this_length v155 v156 v157 x_this_allowed a_this_plan v158 v159), (wi_0_1600_0 a_this_text cy g_this_text), (wo_4_iiiiiiirrrirrrrrir a_this_plan x_this_plan_cycle x_this_plan_green x_this_plan_rule x_this_plan_least x_this_plan_away x_this_plan_statements x_this_plan_kinds a_this_plan_calm a_this_plan_pace a_this_plan_trusts x_this_plan_walkers a_this_plan_kindOf a_this_plan_comesAt a_this_plan_comers a_this_plan_names a_this_plan_code v160 a_this_plan_spans), (wi_0_1600_0 a_this_plan_code cy f161)] H := hP
          replace hD := k_D hP hD
          obtain ⟨h162, h163, h164, h165, h166, h167⟩ := hw
          replace hq := lf_p1 hq h167
          replace hq := lf_p1 hq rfl
          replace hq := lf_p1 hq rfl
          replace hq := lf_p1 hq rfl
          replace hq := lf_p1 hq rfl
          replace hq := lf_p1 hq rfl
          refine lv_aload_n hx hb dX5_fact_25 rfl (lv_at hl 0 rfl) ?_
          refine lv_bipush (v := (-31)) hx hb dX5_fact_26 rfl ?_
          refine k_jvm hP hD hS hA [0, 2, 3] [false, true] rfl rfl rfl 0 0 (Nat.le_of_ble_eq_true rfl) (Nat.le_of_ble_eq_true rfl) (fun hPc hDc => k_runV (As := [.int (-31)]) (rest := []) C0 hZ hS hA (s_X5_emit l dC dI cy sq a_this a_this_text x_this_length v155 v156 v157 x_this_allowed a_this_plan x_this_plan_cycle x_this_plan_green x_this_plan_rule x_this_plan_least x_this_plan_away x_this_plan_statements x_this_plan_kinds a_this_plan_calm a_this_plan_pace a_this_plan_trusts x_this_plan_walkers a_this_plan_kindOf a_this_plan_comesAt a_this_plan_comers a_this_plan_names a_this_plan_code f161 v160 a_this_plan_spans v158 v159 (-31) (ib_w 0 1600 h165 rfl)) mV_X5_199 hPc hDc rfl rfl rfl hl rfl rfl (Nat.le_of_ble_eq_true rfl) ⟨(Nat.le_of_ble_eq_true rfl), (Nat.le_of_ble_eq_true rfl)⟩ ⟨(Nat.le_of_ble_eq_true rfl), (Nat.le_of_ble_eq_true rfl)⟩ dX5_fact_28) (fun u169 H locs hw hP hD hS => ?_)
          obtain ⟨v170, f171⟩ := u169
          try dsimp only at hP hD hw
          replace hP : va_P (dC, dI) vwCl [(wi_0_1600_0 a_this_text cy g_this_text), (wo_5_riiiiirii a_this a_this_text x_this_length v155 v156 v157 x_this_allowed a_this_plan v158 v159), (wo_4_iiiiiiirrrirrrrrir a_this_plan x_this_plan_cycle x_this_plan_green x_this_plan_rule x_this_plan_least x_this_plan_away x_this_plan_statements x_this_plan_kinds a_this_plan_calm a_this_plan_pace a_this_plan_trusts x_this_plan_walkers a_this_plan_kindOf a_this_plan_comesAt a_this_plan_comers a_this_plan_names a_this_plan_code v170 a_this_plan_spans), (wi_0_1600_0 a_this_plan_code cy f171)] H := hP
          replace hD := k_D hP hD
          obtain ⟨h172, h173⟩ := hw
          have h173 := by have h9 := h173; try simp only [show ((-31) : Int32).toInt = (-31 : Int) from rfl] at h9; exact h9
          replace hq := lf_p1 hq h173
          refine lv_goto (tgt := 112) hx hb dX5_fact_31 rfl ?_
          subst hQ; exact k_vret hx hb hr hlk ((v155, v156, v157, v158, v159, v170, f171)) hS ⟨ib_w 0 1600 h162 rfl, ib_w 0 1600 h163 rfl, ib_w 0 4 h164 rfl, ib_w 0 1600 h172 rfl, fun hq9 => ib_w 0 1599 (h166 hq9) rfl, (hO.symm.trans (by exact hq))⟩ (hP.sub [1, 0, 2, 3] rfl) (hD.sub [1, 0, 2, 3] rfl rfl) (Nat.le_of_ble_eq_true rfl) (Nat.le_of_ble_eq_true rfl) dX5_fact_112
set_option maxHeartbeats 4000000 in
set_option maxRecDepth 100000 in
theorem s_X5_both_a0_0 (l : Launch) (dC : Nat → ClassId) (dI : Nat → Nat → Nat) (cy : Nat → ClassId) (sq : Nat → Nat) (a_this : Nat) (a_this_text : Nat) (g_this_text : Nat → Int32) (x_this_length : Int32) (x_this_at : Int32) (x_this_behind : Int32) (x_this_sort : Int32) (x_this_allowed : Int32) (a_this_plan : Nat) (x_this_plan_cycle : Int32) (x_this_plan_green : Int32) (x_this_plan_rule : Int32) (x_this_plan_least : Int32) (x_this_plan_away : Int32) (x_this_plan_statements : Int32) (x_this_plan_kinds : Int32) (a_this_plan_calm : Nat) (a_this_plan_pace : Nat) (a_this_plan_trusts : Nat) (x_this_plan_walkers : Int32) (a_this_plan_kindOf : Nat) (a_this_plan_comesAt : Nat) (a_this_plan_comers : Nat) (a_this_plan_names : Nat) (a_this_plan_code : Nat) (g_this_plan_code : Nat → Int32) (x_this_plan_size : Int32) (a_this_plan_spans : Nat) (x_this_fault : Int32) (x_this_place : Int32) (hg_this_text : ia g_this_text 1600 0 255) (hx_this_length : ib x_this_length 0 1600) (hx_this_at : ib x_this_at 0 1600) (hx_this_behind : ib x_this_behind 0 1600) (hx_this_sort : ib x_this_sort 0 4) (hx_this_plan_size : ib x_this_plan_size 0 1600) (hc0_this : ¬ x_this_sort = 0 → ib x_this_at 0 1599) : k_Met l yX5_both cX5_both 3 none { frames := 34, cells := 0, slots := 0, locals := 811 } dC dI cy sq [.ref a_this, .int 0] [(wo_5_riiiiirii a_this a_this_text x_this_length x_this_at x_this_behind x_this_sort x_this_allowed a_this_plan x_this_fault x_this_place), (wi_0_1600_0 a_this_text cy g_this_text), (wo_4_iiiiiiirrrirrrrrir a_this_plan x_this_plan_cycle x_this_plan_green x_this_plan_rule x_this_plan_least x_this_plan_away x_this_plan_statements x_this_plan_kinds a_this_plan_calm a_this_plan_pace a_this_plan_trusts x_this_plan_walkers a_this_plan_kindOf a_this_plan_comesAt a_this_plan_comers a_this_plan_names a_this_plan_code x_this_plan_size a_this_plan_spans), (wi_0_1600_0 a_this_plan_code cy g_this_plan_code)] (k_Qv dC dI (fun (u : Int32 × Int32 × Int32 × Int32 × Int32 × Int32 × (Nat → Int32)) => match u with | (n0, n1, n2, n3, n4, n5, n6) => ib n0 0 1600 ∧ ib n1 0 1600 ∧ ib n2 0 4 ∧ ib n5 0 1600 ∧ (¬ n2 = 0 → ib n0 0 1599) ∧ (F_X5_both_a0_0 (lf_A g_this_text) (Int32.toInt x_this_length) (Int32.toInt x_this_at) (Int32.toInt x_this_behind) (Int32.toInt x_this_sort) (Int32.toInt x_this_allowed) (lf_A g_this_plan_code) (Int32.toInt x_this_plan_size) (Int32.toInt x_this_fault) (Int32.toInt x_this_place) = ((Int32.toInt n0), (Int32.toInt n1), (Int32.toInt n2), (Int32.toInt n3), (Int32.toInt n4), (Int32.toInt n5), (lf_A n6)))) (fun u : Int32 × Int32 × Int32 × Int32 × Int32 × Int32 × (Nat → Int32) => match u with | (n0, n1, n2, n3, n4, n5, n6) => [(wo_5_riiiiirii a_this a_this_text x_this_length n0 n1 n2 x_this_allowed a_this_plan n3 n4), (wi_0_1600_0 a_this_text cy g_this_text), (wo_4_iiiiiiirrrirrrrrir a_this_plan x_this_plan_cycle x_this_plan_green x_this_plan_rule x_this_plan_least x_this_plan_away x_this_plan_statements x_this_plan_kinds a_this_plan_calm a_this_plan_pace a_this_plan_trusts x_this_plan_walkers a_this_plan_kindOf a_this_plan_comesAt a_this_plan_comers a_this_plan_names a_this_plan_code n5 a_this_plan_spans), (wi_0_1600_0 a_this_plan_code cy n6)])) := by
  refine k_ofW2 (by decide +kernel) (Nat.le_of_ble_eq_true rfl) ?_
  intro p e s m below meth c A ls H locs args Q hQ C0 hZ hr hlk hin hP hD hA hS hl
  have C0 : k_cx p s m args c cX5_both 3 RX5 dC dI cy sq := C0
  have hx := C0.1
  have hb := C0.2.1
  have hl : lv_has ls 3 [(0, .ref a_this), (1, .int 0)] := hl
  obtain ⟨O, hO⟩ : ∃ o, o = F_X5_both_a0_0 (lf_A g_this_text) (Int32.toInt x_this_length) (Int32.toInt x_this_at) (Int32.toInt x_this_behind) (Int32.toInt x_this_sort) (Int32.toInt x_this_allowed) (lf_A g_this_plan_code) (Int32.toInt x_this_plan_size) (Int32.toInt x_this_fault) (Int32.toInt x_this_place) := ⟨_, rfl⟩
  have hq := hO
  unfold F_X5_both_a0_0 at hq
  have jn7 : ∀ (n : Nat) (J7_c0_2 : Int32) (J7_c0_3 : Int32) (J7_c0_4 : Int32) (J7_c0_7 : Int32) (J7_c0_8 : Int32) (J7_c2_16 : Int32) (J7_a3 : Nat → Int32) (J7_l2 : Int32) (H : Heap) (locs : List Loc) (ls : Array Slot), ib J7_c0_2 0 1600 → ib J7_c0_3 0 1600 → ib J7_c0_4 0 4 → ib J7_c2_16 0 1600 → ib J7_l2 0 1600 → (¬ J7_c0_4 = 0 → ib J7_c0_2 0 1599) → (O = F_X5_both_a0_0_7 (lf_A g_this_text) (Int32.toInt x_this_length) (Int32.toInt x_this_allowed) n (Int32.toInt J7_c0_2) (Int32.toInt J7_c0_3) (Int32.toInt J7_c0_4) (Int32.toInt J7_c0_7) (Int32.toInt J7_c0_8) (Int32.toInt J7_c2_16) (lf_A J7_a3) (Int32.toInt J7_l2)) → 1601 ≤ J7_l2.toInt + (n : Int) → va_P (dC, dI) vwCl [(wo_5_riiiiirii a_this a_this_text x_this_length J7_c0_2 J7_c0_3 J7_c0_4 x_this_allowed a_this_plan J7_c0_7 J7_c0_8), (wi_0_1600_0 a_this_text cy g_this_text), (wo_4_iiiiiiirrrirrrrrir a_this_plan x_this_plan_cycle x_this_plan_green x_this_plan_rule x_this_plan_least x_this_plan_away x_this_plan_statements x_this_plan_kinds a_this_plan_calm a_this_plan_pace a_this_plan_trusts x_this_plan_walkers a_this_plan_kindOf a_this_plan_comesAt a_this_plan_comers a_this_plan_names a_this_plan_code J7_c2_16 a_this_plan_spans), (wi_0_1600_0 a_this_plan_code cy J7_a3)] H → va_D A [(wo_5_riiiiirii a_this a_this_text x_this_length J7_c0_2 J7_c0_3 J7_c0_4 x_this_allowed a_this_plan J7_c0_7 J7_c0_8), (wi_0_1600_0 a_this_text cy g_this_text), (wo_4_iiiiiiirrrirrrrrir a_this_plan x_this_plan_cycle x_this_plan_green x_this_plan_rule x_this_plan_least x_this_plan_away x_this_plan_statements x_this_plan_kinds a_this_plan_calm a_this_plan_pace a_this_plan_trusts x_this_plan_walkers a_this_plan_kindOf a_this_plan_comesAt a_this_plan_comers a_this_plan_names a_this_plan_code J7_c2_16 a_this_plan_spans), (wi_0_1600_0 a_this_plan_code cy J7_a3)] → va_S A s.heap H locs → lv_has ls 3 [(0, .ref a_this), (1, .int 0), (2, .int J7_l2)] → W p l e { frames := 34, cells := 0, slots := 0, locals := 811 } s m args below meth c H locs 0 0 Q (F0 m 7 ls []) := by
    as_aux_lemma =>
      intro n
      induction n with
      | zero =>
        intro J7_c0_2 J7_c0_3 J7_c0_4 J7_c0_7 J7_c0_8 J7_c2_16 J7_a3 J7_l2 H locs ls hJ7_c0_2 hJ7_c0_3 hJ7_c0_4 hJ7_c2_16 hJ7_l2 hJ7_ic0_0 hq hm
        exact absurd hm (by have := hJ7_l2; unfold ib at this; omega)
      | succ n ih =>
        intro J7_c0_2 J7_c0_3 J7_c0_4 J7_c0_7 J7_c0_8 J7_c2_16 J7_a3 J7_l2 H locs ls hJ7_c0_2 hJ7_c0_3 hJ7_c0_4 hJ7_c2_16 hJ7_l2 hJ7_ic0_0 hq hm7 hP hD hS hl
        have ih7 := ih
        obtain ⟨K7, hK7⟩ : ∃ K, K = F_X5_both_a0_0_7 (lf_A g_this_text) (Int32.toInt x_this_length) (Int32.toInt x_this_allowed) n := ⟨_, rfl⟩
        have hq : O = F_X5_both_a0_0_7b (lf_A g_this_text) (Int32.toInt x_this_length) (Int32.toInt x_this_allowed) K7 (Int32.toInt J7_c0_2) (Int32.toInt J7_c0_3) (Int32.toInt J7_c0_4) (Int32.toInt J7_c0_7) (Int32.toInt J7_c0_8) (Int32.toInt J7_c2_16) (lf_A J7_a3) (Int32.toInt J7_l2) := by rw [hK7]; exact hq
        unfold F_X5_both_a0_0_7b at hq
        refine lv_iload_n hx hb dX5_both_7 rfl (lv_at hl 2 rfl) ?_
        refine lv_sipush (v := 1600) hx hb dX5_both_8 rfl ?_
        refine lv_icmp_ge (tgt := 40) hx hb dX5_both_11 rfl (fun c1 => ?_) (fun c1 => ?_)
        · replace hq := lf_pos hq (lf_le (lf_lc 1600 (1600 : Int) rfl) (lf_rf J7_l2) c1)
          have h2 := ib_le (ib_c 1600 1600 1600 rfl) hJ7_l2 c1
          have h3 : ib J7_l2 1600 1600 := ib_w 1600 1600 h2.2 rfl
          subst hQ; exact k_vret hx hb hr hlk ((J7_c0_2, J7_c0_3, J7_c0_4, J7_c0_7, J7_c0_8, J7_c2_16, J7_a3)) hS ⟨ib_w 0 1600 hJ7_c0_2 rfl, ib_w 0 1600 hJ7_c0_3 rfl, ib_w 0 4 hJ7_c0_4 rfl, ib_w 0 1600 hJ7_c2_16 rfl, fun hq9 => ib_w 0 1599 (hJ7_ic0_0 hq9) rfl, (hO.symm.trans (by exact hq))⟩ hP hD (Nat.le_of_ble_eq_true rfl) (Nat.le_of_ble_eq_true rfl) dX5_both_40
        · as_aux_lemma =>
            replace hq := lf_neg hq (lf_nle (lf_lc 1600 (1600 : Int) rfl) (lf_rf J7_l2) c1)
            have h4 := ib_nle (ib_c 1600 1600 1600 rfl) hJ7_l2 c1
            have h5 : ib J7_l2 0 1599 := ib_w 0 1599 h4.2 rfl
            refine lv_aload_n hx hb dX5_both_14 rfl (lv_at hl 0 rfl) ?_
            refine va_ldcS hx hb C0.2.2.2.1 (C0.2.2.2.2.2.2.2.2.2.2.2.2 14 (by decide)) dX5_both_15 ?_
            refine k_jim hP hD hS hA [0, 1] [false, false, true, true] rfl rfl rfl 0 0 (Nat.le_of_ble_eq_true rfl) (Nat.le_of_ble_eq_true rfl) (fun hPc hDc => k_runV (As := [.ref (sq 14)]) (rest := []) C0 hZ hS hA (s_X5_takeWord_s14 l dC dI cy sq a_this a_this_text g_this_text x_this_length J7_c0_2 J7_c0_3 J7_c0_4 x_this_allowed a_this_plan J7_c0_7 J7_c0_8 hg_this_text (ib_w 0 1600 hx_this_length rfl) (ib_w 0 1600 hJ7_c0_2 rfl) (ib_w 0 1600 hJ7_c0_3 rfl) (ib_w 0 4 hJ7_c0_4 rfl) (fun hq9 => ib_w 0 1599 (hJ7_ic0_0 hq9) rfl)) mV_X5_195 hPc hDc rfl rfl rfl hl rfl rfl (Nat.le_of_ble_eq_true rfl) ⟨(Nat.le_of_ble_eq_true rfl), (Nat.le_of_ble_eq_true rfl)⟩ ⟨(Nat.le_of_ble_eq_true rfl), (Nat.le_of_ble_eq_true rfl)⟩ dX5_both_17) (fun r6 u7 H locs hw hP hD hS => ?_)
            obtain ⟨v8, v9, v10⟩ := u7
            try dsimp only at hP hD hw
            replace hP : va_P (dC, dI) vwCl [(wo_4_iiiiiiirrrirrrrrir a_this_plan x_this_plan_cycle x_this_plan_green x_this_plan_rule x_this_plan_least x_this_plan_away x_this_plan_statements x_this_plan_kinds a_this_plan_calm a_this_plan_pace a_this_plan_trusts x_this_plan_walkers a_this_plan_kindOf a_this_plan_comesAt a_this_plan_comers a_this_plan_names a_this_plan_code J7_c2_16 a_this_plan_spans), (wi_0_1600_0 a_this_plan_code cy J7_a3), (wo_5_riiiiirii a_this a_this_text x_this_length v8 v9 v10 x_this_allowed a_this_plan J7_c0_7 J7_c0_8), (wi_0_1600_0 a_this_text cy g_this_text)] H := hP
            replace hD := k_D hP hD
            obtain ⟨h11, h12, h13, h14, h15, h16⟩ := hw
            replace hq := lf_p1 hq h16
            replace hq := lf_p1 hq rfl
            replace hq := lf_p1 hq rfl
            refine lv_if_eq (tgt := 40) hx hb dX5_both_20 rfl (fun c17 => ?_) (fun c17 => ?_)
            · replace hq := lf_pos hq (lf_eq (lf_rf r6) (lf_lc 0 (0 : Int) rfl) c17)
              have h18 := ib_eq h11 (ib_c 0 0 0 rfl) c17
              have h19 : ib r6 0 0 := ib_w 0 0 h18.1 rfl
              subst hQ; exact k_vret hx hb hr hlk ((v8, v9, v10, J7_c0_7, J7_c0_8, J7_c2_16, J7_a3)) hS ⟨ib_w 0 1600 h12 rfl, ib_w 0 1600 h13 rfl, ib_w 0 4 h14 rfl, ib_w 0 1600 hJ7_c2_16 rfl, fun hq9 => ib_w 0 1599 (h15 hq9) rfl, (hO.symm.trans (by exact hq))⟩ (hP.sub [2, 3, 0, 1] rfl) (hD.sub [2, 3, 0, 1] rfl rfl) (Nat.le_of_ble_eq_true rfl) (Nat.le_of_ble_eq_true rfl) dX5_both_40
            · as_aux_lemma =>
                replace hq := lf_neg hq (lf_ne (lf_rf r6) (lf_lc 0 (0 : Int) rfl) c17)
                have h20 : ib r6 1 1 := ib_w 1 1 (ib_ne_lo 0 h11 rfl c17) rfl
                refine lv_aload_n hx hb dX5_both_23 rfl (lv_at hl 0 rfl) ?_
                refine lv_iload_n hx hb dX5_both_24 rfl (lv_at hl 1 rfl) ?_
                refine k_jvm hP hD hS hA [2, 3, 0, 1] [] rfl rfl rfl 0 0 (Nat.le_of_ble_eq_true rfl) (Nat.le_of_ble_eq_true rfl) (fun hPc hDc => k_runV (As := [.int 0]) (rest := []) C0 hZ hS hA (s_X5_fact_a0_0 l dC dI cy sq a_this a_this_text g_this_text x_this_length v8 v9 v10 x_this_allowed a_this_plan x_this_plan_cycle x_this_plan_green x_this_plan_rule x_this_plan_least x_this_plan_away x_this_plan_statements x_this_plan_kinds a_this_plan_calm a_this_plan_pace a_this_plan_trusts x_this_plan_walkers a_this_plan_kindOf a_this_plan_comesAt a_this_plan_comers a_this_plan_names a_this_plan_code J7_a3 J7_c2_16 a_this_plan_spans J7_c0_7 J7_c0_8 hg_this_text (ib_w 0 1600 hx_this_length rfl) (ib_w 0 1600 h12 rfl) (ib_w 0 1600 h13 rfl) (ib_w 0 4 h14 rfl) (ib_w 0 1600 hJ7_c2_16 rfl) (fun hq9 => ib_w 0 1599 (h15 hq9) rfl)) mV_X5_202 hPc hDc rfl rfl rfl hl rfl rfl (Nat.le_of_ble_eq_true rfl) ⟨(Nat.le_of_ble_eq_true rfl), (Nat.le_of_ble_eq_true rfl)⟩ ⟨(Nat.le_of_ble_eq_true rfl), (Nat.le_of_ble_eq_true rfl)⟩ dX5_both_25) (fun u22 H locs hw hP hD hS => ?_)
                obtain ⟨v23, v24, v25, v26, v27, v28, f29⟩ := u22
                try dsimp only at hP hD hw
                replace hP : va_P (dC, dI) vwCl [(wo_5_riiiiirii a_this a_this_text x_this_length v23 v24 v25 x_this_allowed a_this_plan v26 v27), (wi_0_1600_0 a_this_text cy g_this_text), (wo_4_iiiiiiirrrirrrrrir a_this_plan x_this_plan_cycle x_this_plan_green x_this_plan_rule x_this_plan_least x_this_plan_away x_this_plan_statements x_this_plan_kinds a_this_plan_calm a_this_plan_pace a_this_plan_trusts x_this_plan_walkers a_this_plan_kindOf a_this_plan_comesAt a_this_plan_comers a_this_plan_names a_this_plan_code v28 a_this_plan_spans), (wi_0_1600_0 a_this_plan_code cy f29)] H := hP
                replace hD := k_D hP hD
                obtain ⟨h30, h31, h32, h33, h34, h35⟩ := hw
                replace hq := lf_p1 hq h35
                replace hq := lf_p1 hq rfl
                replace hq := lf_p1 hq rfl
                replace hq := lf_p1 hq rfl
                replace hq := lf_p1 hq rfl
                replace hq := lf_p1 hq rfl
                refine lv_aload_n hx hb dX5_both_28 rfl (lv_at hl 0 rfl) ?_
                refine lv_bipush (v := (-29)) hx hb dX5_both_29 rfl ?_
                refine k_jvm hP hD hS hA [0, 2, 3] [false, true] rfl rfl rfl 0 0 (Nat.le_of_ble_eq_true rfl) (Nat.le_of_ble_eq_true rfl) (fun hPc hDc => k_runV (As := [.int (-29)]) (rest := []) C0 hZ hS hA (s_X5_emit l dC dI cy sq a_this a_this_text x_this_length v23 v24 v25 x_this_allowed a_this_plan x_this_plan_cycle x_this_plan_green x_this_plan_rule x_this_plan_least x_this_plan_away x_this_plan_statements x_this_plan_kinds a_this_plan_calm a_this_plan_pace a_this_plan_trusts x_this_plan_walkers a_this_plan_kindOf a_this_plan_comesAt a_this_plan_comers a_this_plan_names a_this_plan_code f29 v28 a_this_plan_spans v26 v27 (-29) (ib_w 0 1600 h33 rfl)) mV_X5_199 hPc hDc rfl rfl rfl hl rfl rfl (Nat.le_of_ble_eq_true rfl) ⟨(Nat.le_of_ble_eq_true rfl), (Nat.le_of_ble_eq_true rfl)⟩ ⟨(Nat.le_of_ble_eq_true rfl), (Nat.le_of_ble_eq_true rfl)⟩ dX5_both_31) (fun u37 H locs hw hP hD hS => ?_)
                obtain ⟨v38, f39⟩ := u37
                try dsimp only at hP hD hw
                replace hP : va_P (dC, dI) vwCl [(wi_0_1600_0 a_this_text cy g_this_text), (wo_5_riiiiirii a_this a_this_text x_this_length v23 v24 v25 x_this_allowed a_this_plan v26 v27), (wo_4_iiiiiiirrrirrrrrir a_this_plan x_this_plan_cycle x_this_plan_green x_this_plan_rule x_this_plan_least x_this_plan_away x_this_plan_statements x_this_plan_kinds a_this_plan_calm a_this_plan_pace a_this_plan_trusts x_this_plan_walkers a_this_plan_kindOf a_this_plan_comesAt a_this_plan_comers a_this_plan_names a_this_plan_code v38 a_this_plan_spans), (wi_0_1600_0 a_this_plan_code cy f39)] H := hP
                replace hD := k_D hP hD
                obtain ⟨h40, h41⟩ := hw
                have h41 := by have h9 := h41; try simp only [show ((-29) : Int32).toInt = (-29 : Int) from rfl] at h9; exact h9
                replace hq := lf_p1 hq h41
                obtain ⟨z42, ez42⟩ : ∃ y : Int32, y = J7_l2 + 1 := ⟨_, rfl⟩
                refine lv_iinc (v := z42) (lv' := [(2, .int z42), (0, .ref a_this), (1, .int 0)]) hx hb dX5_both_34 hl (k := 2) rfl (by rw [ez42]; rfl) (Nat.le_of_ble_eq_true rfl) rfl (fun ls hl => ?_)
                have h43 := ib_add h5 (ib_c 1 1 1 rfl) rfl
                rw [← ez42] at h43
                have h44 : ib z42 1 1600 := ib_w 1 1600 h43.1 rfl
                have Ez42 := lf_add h43.2 (lf_rf J7_l2) (lf_lc 1 (1 : Int) rfl)
                refine lv_goto (tgt := 7) hx hb dX5_both_37 rfl ?_
                exact ih7 v23 v24 v25 v26 v27 v38 f39 z42 H locs ls (ib_w 0 1600 h30 rfl) (ib_w 0 1600 h31 rfl) (ib_w 0 4 h32 rfl) (ib_w 0 1600 h40 rfl) (ib_w 0 1600 h44 rfl) (fun hq9 => ib_w 0 1599 (h34 hq9) rfl) (by rw [← hK7]; rw [lf_u Ez42]; exact hq) (by have := h43.2; have : (1 : Int32).toInt = 1 := rfl; omega) (hP.sub [1, 0, 2, 3] rfl) (hD.sub [1, 0, 2, 3] rfl rfl) hS (lv_sub hl [1, 2, 0] rfl)
  refine lv_aload_n hx hb dX5_both_0 rfl (lv_at hl 0 rfl) ?_
  refine lv_iload_n hx hb dX5_both_1 rfl (lv_at hl 1 rfl) ?_
  refine k_jvm hP hD hS hA [0, 1, 2, 3] [] rfl rfl rfl 0 0 (Nat.le_of_ble_eq_true rfl) (Nat.le_of_ble_eq_true rfl) (fun hPc hDc => k_runV (As := [.int 0]) (rest := []) C0 hZ hS hA (s_X5_fact_a0_0 l dC dI cy sq a_this a_this_text g_this_text x_this_length x_this_at x_this_behind x_this_sort x_this_allowed a_this_plan x_this_plan_cycle x_this_plan_green x_this_plan_rule x_this_plan_least x_this_plan_away x_this_plan_statements x_this_plan_kinds a_this_plan_calm a_this_plan_pace a_this_plan_trusts x_this_plan_walkers a_this_plan_kindOf a_this_plan_comesAt a_this_plan_comers a_this_plan_names a_this_plan_code g_this_plan_code x_this_plan_size a_this_plan_spans x_this_fault x_this_place hg_this_text (ib_w 0 1600 hx_this_length rfl) (ib_w 0 1600 hx_this_at rfl) (ib_w 0 1600 hx_this_behind rfl) (ib_w 0 4 hx_this_sort rfl) (ib_w 0 1600 hx_this_plan_size rfl) (fun hq9 => ib_w 0 1599 (hc0_this hq9) rfl)) mV_X5_202 hPc hDc rfl rfl rfl hl rfl rfl (Nat.le_of_ble_eq_true rfl) ⟨(Nat.le_of_ble_eq_true rfl), (Nat.le_of_ble_eq_true rfl)⟩ ⟨(Nat.le_of_ble_eq_true rfl), (Nat.le_of_ble_eq_true rfl)⟩ dX5_both_2) (fun u46 H locs hw hP hD hS => ?_)
  obtain ⟨v47, v48, v49, v50, v51, v52, f53⟩ := u46
  try dsimp only at hP hD hw
  replace hP : va_P (dC, dI) vwCl [(wo_5_riiiiirii a_this a_this_text x_this_length v47 v48 v49 x_this_allowed a_this_plan v50 v51), (wi_0_1600_0 a_this_text cy g_this_text), (wo_4_iiiiiiirrrirrrrrir a_this_plan x_this_plan_cycle x_this_plan_green x_this_plan_rule x_this_plan_least x_this_plan_away x_this_plan_statements x_this_plan_kinds a_this_plan_calm a_this_plan_pace a_this_plan_trusts x_this_plan_walkers a_this_plan_kindOf a_this_plan_comesAt a_this_plan_comers a_this_plan_names a_this_plan_code v52 a_this_plan_spans), (wi_0_1600_0 a_this_plan_code cy f53)] H := hP
  replace hD := k_D hP hD
  obtain ⟨h54, h55, h56, h57, h58, h59⟩ := hw
  replace hq := lf_p1 hq h59
  replace hq := lf_p1 hq rfl
  replace hq := lf_p1 hq rfl
  replace hq := lf_p1 hq rfl
  replace hq := lf_p1 hq rfl
  replace hq := lf_p1 hq rfl
  refine lv_iconst (v := 0) hx hb dX5_both_5 rfl ?_
  refine lv_istore_n (lv' := [(2, .int 0), (0, .ref a_this), (1, .int 0)]) hx hb dX5_both_6 rfl hl (Nat.le_of_ble_eq_true rfl) rfl (fun ls hl => ?_)
  exact jn7 1602 v47 v48 v49 v50 v51 v52 f53 0 H locs ls (ib_w 0 1600 h54 rfl) (ib_w 0 1600 h55 rfl) (ib_w 0 4 h56 rfl) (ib_w 0 1600 h57 rfl) (ib_w 0 1600 (ib_c 0 0 0 rfl) rfl) (fun hq9 => ib_w 0 1599 (h58 hq9) rfl) (by try simp only [show (0 : Int32).toInt = (0 : Int) from rfl]; exact hq) (by have := (ib_c 0 0 0 rfl); unfold ib at this; omega) hP hD hS (lv_sub hl [1, 2, 0] rfl)
set_option maxHeartbeats 4000000 in
set_option maxRecDepth 100000 in
theorem s_X5_test_a0_0 (l : Launch) (dC : Nat → ClassId) (dI : Nat → Nat → Nat) (cy : Nat → ClassId) (sq : Nat → Nat) (a_this : Nat) (a_this_text : Nat) (g_this_text : Nat → Int32) (x_this_length : Int32) (x_this_at : Int32) (x_this_behind : Int32) (x_this_sort : Int32) (x_this_allowed : Int32) (a_this_plan : Nat) (x_this_plan_cycle : Int32) (x_this_plan_green : Int32) (x_this_plan_rule : Int32) (x_this_plan_least : Int32) (x_this_plan_away : Int32) (x_this_plan_statements : Int32) (x_this_plan_kinds : Int32) (a_this_plan_calm : Nat) (a_this_plan_pace : Nat) (a_this_plan_trusts : Nat) (x_this_plan_walkers : Int32) (a_this_plan_kindOf : Nat) (a_this_plan_comesAt : Nat) (a_this_plan_comers : Nat) (a_this_plan_names : Nat) (a_this_plan_code : Nat) (g_this_plan_code : Nat → Int32) (x_this_plan_size : Int32) (a_this_plan_spans : Nat) (x_this_fault : Int32) (x_this_place : Int32) (hg_this_text : ia g_this_text 1600 0 255) (hx_this_length : ib x_this_length 0 1600) (hx_this_at : ib x_this_at 0 1600) (hx_this_behind : ib x_this_behind 0 1600) (hx_this_sort : ib x_this_sort 0 4) (hx_this_plan_size : ib x_this_plan_size 0 1600) (hc0_this : ¬ x_this_sort = 0 → ib x_this_at 0 1599) : k_Met l yX5_test cX5_test 3 none { frames := 35, cells := 0, slots := 0, locals := 833 } dC dI cy sq [.ref a_this, .int 0] [(wo_5_riiiiirii a_this a_this_text x_this_length x_this_at x_this_behind x_this_sort x_this_allowed a_this_plan x_this_fault x_this_place), (wi_0_1600_0 a_this_text cy g_this_text), (wo_4_iiiiiiirrrirrrrrir a_this_plan x_this_plan_cycle x_this_plan_green x_this_plan_rule x_this_plan_least x_this_plan_away x_this_plan_statements x_this_plan_kinds a_this_plan_calm a_this_plan_pace a_this_plan_trusts x_this_plan_walkers a_this_plan_kindOf a_this_plan_comesAt a_this_plan_comers a_this_plan_names a_this_plan_code x_this_plan_size a_this_plan_spans), (wi_0_1600_0 a_this_plan_code cy g_this_plan_code)] (k_Qv dC dI (fun (u : Int32 × Int32 × Int32 × Int32 × Int32 × Int32 × (Nat → Int32)) => match u with | (n0, n1, n2, n3, n4, n5, n6) => ib n0 0 1600 ∧ ib n1 0 1600 ∧ ib n2 0 4 ∧ ib n5 0 1600 ∧ (¬ n2 = 0 → ib n0 0 1599) ∧ (F_X5_test_a0_0 (lf_A g_this_text) (Int32.toInt x_this_length) (Int32.toInt x_this_at) (Int32.toInt x_this_behind) (Int32.toInt x_this_sort) (Int32.toInt x_this_allowed) (lf_A g_this_plan_code) (Int32.toInt x_this_plan_size) (Int32.toInt x_this_fault) (Int32.toInt x_this_place) = ((Int32.toInt n0), (Int32.toInt n1), (Int32.toInt n2), (Int32.toInt n3), (Int32.toInt n4), (Int32.toInt n5), (lf_A n6)))) (fun u : Int32 × Int32 × Int32 × Int32 × Int32 × Int32 × (Nat → Int32) => match u with | (n0, n1, n2, n3, n4, n5, n6) => [(wo_5_riiiiirii a_this a_this_text x_this_length n0 n1 n2 x_this_allowed a_this_plan n3 n4), (wi_0_1600_0 a_this_text cy g_this_text), (wo_4_iiiiiiirrrirrrrrir a_this_plan x_this_plan_cycle x_this_plan_green x_this_plan_rule x_this_plan_least x_this_plan_away x_this_plan_statements x_this_plan_kinds a_this_plan_calm a_this_plan_pace a_this_plan_trusts x_this_plan_walkers a_this_plan_kindOf a_this_plan_comesAt a_this_plan_comers a_this_plan_names a_this_plan_code n5 a_this_plan_spans), (wi_0_1600_0 a_this_plan_code cy n6)])) := by
  refine k_ofW2 (by decide +kernel) (Nat.le_of_ble_eq_true rfl) ?_
  intro p e s m below meth c A ls H locs args Q hQ C0 hZ hr hlk hin hP hD hA hS hl
  have C0 : k_cx p s m args c cX5_test 3 RX5 dC dI cy sq := C0
  have hx := C0.1
  have hb := C0.2.1
  have hl : lv_has ls 3 [(0, .ref a_this), (1, .int 0)] := hl
  obtain ⟨O, hO⟩ : ∃ o, o = F_X5_test_a0_0 (lf_A g_this_text) (Int32.toInt x_this_length) (Int32.toInt x_this_at) (Int32.toInt x_this_behind) (Int32.toInt x_this_sort) (Int32.toInt x_this_allowed) (lf_A g_this_plan_code) (Int32.toInt x_this_plan_size) (Int32.toInt x_this_fault) (Int32.toInt x_this_place) := ⟨_, rfl⟩
  have hq := hO
  unfold F_X5_test_a0_0 at hq
  have jn7 : ∀ (n : Nat) (J7_c0_2 : Int32) (J7_c0_3 : Int32) (J7_c0_4 : Int32) (J7_c0_7 : Int32) (J7_c0_8 : Int32) (J7_c2_16 : Int32) (J7_a3 : Nat → Int32) (J7_l2 : Int32) (H : Heap) (locs : List Loc) (ls : Array Slot), ib J7_c0_2 0 1600 → ib J7_c0_3 0 1600 → ib J7_c0_4 0 4 → ib J7_c2_16 0 1600 → ib J7_l2 0 1600 → (¬ J7_c0_4 = 0 → ib J7_c0_2 0 1599) → (O = F_X5_test_a0_0_7 (lf_A g_this_text) (Int32.toInt x_this_length) (Int32.toInt x_this_allowed) n (Int32.toInt J7_c0_2) (Int32.toInt J7_c0_3) (Int32.toInt J7_c0_4) (Int32.toInt J7_c0_7) (Int32.toInt J7_c0_8) (Int32.toInt J7_c2_16) (lf_A J7_a3) (Int32.toInt J7_l2)) → 1601 ≤ J7_l2.toInt + (n : Int) → va_P (dC, dI) vwCl [(wo_5_riiiiirii a_this a_this_text x_this_length J7_c0_2 J7_c0_3 J7_c0_4 x_this_allowed a_this_plan J7_c0_7 J7_c0_8), (wi_0_1600_0 a_this_text cy g_this_text), (wo_4_iiiiiiirrrirrrrrir a_this_plan x_this_plan_cycle x_this_plan_green x_this_plan_rule x_this_plan_least x_this_plan_away x_this_plan_statements x_this_plan_kinds a_this_plan_calm a_this_plan_pace a_this_plan_trusts x_this_plan_walkers a_this_plan_kindOf a_this_plan_comesAt a_this_plan_comers a_this_plan_names a_this_plan_code J7_c2_16 a_this_plan_spans), (wi_0_1600_0 a_this_plan_code cy J7_a3)] H → va_D A [(wo_5_riiiiirii a_this a_this_text x_this_length J7_c0_2 J7_c0_3 J7_c0_4 x_this_allowed a_this_plan J7_c0_7 J7_c0_8), (wi_0_1600_0 a_this_text cy g_this_text), (wo_4_iiiiiiirrrirrrrrir a_this_plan x_this_plan_cycle x_this_plan_green x_this_plan_rule x_this_plan_least x_this_plan_away x_this_plan_statements x_this_plan_kinds a_this_plan_calm a_this_plan_pace a_this_plan_trusts x_this_plan_walkers a_this_plan_kindOf a_this_plan_comesAt a_this_plan_comers a_this_plan_names a_this_plan_code J7_c2_16 a_this_plan_spans), (wi_0_1600_0 a_this_plan_code cy J7_a3)] → va_S A s.heap H locs → lv_has ls 3 [(0, .ref a_this), (1, .int 0), (2, .int J7_l2)] → W p l e { frames := 35, cells := 0, slots := 0, locals := 833 } s m args below meth c H locs 0 0 Q (F0 m 7 ls []) := by
    as_aux_lemma =>
      intro n
      induction n with
      | zero =>
        intro J7_c0_2 J7_c0_3 J7_c0_4 J7_c0_7 J7_c0_8 J7_c2_16 J7_a3 J7_l2 H locs ls hJ7_c0_2 hJ7_c0_3 hJ7_c0_4 hJ7_c2_16 hJ7_l2 hJ7_ic0_0 hq hm
        exact absurd hm (by have := hJ7_l2; unfold ib at this; omega)
      | succ n ih =>
        intro J7_c0_2 J7_c0_3 J7_c0_4 J7_c0_7 J7_c0_8 J7_c2_16 J7_a3 J7_l2 H locs ls hJ7_c0_2 hJ7_c0_3 hJ7_c0_4 hJ7_c2_16 hJ7_l2 hJ7_ic0_0 hq hm7 hP hD hS hl
        have ih7 := ih
        obtain ⟨K7, hK7⟩ : ∃ K, K = F_X5_test_a0_0_7 (lf_A g_this_text) (Int32.toInt x_this_length) (Int32.toInt x_this_allowed) n := ⟨_, rfl⟩
        have hq : O = F_X5_test_a0_0_7b (lf_A g_this_text) (Int32.toInt x_this_length) (Int32.toInt x_this_allowed) K7 (Int32.toInt J7_c0_2) (Int32.toInt J7_c0_3) (Int32.toInt J7_c0_4) (Int32.toInt J7_c0_7) (Int32.toInt J7_c0_8) (Int32.toInt J7_c2_16) (lf_A J7_a3) (Int32.toInt J7_l2) := by rw [hK7]; exact hq
        unfold F_X5_test_a0_0_7b at hq
        refine lv_iload_n hx hb dX5_test_7 rfl (lv_at hl 2 rfl) ?_
        refine lv_sipush (v := 1600) hx hb dX5_test_8 rfl ?_
        refine lv_icmp_ge (tgt := 40) hx hb dX5_test_11 rfl (fun c1 => ?_) (fun c1 => ?_)
        · replace hq := lf_pos hq (lf_le (lf_lc 1600 (1600 : Int) rfl) (lf_rf J7_l2) c1)
          have h2 := ib_le (ib_c 1600 1600 1600 rfl) hJ7_l2 c1
          have h3 : ib J7_l2 1600 1600 := ib_w 1600 1600 h2.2 rfl
          subst hQ; exact k_vret hx hb hr hlk ((J7_c0_2, J7_c0_3, J7_c0_4, J7_c0_7, J7_c0_8, J7_c2_16, J7_a3)) hS ⟨ib_w 0 1600 hJ7_c0_2 rfl, ib_w 0 1600 hJ7_c0_3 rfl, ib_w 0 4 hJ7_c0_4 rfl, ib_w 0 1600 hJ7_c2_16 rfl, fun hq9 => ib_w 0 1599 (hJ7_ic0_0 hq9) rfl, (hO.symm.trans (by exact hq))⟩ hP hD (Nat.le_of_ble_eq_true rfl) (Nat.le_of_ble_eq_true rfl) dX5_test_40
        · as_aux_lemma =>
            replace hq := lf_neg hq (lf_nle (lf_lc 1600 (1600 : Int) rfl) (lf_rf J7_l2) c1)
            have h4 := ib_nle (ib_c 1600 1600 1600 rfl) hJ7_l2 c1
            have h5 : ib J7_l2 0 1599 := ib_w 0 1599 h4.2 rfl
            refine lv_aload_n hx hb dX5_test_14 rfl (lv_at hl 0 rfl) ?_
            refine va_ldcS hx hb C0.2.2.2.1 (C0.2.2.2.2.2.2.2.2.2.2.2.2 13 (by decide)) dX5_test_15 ?_
            refine k_jim hP hD hS hA [0, 1] [false, false, true, true] rfl rfl rfl 0 0 (Nat.le_of_ble_eq_true rfl) (Nat.le_of_ble_eq_true rfl) (fun hPc hDc => k_runV (As := [.ref (sq 13)]) (rest := []) C0 hZ hS hA (s_X5_takeWord_s13 l dC dI cy sq a_this a_this_text g_this_text x_this_length J7_c0_2 J7_c0_3 J7_c0_4 x_this_allowed a_this_plan J7_c0_7 J7_c0_8 hg_this_text (ib_w 0 1600 hx_this_length rfl) (ib_w 0 1600 hJ7_c0_2 rfl) (ib_w 0 1600 hJ7_c0_3 rfl) (ib_w 0 4 hJ7_c0_4 rfl) (fun hq9 => ib_w 0 1599 (hJ7_ic0_0 hq9) rfl)) mV_X5_195 hPc hDc rfl rfl rfl hl rfl rfl (Nat.le_of_ble_eq_true rfl) ⟨(Nat.le_of_ble_eq_true rfl), (Nat.le_of_ble_eq_true rfl)⟩ ⟨(Nat.le_of_ble_eq_true rfl), (Nat.le_of_ble_eq_true rfl)⟩ dX5_test_17) (fun r6 u7 H locs hw hP hD hS => ?_)
            obtain ⟨v8, v9, v10⟩ := u7
            try dsimp only at hP hD hw
            replace hP : va_P (dC, dI) vwCl [(wo_4_iiiiiiirrrirrrrrir a_this_plan x_this_plan_cycle x_this_plan_green x_this_plan_rule x_this_plan_least x_this_plan_away x_this_plan_statements x_this_plan_kinds a_this_plan_calm a_this_plan_pace a_this_plan_trusts x_this_plan_walkers a_this_plan_kindOf a_this_plan_comesAt a_this_plan_comers a_this_plan_names a_this_plan_code J7_c2_16 a_this_plan_spans), (wi_0_1600_0 a_this_plan_code cy J7_a3), (wo_5_riiiiirii a_this a_this_text x_this_length v8 v9 v10 x_this_allowed a_this_plan J7_c0_7 J7_c0_8), (wi_0_1600_0 a_this_text cy g_this_text)] H := hP
            replace hD := k_D hP hD
            obtain ⟨h11, h12, h13, h14, h15, h16⟩ := hw
            replace hq := lf_p1 hq h16
            replace hq := lf_p1 hq rfl
            replace hq := lf_p1 hq rfl
            refine lv_if_eq (tgt := 40) hx hb dX5_test_20 rfl (fun c17 => ?_) (fun c17 => ?_)
            · replace hq := lf_pos hq (lf_eq (lf_rf r6) (lf_lc 0 (0 : Int) rfl) c17)
              have h18 := ib_eq h11 (ib_c 0 0 0 rfl) c17
              have h19 : ib r6 0 0 := ib_w 0 0 h18.1 rfl
              subst hQ; exact k_vret hx hb hr hlk ((v8, v9, v10, J7_c0_7, J7_c0_8, J7_c2_16, J7_a3)) hS ⟨ib_w 0 1600 h12 rfl, ib_w 0 1600 h13 rfl, ib_w 0 4 h14 rfl, ib_w 0 1600 hJ7_c2_16 rfl, fun hq9 => ib_w 0 1599 (h15 hq9) rfl, (hO.symm.trans (by exact hq))⟩ (hP.sub [2, 3, 0, 1] rfl) (hD.sub [2, 3, 0, 1] rfl rfl) (Nat.le_of_ble_eq_true rfl) (Nat.le_of_ble_eq_true rfl) dX5_test_40
            · as_aux_lemma =>
                replace hq := lf_neg hq (lf_ne (lf_rf r6) (lf_lc 0 (0 : Int) rfl) c17)
                have h20 : ib r6 1 1 := ib_w 1 1 (ib_ne_lo 0 h11 rfl c17) rfl
                refine lv_aload_n hx hb dX5_test_23 rfl (lv_at hl 0 rfl) ?_
                refine lv_iload_n hx hb dX5_test_24 rfl (lv_at hl 1 rfl) ?_
                refine k_jvm hP hD hS hA [2, 3, 0, 1] [] rfl rfl rfl 0 0 (Nat.le_of_ble_eq_true rfl) (Nat.le_of_ble_eq_true rfl) (fun hPc hDc => k_runV (As := [.int 0]) (rest := []) C0 hZ hS hA (s_X5_both_a0_0 l dC dI cy sq a_this a_this_text g_this_text x_this_length v8 v9 v10 x_this_allowed a_this_plan x_this_plan_cycle x_this_plan_green x_this_plan_rule x_this_plan_least x_this_plan_away x_this_plan_statements x_this_plan_kinds a_this_plan_calm a_this_plan_pace a_this_plan_trusts x_this_plan_walkers a_this_plan_kindOf a_this_plan_comesAt a_this_plan_comers a_this_plan_names a_this_plan_code J7_a3 J7_c2_16 a_this_plan_spans J7_c0_7 J7_c0_8 hg_this_text (ib_w 0 1600 hx_this_length rfl) (ib_w 0 1600 h12 rfl) (ib_w 0 1600 h13 rfl) (ib_w 0 4 h14 rfl) (ib_w 0 1600 hJ7_c2_16 rfl) (fun hq9 => ib_w 0 1599 (h15 hq9) rfl)) mV_X5_190 hPc hDc rfl rfl rfl hl rfl rfl (Nat.le_of_ble_eq_true rfl) ⟨(Nat.le_of_ble_eq_true rfl), (Nat.le_of_ble_eq_true rfl)⟩ ⟨(Nat.le_of_ble_eq_true rfl), (Nat.le_of_ble_eq_true rfl)⟩ dX5_test_25) (fun u22 H locs hw hP hD hS => ?_)
                obtain ⟨v23, v24, v25, v26, v27, v28, f29⟩ := u22
                try dsimp only at hP hD hw
                replace hP : va_P (dC, dI) vwCl [(wo_5_riiiiirii a_this a_this_text x_this_length v23 v24 v25 x_this_allowed a_this_plan v26 v27), (wi_0_1600_0 a_this_text cy g_this_text), (wo_4_iiiiiiirrrirrrrrir a_this_plan x_this_plan_cycle x_this_plan_green x_this_plan_rule x_this_plan_least x_this_plan_away x_this_plan_statements x_this_plan_kinds a_this_plan_calm a_this_plan_pace a_this_plan_trusts x_this_plan_walkers a_this_plan_kindOf a_this_plan_comesAt a_this_plan_comers a_this_plan_names a_this_plan_code v28 a_this_plan_spans), (wi_0_1600_0 a_this_plan_code cy f29)] H := hP
                replace hD := k_D hP hD
                obtain ⟨h30, h31, h32, h33, h34, h35⟩ := hw
                replace hq := lf_p1 hq h35
                replace hq := lf_p1 hq rfl
                replace hq := lf_p1 hq rfl
                replace hq := lf_p1 hq rfl
                replace hq := lf_p1 hq rfl
                replace hq := lf_p1 hq rfl
                refine lv_aload_n hx hb dX5_test_28 rfl (lv_at hl 0 rfl) ?_
                refine lv_bipush (v := (-30)) hx hb dX5_test_29 rfl ?_
                refine k_jvm hP hD hS hA [0, 2, 3] [false, true] rfl rfl rfl 0 0 (Nat.le_of_ble_eq_true rfl) (Nat.le_of_ble_eq_true rfl) (fun hPc hDc => k_runV (As := [.int (-30)]) (rest := []) C0 hZ hS hA (s_X5_emit l dC dI cy sq a_this a_this_text x_this_length v23 v24 v25 x_this_allowed a_this_plan x_this_plan_cycle x_this_plan_green x_this_plan_rule x_this_plan_least x_this_plan_away x_this_plan_statements x_this_plan_kinds a_this_plan_calm a_this_plan_pace a_this_plan_trusts x_this_plan_walkers a_this_plan_kindOf a_this_plan_comesAt a_this_plan_comers a_this_plan_names a_this_plan_code f29 v28 a_this_plan_spans v26 v27 (-30) (ib_w 0 1600 h33 rfl)) mV_X5_199 hPc hDc rfl rfl rfl hl rfl rfl (Nat.le_of_ble_eq_true rfl) ⟨(Nat.le_of_ble_eq_true rfl), (Nat.le_of_ble_eq_true rfl)⟩ ⟨(Nat.le_of_ble_eq_true rfl), (Nat.le_of_ble_eq_true rfl)⟩ dX5_test_31) (fun u37 H locs hw hP hD hS => ?_)
                obtain ⟨v38, f39⟩ := u37
                try dsimp only at hP hD hw
                replace hP : va_P (dC, dI) vwCl [(wi_0_1600_0 a_this_text cy g_this_text), (wo_5_riiiiirii a_this a_this_text x_this_length v23 v24 v25 x_this_allowed a_this_plan v26 v27), (wo_4_iiiiiiirrrirrrrrir a_this_plan x_this_plan_cycle x_this_plan_green x_this_plan_rule x_this_plan_least x_this_plan_away x_this_plan_statements x_this_plan_kinds a_this_plan_calm a_this_plan_pace a_this_plan_trusts x_this_plan_walkers a_this_plan_kindOf a_this_plan_comesAt a_this_plan_comers a_this_plan_names a_this_plan_code v38 a_this_plan_spans), (wi_0_1600_0 a_this_plan_code cy f39)] H := hP
                replace hD := k_D hP hD
                obtain ⟨h40, h41⟩ := hw
                have h41 := by have h9 := h41; try simp only [show ((-30) : Int32).toInt = (-30 : Int) from rfl] at h9; exact h9
                replace hq := lf_p1 hq h41
                obtain ⟨z42, ez42⟩ : ∃ y : Int32, y = J7_l2 + 1 := ⟨_, rfl⟩
                refine lv_iinc (v := z42) (lv' := [(2, .int z42), (0, .ref a_this), (1, .int 0)]) hx hb dX5_test_34 hl (k := 2) rfl (by rw [ez42]; rfl) (Nat.le_of_ble_eq_true rfl) rfl (fun ls hl => ?_)
                have h43 := ib_add h5 (ib_c 1 1 1 rfl) rfl
                rw [← ez42] at h43
                have h44 : ib z42 1 1600 := ib_w 1 1600 h43.1 rfl
                have Ez42 := lf_add h43.2 (lf_rf J7_l2) (lf_lc 1 (1 : Int) rfl)
                refine lv_goto (tgt := 7) hx hb dX5_test_37 rfl ?_
                exact ih7 v23 v24 v25 v26 v27 v38 f39 z42 H locs ls (ib_w 0 1600 h30 rfl) (ib_w 0 1600 h31 rfl) (ib_w 0 4 h32 rfl) (ib_w 0 1600 h40 rfl) (ib_w 0 1600 h44 rfl) (fun hq9 => ib_w 0 1599 (h34 hq9) rfl) (by rw [← hK7]; rw [lf_u Ez42]; exact hq) (by have := h43.2; have : (1 : Int32).toInt = 1 := rfl; omega) (hP.sub [1, 0, 2, 3] rfl) (hD.sub [1, 0, 2, 3] rfl rfl) hS (lv_sub hl [1, 2, 0] rfl)
  refine lv_aload_n hx hb dX5_test_0 rfl (lv_at hl 0 rfl) ?_
  refine lv_iload_n hx hb dX5_test_1 rfl (lv_at hl 1 rfl) ?_
  refine k_jvm hP hD hS hA [0, 1, 2, 3] [] rfl rfl rfl 0 0 (Nat.le_of_ble_eq_true rfl) (Nat.le_of_ble_eq_true rfl) (fun hPc hDc => k_runV (As := [.int 0]) (rest := []) C0 hZ hS hA (s_X5_both_a0_0 l dC dI cy sq a_this a_this_text g_this_text x_this_length x_this_at x_this_behind x_this_sort x_this_allowed a_this_plan x_this_plan_cycle x_this_plan_green x_this_plan_rule x_this_plan_least x_this_plan_away x_this_plan_statements x_this_plan_kinds a_this_plan_calm a_this_plan_pace a_this_plan_trusts x_this_plan_walkers a_this_plan_kindOf a_this_plan_comesAt a_this_plan_comers a_this_plan_names a_this_plan_code g_this_plan_code x_this_plan_size a_this_plan_spans x_this_fault x_this_place hg_this_text (ib_w 0 1600 hx_this_length rfl) (ib_w 0 1600 hx_this_at rfl) (ib_w 0 1600 hx_this_behind rfl) (ib_w 0 4 hx_this_sort rfl) (ib_w 0 1600 hx_this_plan_size rfl) (fun hq9 => ib_w 0 1599 (hc0_this hq9) rfl)) mV_X5_190 hPc hDc rfl rfl rfl hl rfl rfl (Nat.le_of_ble_eq_true rfl) ⟨(Nat.le_of_ble_eq_true rfl), (Nat.le_of_ble_eq_true rfl)⟩ ⟨(Nat.le_of_ble_eq_true rfl), (Nat.le_of_ble_eq_true rfl)⟩ dX5_test_2) (fun u46 H locs hw hP hD hS => ?_)
  obtain ⟨v47, v48, v49, v50, v51, v52, f53⟩ := u46
  try dsimp only at hP hD hw
  replace hP : va_P (dC, dI) vwCl [(wo_5_riiiiirii a_this a_this_text x_this_length v47 v48 v49 x_this_allowed a_this_plan v50 v51), (wi_0_1600_0 a_this_text cy g_this_text), (wo_4_iiiiiiirrrirrrrrir a_this_plan x_this_plan_cycle x_this_plan_green x_this_plan_rule x_this_plan_least x_this_plan_away x_this_plan_statements x_this_plan_kinds a_this_plan_calm a_this_plan_pace a_this_plan_trusts x_this_plan_walkers a_this_plan_kindOf a_this_plan_comesAt a_this_plan_comers a_this_plan_names a_this_plan_code v52 a_this_plan_spans), (wi_0_1600_0 a_this_plan_code cy f53)] H := hP
  replace hD := k_D hP hD
  obtain ⟨h54, h55, h56, h57, h58, h59⟩ := hw
  replace hq := lf_p1 hq h59
  replace hq := lf_p1 hq rfl
  replace hq := lf_p1 hq rfl
  replace hq := lf_p1 hq rfl
  replace hq := lf_p1 hq rfl
  replace hq := lf_p1 hq rfl
  refine lv_iconst (v := 0) hx hb dX5_test_5 rfl ?_
  refine lv_istore_n (lv' := [(2, .int 0), (0, .ref a_this), (1, .int 0)]) hx hb dX5_test_6 rfl hl (Nat.le_of_ble_eq_true rfl) rfl (fun ls hl => ?_)
  exact jn7 1602 v47 v48 v49 v50 v51 v52 f53 0 H locs ls (ib_w 0 1600 h54 rfl) (ib_w 0 1600 h55 rfl) (ib_w 0 4 h56 rfl) (ib_w 0 1600 h57 rfl) (ib_w 0 1600 (ib_c 0 0 0 rfl) rfl) (fun hq9 => ib_w 0 1599 (h58 hq9) rfl) (by try simp only [show (0 : Int32).toInt = (0 : Int) from rfl]; exact hq) (by have := (ib_c 0 0 0 rfl); unfold ib at this; omega) hP hD hS (lv_sub hl [1, 2, 0] rfl)
set_option maxHeartbeats 4000000 in
set_option maxRecDepth 100000 in
theorem s_X5_codeStatement (l : Launch) (dC : Nat → ClassId) (dI : Nat → Nat → Nat) (cy : Nat → ClassId) (sq : Nat → Nat) (a_this : Nat) (a_this_text : Nat) (g_this_text : Nat → Int32) (x_this_length : Int32) (x_this_at : Int32) (x_this_behind : Int32) (x_this_sort : Int32) (x_this_allowed : Int32) (a_this_plan : Nat) (x_this_plan_cycle : Int32) (x_this_plan_green : Int32) (x_this_plan_rule : Int32) (x_this_plan_least : Int32) (x_this_plan_away : Int32) (x_this_plan_statements : Int32) (x_this_plan_kinds : Int32) (a_this_plan_calm : Nat) (a_this_plan_pace : Nat) (a_this_plan_trusts : Nat) (x_this_plan_walkers : Int32) (a_this_plan_kindOf : Nat) (a_this_plan_comesAt : Nat) (a_this_plan_comers : Nat) (a_this_plan_names : Nat) (a_this_plan_code : Nat) (g_this_plan_code : Nat → Int32) (x_this_plan_size : Int32) (a_this_plan_spans : Nat) (g_this_plan_spans : Nat → Int32) (x_this_fault : Int32) (x_this_place : Int32) (p0 : Int32) (p1 : Int32) (hg_this_text : ia g_this_text 1600 0 255) (hx_this_length : ib x_this_length 0 1600) (hx_this_behind : ib x_this_behind 0 1600) (hx_this_plan_size : ib x_this_plan_size 0 1600) (hg_this_plan_spans : ia g_this_plan_spans 6 0 1600) (hp0 : ib p0 0 4) : k_Met l yX5_codeStatement cX5_codeStatement 3 none { frames := 36, cells := 0, slots := 0, locals := 855 } dC dI cy sq [.ref a_this, .int p0, .int p1] [(wo_5_riiiiirii a_this a_this_text x_this_length x_this_at x_this_behind x_this_sort x_this_allowed a_this_plan x_this_fault x_this_place), (wo_4_iiiiiiirrrirrrrrir a_this_plan x_this_plan_cycle x_this_plan_green x_this_plan_rule x_this_plan_least x_this_plan_away x_this_plan_statements x_this_plan_kinds a_this_plan_calm a_this_plan_pace a_this_plan_trusts x_this_plan_walkers a_this_plan_kindOf a_this_plan_comesAt a_this_plan_comers a_this_plan_names a_this_plan_code x_this_plan_size a_this_plan_spans), (wi_0_6_0 a_this_plan_spans cy g_this_plan_spans), (wi_0_1600_0 a_this_text cy g_this_text), (wi_0_1600_0 a_this_plan_code cy g_this_plan_code)] (k_Qv dC dI (fun (u : Int32 × Int32 × Int32 × Int32 × Int32 × Int32 × Int32 × (Nat → Int32) × (Nat → Int32)) => match u with | (n0, n1, n2, n3, n4, n5, n6, n7, n8) => ib n0 0 1600 ∧ ib n1 0 1600 ∧ ib n2 0 4 ∧ ib n6 0 1600 ∧ ia n7 6 0 1600 ∧ (¬ n2 = 0 → ib n0 0 1599) ∧ (F_X5_codeStatement (lf_A g_this_text) (Int32.toInt x_this_length) (Int32.toInt x_this_at) (Int32.toInt x_this_behind) (Int32.toInt x_this_allowed) (lf_A g_this_plan_code) (Int32.toInt x_this_plan_size) (lf_A g_this_plan_spans) (Int32.toInt x_this_fault) (Int32.toInt x_this_place) (Int32.toInt p0) (Int32.toInt p1) = ((Int32.toInt n0), (Int32.toInt n1), (Int32.toInt n2), (Int32.toInt n3), (Int32.toInt n4), (Int32.toInt n5), (Int32.toInt n6), (lf_A n7), (lf_A n8)))) (fun u : Int32 × Int32 × Int32 × Int32 × Int32 × Int32 × Int32 × (Nat → Int32) × (Nat → Int32) => match u with | (n0, n1, n2, n3, n4, n5, n6, n7, n8) => [(wo_5_riiiiirii a_this a_this_text x_this_length n0 n1 n2 n3 a_this_plan n4 n5), (wo_4_iiiiiiirrrirrrrrir a_this_plan x_this_plan_cycle x_this_plan_green x_this_plan_rule x_this_plan_least x_this_plan_away x_this_plan_statements x_this_plan_kinds a_this_plan_calm a_this_plan_pace a_this_plan_trusts x_this_plan_walkers a_this_plan_kindOf a_this_plan_comesAt a_this_plan_comers a_this_plan_names a_this_plan_code n6 a_this_plan_spans), (wi_0_6_0 a_this_plan_spans cy n7), (wi_0_1600_0 a_this_text cy g_this_text), (wi_0_1600_0 a_this_plan_code cy n8)])) := by
  refine k_ofW2 (by decide +kernel) (Nat.le_of_ble_eq_true rfl) ?_
  intro p e s m below meth c A ls H locs args Q hQ C0 hZ hr hlk hin hP hD hA hS hl
  have C0 : k_cx p s m args c cX5_codeStatement 3 RX5 dC dI cy sq := C0
  have hx := C0.1
  have hb := C0.2.1
  have hl : lv_has ls 3 [(0, .ref a_this), (1, .int p0), (2, .int p1)] := hl
  obtain ⟨O, hO⟩ : ∃ o, o = F_X5_codeStatement (lf_A g_this_text) (Int32.toInt x_this_length) (Int32.toInt x_this_at) (Int32.toInt x_this_behind) (Int32.toInt x_this_allowed) (lf_A g_this_plan_code) (Int32.toInt x_this_plan_size) (lf_A g_this_plan_spans) (Int32.toInt x_this_fault) (Int32.toInt x_this_place) (Int32.toInt p0) (Int32.toInt p1) := ⟨_, rfl⟩
  have hq := hO
  unfold F_X5_codeStatement at hq
  have jn80 : ∀ (J80_c0_2 : Int32) (J80_c0_3 : Int32) (J80_c0_4 : Int32) (J80_c0_7 : Int32) (J80_c0_8 : Int32) (J80_c1_16 : Int32) (J80_a2 : Nat → Int32) (J80_a4 : Nat → Int32) (H : Heap) (locs : List Loc) (ls : Array Slot), ib J80_c0_2 0 1600 → ib J80_c0_3 0 1600 → ib J80_c0_4 0 4 → ib J80_c1_16 0 1600 → ia J80_a2 6 0 1600 → (¬ J80_c0_4 = 0 → ib J80_c0_2 0 1599) → (O = F_X5_codeStatement_80 (Int32.toInt p0) (Int32.toInt p1) (Int32.toInt J80_c0_2) (Int32.toInt J80_c0_3) (Int32.toInt J80_c0_4) (Int32.toInt J80_c0_7) (Int32.toInt J80_c0_8) (Int32.toInt J80_c1_16) (lf_A J80_a2) (lf_A J80_a4)) → va_P (dC, dI) vwCl [(wo_5_riiiiirii a_this a_this_text x_this_length J80_c0_2 J80_c0_3 J80_c0_4 p1 a_this_plan J80_c0_7 J80_c0_8), (wo_4_iiiiiiirrrirrrrrir a_this_plan x_this_plan_cycle x_this_plan_green x_this_plan_rule x_this_plan_least x_this_plan_away x_this_plan_statements x_this_plan_kinds a_this_plan_calm a_this_plan_pace a_this_plan_trusts x_this_plan_walkers a_this_plan_kindOf a_this_plan_comesAt a_this_plan_comers a_this_plan_names a_this_plan_code J80_c1_16 a_this_plan_spans), (wi_0_6_0 a_this_plan_spans cy J80_a2), (wi_0_1600_0 a_this_text cy g_this_text), (wi_0_1600_0 a_this_plan_code cy J80_a4)] H → va_D A [(wo_5_riiiiirii a_this a_this_text x_this_length J80_c0_2 J80_c0_3 J80_c0_4 p1 a_this_plan J80_c0_7 J80_c0_8), (wo_4_iiiiiiirrrirrrrrir a_this_plan x_this_plan_cycle x_this_plan_green x_this_plan_rule x_this_plan_least x_this_plan_away x_this_plan_statements x_this_plan_kinds a_this_plan_calm a_this_plan_pace a_this_plan_trusts x_this_plan_walkers a_this_plan_kindOf a_this_plan_comesAt a_this_plan_comers a_this_plan_names a_this_plan_code J80_c1_16 a_this_plan_spans), (wi_0_6_0 a_this_plan_spans cy J80_a2), (wi_0_1600_0 a_this_text cy g_this_text), (wi_0_1600_0 a_this_plan_code cy J80_a4)] → va_S A s.heap H locs → lv_has ls 3 [(0, .ref a_this), (1, .int p0), (2, .int p1)] → W p l e { frames := 36, cells := 0, slots := 0, locals := 855 } s m args below meth c H locs 0 0 Q (F0 m 80 ls []) := by
    as_aux_lemma =>
      intro J80_c0_2 J80_c0_3 J80_c0_4 J80_c0_7 J80_c0_8 J80_c1_16 J80_a2 J80_a4 H locs ls hJ80_c0_2 hJ80_c0_3 hJ80_c0_4 hJ80_c1_16 hJ80_a2 hJ80_ic0_0 hq hP hD hS hl
      unfold F_X5_codeStatement_80 at hq
      refine lv_aload_n hx hb dX5_codeStatement_80 rfl (lv_at hl 0 rfl) ?_
      refine k_get C0 fg_X5_37 hP 0 rfl rfl dX5_codeStatement_81 ?_
      refine k_get C0 fg_X5_162 hP 1 rfl rfl dX5_codeStatement_84 ?_
      refine lv_iload_n hx hb dX5_codeStatement_87 rfl (lv_at hl 1 rfl) ?_
      refine lv_iconst (v := 1) hx hb dX5_codeStatement_88 rfl ?_
      refine lv_iadd hx hb dX5_codeStatement_89 ?_
      refine lv_topi (fun z1 ez1 => ?_)
      have h2 := ib_add hp0 (ib_c 1 1 1 rfl) rfl
      rw [← ez1] at h2
      have h3 : ib z1 1 5 := ib_w 1 5 h2.1 rfl
      have Ez1 := lf_add h2.2 (lf_rf p0) (lf_lc 1 (1 : Int) rfl)
      refine lv_aload_n hx hb dX5_codeStatement_90 rfl (lv_at hl 0 rfl) ?_
      refine k_get C0 fg_X5_37 hP 0 rfl rfl dX5_codeStatement_91 ?_
      refine k_get C0 fg_X5_165 hP 1 rfl rfl dX5_codeStatement_94 ?_
      refine va_iast hx hb C0.2.2.2.2.2.1 hP hD hS 2 0 rfl rfl (ib_in 6 h3 rfl) dX5_codeStatement_97 (fun H locs hP hD hS => ?_)
      have h5 := ia_upd hJ80_a2 (Int32.toNatClampNeg z1) (ib_w 0 1600 hJ80_c1_16 rfl)
      replace hP : va_P (dC, dI) vwCl [(wo_5_riiiiirii a_this a_this_text x_this_length J80_c0_2 J80_c0_3 J80_c0_4 p1 a_this_plan J80_c0_7 J80_c0_8), (wo_4_iiiiiiirrrirrrrrir a_this_plan x_this_plan_cycle x_this_plan_green x_this_plan_rule x_this_plan_least x_this_plan_away x_this_plan_statements x_this_plan_kinds a_this_plan_calm a_this_plan_pace a_this_plan_trusts x_this_plan_walkers a_this_plan_kindOf a_this_plan_comesAt a_this_plan_comers a_this_plan_names a_this_plan_code J80_c1_16 a_this_plan_spans), (wi_0_6_0 a_this_plan_spans cy (upd J80_a2 (Int32.toNatClampNeg z1) J80_c1_16)), (wi_0_1600_0 a_this_text cy g_this_text), (wi_0_1600_0 a_this_plan_code cy J80_a4)] H := hP
      replace hD := k_D hP hD
      generalize ef4 : upd J80_a2 (Int32.toNatClampNeg z1) J80_c1_16 = f4 at hP hD h5
      have Ef4 := lf_st ef4 (lf_ra J80_a2) Ez1 (lf_rf J80_c1_16)
      subst hQ; exact k_vret hx hb hr hlk ((J80_c0_2, J80_c0_3, J80_c0_4, p1, J80_c0_7, J80_c0_8, J80_c1_16, f4, J80_a4)) hS ⟨ib_w 0 1600 hJ80_c0_2 rfl, ib_w 0 1600 hJ80_c0_3 rfl, ib_w 0 4 hJ80_c0_4 rfl, ib_w 0 1600 hJ80_c1_16 rfl, h5, fun hq9 => ib_w 0 1599 (hJ80_ic0_0 hq9) rfl, (hO.symm.trans (by rw [lf_ua Ef4]; exact hq))⟩ hP hD (Nat.le_of_ble_eq_true rfl) (Nat.le_of_ble_eq_true rfl) dX5_codeStatement_98
  refine lv_aload_n hx hb dX5_codeStatement_0 rfl (lv_at hl 0 rfl) ?_
  refine k_get C0 fg_X5_37 hP 0 rfl rfl dX5_codeStatement_1 ?_
  refine k_get C0 fg_X5_162 hP 1 rfl rfl dX5_codeStatement_4 ?_
  refine lv_iload_n hx hb dX5_codeStatement_7 rfl (lv_at hl 1 rfl) ?_
  refine lv_iconst (v := 1) hx hb dX5_codeStatement_8 rfl ?_
  refine lv_iadd hx hb dX5_codeStatement_9 ?_
  refine lv_topi (fun z6 ez6 => ?_)
  have h7 := ib_add hp0 (ib_c 1 1 1 rfl) rfl
  rw [← ez6] at h7
  have h8 : ib z6 1 5 := ib_w 1 5 h7.1 rfl
  have Ez6 := lf_add h7.2 (lf_rf p0) (lf_lc 1 (1 : Int) rfl)
  refine va_iald hx hb C0.2.2.2.2.2.1 hP 2 0 rfl rfl (ib_in 6 h8 rfl) dX5_codeStatement_10 ?_
  refine lv_topi (fun z9 ez9 => ?_)
  have h10 : ib z9 0 1600 := by rw [ez9]; exact ia_at hg_this_plan_spans (ib_in 6 h8 rfl)
  have Ez9 := lf_ld ez9 (lf_ra g_this_plan_spans) Ez6
  refine lv_aload_n hx hb dX5_codeStatement_11 rfl (lv_at hl 0 rfl) ?_
  refine k_get C0 fg_X5_37 hP 0 rfl rfl dX5_codeStatement_12 ?_
  refine k_get C0 fg_X5_162 hP 1 rfl rfl dX5_codeStatement_15 ?_
  refine lv_iload_n hx hb dX5_codeStatement_18 rfl (lv_at hl 1 rfl) ?_
  refine va_iald hx hb C0.2.2.2.2.2.1 hP 2 0 rfl rfl (ib_in 6 hp0 rfl) dX5_codeStatement_19 ?_
  as_aux_lemma =>
    refine lv_topi (fun z11 ez11 => ?_)
    have h12 : ib z11 0 1600 := by rw [ez11]; exact ia_at hg_this_plan_spans (ib_in 6 hp0 rfl)
    have Ez11 := lf_ld ez11 (lf_ra g_this_plan_spans) (lf_rf p0)
    refine lv_icmp_le (tgt := 33) hx hb dX5_codeStatement_20 rfl (fun c13 => ?_) (fun c13 => ?_)
    · as_aux_lemma =>
        replace hq := lf_pos hq (lf_le Ez9 Ez11 c13)
        have h14 := ib_le h10 h12 c13
        refine lv_aload_n hx hb dX5_codeStatement_33 rfl (lv_at hl 0 rfl) ?_
        refine lv_aload_n hx hb dX5_codeStatement_34 rfl (lv_at hl 0 rfl) ?_
        refine k_get C0 fg_X5_18 hP 0 rfl rfl dX5_codeStatement_35 ?_
        refine k_jvm hP hD hS hA [0, 3] [false, true, true, false, true] rfl rfl rfl 0 0 (Nat.le_of_ble_eq_true rfl) (Nat.le_of_ble_eq_true rfl) (fun hPc hDc => k_runV (As := [.int x_this_behind]) (rest := []) C0 hZ hS hA (s_X5_moveTo l dC dI cy sq a_this a_this_text g_this_text x_this_length x_this_at x_this_behind x_this_sort x_this_allowed a_this_plan x_this_fault x_this_place x_this_behind hg_this_text (ib_w 0 1600 hx_this_length rfl) (ib_w 0 1600 hx_this_behind rfl)) mV_X5_86 hPc hDc rfl rfl rfl hl rfl rfl (Nat.le_of_ble_eq_true rfl) ⟨(Nat.le_of_ble_eq_true rfl), (Nat.le_of_ble_eq_true rfl)⟩ ⟨(Nat.le_of_ble_eq_true rfl), (Nat.le_of_ble_eq_true rfl)⟩ dX5_codeStatement_38) (fun u16 H locs hw hP hD hS => ?_)
        obtain ⟨v17, v18, v19⟩ := u16
        try dsimp only at hP hD hw
        replace hP : va_P (dC, dI) vwCl [(wo_4_iiiiiiirrrirrrrrir a_this_plan x_this_plan_cycle x_this_plan_green x_this_plan_rule x_this_plan_least x_this_plan_away x_this_plan_statements x_this_plan_kinds a_this_plan_calm a_this_plan_pace a_this_plan_trusts x_this_plan_walkers a_this_plan_kindOf a_this_plan_comesAt a_this_plan_comers a_this_plan_names a_this_plan_code x_this_plan_size a_this_plan_spans), (wi_0_6_0 a_this_plan_spans cy g_this_plan_spans), (wi_0_1600_0 a_this_plan_code cy g_this_plan_code), (wo_5_riiiiirii a_this a_this_text x_this_length v17 v18 v19 x_this_allowed a_this_plan x_this_fault x_this_place), (wi_0_1600_0 a_this_text cy g_this_text)] H := hP
        replace hD := k_D hP hD
        obtain ⟨h20, h21, h22, h23, h24⟩ := hw
        replace hq := lf_p1 hq h24
        replace hq := lf_p1 hq rfl
        refine lv_aload_n hx hb dX5_codeStatement_41 rfl (lv_at hl 0 rfl) ?_
        refine lv_iload_n hx hb dX5_codeStatement_42 rfl (lv_at hl 2 rfl) ?_
        refine k_put C0 fp_X5_24 hP hD hS 3 rfl rfl rfl (Nat.le_of_ble_eq_true rfl) dX5_codeStatement_43 (fun H locs hP hD hS => ?_)
        replace hP : va_P (dC, dI) vwCl [(wo_4_iiiiiiirrrirrrrrir a_this_plan x_this_plan_cycle x_this_plan_green x_this_plan_rule x_this_plan_least x_this_plan_away x_this_plan_statements x_this_plan_kinds a_this_plan_calm a_this_plan_pace a_this_plan_trusts x_this_plan_walkers a_this_plan_kindOf a_this_plan_comesAt a_this_plan_comers a_this_plan_names a_this_plan_code x_this_plan_size a_this_plan_spans), (wi_0_6_0 a_this_plan_spans cy g_this_plan_spans), (wi_0_1600_0 a_this_plan_code cy g_this_plan_code), (wo_5_riiiiirii a_this a_this_text x_this_length v17 v18 v19 p1 a_this_plan x_this_fault x_this_place), (wi_0_1600_0 a_this_text cy g_this_text)] H := hP
        replace hD := k_D hP hD
        refine lv_aload_n hx hb dX5_codeStatement_46 rfl (lv_at hl 0 rfl) ?_
        refine k_get C0 fg_X5_37 hP 3 rfl rfl dX5_codeStatement_47 ?_
        refine k_get C0 fg_X5_162 hP 0 rfl rfl dX5_codeStatement_50 ?_
        refine lv_iload_n hx hb dX5_codeStatement_53 rfl (lv_at hl 1 rfl) ?_
        refine lv_aload_n hx hb dX5_codeStatement_54 rfl (lv_at hl 0 rfl) ?_
        refine k_get C0 fg_X5_37 hP 3 rfl rfl dX5_codeStatement_55 ?_
        refine k_get C0 fg_X5_165 hP 0 rfl rfl dX5_codeStatement_58 ?_
        refine va_iast hx hb C0.2.2.2.2.2.1 hP hD hS 1 0 rfl rfl (ib_in 6 hp0 rfl) dX5_codeStatement_61 (fun H locs hP hD hS => ?_)
        have h26 := ia_upd hg_this_plan_spans (Int32.toNatClampNeg p0) (ib_w 0 1600 hx_this_plan_size rfl)
        replace hP : va_P (dC, dI) vwCl [(wo_4_iiiiiiirrrirrrrrir a_this_plan x_this_plan_cycle x_this_plan_green x_this_plan_rule x_this_plan_least x_this_plan_away x_this_plan_statements x_this_plan_kinds a_this_plan_calm a_this_plan_pace a_this_plan_trusts x_this_plan_walkers a_this_plan_kindOf a_this_plan_comesAt a_this_plan_comers a_this_plan_names a_this_plan_code x_this_plan_size a_this_plan_spans), (wi_0_6_0 a_this_plan_spans cy (upd g_this_plan_spans (Int32.toNatClampNeg p0) x_this_plan_size)), (wi_0_1600_0 a_this_plan_code cy g_this_plan_code), (wo_5_riiiiirii a_this a_this_text x_this_length v17 v18 v19 p1 a_this_plan x_this_fault x_this_place), (wi_0_1600_0 a_this_text cy g_this_text)] H := hP
        replace hD := k_D hP hD
        generalize ef25 : upd g_this_plan_spans (Int32.toNatClampNeg p0) x_this_plan_size = f25 at hP hD h26
        as_aux_lemma =>
          have Ef25 := lf_st ef25 (lf_ra g_this_plan_spans) (lf_rf p0) (lf_rf x_this_plan_size)
          refine lv_iload_n hx hb dX5_codeStatement_62 rfl (lv_at hl 1 rfl) ?_
          refine lv_iconst (v := 4) hx hb dX5_codeStatement_63 rfl ?_
          refine lv_icmp_ne (tgt := 75) hx hb dX5_codeStatement_64 rfl (fun c27 => ?_) (fun c27 => ?_)
          · replace hq := lf_neg hq (lf_ne (lf_rf p0) (lf_lc 4 (4 : Int) rfl) c27)
            have h28 : ib p0 0 3 := ib_w 0 3 (ib_ne_hi 4 hp0 rfl c27) rfl
            refine lv_aload_n hx hb dX5_codeStatement_75 rfl (lv_at hl 0 rfl) ?_
            refine lv_iconst (v := 0) hx hb dX5_codeStatement_76 rfl ?_
            refine k_jvm hP hD hS hA [3, 4, 0, 2] [false, true] rfl rfl rfl 0 0 (Nat.le_of_ble_eq_true rfl) (Nat.le_of_ble_eq_true rfl) (fun hPc hDc => k_runV (As := [.int 0]) (rest := []) C0 hZ hS hA (s_X5_test_a0_0 l dC dI cy sq a_this a_this_text g_this_text x_this_length v17 v18 v19 p1 a_this_plan x_this_plan_cycle x_this_plan_green x_this_plan_rule x_this_plan_least x_this_plan_away x_this_plan_statements x_this_plan_kinds a_this_plan_calm a_this_plan_pace a_this_plan_trusts x_this_plan_walkers a_this_plan_kindOf a_this_plan_comesAt a_this_plan_comers a_this_plan_names a_this_plan_code g_this_plan_code x_this_plan_size a_this_plan_spans x_this_fault x_this_place hg_this_text (ib_w 0 1600 hx_this_length rfl) (ib_w 0 1600 h20 rfl) (ib_w 0 1600 h21 rfl) (ib_w 0 4 h22 rfl) (ib_w 0 1600 hx_this_plan_size rfl) (fun hq9 => ib_w 0 1599 (h23 hq9) rfl)) mV_X5_90 hPc hDc rfl rfl rfl hl rfl rfl (Nat.le_of_ble_eq_true rfl) ⟨(Nat.le_of_ble_eq_true rfl), (Nat.le_of_ble_eq_true rfl)⟩ ⟨(Nat.le_of_ble_eq_true rfl), (Nat.le_of_ble_eq_true rfl)⟩ dX5_codeStatement_77) (fun u30 H locs hw hP hD hS => ?_)
            obtain ⟨v31, v32, v33, v34, v35, v36, f37⟩ := u30
            try dsimp only at hP hD hw
            replace hP : va_P (dC, dI) vwCl [(wi_0_6_0 a_this_plan_spans cy f25), (wo_5_riiiiirii a_this a_this_text x_this_length v31 v32 v33 p1 a_this_plan v34 v35), (wi_0_1600_0 a_this_text cy g_this_text), (wo_4_iiiiiiirrrirrrrrir a_this_plan x_this_plan_cycle x_this_plan_green x_this_plan_rule x_this_plan_least x_this_plan_away x_this_plan_statements x_this_plan_kinds a_this_plan_calm a_this_plan_pace a_this_plan_trusts x_this_plan_walkers a_this_plan_kindOf a_this_plan_comesAt a_this_plan_comers a_this_plan_names a_this_plan_code v36 a_this_plan_spans), (wi_0_1600_0 a_this_plan_code cy f37)] H := hP
            replace hD := k_D hP hD
            obtain ⟨h38, h39, h40, h41, h42, h43⟩ := hw
            replace hq := lf_p1 hq h43
            replace hq := lf_p1 hq rfl
            replace hq := lf_p1 hq rfl
            replace hq := lf_p1 hq rfl
            replace hq := lf_p1 hq rfl
            replace hq := lf_p1 hq rfl
            exact jn80 v31 v32 v33 v34 v35 v36 f25 f37 H locs ls (ib_w 0 1600 h38 rfl) (ib_w 0 1600 h39 rfl) (ib_w 0 4 h40 rfl) (ib_w 0 1600 h41 rfl) h26 (fun hq9 => ib_w 0 1599 (h42 hq9) rfl) (by rw [lf_ua Ef25]; exact hq) (hP.sub [1, 3, 0, 2, 4] rfl) (hD.sub [1, 3, 0, 2, 4] rfl rfl) hS (lv_sub hl [0, 1, 2] rfl)
          · replace hq := lf_pos hq (lf_eq (lf_rf p0) (lf_lc 4 (4 : Int) rfl) c27)
            have h44 := ib_eq hp0 (ib_c 4 4 4 rfl) c27
            have h45 : ib p0 4 4 := ib_w 4 4 h44.1 rfl
            refine lv_aload_n hx hb dX5_codeStatement_67 rfl (lv_at hl 0 rfl) ?_
            refine lv_iconst (v := 0) hx hb dX5_codeStatement_68 rfl ?_
            refine k_jvm hP hD hS hA [3, 4, 0, 2] [false, true] rfl rfl rfl 0 0 (Nat.le_of_ble_eq_true rfl) (Nat.le_of_ble_eq_true rfl) (fun hPc hDc => k_runV (As := [.int 0]) (rest := []) C0 hZ hS hA (s_X5_sum_a0_0 l dC dI cy sq a_this a_this_text g_this_text x_this_length v17 v18 v19 p1 a_this_plan x_this_plan_cycle x_this_plan_green x_this_plan_rule x_this_plan_least x_this_plan_away x_this_plan_statements x_this_plan_kinds a_this_plan_calm a_this_plan_pace a_this_plan_trusts x_this_plan_walkers a_this_plan_kindOf a_this_plan_comesAt a_this_plan_comers a_this_plan_names a_this_plan_code g_this_plan_code x_this_plan_size a_this_plan_spans x_this_fault x_this_place hg_this_text (ib_w 0 1600 hx_this_length rfl) (ib_w 0 1600 h20 rfl) (ib_w 0 1600 h21 rfl) (ib_w 0 4 h22 rfl) (ib_w 0 1600 hx_this_plan_size rfl) (fun hq9 => ib_w 0 1599 (h23 hq9) rfl)) mV_X5_93 hPc hDc rfl rfl rfl hl rfl rfl (Nat.le_of_ble_eq_true rfl) ⟨(Nat.le_of_ble_eq_true rfl), (Nat.le_of_ble_eq_true rfl)⟩ ⟨(Nat.le_of_ble_eq_true rfl), (Nat.le_of_ble_eq_true rfl)⟩ dX5_codeStatement_69) (fun u47 H locs hw hP hD hS => ?_)
            obtain ⟨v48, v49, v50, v51, v52, v53, f54⟩ := u47
            try dsimp only at hP hD hw
            replace hP : va_P (dC, dI) vwCl [(wi_0_6_0 a_this_plan_spans cy f25), (wo_5_riiiiirii a_this a_this_text x_this_length v48 v49 v50 p1 a_this_plan v51 v52), (wi_0_1600_0 a_this_text cy g_this_text), (wo_4_iiiiiiirrrirrrrrir a_this_plan x_this_plan_cycle x_this_plan_green x_this_plan_rule x_this_plan_least x_this_plan_away x_this_plan_statements x_this_plan_kinds a_this_plan_calm a_this_plan_pace a_this_plan_trusts x_this_plan_walkers a_this_plan_kindOf a_this_plan_comesAt a_this_plan_comers a_this_plan_names a_this_plan_code v53 a_this_plan_spans), (wi_0_1600_0 a_this_plan_code cy f54)] H := hP
            replace hD := k_D hP hD
            obtain ⟨h55, h56, h57, h58, h59, h60⟩ := hw
            replace hq := lf_p1 hq h60
            replace hq := lf_p1 hq rfl
            replace hq := lf_p1 hq rfl
            replace hq := lf_p1 hq rfl
            replace hq := lf_p1 hq rfl
            replace hq := lf_p1 hq rfl
            refine lv_goto (tgt := 80) hx hb dX5_codeStatement_72 rfl ?_
            exact jn80 v48 v49 v50 v51 v52 v53 f25 f54 H locs ls (ib_w 0 1600 h55 rfl) (ib_w 0 1600 h56 rfl) (ib_w 0 4 h57 rfl) (ib_w 0 1600 h58 rfl) h26 (fun hq9 => ib_w 0 1599 (h59 hq9) rfl) (by rw [lf_ua Ef25]; exact hq) (hP.sub [1, 3, 0, 2, 4] rfl) (hD.sub [1, 3, 0, 2, 4] rfl rfl) hS (lv_sub hl [0, 1, 2] rfl)
    · replace hq := lf_neg hq (lf_nle Ez9 Ez11 c13)
      have h61 := ib_nle h10 h12 c13
      have h62 : ib z9 1 1600 := ib_w 1 1600 h61.1 rfl
      have h63 : ib z11 0 1599 := ib_w 0 1599 h61.2 rfl
      refine lv_aload_n hx hb dX5_codeStatement_23 rfl (lv_at hl 0 rfl) ?_
      refine lv_iconst (v := 5) hx hb dX5_codeStatement_24 rfl ?_
      refine lv_aload_n hx hb dX5_codeStatement_25 rfl (lv_at hl 0 rfl) ?_
      refine k_get C0 fg_X5_15 hP 0 rfl rfl dX5_codeStatement_26 ?_
      refine k_jvm hP hD hS hA [0] [false, true, true, true, true] rfl rfl rfl 0 0 (Nat.le_of_ble_eq_true rfl) (Nat.le_of_ble_eq_true rfl) (fun hPc hDc => k_runV (As := [.int 5, .int x_this_at]) (rest := []) C0 hZ hS hA (s_X5_fail l dC dI cy sq a_this a_this_text x_this_length x_this_at x_this_behind x_this_sort x_this_allowed a_this_plan x_this_fault x_this_place 5 x_this_at ) mV_X5_78 hPc hDc rfl rfl rfl hl rfl rfl (Nat.le_of_ble_eq_true rfl) ⟨(Nat.le_of_ble_eq_true rfl), (Nat.le_of_ble_eq_true rfl)⟩ ⟨(Nat.le_of_ble_eq_true rfl), (Nat.le_of_ble_eq_true rfl)⟩ dX5_codeStatement_29) (fun u65 H locs hw hP hD hS => ?_)
      obtain ⟨v66, v67⟩ := u65
      try dsimp only at hP hD hw
      replace hP : va_P (dC, dI) vwCl [(wo_4_iiiiiiirrrirrrrrir a_this_plan x_this_plan_cycle x_this_plan_green x_this_plan_rule x_this_plan_least x_this_plan_away x_this_plan_statements x_this_plan_kinds a_this_plan_calm a_this_plan_pace a_this_plan_trusts x_this_plan_walkers a_this_plan_kindOf a_this_plan_comesAt a_this_plan_comers a_this_plan_names a_this_plan_code x_this_plan_size a_this_plan_spans), (wi_0_6_0 a_this_plan_spans cy g_this_plan_spans), (wi_0_1600_0 a_this_text cy g_this_text), (wi_0_1600_0 a_this_plan_code cy g_this_plan_code), (wo_5_riiiiirii a_this a_this_text x_this_length x_this_length x_this_length 0 x_this_allowed a_this_plan v66 v67)] H := hP
      replace hD := k_D hP hD
      have h68 := hw
      have h68 := by have h9 := h68; try simp only [show (5 : Int32).toInt = (5 : Int) from rfl] at h9; exact h9
      replace hq := lf_p1 hq h68
      subst hQ; exact k_vret hx hb hr hlk ((x_this_length, x_this_length, 0, x_this_allowed, v66, v67, x_this_plan_size, g_this_plan_spans, g_this_plan_code)) hS ⟨ib_w 0 1600 hx_this_length rfl, ib_w 0 1600 hx_this_length rfl, ib_w 0 4 (ib_c 0 0 0 rfl) rfl, ib_w 0 1600 hx_this_plan_size rfl, hg_this_plan_spans, fun hq9 => absurd rfl hq9, (hO.symm.trans (by try simp only [show (0 : Int32).toInt = (0 : Int) from rfl]; exact hq))⟩ (hP.sub [4, 0, 1, 2, 3] rfl) (hD.sub [4, 0, 1, 2, 3] rfl rfl) (Nat.le_of_ble_eq_true rfl) (Nat.le_of_ble_eq_true rfl) dX5_codeStatement_32
set_option maxHeartbeats 4000000 in
set_option maxRecDepth 100000 in
theorem s_X5_wordIn_s12 (l : Launch) (dC : Nat → ClassId) (dI : Nat → Nat → Nat) (cy : Nat → ClassId) (sq : Nat → Nat) (a_this : Nat) (a_this_text : Nat) (g_this_text : Nat → Int32) (x_this_length : Int32) (x_this_at : Int32) (x_this_behind : Int32) (x_this_sort : Int32) (x_this_allowed : Int32) (a_this_plan : Nat) (x_this_fault : Int32) (x_this_place : Int32) (hg_this_text : ia g_this_text 1600 0 255) (hx_this_at : ib x_this_at 0 1600) (hx_this_behind : ib x_this_behind 0 1600) (hx_this_sort : ib x_this_sort 0 4) (hc0_this : ¬ x_this_sort = 0 → ib x_this_at 0 1599) : k_Met l yX5_wordIn cX5_wordIn 6 (some .int) { frames := 4, cells := 0, slots := 0, locals := 141 } dC dI cy sq [.ref a_this, .ref (sq 12)] [(wo_5_riiiiirii a_this a_this_text x_this_length x_this_at x_this_behind x_this_sort x_this_allowed a_this_plan x_this_fault x_this_place), (wi_0_1600_0 a_this_text cy g_this_text)] (k_Qi dC dI (fun (r : Int32) (_ : Unit) => (F_X5_wordIn_s12 (lf_A g_this_text) (Int32.toInt x_this_at) (Int32.toInt x_this_behind) (Int32.toInt x_this_sort) = ((Int32.toInt r)))) (fun _ : Unit => [(wo_5_riiiiirii a_this a_this_text x_this_length x_this_at x_this_behind x_this_sort x_this_allowed a_this_plan x_this_fault x_this_place), (wi_0_1600_0 a_this_text cy g_this_text)])) := by
  refine k_ofW2 (by decide +kernel) (Nat.le_of_ble_eq_true rfl) ?_
  intro p e s m below meth c A ls H locs args Q hQ C0 hZ hr hlk hin hP hD hA hS hl
  have C0 : k_cx p s m args c cX5_wordIn 6 RX5 dC dI cy sq := C0
  have hx := C0.1
  have hb := C0.2.1
  have hl : lv_has ls 6 [(0, .ref a_this), (1, .ref (sq 12))] := hl
  obtain ⟨O, hO⟩ : ∃ o, o = F_X5_wordIn_s12 (lf_A g_this_text) (Int32.toInt x_this_at) (Int32.toInt x_this_behind) (Int32.toInt x_this_sort) := ⟨_, rfl⟩
  have hq := hO
  unfold F_X5_wordIn_s12 at hq
  have jn23 : ∀ (n : Nat) (J23_l2 : Int32) (J23_l3 : Int32) (J23_l4 : Int32) (J23_l5 : Int32) (H : Heap) (locs : List Loc) (ls : Array Slot), ib x_this_at 0 1599 → ib x_this_sort 1 1 → ib J23_l3 0 1749 → ib J23_l4 0 1 → ib J23_l5 0 150 → (1 * J23_l3.toInt + (-1) * J23_l5.toInt ≤ 1600) → (O = F_X5_wordIn_s12_23 (lf_A g_this_text) (Int32.toInt x_this_at) (Int32.toInt x_this_behind) n (Int32.toInt J23_l2) (Int32.toInt J23_l3) (Int32.toInt J23_l4) (Int32.toInt J23_l5)) → 151 ≤ J23_l5.toInt + (n : Int) → va_P (dC, dI) vwCl [(wo_5_riiiiirii a_this a_this_text x_this_length x_this_at x_this_behind x_this_sort x_this_allowed a_this_plan x_this_fault x_this_place), (wi_0_1600_0 a_this_text cy g_this_text)] H → va_D A [(wo_5_riiiiirii a_this a_this_text x_this_length x_this_at x_this_behind x_this_sort x_this_allowed a_this_plan x_this_fault x_this_place), (wi_0_1600_0 a_this_text cy g_this_text)] → va_S A s.heap H locs → lv_has ls 6 [(0, .ref a_this), (1, .ref (sq 12)), (2, .int J23_l2), (3, .int J23_l3), (4, .int J23_l4), (5, .int J23_l5)] → W p l e { frames := 4, cells := 0, slots := 0, locals := 141 } s m args below meth c H locs 0 0 Q (F0 m 23 ls []) := by
    as_aux_lemma =>
      intro n
      induction n with
      | zero =>
        intro J23_l2 J23_l3 J23_l4 J23_l5 H locs ls hK23_x_this_at hK23_x_this_sort hJ23_l3 hJ23_l4 hJ23_l5 hJ23_lin0 hq hm
        exact absurd hm (by have := hJ23_l5; unfold ib at this; omega)
      | succ n ih =>
        intro J23_l2 J23_l3 J23_l4 J23_l5 H locs ls hK23_x_this_at hK23_x_this_sort hJ23_l3 hJ23_l4 hJ23_l5 hJ23_lin0 hq hm23 hP hD hS hl
        have ih23 := ih
        obtain ⟨K23, hK23⟩ : ∃ K, K = F_X5_wordIn_s12_23 (lf_A g_this_text) (Int32.toInt x_this_at) (Int32.toInt x_this_behind) n := ⟨_, rfl⟩
        have hq : O = F_X5_wordIn_s12_23b (lf_A g_this_text) (Int32.toInt x_this_at) (Int32.toInt x_this_behind) K23 (Int32.toInt J23_l2) (Int32.toInt J23_l3) (Int32.toInt J23_l4) (Int32.toInt J23_l5) := by rw [hK23]; exact hq
        unfold F_X5_wordIn_s12_23b at hq
        have jn119 : ∀ (J119_l2 : Int32) (J119_l3 : Int32) (J119_l4 : Int32) (H : Heap) (locs : List Loc) (ls : Array Slot), ib x_this_at 0 1599 → ib J23_l5 0 149 → ib x_this_sort 1 1 → ib J119_l3 0 1749 → ib J119_l4 0 1 → (1 * J119_l3.toInt + (-1) * J23_l5.toInt ≤ 1601) → (O = F_X5_wordIn_s12_119 (Int32.toInt J23_l5) K23 (Int32.toInt J119_l2) (Int32.toInt J119_l3) (Int32.toInt J119_l4)) → va_P (dC, dI) vwCl [(wo_5_riiiiirii a_this a_this_text x_this_length x_this_at x_this_behind x_this_sort x_this_allowed a_this_plan x_this_fault x_this_place), (wi_0_1600_0 a_this_text cy g_this_text)] H → va_D A [(wo_5_riiiiirii a_this a_this_text x_this_length x_this_at x_this_behind x_this_sort x_this_allowed a_this_plan x_this_fault x_this_place), (wi_0_1600_0 a_this_text cy g_this_text)] → va_S A s.heap H locs → lv_has ls 6 [(0, .ref a_this), (1, .ref (sq 12)), (2, .int J119_l2), (3, .int J119_l3), (4, .int J119_l4), (5, .int J23_l5)] → W p l e { frames := 4, cells := 0, slots := 0, locals := 141 } s m args below meth c H locs 0 0 Q (F0 m 119 ls []) := by
          intro J119_l2 J119_l3 J119_l4 H locs ls hK119_x_this_at hK119_J23_l5 hK119_x_this_sort hJ119_l3 hJ119_l4 hJ119_lin0 hq hP hD hS hl
          unfold F_X5_wordIn_s12_119 at hq
          obtain ⟨z1, ez1⟩ : ∃ y : Int32, y = J23_l5 + 1 := ⟨_, rfl⟩
          refine lv_iinc (v := z1) (lv' := [(5, .int z1), (0, .ref a_this), (1, .ref (sq 12)), (2, .int J119_l2), (3, .int J119_l3), (4, .int J119_l4)]) hx hb dX5_wordIn_119 hl (k := 5) rfl (by rw [ez1]; rfl) (Nat.le_of_ble_eq_true rfl) rfl (fun ls hl => ?_)
          have h2 := ib_add hK119_J23_l5 (ib_c 1 1 1 rfl) rfl
          rw [← ez1] at h2
          have h3 : ib z1 1 150 := ib_w 1 150 h2.1 rfl
          have Ez1 := lf_add h2.2 (lf_rf J23_l5) (lf_lc 1 (1 : Int) rfl)
          refine lv_goto (tgt := 23) hx hb dX5_wordIn_122 rfl ?_
          exact ih23 J119_l2 J119_l3 J119_l4 z1 H locs ls (ib_w 0 1599 hK119_x_this_at rfl) (ib_w 1 1 hK119_x_this_sort rfl) (ib_w 0 1749 hJ119_l3 rfl) (ib_w 0 1 hJ119_l4 rfl) (ib_w 0 150 h3 rfl) (by have := h2.2; have : (1 : Int32).toInt = 1 := rfl; have := hJ119_lin0; omega) (by rw [← hK23]; rw [lf_u Ez1]; exact hq) (by have := h2.2; have : (1 : Int32).toInt = 1 := rfl; omega) hP hD hS (lv_sub hl [1, 2, 3, 4, 5, 0] rfl)
        have jn114 : ∀ (J114_s0 : Int32) (H : Heap) (locs : List Loc) (ls : Array Slot), ib J23_l3 0 1748 → ib J23_l4 0 1 → ib J23_l5 0 148 → ib x_this_at 0 1599 → ib x_this_sort 1 1 → ib J114_s0 0 1 → (1 * J23_l3.toInt + (-1) * J23_l5.toInt ≤ 1600) → (O = F_X5_wordIn_s12_114 (Int32.toInt J23_l2) (Int32.toInt J23_l3) (Int32.toInt J23_l5) K23 (Int32.toInt J114_s0)) → va_P (dC, dI) vwCl [(wo_5_riiiiirii a_this a_this_text x_this_length x_this_at x_this_behind x_this_sort x_this_allowed a_this_plan x_this_fault x_this_place), (wi_0_1600_0 a_this_text cy g_this_text)] H → va_D A [(wo_5_riiiiirii a_this a_this_text x_this_length x_this_at x_this_behind x_this_sort x_this_allowed a_this_plan x_this_fault x_this_place), (wi_0_1600_0 a_this_text cy g_this_text)] → va_S A s.heap H locs → lv_has ls 6 [(0, .ref a_this), (1, .ref (sq 12)), (2, .int J23_l2), (3, .int J23_l3), (4, .int J23_l4), (5, .int J23_l5)] → W p l e { frames := 4, cells := 0, slots := 0, locals := 141 } s m args below meth c H locs 0 0 Q (F0 m 114 ls [.int J114_s0]) := by
          intro J114_s0 H locs ls hK114_J23_l3 hK114_J23_l4 hK114_J23_l5 hK114_x_this_at hK114_x_this_sort hJ114_s0 hJ114_lin0 hq hP hD hS hl
          unfold F_X5_wordIn_s12_114 at hq
          refine lv_istore (lv' := [(4, .int J114_s0), (0, .ref a_this), (1, .ref (sq 12)), (2, .int J23_l2), (3, .int J23_l3), (5, .int J23_l5)]) hx hb dX5_wordIn_114 hl (Nat.le_of_ble_eq_true rfl) rfl (fun ls hl => ?_)
          obtain ⟨z4, ez4⟩ : ∃ y : Int32, y = J23_l3 + 1 := ⟨_, rfl⟩
          refine lv_iinc (v := z4) (lv' := [(3, .int z4), (4, .int J114_s0), (0, .ref a_this), (1, .ref (sq 12)), (2, .int J23_l2), (5, .int J23_l5)]) hx hb dX5_wordIn_116 hl (k := 4) rfl (by rw [ez4]; rfl) (Nat.le_of_ble_eq_true rfl) rfl (fun ls hl => ?_)
          have h5 := ib_add hK114_J23_l3 (ib_c 1 1 1 rfl) rfl
          rw [← ez4] at h5
          have h6 : ib z4 1 1749 := ib_w 1 1749 h5.1 rfl
          have Ez4 := lf_add h5.2 (lf_rf J23_l3) (lf_lc 1 (1 : Int) rfl)
          exact jn119 J23_l2 z4 J114_s0 H locs ls (ib_w 0 1599 hK114_x_this_at rfl) (ib_w 0 149 hK114_J23_l5 rfl) (ib_w 1 1 hK114_x_this_sort rfl) (ib_w 0 1749 h6 rfl) (ib_w 0 1 hJ114_s0 rfl) (by have := hJ23_lin0; have := h5.2; have : (1 : Int32).toInt = 1 := rfl; omega) (by rw [lf_u Ez4]; exact hq) hP hD hS (lv_sub hl [2, 3, 4, 0, 1, 5] rfl)
        have jn113 : ∀  (H : Heap) (locs : List Loc) (ls : Array Slot), ib J23_l3 0 1748 → ib J23_l4 0 1 → ib J23_l5 0 148 → ib x_this_at 0 1599 → ib x_this_sort 1 1 → (1 * J23_l3.toInt + (-1) * J23_l5.toInt ≤ 1600) → (O = F_X5_wordIn_s12_113 (Int32.toInt J23_l2) (Int32.toInt J23_l3) (Int32.toInt J23_l5) K23 ) → va_P (dC, dI) vwCl [(wo_5_riiiiirii a_this a_this_text x_this_length x_this_at x_this_behind x_this_sort x_this_allowed a_this_plan x_this_fault x_this_place), (wi_0_1600_0 a_this_text cy g_this_text)] H → va_D A [(wo_5_riiiiirii a_this a_this_text x_this_length x_this_at x_this_behind x_this_sort x_this_allowed a_this_plan x_this_fault x_this_place), (wi_0_1600_0 a_this_text cy g_this_text)] → va_S A s.heap H locs → lv_has ls 6 [(0, .ref a_this), (1, .ref (sq 12)), (2, .int J23_l2), (3, .int J23_l3), (4, .int J23_l4), (5, .int J23_l5)] → W p l e { frames := 4, cells := 0, slots := 0, locals := 141 } s m args below meth c H locs 0 0 Q (F0 m 113 ls []) := by
          intro H locs ls hK113_J23_l3 hK113_J23_l4 hK113_J23_l5 hK113_x_this_at hK113_x_this_sort hJ113_lin0 hq hP hD hS hl
          unfold F_X5_wordIn_s12_113 at hq
          refine lv_iconst (v := 0) hx hb dX5_wordIn_113 rfl ?_
          exact jn114 0 H locs ls (ib_w 0 1748 hK113_J23_l3 rfl) (ib_w 0 1 hK113_J23_l4 rfl) (ib_w 0 148 hK113_J23_l5 rfl) (ib_w 0 1599 hK113_x_this_at rfl) (ib_w 1 1 hK113_x_this_sort rfl) (ib_w 0 1 (ib_c 0 0 0 rfl) rfl) (by have := hJ23_lin0; omega) (by try simp only [show (0 : Int32).toInt = (0 : Int) from rfl]; exact hq) hP hD hS (lv_sub hl [0, 1, 2, 3, 4, 5] rfl)
        have jn67 : ∀  (H : Heap) (locs : List Loc) (ls : Array Slot), ib J23_l3 0 1749 → ib J23_l4 0 1 → ib J23_l5 0 149 → ib x_this_at 0 1599 → ib x_this_sort 1 1 → (O = F_X5_wordIn_s12_67 (Int32.toInt x_this_at) (Int32.toInt J23_l2) (Int32.toInt J23_l5) K23 ) → va_P (dC, dI) vwCl [(wo_5_riiiiirii a_this a_this_text x_this_length x_this_at x_this_behind x_this_sort x_this_allowed a_this_plan x_this_fault x_this_place), (wi_0_1600_0 a_this_text cy g_this_text)] H → va_D A [(wo_5_riiiiirii a_this a_this_text x_this_length x_this_at x_this_behind x_this_sort x_this_allowed a_this_plan x_this_fault x_this_place), (wi_0_1600_0 a_this_text cy g_this_text)] → va_S A s.heap H locs → lv_has ls 6 [(0, .ref a_this), (1, .ref (sq 12)), (2, .int J23_l2), (3, .int J23_l3), (4, .int J23_l4), (5, .int J23_l5)] → W p l e { frames := 4, cells := 0, slots := 0, locals := 141 } s m args below meth c H locs 0 0 Q (F0 m 67 ls []) := by
          intro H locs ls hK67_J23_l3 hK67_J23_l4 hK67_J23_l5 hK67_x_this_at hK67_x_this_sort hq hP hD hS hl
          unfold F_X5_wordIn_s12_67 at hq
          obtain ⟨z7, ez7⟩ : ∃ y : Int32, y = J23_l2 + 1 := ⟨_, rfl⟩
          refine lv_iinc (v := z7) (lv' := [(2, .int z7), (0, .ref a_this), (1, .ref (sq 12)), (3, .int J23_l3), (4, .int J23_l4), (5, .int J23_l5)]) hx hb dX5_wordIn_67 hl (k := 2) rfl (by rw [ez7]; rfl) (Nat.le_of_ble_eq_true rfl) rfl (fun ls hl => ?_)
          have Ez7 := lf_op lf_iadd ez7 (lf_rf J23_l2) (lf_lc 1 (1 : Int) rfl)
          refine lv_aload_n hx hb dX5_wordIn_70 rfl (lv_at hl 1 rfl) ?_
          refine k_get C0 fg_X5_15 hP 0 rfl rfl dX5_wordIn_71 ?_
          refine lv_istore_n (lv' := [(3, .int x_this_at), (2, .int z7), (0, .ref a_this), (1, .ref (sq 12)), (4, .int J23_l4), (5, .int J23_l5)]) hx hb dX5_wordIn_74 rfl hl (Nat.le_of_ble_eq_true rfl) rfl (fun ls hl => ?_)
          refine lv_iconst (v := 1) hx hb dX5_wordIn_75 rfl ?_
          refine lv_istore (lv' := [(4, .int 1), (3, .int x_this_at), (2, .int z7), (0, .ref a_this), (1, .ref (sq 12)), (5, .int J23_l5)]) hx hb dX5_wordIn_76 hl (Nat.le_of_ble_eq_true rfl) rfl (fun ls hl => ?_)
          refine lv_goto (tgt := 119) hx hb dX5_wordIn_78 rfl ?_
          exact jn119 z7 x_this_at 1 H locs ls (ib_w 0 1599 hK67_x_this_at rfl) (ib_w 0 149 hK67_J23_l5 rfl) (ib_w 1 1 hK67_x_this_sort rfl) (ib_w 0 1749 hK67_x_this_at rfl) (ib_w 0 1 (ib_c 1 1 1 rfl) rfl) (by have := (hK67_J23_l5).1; have := (hK67_x_this_at).2; omega) (by rw [lf_u Ez7]; try simp only [show (1 : Int32).toInt = (1 : Int) from rfl]; exact hq) hP hD hS (lv_sub hl [3, 4, 2, 1, 0, 5] rfl)
        have jn52 : ∀  (H : Heap) (locs : List Loc) (ls : Array Slot), ib J23_l3 0 1749 → ib J23_l4 0 1 → ib J23_l5 0 149 → ib x_this_at 0 1599 → ib x_this_sort 1 1 → (O = F_X5_wordIn_s12_52 (Int32.toInt x_this_at) (Int32.toInt x_this_behind) (Int32.toInt J23_l2) (Int32.toInt J23_l3) (Int32.toInt J23_l4) (Int32.toInt J23_l5) K23 ) → va_P (dC, dI) vwCl [(wo_5_riiiiirii a_this a_this_text x_this_length x_this_at x_this_behind x_this_sort x_this_allowed a_this_plan x_this_fault x_this_place), (wi_0_1600_0 a_this_text cy g_this_text)] H → va_D A [(wo_5_riiiiirii a_this a_this_text x_this_length x_this_at x_this_behind x_this_sort x_this_allowed a_this_plan x_this_fault x_this_place), (wi_0_1600_0 a_this_text cy g_this_text)] → va_S A s.heap H locs → lv_has ls 6 [(0, .ref a_this), (1, .ref (sq 12)), (2, .int J23_l2), (3, .int J23_l3), (4, .int J23_l4), (5, .int J23_l5)] → W p l e { frames := 4, cells := 0, slots := 0, locals := 141 } s m args below meth c H locs 0 0 Q (F0 m 52 ls []) := by
          as_aux_lemma =>
            intro H locs ls hK52_J23_l3 hK52_J23_l4 hK52_J23_l5 hK52_x_this_at hK52_x_this_sort hq hP hD hS hl
            unfold F_X5_wordIn_s12_52 at hq
            refine lv_iload hx hb dX5_wordIn_52 (lv_at hl 4 rfl) ?_
            refine lv_if_eq (tgt := 67) hx hb dX5_wordIn_54 rfl (fun c8 => ?_) (fun c8 => ?_)
            · replace hq := lf_pos hq (lf_eq (lf_rf J23_l4) (lf_lc 0 (0 : Int) rfl) c8)
              have h9 := ib_eq hK52_J23_l4 (ib_c 0 0 0 rfl) c8
              have h10 : ib J23_l4 0 0 := ib_w 0 0 h9.1 rfl
              exact jn67  H locs ls (ib_w 0 1749 hK52_J23_l3 rfl) (ib_w 0 1 h10 rfl) (ib_w 0 149 hK52_J23_l5 rfl) (ib_w 0 1599 hK52_x_this_at rfl) (ib_w 1 1 hK52_x_this_sort rfl) (by exact hq) hP hD hS (lv_sub hl [0, 1, 2, 3, 4, 5] rfl)
            · replace hq := lf_neg hq (lf_ne (lf_rf J23_l4) (lf_lc 0 (0 : Int) rfl) c8)
              have h11 : ib J23_l4 1 1 := ib_w 1 1 (ib_ne_lo 0 hK52_J23_l4 rfl c8) rfl
              refine lv_iload_n hx hb dX5_wordIn_57 rfl (lv_at hl 3 rfl) ?_
              refine lv_aload_n hx hb dX5_wordIn_58 rfl (lv_at hl 0 rfl) ?_
              refine k_get C0 fg_X5_18 hP 0 rfl rfl dX5_wordIn_59 ?_
              refine lv_icmp_ne (tgt := 67) hx hb dX5_wordIn_62 rfl (fun c12 => ?_) (fun c12 => ?_)
              · replace hq := lf_neg hq (lf_ne (lf_rf J23_l3) (lf_rf x_this_behind) c12)
                exact jn67  H locs ls (ib_w 0 1749 hK52_J23_l3 rfl) (ib_w 0 1 h11 rfl) (ib_w 0 149 hK52_J23_l5 rfl) (ib_w 0 1599 hK52_x_this_at rfl) (ib_w 1 1 hK52_x_this_sort rfl) (by exact hq) hP hD hS (lv_sub hl [0, 1, 2, 3, 4, 5] rfl)
              · replace hq := lf_pos hq (lf_eq (lf_rf J23_l3) (lf_rf x_this_behind) c12)
                have h13 := ib_eq hK52_J23_l3 hx_this_behind c12
                have h14 : ib J23_l3 0 1600 := ib_w 0 1600 h13.1 rfl
                refine lv_iload_n hx hb dX5_wordIn_65 rfl (lv_at hl 2 rfl) ?_
                subst hQ; exact k_iret hx hb hr hlk rfl () hS ((hO.symm.trans (by exact hq))) hP hD (Nat.le_of_ble_eq_true rfl) (Nat.le_of_ble_eq_true rfl) dX5_wordIn_66
        refine lv_iload hx hb dX5_wordIn_23 (lv_at hl 5 rfl) ?_
        refine lv_aload_n hx hb dX5_wordIn_25 rfl (lv_at hl 1 rfl) ?_
        refine k_jim hP hD hS hA [] [true, true] rfl rfl rfl 0 0 (Nat.le_of_ble_eq_true rfl) (Nat.le_of_ble_eq_true rfl) (fun hPc hDc => k_runVO (As := []) (rest := [.int J23_l5]) C0 hZ hS hA (c_length l dC dI cy sq 12 (by decide)) mV_X5_244 hPc hDc (vk_recv hZ.1 (by decide) hS) hl rfl rfl (Nat.le_of_ble_eq_true rfl) ⟨(Nat.le_of_ble_eq_true rfl), (Nat.le_of_ble_eq_true rfl)⟩ ⟨(Nat.le_of_ble_eq_true rfl), (Nat.le_of_ble_eq_true rfl)⟩ dX5_wordIn_26) (fun r15 u16 H locs hw hP hD hS => ?_)
        replace hP : va_P (dC, dI) vwCl [(wo_5_riiiiirii a_this a_this_text x_this_length x_this_at x_this_behind x_this_sort x_this_allowed a_this_plan x_this_fault x_this_place), (wi_0_1600_0 a_this_text cy g_this_text)] H := hP
        replace hD := k_D hP hD
        obtain rfl : r15 = 149 := hw.trans (by decide)
        refine lv_icmp_gt (tgt := 125) hx hb dX5_wordIn_29 rfl (fun c17 => ?_) (fun c17 => ?_)
        · replace hq := lf_pos hq (lf_lt (lf_lc 149 (149 : Int) rfl) (lf_rf J23_l5) c17)
          have h18 := ib_lt (ib_c 149 149 149 rfl) hJ23_l5 c17
          have h19 : ib J23_l5 150 150 := ib_w 150 150 h18.2 rfl
          refine lv_iconst (v := (-1)) hx hb dX5_wordIn_125 rfl ?_
          subst hQ; exact k_iret hx hb hr hlk rfl () hS ((hO.symm.trans (by try simp only [show ((-1) : Int32).toInt = (-1 : Int) from rfl]; exact hq))) hP hD (Nat.le_of_ble_eq_true rfl) (Nat.le_of_ble_eq_true rfl) dX5_wordIn_126
        · as_aux_lemma =>
            replace hq := lf_neg hq (lf_nlt (lf_lc 149 (149 : Int) rfl) (lf_rf J23_l5) c17)
            have h20 := ib_nlt (ib_c 149 149 149 rfl) hJ23_l5 c17
            have h21 : ib J23_l5 0 149 := ib_w 0 149 h20.2 rfl
            refine lv_iload hx hb dX5_wordIn_32 (lv_at hl 5 rfl) ?_
            refine lv_aload_n hx hb dX5_wordIn_34 rfl (lv_at hl 1 rfl) ?_
            refine k_jim hP hD hS hA [] [true, true] rfl rfl rfl 0 0 (Nat.le_of_ble_eq_true rfl) (Nat.le_of_ble_eq_true rfl) (fun hPc hDc => k_runVO (As := []) (rest := [.int J23_l5]) C0 hZ hS hA (c_length l dC dI cy sq 12 (by decide)) mV_X5_244 hPc hDc (vk_recv hZ.1 (by decide) hS) hl rfl rfl (Nat.le_of_ble_eq_true rfl) ⟨(Nat.le_of_ble_eq_true rfl), (Nat.le_of_ble_eq_true rfl)⟩ ⟨(Nat.le_of_ble_eq_true rfl), (Nat.le_of_ble_eq_true rfl)⟩ dX5_wordIn_35) (fun r22 u23 H locs hw hP hD hS => ?_)
            replace hP : va_P (dC, dI) vwCl [(wo_5_riiiiirii a_this a_this_text x_this_length x_this_at x_this_behind x_this_sort x_this_allowed a_this_plan x_this_fault x_this_place), (wi_0_1600_0 a_this_text cy g_this_text)] H := hP
            replace hD := k_D hP hD
            obtain rfl : r22 = 149 := hw.trans (by decide)
            refine lv_icmp_eq (tgt := 52) hx hb dX5_wordIn_38 rfl (fun c24 => ?_) (fun c24 => ?_)
            · replace hq := lf_pos hq (lf_eq (lf_rf J23_l5) (lf_lc 149 (149 : Int) rfl) c24)
              have h25 := ib_eq h21 (ib_c 149 149 149 rfl) c24
              have h26 : ib J23_l5 149 149 := ib_w 149 149 h25.1 rfl
              exact jn52  H locs ls (ib_w 0 1749 hJ23_l3 rfl) (ib_w 0 1 hJ23_l4 rfl) (ib_w 0 149 h26 rfl) (ib_w 0 1599 hK23_x_this_at rfl) (ib_w 1 1 hK23_x_this_sort rfl) (by exact hq) hP hD hS (lv_sub hl [0, 1, 2, 3, 4, 5] rfl)
            · as_aux_lemma =>
                replace hq := lf_neg hq (lf_ne (lf_rf J23_l5) (lf_lc 149 (149 : Int) rfl) c24)
                have h27 : ib J23_l5 0 148 := ib_w 0 148 (ib_ne_hi 149 h21 rfl c24) rfl
                refine lv_aload_n hx hb dX5_wordIn_41 rfl (lv_at hl 1 rfl) ?_
                refine lv_iload hx hb dX5_wordIn_42 (lv_at hl 5 rfl) ?_
                refine k_jim hP hD hS hA [] [true, true] rfl rfl rfl 0 0 (Nat.le_of_ble_eq_true rfl) (Nat.le_of_ble_eq_true rfl) (fun hPc hDc => k_runVO (As := [.int J23_l5]) (rest := []) C0 hZ hS hA (cx_charAt l dC dI cy sq 12 (by decide) J23_l5 (ib_ch 12 149 h27 rfl rfl).1 (ib_ch 12 149 h27 rfl rfl).2.1 (ib_ch 12 149 h27 rfl rfl).2.2) mV_X5_248 hPc hDc (vk_recv hZ.1 (by decide) hS) hl rfl rfl (Nat.le_of_ble_eq_true rfl) ⟨(Nat.le_of_ble_eq_true rfl), (Nat.le_of_ble_eq_true rfl)⟩ ⟨(Nat.le_of_ble_eq_true rfl), (Nat.le_of_ble_eq_true rfl)⟩ dX5_wordIn_44) (fun r28 u29 H locs hw hP hD hS => ?_)
                replace hP : va_P (dC, dI) vwCl [(wo_5_riiiiirii a_this a_this_text x_this_length x_this_at x_this_behind x_this_sort x_this_allowed a_this_plan x_this_fault x_this_place), (wi_0_1600_0 a_this_text cy g_this_text)] H := hP
                replace hD := k_D hP hD
                have Er28 := lf_cha (j := 12) hw (lf_rf J23_l5)
                refine lv_bipush (v := 32) hx hb dX5_wordIn_47 rfl ?_
                refine lv_icmp_ne (tgt := 81) hx hb dX5_wordIn_49 rfl (fun c30 => ?_) (fun c30 => ?_)
                · as_aux_lemma =>
                    replace hq := lf_neg hq (lf_ne Er28 (lf_lc 32 (32 : Int) rfl) c30)
                    refine lv_iload hx hb dX5_wordIn_81 (lv_at hl 4 rfl) ?_
                    refine lv_if_eq (tgt := 113) hx hb dX5_wordIn_83 rfl (fun c31 => ?_) (fun c31 => ?_)
                    · replace hq := lf_pos hq (lf_eq (lf_rf J23_l4) (lf_lc 0 (0 : Int) rfl) c31)
                      have h32 := ib_eq hJ23_l4 (ib_c 0 0 0 rfl) c31
                      have h33 : ib J23_l4 0 0 := ib_w 0 0 h32.1 rfl
                      have h34 : ib J23_l3 0 1748 := ⟨(hJ23_l3).1, by have := (hJ23_l3).2; have := hJ23_lin0; have := (h27).2; omega⟩
                      exact jn113  H locs ls (ib_w 0 1748 h34 rfl) (ib_w 0 1 h33 rfl) (ib_w 0 148 h27 rfl) (ib_w 0 1599 hK23_x_this_at rfl) (ib_w 1 1 hK23_x_this_sort rfl) (by have := hJ23_lin0; omega) (by exact hq) hP hD hS (lv_sub hl [0, 1, 2, 3, 4, 5] rfl)
                    · as_aux_lemma =>
                        replace hq := lf_neg hq (lf_ne (lf_rf J23_l4) (lf_lc 0 (0 : Int) rfl) c31)
                        have h35 : ib J23_l4 1 1 := ib_w 1 1 (ib_ne_lo 0 hJ23_l4 rfl c31) rfl
                        refine lv_iload_n hx hb dX5_wordIn_86 rfl (lv_at hl 3 rfl) ?_
                        refine lv_aload_n hx hb dX5_wordIn_87 rfl (lv_at hl 0 rfl) ?_
                        refine k_get C0 fg_X5_18 hP 0 rfl rfl dX5_wordIn_88 ?_
                        refine lv_icmp_ge (tgt := 113) hx hb dX5_wordIn_91 rfl (fun c36 => ?_) (fun c36 => ?_)
                        · replace hq := lf_pos hq (lf_le (lf_rf x_this_behind) (lf_rf J23_l3) c36)
                          have h37 := ib_le hx_this_behind hJ23_l3 c36
                          have h38 : ib J23_l3 0 1748 := ⟨(hJ23_l3).1, by have := (hJ23_l3).2; have := hJ23_lin0; have := (h27).2; omega⟩
                          exact jn113  H locs ls (ib_w 0 1748 h38 rfl) (ib_w 0 1 h35 rfl) (ib_w 0 148 h27 rfl) (ib_w 0 1599 hK23_x_this_at rfl) (ib_w 1 1 hK23_x_this_sort rfl) (by have := hJ23_lin0; omega) (by exact hq) hP hD hS (lv_sub hl [0, 1, 2, 3, 4, 5] rfl)
                        · as_aux_lemma =>
                            replace hq := lf_neg hq (lf_nle (lf_rf x_this_behind) (lf_rf J23_l3) c36)
                            have h39 := ib_nle hx_this_behind hJ23_l3 c36
                            have h40 : ib x_this_behind 1 1600 := ib_w 1 1600 h39.1 rfl
                            have h41 : ib J23_l3 0 1599 := ib_w 0 1599 h39.2 rfl
                            refine lv_aload_n hx hb dX5_wordIn_94 rfl (lv_at hl 0 rfl) ?_
                            refine k_get C0 fg_X5_33 hP 0 rfl rfl dX5_wordIn_95 ?_
                            refine lv_iload_n hx hb dX5_wordIn_98 rfl (lv_at hl 3 rfl) ?_
                            refine va_iald hx hb C0.2.2.2.2.2.1 hP 1 0 rfl rfl (ib_in 1600 h41 rfl) dX5_wordIn_99 ?_
                            refine lv_topi (fun z42 ez42 => ?_)
                            have h43 : ib z42 0 255 := by rw [ez42]; exact ia_at hg_this_text (ib_in 1600 h41 rfl)
                            have Ez42 := lf_ld ez42 (lf_ra g_this_text) (lf_rf J23_l3)
                            refine lv_aload_n hx hb dX5_wordIn_100 rfl (lv_at hl 1 rfl) ?_
                            refine lv_iload hx hb dX5_wordIn_101 (lv_at hl 5 rfl) ?_
                            refine k_jim hP hD hS hA [] [true, true] rfl rfl rfl 0 0 (Nat.le_of_ble_eq_true rfl) (Nat.le_of_ble_eq_true rfl) (fun hPc hDc => k_runVO (As := [.int J23_l5]) (rest := [.int z42]) C0 hZ hS hA (cx_charAt l dC dI cy sq 12 (by decide) J23_l5 (ib_ch 12 149 h27 rfl rfl).1 (ib_ch 12 149 h27 rfl rfl).2.1 (ib_ch 12 149 h27 rfl rfl).2.2) mV_X5_248 hPc hDc (vk_recv hZ.1 (by decide) hS) hl rfl rfl (Nat.le_of_ble_eq_true rfl) ⟨(Nat.le_of_ble_eq_true rfl), (Nat.le_of_ble_eq_true rfl)⟩ ⟨(Nat.le_of_ble_eq_true rfl), (Nat.le_of_ble_eq_true rfl)⟩ dX5_wordIn_103) (fun r44 u45 H locs hw hP hD hS => ?_)
                            replace hP : va_P (dC, dI) vwCl [(wo_5_riiiiirii a_this a_this_text x_this_length x_this_at x_this_behind x_this_sort x_this_allowed a_this_plan x_this_fault x_this_place), (wi_0_1600_0 a_this_text cy g_this_text)] H := hP
                            replace hD := k_D hP hD
                            have Er44 := lf_cha (j := 12) hw (lf_rf J23_l5)
                            refine lv_icmp_ne (tgt := 113) hx hb dX5_wordIn_106 rfl (fun c46 => ?_) (fun c46 => ?_)
                            · replace hq := lf_neg hq (lf_ne Ez42 Er44 c46)
                              exact jn113  H locs ls (ib_w 0 1748 h41 rfl) (ib_w 0 1 h35 rfl) (ib_w 0 148 h27 rfl) (ib_w 0 1599 hK23_x_this_at rfl) (ib_w 1 1 hK23_x_this_sort rfl) (by have := hJ23_lin0; omega) (by exact hq) hP hD hS (lv_sub hl [0, 1, 2, 3, 4, 5] rfl)
                            · replace hq := lf_pos hq (lf_eq Ez42 Er44 c46)
                              have h47 := ib_eq h43 (ib_any r44) c46
                              have h48 : ib r44 0 255 := ib_w 0 255 h47.2 rfl
                              refine lv_iconst (v := 1) hx hb dX5_wordIn_109 rfl ?_
                              refine lv_goto (tgt := 114) hx hb dX5_wordIn_110 rfl ?_
                              exact jn114 1 H locs ls (ib_w 0 1748 h41 rfl) (ib_w 0 1 h35 rfl) (ib_w 0 148 h27 rfl) (ib_w 0 1599 hK23_x_this_at rfl) (ib_w 1 1 hK23_x_this_sort rfl) (ib_w 0 1 (ib_c 1 1 1 rfl) rfl) (by have := hJ23_lin0; omega) (by try simp only [show (1 : Int32).toInt = (1 : Int) from rfl]; exact hq) hP hD hS (lv_sub hl [0, 1, 2, 3, 4, 5] rfl)
                · replace hq := lf_pos hq (lf_eq Er28 (lf_lc 32 (32 : Int) rfl) c30)
                  have h49 := ib_eq (ib_any r28) (ib_c 32 32 32 rfl) c30
                  have h50 : ib r28 32 32 := ib_w 32 32 h49.1 rfl
                  have h51 : ib J23_l3 0 1748 := ⟨(hJ23_l3).1, by have := (hJ23_l3).2; have := hJ23_lin0; have := (h27).2; omega⟩
                  exact jn52  H locs ls (ib_w 0 1749 h51 rfl) (ib_w 0 1 hJ23_l4 rfl) (ib_w 0 149 h27 rfl) (ib_w 0 1599 hK23_x_this_at rfl) (ib_w 1 1 hK23_x_this_sort rfl) (by exact hq) hP hD hS (lv_sub hl [0, 1, 2, 3, 4, 5] rfl)
  refine lv_aload_n hx hb dX5_wordIn_0 rfl (lv_at hl 0 rfl) ?_
  refine k_get C0 fg_X5_21 hP 0 rfl rfl dX5_wordIn_1 ?_
  refine lv_iconst (v := 1) hx hb dX5_wordIn_4 rfl ?_
  refine lv_icmp_eq (tgt := 10) hx hb dX5_wordIn_5 rfl (fun c52 => ?_) (fun c52 => ?_)
  · replace hq := lf_pos hq (lf_eq (lf_rf x_this_sort) (lf_lc 1 (1 : Int) rfl) c52)
    have h53 := ib_eq hx_this_sort (ib_c 1 1 1 rfl) c52
    have h54 : ib x_this_sort 1 1 := ib_w 1 1 h53.1 rfl
    have h55 : ib x_this_at 0 1599 := ib_w 0 1599 (ib_two hx_this_at (hc0_this (ib_nz h54 rfl))) rfl
    refine lv_iconst (v := 0) hx hb dX5_wordIn_10 rfl ?_
    refine lv_istore_n (lv' := [(2, .int 0), (0, .ref a_this), (1, .ref (sq 12))]) hx hb dX5_wordIn_11 rfl hl (Nat.le_of_ble_eq_true rfl) rfl (fun ls hl => ?_)
    refine lv_aload_n hx hb dX5_wordIn_12 rfl (lv_at hl 1 rfl) ?_
    refine k_get C0 fg_X5_15 hP 0 rfl rfl dX5_wordIn_13 ?_
    refine lv_istore_n (lv' := [(3, .int x_this_at), (2, .int 0), (0, .ref a_this), (1, .ref (sq 12))]) hx hb dX5_wordIn_16 rfl hl (Nat.le_of_ble_eq_true rfl) rfl (fun ls hl => ?_)
    refine lv_iconst (v := 1) hx hb dX5_wordIn_17 rfl ?_
    refine lv_istore (lv' := [(4, .int 1), (3, .int x_this_at), (2, .int 0), (0, .ref a_this), (1, .ref (sq 12))]) hx hb dX5_wordIn_18 hl (Nat.le_of_ble_eq_true rfl) rfl (fun ls hl => ?_)
    refine lv_iconst (v := 0) hx hb dX5_wordIn_20 rfl ?_
    refine lv_istore (lv' := [(5, .int 0), (4, .int 1), (3, .int x_this_at), (2, .int 0), (0, .ref a_this), (1, .ref (sq 12))]) hx hb dX5_wordIn_21 hl (Nat.le_of_ble_eq_true rfl) rfl (fun ls hl => ?_)
    exact jn23 152 0 x_this_at 1 0 H locs ls (ib_w 0 1599 h55 rfl) (ib_w 1 1 h54 rfl) (ib_w 0 1749 h55 rfl) (ib_w 0 1 (ib_c 1 1 1 rfl) rfl) (ib_w 0 150 (ib_c 0 0 0 rfl) rfl) (by have : (0 : Int32).toInt = 0 := rfl; have := (h55).2; omega) (by try simp only [show (0 : Int32).toInt = (0 : Int) from rfl]; try simp only [show (1 : Int32).toInt = (1 : Int) from rfl]; exact hq) (by have := (ib_c 0 0 0 rfl); unfold ib at this; omega) hP hD hS (lv_sub hl [4, 5, 3, 2, 1, 0] rfl)
  · replace hq := lf_neg hq (lf_ne (lf_rf x_this_sort) (lf_lc 1 (1 : Int) rfl) c52)
    refine lv_iconst (v := (-1)) hx hb dX5_wordIn_8 rfl ?_
    subst hQ; exact k_iret hx hb hr hlk rfl () hS ((hO.symm.trans (by try simp only [show ((-1) : Int32).toInt = (-1 : Int) from rfl]; exact hq))) hP hD (Nat.le_of_ble_eq_true rfl) (Nat.le_of_ble_eq_true rfl) dX5_wordIn_9
set_option maxHeartbeats 4000000 in
set_option maxRecDepth 100000 in
theorem s_X5_isName (l : Launch) (dC : Nat → ClassId) (dI : Nat → Nat → Nat) (cy : Nat → ClassId) (sq : Nat → Nat) (a_this : Nat) (a_this_text : Nat) (g_this_text : Nat → Int32) (x_this_length : Int32) (x_this_at : Int32) (x_this_behind : Int32) (x_this_sort : Int32) (x_this_allowed : Int32) (a_this_plan : Nat) (x_this_fault : Int32) (x_this_place : Int32) (hg_this_text : ia g_this_text 1600 0 255) (hx_this_at : ib x_this_at 0 1600) (hx_this_behind : ib x_this_behind 0 1600) (hx_this_sort : ib x_this_sort 0 4) (hc0_this : ¬ x_this_sort = 0 → ib x_this_at 0 1599) : k_Met l yX5_isName cX5_isName 1 (some .boolean) { frames := 5, cells := 0, slots := 0, locals := 166 } dC dI cy sq [.ref a_this] [(wo_5_riiiiirii a_this a_this_text x_this_length x_this_at x_this_behind x_this_sort x_this_allowed a_this_plan x_this_fault x_this_place), (wi_0_1600_0 a_this_text cy g_this_text)] (k_Qi dC dI (fun (r : Int32) (_ : Unit) => ib r 0 1 ∧ (¬ r = 0 → ib x_this_at 0 1599) ∧ (¬ r = 0 → ib x_this_sort 1 1) ∧ (F_X5_isName (lf_A g_this_text) (Int32.toInt x_this_at) (Int32.toInt x_this_behind) (Int32.toInt x_this_sort) = ((Int32.toInt r)))) (fun _ : Unit => [(wo_5_riiiiirii a_this a_this_text x_this_length x_this_at x_this_behind x_this_sort x_this_allowed a_this_plan x_this_fault x_this_place), (wi_0_1600_0 a_this_text cy g_this_text)])) := by
  refine k_ofW2 (by decide +kernel) (Nat.le_of_ble_eq_true rfl) ?_
  intro p e s m below meth c A ls H locs args Q hQ C0 hZ hr hlk hin hP hD hA hS hl
  have C0 : k_cx p s m args c cX5_isName 1 RX5 dC dI cy sq := C0
  have hx := C0.1
  have hb := C0.2.1
  have hl : lv_has ls 1 [(0, .ref a_this)] := hl
  obtain ⟨O, hO⟩ : ∃ o, o = F_X5_isName (lf_A g_this_text) (Int32.toInt x_this_at) (Int32.toInt x_this_behind) (Int32.toInt x_this_sort) := ⟨_, rfl⟩
  have hq := hO
  unfold F_X5_isName at hq
  have jn36 : ∀  (H : Heap) (locs : List Loc) (ls : Array Slot), (O = F_X5_isName_36 ) → va_P (dC, dI) vwCl [(wo_5_riiiiirii a_this a_this_text x_this_length x_this_at x_this_behind x_this_sort x_this_allowed a_this_plan x_this_fault x_this_place), (wi_0_1600_0 a_this_text cy g_this_text)] H → va_D A [(wo_5_riiiiirii a_this a_this_text x_this_length x_this_at x_this_behind x_this_sort x_this_allowed a_this_plan x_this_fault x_this_place), (wi_0_1600_0 a_this_text cy g_this_text)] → va_S A s.heap H locs → lv_has ls 1 [(0, .ref a_this)] → W p l e { frames := 5, cells := 0, slots := 0, locals := 166 } s m args below meth c H locs 0 0 Q (F0 m 36 ls []) := by
    intro H locs ls hq hP hD hS hl
    unfold F_X5_isName_36 at hq
    refine lv_iconst (v := 0) hx hb dX5_isName_36 rfl ?_
    subst hQ; exact k_iret hx hb hr hlk (k_nb 0 rfl) () hS ⟨ib_w 0 1 (ib_c 0 0 0 rfl) rfl, fun hq9 => absurd rfl hq9, fun hq9 => absurd rfl hq9, (hO.symm.trans (by try simp only [show (0 : Int32).toInt = (0 : Int) from rfl]; exact hq))⟩ hP hD (Nat.le_of_ble_eq_true rfl) (Nat.le_of_ble_eq_true rfl) dX5_isName_37
  refine lv_aload_n hx hb dX5_isName_0 rfl (lv_at hl 0 rfl) ?_
  refine k_get C0 fg_X5_21 hP 0 rfl rfl dX5_isName_1 ?_
  refine lv_iconst (v := 1) hx hb dX5_isName_4 rfl ?_
  refine lv_icmp_ne (tgt := 36) hx hb dX5_isName_5 rfl (fun c1 => ?_) (fun c1 => ?_)
  · replace hq := lf_neg hq (lf_ne (lf_rf x_this_sort) (lf_lc 1 (1 : Int) rfl) c1)
    exact jn36  H locs ls (by exact hq) hP hD hS (lv_sub hl [0] rfl)
  · as_aux_lemma =>
      replace hq := lf_pos hq (lf_eq (lf_rf x_this_sort) (lf_lc 1 (1 : Int) rfl) c1)
      have h2 := ib_eq hx_this_sort (ib_c 1 1 1 rfl) c1
      have h3 : ib x_this_sort 1 1 := ib_w 1 1 h2.1 rfl
      have h4 : ib x_this_at 0 1599 := ib_w 0 1599 (ib_two hx_this_at (hc0_this (ib_nz h3 rfl))) rfl
      refine lv_aload_n hx hb dX5_isName_8 rfl (lv_at hl 0 rfl) ?_
      refine k_get C0 fg_X5_18 hP 0 rfl rfl dX5_isName_9 ?_
      refine lv_aload_n hx hb dX5_isName_12 rfl (lv_at hl 0 rfl) ?_
      refine k_get C0 fg_X5_15 hP 0 rfl rfl dX5_isName_13 ?_
      refine lv_isub hx hb dX5_isName_16 ?_
      refine lv_topi (fun z5 ez5 => ?_)
      have h6 := ib_sub hx_this_behind h4 rfl
      rw [← ez5] at h6
      have h7 : ib z5 (-1599) 1600 := ib_w (-1599) 1600 h6.1 rfl
      have Ez5 := lf_sub h6.2 (lf_rf x_this_behind) (lf_rf x_this_at)
      refine lv_bipush (v := 6) hx hb dX5_isName_17 rfl ?_
      refine lv_icmp_gt (tgt := 36) hx hb dX5_isName_19 rfl (fun c8 => ?_) (fun c8 => ?_)
      · replace hq := lf_pos hq (lf_lt (lf_lc 6 (6 : Int) rfl) Ez5 c8)
        have h9 := ib_lt (ib_c 6 6 6 rfl) h7 c8
        have h10 : ib z5 7 1600 := ib_w 7 1600 h9.2 rfl
        exact jn36  H locs ls (by exact hq) hP hD hS (lv_sub hl [0] rfl)
      · as_aux_lemma =>
          replace hq := lf_neg hq (lf_nlt (lf_lc 6 (6 : Int) rfl) Ez5 c8)
          have h11 := ib_nlt (ib_c 6 6 6 rfl) h7 c8
          have h12 : ib z5 (-1599) 6 := ib_w (-1599) 6 h11.2 rfl
          refine lv_aload_n hx hb dX5_isName_22 rfl (lv_at hl 0 rfl) ?_
          refine va_ldcS hx hb C0.2.2.2.1 (C0.2.2.2.2.2.2.2.2.2.2.2.2 12 (by decide)) dX5_isName_23 ?_
          refine k_jim hP hD hS hA [0, 1] [] rfl rfl rfl 0 0 (Nat.le_of_ble_eq_true rfl) (Nat.le_of_ble_eq_true rfl) (fun hPc hDc => k_runV (As := [.ref (sq 12)]) (rest := []) C0 hZ hS hA (s_X5_wordIn_s12 l dC dI cy sq a_this a_this_text g_this_text x_this_length x_this_at x_this_behind x_this_sort x_this_allowed a_this_plan x_this_fault x_this_place hg_this_text (ib_w 0 1600 h4 rfl) (ib_w 0 1600 hx_this_behind rfl) (ib_w 0 4 h3 rfl) (fun _ => ib_w 0 1599 h4 rfl)) mV_X5_54 hPc hDc rfl rfl rfl hl rfl rfl (Nat.le_of_ble_eq_true rfl) ⟨(Nat.le_of_ble_eq_true rfl), (Nat.le_of_ble_eq_true rfl)⟩ ⟨(Nat.le_of_ble_eq_true rfl), (Nat.le_of_ble_eq_true rfl)⟩ dX5_isName_25) (fun r13 u14 H locs hw hP hD hS => ?_)
          try dsimp only at hP hD hw
          replace hP : va_P (dC, dI) vwCl [(wo_5_riiiiirii a_this a_this_text x_this_length x_this_at x_this_behind x_this_sort x_this_allowed a_this_plan x_this_fault x_this_place), (wi_0_1600_0 a_this_text cy g_this_text)] H := hP
          replace hD := k_D hP hD
          have h15 := hw
          replace hq := lf_b1 hq h15
          refine lv_iconst (v := (-1)) hx hb dX5_isName_28 rfl ?_
          refine lv_icmp_ne (tgt := 36) hx hb dX5_isName_29 rfl (fun c16 => ?_) (fun c16 => ?_)
          · replace hq := lf_neg hq (lf_ne (lf_rf r13) (lf_lc (-1) (-1 : Int) rfl) c16)
            exact jn36  H locs ls (by exact hq) hP hD hS (lv_sub hl [0] rfl)
          · replace hq := lf_pos hq (lf_eq (lf_rf r13) (lf_lc (-1) (-1 : Int) rfl) c16)
            have h17 := ib_eq (ib_any r13) (ib_c (-1) (-1) (-1) rfl) c16
            have h18 : ib r13 (-1) (-1) := ib_w (-1) (-1) h17.1 rfl
            refine lv_iconst (v := 1) hx hb dX5_isName_32 rfl ?_
            refine lv_goto (tgt := 37) hx hb dX5_isName_33 rfl ?_
            subst hQ; exact k_iret hx hb hr hlk (k_nb 1 rfl) () hS ⟨ib_w 0 1 (ib_c 1 1 1 rfl) rfl, fun _ => ib_w 0 1599 h4 rfl, fun _ => ib_w 1 1 h3 rfl, (hO.symm.trans (by try simp only [show (1 : Int32).toInt = (1 : Int) from rfl]; exact hq))⟩ hP hD (Nat.le_of_ble_eq_true rfl) (Nat.le_of_ble_eq_true rfl) dX5_isName_37
set_option maxHeartbeats 4000000 in
set_option maxRecDepth 100000 in
theorem s_X5_nameLetter (l : Launch) (dC : Nat → ClassId) (dI : Nat → Nat → Nat) (cy : Nat → ClassId) (sq : Nat → Nat) (a_this : Nat) (a_this_text : Nat) (g_this_text : Nat → Int32) (x_this_length : Int32) (x_this_at : Int32) (x_this_behind : Int32) (x_this_sort : Int32) (x_this_allowed : Int32) (a_this_plan : Nat) (x_this_fault : Int32) (x_this_place : Int32) (p0 : Int32) (hg_this_text : ia g_this_text 1600 0 255) (hx_this_at : ib x_this_at 0 1600) (hx_this_behind : ib x_this_behind 0 1600) (hp0 : ib p0 0 5) : k_Met l yX5_nameLetter cX5_nameLetter 2 (some .int) { frames := 0, cells := 0, slots := 0, locals := 0 } dC dI cy sq [.ref a_this, .int p0] [(wo_5_riiiiirii a_this a_this_text x_this_length x_this_at x_this_behind x_this_sort x_this_allowed a_this_plan x_this_fault x_this_place), (wi_0_1600_0 a_this_text cy g_this_text)] (k_Qi dC dI (fun (r : Int32) (_ : Unit) => ib r (-96) 159 ∧ (F_X5_nameLetter (lf_A g_this_text) (Int32.toInt x_this_at) (Int32.toInt x_this_behind) (Int32.toInt p0) = ((Int32.toInt r)))) (fun _ : Unit => [(wo_5_riiiiirii a_this a_this_text x_this_length x_this_at x_this_behind x_this_sort x_this_allowed a_this_plan x_this_fault x_this_place), (wi_0_1600_0 a_this_text cy g_this_text)])) := by
  refine k_ofW2 (by decide +kernel) (Nat.le_of_ble_eq_true rfl) ?_
  intro p e s m below meth c A ls H locs args Q hQ C0 hZ hr hlk hin hP hD hA hS hl
  have C0 : k_cx p s m args c cX5_nameLetter 2 RX5 dC dI cy sq := C0
  have hx := C0.1
  have hb := C0.2.1
  have hl : lv_has ls 2 [(0, .ref a_this), (1, .int p0)] := hl
  obtain ⟨O, hO⟩ : ∃ o, o = F_X5_nameLetter (lf_A g_this_text) (Int32.toInt x_this_at) (Int32.toInt x_this_behind) (Int32.toInt p0) := ⟨_, rfl⟩
  have hq := hO
  unfold F_X5_nameLetter at hq
  refine lv_aload_n hx hb dX5_nameLetter_0 rfl (lv_at hl 0 rfl) ?_
  refine k_get C0 fg_X5_15 hP 0 rfl rfl dX5_nameLetter_1 ?_
  refine lv_iload_n hx hb dX5_nameLetter_4 rfl (lv_at hl 1 rfl) ?_
  refine lv_iadd hx hb dX5_nameLetter_5 ?_
  refine lv_topi (fun z1 ez1 => ?_)
  have h2 := ib_add hx_this_at hp0 rfl
  rw [← ez1] at h2
  have h3 : ib z1 0 1605 := ib_w 0 1605 h2.1 rfl
  have Ez1 := lf_add h2.2 (lf_rf x_this_at) (lf_rf p0)
  refine lv_aload_n hx hb dX5_nameLetter_6 rfl (lv_at hl 0 rfl) ?_
  refine k_get C0 fg_X5_18 hP 0 rfl rfl dX5_nameLetter_7 ?_
  refine lv_icmp_ge (tgt := 32) hx hb dX5_nameLetter_10 rfl (fun c4 => ?_) (fun c4 => ?_)
  · replace hq := lf_pos hq (lf_le (lf_rf x_this_behind) Ez1 c4)
    have h5 := ib_le hx_this_behind h3 c4
    refine lv_iconst (v := 0) hx hb dX5_nameLetter_32 rfl ?_
    subst hQ; exact k_iret hx hb hr hlk rfl () hS ⟨ib_w (-96) 159 (ib_c 0 0 0 rfl) rfl, (hO.symm.trans (by try simp only [show (0 : Int32).toInt = (0 : Int) from rfl]; exact hq))⟩ hP hD (Nat.le_of_ble_eq_true rfl) (Nat.le_of_ble_eq_true rfl) dX5_nameLetter_33
  · replace hq := lf_neg hq (lf_nle (lf_rf x_this_behind) Ez1 c4)
    have h6 := ib_nle hx_this_behind h3 c4
    have h7 : ib x_this_behind 1 1600 := ib_w 1 1600 h6.1 rfl
    have h8 : ib z1 0 1599 := ib_w 0 1599 h6.2 rfl
    refine lv_aload_n hx hb dX5_nameLetter_13 rfl (lv_at hl 0 rfl) ?_
    refine k_get C0 fg_X5_33 hP 0 rfl rfl dX5_nameLetter_14 ?_
    refine lv_aload_n hx hb dX5_nameLetter_17 rfl (lv_at hl 0 rfl) ?_
    refine k_get C0 fg_X5_15 hP 0 rfl rfl dX5_nameLetter_18 ?_
    refine lv_iload_n hx hb dX5_nameLetter_21 rfl (lv_at hl 1 rfl) ?_
    refine lv_iadd hx hb dX5_nameLetter_22 ?_
    refine lv_topi (fun z9 ez9 => ?_)
    obtain rfl : z1 = z9 := ez1.trans ez9.symm
    refine va_iald hx hb C0.2.2.2.2.2.1 hP 1 0 rfl rfl (ib_in 1600 h8 rfl) dX5_nameLetter_23 ?_
    refine lv_topi (fun z10 ez10 => ?_)
    have h11 : ib z10 0 255 := by rw [ez10]; exact ia_at hg_this_text (ib_in 1600 h8 rfl)
    have Ez10 := lf_ld ez10 (lf_ra g_this_text) Ez1
    refine lv_bipush (v := 97) hx hb dX5_nameLetter_24 rfl ?_
    refine lv_isub hx hb dX5_nameLetter_26 ?_
    refine lv_topi (fun z12 ez12 => ?_)
    have h13 := ib_sub h11 (ib_c 97 97 97 rfl) rfl
    rw [← ez12] at h13
    have h14 : ib z12 (-97) 158 := ib_w (-97) 158 h13.1 rfl
    have Ez12 := lf_sub h13.2 Ez10 (lf_lc 97 (97 : Int) rfl)
    refine lv_iconst (v := 1) hx hb dX5_nameLetter_27 rfl ?_
    refine lv_iadd hx hb dX5_nameLetter_28 ?_
    refine lv_topi (fun z15 ez15 => ?_)
    have h16 := ib_add h14 (ib_c 1 1 1 rfl) rfl
    rw [← ez15] at h16
    have h17 : ib z15 (-96) 159 := ib_w (-96) 159 h16.1 rfl
    have Ez15 := lf_add h16.2 Ez12 (lf_lc 1 (1 : Int) rfl)
    refine lv_goto (tgt := 33) hx hb dX5_nameLetter_29 rfl ?_
    subst hQ; exact k_iret hx hb hr hlk rfl () hS ⟨ib_w (-96) 159 h17 rfl, (hO.symm.trans (by rw [lf_u Ez15]; exact hq))⟩ hP hD (Nat.le_of_ble_eq_true rfl) (Nat.le_of_ble_eq_true rfl) dX5_nameLetter_33
set_option maxHeartbeats 4000000 in
set_option maxRecDepth 100000 in
theorem s_X5_slotOf_a0_0_i1_0_6 (l : Launch) (dC : Nat → ClassId) (dI : Nat → Nat → Nat) (cy : Nat → ClassId) (sq : Nat → Nat) (a_this : Nat) (a_this_text : Nat) (g_this_text : Nat → Int32) (x_this_length : Int32) (x_this_at : Int32) (x_this_behind : Int32) (x_this_sort : Int32) (x_this_allowed : Int32) (a_this_plan : Nat) (x_this_plan_cycle : Int32) (x_this_plan_green : Int32) (x_this_plan_rule : Int32) (x_this_plan_least : Int32) (x_this_plan_away : Int32) (x_this_plan_statements : Int32) (x_this_plan_kinds : Int32) (a_this_plan_calm : Nat) (a_this_plan_pace : Nat) (a_this_plan_trusts : Nat) (x_this_plan_walkers : Int32) (a_this_plan_kindOf : Nat) (a_this_plan_comesAt : Nat) (a_this_plan_comers : Nat) (a_this_plan_names : Nat) (g_this_plan_names : Nat → Int32) (a_this_plan_code : Nat) (x_this_plan_size : Int32) (a_this_plan_spans : Nat) (x_this_fault : Int32) (x_this_place : Int32) (p1 : Int32) (hg_this_text : ia g_this_text 1600 0 255) (hx_this_at : ib x_this_at 0 1600) (hx_this_behind : ib x_this_behind 0 1600) (hp1 : ib p1 0 6) : k_Met l yX5_slotOf cX5_slotOf 5 (some .int) { frames := 1, cells := 0, slots := 0, locals := 21 } dC dI cy sq [.ref a_this, .int 0, .int p1] [(wo_5_riiiiirii a_this a_this_text x_this_length x_this_at x_this_behind x_this_sort x_this_allowed a_this_plan x_this_fault x_this_place), (wo_4_iiiiiiirrrirrrrrir a_this_plan x_this_plan_cycle x_this_plan_green x_this_plan_rule x_this_plan_least x_this_plan_away x_this_plan_statements x_this_plan_kinds a_this_plan_calm a_this_plan_pace a_this_plan_trusts x_this_plan_walkers a_this_plan_kindOf a_this_plan_comesAt a_this_plan_comers a_this_plan_names a_this_plan_code x_this_plan_size a_this_plan_spans), (wi_0_108_0 a_this_plan_names cy g_this_plan_names), (wi_0_1600_0 a_this_text cy g_this_text)] (k_Qi dC dI (fun (r : Int32) (_ : Unit) => ib r (-1) 5 ∧ (F_X5_slotOf_a0_0_i1_0_6 (lf_A g_this_text) (Int32.toInt x_this_at) (Int32.toInt x_this_behind) (lf_A g_this_plan_names) (Int32.toInt p1) = ((Int32.toInt r)))) (fun _ : Unit => [(wo_5_riiiiirii a_this a_this_text x_this_length x_this_at x_this_behind x_this_sort x_this_allowed a_this_plan x_this_fault x_this_place), (wo_4_iiiiiiirrrirrrrrir a_this_plan x_this_plan_cycle x_this_plan_green x_this_plan_rule x_this_plan_least x_this_plan_away x_this_plan_statements x_this_plan_kinds a_this_plan_calm a_this_plan_pace a_this_plan_trusts x_this_plan_walkers a_this_plan_kindOf a_this_plan_comesAt a_this_plan_comers a_this_plan_names a_this_plan_code x_this_plan_size a_this_plan_spans), (wi_0_108_0 a_this_plan_names cy g_this_plan_names), (wi_0_1600_0 a_this_text cy g_this_text)])) := by
  refine k_ofW2 (by decide +kernel) (Nat.le_of_ble_eq_true rfl) ?_
  intro p e s m below meth c A ls H locs args Q hQ C0 hZ hr hlk hin hP hD hA hS hl
  have C0 : k_cx p s m args c cX5_slotOf 5 RX5 dC dI cy sq := C0
  have hx := C0.1
  have hb := C0.2.1
  have hl : lv_has ls 5 [(0, .ref a_this), (1, .int 0), (2, .int p1)] := hl
  obtain ⟨O, hO⟩ : ∃ o, o = F_X5_slotOf_a0_0_i1_0_6 (lf_A g_this_text) (Int32.toInt x_this_at) (Int32.toInt x_this_behind) (lf_A g_this_plan_names) (Int32.toInt p1) := ⟨_, rfl⟩
  have hq := hO
  unfold F_X5_slotOf_a0_0_i1_0_6 at hq
  have jn2 : ∀ (n : Nat) (J2_l3 : Int32) (H : Heap) (locs : List Loc) (ls : Array Slot), ib J2_l3 0 6 → (O = F_X5_slotOf_a0_0_i1_0_6_2 (lf_A g_this_text) (Int32.toInt x_this_at) (Int32.toInt x_this_behind) (lf_A g_this_plan_names) (Int32.toInt p1) n (Int32.toInt J2_l3)) → 7 ≤ J2_l3.toInt + (n : Int) → va_P (dC, dI) vwCl [(wo_5_riiiiirii a_this a_this_text x_this_length x_this_at x_this_behind x_this_sort x_this_allowed a_this_plan x_this_fault x_this_place), (wo_4_iiiiiiirrrirrrrrir a_this_plan x_this_plan_cycle x_this_plan_green x_this_plan_rule x_this_plan_least x_this_plan_away x_this_plan_statements x_this_plan_kinds a_this_plan_calm a_this_plan_pace a_this_plan_trusts x_this_plan_walkers a_this_plan_kindOf a_this_plan_comesAt a_this_plan_comers a_this_plan_names a_this_plan_code x_this_plan_size a_this_plan_spans), (wi_0_108_0 a_this_plan_names cy g_this_plan_names), (wi_0_1600_0 a_this_text cy g_this_text)] H → va_D A [(wo_5_riiiiirii a_this a_this_text x_this_length x_this_at x_this_behind x_this_sort x_this_allowed a_this_plan x_this_fault x_this_place), (wo_4_iiiiiiirrrirrrrrir a_this_plan x_this_plan_cycle x_this_plan_green x_this_plan_rule x_this_plan_least x_this_plan_away x_this_plan_statements x_this_plan_kinds a_this_plan_calm a_this_plan_pace a_this_plan_trusts x_this_plan_walkers a_this_plan_kindOf a_this_plan_comesAt a_this_plan_comers a_this_plan_names a_this_plan_code x_this_plan_size a_this_plan_spans), (wi_0_108_0 a_this_plan_names cy g_this_plan_names), (wi_0_1600_0 a_this_text cy g_this_text)] → va_S A s.heap H locs → lv_has ls 5 [(0, .ref a_this), (1, .int 0), (2, .int p1), (3, .int J2_l3)] → W p l e { frames := 1, cells := 0, slots := 0, locals := 21 } s m args below meth c H locs 0 0 Q (F0 m 2 ls []) := by
    as_aux_lemma =>
      intro n
      induction n with
      | zero =>
        intro J2_l3 H locs ls hJ2_l3 hq hm
        exact absurd hm (by have := hJ2_l3; unfold ib at this; omega)
      | succ n ih =>
        intro J2_l3 H locs ls hJ2_l3 hq hm2 hP hD hS hl
        have ih2 := ih
        obtain ⟨K2, hK2⟩ : ∃ K, K = F_X5_slotOf_a0_0_i1_0_6_2 (lf_A g_this_text) (Int32.toInt x_this_at) (Int32.toInt x_this_behind) (lf_A g_this_plan_names) (Int32.toInt p1) n := ⟨_, rfl⟩
        have hq : O = F_X5_slotOf_a0_0_i1_0_6_2b (lf_A g_this_text) (Int32.toInt x_this_at) (Int32.toInt x_this_behind) (lf_A g_this_plan_names) (Int32.toInt p1) K2 (Int32.toInt J2_l3) := by rw [hK2]; exact hq
        unfold F_X5_slotOf_a0_0_i1_0_6_2b at hq
        have jn49 : ∀ (J49_l4 : Int32) (H : Heap) (locs : List Loc) (ls : Array Slot), ib J2_l3 0 5 → ib J49_l4 0 6 → (O = F_X5_slotOf_a0_0_i1_0_6_49 (Int32.toInt J2_l3) K2 (Int32.toInt J49_l4)) → va_P (dC, dI) vwCl [(wo_5_riiiiirii a_this a_this_text x_this_length x_this_at x_this_behind x_this_sort x_this_allowed a_this_plan x_this_fault x_this_place), (wo_4_iiiiiiirrrirrrrrir a_this_plan x_this_plan_cycle x_this_plan_green x_this_plan_rule x_this_plan_least x_this_plan_away x_this_plan_statements x_this_plan_kinds a_this_plan_calm a_this_plan_pace a_this_plan_trusts x_this_plan_walkers a_this_plan_kindOf a_this_plan_comesAt a_this_plan_comers a_this_plan_names a_this_plan_code x_this_plan_size a_this_plan_spans), (wi_0_108_0 a_this_plan_names cy g_this_plan_names), (wi_0_1600_0 a_this_text cy g_this_text)] H → va_D A [(wo_5_riiiiirii a_this a_this_text x_this_length x_this_at x_this_behind x_this_sort x_this_allowed a_this_plan x_this_fault x_this_place), (wo_4_iiiiiiirrrirrrrrir a_this_plan x_this_plan_cycle x_this_plan_green x_this_plan_rule x_this_plan_least x_this_plan_away x_this_plan_statements x_this_plan_kinds a_this_plan_calm a_this_plan_pace a_this_plan_trusts x_this_plan_walkers a_this_plan_kindOf a_this_plan_comesAt a_this_plan_comers a_this_plan_names a_this_plan_code x_this_plan_size a_this_plan_spans), (wi_0_108_0 a_this_plan_names cy g_this_plan_names), (wi_0_1600_0 a_this_text cy g_this_text)] → va_S A s.heap H locs → lv_has ls 5 [(0, .ref a_this), (1, .int 0), (2, .int p1), (3, .int J2_l3), (4, .int J49_l4)] → W p l e { frames := 1, cells := 0, slots := 0, locals := 21 } s m args below meth c H locs 0 0 Q (F0 m 49 ls []) := by
          as_aux_lemma =>
            intro J49_l4 H locs ls hK49_J2_l3 hJ49_l4 hq hP hD hS hl
            unfold F_X5_slotOf_a0_0_i1_0_6_49 at hq
            refine lv_iload hx hb dX5_slotOf_49 (lv_at hl 4 rfl) ?_
            refine lv_bipush (v := 6) hx hb dX5_slotOf_51 rfl ?_
            refine lv_icmp_ne (tgt := 58) hx hb dX5_slotOf_53 rfl (fun c1 => ?_) (fun c1 => ?_)
            · replace hq := lf_neg hq (lf_ne (lf_rf J49_l4) (lf_lc 6 (6 : Int) rfl) c1)
              have h2 : ib J49_l4 0 5 := ib_w 0 5 (ib_ne_hi 6 hJ49_l4 rfl c1) rfl
              obtain ⟨z3, ez3⟩ : ∃ y : Int32, y = J2_l3 + 1 := ⟨_, rfl⟩
              refine lv_iinc (v := z3) (lv' := [(3, .int z3), (0, .ref a_this), (1, .int 0), (2, .int p1), (4, .int J49_l4)]) hx hb dX5_slotOf_58 hl (k := 3) rfl (by rw [ez3]; rfl) (Nat.le_of_ble_eq_true rfl) rfl (fun ls hl => ?_)
              have h4 := ib_add hK49_J2_l3 (ib_c 1 1 1 rfl) rfl
              rw [← ez3] at h4
              have h5 : ib z3 1 6 := ib_w 1 6 h4.1 rfl
              have Ez3 := lf_add h4.2 (lf_rf J2_l3) (lf_lc 1 (1 : Int) rfl)
              refine lv_goto (tgt := 2) hx hb dX5_slotOf_61 rfl ?_
              exact ih2 z3 H locs ls (ib_w 0 6 h5 rfl) (by rw [← hK2]; rw [lf_u Ez3]; exact hq) (by have := h4.2; have : (1 : Int32).toInt = 1 := rfl; omega) hP hD hS (lv_sub hl [1, 2, 3, 0] rfl)
            · replace hq := lf_pos hq (lf_eq (lf_rf J49_l4) (lf_lc 6 (6 : Int) rfl) c1)
              have h6 := ib_eq hJ49_l4 (ib_c 6 6 6 rfl) c1
              have h7 : ib J49_l4 6 6 := ib_w 6 6 h6.1 rfl
              refine lv_iload_n hx hb dX5_slotOf_56 rfl (lv_at hl 3 rfl) ?_
              subst hQ; exact k_iret hx hb hr hlk rfl () hS ⟨ib_w (-1) 5 hK49_J2_l3 rfl, (hO.symm.trans (by exact hq))⟩ hP hD (Nat.le_of_ble_eq_true rfl) (Nat.le_of_ble_eq_true rfl) dX5_slotOf_57
        have jn12 : ∀ (n : Nat) (J12_l4 : Int32) (H : Heap) (locs : List Loc) (ls : Array Slot), ib J2_l3 0 5 → ib J12_l4 0 6 → (O = F_X5_slotOf_a0_0_i1_0_6_12 (lf_A g_this_text) (Int32.toInt x_this_at) (Int32.toInt x_this_behind) (lf_A g_this_plan_names) (Int32.toInt J2_l3) K2 n (Int32.toInt J12_l4)) → 7 ≤ J12_l4.toInt + (n : Int) → va_P (dC, dI) vwCl [(wo_5_riiiiirii a_this a_this_text x_this_length x_this_at x_this_behind x_this_sort x_this_allowed a_this_plan x_this_fault x_this_place), (wo_4_iiiiiiirrrirrrrrir a_this_plan x_this_plan_cycle x_this_plan_green x_this_plan_rule x_this_plan_least x_this_plan_away x_this_plan_statements x_this_plan_kinds a_this_plan_calm a_this_plan_pace a_this_plan_trusts x_this_plan_walkers a_this_plan_kindOf a_this_plan_comesAt a_this_plan_comers a_this_plan_names a_this_plan_code x_this_plan_size a_this_plan_spans), (wi_0_108_0 a_this_plan_names cy g_this_plan_names), (wi_0_1600_0 a_this_text cy g_this_text)] H → va_D A [(wo_5_riiiiirii a_this a_this_text x_this_length x_this_at x_this_behind x_this_sort x_this_allowed a_this_plan x_this_fault x_this_place), (wo_4_iiiiiiirrrirrrrrir a_this_plan x_this_plan_cycle x_this_plan_green x_this_plan_rule x_this_plan_least x_this_plan_away x_this_plan_statements x_this_plan_kinds a_this_plan_calm a_this_plan_pace a_this_plan_trusts x_this_plan_walkers a_this_plan_kindOf a_this_plan_comesAt a_this_plan_comers a_this_plan_names a_this_plan_code x_this_plan_size a_this_plan_spans), (wi_0_108_0 a_this_plan_names cy g_this_plan_names), (wi_0_1600_0 a_this_text cy g_this_text)] → va_S A s.heap H locs → lv_has ls 5 [(0, .ref a_this), (1, .int 0), (2, .int p1), (3, .int J2_l3), (4, .int J12_l4)] → W p l e { frames := 1, cells := 0, slots := 0, locals := 21 } s m args below meth c H locs 0 0 Q (F0 m 12 ls []) := by
          as_aux_lemma =>
            intro n
            induction n with
            | zero =>
              intro J12_l4 H locs ls hK12_J2_l3 hJ12_l4 hq hm
              exact absurd hm (by have := hJ12_l4; unfold ib at this; omega)
            | succ n ih =>
              intro J12_l4 H locs ls hK12_J2_l3 hJ12_l4 hq hm12 hP hD hS hl
              have ih12 := ih
              obtain ⟨K12, hK12⟩ : ∃ K, K = F_X5_slotOf_a0_0_i1_0_6_12 (lf_A g_this_text) (Int32.toInt x_this_at) (Int32.toInt x_this_behind) (lf_A g_this_plan_names) (Int32.toInt J2_l3) K2 n := ⟨_, rfl⟩
              have hq : O = F_X5_slotOf_a0_0_i1_0_6_12b (lf_A g_this_text) (Int32.toInt x_this_at) (Int32.toInt x_this_behind) (lf_A g_this_plan_names) (Int32.toInt J2_l3) K2 K12 (Int32.toInt J12_l4) := by rw [hK12]; exact hq
              unfold F_X5_slotOf_a0_0_i1_0_6_12b at hq
              refine lv_iload hx hb dX5_slotOf_12 (lv_at hl 4 rfl) ?_
              refine lv_bipush (v := 6) hx hb dX5_slotOf_14 rfl ?_
              refine lv_icmp_ge (tgt := 49) hx hb dX5_slotOf_16 rfl (fun c8 => ?_) (fun c8 => ?_)
              · replace hq := lf_pos hq (lf_le (lf_lc 6 (6 : Int) rfl) (lf_rf J12_l4) c8)
                have h9 := ib_le (ib_c 6 6 6 rfl) hJ12_l4 c8
                have h10 : ib J12_l4 6 6 := ib_w 6 6 h9.2 rfl
                exact jn49 J12_l4 H locs ls (ib_w 0 5 hK12_J2_l3 rfl) (ib_w 0 6 h10 rfl) (by exact hq) hP hD hS (lv_sub hl [0, 1, 2, 3, 4] rfl)
              · as_aux_lemma =>
                  replace hq := lf_neg hq (lf_nle (lf_lc 6 (6 : Int) rfl) (lf_rf J12_l4) c8)
                  have h11 := ib_nle (ib_c 6 6 6 rfl) hJ12_l4 c8
                  have h12 : ib J12_l4 0 5 := ib_w 0 5 h11.2 rfl
                  refine lv_aload_n hx hb dX5_slotOf_19 rfl (lv_at hl 0 rfl) ?_
                  refine k_get C0 fg_X5_37 hP 0 rfl rfl dX5_slotOf_20 ?_
                  refine k_get C0 fg_X5_181 hP 1 rfl rfl dX5_slotOf_23 ?_
                  refine lv_iload_n hx hb dX5_slotOf_26 rfl (lv_at hl 3 rfl) ?_
                  refine lv_bipush (v := 6) hx hb dX5_slotOf_27 rfl ?_
                  refine lv_imul hx hb dX5_slotOf_29 ?_
                  refine lv_topi (fun z13 ez13 => ?_)
                  have h14 := ib_mul hK12_J2_l3 (ib_c 6 6 6 rfl) rfl
                  rw [← ez13] at h14
                  have h15 : ib z13 0 30 := ib_w 0 30 h14.1 rfl
                  have Ez13 := lf_mul h14.2 (lf_rf J2_l3) (lf_lc 6 (6 : Int) rfl)
                  refine lv_iload hx hb dX5_slotOf_30 (lv_at hl 4 rfl) ?_
                  refine lv_iadd hx hb dX5_slotOf_32 ?_
                  refine lv_topi (fun z16 ez16 => ?_)
                  have h17 := ib_add h15 h12 rfl
                  rw [← ez16] at h17
                  have h18 : ib z16 0 35 := ib_w 0 35 h17.1 rfl
                  have Ez16 := lf_add h17.2 Ez13 (lf_rf J12_l4)
                  refine va_iald hx hb C0.2.2.2.2.2.1 hP 2 0 rfl rfl (ib_in 108 h18 rfl) dX5_slotOf_33 ?_
                  refine lv_topi (fun z19 ez19 => ?_)
                  have Ez19 := lf_ld ez19 (lf_ra g_this_plan_names) Ez16
                  refine lv_aload_n hx hb dX5_slotOf_34 rfl (lv_at hl 0 rfl) ?_
                  refine lv_iload hx hb dX5_slotOf_35 (lv_at hl 4 rfl) ?_
                  refine k_jim hP hD hS hA [0, 3] [false, true, true] rfl rfl rfl 0 0 (Nat.le_of_ble_eq_true rfl) (Nat.le_of_ble_eq_true rfl) (fun hPc hDc => k_runV (As := [.int J12_l4]) (rest := [.int z19]) C0 hZ hS hA (s_X5_nameLetter l dC dI cy sq a_this a_this_text g_this_text x_this_length x_this_at x_this_behind x_this_sort x_this_allowed a_this_plan x_this_fault x_this_place J12_l4 hg_this_text (ib_w 0 1600 hx_this_at rfl) (ib_w 0 1600 hx_this_behind rfl) (ib_w 0 5 h12 rfl)) mV_X5_184 hPc hDc rfl rfl rfl hl rfl rfl (Nat.le_of_ble_eq_true rfl) ⟨(Nat.le_of_ble_eq_true rfl), (Nat.le_of_ble_eq_true rfl)⟩ ⟨(Nat.le_of_ble_eq_true rfl), (Nat.le_of_ble_eq_true rfl)⟩ dX5_slotOf_37) (fun r20 u21 H locs hw hP hD hS => ?_)
                  try dsimp only at hP hD hw
                  replace hP : va_P (dC, dI) vwCl [(wo_4_iiiiiiirrrirrrrrir a_this_plan x_this_plan_cycle x_this_plan_green x_this_plan_rule x_this_plan_least x_this_plan_away x_this_plan_statements x_this_plan_kinds a_this_plan_calm a_this_plan_pace a_this_plan_trusts x_this_plan_walkers a_this_plan_kindOf a_this_plan_comesAt a_this_plan_comers a_this_plan_names a_this_plan_code x_this_plan_size a_this_plan_spans), (wi_0_108_0 a_this_plan_names cy g_this_plan_names), (wo_5_riiiiirii a_this a_this_text x_this_length x_this_at x_this_behind x_this_sort x_this_allowed a_this_plan x_this_fault x_this_place), (wi_0_1600_0 a_this_text cy g_this_text)] H := hP
                  replace hD := k_D hP hD
                  obtain ⟨h22, h23⟩ := hw
                  replace hq := lf_b1 hq h23
                  refine lv_icmp_ne (tgt := 49) hx hb dX5_slotOf_40 rfl (fun c24 => ?_) (fun c24 => ?_)
                  · replace hq := lf_neg hq (lf_ne Ez19 (lf_rf r20) c24)
                    exact jn49 J12_l4 H locs ls (ib_w 0 5 hK12_J2_l3 rfl) (ib_w 0 6 h12 rfl) (by exact hq) (hP.sub [2, 0, 1, 3] rfl) (hD.sub [2, 0, 1, 3] rfl rfl) hS (lv_sub hl [0, 1, 2, 3, 4] rfl)
                  · replace hq := lf_pos hq (lf_eq Ez19 (lf_rf r20) c24)
                    have h25 := ib_eq (ib_any z19) h22 c24
                    have h26 : ib z19 (-96) 159 := ib_w (-96) 159 h25.1 rfl
                    obtain ⟨z27, ez27⟩ : ∃ y : Int32, y = J12_l4 + 1 := ⟨_, rfl⟩
                    refine lv_iinc (v := z27) (lv' := [(4, .int z27), (0, .ref a_this), (1, .int 0), (2, .int p1), (3, .int J2_l3)]) hx hb dX5_slotOf_43 hl (k := 4) rfl (by rw [ez27]; rfl) (Nat.le_of_ble_eq_true rfl) rfl (fun ls hl => ?_)
                    have h28 := ib_add h12 (ib_c 1 1 1 rfl) rfl
                    rw [← ez27] at h28
                    have h29 : ib z27 1 6 := ib_w 1 6 h28.1 rfl
                    have Ez27 := lf_add h28.2 (lf_rf J12_l4) (lf_lc 1 (1 : Int) rfl)
                    refine lv_goto (tgt := 12) hx hb dX5_slotOf_46 rfl ?_
                    exact ih12 z27 H locs ls (ib_w 0 5 hK12_J2_l3 rfl) (ib_w 0 6 h29 rfl) (by rw [← hK12]; rw [lf_u Ez27]; exact hq) (by have := h28.2; have : (1 : Int32).toInt = 1 := rfl; omega) (hP.sub [2, 0, 1, 3] rfl) (hD.sub [2, 0, 1, 3] rfl rfl) hS (lv_sub hl [1, 2, 3, 4, 0] rfl)
        refine lv_iload_n hx hb dX5_slotOf_2 rfl (lv_at hl 3 rfl) ?_
        refine lv_iload_n hx hb dX5_slotOf_3 rfl (lv_at hl 1 rfl) ?_
        refine lv_iload_n hx hb dX5_slotOf_4 rfl (lv_at hl 2 rfl) ?_
        refine lv_iadd hx hb dX5_slotOf_5 ?_
        refine lv_topi (fun z30 ez30 => ?_)
        have h31 := ib_add (ib_c 0 0 0 rfl) hp1 rfl
        rw [← ez30] at h31
        have h32 : ib z30 0 6 := ib_w 0 6 h31.1 rfl
        have Ez30 := lf_add h31.2 (lf_lc 0 (0 : Int) rfl) (lf_rf p1)
        refine lv_icmp_ge (tgt := 64) hx hb dX5_slotOf_6 rfl (fun c33 => ?_) (fun c33 => ?_)
        · replace hq := lf_pos hq (lf_le Ez30 (lf_rf J2_l3) c33)
          have h34 := ib_le h32 hJ2_l3 c33
          refine lv_iconst (v := (-1)) hx hb dX5_slotOf_64 rfl ?_
          subst hQ; exact k_iret hx hb hr hlk rfl () hS ⟨ib_w (-1) 5 (ib_c (-1) (-1) (-1) rfl) rfl, (hO.symm.trans (by try simp only [show ((-1) : Int32).toInt = (-1 : Int) from rfl]; exact hq))⟩ hP hD (Nat.le_of_ble_eq_true rfl) (Nat.le_of_ble_eq_true rfl) dX5_slotOf_65
        · replace hq := lf_neg hq (lf_nle Ez30 (lf_rf J2_l3) c33)
          have h35 := ib_nle h32 hJ2_l3 c33
          have h36 : ib z30 1 6 := ib_w 1 6 h35.1 rfl
          have h37 : ib J2_l3 0 5 := ib_w 0 5 h35.2 rfl
          refine lv_iconst (v := 0) hx hb dX5_slotOf_9 rfl ?_
          refine lv_istore (lv' := [(4, .int 0), (0, .ref a_this), (1, .int 0), (2, .int p1), (3, .int J2_l3)]) hx hb dX5_slotOf_10 hl (Nat.le_of_ble_eq_true rfl) rfl (fun ls hl => ?_)
          exact jn12 8 0 H locs ls (ib_w 0 5 h37 rfl) (ib_w 0 6 (ib_c 0 0 0 rfl) rfl) (by try simp only [show (0 : Int32).toInt = (0 : Int) from rfl]; exact hq) (by have := (ib_c 0 0 0 rfl); unfold ib at this; omega) hP hD hS (lv_sub hl [1, 2, 3, 4, 0] rfl)
  refine lv_iload_n hx hb dX5_slotOf_0 rfl (lv_at hl 1 rfl) ?_
  refine lv_istore_n (lv' := [(3, .int 0), (0, .ref a_this), (1, .int 0), (2, .int p1)]) hx hb dX5_slotOf_1 rfl hl (Nat.le_of_ble_eq_true rfl) rfl (fun ls hl => ?_)
  exact jn2 8 0 H locs ls (ib_w 0 6 (ib_c 0 0 0 rfl) rfl) (by try simp only [show (0 : Int32).toInt = (0 : Int) from rfl]; exact hq) (by have := (ib_c 0 0 0 rfl); unfold ib at this; omega) hP hD hS (lv_sub hl [1, 2, 3, 0] rfl)
set_option maxHeartbeats 4000000 in
set_option maxRecDepth 100000 in
theorem s_X5_slotOf_a0_6_i1_0_12 (l : Launch) (dC : Nat → ClassId) (dI : Nat → Nat → Nat) (cy : Nat → ClassId) (sq : Nat → Nat) (a_this : Nat) (a_this_text : Nat) (g_this_text : Nat → Int32) (x_this_length : Int32) (x_this_at : Int32) (x_this_behind : Int32) (x_this_sort : Int32) (x_this_allowed : Int32) (a_this_plan : Nat) (x_this_plan_cycle : Int32) (x_this_plan_green : Int32) (x_this_plan_rule : Int32) (x_this_plan_least : Int32) (x_this_plan_away : Int32) (x_this_plan_statements : Int32) (x_this_plan_kinds : Int32) (a_this_plan_calm : Nat) (a_this_plan_pace : Nat) (a_this_plan_trusts : Nat) (x_this_plan_walkers : Int32) (a_this_plan_kindOf : Nat) (a_this_plan_comesAt : Nat) (a_this_plan_comers : Nat) (a_this_plan_names : Nat) (g_this_plan_names : Nat → Int32) (a_this_plan_code : Nat) (x_this_plan_size : Int32) (a_this_plan_spans : Nat) (x_this_fault : Int32) (x_this_place : Int32) (p1 : Int32) (hg_this_text : ia g_this_text 1600 0 255) (hx_this_at : ib x_this_at 0 1600) (hx_this_behind : ib x_this_behind 0 1600) (hp1 : ib p1 0 12) : k_Met l yX5_slotOf cX5_slotOf 5 (some .int) { frames := 1, cells := 0, slots := 0, locals := 21 } dC dI cy sq [.ref a_this, .int 6, .int p1] [(wo_5_riiiiirii a_this a_this_text x_this_length x_this_at x_this_behind x_this_sort x_this_allowed a_this_plan x_this_fault x_this_place), (wo_4_iiiiiiirrrirrrrrir a_this_plan x_this_plan_cycle x_this_plan_green x_this_plan_rule x_this_plan_least x_this_plan_away x_this_plan_statements x_this_plan_kinds a_this_plan_calm a_this_plan_pace a_this_plan_trusts x_this_plan_walkers a_this_plan_kindOf a_this_plan_comesAt a_this_plan_comers a_this_plan_names a_this_plan_code x_this_plan_size a_this_plan_spans), (wi_0_108_0 a_this_plan_names cy g_this_plan_names), (wi_0_1600_0 a_this_text cy g_this_text)] (k_Qi dC dI (fun (r : Int32) (_ : Unit) => ib r (-1) 17 ∧ (F_X5_slotOf_a0_6_i1_0_12 (lf_A g_this_text) (Int32.toInt x_this_at) (Int32.toInt x_this_behind) (lf_A g_this_plan_names) (Int32.toInt p1) = ((Int32.toInt r)))) (fun _ : Unit => [(wo_5_riiiiirii a_this a_this_text x_this_length x_this_at x_this_behind x_this_sort x_this_allowed a_this_plan x_this_fault x_this_place), (wo_4_iiiiiiirrrirrrrrir a_this_plan x_this_plan_cycle x_this_plan_green x_this_plan_rule x_this_plan_least x_this_plan_away x_this_plan_statements x_this_plan_kinds a_this_plan_calm a_this_plan_pace a_this_plan_trusts x_this_plan_walkers a_this_plan_kindOf a_this_plan_comesAt a_this_plan_comers a_this_plan_names a_this_plan_code x_this_plan_size a_this_plan_spans), (wi_0_108_0 a_this_plan_names cy g_this_plan_names), (wi_0_1600_0 a_this_text cy g_this_text)])) := by
  refine k_ofW2 (by decide +kernel) (Nat.le_of_ble_eq_true rfl) ?_
  intro p e s m below meth c A ls H locs args Q hQ C0 hZ hr hlk hin hP hD hA hS hl
  have C0 : k_cx p s m args c cX5_slotOf 5 RX5 dC dI cy sq := C0
  have hx := C0.1
  have hb := C0.2.1
  have hl : lv_has ls 5 [(0, .ref a_this), (1, .int 6), (2, .int p1)] := hl
  obtain ⟨O, hO⟩ : ∃ o, o = F_X5_slotOf_a0_6_i1_0_12 (lf_A g_this_text) (Int32.toInt x_this_at) (Int32.toInt x_this_behind) (lf_A g_this_plan_names) (Int32.toInt p1) := ⟨_, rfl⟩
  have hq := hO
  unfold F_X5_slotOf_a0_6_i1_0_12 at hq
  have jn2 : ∀ (n : Nat) (J2_l3 : Int32) (H : Heap) (locs : List Loc) (ls : Array Slot), ib J2_l3 6 18 → (O = F_X5_slotOf_a0_6_i1_0_12_2 (lf_A g_this_text) (Int32.toInt x_this_at) (Int32.toInt x_this_behind) (lf_A g_this_plan_names) (Int32.toInt p1) n (Int32.toInt J2_l3)) → 19 ≤ J2_l3.toInt + (n : Int) → va_P (dC, dI) vwCl [(wo_5_riiiiirii a_this a_this_text x_this_length x_this_at x_this_behind x_this_sort x_this_allowed a_this_plan x_this_fault x_this_place), (wo_4_iiiiiiirrrirrrrrir a_this_plan x_this_plan_cycle x_this_plan_green x_this_plan_rule x_this_plan_least x_this_plan_away x_this_plan_statements x_this_plan_kinds a_this_plan_calm a_this_plan_pace a_this_plan_trusts x_this_plan_walkers a_this_plan_kindOf a_this_plan_comesAt a_this_plan_comers a_this_plan_names a_this_plan_code x_this_plan_size a_this_plan_spans), (wi_0_108_0 a_this_plan_names cy g_this_plan_names), (wi_0_1600_0 a_this_text cy g_this_text)] H → va_D A [(wo_5_riiiiirii a_this a_this_text x_this_length x_this_at x_this_behind x_this_sort x_this_allowed a_this_plan x_this_fault x_this_place), (wo_4_iiiiiiirrrirrrrrir a_this_plan x_this_plan_cycle x_this_plan_green x_this_plan_rule x_this_plan_least x_this_plan_away x_this_plan_statements x_this_plan_kinds a_this_plan_calm a_this_plan_pace a_this_plan_trusts x_this_plan_walkers a_this_plan_kindOf a_this_plan_comesAt a_this_plan_comers a_this_plan_names a_this_plan_code x_this_plan_size a_this_plan_spans), (wi_0_108_0 a_this_plan_names cy g_this_plan_names), (wi_0_1600_0 a_this_text cy g_this_text)] → va_S A s.heap H locs → lv_has ls 5 [(0, .ref a_this), (1, .int 6), (2, .int p1), (3, .int J2_l3)] → W p l e { frames := 1, cells := 0, slots := 0, locals := 21 } s m args below meth c H locs 0 0 Q (F0 m 2 ls []) := by
    as_aux_lemma =>
      intro n
      induction n with
      | zero =>
        intro J2_l3 H locs ls hJ2_l3 hq hm
        exact absurd hm (by have := hJ2_l3; unfold ib at this; omega)
      | succ n ih =>
        intro J2_l3 H locs ls hJ2_l3 hq hm2 hP hD hS hl
        have ih2 := ih
        obtain ⟨K2, hK2⟩ : ∃ K, K = F_X5_slotOf_a0_6_i1_0_12_2 (lf_A g_this_text) (Int32.toInt x_this_at) (Int32.toInt x_this_behind) (lf_A g_this_plan_names) (Int32.toInt p1) n := ⟨_, rfl⟩
        have hq : O = F_X5_slotOf_a0_6_i1_0_12_2b (lf_A g_this_text) (Int32.toInt x_this_at) (Int32.toInt x_this_behind) (lf_A g_this_plan_names) (Int32.toInt p1) K2 (Int32.toInt J2_l3) := by rw [hK2]; exact hq
        unfold F_X5_slotOf_a0_6_i1_0_12_2b at hq
        have jn49 : ∀ (J49_l4 : Int32) (H : Heap) (locs : List Loc) (ls : Array Slot), ib J2_l3 6 17 → ib J49_l4 0 6 → (O = F_X5_slotOf_a0_6_i1_0_12_49 (Int32.toInt J2_l3) K2 (Int32.toInt J49_l4)) → va_P (dC, dI) vwCl [(wo_5_riiiiirii a_this a_this_text x_this_length x_this_at x_this_behind x_this_sort x_this_allowed a_this_plan x_this_fault x_this_place), (wo_4_iiiiiiirrrirrrrrir a_this_plan x_this_plan_cycle x_this_plan_green x_this_plan_rule x_this_plan_least x_this_plan_away x_this_plan_statements x_this_plan_kinds a_this_plan_calm a_this_plan_pace a_this_plan_trusts x_this_plan_walkers a_this_plan_kindOf a_this_plan_comesAt a_this_plan_comers a_this_plan_names a_this_plan_code x_this_plan_size a_this_plan_spans), (wi_0_108_0 a_this_plan_names cy g_this_plan_names), (wi_0_1600_0 a_this_text cy g_this_text)] H → va_D A [(wo_5_riiiiirii a_this a_this_text x_this_length x_this_at x_this_behind x_this_sort x_this_allowed a_this_plan x_this_fault x_this_place), (wo_4_iiiiiiirrrirrrrrir a_this_plan x_this_plan_cycle x_this_plan_green x_this_plan_rule x_this_plan_least x_this_plan_away x_this_plan_statements x_this_plan_kinds a_this_plan_calm a_this_plan_pace a_this_plan_trusts x_this_plan_walkers a_this_plan_kindOf a_this_plan_comesAt a_this_plan_comers a_this_plan_names a_this_plan_code x_this_plan_size a_this_plan_spans), (wi_0_108_0 a_this_plan_names cy g_this_plan_names), (wi_0_1600_0 a_this_text cy g_this_text)] → va_S A s.heap H locs → lv_has ls 5 [(0, .ref a_this), (1, .int 6), (2, .int p1), (3, .int J2_l3), (4, .int J49_l4)] → W p l e { frames := 1, cells := 0, slots := 0, locals := 21 } s m args below meth c H locs 0 0 Q (F0 m 49 ls []) := by
          as_aux_lemma =>
            intro J49_l4 H locs ls hK49_J2_l3 hJ49_l4 hq hP hD hS hl
            unfold F_X5_slotOf_a0_6_i1_0_12_49 at hq
            refine lv_iload hx hb dX5_slotOf_49 (lv_at hl 4 rfl) ?_
            refine lv_bipush (v := 6) hx hb dX5_slotOf_51 rfl ?_
            refine lv_icmp_ne (tgt := 58) hx hb dX5_slotOf_53 rfl (fun c1 => ?_) (fun c1 => ?_)
            · replace hq := lf_neg hq (lf_ne (lf_rf J49_l4) (lf_lc 6 (6 : Int) rfl) c1)
              have h2 : ib J49_l4 0 5 := ib_w 0 5 (ib_ne_hi 6 hJ49_l4 rfl c1) rfl
              obtain ⟨z3, ez3⟩ : ∃ y : Int32, y = J2_l3 + 1 := ⟨_, rfl⟩
              refine lv_iinc (v := z3) (lv' := [(3, .int z3), (0, .ref a_this), (1, .int 6), (2, .int p1), (4, .int J49_l4)]) hx hb dX5_slotOf_58 hl (k := 3) rfl (by rw [ez3]; rfl) (Nat.le_of_ble_eq_true rfl) rfl (fun ls hl => ?_)
              have h4 := ib_add hK49_J2_l3 (ib_c 1 1 1 rfl) rfl
              rw [← ez3] at h4
              have h5 : ib z3 7 18 := ib_w 7 18 h4.1 rfl
              have Ez3 := lf_add h4.2 (lf_rf J2_l3) (lf_lc 1 (1 : Int) rfl)
              refine lv_goto (tgt := 2) hx hb dX5_slotOf_61 rfl ?_
              exact ih2 z3 H locs ls (ib_w 6 18 h5 rfl) (by rw [← hK2]; rw [lf_u Ez3]; exact hq) (by have := h4.2; have : (1 : Int32).toInt = 1 := rfl; omega) hP hD hS (lv_sub hl [1, 2, 3, 0] rfl)
            · replace hq := lf_pos hq (lf_eq (lf_rf J49_l4) (lf_lc 6 (6 : Int) rfl) c1)
              have h6 := ib_eq hJ49_l4 (ib_c 6 6 6 rfl) c1
              have h7 : ib J49_l4 6 6 := ib_w 6 6 h6.1 rfl
              refine lv_iload_n hx hb dX5_slotOf_56 rfl (lv_at hl 3 rfl) ?_
              subst hQ; exact k_iret hx hb hr hlk rfl () hS ⟨ib_w (-1) 17 hK49_J2_l3 rfl, (hO.symm.trans (by exact hq))⟩ hP hD (Nat.le_of_ble_eq_true rfl) (Nat.le_of_ble_eq_true rfl) dX5_slotOf_57
        have jn12 : ∀ (n : Nat) (J12_l4 : Int32) (H : Heap) (locs : List Loc) (ls : Array Slot), ib J2_l3 6 17 → ib J12_l4 0 6 → (O = F_X5_slotOf_a0_6_i1_0_12_12 (lf_A g_this_text) (Int32.toInt x_this_at) (Int32.toInt x_this_behind) (lf_A g_this_plan_names) (Int32.toInt J2_l3) K2 n (Int32.toInt J12_l4)) → 7 ≤ J12_l4.toInt + (n : Int) → va_P (dC, dI) vwCl [(wo_5_riiiiirii a_this a_this_text x_this_length x_this_at x_this_behind x_this_sort x_this_allowed a_this_plan x_this_fault x_this_place), (wo_4_iiiiiiirrrirrrrrir a_this_plan x_this_plan_cycle x_this_plan_green x_this_plan_rule x_this_plan_least x_this_plan_away x_this_plan_statements x_this_plan_kinds a_this_plan_calm a_this_plan_pace a_this_plan_trusts x_this_plan_walkers a_this_plan_kindOf a_this_plan_comesAt a_this_plan_comers a_this_plan_names a_this_plan_code x_this_plan_size a_this_plan_spans), (wi_0_108_0 a_this_plan_names cy g_this_plan_names), (wi_0_1600_0 a_this_text cy g_this_text)] H → va_D A [(wo_5_riiiiirii a_this a_this_text x_this_length x_this_at x_this_behind x_this_sort x_this_allowed a_this_plan x_this_fault x_this_place), (wo_4_iiiiiiirrrirrrrrir a_this_plan x_this_plan_cycle x_this_plan_green x_this_plan_rule x_this_plan_least x_this_plan_away x_this_plan_statements x_this_plan_kinds a_this_plan_calm a_this_plan_pace a_this_plan_trusts x_this_plan_walkers a_this_plan_kindOf a_this_plan_comesAt a_this_plan_comers a_this_plan_names a_this_plan_code x_this_plan_size a_this_plan_spans), (wi_0_108_0 a_this_plan_names cy g_this_plan_names), (wi_0_1600_0 a_this_text cy g_this_text)] → va_S A s.heap H locs → lv_has ls 5 [(0, .ref a_this), (1, .int 6), (2, .int p1), (3, .int J2_l3), (4, .int J12_l4)] → W p l e { frames := 1, cells := 0, slots := 0, locals := 21 } s m args below meth c H locs 0 0 Q (F0 m 12 ls []) := by
          as_aux_lemma =>
            intro n
            induction n with
            | zero =>
              intro J12_l4 H locs ls hK12_J2_l3 hJ12_l4 hq hm
              exact absurd hm (by have := hJ12_l4; unfold ib at this; omega)
            | succ n ih =>
              intro J12_l4 H locs ls hK12_J2_l3 hJ12_l4 hq hm12 hP hD hS hl
              have ih12 := ih
              obtain ⟨K12, hK12⟩ : ∃ K, K = F_X5_slotOf_a0_6_i1_0_12_12 (lf_A g_this_text) (Int32.toInt x_this_at) (Int32.toInt x_this_behind) (lf_A g_this_plan_names) (Int32.toInt J2_l3) K2 n := ⟨_, rfl⟩
              have hq : O = F_X5_slotOf_a0_6_i1_0_12_12b (lf_A g_this_text) (Int32.toInt x_this_at) (Int32.toInt x_this_behind) (lf_A g_this_plan_names) (Int32.toInt J2_l3) K2 K12 (Int32.toInt J12_l4) := by rw [hK12]; exact hq
              unfold F_X5_slotOf_a0_6_i1_0_12_12b at hq
              refine lv_iload hx hb dX5_slotOf_12 (lv_at hl 4 rfl) ?_
              refine lv_bipush (v := 6) hx hb dX5_slotOf_14 rfl ?_
              refine lv_icmp_ge (tgt := 49) hx hb dX5_slotOf_16 rfl (fun c8 => ?_) (fun c8 => ?_)
              · replace hq := lf_pos hq (lf_le (lf_lc 6 (6 : Int) rfl) (lf_rf J12_l4) c8)
                have h9 := ib_le (ib_c 6 6 6 rfl) hJ12_l4 c8
                have h10 : ib J12_l4 6 6 := ib_w 6 6 h9.2 rfl
                exact jn49 J12_l4 H locs ls (ib_w 6 17 hK12_J2_l3 rfl) (ib_w 0 6 h10 rfl) (by exact hq) hP hD hS (lv_sub hl [0, 1, 2, 3, 4] rfl)
              · as_aux_lemma =>
                  replace hq := lf_neg hq (lf_nle (lf_lc 6 (6 : Int) rfl) (lf_rf J12_l4) c8)
                  have h11 := ib_nle (ib_c 6 6 6 rfl) hJ12_l4 c8
                  have h12 : ib J12_l4 0 5 := ib_w 0 5 h11.2 rfl
                  refine lv_aload_n hx hb dX5_slotOf_19 rfl (lv_at hl 0 rfl) ?_
                  refine k_get C0 fg_X5_37 hP 0 rfl rfl dX5_slotOf_20 ?_
                  refine k_get C0 fg_X5_181 hP 1 rfl rfl dX5_slotOf_23 ?_
                  refine lv_iload_n hx hb dX5_slotOf_26 rfl (lv_at hl 3 rfl) ?_
                  refine lv_bipush (v := 6) hx hb dX5_slotOf_27 rfl ?_
                  refine lv_imul hx hb dX5_slotOf_29 ?_
                  refine lv_topi (fun z13 ez13 => ?_)
                  have h14 := ib_mul hK12_J2_l3 (ib_c 6 6 6 rfl) rfl
                  rw [← ez13] at h14
                  have h15 : ib z13 0 102 := ib_w 0 102 h14.1 rfl
                  have Ez13 := lf_mul h14.2 (lf_rf J2_l3) (lf_lc 6 (6 : Int) rfl)
                  refine lv_iload hx hb dX5_slotOf_30 (lv_at hl 4 rfl) ?_
                  refine lv_iadd hx hb dX5_slotOf_32 ?_
                  refine lv_topi (fun z16 ez16 => ?_)
                  have h17 := ib_add h15 h12 rfl
                  rw [← ez16] at h17
                  have h18 : ib z16 0 107 := ib_w 0 107 h17.1 rfl
                  have Ez16 := lf_add h17.2 Ez13 (lf_rf J12_l4)
                  refine va_iald hx hb C0.2.2.2.2.2.1 hP 2 0 rfl rfl (ib_in 108 h18 rfl) dX5_slotOf_33 ?_
                  refine lv_topi (fun z19 ez19 => ?_)
                  have Ez19 := lf_ld ez19 (lf_ra g_this_plan_names) Ez16
                  refine lv_aload_n hx hb dX5_slotOf_34 rfl (lv_at hl 0 rfl) ?_
                  refine lv_iload hx hb dX5_slotOf_35 (lv_at hl 4 rfl) ?_
                  refine k_jim hP hD hS hA [0, 3] [false, true, true] rfl rfl rfl 0 0 (Nat.le_of_ble_eq_true rfl) (Nat.le_of_ble_eq_true rfl) (fun hPc hDc => k_runV (As := [.int J12_l4]) (rest := [.int z19]) C0 hZ hS hA (s_X5_nameLetter l dC dI cy sq a_this a_this_text g_this_text x_this_length x_this_at x_this_behind x_this_sort x_this_allowed a_this_plan x_this_fault x_this_place J12_l4 hg_this_text (ib_w 0 1600 hx_this_at rfl) (ib_w 0 1600 hx_this_behind rfl) (ib_w 0 5 h12 rfl)) mV_X5_184 hPc hDc rfl rfl rfl hl rfl rfl (Nat.le_of_ble_eq_true rfl) ⟨(Nat.le_of_ble_eq_true rfl), (Nat.le_of_ble_eq_true rfl)⟩ ⟨(Nat.le_of_ble_eq_true rfl), (Nat.le_of_ble_eq_true rfl)⟩ dX5_slotOf_37) (fun r20 u21 H locs hw hP hD hS => ?_)
                  try dsimp only at hP hD hw
                  replace hP : va_P (dC, dI) vwCl [(wo_4_iiiiiiirrrirrrrrir a_this_plan x_this_plan_cycle x_this_plan_green x_this_plan_rule x_this_plan_least x_this_plan_away x_this_plan_statements x_this_plan_kinds a_this_plan_calm a_this_plan_pace a_this_plan_trusts x_this_plan_walkers a_this_plan_kindOf a_this_plan_comesAt a_this_plan_comers a_this_plan_names a_this_plan_code x_this_plan_size a_this_plan_spans), (wi_0_108_0 a_this_plan_names cy g_this_plan_names), (wo_5_riiiiirii a_this a_this_text x_this_length x_this_at x_this_behind x_this_sort x_this_allowed a_this_plan x_this_fault x_this_place), (wi_0_1600_0 a_this_text cy g_this_text)] H := hP
                  replace hD := k_D hP hD
                  obtain ⟨h22, h23⟩ := hw
                  replace hq := lf_b1 hq h23
                  refine lv_icmp_ne (tgt := 49) hx hb dX5_slotOf_40 rfl (fun c24 => ?_) (fun c24 => ?_)
                  · replace hq := lf_neg hq (lf_ne Ez19 (lf_rf r20) c24)
                    exact jn49 J12_l4 H locs ls (ib_w 6 17 hK12_J2_l3 rfl) (ib_w 0 6 h12 rfl) (by exact hq) (hP.sub [2, 0, 1, 3] rfl) (hD.sub [2, 0, 1, 3] rfl rfl) hS (lv_sub hl [0, 1, 2, 3, 4] rfl)
                  · replace hq := lf_pos hq (lf_eq Ez19 (lf_rf r20) c24)
                    have h25 := ib_eq (ib_any z19) h22 c24
                    have h26 : ib z19 (-96) 159 := ib_w (-96) 159 h25.1 rfl
                    obtain ⟨z27, ez27⟩ : ∃ y : Int32, y = J12_l4 + 1 := ⟨_, rfl⟩
                    refine lv_iinc (v := z27) (lv' := [(4, .int z27), (0, .ref a_this), (1, .int 6), (2, .int p1), (3, .int J2_l3)]) hx hb dX5_slotOf_43 hl (k := 4) rfl (by rw [ez27]; rfl) (Nat.le_of_ble_eq_true rfl) rfl (fun ls hl => ?_)
                    have h28 := ib_add h12 (ib_c 1 1 1 rfl) rfl
                    rw [← ez27] at h28
                    have h29 : ib z27 1 6 := ib_w 1 6 h28.1 rfl
                    have Ez27 := lf_add h28.2 (lf_rf J12_l4) (lf_lc 1 (1 : Int) rfl)
                    refine lv_goto (tgt := 12) hx hb dX5_slotOf_46 rfl ?_
                    exact ih12 z27 H locs ls (ib_w 6 17 hK12_J2_l3 rfl) (ib_w 0 6 h29 rfl) (by rw [← hK12]; rw [lf_u Ez27]; exact hq) (by have := h28.2; have : (1 : Int32).toInt = 1 := rfl; omega) (hP.sub [2, 0, 1, 3] rfl) (hD.sub [2, 0, 1, 3] rfl rfl) hS (lv_sub hl [1, 2, 3, 4, 0] rfl)
        refine lv_iload_n hx hb dX5_slotOf_2 rfl (lv_at hl 3 rfl) ?_
        refine lv_iload_n hx hb dX5_slotOf_3 rfl (lv_at hl 1 rfl) ?_
        refine lv_iload_n hx hb dX5_slotOf_4 rfl (lv_at hl 2 rfl) ?_
        refine lv_iadd hx hb dX5_slotOf_5 ?_
        refine lv_topi (fun z30 ez30 => ?_)
        have h31 := ib_add (ib_c 6 6 6 rfl) hp1 rfl
        rw [← ez30] at h31
        have h32 : ib z30 6 18 := ib_w 6 18 h31.1 rfl
        have Ez30 := lf_add h31.2 (lf_lc 6 (6 : Int) rfl) (lf_rf p1)
        refine lv_icmp_ge (tgt := 64) hx hb dX5_slotOf_6 rfl (fun c33 => ?_) (fun c33 => ?_)
        · replace hq := lf_pos hq (lf_le Ez30 (lf_rf J2_l3) c33)
          have h34 := ib_le h32 hJ2_l3 c33
          refine lv_iconst (v := (-1)) hx hb dX5_slotOf_64 rfl ?_
          subst hQ; exact k_iret hx hb hr hlk rfl () hS ⟨ib_w (-1) 17 (ib_c (-1) (-1) (-1) rfl) rfl, (hO.symm.trans (by try simp only [show ((-1) : Int32).toInt = (-1 : Int) from rfl]; exact hq))⟩ hP hD (Nat.le_of_ble_eq_true rfl) (Nat.le_of_ble_eq_true rfl) dX5_slotOf_65
        · replace hq := lf_neg hq (lf_nle Ez30 (lf_rf J2_l3) c33)
          have h35 := ib_nle h32 hJ2_l3 c33
          have h36 : ib z30 7 18 := ib_w 7 18 h35.1 rfl
          have h37 : ib J2_l3 6 17 := ib_w 6 17 h35.2 rfl
          refine lv_iconst (v := 0) hx hb dX5_slotOf_9 rfl ?_
          refine lv_istore (lv' := [(4, .int 0), (0, .ref a_this), (1, .int 6), (2, .int p1), (3, .int J2_l3)]) hx hb dX5_slotOf_10 hl (Nat.le_of_ble_eq_true rfl) rfl (fun ls hl => ?_)
          exact jn12 8 0 H locs ls (ib_w 6 17 h37 rfl) (ib_w 0 6 (ib_c 0 0 0 rfl) rfl) (by try simp only [show (0 : Int32).toInt = (0 : Int) from rfl]; exact hq) (by have := (ib_c 0 0 0 rfl); unfold ib at this; omega) hP hD hS (lv_sub hl [1, 2, 3, 4, 0] rfl)
  refine lv_iload_n hx hb dX5_slotOf_0 rfl (lv_at hl 1 rfl) ?_
  refine lv_istore_n (lv' := [(3, .int 6), (0, .ref a_this), (1, .int 6), (2, .int p1)]) hx hb dX5_slotOf_1 rfl hl (Nat.le_of_ble_eq_true rfl) rfl (fun ls hl => ?_)
  exact jn2 14 6 H locs ls (ib_w 6 18 (ib_c 6 6 6 rfl) rfl) (by try simp only [show (6 : Int32).toInt = (6 : Int) from rfl]; exact hq) (by have := (ib_c 6 6 6 rfl); unfold ib at this; omega) hP hD hS (lv_sub hl [1, 2, 3, 0] rfl)
set_option maxHeartbeats 4000000 in
set_option maxRecDepth 100000 in
theorem s_X5_wrongInName (l : Launch) (dC : Nat → ClassId) (dI : Nat → Nat → Nat) (cy : Nat → ClassId) (sq : Nat → Nat) (a_this : Nat) (a_this_text : Nat) (x_this_length : Int32) (x_this_at : Int32) (x_this_behind : Int32) (x_this_sort : Int32) (x_this_allowed : Int32) (a_this_plan : Nat) (x_this_fault : Int32) (x_this_place : Int32) (hx_this_at : ib x_this_at 0 1600) (hx_this_behind : ib x_this_behind 0 1600) (hx_this_sort : ib x_this_sort 0 4) (hc0_this : ¬ x_this_sort = 0 → ib x_this_at 0 1599) : k_Met l yX5_wrongInName cX5_wrongInName 1 (some .int) { frames := 0, cells := 0, slots := 0, locals := 0 } dC dI cy sq [.ref a_this] [(wo_5_riiiiirii a_this a_this_text x_this_length x_this_at x_this_behind x_this_sort x_this_allowed a_this_plan x_this_fault x_this_place)] (k_Qi dC dI (fun (r : Int32) (_ : Unit) => ib r 0 1605 ∧ (F_X5_wrongInName (Int32.toInt x_this_at) (Int32.toInt x_this_behind) (Int32.toInt x_this_sort) = ((Int32.toInt r)))) (fun _ : Unit => [(wo_5_riiiiirii a_this a_this_text x_this_length x_this_at x_this_behind x_this_sort x_this_allowed a_this_plan x_this_fault x_this_place)])) := by
  refine k_ofW2 (by decide +kernel) (Nat.le_of_ble_eq_true rfl) ?_
  intro p e s m below meth c A ls H locs args Q hQ C0 hZ hr hlk hin hP hD hA hS hl
  have C0 : k_cx p s m args c cX5_wrongInName 1 RX5 dC dI cy sq := C0
  have hx := C0.1
  have hb := C0.2.1
  have hl : lv_has ls 1 [(0, .ref a_this)] := hl
  obtain ⟨O, hO⟩ : ∃ o, o = F_X5_wrongInName (Int32.toInt x_this_at) (Int32.toInt x_this_behind) (Int32.toInt x_this_sort) := ⟨_, rfl⟩
  have hq := hO
  unfold F_X5_wrongInName at hq
  have jn32 : ∀  (H : Heap) (locs : List Loc) (ls : Array Slot), (O = F_X5_wrongInName_32 (Int32.toInt x_this_at) ) → va_P (dC, dI) vwCl [(wo_5_riiiiirii a_this a_this_text x_this_length x_this_at x_this_behind x_this_sort x_this_allowed a_this_plan x_this_fault x_this_place)] H → va_D A [(wo_5_riiiiirii a_this a_this_text x_this_length x_this_at x_this_behind x_this_sort x_this_allowed a_this_plan x_this_fault x_this_place)] → va_S A s.heap H locs → lv_has ls 1 [(0, .ref a_this)] → W p l e { frames := 0, cells := 0, slots := 0, locals := 0 } s m args below meth c H locs 0 0 Q (F0 m 32 ls []) := by
    intro H locs ls hq hP hD hS hl
    unfold F_X5_wrongInName_32 at hq
    refine lv_aload_n hx hb dX5_wrongInName_32 rfl (lv_at hl 0 rfl) ?_
    refine k_get C0 fg_X5_15 hP 0 rfl rfl dX5_wrongInName_33 ?_
    subst hQ; exact k_iret hx hb hr hlk rfl () hS ⟨ib_w 0 1605 hx_this_at rfl, (hO.symm.trans (by exact hq))⟩ hP hD (Nat.le_of_ble_eq_true rfl) (Nat.le_of_ble_eq_true rfl) dX5_wrongInName_36
  refine lv_aload_n hx hb dX5_wrongInName_0 rfl (lv_at hl 0 rfl) ?_
  refine k_get C0 fg_X5_21 hP 0 rfl rfl dX5_wrongInName_1 ?_
  refine lv_iconst (v := 1) hx hb dX5_wrongInName_4 rfl ?_
  refine lv_icmp_ne (tgt := 32) hx hb dX5_wrongInName_5 rfl (fun c1 => ?_) (fun c1 => ?_)
  · replace hq := lf_neg hq (lf_ne (lf_rf x_this_sort) (lf_lc 1 (1 : Int) rfl) c1)
    exact jn32  H locs ls (by exact hq) hP hD hS (lv_sub hl [0] rfl)
  · replace hq := lf_pos hq (lf_eq (lf_rf x_this_sort) (lf_lc 1 (1 : Int) rfl) c1)
    have h2 := ib_eq hx_this_sort (ib_c 1 1 1 rfl) c1
    have h3 : ib x_this_sort 1 1 := ib_w 1 1 h2.1 rfl
    have h4 : ib x_this_at 0 1599 := ib_w 0 1599 (ib_two hx_this_at (hc0_this (ib_nz h3 rfl))) rfl
    refine lv_aload_n hx hb dX5_wrongInName_8 rfl (lv_at hl 0 rfl) ?_
    refine k_get C0 fg_X5_18 hP 0 rfl rfl dX5_wrongInName_9 ?_
    refine lv_aload_n hx hb dX5_wrongInName_12 rfl (lv_at hl 0 rfl) ?_
    refine k_get C0 fg_X5_15 hP 0 rfl rfl dX5_wrongInName_13 ?_
    refine lv_isub hx hb dX5_wrongInName_16 ?_
    refine lv_topi (fun z5 ez5 => ?_)
    have h6 := ib_sub hx_this_behind h4 rfl
    rw [← ez5] at h6
    have h7 : ib z5 (-1599) 1600 := ib_w (-1599) 1600 h6.1 rfl
    have Ez5 := lf_sub h6.2 (lf_rf x_this_behind) (lf_rf x_this_at)
    refine lv_bipush (v := 6) hx hb dX5_wrongInName_17 rfl ?_
    refine lv_icmp_le (tgt := 32) hx hb dX5_wrongInName_19 rfl (fun c8 => ?_) (fun c8 => ?_)
    · replace hq := lf_pos hq (lf_le Ez5 (lf_lc 6 (6 : Int) rfl) c8)
      have h9 := ib_le h7 (ib_c 6 6 6 rfl) c8
      have h10 : ib z5 (-1599) 6 := ib_w (-1599) 6 h9.1 rfl
      exact jn32  H locs ls (by exact hq) hP hD hS (lv_sub hl [0] rfl)
    · replace hq := lf_neg hq (lf_nle Ez5 (lf_lc 6 (6 : Int) rfl) c8)
      have h11 := ib_nle h7 (ib_c 6 6 6 rfl) c8
      have h12 : ib z5 7 1600 := ib_w 7 1600 h11.1 rfl
      refine lv_aload_n hx hb dX5_wrongInName_22 rfl (lv_at hl 0 rfl) ?_
      refine k_get C0 fg_X5_15 hP 0 rfl rfl dX5_wrongInName_23 ?_
      refine lv_bipush (v := 6) hx hb dX5_wrongInName_26 rfl ?_
      refine lv_iadd hx hb dX5_wrongInName_28 ?_
      refine lv_topi (fun z13 ez13 => ?_)
      have h14 := ib_add h4 (ib_c 6 6 6 rfl) rfl
      rw [← ez13] at h14
      have h15 : ib z13 6 1605 := ib_w 6 1605 h14.1 rfl
      have Ez13 := lf_add h14.2 (lf_rf x_this_at) (lf_lc 6 (6 : Int) rfl)
      refine lv_goto (tgt := 36) hx hb dX5_wrongInName_29 rfl ?_
      subst hQ; exact k_iret hx hb hr hlk rfl () hS ⟨ib_w 0 1605 h15 rfl, (hO.symm.trans (by rw [lf_u Ez13]; exact hq))⟩ hP hD (Nat.le_of_ble_eq_true rfl) (Nat.le_of_ble_eq_true rfl) dX5_wrongInName_36
set_option maxHeartbeats 4000000 in
set_option maxRecDepth 100000 in
theorem s_X5_newName (l : Launch) (dC : Nat → ClassId) (dI : Nat → Nat → Nat) (cy : Nat → ClassId) (sq : Nat → Nat) (a_this : Nat) (a_this_text : Nat) (g_this_text : Nat → Int32) (x_this_length : Int32) (x_this_at : Int32) (x_this_behind : Int32) (x_this_sort : Int32) (x_this_allowed : Int32) (a_this_plan : Nat) (x_this_plan_cycle : Int32) (x_this_plan_green : Int32) (x_this_plan_rule : Int32) (x_this_plan_least : Int32) (x_this_plan_away : Int32) (x_this_plan_statements : Int32) (x_this_plan_kinds : Int32) (a_this_plan_calm : Nat) (a_this_plan_pace : Nat) (a_this_plan_trusts : Nat) (x_this_plan_walkers : Int32) (a_this_plan_kindOf : Nat) (a_this_plan_comesAt : Nat) (a_this_plan_comers : Nat) (a_this_plan_names : Nat) (g_this_plan_names : Nat → Int32) (a_this_plan_code : Nat) (x_this_plan_size : Int32) (a_this_plan_spans : Nat) (x_this_fault : Int32) (x_this_place : Int32) (p0 : Int32) (hg_this_text : ia g_this_text 1600 0 255) (hx_this_length : ib x_this_length 0 1600) (hx_this_at : ib x_this_at 0 1600) (hx_this_behind : ib x_this_behind 0 1600) (hx_this_sort : ib x_this_sort 0 4) (hx_this_plan_kinds : ib x_this_plan_kinds 0 6) (hx_this_plan_walkers : ib x_this_plan_walkers 0 12) (hc0_this : ¬ x_this_sort = 0 → ib x_this_at 0 1599) (hp0 : ib p0 0 17) : k_Met l yX5_newName cX5_newName 3 none { frames := 6, cells := 0, slots := 0, locals := 186 } dC dI cy sq [.ref a_this, .int p0] [(wo_5_riiiiirii a_this a_this_text x_this_length x_this_at x_this_behind x_this_sort x_this_allowed a_this_plan x_this_fault x_this_place), (wi_0_1600_0 a_this_text cy g_this_text), (wo_4_iiiiiiirrrirrrrrir a_this_plan x_this_plan_cycle x_this_plan_green x_this_plan_rule x_this_plan_least x_this_plan_away x_this_plan_statements x_this_plan_kinds a_this_plan_calm a_this_plan_pace a_this_plan_trusts x_this_plan_walkers a_this_plan_kindOf a_this_plan_comesAt a_this_plan_comers a_this_plan_names a_this_plan_code x_this_plan_size a_this_plan_spans), (wi_0_108_0 a_this_plan_names cy g_this_plan_names)] (k_Qv dC dI (fun (u : Int32 × Int32 × Int32 × Int32 × Int32 × (Nat → Int32)) => match u with | (n0, n1, n2, n3, n4, n5) => ib n0 0 1600 ∧ ib n1 0 1600 ∧ ib n2 0 4 ∧ (¬ n2 = 0 → ib n0 0 1599) ∧ (F_X5_newName (lf_A g_this_text) (Int32.toInt x_this_length) (Int32.toInt x_this_at) (Int32.toInt x_this_behind) (Int32.toInt x_this_sort) (Int32.toInt x_this_plan_kinds) (Int32.toInt x_this_plan_walkers) (lf_A g_this_plan_names) (Int32.toInt x_this_fault) (Int32.toInt x_this_place) (Int32.toInt p0) = ((Int32.toInt n0), (Int32.toInt n1), (Int32.toInt n2), (Int32.toInt n3), (Int32.toInt n4), (lf_A n5)))) (fun u : Int32 × Int32 × Int32 × Int32 × Int32 × (Nat → Int32) => match u with | (n0, n1, n2, n3, n4, n5) => [(wo_5_riiiiirii a_this a_this_text x_this_length n0 n1 n2 x_this_allowed a_this_plan n3 n4), (wi_0_1600_0 a_this_text cy g_this_text), (wo_4_iiiiiiirrrirrrrrir a_this_plan x_this_plan_cycle x_this_plan_green x_this_plan_rule x_this_plan_least x_this_plan_away x_this_plan_statements x_this_plan_kinds a_this_plan_calm a_this_plan_pace a_this_plan_trusts x_this_plan_walkers a_this_plan_kindOf a_this_plan_comesAt a_this_plan_comers a_this_plan_names a_this_plan_code x_this_plan_size a_this_plan_spans), (wi_0_108_0 a_this_plan_names cy n5)])) := by
  refine k_ofW2 (by decide +kernel) (Nat.le_of_ble_eq_true rfl) ?_
  intro p e s m below meth c A ls H locs args Q hQ C0 hZ hr hlk hin hP hD hA hS hl
  have C0 : k_cx p s m args c cX5_newName 3 RX5 dC dI cy sq := C0
  have hx := C0.1
  have hb := C0.2.1
  have hl : lv_has ls 3 [(0, .ref a_this), (1, .int p0)] := hl
  obtain ⟨O, hO⟩ : ∃ o, o = F_X5_newName (lf_A g_this_text) (Int32.toInt x_this_length) (Int32.toInt x_this_at) (Int32.toInt x_this_behind) (Int32.toInt x_this_sort) (Int32.toInt x_this_plan_kinds) (Int32.toInt x_this_plan_walkers) (lf_A g_this_plan_names) (Int32.toInt x_this_fault) (Int32.toInt x_this_place) (Int32.toInt p0) := ⟨_, rfl⟩
  have hq := hO
  unfold F_X5_newName at hq
  have jn66 : ∀ (n : Nat) (J66_l2 : Int32) (J66_a3 : Nat → Int32) (H : Heap) (locs : List Loc) (ls : Array Slot), ib x_this_at 0 1599 → ib x_this_sort 1 1 → ib J66_l2 0 6 → (O = F_X5_newName_66 (lf_A g_this_text) (Int32.toInt x_this_length) (Int32.toInt x_this_at) (Int32.toInt x_this_behind) (Int32.toInt x_this_fault) (Int32.toInt x_this_place) (Int32.toInt p0) n (Int32.toInt J66_l2) (lf_A J66_a3)) → 7 ≤ J66_l2.toInt + (n : Int) → va_P (dC, dI) vwCl [(wo_5_riiiiirii a_this a_this_text x_this_length x_this_at x_this_behind x_this_sort x_this_allowed a_this_plan x_this_fault x_this_place), (wi_0_1600_0 a_this_text cy g_this_text), (wo_4_iiiiiiirrrirrrrrir a_this_plan x_this_plan_cycle x_this_plan_green x_this_plan_rule x_this_plan_least x_this_plan_away x_this_plan_statements x_this_plan_kinds a_this_plan_calm a_this_plan_pace a_this_plan_trusts x_this_plan_walkers a_this_plan_kindOf a_this_plan_comesAt a_this_plan_comers a_this_plan_names a_this_plan_code x_this_plan_size a_this_plan_spans), (wi_0_108_0 a_this_plan_names cy J66_a3)] H → va_D A [(wo_5_riiiiirii a_this a_this_text x_this_length x_this_at x_this_behind x_this_sort x_this_allowed a_this_plan x_this_fault x_this_place), (wi_0_1600_0 a_this_text cy g_this_text), (wo_4_iiiiiiirrrirrrrrir a_this_plan x_this_plan_cycle x_this_plan_green x_this_plan_rule x_this_plan_least x_this_plan_away x_this_plan_statements x_this_plan_kinds a_this_plan_calm a_this_plan_pace a_this_plan_trusts x_this_plan_walkers a_this_plan_kindOf a_this_plan_comesAt a_this_plan_comers a_this_plan_names a_this_plan_code x_this_plan_size a_this_plan_spans), (wi_0_108_0 a_this_plan_names cy J66_a3)] → va_S A s.heap H locs → lv_has ls 3 [(0, .ref a_this), (1, .int p0), (2, .int J66_l2)] → W p l e { frames := 6, cells := 0, slots := 0, locals := 186 } s m args below meth c H locs 0 0 Q (F0 m 66 ls []) := by
    as_aux_lemma =>
      intro n
      induction n with
      | zero =>
        intro J66_l2 J66_a3 H locs ls hK66_x_this_at hK66_x_this_sort hJ66_l2 hq hm
        exact absurd hm (by have := hJ66_l2; unfold ib at this; omega)
      | succ n ih =>
        intro J66_l2 J66_a3 H locs ls hK66_x_this_at hK66_x_this_sort hJ66_l2 hq hm66 hP hD hS hl
        have ih66 := ih
        obtain ⟨K66, hK66⟩ : ∃ K, K = F_X5_newName_66 (lf_A g_this_text) (Int32.toInt x_this_length) (Int32.toInt x_this_at) (Int32.toInt x_this_behind) (Int32.toInt x_this_fault) (Int32.toInt x_this_place) (Int32.toInt p0) n := ⟨_, rfl⟩
        have hq : O = F_X5_newName_66b (lf_A g_this_text) (Int32.toInt x_this_length) (Int32.toInt x_this_at) (Int32.toInt x_this_behind) (Int32.toInt x_this_fault) (Int32.toInt x_this_place) (Int32.toInt p0) K66 (Int32.toInt J66_l2) (lf_A J66_a3) := by rw [hK66]; exact hq
        unfold F_X5_newName_66b at hq
        refine lv_iload_n hx hb dX5_newName_66 rfl (lv_at hl 2 rfl) ?_
        refine lv_bipush (v := 6) hx hb dX5_newName_67 rfl ?_
        refine lv_icmp_ge (tgt := 97) hx hb dX5_newName_69 rfl (fun c1 => ?_) (fun c1 => ?_)
        · replace hq := lf_pos hq (lf_le (lf_lc 6 (6 : Int) rfl) (lf_rf J66_l2) c1)
          have h2 := ib_le (ib_c 6 6 6 rfl) hJ66_l2 c1
          have h3 : ib J66_l2 6 6 := ib_w 6 6 h2.2 rfl
          refine lv_aload_n hx hb dX5_newName_97 rfl (lv_at hl 0 rfl) ?_
          refine lv_aload_n hx hb dX5_newName_98 rfl (lv_at hl 0 rfl) ?_
          refine k_get C0 fg_X5_18 hP 0 rfl rfl dX5_newName_99 ?_
          refine k_jvm hP hD hS hA [0, 1] [false, false, true, true] rfl rfl rfl 0 0 (Nat.le_of_ble_eq_true rfl) (Nat.le_of_ble_eq_true rfl) (fun hPc hDc => k_runV (As := [.int x_this_behind]) (rest := []) C0 hZ hS hA (s_X5_moveTo l dC dI cy sq a_this a_this_text g_this_text x_this_length x_this_at x_this_behind x_this_sort x_this_allowed a_this_plan x_this_fault x_this_place x_this_behind hg_this_text (ib_w 0 1600 hx_this_length rfl) (ib_w 0 1600 hx_this_behind rfl)) mV_X5_86 hPc hDc rfl rfl rfl hl rfl rfl (Nat.le_of_ble_eq_true rfl) ⟨(Nat.le_of_ble_eq_true rfl), (Nat.le_of_ble_eq_true rfl)⟩ ⟨(Nat.le_of_ble_eq_true rfl), (Nat.le_of_ble_eq_true rfl)⟩ dX5_newName_102) (fun u5 H locs hw hP hD hS => ?_)
          obtain ⟨v6, v7, v8⟩ := u5
          try dsimp only at hP hD hw
          replace hP : va_P (dC, dI) vwCl [(wo_4_iiiiiiirrrirrrrrir a_this_plan x_this_plan_cycle x_this_plan_green x_this_plan_rule x_this_plan_least x_this_plan_away x_this_plan_statements x_this_plan_kinds a_this_plan_calm a_this_plan_pace a_this_plan_trusts x_this_plan_walkers a_this_plan_kindOf a_this_plan_comesAt a_this_plan_comers a_this_plan_names a_this_plan_code x_this_plan_size a_this_plan_spans), (wi_0_108_0 a_this_plan_names cy J66_a3), (wo_5_riiiiirii a_this a_this_text x_this_length v6 v7 v8 x_this_allowed a_this_plan x_this_fault x_this_place), (wi_0_1600_0 a_this_text cy g_this_text)] H := hP
          replace hD := k_D hP hD
          obtain ⟨h9, h10, h11, h12, h13⟩ := hw
          replace hq := lf_p1 hq h13
          replace hq := lf_p1 hq rfl
          subst hQ; exact k_vret hx hb hr hlk ((v6, v7, v8, x_this_fault, x_this_place, J66_a3)) hS ⟨ib_w 0 1600 h9 rfl, ib_w 0 1600 h10 rfl, ib_w 0 4 h11 rfl, fun hq9 => ib_w 0 1599 (h12 hq9) rfl, (hO.symm.trans (by exact hq))⟩ (hP.sub [2, 3, 0, 1] rfl) (hD.sub [2, 3, 0, 1] rfl rfl) (Nat.le_of_ble_eq_true rfl) (Nat.le_of_ble_eq_true rfl) dX5_newName_105
        · as_aux_lemma =>
            replace hq := lf_neg hq (lf_nle (lf_lc 6 (6 : Int) rfl) (lf_rf J66_l2) c1)
            have h14 := ib_nle (ib_c 6 6 6 rfl) hJ66_l2 c1
            have h15 : ib J66_l2 0 5 := ib_w 0 5 h14.2 rfl
            refine lv_aload_n hx hb dX5_newName_72 rfl (lv_at hl 0 rfl) ?_
            refine k_get C0 fg_X5_37 hP 0 rfl rfl dX5_newName_73 ?_
            refine k_get C0 fg_X5_181 hP 2 rfl rfl dX5_newName_76 ?_
            refine lv_iload_n hx hb dX5_newName_79 rfl (lv_at hl 1 rfl) ?_
            refine lv_bipush (v := 6) hx hb dX5_newName_80 rfl ?_
            refine lv_imul hx hb dX5_newName_82 ?_
            refine lv_topi (fun z16 ez16 => ?_)
            have h17 := ib_mul hp0 (ib_c 6 6 6 rfl) rfl
            rw [← ez16] at h17
            have h18 : ib z16 0 102 := ib_w 0 102 h17.1 rfl
            have Ez16 := lf_mul h17.2 (lf_rf p0) (lf_lc 6 (6 : Int) rfl)
            refine lv_iload_n hx hb dX5_newName_83 rfl (lv_at hl 2 rfl) ?_
            refine lv_iadd hx hb dX5_newName_84 ?_
            refine lv_topi (fun z19 ez19 => ?_)
            have h20 := ib_add h18 h15 rfl
            rw [← ez19] at h20
            have h21 : ib z19 0 107 := ib_w 0 107 h20.1 rfl
            have Ez19 := lf_add h20.2 Ez16 (lf_rf J66_l2)
            refine lv_aload_n hx hb dX5_newName_85 rfl (lv_at hl 0 rfl) ?_
            refine lv_iload_n hx hb dX5_newName_86 rfl (lv_at hl 2 rfl) ?_
            refine k_jim hP hD hS hA [0, 1] [false, false, true, true] rfl rfl rfl 0 0 (Nat.le_of_ble_eq_true rfl) (Nat.le_of_ble_eq_true rfl) (fun hPc hDc => k_runV (As := [.int J66_l2]) (rest := [.int z19, .ref a_this_plan_names]) C0 hZ hS hA (s_X5_nameLetter l dC dI cy sq a_this a_this_text g_this_text x_this_length x_this_at x_this_behind x_this_sort x_this_allowed a_this_plan x_this_fault x_this_place J66_l2 hg_this_text (ib_w 0 1600 hK66_x_this_at rfl) (ib_w 0 1600 hx_this_behind rfl) (ib_w 0 5 h15 rfl)) mV_X5_184 hPc hDc rfl rfl rfl hl rfl rfl (Nat.le_of_ble_eq_true rfl) ⟨(Nat.le_of_ble_eq_true rfl), (Nat.le_of_ble_eq_true rfl)⟩ ⟨(Nat.le_of_ble_eq_true rfl), (Nat.le_of_ble_eq_true rfl)⟩ dX5_newName_87) (fun r22 u23 H locs hw hP hD hS => ?_)
            try dsimp only at hP hD hw
            replace hP : va_P (dC, dI) vwCl [(wo_4_iiiiiiirrrirrrrrir a_this_plan x_this_plan_cycle x_this_plan_green x_this_plan_rule x_this_plan_least x_this_plan_away x_this_plan_statements x_this_plan_kinds a_this_plan_calm a_this_plan_pace a_this_plan_trusts x_this_plan_walkers a_this_plan_kindOf a_this_plan_comesAt a_this_plan_comers a_this_plan_names a_this_plan_code x_this_plan_size a_this_plan_spans), (wi_0_108_0 a_this_plan_names cy J66_a3), (wo_5_riiiiirii a_this a_this_text x_this_length x_this_at x_this_behind x_this_sort x_this_allowed a_this_plan x_this_fault x_this_place), (wi_0_1600_0 a_this_text cy g_this_text)] H := hP
            replace hD := k_D hP hD
            obtain ⟨h24, h25⟩ := hw
            replace hq := lf_b1 hq h25
            refine va_iast hx hb C0.2.2.2.2.2.1 hP hD hS 1 0 rfl rfl (ib_in 108 h21 rfl) dX5_newName_90 (fun H locs hP hD hS => ?_)
            replace hP : va_P (dC, dI) vwCl [(wo_4_iiiiiiirrrirrrrrir a_this_plan x_this_plan_cycle x_this_plan_green x_this_plan_rule x_this_plan_least x_this_plan_away x_this_plan_statements x_this_plan_kinds a_this_plan_calm a_this_plan_pace a_this_plan_trusts x_this_plan_walkers a_this_plan_kindOf a_this_plan_comesAt a_this_plan_comers a_this_plan_names a_this_plan_code x_this_plan_size a_this_plan_spans), (wi_0_108_0 a_this_plan_names cy (upd J66_a3 (Int32.toNatClampNeg z19) r22)), (wo_5_riiiiirii a_this a_this_text x_this_length x_this_at x_this_behind x_this_sort x_this_allowed a_this_plan x_this_fault x_this_place), (wi_0_1600_0 a_this_text cy g_this_text)] H := hP
            replace hD := k_D hP hD
            generalize ef26 : upd J66_a3 (Int32.toNatClampNeg z19) r22 = f26 at hP hD
            have Ef26 := lf_st ef26 (lf_ra J66_a3) Ez19 (lf_rf r22)
            obtain ⟨z27, ez27⟩ : ∃ y : Int32, y = J66_l2 + 1 := ⟨_, rfl⟩
            refine lv_iinc (v := z27) (lv' := [(2, .int z27), (0, .ref a_this), (1, .int p0)]) hx hb dX5_newName_91 hl (k := 2) rfl (by rw [ez27]; rfl) (Nat.le_of_ble_eq_true rfl) rfl (fun ls hl => ?_)
            have h28 := ib_add h15 (ib_c 1 1 1 rfl) rfl
            rw [← ez27] at h28
            have h29 : ib z27 1 6 := ib_w 1 6 h28.1 rfl
            have Ez27 := lf_add h28.2 (lf_rf J66_l2) (lf_lc 1 (1 : Int) rfl)
            refine lv_goto (tgt := 66) hx hb dX5_newName_94 rfl ?_
            exact ih66 z27 f26 H locs ls (ib_w 0 1599 hK66_x_this_at rfl) (ib_w 1 1 hK66_x_this_sort rfl) (ib_w 0 6 h29 rfl) (by rw [← hK66]; rw [lf_u Ez27]; rw [lf_ua Ef26]; exact hq) (by have := h28.2; have : (1 : Int32).toInt = 1 := rfl; omega) (hP.sub [2, 3, 0, 1] rfl) (hD.sub [2, 3, 0, 1] rfl rfl) hS (lv_sub hl [1, 2, 0] rfl)
  have jn52 : ∀  (H : Heap) (locs : List Loc) (ls : Array Slot), ib x_this_at 0 1599 → ib x_this_sort 1 1 → (O = F_X5_newName_52 (Int32.toInt x_this_length) (Int32.toInt x_this_at) (lf_A g_this_plan_names) (Int32.toInt x_this_fault) (Int32.toInt x_this_place) ) → va_P (dC, dI) vwCl [(wo_5_riiiiirii a_this a_this_text x_this_length x_this_at x_this_behind x_this_sort x_this_allowed a_this_plan x_this_fault x_this_place), (wi_0_1600_0 a_this_text cy g_this_text), (wo_4_iiiiiiirrrirrrrrir a_this_plan x_this_plan_cycle x_this_plan_green x_this_plan_rule x_this_plan_least x_this_plan_away x_this_plan_statements x_this_plan_kinds a_this_plan_calm a_this_plan_pace a_this_plan_trusts x_this_plan_walkers a_this_plan_kindOf a_this_plan_comesAt a_this_plan_comers a_this_plan_names a_this_plan_code x_this_plan_size a_this_plan_spans), (wi_0_108_0 a_this_plan_names cy g_this_plan_names)] H → va_D A [(wo_5_riiiiirii a_this a_this_text x_this_length x_this_at x_this_behind x_this_sort x_this_allowed a_this_plan x_this_fault x_this_place), (wi_0_1600_0 a_this_text cy g_this_text), (wo_4_iiiiiiirrrirrrrrir a_this_plan x_this_plan_cycle x_this_plan_green x_this_plan_rule x_this_plan_least x_this_plan_away x_this_plan_statements x_this_plan_kinds a_this_plan_calm a_this_plan_pace a_this_plan_trusts x_this_plan_walkers a_this_plan_kindOf a_this_plan_comesAt a_this_plan_comers a_this_plan_names a_this_plan_code x_this_plan_size a_this_plan_spans), (wi_0_108_0 a_this_plan_names cy g_this_plan_names)] → va_S A s.heap H locs → lv_has ls 3 [(0, .ref a_this), (1, .int p0)] → W p l e { frames := 6, cells := 0, slots := 0, locals := 186 } s m args below meth c H locs 0 0 Q (F0 m 52 ls []) := by
    intro H locs ls hK52_x_this_at hK52_x_this_sort hq hP hD hS hl
    unfold F_X5_newName_52 at hq
    refine lv_aload_n hx hb dX5_newName_52 rfl (lv_at hl 0 rfl) ?_
    refine lv_iconst (v := 3) hx hb dX5_newName_53 rfl ?_
    refine lv_aload_n hx hb dX5_newName_54 rfl (lv_at hl 0 rfl) ?_
    refine k_get C0 fg_X5_15 hP 0 rfl rfl dX5_newName_55 ?_
    refine k_jvm hP hD hS hA [0] [false, true, true, true] rfl rfl rfl 0 0 (Nat.le_of_ble_eq_true rfl) (Nat.le_of_ble_eq_true rfl) (fun hPc hDc => k_runV (As := [.int 3, .int x_this_at]) (rest := []) C0 hZ hS hA (s_X5_fail l dC dI cy sq a_this a_this_text x_this_length x_this_at x_this_behind x_this_sort x_this_allowed a_this_plan x_this_fault x_this_place 3 x_this_at ) mV_X5_78 hPc hDc rfl rfl rfl hl rfl rfl (Nat.le_of_ble_eq_true rfl) ⟨(Nat.le_of_ble_eq_true rfl), (Nat.le_of_ble_eq_true rfl)⟩ ⟨(Nat.le_of_ble_eq_true rfl), (Nat.le_of_ble_eq_true rfl)⟩ dX5_newName_58) (fun u31 H locs hw hP hD hS => ?_)
    obtain ⟨v32, v33⟩ := u31
    try dsimp only at hP hD hw
    replace hP : va_P (dC, dI) vwCl [(wi_0_1600_0 a_this_text cy g_this_text), (wo_4_iiiiiiirrrirrrrrir a_this_plan x_this_plan_cycle x_this_plan_green x_this_plan_rule x_this_plan_least x_this_plan_away x_this_plan_statements x_this_plan_kinds a_this_plan_calm a_this_plan_pace a_this_plan_trusts x_this_plan_walkers a_this_plan_kindOf a_this_plan_comesAt a_this_plan_comers a_this_plan_names a_this_plan_code x_this_plan_size a_this_plan_spans), (wi_0_108_0 a_this_plan_names cy g_this_plan_names), (wo_5_riiiiirii a_this a_this_text x_this_length x_this_length x_this_length 0 x_this_allowed a_this_plan v32 v33)] H := hP
    replace hD := k_D hP hD
    have h34 := hw
    have h34 := by have h9 := h34; try simp only [show (3 : Int32).toInt = (3 : Int) from rfl] at h9; exact h9
    replace hq := lf_p1 hq h34
    refine lv_goto (tgt := 105) hx hb dX5_newName_61 rfl ?_
    subst hQ; exact k_vret hx hb hr hlk ((x_this_length, x_this_length, 0, v32, v33, g_this_plan_names)) hS ⟨ib_w 0 1600 hx_this_length rfl, ib_w 0 1600 hx_this_length rfl, ib_w 0 4 (ib_c 0 0 0 rfl) rfl, fun hq9 => absurd rfl hq9, (hO.symm.trans (by try simp only [show (0 : Int32).toInt = (0 : Int) from rfl]; exact hq))⟩ (hP.sub [3, 0, 1, 2] rfl) (hD.sub [3, 0, 1, 2] rfl rfl) (Nat.le_of_ble_eq_true rfl) (Nat.le_of_ble_eq_true rfl) dX5_newName_105
  refine lv_aload_n hx hb dX5_newName_0 rfl (lv_at hl 0 rfl) ?_
  refine k_jim hP hD hS hA [0, 1] [false, false, true, true] rfl rfl rfl 0 0 (Nat.le_of_ble_eq_true rfl) (Nat.le_of_ble_eq_true rfl) (fun hPc hDc => k_runV (As := []) (rest := []) C0 hZ hS hA (s_X5_isName l dC dI cy sq a_this a_this_text g_this_text x_this_length x_this_at x_this_behind x_this_sort x_this_allowed a_this_plan x_this_fault x_this_place hg_this_text (ib_w 0 1600 hx_this_at rfl) (ib_w 0 1600 hx_this_behind rfl) (ib_w 0 4 hx_this_sort rfl) (fun hq9 => ib_w 0 1599 (hc0_this hq9) rfl)) mV_X5_171 hPc hDc rfl rfl rfl hl rfl rfl (Nat.le_of_ble_eq_true rfl) ⟨(Nat.le_of_ble_eq_true rfl), (Nat.le_of_ble_eq_true rfl)⟩ ⟨(Nat.le_of_ble_eq_true rfl), (Nat.le_of_ble_eq_true rfl)⟩ dX5_newName_1) (fun r35 u36 H locs hw hP hD hS => ?_)
  try dsimp only at hP hD hw
  replace hP : va_P (dC, dI) vwCl [(wo_4_iiiiiiirrrirrrrrir a_this_plan x_this_plan_cycle x_this_plan_green x_this_plan_rule x_this_plan_least x_this_plan_away x_this_plan_statements x_this_plan_kinds a_this_plan_calm a_this_plan_pace a_this_plan_trusts x_this_plan_walkers a_this_plan_kindOf a_this_plan_comesAt a_this_plan_comers a_this_plan_names a_this_plan_code x_this_plan_size a_this_plan_spans), (wi_0_108_0 a_this_plan_names cy g_this_plan_names), (wo_5_riiiiirii a_this a_this_text x_this_length x_this_at x_this_behind x_this_sort x_this_allowed a_this_plan x_this_fault x_this_place), (wi_0_1600_0 a_this_text cy g_this_text)] H := hP
  replace hD := k_D hP hD
  obtain ⟨h37, h38, h39, h40⟩ := hw
  replace hq := lf_b1 hq h40
  refine lv_if_ne (tgt := 19) hx hb dX5_newName_4 rfl (fun c41 => ?_) (fun c41 => ?_)
  · as_aux_lemma =>
      replace hq := lf_neg hq (lf_ne (lf_rf r35) (lf_lc 0 (0 : Int) rfl) c41)
      have h42 : ib r35 1 1 := ib_w 1 1 (ib_ne_lo 0 h37 rfl c41) rfl
      have h43 : ib x_this_at 0 1599 := ib_w 0 1599 (ib_two hx_this_at (h38 c41)) rfl
      have h44 : ib x_this_sort 1 1 := ib_w 1 1 (ib_two hx_this_sort (h39 c41)) rfl
      refine lv_aload_n hx hb dX5_newName_19 rfl (lv_at hl 0 rfl) ?_
      refine lv_iconst (v := 0) hx hb dX5_newName_20 rfl ?_
      refine lv_aload_n hx hb dX5_newName_21 rfl (lv_at hl 0 rfl) ?_
      refine k_get C0 fg_X5_37 hP 2 rfl rfl dX5_newName_22 ?_
      refine k_get C0 fg_X5_121 hP 0 rfl rfl dX5_newName_25 ?_
      refine k_jim hP hD hS hA [2, 0, 1, 3] [] rfl rfl rfl 0 0 (Nat.le_of_ble_eq_true rfl) (Nat.le_of_ble_eq_true rfl) (fun hPc hDc => k_runV (As := [.int 0, .int x_this_plan_kinds]) (rest := []) C0 hZ hS hA (s_X5_slotOf_a0_0_i1_0_6 l dC dI cy sq a_this a_this_text g_this_text x_this_length x_this_at x_this_behind x_this_sort x_this_allowed a_this_plan x_this_plan_cycle x_this_plan_green x_this_plan_rule x_this_plan_least x_this_plan_away x_this_plan_statements x_this_plan_kinds a_this_plan_calm a_this_plan_pace a_this_plan_trusts x_this_plan_walkers a_this_plan_kindOf a_this_plan_comesAt a_this_plan_comers a_this_plan_names g_this_plan_names a_this_plan_code x_this_plan_size a_this_plan_spans x_this_fault x_this_place x_this_plan_kinds hg_this_text (ib_w 0 1600 h43 rfl) (ib_w 0 1600 hx_this_behind rfl) (ib_w 0 6 hx_this_plan_kinds rfl)) mV_X5_178 hPc hDc rfl rfl rfl hl rfl rfl (Nat.le_of_ble_eq_true rfl) ⟨(Nat.le_of_ble_eq_true rfl), (Nat.le_of_ble_eq_true rfl)⟩ ⟨(Nat.le_of_ble_eq_true rfl), (Nat.le_of_ble_eq_true rfl)⟩ dX5_newName_28) (fun r45 u46 H locs hw hP hD hS => ?_)
      try dsimp only at hP hD hw
      replace hP : va_P (dC, dI) vwCl [(wo_5_riiiiirii a_this a_this_text x_this_length x_this_at x_this_behind x_this_sort x_this_allowed a_this_plan x_this_fault x_this_place), (wo_4_iiiiiiirrrirrrrrir a_this_plan x_this_plan_cycle x_this_plan_green x_this_plan_rule x_this_plan_least x_this_plan_away x_this_plan_statements x_this_plan_kinds a_this_plan_calm a_this_plan_pace a_this_plan_trusts x_this_plan_walkers a_this_plan_kindOf a_this_plan_comesAt a_this_plan_comers a_this_plan_names a_this_plan_code x_this_plan_size a_this_plan_spans), (wi_0_108_0 a_this_plan_names cy g_this_plan_names), (wi_0_1600_0 a_this_text cy g_this_text)] H := hP
      replace hD := k_D hP hD
      obtain ⟨h47, h48⟩ := hw
      replace hq := lf_b1 hq h48
      refine lv_iconst (v := (-1)) hx hb dX5_newName_31 rfl ?_
      refine lv_icmp_ne (tgt := 52) hx hb dX5_newName_32 rfl (fun c49 => ?_) (fun c49 => ?_)
      · replace hq := lf_neg hq (lf_ne (lf_rf r45) (lf_lc (-1) (-1 : Int) rfl) c49)
        have h50 : ib r45 0 5 := ib_w 0 5 (ib_ne_lo (-1) h47 rfl c49) rfl
        exact jn52  H locs ls (ib_w 0 1599 h43 rfl) (ib_w 1 1 h44 rfl) (by exact hq) (hP.sub [0, 3, 1, 2] rfl) (hD.sub [0, 3, 1, 2] rfl rfl) hS (lv_sub hl [0, 1] rfl)
      · as_aux_lemma =>
          replace hq := lf_pos hq (lf_eq (lf_rf r45) (lf_lc (-1) (-1 : Int) rfl) c49)
          have h51 := ib_eq h47 (ib_c (-1) (-1) (-1) rfl) c49
          have h52 : ib r45 (-1) (-1) := ib_w (-1) (-1) h51.1 rfl
          refine lv_aload_n hx hb dX5_newName_35 rfl (lv_at hl 0 rfl) ?_
          refine lv_bipush (v := 6) hx hb dX5_newName_36 rfl ?_
          refine lv_aload_n hx hb dX5_newName_38 rfl (lv_at hl 0 rfl) ?_
          refine k_get C0 fg_X5_37 hP 0 rfl rfl dX5_newName_39 ?_
          refine k_get C0 fg_X5_139 hP 1 rfl rfl dX5_newName_42 ?_
          refine k_jim hP hD hS hA [0, 1, 2, 3] [] rfl rfl rfl 0 0 (Nat.le_of_ble_eq_true rfl) (Nat.le_of_ble_eq_true rfl) (fun hPc hDc => k_runV (As := [.int 6, .int x_this_plan_walkers]) (rest := []) C0 hZ hS hA (s_X5_slotOf_a0_6_i1_0_12 l dC dI cy sq a_this a_this_text g_this_text x_this_length x_this_at x_this_behind x_this_sort x_this_allowed a_this_plan x_this_plan_cycle x_this_plan_green x_this_plan_rule x_this_plan_least x_this_plan_away x_this_plan_statements x_this_plan_kinds a_this_plan_calm a_this_plan_pace a_this_plan_trusts x_this_plan_walkers a_this_plan_kindOf a_this_plan_comesAt a_this_plan_comers a_this_plan_names g_this_plan_names a_this_plan_code x_this_plan_size a_this_plan_spans x_this_fault x_this_place x_this_plan_walkers hg_this_text (ib_w 0 1600 h43 rfl) (ib_w 0 1600 hx_this_behind rfl) (ib_w 0 12 hx_this_plan_walkers rfl)) mV_X5_178 hPc hDc rfl rfl rfl hl rfl rfl (Nat.le_of_ble_eq_true rfl) ⟨(Nat.le_of_ble_eq_true rfl), (Nat.le_of_ble_eq_true rfl)⟩ ⟨(Nat.le_of_ble_eq_true rfl), (Nat.le_of_ble_eq_true rfl)⟩ dX5_newName_45) (fun r53 u54 H locs hw hP hD hS => ?_)
          try dsimp only at hP hD hw
          replace hP : va_P (dC, dI) vwCl [(wo_5_riiiiirii a_this a_this_text x_this_length x_this_at x_this_behind x_this_sort x_this_allowed a_this_plan x_this_fault x_this_place), (wo_4_iiiiiiirrrirrrrrir a_this_plan x_this_plan_cycle x_this_plan_green x_this_plan_rule x_this_plan_least x_this_plan_away x_this_plan_statements x_this_plan_kinds a_this_plan_calm a_this_plan_pace a_this_plan_trusts x_this_plan_walkers a_this_plan_kindOf a_this_plan_comesAt a_this_plan_comers a_this_plan_names a_this_plan_code x_this_plan_size a_this_plan_spans), (wi_0_108_0 a_this_plan_names cy g_this_plan_names), (wi_0_1600_0 a_this_text cy g_this_text)] H := hP
          replace hD := k_D hP hD
          obtain ⟨h55, h56⟩ := hw
          replace hq := lf_b1 hq h56
          refine lv_iconst (v := (-1)) hx hb dX5_newName_48 rfl ?_
          refine lv_icmp_eq (tgt := 64) hx hb dX5_newName_49 rfl (fun c57 => ?_) (fun c57 => ?_)
          · replace hq := lf_pos hq (lf_eq (lf_rf r53) (lf_lc (-1) (-1 : Int) rfl) c57)
            have h58 := ib_eq h55 (ib_c (-1) (-1) (-1) rfl) c57
            have h59 : ib r53 (-1) (-1) := ib_w (-1) (-1) h58.1 rfl
            refine lv_iconst (v := 0) hx hb dX5_newName_64 rfl ?_
            refine lv_istore_n (lv' := [(2, .int 0), (0, .ref a_this), (1, .int p0)]) hx hb dX5_newName_65 rfl hl (Nat.le_of_ble_eq_true rfl) rfl (fun ls hl => ?_)
            exact jn66 8 0 g_this_plan_names H locs ls (ib_w 0 1599 h43 rfl) (ib_w 1 1 h44 rfl) (ib_w 0 6 (ib_c 0 0 0 rfl) rfl) (by try simp only [show (0 : Int32).toInt = (0 : Int) from rfl]; exact hq) (by have := (ib_c 0 0 0 rfl); unfold ib at this; omega) (hP.sub [0, 3, 1, 2] rfl) (hD.sub [0, 3, 1, 2] rfl rfl) hS (lv_sub hl [1, 2, 0] rfl)
          · replace hq := lf_neg hq (lf_ne (lf_rf r53) (lf_lc (-1) (-1 : Int) rfl) c57)
            have h60 : ib r53 0 17 := ib_w 0 17 (ib_ne_lo (-1) h55 rfl c57) rfl
            exact jn52  H locs ls (ib_w 0 1599 h43 rfl) (ib_w 1 1 h44 rfl) (by exact hq) (hP.sub [0, 3, 1, 2] rfl) (hD.sub [0, 3, 1, 2] rfl rfl) hS (lv_sub hl [0, 1] rfl)
  · as_aux_lemma =>
      replace hq := lf_pos hq (lf_eq (lf_rf r35) (lf_lc 0 (0 : Int) rfl) c41)
      have h61 := ib_eq h37 (ib_c 0 0 0 rfl) c41
      have h62 : ib r35 0 0 := ib_w 0 0 h61.1 rfl
      refine lv_aload_n hx hb dX5_newName_7 rfl (lv_at hl 0 rfl) ?_
      refine lv_iconst (v := 1) hx hb dX5_newName_8 rfl ?_
      refine lv_aload_n hx hb dX5_newName_9 rfl (lv_at hl 0 rfl) ?_
      refine k_jim hP hD hS hA [2] [true, true, false, true] rfl rfl rfl 0 0 (Nat.le_of_ble_eq_true rfl) (Nat.le_of_ble_eq_true rfl) (fun hPc hDc => k_runV (As := []) (rest := [.int 1, .ref a_this]) C0 hZ hS hA (s_X5_wrongInName l dC dI cy sq a_this a_this_text x_this_length x_this_at x_this_behind x_this_sort x_this_allowed a_this_plan x_this_fault x_this_place (ib_w 0 1600 hx_this_at rfl) (ib_w 0 1600 hx_this_behind rfl) (ib_w 0 4 hx_this_sort rfl) (fun hq9 => ib_w 0 1599 (hc0_this hq9) rfl)) mV_X5_175 hPc hDc rfl rfl rfl hl rfl rfl (Nat.le_of_ble_eq_true rfl) ⟨(Nat.le_of_ble_eq_true rfl), (Nat.le_of_ble_eq_true rfl)⟩ ⟨(Nat.le_of_ble_eq_true rfl), (Nat.le_of_ble_eq_true rfl)⟩ dX5_newName_10) (fun r63 u64 H locs hw hP hD hS => ?_)
      try dsimp only at hP hD hw
      replace hP : va_P (dC, dI) vwCl [(wo_4_iiiiiiirrrirrrrrir a_this_plan x_this_plan_cycle x_this_plan_green x_this_plan_rule x_this_plan_least x_this_plan_away x_this_plan_statements x_this_plan_kinds a_this_plan_calm a_this_plan_pace a_this_plan_trusts x_this_plan_walkers a_this_plan_kindOf a_this_plan_comesAt a_this_plan_comers a_this_plan_names a_this_plan_code x_this_plan_size a_this_plan_spans), (wi_0_108_0 a_this_plan_names cy g_this_plan_names), (wi_0_1600_0 a_this_text cy g_this_text), (wo_5_riiiiirii a_this a_this_text x_this_length x_this_at x_this_behind x_this_sort x_this_allowed a_this_plan x_this_fault x_this_place)] H := hP
      replace hD := k_D hP hD
      obtain ⟨h65, h66⟩ := hw
      replace hq := lf_b1 hq h66
      refine k_jvm hP hD hS hA [3] [true, true, true] rfl rfl rfl 0 0 (Nat.le_of_ble_eq_true rfl) (Nat.le_of_ble_eq_true rfl) (fun hPc hDc => k_runV (As := [.int 1, .int r63]) (rest := []) C0 hZ hS hA (s_X5_fail l dC dI cy sq a_this a_this_text x_this_length x_this_at x_this_behind x_this_sort x_this_allowed a_this_plan x_this_fault x_this_place 1 r63 ) mV_X5_78 hPc hDc rfl rfl rfl hl rfl rfl (Nat.le_of_ble_eq_true rfl) ⟨(Nat.le_of_ble_eq_true rfl), (Nat.le_of_ble_eq_true rfl)⟩ ⟨(Nat.le_of_ble_eq_true rfl), (Nat.le_of_ble_eq_true rfl)⟩ dX5_newName_13) (fun u68 H locs hw hP hD hS => ?_)
      obtain ⟨v69, v70⟩ := u68
      try dsimp only at hP hD hw
      replace hP : va_P (dC, dI) vwCl [(wo_4_iiiiiiirrrirrrrrir a_this_plan x_this_plan_cycle x_this_plan_green x_this_plan_rule x_this_plan_least x_this_plan_away x_this_plan_statements x_this_plan_kinds a_this_plan_calm a_this_plan_pace a_this_plan_trusts x_this_plan_walkers a_this_plan_kindOf a_this_plan_comesAt a_this_plan_comers a_this_plan_names a_this_plan_code x_this_plan_size a_this_plan_spans), (wi_0_108_0 a_this_plan_names cy g_this_plan_names), (wi_0_1600_0 a_this_text cy g_this_text), (wo_5_riiiiirii a_this a_this_text x_this_length x_this_length x_this_length 0 x_this_allowed a_this_plan v69 v70)] H := hP
      replace hD := k_D hP hD
      have h71 := hw
      have h71 := by have h9 := h71; try simp only [show (1 : Int32).toInt = (1 : Int) from rfl] at h9; exact h9
      replace hq := lf_p1 hq h71
      refine lv_goto (tgt := 105) hx hb dX5_newName_16 rfl ?_
      subst hQ; exact k_vret hx hb hr hlk ((x_this_length, x_this_length, 0, v69, v70, g_this_plan_names)) hS ⟨ib_w 0 1600 hx_this_length rfl, ib_w 0 1600 hx_this_length rfl, ib_w 0 4 (ib_c 0 0 0 rfl) rfl, fun hq9 => absurd rfl hq9, (hO.symm.trans (by try simp only [show (0 : Int32).toInt = (0 : Int) from rfl]; exact hq))⟩ (hP.sub [3, 2, 0, 1] rfl) (hD.sub [3, 2, 0, 1] rfl rfl) (Nat.le_of_ble_eq_true rfl) (Nat.le_of_ble_eq_true rfl) dX5_newName_105
set_option maxHeartbeats 4000000 in
set_option maxRecDepth 100000 in
theorem s_X5_wordIn_s10 (l : Launch) (dC : Nat → ClassId) (dI : Nat → Nat → Nat) (cy : Nat → ClassId) (sq : Nat → Nat) (a_this : Nat) (a_this_text : Nat) (g_this_text : Nat → Int32) (x_this_length : Int32) (x_this_at : Int32) (x_this_behind : Int32) (x_this_sort : Int32) (x_this_allowed : Int32) (a_this_plan : Nat) (x_this_fault : Int32) (x_this_place : Int32) (hg_this_text : ia g_this_text 1600 0 255) (hx_this_at : ib x_this_at 0 1600) (hx_this_behind : ib x_this_behind 0 1600) (hx_this_sort : ib x_this_sort 0 4) (hc0_this : ¬ x_this_sort = 0 → ib x_this_at 0 1599) : k_Met l yX5_wordIn cX5_wordIn 6 (some .int) { frames := 4, cells := 0, slots := 0, locals := 141 } dC dI cy sq [.ref a_this, .ref (sq 10)] [(wo_5_riiiiirii a_this a_this_text x_this_length x_this_at x_this_behind x_this_sort x_this_allowed a_this_plan x_this_fault x_this_place), (wi_0_1600_0 a_this_text cy g_this_text)] (k_Qi dC dI (fun (r : Int32) (_ : Unit) => (F_X5_wordIn_s10 (lf_A g_this_text) (Int32.toInt x_this_at) (Int32.toInt x_this_behind) (Int32.toInt x_this_sort) = ((Int32.toInt r)))) (fun _ : Unit => [(wo_5_riiiiirii a_this a_this_text x_this_length x_this_at x_this_behind x_this_sort x_this_allowed a_this_plan x_this_fault x_this_place), (wi_0_1600_0 a_this_text cy g_this_text)])) := by
  refine k_ofW2 (by decide +kernel) (Nat.le_of_ble_eq_true rfl) ?_
  intro p e s m below meth c A ls H locs args Q hQ C0 hZ hr hlk hin hP hD hA hS hl
  have C0 : k_cx p s m args c cX5_wordIn 6 RX5 dC dI cy sq := C0
  have hx := C0.1
  have hb := C0.2.1
  have hl : lv_has ls 6 [(0, .ref a_this), (1, .ref (sq 10))] := hl
  obtain ⟨O, hO⟩ : ∃ o, o = F_X5_wordIn_s10 (lf_A g_this_text) (Int32.toInt x_this_at) (Int32.toInt x_this_behind) (Int32.toInt x_this_sort) := ⟨_, rfl⟩
  have hq := hO
  unfold F_X5_wordIn_s10 at hq
  have jn23 : ∀ (n : Nat) (J23_l2 : Int32) (J23_l3 : Int32) (J23_l4 : Int32) (J23_l5 : Int32) (H : Heap) (locs : List Loc) (ls : Array Slot), ib x_this_at 0 1599 → ib x_this_sort 1 1 → ib J23_l3 0 1602 → ib J23_l4 0 1 → ib J23_l5 0 3 → (1 * J23_l3.toInt + (-1) * J23_l5.toInt ≤ 1600) → (O = F_X5_wordIn_s10_23 (lf_A g_this_text) (Int32.toInt x_this_at) (Int32.toInt x_this_behind) n (Int32.toInt J23_l2) (Int32.toInt J23_l3) (Int32.toInt J23_l4) (Int32.toInt J23_l5)) → 4 ≤ J23_l5.toInt + (n : Int) → va_P (dC, dI) vwCl [(wo_5_riiiiirii a_this a_this_text x_this_length x_this_at x_this_behind x_this_sort x_this_allowed a_this_plan x_this_fault x_this_place), (wi_0_1600_0 a_this_text cy g_this_text)] H → va_D A [(wo_5_riiiiirii a_this a_this_text x_this_length x_this_at x_this_behind x_this_sort x_this_allowed a_this_plan x_this_fault x_this_place), (wi_0_1600_0 a_this_text cy g_this_text)] → va_S A s.heap H locs → lv_has ls 6 [(0, .ref a_this), (1, .ref (sq 10)), (2, .int J23_l2), (3, .int J23_l3), (4, .int J23_l4), (5, .int J23_l5)] → W p l e { frames := 4, cells := 0, slots := 0, locals := 141 } s m args below meth c H locs 0 0 Q (F0 m 23 ls []) := by
    as_aux_lemma =>
      intro n
      induction n with
      | zero =>
        intro J23_l2 J23_l3 J23_l4 J23_l5 H locs ls hK23_x_this_at hK23_x_this_sort hJ23_l3 hJ23_l4 hJ23_l5 hJ23_lin0 hq hm
        exact absurd hm (by have := hJ23_l5; unfold ib at this; omega)
      | succ n ih =>
        intro J23_l2 J23_l3 J23_l4 J23_l5 H locs ls hK23_x_this_at hK23_x_this_sort hJ23_l3 hJ23_l4 hJ23_l5 hJ23_lin0 hq hm23 hP hD hS hl
        have ih23 := ih
        obtain ⟨K23, hK23⟩ : ∃ K, K = F_X5_wordIn_s10_23 (lf_A g_this_text) (Int32.toInt x_this_at) (Int32.toInt x_this_behind) n := ⟨_, rfl⟩
        have hq : O = F_X5_wordIn_s10_23b (lf_A g_this_text) (Int32.toInt x_this_at) (Int32.toInt x_this_behind) K23 (Int32.toInt J23_l2) (Int32.toInt J23_l3) (Int32.toInt J23_l4) (Int32.toInt J23_l5) := by rw [hK23]; exact hq
        unfold F_X5_wordIn_s10_23b at hq
        have jn119 : ∀ (J119_l2 : Int32) (J119_l3 : Int32) (J119_l4 : Int32) (H : Heap) (locs : List Loc) (ls : Array Slot), ib x_this_at 0 1599 → ib J23_l5 0 2 → ib x_this_sort 1 1 → ib J119_l3 0 1602 → ib J119_l4 0 1 → (1 * J119_l3.toInt + (-1) * J23_l5.toInt ≤ 1601) → (O = F_X5_wordIn_s10_119 (Int32.toInt J23_l5) K23 (Int32.toInt J119_l2) (Int32.toInt J119_l3) (Int32.toInt J119_l4)) → va_P (dC, dI) vwCl [(wo_5_riiiiirii a_this a_this_text x_this_length x_this_at x_this_behind x_this_sort x_this_allowed a_this_plan x_this_fault x_this_place), (wi_0_1600_0 a_this_text cy g_this_text)] H → va_D A [(wo_5_riiiiirii a_this a_this_text x_this_length x_this_at x_this_behind x_this_sort x_this_allowed a_this_plan x_this_fault x_this_place), (wi_0_1600_0 a_this_text cy g_this_text)] → va_S A s.heap H locs → lv_has ls 6 [(0, .ref a_this), (1, .ref (sq 10)), (2, .int J119_l2), (3, .int J119_l3), (4, .int J119_l4), (5, .int J23_l5)] → W p l e { frames := 4, cells := 0, slots := 0, locals := 141 } s m args below meth c H locs 0 0 Q (F0 m 119 ls []) := by
          intro J119_l2 J119_l3 J119_l4 H locs ls hK119_x_this_at hK119_J23_l5 hK119_x_this_sort hJ119_l3 hJ119_l4 hJ119_lin0 hq hP hD hS hl
          unfold F_X5_wordIn_s10_119 at hq
          obtain ⟨z1, ez1⟩ : ∃ y : Int32, y = J23_l5 + 1 := ⟨_, rfl⟩
          refine lv_iinc (v := z1) (lv' := [(5, .int z1), (0, .ref a_this), (1, .ref (sq 10)), (2, .int J119_l2), (3, .int J119_l3), (4, .int J119_l4)]) hx hb dX5_wordIn_119 hl (k := 5) rfl (by rw [ez1]; rfl) (Nat.le_of_ble_eq_true rfl) rfl (fun ls hl => ?_)
          have h2 := ib_add hK119_J23_l5 (ib_c 1 1 1 rfl) rfl
          rw [← ez1] at h2
          have h3 : ib z1 1 3 := ib_w 1 3 h2.1 rfl
          have Ez1 := lf_add h2.2 (lf_rf J23_l5) (lf_lc 1 (1 : Int) rfl)
          refine lv_goto (tgt := 23) hx hb dX5_wordIn_122 rfl ?_
          exact ih23 J119_l2 J119_l3 J119_l4 z1 H locs ls (ib_w 0 1599 hK119_x_this_at rfl) (ib_w 1 1 hK119_x_this_sort rfl) (ib_w 0 1602 hJ119_l3 rfl) (ib_w 0 1 hJ119_l4 rfl) (ib_w 0 3 h3 rfl) (by have := h2.2; have : (1 : Int32).toInt = 1 := rfl; have := hJ119_lin0; omega) (by rw [← hK23]; rw [lf_u Ez1]; exact hq) (by have := h2.2; have : (1 : Int32).toInt = 1 := rfl; omega) hP hD hS (lv_sub hl [1, 2, 3, 4, 5, 0] rfl)
        have jn114 : ∀ (J114_s0 : Int32) (H : Heap) (locs : List Loc) (ls : Array Slot), ib J23_l3 0 1601 → ib J23_l4 0 1 → ib J23_l5 0 1 → ib x_this_at 0 1599 → ib x_this_sort 1 1 → ib J114_s0 0 1 → (1 * J23_l3.toInt + (-1) * J23_l5.toInt ≤ 1600) → (O = F_X5_wordIn_s10_114 (Int32.toInt J23_l2) (Int32.toInt J23_l3) (Int32.toInt J23_l5) K23 (Int32.toInt J114_s0)) → va_P (dC, dI) vwCl [(wo_5_riiiiirii a_this a_this_text x_this_length x_this_at x_this_behind x_this_sort x_this_allowed a_this_plan x_this_fault x_this_place), (wi_0_1600_0 a_this_text cy g_this_text)] H → va_D A [(wo_5_riiiiirii a_this a_this_text x_this_length x_this_at x_this_behind x_this_sort x_this_allowed a_this_plan x_this_fault x_this_place), (wi_0_1600_0 a_this_text cy g_this_text)] → va_S A s.heap H locs → lv_has ls 6 [(0, .ref a_this), (1, .ref (sq 10)), (2, .int J23_l2), (3, .int J23_l3), (4, .int J23_l4), (5, .int J23_l5)] → W p l e { frames := 4, cells := 0, slots := 0, locals := 141 } s m args below meth c H locs 0 0 Q (F0 m 114 ls [.int J114_s0]) := by
          intro J114_s0 H locs ls hK114_J23_l3 hK114_J23_l4 hK114_J23_l5 hK114_x_this_at hK114_x_this_sort hJ114_s0 hJ114_lin0 hq hP hD hS hl
          unfold F_X5_wordIn_s10_114 at hq
          refine lv_istore (lv' := [(4, .int J114_s0), (0, .ref a_this), (1, .ref (sq 10)), (2, .int J23_l2), (3, .int J23_l3), (5, .int J23_l5)]) hx hb dX5_wordIn_114 hl (Nat.le_of_ble_eq_true rfl) rfl (fun ls hl => ?_)
          obtain ⟨z4, ez4⟩ : ∃ y : Int32, y = J23_l3 + 1 := ⟨_, rfl⟩
          refine lv_iinc (v := z4) (lv' := [(3, .int z4), (4, .int J114_s0), (0, .ref a_this), (1, .ref (sq 10)), (2, .int J23_l2), (5, .int J23_l5)]) hx hb dX5_wordIn_116 hl (k := 4) rfl (by rw [ez4]; rfl) (Nat.le_of_ble_eq_true rfl) rfl (fun ls hl => ?_)
          have h5 := ib_add hK114_J23_l3 (ib_c 1 1 1 rfl) rfl
          rw [← ez4] at h5
          have h6 : ib z4 1 1602 := ib_w 1 1602 h5.1 rfl
          have Ez4 := lf_add h5.2 (lf_rf J23_l3) (lf_lc 1 (1 : Int) rfl)
          exact jn119 J23_l2 z4 J114_s0 H locs ls (ib_w 0 1599 hK114_x_this_at rfl) (ib_w 0 2 hK114_J23_l5 rfl) (ib_w 1 1 hK114_x_this_sort rfl) (ib_w 0 1602 h6 rfl) (ib_w 0 1 hJ114_s0 rfl) (by have := (hK114_J23_l5).1; have := hJ23_lin0; have := (h6).2; have := h5.2; have : (1 : Int32).toInt = 1 := rfl; omega) (by rw [lf_u Ez4]; exact hq) hP hD hS (lv_sub hl [2, 3, 4, 0, 1, 5] rfl)
        have jn113 : ∀  (H : Heap) (locs : List Loc) (ls : Array Slot), ib J23_l3 0 1601 → ib J23_l4 0 1 → ib J23_l5 0 1 → ib x_this_at 0 1599 → ib x_this_sort 1 1 → (1 * J23_l3.toInt + (-1) * J23_l5.toInt ≤ 1600) → (O = F_X5_wordIn_s10_113 (Int32.toInt J23_l2) (Int32.toInt J23_l3) (Int32.toInt J23_l5) K23 ) → va_P (dC, dI) vwCl [(wo_5_riiiiirii a_this a_this_text x_this_length x_this_at x_this_behind x_this_sort x_this_allowed a_this_plan x_this_fault x_this_place), (wi_0_1600_0 a_this_text cy g_this_text)] H → va_D A [(wo_5_riiiiirii a_this a_this_text x_this_length x_this_at x_this_behind x_this_sort x_this_allowed a_this_plan x_this_fault x_this_place), (wi_0_1600_0 a_this_text cy g_this_text)] → va_S A s.heap H locs → lv_has ls 6 [(0, .ref a_this), (1, .ref (sq 10)), (2, .int J23_l2), (3, .int J23_l3), (4, .int J23_l4), (5, .int J23_l5)] → W p l e { frames := 4, cells := 0, slots := 0, locals := 141 } s m args below meth c H locs 0 0 Q (F0 m 113 ls []) := by
          intro H locs ls hK113_J23_l3 hK113_J23_l4 hK113_J23_l5 hK113_x_this_at hK113_x_this_sort hJ113_lin0 hq hP hD hS hl
          unfold F_X5_wordIn_s10_113 at hq
          refine lv_iconst (v := 0) hx hb dX5_wordIn_113 rfl ?_
          exact jn114 0 H locs ls (ib_w 0 1601 hK113_J23_l3 rfl) (ib_w 0 1 hK113_J23_l4 rfl) (ib_w 0 1 hK113_J23_l5 rfl) (ib_w 0 1599 hK113_x_this_at rfl) (ib_w 1 1 hK113_x_this_sort rfl) (ib_w 0 1 (ib_c 0 0 0 rfl) rfl) (by have := hJ23_lin0; omega) (by try simp only [show (0 : Int32).toInt = (0 : Int) from rfl]; exact hq) hP hD hS (lv_sub hl [0, 1, 2, 3, 4, 5] rfl)
        have jn67 : ∀  (H : Heap) (locs : List Loc) (ls : Array Slot), ib J23_l3 0 1602 → ib J23_l4 0 1 → ib J23_l5 0 2 → ib x_this_at 0 1599 → ib x_this_sort 1 1 → (O = F_X5_wordIn_s10_67 (Int32.toInt x_this_at) (Int32.toInt J23_l2) (Int32.toInt J23_l5) K23 ) → va_P (dC, dI) vwCl [(wo_5_riiiiirii a_this a_this_text x_this_length x_this_at x_this_behind x_this_sort x_this_allowed a_this_plan x_this_fault x_this_place), (wi_0_1600_0 a_this_text cy g_this_text)] H → va_D A [(wo_5_riiiiirii a_this a_this_text x_this_length x_this_at x_this_behind x_this_sort x_this_allowed a_this_plan x_this_fault x_this_place), (wi_0_1600_0 a_this_text cy g_this_text)] → va_S A s.heap H locs → lv_has ls 6 [(0, .ref a_this), (1, .ref (sq 10)), (2, .int J23_l2), (3, .int J23_l3), (4, .int J23_l4), (5, .int J23_l5)] → W p l e { frames := 4, cells := 0, slots := 0, locals := 141 } s m args below meth c H locs 0 0 Q (F0 m 67 ls []) := by
          intro H locs ls hK67_J23_l3 hK67_J23_l4 hK67_J23_l5 hK67_x_this_at hK67_x_this_sort hq hP hD hS hl
          unfold F_X5_wordIn_s10_67 at hq
          obtain ⟨z7, ez7⟩ : ∃ y : Int32, y = J23_l2 + 1 := ⟨_, rfl⟩
          refine lv_iinc (v := z7) (lv' := [(2, .int z7), (0, .ref a_this), (1, .ref (sq 10)), (3, .int J23_l3), (4, .int J23_l4), (5, .int J23_l5)]) hx hb dX5_wordIn_67 hl (k := 2) rfl (by rw [ez7]; rfl) (Nat.le_of_ble_eq_true rfl) rfl (fun ls hl => ?_)
          have Ez7 := lf_op lf_iadd ez7 (lf_rf J23_l2) (lf_lc 1 (1 : Int) rfl)
          refine lv_aload_n hx hb dX5_wordIn_70 rfl (lv_at hl 1 rfl) ?_
          refine k_get C0 fg_X5_15 hP 0 rfl rfl dX5_wordIn_71 ?_
          refine lv_istore_n (lv' := [(3, .int x_this_at), (2, .int z7), (0, .ref a_this), (1, .ref (sq 10)), (4, .int J23_l4), (5, .int J23_l5)]) hx hb dX5_wordIn_74 rfl hl (Nat.le_of_ble_eq_true rfl) rfl (fun ls hl => ?_)
          refine lv_iconst (v := 1) hx hb dX5_wordIn_75 rfl ?_
          refine lv_istore (lv' := [(4, .int 1), (3, .int x_this_at), (2, .int z7), (0, .ref a_this), (1, .ref (sq 10)), (5, .int J23_l5)]) hx hb dX5_wordIn_76 hl (Nat.le_of_ble_eq_true rfl) rfl (fun ls hl => ?_)
          refine lv_goto (tgt := 119) hx hb dX5_wordIn_78 rfl ?_
          exact jn119 z7 x_this_at 1 H locs ls (ib_w 0 1599 hK67_x_this_at rfl) (ib_w 0 2 hK67_J23_l5 rfl) (ib_w 1 1 hK67_x_this_sort rfl) (ib_w 0 1602 hK67_x_this_at rfl) (ib_w 0 1 (ib_c 1 1 1 rfl) rfl) (by have := (hK67_J23_l5).1; have := (hK67_x_this_at).2; omega) (by rw [lf_u Ez7]; try simp only [show (1 : Int32).toInt = (1 : Int) from rfl]; exact hq) hP hD hS (lv_sub hl [3, 4, 2, 1, 0, 5] rfl)
        have jn52 : ∀  (H : Heap) (locs : List Loc) (ls : Array Slot), ib J23_l3 0 1602 → ib J23_l4 0 1 → ib J23_l5 0 2 → ib x_this_at 0 1599 → ib x_this_sort 1 1 → (O = F_X5_wordIn_s10_52 (Int32.toInt x_this_at) (Int32.toInt x_this_behind) (Int32.toInt J23_l2) (Int32.toInt J23_l3) (Int32.toInt J23_l4) (Int32.toInt J23_l5) K23 ) → va_P (dC, dI) vwCl [(wo_5_riiiiirii a_this a_this_text x_this_length x_this_at x_this_behind x_this_sort x_this_allowed a_this_plan x_this_fault x_this_place), (wi_0_1600_0 a_this_text cy g_this_text)] H → va_D A [(wo_5_riiiiirii a_this a_this_text x_this_length x_this_at x_this_behind x_this_sort x_this_allowed a_this_plan x_this_fault x_this_place), (wi_0_1600_0 a_this_text cy g_this_text)] → va_S A s.heap H locs → lv_has ls 6 [(0, .ref a_this), (1, .ref (sq 10)), (2, .int J23_l2), (3, .int J23_l3), (4, .int J23_l4), (5, .int J23_l5)] → W p l e { frames := 4, cells := 0, slots := 0, locals := 141 } s m args below meth c H locs 0 0 Q (F0 m 52 ls []) := by
          as_aux_lemma =>
            intro H locs ls hK52_J23_l3 hK52_J23_l4 hK52_J23_l5 hK52_x_this_at hK52_x_this_sort hq hP hD hS hl
            unfold F_X5_wordIn_s10_52 at hq
            refine lv_iload hx hb dX5_wordIn_52 (lv_at hl 4 rfl) ?_
            refine lv_if_eq (tgt := 67) hx hb dX5_wordIn_54 rfl (fun c8 => ?_) (fun c8 => ?_)
            · replace hq := lf_pos hq (lf_eq (lf_rf J23_l4) (lf_lc 0 (0 : Int) rfl) c8)
              have h9 := ib_eq hK52_J23_l4 (ib_c 0 0 0 rfl) c8
              have h10 : ib J23_l4 0 0 := ib_w 0 0 h9.1 rfl
              exact jn67  H locs ls (ib_w 0 1602 hK52_J23_l3 rfl) (ib_w 0 1 h10 rfl) (ib_w 0 2 hK52_J23_l5 rfl) (ib_w 0 1599 hK52_x_this_at rfl) (ib_w 1 1 hK52_x_this_sort rfl) (by exact hq) hP hD hS (lv_sub hl [0, 1, 2, 3, 4, 5] rfl)
            · replace hq := lf_neg hq (lf_ne (lf_rf J23_l4) (lf_lc 0 (0 : Int) rfl) c8)
              have h11 : ib J23_l4 1 1 := ib_w 1 1 (ib_ne_lo 0 hK52_J23_l4 rfl c8) rfl
              refine lv_iload_n hx hb dX5_wordIn_57 rfl (lv_at hl 3 rfl) ?_
              refine lv_aload_n hx hb dX5_wordIn_58 rfl (lv_at hl 0 rfl) ?_
              refine k_get C0 fg_X5_18 hP 0 rfl rfl dX5_wordIn_59 ?_
              refine lv_icmp_ne (tgt := 67) hx hb dX5_wordIn_62 rfl (fun c12 => ?_) (fun c12 => ?_)
              · replace hq := lf_neg hq (lf_ne (lf_rf J23_l3) (lf_rf x_this_behind) c12)
                exact jn67  H locs ls (ib_w 0 1602 hK52_J23_l3 rfl) (ib_w 0 1 h11 rfl) (ib_w 0 2 hK52_J23_l5 rfl) (ib_w 0 1599 hK52_x_this_at rfl) (ib_w 1 1 hK52_x_this_sort rfl) (by exact hq) hP hD hS (lv_sub hl [0, 1, 2, 3, 4, 5] rfl)
              · replace hq := lf_pos hq (lf_eq (lf_rf J23_l3) (lf_rf x_this_behind) c12)
                have h13 := ib_eq hK52_J23_l3 hx_this_behind c12
                have h14 : ib J23_l3 0 1600 := ib_w 0 1600 h13.1 rfl
                refine lv_iload_n hx hb dX5_wordIn_65 rfl (lv_at hl 2 rfl) ?_
                subst hQ; exact k_iret hx hb hr hlk rfl () hS ((hO.symm.trans (by exact hq))) hP hD (Nat.le_of_ble_eq_true rfl) (Nat.le_of_ble_eq_true rfl) dX5_wordIn_66
        refine lv_iload hx hb dX5_wordIn_23 (lv_at hl 5 rfl) ?_
        refine lv_aload_n hx hb dX5_wordIn_25 rfl (lv_at hl 1 rfl) ?_
        refine k_jim hP hD hS hA [] [true, true] rfl rfl rfl 0 0 (Nat.le_of_ble_eq_true rfl) (Nat.le_of_ble_eq_true rfl) (fun hPc hDc => k_runVO (As := []) (rest := [.int J23_l5]) C0 hZ hS hA (c_length l dC dI cy sq 10 (by decide)) mV_X5_244 hPc hDc (vk_recv hZ.1 (by decide) hS) hl rfl rfl (Nat.le_of_ble_eq_true rfl) ⟨(Nat.le_of_ble_eq_true rfl), (Nat.le_of_ble_eq_true rfl)⟩ ⟨(Nat.le_of_ble_eq_true rfl), (Nat.le_of_ble_eq_true rfl)⟩ dX5_wordIn_26) (fun r15 u16 H locs hw hP hD hS => ?_)
        replace hP : va_P (dC, dI) vwCl [(wo_5_riiiiirii a_this a_this_text x_this_length x_this_at x_this_behind x_this_sort x_this_allowed a_this_plan x_this_fault x_this_place), (wi_0_1600_0 a_this_text cy g_this_text)] H := hP
        replace hD := k_D hP hD
        obtain rfl : r15 = 2 := hw.trans (by decide)
        refine lv_icmp_gt (tgt := 125) hx hb dX5_wordIn_29 rfl (fun c17 => ?_) (fun c17 => ?_)
        · replace hq := lf_pos hq (lf_lt (lf_lc 2 (2 : Int) rfl) (lf_rf J23_l5) c17)
          have h18 := ib_lt (ib_c 2 2 2 rfl) hJ23_l5 c17
          have h19 : ib J23_l5 3 3 := ib_w 3 3 h18.2 rfl
          refine lv_iconst (v := (-1)) hx hb dX5_wordIn_125 rfl ?_
          subst hQ; exact k_iret hx hb hr hlk rfl () hS ((hO.symm.trans (by try simp only [show ((-1) : Int32).toInt = (-1 : Int) from rfl]; exact hq))) hP hD (Nat.le_of_ble_eq_true rfl) (Nat.le_of_ble_eq_true rfl) dX5_wordIn_126
        · as_aux_lemma =>
            replace hq := lf_neg hq (lf_nlt (lf_lc 2 (2 : Int) rfl) (lf_rf J23_l5) c17)
            have h20 := ib_nlt (ib_c 2 2 2 rfl) hJ23_l5 c17
            have h21 : ib J23_l5 0 2 := ib_w 0 2 h20.2 rfl
            refine lv_iload hx hb dX5_wordIn_32 (lv_at hl 5 rfl) ?_
            refine lv_aload_n hx hb dX5_wordIn_34 rfl (lv_at hl 1 rfl) ?_
            refine k_jim hP hD hS hA [] [true, true] rfl rfl rfl 0 0 (Nat.le_of_ble_eq_true rfl) (Nat.le_of_ble_eq_true rfl) (fun hPc hDc => k_runVO (As := []) (rest := [.int J23_l5]) C0 hZ hS hA (c_length l dC dI cy sq 10 (by decide)) mV_X5_244 hPc hDc (vk_recv hZ.1 (by decide) hS) hl rfl rfl (Nat.le_of_ble_eq_true rfl) ⟨(Nat.le_of_ble_eq_true rfl), (Nat.le_of_ble_eq_true rfl)⟩ ⟨(Nat.le_of_ble_eq_true rfl), (Nat.le_of_ble_eq_true rfl)⟩ dX5_wordIn_35) (fun r22 u23 H locs hw hP hD hS => ?_)
            replace hP : va_P (dC, dI) vwCl [(wo_5_riiiiirii a_this a_this_text x_this_length x_this_at x_this_behind x_this_sort x_this_allowed a_this_plan x_this_fault x_this_place), (wi_0_1600_0 a_this_text cy g_this_text)] H := hP
            replace hD := k_D hP hD
            obtain rfl : r22 = 2 := hw.trans (by decide)
            refine lv_icmp_eq (tgt := 52) hx hb dX5_wordIn_38 rfl (fun c24 => ?_) (fun c24 => ?_)
            · replace hq := lf_pos hq (lf_eq (lf_rf J23_l5) (lf_lc 2 (2 : Int) rfl) c24)
              have h25 := ib_eq h21 (ib_c 2 2 2 rfl) c24
              have h26 : ib J23_l5 2 2 := ib_w 2 2 h25.1 rfl
              exact jn52  H locs ls (ib_w 0 1602 hJ23_l3 rfl) (ib_w 0 1 hJ23_l4 rfl) (ib_w 0 2 h26 rfl) (ib_w 0 1599 hK23_x_this_at rfl) (ib_w 1 1 hK23_x_this_sort rfl) (by exact hq) hP hD hS (lv_sub hl [0, 1, 2, 3, 4, 5] rfl)
            · as_aux_lemma =>
                replace hq := lf_neg hq (lf_ne (lf_rf J23_l5) (lf_lc 2 (2 : Int) rfl) c24)
                have h27 : ib J23_l5 0 1 := ib_w 0 1 (ib_ne_hi 2 h21 rfl c24) rfl
                refine lv_aload_n hx hb dX5_wordIn_41 rfl (lv_at hl 1 rfl) ?_
                refine lv_iload hx hb dX5_wordIn_42 (lv_at hl 5 rfl) ?_
                refine k_jim hP hD hS hA [] [true, true] rfl rfl rfl 0 0 (Nat.le_of_ble_eq_true rfl) (Nat.le_of_ble_eq_true rfl) (fun hPc hDc => k_runVO (As := [.int J23_l5]) (rest := []) C0 hZ hS hA (cx_charAt l dC dI cy sq 10 (by decide) J23_l5 (ib_ch 10 2 h27 rfl rfl).1 (ib_ch 10 2 h27 rfl rfl).2.1 (ib_ch 10 2 h27 rfl rfl).2.2) mV_X5_248 hPc hDc (vk_recv hZ.1 (by decide) hS) hl rfl rfl (Nat.le_of_ble_eq_true rfl) ⟨(Nat.le_of_ble_eq_true rfl), (Nat.le_of_ble_eq_true rfl)⟩ ⟨(Nat.le_of_ble_eq_true rfl), (Nat.le_of_ble_eq_true rfl)⟩ dX5_wordIn_44) (fun r28 u29 H locs hw hP hD hS => ?_)
                replace hP : va_P (dC, dI) vwCl [(wo_5_riiiiirii a_this a_this_text x_this_length x_this_at x_this_behind x_this_sort x_this_allowed a_this_plan x_this_fault x_this_place), (wi_0_1600_0 a_this_text cy g_this_text)] H := hP
                replace hD := k_D hP hD
                have Er28 := lf_cha (j := 10) hw (lf_rf J23_l5)
                refine lv_bipush (v := 32) hx hb dX5_wordIn_47 rfl ?_
                refine lv_icmp_ne (tgt := 81) hx hb dX5_wordIn_49 rfl (fun c30 => ?_) (fun c30 => ?_)
                · as_aux_lemma =>
                    replace hq := lf_neg hq (lf_ne Er28 (lf_lc 32 (32 : Int) rfl) c30)
                    refine lv_iload hx hb dX5_wordIn_81 (lv_at hl 4 rfl) ?_
                    refine lv_if_eq (tgt := 113) hx hb dX5_wordIn_83 rfl (fun c31 => ?_) (fun c31 => ?_)
                    · replace hq := lf_pos hq (lf_eq (lf_rf J23_l4) (lf_lc 0 (0 : Int) rfl) c31)
                      have h32 := ib_eq hJ23_l4 (ib_c 0 0 0 rfl) c31
                      have h33 : ib J23_l4 0 0 := ib_w 0 0 h32.1 rfl
                      have h34 : ib J23_l3 0 1601 := ⟨(hJ23_l3).1, by have := (hJ23_l3).2; have := hJ23_lin0; have := (h27).2; omega⟩
                      exact jn113  H locs ls (ib_w 0 1601 h34 rfl) (ib_w 0 1 h33 rfl) (ib_w 0 1 h27 rfl) (ib_w 0 1599 hK23_x_this_at rfl) (ib_w 1 1 hK23_x_this_sort rfl) (by have := hJ23_lin0; omega) (by exact hq) hP hD hS (lv_sub hl [0, 1, 2, 3, 4, 5] rfl)
                    · as_aux_lemma =>
                        replace hq := lf_neg hq (lf_ne (lf_rf J23_l4) (lf_lc 0 (0 : Int) rfl) c31)
                        have h35 : ib J23_l4 1 1 := ib_w 1 1 (ib_ne_lo 0 hJ23_l4 rfl c31) rfl
                        refine lv_iload_n hx hb dX5_wordIn_86 rfl (lv_at hl 3 rfl) ?_
                        refine lv_aload_n hx hb dX5_wordIn_87 rfl (lv_at hl 0 rfl) ?_
                        refine k_get C0 fg_X5_18 hP 0 rfl rfl dX5_wordIn_88 ?_
                        refine lv_icmp_ge (tgt := 113) hx hb dX5_wordIn_91 rfl (fun c36 => ?_) (fun c36 => ?_)
                        · replace hq := lf_pos hq (lf_le (lf_rf x_this_behind) (lf_rf J23_l3) c36)
                          have h37 := ib_le hx_this_behind hJ23_l3 c36
                          have h38 : ib J23_l3 0 1601 := ⟨(hJ23_l3).1, by have := (hJ23_l3).2; have := hJ23_lin0; have := (h27).2; omega⟩
                          exact jn113  H locs ls (ib_w 0 1601 h38 rfl) (ib_w 0 1 h35 rfl) (ib_w 0 1 h27 rfl) (ib_w 0 1599 hK23_x_this_at rfl) (ib_w 1 1 hK23_x_this_sort rfl) (by have := hJ23_lin0; omega) (by exact hq) hP hD hS (lv_sub hl [0, 1, 2, 3, 4, 5] rfl)
                        · as_aux_lemma =>
                            replace hq := lf_neg hq (lf_nle (lf_rf x_this_behind) (lf_rf J23_l3) c36)
                            have h39 := ib_nle hx_this_behind hJ23_l3 c36
                            have h40 : ib x_this_behind 1 1600 := ib_w 1 1600 h39.1 rfl
                            have h41 : ib J23_l3 0 1599 := ib_w 0 1599 h39.2 rfl
                            refine lv_aload_n hx hb dX5_wordIn_94 rfl (lv_at hl 0 rfl) ?_
                            refine k_get C0 fg_X5_33 hP 0 rfl rfl dX5_wordIn_95 ?_
                            refine lv_iload_n hx hb dX5_wordIn_98 rfl (lv_at hl 3 rfl) ?_
                            refine va_iald hx hb C0.2.2.2.2.2.1 hP 1 0 rfl rfl (ib_in 1600 h41 rfl) dX5_wordIn_99 ?_
                            refine lv_topi (fun z42 ez42 => ?_)
                            have h43 : ib z42 0 255 := by rw [ez42]; exact ia_at hg_this_text (ib_in 1600 h41 rfl)
                            have Ez42 := lf_ld ez42 (lf_ra g_this_text) (lf_rf J23_l3)
                            refine lv_aload_n hx hb dX5_wordIn_100 rfl (lv_at hl 1 rfl) ?_
                            refine lv_iload hx hb dX5_wordIn_101 (lv_at hl 5 rfl) ?_
                            refine k_jim hP hD hS hA [] [true, true] rfl rfl rfl 0 0 (Nat.le_of_ble_eq_true rfl) (Nat.le_of_ble_eq_true rfl) (fun hPc hDc => k_runVO (As := [.int J23_l5]) (rest := [.int z42]) C0 hZ hS hA (cx_charAt l dC dI cy sq 10 (by decide) J23_l5 (ib_ch 10 2 h27 rfl rfl).1 (ib_ch 10 2 h27 rfl rfl).2.1 (ib_ch 10 2 h27 rfl rfl).2.2) mV_X5_248 hPc hDc (vk_recv hZ.1 (by decide) hS) hl rfl rfl (Nat.le_of_ble_eq_true rfl) ⟨(Nat.le_of_ble_eq_true rfl), (Nat.le_of_ble_eq_true rfl)⟩ ⟨(Nat.le_of_ble_eq_true rfl), (Nat.le_of_ble_eq_true rfl)⟩ dX5_wordIn_103) (fun r44 u45 H locs hw hP hD hS => ?_)
                            replace hP : va_P (dC, dI) vwCl [(wo_5_riiiiirii a_this a_this_text x_this_length x_this_at x_this_behind x_this_sort x_this_allowed a_this_plan x_this_fault x_this_place), (wi_0_1600_0 a_this_text cy g_this_text)] H := hP
                            replace hD := k_D hP hD
                            have Er44 := lf_cha (j := 10) hw (lf_rf J23_l5)
                            refine lv_icmp_ne (tgt := 113) hx hb dX5_wordIn_106 rfl (fun c46 => ?_) (fun c46 => ?_)
                            · replace hq := lf_neg hq (lf_ne Ez42 Er44 c46)
                              exact jn113  H locs ls (ib_w 0 1601 h41 rfl) (ib_w 0 1 h35 rfl) (ib_w 0 1 h27 rfl) (ib_w 0 1599 hK23_x_this_at rfl) (ib_w 1 1 hK23_x_this_sort rfl) (by have := hJ23_lin0; omega) (by exact hq) hP hD hS (lv_sub hl [0, 1, 2, 3, 4, 5] rfl)
                            · replace hq := lf_pos hq (lf_eq Ez42 Er44 c46)
                              have h47 := ib_eq h43 (ib_any r44) c46
                              have h48 : ib r44 0 255 := ib_w 0 255 h47.2 rfl
                              refine lv_iconst (v := 1) hx hb dX5_wordIn_109 rfl ?_
                              refine lv_goto (tgt := 114) hx hb dX5_wordIn_110 rfl ?_
                              exact jn114 1 H locs ls (ib_w 0 1601 h41 rfl) (ib_w 0 1 h35 rfl) (ib_w 0 1 h27 rfl) (ib_w 0 1599 hK23_x_this_at rfl) (ib_w 1 1 hK23_x_this_sort rfl) (ib_w 0 1 (ib_c 1 1 1 rfl) rfl) (by have := hJ23_lin0; omega) (by try simp only [show (1 : Int32).toInt = (1 : Int) from rfl]; exact hq) hP hD hS (lv_sub hl [0, 1, 2, 3, 4, 5] rfl)
                · replace hq := lf_pos hq (lf_eq Er28 (lf_lc 32 (32 : Int) rfl) c30)
                  have h49 := ib_eq (ib_any r28) (ib_c 32 32 32 rfl) c30
                  have h50 : ib r28 32 32 := ib_w 32 32 h49.1 rfl
                  have h51 : ib J23_l3 0 1601 := ⟨(hJ23_l3).1, by have := (hJ23_l3).2; have := hJ23_lin0; have := (h27).2; omega⟩
                  exact jn52  H locs ls (ib_w 0 1602 h51 rfl) (ib_w 0 1 hJ23_l4 rfl) (ib_w 0 2 h27 rfl) (ib_w 0 1599 hK23_x_this_at rfl) (ib_w 1 1 hK23_x_this_sort rfl) (by exact hq) hP hD hS (lv_sub hl [0, 1, 2, 3, 4, 5] rfl)
  refine lv_aload_n hx hb dX5_wordIn_0 rfl (lv_at hl 0 rfl) ?_
  refine k_get C0 fg_X5_21 hP 0 rfl rfl dX5_wordIn_1 ?_
  refine lv_iconst (v := 1) hx hb dX5_wordIn_4 rfl ?_
  refine lv_icmp_eq (tgt := 10) hx hb dX5_wordIn_5 rfl (fun c52 => ?_) (fun c52 => ?_)
  · replace hq := lf_pos hq (lf_eq (lf_rf x_this_sort) (lf_lc 1 (1 : Int) rfl) c52)
    have h53 := ib_eq hx_this_sort (ib_c 1 1 1 rfl) c52
    have h54 : ib x_this_sort 1 1 := ib_w 1 1 h53.1 rfl
    have h55 : ib x_this_at 0 1599 := ib_w 0 1599 (ib_two hx_this_at (hc0_this (ib_nz h54 rfl))) rfl
    refine lv_iconst (v := 0) hx hb dX5_wordIn_10 rfl ?_
    refine lv_istore_n (lv' := [(2, .int 0), (0, .ref a_this), (1, .ref (sq 10))]) hx hb dX5_wordIn_11 rfl hl (Nat.le_of_ble_eq_true rfl) rfl (fun ls hl => ?_)
    refine lv_aload_n hx hb dX5_wordIn_12 rfl (lv_at hl 1 rfl) ?_
    refine k_get C0 fg_X5_15 hP 0 rfl rfl dX5_wordIn_13 ?_
    refine lv_istore_n (lv' := [(3, .int x_this_at), (2, .int 0), (0, .ref a_this), (1, .ref (sq 10))]) hx hb dX5_wordIn_16 rfl hl (Nat.le_of_ble_eq_true rfl) rfl (fun ls hl => ?_)
    refine lv_iconst (v := 1) hx hb dX5_wordIn_17 rfl ?_
    refine lv_istore (lv' := [(4, .int 1), (3, .int x_this_at), (2, .int 0), (0, .ref a_this), (1, .ref (sq 10))]) hx hb dX5_wordIn_18 hl (Nat.le_of_ble_eq_true rfl) rfl (fun ls hl => ?_)
    refine lv_iconst (v := 0) hx hb dX5_wordIn_20 rfl ?_
    refine lv_istore (lv' := [(5, .int 0), (4, .int 1), (3, .int x_this_at), (2, .int 0), (0, .ref a_this), (1, .ref (sq 10))]) hx hb dX5_wordIn_21 hl (Nat.le_of_ble_eq_true rfl) rfl (fun ls hl => ?_)
    exact jn23 5 0 x_this_at 1 0 H locs ls (ib_w 0 1599 h55 rfl) (ib_w 1 1 h54 rfl) (ib_w 0 1602 h55 rfl) (ib_w 0 1 (ib_c 1 1 1 rfl) rfl) (ib_w 0 3 (ib_c 0 0 0 rfl) rfl) (by have : (0 : Int32).toInt = 0 := rfl; have := (h55).2; omega) (by try simp only [show (0 : Int32).toInt = (0 : Int) from rfl]; try simp only [show (1 : Int32).toInt = (1 : Int) from rfl]; exact hq) (by have := (ib_c 0 0 0 rfl); unfold ib at this; omega) hP hD hS (lv_sub hl [4, 5, 3, 2, 1, 0] rfl)
  · replace hq := lf_neg hq (lf_ne (lf_rf x_this_sort) (lf_lc 1 (1 : Int) rfl) c52)
    refine lv_iconst (v := (-1)) hx hb dX5_wordIn_8 rfl ?_
    subst hQ; exact k_iret hx hb hr hlk rfl () hS ((hO.symm.trans (by try simp only [show ((-1) : Int32).toInt = (-1 : Int) from rfl]; exact hq))) hP hD (Nat.le_of_ble_eq_true rfl) (Nat.le_of_ble_eq_true rfl) dX5_wordIn_9
set_option maxHeartbeats 4000000 in
set_option maxRecDepth 100000 in
theorem s_X5_needWord_s10 (l : Launch) (dC : Nat → ClassId) (dI : Nat → Nat → Nat) (cy : Nat → ClassId) (sq : Nat → Nat) (a_this : Nat) (a_this_text : Nat) (g_this_text : Nat → Int32) (x_this_length : Int32) (x_this_at : Int32) (x_this_behind : Int32) (x_this_sort : Int32) (x_this_allowed : Int32) (a_this_plan : Nat) (x_this_fault : Int32) (x_this_place : Int32) (hg_this_text : ia g_this_text 1600 0 255) (hx_this_length : ib x_this_length 0 1600) (hx_this_at : ib x_this_at 0 1600) (hx_this_behind : ib x_this_behind 0 1600) (hx_this_sort : ib x_this_sort 0 4) (hc0_this : ¬ x_this_sort = 0 → ib x_this_at 0 1599) : k_Met l yX5_needWord cX5_needWord 2 none { frames := 5, cells := 0, slots := 0, locals := 166 } dC dI cy sq [.ref a_this, .ref (sq 10)] [(wo_5_riiiiirii a_this a_this_text x_this_length x_this_at x_this_behind x_this_sort x_this_allowed a_this_plan x_this_fault x_this_place), (wi_0_1600_0 a_this_text cy g_this_text)] (k_Qv dC dI (fun (u : Int32 × Int32 × Int32 × Int32 × Int32) => match u with | (n0, n1, n2, n3, n4) => ib n0 0 1600 ∧ ib n1 0 1600 ∧ ib n2 0 4 ∧ (¬ n2 = 0 → ib n0 0 1599) ∧ (F_X5_needWord_s10 (lf_A g_this_text) (Int32.toInt x_this_length) (Int32.toInt x_this_at) (Int32.toInt x_this_behind) (Int32.toInt x_this_sort) (Int32.toInt x_this_fault) (Int32.toInt x_this_place) = ((Int32.toInt n0), (Int32.toInt n1), (Int32.toInt n2), (Int32.toInt n3), (Int32.toInt n4)))) (fun u : Int32 × Int32 × Int32 × Int32 × Int32 => match u with | (n0, n1, n2, n3, n4) => [(wo_5_riiiiirii a_this a_this_text x_this_length n0 n1 n2 x_this_allowed a_this_plan n3 n4), (wi_0_1600_0 a_this_text cy g_this_text)])) := by
  refine k_ofW2 (by decide +kernel) (Nat.le_of_ble_eq_true rfl) ?_
  intro p e s m below meth c A ls H locs args Q hQ C0 hZ hr hlk hin hP hD hA hS hl
  have C0 : k_cx p s m args c cX5_needWord 2 RX5 dC dI cy sq := C0
  have hx := C0.1
  have hb := C0.2.1
  have hl : lv_has ls 2 [(0, .ref a_this), (1, .ref (sq 10))] := hl
  obtain ⟨O, hO⟩ : ∃ o, o = F_X5_needWord_s10 (lf_A g_this_text) (Int32.toInt x_this_length) (Int32.toInt x_this_at) (Int32.toInt x_this_behind) (Int32.toInt x_this_sort) (Int32.toInt x_this_fault) (Int32.toInt x_this_place) := ⟨_, rfl⟩
  have hq := hO
  unfold F_X5_needWord_s10 at hq
  refine lv_aload_n hx hb dX5_needWord_0 rfl (lv_at hl 0 rfl) ?_
  refine lv_aload_n hx hb dX5_needWord_1 rfl (lv_at hl 1 rfl) ?_
  refine k_jim hP hD hS hA [0, 1] [] rfl rfl rfl 0 0 (Nat.le_of_ble_eq_true rfl) (Nat.le_of_ble_eq_true rfl) (fun hPc hDc => k_runV (As := [.ref (sq 10)]) (rest := []) C0 hZ hS hA (s_X5_wordIn_s10 l dC dI cy sq a_this a_this_text g_this_text x_this_length x_this_at x_this_behind x_this_sort x_this_allowed a_this_plan x_this_fault x_this_place hg_this_text (ib_w 0 1600 hx_this_at rfl) (ib_w 0 1600 hx_this_behind rfl) (ib_w 0 4 hx_this_sort rfl) (fun hq9 => ib_w 0 1599 (hc0_this hq9) rfl)) mV_X5_54 hPc hDc rfl rfl rfl hl rfl rfl (Nat.le_of_ble_eq_true rfl) ⟨(Nat.le_of_ble_eq_true rfl), (Nat.le_of_ble_eq_true rfl)⟩ ⟨(Nat.le_of_ble_eq_true rfl), (Nat.le_of_ble_eq_true rfl)⟩ dX5_needWord_2) (fun r1 u2 H locs hw hP hD hS => ?_)
  try dsimp only at hP hD hw
  replace hP : va_P (dC, dI) vwCl [(wo_5_riiiiirii a_this a_this_text x_this_length x_this_at x_this_behind x_this_sort x_this_allowed a_this_plan x_this_fault x_this_place), (wi_0_1600_0 a_this_text cy g_this_text)] H := hP
  replace hD := k_D hP hD
  have h3 := hw
  replace hq := lf_b1 hq h3
  refine lv_iconst (v := (-1)) hx hb dX5_needWord_5 rfl ?_
  refine lv_icmp_ne (tgt := 21) hx hb dX5_needWord_6 rfl (fun c4 => ?_) (fun c4 => ?_)
  · replace hq := lf_neg hq (lf_ne (lf_rf r1) (lf_lc (-1) (-1 : Int) rfl) c4)
    refine lv_aload_n hx hb dX5_needWord_21 rfl (lv_at hl 0 rfl) ?_
    refine lv_aload_n hx hb dX5_needWord_22 rfl (lv_at hl 0 rfl) ?_
    refine k_get C0 fg_X5_18 hP 0 rfl rfl dX5_needWord_23 ?_
    refine k_jvm hP hD hS hA [0, 1] [] rfl rfl rfl 0 0 (Nat.le_of_ble_eq_true rfl) (Nat.le_of_ble_eq_true rfl) (fun hPc hDc => k_runV (As := [.int x_this_behind]) (rest := []) C0 hZ hS hA (s_X5_moveTo l dC dI cy sq a_this a_this_text g_this_text x_this_length x_this_at x_this_behind x_this_sort x_this_allowed a_this_plan x_this_fault x_this_place x_this_behind hg_this_text (ib_w 0 1600 hx_this_length rfl) (ib_w 0 1600 hx_this_behind rfl)) mV_X5_86 hPc hDc rfl rfl rfl hl rfl rfl (Nat.le_of_ble_eq_true rfl) ⟨(Nat.le_of_ble_eq_true rfl), (Nat.le_of_ble_eq_true rfl)⟩ ⟨(Nat.le_of_ble_eq_true rfl), (Nat.le_of_ble_eq_true rfl)⟩ dX5_needWord_26) (fun u6 H locs hw hP hD hS => ?_)
    obtain ⟨v7, v8, v9⟩ := u6
    try dsimp only at hP hD hw
    replace hP : va_P (dC, dI) vwCl [(wo_5_riiiiirii a_this a_this_text x_this_length v7 v8 v9 x_this_allowed a_this_plan x_this_fault x_this_place), (wi_0_1600_0 a_this_text cy g_this_text)] H := hP
    replace hD := k_D hP hD
    obtain ⟨h10, h11, h12, h13, h14⟩ := hw
    replace hq := lf_p1 hq h14
    replace hq := lf_p1 hq rfl
    subst hQ; exact k_vret hx hb hr hlk ((v7, v8, v9, x_this_fault, x_this_place)) hS ⟨ib_w 0 1600 h10 rfl, ib_w 0 1600 h11 rfl, ib_w 0 4 h12 rfl, fun hq9 => ib_w 0 1599 (h13 hq9) rfl, (hO.symm.trans (by exact hq))⟩ hP hD (Nat.le_of_ble_eq_true rfl) (Nat.le_of_ble_eq_true rfl) dX5_needWord_29
  · replace hq := lf_pos hq (lf_eq (lf_rf r1) (lf_lc (-1) (-1 : Int) rfl) c4)
    have h15 := ib_eq (ib_any r1) (ib_c (-1) (-1) (-1) rfl) c4
    have h16 : ib r1 (-1) (-1) := ib_w (-1) (-1) h15.1 rfl
    refine lv_aload_n hx hb dX5_needWord_9 rfl (lv_at hl 0 rfl) ?_
    refine lv_iconst (v := 1) hx hb dX5_needWord_10 rfl ?_
    refine lv_aload_n hx hb dX5_needWord_11 rfl (lv_at hl 0 rfl) ?_
    refine k_get C0 fg_X5_15 hP 0 rfl rfl dX5_needWord_12 ?_
    refine k_jvm hP hD hS hA [0] [false, true] rfl rfl rfl 0 0 (Nat.le_of_ble_eq_true rfl) (Nat.le_of_ble_eq_true rfl) (fun hPc hDc => k_runV (As := [.int 1, .int x_this_at]) (rest := []) C0 hZ hS hA (s_X5_fail l dC dI cy sq a_this a_this_text x_this_length x_this_at x_this_behind x_this_sort x_this_allowed a_this_plan x_this_fault x_this_place 1 x_this_at ) mV_X5_78 hPc hDc rfl rfl rfl hl rfl rfl (Nat.le_of_ble_eq_true rfl) ⟨(Nat.le_of_ble_eq_true rfl), (Nat.le_of_ble_eq_true rfl)⟩ ⟨(Nat.le_of_ble_eq_true rfl), (Nat.le_of_ble_eq_true rfl)⟩ dX5_needWord_15) (fun u18 H locs hw hP hD hS => ?_)
    obtain ⟨v19, v20⟩ := u18
    try dsimp only at hP hD hw
    replace hP : va_P (dC, dI) vwCl [(wi_0_1600_0 a_this_text cy g_this_text), (wo_5_riiiiirii a_this a_this_text x_this_length x_this_length x_this_length 0 x_this_allowed a_this_plan v19 v20)] H := hP
    replace hD := k_D hP hD
    have h21 := hw
    have h21 := by have h9 := h21; try simp only [show (1 : Int32).toInt = (1 : Int) from rfl] at h9; exact h9
    replace hq := lf_p1 hq h21
    refine lv_goto (tgt := 29) hx hb dX5_needWord_18 rfl ?_
    subst hQ; exact k_vret hx hb hr hlk ((x_this_length, x_this_length, 0, v19, v20)) hS ⟨ib_w 0 1600 hx_this_length rfl, ib_w 0 1600 hx_this_length rfl, ib_w 0 4 (ib_c 0 0 0 rfl) rfl, fun hq9 => absurd rfl hq9, (hO.symm.trans (by try simp only [show (0 : Int32).toInt = (0 : Int) from rfl]; exact hq))⟩ (hP.sub [1, 0] rfl) (hD.sub [1, 0] rfl rfl) (Nat.le_of_ble_eq_true rfl) (Nat.le_of_ble_eq_true rfl) dX5_needWord_29
set_option maxHeartbeats 4000000 in
set_option maxRecDepth 100000 in
theorem s_X5_knownKind (l : Launch) (dC : Nat → ClassId) (dI : Nat → Nat → Nat) (cy : Nat → ClassId) (sq : Nat → Nat) (a_this : Nat) (a_this_text : Nat) (g_this_text : Nat → Int32) (x_this_length : Int32) (x_this_at : Int32) (x_this_behind : Int32) (x_this_sort : Int32) (x_this_allowed : Int32) (a_this_plan : Nat) (x_this_plan_cycle : Int32) (x_this_plan_green : Int32) (x_this_plan_rule : Int32) (x_this_plan_least : Int32) (x_this_plan_away : Int32) (x_this_plan_statements : Int32) (x_this_plan_kinds : Int32) (a_this_plan_calm : Nat) (a_this_plan_pace : Nat) (a_this_plan_trusts : Nat) (x_this_plan_walkers : Int32) (a_this_plan_kindOf : Nat) (a_this_plan_comesAt : Nat) (a_this_plan_comers : Nat) (a_this_plan_names : Nat) (g_this_plan_names : Nat → Int32) (a_this_plan_code : Nat) (x_this_plan_size : Int32) (a_this_plan_spans : Nat) (x_this_fault : Int32) (x_this_place : Int32) (hg_this_text : ia g_this_text 1600 0 255) (hx_this_length : ib x_this_length 0 1600) (hx_this_at : ib x_this_at 0 1600) (hx_this_behind : ib x_this_behind 0 1600) (hx_this_sort : ib x_this_sort 0 4) (hx_this_plan_kinds : ib x_this_plan_kinds 0 6) (hc0_this : ¬ x_this_sort = 0 → ib x_this_at 0 1599) : k_Met l yX5_knownKind cX5_knownKind 2 (some .int) { frames := 6, cells := 0, slots := 0, locals := 186 } dC dI cy sq [.ref a_this] [(wo_5_riiiiirii a_this a_this_text x_this_length x_this_at x_this_behind x_this_sort x_this_allowed a_this_plan x_this_fault x_this_place), (wi_0_1600_0 a_this_text cy g_this_text), (wo_4_iiiiiiirrrirrrrrir a_this_plan x_this_plan_cycle x_this_plan_green x_this_plan_rule x_this_plan_least x_this_plan_away x_this_plan_statements x_this_plan_kinds a_this_plan_calm a_this_plan_pace a_this_plan_trusts x_this_plan_walkers a_this_plan_kindOf a_this_plan_comesAt a_this_plan_comers a_this_plan_names a_this_plan_code x_this_plan_size a_this_plan_spans), (wi_0_108_0 a_this_plan_names cy g_this_plan_names)] (k_Qi dC dI (fun (r : Int32) (u : Int32 × Int32 × Int32 × Int32 × Int32) => match u with | (n0, n1, n2, n3, n4) => ib r 0 5 ∧ ib n0 0 1600 ∧ ib n1 0 1600 ∧ ib n2 0 4 ∧ (¬ n2 = 0 → ib n0 0 1599) ∧ (F_X5_knownKind (lf_A g_this_text) (Int32.toInt x_this_length) (Int32.toInt x_this_at) (Int32.toInt x_this_behind) (Int32.toInt x_this_sort) (Int32.toInt x_this_plan_kinds) (lf_A g_this_plan_names) (Int32.toInt x_this_fault) (Int32.toInt x_this_place) = ((Int32.toInt r), (Int32.toInt n0), (Int32.toInt n1), (Int32.toInt n2), (Int32.toInt n3), (Int32.toInt n4)))) (fun u : Int32 × Int32 × Int32 × Int32 × Int32 => match u with | (n0, n1, n2, n3, n4) => [(wo_5_riiiiirii a_this a_this_text x_this_length n0 n1 n2 x_this_allowed a_this_plan n3 n4), (wi_0_1600_0 a_this_text cy g_this_text), (wo_4_iiiiiiirrrirrrrrir a_this_plan x_this_plan_cycle x_this_plan_green x_this_plan_rule x_this_plan_least x_this_plan_away x_this_plan_statements x_this_plan_kinds a_this_plan_calm a_this_plan_pace a_this_plan_trusts x_this_plan_walkers a_this_plan_kindOf a_this_plan_comesAt a_this_plan_comers a_this_plan_names a_this_plan_code x_this_plan_size a_this_plan_spans), (wi_0_108_0 a_this_plan_names cy g_this_plan_names)])) := by
  refine k_ofW2 (by decide +kernel) (Nat.le_of_ble_eq_true rfl) ?_
  intro p e s m below meth c A ls H locs args Q hQ C0 hZ hr hlk hin hP hD hA hS hl
  have C0 : k_cx p s m args c cX5_knownKind 2 RX5 dC dI cy sq := C0
  have hx := C0.1
  have hb := C0.2.1
  have hl : lv_has ls 2 [(0, .ref a_this)] := hl
  obtain ⟨O, hO⟩ : ∃ o, o = F_X5_knownKind (lf_A g_this_text) (Int32.toInt x_this_length) (Int32.toInt x_this_at) (Int32.toInt x_this_behind) (Int32.toInt x_this_sort) (Int32.toInt x_this_plan_kinds) (lf_A g_this_plan_names) (Int32.toInt x_this_fault) (Int32.toInt x_this_place) := ⟨_, rfl⟩
  have hq := hO
  unfold F_X5_knownKind at hq
  refine lv_aload_n hx hb dX5_knownKind_0 rfl (lv_at hl 0 rfl) ?_
  refine k_jim hP hD hS hA [0, 1] [false, false, true, true] rfl rfl rfl 0 0 (Nat.le_of_ble_eq_true rfl) (Nat.le_of_ble_eq_true rfl) (fun hPc hDc => k_runV (As := []) (rest := []) C0 hZ hS hA (s_X5_isName l dC dI cy sq a_this a_this_text g_this_text x_this_length x_this_at x_this_behind x_this_sort x_this_allowed a_this_plan x_this_fault x_this_place hg_this_text (ib_w 0 1600 hx_this_at rfl) (ib_w 0 1600 hx_this_behind rfl) (ib_w 0 4 hx_this_sort rfl) (fun hq9 => ib_w 0 1599 (hc0_this hq9) rfl)) mV_X5_171 hPc hDc rfl rfl rfl hl rfl rfl (Nat.le_of_ble_eq_true rfl) ⟨(Nat.le_of_ble_eq_true rfl), (Nat.le_of_ble_eq_true rfl)⟩ ⟨(Nat.le_of_ble_eq_true rfl), (Nat.le_of_ble_eq_true rfl)⟩ dX5_knownKind_1) (fun r1 u2 H locs hw hP hD hS => ?_)
  try dsimp only at hP hD hw
  replace hP : va_P (dC, dI) vwCl [(wo_4_iiiiiiirrrirrrrrir a_this_plan x_this_plan_cycle x_this_plan_green x_this_plan_rule x_this_plan_least x_this_plan_away x_this_plan_statements x_this_plan_kinds a_this_plan_calm a_this_plan_pace a_this_plan_trusts x_this_plan_walkers a_this_plan_kindOf a_this_plan_comesAt a_this_plan_comers a_this_plan_names a_this_plan_code x_this_plan_size a_this_plan_spans), (wi_0_108_0 a_this_plan_names cy g_this_plan_names), (wo_5_riiiiirii a_this a_this_text x_this_length x_this_at x_this_behind x_this_sort x_this_allowed a_this_plan x_this_fault x_this_place), (wi_0_1600_0 a_this_text cy g_this_text)] H := hP
  replace hD := k_D hP hD
  obtain ⟨h3, h4, h5, h6⟩ := hw
  replace hq := lf_b1 hq h6
  refine lv_if_ne (tgt := 18) hx hb dX5_knownKind_4 rfl (fun c7 => ?_) (fun c7 => ?_)
  · as_aux_lemma =>
      replace hq := lf_neg hq (lf_ne (lf_rf r1) (lf_lc 0 (0 : Int) rfl) c7)
      have h8 : ib r1 1 1 := ib_w 1 1 (ib_ne_lo 0 h3 rfl c7) rfl
      have h9 : ib x_this_at 0 1599 := ib_w 0 1599 (ib_two hx_this_at (h4 c7)) rfl
      have h10 : ib x_this_sort 1 1 := ib_w 1 1 (ib_two hx_this_sort (h5 c7)) rfl
      refine lv_aload_n hx hb dX5_knownKind_18 rfl (lv_at hl 0 rfl) ?_
      refine lv_iconst (v := 0) hx hb dX5_knownKind_19 rfl ?_
      refine lv_aload_n hx hb dX5_knownKind_20 rfl (lv_at hl 0 rfl) ?_
      refine k_get C0 fg_X5_37 hP 2 rfl rfl dX5_knownKind_21 ?_
      refine k_get C0 fg_X5_121 hP 0 rfl rfl dX5_knownKind_24 ?_
      refine k_jim hP hD hS hA [2, 0, 1, 3] [] rfl rfl rfl 0 0 (Nat.le_of_ble_eq_true rfl) (Nat.le_of_ble_eq_true rfl) (fun hPc hDc => k_runV (As := [.int 0, .int x_this_plan_kinds]) (rest := []) C0 hZ hS hA (s_X5_slotOf_a0_0_i1_0_6 l dC dI cy sq a_this a_this_text g_this_text x_this_length x_this_at x_this_behind x_this_sort x_this_allowed a_this_plan x_this_plan_cycle x_this_plan_green x_this_plan_rule x_this_plan_least x_this_plan_away x_this_plan_statements x_this_plan_kinds a_this_plan_calm a_this_plan_pace a_this_plan_trusts x_this_plan_walkers a_this_plan_kindOf a_this_plan_comesAt a_this_plan_comers a_this_plan_names g_this_plan_names a_this_plan_code x_this_plan_size a_this_plan_spans x_this_fault x_this_place x_this_plan_kinds hg_this_text (ib_w 0 1600 h9 rfl) (ib_w 0 1600 hx_this_behind rfl) (ib_w 0 6 hx_this_plan_kinds rfl)) mV_X5_178 hPc hDc rfl rfl rfl hl rfl rfl (Nat.le_of_ble_eq_true rfl) ⟨(Nat.le_of_ble_eq_true rfl), (Nat.le_of_ble_eq_true rfl)⟩ ⟨(Nat.le_of_ble_eq_true rfl), (Nat.le_of_ble_eq_true rfl)⟩ dX5_knownKind_27) (fun r11 u12 H locs hw hP hD hS => ?_)
      try dsimp only at hP hD hw
      replace hP : va_P (dC, dI) vwCl [(wo_5_riiiiirii a_this a_this_text x_this_length x_this_at x_this_behind x_this_sort x_this_allowed a_this_plan x_this_fault x_this_place), (wo_4_iiiiiiirrrirrrrrir a_this_plan x_this_plan_cycle x_this_plan_green x_this_plan_rule x_this_plan_least x_this_plan_away x_this_plan_statements x_this_plan_kinds a_this_plan_calm a_this_plan_pace a_this_plan_trusts x_this_plan_walkers a_this_plan_kindOf a_this_plan_comesAt a_this_plan_comers a_this_plan_names a_this_plan_code x_this_plan_size a_this_plan_spans), (wi_0_108_0 a_this_plan_names cy g_this_plan_names), (wi_0_1600_0 a_this_text cy g_this_text)] H := hP
      replace hD := k_D hP hD
      obtain ⟨h13, h14⟩ := hw
      replace hq := lf_b1 hq h14
      refine lv_istore_n (lv' := [(1, .int r11), (0, .ref a_this)]) hx hb dX5_knownKind_30 rfl hl (Nat.le_of_ble_eq_true rfl) rfl (fun ls hl => ?_)
      refine lv_iload_n hx hb dX5_knownKind_31 rfl (lv_at hl 0 rfl) ?_
      refine lv_iconst (v := (-1)) hx hb dX5_knownKind_32 rfl ?_
      refine lv_icmp_ne (tgt := 47) hx hb dX5_knownKind_33 rfl (fun c15 => ?_) (fun c15 => ?_)
      · replace hq := lf_neg hq (lf_ne (lf_rf r11) (lf_lc (-1) (-1 : Int) rfl) c15)
        have h16 : ib r11 0 5 := ib_w 0 5 (ib_ne_lo (-1) h13 rfl c15) rfl
        refine lv_aload_n hx hb dX5_knownKind_47 rfl (lv_at hl 1 rfl) ?_
        refine lv_aload_n hx hb dX5_knownKind_48 rfl (lv_at hl 1 rfl) ?_
        refine k_get C0 fg_X5_18 hP 0 rfl rfl dX5_knownKind_49 ?_
        refine k_jvm hP hD hS hA [0, 3] [false, true, true] rfl rfl rfl 0 0 (Nat.le_of_ble_eq_true rfl) (Nat.le_of_ble_eq_true rfl) (fun hPc hDc => k_runV (As := [.int x_this_behind]) (rest := []) C0 hZ hS hA (s_X5_moveTo l dC dI cy sq a_this a_this_text g_this_text x_this_length x_this_at x_this_behind x_this_sort x_this_allowed a_this_plan x_this_fault x_this_place x_this_behind hg_this_text (ib_w 0 1600 hx_this_length rfl) (ib_w 0 1600 hx_this_behind rfl)) mV_X5_86 hPc hDc rfl rfl rfl hl rfl rfl (Nat.le_of_ble_eq_true rfl) ⟨(Nat.le_of_ble_eq_true rfl), (Nat.le_of_ble_eq_true rfl)⟩ ⟨(Nat.le_of_ble_eq_true rfl), (Nat.le_of_ble_eq_true rfl)⟩ dX5_knownKind_52) (fun u18 H locs hw hP hD hS => ?_)
        obtain ⟨v19, v20, v21⟩ := u18
        try dsimp only at hP hD hw
        replace hP : va_P (dC, dI) vwCl [(wo_4_iiiiiiirrrirrrrrir a_this_plan x_this_plan_cycle x_this_plan_green x_this_plan_rule x_this_plan_least x_this_plan_away x_this_plan_statements x_this_plan_kinds a_this_plan_calm a_this_plan_pace a_this_plan_trusts x_this_plan_walkers a_this_plan_kindOf a_this_plan_comesAt a_this_plan_comers a_this_plan_names a_this_plan_code x_this_plan_size a_this_plan_spans), (wi_0_108_0 a_this_plan_names cy g_this_plan_names), (wo_5_riiiiirii a_this a_this_text x_this_length v19 v20 v21 x_this_allowed a_this_plan x_this_fault x_this_place), (wi_0_1600_0 a_this_text cy g_this_text)] H := hP
        replace hD := k_D hP hD
        obtain ⟨h22, h23, h24, h25, h26⟩ := hw
        replace hq := lf_p1 hq h26
        replace hq := lf_p1 hq rfl
        refine lv_iload_n hx hb dX5_knownKind_55 rfl (lv_at hl 0 rfl) ?_
        subst hQ; exact k_iret hx hb hr hlk rfl ((v19, v20, v21, x_this_fault, x_this_place)) hS ⟨ib_w 0 5 h16 rfl, ib_w 0 1600 h22 rfl, ib_w 0 1600 h23 rfl, ib_w 0 4 h24 rfl, fun hq9 => ib_w 0 1599 (h25 hq9) rfl, (hO.symm.trans (by exact hq))⟩ (hP.sub [2, 3, 0, 1] rfl) (hD.sub [2, 3, 0, 1] rfl rfl) (Nat.le_of_ble_eq_true rfl) (Nat.le_of_ble_eq_true rfl) dX5_knownKind_56
      · replace hq := lf_pos hq (lf_eq (lf_rf r11) (lf_lc (-1) (-1 : Int) rfl) c15)
        have h27 := ib_eq h13 (ib_c (-1) (-1) (-1) rfl) c15
        have h28 : ib r11 (-1) (-1) := ib_w (-1) (-1) h27.1 rfl
        refine lv_aload_n hx hb dX5_knownKind_36 rfl (lv_at hl 1 rfl) ?_
        refine lv_iconst (v := 3) hx hb dX5_knownKind_37 rfl ?_
        refine lv_aload_n hx hb dX5_knownKind_38 rfl (lv_at hl 1 rfl) ?_
        refine k_get C0 fg_X5_15 hP 0 rfl rfl dX5_knownKind_39 ?_
        refine k_jvm hP hD hS hA [0] [false, true, true, true] rfl rfl rfl 0 0 (Nat.le_of_ble_eq_true rfl) (Nat.le_of_ble_eq_true rfl) (fun hPc hDc => k_runV (As := [.int 3, .int x_this_at]) (rest := []) C0 hZ hS hA (s_X5_fail l dC dI cy sq a_this a_this_text x_this_length x_this_at x_this_behind x_this_sort x_this_allowed a_this_plan x_this_fault x_this_place 3 x_this_at ) mV_X5_78 hPc hDc rfl rfl rfl hl rfl rfl (Nat.le_of_ble_eq_true rfl) ⟨(Nat.le_of_ble_eq_true rfl), (Nat.le_of_ble_eq_true rfl)⟩ ⟨(Nat.le_of_ble_eq_true rfl), (Nat.le_of_ble_eq_true rfl)⟩ dX5_knownKind_42) (fun u30 H locs hw hP hD hS => ?_)
        obtain ⟨v31, v32⟩ := u30
        try dsimp only at hP hD hw
        replace hP : va_P (dC, dI) vwCl [(wo_4_iiiiiiirrrirrrrrir a_this_plan x_this_plan_cycle x_this_plan_green x_this_plan_rule x_this_plan_least x_this_plan_away x_this_plan_statements x_this_plan_kinds a_this_plan_calm a_this_plan_pace a_this_plan_trusts x_this_plan_walkers a_this_plan_kindOf a_this_plan_comesAt a_this_plan_comers a_this_plan_names a_this_plan_code x_this_plan_size a_this_plan_spans), (wi_0_108_0 a_this_plan_names cy g_this_plan_names), (wi_0_1600_0 a_this_text cy g_this_text), (wo_5_riiiiirii a_this a_this_text x_this_length x_this_length x_this_length 0 x_this_allowed a_this_plan v31 v32)] H := hP
        replace hD := k_D hP hD
        have h33 := hw
        have h33 := by have h9 := h33; try simp only [show (3 : Int32).toInt = (3 : Int) from rfl] at h9; exact h9
        replace hq := lf_p1 hq h33
        refine lv_iconst (v := 0) hx hb dX5_knownKind_45 rfl ?_
        subst hQ; exact k_iret hx hb hr hlk rfl ((x_this_length, x_this_length, 0, v31, v32)) hS ⟨ib_w 0 5 (ib_c 0 0 0 rfl) rfl, ib_w 0 1600 hx_this_length rfl, ib_w 0 1600 hx_this_length rfl, ib_w 0 4 (ib_c 0 0 0 rfl) rfl, fun hq9 => absurd rfl hq9, (hO.symm.trans (by try simp only [show (0 : Int32).toInt = (0 : Int) from rfl]; exact hq))⟩ (hP.sub [3, 2, 0, 1] rfl) (hD.sub [3, 2, 0, 1] rfl rfl) (Nat.le_of_ble_eq_true rfl) (Nat.le_of_ble_eq_true rfl) dX5_knownKind_46
  · as_aux_lemma =>
      replace hq := lf_pos hq (lf_eq (lf_rf r1) (lf_lc 0 (0 : Int) rfl) c7)
      have h34 := ib_eq h3 (ib_c 0 0 0 rfl) c7
      have h35 : ib r1 0 0 := ib_w 0 0 h34.1 rfl
      refine lv_aload_n hx hb dX5_knownKind_7 rfl (lv_at hl 0 rfl) ?_
      refine lv_iconst (v := 1) hx hb dX5_knownKind_8 rfl ?_
      refine lv_aload_n hx hb dX5_knownKind_9 rfl (lv_at hl 0 rfl) ?_
      refine k_jim hP hD hS hA [2] [true, true, false, true] rfl rfl rfl 0 0 (Nat.le_of_ble_eq_true rfl) (Nat.le_of_ble_eq_true rfl) (fun hPc hDc => k_runV (As := []) (rest := [.int 1, .ref a_this]) C0 hZ hS hA (s_X5_wrongInName l dC dI cy sq a_this a_this_text x_this_length x_this_at x_this_behind x_this_sort x_this_allowed a_this_plan x_this_fault x_this_place (ib_w 0 1600 hx_this_at rfl) (ib_w 0 1600 hx_this_behind rfl) (ib_w 0 4 hx_this_sort rfl) (fun hq9 => ib_w 0 1599 (hc0_this hq9) rfl)) mV_X5_175 hPc hDc rfl rfl rfl hl rfl rfl (Nat.le_of_ble_eq_true rfl) ⟨(Nat.le_of_ble_eq_true rfl), (Nat.le_of_ble_eq_true rfl)⟩ ⟨(Nat.le_of_ble_eq_true rfl), (Nat.le_of_ble_eq_true rfl)⟩ dX5_knownKind_10) (fun r36 u37 H locs hw hP hD hS => ?_)
      try dsimp only at hP hD hw
      replace hP : va_P (dC, dI) vwCl [(wo_4_iiiiiiirrrirrrrrir a_this_plan x_this_plan_cycle x_this_plan_green x_this_plan_rule x_this_plan_least x_this_plan_away x_this_plan_statements x_this_plan_kinds a_this_plan_calm a_this_plan_pace a_this_plan_trusts x_this_plan_walkers a_this_plan_kindOf a_this_plan_comesAt a_this_plan_comers a_this_plan_names a_this_plan_code x_this_plan_size a_this_plan_spans), (wi_0_108_0 a_this_plan_names cy g_this_plan_names), (wi_0_1600_0 a_this_text cy g_this_text), (wo_5_riiiiirii a_this a_this_text x_this_length x_this_at x_this_behind x_this_sort x_this_allowed a_this_plan x_this_fault x_this_place)] H := hP
      replace hD := k_D hP hD
      obtain ⟨h38, h39⟩ := hw
      replace hq := lf_b1 hq h39
      refine k_jvm hP hD hS hA [3] [true, true, true] rfl rfl rfl 0 0 (Nat.le_of_ble_eq_true rfl) (Nat.le_of_ble_eq_true rfl) (fun hPc hDc => k_runV (As := [.int 1, .int r36]) (rest := []) C0 hZ hS hA (s_X5_fail l dC dI cy sq a_this a_this_text x_this_length x_this_at x_this_behind x_this_sort x_this_allowed a_this_plan x_this_fault x_this_place 1 r36 ) mV_X5_78 hPc hDc rfl rfl rfl hl rfl rfl (Nat.le_of_ble_eq_true rfl) ⟨(Nat.le_of_ble_eq_true rfl), (Nat.le_of_ble_eq_true rfl)⟩ ⟨(Nat.le_of_ble_eq_true rfl), (Nat.le_of_ble_eq_true rfl)⟩ dX5_knownKind_13) (fun u41 H locs hw hP hD hS => ?_)
      obtain ⟨v42, v43⟩ := u41
      try dsimp only at hP hD hw
      replace hP : va_P (dC, dI) vwCl [(wo_4_iiiiiiirrrirrrrrir a_this_plan x_this_plan_cycle x_this_plan_green x_this_plan_rule x_this_plan_least x_this_plan_away x_this_plan_statements x_this_plan_kinds a_this_plan_calm a_this_plan_pace a_this_plan_trusts x_this_plan_walkers a_this_plan_kindOf a_this_plan_comesAt a_this_plan_comers a_this_plan_names a_this_plan_code x_this_plan_size a_this_plan_spans), (wi_0_108_0 a_this_plan_names cy g_this_plan_names), (wi_0_1600_0 a_this_text cy g_this_text), (wo_5_riiiiirii a_this a_this_text x_this_length x_this_length x_this_length 0 x_this_allowed a_this_plan v42 v43)] H := hP
      replace hD := k_D hP hD
      have h44 := hw
      have h44 := by have h9 := h44; try simp only [show (1 : Int32).toInt = (1 : Int) from rfl] at h9; exact h9
      replace hq := lf_p1 hq h44
      refine lv_iconst (v := 0) hx hb dX5_knownKind_16 rfl ?_
      subst hQ; exact k_iret hx hb hr hlk rfl ((x_this_length, x_this_length, 0, v42, v43)) hS ⟨ib_w 0 5 (ib_c 0 0 0 rfl) rfl, ib_w 0 1600 hx_this_length rfl, ib_w 0 1600 hx_this_length rfl, ib_w 0 4 (ib_c 0 0 0 rfl) rfl, fun hq9 => absurd rfl hq9, (hO.symm.trans (by try simp only [show (0 : Int32).toInt = (0 : Int) from rfl]; exact hq))⟩ (hP.sub [3, 2, 0, 1] rfl) (hD.sub [3, 2, 0, 1] rfl rfl) (Nat.le_of_ble_eq_true rfl) (Nat.le_of_ble_eq_true rfl) dX5_knownKind_17
set_option maxHeartbeats 4000000 in
set_option maxRecDepth 100000 in
theorem s_X5_wordIn_s11 (l : Launch) (dC : Nat → ClassId) (dI : Nat → Nat → Nat) (cy : Nat → ClassId) (sq : Nat → Nat) (a_this : Nat) (a_this_text : Nat) (g_this_text : Nat → Int32) (x_this_length : Int32) (x_this_at : Int32) (x_this_behind : Int32) (x_this_sort : Int32) (x_this_allowed : Int32) (a_this_plan : Nat) (x_this_fault : Int32) (x_this_place : Int32) (hg_this_text : ia g_this_text 1600 0 255) (hx_this_at : ib x_this_at 0 1600) (hx_this_behind : ib x_this_behind 0 1600) (hx_this_sort : ib x_this_sort 0 4) (hc0_this : ¬ x_this_sort = 0 → ib x_this_at 0 1599) : k_Met l yX5_wordIn cX5_wordIn 6 (some .int) { frames := 4, cells := 0, slots := 0, locals := 141 } dC dI cy sq [.ref a_this, .ref (sq 11)] [(wo_5_riiiiirii a_this a_this_text x_this_length x_this_at x_this_behind x_this_sort x_this_allowed a_this_plan x_this_fault x_this_place), (wi_0_1600_0 a_this_text cy g_this_text)] (k_Qi dC dI (fun (r : Int32) (_ : Unit) => (F_X5_wordIn_s11 (lf_A g_this_text) (Int32.toInt x_this_at) (Int32.toInt x_this_behind) (Int32.toInt x_this_sort) = ((Int32.toInt r)))) (fun _ : Unit => [(wo_5_riiiiirii a_this a_this_text x_this_length x_this_at x_this_behind x_this_sort x_this_allowed a_this_plan x_this_fault x_this_place), (wi_0_1600_0 a_this_text cy g_this_text)])) := by
  refine k_ofW2 (by decide +kernel) (Nat.le_of_ble_eq_true rfl) ?_
  intro p e s m below meth c A ls H locs args Q hQ C0 hZ hr hlk hin hP hD hA hS hl
  have C0 : k_cx p s m args c cX5_wordIn 6 RX5 dC dI cy sq := C0
  have hx := C0.1
  have hb := C0.2.1
  have hl : lv_has ls 6 [(0, .ref a_this), (1, .ref (sq 11))] := hl
  obtain ⟨O, hO⟩ : ∃ o, o = F_X5_wordIn_s11 (lf_A g_this_text) (Int32.toInt x_this_at) (Int32.toInt x_this_behind) (Int32.toInt x_this_sort) := ⟨_, rfl⟩
  have hq := hO
  unfold F_X5_wordIn_s11 at hq
  have jn23 : ∀ (n : Nat) (J23_l2 : Int32) (J23_l3 : Int32) (J23_l4 : Int32) (J23_l5 : Int32) (H : Heap) (locs : List Loc) (ls : Array Slot), ib x_this_at 0 1599 → ib x_this_sort 1 1 → ib J23_l3 0 1602 → ib J23_l4 0 1 → ib J23_l5 0 3 → (1 * J23_l3.toInt + (-1) * J23_l5.toInt ≤ 1600) → (O = F_X5_wordIn_s11_23 (lf_A g_this_text) (Int32.toInt x_this_at) (Int32.toInt x_this_behind) n (Int32.toInt J23_l2) (Int32.toInt J23_l3) (Int32.toInt J23_l4) (Int32.toInt J23_l5)) → 4 ≤ J23_l5.toInt + (n : Int) → va_P (dC, dI) vwCl [(wo_5_riiiiirii a_this a_this_text x_this_length x_this_at x_this_behind x_this_sort x_this_allowed a_this_plan x_this_fault x_this_place), (wi_0_1600_0 a_this_text cy g_this_text)] H → va_D A [(wo_5_riiiiirii a_this a_this_text x_this_length x_this_at x_this_behind x_this_sort x_this_allowed a_this_plan x_this_fault x_this_place), (wi_0_1600_0 a_this_text cy g_this_text)] → va_S A s.heap H locs → lv_has ls 6 [(0, .ref a_this), (1, .ref (sq 11)), (2, .int J23_l2), (3, .int J23_l3), (4, .int J23_l4), (5, .int J23_l5)] → W p l e { frames := 4, cells := 0, slots := 0, locals := 141 } s m args below meth c H locs 0 0 Q (F0 m 23 ls []) := by
    as_aux_lemma =>
      intro n
      induction n with
      | zero =>
        intro J23_l2 J23_l3 J23_l4 J23_l5 H locs ls hK23_x_this_at hK23_x_this_sort hJ23_l3 hJ23_l4 hJ23_l5 hJ23_lin0 hq hm
        exact absurd hm (by have := hJ23_l5; unfold ib at this; omega)
      | succ n ih =>
        intro J23_l2 J23_l3 J23_l4 J23_l5 H locs ls hK23_x_this_at hK23_x_this_sort hJ23_l3 hJ23_l4 hJ23_l5 hJ23_lin0 hq hm23 hP hD hS hl
        have ih23 := ih
        obtain ⟨K23, hK23⟩ : ∃ K, K = F_X5_wordIn_s11_23 (lf_A g_this_text) (Int32.toInt x_this_at) (Int32.toInt x_this_behind) n := ⟨_, rfl⟩
        have hq : O = F_X5_wordIn_s11_23b (lf_A g_this_text) (Int32.toInt x_this_at) (Int32.toInt x_this_behind) K23 (Int32.toInt J23_l2) (Int32.toInt J23_l3) (Int32.toInt J23_l4) (Int32.toInt J23_l5) := by rw [hK23]; exact hq
        unfold F_X5_wordIn_s11_23b at hq
        have jn119 : ∀ (J119_l2 : Int32) (J119_l3 : Int32) (J119_l4 : Int32) (H : Heap) (locs : List Loc) (ls : Array Slot), ib x_this_at 0 1599 → ib J23_l5 0 2 → ib x_this_sort 1 1 → ib J119_l3 0 1602 → ib J119_l4 0 1 → (1 * J119_l3.toInt + (-1) * J23_l5.toInt ≤ 1601) → (O = F_X5_wordIn_s11_119 (Int32.toInt J23_l5) K23 (Int32.toInt J119_l2) (Int32.toInt J119_l3) (Int32.toInt J119_l4)) → va_P (dC, dI) vwCl [(wo_5_riiiiirii a_this a_this_text x_this_length x_this_at x_this_behind x_this_sort x_this_allowed a_this_plan x_this_fault x_this_place), (wi_0_1600_0 a_this_text cy g_this_text)] H → va_D A [(wo_5_riiiiirii a_this a_this_text x_this_length x_this_at x_this_behind x_this_sort x_this_allowed a_this_plan x_this_fault x_this_place), (wi_0_1600_0 a_this_text cy g_this_text)] → va_S A s.heap H locs → lv_has ls 6 [(0, .ref a_this), (1, .ref (sq 11)), (2, .int J119_l2), (3, .int J119_l3), (4, .int J119_l4), (5, .int J23_l5)] → W p l e { frames := 4, cells := 0, slots := 0, locals := 141 } s m args below meth c H locs 0 0 Q (F0 m 119 ls []) := by
          intro J119_l2 J119_l3 J119_l4 H locs ls hK119_x_this_at hK119_J23_l5 hK119_x_this_sort hJ119_l3 hJ119_l4 hJ119_lin0 hq hP hD hS hl
          unfold F_X5_wordIn_s11_119 at hq
          obtain ⟨z1, ez1⟩ : ∃ y : Int32, y = J23_l5 + 1 := ⟨_, rfl⟩
          refine lv_iinc (v := z1) (lv' := [(5, .int z1), (0, .ref a_this), (1, .ref (sq 11)), (2, .int J119_l2), (3, .int J119_l3), (4, .int J119_l4)]) hx hb dX5_wordIn_119 hl (k := 5) rfl (by rw [ez1]; rfl) (Nat.le_of_ble_eq_true rfl) rfl (fun ls hl => ?_)
          have h2 := ib_add hK119_J23_l5 (ib_c 1 1 1 rfl) rfl
          rw [← ez1] at h2
          have h3 : ib z1 1 3 := ib_w 1 3 h2.1 rfl
          have Ez1 := lf_add h2.2 (lf_rf J23_l5) (lf_lc 1 (1 : Int) rfl)
          refine lv_goto (tgt := 23) hx hb dX5_wordIn_122 rfl ?_
          exact ih23 J119_l2 J119_l3 J119_l4 z1 H locs ls (ib_w 0 1599 hK119_x_this_at rfl) (ib_w 1 1 hK119_x_this_sort rfl) (ib_w 0 1602 hJ119_l3 rfl) (ib_w 0 1 hJ119_l4 rfl) (ib_w 0 3 h3 rfl) (by have := h2.2; have : (1 : Int32).toInt = 1 := rfl; have := hJ119_lin0; omega) (by rw [← hK23]; rw [lf_u Ez1]; exact hq) (by have := h2.2; have : (1 : Int32).toInt = 1 := rfl; omega) hP hD hS (lv_sub hl [1, 2, 3, 4, 5, 0] rfl)
        have jn114 : ∀ (J114_s0 : Int32) (H : Heap) (locs : List Loc) (ls : Array Slot), ib J23_l3 0 1601 → ib J23_l4 0 1 → ib J23_l5 0 1 → ib x_this_at 0 1599 → ib x_this_sort 1 1 → ib J114_s0 0 1 → (1 * J23_l3.toInt + (-1) * J23_l5.toInt ≤ 1600) → (O = F_X5_wordIn_s11_114 (Int32.toInt J23_l2) (Int32.toInt J23_l3) (Int32.toInt J23_l5) K23 (Int32.toInt J114_s0)) → va_P (dC, dI) vwCl [(wo_5_riiiiirii a_this a_this_text x_this_length x_this_at x_this_behind x_this_sort x_this_allowed a_this_plan x_this_fault x_this_place), (wi_0_1600_0 a_this_text cy g_this_text)] H → va_D A [(wo_5_riiiiirii a_this a_this_text x_this_length x_this_at x_this_behind x_this_sort x_this_allowed a_this_plan x_this_fault x_this_place), (wi_0_1600_0 a_this_text cy g_this_text)] → va_S A s.heap H locs → lv_has ls 6 [(0, .ref a_this), (1, .ref (sq 11)), (2, .int J23_l2), (3, .int J23_l3), (4, .int J23_l4), (5, .int J23_l5)] → W p l e { frames := 4, cells := 0, slots := 0, locals := 141 } s m args below meth c H locs 0 0 Q (F0 m 114 ls [.int J114_s0]) := by
          intro J114_s0 H locs ls hK114_J23_l3 hK114_J23_l4 hK114_J23_l5 hK114_x_this_at hK114_x_this_sort hJ114_s0 hJ114_lin0 hq hP hD hS hl
          unfold F_X5_wordIn_s11_114 at hq
          refine lv_istore (lv' := [(4, .int J114_s0), (0, .ref a_this), (1, .ref (sq 11)), (2, .int J23_l2), (3, .int J23_l3), (5, .int J23_l5)]) hx hb dX5_wordIn_114 hl (Nat.le_of_ble_eq_true rfl) rfl (fun ls hl => ?_)
          obtain ⟨z4, ez4⟩ : ∃ y : Int32, y = J23_l3 + 1 := ⟨_, rfl⟩
          refine lv_iinc (v := z4) (lv' := [(3, .int z4), (4, .int J114_s0), (0, .ref a_this), (1, .ref (sq 11)), (2, .int J23_l2), (5, .int J23_l5)]) hx hb dX5_wordIn_116 hl (k := 4) rfl (by rw [ez4]; rfl) (Nat.le_of_ble_eq_true rfl) rfl (fun ls hl => ?_)
          have h5 := ib_add hK114_J23_l3 (ib_c 1 1 1 rfl) rfl
          rw [← ez4] at h5
          have h6 : ib z4 1 1602 := ib_w 1 1602 h5.1 rfl
          have Ez4 := lf_add h5.2 (lf_rf J23_l3) (lf_lc 1 (1 : Int) rfl)
          exact jn119 J23_l2 z4 J114_s0 H locs ls (ib_w 0 1599 hK114_x_this_at rfl) (ib_w 0 2 hK114_J23_l5 rfl) (ib_w 1 1 hK114_x_this_sort rfl) (ib_w 0 1602 h6 rfl) (ib_w 0 1 hJ114_s0 rfl) (by have := (hK114_J23_l5).1; have := hJ23_lin0; have := (h6).2; have := h5.2; have : (1 : Int32).toInt = 1 := rfl; omega) (by rw [lf_u Ez4]; exact hq) hP hD hS (lv_sub hl [2, 3, 4, 0, 1, 5] rfl)
        have jn113 : ∀  (H : Heap) (locs : List Loc) (ls : Array Slot), ib J23_l3 0 1601 → ib J23_l4 0 1 → ib J23_l5 0 1 → ib x_this_at 0 1599 → ib x_this_sort 1 1 → (1 * J23_l3.toInt + (-1) * J23_l5.toInt ≤ 1600) → (O = F_X5_wordIn_s11_113 (Int32.toInt J23_l2) (Int32.toInt J23_l3) (Int32.toInt J23_l5) K23 ) → va_P (dC, dI) vwCl [(wo_5_riiiiirii a_this a_this_text x_this_length x_this_at x_this_behind x_this_sort x_this_allowed a_this_plan x_this_fault x_this_place), (wi_0_1600_0 a_this_text cy g_this_text)] H → va_D A [(wo_5_riiiiirii a_this a_this_text x_this_length x_this_at x_this_behind x_this_sort x_this_allowed a_this_plan x_this_fault x_this_place), (wi_0_1600_0 a_this_text cy g_this_text)] → va_S A s.heap H locs → lv_has ls 6 [(0, .ref a_this), (1, .ref (sq 11)), (2, .int J23_l2), (3, .int J23_l3), (4, .int J23_l4), (5, .int J23_l5)] → W p l e { frames := 4, cells := 0, slots := 0, locals := 141 } s m args below meth c H locs 0 0 Q (F0 m 113 ls []) := by
          intro H locs ls hK113_J23_l3 hK113_J23_l4 hK113_J23_l5 hK113_x_this_at hK113_x_this_sort hJ113_lin0 hq hP hD hS hl
          unfold F_X5_wordIn_s11_113 at hq
          refine lv_iconst (v := 0) hx hb dX5_wordIn_113 rfl ?_
          exact jn114 0 H locs ls (ib_w 0 1601 hK113_J23_l3 rfl) (ib_w 0 1 hK113_J23_l4 rfl) (ib_w 0 1 hK113_J23_l5 rfl) (ib_w 0 1599 hK113_x_this_at rfl) (ib_w 1 1 hK113_x_this_sort rfl) (ib_w 0 1 (ib_c 0 0 0 rfl) rfl) (by have := hJ23_lin0; omega) (by try simp only [show (0 : Int32).toInt = (0 : Int) from rfl]; exact hq) hP hD hS (lv_sub hl [0, 1, 2, 3, 4, 5] rfl)
        have jn67 : ∀  (H : Heap) (locs : List Loc) (ls : Array Slot), ib J23_l3 0 1602 → ib J23_l4 0 1 → ib J23_l5 0 2 → ib x_this_at 0 1599 → ib x_this_sort 1 1 → (O = F_X5_wordIn_s11_67 (Int32.toInt x_this_at) (Int32.toInt J23_l2) (Int32.toInt J23_l5) K23 ) → va_P (dC, dI) vwCl [(wo_5_riiiiirii a_this a_this_text x_this_length x_this_at x_this_behind x_this_sort x_this_allowed a_this_plan x_this_fault x_this_place), (wi_0_1600_0 a_this_text cy g_this_text)] H → va_D A [(wo_5_riiiiirii a_this a_this_text x_this_length x_this_at x_this_behind x_this_sort x_this_allowed a_this_plan x_this_fault x_this_place), (wi_0_1600_0 a_this_text cy g_this_text)] → va_S A s.heap H locs → lv_has ls 6 [(0, .ref a_this), (1, .ref (sq 11)), (2, .int J23_l2), (3, .int J23_l3), (4, .int J23_l4), (5, .int J23_l5)] → W p l e { frames := 4, cells := 0, slots := 0, locals := 141 } s m args below meth c H locs 0 0 Q (F0 m 67 ls []) := by
          intro H locs ls hK67_J23_l3 hK67_J23_l4 hK67_J23_l5 hK67_x_this_at hK67_x_this_sort hq hP hD hS hl
          unfold F_X5_wordIn_s11_67 at hq
          obtain ⟨z7, ez7⟩ : ∃ y : Int32, y = J23_l2 + 1 := ⟨_, rfl⟩
          refine lv_iinc (v := z7) (lv' := [(2, .int z7), (0, .ref a_this), (1, .ref (sq 11)), (3, .int J23_l3), (4, .int J23_l4), (5, .int J23_l5)]) hx hb dX5_wordIn_67 hl (k := 2) rfl (by rw [ez7]; rfl) (Nat.le_of_ble_eq_true rfl) rfl (fun ls hl => ?_)
          have Ez7 := lf_op lf_iadd ez7 (lf_rf J23_l2) (lf_lc 1 (1 : Int) rfl)
          refine lv_aload_n hx hb dX5_wordIn_70 rfl (lv_at hl 1 rfl) ?_
          refine k_get C0 fg_X5_15 hP 0 rfl rfl dX5_wordIn_71 ?_
          refine lv_istore_n (lv' := [(3, .int x_this_at), (2, .int z7), (0, .ref a_this), (1, .ref (sq 11)), (4, .int J23_l4), (5, .int J23_l5)]) hx hb dX5_wordIn_74 rfl hl (Nat.le_of_ble_eq_true rfl) rfl (fun ls hl => ?_)
          refine lv_iconst (v := 1) hx hb dX5_wordIn_75 rfl ?_
          refine lv_istore (lv' := [(4, .int 1), (3, .int x_this_at), (2, .int z7), (0, .ref a_this), (1, .ref (sq 11)), (5, .int J23_l5)]) hx hb dX5_wordIn_76 hl (Nat.le_of_ble_eq_true rfl) rfl (fun ls hl => ?_)
          refine lv_goto (tgt := 119) hx hb dX5_wordIn_78 rfl ?_
          exact jn119 z7 x_this_at 1 H locs ls (ib_w 0 1599 hK67_x_this_at rfl) (ib_w 0 2 hK67_J23_l5 rfl) (ib_w 1 1 hK67_x_this_sort rfl) (ib_w 0 1602 hK67_x_this_at rfl) (ib_w 0 1 (ib_c 1 1 1 rfl) rfl) (by have := (hK67_J23_l5).1; have := (hK67_x_this_at).2; omega) (by rw [lf_u Ez7]; try simp only [show (1 : Int32).toInt = (1 : Int) from rfl]; exact hq) hP hD hS (lv_sub hl [3, 4, 2, 1, 0, 5] rfl)
        have jn52 : ∀  (H : Heap) (locs : List Loc) (ls : Array Slot), ib J23_l3 0 1602 → ib J23_l4 0 1 → ib J23_l5 0 2 → ib x_this_at 0 1599 → ib x_this_sort 1 1 → (O = F_X5_wordIn_s11_52 (Int32.toInt x_this_at) (Int32.toInt x_this_behind) (Int32.toInt J23_l2) (Int32.toInt J23_l3) (Int32.toInt J23_l4) (Int32.toInt J23_l5) K23 ) → va_P (dC, dI) vwCl [(wo_5_riiiiirii a_this a_this_text x_this_length x_this_at x_this_behind x_this_sort x_this_allowed a_this_plan x_this_fault x_this_place), (wi_0_1600_0 a_this_text cy g_this_text)] H → va_D A [(wo_5_riiiiirii a_this a_this_text x_this_length x_this_at x_this_behind x_this_sort x_this_allowed a_this_plan x_this_fault x_this_place), (wi_0_1600_0 a_this_text cy g_this_text)] → va_S A s.heap H locs → lv_has ls 6 [(0, .ref a_this), (1, .ref (sq 11)), (2, .int J23_l2), (3, .int J23_l3), (4, .int J23_l4), (5, .int J23_l5)] → W p l e { frames := 4, cells := 0, slots := 0, locals := 141 } s m args below meth c H locs 0 0 Q (F0 m 52 ls []) := by
          as_aux_lemma =>
            intro H locs ls hK52_J23_l3 hK52_J23_l4 hK52_J23_l5 hK52_x_this_at hK52_x_this_sort hq hP hD hS hl
            unfold F_X5_wordIn_s11_52 at hq
            refine lv_iload hx hb dX5_wordIn_52 (lv_at hl 4 rfl) ?_
            refine lv_if_eq (tgt := 67) hx hb dX5_wordIn_54 rfl (fun c8 => ?_) (fun c8 => ?_)
            · replace hq := lf_pos hq (lf_eq (lf_rf J23_l4) (lf_lc 0 (0 : Int) rfl) c8)
              have h9 := ib_eq hK52_J23_l4 (ib_c 0 0 0 rfl) c8
              have h10 : ib J23_l4 0 0 := ib_w 0 0 h9.1 rfl
              exact jn67  H locs ls (ib_w 0 1602 hK52_J23_l3 rfl) (ib_w 0 1 h10 rfl) (ib_w 0 2 hK52_J23_l5 rfl) (ib_w 0 1599 hK52_x_this_at rfl) (ib_w 1 1 hK52_x_this_sort rfl) (by exact hq) hP hD hS (lv_sub hl [0, 1, 2, 3, 4, 5] rfl)
            · replace hq := lf_neg hq (lf_ne (lf_rf J23_l4) (lf_lc 0 (0 : Int) rfl) c8)
              have h11 : ib J23_l4 1 1 := ib_w 1 1 (ib_ne_lo 0 hK52_J23_l4 rfl c8) rfl
              refine lv_iload_n hx hb dX5_wordIn_57 rfl (lv_at hl 3 rfl) ?_
              refine lv_aload_n hx hb dX5_wordIn_58 rfl (lv_at hl 0 rfl) ?_
              refine k_get C0 fg_X5_18 hP 0 rfl rfl dX5_wordIn_59 ?_
              refine lv_icmp_ne (tgt := 67) hx hb dX5_wordIn_62 rfl (fun c12 => ?_) (fun c12 => ?_)
              · replace hq := lf_neg hq (lf_ne (lf_rf J23_l3) (lf_rf x_this_behind) c12)
                exact jn67  H locs ls (ib_w 0 1602 hK52_J23_l3 rfl) (ib_w 0 1 h11 rfl) (ib_w 0 2 hK52_J23_l5 rfl) (ib_w 0 1599 hK52_x_this_at rfl) (ib_w 1 1 hK52_x_this_sort rfl) (by exact hq) hP hD hS (lv_sub hl [0, 1, 2, 3, 4, 5] rfl)
              · replace hq := lf_pos hq (lf_eq (lf_rf J23_l3) (lf_rf x_this_behind) c12)
                have h13 := ib_eq hK52_J23_l3 hx_this_behind c12
                have h14 : ib J23_l3 0 1600 := ib_w 0 1600 h13.1 rfl
                refine lv_iload_n hx hb dX5_wordIn_65 rfl (lv_at hl 2 rfl) ?_
                subst hQ; exact k_iret hx hb hr hlk rfl () hS ((hO.symm.trans (by exact hq))) hP hD (Nat.le_of_ble_eq_true rfl) (Nat.le_of_ble_eq_true rfl) dX5_wordIn_66
        refine lv_iload hx hb dX5_wordIn_23 (lv_at hl 5 rfl) ?_
        refine lv_aload_n hx hb dX5_wordIn_25 rfl (lv_at hl 1 rfl) ?_
        refine k_jim hP hD hS hA [] [true, true] rfl rfl rfl 0 0 (Nat.le_of_ble_eq_true rfl) (Nat.le_of_ble_eq_true rfl) (fun hPc hDc => k_runVO (As := []) (rest := [.int J23_l5]) C0 hZ hS hA (c_length l dC dI cy sq 11 (by decide)) mV_X5_244 hPc hDc (vk_recv hZ.1 (by decide) hS) hl rfl rfl (Nat.le_of_ble_eq_true rfl) ⟨(Nat.le_of_ble_eq_true rfl), (Nat.le_of_ble_eq_true rfl)⟩ ⟨(Nat.le_of_ble_eq_true rfl), (Nat.le_of_ble_eq_true rfl)⟩ dX5_wordIn_26) (fun r15 u16 H locs hw hP hD hS => ?_)
        replace hP : va_P (dC, dI) vwCl [(wo_5_riiiiirii a_this a_this_text x_this_length x_this_at x_this_behind x_this_sort x_this_allowed a_this_plan x_this_fault x_this_place), (wi_0_1600_0 a_this_text cy g_this_text)] H := hP
        replace hD := k_D hP hD
        obtain rfl : r15 = 2 := hw.trans (by decide)
        refine lv_icmp_gt (tgt := 125) hx hb dX5_wordIn_29 rfl (fun c17 => ?_) (fun c17 => ?_)
        · replace hq := lf_pos hq (lf_lt (lf_lc 2 (2 : Int) rfl) (lf_rf J23_l5) c17)
          have h18 := ib_lt (ib_c 2 2 2 rfl) hJ23_l5 c17
          have h19 : ib J23_l5 3 3 := ib_w 3 3 h18.2 rfl
          refine lv_iconst (v := (-1)) hx hb dX5_wordIn_125 rfl ?_
          subst hQ; exact k_iret hx hb hr hlk rfl () hS ((hO.symm.trans (by try simp only [show ((-1) : Int32).toInt = (-1 : Int) from rfl]; exact hq))) hP hD (Nat.le_of_ble_eq_true rfl) (Nat.le_of_ble_eq_true rfl) dX5_wordIn_126
        · as_aux_lemma =>
            replace hq := lf_neg hq (lf_nlt (lf_lc 2 (2 : Int) rfl) (lf_rf J23_l5) c17)
            have h20 := ib_nlt (ib_c 2 2 2 rfl) hJ23_l5 c17
            have h21 : ib J23_l5 0 2 := ib_w 0 2 h20.2 rfl
            refine lv_iload hx hb dX5_wordIn_32 (lv_at hl 5 rfl) ?_
            refine lv_aload_n hx hb dX5_wordIn_34 rfl (lv_at hl 1 rfl) ?_
            refine k_jim hP hD hS hA [] [true, true] rfl rfl rfl 0 0 (Nat.le_of_ble_eq_true rfl) (Nat.le_of_ble_eq_true rfl) (fun hPc hDc => k_runVO (As := []) (rest := [.int J23_l5]) C0 hZ hS hA (c_length l dC dI cy sq 11 (by decide)) mV_X5_244 hPc hDc (vk_recv hZ.1 (by decide) hS) hl rfl rfl (Nat.le_of_ble_eq_true rfl) ⟨(Nat.le_of_ble_eq_true rfl), (Nat.le_of_ble_eq_true rfl)⟩ ⟨(Nat.le_of_ble_eq_true rfl), (Nat.le_of_ble_eq_true rfl)⟩ dX5_wordIn_35) (fun r22 u23 H locs hw hP hD hS => ?_)
            replace hP : va_P (dC, dI) vwCl [(wo_5_riiiiirii a_this a_this_text x_this_length x_this_at x_this_behind x_this_sort x_this_allowed a_this_plan x_this_fault x_this_place), (wi_0_1600_0 a_this_text cy g_this_text)] H := hP
            replace hD := k_D hP hD
            obtain rfl : r22 = 2 := hw.trans (by decide)
            refine lv_icmp_eq (tgt := 52) hx hb dX5_wordIn_38 rfl (fun c24 => ?_) (fun c24 => ?_)
            · replace hq := lf_pos hq (lf_eq (lf_rf J23_l5) (lf_lc 2 (2 : Int) rfl) c24)
              have h25 := ib_eq h21 (ib_c 2 2 2 rfl) c24
              have h26 : ib J23_l5 2 2 := ib_w 2 2 h25.1 rfl
              exact jn52  H locs ls (ib_w 0 1602 hJ23_l3 rfl) (ib_w 0 1 hJ23_l4 rfl) (ib_w 0 2 h26 rfl) (ib_w 0 1599 hK23_x_this_at rfl) (ib_w 1 1 hK23_x_this_sort rfl) (by exact hq) hP hD hS (lv_sub hl [0, 1, 2, 3, 4, 5] rfl)
            · as_aux_lemma =>
                replace hq := lf_neg hq (lf_ne (lf_rf J23_l5) (lf_lc 2 (2 : Int) rfl) c24)
                have h27 : ib J23_l5 0 1 := ib_w 0 1 (ib_ne_hi 2 h21 rfl c24) rfl
                refine lv_aload_n hx hb dX5_wordIn_41 rfl (lv_at hl 1 rfl) ?_
                refine lv_iload hx hb dX5_wordIn_42 (lv_at hl 5 rfl) ?_
                refine k_jim hP hD hS hA [] [true, true] rfl rfl rfl 0 0 (Nat.le_of_ble_eq_true rfl) (Nat.le_of_ble_eq_true rfl) (fun hPc hDc => k_runVO (As := [.int J23_l5]) (rest := []) C0 hZ hS hA (cx_charAt l dC dI cy sq 11 (by decide) J23_l5 (ib_ch 11 2 h27 rfl rfl).1 (ib_ch 11 2 h27 rfl rfl).2.1 (ib_ch 11 2 h27 rfl rfl).2.2) mV_X5_248 hPc hDc (vk_recv hZ.1 (by decide) hS) hl rfl rfl (Nat.le_of_ble_eq_true rfl) ⟨(Nat.le_of_ble_eq_true rfl), (Nat.le_of_ble_eq_true rfl)⟩ ⟨(Nat.le_of_ble_eq_true rfl), (Nat.le_of_ble_eq_true rfl)⟩ dX5_wordIn_44) (fun r28 u29 H locs hw hP hD hS => ?_)
                replace hP : va_P (dC, dI) vwCl [(wo_5_riiiiirii a_this a_this_text x_this_length x_this_at x_this_behind x_this_sort x_this_allowed a_this_plan x_this_fault x_this_place), (wi_0_1600_0 a_this_text cy g_this_text)] H := hP
                replace hD := k_D hP hD
                have Er28 := lf_cha (j := 11) hw (lf_rf J23_l5)
                refine lv_bipush (v := 32) hx hb dX5_wordIn_47 rfl ?_
                refine lv_icmp_ne (tgt := 81) hx hb dX5_wordIn_49 rfl (fun c30 => ?_) (fun c30 => ?_)
                · as_aux_lemma =>
                    replace hq := lf_neg hq (lf_ne Er28 (lf_lc 32 (32 : Int) rfl) c30)
                    refine lv_iload hx hb dX5_wordIn_81 (lv_at hl 4 rfl) ?_
                    refine lv_if_eq (tgt := 113) hx hb dX5_wordIn_83 rfl (fun c31 => ?_) (fun c31 => ?_)
                    · replace hq := lf_pos hq (lf_eq (lf_rf J23_l4) (lf_lc 0 (0 : Int) rfl) c31)
                      have h32 := ib_eq hJ23_l4 (ib_c 0 0 0 rfl) c31
                      have h33 : ib J23_l4 0 0 := ib_w 0 0 h32.1 rfl
                      have h34 : ib J23_l3 0 1601 := ⟨(hJ23_l3).1, by have := (hJ23_l3).2; have := hJ23_lin0; have := (h27).2; omega⟩
                      exact jn113  H locs ls (ib_w 0 1601 h34 rfl) (ib_w 0 1 h33 rfl) (ib_w 0 1 h27 rfl) (ib_w 0 1599 hK23_x_this_at rfl) (ib_w 1 1 hK23_x_this_sort rfl) (by have := hJ23_lin0; omega) (by exact hq) hP hD hS (lv_sub hl [0, 1, 2, 3, 4, 5] rfl)
                    · as_aux_lemma =>
                        replace hq := lf_neg hq (lf_ne (lf_rf J23_l4) (lf_lc 0 (0 : Int) rfl) c31)
                        have h35 : ib J23_l4 1 1 := ib_w 1 1 (ib_ne_lo 0 hJ23_l4 rfl c31) rfl
                        refine lv_iload_n hx hb dX5_wordIn_86 rfl (lv_at hl 3 rfl) ?_
                        refine lv_aload_n hx hb dX5_wordIn_87 rfl (lv_at hl 0 rfl) ?_
                        refine k_get C0 fg_X5_18 hP 0 rfl rfl dX5_wordIn_88 ?_
                        refine lv_icmp_ge (tgt := 113) hx hb dX5_wordIn_91 rfl (fun c36 => ?_) (fun c36 => ?_)
                        · replace hq := lf_pos hq (lf_le (lf_rf x_this_behind) (lf_rf J23_l3) c36)
                          have h37 := ib_le hx_this_behind hJ23_l3 c36
                          have h38 : ib J23_l3 0 1601 := ⟨(hJ23_l3).1, by have := (hJ23_l3).2; have := hJ23_lin0; have := (h27).2; omega⟩
                          exact jn113  H locs ls (ib_w 0 1601 h38 rfl) (ib_w 0 1 h35 rfl) (ib_w 0 1 h27 rfl) (ib_w 0 1599 hK23_x_this_at rfl) (ib_w 1 1 hK23_x_this_sort rfl) (by have := hJ23_lin0; omega) (by exact hq) hP hD hS (lv_sub hl [0, 1, 2, 3, 4, 5] rfl)
                        · as_aux_lemma =>
                            replace hq := lf_neg hq (lf_nle (lf_rf x_this_behind) (lf_rf J23_l3) c36)
                            have h39 := ib_nle hx_this_behind hJ23_l3 c36
                            have h40 : ib x_this_behind 1 1600 := ib_w 1 1600 h39.1 rfl
                            have h41 : ib J23_l3 0 1599 := ib_w 0 1599 h39.2 rfl
                            refine lv_aload_n hx hb dX5_wordIn_94 rfl (lv_at hl 0 rfl) ?_
                            refine k_get C0 fg_X5_33 hP 0 rfl rfl dX5_wordIn_95 ?_
                            refine lv_iload_n hx hb dX5_wordIn_98 rfl (lv_at hl 3 rfl) ?_
                            refine va_iald hx hb C0.2.2.2.2.2.1 hP 1 0 rfl rfl (ib_in 1600 h41 rfl) dX5_wordIn_99 ?_
                            refine lv_topi (fun z42 ez42 => ?_)
                            have h43 : ib z42 0 255 := by rw [ez42]; exact ia_at hg_this_text (ib_in 1600 h41 rfl)
                            have Ez42 := lf_ld ez42 (lf_ra g_this_text) (lf_rf J23_l3)
                            refine lv_aload_n hx hb dX5_wordIn_100 rfl (lv_at hl 1 rfl) ?_
                            refine lv_iload hx hb dX5_wordIn_101 (lv_at hl 5 rfl) ?_
                            refine k_jim hP hD hS hA [] [true, true] rfl rfl rfl 0 0 (Nat.le_of_ble_eq_true rfl) (Nat.le_of_ble_eq_true rfl) (fun hPc hDc => k_runVO (As := [.int J23_l5]) (rest := [.int z42]) C0 hZ hS hA (cx_charAt l dC dI cy sq 11 (by decide) J23_l5 (ib_ch 11 2 h27 rfl rfl).1 (ib_ch 11 2 h27 rfl rfl).2.1 (ib_ch 11 2 h27 rfl rfl).2.2) mV_X5_248 hPc hDc (vk_recv hZ.1 (by decide) hS) hl rfl rfl (Nat.le_of_ble_eq_true rfl) ⟨(Nat.le_of_ble_eq_true rfl), (Nat.le_of_ble_eq_true rfl)⟩ ⟨(Nat.le_of_ble_eq_true rfl), (Nat.le_of_ble_eq_true rfl)⟩ dX5_wordIn_103) (fun r44 u45 H locs hw hP hD hS => ?_)
                            replace hP : va_P (dC, dI) vwCl [(wo_5_riiiiirii a_this a_this_text x_this_length x_this_at x_this_behind x_this_sort x_this_allowed a_this_plan x_this_fault x_this_place), (wi_0_1600_0 a_this_text cy g_this_text)] H := hP
                            replace hD := k_D hP hD
                            have Er44 := lf_cha (j := 11) hw (lf_rf J23_l5)
                            refine lv_icmp_ne (tgt := 113) hx hb dX5_wordIn_106 rfl (fun c46 => ?_) (fun c46 => ?_)
                            · replace hq := lf_neg hq (lf_ne Ez42 Er44 c46)
                              exact jn113  H locs ls (ib_w 0 1601 h41 rfl) (ib_w 0 1 h35 rfl) (ib_w 0 1 h27 rfl) (ib_w 0 1599 hK23_x_this_at rfl) (ib_w 1 1 hK23_x_this_sort rfl) (by have := hJ23_lin0; omega) (by exact hq) hP hD hS (lv_sub hl [0, 1, 2, 3, 4, 5] rfl)
                            · replace hq := lf_pos hq (lf_eq Ez42 Er44 c46)
                              have h47 := ib_eq h43 (ib_any r44) c46
                              have h48 : ib r44 0 255 := ib_w 0 255 h47.2 rfl
                              refine lv_iconst (v := 1) hx hb dX5_wordIn_109 rfl ?_
                              refine lv_goto (tgt := 114) hx hb dX5_wordIn_110 rfl ?_
                              exact jn114 1 H locs ls (ib_w 0 1601 h41 rfl) (ib_w 0 1 h35 rfl) (ib_w 0 1 h27 rfl) (ib_w 0 1599 hK23_x_this_at rfl) (ib_w 1 1 hK23_x_this_sort rfl) (ib_w 0 1 (ib_c 1 1 1 rfl) rfl) (by have := hJ23_lin0; omega) (by try simp only [show (1 : Int32).toInt = (1 : Int) from rfl]; exact hq) hP hD hS (lv_sub hl [0, 1, 2, 3, 4, 5] rfl)
                · replace hq := lf_pos hq (lf_eq Er28 (lf_lc 32 (32 : Int) rfl) c30)
                  have h49 := ib_eq (ib_any r28) (ib_c 32 32 32 rfl) c30
                  have h50 : ib r28 32 32 := ib_w 32 32 h49.1 rfl
                  have h51 : ib J23_l3 0 1601 := ⟨(hJ23_l3).1, by have := (hJ23_l3).2; have := hJ23_lin0; have := (h27).2; omega⟩
                  exact jn52  H locs ls (ib_w 0 1602 h51 rfl) (ib_w 0 1 hJ23_l4 rfl) (ib_w 0 2 h27 rfl) (ib_w 0 1599 hK23_x_this_at rfl) (ib_w 1 1 hK23_x_this_sort rfl) (by exact hq) hP hD hS (lv_sub hl [0, 1, 2, 3, 4, 5] rfl)
  refine lv_aload_n hx hb dX5_wordIn_0 rfl (lv_at hl 0 rfl) ?_
  refine k_get C0 fg_X5_21 hP 0 rfl rfl dX5_wordIn_1 ?_
  refine lv_iconst (v := 1) hx hb dX5_wordIn_4 rfl ?_
  refine lv_icmp_eq (tgt := 10) hx hb dX5_wordIn_5 rfl (fun c52 => ?_) (fun c52 => ?_)
  · replace hq := lf_pos hq (lf_eq (lf_rf x_this_sort) (lf_lc 1 (1 : Int) rfl) c52)
    have h53 := ib_eq hx_this_sort (ib_c 1 1 1 rfl) c52
    have h54 : ib x_this_sort 1 1 := ib_w 1 1 h53.1 rfl
    have h55 : ib x_this_at 0 1599 := ib_w 0 1599 (ib_two hx_this_at (hc0_this (ib_nz h54 rfl))) rfl
    refine lv_iconst (v := 0) hx hb dX5_wordIn_10 rfl ?_
    refine lv_istore_n (lv' := [(2, .int 0), (0, .ref a_this), (1, .ref (sq 11))]) hx hb dX5_wordIn_11 rfl hl (Nat.le_of_ble_eq_true rfl) rfl (fun ls hl => ?_)
    refine lv_aload_n hx hb dX5_wordIn_12 rfl (lv_at hl 1 rfl) ?_
    refine k_get C0 fg_X5_15 hP 0 rfl rfl dX5_wordIn_13 ?_
    refine lv_istore_n (lv' := [(3, .int x_this_at), (2, .int 0), (0, .ref a_this), (1, .ref (sq 11))]) hx hb dX5_wordIn_16 rfl hl (Nat.le_of_ble_eq_true rfl) rfl (fun ls hl => ?_)
    refine lv_iconst (v := 1) hx hb dX5_wordIn_17 rfl ?_
    refine lv_istore (lv' := [(4, .int 1), (3, .int x_this_at), (2, .int 0), (0, .ref a_this), (1, .ref (sq 11))]) hx hb dX5_wordIn_18 hl (Nat.le_of_ble_eq_true rfl) rfl (fun ls hl => ?_)
    refine lv_iconst (v := 0) hx hb dX5_wordIn_20 rfl ?_
    refine lv_istore (lv' := [(5, .int 0), (4, .int 1), (3, .int x_this_at), (2, .int 0), (0, .ref a_this), (1, .ref (sq 11))]) hx hb dX5_wordIn_21 hl (Nat.le_of_ble_eq_true rfl) rfl (fun ls hl => ?_)
    exact jn23 5 0 x_this_at 1 0 H locs ls (ib_w 0 1599 h55 rfl) (ib_w 1 1 h54 rfl) (ib_w 0 1602 h55 rfl) (ib_w 0 1 (ib_c 1 1 1 rfl) rfl) (ib_w 0 3 (ib_c 0 0 0 rfl) rfl) (by have : (0 : Int32).toInt = 0 := rfl; have := (h55).2; omega) (by try simp only [show (0 : Int32).toInt = (0 : Int) from rfl]; try simp only [show (1 : Int32).toInt = (1 : Int) from rfl]; exact hq) (by have := (ib_c 0 0 0 rfl); unfold ib at this; omega) hP hD hS (lv_sub hl [4, 5, 3, 2, 1, 0] rfl)
  · replace hq := lf_neg hq (lf_ne (lf_rf x_this_sort) (lf_lc 1 (1 : Int) rfl) c52)
    refine lv_iconst (v := (-1)) hx hb dX5_wordIn_8 rfl ?_
    subst hQ; exact k_iret hx hb hr hlk rfl () hS ((hO.symm.trans (by try simp only [show ((-1) : Int32).toInt = (-1 : Int) from rfl]; exact hq))) hP hD (Nat.le_of_ble_eq_true rfl) (Nat.le_of_ble_eq_true rfl) dX5_wordIn_9
set_option maxHeartbeats 4000000 in
set_option maxRecDepth 100000 in
theorem s_X5_needWord_s11 (l : Launch) (dC : Nat → ClassId) (dI : Nat → Nat → Nat) (cy : Nat → ClassId) (sq : Nat → Nat) (a_this : Nat) (a_this_text : Nat) (g_this_text : Nat → Int32) (x_this_length : Int32) (x_this_at : Int32) (x_this_behind : Int32) (x_this_sort : Int32) (x_this_allowed : Int32) (a_this_plan : Nat) (x_this_fault : Int32) (x_this_place : Int32) (hg_this_text : ia g_this_text 1600 0 255) (hx_this_length : ib x_this_length 0 1600) (hx_this_at : ib x_this_at 0 1600) (hx_this_behind : ib x_this_behind 0 1600) (hx_this_sort : ib x_this_sort 0 4) (hc0_this : ¬ x_this_sort = 0 → ib x_this_at 0 1599) : k_Met l yX5_needWord cX5_needWord 2 none { frames := 5, cells := 0, slots := 0, locals := 166 } dC dI cy sq [.ref a_this, .ref (sq 11)] [(wo_5_riiiiirii a_this a_this_text x_this_length x_this_at x_this_behind x_this_sort x_this_allowed a_this_plan x_this_fault x_this_place), (wi_0_1600_0 a_this_text cy g_this_text)] (k_Qv dC dI (fun (u : Int32 × Int32 × Int32 × Int32 × Int32) => match u with | (n0, n1, n2, n3, n4) => ib n0 0 1600 ∧ ib n1 0 1600 ∧ ib n2 0 4 ∧ (¬ n2 = 0 → ib n0 0 1599) ∧ (F_X5_needWord_s11 (lf_A g_this_text) (Int32.toInt x_this_length) (Int32.toInt x_this_at) (Int32.toInt x_this_behind) (Int32.toInt x_this_sort) (Int32.toInt x_this_fault) (Int32.toInt x_this_place) = ((Int32.toInt n0), (Int32.toInt n1), (Int32.toInt n2), (Int32.toInt n3), (Int32.toInt n4)))) (fun u : Int32 × Int32 × Int32 × Int32 × Int32 => match u with | (n0, n1, n2, n3, n4) => [(wo_5_riiiiirii a_this a_this_text x_this_length n0 n1 n2 x_this_allowed a_this_plan n3 n4), (wi_0_1600_0 a_this_text cy g_this_text)])) := by
  refine k_ofW2 (by decide +kernel) (Nat.le_of_ble_eq_true rfl) ?_
  intro p e s m below meth c A ls H locs args Q hQ C0 hZ hr hlk hin hP hD hA hS hl
  have C0 : k_cx p s m args c cX5_needWord 2 RX5 dC dI cy sq := C0
  have hx := C0.1
  have hb := C0.2.1
  have hl : lv_has ls 2 [(0, .ref a_this), (1, .ref (sq 11))] := hl
  obtain ⟨O, hO⟩ : ∃ o, o = F_X5_needWord_s11 (lf_A g_this_text) (Int32.toInt x_this_length) (Int32.toInt x_this_at) (Int32.toInt x_this_behind) (Int32.toInt x_this_sort) (Int32.toInt x_this_fault) (Int32.toInt x_this_place) := ⟨_, rfl⟩
  have hq := hO
  unfold F_X5_needWord_s11 at hq
  refine lv_aload_n hx hb dX5_needWord_0 rfl (lv_at hl 0 rfl) ?_
  refine lv_aload_n hx hb dX5_needWord_1 rfl (lv_at hl 1 rfl) ?_
  refine k_jim hP hD hS hA [0, 1] [] rfl rfl rfl 0 0 (Nat.le_of_ble_eq_true rfl) (Nat.le_of_ble_eq_true rfl) (fun hPc hDc => k_runV (As := [.ref (sq 11)]) (rest := []) C0 hZ hS hA (s_X5_wordIn_s11 l dC dI cy sq a_this a_this_text g_this_text x_this_length x_this_at x_this_behind x_this_sort x_this_allowed a_this_plan x_this_fault x_this_place hg_this_text (ib_w 0 1600 hx_this_at rfl) (ib_w 0 1600 hx_this_behind rfl) (ib_w 0 4 hx_this_sort rfl) (fun hq9 => ib_w 0 1599 (hc0_this hq9) rfl)) mV_X5_54 hPc hDc rfl rfl rfl hl rfl rfl (Nat.le_of_ble_eq_true rfl) ⟨(Nat.le_of_ble_eq_true rfl), (Nat.le_of_ble_eq_true rfl)⟩ ⟨(Nat.le_of_ble_eq_true rfl), (Nat.le_of_ble_eq_true rfl)⟩ dX5_needWord_2) (fun r1 u2 H locs hw hP hD hS => ?_)
  try dsimp only at hP hD hw
  replace hP : va_P (dC, dI) vwCl [(wo_5_riiiiirii a_this a_this_text x_this_length x_this_at x_this_behind x_this_sort x_this_allowed a_this_plan x_this_fault x_this_place), (wi_0_1600_0 a_this_text cy g_this_text)] H := hP
  replace hD := k_D hP hD
  have h3 := hw
  replace hq := lf_b1 hq h3
  refine lv_iconst (v := (-1)) hx hb dX5_needWord_5 rfl ?_
  refine lv_icmp_ne (tgt := 21) hx hb dX5_needWord_6 rfl (fun c4 => ?_) (fun c4 => ?_)
  · replace hq := lf_neg hq (lf_ne (lf_rf r1) (lf_lc (-1) (-1 : Int) rfl) c4)
    refine lv_aload_n hx hb dX5_needWord_21 rfl (lv_at hl 0 rfl) ?_
    refine lv_aload_n hx hb dX5_needWord_22 rfl (lv_at hl 0 rfl) ?_
    refine k_get C0 fg_X5_18 hP 0 rfl rfl dX5_needWord_23 ?_
    refine k_jvm hP hD hS hA [0, 1] [] rfl rfl rfl 0 0 (Nat.le_of_ble_eq_true rfl) (Nat.le_of_ble_eq_true rfl) (fun hPc hDc => k_runV (As := [.int x_this_behind]) (rest := []) C0 hZ hS hA (s_X5_moveTo l dC dI cy sq a_this a_this_text g_this_text x_this_length x_this_at x_this_behind x_this_sort x_this_allowed a_this_plan x_this_fault x_this_place x_this_behind hg_this_text (ib_w 0 1600 hx_this_length rfl) (ib_w 0 1600 hx_this_behind rfl)) mV_X5_86 hPc hDc rfl rfl rfl hl rfl rfl (Nat.le_of_ble_eq_true rfl) ⟨(Nat.le_of_ble_eq_true rfl), (Nat.le_of_ble_eq_true rfl)⟩ ⟨(Nat.le_of_ble_eq_true rfl), (Nat.le_of_ble_eq_true rfl)⟩ dX5_needWord_26) (fun u6 H locs hw hP hD hS => ?_)
    obtain ⟨v7, v8, v9⟩ := u6
    try dsimp only at hP hD hw
    replace hP : va_P (dC, dI) vwCl [(wo_5_riiiiirii a_this a_this_text x_this_length v7 v8 v9 x_this_allowed a_this_plan x_this_fault x_this_place), (wi_0_1600_0 a_this_text cy g_this_text)] H := hP
    replace hD := k_D hP hD
    obtain ⟨h10, h11, h12, h13, h14⟩ := hw
    replace hq := lf_p1 hq h14
    replace hq := lf_p1 hq rfl
    subst hQ; exact k_vret hx hb hr hlk ((v7, v8, v9, x_this_fault, x_this_place)) hS ⟨ib_w 0 1600 h10 rfl, ib_w 0 1600 h11 rfl, ib_w 0 4 h12 rfl, fun hq9 => ib_w 0 1599 (h13 hq9) rfl, (hO.symm.trans (by exact hq))⟩ hP hD (Nat.le_of_ble_eq_true rfl) (Nat.le_of_ble_eq_true rfl) dX5_needWord_29
  · replace hq := lf_pos hq (lf_eq (lf_rf r1) (lf_lc (-1) (-1 : Int) rfl) c4)
    have h15 := ib_eq (ib_any r1) (ib_c (-1) (-1) (-1) rfl) c4
    have h16 : ib r1 (-1) (-1) := ib_w (-1) (-1) h15.1 rfl
    refine lv_aload_n hx hb dX5_needWord_9 rfl (lv_at hl 0 rfl) ?_
    refine lv_iconst (v := 1) hx hb dX5_needWord_10 rfl ?_
    refine lv_aload_n hx hb dX5_needWord_11 rfl (lv_at hl 0 rfl) ?_
    refine k_get C0 fg_X5_15 hP 0 rfl rfl dX5_needWord_12 ?_
    refine k_jvm hP hD hS hA [0] [false, true] rfl rfl rfl 0 0 (Nat.le_of_ble_eq_true rfl) (Nat.le_of_ble_eq_true rfl) (fun hPc hDc => k_runV (As := [.int 1, .int x_this_at]) (rest := []) C0 hZ hS hA (s_X5_fail l dC dI cy sq a_this a_this_text x_this_length x_this_at x_this_behind x_this_sort x_this_allowed a_this_plan x_this_fault x_this_place 1 x_this_at ) mV_X5_78 hPc hDc rfl rfl rfl hl rfl rfl (Nat.le_of_ble_eq_true rfl) ⟨(Nat.le_of_ble_eq_true rfl), (Nat.le_of_ble_eq_true rfl)⟩ ⟨(Nat.le_of_ble_eq_true rfl), (Nat.le_of_ble_eq_true rfl)⟩ dX5_needWord_15) (fun u18 H locs hw hP hD hS => ?_)
    obtain ⟨v19, v20⟩ := u18
    try dsimp only at hP hD hw
    replace hP : va_P (dC, dI) vwCl [(wi_0_1600_0 a_this_text cy g_this_text), (wo_5_riiiiirii a_this a_this_text x_this_length x_this_length x_this_length 0 x_this_allowed a_this_plan v19 v20)] H := hP
    replace hD := k_D hP hD
    have h21 := hw
    have h21 := by have h9 := h21; try simp only [show (1 : Int32).toInt = (1 : Int) from rfl] at h9; exact h9
    replace hq := lf_p1 hq h21
    refine lv_goto (tgt := 29) hx hb dX5_needWord_18 rfl ?_
    subst hQ; exact k_vret hx hb hr hlk ((x_this_length, x_this_length, 0, v19, v20)) hS ⟨ib_w 0 1600 hx_this_length rfl, ib_w 0 1600 hx_this_length rfl, ib_w 0 4 (ib_c 0 0 0 rfl) rfl, fun hq9 => absurd rfl hq9, (hO.symm.trans (by try simp only [show (0 : Int32).toInt = (0 : Int) from rfl]; exact hq))⟩ (hP.sub [1, 0] rfl) (hD.sub [1, 0] rfl rfl) (Nat.le_of_ble_eq_true rfl) (Nat.le_of_ble_eq_true rfl) dX5_needWord_29
set_option maxHeartbeats 4000000 in
set_option maxRecDepth 100000 in
theorem s_X5_number_a0_0_a1_199 (l : Launch) (dC : Nat → ClassId) (dI : Nat → Nat → Nat) (cy : Nat → ClassId) (sq : Nat → Nat) (a_this : Nat) (a_this_text : Nat) (g_this_text : Nat → Int32) (x_this_length : Int32) (x_this_at : Int32) (x_this_behind : Int32) (x_this_sort : Int32) (x_this_allowed : Int32) (a_this_plan : Nat) (x_this_fault : Int32) (x_this_place : Int32) (hg_this_text : ia g_this_text 1600 0 255) (hx_this_length : ib x_this_length 0 1600) (hx_this_at : ib x_this_at 0 1600) (hx_this_behind : ib x_this_behind 0 1600) (hx_this_sort : ib x_this_sort 0 4) (hc0_this : ¬ x_this_sort = 0 → ib x_this_at 0 1599) : k_Met l yX5_number cX5_number 5 (some .int) { frames := 2, cells := 0, slots := 0, locals := 43 } dC dI cy sq [.ref a_this, .int 0, .int 199] [(wo_5_riiiiirii a_this a_this_text x_this_length x_this_at x_this_behind x_this_sort x_this_allowed a_this_plan x_this_fault x_this_place), (wi_0_1600_0 a_this_text cy g_this_text)] (k_Qi dC dI (fun (r : Int32) (u : Int32 × Int32 × Int32 × Int32 × Int32) => match u with | (n0, n1, n2, n3, n4) => ib r 0 199 ∧ ib n0 0 1600 ∧ ib n1 0 1600 ∧ ib n2 0 4 ∧ (¬ n2 = 0 → ib n0 0 1599) ∧ (F_X5_number_a0_0_a1_199 (lf_A g_this_text) (Int32.toInt x_this_length) (Int32.toInt x_this_at) (Int32.toInt x_this_behind) (Int32.toInt x_this_sort) (Int32.toInt x_this_fault) (Int32.toInt x_this_place) = ((Int32.toInt r), (Int32.toInt n0), (Int32.toInt n1), (Int32.toInt n2), (Int32.toInt n3), (Int32.toInt n4)))) (fun u : Int32 × Int32 × Int32 × Int32 × Int32 => match u with | (n0, n1, n2, n3, n4) => [(wo_5_riiiiirii a_this a_this_text x_this_length n0 n1 n2 x_this_allowed a_this_plan n3 n4), (wi_0_1600_0 a_this_text cy g_this_text)])) := by
  refine k_ofW2 (by decide +kernel) (Nat.le_of_ble_eq_true rfl) ?_
  intro p e s m below meth c A ls H locs args Q hQ C0 hZ hr hlk hin hP hD hA hS hl
  have C0 : k_cx p s m args c cX5_number 5 RX5 dC dI cy sq := C0
  have hx := C0.1
  have hb := C0.2.1
  have hl : lv_has ls 5 [(0, .ref a_this), (1, .int 0), (2, .int 199)] := hl
  obtain ⟨O, hO⟩ : ∃ o, o = F_X5_number_a0_0_a1_199 (lf_A g_this_text) (Int32.toInt x_this_length) (Int32.toInt x_this_at) (Int32.toInt x_this_behind) (Int32.toInt x_this_sort) (Int32.toInt x_this_fault) (Int32.toInt x_this_place) := ⟨_, rfl⟩
  have hq := hO
  unfold F_X5_number_a0_0_a1_199 at hq
  have jn94 : ∀ (J94_l3 : Int32) (J94_l4 : Int32) (H : Heap) (locs : List Loc) (ls : Array Slot), ib J94_l4 0 1600 → ib x_this_at 0 1599 → ib x_this_sort 2 2 → (O = F_X5_number_a0_0_a1_199_94 (Int32.toInt x_this_length) (Int32.toInt x_this_at) (Int32.toInt x_this_fault) (Int32.toInt x_this_place) (Int32.toInt J94_l3) (Int32.toInt J94_l4)) → va_P (dC, dI) vwCl [(wo_5_riiiiirii a_this a_this_text x_this_length x_this_at x_this_behind x_this_sort x_this_allowed a_this_plan x_this_fault x_this_place), (wi_0_1600_0 a_this_text cy g_this_text)] H → va_D A [(wo_5_riiiiirii a_this a_this_text x_this_length x_this_at x_this_behind x_this_sort x_this_allowed a_this_plan x_this_fault x_this_place), (wi_0_1600_0 a_this_text cy g_this_text)] → va_S A s.heap H locs → lv_has ls 5 [(0, .ref a_this), (1, .int 0), (2, .int 199), (3, .int J94_l3), (4, .int J94_l4)] → W p l e { frames := 2, cells := 0, slots := 0, locals := 43 } s m args below meth c H locs 0 0 Q (F0 m 94 ls []) := by
    intro J94_l3 J94_l4 H locs ls hJ94_l4 hK94_x_this_at hK94_x_this_sort hq hP hD hS hl
    unfold F_X5_number_a0_0_a1_199_94 at hq
    refine lv_aload_n hx hb dX5_number_94 rfl (lv_at hl 0 rfl) ?_
    refine lv_iconst (v := 2) hx hb dX5_number_95 rfl ?_
    refine lv_aload_n hx hb dX5_number_96 rfl (lv_at hl 0 rfl) ?_
    refine k_get C0 fg_X5_15 hP 0 rfl rfl dX5_number_97 ?_
    refine k_jvm hP hD hS hA [0] [false, true] rfl rfl rfl 0 0 (Nat.le_of_ble_eq_true rfl) (Nat.le_of_ble_eq_true rfl) (fun hPc hDc => k_runV (As := [.int 2, .int x_this_at]) (rest := []) C0 hZ hS hA (s_X5_fail l dC dI cy sq a_this a_this_text x_this_length x_this_at x_this_behind x_this_sort x_this_allowed a_this_plan x_this_fault x_this_place 2 x_this_at ) mV_X5_78 hPc hDc rfl rfl rfl hl rfl rfl (Nat.le_of_ble_eq_true rfl) ⟨(Nat.le_of_ble_eq_true rfl), (Nat.le_of_ble_eq_true rfl)⟩ ⟨(Nat.le_of_ble_eq_true rfl), (Nat.le_of_ble_eq_true rfl)⟩ dX5_number_100) (fun u2 H locs hw hP hD hS => ?_)
    obtain ⟨v3, v4⟩ := u2
    try dsimp only at hP hD hw
    replace hP : va_P (dC, dI) vwCl [(wi_0_1600_0 a_this_text cy g_this_text), (wo_5_riiiiirii a_this a_this_text x_this_length x_this_length x_this_length 0 x_this_allowed a_this_plan v3 v4)] H := hP
    replace hD := k_D hP hD
    have h5 := hw
    have h5 := by have h9 := h5; try simp only [show (2 : Int32).toInt = (2 : Int) from rfl] at h9; exact h9
    replace hq := lf_p1 hq h5
    refine lv_iload_n hx hb dX5_number_103 rfl (lv_at hl 1 rfl) ?_
    subst hQ; exact k_iret hx hb hr hlk rfl ((x_this_length, x_this_length, 0, v3, v4)) hS ⟨ib_w 0 199 (ib_c 0 0 0 rfl) rfl, ib_w 0 1600 hx_this_length rfl, ib_w 0 1600 hx_this_length rfl, ib_w 0 4 (ib_c 0 0 0 rfl) rfl, fun hq9 => absurd rfl hq9, (hO.symm.trans (by try simp only [show (0 : Int32).toInt = (0 : Int) from rfl]; exact hq))⟩ (hP.sub [1, 0] rfl) (hD.sub [1, 0] rfl rfl) (Nat.le_of_ble_eq_true rfl) (Nat.le_of_ble_eq_true rfl) dX5_number_104
  have jn53 : ∀ (n : Nat) (J53_l3 : Int32) (J53_l4 : Int32) (H : Heap) (locs : List Loc) (ls : Array Slot), ib x_this_at 0 1599 → ib x_this_sort 2 2 → ib J53_l4 0 1600 → (O = F_X5_number_a0_0_a1_199_53 (lf_A g_this_text) (Int32.toInt x_this_length) (Int32.toInt x_this_at) (Int32.toInt x_this_behind) (Int32.toInt x_this_fault) (Int32.toInt x_this_place) n (Int32.toInt J53_l3) (Int32.toInt J53_l4)) → 1601 ≤ J53_l4.toInt + (n : Int) → va_P (dC, dI) vwCl [(wo_5_riiiiirii a_this a_this_text x_this_length x_this_at x_this_behind x_this_sort x_this_allowed a_this_plan x_this_fault x_this_place), (wi_0_1600_0 a_this_text cy g_this_text)] H → va_D A [(wo_5_riiiiirii a_this a_this_text x_this_length x_this_at x_this_behind x_this_sort x_this_allowed a_this_plan x_this_fault x_this_place), (wi_0_1600_0 a_this_text cy g_this_text)] → va_S A s.heap H locs → lv_has ls 5 [(0, .ref a_this), (1, .int 0), (2, .int 199), (3, .int J53_l3), (4, .int J53_l4)] → W p l e { frames := 2, cells := 0, slots := 0, locals := 43 } s m args below meth c H locs 0 0 Q (F0 m 53 ls []) := by
    as_aux_lemma =>
      intro n
      induction n with
      | zero =>
        intro J53_l3 J53_l4 H locs ls hK53_x_this_at hK53_x_this_sort hJ53_l4 hq hm
        exact absurd hm (by have := hJ53_l4; unfold ib at this; omega)
      | succ n ih =>
        intro J53_l3 J53_l4 H locs ls hK53_x_this_at hK53_x_this_sort hJ53_l4 hq hm53 hP hD hS hl
        have ih53 := ih
        obtain ⟨K53, hK53⟩ : ∃ K, K = F_X5_number_a0_0_a1_199_53 (lf_A g_this_text) (Int32.toInt x_this_length) (Int32.toInt x_this_at) (Int32.toInt x_this_behind) (Int32.toInt x_this_fault) (Int32.toInt x_this_place) n := ⟨_, rfl⟩
        have hq : O = F_X5_number_a0_0_a1_199_53b (lf_A g_this_text) (Int32.toInt x_this_length) (Int32.toInt x_this_at) (Int32.toInt x_this_behind) (Int32.toInt x_this_fault) (Int32.toInt x_this_place) K53 (Int32.toInt J53_l3) (Int32.toInt J53_l4) := by rw [hK53]; exact hq
        unfold F_X5_number_a0_0_a1_199_53b at hq
        refine lv_iload hx hb dX5_number_53 (lv_at hl 4 rfl) ?_
        refine lv_aload_n hx hb dX5_number_55 rfl (lv_at hl 0 rfl) ?_
        refine k_get C0 fg_X5_18 hP 0 rfl rfl dX5_number_56 ?_
        refine lv_icmp_ge (tgt := 84) hx hb dX5_number_59 rfl (fun c6 => ?_) (fun c6 => ?_)
        · as_aux_lemma =>
            replace hq := lf_pos hq (lf_le (lf_rf x_this_behind) (lf_rf J53_l4) c6)
            have h7 := ib_le hx_this_behind hJ53_l4 c6
            refine lv_iload_n hx hb dX5_number_84 rfl (lv_at hl 3 rfl) ?_
            refine lv_iload_n hx hb dX5_number_85 rfl (lv_at hl 1 rfl) ?_
            refine lv_icmp_lt (tgt := 94) hx hb dX5_number_86 rfl (fun c8 => ?_) (fun c8 => ?_)
            · replace hq := lf_pos hq (lf_lt (lf_rf J53_l3) (lf_lc 0 (0 : Int) rfl) c8)
              have h9 := ib_lt (ib_any J53_l3) (ib_c 0 0 0 rfl) c8
              have h10 : ib J53_l3 (-2147483648) (-1) := ib_w (-2147483648) (-1) h9.1 rfl
              exact jn94 J53_l3 J53_l4 H locs ls (ib_w 0 1600 hJ53_l4 rfl) (ib_w 0 1599 hK53_x_this_at rfl) (ib_w 2 2 hK53_x_this_sort rfl) (by exact hq) hP hD hS (lv_sub hl [0, 1, 2, 3, 4] rfl)
            · as_aux_lemma =>
                replace hq := lf_neg hq (lf_nlt (lf_rf J53_l3) (lf_lc 0 (0 : Int) rfl) c8)
                have h11 := ib_nlt (ib_any J53_l3) (ib_c 0 0 0 rfl) c8
                have h12 : ib J53_l3 0 2147483647 := ib_w 0 2147483647 h11.1 rfl
                refine lv_iload_n hx hb dX5_number_89 rfl (lv_at hl 3 rfl) ?_
                refine lv_iload_n hx hb dX5_number_90 rfl (lv_at hl 2 rfl) ?_
                refine lv_icmp_le (tgt := 105) hx hb dX5_number_91 rfl (fun c13 => ?_) (fun c13 => ?_)
                · replace hq := lf_pos hq (lf_le (lf_rf J53_l3) (lf_lc 199 (199 : Int) rfl) c13)
                  have h14 := ib_le h12 (ib_c 199 199 199 rfl) c13
                  have h15 : ib J53_l3 0 199 := ib_w 0 199 h14.1 rfl
                  refine lv_aload_n hx hb dX5_number_105 rfl (lv_at hl 0 rfl) ?_
                  refine lv_aload_n hx hb dX5_number_106 rfl (lv_at hl 0 rfl) ?_
                  refine k_get C0 fg_X5_18 hP 0 rfl rfl dX5_number_107 ?_
                  refine k_jvm hP hD hS hA [0, 1] [] rfl rfl rfl 0 0 (Nat.le_of_ble_eq_true rfl) (Nat.le_of_ble_eq_true rfl) (fun hPc hDc => k_runV (As := [.int x_this_behind]) (rest := []) C0 hZ hS hA (s_X5_moveTo l dC dI cy sq a_this a_this_text g_this_text x_this_length x_this_at x_this_behind x_this_sort x_this_allowed a_this_plan x_this_fault x_this_place x_this_behind hg_this_text (ib_w 0 1600 hx_this_length rfl) (ib_w 0 1600 hx_this_behind rfl)) mV_X5_86 hPc hDc rfl rfl rfl hl rfl rfl (Nat.le_of_ble_eq_true rfl) ⟨(Nat.le_of_ble_eq_true rfl), (Nat.le_of_ble_eq_true rfl)⟩ ⟨(Nat.le_of_ble_eq_true rfl), (Nat.le_of_ble_eq_true rfl)⟩ dX5_number_110) (fun u17 H locs hw hP hD hS => ?_)
                  obtain ⟨v18, v19, v20⟩ := u17
                  try dsimp only at hP hD hw
                  replace hP : va_P (dC, dI) vwCl [(wo_5_riiiiirii a_this a_this_text x_this_length v18 v19 v20 x_this_allowed a_this_plan x_this_fault x_this_place), (wi_0_1600_0 a_this_text cy g_this_text)] H := hP
                  replace hD := k_D hP hD
                  obtain ⟨h21, h22, h23, h24, h25⟩ := hw
                  replace hq := lf_p1 hq h25
                  replace hq := lf_p1 hq rfl
                  refine lv_iload_n hx hb dX5_number_113 rfl (lv_at hl 3 rfl) ?_
                  subst hQ; exact k_iret hx hb hr hlk rfl ((v18, v19, v20, x_this_fault, x_this_place)) hS ⟨ib_w 0 199 h15 rfl, ib_w 0 1600 h21 rfl, ib_w 0 1600 h22 rfl, ib_w 0 4 h23 rfl, fun hq9 => ib_w 0 1599 (h24 hq9) rfl, (hO.symm.trans (by exact hq))⟩ hP hD (Nat.le_of_ble_eq_true rfl) (Nat.le_of_ble_eq_true rfl) dX5_number_114
                · replace hq := lf_neg hq (lf_nle (lf_rf J53_l3) (lf_lc 199 (199 : Int) rfl) c13)
                  have h26 := ib_nle h12 (ib_c 199 199 199 rfl) c13
                  have h27 : ib J53_l3 200 2147483647 := ib_w 200 2147483647 h26.1 rfl
                  exact jn94 J53_l3 J53_l4 H locs ls (ib_w 0 1600 hJ53_l4 rfl) (ib_w 0 1599 hK53_x_this_at rfl) (ib_w 2 2 hK53_x_this_sort rfl) (by exact hq) hP hD hS (lv_sub hl [0, 1, 2, 3, 4] rfl)
        · as_aux_lemma =>
            replace hq := lf_neg hq (lf_nle (lf_rf x_this_behind) (lf_rf J53_l4) c6)
            have h28 := ib_nle hx_this_behind hJ53_l4 c6
            have h29 : ib x_this_behind 1 1600 := ib_w 1 1600 h28.1 rfl
            have h30 : ib J53_l4 0 1599 := ib_w 0 1599 h28.2 rfl
            refine lv_iload_n hx hb dX5_number_62 rfl (lv_at hl 3 rfl) ?_
            refine lv_bipush (v := 10) hx hb dX5_number_63 rfl ?_
            refine lv_imul hx hb dX5_number_65 ?_
            refine lv_topi (fun z31 ez31 => ?_)
            have Ez31 := lf_op lf_imul ez31 (lf_rf J53_l3) (lf_lc 10 (10 : Int) rfl)
            refine lv_aload_n hx hb dX5_number_66 rfl (lv_at hl 0 rfl) ?_
            refine k_get C0 fg_X5_33 hP 0 rfl rfl dX5_number_67 ?_
            refine lv_iload hx hb dX5_number_70 (lv_at hl 4 rfl) ?_
            refine va_iald hx hb C0.2.2.2.2.2.1 hP 1 0 rfl rfl (ib_in 1600 h30 rfl) dX5_number_72 ?_
            refine lv_topi (fun z32 ez32 => ?_)
            have h33 : ib z32 0 255 := by rw [ez32]; exact ia_at hg_this_text (ib_in 1600 h30 rfl)
            have Ez32 := lf_ld ez32 (lf_ra g_this_text) (lf_rf J53_l4)
            refine lv_iadd hx hb dX5_number_73 ?_
            refine lv_topi (fun z34 ez34 => ?_)
            have Ez34 := lf_op lf_iadd ez34 Ez31 Ez32
            refine lv_bipush (v := 48) hx hb dX5_number_74 rfl ?_
            refine lv_isub hx hb dX5_number_76 ?_
            refine lv_topi (fun z35 ez35 => ?_)
            have Ez35 := lf_op lf_isub ez35 Ez34 (lf_lc 48 (48 : Int) rfl)
            refine lv_istore_n (lv' := [(3, .int z35), (0, .ref a_this), (1, .int 0), (2, .int 199), (4, .int J53_l4)]) hx hb dX5_number_77 rfl hl (Nat.le_of_ble_eq_true rfl) rfl (fun ls hl => ?_)
            obtain ⟨z36, ez36⟩ : ∃ y : Int32, y = J53_l4 + 1 := ⟨_, rfl⟩
            refine lv_iinc (v := z36) (lv' := [(4, .int z36), (3, .int z35), (0, .ref a_this), (1, .int 0), (2, .int 199)]) hx hb dX5_number_78 hl (k := 4) rfl (by rw [ez36]; rfl) (Nat.le_of_ble_eq_true rfl) rfl (fun ls hl => ?_)
            have h37 := ib_add h30 (ib_c 1 1 1 rfl) rfl
            rw [← ez36] at h37
            have h38 : ib z36 1 1600 := ib_w 1 1600 h37.1 rfl
            have Ez36 := lf_add h37.2 (lf_rf J53_l4) (lf_lc 1 (1 : Int) rfl)
            refine lv_goto (tgt := 53) hx hb dX5_number_81 rfl ?_
            exact ih53 z35 z36 H locs ls (ib_w 0 1599 hK53_x_this_at rfl) (ib_w 2 2 hK53_x_this_sort rfl) (ib_w 0 1600 h38 rfl) (by rw [← hK53]; rw [lf_u Ez35]; rw [lf_u Ez36]; exact hq) (by have := h37.2; have : (1 : Int32).toInt = 1 := rfl; omega) hP hD hS (lv_sub hl [2, 3, 4, 1, 0] rfl)
  refine lv_aload_n hx hb dX5_number_0 rfl (lv_at hl 0 rfl) ?_
  refine k_get C0 fg_X5_21 hP 0 rfl rfl dX5_number_1 ?_
  refine lv_iconst (v := 2) hx hb dX5_number_4 rfl ?_
  refine lv_icmp_eq (tgt := 19) hx hb dX5_number_5 rfl (fun c39 => ?_) (fun c39 => ?_)
  · as_aux_lemma =>
      replace hq := lf_pos hq (lf_eq (lf_rf x_this_sort) (lf_lc 2 (2 : Int) rfl) c39)
      have h40 := ib_eq hx_this_sort (ib_c 2 2 2 rfl) c39
      have h41 : ib x_this_sort 2 2 := ib_w 2 2 h40.1 rfl
      have h42 : ib x_this_at 0 1599 := ib_w 0 1599 (ib_two hx_this_at (hc0_this (ib_nz h41 rfl))) rfl
      refine lv_aload_n hx hb dX5_number_19 rfl (lv_at hl 0 rfl) ?_
      refine k_get C0 fg_X5_18 hP 0 rfl rfl dX5_number_20 ?_
      refine lv_aload_n hx hb dX5_number_23 rfl (lv_at hl 0 rfl) ?_
      refine k_get C0 fg_X5_15 hP 0 rfl rfl dX5_number_24 ?_
      refine lv_isub hx hb dX5_number_27 ?_
      refine lv_topi (fun z43 ez43 => ?_)
      have h44 := ib_sub hx_this_behind h42 rfl
      rw [← ez43] at h44
      have h45 : ib z43 (-1599) 1600 := ib_w (-1599) 1600 h44.1 rfl
      have Ez43 := lf_sub h44.2 (lf_rf x_this_behind) (lf_rf x_this_at)
      refine lv_iconst (v := 4) hx hb dX5_number_28 rfl ?_
      refine lv_icmp_le (tgt := 45) hx hb dX5_number_29 rfl (fun c46 => ?_) (fun c46 => ?_)
      · replace hq := lf_pos hq (lf_le Ez43 (lf_lc 4 (4 : Int) rfl) c46)
        have h47 := ib_le h45 (ib_c 4 4 4 rfl) c46
        have h48 : ib z43 (-1599) 4 := ib_w (-1599) 4 h47.1 rfl
        refine lv_iconst (v := 0) hx hb dX5_number_45 rfl ?_
        refine lv_istore_n (lv' := [(3, .int 0), (0, .ref a_this), (1, .int 0), (2, .int 199)]) hx hb dX5_number_46 rfl hl (Nat.le_of_ble_eq_true rfl) rfl (fun ls hl => ?_)
        refine lv_aload_n hx hb dX5_number_47 rfl (lv_at hl 1 rfl) ?_
        refine k_get C0 fg_X5_15 hP 0 rfl rfl dX5_number_48 ?_
        refine lv_istore (lv' := [(4, .int x_this_at), (3, .int 0), (0, .ref a_this), (1, .int 0), (2, .int 199)]) hx hb dX5_number_51 hl (Nat.le_of_ble_eq_true rfl) rfl (fun ls hl => ?_)
        exact jn53 1602 0 x_this_at H locs ls (ib_w 0 1599 h42 rfl) (ib_w 2 2 h41 rfl) (ib_w 0 1600 h42 rfl) (by try simp only [show (0 : Int32).toInt = (0 : Int) from rfl]; exact hq) (by have := h42; unfold ib at this; omega) hP hD hS (lv_sub hl [2, 3, 4, 1, 0] rfl)
      · as_aux_lemma =>
          replace hq := lf_neg hq (lf_nle Ez43 (lf_lc 4 (4 : Int) rfl) c46)
          have h49 := ib_nle h45 (ib_c 4 4 4 rfl) c46
          have h50 : ib z43 5 1600 := ib_w 5 1600 h49.1 rfl
          refine lv_aload_n hx hb dX5_number_32 rfl (lv_at hl 0 rfl) ?_
          refine lv_iconst (v := 1) hx hb dX5_number_33 rfl ?_
          refine lv_aload_n hx hb dX5_number_34 rfl (lv_at hl 0 rfl) ?_
          refine k_get C0 fg_X5_15 hP 0 rfl rfl dX5_number_35 ?_
          refine lv_iconst (v := 4) hx hb dX5_number_38 rfl ?_
          refine lv_iadd hx hb dX5_number_39 ?_
          refine lv_topi (fun z51 ez51 => ?_)
          have h52 := ib_add h42 (ib_c 4 4 4 rfl) rfl
          rw [← ez51] at h52
          have h53 : ib z51 4 1603 := ib_w 4 1603 h52.1 rfl
          have Ez51 := lf_add h52.2 (lf_rf x_this_at) (lf_lc 4 (4 : Int) rfl)
          refine k_jvm hP hD hS hA [0] [false, true] rfl rfl rfl 0 0 (Nat.le_of_ble_eq_true rfl) (Nat.le_of_ble_eq_true rfl) (fun hPc hDc => k_runV (As := [.int 1, .int z51]) (rest := []) C0 hZ hS hA (s_X5_fail l dC dI cy sq a_this a_this_text x_this_length x_this_at x_this_behind x_this_sort x_this_allowed a_this_plan x_this_fault x_this_place 1 z51 ) mV_X5_78 hPc hDc rfl rfl rfl hl rfl rfl (Nat.le_of_ble_eq_true rfl) ⟨(Nat.le_of_ble_eq_true rfl), (Nat.le_of_ble_eq_true rfl)⟩ ⟨(Nat.le_of_ble_eq_true rfl), (Nat.le_of_ble_eq_true rfl)⟩ dX5_number_40) (fun u55 H locs hw hP hD hS => ?_)
          obtain ⟨v56, v57⟩ := u55
          try dsimp only at hP hD hw
          replace hP : va_P (dC, dI) vwCl [(wi_0_1600_0 a_this_text cy g_this_text), (wo_5_riiiiirii a_this a_this_text x_this_length x_this_length x_this_length 0 x_this_allowed a_this_plan v56 v57)] H := hP
          replace hD := k_D hP hD
          have h58 := hw
          have h58 := by have h9 := h58; try simp only [show (1 : Int32).toInt = (1 : Int) from rfl] at h9; rw [lf_u Ez51] at h9; exact h9
          replace hq := lf_p1 hq h58
          refine lv_iload_n hx hb dX5_number_43 rfl (lv_at hl 1 rfl) ?_
          subst hQ; exact k_iret hx hb hr hlk rfl ((x_this_length, x_this_length, 0, v56, v57)) hS ⟨ib_w 0 199 (ib_c 0 0 0 rfl) rfl, ib_w 0 1600 hx_this_length rfl, ib_w 0 1600 hx_this_length rfl, ib_w 0 4 (ib_c 0 0 0 rfl) rfl, fun hq9 => absurd rfl hq9, (hO.symm.trans (by try simp only [show (0 : Int32).toInt = (0 : Int) from rfl]; exact hq))⟩ (hP.sub [1, 0] rfl) (hD.sub [1, 0] rfl rfl) (Nat.le_of_ble_eq_true rfl) (Nat.le_of_ble_eq_true rfl) dX5_number_44
  · replace hq := lf_neg hq (lf_ne (lf_rf x_this_sort) (lf_lc 2 (2 : Int) rfl) c39)
    refine lv_aload_n hx hb dX5_number_8 rfl (lv_at hl 0 rfl) ?_
    refine lv_iconst (v := 1) hx hb dX5_number_9 rfl ?_
    refine lv_aload_n hx hb dX5_number_10 rfl (lv_at hl 0 rfl) ?_
    refine k_get C0 fg_X5_15 hP 0 rfl rfl dX5_number_11 ?_
    refine k_jvm hP hD hS hA [0] [false, true] rfl rfl rfl 0 0 (Nat.le_of_ble_eq_true rfl) (Nat.le_of_ble_eq_true rfl) (fun hPc hDc => k_runV (As := [.int 1, .int x_this_at]) (rest := []) C0 hZ hS hA (s_X5_fail l dC dI cy sq a_this a_this_text x_this_length x_this_at x_this_behind x_this_sort x_this_allowed a_this_plan x_this_fault x_this_place 1 x_this_at ) mV_X5_78 hPc hDc rfl rfl rfl hl rfl rfl (Nat.le_of_ble_eq_true rfl) ⟨(Nat.le_of_ble_eq_true rfl), (Nat.le_of_ble_eq_true rfl)⟩ ⟨(Nat.le_of_ble_eq_true rfl), (Nat.le_of_ble_eq_true rfl)⟩ dX5_number_14) (fun u60 H locs hw hP hD hS => ?_)
    obtain ⟨v61, v62⟩ := u60
    try dsimp only at hP hD hw
    replace hP : va_P (dC, dI) vwCl [(wi_0_1600_0 a_this_text cy g_this_text), (wo_5_riiiiirii a_this a_this_text x_this_length x_this_length x_this_length 0 x_this_allowed a_this_plan v61 v62)] H := hP
    replace hD := k_D hP hD
    have h63 := hw
    have h63 := by have h9 := h63; try simp only [show (1 : Int32).toInt = (1 : Int) from rfl] at h9; exact h9
    replace hq := lf_p1 hq h63
    refine lv_iload_n hx hb dX5_number_17 rfl (lv_at hl 1 rfl) ?_
    subst hQ; exact k_iret hx hb hr hlk rfl ((x_this_length, x_this_length, 0, v61, v62)) hS ⟨ib_w 0 199 (ib_c 0 0 0 rfl) rfl, ib_w 0 1600 hx_this_length rfl, ib_w 0 1600 hx_this_length rfl, ib_w 0 4 (ib_c 0 0 0 rfl) rfl, fun hq9 => absurd rfl hq9, (hO.symm.trans (by try simp only [show (0 : Int32).toInt = (0 : Int) from rfl]; exact hq))⟩ (hP.sub [1, 0] rfl) (hD.sub [1, 0] rfl rfl) (Nat.le_of_ble_eq_true rfl) (Nat.le_of_ble_eq_true rfl) dX5_number_18
