set_option maxHeartbeats 4000000 in
set_option maxRecDepth 100000 in
theorem s_X5_fact_a0_6 (l : Launch) (dC : Nat → ClassId) (dI : Nat → Nat → Nat) (cy : Nat → ClassId) (sq : Nat → Nat) (a_this : Nat) (a_this_text : Nat) (g_this_text : Nat → Int32) (x_this_length : Int32) (x_this_at : Int32) (x_this_behind : Int32) (x_this_sort : Int32) (x_this_allowed : Int32) (a_this_plan : Nat) (x_this_plan_cycle : Int32) (x_this_plan_green : Int32) (x_this_plan_rule : Int32) (x_this_plan_least : Int32) (x_this_plan_away : Int32) (x_this_plan_statements : Int32) (x_this_plan_kinds : Int32) (a_this_plan_calm : Nat) (a_this_plan_pace : Nat) (a_this_plan_trusts : Nat) (x_this_plan_walkers : Int32) (a_this_plan_kindOf : Nat) (a_this_plan_comesAt : Nat) (a_this_plan_comers : Nat) (a_this_plan_names : Nat) (a_this_plan_code : Nat) (g_this_plan_code : Nat → Int32) (x_this_plan_size : Int32) (a_this_plan_spans : Nat) (x_this_fault : Int32) (x_this_place : Int32) (hg_this_text : ia g_this_text 1600 0 255) (hx_this_length : ib x_this_length 0 1600) (hx_this_at : ib x_this_at 0 1600) (hx_this_behind : ib x_this_behind 0 1600) (hx_this_sort : ib x_this_sort 0 4) (hx_this_plan_size : ib x_this_plan_size 0 1600) (hc0_this : ¬ x_this_sort = 0 → ib x_this_at 0 1599) : k_Met l yX5_fact cX5_fact 3 none { frames := 9, cells := 0, slots := 0, locals := 255 } dC dI cy sq [.ref a_this, .int 6] [(wo_5_riiiiirii a_this a_this_text x_this_length x_this_at x_this_behind x_this_sort x_this_allowed a_this_plan x_this_fault x_this_place), (wi_0_1600_0 a_this_text cy g_this_text), (wo_4_iiiiiiirrrirrrrrir a_this_plan x_this_plan_cycle x_this_plan_green x_this_plan_rule x_this_plan_least x_this_plan_away x_this_plan_statements x_this_plan_kinds a_this_plan_calm a_this_plan_pace a_this_plan_trusts x_this_plan_walkers a_this_plan_kindOf a_this_plan_comesAt a_this_plan_comers a_this_plan_names a_this_plan_code x_this_plan_size a_this_plan_spans), (wi_0_1600_0 a_this_plan_code cy g_this_plan_code)] (k_Qv dC dI (fun (u : Int32 × Int32 × Int32 × Int32 × Int32 × Int32 × (Nat → Int32)) => match u with | (n0, n1, n2, n3, n4, n5, n6) => ib n0 0 1600 ∧ ib n1 0 1600 ∧ ib n2 0 4 ∧ ib n5 0 1600 ∧ (¬ n2 = 0 → ib n0 0 1599) ∧ (F_X5_fact_a0_6 (lf_A g_this_text) (Int32.toInt x_this_length) (Int32.toInt x_this_at) (Int32.toInt x_this_behind) (Int32.toInt x_this_sort) (Int32.toInt x_this_allowed) (lf_A g_this_plan_code) (Int32.toInt x_this_plan_size) (Int32.toInt x_this_fault) (Int32.toInt x_this_place) = ((Int32.toInt n0), (Int32.toInt n1), (Int32.toInt n2), (Int32.toInt n3), (Int32.toInt n4), (Int32.toInt n5), (lf_A n6)))) (fun u : Int32 × Int32 × Int32 × Int32 × Int32 × Int32 × (Nat → Int32) => match u with | (n0, n1, n2, n3, n4, n5, n6) => [(wo_5_riiiiirii a_this a_this_text x_this_length n0 n1 n2 x_this_allowed a_this_plan n3 n4), (wi_0_1600_0 a_this_text cy g_this_text), (wo_4_iiiiiiirrrirrrrrir a_this_plan x_this_plan_cycle x_this_plan_green x_this_plan_rule x_this_plan_least x_this_plan_away x_this_plan_statements x_this_plan_kinds a_this_plan_calm a_this_plan_pace a_this_plan_trusts x_this_plan_walkers a_this_plan_kindOf a_this_plan_comesAt a_this_plan_comers a_this_plan_names a_this_plan_code n5 a_this_plan_spans), (wi_0_1600_0 a_this_plan_code cy n6)])) := by
  refine k_ofW2 (by decide +kernel) (Nat.le_of_ble_eq_true rfl) ?_
  intro p e s m below meth c A ls H locs args Q hQ C0 hZ hr hlk hin hP hD hA hS hl
  have C0 : k_cx p s m args c cX5_fact 3 RX5 dC dI cy sq := C0
  have hx := C0.1
  have hb := C0.2.1
  have hl : lv_has ls 3 [(0, .ref a_this), (1, .int 6)] := hl
  obtain ⟨O, hO⟩ : ∃ o, o = F_X5_fact_a0_6 (lf_A g_this_text) (Int32.toInt x_this_length) (Int32.toInt x_this_at) (Int32.toInt x_this_behind) (Int32.toInt x_this_sort) (Int32.toInt x_this_allowed) (lf_A g_this_plan_code) (Int32.toInt x_this_plan_size) (Int32.toInt x_this_fault) (Int32.toInt x_this_place) := ⟨_, rfl⟩
  have hq := hO
  unfold F_X5_fact_a0_6 at hq
  refine lv_aload_n hx hb dX5_fact_0 rfl (lv_at hl 0 rfl) ?_
  refine va_ldcS hx hb C0.2.2.2.1 (C0.2.2.2.2.2.2.2.2.2.2.2.2 15 (by decide)) dX5_fact_1 ?_
  refine k_jim hP hD hS hA [0, 1] [false, false, true, true] rfl rfl rfl 0 0 (Nat.le_of_ble_eq_true rfl) (Nat.le_of_ble_eq_true rfl) (fun hPc hDc => k_runV (As := [.ref (sq 15)]) (rest := []) C0 hZ hS hA (s_X5_wordIn_s15 l dC dI cy sq a_this a_this_text g_this_text x_this_length x_this_at x_this_behind x_this_sort x_this_allowed a_this_plan x_this_fault x_this_place hg_this_text (ib_w 0 1600 hx_this_at rfl) (ib_w 0 1600 hx_this_behind rfl) (ib_w 0 4 hx_this_sort rfl) (fun hq9 => ib_w 0 1599 (hc0_this hq9) rfl)) mV_X5_54 hPc hDc rfl rfl rfl hl rfl rfl (Nat.le_of_ble_eq_true rfl) ⟨(Nat.le_of_ble_eq_true rfl), (Nat.le_of_ble_eq_true rfl)⟩ ⟨(Nat.le_of_ble_eq_true rfl), (Nat.le_of_ble_eq_true rfl)⟩ dX5_fact_3) (fun r1 u2 H locs hw hP hD hS => ?_)
  try dsimp only at hP hD hw
  replace hP : va_P (dC, dI) vwCl [(wo_4_iiiiiiirrrirrrrrir a_this_plan x_this_plan_cycle x_this_plan_green x_this_plan_rule x_this_plan_least x_this_plan_away x_this_plan_statements x_this_plan_kinds a_this_plan_calm a_this_plan_pace a_this_plan_trusts x_this_plan_walkers a_this_plan_kindOf a_this_plan_comesAt a_this_plan_comers a_this_plan_names a_this_plan_code x_this_plan_size a_this_plan_spans), (wi_0_1600_0 a_this_plan_code cy g_this_plan_code), (wo_5_riiiiirii a_this a_this_text x_this_length x_this_at x_this_behind x_this_sort x_this_allowed a_this_plan x_this_fault x_this_place), (wi_0_1600_0 a_this_text cy g_this_text)] H := hP
  replace hD := k_D hP hD
  have h3 := hw
  replace hq := lf_b1 hq h3
  refine lv_iconst (v := (-1)) hx hb dX5_fact_6 rfl ?_
  refine lv_icmp_eq (tgt := 34) hx hb dX5_fact_7 rfl (fun c4 => ?_) (fun c4 => ?_)
  · as_aux_lemma =>
      replace hq := lf_pos hq (lf_eq (lf_rf r1) (lf_lc (-1) (-1 : Int) rfl) c4)
      have h5 := ib_eq (ib_any r1) (ib_c (-1) (-1) (-1) rfl) c4
      have h6 : ib r1 (-1) (-1) := ib_w (-1) (-1) h5.1 rfl
      refine lv_aload_n hx hb dX5_fact_34 rfl (lv_at hl 0 rfl) ?_
      refine lv_bipush (v := 91) hx hb dX5_fact_35 rfl ?_
      refine k_jim hP hD hS hA [2, 3] [true, true] rfl rfl rfl 0 0 (Nat.le_of_ble_eq_true rfl) (Nat.le_of_ble_eq_true rfl) (fun hPc hDc => k_runV (As := [.int 91]) (rest := []) C0 hZ hS hA (s_X5_sees l dC dI cy sq a_this a_this_text g_this_text x_this_length x_this_at x_this_behind x_this_sort x_this_allowed a_this_plan x_this_fault x_this_place 91 hg_this_text (ib_w 0 1600 hx_this_at rfl) (ib_w 0 4 hx_this_sort rfl) (fun hq9 => ib_w 0 1599 (hc0_this hq9) rfl)) mV_X5_213 hPc hDc rfl rfl rfl hl rfl rfl (Nat.le_of_ble_eq_true rfl) ⟨(Nat.le_of_ble_eq_true rfl), (Nat.le_of_ble_eq_true rfl)⟩ ⟨(Nat.le_of_ble_eq_true rfl), (Nat.le_of_ble_eq_true rfl)⟩ dX5_fact_37) (fun r7 u8 H locs hw hP hD hS => ?_)
      try dsimp only at hP hD hw
      replace hP : va_P (dC, dI) vwCl [(wo_4_iiiiiiirrrirrrrrir a_this_plan x_this_plan_cycle x_this_plan_green x_this_plan_rule x_this_plan_least x_this_plan_away x_this_plan_statements x_this_plan_kinds a_this_plan_calm a_this_plan_pace a_this_plan_trusts x_this_plan_walkers a_this_plan_kindOf a_this_plan_comesAt a_this_plan_comers a_this_plan_names a_this_plan_code x_this_plan_size a_this_plan_spans), (wi_0_1600_0 a_this_plan_code cy g_this_plan_code), (wo_5_riiiiirii a_this a_this_text x_this_length x_this_at x_this_behind x_this_sort x_this_allowed a_this_plan x_this_fault x_this_place), (wi_0_1600_0 a_this_text cy g_this_text)] H := hP
      replace hD := k_D hP hD
      obtain ⟨h9, h10, h11, h12, h13⟩ := hw
      have h13 := by have h9 := h13; try simp only [show (91 : Int32).toInt = (91 : Int) from rfl] at h9; exact h9
      replace hq := lf_b1 hq h13
      refine lv_if_eq (tgt := 67) hx hb dX5_fact_40 rfl (fun c14 => ?_) (fun c14 => ?_)
      · as_aux_lemma =>
          replace hq := lf_pos hq (lf_eq (lf_rf r7) (lf_lc 0 (0 : Int) rfl) c14)
          have h15 := ib_eq h9 (ib_c 0 0 0 rfl) c14
          have h16 : ib r7 0 0 := ib_w 0 0 h15.1 rfl
          refine lv_aload_n hx hb dX5_fact_67 rfl (lv_at hl 0 rfl) ?_
          refine va_ldcS hx hb C0.2.2.2.1 (C0.2.2.2.2.2.2.2.2.2.2.2.2 16 (by decide)) dX5_fact_68 ?_
          refine k_jim hP hD hS hA [2, 3] [true, true] rfl rfl rfl 0 0 (Nat.le_of_ble_eq_true rfl) (Nat.le_of_ble_eq_true rfl) (fun hPc hDc => k_runV (As := [.ref (sq 16)]) (rest := []) C0 hZ hS hA (s_X5_takeWord_s16 l dC dI cy sq a_this a_this_text g_this_text x_this_length x_this_at x_this_behind x_this_sort x_this_allowed a_this_plan x_this_fault x_this_place hg_this_text (ib_w 0 1600 hx_this_length rfl) (ib_w 0 1600 hx_this_at rfl) (ib_w 0 1600 hx_this_behind rfl) (ib_w 0 4 hx_this_sort rfl) (fun hq9 => ib_w 0 1599 (hc0_this hq9) rfl)) mV_X5_195 hPc hDc rfl rfl rfl hl rfl rfl (Nat.le_of_ble_eq_true rfl) ⟨(Nat.le_of_ble_eq_true rfl), (Nat.le_of_ble_eq_true rfl)⟩ ⟨(Nat.le_of_ble_eq_true rfl), (Nat.le_of_ble_eq_true rfl)⟩ dX5_fact_70) (fun r17 u18 H locs hw hP hD hS => ?_)
          obtain ⟨v19, v20, v21⟩ := u18
          try dsimp only at hP hD hw
          replace hP : va_P (dC, dI) vwCl [(wo_4_iiiiiiirrrirrrrrir a_this_plan x_this_plan_cycle x_this_plan_green x_this_plan_rule x_this_plan_least x_this_plan_away x_this_plan_statements x_this_plan_kinds a_this_plan_calm a_this_plan_pace a_this_plan_trusts x_this_plan_walkers a_this_plan_kindOf a_this_plan_comesAt a_this_plan_comers a_this_plan_names a_this_plan_code x_this_plan_size a_this_plan_spans), (wi_0_1600_0 a_this_plan_code cy g_this_plan_code), (wo_5_riiiiirii a_this a_this_text x_this_length v19 v20 v21 x_this_allowed a_this_plan x_this_fault x_this_place), (wi_0_1600_0 a_this_text cy g_this_text)] H := hP
          replace hD := k_D hP hD
          obtain ⟨h22, h23, h24, h25, h26, h27⟩ := hw
          replace hq := lf_p1 hq h27
          replace hq := lf_p1 hq rfl
          replace hq := lf_p1 hq rfl
          refine lv_if_eq (tgt := 84) hx hb dX5_fact_73 rfl (fun c28 => ?_) (fun c28 => ?_)
          · as_aux_lemma =>
              replace hq := lf_pos hq (lf_eq (lf_rf r17) (lf_lc 0 (0 : Int) rfl) c28)
              have h29 := ib_eq h22 (ib_c 0 0 0 rfl) c28
              have h30 : ib r17 0 0 := ib_w 0 0 h29.1 rfl
              refine lv_aload_n hx hb dX5_fact_84 rfl (lv_at hl 0 rfl) ?_
              refine lv_iload_n hx hb dX5_fact_85 rfl (lv_at hl 1 rfl) ?_
              refine k_jvm hP hD hS hA [2, 3, 0, 1] [] rfl rfl rfl 0 0 (Nat.le_of_ble_eq_true rfl) (Nat.le_of_ble_eq_true rfl) (fun hPc hDc => k_runV (As := [.int 6]) (rest := []) C0 hZ hS hA (s_X5_sum_a0_6 l dC dI cy sq a_this a_this_text g_this_text x_this_length v19 v20 v21 x_this_allowed a_this_plan x_this_plan_cycle x_this_plan_green x_this_plan_rule x_this_plan_least x_this_plan_away x_this_plan_statements x_this_plan_kinds a_this_plan_calm a_this_plan_pace a_this_plan_trusts x_this_plan_walkers a_this_plan_kindOf a_this_plan_comesAt a_this_plan_comers a_this_plan_names a_this_plan_code g_this_plan_code x_this_plan_size a_this_plan_spans x_this_fault x_this_place hg_this_text (ib_w 0 1600 hx_this_length rfl) (ib_w 0 1600 h23 rfl) (ib_w 0 1600 h24 rfl) (ib_w 0 4 h25 rfl) (ib_w 0 1600 hx_this_plan_size rfl) (fun hq9 => ib_w 0 1599 (h26 hq9) rfl)) mV_X5_93 hPc hDc rfl rfl rfl hl rfl rfl (Nat.le_of_ble_eq_true rfl) ⟨(Nat.le_of_ble_eq_true rfl), (Nat.le_of_ble_eq_true rfl)⟩ ⟨(Nat.le_of_ble_eq_true rfl), (Nat.le_of_ble_eq_true rfl)⟩ dX5_fact_86) (fun u32 H locs hw hP hD hS => ?_)
              obtain ⟨v33, v34, v35, v36, v37, v38, f39⟩ := u32
              try dsimp only at hP hD hw
              replace hP : va_P (dC, dI) vwCl [(wo_5_riiiiirii a_this a_this_text x_this_length v33 v34 v35 x_this_allowed a_this_plan v36 v37), (wi_0_1600_0 a_this_text cy g_this_text), (wo_4_iiiiiiirrrirrrrrir a_this_plan x_this_plan_cycle x_this_plan_green x_this_plan_rule x_this_plan_least x_this_plan_away x_this_plan_statements x_this_plan_kinds a_this_plan_calm a_this_plan_pace a_this_plan_trusts x_this_plan_walkers a_this_plan_kindOf a_this_plan_comesAt a_this_plan_comers a_this_plan_names a_this_plan_code v38 a_this_plan_spans), (wi_0_1600_0 a_this_plan_code cy f39)] H := hP
              replace hD := k_D hP hD
              obtain ⟨h40, h41, h42, h43, h44, h45⟩ := hw
              replace hq := lf_p1 hq h45
              replace hq := lf_p1 hq rfl
              replace hq := lf_p1 hq rfl
              replace hq := lf_p1 hq rfl
              replace hq := lf_p1 hq rfl
              replace hq := lf_p1 hq rfl
              refine lv_aload_n hx hb dX5_fact_89 rfl (lv_at hl 0 rfl) ?_
              refine k_jim hP hD hS hA [0, 1] [false, false, true, true] rfl rfl rfl 0 0 (Nat.le_of_ble_eq_true rfl) (Nat.le_of_ble_eq_true rfl) (fun hPc hDc => k_runV (As := []) (rest := []) C0 hZ hS hA (s_X5_signHere l dC dI cy sq a_this a_this_text g_this_text x_this_length v33 v34 v35 x_this_allowed a_this_plan v36 v37 hg_this_text (ib_w 0 1600 hx_this_length rfl) (ib_w 0 1600 h40 rfl) (ib_w 0 1600 h41 rfl) (ib_w 0 4 h42 rfl) (fun hq9 => ib_w 0 1599 (h44 hq9) rfl)) mV_X5_219 hPc hDc rfl rfl rfl hl rfl rfl (Nat.le_of_ble_eq_true rfl) ⟨(Nat.le_of_ble_eq_true rfl), (Nat.le_of_ble_eq_true rfl)⟩ ⟨(Nat.le_of_ble_eq_true rfl), (Nat.le_of_ble_eq_true rfl)⟩ dX5_fact_90) (fun r46 u47 H locs hw hP hD hS => ?_)
              obtain ⟨v48, v49, v50, v51, v52⟩ := u47
              try dsimp only at hP hD hw
              replace hP : va_P (dC, dI) vwCl [(wo_4_iiiiiiirrrirrrrrir a_this_plan x_this_plan_cycle x_this_plan_green x_this_plan_rule x_this_plan_least x_this_plan_away x_this_plan_statements x_this_plan_kinds a_this_plan_calm a_this_plan_pace a_this_plan_trusts x_this_plan_walkers a_this_plan_kindOf a_this_plan_comesAt a_this_plan_comers a_this_plan_names a_this_plan_code v38 a_this_plan_spans), (wi_0_1600_0 a_this_plan_code cy f39), (wo_5_riiiiirii a_this a_this_text x_this_length v48 v49 v50 x_this_allowed a_this_plan v51 v52), (wi_0_1600_0 a_this_text cy g_this_text)] H := hP
              replace hD := k_D hP hD
              obtain ⟨h53, h54, h55, h56, h57, h58⟩ := hw
              replace hq := lf_p1 hq h58
              replace hq := lf_p1 hq rfl
              replace hq := lf_p1 hq rfl
              replace hq := lf_p1 hq rfl
              replace hq := lf_p1 hq rfl
              refine lv_istore_n (lv' := [(2, .int r46), (0, .ref a_this), (1, .int 6)]) hx hb dX5_fact_93 rfl hl (Nat.le_of_ble_eq_true rfl) rfl (fun ls hl => ?_)
              as_aux_lemma =>
                refine lv_aload_n hx hb dX5_fact_94 rfl (lv_at hl 1 rfl) ?_
                refine lv_aload_n hx hb dX5_fact_95 rfl (lv_at hl 1 rfl) ?_
                refine k_get C0 fg_X5_18 hP 2 rfl rfl dX5_fact_96 ?_
                refine k_jvm hP hD hS hA [2, 3] [true, true] rfl rfl rfl 0 0 (Nat.le_of_ble_eq_true rfl) (Nat.le_of_ble_eq_true rfl) (fun hPc hDc => k_runV (As := [.int v49]) (rest := []) C0 hZ hS hA (s_X5_moveTo l dC dI cy sq a_this a_this_text g_this_text x_this_length v48 v49 v50 x_this_allowed a_this_plan v51 v52 v49 hg_this_text (ib_w 0 1600 hx_this_length rfl) (ib_w 0 1600 h55 rfl)) mV_X5_86 hPc hDc rfl rfl rfl hl rfl rfl (Nat.le_of_ble_eq_true rfl) ⟨(Nat.le_of_ble_eq_true rfl), (Nat.le_of_ble_eq_true rfl)⟩ ⟨(Nat.le_of_ble_eq_true rfl), (Nat.le_of_ble_eq_true rfl)⟩ dX5_fact_99) (fun u60 H locs hw hP hD hS => ?_)
                obtain ⟨v61, v62, v63⟩ := u60
                try dsimp only at hP hD hw
                replace hP : va_P (dC, dI) vwCl [(wo_4_iiiiiiirrrirrrrrir a_this_plan x_this_plan_cycle x_this_plan_green x_this_plan_rule x_this_plan_least x_this_plan_away x_this_plan_statements x_this_plan_kinds a_this_plan_calm a_this_plan_pace a_this_plan_trusts x_this_plan_walkers a_this_plan_kindOf a_this_plan_comesAt a_this_plan_comers a_this_plan_names a_this_plan_code v38 a_this_plan_spans), (wi_0_1600_0 a_this_plan_code cy f39), (wo_5_riiiiirii a_this a_this_text x_this_length v61 v62 v63 x_this_allowed a_this_plan v51 v52), (wi_0_1600_0 a_this_text cy g_this_text)] H := hP
                replace hD := k_D hP hD
                obtain ⟨h64, h65, h66, h67, h68⟩ := hw
                replace hq := lf_p1 hq h68
                replace hq := lf_p1 hq rfl
                refine lv_aload_n hx hb dX5_fact_102 rfl (lv_at hl 1 rfl) ?_
                refine lv_iload_n hx hb dX5_fact_103 rfl (lv_at hl 2 rfl) ?_
                refine k_jvm hP hD hS hA [2, 3, 0, 1] [] rfl rfl rfl 0 0 (Nat.le_of_ble_eq_true rfl) (Nat.le_of_ble_eq_true rfl) (fun hPc hDc => k_runV (As := [.int 6]) (rest := []) C0 hZ hS hA (s_X5_sum_a0_6 l dC dI cy sq a_this a_this_text g_this_text x_this_length v61 v62 v63 x_this_allowed a_this_plan x_this_plan_cycle x_this_plan_green x_this_plan_rule x_this_plan_least x_this_plan_away x_this_plan_statements x_this_plan_kinds a_this_plan_calm a_this_plan_pace a_this_plan_trusts x_this_plan_walkers a_this_plan_kindOf a_this_plan_comesAt a_this_plan_comers a_this_plan_names a_this_plan_code f39 v38 a_this_plan_spans v51 v52 hg_this_text (ib_w 0 1600 hx_this_length rfl) (ib_w 0 1600 h64 rfl) (ib_w 0 1600 h65 rfl) (ib_w 0 4 h66 rfl) (ib_w 0 1600 h43 rfl) (fun hq9 => ib_w 0 1599 (h67 hq9) rfl)) mV_X5_93 hPc hDc rfl rfl rfl hl rfl rfl (Nat.le_of_ble_eq_true rfl) ⟨(Nat.le_of_ble_eq_true rfl), (Nat.le_of_ble_eq_true rfl)⟩ ⟨(Nat.le_of_ble_eq_true rfl), (Nat.le_of_ble_eq_true rfl)⟩ dX5_fact_104) (fun u70 H locs hw hP hD hS => ?_)
                obtain ⟨v71, v72, v73, v74, v75, v76, f77⟩ := u70
                try dsimp only at hP hD hw
                replace hP : va_P (dC, dI) vwCl [(wo_5_riiiiirii a_this a_this_text x_this_length v71 v72 v73 x_this_allowed a_this_plan v74 v75), (wi_0_1600_0 a_this_text cy g_this_text), (wo_4_iiiiiiirrrirrrrrir a_this_plan x_this_plan_cycle x_this_plan_green x_this_plan_rule x_this_plan_least x_this_plan_away x_this_plan_statements x_this_plan_kinds a_this_plan_calm a_this_plan_pace a_this_plan_trusts x_this_plan_walkers a_this_plan_kindOf a_this_plan_comesAt a_this_plan_comers a_this_plan_names a_this_plan_code v76 a_this_plan_spans), (wi_0_1600_0 a_this_plan_code cy f77)] H := hP
                replace hD := k_D hP hD
                obtain ⟨h78, h79, h80, h81, h82, h83⟩ := hw
                replace hq := lf_p1 hq h83
                replace hq := lf_p1 hq rfl
                replace hq := lf_p1 hq rfl
                replace hq := lf_p1 hq rfl
                replace hq := lf_p1 hq rfl
                replace hq := lf_p1 hq rfl
                refine lv_aload_n hx hb dX5_fact_107 rfl (lv_at hl 1 rfl) ?_
                refine lv_iload_n hx hb dX5_fact_108 rfl (lv_at hl 0 rfl) ?_
                refine k_jvm hP hD hS hA [0, 2, 3] [false, true] rfl rfl rfl 0 0 (Nat.le_of_ble_eq_true rfl) (Nat.le_of_ble_eq_true rfl) (fun hPc hDc => k_runV (As := [.int r46]) (rest := []) C0 hZ hS hA (s_X5_emit l dC dI cy sq a_this a_this_text x_this_length v71 v72 v73 x_this_allowed a_this_plan x_this_plan_cycle x_this_plan_green x_this_plan_rule x_this_plan_least x_this_plan_away x_this_plan_statements x_this_plan_kinds a_this_plan_calm a_this_plan_pace a_this_plan_trusts x_this_plan_walkers a_this_plan_kindOf a_this_plan_comesAt a_this_plan_comers a_this_plan_names a_this_plan_code f77 v76 a_this_plan_spans v74 v75 r46 (ib_w 0 1600 h81 rfl)) mV_X5_199 hPc hDc rfl rfl rfl hl rfl rfl (Nat.le_of_ble_eq_true rfl) ⟨(Nat.le_of_ble_eq_true rfl), (Nat.le_of_ble_eq_true rfl)⟩ ⟨(Nat.le_of_ble_eq_true rfl), (Nat.le_of_ble_eq_true rfl)⟩ dX5_fact_109) (fun u85 H locs hw hP hD hS => ?_)
                obtain ⟨v86, f87⟩ := u85
                try dsimp only at hP hD hw
                replace hP : va_P (dC, dI) vwCl [(wi_0_1600_0 a_this_text cy g_this_text), (wo_5_riiiiirii a_this a_this_text x_this_length v71 v72 v73 x_this_allowed a_this_plan v74 v75), (wo_4_iiiiiiirrrirrrrrir a_this_plan x_this_plan_cycle x_this_plan_green x_this_plan_rule x_this_plan_least x_this_plan_away x_this_plan_statements x_this_plan_kinds a_this_plan_calm a_this_plan_pace a_this_plan_trusts x_this_plan_walkers a_this_plan_kindOf a_this_plan_comesAt a_this_plan_comers a_this_plan_names a_this_plan_code v86 a_this_plan_spans), (wi_0_1600_0 a_this_plan_code cy f87)] H := hP
                replace hD := k_D hP hD
                obtain ⟨h88, h89⟩ := hw
                replace hq := lf_p1 hq h89
                subst hQ; exact k_vret hx hb hr hlk ((v71, v72, v73, v74, v75, v86, f87)) hS ⟨ib_w 0 1600 h78 rfl, ib_w 0 1600 h79 rfl, ib_w 0 4 h80 rfl, ib_w 0 1600 h88 rfl, fun hq9 => ib_w 0 1599 (h82 hq9) rfl, (hO.symm.trans (by exact hq))⟩ (hP.sub [1, 0, 2, 3] rfl) (hD.sub [1, 0, 2, 3] rfl rfl) (Nat.le_of_ble_eq_true rfl) (Nat.le_of_ble_eq_true rfl) dX5_fact_112
          · replace hq := lf_neg hq (lf_ne (lf_rf r17) (lf_lc 0 (0 : Int) rfl) c28)
            have h90 : ib r17 1 1 := ib_w 1 1 (ib_ne_lo 0 h22 rfl c28) rfl
            refine lv_aload_n hx hb dX5_fact_76 rfl (lv_at hl 0 rfl) ?_
            refine lv_iconst (v := 1) hx hb dX5_fact_77 rfl ?_
            refine k_jvm hP hD hS hA [2, 0, 1] [false, false, false, true] rfl rfl rfl 0 0 (Nat.le_of_ble_eq_true rfl) (Nat.le_of_ble_eq_true rfl) (fun hPc hDc => k_runV (As := [.int 1]) (rest := []) C0 hZ hS hA (s_X5_emit l dC dI cy sq a_this a_this_text x_this_length v19 v20 v21 x_this_allowed a_this_plan x_this_plan_cycle x_this_plan_green x_this_plan_rule x_this_plan_least x_this_plan_away x_this_plan_statements x_this_plan_kinds a_this_plan_calm a_this_plan_pace a_this_plan_trusts x_this_plan_walkers a_this_plan_kindOf a_this_plan_comesAt a_this_plan_comers a_this_plan_names a_this_plan_code g_this_plan_code x_this_plan_size a_this_plan_spans x_this_fault x_this_place 1 (ib_w 0 1600 hx_this_plan_size rfl)) mV_X5_199 hPc hDc rfl rfl rfl hl rfl rfl (Nat.le_of_ble_eq_true rfl) ⟨(Nat.le_of_ble_eq_true rfl), (Nat.le_of_ble_eq_true rfl)⟩ ⟨(Nat.le_of_ble_eq_true rfl), (Nat.le_of_ble_eq_true rfl)⟩ dX5_fact_78) (fun u92 H locs hw hP hD hS => ?_)
            obtain ⟨v93, f94⟩ := u92
            try dsimp only at hP hD hw
            replace hP : va_P (dC, dI) vwCl [(wi_0_1600_0 a_this_text cy g_this_text), (wo_5_riiiiirii a_this a_this_text x_this_length v19 v20 v21 x_this_allowed a_this_plan x_this_fault x_this_place), (wo_4_iiiiiiirrrirrrrrir a_this_plan x_this_plan_cycle x_this_plan_green x_this_plan_rule x_this_plan_least x_this_plan_away x_this_plan_statements x_this_plan_kinds a_this_plan_calm a_this_plan_pace a_this_plan_trusts x_this_plan_walkers a_this_plan_kindOf a_this_plan_comesAt a_this_plan_comers a_this_plan_names a_this_plan_code v93 a_this_plan_spans), (wi_0_1600_0 a_this_plan_code cy f94)] H := hP
            replace hD := k_D hP hD
            obtain ⟨h95, h96⟩ := hw
            have h96 := by have h9 := h96; try simp only [show (1 : Int32).toInt = (1 : Int) from rfl] at h9; exact h9
            replace hq := lf_p1 hq h96
            refine lv_goto (tgt := 112) hx hb dX5_fact_81 rfl ?_
            subst hQ; exact k_vret hx hb hr hlk ((v19, v20, v21, x_this_fault, x_this_place, v93, f94)) hS ⟨ib_w 0 1600 h23 rfl, ib_w 0 1600 h24 rfl, ib_w 0 4 h25 rfl, ib_w 0 1600 h95 rfl, fun hq9 => ib_w 0 1599 (h26 hq9) rfl, (hO.symm.trans (by exact hq))⟩ (hP.sub [1, 0, 2, 3] rfl) (hD.sub [1, 0, 2, 3] rfl rfl) (Nat.le_of_ble_eq_true rfl) (Nat.le_of_ble_eq_true rfl) dX5_fact_112
      · as_aux_lemma =>
          replace hq := lf_neg hq (lf_ne (lf_rf r7) (lf_lc 0 (0 : Int) rfl) c14)
          have h97 : ib r7 1 1 := ib_w 1 1 (ib_ne_lo 0 h9 rfl c14) rfl
          have h98 : ib x_this_at 0 1599 := ib_w 0 1599 (ib_two hx_this_at (h10 c14)) rfl
          have h99 : ib x_this_sort 3 3 := ib_w 3 3 (ib_two hx_this_sort (h11 c14)) rfl
          refine lv_aload_n hx hb dX5_fact_43 rfl (lv_at hl 0 rfl) ?_
          refine lv_iload_n hx hb dX5_fact_44 rfl (lv_at hl 1 rfl) ?_
          refine k_jim hP hD hS hA [2] [true, true, false, true] rfl rfl rfl 0 0 (Nat.le_of_ble_eq_true rfl) (Nat.le_of_ble_eq_true rfl) (fun hPc hDc => k_runV (As := [.int 6]) (rest := []) C0 hZ hS hA (s_X5_enters_a0_6 l dC dI cy sq a_this a_this_text x_this_length x_this_at x_this_behind x_this_sort x_this_allowed a_this_plan x_this_fault x_this_place ) mV_X5_209 hPc hDc rfl rfl rfl hl rfl rfl (Nat.le_of_ble_eq_true rfl) ⟨(Nat.le_of_ble_eq_true rfl), (Nat.le_of_ble_eq_true rfl)⟩ ⟨(Nat.le_of_ble_eq_true rfl), (Nat.le_of_ble_eq_true rfl)⟩ dX5_fact_45) (fun r100 u101 H locs hw hP hD hS => ?_)
          obtain ⟨v102, v103⟩ := u101
          try dsimp only at hP hD hw
          replace hP : va_P (dC, dI) vwCl [(wo_4_iiiiiiirrrirrrrrir a_this_plan x_this_plan_cycle x_this_plan_green x_this_plan_rule x_this_plan_least x_this_plan_away x_this_plan_statements x_this_plan_kinds a_this_plan_calm a_this_plan_pace a_this_plan_trusts x_this_plan_walkers a_this_plan_kindOf a_this_plan_comesAt a_this_plan_comers a_this_plan_names a_this_plan_code x_this_plan_size a_this_plan_spans), (wi_0_1600_0 a_this_plan_code cy g_this_plan_code), (wi_0_1600_0 a_this_text cy g_this_text), (wo_5_riiiiirii a_this a_this_text x_this_length x_this_length x_this_length 0 x_this_allowed a_this_plan v102 v103)] H := hP
          replace hD := k_D hP hD
          obtain ⟨h104, h105⟩ := hw
          replace hq := lf_p1 hq h105
          replace hq := lf_p1 hq rfl
          refine lv_if_eq (tgt := 112) hx hb dX5_fact_48 rfl (fun c106 => ?_) (fun c106 => ?_)
          · skip
            have h107 := ib_eq h104 (ib_c 0 0 0 rfl) c106
            subst hQ; exact k_vret hx hb hr hlk ((x_this_length, x_this_length, 0, v102, v103, x_this_plan_size, g_this_plan_code)) hS ⟨ib_w 0 1600 hx_this_length rfl, ib_w 0 1600 hx_this_length rfl, ib_w 0 4 (ib_c 0 0 0 rfl) rfl, ib_w 0 1600 hx_this_plan_size rfl, fun hq9 => absurd rfl hq9, (hO.symm.trans (by try simp only [show (0 : Int32).toInt = (0 : Int) from rfl]; exact hq))⟩ (hP.sub [3, 2, 0, 1] rfl) (hD.sub [3, 2, 0, 1] rfl rfl) (Nat.le_of_ble_eq_true rfl) (Nat.le_of_ble_eq_true rfl) dX5_fact_112
          · skip
            exact absurd (ib_one h104 rfl) c106
  · replace hq := lf_neg hq (lf_ne (lf_rf r1) (lf_lc (-1) (-1 : Int) rfl) c4)
    refine lv_aload_n hx hb dX5_fact_10 rfl (lv_at hl 0 rfl) ?_
    refine lv_iload_n hx hb dX5_fact_11 rfl (lv_at hl 1 rfl) ?_
    refine k_jim hP hD hS hA [2] [true, true, false, true] rfl rfl rfl 0 0 (Nat.le_of_ble_eq_true rfl) (Nat.le_of_ble_eq_true rfl) (fun hPc hDc => k_runV (As := [.int 6]) (rest := []) C0 hZ hS hA (s_X5_enters_a0_6 l dC dI cy sq a_this a_this_text x_this_length x_this_at x_this_behind x_this_sort x_this_allowed a_this_plan x_this_fault x_this_place ) mV_X5_209 hPc hDc rfl rfl rfl hl rfl rfl (Nat.le_of_ble_eq_true rfl) ⟨(Nat.le_of_ble_eq_true rfl), (Nat.le_of_ble_eq_true rfl)⟩ ⟨(Nat.le_of_ble_eq_true rfl), (Nat.le_of_ble_eq_true rfl)⟩ dX5_fact_12) (fun r108 u109 H locs hw hP hD hS => ?_)
    obtain ⟨v110, v111⟩ := u109
    try dsimp only at hP hD hw
    replace hP : va_P (dC, dI) vwCl [(wo_4_iiiiiiirrrirrrrrir a_this_plan x_this_plan_cycle x_this_plan_green x_this_plan_rule x_this_plan_least x_this_plan_away x_this_plan_statements x_this_plan_kinds a_this_plan_calm a_this_plan_pace a_this_plan_trusts x_this_plan_walkers a_this_plan_kindOf a_this_plan_comesAt a_this_plan_comers a_this_plan_names a_this_plan_code x_this_plan_size a_this_plan_spans), (wi_0_1600_0 a_this_plan_code cy g_this_plan_code), (wi_0_1600_0 a_this_text cy g_this_text), (wo_5_riiiiirii a_this a_this_text x_this_length x_this_length x_this_length 0 x_this_allowed a_this_plan v110 v111)] H := hP
    replace hD := k_D hP hD
    obtain ⟨h112, h113⟩ := hw
    replace hq := lf_p1 hq h113
    replace hq := lf_p1 hq rfl
    refine lv_if_eq (tgt := 112) hx hb dX5_fact_15 rfl (fun c114 => ?_) (fun c114 => ?_)
    · skip
      have h115 := ib_eq h112 (ib_c 0 0 0 rfl) c114
      subst hQ; exact k_vret hx hb hr hlk ((x_this_length, x_this_length, 0, v110, v111, x_this_plan_size, g_this_plan_code)) hS ⟨ib_w 0 1600 hx_this_length rfl, ib_w 0 1600 hx_this_length rfl, ib_w 0 4 (ib_c 0 0 0 rfl) rfl, ib_w 0 1600 hx_this_plan_size rfl, fun hq9 => absurd rfl hq9, (hO.symm.trans (by try simp only [show (0 : Int32).toInt = (0 : Int) from rfl]; exact hq))⟩ (hP.sub [3, 2, 0, 1] rfl) (hD.sub [3, 2, 0, 1] rfl rfl) (Nat.le_of_ble_eq_true rfl) (Nat.le_of_ble_eq_true rfl) dX5_fact_112
    · skip
      exact absurd (ib_one h112 rfl) c114
set_option maxHeartbeats 4000000 in
set_option maxRecDepth 100000 in
theorem s_X5_wordIn_s14 (l : Launch) (dC : Nat → ClassId) (dI : Nat → Nat → Nat) (cy : Nat → ClassId) (sq : Nat → Nat) (a_this : Nat) (a_this_text : Nat) (g_this_text : Nat → Int32) (x_this_length : Int32) (x_this_at : Int32) (x_this_behind : Int32) (x_this_sort : Int32) (x_this_allowed : Int32) (a_this_plan : Nat) (x_this_fault : Int32) (x_this_place : Int32) (hg_this_text : ia g_this_text 1600 0 255) (hx_this_at : ib x_this_at 0 1600) (hx_this_behind : ib x_this_behind 0 1600) (hx_this_sort : ib x_this_sort 0 4) (hc0_this : ¬ x_this_sort = 0 → ib x_this_at 0 1599) : k_Met l yX5_wordIn cX5_wordIn 6 (some .int) { frames := 4, cells := 0, slots := 0, locals := 141 } dC dI cy sq [.ref a_this, .ref (sq 14)] [(wo_5_riiiiirii a_this a_this_text x_this_length x_this_at x_this_behind x_this_sort x_this_allowed a_this_plan x_this_fault x_this_place), (wi_0_1600_0 a_this_text cy g_this_text)] (k_Qi dC dI (fun (r : Int32) (_ : Unit) => (F_X5_wordIn_s14 (lf_A g_this_text) (Int32.toInt x_this_at) (Int32.toInt x_this_behind) (Int32.toInt x_this_sort) = ((Int32.toInt r)))) (fun _ : Unit => [(wo_5_riiiiirii a_this a_this_text x_this_length x_this_at x_this_behind x_this_sort x_this_allowed a_this_plan x_this_fault x_this_place), (wi_0_1600_0 a_this_text cy g_this_text)])) := by
  refine k_ofW2 (by decide +kernel) (Nat.le_of_ble_eq_true rfl) ?_
  intro p e s m below meth c A ls H locs args Q hQ C0 hZ hr hlk hin hP hD hA hS hl
  have C0 : k_cx p s m args c cX5_wordIn 6 RX5 dC dI cy sq := C0
  have hx := C0.1
  have hb := C0.2.1
  have hl : lv_has ls 6 [(0, .ref a_this), (1, .ref (sq 14))] := hl
  obtain ⟨O, hO⟩ : ∃ o, o = F_X5_wordIn_s14 (lf_A g_this_text) (Int32.toInt x_this_at) (Int32.toInt x_this_behind) (Int32.toInt x_this_sort) := ⟨_, rfl⟩
  have hq := hO
  unfold F_X5_wordIn_s14 at hq
  have jn23 : ∀ (n : Nat) (J23_l2 : Int32) (J23_l3 : Int32) (J23_l4 : Int32) (J23_l5 : Int32) (H : Heap) (locs : List Loc) (ls : Array Slot), ib x_this_at 0 1599 → ib x_this_sort 1 1 → ib J23_l3 0 1603 → ib J23_l4 0 1 → ib J23_l5 0 4 → (1 * J23_l3.toInt + (-1) * J23_l5.toInt ≤ 1600) → (O = F_X5_wordIn_s14_23 (lf_A g_this_text) (Int32.toInt x_this_at) (Int32.toInt x_this_behind) n (Int32.toInt J23_l2) (Int32.toInt J23_l3) (Int32.toInt J23_l4) (Int32.toInt J23_l5)) → 5 ≤ J23_l5.toInt + (n : Int) → va_P (dC, dI) vwCl [(wo_5_riiiiirii a_this a_this_text x_this_length x_this_at x_this_behind x_this_sort x_this_allowed a_this_plan x_this_fault x_this_place), (wi_0_1600_0 a_this_text cy g_this_text)] H → va_D A [(wo_5_riiiiirii a_this a_this_text x_this_length x_this_at x_this_behind x_this_sort x_this_allowed a_this_plan x_this_fault x_this_place), (wi_0_1600_0 a_this_text cy g_this_text)] → va_S A s.heap H locs → lv_has ls 6 [(0, .ref a_this), (1, .ref (sq 14)), (2, .int J23_l2), (3, .int J23_l3), (4, .int J23_l4), (5, .int J23_l5)] → W p l e { frames := 4, cells := 0, slots := 0, locals := 141 } s m args below meth c H locs 0 0 Q (F0 m 23 ls []) := by
    as_aux_lemma =>
      intro n
      induction n with
      | zero =>
        intro J23_l2 J23_l3 J23_l4 J23_l5 H locs ls hK23_x_this_at hK23_x_this_sort hJ23_l3 hJ23_l4 hJ23_l5 hJ23_lin0 hq hm
        exact absurd hm (by have := hJ23_l5; unfold ib at this; omega)
      | succ n ih =>
        intro J23_l2 J23_l3 J23_l4 J23_l5 H locs ls hK23_x_this_at hK23_x_this_sort hJ23_l3 hJ23_l4 hJ23_l5 hJ23_lin0 hq hm23 hP hD hS hl
        have ih23 := ih
        obtain ⟨K23, hK23⟩ : ∃ K, K = F_X5_wordIn_s14_23 (lf_A g_this_text) (Int32.toInt x_this_at) (Int32.toInt x_this_behind) n := ⟨_, rfl⟩
        have hq : O = F_X5_wordIn_s14_23b (lf_A g_this_text) (Int32.toInt x_this_at) (Int32.toInt x_this_behind) K23 (Int32.toInt J23_l2) (Int32.toInt J23_l3) (Int32.toInt J23_l4) (Int32.toInt J23_l5) := by rw [hK23]; exact hq
        unfold F_X5_wordIn_s14_23b at hq
        have jn119 : ∀ (J119_l2 : Int32) (J119_l3 : Int32) (J119_l4 : Int32) (H : Heap) (locs : List Loc) (ls : Array Slot), ib x_this_at 0 1599 → ib J23_l5 0 3 → ib x_this_sort 1 1 → ib J119_l3 0 1603 → ib J119_l4 0 1 → (1 * J119_l3.toInt + (-1) * J23_l5.toInt ≤ 1601) → (O = F_X5_wordIn_s14_119 (Int32.toInt J23_l5) K23 (Int32.toInt J119_l2) (Int32.toInt J119_l3) (Int32.toInt J119_l4)) → va_P (dC, dI) vwCl [(wo_5_riiiiirii a_this a_this_text x_this_length x_this_at x_this_behind x_this_sort x_this_allowed a_this_plan x_this_fault x_this_place), (wi_0_1600_0 a_this_text cy g_this_text)] H → va_D A [(wo_5_riiiiirii a_this a_this_text x_this_length x_this_at x_this_behind x_this_sort x_this_allowed a_this_plan x_this_fault x_this_place), (wi_0_1600_0 a_this_text cy g_this_text)] → va_S A s.heap H locs → lv_has ls 6 [(0, .ref a_this), (1, .ref (sq 14)), (2, .int J119_l2), (3, .int J119_l3), (4, .int J119_l4), (5, .int J23_l5)] → W p l e { frames := 4, cells := 0, slots := 0, locals := 141 } s m args below meth c H locs 0 0 Q (F0 m 119 ls []) := by
          intro J119_l2 J119_l3 J119_l4 H locs ls hK119_x_this_at hK119_J23_l5 hK119_x_this_sort hJ119_l3 hJ119_l4 hJ119_lin0 hq hP hD hS hl
          unfold F_X5_wordIn_s14_119 at hq
          obtain ⟨z1, ez1⟩ : ∃ y : Int32, y = J23_l5 + 1 := ⟨_, rfl⟩
          refine lv_iinc (v := z1) (lv' := [(5, .int z1), (0, .ref a_this), (1, .ref (sq 14)), (2, .int J119_l2), (3, .int J119_l3), (4, .int J119_l4)]) hx hb dX5_wordIn_119 hl (k := 5) rfl (by rw [ez1]; rfl) (Nat.le_of_ble_eq_true rfl) rfl (fun ls hl => ?_)
          have h2 := ib_add hK119_J23_l5 (ib_c 1 1 1 rfl) rfl
          rw [← ez1] at h2
          have h3 : ib z1 1 4 := ib_w 1 4 h2.1 rfl
          have Ez1 := lf_add h2.2 (lf_rf J23_l5) (lf_lc 1 (1 : Int) rfl)
          refine lv_goto (tgt := 23) hx hb dX5_wordIn_122 rfl ?_
          exact ih23 J119_l2 J119_l3 J119_l4 z1 H locs ls (ib_w 0 1599 hK119_x_this_at rfl) (ib_w 1 1 hK119_x_this_sort rfl) (ib_w 0 1603 hJ119_l3 rfl) (ib_w 0 1 hJ119_l4 rfl) (ib_w 0 4 h3 rfl) (by have := h2.2; have : (1 : Int32).toInt = 1 := rfl; have := hJ119_lin0; omega) (by rw [← hK23]; rw [lf_u Ez1]; exact hq) (by have := h2.2; have : (1 : Int32).toInt = 1 := rfl; omega) hP hD hS (lv_sub hl [1, 2, 3, 4, 5, 0] rfl)
        have jn114 : ∀ (J114_s0 : Int32) (H : Heap) (locs : List Loc) (ls : Array Slot), ib J23_l3 0 1602 → ib J23_l4 0 1 → ib J23_l5 0 2 → ib x_this_at 0 1599 → ib x_this_sort 1 1 → ib J114_s0 0 1 → (1 * J23_l3.toInt + (-1) * J23_l5.toInt ≤ 1600) → (O = F_X5_wordIn_s14_114 (Int32.toInt J23_l2) (Int32.toInt J23_l3) (Int32.toInt J23_l5) K23 (Int32.toInt J114_s0)) → va_P (dC, dI) vwCl [(wo_5_riiiiirii a_this a_this_text x_this_length x_this_at x_this_behind x_this_sort x_this_allowed a_this_plan x_this_fault x_this_place), (wi_0_1600_0 a_this_text cy g_this_text)] H → va_D A [(wo_5_riiiiirii a_this a_this_text x_this_length x_this_at x_this_behind x_this_sort x_this_allowed a_this_plan x_this_fault x_this_place), (wi_0_1600_0 a_this_text cy g_this_text)] → va_S A s.heap H locs → lv_has ls 6 [(0, .ref a_this), (1, .ref (sq 14)), (2, .int J23_l2), (3, .int J23_l3), (4, .int J23_l4), (5, .int J23_l5)] → W p l e { frames := 4, cells := 0, slots := 0, locals := 141 } s m args below meth c H locs 0 0 Q (F0 m 114 ls [.int J114_s0]) := by
          intro J114_s0 H locs ls hK114_J23_l3 hK114_J23_l4 hK114_J23_l5 hK114_x_this_at hK114_x_this_sort hJ114_s0 hJ114_lin0 hq hP hD hS hl
          unfold F_X5_wordIn_s14_114 at hq
          refine lv_istore (lv' := [(4, .int J114_s0), (0, .ref a_this), (1, .ref (sq 14)), (2, .int J23_l2), (3, .int J23_l3), (5, .int J23_l5)]) hx hb dX5_wordIn_114 hl (Nat.le_of_ble_eq_true rfl) rfl (fun ls hl => ?_)
          obtain ⟨z4, ez4⟩ : ∃ y : Int32, y = J23_l3 + 1 := ⟨_, rfl⟩
          refine lv_iinc (v := z4) (lv' := [(3, .int z4), (4, .int J114_s0), (0, .ref a_this), (1, .ref (sq 14)), (2, .int J23_l2), (5, .int J23_l5)]) hx hb dX5_wordIn_116 hl (k := 4) rfl (by rw [ez4]; rfl) (Nat.le_of_ble_eq_true rfl) rfl (fun ls hl => ?_)
          have h5 := ib_add hK114_J23_l3 (ib_c 1 1 1 rfl) rfl
          rw [← ez4] at h5
          have h6 : ib z4 1 1603 := ib_w 1 1603 h5.1 rfl
          have Ez4 := lf_add h5.2 (lf_rf J23_l3) (lf_lc 1 (1 : Int) rfl)
          exact jn119 J23_l2 z4 J114_s0 H locs ls (ib_w 0 1599 hK114_x_this_at rfl) (ib_w 0 3 hK114_J23_l5 rfl) (ib_w 1 1 hK114_x_this_sort rfl) (ib_w 0 1603 h6 rfl) (ib_w 0 1 hJ114_s0 rfl) (by have := (hK114_J23_l5).1; have := hJ23_lin0; have := (h6).2; have := h5.2; have : (1 : Int32).toInt = 1 := rfl; omega) (by rw [lf_u Ez4]; exact hq) hP hD hS (lv_sub hl [2, 3, 4, 0, 1, 5] rfl)
        have jn113 : ∀  (H : Heap) (locs : List Loc) (ls : Array Slot), ib J23_l3 0 1602 → ib J23_l4 0 1 → ib J23_l5 0 2 → ib x_this_at 0 1599 → ib x_this_sort 1 1 → (1 * J23_l3.toInt + (-1) * J23_l5.toInt ≤ 1600) → (O = F_X5_wordIn_s14_113 (Int32.toInt J23_l2) (Int32.toInt J23_l3) (Int32.toInt J23_l5) K23 ) → va_P (dC, dI) vwCl [(wo_5_riiiiirii a_this a_this_text x_this_length x_this_at x_this_behind x_this_sort x_this_allowed a_this_plan x_this_fault x_this_place), (wi_0_1600_0 a_this_text cy g_this_text)] H → va_D A [(wo_5_riiiiirii a_this a_this_text x_this_length x_this_at x_this_behind x_this_sort x_this_allowed a_this_plan x_this_fault x_this_place), (wi_0_1600_0 a_this_text cy g_this_text)] → va_S A s.heap H locs → lv_has ls 6 [(0, .ref a_this), (1, .ref (sq 14)), (2, .int J23_l2), (3, .int J23_l3), (4, .int J23_l4), (5, .int J23_l5)] → W p l e { frames := 4, cells := 0, slots := 0, locals := 141 } s m args below meth c H locs 0 0 Q (F0 m 113 ls []) := by
          intro H locs ls hK113_J23_l3 hK113_J23_l4 hK113_J23_l5 hK113_x_this_at hK113_x_this_sort hJ113_lin0 hq hP hD hS hl
          unfold F_X5_wordIn_s14_113 at hq
          refine lv_iconst (v := 0) hx hb dX5_wordIn_113 rfl ?_
          exact jn114 0 H locs ls (ib_w 0 1602 hK113_J23_l3 rfl) (ib_w 0 1 hK113_J23_l4 rfl) (ib_w 0 2 hK113_J23_l5 rfl) (ib_w 0 1599 hK113_x_this_at rfl) (ib_w 1 1 hK113_x_this_sort rfl) (ib_w 0 1 (ib_c 0 0 0 rfl) rfl) (by have := hJ23_lin0; omega) (by try simp only [show (0 : Int32).toInt = (0 : Int) from rfl]; exact hq) hP hD hS (lv_sub hl [0, 1, 2, 3, 4, 5] rfl)
        have jn67 : ∀  (H : Heap) (locs : List Loc) (ls : Array Slot), ib J23_l3 0 1603 → ib J23_l4 0 1 → ib J23_l5 0 3 → ib x_this_at 0 1599 → ib x_this_sort 1 1 → (O = F_X5_wordIn_s14_67 (Int32.toInt x_this_at) (Int32.toInt J23_l2) (Int32.toInt J23_l5) K23 ) → va_P (dC, dI) vwCl [(wo_5_riiiiirii a_this a_this_text x_this_length x_this_at x_this_behind x_this_sort x_this_allowed a_this_plan x_this_fault x_this_place), (wi_0_1600_0 a_this_text cy g_this_text)] H → va_D A [(wo_5_riiiiirii a_this a_this_text x_this_length x_this_at x_this_behind x_this_sort x_this_allowed a_this_plan x_this_fault x_this_place), (wi_0_1600_0 a_this_text cy g_this_text)] → va_S A s.heap H locs → lv_has ls 6 [(0, .ref a_this), (1, .ref (sq 14)), (2, .int J23_l2), (3, .int J23_l3), (4, .int J23_l4), (5, .int J23_l5)] → W p l e { frames := 4, cells := 0, slots := 0, locals := 141 } s m args below meth c H locs 0 0 Q (F0 m 67 ls []) := by
          intro H locs ls hK67_J23_l3 hK67_J23_l4 hK67_J23_l5 hK67_x_this_at hK67_x_this_sort hq hP hD hS hl
          unfold F_X5_wordIn_s14_67 at hq
          obtain ⟨z7, ez7⟩ : ∃ y : Int32, y = J23_l2 + 1 := ⟨_, rfl⟩
          refine lv_iinc (v := z7) (lv' := [(2, .int z7), (0, .ref a_this), (1, .ref (sq 14)), (3, .int J23_l3), (4, .int J23_l4), (5, .int J23_l5)]) hx hb dX5_wordIn_67 hl (k := 2) rfl (by rw [ez7]; rfl) (Nat.le_of_ble_eq_true rfl) rfl (fun ls hl => ?_)
          have Ez7 := lf_op lf_iadd ez7 (lf_rf J23_l2) (lf_lc 1 (1 : Int) rfl)
          refine lv_aload_n hx hb dX5_wordIn_70 rfl (lv_at hl 1 rfl) ?_
          refine k_get C0 fg_X5_15 hP 0 rfl rfl dX5_wordIn_71 ?_
          refine lv_istore_n (lv' := [(3, .int x_this_at), (2, .int z7), (0, .ref a_this), (1, .ref (sq 14)), (4, .int J23_l4), (5, .int J23_l5)]) hx hb dX5_wordIn_74 rfl hl (Nat.le_of_ble_eq_true rfl) rfl (fun ls hl => ?_)
          refine lv_iconst (v := 1) hx hb dX5_wordIn_75 rfl ?_
          refine lv_istore (lv' := [(4, .int 1), (3, .int x_this_at), (2, .int z7), (0, .ref a_this), (1, .ref (sq 14)), (5, .int J23_l5)]) hx hb dX5_wordIn_76 hl (Nat.le_of_ble_eq_true rfl) rfl (fun ls hl => ?_)
          refine lv_goto (tgt := 119) hx hb dX5_wordIn_78 rfl ?_
          exact jn119 z7 x_this_at 1 H locs ls (ib_w 0 1599 hK67_x_this_at rfl) (ib_w 0 3 hK67_J23_l5 rfl) (ib_w 1 1 hK67_x_this_sort rfl) (ib_w 0 1603 hK67_x_this_at rfl) (ib_w 0 1 (ib_c 1 1 1 rfl) rfl) (by have := (hK67_J23_l5).1; have := (hK67_x_this_at).2; omega) (by rw [lf_u Ez7]; try simp only [show (1 : Int32).toInt = (1 : Int) from rfl]; exact hq) hP hD hS (lv_sub hl [3, 4, 2, 1, 0, 5] rfl)
        have jn52 : ∀  (H : Heap) (locs : List Loc) (ls : Array Slot), ib J23_l3 0 1603 → ib J23_l4 0 1 → ib J23_l5 0 3 → ib x_this_at 0 1599 → ib x_this_sort 1 1 → (O = F_X5_wordIn_s14_52 (Int32.toInt x_this_at) (Int32.toInt x_this_behind) (Int32.toInt J23_l2) (Int32.toInt J23_l3) (Int32.toInt J23_l4) (Int32.toInt J23_l5) K23 ) → va_P (dC, dI) vwCl [(wo_5_riiiiirii a_this a_this_text x_this_length x_this_at x_this_behind x_this_sort x_this_allowed a_this_plan x_this_fault x_this_place), (wi_0_1600_0 a_this_text cy g_this_text)] H → va_D A [(wo_5_riiiiirii a_this a_this_text x_this_length x_this_at x_this_behind x_this_sort x_this_allowed a_this_plan x_this_fault x_this_place), (wi_0_1600_0 a_this_text cy g_this_text)] → va_S A s.heap H locs → lv_has ls 6 [(0, .ref a_this), (1, .ref (sq 14)), (2, .int J23_l2), (3, .int J23_l3), (4, .int J23_l4), (5, .int J23_l5)] → W p l e { frames := 4, cells := 0, slots := 0, locals := 141 } s m args below meth c H locs 0 0 Q (F0 m 52 ls []) := by
          as_aux_lemma =>
            intro H locs ls hK52_J23_l3 hK52_J23_l4 hK52_J23_l5 hK52_x_this_at hK52_x_this_sort hq hP hD hS hl
            unfold F_X5_wordIn_s14_52 at hq
            refine lv_iload hx hb dX5_wordIn_52 (lv_at hl 4 rfl) ?_
            refine lv_if_eq (tgt := 67) hx hb dX5_wordIn_54 rfl (fun c8 => ?_) (fun c8 => ?_)
            · replace hq := lf_pos hq (lf_eq (lf_rf J23_l4) (lf_lc 0 (0 : Int) rfl) c8)
              have h9 := ib_eq hK52_J23_l4 (ib_c 0 0 0 rfl) c8
              have h10 : ib J23_l4 0 0 := ib_w 0 0 h9.1 rfl
              exact jn67  H locs ls (ib_w 0 1603 hK52_J23_l3 rfl) (ib_w 0 1 h10 rfl) (ib_w 0 3 hK52_J23_l5 rfl) (ib_w 0 1599 hK52_x_this_at rfl) (ib_w 1 1 hK52_x_this_sort rfl) (by exact hq) hP hD hS (lv_sub hl [0, 1, 2, 3, 4, 5] rfl)
            · replace hq := lf_neg hq (lf_ne (lf_rf J23_l4) (lf_lc 0 (0 : Int) rfl) c8)
              have h11 : ib J23_l4 1 1 := ib_w 1 1 (ib_ne_lo 0 hK52_J23_l4 rfl c8) rfl
              refine lv_iload_n hx hb dX5_wordIn_57 rfl (lv_at hl 3 rfl) ?_
              refine lv_aload_n hx hb dX5_wordIn_58 rfl (lv_at hl 0 rfl) ?_
              refine k_get C0 fg_X5_18 hP 0 rfl rfl dX5_wordIn_59 ?_
              refine lv_icmp_ne (tgt := 67) hx hb dX5_wordIn_62 rfl (fun c12 => ?_) (fun c12 => ?_)
              · replace hq := lf_neg hq (lf_ne (lf_rf J23_l3) (lf_rf x_this_behind) c12)
                exact jn67  H locs ls (ib_w 0 1603 hK52_J23_l3 rfl) (ib_w 0 1 h11 rfl) (ib_w 0 3 hK52_J23_l5 rfl) (ib_w 0 1599 hK52_x_this_at rfl) (ib_w 1 1 hK52_x_this_sort rfl) (by exact hq) hP hD hS (lv_sub hl [0, 1, 2, 3, 4, 5] rfl)
              · replace hq := lf_pos hq (lf_eq (lf_rf J23_l3) (lf_rf x_this_behind) c12)
                have h13 := ib_eq hK52_J23_l3 hx_this_behind c12
                have h14 : ib J23_l3 0 1600 := ib_w 0 1600 h13.1 rfl
                refine lv_iload_n hx hb dX5_wordIn_65 rfl (lv_at hl 2 rfl) ?_
                subst hQ; exact k_iret hx hb hr hlk rfl () hS ((hO.symm.trans (by exact hq))) hP hD (Nat.le_of_ble_eq_true rfl) (Nat.le_of_ble_eq_true rfl) dX5_wordIn_66
        refine lv_iload hx hb dX5_wordIn_23 (lv_at hl 5 rfl) ?_
        refine lv_aload_n hx hb dX5_wordIn_25 rfl (lv_at hl 1 rfl) ?_
        refine k_jim hP hD hS hA [] [true, true] rfl rfl rfl 0 0 (Nat.le_of_ble_eq_true rfl) (Nat.le_of_ble_eq_true rfl) (fun hPc hDc => k_runVO (As := []) (rest := [.int J23_l5]) C0 hZ hS hA (c_length l dC dI cy sq 14 (by decide)) mV_X5_244 hPc hDc (vk_recv hZ.1 (by decide) hS) hl rfl rfl (Nat.le_of_ble_eq_true rfl) ⟨(Nat.le_of_ble_eq_true rfl), (Nat.le_of_ble_eq_true rfl)⟩ ⟨(Nat.le_of_ble_eq_true rfl), (Nat.le_of_ble_eq_true rfl)⟩ dX5_wordIn_26) (fun r15 u16 H locs hw hP hD hS => ?_)
        replace hP : va_P (dC, dI) vwCl [(wo_5_riiiiirii a_this a_this_text x_this_length x_this_at x_this_behind x_this_sort x_this_allowed a_this_plan x_this_fault x_this_place), (wi_0_1600_0 a_this_text cy g_this_text)] H := hP
        replace hD := k_D hP hD
        obtain rfl : r15 = 3 := hw.trans (by decide)
        refine lv_icmp_gt (tgt := 125) hx hb dX5_wordIn_29 rfl (fun c17 => ?_) (fun c17 => ?_)
        · replace hq := lf_pos hq (lf_lt (lf_lc 3 (3 : Int) rfl) (lf_rf J23_l5) c17)
          have h18 := ib_lt (ib_c 3 3 3 rfl) hJ23_l5 c17
          have h19 : ib J23_l5 4 4 := ib_w 4 4 h18.2 rfl
          refine lv_iconst (v := (-1)) hx hb dX5_wordIn_125 rfl ?_
          subst hQ; exact k_iret hx hb hr hlk rfl () hS ((hO.symm.trans (by try simp only [show ((-1) : Int32).toInt = (-1 : Int) from rfl]; exact hq))) hP hD (Nat.le_of_ble_eq_true rfl) (Nat.le_of_ble_eq_true rfl) dX5_wordIn_126
        · as_aux_lemma =>
            replace hq := lf_neg hq (lf_nlt (lf_lc 3 (3 : Int) rfl) (lf_rf J23_l5) c17)
            have h20 := ib_nlt (ib_c 3 3 3 rfl) hJ23_l5 c17
            have h21 : ib J23_l5 0 3 := ib_w 0 3 h20.2 rfl
            refine lv_iload hx hb dX5_wordIn_32 (lv_at hl 5 rfl) ?_
            refine lv_aload_n hx hb dX5_wordIn_34 rfl (lv_at hl 1 rfl) ?_
            refine k_jim hP hD hS hA [] [true, true] rfl rfl rfl 0 0 (Nat.le_of_ble_eq_true rfl) (Nat.le_of_ble_eq_true rfl) (fun hPc hDc => k_runVO (As := []) (rest := [.int J23_l5]) C0 hZ hS hA (c_length l dC dI cy sq 14 (by decide)) mV_X5_244 hPc hDc (vk_recv hZ.1 (by decide) hS) hl rfl rfl (Nat.le_of_ble_eq_true rfl) ⟨(Nat.le_of_ble_eq_true rfl), (Nat.le_of_ble_eq_true rfl)⟩ ⟨(Nat.le_of_ble_eq_true rfl), (Nat.le_of_ble_eq_true rfl)⟩ dX5_wordIn_35) (fun r22 u23 H locs hw hP hD hS => ?_)
            replace hP : va_P (dC, dI) vwCl [(wo_5_riiiiirii a_this a_this_text x_this_length x_this_at x_this_behind x_this_sort x_this_allowed a_this_plan x_this_fault x_this_place), (wi_0_1600_0 a_this_text cy g_this_text)] H := hP
            replace hD := k_D hP hD
            obtain rfl : r22 = 3 := hw.trans (by decide)
            refine lv_icmp_eq (tgt := 52) hx hb dX5_wordIn_38 rfl (fun c24 => ?_) (fun c24 => ?_)
            · replace hq := lf_pos hq (lf_eq (lf_rf J23_l5) (lf_lc 3 (3 : Int) rfl) c24)
              have h25 := ib_eq h21 (ib_c 3 3 3 rfl) c24
              have h26 : ib J23_l5 3 3 := ib_w 3 3 h25.1 rfl
              exact jn52  H locs ls (ib_w 0 1603 hJ23_l3 rfl) (ib_w 0 1 hJ23_l4 rfl) (ib_w 0 3 h26 rfl) (ib_w 0 1599 hK23_x_this_at rfl) (ib_w 1 1 hK23_x_this_sort rfl) (by exact hq) hP hD hS (lv_sub hl [0, 1, 2, 3, 4, 5] rfl)
            · as_aux_lemma =>
                replace hq := lf_neg hq (lf_ne (lf_rf J23_l5) (lf_lc 3 (3 : Int) rfl) c24)
                have h27 : ib J23_l5 0 2 := ib_w 0 2 (ib_ne_hi 3 h21 rfl c24) rfl
                refine lv_aload_n hx hb dX5_wordIn_41 rfl (lv_at hl 1 rfl) ?_
                refine lv_iload hx hb dX5_wordIn_42 (lv_at hl 5 rfl) ?_
                refine k_jim hP hD hS hA [] [true, true] rfl rfl rfl 0 0 (Nat.le_of_ble_eq_true rfl) (Nat.le_of_ble_eq_true rfl) (fun hPc hDc => k_runVO (As := [.int J23_l5]) (rest := []) C0 hZ hS hA (cx_charAt l dC dI cy sq 14 (by decide) J23_l5 (ib_ch 14 3 h27 rfl rfl).1 (ib_ch 14 3 h27 rfl rfl).2.1 (ib_ch 14 3 h27 rfl rfl).2.2) mV_X5_248 hPc hDc (vk_recv hZ.1 (by decide) hS) hl rfl rfl (Nat.le_of_ble_eq_true rfl) ⟨(Nat.le_of_ble_eq_true rfl), (Nat.le_of_ble_eq_true rfl)⟩ ⟨(Nat.le_of_ble_eq_true rfl), (Nat.le_of_ble_eq_true rfl)⟩ dX5_wordIn_44) (fun r28 u29 H locs hw hP hD hS => ?_)
                replace hP : va_P (dC, dI) vwCl [(wo_5_riiiiirii a_this a_this_text x_this_length x_this_at x_this_behind x_this_sort x_this_allowed a_this_plan x_this_fault x_this_place), (wi_0_1600_0 a_this_text cy g_this_text)] H := hP
                replace hD := k_D hP hD
                have Er28 := lf_cha (j := 14) hw (lf_rf J23_l5)
                refine lv_bipush (v := 32) hx hb dX5_wordIn_47 rfl ?_
                refine lv_icmp_ne (tgt := 81) hx hb dX5_wordIn_49 rfl (fun c30 => ?_) (fun c30 => ?_)
                · as_aux_lemma =>
                    replace hq := lf_neg hq (lf_ne Er28 (lf_lc 32 (32 : Int) rfl) c30)
                    refine lv_iload hx hb dX5_wordIn_81 (lv_at hl 4 rfl) ?_
                    refine lv_if_eq (tgt := 113) hx hb dX5_wordIn_83 rfl (fun c31 => ?_) (fun c31 => ?_)
                    · replace hq := lf_pos hq (lf_eq (lf_rf J23_l4) (lf_lc 0 (0 : Int) rfl) c31)
                      have h32 := ib_eq hJ23_l4 (ib_c 0 0 0 rfl) c31
                      have h33 : ib J23_l4 0 0 := ib_w 0 0 h32.1 rfl
                      have h34 : ib J23_l3 0 1602 := ⟨(hJ23_l3).1, by have := (hJ23_l3).2; have := hJ23_lin0; have := (h27).2; omega⟩
                      exact jn113  H locs ls (ib_w 0 1602 h34 rfl) (ib_w 0 1 h33 rfl) (ib_w 0 2 h27 rfl) (ib_w 0 1599 hK23_x_this_at rfl) (ib_w 1 1 hK23_x_this_sort rfl) (by have := hJ23_lin0; omega) (by exact hq) hP hD hS (lv_sub hl [0, 1, 2, 3, 4, 5] rfl)
                    · as_aux_lemma =>
                        replace hq := lf_neg hq (lf_ne (lf_rf J23_l4) (lf_lc 0 (0 : Int) rfl) c31)
                        have h35 : ib J23_l4 1 1 := ib_w 1 1 (ib_ne_lo 0 hJ23_l4 rfl c31) rfl
                        refine lv_iload_n hx hb dX5_wordIn_86 rfl (lv_at hl 3 rfl) ?_
                        refine lv_aload_n hx hb dX5_wordIn_87 rfl (lv_at hl 0 rfl) ?_
                        refine k_get C0 fg_X5_18 hP 0 rfl rfl dX5_wordIn_88 ?_
                        refine lv_icmp_ge (tgt := 113) hx hb dX5_wordIn_91 rfl (fun c36 => ?_) (fun c36 => ?_)
                        · replace hq := lf_pos hq (lf_le (lf_rf x_this_behind) (lf_rf J23_l3) c36)
                          have h37 := ib_le hx_this_behind hJ23_l3 c36
                          have h38 : ib J23_l3 0 1602 := ⟨(hJ23_l3).1, by have := (hJ23_l3).2; have := hJ23_lin0; have := (h27).2; omega⟩
                          exact jn113  H locs ls (ib_w 0 1602 h38 rfl) (ib_w 0 1 h35 rfl) (ib_w 0 2 h27 rfl) (ib_w 0 1599 hK23_x_this_at rfl) (ib_w 1 1 hK23_x_this_sort rfl) (by have := hJ23_lin0; omega) (by exact hq) hP hD hS (lv_sub hl [0, 1, 2, 3, 4, 5] rfl)
                        · as_aux_lemma =>
                            replace hq := lf_neg hq (lf_nle (lf_rf x_this_behind) (lf_rf J23_l3) c36)
                            have h39 := ib_nle hx_this_behind hJ23_l3 c36
                            have h40 : ib x_this_behind 1 1600 := ib_w 1 1600 h39.1 rfl
                            have h41 : ib J23_l3 0 1599 := ib_w 0 1599 h39.2 rfl
                            refine lv_aload_n hx hb dX5_wordIn_94 rfl (lv_at hl 0 rfl) ?_
                            refine k_get C0 fg_X5_33 hP 0 rfl rfl dX5_wordIn_95 ?_
                            refine lv_iload_n hx hb dX5_wordIn_98 rfl (lv_at hl 3 rfl) ?_
                            refine va_iald hx hb C0.2.2.2.2.2.1 hP 1 0 rfl rfl (ib_in 1600 h41 rfl) dX5_wordIn_99 ?_
                            refine lv_topi (fun z42 ez42 => ?_)
                            have h43 : ib z42 0 255 := by rw [ez42]; exact ia_at hg_this_text (ib_in 1600 h41 rfl)
                            have Ez42 := lf_ld ez42 (lf_ra g_this_text) (lf_rf J23_l3)
                            refine lv_aload_n hx hb dX5_wordIn_100 rfl (lv_at hl 1 rfl) ?_
                            refine lv_iload hx hb dX5_wordIn_101 (lv_at hl 5 rfl) ?_
                            refine k_jim hP hD hS hA [] [true, true] rfl rfl rfl 0 0 (Nat.le_of_ble_eq_true rfl) (Nat.le_of_ble_eq_true rfl) (fun hPc hDc => k_runVO (As := [.int J23_l5]) (rest := [.int z42]) C0 hZ hS hA (cx_charAt l dC dI cy sq 14 (by decide) J23_l5 (ib_ch 14 3 h27 rfl rfl).1 (ib_ch 14 3 h27 rfl rfl).2.1 (ib_ch 14 3 h27 rfl rfl).2.2) mV_X5_248 hPc hDc (vk_recv hZ.1 (by decide) hS) hl rfl rfl (Nat.le_of_ble_eq_true rfl) ⟨(Nat.le_of_ble_eq_true rfl), (Nat.le_of_ble_eq_true rfl)⟩ ⟨(Nat.le_of_ble_eq_true rfl), (Nat.le_of_ble_eq_true rfl)⟩ dX5_wordIn_103) (fun r44 u45 H locs hw hP hD hS => ?_)
                            replace hP : va_P (dC, dI) vwCl [(wo_5_riiiiirii a_this a_this_text x_this_length x_this_at x_this_behind x_this_sort x_this_allowed a_this_plan x_this_fault x_this_place), (wi_0_1600_0 a_this_text cy g_this_text)] H := hP
                            replace hD := k_D hP hD
                            have Er44 := lf_cha (j := 14) hw (lf_rf J23_l5)
                            refine lv_icmp_ne (tgt := 113) hx hb dX5_wordIn_106 rfl (fun c46 => ?_) (fun c46 => ?_)
                            · replace hq := lf_neg hq (lf_ne Ez42 Er44 c46)
                              exact jn113  H locs ls (ib_w 0 1602 h41 rfl) (ib_w 0 1 h35 rfl) (ib_w 0 2 h27 rfl) (ib_w 0 1599 hK23_x_this_at rfl) (ib_w 1 1 hK23_x_this_sort rfl) (by have := hJ23_lin0; omega) (by exact hq) hP hD hS (lv_sub hl [0, 1, 2, 3, 4, 5] rfl)
                            · replace hq := lf_pos hq (lf_eq Ez42 Er44 c46)
                              have h47 := ib_eq h43 (ib_any r44) c46
                              have h48 : ib r44 0 255 := ib_w 0 255 h47.2 rfl
                              refine lv_iconst (v := 1) hx hb dX5_wordIn_109 rfl ?_
                              refine lv_goto (tgt := 114) hx hb dX5_wordIn_110 rfl ?_
                              exact jn114 1 H locs ls (ib_w 0 1602 h41 rfl) (ib_w 0 1 h35 rfl) (ib_w 0 2 h27 rfl) (ib_w 0 1599 hK23_x_this_at rfl) (ib_w 1 1 hK23_x_this_sort rfl) (ib_w 0 1 (ib_c 1 1 1 rfl) rfl) (by have := hJ23_lin0; omega) (by try simp only [show (1 : Int32).toInt = (1 : Int) from rfl]; exact hq) hP hD hS (lv_sub hl [0, 1, 2, 3, 4, 5] rfl)
                · replace hq := lf_pos hq (lf_eq Er28 (lf_lc 32 (32 : Int) rfl) c30)
                  have h49 := ib_eq (ib_any r28) (ib_c 32 32 32 rfl) c30
                  have h50 : ib r28 32 32 := ib_w 32 32 h49.1 rfl
                  have h51 : ib J23_l3 0 1602 := ⟨(hJ23_l3).1, by have := (hJ23_l3).2; have := hJ23_lin0; have := (h27).2; omega⟩
                  exact jn52  H locs ls (ib_w 0 1603 h51 rfl) (ib_w 0 1 hJ23_l4 rfl) (ib_w 0 3 h27 rfl) (ib_w 0 1599 hK23_x_this_at rfl) (ib_w 1 1 hK23_x_this_sort rfl) (by exact hq) hP hD hS (lv_sub hl [0, 1, 2, 3, 4, 5] rfl)
  refine lv_aload_n hx hb dX5_wordIn_0 rfl (lv_at hl 0 rfl) ?_
  refine k_get C0 fg_X5_21 hP 0 rfl rfl dX5_wordIn_1 ?_
  refine lv_iconst (v := 1) hx hb dX5_wordIn_4 rfl ?_
  refine lv_icmp_eq (tgt := 10) hx hb dX5_wordIn_5 rfl (fun c52 => ?_) (fun c52 => ?_)
  · replace hq := lf_pos hq (lf_eq (lf_rf x_this_sort) (lf_lc 1 (1 : Int) rfl) c52)
    have h53 := ib_eq hx_this_sort (ib_c 1 1 1 rfl) c52
    have h54 : ib x_this_sort 1 1 := ib_w 1 1 h53.1 rfl
    have h55 : ib x_this_at 0 1599 := ib_w 0 1599 (ib_two hx_this_at (hc0_this (ib_nz h54 rfl))) rfl
    refine lv_iconst (v := 0) hx hb dX5_wordIn_10 rfl ?_
    refine lv_istore_n (lv' := [(2, .int 0), (0, .ref a_this), (1, .ref (sq 14))]) hx hb dX5_wordIn_11 rfl hl (Nat.le_of_ble_eq_true rfl) rfl (fun ls hl => ?_)
    refine lv_aload_n hx hb dX5_wordIn_12 rfl (lv_at hl 1 rfl) ?_
    refine k_get C0 fg_X5_15 hP 0 rfl rfl dX5_wordIn_13 ?_
    refine lv_istore_n (lv' := [(3, .int x_this_at), (2, .int 0), (0, .ref a_this), (1, .ref (sq 14))]) hx hb dX5_wordIn_16 rfl hl (Nat.le_of_ble_eq_true rfl) rfl (fun ls hl => ?_)
    refine lv_iconst (v := 1) hx hb dX5_wordIn_17 rfl ?_
    refine lv_istore (lv' := [(4, .int 1), (3, .int x_this_at), (2, .int 0), (0, .ref a_this), (1, .ref (sq 14))]) hx hb dX5_wordIn_18 hl (Nat.le_of_ble_eq_true rfl) rfl (fun ls hl => ?_)
    refine lv_iconst (v := 0) hx hb dX5_wordIn_20 rfl ?_
    refine lv_istore (lv' := [(5, .int 0), (4, .int 1), (3, .int x_this_at), (2, .int 0), (0, .ref a_this), (1, .ref (sq 14))]) hx hb dX5_wordIn_21 hl (Nat.le_of_ble_eq_true rfl) rfl (fun ls hl => ?_)
    exact jn23 6 0 x_this_at 1 0 H locs ls (ib_w 0 1599 h55 rfl) (ib_w 1 1 h54 rfl) (ib_w 0 1603 h55 rfl) (ib_w 0 1 (ib_c 1 1 1 rfl) rfl) (ib_w 0 4 (ib_c 0 0 0 rfl) rfl) (by have : (0 : Int32).toInt = 0 := rfl; have := (h55).2; omega) (by try simp only [show (0 : Int32).toInt = (0 : Int) from rfl]; try simp only [show (1 : Int32).toInt = (1 : Int) from rfl]; exact hq) (by have := (ib_c 0 0 0 rfl); unfold ib at this; omega) hP hD hS (lv_sub hl [4, 5, 3, 2, 1, 0] rfl)
  · replace hq := lf_neg hq (lf_ne (lf_rf x_this_sort) (lf_lc 1 (1 : Int) rfl) c52)
    refine lv_iconst (v := (-1)) hx hb dX5_wordIn_8 rfl ?_
    subst hQ; exact k_iret hx hb hr hlk rfl () hS ((hO.symm.trans (by try simp only [show ((-1) : Int32).toInt = (-1 : Int) from rfl]; exact hq))) hP hD (Nat.le_of_ble_eq_true rfl) (Nat.le_of_ble_eq_true rfl) dX5_wordIn_9
set_option maxHeartbeats 4000000 in
set_option maxRecDepth 100000 in
theorem s_X5_takeWord_s14 (l : Launch) (dC : Nat → ClassId) (dI : Nat → Nat → Nat) (cy : Nat → ClassId) (sq : Nat → Nat) (a_this : Nat) (a_this_text : Nat) (g_this_text : Nat → Int32) (x_this_length : Int32) (x_this_at : Int32) (x_this_behind : Int32) (x_this_sort : Int32) (x_this_allowed : Int32) (a_this_plan : Nat) (x_this_fault : Int32) (x_this_place : Int32) (hg_this_text : ia g_this_text 1600 0 255) (hx_this_length : ib x_this_length 0 1600) (hx_this_at : ib x_this_at 0 1600) (hx_this_behind : ib x_this_behind 0 1600) (hx_this_sort : ib x_this_sort 0 4) (hc0_this : ¬ x_this_sort = 0 → ib x_this_at 0 1599) : k_Met l yX5_takeWord cX5_takeWord 3 (some .boolean) { frames := 5, cells := 0, slots := 0, locals := 166 } dC dI cy sq [.ref a_this, .ref (sq 14)] [(wo_5_riiiiirii a_this a_this_text x_this_length x_this_at x_this_behind x_this_sort x_this_allowed a_this_plan x_this_fault x_this_place), (wi_0_1600_0 a_this_text cy g_this_text)] (k_Qi dC dI (fun (r : Int32) (u : Int32 × Int32 × Int32) => match u with | (n0, n1, n2) => ib r 0 1 ∧ ib n0 0 1600 ∧ ib n1 0 1600 ∧ ib n2 0 4 ∧ (¬ n2 = 0 → ib n0 0 1599) ∧ (F_X5_takeWord_s14 (lf_A g_this_text) (Int32.toInt x_this_length) (Int32.toInt x_this_at) (Int32.toInt x_this_behind) (Int32.toInt x_this_sort) = ((Int32.toInt r), (Int32.toInt n0), (Int32.toInt n1), (Int32.toInt n2)))) (fun u : Int32 × Int32 × Int32 => match u with | (n0, n1, n2) => [(wo_5_riiiiirii a_this a_this_text x_this_length n0 n1 n2 x_this_allowed a_this_plan x_this_fault x_this_place), (wi_0_1600_0 a_this_text cy g_this_text)])) := by
  refine k_ofW2 (by decide +kernel) (Nat.le_of_ble_eq_true rfl) ?_
  intro p e s m below meth c A ls H locs args Q hQ C0 hZ hr hlk hin hP hD hA hS hl
  have C0 : k_cx p s m args c cX5_takeWord 3 RX5 dC dI cy sq := C0
  have hx := C0.1
  have hb := C0.2.1
  have hl : lv_has ls 3 [(0, .ref a_this), (1, .ref (sq 14))] := hl
  obtain ⟨O, hO⟩ : ∃ o, o = F_X5_takeWord_s14 (lf_A g_this_text) (Int32.toInt x_this_length) (Int32.toInt x_this_at) (Int32.toInt x_this_behind) (Int32.toInt x_this_sort) := ⟨_, rfl⟩
  have hq := hO
  unfold F_X5_takeWord_s14 at hq
  have jn27 : ∀ (J27_l2 : Int32) (J27_c0_2 : Int32) (J27_c0_3 : Int32) (J27_c0_4 : Int32) (H : Heap) (locs : List Loc) (ls : Array Slot), ib J27_l2 0 1 → ib J27_c0_2 0 1600 → ib J27_c0_3 0 1600 → ib J27_c0_4 0 4 → (¬ J27_c0_4 = 0 → ib J27_c0_2 0 1599) → (O = F_X5_takeWord_s14_27 (Int32.toInt J27_l2) (Int32.toInt J27_c0_2) (Int32.toInt J27_c0_3) (Int32.toInt J27_c0_4)) → va_P (dC, dI) vwCl [(wo_5_riiiiirii a_this a_this_text x_this_length J27_c0_2 J27_c0_3 J27_c0_4 x_this_allowed a_this_plan x_this_fault x_this_place), (wi_0_1600_0 a_this_text cy g_this_text)] H → va_D A [(wo_5_riiiiirii a_this a_this_text x_this_length J27_c0_2 J27_c0_3 J27_c0_4 x_this_allowed a_this_plan x_this_fault x_this_place), (wi_0_1600_0 a_this_text cy g_this_text)] → va_S A s.heap H locs → lv_has ls 3 [(0, .ref a_this), (1, .ref (sq 14)), (2, .int J27_l2)] → W p l e { frames := 5, cells := 0, slots := 0, locals := 166 } s m args below meth c H locs 0 0 Q (F0 m 27 ls []) := by
    intro J27_l2 J27_c0_2 J27_c0_3 J27_c0_4 H locs ls hJ27_l2 hJ27_c0_2 hJ27_c0_3 hJ27_c0_4 hJ27_ic0_0 hq hP hD hS hl
    unfold F_X5_takeWord_s14_27 at hq
    refine lv_iload_n hx hb dX5_takeWord_27 rfl (lv_at hl 2 rfl) ?_
    subst hQ; exact k_iret hx hb hr hlk (ib_bool (ib_w 0 1 hJ27_l2 rfl)) ((J27_c0_2, J27_c0_3, J27_c0_4)) hS ⟨ib_w 0 1 hJ27_l2 rfl, ib_w 0 1600 hJ27_c0_2 rfl, ib_w 0 1600 hJ27_c0_3 rfl, ib_w 0 4 hJ27_c0_4 rfl, fun hq9 => ib_w 0 1599 (hJ27_ic0_0 hq9) rfl, (hO.symm.trans (by exact hq))⟩ hP hD (Nat.le_of_ble_eq_true rfl) (Nat.le_of_ble_eq_true rfl) dX5_takeWord_28
  have jn14 : ∀ (J14_s0 : Int32) (H : Heap) (locs : List Loc) (ls : Array Slot), ib J14_s0 0 1 → (O = F_X5_takeWord_s14_14 (lf_A g_this_text) (Int32.toInt x_this_length) (Int32.toInt x_this_at) (Int32.toInt x_this_behind) (Int32.toInt x_this_sort) (Int32.toInt J14_s0)) → va_P (dC, dI) vwCl [(wo_5_riiiiirii a_this a_this_text x_this_length x_this_at x_this_behind x_this_sort x_this_allowed a_this_plan x_this_fault x_this_place), (wi_0_1600_0 a_this_text cy g_this_text)] H → va_D A [(wo_5_riiiiirii a_this a_this_text x_this_length x_this_at x_this_behind x_this_sort x_this_allowed a_this_plan x_this_fault x_this_place), (wi_0_1600_0 a_this_text cy g_this_text)] → va_S A s.heap H locs → lv_has ls 3 [(0, .ref a_this), (1, .ref (sq 14))] → W p l e { frames := 5, cells := 0, slots := 0, locals := 166 } s m args below meth c H locs 0 0 Q (F0 m 14 ls [.int J14_s0]) := by
    intro J14_s0 H locs ls hJ14_s0 hq hP hD hS hl
    unfold F_X5_takeWord_s14_14 at hq
    refine lv_istore_n (lv' := [(2, .int J14_s0), (0, .ref a_this), (1, .ref (sq 14))]) hx hb dX5_takeWord_14 rfl hl (Nat.le_of_ble_eq_true rfl) rfl (fun ls hl => ?_)
    refine lv_iload_n hx hb dX5_takeWord_15 rfl (lv_at hl 0 rfl) ?_
    refine lv_if_eq (tgt := 27) hx hb dX5_takeWord_16 rfl (fun c1 => ?_) (fun c1 => ?_)
    · replace hq := lf_pos hq (lf_eq (lf_rf J14_s0) (lf_lc 0 (0 : Int) rfl) c1)
      have h2 := ib_eq hJ14_s0 (ib_c 0 0 0 rfl) c1
      have h3 : ib J14_s0 0 0 := ib_w 0 0 h2.1 rfl
      exact jn27 J14_s0 x_this_at x_this_behind x_this_sort H locs ls (ib_w 0 1 h3 rfl) (ib_w 0 1600 hx_this_at rfl) (ib_w 0 1600 hx_this_behind rfl) (ib_w 0 4 hx_this_sort rfl) (fun hq9 => ib_w 0 1599 (hc0_this hq9) rfl) (by exact hq) hP hD hS (lv_sub hl [1, 2, 0] rfl)
    · replace hq := lf_neg hq (lf_ne (lf_rf J14_s0) (lf_lc 0 (0 : Int) rfl) c1)
      have h4 : ib J14_s0 1 1 := ib_w 1 1 (ib_ne_lo 0 hJ14_s0 rfl c1) rfl
      refine lv_aload_n hx hb dX5_takeWord_19 rfl (lv_at hl 1 rfl) ?_
      refine lv_aload_n hx hb dX5_takeWord_20 rfl (lv_at hl 1 rfl) ?_
      refine k_get C0 fg_X5_18 hP 0 rfl rfl dX5_takeWord_21 ?_
      refine k_jvm hP hD hS hA [0, 1] [] rfl rfl rfl 0 0 (Nat.le_of_ble_eq_true rfl) (Nat.le_of_ble_eq_true rfl) (fun hPc hDc => k_runV (As := [.int x_this_behind]) (rest := []) C0 hZ hS hA (s_X5_moveTo l dC dI cy sq a_this a_this_text g_this_text x_this_length x_this_at x_this_behind x_this_sort x_this_allowed a_this_plan x_this_fault x_this_place x_this_behind hg_this_text (ib_w 0 1600 hx_this_length rfl) (ib_w 0 1600 hx_this_behind rfl)) mV_X5_86 hPc hDc rfl rfl rfl hl rfl rfl (Nat.le_of_ble_eq_true rfl) ⟨(Nat.le_of_ble_eq_true rfl), (Nat.le_of_ble_eq_true rfl)⟩ ⟨(Nat.le_of_ble_eq_true rfl), (Nat.le_of_ble_eq_true rfl)⟩ dX5_takeWord_24) (fun u6 H locs hw hP hD hS => ?_)
      obtain ⟨v7, v8, v9⟩ := u6
      try dsimp only at hP hD hw
      replace hP : va_P (dC, dI) vwCl [(wo_5_riiiiirii a_this a_this_text x_this_length v7 v8 v9 x_this_allowed a_this_plan x_this_fault x_this_place), (wi_0_1600_0 a_this_text cy g_this_text)] H := hP
      replace hD := k_D hP hD
      obtain ⟨h10, h11, h12, h13, h14⟩ := hw
      replace hq := lf_p1 hq h14
      replace hq := lf_p1 hq rfl
      exact jn27 J14_s0 v7 v8 v9 H locs ls (ib_w 0 1 h4 rfl) (ib_w 0 1600 h10 rfl) (ib_w 0 1600 h11 rfl) (ib_w 0 4 h12 rfl) (fun hq9 => ib_w 0 1599 (h13 hq9) rfl) (by exact hq) hP hD hS (lv_sub hl [1, 2, 0] rfl)
  refine lv_aload_n hx hb dX5_takeWord_0 rfl (lv_at hl 0 rfl) ?_
  refine lv_aload_n hx hb dX5_takeWord_1 rfl (lv_at hl 1 rfl) ?_
  refine k_jim hP hD hS hA [0, 1] [] rfl rfl rfl 0 0 (Nat.le_of_ble_eq_true rfl) (Nat.le_of_ble_eq_true rfl) (fun hPc hDc => k_runV (As := [.ref (sq 14)]) (rest := []) C0 hZ hS hA (s_X5_wordIn_s14 l dC dI cy sq a_this a_this_text g_this_text x_this_length x_this_at x_this_behind x_this_sort x_this_allowed a_this_plan x_this_fault x_this_place hg_this_text (ib_w 0 1600 hx_this_at rfl) (ib_w 0 1600 hx_this_behind rfl) (ib_w 0 4 hx_this_sort rfl) (fun hq9 => ib_w 0 1599 (hc0_this hq9) rfl)) mV_X5_54 hPc hDc rfl rfl rfl hl rfl rfl (Nat.le_of_ble_eq_true rfl) ⟨(Nat.le_of_ble_eq_true rfl), (Nat.le_of_ble_eq_true rfl)⟩ ⟨(Nat.le_of_ble_eq_true rfl), (Nat.le_of_ble_eq_true rfl)⟩ dX5_takeWord_2) (fun r15 u16 H locs hw hP hD hS => ?_)
  try dsimp only at hP hD hw
  replace hP : va_P (dC, dI) vwCl [(wo_5_riiiiirii a_this a_this_text x_this_length x_this_at x_this_behind x_this_sort x_this_allowed a_this_plan x_this_fault x_this_place), (wi_0_1600_0 a_this_text cy g_this_text)] H := hP
  replace hD := k_D hP hD
  have h17 := hw
  replace hq := lf_b1 hq h17
  refine lv_iconst (v := (-1)) hx hb dX5_takeWord_5 rfl ?_
  refine lv_icmp_eq (tgt := 13) hx hb dX5_takeWord_6 rfl (fun c18 => ?_) (fun c18 => ?_)
  · replace hq := lf_pos hq (lf_eq (lf_rf r15) (lf_lc (-1) (-1 : Int) rfl) c18)
    have h19 := ib_eq (ib_any r15) (ib_c (-1) (-1) (-1) rfl) c18
    have h20 : ib r15 (-1) (-1) := ib_w (-1) (-1) h19.1 rfl
    refine lv_iconst (v := 0) hx hb dX5_takeWord_13 rfl ?_
    exact jn14 0 H locs ls (ib_w 0 1 (ib_c 0 0 0 rfl) rfl) (by try simp only [show (0 : Int32).toInt = (0 : Int) from rfl]; exact hq) hP hD hS (lv_sub hl [0, 1] rfl)
  · replace hq := lf_neg hq (lf_ne (lf_rf r15) (lf_lc (-1) (-1 : Int) rfl) c18)
    refine lv_iconst (v := 1) hx hb dX5_takeWord_9 rfl ?_
    refine lv_goto (tgt := 14) hx hb dX5_takeWord_10 rfl ?_
    exact jn14 1 H locs ls (ib_w 0 1 (ib_c 1 1 1 rfl) rfl) (by try simp only [show (1 : Int32).toInt = (1 : Int) from rfl]; exact hq) hP hD hS (lv_sub hl [0, 1] rfl)
set_option maxHeartbeats 4000000 in
set_option maxRecDepth 100000 in
theorem s_X5_both_a0_6 (l : Launch) (dC : Nat → ClassId) (dI : Nat → Nat → Nat) (cy : Nat → ClassId) (sq : Nat → Nat) (a_this : Nat) (a_this_text : Nat) (g_this_text : Nat → Int32) (x_this_length : Int32) (x_this_at : Int32) (x_this_behind : Int32) (x_this_sort : Int32) (x_this_allowed : Int32) (a_this_plan : Nat) (x_this_plan_cycle : Int32) (x_this_plan_green : Int32) (x_this_plan_rule : Int32) (x_this_plan_least : Int32) (x_this_plan_away : Int32) (x_this_plan_statements : Int32) (x_this_plan_kinds : Int32) (a_this_plan_calm : Nat) (a_this_plan_pace : Nat) (a_this_plan_trusts : Nat) (x_this_plan_walkers : Int32) (a_this_plan_kindOf : Nat) (a_this_plan_comesAt : Nat) (a_this_plan_comers : Nat) (a_this_plan_names : Nat) (a_this_plan_code : Nat) (g_this_plan_code : Nat → Int32) (x_this_plan_size : Int32) (a_this_plan_spans : Nat) (x_this_fault : Int32) (x_this_place : Int32) (hg_this_text : ia g_this_text 1600 0 255) (hx_this_length : ib x_this_length 0 1600) (hx_this_at : ib x_this_at 0 1600) (hx_this_behind : ib x_this_behind 0 1600) (hx_this_sort : ib x_this_sort 0 4) (hx_this_plan_size : ib x_this_plan_size 0 1600) (hc0_this : ¬ x_this_sort = 0 → ib x_this_at 0 1599) : k_Met l yX5_both cX5_both 3 none { frames := 10, cells := 0, slots := 0, locals := 277 } dC dI cy sq [.ref a_this, .int 6] [(wo_5_riiiiirii a_this a_this_text x_this_length x_this_at x_this_behind x_this_sort x_this_allowed a_this_plan x_this_fault x_this_place), (wi_0_1600_0 a_this_text cy g_this_text), (wo_4_iiiiiiirrrirrrrrir a_this_plan x_this_plan_cycle x_this_plan_green x_this_plan_rule x_this_plan_least x_this_plan_away x_this_plan_statements x_this_plan_kinds a_this_plan_calm a_this_plan_pace a_this_plan_trusts x_this_plan_walkers a_this_plan_kindOf a_this_plan_comesAt a_this_plan_comers a_this_plan_names a_this_plan_code x_this_plan_size a_this_plan_spans), (wi_0_1600_0 a_this_plan_code cy g_this_plan_code)] (k_Qv dC dI (fun (u : Int32 × Int32 × Int32 × Int32 × Int32 × Int32 × (Nat → Int32)) => match u with | (n0, n1, n2, n3, n4, n5, n6) => ib n0 0 1600 ∧ ib n1 0 1600 ∧ ib n2 0 4 ∧ ib n5 0 1600 ∧ (¬ n2 = 0 → ib n0 0 1599) ∧ (F_X5_both_a0_6 (lf_A g_this_text) (Int32.toInt x_this_length) (Int32.toInt x_this_at) (Int32.toInt x_this_behind) (Int32.toInt x_this_sort) (Int32.toInt x_this_allowed) (lf_A g_this_plan_code) (Int32.toInt x_this_plan_size) (Int32.toInt x_this_fault) (Int32.toInt x_this_place) = ((Int32.toInt n0), (Int32.toInt n1), (Int32.toInt n2), (Int32.toInt n3), (Int32.toInt n4), (Int32.toInt n5), (lf_A n6)))) (fun u : Int32 × Int32 × Int32 × Int32 × Int32 × Int32 × (Nat → Int32) => match u with | (n0, n1, n2, n3, n4, n5, n6) => [(wo_5_riiiiirii a_this a_this_text x_this_length n0 n1 n2 x_this_allowed a_this_plan n3 n4), (wi_0_1600_0 a_this_text cy g_this_text), (wo_4_iiiiiiirrrirrrrrir a_this_plan x_this_plan_cycle x_this_plan_green x_this_plan_rule x_this_plan_least x_this_plan_away x_this_plan_statements x_this_plan_kinds a_this_plan_calm a_this_plan_pace a_this_plan_trusts x_this_plan_walkers a_this_plan_kindOf a_this_plan_comesAt a_this_plan_comers a_this_plan_names a_this_plan_code n5 a_this_plan_spans), (wi_0_1600_0 a_this_plan_code cy n6)])) := by
  refine k_ofW2 (by decide +kernel) (Nat.le_of_ble_eq_true rfl) ?_
  intro p e s m below meth c A ls H locs args Q hQ C0 hZ hr hlk hin hP hD hA hS hl
  have C0 : k_cx p s m args c cX5_both 3 RX5 dC dI cy sq := C0
  have hx := C0.1
  have hb := C0.2.1
  have hl : lv_has ls 3 [(0, .ref a_this), (1, .int 6)] := hl
  obtain ⟨O, hO⟩ : ∃ o, o = F_X5_both_a0_6 (lf_A g_this_text) (Int32.toInt x_this_length) (Int32.toInt x_this_at) (Int32.toInt x_this_behind) (Int32.toInt x_this_sort) (Int32.toInt x_this_allowed) (lf_A g_this_plan_code) (Int32.toInt x_this_plan_size) (Int32.toInt x_this_fault) (Int32.toInt x_this_place) := ⟨_, rfl⟩
  have hq := hO
  unfold F_X5_both_a0_6 at hq
  have jn7 : ∀ (n : Nat) (J7_c0_2 : Int32) (J7_c0_3 : Int32) (J7_c0_4 : Int32) (J7_c0_7 : Int32) (J7_c0_8 : Int32) (J7_c2_16 : Int32) (J7_a3 : Nat → Int32) (J7_l2 : Int32) (H : Heap) (locs : List Loc) (ls : Array Slot), ib J7_c0_2 0 1600 → ib J7_c0_3 0 1600 → ib J7_c0_4 0 4 → ib J7_c2_16 0 1600 → ib J7_l2 0 1600 → (¬ J7_c0_4 = 0 → ib J7_c0_2 0 1599) → (O = F_X5_both_a0_6_7 (lf_A g_this_text) (Int32.toInt x_this_length) (Int32.toInt x_this_allowed) n (Int32.toInt J7_c0_2) (Int32.toInt J7_c0_3) (Int32.toInt J7_c0_4) (Int32.toInt J7_c0_7) (Int32.toInt J7_c0_8) (Int32.toInt J7_c2_16) (lf_A J7_a3) (Int32.toInt J7_l2)) → 1601 ≤ J7_l2.toInt + (n : Int) → va_P (dC, dI) vwCl [(wo_5_riiiiirii a_this a_this_text x_this_length J7_c0_2 J7_c0_3 J7_c0_4 x_this_allowed a_this_plan J7_c0_7 J7_c0_8), (wi_0_1600_0 a_this_text cy g_this_text), (wo_4_iiiiiiirrrirrrrrir a_this_plan x_this_plan_cycle x_this_plan_green x_this_plan_rule x_this_plan_least x_this_plan_away x_this_plan_statements x_this_plan_kinds a_this_plan_calm a_this_plan_pace a_this_plan_trusts x_this_plan_walkers a_this_plan_kindOf a_this_plan_comesAt a_this_plan_comers a_this_plan_names a_this_plan_code J7_c2_16 a_this_plan_spans), (wi_0_1600_0 a_this_plan_code cy J7_a3)] H → va_D A [(wo_5_riiiiirii a_this a_this_text x_this_length J7_c0_2 J7_c0_3 J7_c0_4 x_this_allowed a_this_plan J7_c0_7 J7_c0_8), (wi_0_1600_0 a_this_text cy g_this_text), (wo_4_iiiiiiirrrirrrrrir a_this_plan x_this_plan_cycle x_this_plan_green x_this_plan_rule x_this_plan_least x_this_plan_away x_this_plan_statements x_this_plan_kinds a_this_plan_calm a_this_plan_pace a_this_plan_trusts x_this_plan_walkers a_this_plan_kindOf a_this_plan_comesAt a_this_plan_comers a_this_plan_names a_this_plan_code J7_c2_16 a_this_plan_spans), (wi_0_1600_0 a_this_plan_code cy J7_a3)] → va_S A s.heap H locs → lv_has ls 3 [(0, .ref a_this), (1, .int 6), (2, .int J7_l2)] → W p l e { frames := 10, cells := 0, slots := 0, locals := 277 } s m args below meth c H locs 0 0 Q (F0 m 7 ls []) := by
    as_aux_lemma =>
      intro n
      induction n with
      | zero =>
        intro J7_c0_2 J7_c0_3 J7_c0_4 J7_c0_7 J7_c0_8 J7_c2_16 J7_a3 J7_l2 H locs ls hJ7_c0_2 hJ7_c0_3 hJ7_c0_4 hJ7_c2_16 hJ7_l2 hJ7_ic0_0 hq hm
        exact absurd hm (by have := hJ7_l2; unfold ib at this; omega)
      | succ n ih =>
        intro J7_c0_2 J7_c0_3 J7_c0_4 J7_c0_7 J7_c0_8 J7_c2_16 J7_a3 J7_l2 H locs ls hJ7_c0_2 hJ7_c0_3 hJ7_c0_4 hJ7_c2_16 hJ7_l2 hJ7_ic0_0 hq hm7 hP hD hS hl
        have ih7 := ih
        obtain ⟨K7, hK7⟩ : ∃ K, K = F_X5_both_a0_6_7 (lf_A g_this_text) (Int32.toInt x_this_length) (Int32.toInt x_this_allowed) n := ⟨_, rfl⟩
        have hq : O = F_X5_both_a0_6_7b (lf_A g_this_text) (Int32.toInt x_this_length) (Int32.toInt x_this_allowed) K7 (Int32.toInt J7_c0_2) (Int32.toInt J7_c0_3) (Int32.toInt J7_c0_4) (Int32.toInt J7_c0_7) (Int32.toInt J7_c0_8) (Int32.toInt J7_c2_16) (lf_A J7_a3) (Int32.toInt J7_l2) := by rw [hK7]; exact hq
        unfold F_X5_both_a0_6_7b at hq
        refine lv_iload_n hx hb dX5_both_7 rfl (lv_at hl 2 rfl) ?_
        refine lv_sipush (v := 1600) hx hb dX5_both_8 rfl ?_
        refine lv_icmp_ge (tgt := 40) hx hb dX5_both_11 rfl (fun c1 => ?_) (fun c1 => ?_)
        · replace hq := lf_pos hq (lf_le (lf_lc 1600 (1600 : Int) rfl) (lf_rf J7_l2) c1)
          have h2 := ib_le (ib_c 1600 1600 1600 rfl) hJ7_l2 c1
          have h3 : ib J7_l2 1600 1600 := ib_w 1600 1600 h2.2 rfl
          subst hQ; exact k_vret hx hb hr hlk ((J7_c0_2, J7_c0_3, J7_c0_4, J7_c0_7, J7_c0_8, J7_c2_16, J7_a3)) hS ⟨ib_w 0 1600 hJ7_c0_2 rfl, ib_w 0 1600 hJ7_c0_3 rfl, ib_w 0 4 hJ7_c0_4 rfl, ib_w 0 1600 hJ7_c2_16 rfl, fun hq9 => ib_w 0 1599 (hJ7_ic0_0 hq9) rfl, (hO.symm.trans (by exact hq))⟩ hP hD (Nat.le_of_ble_eq_true rfl) (Nat.le_of_ble_eq_true rfl) dX5_both_40
        · as_aux_lemma =>
            replace hq := lf_neg hq (lf_nle (lf_lc 1600 (1600 : Int) rfl) (lf_rf J7_l2) c1)
            have h4 := ib_nle (ib_c 1600 1600 1600 rfl) hJ7_l2 c1
            have h5 : ib J7_l2 0 1599 := ib_w 0 1599 h4.2 rfl
            refine lv_aload_n hx hb dX5_both_14 rfl (lv_at hl 0 rfl) ?_
            refine va_ldcS hx hb C0.2.2.2.1 (C0.2.2.2.2.2.2.2.2.2.2.2.2 14 (by decide)) dX5_both_15 ?_
            refine k_jim hP hD hS hA [0, 1] [false, false, true, true] rfl rfl rfl 0 0 (Nat.le_of_ble_eq_true rfl) (Nat.le_of_ble_eq_true rfl) (fun hPc hDc => k_runV (As := [.ref (sq 14)]) (rest := []) C0 hZ hS hA (s_X5_takeWord_s14 l dC dI cy sq a_this a_this_text g_this_text x_this_length J7_c0_2 J7_c0_3 J7_c0_4 x_this_allowed a_this_plan J7_c0_7 J7_c0_8 hg_this_text (ib_w 0 1600 hx_this_length rfl) (ib_w 0 1600 hJ7_c0_2 rfl) (ib_w 0 1600 hJ7_c0_3 rfl) (ib_w 0 4 hJ7_c0_4 rfl) (fun hq9 => ib_w 0 1599 (hJ7_ic0_0 hq9) rfl)) mV_X5_195 hPc hDc rfl rfl rfl hl rfl rfl (Nat.le_of_ble_eq_true rfl) ⟨(Nat.le_of_ble_eq_true rfl), (Nat.le_of_ble_eq_true rfl)⟩ ⟨(Nat.le_of_ble_eq_true rfl), (Nat.le_of_ble_eq_true rfl)⟩ dX5_both_17) (fun r6 u7 H locs hw hP hD hS => ?_)
            obtain ⟨v8, v9, v10⟩ := u7
            try dsimp only at hP hD hw
            replace hP : va_P (dC, dI) vwCl [(wo_4_iiiiiiirrrirrrrrir a_this_plan x_this_plan_cycle x_this_plan_green x_this_plan_rule x_this_plan_least x_this_plan_away x_this_plan_statements x_this_plan_kinds a_this_plan_calm a_this_plan_pace a_this_plan_trusts x_this_plan_walkers a_this_plan_kindOf a_this_plan_comesAt a_this_plan_comers a_this_plan_names a_this_plan_code J7_c2_16 a_this_plan_spans), (wi_0_1600_0 a_this_plan_code cy J7_a3), (wo_5_riiiiirii a_this a_this_text x_this_length v8 v9 v10 x_this_allowed a_this_plan J7_c0_7 J7_c0_8), (wi_0_1600_0 a_this_text cy g_this_text)] H := hP
            replace hD := k_D hP hD
            obtain ⟨h11, h12, h13, h14, h15, h16⟩ := hw
            replace hq := lf_p1 hq h16
            replace hq := lf_p1 hq rfl
            replace hq := lf_p1 hq rfl
            refine lv_if_eq (tgt := 40) hx hb dX5_both_20 rfl (fun c17 => ?_) (fun c17 => ?_)
            · replace hq := lf_pos hq (lf_eq (lf_rf r6) (lf_lc 0 (0 : Int) rfl) c17)
              have h18 := ib_eq h11 (ib_c 0 0 0 rfl) c17
              have h19 : ib r6 0 0 := ib_w 0 0 h18.1 rfl
              subst hQ; exact k_vret hx hb hr hlk ((v8, v9, v10, J7_c0_7, J7_c0_8, J7_c2_16, J7_a3)) hS ⟨ib_w 0 1600 h12 rfl, ib_w 0 1600 h13 rfl, ib_w 0 4 h14 rfl, ib_w 0 1600 hJ7_c2_16 rfl, fun hq9 => ib_w 0 1599 (h15 hq9) rfl, (hO.symm.trans (by exact hq))⟩ (hP.sub [2, 3, 0, 1] rfl) (hD.sub [2, 3, 0, 1] rfl rfl) (Nat.le_of_ble_eq_true rfl) (Nat.le_of_ble_eq_true rfl) dX5_both_40
            · as_aux_lemma =>
                replace hq := lf_neg hq (lf_ne (lf_rf r6) (lf_lc 0 (0 : Int) rfl) c17)
                have h20 : ib r6 1 1 := ib_w 1 1 (ib_ne_lo 0 h11 rfl c17) rfl
                refine lv_aload_n hx hb dX5_both_23 rfl (lv_at hl 0 rfl) ?_
                refine lv_iload_n hx hb dX5_both_24 rfl (lv_at hl 1 rfl) ?_
                refine k_jvm hP hD hS hA [2, 3, 0, 1] [] rfl rfl rfl 0 0 (Nat.le_of_ble_eq_true rfl) (Nat.le_of_ble_eq_true rfl) (fun hPc hDc => k_runV (As := [.int 6]) (rest := []) C0 hZ hS hA (s_X5_fact_a0_6 l dC dI cy sq a_this a_this_text g_this_text x_this_length v8 v9 v10 x_this_allowed a_this_plan x_this_plan_cycle x_this_plan_green x_this_plan_rule x_this_plan_least x_this_plan_away x_this_plan_statements x_this_plan_kinds a_this_plan_calm a_this_plan_pace a_this_plan_trusts x_this_plan_walkers a_this_plan_kindOf a_this_plan_comesAt a_this_plan_comers a_this_plan_names a_this_plan_code J7_a3 J7_c2_16 a_this_plan_spans J7_c0_7 J7_c0_8 hg_this_text (ib_w 0 1600 hx_this_length rfl) (ib_w 0 1600 h12 rfl) (ib_w 0 1600 h13 rfl) (ib_w 0 4 h14 rfl) (ib_w 0 1600 hJ7_c2_16 rfl) (fun hq9 => ib_w 0 1599 (h15 hq9) rfl)) mV_X5_202 hPc hDc rfl rfl rfl hl rfl rfl (Nat.le_of_ble_eq_true rfl) ⟨(Nat.le_of_ble_eq_true rfl), (Nat.le_of_ble_eq_true rfl)⟩ ⟨(Nat.le_of_ble_eq_true rfl), (Nat.le_of_ble_eq_true rfl)⟩ dX5_both_25) (fun u22 H locs hw hP hD hS => ?_)
                obtain ⟨v23, v24, v25, v26, v27, v28, f29⟩ := u22
                try dsimp only at hP hD hw
                replace hP : va_P (dC, dI) vwCl [(wo_5_riiiiirii a_this a_this_text x_this_length v23 v24 v25 x_this_allowed a_this_plan v26 v27), (wi_0_1600_0 a_this_text cy g_this_text), (wo_4_iiiiiiirrrirrrrrir a_this_plan x_this_plan_cycle x_this_plan_green x_this_plan_rule x_this_plan_least x_this_plan_away x_this_plan_statements x_this_plan_kinds a_this_plan_calm a_this_plan_pace a_this_plan_trusts x_this_plan_walkers a_this_plan_kindOf a_this_plan_comesAt a_this_plan_comers a_this_plan_names a_this_plan_code v28 a_this_plan_spans), (wi_0_1600_0 a_this_plan_code cy f29)] H := hP
                replace hD := k_D hP hD
                obtain ⟨h30, h31, h32, h33, h34, h35⟩ := hw
                replace hq := lf_p1 hq h35
                replace hq := lf_p1 hq rfl
                replace hq := lf_p1 hq rfl
                replace hq := lf_p1 hq rfl
                replace hq := lf_p1 hq rfl
                replace hq := lf_p1 hq rfl
                refine lv_aload_n hx hb dX5_both_28 rfl (lv_at hl 0 rfl) ?_
                refine lv_bipush (v := (-29)) hx hb dX5_both_29 rfl ?_
                refine k_jvm hP hD hS hA [0, 2, 3] [false, true] rfl rfl rfl 0 0 (Nat.le_of_ble_eq_true rfl) (Nat.le_of_ble_eq_true rfl) (fun hPc hDc => k_runV (As := [.int (-29)]) (rest := []) C0 hZ hS hA (s_X5_emit l dC dI cy sq a_this a_this_text x_this_length v23 v24 v25 x_this_allowed a_this_plan x_this_plan_cycle x_this_plan_green x_this_plan_rule x_this_plan_least x_this_plan_away x_this_plan_statements x_this_plan_kinds a_this_plan_calm a_this_plan_pace a_this_plan_trusts x_this_plan_walkers a_this_plan_kindOf a_this_plan_comesAt a_this_plan_comers a_this_plan_names a_this_plan_code f29 v28 a_this_plan_spans v26 v27 (-29) (ib_w 0 1600 h33 rfl)) mV_X5_199 hPc hDc rfl rfl rfl hl rfl rfl (Nat.le_of_ble_eq_true rfl) ⟨(Nat.le_of_ble_eq_true rfl), (Nat.le_of_ble_eq_true rfl)⟩ ⟨(Nat.le_of_ble_eq_true rfl), (Nat.le_of_ble_eq_true rfl)⟩ dX5_both_31) (fun u37 H locs hw hP hD hS => ?_)
                obtain ⟨v38, f39⟩ := u37
                try dsimp only at hP hD hw
                replace hP : va_P (dC, dI) vwCl [(wi_0_1600_0 a_this_text cy g_this_text), (wo_5_riiiiirii a_this a_this_text x_this_length v23 v24 v25 x_this_allowed a_this_plan v26 v27), (wo_4_iiiiiiirrrirrrrrir a_this_plan x_this_plan_cycle x_this_plan_green x_this_plan_rule x_this_plan_least x_this_plan_away x_this_plan_statements x_this_plan_kinds a_this_plan_calm a_this_plan_pace a_this_plan_trusts x_this_plan_walkers a_this_plan_kindOf a_this_plan_comesAt a_this_plan_comers a_this_plan_names a_this_plan_code v38 a_this_plan_spans), (wi_0_1600_0 a_this_plan_code cy f39)] H := hP
                replace hD := k_D hP hD
                obtain ⟨h40, h41⟩ := hw
                have h41 := by have h9 := h41; try simp only [show ((-29) : Int32).toInt = (-29 : Int) from rfl] at h9; exact h9
                replace hq := lf_p1 hq h41
                obtain ⟨z42, ez42⟩ : ∃ y : Int32, y = J7_l2 + 1 := ⟨_, rfl⟩
                refine lv_iinc (v := z42) (lv' := [(2, .int z42), (0, .ref a_this), (1, .int 6)]) hx hb dX5_both_34 hl (k := 2) rfl (by rw [ez42]; rfl) (Nat.le_of_ble_eq_true rfl) rfl (fun ls hl => ?_)
                have h43 := ib_add h5 (ib_c 1 1 1 rfl) rfl
                rw [← ez42] at h43
                have h44 : ib z42 1 1600 := ib_w 1 1600 h43.1 rfl
                have Ez42 := lf_add h43.2 (lf_rf J7_l2) (lf_lc 1 (1 : Int) rfl)
                refine lv_goto (tgt := 7) hx hb dX5_both_37 rfl ?_
                exact ih7 v23 v24 v25 v26 v27 v38 f39 z42 H locs ls (ib_w 0 1600 h30 rfl) (ib_w 0 1600 h31 rfl) (ib_w 0 4 h32 rfl) (ib_w 0 1600 h40 rfl) (ib_w 0 1600 h44 rfl) (fun hq9 => ib_w 0 1599 (h34 hq9) rfl) (by rw [← hK7]; rw [lf_u Ez42]; exact hq) (by have := h43.2; have : (1 : Int32).toInt = 1 := rfl; omega) (hP.sub [1, 0, 2, 3] rfl) (hD.sub [1, 0, 2, 3] rfl rfl) hS (lv_sub hl [1, 2, 0] rfl)
  refine lv_aload_n hx hb dX5_both_0 rfl (lv_at hl 0 rfl) ?_
  refine lv_iload_n hx hb dX5_both_1 rfl (lv_at hl 1 rfl) ?_
  refine k_jvm hP hD hS hA [0, 1, 2, 3] [] rfl rfl rfl 0 0 (Nat.le_of_ble_eq_true rfl) (Nat.le_of_ble_eq_true rfl) (fun hPc hDc => k_runV (As := [.int 6]) (rest := []) C0 hZ hS hA (s_X5_fact_a0_6 l dC dI cy sq a_this a_this_text g_this_text x_this_length x_this_at x_this_behind x_this_sort x_this_allowed a_this_plan x_this_plan_cycle x_this_plan_green x_this_plan_rule x_this_plan_least x_this_plan_away x_this_plan_statements x_this_plan_kinds a_this_plan_calm a_this_plan_pace a_this_plan_trusts x_this_plan_walkers a_this_plan_kindOf a_this_plan_comesAt a_this_plan_comers a_this_plan_names a_this_plan_code g_this_plan_code x_this_plan_size a_this_plan_spans x_this_fault x_this_place hg_this_text (ib_w 0 1600 hx_this_length rfl) (ib_w 0 1600 hx_this_at rfl) (ib_w 0 1600 hx_this_behind rfl) (ib_w 0 4 hx_this_sort rfl) (ib_w 0 1600 hx_this_plan_size rfl) (fun hq9 => ib_w 0 1599 (hc0_this hq9) rfl)) mV_X5_202 hPc hDc rfl rfl rfl hl rfl rfl (Nat.le_of_ble_eq_true rfl) ⟨(Nat.le_of_ble_eq_true rfl), (Nat.le_of_ble_eq_true rfl)⟩ ⟨(Nat.le_of_ble_eq_true rfl), (Nat.le_of_ble_eq_true rfl)⟩ dX5_both_2) (fun u46 H locs hw hP hD hS => ?_)
  obtain ⟨v47, v48, v49, v50, v51, v52, f53⟩ := u46
  try dsimp only at hP hD hw
  replace hP : va_P (dC, dI) vwCl [(wo_5_riiiiirii a_this a_this_text x_this_length v47 v48 v49 x_this_allowed a_this_plan v50 v51), (wi_0_1600_0 a_this_text cy g_this_text), (wo_4_iiiiiiirrrirrrrrir a_this_plan x_this_plan_cycle x_this_plan_green x_this_plan_rule x_this_plan_least x_this_plan_away x_this_plan_statements x_this_plan_kinds a_this_plan_calm a_this_plan_pace a_this_plan_trusts x_this_plan_walkers a_this_plan_kindOf a_this_plan_comesAt a_this_plan_comers a_this_plan_names a_this_plan_code v52 a_this_plan_spans), (wi_0_1600_0 a_this_plan_code cy f53)] H := hP
  replace hD := k_D hP hD
  obtain ⟨h54, h55, h56, h57, h58, h59⟩ := hw
  replace hq := lf_p1 hq h59
  replace hq := lf_p1 hq rfl
  replace hq := lf_p1 hq rfl
  replace hq := lf_p1 hq rfl
  replace hq := lf_p1 hq rfl
  replace hq := lf_p1 hq rfl
  refine lv_iconst (v := 0) hx hb dX5_both_5 rfl ?_
  refine lv_istore_n (lv' := [(2, .int 0), (0, .ref a_this), (1, .int 6)]) hx hb dX5_both_6 rfl hl (Nat.le_of_ble_eq_true rfl) rfl (fun ls hl => ?_)
  exact jn7 1602 v47 v48 v49 v50 v51 v52 f53 0 H locs ls (ib_w 0 1600 h54 rfl) (ib_w 0 1600 h55 rfl) (ib_w 0 4 h56 rfl) (ib_w 0 1600 h57 rfl) (ib_w 0 1600 (ib_c 0 0 0 rfl) rfl) (fun hq9 => ib_w 0 1599 (h58 hq9) rfl) (by try simp only [show (0 : Int32).toInt = (0 : Int) from rfl]; exact hq) (by have := (ib_c 0 0 0 rfl); unfold ib at this; omega) hP hD hS (lv_sub hl [1, 2, 0] rfl)
set_option maxHeartbeats 4000000 in
set_option maxRecDepth 100000 in
theorem s_X5_wordIn_s13 (l : Launch) (dC : Nat → ClassId) (dI : Nat → Nat → Nat) (cy : Nat → ClassId) (sq : Nat → Nat) (a_this : Nat) (a_this_text : Nat) (g_this_text : Nat → Int32) (x_this_length : Int32) (x_this_at : Int32) (x_this_behind : Int32) (x_this_sort : Int32) (x_this_allowed : Int32) (a_this_plan : Nat) (x_this_fault : Int32) (x_this_place : Int32) (hg_this_text : ia g_this_text 1600 0 255) (hx_this_at : ib x_this_at 0 1600) (hx_this_behind : ib x_this_behind 0 1600) (hx_this_sort : ib x_this_sort 0 4) (hc0_this : ¬ x_this_sort = 0 → ib x_this_at 0 1599) : k_Met l yX5_wordIn cX5_wordIn 6 (some .int) { frames := 4, cells := 0, slots := 0, locals := 141 } dC dI cy sq [.ref a_this, .ref (sq 13)] [(wo_5_riiiiirii a_this a_this_text x_this_length x_this_at x_this_behind x_this_sort x_this_allowed a_this_plan x_this_fault x_this_place), (wi_0_1600_0 a_this_text cy g_this_text)] (k_Qi dC dI (fun (r : Int32) (_ : Unit) => (F_X5_wordIn_s13 (lf_A g_this_text) (Int32.toInt x_this_at) (Int32.toInt x_this_behind) (Int32.toInt x_this_sort) = ((Int32.toInt r)))) (fun _ : Unit => [(wo_5_riiiiirii a_this a_this_text x_this_length x_this_at x_this_behind x_this_sort x_this_allowed a_this_plan x_this_fault x_this_place), (wi_0_1600_0 a_this_text cy g_this_text)])) := by
  refine k_ofW2 (by decide +kernel) (Nat.le_of_ble_eq_true rfl) ?_
  intro p e s m below meth c A ls H locs args Q hQ C0 hZ hr hlk hin hP hD hA hS hl
  have C0 : k_cx p s m args c cX5_wordIn 6 RX5 dC dI cy sq := C0
  have hx := C0.1
  have hb := C0.2.1
  have hl : lv_has ls 6 [(0, .ref a_this), (1, .ref (sq 13))] := hl
  obtain ⟨O, hO⟩ : ∃ o, o = F_X5_wordIn_s13 (lf_A g_this_text) (Int32.toInt x_this_at) (Int32.toInt x_this_behind) (Int32.toInt x_this_sort) := ⟨_, rfl⟩
  have hq := hO
  unfold F_X5_wordIn_s13 at hq
  have jn23 : ∀ (n : Nat) (J23_l2 : Int32) (J23_l3 : Int32) (J23_l4 : Int32) (J23_l5 : Int32) (H : Heap) (locs : List Loc) (ls : Array Slot), ib x_this_at 0 1599 → ib x_this_sort 1 1 → ib J23_l3 0 1602 → ib J23_l4 0 1 → ib J23_l5 0 3 → (1 * J23_l3.toInt + (-1) * J23_l5.toInt ≤ 1600) → (O = F_X5_wordIn_s13_23 (lf_A g_this_text) (Int32.toInt x_this_at) (Int32.toInt x_this_behind) n (Int32.toInt J23_l2) (Int32.toInt J23_l3) (Int32.toInt J23_l4) (Int32.toInt J23_l5)) → 4 ≤ J23_l5.toInt + (n : Int) → va_P (dC, dI) vwCl [(wo_5_riiiiirii a_this a_this_text x_this_length x_this_at x_this_behind x_this_sort x_this_allowed a_this_plan x_this_fault x_this_place), (wi_0_1600_0 a_this_text cy g_this_text)] H → va_D A [(wo_5_riiiiirii a_this a_this_text x_this_length x_this_at x_this_behind x_this_sort x_this_allowed a_this_plan x_this_fault x_this_place), (wi_0_1600_0 a_this_text cy g_this_text)] → va_S A s.heap H locs → lv_has ls 6 [(0, .ref a_this), (1, .ref (sq 13)), (2, .int J23_l2), (3, .int J23_l3), (4, .int J23_l4), (5, .int J23_l5)] → W p l e { frames := 4, cells := 0, slots := 0, locals := 141 } s m args below meth c H locs 0 0 Q (F0 m 23 ls []) := by
    as_aux_lemma =>
      intro n
      induction n with
      | zero =>
        intro J23_l2 J23_l3 J23_l4 J23_l5 H locs ls hK23_x_this_at hK23_x_this_sort hJ23_l3 hJ23_l4 hJ23_l5 hJ23_lin0 hq hm
        exact absurd hm (by have := hJ23_l5; unfold ib at this; omega)
      | succ n ih =>
        intro J23_l2 J23_l3 J23_l4 J23_l5 H locs ls hK23_x_this_at hK23_x_this_sort hJ23_l3 hJ23_l4 hJ23_l5 hJ23_lin0 hq hm23 hP hD hS hl
        have ih23 := ih
        obtain ⟨K23, hK23⟩ : ∃ K, K = F_X5_wordIn_s13_23 (lf_A g_this_text) (Int32.toInt x_this_at) (Int32.toInt x_this_behind) n := ⟨_, rfl⟩
        have hq : O = F_X5_wordIn_s13_23b (lf_A g_this_text) (Int32.toInt x_this_at) (Int32.toInt x_this_behind) K23 (Int32.toInt J23_l2) (Int32.toInt J23_l3) (Int32.toInt J23_l4) (Int32.toInt J23_l5) := by rw [hK23]; exact hq
        unfold F_X5_wordIn_s13_23b at hq
        have jn119 : ∀ (J119_l2 : Int32) (J119_l3 : Int32) (J119_l4 : Int32) (H : Heap) (locs : List Loc) (ls : Array Slot), ib x_this_at 0 1599 → ib J23_l5 0 2 → ib x_this_sort 1 1 → ib J119_l3 0 1602 → ib J119_l4 0 1 → (1 * J119_l3.toInt + (-1) * J23_l5.toInt ≤ 1601) → (O = F_X5_wordIn_s13_119 (Int32.toInt J23_l5) K23 (Int32.toInt J119_l2) (Int32.toInt J119_l3) (Int32.toInt J119_l4)) → va_P (dC, dI) vwCl [(wo_5_riiiiirii a_this a_this_text x_this_length x_this_at x_this_behind x_this_sort x_this_allowed a_this_plan x_this_fault x_this_place), (wi_0_1600_0 a_this_text cy g_this_text)] H → va_D A [(wo_5_riiiiirii a_this a_this_text x_this_length x_this_at x_this_behind x_this_sort x_this_allowed a_this_plan x_this_fault x_this_place), (wi_0_1600_0 a_this_text cy g_this_text)] → va_S A s.heap H locs → lv_has ls 6 [(0, .ref a_this), (1, .ref (sq 13)), (2, .int J119_l2), (3, .int J119_l3), (4, .int J119_l4), (5, .int J23_l5)] → W p l e { frames := 4, cells := 0, slots := 0, locals := 141 } s m args below meth c H locs 0 0 Q (F0 m 119 ls []) := by
          intro J119_l2 J119_l3 J119_l4 H locs ls hK119_x_this_at hK119_J23_l5 hK119_x_this_sort hJ119_l3 hJ119_l4 hJ119_lin0 hq hP hD hS hl
          unfold F_X5_wordIn_s13_119 at hq
          obtain ⟨z1, ez1⟩ : ∃ y : Int32, y = J23_l5 + 1 := ⟨_, rfl⟩
          refine lv_iinc (v := z1) (lv' := [(5, .int z1), (0, .ref a_this), (1, .ref (sq 13)), (2, .int J119_l2), (3, .int J119_l3), (4, .int J119_l4)]) hx hb dX5_wordIn_119 hl (k := 5) rfl (by rw [ez1]; rfl) (Nat.le_of_ble_eq_true rfl) rfl (fun ls hl => ?_)
          have h2 := ib_add hK119_J23_l5 (ib_c 1 1 1 rfl) rfl
          rw [← ez1] at h2
          have h3 : ib z1 1 3 := ib_w 1 3 h2.1 rfl
          have Ez1 := lf_add h2.2 (lf_rf J23_l5) (lf_lc 1 (1 : Int) rfl)
          refine lv_goto (tgt := 23) hx hb dX5_wordIn_122 rfl ?_
          exact ih23 J119_l2 J119_l3 J119_l4 z1 H locs ls (ib_w 0 1599 hK119_x_this_at rfl) (ib_w 1 1 hK119_x_this_sort rfl) (ib_w 0 1602 hJ119_l3 rfl) (ib_w 0 1 hJ119_l4 rfl) (ib_w 0 3 h3 rfl) (by have := h2.2; have : (1 : Int32).toInt = 1 := rfl; have := hJ119_lin0; omega) (by rw [← hK23]; rw [lf_u Ez1]; exact hq) (by have := h2.2; have : (1 : Int32).toInt = 1 := rfl; omega) hP hD hS (lv_sub hl [1, 2, 3, 4, 5, 0] rfl)
        have jn114 : ∀ (J114_s0 : Int32) (H : Heap) (locs : List Loc) (ls : Array Slot), ib J23_l3 0 1601 → ib J23_l4 0 1 → ib J23_l5 0 1 → ib x_this_at 0 1599 → ib x_this_sort 1 1 → ib J114_s0 0 1 → (1 * J23_l3.toInt + (-1) * J23_l5.toInt ≤ 1600) → (O = F_X5_wordIn_s13_114 (Int32.toInt J23_l2) (Int32.toInt J23_l3) (Int32.toInt J23_l5) K23 (Int32.toInt J114_s0)) → va_P (dC, dI) vwCl [(wo_5_riiiiirii a_this a_this_text x_this_length x_this_at x_this_behind x_this_sort x_this_allowed a_this_plan x_this_fault x_this_place), (wi_0_1600_0 a_this_text cy g_this_text)] H → va_D A [(wo_5_riiiiirii a_this a_this_text x_this_length x_this_at x_this_behind x_this_sort x_this_allowed a_this_plan x_this_fault x_this_place), (wi_0_1600_0 a_this_text cy g_this_text)] → va_S A s.heap H locs → lv_has ls 6 [(0, .ref a_this), (1, .ref (sq 13)), (2, .int J23_l2), (3, .int J23_l3), (4, .int J23_l4), (5, .int J23_l5)] → W p l e { frames := 4, cells := 0, slots := 0, locals := 141 } s m args below meth c H locs 0 0 Q (F0 m 114 ls [.int J114_s0]) := by
          intro J114_s0 H locs ls hK114_J23_l3 hK114_J23_l4 hK114_J23_l5 hK114_x_this_at hK114_x_this_sort hJ114_s0 hJ114_lin0 hq hP hD hS hl
          unfold F_X5_wordIn_s13_114 at hq
          refine lv_istore (lv' := [(4, .int J114_s0), (0, .ref a_this), (1, .ref (sq 13)), (2, .int J23_l2), (3, .int J23_l3), (5, .int J23_l5)]) hx hb dX5_wordIn_114 hl (Nat.le_of_ble_eq_true rfl) rfl (fun ls hl => ?_)
          obtain ⟨z4, ez4⟩ : ∃ y : Int32, y = J23_l3 + 1 := ⟨_, rfl⟩
          refine lv_iinc (v := z4) (lv' := [(3, .int z4), (4, .int J114_s0), (0, .ref a_this), (1, .ref (sq 13)), (2, .int J23_l2), (5, .int J23_l5)]) hx hb dX5_wordIn_116 hl (k := 4) rfl (by rw [ez4]; rfl) (Nat.le_of_ble_eq_true rfl) rfl (fun ls hl => ?_)
          have h5 := ib_add hK114_J23_l3 (ib_c 1 1 1 rfl) rfl
          rw [← ez4] at h5
          have h6 : ib z4 1 1602 := ib_w 1 1602 h5.1 rfl
          have Ez4 := lf_add h5.2 (lf_rf J23_l3) (lf_lc 1 (1 : Int) rfl)
          exact jn119 J23_l2 z4 J114_s0 H locs ls (ib_w 0 1599 hK114_x_this_at rfl) (ib_w 0 2 hK114_J23_l5 rfl) (ib_w 1 1 hK114_x_this_sort rfl) (ib_w 0 1602 h6 rfl) (ib_w 0 1 hJ114_s0 rfl) (by have := (hK114_J23_l5).1; have := hJ23_lin0; have := (h6).2; have := h5.2; have : (1 : Int32).toInt = 1 := rfl; omega) (by rw [lf_u Ez4]; exact hq) hP hD hS (lv_sub hl [2, 3, 4, 0, 1, 5] rfl)
        have jn113 : ∀  (H : Heap) (locs : List Loc) (ls : Array Slot), ib J23_l3 0 1601 → ib J23_l4 0 1 → ib J23_l5 0 1 → ib x_this_at 0 1599 → ib x_this_sort 1 1 → (1 * J23_l3.toInt + (-1) * J23_l5.toInt ≤ 1600) → (O = F_X5_wordIn_s13_113 (Int32.toInt J23_l2) (Int32.toInt J23_l3) (Int32.toInt J23_l5) K23 ) → va_P (dC, dI) vwCl [(wo_5_riiiiirii a_this a_this_text x_this_length x_this_at x_this_behind x_this_sort x_this_allowed a_this_plan x_this_fault x_this_place), (wi_0_1600_0 a_this_text cy g_this_text)] H → va_D A [(wo_5_riiiiirii a_this a_this_text x_this_length x_this_at x_this_behind x_this_sort x_this_allowed a_this_plan x_this_fault x_this_place), (wi_0_1600_0 a_this_text cy g_this_text)] → va_S A s.heap H locs → lv_has ls 6 [(0, .ref a_this), (1, .ref (sq 13)), (2, .int J23_l2), (3, .int J23_l3), (4, .int J23_l4), (5, .int J23_l5)] → W p l e { frames := 4, cells := 0, slots := 0, locals := 141 } s m args below meth c H locs 0 0 Q (F0 m 113 ls []) := by
          intro H locs ls hK113_J23_l3 hK113_J23_l4 hK113_J23_l5 hK113_x_this_at hK113_x_this_sort hJ113_lin0 hq hP hD hS hl
          unfold F_X5_wordIn_s13_113 at hq
          refine lv_iconst (v := 0) hx hb dX5_wordIn_113 rfl ?_
          exact jn114 0 H locs ls (ib_w 0 1601 hK113_J23_l3 rfl) (ib_w 0 1 hK113_J23_l4 rfl) (ib_w 0 1 hK113_J23_l5 rfl) (ib_w 0 1599 hK113_x_this_at rfl) (ib_w 1 1 hK113_x_this_sort rfl) (ib_w 0 1 (ib_c 0 0 0 rfl) rfl) (by have := hJ23_lin0; omega) (by try simp only [show (0 : Int32).toInt = (0 : Int) from rfl]; exact hq) hP hD hS (lv_sub hl [0, 1, 2, 3, 4, 5] rfl)
        have jn67 : ∀  (H : Heap) (locs : List Loc) (ls : Array Slot), ib J23_l3 0 1602 → ib J23_l4 0 1 → ib J23_l5 0 2 → ib x_this_at 0 1599 → ib x_this_sort 1 1 → (O = F_X5_wordIn_s13_67 (Int32.toInt x_this_at) (Int32.toInt J23_l2) (Int32.toInt J23_l5) K23 ) → va_P (dC, dI) vwCl [(wo_5_riiiiirii a_this a_this_text x_this_length x_this_at x_this_behind x_this_sort x_this_allowed a_this_plan x_this_fault x_this_place), (wi_0_1600_0 a_this_text cy g_this_text)] H → va_D A [(wo_5_riiiiirii a_this a_this_text x_this_length x_this_at x_this_behind x_this_sort x_this_allowed a_this_plan x_this_fault x_this_place), (wi_0_1600_0 a_this_text cy g_this_text)] → va_S A s.heap H locs → lv_has ls 6 [(0, .ref a_this), (1, .ref (sq 13)), (2, .int J23_l2), (3, .int J23_l3), (4, .int J23_l4), (5, .int J23_l5)] → W p l e { frames := 4, cells := 0, slots := 0, locals := 141 } s m args below meth c H locs 0 0 Q (F0 m 67 ls []) := by
          intro H locs ls hK67_J23_l3 hK67_J23_l4 hK67_J23_l5 hK67_x_this_at hK67_x_this_sort hq hP hD hS hl
          unfold F_X5_wordIn_s13_67 at hq
          obtain ⟨z7, ez7⟩ : ∃ y : Int32, y = J23_l2 + 1 := ⟨_, rfl⟩
          refine lv_iinc (v := z7) (lv' := [(2, .int z7), (0, .ref a_this), (1, .ref (sq 13)), (3, .int J23_l3), (4, .int J23_l4), (5, .int J23_l5)]) hx hb dX5_wordIn_67 hl (k := 2) rfl (by rw [ez7]; rfl) (Nat.le_of_ble_eq_true rfl) rfl (fun ls hl => ?_)
          have Ez7 := lf_op lf_iadd ez7 (lf_rf J23_l2) (lf_lc 1 (1 : Int) rfl)
          refine lv_aload_n hx hb dX5_wordIn_70 rfl (lv_at hl 1 rfl) ?_
          refine k_get C0 fg_X5_15 hP 0 rfl rfl dX5_wordIn_71 ?_
          refine lv_istore_n (lv' := [(3, .int x_this_at), (2, .int z7), (0, .ref a_this), (1, .ref (sq 13)), (4, .int J23_l4), (5, .int J23_l5)]) hx hb dX5_wordIn_74 rfl hl (Nat.le_of_ble_eq_true rfl) rfl (fun ls hl => ?_)
          refine lv_iconst (v := 1) hx hb dX5_wordIn_75 rfl ?_
          refine lv_istore (lv' := [(4, .int 1), (3, .int x_this_at), (2, .int z7), (0, .ref a_this), (1, .ref (sq 13)), (5, .int J23_l5)]) hx hb dX5_wordIn_76 hl (Nat.le_of_ble_eq_true rfl) rfl (fun ls hl => ?_)
          refine lv_goto (tgt := 119) hx hb dX5_wordIn_78 rfl ?_
          exact jn119 z7 x_this_at 1 H locs ls (ib_w 0 1599 hK67_x_this_at rfl) (ib_w 0 2 hK67_J23_l5 rfl) (ib_w 1 1 hK67_x_this_sort rfl) (ib_w 0 1602 hK67_x_this_at rfl) (ib_w 0 1 (ib_c 1 1 1 rfl) rfl) (by have := (hK67_J23_l5).1; have := (hK67_x_this_at).2; omega) (by rw [lf_u Ez7]; try simp only [show (1 : Int32).toInt = (1 : Int) from rfl]; exact hq) hP hD hS (lv_sub hl [3, 4, 2, 1, 0, 5] rfl)
        have jn52 : ∀  (H : Heap) (locs : List Loc) (ls : Array Slot), ib J23_l3 0 1602 → ib J23_l4 0 1 → ib J23_l5 0 2 → ib x_this_at 0 1599 → ib x_this_sort 1 1 → (O = F_X5_wordIn_s13_52 (Int32.toInt x_this_at) (Int32.toInt x_this_behind) (Int32.toInt J23_l2) (Int32.toInt J23_l3) (Int32.toInt J23_l4) (Int32.toInt J23_l5) K23 ) → va_P (dC, dI) vwCl [(wo_5_riiiiirii a_this a_this_text x_this_length x_this_at x_this_behind x_this_sort x_this_allowed a_this_plan x_this_fault x_this_place), (wi_0_1600_0 a_this_text cy g_this_text)] H → va_D A [(wo_5_riiiiirii a_this a_this_text x_this_length x_this_at x_this_behind x_this_sort x_this_allowed a_this_plan x_this_fault x_this_place), (wi_0_1600_0 a_this_text cy g_this_text)] → va_S A s.heap H locs → lv_has ls 6 [(0, .ref a_this), (1, .ref (sq 13)), (2, .int J23_l2), (3, .int J23_l3), (4, .int J23_l4), (5, .int J23_l5)] → W p l e { frames := 4, cells := 0, slots := 0, locals := 141 } s m args below meth c H locs 0 0 Q (F0 m 52 ls []) := by
          as_aux_lemma =>
            intro H locs ls hK52_J23_l3 hK52_J23_l4 hK52_J23_l5 hK52_x_this_at hK52_x_this_sort hq hP hD hS hl
            unfold F_X5_wordIn_s13_52 at hq
            refine lv_iload hx hb dX5_wordIn_52 (lv_at hl 4 rfl) ?_
            refine lv_if_eq (tgt := 67) hx hb dX5_wordIn_54 rfl (fun c8 => ?_) (fun c8 => ?_)
            · replace hq := lf_pos hq (lf_eq (lf_rf J23_l4) (lf_lc 0 (0 : Int) rfl) c8)
              have h9 := ib_eq hK52_J23_l4 (ib_c 0 0 0 rfl) c8
              have h10 : ib J23_l4 0 0 := ib_w 0 0 h9.1 rfl
              exact jn67  H locs ls (ib_w 0 1602 hK52_J23_l3 rfl) (ib_w 0 1 h10 rfl) (ib_w 0 2 hK52_J23_l5 rfl) (ib_w 0 1599 hK52_x_this_at rfl) (ib_w 1 1 hK52_x_this_sort rfl) (by exact hq) hP hD hS (lv_sub hl [0, 1, 2, 3, 4, 5] rfl)
            · replace hq := lf_neg hq (lf_ne (lf_rf J23_l4) (lf_lc 0 (0 : Int) rfl) c8)
              have h11 : ib J23_l4 1 1 := ib_w 1 1 (ib_ne_lo 0 hK52_J23_l4 rfl c8) rfl
              refine lv_iload_n hx hb dX5_wordIn_57 rfl (lv_at hl 3 rfl) ?_
              refine lv_aload_n hx hb dX5_wordIn_58 rfl (lv_at hl 0 rfl) ?_
              refine k_get C0 fg_X5_18 hP 0 rfl rfl dX5_wordIn_59 ?_
              refine lv_icmp_ne (tgt := 67) hx hb dX5_wordIn_62 rfl (fun c12 => ?_) (fun c12 => ?_)
              · replace hq := lf_neg hq (lf_ne (lf_rf J23_l3) (lf_rf x_this_behind) c12)
                exact jn67  H locs ls (ib_w 0 1602 hK52_J23_l3 rfl) (ib_w 0 1 h11 rfl) (ib_w 0 2 hK52_J23_l5 rfl) (ib_w 0 1599 hK52_x_this_at rfl) (ib_w 1 1 hK52_x_this_sort rfl) (by exact hq) hP hD hS (lv_sub hl [0, 1, 2, 3, 4, 5] rfl)
              · replace hq := lf_pos hq (lf_eq (lf_rf J23_l3) (lf_rf x_this_behind) c12)
                have h13 := ib_eq hK52_J23_l3 hx_this_behind c12
                have h14 : ib J23_l3 0 1600 := ib_w 0 1600 h13.1 rfl
                refine lv_iload_n hx hb dX5_wordIn_65 rfl (lv_at hl 2 rfl) ?_
                subst hQ; exact k_iret hx hb hr hlk rfl () hS ((hO.symm.trans (by exact hq))) hP hD (Nat.le_of_ble_eq_true rfl) (Nat.le_of_ble_eq_true rfl) dX5_wordIn_66
        refine lv_iload hx hb dX5_wordIn_23 (lv_at hl 5 rfl) ?_
        refine lv_aload_n hx hb dX5_wordIn_25 rfl (lv_at hl 1 rfl) ?_
        refine k_jim hP hD hS hA [] [true, true] rfl rfl rfl 0 0 (Nat.le_of_ble_eq_true rfl) (Nat.le_of_ble_eq_true rfl) (fun hPc hDc => k_runVO (As := []) (rest := [.int J23_l5]) C0 hZ hS hA (c_length l dC dI cy sq 13 (by decide)) mV_X5_244 hPc hDc (vk_recv hZ.1 (by decide) hS) hl rfl rfl (Nat.le_of_ble_eq_true rfl) ⟨(Nat.le_of_ble_eq_true rfl), (Nat.le_of_ble_eq_true rfl)⟩ ⟨(Nat.le_of_ble_eq_true rfl), (Nat.le_of_ble_eq_true rfl)⟩ dX5_wordIn_26) (fun r15 u16 H locs hw hP hD hS => ?_)
        replace hP : va_P (dC, dI) vwCl [(wo_5_riiiiirii a_this a_this_text x_this_length x_this_at x_this_behind x_this_sort x_this_allowed a_this_plan x_this_fault x_this_place), (wi_0_1600_0 a_this_text cy g_this_text)] H := hP
        replace hD := k_D hP hD
        obtain rfl : r15 = 2 := hw.trans (by decide)
        refine lv_icmp_gt (tgt := 125) hx hb dX5_wordIn_29 rfl (fun c17 => ?_) (fun c17 => ?_)
        · replace hq := lf_pos hq (lf_lt (lf_lc 2 (2 : Int) rfl) (lf_rf J23_l5) c17)
          have h18 := ib_lt (ib_c 2 2 2 rfl) hJ23_l5 c17
          have h19 : ib J23_l5 3 3 := ib_w 3 3 h18.2 rfl
          refine lv_iconst (v := (-1)) hx hb dX5_wordIn_125 rfl ?_
          subst hQ; exact k_iret hx hb hr hlk rfl () hS ((hO.symm.trans (by try simp only [show ((-1) : Int32).toInt = (-1 : Int) from rfl]; exact hq))) hP hD (Nat.le_of_ble_eq_true rfl) (Nat.le_of_ble_eq_true rfl) dX5_wordIn_126
        · as_aux_lemma =>
            replace hq := lf_neg hq (lf_nlt (lf_lc 2 (2 : Int) rfl) (lf_rf J23_l5) c17)
            have h20 := ib_nlt (ib_c 2 2 2 rfl) hJ23_l5 c17
            have h21 : ib J23_l5 0 2 := ib_w 0 2 h20.2 rfl
            refine lv_iload hx hb dX5_wordIn_32 (lv_at hl 5 rfl) ?_
            refine lv_aload_n hx hb dX5_wordIn_34 rfl (lv_at hl 1 rfl) ?_
            refine k_jim hP hD hS hA [] [true, true] rfl rfl rfl 0 0 (Nat.le_of_ble_eq_true rfl) (Nat.le_of_ble_eq_true rfl) (fun hPc hDc => k_runVO (As := []) (rest := [.int J23_l5]) C0 hZ hS hA (c_length l dC dI cy sq 13 (by decide)) mV_X5_244 hPc hDc (vk_recv hZ.1 (by decide) hS) hl rfl rfl (Nat.le_of_ble_eq_true rfl) ⟨(Nat.le_of_ble_eq_true rfl), (Nat.le_of_ble_eq_true rfl)⟩ ⟨(Nat.le_of_ble_eq_true rfl), (Nat.le_of_ble_eq_true rfl)⟩ dX5_wordIn_35) (fun r22 u23 H locs hw hP hD hS => ?_)
            replace hP : va_P (dC, dI) vwCl [(wo_5_riiiiirii a_this a_this_text x_this_length x_this_at x_this_behind x_this_sort x_this_allowed a_this_plan x_this_fault x_this_place), (wi_0_1600_0 a_this_text cy g_this_text)] H := hP
            replace hD := k_D hP hD
            obtain rfl : r22 = 2 := hw.trans (by decide)
            refine lv_icmp_eq (tgt := 52) hx hb dX5_wordIn_38 rfl (fun c24 => ?_) (fun c24 => ?_)
            · replace hq := lf_pos hq (lf_eq (lf_rf J23_l5) (lf_lc 2 (2 : Int) rfl) c24)
              have h25 := ib_eq h21 (ib_c 2 2 2 rfl) c24
              have h26 : ib J23_l5 2 2 := ib_w 2 2 h25.1 rfl
              exact jn52  H locs ls (ib_w 0 1602 hJ23_l3 rfl) (ib_w 0 1 hJ23_l4 rfl) (ib_w 0 2 h26 rfl) (ib_w 0 1599 hK23_x_this_at rfl) (ib_w 1 1 hK23_x_this_sort rfl) (by exact hq) hP hD hS (lv_sub hl [0, 1, 2, 3, 4, 5] rfl)
            · as_aux_lemma =>
                replace hq := lf_neg hq (lf_ne (lf_rf J23_l5) (lf_lc 2 (2 : Int) rfl) c24)
                have h27 : ib J23_l5 0 1 := ib_w 0 1 (ib_ne_hi 2 h21 rfl c24) rfl
                refine lv_aload_n hx hb dX5_wordIn_41 rfl (lv_at hl 1 rfl) ?_
                refine lv_iload hx hb dX5_wordIn_42 (lv_at hl 5 rfl) ?_
                refine k_jim hP hD hS hA [] [true, true] rfl rfl rfl 0 0 (Nat.le_of_ble_eq_true rfl) (Nat.le_of_ble_eq_true rfl) (fun hPc hDc => k_runVO (As := [.int J23_l5]) (rest := []) C0 hZ hS hA (cx_charAt l dC dI cy sq 13 (by decide) J23_l5 (ib_ch 13 2 h27 rfl rfl).1 (ib_ch 13 2 h27 rfl rfl).2.1 (ib_ch 13 2 h27 rfl rfl).2.2) mV_X5_248 hPc hDc (vk_recv hZ.1 (by decide) hS) hl rfl rfl (Nat.le_of_ble_eq_true rfl) ⟨(Nat.le_of_ble_eq_true rfl), (Nat.le_of_ble_eq_true rfl)⟩ ⟨(Nat.le_of_ble_eq_true rfl), (Nat.le_of_ble_eq_true rfl)⟩ dX5_wordIn_44) (fun r28 u29 H locs hw hP hD hS => ?_)
                replace hP : va_P (dC, dI) vwCl [(wo_5_riiiiirii a_this a_this_text x_this_length x_this_at x_this_behind x_this_sort x_this_allowed a_this_plan x_this_fault x_this_place), (wi_0_1600_0 a_this_text cy g_this_text)] H := hP
                replace hD := k_D hP hD
                have Er28 := lf_cha (j := 13) hw (lf_rf J23_l5)
                refine lv_bipush (v := 32) hx hb dX5_wordIn_47 rfl ?_
                refine lv_icmp_ne (tgt := 81) hx hb dX5_wordIn_49 rfl (fun c30 => ?_) (fun c30 => ?_)
                · as_aux_lemma =>
                    replace hq := lf_neg hq (lf_ne Er28 (lf_lc 32 (32 : Int) rfl) c30)
                    refine lv_iload hx hb dX5_wordIn_81 (lv_at hl 4 rfl) ?_
                    refine lv_if_eq (tgt := 113) hx hb dX5_wordIn_83 rfl (fun c31 => ?_) (fun c31 => ?_)
                    · replace hq := lf_pos hq (lf_eq (lf_rf J23_l4) (lf_lc 0 (0 : Int) rfl) c31)
                      have h32 := ib_eq hJ23_l4 (ib_c 0 0 0 rfl) c31
                      have h33 : ib J23_l4 0 0 := ib_w 0 0 h32.1 rfl
                      have h34 : ib J23_l3 0 1601 := ⟨(hJ23_l3).1, by have := (hJ23_l3).2; have := hJ23_lin0; have := (h27).2; omega⟩
                      exact jn113  H locs ls (ib_w 0 1601 h34 rfl) (ib_w 0 1 h33 rfl) (ib_w 0 1 h27 rfl) (ib_w 0 1599 hK23_x_this_at rfl) (ib_w 1 1 hK23_x_this_sort rfl) (by have := hJ23_lin0; omega) (by exact hq) hP hD hS (lv_sub hl [0, 1, 2, 3, 4, 5] rfl)
                    · as_aux_lemma =>
                        replace hq := lf_neg hq (lf_ne (lf_rf J23_l4) (lf_lc 0 (0 : Int) rfl) c31)
                        have h35 : ib J23_l4 1 1 := ib_w 1 1 (ib_ne_lo 0 hJ23_l4 rfl c31) rfl
                        refine lv_iload_n hx hb dX5_wordIn_86 rfl (lv_at hl 3 rfl) ?_
                        refine lv_aload_n hx hb dX5_wordIn_87 rfl (lv_at hl 0 rfl) ?_
                        refine k_get C0 fg_X5_18 hP 0 rfl rfl dX5_wordIn_88 ?_
                        refine lv_icmp_ge (tgt := 113) hx hb dX5_wordIn_91 rfl (fun c36 => ?_) (fun c36 => ?_)
                        · replace hq := lf_pos hq (lf_le (lf_rf x_this_behind) (lf_rf J23_l3) c36)
                          have h37 := ib_le hx_this_behind hJ23_l3 c36
                          have h38 : ib J23_l3 0 1601 := ⟨(hJ23_l3).1, by have := (hJ23_l3).2; have := hJ23_lin0; have := (h27).2; omega⟩
                          exact jn113  H locs ls (ib_w 0 1601 h38 rfl) (ib_w 0 1 h35 rfl) (ib_w 0 1 h27 rfl) (ib_w 0 1599 hK23_x_this_at rfl) (ib_w 1 1 hK23_x_this_sort rfl) (by have := hJ23_lin0; omega) (by exact hq) hP hD hS (lv_sub hl [0, 1, 2, 3, 4, 5] rfl)
                        · as_aux_lemma =>
                            replace hq := lf_neg hq (lf_nle (lf_rf x_this_behind) (lf_rf J23_l3) c36)
                            have h39 := ib_nle hx_this_behind hJ23_l3 c36
                            have h40 : ib x_this_behind 1 1600 := ib_w 1 1600 h39.1 rfl
                            have h41 : ib J23_l3 0 1599 := ib_w 0 1599 h39.2 rfl
                            refine lv_aload_n hx hb dX5_wordIn_94 rfl (lv_at hl 0 rfl) ?_
                            refine k_get C0 fg_X5_33 hP 0 rfl rfl dX5_wordIn_95 ?_
                            refine lv_iload_n hx hb dX5_wordIn_98 rfl (lv_at hl 3 rfl) ?_
                            refine va_iald hx hb C0.2.2.2.2.2.1 hP 1 0 rfl rfl (ib_in 1600 h41 rfl) dX5_wordIn_99 ?_
                            refine lv_topi (fun z42 ez42 => ?_)
                            have h43 : ib z42 0 255 := by rw [ez42]; exact ia_at hg_this_text (ib_in 1600 h41 rfl)
                            have Ez42 := lf_ld ez42 (lf_ra g_this_text) (lf_rf J23_l3)
                            refine lv_aload_n hx hb dX5_wordIn_100 rfl (lv_at hl 1 rfl) ?_
                            refine lv_iload hx hb dX5_wordIn_101 (lv_at hl 5 rfl) ?_
                            refine k_jim hP hD hS hA [] [true, true] rfl rfl rfl 0 0 (Nat.le_of_ble_eq_true rfl) (Nat.le_of_ble_eq_true rfl) (fun hPc hDc => k_runVO (As := [.int J23_l5]) (rest := [.int z42]) C0 hZ hS hA (cx_charAt l dC dI cy sq 13 (by decide) J23_l5 (ib_ch 13 2 h27 rfl rfl).1 (ib_ch 13 2 h27 rfl rfl).2.1 (ib_ch 13 2 h27 rfl rfl).2.2) mV_X5_248 hPc hDc (vk_recv hZ.1 (by decide) hS) hl rfl rfl (Nat.le_of_ble_eq_true rfl) ⟨(Nat.le_of_ble_eq_true rfl), (Nat.le_of_ble_eq_true rfl)⟩ ⟨(Nat.le_of_ble_eq_true rfl), (Nat.le_of_ble_eq_true rfl)⟩ dX5_wordIn_103) (fun r44 u45 H locs hw hP hD hS => ?_)
                            replace hP : va_P (dC, dI) vwCl [(wo_5_riiiiirii a_this a_this_text x_this_length x_this_at x_this_behind x_this_sort x_this_allowed a_this_plan x_this_fault x_this_place), (wi_0_1600_0 a_this_text cy g_this_text)] H := hP
                            replace hD := k_D hP hD
                            have Er44 := lf_cha (j := 13) hw (lf_rf J23_l5)
                            refine lv_icmp_ne (tgt := 113) hx hb dX5_wordIn_106 rfl (fun c46 => ?_) (fun c46 => ?_)
                            · replace hq := lf_neg hq (lf_ne Ez42 Er44 c46)
                              exact jn113  H locs ls (ib_w 0 1601 h41 rfl) (ib_w 0 1 h35 rfl) (ib_w 0 1 h27 rfl) (ib_w 0 1599 hK23_x_this_at rfl) (ib_w 1 1 hK23_x_this_sort rfl) (by have := hJ23_lin0; omega) (by exact hq) hP hD hS (lv_sub hl [0, 1, 2, 3, 4, 5] rfl)
                            · replace hq := lf_pos hq (lf_eq Ez42 Er44 c46)
                              have h47 := ib_eq h43 (ib_any r44) c46
                              have h48 : ib r44 0 255 := ib_w 0 255 h47.2 rfl
                              refine lv_iconst (v := 1) hx hb dX5_wordIn_109 rfl ?_
                              refine lv_goto (tgt := 114) hx hb dX5_wordIn_110 rfl ?_
                              exact jn114 1 H locs ls (ib_w 0 1601 h41 rfl) (ib_w 0 1 h35 rfl) (ib_w 0 1 h27 rfl) (ib_w 0 1599 hK23_x_this_at rfl) (ib_w 1 1 hK23_x_this_sort rfl) (ib_w 0 1 (ib_c 1 1 1 rfl) rfl) (by have := hJ23_lin0; omega) (by try simp only [show (1 : Int32).toInt = (1 : Int) from rfl]; exact hq) hP hD hS (lv_sub hl [0, 1, 2, 3, 4, 5] rfl)
                · replace hq := lf_pos hq (lf_eq Er28 (lf_lc 32 (32 : Int) rfl) c30)
                  have h49 := ib_eq (ib_any r28) (ib_c 32 32 32 rfl) c30
                  have h50 : ib r28 32 32 := ib_w 32 32 h49.1 rfl
                  have h51 : ib J23_l3 0 1601 := ⟨(hJ23_l3).1, by have := (hJ23_l3).2; have := hJ23_lin0; have := (h27).2; omega⟩
                  exact jn52  H locs ls (ib_w 0 1602 h51 rfl) (ib_w 0 1 hJ23_l4 rfl) (ib_w 0 2 h27 rfl) (ib_w 0 1599 hK23_x_this_at rfl) (ib_w 1 1 hK23_x_this_sort rfl) (by exact hq) hP hD hS (lv_sub hl [0, 1, 2, 3, 4, 5] rfl)
  refine lv_aload_n hx hb dX5_wordIn_0 rfl (lv_at hl 0 rfl) ?_
  refine k_get C0 fg_X5_21 hP 0 rfl rfl dX5_wordIn_1 ?_
  refine lv_iconst (v := 1) hx hb dX5_wordIn_4 rfl ?_
  refine lv_icmp_eq (tgt := 10) hx hb dX5_wordIn_5 rfl (fun c52 => ?_) (fun c52 => ?_)
  · replace hq := lf_pos hq (lf_eq (lf_rf x_this_sort) (lf_lc 1 (1 : Int) rfl) c52)
    have h53 := ib_eq hx_this_sort (ib_c 1 1 1 rfl) c52
    have h54 : ib x_this_sort 1 1 := ib_w 1 1 h53.1 rfl
    have h55 : ib x_this_at 0 1599 := ib_w 0 1599 (ib_two hx_this_at (hc0_this (ib_nz h54 rfl))) rfl
    refine lv_iconst (v := 0) hx hb dX5_wordIn_10 rfl ?_
    refine lv_istore_n (lv' := [(2, .int 0), (0, .ref a_this), (1, .ref (sq 13))]) hx hb dX5_wordIn_11 rfl hl (Nat.le_of_ble_eq_true rfl) rfl (fun ls hl => ?_)
    refine lv_aload_n hx hb dX5_wordIn_12 rfl (lv_at hl 1 rfl) ?_
    refine k_get C0 fg_X5_15 hP 0 rfl rfl dX5_wordIn_13 ?_
    refine lv_istore_n (lv' := [(3, .int x_this_at), (2, .int 0), (0, .ref a_this), (1, .ref (sq 13))]) hx hb dX5_wordIn_16 rfl hl (Nat.le_of_ble_eq_true rfl) rfl (fun ls hl => ?_)
    refine lv_iconst (v := 1) hx hb dX5_wordIn_17 rfl ?_
    refine lv_istore (lv' := [(4, .int 1), (3, .int x_this_at), (2, .int 0), (0, .ref a_this), (1, .ref (sq 13))]) hx hb dX5_wordIn_18 hl (Nat.le_of_ble_eq_true rfl) rfl (fun ls hl => ?_)
    refine lv_iconst (v := 0) hx hb dX5_wordIn_20 rfl ?_
    refine lv_istore (lv' := [(5, .int 0), (4, .int 1), (3, .int x_this_at), (2, .int 0), (0, .ref a_this), (1, .ref (sq 13))]) hx hb dX5_wordIn_21 hl (Nat.le_of_ble_eq_true rfl) rfl (fun ls hl => ?_)
    exact jn23 5 0 x_this_at 1 0 H locs ls (ib_w 0 1599 h55 rfl) (ib_w 1 1 h54 rfl) (ib_w 0 1602 h55 rfl) (ib_w 0 1 (ib_c 1 1 1 rfl) rfl) (ib_w 0 3 (ib_c 0 0 0 rfl) rfl) (by have : (0 : Int32).toInt = 0 := rfl; have := (h55).2; omega) (by try simp only [show (0 : Int32).toInt = (0 : Int) from rfl]; try simp only [show (1 : Int32).toInt = (1 : Int) from rfl]; exact hq) (by have := (ib_c 0 0 0 rfl); unfold ib at this; omega) hP hD hS (lv_sub hl [4, 5, 3, 2, 1, 0] rfl)
  · replace hq := lf_neg hq (lf_ne (lf_rf x_this_sort) (lf_lc 1 (1 : Int) rfl) c52)
    refine lv_iconst (v := (-1)) hx hb dX5_wordIn_8 rfl ?_
    subst hQ; exact k_iret hx hb hr hlk rfl () hS ((hO.symm.trans (by try simp only [show ((-1) : Int32).toInt = (-1 : Int) from rfl]; exact hq))) hP hD (Nat.le_of_ble_eq_true rfl) (Nat.le_of_ble_eq_true rfl) dX5_wordIn_9
set_option maxHeartbeats 4000000 in
set_option maxRecDepth 100000 in
theorem s_X5_takeWord_s13 (l : Launch) (dC : Nat → ClassId) (dI : Nat → Nat → Nat) (cy : Nat → ClassId) (sq : Nat → Nat) (a_this : Nat) (a_this_text : Nat) (g_this_text : Nat → Int32) (x_this_length : Int32) (x_this_at : Int32) (x_this_behind : Int32) (x_this_sort : Int32) (x_this_allowed : Int32) (a_this_plan : Nat) (x_this_fault : Int32) (x_this_place : Int32) (hg_this_text : ia g_this_text 1600 0 255) (hx_this_length : ib x_this_length 0 1600) (hx_this_at : ib x_this_at 0 1600) (hx_this_behind : ib x_this_behind 0 1600) (hx_this_sort : ib x_this_sort 0 4) (hc0_this : ¬ x_this_sort = 0 → ib x_this_at 0 1599) : k_Met l yX5_takeWord cX5_takeWord 3 (some .boolean) { frames := 5, cells := 0, slots := 0, locals := 166 } dC dI cy sq [.ref a_this, .ref (sq 13)] [(wo_5_riiiiirii a_this a_this_text x_this_length x_this_at x_this_behind x_this_sort x_this_allowed a_this_plan x_this_fault x_this_place), (wi_0_1600_0 a_this_text cy g_this_text)] (k_Qi dC dI (fun (r : Int32) (u : Int32 × Int32 × Int32) => match u with | (n0, n1, n2) => ib r 0 1 ∧ ib n0 0 1600 ∧ ib n1 0 1600 ∧ ib n2 0 4 ∧ (¬ n2 = 0 → ib n0 0 1599) ∧ (F_X5_takeWord_s13 (lf_A g_this_text) (Int32.toInt x_this_length) (Int32.toInt x_this_at) (Int32.toInt x_this_behind) (Int32.toInt x_this_sort) = ((Int32.toInt r), (Int32.toInt n0), (Int32.toInt n1), (Int32.toInt n2)))) (fun u : Int32 × Int32 × Int32 => match u with | (n0, n1, n2) => [(wo_5_riiiiirii a_this a_this_text x_this_length n0 n1 n2 x_this_allowed a_this_plan x_this_fault x_this_place), (wi_0_1600_0 a_this_text cy g_this_text)])) := by
  refine k_ofW2 (by decide +kernel) (Nat.le_of_ble_eq_true rfl) ?_
  intro p e s m below meth c A ls H locs args Q hQ C0 hZ hr hlk hin hP hD hA hS hl
  have C0 : k_cx p s m args c cX5_takeWord 3 RX5 dC dI cy sq := C0
  have hx := C0.1
  have hb := C0.2.1
  have hl : lv_has ls 3 [(0, .ref a_this), (1, .ref (sq 13))] := hl
  obtain ⟨O, hO⟩ : ∃ o, o = F_X5_takeWord_s13 (lf_A g_this_text) (Int32.toInt x_this_length) (Int32.toInt x_this_at) (Int32.toInt x_this_behind) (Int32.toInt x_this_sort) := ⟨_, rfl⟩
  have hq := hO
  unfold F_X5_takeWord_s13 at hq
  have jn27 : ∀ (J27_l2 : Int32) (J27_c0_2 : Int32) (J27_c0_3 : Int32) (J27_c0_4 : Int32) (H : Heap) (locs : List Loc) (ls : Array Slot), ib J27_l2 0 1 → ib J27_c0_2 0 1600 → ib J27_c0_3 0 1600 → ib J27_c0_4 0 4 → (¬ J27_c0_4 = 0 → ib J27_c0_2 0 1599) → (O = F_X5_takeWord_s13_27 (Int32.toInt J27_l2) (Int32.toInt J27_c0_2) (Int32.toInt J27_c0_3) (Int32.toInt J27_c0_4)) → va_P (dC, dI) vwCl [(wo_5_riiiiirii a_this a_this_text x_this_length J27_c0_2 J27_c0_3 J27_c0_4 x_this_allowed a_this_plan x_this_fault x_this_place), (wi_0_1600_0 a_this_text cy g_this_text)] H → va_D A [(wo_5_riiiiirii a_this a_this_text x_this_length J27_c0_2 J27_c0_3 J27_c0_4 x_this_allowed a_this_plan x_this_fault x_this_place), (wi_0_1600_0 a_this_text cy g_this_text)] → va_S A s.heap H locs → lv_has ls 3 [(0, .ref a_this), (1, .ref (sq 13)), (2, .int J27_l2)] → W p l e { frames := 5, cells := 0, slots := 0, locals := 166 } s m args below meth c H locs 0 0 Q (F0 m 27 ls []) := by
    intro J27_l2 J27_c0_2 J27_c0_3 J27_c0_4 H locs ls hJ27_l2 hJ27_c0_2 hJ27_c0_3 hJ27_c0_4 hJ27_ic0_0 hq hP hD hS hl
    unfold F_X5_takeWord_s13_27 at hq
    refine lv_iload_n hx hb dX5_takeWord_27 rfl (lv_at hl 2 rfl) ?_
    subst hQ; exact k_iret hx hb hr hlk (ib_bool (ib_w 0 1 hJ27_l2 rfl)) ((J27_c0_2, J27_c0_3, J27_c0_4)) hS ⟨ib_w 0 1 hJ27_l2 rfl, ib_w 0 1600 hJ27_c0_2 rfl, ib_w 0 1600 hJ27_c0_3 rfl, ib_w 0 4 hJ27_c0_4 rfl, fun hq9 => ib_w 0 1599 (hJ27_ic0_0 hq9) rfl, (hO.symm.trans (by exact hq))⟩ hP hD (Nat.le_of_ble_eq_true rfl) (Nat.le_of_ble_eq_true rfl) dX5_takeWord_28
  have jn14 : ∀ (J14_s0 : Int32) (H : Heap) (locs : List Loc) (ls : Array Slot), ib J14_s0 0 1 → (O = F_X5_takeWord_s13_14 (lf_A g_this_text) (Int32.toInt x_this_length) (Int32.toInt x_this_at) (Int32.toInt x_this_behind) (Int32.toInt x_this_sort) (Int32.toInt J14_s0)) → va_P (dC, dI) vwCl [(wo_5_riiiiirii a_this a_this_text x_this_length x_this_at x_this_behind x_this_sort x_this_allowed a_this_plan x_this_fault x_this_place), (wi_0_1600_0 a_this_text cy g_this_text)] H → va_D A [(wo_5_riiiiirii a_this a_this_text x_this_length x_this_at x_this_behind x_this_sort x_this_allowed a_this_plan x_this_fault x_this_place), (wi_0_1600_0 a_this_text cy g_this_text)] → va_S A s.heap H locs → lv_has ls 3 [(0, .ref a_this), (1, .ref (sq 13))] → W p l e { frames := 5, cells := 0, slots := 0, locals := 166 } s m args below meth c H locs 0 0 Q (F0 m 14 ls [.int J14_s0]) := by
    intro J14_s0 H locs ls hJ14_s0 hq hP hD hS hl
    unfold F_X5_takeWord_s13_14 at hq
    refine lv_istore_n (lv' := [(2, .int J14_s0), (0, .ref a_this), (1, .ref (sq 13))]) hx hb dX5_takeWord_14 rfl hl (Nat.le_of_ble_eq_true rfl) rfl (fun ls hl => ?_)
    refine lv_iload_n hx hb dX5_takeWord_15 rfl (lv_at hl 0 rfl) ?_
    refine lv_if_eq (tgt := 27) hx hb dX5_takeWord_16 rfl (fun c1 => ?_) (fun c1 => ?_)
    · replace hq := lf_pos hq (lf_eq (lf_rf J14_s0) (lf_lc 0 (0 : Int) rfl) c1)
      have h2 := ib_eq hJ14_s0 (ib_c 0 0 0 rfl) c1
      have h3 : ib J14_s0 0 0 := ib_w 0 0 h2.1 rfl
      exact jn27 J14_s0 x_this_at x_this_behind x_this_sort H locs ls (ib_w 0 1 h3 rfl) (ib_w 0 1600 hx_this_at rfl) (ib_w 0 1600 hx_this_behind rfl) (ib_w 0 4 hx_this_sort rfl) (fun hq9 => ib_w 0 1599 (hc0_this hq9) rfl) (by exact hq) hP hD hS (lv_sub hl [1, 2, 0] rfl)
    · replace hq := lf_neg hq (lf_ne (lf_rf J14_s0) (lf_lc 0 (0 : Int) rfl) c1)
      have h4 : ib J14_s0 1 1 := ib_w 1 1 (ib_ne_lo 0 hJ14_s0 rfl c1) rfl
      refine lv_aload_n hx hb dX5_takeWord_19 rfl (lv_at hl 1 rfl) ?_
      refine lv_aload_n hx hb dX5_takeWord_20 rfl (lv_at hl 1 rfl) ?_
      refine k_get C0 fg_X5_18 hP 0 rfl rfl dX5_takeWord_21 ?_
      refine k_jvm hP hD hS hA [0, 1] [] rfl rfl rfl 0 0 (Nat.le_of_ble_eq_true rfl) (Nat.le_of_ble_eq_true rfl) (fun hPc hDc => k_runV (As := [.int x_this_behind]) (rest := []) C0 hZ hS hA (s_X5_moveTo l dC dI cy sq a_this a_this_text g_this_text x_this_length x_this_at x_this_behind x_this_sort x_this_allowed a_this_plan x_this_fault x_this_place x_this_behind hg_this_text (ib_w 0 1600 hx_this_length rfl) (ib_w 0 1600 hx_this_behind rfl)) mV_X5_86 hPc hDc rfl rfl rfl hl rfl rfl (Nat.le_of_ble_eq_true rfl) ⟨(Nat.le_of_ble_eq_true rfl), (Nat.le_of_ble_eq_true rfl)⟩ ⟨(Nat.le_of_ble_eq_true rfl), (Nat.le_of_ble_eq_true rfl)⟩ dX5_takeWord_24) (fun u6 H locs hw hP hD hS => ?_)
      obtain ⟨v7, v8, v9⟩ := u6
      try dsimp only at hP hD hw
      replace hP : va_P (dC, dI) vwCl [(wo_5_riiiiirii a_this a_this_text x_this_length v7 v8 v9 x_this_allowed a_this_plan x_this_fault x_this_place), (wi_0_1600_0 a_this_text cy g_this_text)] H := hP
      replace hD := k_D hP hD
      obtain ⟨h10, h11, h12, h13, h14⟩ := hw
      replace hq := lf_p1 hq h14
      replace hq := lf_p1 hq rfl
      exact jn27 J14_s0 v7 v8 v9 H locs ls (ib_w 0 1 h4 rfl) (ib_w 0 1600 h10 rfl) (ib_w 0 1600 h11 rfl) (ib_w 0 4 h12 rfl) (fun hq9 => ib_w 0 1599 (h13 hq9) rfl) (by exact hq) hP hD hS (lv_sub hl [1, 2, 0] rfl)
  refine lv_aload_n hx hb dX5_takeWord_0 rfl (lv_at hl 0 rfl) ?_
  refine lv_aload_n hx hb dX5_takeWord_1 rfl (lv_at hl 1 rfl) ?_
  refine k_jim hP hD hS hA [0, 1] [] rfl rfl rfl 0 0 (Nat.le_of_ble_eq_true rfl) (Nat.le_of_ble_eq_true rfl) (fun hPc hDc => k_runV (As := [.ref (sq 13)]) (rest := []) C0 hZ hS hA (s_X5_wordIn_s13 l dC dI cy sq a_this a_this_text g_this_text x_this_length x_this_at x_this_behind x_this_sort x_this_allowed a_this_plan x_this_fault x_this_place hg_this_text (ib_w 0 1600 hx_this_at rfl) (ib_w 0 1600 hx_this_behind rfl) (ib_w 0 4 hx_this_sort rfl) (fun hq9 => ib_w 0 1599 (hc0_this hq9) rfl)) mV_X5_54 hPc hDc rfl rfl rfl hl rfl rfl (Nat.le_of_ble_eq_true rfl) ⟨(Nat.le_of_ble_eq_true rfl), (Nat.le_of_ble_eq_true rfl)⟩ ⟨(Nat.le_of_ble_eq_true rfl), (Nat.le_of_ble_eq_true rfl)⟩ dX5_takeWord_2) (fun r15 u16 H locs hw hP hD hS => ?_)
  try dsimp only at hP hD hw
  replace hP : va_P (dC, dI) vwCl [(wo_5_riiiiirii a_this a_this_text x_this_length x_this_at x_this_behind x_this_sort x_this_allowed a_this_plan x_this_fault x_this_place), (wi_0_1600_0 a_this_text cy g_this_text)] H := hP
  replace hD := k_D hP hD
  have h17 := hw
  replace hq := lf_b1 hq h17
  refine lv_iconst (v := (-1)) hx hb dX5_takeWord_5 rfl ?_
  refine lv_icmp_eq (tgt := 13) hx hb dX5_takeWord_6 rfl (fun c18 => ?_) (fun c18 => ?_)
  · replace hq := lf_pos hq (lf_eq (lf_rf r15) (lf_lc (-1) (-1 : Int) rfl) c18)
    have h19 := ib_eq (ib_any r15) (ib_c (-1) (-1) (-1) rfl) c18
    have h20 : ib r15 (-1) (-1) := ib_w (-1) (-1) h19.1 rfl
    refine lv_iconst (v := 0) hx hb dX5_takeWord_13 rfl ?_
    exact jn14 0 H locs ls (ib_w 0 1 (ib_c 0 0 0 rfl) rfl) (by try simp only [show (0 : Int32).toInt = (0 : Int) from rfl]; exact hq) hP hD hS (lv_sub hl [0, 1] rfl)
  · replace hq := lf_neg hq (lf_ne (lf_rf r15) (lf_lc (-1) (-1 : Int) rfl) c18)
    refine lv_iconst (v := 1) hx hb dX5_takeWord_9 rfl ?_
    refine lv_goto (tgt := 14) hx hb dX5_takeWord_10 rfl ?_
    exact jn14 1 H locs ls (ib_w 0 1 (ib_c 1 1 1 rfl) rfl) (by try simp only [show (1 : Int32).toInt = (1 : Int) from rfl]; exact hq) hP hD hS (lv_sub hl [0, 1] rfl)
set_option maxHeartbeats 4000000 in
set_option maxRecDepth 100000 in
theorem s_X5_test_a0_6 (l : Launch) (dC : Nat → ClassId) (dI : Nat → Nat → Nat) (cy : Nat → ClassId) (sq : Nat → Nat) (a_this : Nat) (a_this_text : Nat) (g_this_text : Nat → Int32) (x_this_length : Int32) (x_this_at : Int32) (x_this_behind : Int32) (x_this_sort : Int32) (x_this_allowed : Int32) (a_this_plan : Nat) (x_this_plan_cycle : Int32) (x_this_plan_green : Int32) (x_this_plan_rule : Int32) (x_this_plan_least : Int32) (x_this_plan_away : Int32) (x_this_plan_statements : Int32) (x_this_plan_kinds : Int32) (a_this_plan_calm : Nat) (a_this_plan_pace : Nat) (a_this_plan_trusts : Nat) (x_this_plan_walkers : Int32) (a_this_plan_kindOf : Nat) (a_this_plan_comesAt : Nat) (a_this_plan_comers : Nat) (a_this_plan_names : Nat) (a_this_plan_code : Nat) (g_this_plan_code : Nat → Int32) (x_this_plan_size : Int32) (a_this_plan_spans : Nat) (x_this_fault : Int32) (x_this_place : Int32) (hg_this_text : ia g_this_text 1600 0 255) (hx_this_length : ib x_this_length 0 1600) (hx_this_at : ib x_this_at 0 1600) (hx_this_behind : ib x_this_behind 0 1600) (hx_this_sort : ib x_this_sort 0 4) (hx_this_plan_size : ib x_this_plan_size 0 1600) (hc0_this : ¬ x_this_sort = 0 → ib x_this_at 0 1599) : k_Met l yX5_test cX5_test 3 none { frames := 11, cells := 0, slots := 0, locals := 299 } dC dI cy sq [.ref a_this, .int 6] [(wo_5_riiiiirii a_this a_this_text x_this_length x_this_at x_this_behind x_this_sort x_this_allowed a_this_plan x_this_fault x_this_place), (wi_0_1600_0 a_this_text cy g_this_text), (wo_4_iiiiiiirrrirrrrrir a_this_plan x_this_plan_cycle x_this_plan_green x_this_plan_rule x_this_plan_least x_this_plan_away x_this_plan_statements x_this_plan_kinds a_this_plan_calm a_this_plan_pace a_this_plan_trusts x_this_plan_walkers a_this_plan_kindOf a_this_plan_comesAt a_this_plan_comers a_this_plan_names a_this_plan_code x_this_plan_size a_this_plan_spans), (wi_0_1600_0 a_this_plan_code cy g_this_plan_code)] (k_Qv dC dI (fun (u : Int32 × Int32 × Int32 × Int32 × Int32 × Int32 × (Nat → Int32)) => match u with | (n0, n1, n2, n3, n4, n5, n6) => ib n0 0 1600 ∧ ib n1 0 1600 ∧ ib n2 0 4 ∧ ib n5 0 1600 ∧ (¬ n2 = 0 → ib n0 0 1599) ∧ (F_X5_test_a0_6 (lf_A g_this_text) (Int32.toInt x_this_length) (Int32.toInt x_this_at) (Int32.toInt x_this_behind) (Int32.toInt x_this_sort) (Int32.toInt x_this_allowed) (lf_A g_this_plan_code) (Int32.toInt x_this_plan_size) (Int32.toInt x_this_fault) (Int32.toInt x_this_place) = ((Int32.toInt n0), (Int32.toInt n1), (Int32.toInt n2), (Int32.toInt n3), (Int32.toInt n4), (Int32.toInt n5), (lf_A n6)))) (fun u : Int32 × Int32 × Int32 × Int32 × Int32 × Int32 × (Nat → Int32) => match u with | (n0, n1, n2, n3, n4, n5, n6) => [(wo_5_riiiiirii a_this a_this_text x_this_length n0 n1 n2 x_this_allowed a_this_plan n3 n4), (wi_0_1600_0 a_this_text cy g_this_text), (wo_4_iiiiiiirrrirrrrrir a_this_plan x_this_plan_cycle x_this_plan_green x_this_plan_rule x_this_plan_least x_this_plan_away x_this_plan_statements x_this_plan_kinds a_this_plan_calm a_this_plan_pace a_this_plan_trusts x_this_plan_walkers a_this_plan_kindOf a_this_plan_comesAt a_this_plan_comers a_this_plan_names a_this_plan_code n5 a_this_plan_spans), (wi_0_1600_0 a_this_plan_code cy n6)])) := by
  refine k_ofW2 (by decide +kernel) (Nat.le_of_ble_eq_true rfl) ?_
  intro p e s m below meth c A ls H locs args Q hQ C0 hZ hr hlk hin hP hD hA hS hl
  have C0 : k_cx p s m args c cX5_test 3 RX5 dC dI cy sq := C0
  have hx := C0.1
  have hb := C0.2.1
  have hl : lv_has ls 3 [(0, .ref a_this), (1, .int 6)] := hl
  obtain ⟨O, hO⟩ : ∃ o, o = F_X5_test_a0_6 (lf_A g_this_text) (Int32.toInt x_this_length) (Int32.toInt x_this_at) (Int32.toInt x_this_behind) (Int32.toInt x_this_sort) (Int32.toInt x_this_allowed) (lf_A g_this_plan_code) (Int32.toInt x_this_plan_size) (Int32.toInt x_this_fault) (Int32.toInt x_this_place) := ⟨_, rfl⟩
  have hq := hO
  unfold F_X5_test_a0_6 at hq
  have jn7 : ∀ (n : Nat) (J7_c0_2 : Int32) (J7_c0_3 : Int32) (J7_c0_4 : Int32) (J7_c0_7 : Int32) (J7_c0_8 : Int32) (J7_c2_16 : Int32) (J7_a3 : Nat → Int32) (J7_l2 : Int32) (H : Heap) (locs : List Loc) (ls : Array Slot), ib J7_c0_2 0 1600 → ib J7_c0_3 0 1600 → ib J7_c0_4 0 4 → ib J7_c2_16 0 1600 → ib J7_l2 0 1600 → (¬ J7_c0_4 = 0 → ib J7_c0_2 0 1599) → (O = F_X5_test_a0_6_7 (lf_A g_this_text) (Int32.toInt x_this_length) (Int32.toInt x_this_allowed) n (Int32.toInt J7_c0_2) (Int32.toInt J7_c0_3) (Int32.toInt J7_c0_4) (Int32.toInt J7_c0_7) (Int32.toInt J7_c0_8) (Int32.toInt J7_c2_16) (lf_A J7_a3) (Int32.toInt J7_l2)) → 1601 ≤ J7_l2.toInt + (n : Int) → va_P (dC, dI) vwCl [(wo_5_riiiiirii a_this a_this_text x_this_length J7_c0_2 J7_c0_3 J7_c0_4 x_this_allowed a_this_plan J7_c0_7 J7_c0_8), (wi_0_1600_0 a_this_text cy g_this_text), (wo_4_iiiiiiirrrirrrrrir a_this_plan x_this_plan_cycle x_this_plan_green x_this_plan_rule x_this_plan_least x_this_plan_away x_this_plan_statements x_this_plan_kinds a_this_plan_calm a_this_plan_pace a_this_plan_trusts x_this_plan_walkers a_this_plan_kindOf a_this_plan_comesAt a_this_plan_comers a_this_plan_names a_this_plan_code J7_c2_16 a_this_plan_spans), (wi_0_1600_0 a_this_plan_code cy J7_a3)] H → va_D A [(wo_5_riiiiirii a_this a_this_text x_this_length J7_c0_2 J7_c0_3 J7_c0_4 x_this_allowed a_this_plan J7_c0_7 J7_c0_8), (wi_0_1600_0 a_this_text cy g_this_text), (wo_4_iiiiiiirrrirrrrrir a_this_plan x_this_plan_cycle x_this_plan_green x_this_plan_rule x_this_plan_least x_this_plan_away x_this_plan_statements x_this_plan_kinds a_this_plan_calm a_this_plan_pace a_this_plan_trusts x_this_plan_walkers a_this_plan_kindOf a_this_plan_comesAt a_this_plan_comers a_this_plan_names a_this_plan_code J7_c2_16 a_this_plan_spans), (wi_0_1600_0 a_this_plan_code cy J7_a3)] → va_S A s.heap H locs → lv_has ls 3 [(0, .ref a_this), (1, .int 6), (2, .int J7_l2)] → W p l e { frames := 11, cells := 0, slots := 0, locals := 299 } s m args below meth c H locs 0 0 Q (F0 m 7 ls []) := by
    as_aux_lemma =>
      intro n
      induction n with
      | zero =>
        intro J7_c0_2 J7_c0_3 J7_c0_4 J7_c0_7 J7_c0_8 J7_c2_16 J7_a3 J7_l2 H locs ls hJ7_c0_2 hJ7_c0_3 hJ7_c0_4 hJ7_c2_16 hJ7_l2 hJ7_ic0_0 hq hm
        exact absurd hm (by have := hJ7_l2; unfold ib at this; omega)
      | succ n ih =>
        intro J7_c0_2 J7_c0_3 J7_c0_4 J7_c0_7 J7_c0_8 J7_c2_16 J7_a3 J7_l2 H locs ls hJ7_c0_2 hJ7_c0_3 hJ7_c0_4 hJ7_c2_16 hJ7_l2 hJ7_ic0_0 hq hm7 hP hD hS hl
        have ih7 := ih
        obtain ⟨K7, hK7⟩ : ∃ K, K = F_X5_test_a0_6_7 (lf_A g_this_text) (Int32.toInt x_this_length) (Int32.toInt x_this_allowed) n := ⟨_, rfl⟩
        have hq : O = F_X5_test_a0_6_7b (lf_A g_this_text) (Int32.toInt x_this_length) (Int32.toInt x_this_allowed) K7 (Int32.toInt J7_c0_2) (Int32.toInt J7_c0_3) (Int32.toInt J7_c0_4) (Int32.toInt J7_c0_7) (Int32.toInt J7_c0_8) (Int32.toInt J7_c2_16) (lf_A J7_a3) (Int32.toInt J7_l2) := by rw [hK7]; exact hq
        unfold F_X5_test_a0_6_7b at hq
        refine lv_iload_n hx hb dX5_test_7 rfl (lv_at hl 2 rfl) ?_
        refine lv_sipush (v := 1600) hx hb dX5_test_8 rfl ?_
        refine lv_icmp_ge (tgt := 40) hx hb dX5_test_11 rfl (fun c1 => ?_) (fun c1 => ?_)
        · replace hq := lf_pos hq (lf_le (lf_lc 1600 (1600 : Int) rfl) (lf_rf J7_l2) c1)
          have h2 := ib_le (ib_c 1600 1600 1600 rfl) hJ7_l2 c1
          have h3 : ib J7_l2 1600 1600 := ib_w 1600 1600 h2.2 rfl
          subst hQ; exact k_vret hx hb hr hlk ((J7_c0_2, J7_c0_3, J7_c0_4, J7_c0_7, J7_c0_8, J7_c2_16, J7_a3)) hS ⟨ib_w 0 1600 hJ7_c0_2 rfl, ib_w 0 1600 hJ7_c0_3 rfl, ib_w 0 4 hJ7_c0_4 rfl, ib_w 0 1600 hJ7_c2_16 rfl, fun hq9 => ib_w 0 1599 (hJ7_ic0_0 hq9) rfl, (hO.symm.trans (by exact hq))⟩ hP hD (Nat.le_of_ble_eq_true rfl) (Nat.le_of_ble_eq_true rfl) dX5_test_40
        · as_aux_lemma =>
            replace hq := lf_neg hq (lf_nle (lf_lc 1600 (1600 : Int) rfl) (lf_rf J7_l2) c1)
            have h4 := ib_nle (ib_c 1600 1600 1600 rfl) hJ7_l2 c1
            have h5 : ib J7_l2 0 1599 := ib_w 0 1599 h4.2 rfl
            refine lv_aload_n hx hb dX5_test_14 rfl (lv_at hl 0 rfl) ?_
            refine va_ldcS hx hb C0.2.2.2.1 (C0.2.2.2.2.2.2.2.2.2.2.2.2 13 (by decide)) dX5_test_15 ?_
            refine k_jim hP hD hS hA [0, 1] [false, false, true, true] rfl rfl rfl 0 0 (Nat.le_of_ble_eq_true rfl) (Nat.le_of_ble_eq_true rfl) (fun hPc hDc => k_runV (As := [.ref (sq 13)]) (rest := []) C0 hZ hS hA (s_X5_takeWord_s13 l dC dI cy sq a_this a_this_text g_this_text x_this_length J7_c0_2 J7_c0_3 J7_c0_4 x_this_allowed a_this_plan J7_c0_7 J7_c0_8 hg_this_text (ib_w 0 1600 hx_this_length rfl) (ib_w 0 1600 hJ7_c0_2 rfl) (ib_w 0 1600 hJ7_c0_3 rfl) (ib_w 0 4 hJ7_c0_4 rfl) (fun hq9 => ib_w 0 1599 (hJ7_ic0_0 hq9) rfl)) mV_X5_195 hPc hDc rfl rfl rfl hl rfl rfl (Nat.le_of_ble_eq_true rfl) ⟨(Nat.le_of_ble_eq_true rfl), (Nat.le_of_ble_eq_true rfl)⟩ ⟨(Nat.le_of_ble_eq_true rfl), (Nat.le_of_ble_eq_true rfl)⟩ dX5_test_17) (fun r6 u7 H locs hw hP hD hS => ?_)
            obtain ⟨v8, v9, v10⟩ := u7
            try dsimp only at hP hD hw
            replace hP : va_P (dC, dI) vwCl [(wo_4_iiiiiiirrrirrrrrir a_this_plan x_this_plan_cycle x_this_plan_green x_this_plan_rule x_this_plan_least x_this_plan_away x_this_plan_statements x_this_plan_kinds a_this_plan_calm a_this_plan_pace a_this_plan_trusts x_this_plan_walkers a_this_plan_kindOf a_this_plan_comesAt a_this_plan_comers a_this_plan_names a_this_plan_code J7_c2_16 a_this_plan_spans), (wi_0_1600_0 a_this_plan_code cy J7_a3), (wo_5_riiiiirii a_this a_this_text x_this_length v8 v9 v10 x_this_allowed a_this_plan J7_c0_7 J7_c0_8), (wi_0_1600_0 a_this_text cy g_this_text)] H := hP
            replace hD := k_D hP hD
            obtain ⟨h11, h12, h13, h14, h15, h16⟩ := hw
            replace hq := lf_p1 hq h16
            replace hq := lf_p1 hq rfl
            replace hq := lf_p1 hq rfl
            refine lv_if_eq (tgt := 40) hx hb dX5_test_20 rfl (fun c17 => ?_) (fun c17 => ?_)
            · replace hq := lf_pos hq (lf_eq (lf_rf r6) (lf_lc 0 (0 : Int) rfl) c17)
              have h18 := ib_eq h11 (ib_c 0 0 0 rfl) c17
              have h19 : ib r6 0 0 := ib_w 0 0 h18.1 rfl
              subst hQ; exact k_vret hx hb hr hlk ((v8, v9, v10, J7_c0_7, J7_c0_8, J7_c2_16, J7_a3)) hS ⟨ib_w 0 1600 h12 rfl, ib_w 0 1600 h13 rfl, ib_w 0 4 h14 rfl, ib_w 0 1600 hJ7_c2_16 rfl, fun hq9 => ib_w 0 1599 (h15 hq9) rfl, (hO.symm.trans (by exact hq))⟩ (hP.sub [2, 3, 0, 1] rfl) (hD.sub [2, 3, 0, 1] rfl rfl) (Nat.le_of_ble_eq_true rfl) (Nat.le_of_ble_eq_true rfl) dX5_test_40
            · as_aux_lemma =>
                replace hq := lf_neg hq (lf_ne (lf_rf r6) (lf_lc 0 (0 : Int) rfl) c17)
                have h20 : ib r6 1 1 := ib_w 1 1 (ib_ne_lo 0 h11 rfl c17) rfl
                refine lv_aload_n hx hb dX5_test_23 rfl (lv_at hl 0 rfl) ?_
                refine lv_iload_n hx hb dX5_test_24 rfl (lv_at hl 1 rfl) ?_
                refine k_jvm hP hD hS hA [2, 3, 0, 1] [] rfl rfl rfl 0 0 (Nat.le_of_ble_eq_true rfl) (Nat.le_of_ble_eq_true rfl) (fun hPc hDc => k_runV (As := [.int 6]) (rest := []) C0 hZ hS hA (s_X5_both_a0_6 l dC dI cy sq a_this a_this_text g_this_text x_this_length v8 v9 v10 x_this_allowed a_this_plan x_this_plan_cycle x_this_plan_green x_this_plan_rule x_this_plan_least x_this_plan_away x_this_plan_statements x_this_plan_kinds a_this_plan_calm a_this_plan_pace a_this_plan_trusts x_this_plan_walkers a_this_plan_kindOf a_this_plan_comesAt a_this_plan_comers a_this_plan_names a_this_plan_code J7_a3 J7_c2_16 a_this_plan_spans J7_c0_7 J7_c0_8 hg_this_text (ib_w 0 1600 hx_this_length rfl) (ib_w 0 1600 h12 rfl) (ib_w 0 1600 h13 rfl) (ib_w 0 4 h14 rfl) (ib_w 0 1600 hJ7_c2_16 rfl) (fun hq9 => ib_w 0 1599 (h15 hq9) rfl)) mV_X5_190 hPc hDc rfl rfl rfl hl rfl rfl (Nat.le_of_ble_eq_true rfl) ⟨(Nat.le_of_ble_eq_true rfl), (Nat.le_of_ble_eq_true rfl)⟩ ⟨(Nat.le_of_ble_eq_true rfl), (Nat.le_of_ble_eq_true rfl)⟩ dX5_test_25) (fun u22 H locs hw hP hD hS => ?_)
                obtain ⟨v23, v24, v25, v26, v27, v28, f29⟩ := u22
                try dsimp only at hP hD hw
                replace hP : va_P (dC, dI) vwCl [(wo_5_riiiiirii a_this a_this_text x_this_length v23 v24 v25 x_this_allowed a_this_plan v26 v27), (wi_0_1600_0 a_this_text cy g_this_text), (wo_4_iiiiiiirrrirrrrrir a_this_plan x_this_plan_cycle x_this_plan_green x_this_plan_rule x_this_plan_least x_this_plan_away x_this_plan_statements x_this_plan_kinds a_this_plan_calm a_this_plan_pace a_this_plan_trusts x_this_plan_walkers a_this_plan_kindOf a_this_plan_comesAt a_this_plan_comers a_this_plan_names a_this_plan_code v28 a_this_plan_spans), (wi_0_1600_0 a_this_plan_code cy f29)] H := hP
                replace hD := k_D hP hD
                obtain ⟨h30, h31, h32, h33, h34, h35⟩ := hw
                replace hq := lf_p1 hq h35
                replace hq := lf_p1 hq rfl
                replace hq := lf_p1 hq rfl
                replace hq := lf_p1 hq rfl
                replace hq := lf_p1 hq rfl
                replace hq := lf_p1 hq rfl
                refine lv_aload_n hx hb dX5_test_28 rfl (lv_at hl 0 rfl) ?_
                refine lv_bipush (v := (-30)) hx hb dX5_test_29 rfl ?_
                refine k_jvm hP hD hS hA [0, 2, 3] [false, true] rfl rfl rfl 0 0 (Nat.le_of_ble_eq_true rfl) (Nat.le_of_ble_eq_true rfl) (fun hPc hDc => k_runV (As := [.int (-30)]) (rest := []) C0 hZ hS hA (s_X5_emit l dC dI cy sq a_this a_this_text x_this_length v23 v24 v25 x_this_allowed a_this_plan x_this_plan_cycle x_this_plan_green x_this_plan_rule x_this_plan_least x_this_plan_away x_this_plan_statements x_this_plan_kinds a_this_plan_calm a_this_plan_pace a_this_plan_trusts x_this_plan_walkers a_this_plan_kindOf a_this_plan_comesAt a_this_plan_comers a_this_plan_names a_this_plan_code f29 v28 a_this_plan_spans v26 v27 (-30) (ib_w 0 1600 h33 rfl)) mV_X5_199 hPc hDc rfl rfl rfl hl rfl rfl (Nat.le_of_ble_eq_true rfl) ⟨(Nat.le_of_ble_eq_true rfl), (Nat.le_of_ble_eq_true rfl)⟩ ⟨(Nat.le_of_ble_eq_true rfl), (Nat.le_of_ble_eq_true rfl)⟩ dX5_test_31) (fun u37 H locs hw hP hD hS => ?_)
                obtain ⟨v38, f39⟩ := u37
                try dsimp only at hP hD hw
                replace hP : va_P (dC, dI) vwCl [(wi_0_1600_0 a_this_text cy g_this_text), (wo_5_riiiiirii a_this a_this_text x_this_length v23 v24 v25 x_this_allowed a_this_plan v26 v27), (wo_4_iiiiiiirrrirrrrrir a_this_plan x_this_plan_cycle x_this_plan_green x_this_plan_rule x_this_plan_least x_this_plan_away x_this_plan_statements x_this_plan_kinds a_this_plan_calm a_this_plan_pace a_this_plan_trusts x_this_plan_walkers a_this_plan_kindOf a_this_plan_comesAt a_this_plan_comers a_this_plan_names a_this_plan_code v38 a_this_plan_spans), (wi_0_1600_0 a_this_plan_code cy f39)] H := hP
                replace hD := k_D hP hD
                obtain ⟨h40, h41⟩ := hw
                have h41 := by have h9 := h41; try simp only [show ((-30) : Int32).toInt = (-30 : Int) from rfl] at h9; exact h9
                replace hq := lf_p1 hq h41
                obtain ⟨z42, ez42⟩ : ∃ y : Int32, y = J7_l2 + 1 := ⟨_, rfl⟩
                refine lv_iinc (v := z42) (lv' := [(2, .int z42), (0, .ref a_this), (1, .int 6)]) hx hb dX5_test_34 hl (k := 2) rfl (by rw [ez42]; rfl) (Nat.le_of_ble_eq_true rfl) rfl (fun ls hl => ?_)
                have h43 := ib_add h5 (ib_c 1 1 1 rfl) rfl
                rw [← ez42] at h43
                have h44 : ib z42 1 1600 := ib_w 1 1600 h43.1 rfl
                have Ez42 := lf_add h43.2 (lf_rf J7_l2) (lf_lc 1 (1 : Int) rfl)
                refine lv_goto (tgt := 7) hx hb dX5_test_37 rfl ?_
                exact ih7 v23 v24 v25 v26 v27 v38 f39 z42 H locs ls (ib_w 0 1600 h30 rfl) (ib_w 0 1600 h31 rfl) (ib_w 0 4 h32 rfl) (ib_w 0 1600 h40 rfl) (ib_w 0 1600 h44 rfl) (fun hq9 => ib_w 0 1599 (h34 hq9) rfl) (by rw [← hK7]; rw [lf_u Ez42]; exact hq) (by have := h43.2; have : (1 : Int32).toInt = 1 := rfl; omega) (hP.sub [1, 0, 2, 3] rfl) (hD.sub [1, 0, 2, 3] rfl rfl) hS (lv_sub hl [1, 2, 0] rfl)
  refine lv_aload_n hx hb dX5_test_0 rfl (lv_at hl 0 rfl) ?_
  refine lv_iload_n hx hb dX5_test_1 rfl (lv_at hl 1 rfl) ?_
  refine k_jvm hP hD hS hA [0, 1, 2, 3] [] rfl rfl rfl 0 0 (Nat.le_of_ble_eq_true rfl) (Nat.le_of_ble_eq_true rfl) (fun hPc hDc => k_runV (As := [.int 6]) (rest := []) C0 hZ hS hA (s_X5_both_a0_6 l dC dI cy sq a_this a_this_text g_this_text x_this_length x_this_at x_this_behind x_this_sort x_this_allowed a_this_plan x_this_plan_cycle x_this_plan_green x_this_plan_rule x_this_plan_least x_this_plan_away x_this_plan_statements x_this_plan_kinds a_this_plan_calm a_this_plan_pace a_this_plan_trusts x_this_plan_walkers a_this_plan_kindOf a_this_plan_comesAt a_this_plan_comers a_this_plan_names a_this_plan_code g_this_plan_code x_this_plan_size a_this_plan_spans x_this_fault x_this_place hg_this_text (ib_w 0 1600 hx_this_length rfl) (ib_w 0 1600 hx_this_at rfl) (ib_w 0 1600 hx_this_behind rfl) (ib_w 0 4 hx_this_sort rfl) (ib_w 0 1600 hx_this_plan_size rfl) (fun hq9 => ib_w 0 1599 (hc0_this hq9) rfl)) mV_X5_190 hPc hDc rfl rfl rfl hl rfl rfl (Nat.le_of_ble_eq_true rfl) ⟨(Nat.le_of_ble_eq_true rfl), (Nat.le_of_ble_eq_true rfl)⟩ ⟨(Nat.le_of_ble_eq_true rfl), (Nat.le_of_ble_eq_true rfl)⟩ dX5_test_2) (fun u46 H locs hw hP hD hS => ?_)
  obtain ⟨v47, v48, v49, v50, v51, v52, f53⟩ := u46
  try dsimp only at hP hD hw
  replace hP : va_P (dC, dI) vwCl [(wo_5_riiiiirii a_this a_this_text x_this_length v47 v48 v49 x_this_allowed a_this_plan v50 v51), (wi_0_1600_0 a_this_text cy g_this_text), (wo_4_iiiiiiirrrirrrrrir a_this_plan x_this_plan_cycle x_this_plan_green x_this_plan_rule x_this_plan_least x_this_plan_away x_this_plan_statements x_this_plan_kinds a_this_plan_calm a_this_plan_pace a_this_plan_trusts x_this_plan_walkers a_this_plan_kindOf a_this_plan_comesAt a_this_plan_comers a_this_plan_names a_this_plan_code v52 a_this_plan_spans), (wi_0_1600_0 a_this_plan_code cy f53)] H := hP
  replace hD := k_D hP hD
  obtain ⟨h54, h55, h56, h57, h58, h59⟩ := hw
  replace hq := lf_p1 hq h59
  replace hq := lf_p1 hq rfl
  replace hq := lf_p1 hq rfl
  replace hq := lf_p1 hq rfl
  replace hq := lf_p1 hq rfl
  replace hq := lf_p1 hq rfl
  refine lv_iconst (v := 0) hx hb dX5_test_5 rfl ?_
  refine lv_istore_n (lv' := [(2, .int 0), (0, .ref a_this), (1, .int 6)]) hx hb dX5_test_6 rfl hl (Nat.le_of_ble_eq_true rfl) rfl (fun ls hl => ?_)
  exact jn7 1602 v47 v48 v49 v50 v51 v52 f53 0 H locs ls (ib_w 0 1600 h54 rfl) (ib_w 0 1600 h55 rfl) (ib_w 0 4 h56 rfl) (ib_w 0 1600 h57 rfl) (ib_w 0 1600 (ib_c 0 0 0 rfl) rfl) (fun hq9 => ib_w 0 1599 (h58 hq9) rfl) (by try simp only [show (0 : Int32).toInt = (0 : Int) from rfl]; exact hq) (by have := (ib_c 0 0 0 rfl); unfold ib at this; omega) hP hD hS (lv_sub hl [1, 2, 0] rfl)
set_option maxHeartbeats 4000000 in
set_option maxRecDepth 100000 in
theorem s_X5_fact_a0_5 (l : Launch) (dC : Nat → ClassId) (dI : Nat → Nat → Nat) (cy : Nat → ClassId) (sq : Nat → Nat) (a_this : Nat) (a_this_text : Nat) (g_this_text : Nat → Int32) (x_this_length : Int32) (x_this_at : Int32) (x_this_behind : Int32) (x_this_sort : Int32) (x_this_allowed : Int32) (a_this_plan : Nat) (x_this_plan_cycle : Int32) (x_this_plan_green : Int32) (x_this_plan_rule : Int32) (x_this_plan_least : Int32) (x_this_plan_away : Int32) (x_this_plan_statements : Int32) (x_this_plan_kinds : Int32) (a_this_plan_calm : Nat) (a_this_plan_pace : Nat) (a_this_plan_trusts : Nat) (x_this_plan_walkers : Int32) (a_this_plan_kindOf : Nat) (a_this_plan_comesAt : Nat) (a_this_plan_comers : Nat) (a_this_plan_names : Nat) (a_this_plan_code : Nat) (g_this_plan_code : Nat → Int32) (x_this_plan_size : Int32) (a_this_plan_spans : Nat) (x_this_fault : Int32) (x_this_place : Int32) (hg_this_text : ia g_this_text 1600 0 255) (hx_this_length : ib x_this_length 0 1600) (hx_this_at : ib x_this_at 0 1600) (hx_this_behind : ib x_this_behind 0 1600) (hx_this_sort : ib x_this_sort 0 4) (hx_this_plan_size : ib x_this_plan_size 0 1600) (hc0_this : ¬ x_this_sort = 0 → ib x_this_at 0 1599) : k_Met l yX5_fact cX5_fact 3 none { frames := 13, cells := 0, slots := 0, locals := 344 } dC dI cy sq [.ref a_this, .int 5] [(wo_5_riiiiirii a_this a_this_text x_this_length x_this_at x_this_behind x_this_sort x_this_allowed a_this_plan x_this_fault x_this_place), (wi_0_1600_0 a_this_text cy g_this_text), (wo_4_iiiiiiirrrirrrrrir a_this_plan x_this_plan_cycle x_this_plan_green x_this_plan_rule x_this_plan_least x_this_plan_away x_this_plan_statements x_this_plan_kinds a_this_plan_calm a_this_plan_pace a_this_plan_trusts x_this_plan_walkers a_this_plan_kindOf a_this_plan_comesAt a_this_plan_comers a_this_plan_names a_this_plan_code x_this_plan_size a_this_plan_spans), (wi_0_1600_0 a_this_plan_code cy g_this_plan_code)] (k_Qv dC dI (fun (u : Int32 × Int32 × Int32 × Int32 × Int32 × Int32 × (Nat → Int32)) => match u with | (n0, n1, n2, n3, n4, n5, n6) => ib n0 0 1600 ∧ ib n1 0 1600 ∧ ib n2 0 4 ∧ ib n5 0 1600 ∧ (¬ n2 = 0 → ib n0 0 1599) ∧ (F_X5_fact_a0_5 (lf_A g_this_text) (Int32.toInt x_this_length) (Int32.toInt x_this_at) (Int32.toInt x_this_behind) (Int32.toInt x_this_sort) (Int32.toInt x_this_allowed) (lf_A g_this_plan_code) (Int32.toInt x_this_plan_size) (Int32.toInt x_this_fault) (Int32.toInt x_this_place) = ((Int32.toInt n0), (Int32.toInt n1), (Int32.toInt n2), (Int32.toInt n3), (Int32.toInt n4), (Int32.toInt n5), (lf_A n6)))) (fun u : Int32 × Int32 × Int32 × Int32 × Int32 × Int32 × (Nat → Int32) => match u with | (n0, n1, n2, n3, n4, n5, n6) => [(wo_5_riiiiirii a_this a_this_text x_this_length n0 n1 n2 x_this_allowed a_this_plan n3 n4), (wi_0_1600_0 a_this_text cy g_this_text), (wo_4_iiiiiiirrrirrrrrir a_this_plan x_this_plan_cycle x_this_plan_green x_this_plan_rule x_this_plan_least x_this_plan_away x_this_plan_statements x_this_plan_kinds a_this_plan_calm a_this_plan_pace a_this_plan_trusts x_this_plan_walkers a_this_plan_kindOf a_this_plan_comesAt a_this_plan_comers a_this_plan_names a_this_plan_code n5 a_this_plan_spans), (wi_0_1600_0 a_this_plan_code cy n6)])) := by
  refine k_ofW2 (by decide +kernel) (Nat.le_of_ble_eq_true rfl) ?_
  intro p e s m below meth c A ls H locs args Q hQ C0 hZ hr hlk hin hP hD hA hS hl
  have C0 : k_cx p s m args c cX5_fact 3 RX5 dC dI cy sq := C0
  have hx := C0.1
  have hb := C0.2.1
  have hl : lv_has ls 3 [(0, .ref a_this), (1, .int 5)] := hl
  obtain ⟨O, hO⟩ : ∃ o, o = F_X5_fact_a0_5 (lf_A g_this_text) (Int32.toInt x_this_length) (Int32.toInt x_this_at) (Int32.toInt x_this_behind) (Int32.toInt x_this_sort) (Int32.toInt x_this_allowed) (lf_A g_this_plan_code) (Int32.toInt x_this_plan_size) (Int32.toInt x_this_fault) (Int32.toInt x_this_place) := ⟨_, rfl⟩
  have hq := hO
  unfold F_X5_fact_a0_5 at hq
  refine lv_aload_n hx hb dX5_fact_0 rfl (lv_at hl 0 rfl) ?_
  refine va_ldcS hx hb C0.2.2.2.1 (C0.2.2.2.2.2.2.2.2.2.2.2.2 15 (by decide)) dX5_fact_1 ?_
  refine k_jim hP hD hS hA [0, 1] [false, false, true, true] rfl rfl rfl 0 0 (Nat.le_of_ble_eq_true rfl) (Nat.le_of_ble_eq_true rfl) (fun hPc hDc => k_runV (As := [.ref (sq 15)]) (rest := []) C0 hZ hS hA (s_X5_wordIn_s15 l dC dI cy sq a_this a_this_text g_this_text x_this_length x_this_at x_this_behind x_this_sort x_this_allowed a_this_plan x_this_fault x_this_place hg_this_text (ib_w 0 1600 hx_this_at rfl) (ib_w 0 1600 hx_this_behind rfl) (ib_w 0 4 hx_this_sort rfl) (fun hq9 => ib_w 0 1599 (hc0_this hq9) rfl)) mV_X5_54 hPc hDc rfl rfl rfl hl rfl rfl (Nat.le_of_ble_eq_true rfl) ⟨(Nat.le_of_ble_eq_true rfl), (Nat.le_of_ble_eq_true rfl)⟩ ⟨(Nat.le_of_ble_eq_true rfl), (Nat.le_of_ble_eq_true rfl)⟩ dX5_fact_3) (fun r1 u2 H locs hw hP hD hS => ?_)
  try dsimp only at hP hD hw
  replace hP : va_P (dC, dI) vwCl [(wo_4_iiiiiiirrrirrrrrir a_this_plan x_this_plan_cycle x_this_plan_green x_this_plan_rule x_this_plan_least x_this_plan_away x_this_plan_statements x_this_plan_kinds a_this_plan_calm a_this_plan_pace a_this_plan_trusts x_this_plan_walkers a_this_plan_kindOf a_this_plan_comesAt a_this_plan_comers a_this_plan_names a_this_plan_code x_this_plan_size a_this_plan_spans), (wi_0_1600_0 a_this_plan_code cy g_this_plan_code), (wo_5_riiiiirii a_this a_this_text x_this_length x_this_at x_this_behind x_this_sort x_this_allowed a_this_plan x_this_fault x_this_place), (wi_0_1600_0 a_this_text cy g_this_text)] H := hP
  replace hD := k_D hP hD
  have h3 := hw
  replace hq := lf_b1 hq h3
  refine lv_iconst (v := (-1)) hx hb dX5_fact_6 rfl ?_
  refine lv_icmp_eq (tgt := 34) hx hb dX5_fact_7 rfl (fun c4 => ?_) (fun c4 => ?_)
  · as_aux_lemma =>
      replace hq := lf_pos hq (lf_eq (lf_rf r1) (lf_lc (-1) (-1 : Int) rfl) c4)
      have h5 := ib_eq (ib_any r1) (ib_c (-1) (-1) (-1) rfl) c4
      have h6 : ib r1 (-1) (-1) := ib_w (-1) (-1) h5.1 rfl
      refine lv_aload_n hx hb dX5_fact_34 rfl (lv_at hl 0 rfl) ?_
      refine lv_bipush (v := 91) hx hb dX5_fact_35 rfl ?_
      refine k_jim hP hD hS hA [2, 3] [true, true] rfl rfl rfl 0 0 (Nat.le_of_ble_eq_true rfl) (Nat.le_of_ble_eq_true rfl) (fun hPc hDc => k_runV (As := [.int 91]) (rest := []) C0 hZ hS hA (s_X5_sees l dC dI cy sq a_this a_this_text g_this_text x_this_length x_this_at x_this_behind x_this_sort x_this_allowed a_this_plan x_this_fault x_this_place 91 hg_this_text (ib_w 0 1600 hx_this_at rfl) (ib_w 0 4 hx_this_sort rfl) (fun hq9 => ib_w 0 1599 (hc0_this hq9) rfl)) mV_X5_213 hPc hDc rfl rfl rfl hl rfl rfl (Nat.le_of_ble_eq_true rfl) ⟨(Nat.le_of_ble_eq_true rfl), (Nat.le_of_ble_eq_true rfl)⟩ ⟨(Nat.le_of_ble_eq_true rfl), (Nat.le_of_ble_eq_true rfl)⟩ dX5_fact_37) (fun r7 u8 H locs hw hP hD hS => ?_)
      try dsimp only at hP hD hw
      replace hP : va_P (dC, dI) vwCl [(wo_4_iiiiiiirrrirrrrrir a_this_plan x_this_plan_cycle x_this_plan_green x_this_plan_rule x_this_plan_least x_this_plan_away x_this_plan_statements x_this_plan_kinds a_this_plan_calm a_this_plan_pace a_this_plan_trusts x_this_plan_walkers a_this_plan_kindOf a_this_plan_comesAt a_this_plan_comers a_this_plan_names a_this_plan_code x_this_plan_size a_this_plan_spans), (wi_0_1600_0 a_this_plan_code cy g_this_plan_code), (wo_5_riiiiirii a_this a_this_text x_this_length x_this_at x_this_behind x_this_sort x_this_allowed a_this_plan x_this_fault x_this_place), (wi_0_1600_0 a_this_text cy g_this_text)] H := hP
      replace hD := k_D hP hD
      obtain ⟨h9, h10, h11, h12, h13⟩ := hw
      have h13 := by have h9 := h13; try simp only [show (91 : Int32).toInt = (91 : Int) from rfl] at h9; exact h9
      replace hq := lf_b1 hq h13
      refine lv_if_eq (tgt := 67) hx hb dX5_fact_40 rfl (fun c14 => ?_) (fun c14 => ?_)
      · as_aux_lemma =>
          replace hq := lf_pos hq (lf_eq (lf_rf r7) (lf_lc 0 (0 : Int) rfl) c14)
          have h15 := ib_eq h9 (ib_c 0 0 0 rfl) c14
          have h16 : ib r7 0 0 := ib_w 0 0 h15.1 rfl
          refine lv_aload_n hx hb dX5_fact_67 rfl (lv_at hl 0 rfl) ?_
          refine va_ldcS hx hb C0.2.2.2.1 (C0.2.2.2.2.2.2.2.2.2.2.2.2 16 (by decide)) dX5_fact_68 ?_
          refine k_jim hP hD hS hA [2, 3] [true, true] rfl rfl rfl 0 0 (Nat.le_of_ble_eq_true rfl) (Nat.le_of_ble_eq_true rfl) (fun hPc hDc => k_runV (As := [.ref (sq 16)]) (rest := []) C0 hZ hS hA (s_X5_takeWord_s16 l dC dI cy sq a_this a_this_text g_this_text x_this_length x_this_at x_this_behind x_this_sort x_this_allowed a_this_plan x_this_fault x_this_place hg_this_text (ib_w 0 1600 hx_this_length rfl) (ib_w 0 1600 hx_this_at rfl) (ib_w 0 1600 hx_this_behind rfl) (ib_w 0 4 hx_this_sort rfl) (fun hq9 => ib_w 0 1599 (hc0_this hq9) rfl)) mV_X5_195 hPc hDc rfl rfl rfl hl rfl rfl (Nat.le_of_ble_eq_true rfl) ⟨(Nat.le_of_ble_eq_true rfl), (Nat.le_of_ble_eq_true rfl)⟩ ⟨(Nat.le_of_ble_eq_true rfl), (Nat.le_of_ble_eq_true rfl)⟩ dX5_fact_70) (fun r17 u18 H locs hw hP hD hS => ?_)
          obtain ⟨v19, v20, v21⟩ := u18
          try dsimp only at hP hD hw
          replace hP : va_P (dC, dI) vwCl [(wo_4_iiiiiiirrrirrrrrir a_this_plan x_this_plan_cycle x_this_plan_green x_this_plan_rule x_this_plan_least x_this_plan_away x_this_plan_statements x_this_plan_kinds a_this_plan_calm a_this_plan_pace a_this_plan_trusts x_this_plan_walkers a_this_plan_kindOf a_this_plan_comesAt a_this_plan_comers a_this_plan_names a_this_plan_code x_this_plan_size a_this_plan_spans), (wi_0_1600_0 a_this_plan_code cy g_this_plan_code), (wo_5_riiiiirii a_this a_this_text x_this_length v19 v20 v21 x_this_allowed a_this_plan x_this_fault x_this_place), (wi_0_1600_0 a_this_text cy g_this_text)] H := hP
          replace hD := k_D hP hD
          obtain ⟨h22, h23, h24, h25, h26, h27⟩ := hw
          replace hq := lf_p1 hq h27
          replace hq := lf_p1 hq rfl
          replace hq := lf_p1 hq rfl
          refine lv_if_eq (tgt := 84) hx hb dX5_fact_73 rfl (fun c28 => ?_) (fun c28 => ?_)
          · as_aux_lemma =>
              replace hq := lf_pos hq (lf_eq (lf_rf r17) (lf_lc 0 (0 : Int) rfl) c28)
              have h29 := ib_eq h22 (ib_c 0 0 0 rfl) c28
              have h30 : ib r17 0 0 := ib_w 0 0 h29.1 rfl
              refine lv_aload_n hx hb dX5_fact_84 rfl (lv_at hl 0 rfl) ?_
              refine lv_iload_n hx hb dX5_fact_85 rfl (lv_at hl 1 rfl) ?_
              refine k_jvm hP hD hS hA [2, 3, 0, 1] [] rfl rfl rfl 0 0 (Nat.le_of_ble_eq_true rfl) (Nat.le_of_ble_eq_true rfl) (fun hPc hDc => k_runV (As := [.int 5]) (rest := []) C0 hZ hS hA (s_X5_sum_a0_5 l dC dI cy sq a_this a_this_text g_this_text x_this_length v19 v20 v21 x_this_allowed a_this_plan x_this_plan_cycle x_this_plan_green x_this_plan_rule x_this_plan_least x_this_plan_away x_this_plan_statements x_this_plan_kinds a_this_plan_calm a_this_plan_pace a_this_plan_trusts x_this_plan_walkers a_this_plan_kindOf a_this_plan_comesAt a_this_plan_comers a_this_plan_names a_this_plan_code g_this_plan_code x_this_plan_size a_this_plan_spans x_this_fault x_this_place hg_this_text (ib_w 0 1600 hx_this_length rfl) (ib_w 0 1600 h23 rfl) (ib_w 0 1600 h24 rfl) (ib_w 0 4 h25 rfl) (ib_w 0 1600 hx_this_plan_size rfl) (fun hq9 => ib_w 0 1599 (h26 hq9) rfl)) mV_X5_93 hPc hDc rfl rfl rfl hl rfl rfl (Nat.le_of_ble_eq_true rfl) ⟨(Nat.le_of_ble_eq_true rfl), (Nat.le_of_ble_eq_true rfl)⟩ ⟨(Nat.le_of_ble_eq_true rfl), (Nat.le_of_ble_eq_true rfl)⟩ dX5_fact_86) (fun u32 H locs hw hP hD hS => ?_)
              obtain ⟨v33, v34, v35, v36, v37, v38, f39⟩ := u32
              try dsimp only at hP hD hw
              replace hP : va_P (dC, dI) vwCl [(wo_5_riiiiirii a_this a_this_text x_this_length v33 v34 v35 x_this_allowed a_this_plan v36 v37), (wi_0_1600_0 a_this_text cy g_this_text), (wo_4_iiiiiiirrrirrrrrir a_this_plan x_this_plan_cycle x_this_plan_green x_this_plan_rule x_this_plan_least x_this_plan_away x_this_plan_statements x_this_plan_kinds a_this_plan_calm a_this_plan_pace a_this_plan_trusts x_this_plan_walkers a_this_plan_kindOf a_this_plan_comesAt a_this_plan_comers a_this_plan_names a_this_plan_code v38 a_this_plan_spans), (wi_0_1600_0 a_this_plan_code cy f39)] H := hP
              replace hD := k_D hP hD
              obtain ⟨h40, h41, h42, h43, h44, h45⟩ := hw
              replace hq := lf_p1 hq h45
              replace hq := lf_p1 hq rfl
              replace hq := lf_p1 hq rfl
              replace hq := lf_p1 hq rfl
              replace hq := lf_p1 hq rfl
              replace hq := lf_p1 hq rfl
              refine lv_aload_n hx hb dX5_fact_89 rfl (lv_at hl 0 rfl) ?_
              refine k_jim hP hD hS hA [0, 1] [false, false, true, true] rfl rfl rfl 0 0 (Nat.le_of_ble_eq_true rfl) (Nat.le_of_ble_eq_true rfl) (fun hPc hDc => k_runV (As := []) (rest := []) C0 hZ hS hA (s_X5_signHere l dC dI cy sq a_this a_this_text g_this_text x_this_length v33 v34 v35 x_this_allowed a_this_plan v36 v37 hg_this_text (ib_w 0 1600 hx_this_length rfl) (ib_w 0 1600 h40 rfl) (ib_w 0 1600 h41 rfl) (ib_w 0 4 h42 rfl) (fun hq9 => ib_w 0 1599 (h44 hq9) rfl)) mV_X5_219 hPc hDc rfl rfl rfl hl rfl rfl (Nat.le_of_ble_eq_true rfl) ⟨(Nat.le_of_ble_eq_true rfl), (Nat.le_of_ble_eq_true rfl)⟩ ⟨(Nat.le_of_ble_eq_true rfl), (Nat.le_of_ble_eq_true rfl)⟩ dX5_fact_90) (fun r46 u47 H locs hw hP hD hS => ?_)
              obtain ⟨v48, v49, v50, v51, v52⟩ := u47
              try dsimp only at hP hD hw
              replace hP : va_P (dC, dI) vwCl [(wo_4_iiiiiiirrrirrrrrir a_this_plan x_this_plan_cycle x_this_plan_green x_this_plan_rule x_this_plan_least x_this_plan_away x_this_plan_statements x_this_plan_kinds a_this_plan_calm a_this_plan_pace a_this_plan_trusts x_this_plan_walkers a_this_plan_kindOf a_this_plan_comesAt a_this_plan_comers a_this_plan_names a_this_plan_code v38 a_this_plan_spans), (wi_0_1600_0 a_this_plan_code cy f39), (wo_5_riiiiirii a_this a_this_text x_this_length v48 v49 v50 x_this_allowed a_this_plan v51 v52), (wi_0_1600_0 a_this_text cy g_this_text)] H := hP
              replace hD := k_D hP hD
              obtain ⟨h53, h54, h55, h56, h57, h58⟩ := hw
              replace hq := lf_p1 hq h58
              replace hq := lf_p1 hq rfl
              replace hq := lf_p1 hq rfl
              replace hq := lf_p1 hq rfl
              replace hq := lf_p1 hq rfl
              refine lv_istore_n (lv' := [(2, .int r46), (0, .ref a_this), (1, .int 5)]) hx hb dX5_fact_93 rfl hl (Nat.le_of_ble_eq_true rfl) rfl (fun ls hl => ?_)
              as_aux_lemma =>
                refine lv_aload_n hx hb dX5_fact_94 rfl (lv_at hl 1 rfl) ?_
                refine lv_aload_n hx hb dX5_fact_95 rfl (lv_at hl 1 rfl) ?_
                refine k_get C0 fg_X5_18 hP 2 rfl rfl dX5_fact_96 ?_
                refine k_jvm hP hD hS hA [2, 3] [true, true] rfl rfl rfl 0 0 (Nat.le_of_ble_eq_true rfl) (Nat.le_of_ble_eq_true rfl) (fun hPc hDc => k_runV (As := [.int v49]) (rest := []) C0 hZ hS hA (s_X5_moveTo l dC dI cy sq a_this a_this_text g_this_text x_this_length v48 v49 v50 x_this_allowed a_this_plan v51 v52 v49 hg_this_text (ib_w 0 1600 hx_this_length rfl) (ib_w 0 1600 h55 rfl)) mV_X5_86 hPc hDc rfl rfl rfl hl rfl rfl (Nat.le_of_ble_eq_true rfl) ⟨(Nat.le_of_ble_eq_true rfl), (Nat.le_of_ble_eq_true rfl)⟩ ⟨(Nat.le_of_ble_eq_true rfl), (Nat.le_of_ble_eq_true rfl)⟩ dX5_fact_99) (fun u60 H locs hw hP hD hS => ?_)
                obtain ⟨v61, v62, v63⟩ := u60
                try dsimp only at hP hD hw
                replace hP : va_P (dC, dI) vwCl [(wo_4_iiiiiiirrrirrrrrir a_this_plan x_this_plan_cycle x_this_plan_green x_this_plan_rule x_this_plan_least x_this_plan_away x_this_plan_statements x_this_plan_kinds a_this_plan_calm a_this_plan_pace a_this_plan_trusts x_this_plan_walkers a_this_plan_kindOf a_this_plan_comesAt a_this_plan_comers a_this_plan_names a_this_plan_code v38 a_this_plan_spans), (wi_0_1600_0 a_this_plan_code cy f39), (wo_5_riiiiirii a_this a_this_text x_this_length v61 v62 v63 x_this_allowed a_this_plan v51 v52), (wi_0_1600_0 a_this_text cy g_this_text)] H := hP
                replace hD := k_D hP hD
                obtain ⟨h64, h65, h66, h67, h68⟩ := hw
                replace hq := lf_p1 hq h68
                replace hq := lf_p1 hq rfl
                refine lv_aload_n hx hb dX5_fact_102 rfl (lv_at hl 1 rfl) ?_
                refine lv_iload_n hx hb dX5_fact_103 rfl (lv_at hl 2 rfl) ?_
                refine k_jvm hP hD hS hA [2, 3, 0, 1] [] rfl rfl rfl 0 0 (Nat.le_of_ble_eq_true rfl) (Nat.le_of_ble_eq_true rfl) (fun hPc hDc => k_runV (As := [.int 5]) (rest := []) C0 hZ hS hA (s_X5_sum_a0_5 l dC dI cy sq a_this a_this_text g_this_text x_this_length v61 v62 v63 x_this_allowed a_this_plan x_this_plan_cycle x_this_plan_green x_this_plan_rule x_this_plan_least x_this_plan_away x_this_plan_statements x_this_plan_kinds a_this_plan_calm a_this_plan_pace a_this_plan_trusts x_this_plan_walkers a_this_plan_kindOf a_this_plan_comesAt a_this_plan_comers a_this_plan_names a_this_plan_code f39 v38 a_this_plan_spans v51 v52 hg_this_text (ib_w 0 1600 hx_this_length rfl) (ib_w 0 1600 h64 rfl) (ib_w 0 1600 h65 rfl) (ib_w 0 4 h66 rfl) (ib_w 0 1600 h43 rfl) (fun hq9 => ib_w 0 1599 (h67 hq9) rfl)) mV_X5_93 hPc hDc rfl rfl rfl hl rfl rfl (Nat.le_of_ble_eq_true rfl) ⟨(Nat.le_of_ble_eq_true rfl), (Nat.le_of_ble_eq_true rfl)⟩ ⟨(Nat.le_of_ble_eq_true rfl), (Nat.le_of_ble_eq_true rfl)⟩ dX5_fact_104) (fun u70 H locs hw hP hD hS => ?_)
                obtain ⟨v71, v72, v73, v74, v75, v76, f77⟩ := u70
                try dsimp only at hP hD hw
                replace hP : va_P (dC, dI) vwCl [(wo_5_riiiiirii a_this a_this_text x_this_length v71 v72 v73 x_this_allowed a_this_plan v74 v75), (wi_0_1600_0 a_this_text cy g_this_text), (wo_4_iiiiiiirrrirrrrrir a_this_plan x_this_plan_cycle x_this_plan_green x_this_plan_rule x_this_plan_least x_this_plan_away x_this_plan_statements x_this_plan_kinds a_this_plan_calm a_this_plan_pace a_this_plan_trusts x_this_plan_walkers a_this_plan_kindOf a_this_plan_comesAt a_this_plan_comers a_this_plan_names a_this_plan_code v76 a_this_plan_spans), (wi_0_1600_0 a_this_plan_code cy f77)] H := hP
                replace hD := k_D hP hD
                obtain ⟨h78, h79, h80, h81, h82, h83⟩ := hw
                replace hq := lf_p1 hq h83
                replace hq := lf_p1 hq rfl
                replace hq := lf_p1 hq rfl
                replace hq := lf_p1 hq rfl
                replace hq := lf_p1 hq rfl
                replace hq := lf_p1 hq rfl
                refine lv_aload_n hx hb dX5_fact_107 rfl (lv_at hl 1 rfl) ?_
                refine lv_iload_n hx hb dX5_fact_108 rfl (lv_at hl 0 rfl) ?_
                refine k_jvm hP hD hS hA [0, 2, 3] [false, true] rfl rfl rfl 0 0 (Nat.le_of_ble_eq_true rfl) (Nat.le_of_ble_eq_true rfl) (fun hPc hDc => k_runV (As := [.int r46]) (rest := []) C0 hZ hS hA (s_X5_emit l dC dI cy sq a_this a_this_text x_this_length v71 v72 v73 x_this_allowed a_this_plan x_this_plan_cycle x_this_plan_green x_this_plan_rule x_this_plan_least x_this_plan_away x_this_plan_statements x_this_plan_kinds a_this_plan_calm a_this_plan_pace a_this_plan_trusts x_this_plan_walkers a_this_plan_kindOf a_this_plan_comesAt a_this_plan_comers a_this_plan_names a_this_plan_code f77 v76 a_this_plan_spans v74 v75 r46 (ib_w 0 1600 h81 rfl)) mV_X5_199 hPc hDc rfl rfl rfl hl rfl rfl (Nat.le_of_ble_eq_true rfl) ⟨(Nat.le_of_ble_eq_true rfl), (Nat.le_of_ble_eq_true rfl)⟩ ⟨(Nat.le_of_ble_eq_true rfl), (Nat.le_of_ble_eq_true rfl)⟩ dX5_fact_109) (fun u85 H locs hw hP hD hS => ?_)
                obtain ⟨v86, f87⟩ := u85
                try dsimp only at hP hD hw
                replace hP : va_P (dC, dI) vwCl [(wi_0_1600_0 a_this_text cy g_this_text), (wo_5_riiiiirii a_this a_this_text x_this_length v71 v72 v73 x_this_allowed a_this_plan v74 v75), (wo_4_iiiiiiirrrirrrrrir a_this_plan x_this_plan_cycle x_this_plan_green x_this_plan_rule x_this_plan_least x_this_plan_away x_this_plan_statements x_this_plan_kinds a_this_plan_calm a_this_plan_pace a_this_plan_trusts x_this_plan_walkers a_this_plan_kindOf a_this_plan_comesAt a_this_plan_comers a_this_plan_names a_this_plan_code v86 a_this_plan_spans), (wi_0_1600_0 a_this_plan_code cy f87)] H := hP
                replace hD := k_D hP hD
                obtain ⟨h88, h89⟩ := hw
                replace hq := lf_p1 hq h89
                subst hQ; exact k_vret hx hb hr hlk ((v71, v72, v73, v74, v75, v86, f87)) hS ⟨ib_w 0 1600 h78 rfl, ib_w 0 1600 h79 rfl, ib_w 0 4 h80 rfl, ib_w 0 1600 h88 rfl, fun hq9 => ib_w 0 1599 (h82 hq9) rfl, (hO.symm.trans (by exact hq))⟩ (hP.sub [1, 0, 2, 3] rfl) (hD.sub [1, 0, 2, 3] rfl rfl) (Nat.le_of_ble_eq_true rfl) (Nat.le_of_ble_eq_true rfl) dX5_fact_112
          · replace hq := lf_neg hq (lf_ne (lf_rf r17) (lf_lc 0 (0 : Int) rfl) c28)
            have h90 : ib r17 1 1 := ib_w 1 1 (ib_ne_lo 0 h22 rfl c28) rfl
            refine lv_aload_n hx hb dX5_fact_76 rfl (lv_at hl 0 rfl) ?_
            refine lv_iconst (v := 1) hx hb dX5_fact_77 rfl ?_
            refine k_jvm hP hD hS hA [2, 0, 1] [false, false, false, true] rfl rfl rfl 0 0 (Nat.le_of_ble_eq_true rfl) (Nat.le_of_ble_eq_true rfl) (fun hPc hDc => k_runV (As := [.int 1]) (rest := []) C0 hZ hS hA (s_X5_emit l dC dI cy sq a_this a_this_text x_this_length v19 v20 v21 x_this_allowed a_this_plan x_this_plan_cycle x_this_plan_green x_this_plan_rule x_this_plan_least x_this_plan_away x_this_plan_statements x_this_plan_kinds a_this_plan_calm a_this_plan_pace a_this_plan_trusts x_this_plan_walkers a_this_plan_kindOf a_this_plan_comesAt a_this_plan_comers a_this_plan_names a_this_plan_code g_this_plan_code x_this_plan_size a_this_plan_spans x_this_fault x_this_place 1 (ib_w 0 1600 hx_this_plan_size rfl)) mV_X5_199 hPc hDc rfl rfl rfl hl rfl rfl (Nat.le_of_ble_eq_true rfl) ⟨(Nat.le_of_ble_eq_true rfl), (Nat.le_of_ble_eq_true rfl)⟩ ⟨(Nat.le_of_ble_eq_true rfl), (Nat.le_of_ble_eq_true rfl)⟩ dX5_fact_78) (fun u92 H locs hw hP hD hS => ?_)
            obtain ⟨v93, f94⟩ := u92
            try dsimp only at hP hD hw
            replace hP : va_P (dC, dI) vwCl [(wi_0_1600_0 a_this_text cy g_this_text), (wo_5_riiiiirii a_this a_this_text x_this_length v19 v20 v21 x_this_allowed a_this_plan x_this_fault x_this_place), (wo_4_iiiiiiirrrirrrrrir a_this_plan x_this_plan_cycle x_this_plan_green x_this_plan_rule x_this_plan_least x_this_plan_away x_this_plan_statements x_this_plan_kinds a_this_plan_calm a_this_plan_pace a_this_plan_trusts x_this_plan_walkers a_this_plan_kindOf a_this_plan_comesAt a_this_plan_comers a_this_plan_names a_this_plan_code v93 a_this_plan_spans), (wi_0_1600_0 a_this_plan_code cy f94)] H := hP
            replace hD := k_D hP hD
            obtain ⟨h95, h96⟩ := hw
            have h96 := by have h9 := h96; try simp only [show (1 : Int32).toInt = (1 : Int) from rfl] at h9; exact h9
            replace hq := lf_p1 hq h96
            refine lv_goto (tgt := 112) hx hb dX5_fact_81 rfl ?_
            subst hQ; exact k_vret hx hb hr hlk ((v19, v20, v21, x_this_fault, x_this_place, v93, f94)) hS ⟨ib_w 0 1600 h23 rfl, ib_w 0 1600 h24 rfl, ib_w 0 4 h25 rfl, ib_w 0 1600 h95 rfl, fun hq9 => ib_w 0 1599 (h26 hq9) rfl, (hO.symm.trans (by exact hq))⟩ (hP.sub [1, 0, 2, 3] rfl) (hD.sub [1, 0, 2, 3] rfl rfl) (Nat.le_of_ble_eq_true rfl) (Nat.le_of_ble_eq_true rfl) dX5_fact_112
      · as_aux_lemma =>
          replace hq := lf_neg hq (lf_ne (lf_rf r7) (lf_lc 0 (0 : Int) rfl) c14)
          have h97 : ib r7 1 1 := ib_w 1 1 (ib_ne_lo 0 h9 rfl c14) rfl
          have h98 : ib x_this_at 0 1599 := ib_w 0 1599 (ib_two hx_this_at (h10 c14)) rfl
          have h99 : ib x_this_sort 3 3 := ib_w 3 3 (ib_two hx_this_sort (h11 c14)) rfl
          refine lv_aload_n hx hb dX5_fact_43 rfl (lv_at hl 0 rfl) ?_
          refine lv_iload_n hx hb dX5_fact_44 rfl (lv_at hl 1 rfl) ?_
          refine k_jim hP hD hS hA [2, 3] [true, true] rfl rfl rfl 0 0 (Nat.le_of_ble_eq_true rfl) (Nat.le_of_ble_eq_true rfl) (fun hPc hDc => k_runV (As := [.int 5]) (rest := []) C0 hZ hS hA (s_X5_enters_a0_5 l dC dI cy sq a_this a_this_text g_this_text x_this_length x_this_at x_this_behind x_this_sort x_this_allowed a_this_plan x_this_fault x_this_place hg_this_text (ib_w 0 1600 hx_this_length rfl) (ib_w 0 1600 hx_this_behind rfl)) mV_X5_209 hPc hDc rfl rfl rfl hl rfl rfl (Nat.le_of_ble_eq_true rfl) ⟨(Nat.le_of_ble_eq_true rfl), (Nat.le_of_ble_eq_true rfl)⟩ ⟨(Nat.le_of_ble_eq_true rfl), (Nat.le_of_ble_eq_true rfl)⟩ dX5_fact_45) (fun r100 u101 H locs hw hP hD hS => ?_)
          obtain ⟨v102, v103, v104⟩ := u101
          try dsimp only at hP hD hw
          replace hP : va_P (dC, dI) vwCl [(wo_4_iiiiiiirrrirrrrrir a_this_plan x_this_plan_cycle x_this_plan_green x_this_plan_rule x_this_plan_least x_this_plan_away x_this_plan_statements x_this_plan_kinds a_this_plan_calm a_this_plan_pace a_this_plan_trusts x_this_plan_walkers a_this_plan_kindOf a_this_plan_comesAt a_this_plan_comers a_this_plan_names a_this_plan_code x_this_plan_size a_this_plan_spans), (wi_0_1600_0 a_this_plan_code cy g_this_plan_code), (wo_5_riiiiirii a_this a_this_text x_this_length v102 v103 v104 x_this_allowed a_this_plan x_this_fault x_this_place), (wi_0_1600_0 a_this_text cy g_this_text)] H := hP
          replace hD := k_D hP hD
          obtain ⟨h105, h106, h107, h108, h109, h110⟩ := hw
          replace hq := lf_p1 hq h110
          replace hq := lf_p1 hq rfl
          replace hq := lf_p1 hq rfl
          refine lv_if_eq (tgt := 112) hx hb dX5_fact_48 rfl (fun c111 => ?_) (fun c111 => ?_)
          · skip
            have h112 := ib_eq h105 (ib_c 0 0 0 rfl) c111
            exact ib_no (ib_w 1 0 h112.1 rfl) rfl
          · as_aux_lemma =>
              skip
              refine lv_aload_n hx hb dX5_fact_51 rfl (lv_at hl 0 rfl) ?_
              refine lv_iload_n hx hb dX5_fact_52 rfl (lv_at hl 1 rfl) ?_
              refine lv_iconst (v := 1) hx hb dX5_fact_53 rfl ?_
              refine lv_iadd hx hb dX5_fact_54 ?_
              refine k_topi (y := 6) (by decide) ?_
              refine k_jvm hP hD hS hA [2, 3, 0, 1] [] rfl rfl rfl 0 0 (Nat.le_of_ble_eq_true rfl) (Nat.le_of_ble_eq_true rfl) (fun hPc hDc => k_runV (As := [.int 6]) (rest := []) C0 hZ hS hA (s_X5_test_a0_6 l dC dI cy sq a_this a_this_text g_this_text x_this_length v102 v103 v104 x_this_allowed a_this_plan x_this_plan_cycle x_this_plan_green x_this_plan_rule x_this_plan_least x_this_plan_away x_this_plan_statements x_this_plan_kinds a_this_plan_calm a_this_plan_pace a_this_plan_trusts x_this_plan_walkers a_this_plan_kindOf a_this_plan_comesAt a_this_plan_comers a_this_plan_names a_this_plan_code g_this_plan_code x_this_plan_size a_this_plan_spans x_this_fault x_this_place hg_this_text (ib_w 0 1600 hx_this_length rfl) (ib_w 0 1600 h106 rfl) (ib_w 0 1600 h107 rfl) (ib_w 0 4 h108 rfl) (ib_w 0 1600 hx_this_plan_size rfl) (fun hq9 => ib_w 0 1599 (h109 hq9) rfl)) mV_X5_90 hPc hDc rfl rfl rfl hl rfl rfl (Nat.le_of_ble_eq_true rfl) ⟨(Nat.le_of_ble_eq_true rfl), (Nat.le_of_ble_eq_true rfl)⟩ ⟨(Nat.le_of_ble_eq_true rfl), (Nat.le_of_ble_eq_true rfl)⟩ dX5_fact_55) (fun u114 H locs hw hP hD hS => ?_)
              obtain ⟨v115, v116, v117, v118, v119, v120, f121⟩ := u114
              try dsimp only at hP hD hw
              replace hP : va_P (dC, dI) vwCl [(wo_5_riiiiirii a_this a_this_text x_this_length v115 v116 v117 x_this_allowed a_this_plan v118 v119), (wi_0_1600_0 a_this_text cy g_this_text), (wo_4_iiiiiiirrrirrrrrir a_this_plan x_this_plan_cycle x_this_plan_green x_this_plan_rule x_this_plan_least x_this_plan_away x_this_plan_statements x_this_plan_kinds a_this_plan_calm a_this_plan_pace a_this_plan_trusts x_this_plan_walkers a_this_plan_kindOf a_this_plan_comesAt a_this_plan_comers a_this_plan_names a_this_plan_code v120 a_this_plan_spans), (wi_0_1600_0 a_this_plan_code cy f121)] H := hP
              replace hD := k_D hP hD
              obtain ⟨h122, h123, h124, h125, h126, h127⟩ := hw
              replace hq := lf_p1 hq h127
              replace hq := lf_p1 hq rfl
              replace hq := lf_p1 hq rfl
              replace hq := lf_p1 hq rfl
              replace hq := lf_p1 hq rfl
              replace hq := lf_p1 hq rfl
              refine lv_aload_n hx hb dX5_fact_58 rfl (lv_at hl 0 rfl) ?_
              refine lv_bipush (v := 93) hx hb dX5_fact_59 rfl ?_
              refine k_jvm hP hD hS hA [0, 1] [false, false, true, true] rfl rfl rfl 0 0 (Nat.le_of_ble_eq_true rfl) (Nat.le_of_ble_eq_true rfl) (fun hPc hDc => k_runV (As := [.int 93]) (rest := []) C0 hZ hS hA (s_X5_need l dC dI cy sq a_this a_this_text g_this_text x_this_length v115 v116 v117 x_this_allowed a_this_plan v118 v119 93 hg_this_text (ib_w 0 1600 hx_this_length rfl) (ib_w 0 1600 h122 rfl) (ib_w 0 1600 h123 rfl) (ib_w 0 4 h124 rfl) (fun hq9 => ib_w 0 1599 (h126 hq9) rfl)) mV_X5_48 hPc hDc rfl rfl rfl hl rfl rfl (Nat.le_of_ble_eq_true rfl) ⟨(Nat.le_of_ble_eq_true rfl), (Nat.le_of_ble_eq_true rfl)⟩ ⟨(Nat.le_of_ble_eq_true rfl), (Nat.le_of_ble_eq_true rfl)⟩ dX5_fact_61) (fun u129 H locs hw hP hD hS => ?_)
              obtain ⟨v130, v131, v132, v133, v134⟩ := u129
              try dsimp only at hP hD hw
              replace hP : va_P (dC, dI) vwCl [(wo_4_iiiiiiirrrirrrrrir a_this_plan x_this_plan_cycle x_this_plan_green x_this_plan_rule x_this_plan_least x_this_plan_away x_this_plan_statements x_this_plan_kinds a_this_plan_calm a_this_plan_pace a_this_plan_trusts x_this_plan_walkers a_this_plan_kindOf a_this_plan_comesAt a_this_plan_comers a_this_plan_names a_this_plan_code v120 a_this_plan_spans), (wi_0_1600_0 a_this_plan_code cy f121), (wo_5_riiiiirii a_this a_this_text x_this_length v130 v131 v132 x_this_allowed a_this_plan v133 v134), (wi_0_1600_0 a_this_text cy g_this_text)] H := hP
              replace hD := k_D hP hD
              obtain ⟨h135, h136, h137, h138, h139⟩ := hw
              have h139 := by have h9 := h139; try simp only [show (93 : Int32).toInt = (93 : Int) from rfl] at h9; exact h9
              replace hq := lf_p1 hq h139
              replace hq := lf_p1 hq rfl
              replace hq := lf_p1 hq rfl
              replace hq := lf_p1 hq rfl
              refine lv_goto (tgt := 112) hx hb dX5_fact_64 rfl ?_
              subst hQ; exact k_vret hx hb hr hlk ((v130, v131, v132, v133, v134, v120, f121)) hS ⟨ib_w 0 1600 h135 rfl, ib_w 0 1600 h136 rfl, ib_w 0 4 h137 rfl, ib_w 0 1600 h125 rfl, fun hq9 => ib_w 0 1599 (h138 hq9) rfl, (hO.symm.trans (by exact hq))⟩ (hP.sub [2, 3, 0, 1] rfl) (hD.sub [2, 3, 0, 1] rfl rfl) (Nat.le_of_ble_eq_true rfl) (Nat.le_of_ble_eq_true rfl) dX5_fact_112
  · as_aux_lemma =>
      replace hq := lf_neg hq (lf_ne (lf_rf r1) (lf_lc (-1) (-1 : Int) rfl) c4)
      refine lv_aload_n hx hb dX5_fact_10 rfl (lv_at hl 0 rfl) ?_
      refine lv_iload_n hx hb dX5_fact_11 rfl (lv_at hl 1 rfl) ?_
      refine k_jim hP hD hS hA [2, 3] [true, true] rfl rfl rfl 0 0 (Nat.le_of_ble_eq_true rfl) (Nat.le_of_ble_eq_true rfl) (fun hPc hDc => k_runV (As := [.int 5]) (rest := []) C0 hZ hS hA (s_X5_enters_a0_5 l dC dI cy sq a_this a_this_text g_this_text x_this_length x_this_at x_this_behind x_this_sort x_this_allowed a_this_plan x_this_fault x_this_place hg_this_text (ib_w 0 1600 hx_this_length rfl) (ib_w 0 1600 hx_this_behind rfl)) mV_X5_209 hPc hDc rfl rfl rfl hl rfl rfl (Nat.le_of_ble_eq_true rfl) ⟨(Nat.le_of_ble_eq_true rfl), (Nat.le_of_ble_eq_true rfl)⟩ ⟨(Nat.le_of_ble_eq_true rfl), (Nat.le_of_ble_eq_true rfl)⟩ dX5_fact_12) (fun r140 u141 H locs hw hP hD hS => ?_)
      obtain ⟨v142, v143, v144⟩ := u141
      try dsimp only at hP hD hw
      replace hP : va_P (dC, dI) vwCl [(wo_4_iiiiiiirrrirrrrrir a_this_plan x_this_plan_cycle x_this_plan_green x_this_plan_rule x_this_plan_least x_this_plan_away x_this_plan_statements x_this_plan_kinds a_this_plan_calm a_this_plan_pace a_this_plan_trusts x_this_plan_walkers a_this_plan_kindOf a_this_plan_comesAt a_this_plan_comers a_this_plan_names a_this_plan_code x_this_plan_size a_this_plan_spans), (wi_0_1600_0 a_this_plan_code cy g_this_plan_code), (wo_5_riiiiirii a_this a_this_text x_this_length v142 v143 v144 x_this_allowed a_this_plan x_this_fault x_this_place), (wi_0_1600_0 a_this_text cy g_this_text)] H := hP
      replace hD := k_D hP hD
      obtain ⟨h145, h146, h147, h148, h149, h150⟩ := hw
      replace hq := lf_p1 hq h150
      replace hq := lf_p1 hq rfl
      replace hq := lf_p1 hq rfl
      refine lv_if_eq (tgt := 112) hx hb dX5_fact_15 rfl (fun c151 => ?_) (fun c151 => ?_)
      · skip
        have h152 := ib_eq h145 (ib_c 0 0 0 rfl) c151
        exact ib_no (ib_w 1 0 h152.1 rfl) rfl
      · as_aux_lemma =>
          skip
          refine lv_aload_n hx hb dX5_fact_18 rfl (lv_at hl 0 rfl) ?_
          refine lv_iload_n hx hb dX5_fact_19 rfl (lv_at hl 1 rfl) ?_
          refine lv_iconst (v := 1) hx hb dX5_fact_20 rfl ?_
          refine lv_iadd hx hb dX5_fact_21 ?_
          refine k_topi (y := 6) (by decide) ?_
          refine k_jvm hP hD hS hA [2, 3, 0, 1] [] rfl rfl rfl 0 0 (Nat.le_of_ble_eq_true rfl) (Nat.le_of_ble_eq_true rfl) (fun hPc hDc => k_runV (As := [.int 6]) (rest := []) C0 hZ hS hA (s_X5_fact_a0_6 l dC dI cy sq a_this a_this_text g_this_text x_this_length v142 v143 v144 x_this_allowed a_this_plan x_this_plan_cycle x_this_plan_green x_this_plan_rule x_this_plan_least x_this_plan_away x_this_plan_statements x_this_plan_kinds a_this_plan_calm a_this_plan_pace a_this_plan_trusts x_this_plan_walkers a_this_plan_kindOf a_this_plan_comesAt a_this_plan_comers a_this_plan_names a_this_plan_code g_this_plan_code x_this_plan_size a_this_plan_spans x_this_fault x_this_place hg_this_text (ib_w 0 1600 hx_this_length rfl) (ib_w 0 1600 h146 rfl) (ib_w 0 1600 h147 rfl) (ib_w 0 4 h148 rfl) (ib_w 0 1600 hx_this_plan_size rfl) (fun hq9 => ib_w 0 1599 (h149 hq9) rfl)) mV_X5_202 hPc hDc rfl rfl rfl hl rfl rfl (Nat.le_of_ble_eq_true rfl) ⟨(Nat.le_of_ble_eq_true rfl), (Nat.le_of_ble_eq_true rfl)⟩ ⟨(Nat.le_of_ble_eq_true rfl), (Nat.le_of_ble_eq_true rfl)⟩ dX5_fact_22) (fun u154 H locs hw hP hD hS => ?_)
          obtain ⟨v155, v156, v157, v158, v159, v160, f161⟩ := u154
          try dsimp only at hP hD hw
          replace hP : va_P (dC, dI) vwCl [(wo_5_riiiiirii a_this a_this_text x_this_length v155 v156 v157 x_this_allowed a_this_plan v158 v159), (wi_0_1600_0 a_this_text cy g_this_text), (wo_4_iiiiiiirrrirrrrrir a_this_plan x_this_plan_cycle x_this_plan_green x_this_plan_rule x_this_plan_least x_this_plan_away x_this_plan_statements x_this_plan_kinds a_this_plan_calm a_this_plan_pace a_this_plan_trusts x_this_plan_walkers a_this_plan_kindOf a_this_plan_comesAt a_this_plan_comers a_this_plan_names a_this_plan_code v160 a_this_plan_spans), (wi_0_1600_0 a_this_plan_code cy f161)] H := hP
          replace hD := k_D hP hD
          obtain ⟨h162, h163, h164, h165, h166, h167⟩ := hw
          replace hq := lf_p1 hq h167
          replace hq := lf_p1 hq rfl
          replace hq := lf_p1 hq rfl
          replace hq := lf_p1 hq rfl
          replace hq := lf_p1 hq rfl
          replace hq := lf_p1 hq rfl
          refine lv_aload_n hx hb dX5_fact_25 rfl (lv_at hl 0 rfl) ?_
          refine lv_bipush (v := (-31)) hx hb dX5_fact_26 rfl ?_
          refine k_jvm hP hD hS hA [0, 2, 3] [false, true] rfl rfl rfl 0 0 (Nat.le_of_ble_eq_true rfl) (Nat.le_of_ble_eq_true rfl) (fun hPc hDc => k_runV (As := [.int (-31)]) (rest := []) C0 hZ hS hA (s_X5_emit l dC dI cy sq a_this a_this_text x_this_length v155 v156 v157 x_this_allowed a_this_plan x_this_plan_cycle x_this_plan_green x_this_plan_rule x_this_plan_least x_this_plan_away x_this_plan_statements x_this_plan_kinds a_this_plan_calm a_this_plan_pace a_this_plan_trusts x_this_plan_walkers a_this_plan_kindOf a_this_plan_comesAt a_this_plan_comers a_this_plan_names a_this_plan_code f161 v160 a_this_plan_spans v158 v159 (-31) (ib_w 0 1600 h165 rfl)) mV_X5_199 hPc hDc rfl rfl rfl hl rfl rfl (Nat.le_of_ble_eq_true rfl) ⟨(Nat.le_of_ble_eq_true rfl), (Nat.le_of_ble_eq_true rfl)⟩ ⟨(Nat.le_of_ble_eq_true rfl), (Nat.le_of_ble_eq_true rfl)⟩ dX5_fact_28) (fun u169 H locs hw hP hD hS => ?_)
          obtain ⟨v170, f171⟩ := u169
          try dsimp only at hP hD hw
          replace hP : va_P (dC, dI) vwCl [(wi_0_1600_0 a_this_text cy g_this_text), (wo_5_riiiiirii a_this a_this_text x_this_length v155 v156 v157 x_this_allowed a_this_plan v158 v159), (wo_4_iiiiiiirrrirrrrrir a_this_plan x_this_plan_cycle x_this_plan_green x_this_plan_rule x_this_plan_least x_this_plan_away x_this_plan_statements x_this_plan_kinds a_this_plan_calm a_this_plan_pace a_this_plan_trusts x_this_plan_walkers a_this_plan_kindOf a_this_plan_comesAt a_this_plan_comers a_this_plan_names a_this_plan_code v170 a_this_plan_spans), (wi_0_1600_0 a_this_plan_code cy f171)] H := hP
          replace hD := k_D hP hD
          obtain ⟨h172, h173⟩ := hw
          have h173 := by have h9 := h173; try simp only [show ((-31) : Int32).toInt = (-31 : Int) from rfl] at h9; exact h9
          replace hq := lf_p1 hq h173
          refine lv_goto (tgt := 112) hx hb dX5_fact_31 rfl ?_
          subst hQ; exact k_vret hx hb hr hlk ((v155, v156, v157, v158, v159, v170, f171)) hS ⟨ib_w 0 1600 h162 rfl, ib_w 0 1600 h163 rfl, ib_w 0 4 h164 rfl, ib_w 0 1600 h172 rfl, fun hq9 => ib_w 0 1599 (h166 hq9) rfl, (hO.symm.trans (by exact hq))⟩ (hP.sub [1, 0, 2, 3] rfl) (hD.sub [1, 0, 2, 3] rfl rfl) (Nat.le_of_ble_eq_true rfl) (Nat.le_of_ble_eq_true rfl) dX5_fact_112
set_option maxHeartbeats 4000000 in
set_option maxRecDepth 100000 in
theorem s_X5_both_a0_5 (l : Launch) (dC : Nat → ClassId) (dI : Nat → Nat → Nat) (cy : Nat → ClassId) (sq : Nat → Nat) (a_this : Nat) (a_this_text : Nat) (g_this_text : Nat → Int32) (x_this_length : Int32) (x_this_at : Int32) (x_this_behind : Int32) (x_this_sort : Int32) (x_this_allowed : Int32) (a_this_plan : Nat) (x_this_plan_cycle : Int32) (x_this_plan_green : Int32) (x_this_plan_rule : Int32) (x_this_plan_least : Int32) (x_this_plan_away : Int32) (x_this_plan_statements : Int32) (x_this_plan_kinds : Int32) (a_this_plan_calm : Nat) (a_this_plan_pace : Nat) (a_this_plan_trusts : Nat) (x_this_plan_walkers : Int32) (a_this_plan_kindOf : Nat) (a_this_plan_comesAt : Nat) (a_this_plan_comers : Nat) (a_this_plan_names : Nat) (a_this_plan_code : Nat) (g_this_plan_code : Nat → Int32) (x_this_plan_size : Int32) (a_this_plan_spans : Nat) (x_this_fault : Int32) (x_this_place : Int32) (hg_this_text : ia g_this_text 1600 0 255) (hx_this_length : ib x_this_length 0 1600) (hx_this_at : ib x_this_at 0 1600) (hx_this_behind : ib x_this_behind 0 1600) (hx_this_sort : ib x_this_sort 0 4) (hx_this_plan_size : ib x_this_plan_size 0 1600) (hc0_this : ¬ x_this_sort = 0 → ib x_this_at 0 1599) : k_Met l yX5_both cX5_both 3 none { frames := 14, cells := 0, slots := 0, locals := 366 } dC dI cy sq [.ref a_this, .int 5] [(wo_5_riiiiirii a_this a_this_text x_this_length x_this_at x_this_behind x_this_sort x_this_allowed a_this_plan x_this_fault x_this_place), (wi_0_1600_0 a_this_text cy g_this_text), (wo_4_iiiiiiirrrirrrrrir a_this_plan x_this_plan_cycle x_this_plan_green x_this_plan_rule x_this_plan_least x_this_plan_away x_this_plan_statements x_this_plan_kinds a_this_plan_calm a_this_plan_pace a_this_plan_trusts x_this_plan_walkers a_this_plan_kindOf a_this_plan_comesAt a_this_plan_comers a_this_plan_names a_this_plan_code x_this_plan_size a_this_plan_spans), (wi_0_1600_0 a_this_plan_code cy g_this_plan_code)] (k_Qv dC dI (fun (u : Int32 × Int32 × Int32 × Int32 × Int32 × Int32 × (Nat → Int32)) => match u with | (n0, n1, n2, n3, n4, n5, n6) => ib n0 0 1600 ∧ ib n1 0 1600 ∧ ib n2 0 4 ∧ ib n5 0 1600 ∧ (¬ n2 = 0 → ib n0 0 1599) ∧ (F_X5_both_a0_5 (lf_A g_this_text) (Int32.toInt x_this_length) (Int32.toInt x_this_at) (Int32.toInt x_this_behind) (Int32.toInt x_this_sort) (Int32.toInt x_this_allowed) (lf_A g_this_plan_code) (Int32.toInt x_this_plan_size) (Int32.toInt x_this_fault) (Int32.toInt x_this_place) = ((Int32.toInt n0), (Int32.toInt n1), (Int32.toInt n2), (Int32.toInt n3), (Int32.toInt n4), (Int32.toInt n5), (lf_A n6)))) (fun u : Int32 × Int32 × Int32 × Int32 × Int32 × Int32 × (Nat → Int32) => match u with | (n0, n1, n2, n3, n4, n5, n6) => [(wo_5_riiiiirii a_this a_this_text x_this_length n0 n1 n2 x_this_allowed a_this_plan n3 n4), (wi_0_1600_0 a_this_text cy g_this_text), (wo_4_iiiiiiirrrirrrrrir a_this_plan x_this_plan_cycle x_this_plan_green x_this_plan_rule x_this_plan_least x_this_plan_away x_this_plan_statements x_this_plan_kinds a_this_plan_calm a_this_plan_pace a_this_plan_trusts x_this_plan_walkers a_this_plan_kindOf a_this_plan_comesAt a_this_plan_comers a_this_plan_names a_this_plan_code n5 a_this_plan_spans), (wi_0_1600_0 a_this_plan_code cy n6)])) := by
  refine k_ofW2 (by decide +kernel) (Nat.le_of_ble_eq_true rfl) ?_
  intro p e s m below meth c A ls H locs args Q hQ C0 hZ hr hlk hin hP hD hA hS hl
  have C0 : k_cx p s m args c cX5_both 3 RX5 dC dI cy sq := C0
  have hx := C0.1
  have hb := C0.2.1
  have hl : lv_has ls 3 [(0, .ref a_this), (1, .int 5)] := hl
  obtain ⟨O, hO⟩ : ∃ o, o = F_X5_both_a0_5 (lf_A g_this_text) (Int32.toInt x_this_length) (Int32.toInt x_this_at) (Int32.toInt x_this_behind) (Int32.toInt x_this_sort) (Int32.toInt x_this_allowed) (lf_A g_this_plan_code) (Int32.toInt x_this_plan_size) (Int32.toInt x_this_fault) (Int32.toInt x_this_place) := ⟨_, rfl⟩
  have hq := hO
  unfold F_X5_both_a0_5 at hq
  have jn7 : ∀ (n : Nat) (J7_c0_2 : Int32) (J7_c0_3 : Int32) (J7_c0_4 : Int32) (J7_c0_7 : Int32) (J7_c0_8 : Int32) (J7_c2_16 : Int32) (J7_a3 : Nat → Int32) (J7_l2 : Int32) (H : Heap) (locs : List Loc) (ls : Array Slot), ib J7_c0_2 0 1600 → ib J7_c0_3 0 1600 → ib J7_c0_4 0 4 → ib J7_c2_16 0 1600 → ib J7_l2 0 1600 → (¬ J7_c0_4 = 0 → ib J7_c0_2 0 1599) → (O = F_X5_both_a0_5_7 (lf_A g_this_text) (Int32.toInt x_this_length) (Int32.toInt x_this_allowed) n (Int32.toInt J7_c0_2) (Int32.toInt J7_c0_3) (Int32.toInt J7_c0_4) (Int32.toInt J7_c0_7) (Int32.toInt J7_c0_8) (Int32.toInt J7_c2_16) (lf_A J7_a3) (Int32.toInt J7_l2)) → 1601 ≤ J7_l2.toInt + (n : Int) → va_P (dC, dI) vwCl [(wo_5_riiiiirii a_this a_this_text x_this_length J7_c0_2 J7_c0_3 J7_c0_4 x_this_allowed a_this_plan J7_c0_7 J7_c0_8), (wi_0_1600_0 a_this_text cy g_this_text), (wo_4_iiiiiiirrrirrrrrir a_this_plan x_this_plan_cycle x_this_plan_green x_this_plan_rule x_this_plan_least x_this_plan_away x_this_plan_statements x_this_plan_kinds a_this_plan_calm a_this_plan_pace a_this_plan_trusts x_this_plan_walkers a_this_plan_kindOf a_this_plan_comesAt a_this_plan_comers a_this_plan_names a_this_plan_code J7_c2_16 a_this_plan_spans), (wi_0_1600_0 a_this_plan_code cy J7_a3)] H → va_D A [(wo_5_riiiiirii a_this a_this_text x_this_length J7_c0_2 J7_c0_3 J7_c0_4 x_this_allowed a_this_plan J7_c0_7 J7_c0_8), (wi_0_1600_0 a_this_text cy g_this_text), (wo_4_iiiiiiirrrirrrrrir a_this_plan x_this_plan_cycle x_this_plan_green x_this_plan_rule x_this_plan_least x_this_plan_away x_this_plan_statements x_this_plan_kinds a_this_plan_calm a_this_plan_pace a_this_plan_trusts x_this_plan_walkers a_this_plan_kindOf a_this_plan_comesAt a_this_plan_comers a_this_plan_names a_this_plan_code J7_c2_16 a_this_plan_spans), (wi_0_1600_0 a_this_plan_code cy J7_a3)] → va_S A s.heap H locs → lv_has ls 3 [(0, .ref a_this), (1, .int 5), (2, .int J7_l2)] → W p l e { frames := 14, cells := 0, slots := 0, locals := 366 } s m args below meth c H locs 0 0 Q (F0 m 7 ls []) := by
    as_aux_lemma =>
      intro n
      induction n with
      | zero =>
        intro J7_c0_2 J7_c0_3 J7_c0_4 J7_c0_7 J7_c0_8 J7_c2_16 J7_a3 J7_l2 H locs ls hJ7_c0_2 hJ7_c0_3 hJ7_c0_4 hJ7_c2_16 hJ7_l2 hJ7_ic0_0 hq hm
        exact absurd hm (by have := hJ7_l2; unfold ib at this; omega)
      | succ n ih =>
        intro J7_c0_2 J7_c0_3 J7_c0_4 J7_c0_7 J7_c0_8 J7_c2_16 J7_a3 J7_l2 H locs ls hJ7_c0_2 hJ7_c0_3 hJ7_c0_4 hJ7_c2_16 hJ7_l2 hJ7_ic0_0 hq hm7 hP hD hS hl
        have ih7 := ih
        obtain ⟨K7, hK7⟩ : ∃ K, K = F_X5_both_a0_5_7 (lf_A g_this_text) (Int32.toInt x_this_length) (Int32.toInt x_this_allowed) n := ⟨_, rfl⟩
        have hq : O = F_X5_both_a0_5_7b (lf_A g_this_text) (Int32.toInt x_this_length) (Int32.toInt x_this_allowed) K7 (Int32.toInt J7_c0_2) (Int32.toInt J7_c0_3) (Int32.toInt J7_c0_4) (Int32.toInt J7_c0_7) (Int32.toInt J7_c0_8) (Int32.toInt J7_c2_16) (lf_A J7_a3) (Int32.toInt J7_l2) := by rw [hK7]; exact hq
        unfold F_X5_both_a0_5_7b at hq
        refine lv_iload_n hx hb dX5_both_7 rfl (lv_at hl 2 rfl) ?_
        refine lv_sipush (v := 1600) hx hb dX5_both_8 rfl ?_
        refine lv_icmp_ge (tgt := 40) hx hb dX5_both_11 rfl (fun c1 => ?_) (fun c1 => ?_)
        · replace hq := lf_pos hq (lf_le (lf_lc 1600 (1600 : Int) rfl) (lf_rf J7_l2) c1)
          have h2 := ib_le (ib_c 1600 1600 1600 rfl) hJ7_l2 c1
          have h3 : ib J7_l2 1600 1600 := ib_w 1600 1600 h2.2 rfl
          subst hQ; exact k_vret hx hb hr hlk ((J7_c0_2, J7_c0_3, J7_c0_4, J7_c0_7, J7_c0_8, J7_c2_16, J7_a3)) hS ⟨ib_w 0 1600 hJ7_c0_2 rfl, ib_w 0 1600 hJ7_c0_3 rfl, ib_w 0 4 hJ7_c0_4 rfl, ib_w 0 1600 hJ7_c2_16 rfl, fun hq9 => ib_w 0 1599 (hJ7_ic0_0 hq9) rfl, (hO.symm.trans (by exact hq))⟩ hP hD (Nat.le_of_ble_eq_true rfl) (Nat.le_of_ble_eq_true rfl) dX5_both_40
        · as_aux_lemma =>
            replace hq := lf_neg hq (lf_nle (lf_lc 1600 (1600 : Int) rfl) (lf_rf J7_l2) c1)
            have h4 := ib_nle (ib_c 1600 1600 1600 rfl) hJ7_l2 c1
            have h5 : ib J7_l2 0 1599 := ib_w 0 1599 h4.2 rfl
            refine lv_aload_n hx hb dX5_both_14 rfl (lv_at hl 0 rfl) ?_
            refine va_ldcS hx hb C0.2.2.2.1 (C0.2.2.2.2.2.2.2.2.2.2.2.2 14 (by decide)) dX5_both_15 ?_
            refine k_jim hP hD hS hA [0, 1] [false, false, true, true] rfl rfl rfl 0 0 (Nat.le_of_ble_eq_true rfl) (Nat.le_of_ble_eq_true rfl) (fun hPc hDc => k_runV (As := [.ref (sq 14)]) (rest := []) C0 hZ hS hA (s_X5_takeWord_s14 l dC dI cy sq a_this a_this_text g_this_text x_this_length J7_c0_2 J7_c0_3 J7_c0_4 x_this_allowed a_this_plan J7_c0_7 J7_c0_8 hg_this_text (ib_w 0 1600 hx_this_length rfl) (ib_w 0 1600 hJ7_c0_2 rfl) (ib_w 0 1600 hJ7_c0_3 rfl) (ib_w 0 4 hJ7_c0_4 rfl) (fun hq9 => ib_w 0 1599 (hJ7_ic0_0 hq9) rfl)) mV_X5_195 hPc hDc rfl rfl rfl hl rfl rfl (Nat.le_of_ble_eq_true rfl) ⟨(Nat.le_of_ble_eq_true rfl), (Nat.le_of_ble_eq_true rfl)⟩ ⟨(Nat.le_of_ble_eq_true rfl), (Nat.le_of_ble_eq_true rfl)⟩ dX5_both_17) (fun r6 u7 H locs hw hP hD hS => ?_)
            obtain ⟨v8, v9, v10⟩ := u7
            try dsimp only at hP hD hw
            replace hP : va_P (dC, dI) vwCl [(wo_4_iiiiiiirrrirrrrrir a_this_plan x_this_plan_cycle x_this_plan_green x_this_plan_rule x_this_plan_least x_this_plan_away x_this_plan_statements x_this_plan_kinds a_this_plan_calm a_this_plan_pace a_this_plan_trusts x_this_plan_walkers a_this_plan_kindOf a_this_plan_comesAt a_this_plan_comers a_this_plan_names a_this_plan_code J7_c2_16 a_this_plan_spans), (wi_0_1600_0 a_this_plan_code cy J7_a3), (wo_5_riiiiirii a_this a_this_text x_this_length v8 v9 v10 x_this_allowed a_this_plan J7_c0_7 J7_c0_8), (wi_0_1600_0 a_this_text cy g_this_text)] H := hP
            replace hD := k_D hP hD
            obtain ⟨h11, h12, h13, h14, h15, h16⟩ := hw
            replace hq := lf_p1 hq h16
            replace hq := lf_p1 hq rfl
            replace hq := lf_p1 hq rfl
            refine lv_if_eq (tgt := 40) hx hb dX5_both_20 rfl (fun c17 => ?_) (fun c17 => ?_)
            · replace hq := lf_pos hq (lf_eq (lf_rf r6) (lf_lc 0 (0 : Int) rfl) c17)
              have h18 := ib_eq h11 (ib_c 0 0 0 rfl) c17
              have h19 : ib r6 0 0 := ib_w 0 0 h18.1 rfl
              subst hQ; exact k_vret hx hb hr hlk ((v8, v9, v10, J7_c0_7, J7_c0_8, J7_c2_16, J7_a3)) hS ⟨ib_w 0 1600 h12 rfl, ib_w 0 1600 h13 rfl, ib_w 0 4 h14 rfl, ib_w 0 1600 hJ7_c2_16 rfl, fun hq9 => ib_w 0 1599 (h15 hq9) rfl, (hO.symm.trans (by exact hq))⟩ (hP.sub [2, 3, 0, 1] rfl) (hD.sub [2, 3, 0, 1] rfl rfl) (Nat.le_of_ble_eq_true rfl) (Nat.le_of_ble_eq_true rfl) dX5_both_40
            · as_aux_lemma =>
                replace hq := lf_neg hq (lf_ne (lf_rf r6) (lf_lc 0 (0 : Int) rfl) c17)
                have h20 : ib r6 1 1 := ib_w 1 1 (ib_ne_lo 0 h11 rfl c17) rfl
                refine lv_aload_n hx hb dX5_both_23 rfl (lv_at hl 0 rfl) ?_
                refine lv_iload_n hx hb dX5_both_24 rfl (lv_at hl 1 rfl) ?_
                refine k_jvm hP hD hS hA [2, 3, 0, 1] [] rfl rfl rfl 0 0 (Nat.le_of_ble_eq_true rfl) (Nat.le_of_ble_eq_true rfl) (fun hPc hDc => k_runV (As := [.int 5]) (rest := []) C0 hZ hS hA (s_X5_fact_a0_5 l dC dI cy sq a_this a_this_text g_this_text x_this_length v8 v9 v10 x_this_allowed a_this_plan x_this_plan_cycle x_this_plan_green x_this_plan_rule x_this_plan_least x_this_plan_away x_this_plan_statements x_this_plan_kinds a_this_plan_calm a_this_plan_pace a_this_plan_trusts x_this_plan_walkers a_this_plan_kindOf a_this_plan_comesAt a_this_plan_comers a_this_plan_names a_this_plan_code J7_a3 J7_c2_16 a_this_plan_spans J7_c0_7 J7_c0_8 hg_this_text (ib_w 0 1600 hx_this_length rfl) (ib_w 0 1600 h12 rfl) (ib_w 0 1600 h13 rfl) (ib_w 0 4 h14 rfl) (ib_w 0 1600 hJ7_c2_16 rfl) (fun hq9 => ib_w 0 1599 (h15 hq9) rfl)) mV_X5_202 hPc hDc rfl rfl rfl hl rfl rfl (Nat.le_of_ble_eq_true rfl) ⟨(Nat.le_of_ble_eq_true rfl), (Nat.le_of_ble_eq_true rfl)⟩ ⟨(Nat.le_of_ble_eq_true rfl), (Nat.le_of_ble_eq_true rfl)⟩ dX5_both_25) (fun u22 H locs hw hP hD hS => ?_)
                obtain ⟨v23, v24, v25, v26, v27, v28, f29⟩ := u22
                try dsimp only at hP hD hw
                replace hP : va_P (dC, dI) vwCl [(wo_5_riiiiirii a_this a_this_text x_this_length v23 v24 v25 x_this_allowed a_this_plan v26 v27), (wi_0_1600_0 a_this_text cy g_this_text), (wo_4_iiiiiiirrrirrrrrir a_this_plan x_this_plan_cycle x_this_plan_green x_this_plan_rule x_this_plan_least x_this_plan_away x_this_plan_statements x_this_plan_kinds a_this_plan_calm a_this_plan_pace a_this_plan_trusts x_this_plan_walkers a_this_plan_kindOf a_this_plan_comesAt a_this_plan_comers a_this_plan_names a_this_plan_code v28 a_this_plan_spans), (wi_0_1600_0 a_this_plan_code cy f29)] H := hP
                replace hD := k_D hP hD
                obtain ⟨h30, h31, h32, h33, h34, h35⟩ := hw
                replace hq := lf_p1 hq h35
                replace hq := lf_p1 hq rfl
                replace hq := lf_p1 hq rfl
                replace hq := lf_p1 hq rfl
                replace hq := lf_p1 hq rfl
                replace hq := lf_p1 hq rfl
                refine lv_aload_n hx hb dX5_both_28 rfl (lv_at hl 0 rfl) ?_
                refine lv_bipush (v := (-29)) hx hb dX5_both_29 rfl ?_
                refine k_jvm hP hD hS hA [0, 2, 3] [false, true] rfl rfl rfl 0 0 (Nat.le_of_ble_eq_true rfl) (Nat.le_of_ble_eq_true rfl) (fun hPc hDc => k_runV (As := [.int (-29)]) (rest := []) C0 hZ hS hA (s_X5_emit l dC dI cy sq a_this a_this_text x_this_length v23 v24 v25 x_this_allowed a_this_plan x_this_plan_cycle x_this_plan_green x_this_plan_rule x_this_plan_least x_this_plan_away x_this_plan_statements x_this_plan_kinds a_this_plan_calm a_this_plan_pace a_this_plan_trusts x_this_plan_walkers a_this_plan_kindOf a_this_plan_comesAt a_this_plan_comers a_this_plan_names a_this_plan_code f29 v28 a_this_plan_spans v26 v27 (-29) (ib_w 0 1600 h33 rfl)) mV_X5_199 hPc hDc rfl rfl rfl hl rfl rfl (Nat.le_of_ble_eq_true rfl) ⟨(Nat.le_of_ble_eq_true rfl), (Nat.le_of_ble_eq_true rfl)⟩ ⟨(Nat.le_of_ble_eq_true rfl), (Nat.le_of_ble_eq_true rfl)⟩ dX5_both_31) (fun u37 H locs hw hP hD hS => ?_)
                obtain ⟨v38, f39⟩ := u37
                try dsimp only at hP hD hw
                replace hP : va_P (dC, dI) vwCl [(wi_0_1600_0 a_this_text cy g_this_text), (wo_5_riiiiirii a_this a_this_text x_this_length v23 v24 v25 x_this_allowed a_this_plan v26 v27), (wo_4_iiiiiiirrrirrrrrir a_this_plan x_this_plan_cycle x_this_plan_green x_this_plan_rule x_this_plan_least x_this_plan_away x_this_plan_statements x_this_plan_kinds a_this_plan_calm a_this_plan_pace a_this_plan_trusts x_this_plan_walkers a_this_plan_kindOf a_this_plan_comesAt a_this_plan_comers a_this_plan_names a_this_plan_code v38 a_this_plan_spans), (wi_0_1600_0 a_this_plan_code cy f39)] H := hP
                replace hD := k_D hP hD
                obtain ⟨h40, h41⟩ := hw
                have h41 := by have h9 := h41; try simp only [show ((-29) : Int32).toInt = (-29 : Int) from rfl] at h9; exact h9
                replace hq := lf_p1 hq h41
                obtain ⟨z42, ez42⟩ : ∃ y : Int32, y = J7_l2 + 1 := ⟨_, rfl⟩
                refine lv_iinc (v := z42) (lv' := [(2, .int z42), (0, .ref a_this), (1, .int 5)]) hx hb dX5_both_34 hl (k := 2) rfl (by rw [ez42]; rfl) (Nat.le_of_ble_eq_true rfl) rfl (fun ls hl => ?_)
                have h43 := ib_add h5 (ib_c 1 1 1 rfl) rfl
                rw [← ez42] at h43
                have h44 : ib z42 1 1600 := ib_w 1 1600 h43.1 rfl
                have Ez42 := lf_add h43.2 (lf_rf J7_l2) (lf_lc 1 (1 : Int) rfl)
                refine lv_goto (tgt := 7) hx hb dX5_both_37 rfl ?_
                exact ih7 v23 v24 v25 v26 v27 v38 f39 z42 H locs ls (ib_w 0 1600 h30 rfl) (ib_w 0 1600 h31 rfl) (ib_w 0 4 h32 rfl) (ib_w 0 1600 h40 rfl) (ib_w 0 1600 h44 rfl) (fun hq9 => ib_w 0 1599 (h34 hq9) rfl) (by rw [← hK7]; rw [lf_u Ez42]; exact hq) (by have := h43.2; have : (1 : Int32).toInt = 1 := rfl; omega) (hP.sub [1, 0, 2, 3] rfl) (hD.sub [1, 0, 2, 3] rfl rfl) hS (lv_sub hl [1, 2, 0] rfl)
  refine lv_aload_n hx hb dX5_both_0 rfl (lv_at hl 0 rfl) ?_
  refine lv_iload_n hx hb dX5_both_1 rfl (lv_at hl 1 rfl) ?_
  refine k_jvm hP hD hS hA [0, 1, 2, 3] [] rfl rfl rfl 0 0 (Nat.le_of_ble_eq_true rfl) (Nat.le_of_ble_eq_true rfl) (fun hPc hDc => k_runV (As := [.int 5]) (rest := []) C0 hZ hS hA (s_X5_fact_a0_5 l dC dI cy sq a_this a_this_text g_this_text x_this_length x_this_at x_this_behind x_this_sort x_this_allowed a_this_plan x_this_plan_cycle x_this_plan_green x_this_plan_rule x_this_plan_least x_this_plan_away x_this_plan_statements x_this_plan_kinds a_this_plan_calm a_this_plan_pace a_this_plan_trusts x_this_plan_walkers a_this_plan_kindOf a_this_plan_comesAt a_this_plan_comers a_this_plan_names a_this_plan_code g_this_plan_code x_this_plan_size a_this_plan_spans x_this_fault x_this_place hg_this_text (ib_w 0 1600 hx_this_length rfl) (ib_w 0 1600 hx_this_at rfl) (ib_w 0 1600 hx_this_behind rfl) (ib_w 0 4 hx_this_sort rfl) (ib_w 0 1600 hx_this_plan_size rfl) (fun hq9 => ib_w 0 1599 (hc0_this hq9) rfl)) mV_X5_202 hPc hDc rfl rfl rfl hl rfl rfl (Nat.le_of_ble_eq_true rfl) ⟨(Nat.le_of_ble_eq_true rfl), (Nat.le_of_ble_eq_true rfl)⟩ ⟨(Nat.le_of_ble_eq_true rfl), (Nat.le_of_ble_eq_true rfl)⟩ dX5_both_2) (fun u46 H locs hw hP hD hS => ?_)
  obtain ⟨v47, v48, v49, v50, v51, v52, f53⟩ := u46
  try dsimp only at hP hD hw
  replace hP : va_P (dC, dI) vwCl [(wo_5_riiiiirii a_this a_this_text x_this_length v47 v48 v49 x_this_allowed a_this_plan v50 v51), (wi_0_1600_0 a_this_text cy g_this_text), (wo_4_iiiiiiirrrirrrrrir a_this_plan x_this_plan_cycle x_this_plan_green x_this_plan_rule x_this_plan_least x_this_plan_away x_this_plan_statements x_this_plan_kinds a_this_plan_calm a_this_plan_pace a_this_plan_trusts x_this_plan_walkers a_this_plan_kindOf a_this_plan_comesAt a_this_plan_comers a_this_plan_names a_this_plan_code v52 a_this_plan_spans), (wi_0_1600_0 a_this_plan_code cy f53)] H := hP
  replace hD := k_D hP hD
  obtain ⟨h54, h55, h56, h57, h58, h59⟩ := hw
  replace hq := lf_p1 hq h59
  replace hq := lf_p1 hq rfl
  replace hq := lf_p1 hq rfl
  replace hq := lf_p1 hq rfl
  replace hq := lf_p1 hq rfl
  replace hq := lf_p1 hq rfl
  refine lv_iconst (v := 0) hx hb dX5_both_5 rfl ?_
  refine lv_istore_n (lv' := [(2, .int 0), (0, .ref a_this), (1, .int 5)]) hx hb dX5_both_6 rfl hl (Nat.le_of_ble_eq_true rfl) rfl (fun ls hl => ?_)
  exact jn7 1602 v47 v48 v49 v50 v51 v52 f53 0 H locs ls (ib_w 0 1600 h54 rfl) (ib_w 0 1600 h55 rfl) (ib_w 0 4 h56 rfl) (ib_w 0 1600 h57 rfl) (ib_w 0 1600 (ib_c 0 0 0 rfl) rfl) (fun hq9 => ib_w 0 1599 (h58 hq9) rfl) (by try simp only [show (0 : Int32).toInt = (0 : Int) from rfl]; exact hq) (by have := (ib_c 0 0 0 rfl); unfold ib at this; omega) hP hD hS (lv_sub hl [1, 2, 0] rfl)
set_option maxHeartbeats 4000000 in
set_option maxRecDepth 100000 in
theorem s_X5_test_a0_5 (l : Launch) (dC : Nat → ClassId) (dI : Nat → Nat → Nat) (cy : Nat → ClassId) (sq : Nat → Nat) (a_this : Nat) (a_this_text : Nat) (g_this_text : Nat → Int32) (x_this_length : Int32) (x_this_at : Int32) (x_this_behind : Int32) (x_this_sort : Int32) (x_this_allowed : Int32) (a_this_plan : Nat) (x_this_plan_cycle : Int32) (x_this_plan_green : Int32) (x_this_plan_rule : Int32) (x_this_plan_least : Int32) (x_this_plan_away : Int32) (x_this_plan_statements : Int32) (x_this_plan_kinds : Int32) (a_this_plan_calm : Nat) (a_this_plan_pace : Nat) (a_this_plan_trusts : Nat) (x_this_plan_walkers : Int32) (a_this_plan_kindOf : Nat) (a_this_plan_comesAt : Nat) (a_this_plan_comers : Nat) (a_this_plan_names : Nat) (a_this_plan_code : Nat) (g_this_plan_code : Nat → Int32) (x_this_plan_size : Int32) (a_this_plan_spans : Nat) (x_this_fault : Int32) (x_this_place : Int32) (hg_this_text : ia g_this_text 1600 0 255) (hx_this_length : ib x_this_length 0 1600) (hx_this_at : ib x_this_at 0 1600) (hx_this_behind : ib x_this_behind 0 1600) (hx_this_sort : ib x_this_sort 0 4) (hx_this_plan_size : ib x_this_plan_size 0 1600) (hc0_this : ¬ x_this_sort = 0 → ib x_this_at 0 1599) : k_Met l yX5_test cX5_test 3 none { frames := 15, cells := 0, slots := 0, locals := 388 } dC dI cy sq [.ref a_this, .int 5] [(wo_5_riiiiirii a_this a_this_text x_this_length x_this_at x_this_behind x_this_sort x_this_allowed a_this_plan x_this_fault x_this_place), (wi_0_1600_0 a_this_text cy g_this_text), (wo_4_iiiiiiirrrirrrrrir a_this_plan x_this_plan_cycle x_this_plan_green x_this_plan_rule x_this_plan_least x_this_plan_away x_this_plan_statements x_this_plan_kinds a_this_plan_calm a_this_plan_pace a_this_plan_trusts x_this_plan_walkers a_this_plan_kindOf a_this_plan_comesAt a_this_plan_comers a_this_plan_names a_this_plan_code x_this_plan_size a_this_plan_spans), (wi_0_1600_0 a_this_plan_code cy g_this_plan_code)] (k_Qv dC dI (fun (u : Int32 × Int32 × Int32 × Int32 × Int32 × Int32 × (Nat → Int32)) => match u with | (n0, n1, n2, n3, n4, n5, n6) => ib n0 0 1600 ∧ ib n1 0 1600 ∧ ib n2 0 4 ∧ ib n5 0 1600 ∧ (¬ n2 = 0 → ib n0 0 1599) ∧ (F_X5_test_a0_5 (lf_A g_this_text) (Int32.toInt x_this_length) (Int32.toInt x_this_at) (Int32.toInt x_this_behind) (Int32.toInt x_this_sort) (Int32.toInt x_this_allowed) (lf_A g_this_plan_code) (Int32.toInt x_this_plan_size) (Int32.toInt x_this_fault) (Int32.toInt x_this_place) = ((Int32.toInt n0), (Int32.toInt n1), (Int32.toInt n2), (Int32.toInt n3), (Int32.toInt n4), (Int32.toInt n5), (lf_A n6)))) (fun u : Int32 × Int32 × Int32 × Int32 × Int32 × Int32 × (Nat → Int32) => match u with | (n0, n1, n2, n3, n4, n5, n6) => [(wo_5_riiiiirii a_this a_this_text x_this_length n0 n1 n2 x_this_allowed a_this_plan n3 n4), (wi_0_1600_0 a_this_text cy g_this_text), (wo_4_iiiiiiirrrirrrrrir a_this_plan x_this_plan_cycle x_this_plan_green x_this_plan_rule x_this_plan_least x_this_plan_away x_this_plan_statements x_this_plan_kinds a_this_plan_calm a_this_plan_pace a_this_plan_trusts x_this_plan_walkers a_this_plan_kindOf a_this_plan_comesAt a_this_plan_comers a_this_plan_names a_this_plan_code n5 a_this_plan_spans), (wi_0_1600_0 a_this_plan_code cy n6)])) := by
  refine k_ofW2 (by decide +kernel) (Nat.le_of_ble_eq_true rfl) ?_
  intro p e s m below meth c A ls H locs args Q hQ C0 hZ hr hlk hin hP hD hA hS hl
  have C0 : k_cx p s m args c cX5_test 3 RX5 dC dI cy sq := C0
  have hx := C0.1
  have hb := C0.2.1
  have hl : lv_has ls 3 [(0, .ref a_this), (1, .int 5)] := hl
  obtain ⟨O, hO⟩ : ∃ o, o = F_X5_test_a0_5 (lf_A g_this_text) (Int32.toInt x_this_length) (Int32.toInt x_this_at) (Int32.toInt x_this_behind) (Int32.toInt x_this_sort) (Int32.toInt x_this_allowed) (lf_A g_this_plan_code) (Int32.toInt x_this_plan_size) (Int32.toInt x_this_fault) (Int32.toInt x_this_place) := ⟨_, rfl⟩
  have hq := hO
  unfold F_X5_test_a0_5 at hq
  have jn7 : ∀ (n : Nat) (J7_c0_2 : Int32) (J7_c0_3 : Int32) (J7_c0_4 : Int32) (J7_c0_7 : Int32) (J7_c0_8 : Int32) (J7_c2_16 : Int32) (J7_a3 : Nat → Int32) (J7_l2 : Int32) (H : Heap) (locs : List Loc) (ls : Array Slot), ib J7_c0_2 0 1600 → ib J7_c0_3 0 1600 → ib J7_c0_4 0 4 → ib J7_c2_16 0 1600 → ib J7_l2 0 1600 → (¬ J7_c0_4 = 0 → ib J7_c0_2 0 1599) → (O = F_X5_test_a0_5_7 (lf_A g_this_text) (Int32.toInt x_this_length) (Int32.toInt x_this_allowed) n (Int32.toInt J7_c0_2) (Int32.toInt J7_c0_3) (Int32.toInt J7_c0_4) (Int32.toInt J7_c0_7) (Int32.toInt J7_c0_8) (Int32.toInt J7_c2_16) (lf_A J7_a3) (Int32.toInt J7_l2)) → 1601 ≤ J7_l2.toInt + (n : Int) → va_P (dC, dI) vwCl [(wo_5_riiiiirii a_this a_this_text x_this_length J7_c0_2 J7_c0_3 J7_c0_4 x_this_allowed a_this_plan J7_c0_7 J7_c0_8), (wi_0_1600_0 a_this_text cy g_this_text), (wo_4_iiiiiiirrrirrrrrir a_this_plan x_this_plan_cycle x_this_plan_green x_this_plan_rule x_this_plan_least x_this_plan_away x_this_plan_statements x_this_plan_kinds a_this_plan_calm a_this_plan_pace a_this_plan_trusts x_this_plan_walkers a_this_plan_kindOf a_this_plan_comesAt a_this_plan_comers a_this_plan_names a_this_plan_code J7_c2_16 a_this_plan_spans), (wi_0_1600_0 a_this_plan_code cy J7_a3)] H → va_D A [(wo_5_riiiiirii a_this a_this_text x_this_length J7_c0_2 J7_c0_3 J7_c0_4 x_this_allowed a_this_plan J7_c0_7 J7_c0_8), (wi_0_1600_0 a_this_text cy g_this_text), (wo_4_iiiiiiirrrirrrrrir a_this_plan x_this_plan_cycle x_this_plan_green x_this_plan_rule x_this_plan_least x_this_plan_away x_this_plan_statements x_this_plan_kinds a_this_plan_calm a_this_plan_pace a_this_plan_trusts x_this_plan_walkers a_this_plan_kindOf a_this_plan_comesAt a_this_plan_comers a_this_plan_names a_this_plan_code J7_c2_16 a_this_plan_spans), (wi_0_1600_0 a_this_plan_code cy J7_a3)] → va_S A s.heap H locs → lv_has ls 3 [(0, .ref a_this), (1, .int 5), (2, .int J7_l2)] → W p l e { frames := 15, cells := 0, slots := 0, locals := 388 } s m args below meth c H locs 0 0 Q (F0 m 7 ls []) := by
    as_aux_lemma =>
      intro n
      induction n with
      | zero =>
        intro J7_c0_2 J7_c0_3 J7_c0_4 J7_c0_7 J7_c0_8 J7_c2_16 J7_a3 J7_l2 H locs ls hJ7_c0_2 hJ7_c0_3 hJ7_c0_4 hJ7_c2_16 hJ7_l2 hJ7_ic0_0 hq hm
        exact absurd hm (by have := hJ7_l2; unfold ib at this; omega)
      | succ n ih =>
        intro J7_c0_2 J7_c0_3 J7_c0_4 J7_c0_7 J7_c0_8 J7_c2_16 J7_a3 J7_l2 H locs ls hJ7_c0_2 hJ7_c0_3 hJ7_c0_4 hJ7_c2_16 hJ7_l2 hJ7_ic0_0 hq hm7 hP hD hS hl
        have ih7 := ih
        obtain ⟨K7, hK7⟩ : ∃ K, K = F_X5_test_a0_5_7 (lf_A g_this_text) (Int32.toInt x_this_length) (Int32.toInt x_this_allowed) n := ⟨_, rfl⟩
        have hq : O = F_X5_test_a0_5_7b (lf_A g_this_text) (Int32.toInt x_this_length) (Int32.toInt x_this_allowed) K7 (Int32.toInt J7_c0_2) (Int32.toInt J7_c0_3) (Int32.toInt J7_c0_4) (Int32.toInt J7_c0_7) (Int32.toInt J7_c0_8) (Int32.toInt J7_c2_16) (lf_A J7_a3) (Int32.toInt J7_l2) := by rw [hK7]; exact hq
        unfold F_X5_test_a0_5_7b at hq
        refine lv_iload_n hx hb dX5_test_7 rfl (lv_at hl 2 rfl) ?_
        refine lv_sipush (v := 1600) hx hb dX5_test_8 rfl ?_
        refine lv_icmp_ge (tgt := 40) hx hb dX5_test_11 rfl (fun c1 => ?_) (fun c1 => ?_)
        · replace hq := lf_pos hq (lf_le (lf_lc 1600 (1600 : Int) rfl) (lf_rf J7_l2) c1)
          have h2 := ib_le (ib_c 1600 1600 1600 rfl) hJ7_l2 c1
          have h3 : ib J7_l2 1600 1600 := ib_w 1600 1600 h2.2 rfl
          subst hQ; exact k_vret hx hb hr hlk ((J7_c0_2, J7_c0_3, J7_c0_4, J7_c0_7, J7_c0_8, J7_c2_16, J7_a3)) hS ⟨ib_w 0 1600 hJ7_c0_2 rfl, ib_w 0 1600 hJ7_c0_3 rfl, ib_w 0 4 hJ7_c0_4 rfl, ib_w 0 1600 hJ7_c2_16 rfl, fun hq9 => ib_w 0 1599 (hJ7_ic0_0 hq9) rfl, (hO.symm.trans (by exact hq))⟩ hP hD (Nat.le_of_ble_eq_true rfl) (Nat.le_of_ble_eq_true rfl) dX5_test_40
        · as_aux_lemma =>
            replace hq := lf_neg hq (lf_nle (lf_lc 1600 (1600 : Int) rfl) (lf_rf J7_l2) c1)
            have h4 := ib_nle (ib_c 1600 1600 1600 rfl) hJ7_l2 c1
            have h5 : ib J7_l2 0 1599 := ib_w 0 1599 h4.2 rfl
            refine lv_aload_n hx hb dX5_test_14 rfl (lv_at hl 0 rfl) ?_
            refine va_ldcS hx hb C0.2.2.2.1 (C0.2.2.2.2.2.2.2.2.2.2.2.2 13 (by decide)) dX5_test_15 ?_
            refine k_jim hP hD hS hA [0, 1] [false, false, true, true] rfl rfl rfl 0 0 (Nat.le_of_ble_eq_true rfl) (Nat.le_of_ble_eq_true rfl) (fun hPc hDc => k_runV (As := [.ref (sq 13)]) (rest := []) C0 hZ hS hA (s_X5_takeWord_s13 l dC dI cy sq a_this a_this_text g_this_text x_this_length J7_c0_2 J7_c0_3 J7_c0_4 x_this_allowed a_this_plan J7_c0_7 J7_c0_8 hg_this_text (ib_w 0 1600 hx_this_length rfl) (ib_w 0 1600 hJ7_c0_2 rfl) (ib_w 0 1600 hJ7_c0_3 rfl) (ib_w 0 4 hJ7_c0_4 rfl) (fun hq9 => ib_w 0 1599 (hJ7_ic0_0 hq9) rfl)) mV_X5_195 hPc hDc rfl rfl rfl hl rfl rfl (Nat.le_of_ble_eq_true rfl) ⟨(Nat.le_of_ble_eq_true rfl), (Nat.le_of_ble_eq_true rfl)⟩ ⟨(Nat.le_of_ble_eq_true rfl), (Nat.le_of_ble_eq_true rfl)⟩ dX5_test_17) (fun r6 u7 H locs hw hP hD hS => ?_)
            obtain ⟨v8, v9, v10⟩ := u7
            try dsimp only at hP hD hw
            replace hP : va_P (dC, dI) vwCl [(wo_4_iiiiiiirrrirrrrrir a_this_plan x_this_plan_cycle x_this_plan_green x_this_plan_rule x_this_plan_least x_this_plan_away x_this_plan_statements x_this_plan_kinds a_this_plan_calm a_this_plan_pace a_this_plan_trusts x_this_plan_walkers a_this_plan_kindOf a_this_plan_comesAt a_this_plan_comers a_this_plan_names a_this_plan_code J7_c2_16 a_this_plan_spans), (wi_0_1600_0 a_this_plan_code cy J7_a3), (wo_5_riiiiirii a_this a_this_text x_this_length v8 v9 v10 x_this_allowed a_this_plan J7_c0_7 J7_c0_8), (wi_0_1600_0 a_this_text cy g_this_text)] H := hP
            replace hD := k_D hP hD
            obtain ⟨h11, h12, h13, h14, h15, h16⟩ := hw
            replace hq := lf_p1 hq h16
            replace hq := lf_p1 hq rfl
            replace hq := lf_p1 hq rfl
            refine lv_if_eq (tgt := 40) hx hb dX5_test_20 rfl (fun c17 => ?_) (fun c17 => ?_)
            · replace hq := lf_pos hq (lf_eq (lf_rf r6) (lf_lc 0 (0 : Int) rfl) c17)
              have h18 := ib_eq h11 (ib_c 0 0 0 rfl) c17
              have h19 : ib r6 0 0 := ib_w 0 0 h18.1 rfl
              subst hQ; exact k_vret hx hb hr hlk ((v8, v9, v10, J7_c0_7, J7_c0_8, J7_c2_16, J7_a3)) hS ⟨ib_w 0 1600 h12 rfl, ib_w 0 1600 h13 rfl, ib_w 0 4 h14 rfl, ib_w 0 1600 hJ7_c2_16 rfl, fun hq9 => ib_w 0 1599 (h15 hq9) rfl, (hO.symm.trans (by exact hq))⟩ (hP.sub [2, 3, 0, 1] rfl) (hD.sub [2, 3, 0, 1] rfl rfl) (Nat.le_of_ble_eq_true rfl) (Nat.le_of_ble_eq_true rfl) dX5_test_40
            · as_aux_lemma =>
                replace hq := lf_neg hq (lf_ne (lf_rf r6) (lf_lc 0 (0 : Int) rfl) c17)
                have h20 : ib r6 1 1 := ib_w 1 1 (ib_ne_lo 0 h11 rfl c17) rfl
                refine lv_aload_n hx hb dX5_test_23 rfl (lv_at hl 0 rfl) ?_
                refine lv_iload_n hx hb dX5_test_24 rfl (lv_at hl 1 rfl) ?_
                refine k_jvm hP hD hS hA [2, 3, 0, 1] [] rfl rfl rfl 0 0 (Nat.le_of_ble_eq_true rfl) (Nat.le_of_ble_eq_true rfl) (fun hPc hDc => k_runV (As := [.int 5]) (rest := []) C0 hZ hS hA (s_X5_both_a0_5 l dC dI cy sq a_this a_this_text g_this_text x_this_length v8 v9 v10 x_this_allowed a_this_plan x_this_plan_cycle x_this_plan_green x_this_plan_rule x_this_plan_least x_this_plan_away x_this_plan_statements x_this_plan_kinds a_this_plan_calm a_this_plan_pace a_this_plan_trusts x_this_plan_walkers a_this_plan_kindOf a_this_plan_comesAt a_this_plan_comers a_this_plan_names a_this_plan_code J7_a3 J7_c2_16 a_this_plan_spans J7_c0_7 J7_c0_8 hg_this_text (ib_w 0 1600 hx_this_length rfl) (ib_w 0 1600 h12 rfl) (ib_w 0 1600 h13 rfl) (ib_w 0 4 h14 rfl) (ib_w 0 1600 hJ7_c2_16 rfl) (fun hq9 => ib_w 0 1599 (h15 hq9) rfl)) mV_X5_190 hPc hDc rfl rfl rfl hl rfl rfl (Nat.le_of_ble_eq_true rfl) ⟨(Nat.le_of_ble_eq_true rfl), (Nat.le_of_ble_eq_true rfl)⟩ ⟨(Nat.le_of_ble_eq_true rfl), (Nat.le_of_ble_eq_true rfl)⟩ dX5_test_25) (fun u22 H locs hw hP hD hS => ?_)
                obtain ⟨v23, v24, v25, v26, v27, v28, f29⟩ := u22
                try dsimp only at hP hD hw
                replace hP : va_P (dC, dI) vwCl [(wo_5_riiiiirii a_this a_this_text x_this_length v23 v24 v25 x_this_allowed a_this_plan v26 v27), (wi_0_1600_0 a_this_text cy g_this_text), (wo_4_iiiiiiirrrirrrrrir a_this_plan x_this_plan_cycle x_this_plan_green x_this_plan_rule x_this_plan_least x_this_plan_away x_this_plan_statements x_this_plan_kinds a_this_plan_calm a_this_plan_pace a_this_plan_trusts x_this_plan_walkers a_this_plan_kindOf a_this_plan_comesAt a_this_plan_comers a_this_plan_names a_this_plan_code v28 a_this_plan_spans), (wi_0_1600_0 a_this_plan_code cy f29)] H := hP
                replace hD := k_D hP hD
                obtain ⟨h30, h31, h32, h33, h34, h35⟩ := hw
                replace hq := lf_p1 hq h35
                replace hq := lf_p1 hq rfl
                replace hq := lf_p1 hq rfl
                replace hq := lf_p1 hq rfl
                replace hq := lf_p1 hq rfl
                replace hq := lf_p1 hq rfl
                refine lv_aload_n hx hb dX5_test_28 rfl (lv_at hl 0 rfl) ?_
                refine lv_bipush (v := (-30)) hx hb dX5_test_29 rfl ?_
                refine k_jvm hP hD hS hA [0, 2, 3] [false, true] rfl rfl rfl 0 0 (Nat.le_of_ble_eq_true rfl) (Nat.le_of_ble_eq_true rfl) (fun hPc hDc => k_runV (As := [.int (-30)]) (rest := []) C0 hZ hS hA (s_X5_emit l dC dI cy sq a_this a_this_text x_this_length v23 v24 v25 x_this_allowed a_this_plan x_this_plan_cycle x_this_plan_green x_this_plan_rule x_this_plan_least x_this_plan_away x_this_plan_statements x_this_plan_kinds a_this_plan_calm a_this_plan_pace a_this_plan_trusts x_this_plan_walkers a_this_plan_kindOf a_this_plan_comesAt a_this_plan_comers a_this_plan_names a_this_plan_code f29 v28 a_this_plan_spans v26 v27 (-30) (ib_w 0 1600 h33 rfl)) mV_X5_199 hPc hDc rfl rfl rfl hl rfl rfl (Nat.le_of_ble_eq_true rfl) ⟨(Nat.le_of_ble_eq_true rfl), (Nat.le_of_ble_eq_true rfl)⟩ ⟨(Nat.le_of_ble_eq_true rfl), (Nat.le_of_ble_eq_true rfl)⟩ dX5_test_31) (fun u37 H locs hw hP hD hS => ?_)
                obtain ⟨v38, f39⟩ := u37
                try dsimp only at hP hD hw
                replace hP : va_P (dC, dI) vwCl [(wi_0_1600_0 a_this_text cy g_this_text), (wo_5_riiiiirii a_this a_this_text x_this_length v23 v24 v25 x_this_allowed a_this_plan v26 v27), (wo_4_iiiiiiirrrirrrrrir a_this_plan x_this_plan_cycle x_this_plan_green x_this_plan_rule x_this_plan_least x_this_plan_away x_this_plan_statements x_this_plan_kinds a_this_plan_calm a_this_plan_pace a_this_plan_trusts x_this_plan_walkers a_this_plan_kindOf a_this_plan_comesAt a_this_plan_comers a_this_plan_names a_this_plan_code v38 a_this_plan_spans), (wi_0_1600_0 a_this_plan_code cy f39)] H := hP
                replace hD := k_D hP hD
                obtain ⟨h40, h41⟩ := hw
                have h41 := by have h9 := h41; try simp only [show ((-30) : Int32).toInt = (-30 : Int) from rfl] at h9; exact h9
                replace hq := lf_p1 hq h41
                obtain ⟨z42, ez42⟩ : ∃ y : Int32, y = J7_l2 + 1 := ⟨_, rfl⟩
                refine lv_iinc (v := z42) (lv' := [(2, .int z42), (0, .ref a_this), (1, .int 5)]) hx hb dX5_test_34 hl (k := 2) rfl (by rw [ez42]; rfl) (Nat.le_of_ble_eq_true rfl) rfl (fun ls hl => ?_)
                have h43 := ib_add h5 (ib_c 1 1 1 rfl) rfl
                rw [← ez42] at h43
                have h44 : ib z42 1 1600 := ib_w 1 1600 h43.1 rfl
                have Ez42 := lf_add h43.2 (lf_rf J7_l2) (lf_lc 1 (1 : Int) rfl)
                refine lv_goto (tgt := 7) hx hb dX5_test_37 rfl ?_
                exact ih7 v23 v24 v25 v26 v27 v38 f39 z42 H locs ls (ib_w 0 1600 h30 rfl) (ib_w 0 1600 h31 rfl) (ib_w 0 4 h32 rfl) (ib_w 0 1600 h40 rfl) (ib_w 0 1600 h44 rfl) (fun hq9 => ib_w 0 1599 (h34 hq9) rfl) (by rw [← hK7]; rw [lf_u Ez42]; exact hq) (by have := h43.2; have : (1 : Int32).toInt = 1 := rfl; omega) (hP.sub [1, 0, 2, 3] rfl) (hD.sub [1, 0, 2, 3] rfl rfl) hS (lv_sub hl [1, 2, 0] rfl)
  refine lv_aload_n hx hb dX5_test_0 rfl (lv_at hl 0 rfl) ?_
  refine lv_iload_n hx hb dX5_test_1 rfl (lv_at hl 1 rfl) ?_
  refine k_jvm hP hD hS hA [0, 1, 2, 3] [] rfl rfl rfl 0 0 (Nat.le_of_ble_eq_true rfl) (Nat.le_of_ble_eq_true rfl) (fun hPc hDc => k_runV (As := [.int 5]) (rest := []) C0 hZ hS hA (s_X5_both_a0_5 l dC dI cy sq a_this a_this_text g_this_text x_this_length x_this_at x_this_behind x_this_sort x_this_allowed a_this_plan x_this_plan_cycle x_this_plan_green x_this_plan_rule x_this_plan_least x_this_plan_away x_this_plan_statements x_this_plan_kinds a_this_plan_calm a_this_plan_pace a_this_plan_trusts x_this_plan_walkers a_this_plan_kindOf a_this_plan_comesAt a_this_plan_comers a_this_plan_names a_this_plan_code g_this_plan_code x_this_plan_size a_this_plan_spans x_this_fault x_this_place hg_this_text (ib_w 0 1600 hx_this_length rfl) (ib_w 0 1600 hx_this_at rfl) (ib_w 0 1600 hx_this_behind rfl) (ib_w 0 4 hx_this_sort rfl) (ib_w 0 1600 hx_this_plan_size rfl) (fun hq9 => ib_w 0 1599 (hc0_this hq9) rfl)) mV_X5_190 hPc hDc rfl rfl rfl hl rfl rfl (Nat.le_of_ble_eq_true rfl) ⟨(Nat.le_of_ble_eq_true rfl), (Nat.le_of_ble_eq_true rfl)⟩ ⟨(Nat.le_of_ble_eq_true rfl), (Nat.le_of_ble_eq_true rfl)⟩ dX5_test_2) (fun u46 H locs hw hP hD hS => ?_)
  obtain ⟨v47, v48, v49, v50, v51, v52, f53⟩ := u46
  try dsimp only at hP hD hw
  replace hP : va_P (dC, dI) vwCl [(wo_5_riiiiirii a_this a_this_text x_this_length v47 v48 v49 x_this_allowed a_this_plan v50 v51), (wi_0_1600_0 a_this_text cy g_this_text), (wo_4_iiiiiiirrrirrrrrir a_this_plan x_this_plan_cycle x_this_plan_green x_this_plan_rule x_this_plan_least x_this_plan_away x_this_plan_statements x_this_plan_kinds a_this_plan_calm a_this_plan_pace a_this_plan_trusts x_this_plan_walkers a_this_plan_kindOf a_this_plan_comesAt a_this_plan_comers a_this_plan_names a_this_plan_code v52 a_this_plan_spans), (wi_0_1600_0 a_this_plan_code cy f53)] H := hP
  replace hD := k_D hP hD
  obtain ⟨h54, h55, h56, h57, h58, h59⟩ := hw
  replace hq := lf_p1 hq h59
  replace hq := lf_p1 hq rfl
  replace hq := lf_p1 hq rfl
  replace hq := lf_p1 hq rfl
  replace hq := lf_p1 hq rfl
  replace hq := lf_p1 hq rfl
  refine lv_iconst (v := 0) hx hb dX5_test_5 rfl ?_
  refine lv_istore_n (lv' := [(2, .int 0), (0, .ref a_this), (1, .int 5)]) hx hb dX5_test_6 rfl hl (Nat.le_of_ble_eq_true rfl) rfl (fun ls hl => ?_)
  exact jn7 1602 v47 v48 v49 v50 v51 v52 f53 0 H locs ls (ib_w 0 1600 h54 rfl) (ib_w 0 1600 h55 rfl) (ib_w 0 4 h56 rfl) (ib_w 0 1600 h57 rfl) (ib_w 0 1600 (ib_c 0 0 0 rfl) rfl) (fun hq9 => ib_w 0 1599 (h58 hq9) rfl) (by try simp only [show (0 : Int32).toInt = (0 : Int) from rfl]; exact hq) (by have := (ib_c 0 0 0 rfl); unfold ib at this; omega) hP hD hS (lv_sub hl [1, 2, 0] rfl)
set_option maxHeartbeats 4000000 in
set_option maxRecDepth 100000 in
theorem s_X5_fact_a0_4 (l : Launch) (dC : Nat → ClassId) (dI : Nat → Nat → Nat) (cy : Nat → ClassId) (sq : Nat → Nat) (a_this : Nat) (a_this_text : Nat) (g_this_text : Nat → Int32) (x_this_length : Int32) (x_this_at : Int32) (x_this_behind : Int32) (x_this_sort : Int32) (x_this_allowed : Int32) (a_this_plan : Nat) (x_this_plan_cycle : Int32) (x_this_plan_green : Int32) (x_this_plan_rule : Int32) (x_this_plan_least : Int32) (x_this_plan_away : Int32) (x_this_plan_statements : Int32) (x_this_plan_kinds : Int32) (a_this_plan_calm : Nat) (a_this_plan_pace : Nat) (a_this_plan_trusts : Nat) (x_this_plan_walkers : Int32) (a_this_plan_kindOf : Nat) (a_this_plan_comesAt : Nat) (a_this_plan_comers : Nat) (a_this_plan_names : Nat) (a_this_plan_code : Nat) (g_this_plan_code : Nat → Int32) (x_this_plan_size : Int32) (a_this_plan_spans : Nat) (x_this_fault : Int32) (x_this_place : Int32) (hg_this_text : ia g_this_text 1600 0 255) (hx_this_length : ib x_this_length 0 1600) (hx_this_at : ib x_this_at 0 1600) (hx_this_behind : ib x_this_behind 0 1600) (hx_this_sort : ib x_this_sort 0 4) (hx_this_plan_size : ib x_this_plan_size 0 1600) (hc0_this : ¬ x_this_sort = 0 → ib x_this_at 0 1599) : k_Met l yX5_fact cX5_fact 3 none { frames := 17, cells := 0, slots := 0, locals := 433 } dC dI cy sq [.ref a_this, .int 4] [(wo_5_riiiiirii a_this a_this_text x_this_length x_this_at x_this_behind x_this_sort x_this_allowed a_this_plan x_this_fault x_this_place), (wi_0_1600_0 a_this_text cy g_this_text), (wo_4_iiiiiiirrrirrrrrir a_this_plan x_this_plan_cycle x_this_plan_green x_this_plan_rule x_this_plan_least x_this_plan_away x_this_plan_statements x_this_plan_kinds a_this_plan_calm a_this_plan_pace a_this_plan_trusts x_this_plan_walkers a_this_plan_kindOf a_this_plan_comesAt a_this_plan_comers a_this_plan_names a_this_plan_code x_this_plan_size a_this_plan_spans), (wi_0_1600_0 a_this_plan_code cy g_this_plan_code)] (k_Qv dC dI (fun (u : Int32 × Int32 × Int32 × Int32 × Int32 × Int32 × (Nat → Int32)) => match u with | (n0, n1, n2, n3, n4, n5, n6) => ib n0 0 1600 ∧ ib n1 0 1600 ∧ ib n2 0 4 ∧ ib n5 0 1600 ∧ (¬ n2 = 0 → ib n0 0 1599) ∧ (F_X5_fact_a0_4 (lf_A g_this_text) (Int32.toInt x_this_length) (Int32.toInt x_this_at) (Int32.toInt x_this_behind) (Int32.toInt x_this_sort) (Int32.toInt x_this_allowed) (lf_A g_this_plan_code) (Int32.toInt x_this_plan_size) (Int32.toInt x_this_fault) (Int32.toInt x_this_place) = ((Int32.toInt n0), (Int32.toInt n1), (Int32.toInt n2), (Int32.toInt n3), (Int32.toInt n4), (Int32.toInt n5), (lf_A n6)))) (fun u : Int32 × Int32 × Int32 × Int32 × Int32 × Int32 × (Nat → Int32) => match u with | (n0, n1, n2, n3, n4, n5, n6) => [(wo_5_riiiiirii a_this a_this_text x_this_length n0 n1 n2 x_this_allowed a_this_plan n3 n4), (wi_0_1600_0 a_this_text cy g_this_text), (wo_4_iiiiiiirrrirrrrrir a_this_plan x_this_plan_cycle x_this_plan_green x_this_plan_rule x_this_plan_least x_this_plan_away x_this_plan_statements x_this_plan_kinds a_this_plan_calm a_this_plan_pace a_this_plan_trusts x_this_plan_walkers a_this_plan_kindOf a_this_plan_comesAt a_this_plan_comers a_this_plan_names a_this_plan_code n5 a_this_plan_spans), (wi_0_1600_0 a_this_plan_code cy n6)])) := by
  refine k_ofW2 (by decide +kernel) (Nat.le_of_ble_eq_true rfl) ?_
  intro p e s m below meth c A ls H locs args Q hQ C0 hZ hr hlk hin hP hD hA hS hl
  have C0 : k_cx p s m args c cX5_fact 3 RX5 dC dI cy sq := C0
  have hx := C0.1
  have hb := C0.2.1
  have hl : lv_has ls 3 [(0, .ref a_this), (1, .int 4)] := hl
  obtain ⟨O, hO⟩ : ∃ o, o = F_X5_fact_a0_4 (lf_A g_this_text) (Int32.toInt x_this_length) (Int32.toInt x_this_at) (Int32.toInt x_this_behind) (Int32.toInt x_this_sort) (Int32.toInt x_this_allowed) (lf_A g_this_plan_code) (Int32.toInt x_this_plan_size) (Int32.toInt x_this_fault) (Int32.toInt x_this_place) := ⟨_, rfl⟩
  have hq := hO
  unfold F_X5_fact_a0_4 at hq
  refine lv_aload_n hx hb dX5_fact_0 rfl (lv_at hl 0 rfl) ?_
  refine va_ldcS hx hb C0.2.2.2.1 (C0.2.2.2.2.2.2.2.2.2.2.2.2 15 (by decide)) dX5_fact_1 ?_
  refine k_jim hP hD hS hA [0, 1] [false, false, true, true] rfl rfl rfl 0 0 (Nat.le_of_ble_eq_true rfl) (Nat.le_of_ble_eq_true rfl) (fun hPc hDc => k_runV (As := [.ref (sq 15)]) (rest := []) C0 hZ hS hA (s_X5_wordIn_s15 l dC dI cy sq a_this a_this_text g_this_text x_this_length x_this_at x_this_behind x_this_sort x_this_allowed a_this_plan x_this_fault x_this_place hg_this_text (ib_w 0 1600 hx_this_at rfl) (ib_w 0 1600 hx_this_behind rfl) (ib_w 0 4 hx_this_sort rfl) (fun hq9 => ib_w 0 1599 (hc0_this hq9) rfl)) mV_X5_54 hPc hDc rfl rfl rfl hl rfl rfl (Nat.le_of_ble_eq_true rfl) ⟨(Nat.le_of_ble_eq_true rfl), (Nat.le_of_ble_eq_true rfl)⟩ ⟨(Nat.le_of_ble_eq_true rfl), (Nat.le_of_ble_eq_true rfl)⟩ dX5_fact_3) (fun r1 u2 H locs hw hP hD hS => ?_)
  try dsimp only at hP hD hw
  replace hP : va_P (dC, dI) vwCl [(wo_4_iiiiiiirrrirrrrrir a_this_plan x_this_plan_cycle x_this_plan_green x_this_plan_rule x_this_plan_least x_this_plan_away x_this_plan_statements x_this_plan_kinds a_this_plan_calm a_this_plan_pace a_this_plan_trusts x_this_plan_walkers a_this_plan_kindOf a_this_plan_comesAt a_this_plan_comers a_this_plan_names a_this_plan_code x_this_plan_size a_this_plan_spans), (wi_0_1600_0 a_this_plan_code cy g_this_plan_code), (wo_5_riiiiirii a_this a_this_text x_this_length x_this_at x_this_behind x_this_sort x_this_allowed a_this_plan x_this_fault x_this_place), (wi_0_1600_0 a_this_text cy g_this_text)] H := hP
  replace hD := k_D hP hD
  have h3 := hw
  replace hq := lf_b1 hq h3
  refine lv_iconst (v := (-1)) hx hb dX5_fact_6 rfl ?_
  refine lv_icmp_eq (tgt := 34) hx hb dX5_fact_7 rfl (fun c4 => ?_) (fun c4 => ?_)
  · as_aux_lemma =>
      replace hq := lf_pos hq (lf_eq (lf_rf r1) (lf_lc (-1) (-1 : Int) rfl) c4)
      have h5 := ib_eq (ib_any r1) (ib_c (-1) (-1) (-1) rfl) c4
      have h6 : ib r1 (-1) (-1) := ib_w (-1) (-1) h5.1 rfl
      refine lv_aload_n hx hb dX5_fact_34 rfl (lv_at hl 0 rfl) ?_
      refine lv_bipush (v := 91) hx hb dX5_fact_35 rfl ?_
      refine k_jim hP hD hS hA [2, 3] [true, true] rfl rfl rfl 0 0 (Nat.le_of_ble_eq_true rfl) (Nat.le_of_ble_eq_true rfl) (fun hPc hDc => k_runV (As := [.int 91]) (rest := []) C0 hZ hS hA (s_X5_sees l dC dI cy sq a_this a_this_text g_this_text x_this_length x_this_at x_this_behind x_this_sort x_this_allowed a_this_plan x_this_fault x_this_place 91 hg_this_text (ib_w 0 1600 hx_this_at rfl) (ib_w 0 4 hx_this_sort rfl) (fun hq9 => ib_w 0 1599 (hc0_this hq9) rfl)) mV_X5_213 hPc hDc rfl rfl rfl hl rfl rfl (Nat.le_of_ble_eq_true rfl) ⟨(Nat.le_of_ble_eq_true rfl), (Nat.le_of_ble_eq_true rfl)⟩ ⟨(Nat.le_of_ble_eq_true rfl), (Nat.le_of_ble_eq_true rfl)⟩ dX5_fact_37) (fun r7 u8 H locs hw hP hD hS => ?_)
      try dsimp only at hP hD hw
      replace hP : va_P (dC, dI) vwCl [(wo_4_iiiiiiirrrirrrrrir a_this_plan x_this_plan_cycle x_this_plan_green x_this_plan_rule x_this_plan_least x_this_plan_away x_this_plan_statements x_this_plan_kinds a_this_plan_calm a_this_plan_pace a_this_plan_trusts x_this_plan_walkers a_this_plan_kindOf a_this_plan_comesAt a_this_plan_comers a_this_plan_names a_this_plan_code x_this_plan_size a_this_plan_spans), (wi_0_1600_0 a_this_plan_code cy g_this_plan_code), (wo_5_riiiiirii a_this a_this_text x_this_length x_this_at x_this_behind x_this_sort x_this_allowed a_this_plan x_this_fault x_this_place), (wi_0_1600_0 a_this_text cy g_this_text)] H := hP
      replace hD := k_D hP hD
      obtain ⟨h9, h10, h11, h12, h13⟩ := hw
      have h13 := by have h9 := h13; try simp only [show (91 : Int32).toInt = (91 : Int) from rfl] at h9; exact h9
      replace hq := lf_b1 hq h13
      refine lv_if_eq (tgt := 67) hx hb dX5_fact_40 rfl (fun c14 => ?_) (fun c14 => ?_)
      · as_aux_lemma =>
          replace hq := lf_pos hq (lf_eq (lf_rf r7) (lf_lc 0 (0 : Int) rfl) c14)
          have h15 := ib_eq h9 (ib_c 0 0 0 rfl) c14
          have h16 : ib r7 0 0 := ib_w 0 0 h15.1 rfl
          refine lv_aload_n hx hb dX5_fact_67 rfl (lv_at hl 0 rfl) ?_
          refine va_ldcS hx hb C0.2.2.2.1 (C0.2.2.2.2.2.2.2.2.2.2.2.2 16 (by decide)) dX5_fact_68 ?_
          refine k_jim hP hD hS hA [2, 3] [true, true] rfl rfl rfl 0 0 (Nat.le_of_ble_eq_true rfl) (Nat.le_of_ble_eq_true rfl) (fun hPc hDc => k_runV (As := [.ref (sq 16)]) (rest := []) C0 hZ hS hA (s_X5_takeWord_s16 l dC dI cy sq a_this a_this_text g_this_text x_this_length x_this_at x_this_behind x_this_sort x_this_allowed a_this_plan x_this_fault x_this_place hg_this_text (ib_w 0 1600 hx_this_length rfl) (ib_w 0 1600 hx_this_at rfl) (ib_w 0 1600 hx_this_behind rfl) (ib_w 0 4 hx_this_sort rfl) (fun hq9 => ib_w 0 1599 (hc0_this hq9) rfl)) mV_X5_195 hPc hDc rfl rfl rfl hl rfl rfl (Nat.le_of_ble_eq_true rfl) ⟨(Nat.le_of_ble_eq_true rfl), (Nat.le_of_ble_eq_true rfl)⟩ ⟨(Nat.le_of_ble_eq_true rfl), (Nat.le_of_ble_eq_true rfl)⟩ dX5_fact_70) (fun r17 u18 H locs hw hP hD hS => ?_)
          obtain ⟨v19, v20, v21⟩ := u18
          try dsimp only at hP hD hw
          replace hP : va_P (dC, dI) vwCl [(wo_4_iiiiiiirrrirrrrrir a_this_plan x_this_plan_cycle x_this_plan_green x_this_plan_rule x_this_plan_least x_this_plan_away x_this_plan_statements x_this_plan_kinds a_this_plan_calm a_this_plan_pace a_this_plan_trusts x_this_plan_walkers a_this_plan_kindOf a_this_plan_comesAt a_this_plan_comers a_this_plan_names a_this_plan_code x_this_plan_size a_this_plan_spans), (wi_0_1600_0 a_this_plan_code cy g_this_plan_code), (wo_5_riiiiirii a_this a_this_text x_this_length v19 v20 v21 x_this_allowed a_this_plan x_this_fault x_this_place), (wi_0_1600_0 a_this_text cy g_this_text)] H := hP
          replace hD := k_D hP hD
          obtain ⟨h22, h23, h24, h25, h26, h27⟩ := hw
          replace hq := lf_p1 hq h27
          replace hq := lf_p1 hq rfl
          replace hq := lf_p1 hq rfl
          refine lv_if_eq (tgt := 84) hx hb dX5_fact_73 rfl (fun c28 => ?_) (fun c28 => ?_)
          · as_aux_lemma =>
              replace hq := lf_pos hq (lf_eq (lf_rf r17) (lf_lc 0 (0 : Int) rfl) c28)
              have h29 := ib_eq h22 (ib_c 0 0 0 rfl) c28
              have h30 : ib r17 0 0 := ib_w 0 0 h29.1 rfl
              refine lv_aload_n hx hb dX5_fact_84 rfl (lv_at hl 0 rfl) ?_
              refine lv_iload_n hx hb dX5_fact_85 rfl (lv_at hl 1 rfl) ?_
              refine k_jvm hP hD hS hA [2, 3, 0, 1] [] rfl rfl rfl 0 0 (Nat.le_of_ble_eq_true rfl) (Nat.le_of_ble_eq_true rfl) (fun hPc hDc => k_runV (As := [.int 4]) (rest := []) C0 hZ hS hA (s_X5_sum_a0_4 l dC dI cy sq a_this a_this_text g_this_text x_this_length v19 v20 v21 x_this_allowed a_this_plan x_this_plan_cycle x_this_plan_green x_this_plan_rule x_this_plan_least x_this_plan_away x_this_plan_statements x_this_plan_kinds a_this_plan_calm a_this_plan_pace a_this_plan_trusts x_this_plan_walkers a_this_plan_kindOf a_this_plan_comesAt a_this_plan_comers a_this_plan_names a_this_plan_code g_this_plan_code x_this_plan_size a_this_plan_spans x_this_fault x_this_place hg_this_text (ib_w 0 1600 hx_this_length rfl) (ib_w 0 1600 h23 rfl) (ib_w 0 1600 h24 rfl) (ib_w 0 4 h25 rfl) (ib_w 0 1600 hx_this_plan_size rfl) (fun hq9 => ib_w 0 1599 (h26 hq9) rfl)) mV_X5_93 hPc hDc rfl rfl rfl hl rfl rfl (Nat.le_of_ble_eq_true rfl) ⟨(Nat.le_of_ble_eq_true rfl), (Nat.le_of_ble_eq_true rfl)⟩ ⟨(Nat.le_of_ble_eq_true rfl), (Nat.le_of_ble_eq_true rfl)⟩ dX5_fact_86) (fun u32 H locs hw hP hD hS => ?_)
              obtain ⟨v33, v34, v35, v36, v37, v38, f39⟩ := u32
              try dsimp only at hP hD hw
              replace hP : va_P (dC, dI) vwCl [(wo_5_riiiiirii a_this a_this_text x_this_length v33 v34 v35 x_this_allowed a_this_plan v36 v37), (wi_0_1600_0 a_this_text cy g_this_text), (wo_4_iiiiiiirrrirrrrrir a_this_plan x_this_plan_cycle x_this_plan_green x_this_plan_rule x_this_plan_least x_this_plan_away x_this_plan_statements x_this_plan_kinds a_this_plan_calm a_this_plan_pace a_this_plan_trusts x_this_plan_walkers a_this_plan_kindOf a_this_plan_comesAt a_this_plan_comers a_this_plan_names a_this_plan_code v38 a_this_plan_spans), (wi_0_1600_0 a_this_plan_code cy f39)] H := hP
              replace hD := k_D hP hD
              obtain ⟨h40, h41, h42, h43, h44, h45⟩ := hw
              replace hq := lf_p1 hq h45
              replace hq := lf_p1 hq rfl
              replace hq := lf_p1 hq rfl
              replace hq := lf_p1 hq rfl
              replace hq := lf_p1 hq rfl
              replace hq := lf_p1 hq rfl
              refine lv_aload_n hx hb dX5_fact_89 rfl (lv_at hl 0 rfl) ?_
              refine k_jim hP hD hS hA [0, 1] [false, false, true, true] rfl rfl rfl 0 0 (Nat.le_of_ble_eq_true rfl) (Nat.le_of_ble_eq_true rfl) (fun hPc hDc => k_runV (As := []) (rest := []) C0 hZ hS hA (s_X5_signHere l dC dI cy sq a_this a_this_text g_this_text x_this_length v33 v34 v35 x_this_allowed a_this_plan v36 v37 hg_this_text (ib_w 0 1600 hx_this_length rfl) (ib_w 0 1600 h40 rfl) (ib_w 0 1600 h41 rfl) (ib_w 0 4 h42 rfl) (fun hq9 => ib_w 0 1599 (h44 hq9) rfl)) mV_X5_219 hPc hDc rfl rfl rfl hl rfl rfl (Nat.le_of_ble_eq_true rfl) ⟨(Nat.le_of_ble_eq_true rfl), (Nat.le_of_ble_eq_true rfl)⟩ ⟨(Nat.le_of_ble_eq_true rfl), (Nat.le_of_ble_eq_true rfl)⟩ dX5_fact_90) (fun r46 u47 H locs hw hP hD hS => ?_)
              obtain ⟨v48, v49, v50, v51, v52⟩ := u47
              try dsimp only at hP hD hw
              replace hP : va_P (dC, dI) vwCl [(wo_4_iiiiiiirrrirrrrrir a_this_plan x_this_plan_cycle x_this_plan_green x_this_plan_rule x_this_plan_least x_this_plan_away x_this_plan_statements x_this_plan_kinds a_this_plan_calm a_this_plan_pace a_this_plan_trusts x_this_plan_walkers a_this_plan_kindOf a_this_plan_comesAt a_this_plan_comers a_this_plan_names a_this_plan_code v38 a_this_plan_spans), (wi_0_1600_0 a_this_plan_code cy f39), (wo_5_riiiiirii a_this a_this_text x_this_length v48 v49 v50 x_this_allowed a_this_plan v51 v52), (wi_0_1600_0 a_this_text cy g_this_text)] H := hP
              replace hD := k_D hP hD
              obtain ⟨h53, h54, h55, h56, h57, h58⟩ := hw
              replace hq := lf_p1 hq h58
              replace hq := lf_p1 hq rfl
              replace hq := lf_p1 hq rfl
              replace hq := lf_p1 hq rfl
              replace hq := lf_p1 hq rfl
              refine lv_istore_n (lv' := [(2, .int r46), (0, .ref a_this), (1, .int 4)]) hx hb dX5_fact_93 rfl hl (Nat.le_of_ble_eq_true rfl) rfl (fun ls hl => ?_)
              as_aux_lemma =>
                refine lv_aload_n hx hb dX5_fact_94 rfl (lv_at hl 1 rfl) ?_
                refine lv_aload_n hx hb dX5_fact_95 rfl (lv_at hl 1 rfl) ?_
                refine k_get C0 fg_X5_18 hP 2 rfl rfl dX5_fact_96 ?_
                refine k_jvm hP hD hS hA [2, 3] [true, true] rfl rfl rfl 0 0 (Nat.le_of_ble_eq_true rfl) (Nat.le_of_ble_eq_true rfl) (fun hPc hDc => k_runV (As := [.int v49]) (rest := []) C0 hZ hS hA (s_X5_moveTo l dC dI cy sq a_this a_this_text g_this_text x_this_length v48 v49 v50 x_this_allowed a_this_plan v51 v52 v49 hg_this_text (ib_w 0 1600 hx_this_length rfl) (ib_w 0 1600 h55 rfl)) mV_X5_86 hPc hDc rfl rfl rfl hl rfl rfl (Nat.le_of_ble_eq_true rfl) ⟨(Nat.le_of_ble_eq_true rfl), (Nat.le_of_ble_eq_true rfl)⟩ ⟨(Nat.le_of_ble_eq_true rfl), (Nat.le_of_ble_eq_true rfl)⟩ dX5_fact_99) (fun u60 H locs hw hP hD hS => ?_)
                obtain ⟨v61, v62, v63⟩ := u60
                try dsimp only at hP hD hw
                replace hP : va_P (dC, dI) vwCl [(wo_4_iiiiiiirrrirrrrrir a_this_plan x_this_plan_cycle x_this_plan_green x_this_plan_rule x_this_plan_least x_this_plan_away x_this_plan_statements x_this_plan_kinds a_this_plan_calm a_this_plan_pace a_this_plan_trusts x_this_plan_walkers a_this_plan_kindOf a_this_plan_comesAt a_this_plan_comers a_this_plan_names a_this_plan_code v38 a_this_plan_spans), (wi_0_1600_0 a_this_plan_code cy f39), (wo_5_riiiiirii a_this a_this_text x_this_length v61 v62 v63 x_this_allowed a_this_plan v51 v52), (wi_0_1600_0 a_this_text cy g_this_text)] H := hP
                replace hD := k_D hP hD
                obtain ⟨h64, h65, h66, h67, h68⟩ := hw
                replace hq := lf_p1 hq h68
                replace hq := lf_p1 hq rfl
                refine lv_aload_n hx hb dX5_fact_102 rfl (lv_at hl 1 rfl) ?_
                refine lv_iload_n hx hb dX5_fact_103 rfl (lv_at hl 2 rfl) ?_
                refine k_jvm hP hD hS hA [2, 3, 0, 1] [] rfl rfl rfl 0 0 (Nat.le_of_ble_eq_true rfl) (Nat.le_of_ble_eq_true rfl) (fun hPc hDc => k_runV (As := [.int 4]) (rest := []) C0 hZ hS hA (s_X5_sum_a0_4 l dC dI cy sq a_this a_this_text g_this_text x_this_length v61 v62 v63 x_this_allowed a_this_plan x_this_plan_cycle x_this_plan_green x_this_plan_rule x_this_plan_least x_this_plan_away x_this_plan_statements x_this_plan_kinds a_this_plan_calm a_this_plan_pace a_this_plan_trusts x_this_plan_walkers a_this_plan_kindOf a_this_plan_comesAt a_this_plan_comers a_this_plan_names a_this_plan_code f39 v38 a_this_plan_spans v51 v52 hg_this_text (ib_w 0 1600 hx_this_length rfl) (ib_w 0 1600 h64 rfl) (ib_w 0 1600 h65 rfl) (ib_w 0 4 h66 rfl) (ib_w 0 1600 h43 rfl) (fun hq9 => ib_w 0 1599 (h67 hq9) rfl)) mV_X5_93 hPc hDc rfl rfl rfl hl rfl rfl (Nat.le_of_ble_eq_true rfl) ⟨(Nat.le_of_ble_eq_true rfl), (Nat.le_of_ble_eq_true rfl)⟩ ⟨(Nat.le_of_ble_eq_true rfl), (Nat.le_of_ble_eq_true rfl)⟩ dX5_fact_104) (fun u70 H locs hw hP hD hS => ?_)
                obtain ⟨v71, v72, v73, v74, v75, v76, f77⟩ := u70
                try dsimp only at hP hD hw
                replace hP : va_P (dC, dI) vwCl [(wo_5_riiiiirii a_this a_this_text x_this_length v71 v72 v73 x_this_allowed a_this_plan v74 v75), (wi_0_1600_0 a_this_text cy g_this_text), (wo_4_iiiiiiirrrirrrrrir a_this_plan x_this_plan_cycle x_this_plan_green x_this_plan_rule x_this_plan_least x_this_plan_away x_this_plan_statements x_this_plan_kinds a_this_plan_calm a_this_plan_pace a_this_plan_trusts x_this_plan_walkers a_this_plan_kindOf a_this_plan_comesAt a_this_plan_comers a_this_plan_names a_this_plan_code v76 a_this_plan_spans), (wi_0_1600_0 a_this_plan_code cy f77)] H := hP
                replace hD := k_D hP hD
                obtain ⟨h78, h79, h80, h81, h82, h83⟩ := hw
                replace hq := lf_p1 hq h83
                replace hq := lf_p1 hq rfl
                replace hq := lf_p1 hq rfl
                replace hq := lf_p1 hq rfl
                replace hq := lf_p1 hq rfl
                replace hq := lf_p1 hq rfl
                refine lv_aload_n hx hb dX5_fact_107 rfl (lv_at hl 1 rfl) ?_
                refine lv_iload_n hx hb dX5_fact_108 rfl (lv_at hl 0 rfl) ?_
                refine k_jvm hP hD hS hA [0, 2, 3] [false, true] rfl rfl rfl 0 0 (Nat.le_of_ble_eq_true rfl) (Nat.le_of_ble_eq_true rfl) (fun hPc hDc => k_runV (As := [.int r46]) (rest := []) C0 hZ hS hA (s_X5_emit l dC dI cy sq a_this a_this_text x_this_length v71 v72 v73 x_this_allowed a_this_plan x_this_plan_cycle x_this_plan_green x_this_plan_rule x_this_plan_least x_this_plan_away x_this_plan_statements x_this_plan_kinds a_this_plan_calm a_this_plan_pace a_this_plan_trusts x_this_plan_walkers a_this_plan_kindOf a_this_plan_comesAt a_this_plan_comers a_this_plan_names a_this_plan_code f77 v76 a_this_plan_spans v74 v75 r46 (ib_w 0 1600 h81 rfl)) mV_X5_199 hPc hDc rfl rfl rfl hl rfl rfl (Nat.le_of_ble_eq_true rfl) ⟨(Nat.le_of_ble_eq_true rfl), (Nat.le_of_ble_eq_true rfl)⟩ ⟨(Nat.le_of_ble_eq_true rfl), (Nat.le_of_ble_eq_true rfl)⟩ dX5_fact_109) (fun u85 H locs hw hP hD hS => ?_)
                obtain ⟨v86, f87⟩ := u85
                try dsimp only at hP hD hw
                replace hP : va_P (dC, dI) vwCl [(wi_0_1600_0 a_this_text cy g_this_text), (wo_5_riiiiirii a_this a_this_text x_this_length v71 v72 v73 x_this_allowed a_this_plan v74 v75), (wo_4_iiiiiiirrrirrrrrir a_this_plan x_this_plan_cycle x_this_plan_green x_this_plan_rule x_this_plan_least x_this_plan_away x_this_plan_statements x_this_plan_kinds a_this_plan_calm a_this_plan_pace a_this_plan_trusts x_this_plan_walkers a_this_plan_kindOf a_this_plan_comesAt a_this_plan_comers a_this_plan_names a_this_plan_code v86 a_this_plan_spans), (wi_0_1600_0 a_this_plan_code cy f87)] H := hP
                replace hD := k_D hP hD
                obtain ⟨h88, h89⟩ := hw
                replace hq := lf_p1 hq h89
                subst hQ; exact k_vret hx hb hr hlk ((v71, v72, v73, v74, v75, v86, f87)) hS ⟨ib_w 0 1600 h78 rfl, ib_w 0 1600 h79 rfl, ib_w 0 4 h80 rfl, ib_w 0 1600 h88 rfl, fun hq9 => ib_w 0 1599 (h82 hq9) rfl, (hO.symm.trans (by exact hq))⟩ (hP.sub [1, 0, 2, 3] rfl) (hD.sub [1, 0, 2, 3] rfl rfl) (Nat.le_of_ble_eq_true rfl) (Nat.le_of_ble_eq_true rfl) dX5_fact_112
          · replace hq := lf_neg hq (lf_ne (lf_rf r17) (lf_lc 0 (0 : Int) rfl) c28)
            have h90 : ib r17 1 1 := ib_w 1 1 (ib_ne_lo 0 h22 rfl c28) rfl
            refine lv_aload_n hx hb dX5_fact_76 rfl (lv_at hl 0 rfl) ?_
            refine lv_iconst (v := 1) hx hb dX5_fact_77 rfl ?_
            refine k_jvm hP hD hS hA [2, 0, 1] [false, false, false, true] rfl rfl rfl 0 0 (Nat.le_of_ble_eq_true rfl) (Nat.le_of_ble_eq_true rfl) (fun hPc hDc => k_runV (As := [.int 1]) (rest := []) C0 hZ hS hA (s_X5_emit l dC dI cy sq a_this a_this_text x_this_length v19 v20 v21 x_this_allowed a_this_plan x_this_plan_cycle x_this_plan_green x_this_plan_rule x_this_plan_least x_this_plan_away x_this_plan_statements x_this_plan_kinds a_this_plan_calm a_this_plan_pace a_this_plan_trusts x_this_plan_walkers a_this_plan_kindOf a_this_plan_comesAt a_this_plan_comers a_this_plan_names a_this_plan_code g_this_plan_code x_this_plan_size a_this_plan_spans x_this_fault x_this_place 1 (ib_w 0 1600 hx_this_plan_size rfl)) mV_X5_199 hPc hDc rfl rfl rfl hl rfl rfl (Nat.le_of_ble_eq_true rfl) ⟨(Nat.le_of_ble_eq_true rfl), (Nat.le_of_ble_eq_true rfl)⟩ ⟨(Nat.le_of_ble_eq_true rfl), (Nat.le_of_ble_eq_true rfl)⟩ dX5_fact_78) (fun u92 H locs hw hP hD hS => ?_)
            obtain ⟨v93, f94⟩ := u92
            try dsimp only at hP hD hw
            replace hP : va_P (dC, dI) vwCl [(wi_0_1600_0 a_this_text cy g_this_text), (wo_5_riiiiirii a_this a_this_text x_this_length v19 v20 v21 x_this_allowed a_this_plan x_this_fault x_this_place), (wo_4_iiiiiiirrrirrrrrir a_this_plan x_this_plan_cycle x_this_plan_green x_this_plan_rule x_this_plan_least x_this_plan_away x_this_plan_statements x_this_plan_kinds a_this_plan_calm a_this_plan_pace a_this_plan_trusts x_this_plan_walkers a_this_plan_kindOf a_this_plan_comesAt a_this_plan_comers a_this_plan_names a_this_plan_code v93 a_this_plan_spans), (wi_0_1600_0 a_this_plan_code cy f94)] H := hP
            replace hD := k_D hP hD
            obtain ⟨h95, h96⟩ := hw
            have h96 := by have h9 := h96; try simp only [show (1 : Int32).toInt = (1 : Int) from rfl] at h9; exact h9
            replace hq := lf_p1 hq h96
            refine lv_goto (tgt := 112) hx hb dX5_fact_81 rfl ?_
            subst hQ; exact k_vret hx hb hr hlk ((v19, v20, v21, x_this_fault, x_this_place, v93, f94)) hS ⟨ib_w 0 1600 h23 rfl, ib_w 0 1600 h24 rfl, ib_w 0 4 h25 rfl, ib_w 0 1600 h95 rfl, fun hq9 => ib_w 0 1599 (h26 hq9) rfl, (hO.symm.trans (by exact hq))⟩ (hP.sub [1, 0, 2, 3] rfl) (hD.sub [1, 0, 2, 3] rfl rfl) (Nat.le_of_ble_eq_true rfl) (Nat.le_of_ble_eq_true rfl) dX5_fact_112
      · as_aux_lemma =>
          replace hq := lf_neg hq (lf_ne (lf_rf r7) (lf_lc 0 (0 : Int) rfl) c14)
          have h97 : ib r7 1 1 := ib_w 1 1 (ib_ne_lo 0 h9 rfl c14) rfl
          have h98 : ib x_this_at 0 1599 := ib_w 0 1599 (ib_two hx_this_at (h10 c14)) rfl
          have h99 : ib x_this_sort 3 3 := ib_w 3 3 (ib_two hx_this_sort (h11 c14)) rfl
          refine lv_aload_n hx hb dX5_fact_43 rfl (lv_at hl 0 rfl) ?_
          refine lv_iload_n hx hb dX5_fact_44 rfl (lv_at hl 1 rfl) ?_
          refine k_jim hP hD hS hA [2, 3] [true, true] rfl rfl rfl 0 0 (Nat.le_of_ble_eq_true rfl) (Nat.le_of_ble_eq_true rfl) (fun hPc hDc => k_runV (As := [.int 4]) (rest := []) C0 hZ hS hA (s_X5_enters_a0_4 l dC dI cy sq a_this a_this_text g_this_text x_this_length x_this_at x_this_behind x_this_sort x_this_allowed a_this_plan x_this_fault x_this_place hg_this_text (ib_w 0 1600 hx_this_length rfl) (ib_w 0 1600 hx_this_behind rfl)) mV_X5_209 hPc hDc rfl rfl rfl hl rfl rfl (Nat.le_of_ble_eq_true rfl) ⟨(Nat.le_of_ble_eq_true rfl), (Nat.le_of_ble_eq_true rfl)⟩ ⟨(Nat.le_of_ble_eq_true rfl), (Nat.le_of_ble_eq_true rfl)⟩ dX5_fact_45) (fun r100 u101 H locs hw hP hD hS => ?_)
          obtain ⟨v102, v103, v104⟩ := u101
          try dsimp only at hP hD hw
          replace hP : va_P (dC, dI) vwCl [(wo_4_iiiiiiirrrirrrrrir a_this_plan x_this_plan_cycle x_this_plan_green x_this_plan_rule x_this_plan_least x_this_plan_away x_this_plan_statements x_this_plan_kinds a_this_plan_calm a_this_plan_pace a_this_plan_trusts x_this_plan_walkers a_this_plan_kindOf a_this_plan_comesAt a_this_plan_comers a_this_plan_names a_this_plan_code x_this_plan_size a_this_plan_spans), (wi_0_1600_0 a_this_plan_code cy g_this_plan_code), (wo_5_riiiiirii a_this a_this_text x_this_length v102 v103 v104 x_this_allowed a_this_plan x_this_fault x_this_place), (wi_0_1600_0 a_this_text cy g_this_text)] H := hP
          replace hD := k_D hP hD
          obtain ⟨h105, h106, h107, h108, h109, h110⟩ := hw
          replace hq := lf_p1 hq h110
          replace hq := lf_p1 hq rfl
          replace hq := lf_p1 hq rfl
          refine lv_if_eq (tgt := 112) hx hb dX5_fact_48 rfl (fun c111 => ?_) (fun c111 => ?_)
          · skip
            have h112 := ib_eq h105 (ib_c 0 0 0 rfl) c111
            exact ib_no (ib_w 1 0 h112.1 rfl) rfl
          · as_aux_lemma =>
              skip
              refine lv_aload_n hx hb dX5_fact_51 rfl (lv_at hl 0 rfl) ?_
              refine lv_iload_n hx hb dX5_fact_52 rfl (lv_at hl 1 rfl) ?_
              refine lv_iconst (v := 1) hx hb dX5_fact_53 rfl ?_
              refine lv_iadd hx hb dX5_fact_54 ?_
              refine k_topi (y := 5) (by decide) ?_
              refine k_jvm hP hD hS hA [2, 3, 0, 1] [] rfl rfl rfl 0 0 (Nat.le_of_ble_eq_true rfl) (Nat.le_of_ble_eq_true rfl) (fun hPc hDc => k_runV (As := [.int 5]) (rest := []) C0 hZ hS hA (s_X5_test_a0_5 l dC dI cy sq a_this a_this_text g_this_text x_this_length v102 v103 v104 x_this_allowed a_this_plan x_this_plan_cycle x_this_plan_green x_this_plan_rule x_this_plan_least x_this_plan_away x_this_plan_statements x_this_plan_kinds a_this_plan_calm a_this_plan_pace a_this_plan_trusts x_this_plan_walkers a_this_plan_kindOf a_this_plan_comesAt a_this_plan_comers a_this_plan_names a_this_plan_code g_this_plan_code x_this_plan_size a_this_plan_spans x_this_fault x_this_place hg_this_text (ib_w 0 1600 hx_this_length rfl) (ib_w 0 1600 h106 rfl) (ib_w 0 1600 h107 rfl) (ib_w 0 4 h108 rfl) (ib_w 0 1600 hx_this_plan_size rfl) (fun hq9 => ib_w 0 1599 (h109 hq9) rfl)) mV_X5_90 hPc hDc rfl rfl rfl hl rfl rfl (Nat.le_of_ble_eq_true rfl) ⟨(Nat.le_of_ble_eq_true rfl), (Nat.le_of_ble_eq_true rfl)⟩ ⟨(Nat.le_of_ble_eq_true rfl), (Nat.le_of_ble_eq_true rfl)⟩ dX5_fact_55) (fun u114 H locs hw hP hD hS => ?_)
              obtain ⟨v115, v116, v117, v118, v119, v120, f121⟩ := u114
              try dsimp only at hP hD hw
              replace hP : va_P (dC, dI) vwCl [(wo_5_riiiiirii a_this a_this_text x_this_length v115 v116 v117 x_this_allowed a_this_plan v118 v119), (wi_0_1600_0 a_this_text cy g_this_text), (wo_4_iiiiiiirrrirrrrrir a_this_plan x_this_plan_cycle x_this_plan_green x_this_plan_rule x_this_plan_least x_this_plan_away x_this_plan_statements x_this_plan_kinds a_this_plan_calm a_this_plan_pace a_this_plan_trusts x_this_plan_walkers a_this_plan_kindOf a_this_plan_comesAt a_this_plan_comers a_this_plan_names a_this_plan_code v120 a_this_plan_spans), (wi_0_1600_0 a_this_plan_code cy f121)] H := hP
              replace hD := k_D hP hD
              obtain ⟨h122, h123, h124, h125, h126, h127⟩ := hw
              replace hq := lf_p1 hq h127
              replace hq := lf_p1 hq rfl
              replace hq := lf_p1 hq rfl
              replace hq := lf_p1 hq rfl
              replace hq := lf_p1 hq rfl
              replace hq := lf_p1 hq rfl
              refine lv_aload_n hx hb dX5_fact_58 rfl (lv_at hl 0 rfl) ?_
              refine lv_bipush (v := 93) hx hb dX5_fact_59 rfl ?_
              refine k_jvm hP hD hS hA [0, 1] [false, false, true, true] rfl rfl rfl 0 0 (Nat.le_of_ble_eq_true rfl) (Nat.le_of_ble_eq_true rfl) (fun hPc hDc => k_runV (As := [.int 93]) (rest := []) C0 hZ hS hA (s_X5_need l dC dI cy sq a_this a_this_text g_this_text x_this_length v115 v116 v117 x_this_allowed a_this_plan v118 v119 93 hg_this_text (ib_w 0 1600 hx_this_length rfl) (ib_w 0 1600 h122 rfl) (ib_w 0 1600 h123 rfl) (ib_w 0 4 h124 rfl) (fun hq9 => ib_w 0 1599 (h126 hq9) rfl)) mV_X5_48 hPc hDc rfl rfl rfl hl rfl rfl (Nat.le_of_ble_eq_true rfl) ⟨(Nat.le_of_ble_eq_true rfl), (Nat.le_of_ble_eq_true rfl)⟩ ⟨(Nat.le_of_ble_eq_true rfl), (Nat.le_of_ble_eq_true rfl)⟩ dX5_fact_61) (fun u129 H locs hw hP hD hS => ?_)
              obtain ⟨v130, v131, v132, v133, v134⟩ := u129
              try dsimp only at hP hD hw
              replace hP : va_P (dC, dI) vwCl [(wo_4_iiiiiiirrrirrrrrir a_this_plan x_this_plan_cycle x_this_plan_green x_this_plan_rule x_this_plan_least x_this_plan_away x_this_plan_statements x_this_plan_kinds a_this_plan_calm a_this_plan_pace a_this_plan_trusts x_this_plan_walkers a_this_plan_kindOf a_this_plan_comesAt a_this_plan_comers a_this_plan_names a_this_plan_code v120 a_this_plan_spans), (wi_0_1600_0 a_this_plan_code cy f121), (wo_5_riiiiirii a_this a_this_text x_this_length v130 v131 v132 x_this_allowed a_this_plan v133 v134), (wi_0_1600_0 a_this_text cy g_this_text)] H := hP
              replace hD := k_D hP hD
              obtain ⟨h135, h136, h137, h138, h139⟩ := hw
              have h139 := by have h9 := h139; try simp only [show (93 : Int32).toInt = (93 : Int) from rfl] at h9; exact h9
              replace hq := lf_p1 hq h139
              replace hq := lf_p1 hq rfl
              replace hq := lf_p1 hq rfl
              replace hq := lf_p1 hq rfl
              refine lv_goto (tgt := 112) hx hb dX5_fact_64 rfl ?_
              subst hQ; exact k_vret hx hb hr hlk ((v130, v131, v132, v133, v134, v120, f121)) hS ⟨ib_w 0 1600 h135 rfl, ib_w 0 1600 h136 rfl, ib_w 0 4 h137 rfl, ib_w 0 1600 h125 rfl, fun hq9 => ib_w 0 1599 (h138 hq9) rfl, (hO.symm.trans (by exact hq))⟩ (hP.sub [2, 3, 0, 1] rfl) (hD.sub [2, 3, 0, 1] rfl rfl) (Nat.le_of_ble_eq_true rfl) (Nat.le_of_ble_eq_true rfl) dX5_fact_112
  · as_aux_lemma =>
      replace hq := lf_neg hq (lf_ne (lf_rf r1) (lf_lc (-1) (-1 : Int) rfl) c4)
      refine lv_aload_n hx hb dX5_fact_10 rfl (lv_at hl 0 rfl) ?_
      refine lv_iload_n hx hb dX5_fact_11 rfl (lv_at hl 1 rfl) ?_
      refine k_jim hP hD hS hA [2, 3] [true, true] rfl rfl rfl 0 0 (Nat.le_of_ble_eq_true rfl) (Nat.le_of_ble_eq_true rfl) (fun hPc hDc => k_runV (As := [.int 4]) (rest := []) C0 hZ hS hA (s_X5_enters_a0_4 l dC dI cy sq a_this a_this_text g_this_text x_this_length x_this_at x_this_behind x_this_sort x_this_allowed a_this_plan x_this_fault x_this_place hg_this_text (ib_w 0 1600 hx_this_length rfl) (ib_w 0 1600 hx_this_behind rfl)) mV_X5_209 hPc hDc rfl rfl rfl hl rfl rfl (Nat.le_of_ble_eq_true rfl) ⟨(Nat.le_of_ble_eq_true rfl), (Nat.le_of_ble_eq_true rfl)⟩ ⟨(Nat.le_of_ble_eq_true rfl), (Nat.le_of_ble_eq_true rfl)⟩ dX5_fact_12) (fun r140 u141 H locs hw hP hD hS => ?_)
      obtain ⟨v142, v143, v144⟩ := u141
      try dsimp only at hP hD hw
      replace hP : va_P (dC, dI) vwCl [(wo_4_iiiiiiirrrirrrrrir a_this_plan x_this_plan_cycle x_this_plan_green x_this_plan_rule x_this_plan_least x_this_plan_away x_this_plan_statements x_this_plan_kinds a_this_plan_calm a_this_plan_pace a_this_plan_trusts x_this_plan_walkers a_this_plan_kindOf a_this_plan_comesAt a_this_plan_comers a_this_plan_names a_this_plan_code x_this_plan_size a_this_plan_spans), (wi_0_1600_0 a_this_plan_code cy g_this_plan_code), (wo_5_riiiiirii a_this a_this_text x_this_length v142 v143 v144 x_this_allowed a_this_plan x_this_fault x_this_place), (wi_0_1600_0 a_this_text cy g_this_text)] H := hP
      replace hD := k_D hP hD
      obtain ⟨h145, h146, h147, h148, h149, h150⟩ := hw
      replace hq := lf_p1 hq h150
      replace hq := lf_p1 hq rfl
      replace hq := lf_p1 hq rfl
      refine lv_if_eq (tgt := 112) hx hb dX5_fact_15 rfl (fun c151 => ?_) (fun c151 => ?_)
      · skip
        have h152 := ib_eq h145 (ib_c 0 0 0 rfl) c151
        exact ib_no (ib_w 1 0 h152.1 rfl) rfl
      · as_aux_lemma =>
          skip
          refine lv_aload_n hx hb dX5_fact_18 rfl (lv_at hl 0 rfl) ?_
          refine lv_iload_n hx hb dX5_fact_19 rfl (lv_at hl 1 rfl) ?_
          refine lv_iconst (v := 1) hx hb dX5_fact_20 rfl ?_
          refine lv_iadd hx hb dX5_fact_21 ?_
          refine k_topi (y := 5) (by decide) ?_
          refine k_jvm hP hD hS hA [2, 3, 0, 1] [] rfl rfl rfl 0 0 (Nat.le_of_ble_eq_true rfl) (Nat.le_of_ble_eq_true rfl) (fun hPc hDc => k_runV (As := [.int 5]) (rest := []) C0 hZ hS hA (s_X5_fact_a0_5 l dC dI cy sq a_this a_this_text g_this_text x_this_length v142 v143 v144 x_this_allowed a_this_plan x_this_plan_cycle x_this_plan_green x_this_plan_rule x_this_plan_least x_this_plan_away x_this_plan_statements x_this_plan_kinds a_this_plan_calm a_this_plan_pace a_this_plan_trusts x_this_plan_walkers a_this_plan_kindOf a_this_plan_comesAt a_this_plan_comers a_this_plan_names a_this_plan_code g_this_plan_code x_this_plan_size a_this_plan_spans x_this_fault x_this_place hg_this_text (ib_w 0 1600 hx_this_length rfl) (ib_w 0 1600 h146 rfl) (ib_w 0 1600 h147 rfl) (ib_w 0 4 h148 rfl) (ib_w 0 1600 hx_this_plan_size rfl) (fun hq9 => ib_w 0 1599 (h149 hq9) rfl)) mV_X5_202 hPc hDc rfl rfl rfl hl rfl rfl (Nat.le_of_ble_eq_true rfl) ⟨(Nat.le_of_ble_eq_true rfl), (Nat.le_of_ble_eq_true rfl)⟩ ⟨(Nat.le_of_ble_eq_true rfl), (Nat.le_of_ble_eq_true rfl)⟩ dX5_fact_22) (fun u154 H locs hw hP hD hS => ?_)
          obtain ⟨v155, v156, v157, v158, v159, v160, f161⟩ := u154
          try dsimp only at hP hD hw
          replace hP : va_P (dC, dI) vwCl [(wo_5_riiiiirii a_this a_this_text x_this_length v155 v156 v157 x_this_allowed a_this_plan v158 v159), (wi_0_1600_0 a_this_text cy g_this_text), (wo_4_iiiiiiirrrirrrrrir a_this_plan x_this_plan_cycle x_this_plan_green x_this_plan_rule x_this_plan_least x_this_plan_away x_this_plan_statements x_this_plan_kinds a_this_plan_calm a_this_plan_pace a_this_plan_trusts x_this_plan_walkers a_this_plan_kindOf a_this_plan_comesAt a_this_plan_comers a_this_plan_names a_this_plan_code v160 a_this_plan_spans), (wi_0_1600_0 a_this_plan_code cy f161)] H := hP
          replace hD := k_D hP hD
          obtain ⟨h162, h163, h164, h165, h166, h167⟩ := hw
          replace hq := lf_p1 hq h167
          replace hq := lf_p1 hq rfl
          replace hq := lf_p1 hq rfl
          replace hq := lf_p1 hq rfl
          replace hq := lf_p1 hq rfl
          replace hq := lf_p1 hq rfl
          refine lv_aload_n hx hb dX5_fact_25 rfl (lv_at hl 0 rfl) ?_
          refine lv_bipush (v := (-31)) hx hb dX5_fact_26 rfl ?_
          refine k_jvm hP hD hS hA [0, 2, 3] [false, true] rfl rfl rfl 0 0 (Nat.le_of_ble_eq_true rfl) (Nat.le_of_ble_eq_true rfl) (fun hPc hDc => k_runV (As := [.int (-31)]) (rest := []) C0 hZ hS hA (s_X5_emit l dC dI cy sq a_this a_this_text x_this_length v155 v156 v157 x_this_allowed a_this_plan x_this_plan_cycle x_this_plan_green x_this_plan_rule x_this_plan_least x_this_plan_away x_this_plan_statements x_this_plan_kinds a_this_plan_calm a_this_plan_pace a_this_plan_trusts x_this_plan_walkers a_this_plan_kindOf a_this_plan_comesAt a_this_plan_comers a_this_plan_names a_this_plan_code f161 v160 a_this_plan_spans v158 v159 (-31) (ib_w 0 1600 h165 rfl)) mV_X5_199 hPc hDc rfl rfl rfl hl rfl rfl (Nat.le_of_ble_eq_true rfl) ⟨(Nat.le_of_ble_eq_true rfl), (Nat.le_of_ble_eq_true rfl)⟩ ⟨(Nat.le_of_ble_eq_true rfl), (Nat.le_of_ble_eq_true rfl)⟩ dX5_fact_28) (fun u169 H locs hw hP hD hS => ?_)
          obtain ⟨v170, f171⟩ := u169
          try dsimp only at hP hD hw
          replace hP : va_P (dC, dI) vwCl [(wi_0_1600_0 a_this_text cy g_this_text), (wo_5_riiiiirii a_this a_this_text x_this_length v155 v156 v157 x_this_allowed a_this_plan v158 v159), (wo_4_iiiiiiirrrirrrrrir a_this_plan x_this_plan_cycle x_this_plan_green x_this_plan_rule x_this_plan_least x_this_plan_away x_this_plan_statements x_this_plan_kinds a_this_plan_calm a_this_plan_pace a_this_plan_trusts x_this_plan_walkers a_this_plan_kindOf a_this_plan_comesAt a_this_plan_comers a_this_plan_names a_this_plan_code v170 a_this_plan_spans), (wi_0_1600_0 a_this_plan_code cy f171)] H := hP
          replace hD := k_D hP hD
          obtain ⟨h172, h173⟩ := hw
          have h173 := by have h9 := h173; try simp only [show ((-31) : Int32).toInt = (-31 : Int) from rfl] at h9; exact h9
          replace hq := lf_p1 hq h173
          refine lv_goto (tgt := 112) hx hb dX5_fact_31 rfl ?_
          subst hQ; exact k_vret hx hb hr hlk ((v155, v156, v157, v158, v159, v170, f171)) hS ⟨ib_w 0 1600 h162 rfl, ib_w 0 1600 h163 rfl, ib_w 0 4 h164 rfl, ib_w 0 1600 h172 rfl, fun hq9 => ib_w 0 1599 (h166 hq9) rfl, (hO.symm.trans (by exact hq))⟩ (hP.sub [1, 0, 2, 3] rfl) (hD.sub [1, 0, 2, 3] rfl rfl) (Nat.le_of_ble_eq_true rfl) (Nat.le_of_ble_eq_true rfl) dX5_fact_112
set_option maxHeartbeats 4000000 in
set_option maxRecDepth 100000 in
theorem s_X5_both_a0_4 (l : Launch) (dC : Nat → ClassId) (dI : Nat → Nat → Nat) (cy : Nat → ClassId) (sq : Nat → Nat) (a_this : Nat) (a_this_text : Nat) (g_this_text : Nat → Int32) (x_this_length : Int32) (x_this_at : Int32) (x_this_behind : Int32) (x_this_sort : Int32) (x_this_allowed : Int32) (a_this_plan : Nat) (x_this_plan_cycle : Int32) (x_this_plan_green : Int32) (x_this_plan_rule : Int32) (x_this_plan_least : Int32) (x_this_plan_away : Int32) (x_this_plan_statements : Int32) (x_this_plan_kinds : Int32) (a_this_plan_calm : Nat) (a_this_plan_pace : Nat) (a_this_plan_trusts : Nat) (x_this_plan_walkers : Int32) (a_this_plan_kindOf : Nat) (a_this_plan_comesAt : Nat) (a_this_plan_comers : Nat) (a_this_plan_names : Nat) (a_this_plan_code : Nat) (g_this_plan_code : Nat → Int32) (x_this_plan_size : Int32) (a_this_plan_spans : Nat) (x_this_fault : Int32) (x_this_place : Int32) (hg_this_text : ia g_this_text 1600 0 255) (hx_this_length : ib x_this_length 0 1600) (hx_this_at : ib x_this_at 0 1600) (hx_this_behind : ib x_this_behind 0 1600) (hx_this_sort : ib x_this_sort 0 4) (hx_this_plan_size : ib x_this_plan_size 0 1600) (hc0_this : ¬ x_this_sort = 0 → ib x_this_at 0 1599) : k_Met l yX5_both cX5_both 3 none { frames := 18, cells := 0, slots := 0, locals := 455 } dC dI cy sq [.ref a_this, .int 4] [(wo_5_riiiiirii a_this a_this_text x_this_length x_this_at x_this_behind x_this_sort x_this_allowed a_this_plan x_this_fault x_this_place), (wi_0_1600_0 a_this_text cy g_this_text), (wo_4_iiiiiiirrrirrrrrir a_this_plan x_this_plan_cycle x_this_plan_green x_this_plan_rule x_this_plan_least x_this_plan_away x_this_plan_statements x_this_plan_kinds a_this_plan_calm a_this_plan_pace a_this_plan_trusts x_this_plan_walkers a_this_plan_kindOf a_this_plan_comesAt a_this_plan_comers a_this_plan_names a_this_plan_code x_this_plan_size a_this_plan_spans), (wi_0_1600_0 a_this_plan_code cy g_this_plan_code)] (k_Qv dC dI (fun (u : Int32 × Int32 × Int32 × Int32 × Int32 × Int32 × (Nat → Int32)) => match u with | (n0, n1, n2, n3, n4, n5, n6) => ib n0 0 1600 ∧ ib n1 0 1600 ∧ ib n2 0 4 ∧ ib n5 0 1600 ∧ (¬ n2 = 0 → ib n0 0 1599) ∧ (F_X5_both_a0_4 (lf_A g_this_text) (Int32.toInt x_this_length) (Int32.toInt x_this_at) (Int32.toInt x_this_behind) (Int32.toInt x_this_sort) (Int32.toInt x_this_allowed) (lf_A g_this_plan_code) (Int32.toInt x_this_plan_size) (Int32.toInt x_this_fault) (Int32.toInt x_this_place) = ((Int32.toInt n0), (Int32.toInt n1), (Int32.toInt n2), (Int32.toInt n3), (Int32.toInt n4), (Int32.toInt n5), (lf_A n6)))) (fun u : Int32 × Int32 × Int32 × Int32 × Int32 × Int32 × (Nat → Int32) => match u with | (n0, n1, n2, n3, n4, n5, n6) => [(wo_5_riiiiirii a_this a_this_text x_this_length n0 n1 n2 x_this_allowed a_this_plan n3 n4), (wi_0_1600_0 a_this_text cy g_this_text), (wo_4_iiiiiiirrrirrrrrir a_this_plan x_this_plan_cycle x_this_plan_green x_this_plan_rule x_this_plan_least x_this_plan_away x_this_plan_statements x_this_plan_kinds a_this_plan_calm a_this_plan_pace a_this_plan_trusts x_this_plan_walkers a_this_plan_kindOf a_this_plan_comesAt a_this_plan_comers a_this_plan_names a_this_plan_code n5 a_this_plan_spans), (wi_0_1600_0 a_this_plan_code cy n6)])) := by
  refine k_ofW2 (by decide +kernel) (Nat.le_of_ble_eq_true rfl) ?_
  intro p e s m below meth c A ls H locs args Q hQ C0 hZ hr hlk hin hP hD hA hS hl
  have C0 : k_cx p s m args c cX5_both 3 RX5 dC dI cy sq := C0
  have hx := C0.1
  have hb := C0.2.1
  have hl : lv_has ls 3 [(0, .ref a_this), (1, .int 4)] := hl
  obtain ⟨O, hO⟩ : ∃ o, o = F_X5_both_a0_4 (lf_A g_this_text) (Int32.toInt x_this_length) (Int32.toInt x_this_at) (Int32.toInt x_this_behind) (Int32.toInt x_this_sort) (Int32.toInt x_this_allowed) (lf_A g_this_plan_code) (Int32.toInt x_this_plan_size) (Int32.toInt x_this_fault) (Int32.toInt x_this_place) := ⟨_, rfl⟩
  have hq := hO
  unfold F_X5_both_a0_4 at hq
  have jn7 : ∀ (n : Nat) (J7_c0_2 : Int32) (J7_c0_3 : Int32) (J7_c0_4 : Int32) (J7_c0_7 : Int32) (J7_c0_8 : Int32) (J7_c2_16 : Int32) (J7_a3 : Nat → Int32) (J7_l2 : Int32) (H : Heap) (locs : List Loc) (ls : Array Slot), ib J7_c0_2 0 1600 → ib J7_c0_3 0 1600 → ib J7_c0_4 0 4 → ib J7_c2_16 0 1600 → ib J7_l2 0 1600 → (¬ J7_c0_4 = 0 → ib J7_c0_2 0 1599) → (O = F_X5_both_a0_4_7 (lf_A g_this_text) (Int32.toInt x_this_length) (Int32.toInt x_this_allowed) n (Int32.toInt J7_c0_2) (Int32.toInt J7_c0_3) (Int32.toInt J7_c0_4) (Int32.toInt J7_c0_7) (Int32.toInt J7_c0_8) (Int32.toInt J7_c2_16) (lf_A J7_a3) (Int32.toInt J7_l2)) → 1601 ≤ J7_l2.toInt + (n : Int) → va_P (dC, dI) vwCl [(wo_5_riiiiirii a_this a_this_text x_this_length J7_c0_2 J7_c0_3 J7_c0_4 x_this_allowed a_this_plan J7_c0_7 J7_c0_8), (wi_0_1600_0 a_this_text cy g_this_text), (wo_4_iiiiiiirrrirrrrrir a_this_plan x_this_plan_cycle x_this_plan_green x_this_plan_rule x_this_plan_least x_this_plan_away x_this_plan_statements x_this_plan_kinds a_this_plan_calm a_this_plan_pace a_this_plan_trusts x_this_plan_walkers a_this_plan_kindOf a_this_plan_comesAt a_this_plan_comers a_this_plan_names a_this_plan_code J7_c2_16 a_this_plan_spans), (wi_0_1600_0 a_this_plan_code cy J7_a3)] H → va_D A [(wo_5_riiiiirii a_this a_this_text x_this_length J7_c0_2 J7_c0_3 J7_c0_4 x_this_allowed a_this_plan J7_c0_7 J7_c0_8), (wi_0_1600_0 a_this_text cy g_this_text), (wo_4_iiiiiiirrrirrrrrir a_this_plan x_this_plan_cycle x_this_plan_green x_this_plan_rule x_this_plan_least x_this_plan_away x_this_plan_statements x_this_plan_kinds a_this_plan_calm a_this_plan_pace a_this_plan_trusts x_this_plan_walkers a_this_plan_kindOf a_this_plan_comesAt a_this_plan_comers a_this_plan_names a_this_plan_code J7_c2_16 a_this_plan_spans), (wi_0_1600_0 a_this_plan_code cy J7_a3)] → va_S A s.heap H locs → lv_has ls 3 [(0, .ref a_this), (1, .int 4), (2, .int J7_l2)] → W p l e { frames := 18, cells := 0, slots := 0, locals := 455 } s m args below meth c H locs 0 0 Q (F0 m 7 ls []) := by
    as_aux_lemma =>
      intro n
      induction n with
      | zero =>
        intro J7_c0_2 J7_c0_3 J7_c0_4 J7_c0_7 J7_c0_8 J7_c2_16 J7_a3 J7_l2 H locs ls hJ7_c0_2 hJ7_c0_3 hJ7_c0_4 hJ7_c2_16 hJ7_l2 hJ7_ic0_0 hq hm
        exact absurd hm (by have := hJ7_l2; unfold ib at this; omega)
      | succ n ih =>
        intro J7_c0_2 J7_c0_3 J7_c0_4 J7_c0_7 J7_c0_8 J7_c2_16 J7_a3 J7_l2 H locs ls hJ7_c0_2 hJ7_c0_3 hJ7_c0_4 hJ7_c2_16 hJ7_l2 hJ7_ic0_0 hq hm7 hP hD hS hl
        have ih7 := ih
        obtain ⟨K7, hK7⟩ : ∃ K, K = F_X5_both_a0_4_7 (lf_A g_this_text) (Int32.toInt x_this_length) (Int32.toInt x_this_allowed) n := ⟨_, rfl⟩
        have hq : O = F_X5_both_a0_4_7b (lf_A g_this_text) (Int32.toInt x_this_length) (Int32.toInt x_this_allowed) K7 (Int32.toInt J7_c0_2) (Int32.toInt J7_c0_3) (Int32.toInt J7_c0_4) (Int32.toInt J7_c0_7) (Int32.toInt J7_c0_8) (Int32.toInt J7_c2_16) (lf_A J7_a3) (Int32.toInt J7_l2) := by rw [hK7]; exact hq
        unfold F_X5_both_a0_4_7b at hq
        refine lv_iload_n hx hb dX5_both_7 rfl (lv_at hl 2 rfl) ?_
        refine lv_sipush (v := 1600) hx hb dX5_both_8 rfl ?_
        refine lv_icmp_ge (tgt := 40) hx hb dX5_both_11 rfl (fun c1 => ?_) (fun c1 => ?_)
        · replace hq := lf_pos hq (lf_le (lf_lc 1600 (1600 : Int) rfl) (lf_rf J7_l2) c1)
          have h2 := ib_le (ib_c 1600 1600 1600 rfl) hJ7_l2 c1
          have h3 : ib J7_l2 1600 1600 := ib_w 1600 1600 h2.2 rfl
          subst hQ; exact k_vret hx hb hr hlk ((J7_c0_2, J7_c0_3, J7_c0_4, J7_c0_7, J7_c0_8, J7_c2_16, J7_a3)) hS ⟨ib_w 0 1600 hJ7_c0_2 rfl, ib_w 0 1600 hJ7_c0_3 rfl, ib_w 0 4 hJ7_c0_4 rfl, ib_w 0 1600 hJ7_c2_16 rfl, fun hq9 => ib_w 0 1599 (hJ7_ic0_0 hq9) rfl, (hO.symm.trans (by exact hq))⟩ hP hD (Nat.le_of_ble_eq_true rfl) (Nat.le_of_ble_eq_true rfl) dX5_both_40
        · as_aux_lemma =>
            replace hq := lf_neg hq (lf_nle (lf_lc 1600 (1600 : Int) rfl) (lf_rf J7_l2) c1)
            have h4 := ib_nle (ib_c 1600 1600 1600 rfl) hJ7_l2 c1
            have h5 : ib J7_l2 0 1599 := ib_w 0 1599 h4.2 rfl
            refine lv_aload_n hx hb dX5_both_14 rfl (lv_at hl 0 rfl) ?_
            refine va_ldcS hx hb C0.2.2.2.1 (C0.2.2.2.2.2.2.2.2.2.2.2.2 14 (by decide)) dX5_both_15 ?_
            refine k_jim hP hD hS hA [0, 1] [false, false, true, true] rfl rfl rfl 0 0 (Nat.le_of_ble_eq_true rfl) (Nat.le_of_ble_eq_true rfl) (fun hPc hDc => k_runV (As := [.ref (sq 14)]) (rest := []) C0 hZ hS hA (s_X5_takeWord_s14 l dC dI cy sq a_this a_this_text g_this_text x_this_length J7_c0_2 J7_c0_3 J7_c0_4 x_this_allowed a_this_plan J7_c0_7 J7_c0_8 hg_this_text (ib_w 0 1600 hx_this_length rfl) (ib_w 0 1600 hJ7_c0_2 rfl) (ib_w 0 1600 hJ7_c0_3 rfl) (ib_w 0 4 hJ7_c0_4 rfl) (fun hq9 => ib_w 0 1599 (hJ7_ic0_0 hq9) rfl)) mV_X5_195 hPc hDc rfl rfl rfl hl rfl rfl (Nat.le_of_ble_eq_true rfl) ⟨(Nat.le_of_ble_eq_true rfl), (Nat.le_of_ble_eq_true rfl)⟩ ⟨(Nat.le_of_ble_eq_true rfl), (Nat.le_of_ble_eq_true rfl)⟩ dX5_both_17) (fun r6 u7 H locs hw hP hD hS => ?_)
            obtain ⟨v8, v9, v10⟩ := u7
            try dsimp only at hP hD hw
            replace hP : va_P (dC, dI) vwCl [(wo_4_iiiiiiirrrirrrrrir a_this_plan x_this_plan_cycle x_this_plan_green x_this_plan_rule x_this_plan_least x_this_plan_away x_this_plan_statements x_this_plan_kinds a_this_plan_calm a_this_plan_pace a_this_plan_trusts x_this_plan_walkers a_this_plan_kindOf a_this_plan_comesAt a_this_plan_comers a_this_plan_names a_this_plan_code J7_c2_16 a_this_plan_spans), (wi_0_1600_0 a_this_plan_code cy J7_a3), (wo_5_riiiiirii a_this a_this_text x_this_length v8 v9 v10 x_this_allowed a_this_plan J7_c0_7 J7_c0_8), (wi_0_1600_0 a_this_text cy g_this_text)] H := hP
            replace hD := k_D hP hD
            obtain ⟨h11, h12, h13, h14, h15, h16⟩ := hw
            replace hq := lf_p1 hq h16
            replace hq := lf_p1 hq rfl
            replace hq := lf_p1 hq rfl
            refine lv_if_eq (tgt := 40) hx hb dX5_both_20 rfl (fun c17 => ?_) (fun c17 => ?_)
            · replace hq := lf_pos hq (lf_eq (lf_rf r6) (lf_lc 0 (0 : Int) rfl) c17)
              have h18 := ib_eq h11 (ib_c 0 0 0 rfl) c17
              have h19 : ib r6 0 0 := ib_w 0 0 h18.1 rfl
              subst hQ; exact k_vret hx hb hr hlk ((v8, v9, v10, J7_c0_7, J7_c0_8, J7_c2_16, J7_a3)) hS ⟨ib_w 0 1600 h12 rfl, ib_w 0 1600 h13 rfl, ib_w 0 4 h14 rfl, ib_w 0 1600 hJ7_c2_16 rfl, fun hq9 => ib_w 0 1599 (h15 hq9) rfl, (hO.symm.trans (by exact hq))⟩ (hP.sub [2, 3, 0, 1] rfl) (hD.sub [2, 3, 0, 1] rfl rfl) (Nat.le_of_ble_eq_true rfl) (Nat.le_of_ble_eq_true rfl) dX5_both_40
            · as_aux_lemma =>
                replace hq := lf_neg hq (lf_ne (lf_rf r6) (lf_lc 0 (0 : Int) rfl) c17)
                have h20 : ib r6 1 1 := ib_w 1 1 (ib_ne_lo 0 h11 rfl c17) rfl
                refine lv_aload_n hx hb dX5_both_23 rfl (lv_at hl 0 rfl) ?_
                refine lv_iload_n hx hb dX5_both_24 rfl (lv_at hl 1 rfl) ?_
                refine k_jvm hP hD hS hA [2, 3, 0, 1] [] rfl rfl rfl 0 0 (Nat.le_of_ble_eq_true rfl) (Nat.le_of_ble_eq_true rfl) (fun hPc hDc => k_runV (As := [.int 4]) (rest := []) C0 hZ hS hA (s_X5_fact_a0_4 l dC dI cy sq a_this a_this_text g_this_text x_this_length v8 v9 v10 x_this_allowed a_this_plan x_this_plan_cycle x_this_plan_green x_this_plan_rule x_this_plan_least x_this_plan_away x_this_plan_statements x_this_plan_kinds a_this_plan_calm a_this_plan_pace a_this_plan_trusts x_this_plan_walkers a_this_plan_kindOf a_this_plan_comesAt a_this_plan_comers a_this_plan_names a_this_plan_code J7_a3 J7_c2_16 a_this_plan_spans J7_c0_7 J7_c0_8 hg_this_text (ib_w 0 1600 hx_this_length rfl) (ib_w 0 1600 h12 rfl) (ib_w 0 1600 h13 rfl) (ib_w 0 4 h14 rfl) (ib_w 0 1600 hJ7_c2_16 rfl) (fun hq9 => ib_w 0 1599 (h15 hq9) rfl)) mV_X5_202 hPc hDc rfl rfl rfl hl rfl rfl (Nat.le_of_ble_eq_true rfl) ⟨(Nat.le_of_ble_eq_true rfl), (Nat.le_of_ble_eq_true rfl)⟩ ⟨(Nat.le_of_ble_eq_true rfl), (Nat.le_of_ble_eq_true rfl)⟩ dX5_both_25) (fun u22 H locs hw hP hD hS => ?_)
                obtain ⟨v23, v24, v25, v26, v27, v28, f29⟩ := u22
                try dsimp only at hP hD hw
                replace hP : va_P (dC, dI) vwCl [(wo_5_riiiiirii a_this a_this_text x_this_length v23 v24 v25 x_this_allowed a_this_plan v26 v27), (wi_0_1600_0 a_this_text cy g_this_text), (wo_4_iiiiiiirrrirrrrrir a_this_plan x_this_plan_cycle x_this_plan_green x_this_plan_rule x_this_plan_least x_this_plan_away x_this_plan_statements x_this_plan_kinds a_this_plan_calm a_this_plan_pace a_this_plan_trusts x_this_plan_walkers a_this_plan_kindOf a_this_plan_comesAt a_this_plan_comers a_this_plan_names a_this_plan_code v28 a_this_plan_spans), (wi_0_1600_0 a_this_plan_code cy f29)] H := hP
                replace hD := k_D hP hD
                obtain ⟨h30, h31, h32, h33, h34, h35⟩ := hw
                replace hq := lf_p1 hq h35
                replace hq := lf_p1 hq rfl
                replace hq := lf_p1 hq rfl
                replace hq := lf_p1 hq rfl
                replace hq := lf_p1 hq rfl
                replace hq := lf_p1 hq rfl
                refine lv_aload_n hx hb dX5_both_28 rfl (lv_at hl 0 rfl) ?_
                refine lv_bipush (v := (-29)) hx hb dX5_both_29 rfl ?_
                refine k_jvm hP hD hS hA [0, 2, 3] [false, true] rfl rfl rfl 0 0 (Nat.le_of_ble_eq_true rfl) (Nat.le_of_ble_eq_true rfl) (fun hPc hDc => k_runV (As := [.int (-29)]) (rest := []) C0 hZ hS hA (s_X5_emit l dC dI cy sq a_this a_this_text x_this_length v23 v24 v25 x_this_allowed a_this_plan x_this_plan_cycle x_this_plan_green x_this_plan_rule x_this_plan_least x_this_plan_away x_this_plan_statements x_this_plan_kinds a_this_plan_calm a_this_plan_pace a_this_plan_trusts x_this_plan_walkers a_this_plan_kindOf a_this_plan_comesAt a_this_plan_comers a_this_plan_names a_this_plan_code f29 v28 a_this_plan_spans v26 v27 (-29) (ib_w 0 1600 h33 rfl)) mV_X5_199 hPc hDc rfl rfl rfl hl rfl rfl (Nat.le_of_ble_eq_true rfl) ⟨(Nat.le_of_ble_eq_true rfl), (Nat.le_of_ble_eq_true rfl)⟩ ⟨(Nat.le_of_ble_eq_true rfl), (Nat.le_of_ble_eq_true rfl)⟩ dX5_both_31) (fun u37 H locs hw hP hD hS => ?_)
                obtain ⟨v38, f39⟩ := u37
                try dsimp only at hP hD hw
                replace hP : va_P (dC, dI) vwCl [(wi_0_1600_0 a_this_text cy g_this_text), (wo_5_riiiiirii a_this a_this_text x_this_length v23 v24 v25 x_this_allowed a_this_plan v26 v27), (wo_4_iiiiiiirrrirrrrrir a_this_plan x_this_plan_cycle x_this_plan_green x_this_plan_rule x_this_plan_least x_this_plan_away x_this_plan_statements x_this_plan_kinds a_this_plan_calm a_this_plan_pace a_this_plan_trusts x_this_plan_walkers a_this_plan_kindOf a_this_plan_comesAt a_this_plan_comers a_this_plan_names a_this_plan_code v38 a_this_plan_spans), (wi_0_1600_0 a_this_plan_code cy f39)] H := hP
                replace hD := k_D hP hD
                obtain ⟨h40, h41⟩ := hw
                have h41 := by have h9 := h41; try simp only [show ((-29) : Int32).toInt = (-29 : Int) from rfl] at h9; exact h9
                replace hq := lf_p1 hq h41
                obtain ⟨z42, ez42⟩ : ∃ y : Int32, y = J7_l2 + 1 := ⟨_, rfl⟩
                refine lv_iinc (v := z42) (lv' := [(2, .int z42), (0, .ref a_this), (1, .int 4)]) hx hb dX5_both_34 hl (k := 2) rfl (by rw [ez42]; rfl) (Nat.le_of_ble_eq_true rfl) rfl (fun ls hl => ?_)
                have h43 := ib_add h5 (ib_c 1 1 1 rfl) rfl
                rw [← ez42] at h43
                have h44 : ib z42 1 1600 := ib_w 1 1600 h43.1 rfl
                have Ez42 := lf_add h43.2 (lf_rf J7_l2) (lf_lc 1 (1 : Int) rfl)
                refine lv_goto (tgt := 7) hx hb dX5_both_37 rfl ?_
                exact ih7 v23 v24 v25 v26 v27 v38 f39 z42 H locs ls (ib_w 0 1600 h30 rfl) (ib_w 0 1600 h31 rfl) (ib_w 0 4 h32 rfl) (ib_w 0 1600 h40 rfl) (ib_w 0 1600 h44 rfl) (fun hq9 => ib_w 0 1599 (h34 hq9) rfl) (by rw [← hK7]; rw [lf_u Ez42]; exact hq) (by have := h43.2; have : (1 : Int32).toInt = 1 := rfl; omega) (hP.sub [1, 0, 2, 3] rfl) (hD.sub [1, 0, 2, 3] rfl rfl) hS (lv_sub hl [1, 2, 0] rfl)
  refine lv_aload_n hx hb dX5_both_0 rfl (lv_at hl 0 rfl) ?_
  refine lv_iload_n hx hb dX5_both_1 rfl (lv_at hl 1 rfl) ?_
  refine k_jvm hP hD hS hA [0, 1, 2, 3] [] rfl rfl rfl 0 0 (Nat.le_of_ble_eq_true rfl) (Nat.le_of_ble_eq_true rfl) (fun hPc hDc => k_runV (As := [.int 4]) (rest := []) C0 hZ hS hA (s_X5_fact_a0_4 l dC dI cy sq a_this a_this_text g_this_text x_this_length x_this_at x_this_behind x_this_sort x_this_allowed a_this_plan x_this_plan_cycle x_this_plan_green x_this_plan_rule x_this_plan_least x_this_plan_away x_this_plan_statements x_this_plan_kinds a_this_plan_calm a_this_plan_pace a_this_plan_trusts x_this_plan_walkers a_this_plan_kindOf a_this_plan_comesAt a_this_plan_comers a_this_plan_names a_this_plan_code g_this_plan_code x_this_plan_size a_this_plan_spans x_this_fault x_this_place hg_this_text (ib_w 0 1600 hx_this_length rfl) (ib_w 0 1600 hx_this_at rfl) (ib_w 0 1600 hx_this_behind rfl) (ib_w 0 4 hx_this_sort rfl) (ib_w 0 1600 hx_this_plan_size rfl) (fun hq9 => ib_w 0 1599 (hc0_this hq9) rfl)) mV_X5_202 hPc hDc rfl rfl rfl hl rfl rfl (Nat.le_of_ble_eq_true rfl) ⟨(Nat.le_of_ble_eq_true rfl), (Nat.le_of_ble_eq_true rfl)⟩ ⟨(Nat.le_of_ble_eq_true rfl), (Nat.le_of_ble_eq_true rfl)⟩ dX5_both_2) (fun u46 H locs hw hP hD hS => ?_)
  obtain ⟨v47, v48, v49, v50, v51, v52, f53⟩ := u46
  try dsimp only at hP hD hw
  replace hP : va_P (dC, dI) vwCl [(wo_5_riiiiirii a_this a_this_text x_this_length v47 v48 v49 x_this_allowed a_this_plan v50 v51), (wi_0_1600_0 a_this_text cy g_this_text), (wo_4_iiiiiiirrrirrrrrir a_this_plan x_this_plan_cycle x_this_plan_green x_this_plan_rule x_this_plan_least x_this_plan_away x_this_plan_statements x_this_plan_kinds a_this_plan_calm a_this_plan_pace a_this_plan_trusts x_this_plan_walkers a_this_plan_kindOf a_this_plan_comesAt a_this_plan_comers a_this_plan_names a_this_plan_code v52 a_this_plan_spans), (wi_0_1600_0 a_this_plan_code cy f53)] H := hP
  replace hD := k_D hP hD
  obtain ⟨h54, h55, h56, h57, h58, h59⟩ := hw
  replace hq := lf_p1 hq h59
  replace hq := lf_p1 hq rfl
  replace hq := lf_p1 hq rfl
  replace hq := lf_p1 hq rfl
  replace hq := lf_p1 hq rfl
  replace hq := lf_p1 hq rfl
  refine lv_iconst (v := 0) hx hb dX5_both_5 rfl ?_
  refine lv_istore_n (lv' := [(2, .int 0), (0, .ref a_this), (1, .int 4)]) hx hb dX5_both_6 rfl hl (Nat.le_of_ble_eq_true rfl) rfl (fun ls hl => ?_)
  exact jn7 1602 v47 v48 v49 v50 v51 v52 f53 0 H locs ls (ib_w 0 1600 h54 rfl) (ib_w 0 1600 h55 rfl) (ib_w 0 4 h56 rfl) (ib_w 0 1600 h57 rfl) (ib_w 0 1600 (ib_c 0 0 0 rfl) rfl) (fun hq9 => ib_w 0 1599 (h58 hq9) rfl) (by try simp only [show (0 : Int32).toInt = (0 : Int) from rfl]; exact hq) (by have := (ib_c 0 0 0 rfl); unfold ib at this; omega) hP hD hS (lv_sub hl [1, 2, 0] rfl)
set_option maxHeartbeats 4000000 in
set_option maxRecDepth 100000 in
theorem s_X5_test_a0_4 (l : Launch) (dC : Nat → ClassId) (dI : Nat → Nat → Nat) (cy : Nat → ClassId) (sq : Nat → Nat) (a_this : Nat) (a_this_text : Nat) (g_this_text : Nat → Int32) (x_this_length : Int32) (x_this_at : Int32) (x_this_behind : Int32) (x_this_sort : Int32) (x_this_allowed : Int32) (a_this_plan : Nat) (x_this_plan_cycle : Int32) (x_this_plan_green : Int32) (x_this_plan_rule : Int32) (x_this_plan_least : Int32) (x_this_plan_away : Int32) (x_this_plan_statements : Int32) (x_this_plan_kinds : Int32) (a_this_plan_calm : Nat) (a_this_plan_pace : Nat) (a_this_plan_trusts : Nat) (x_this_plan_walkers : Int32) (a_this_plan_kindOf : Nat) (a_this_plan_comesAt : Nat) (a_this_plan_comers : Nat) (a_this_plan_names : Nat) (a_this_plan_code : Nat) (g_this_plan_code : Nat → Int32) (x_this_plan_size : Int32) (a_this_plan_spans : Nat) (x_this_fault : Int32) (x_this_place : Int32) (hg_this_text : ia g_this_text 1600 0 255) (hx_this_length : ib x_this_length 0 1600) (hx_this_at : ib x_this_at 0 1600) (hx_this_behind : ib x_this_behind 0 1600) (hx_this_sort : ib x_this_sort 0 4) (hx_this_plan_size : ib x_this_plan_size 0 1600) (hc0_this : ¬ x_this_sort = 0 → ib x_this_at 0 1599) : k_Met l yX5_test cX5_test 3 none { frames := 19, cells := 0, slots := 0, locals := 477 } dC dI cy sq [.ref a_this, .int 4] [(wo_5_riiiiirii a_this a_this_text x_this_length x_this_at x_this_behind x_this_sort x_this_allowed a_this_plan x_this_fault x_this_place), (wi_0_1600_0 a_this_text cy g_this_text), (wo_4_iiiiiiirrrirrrrrir a_this_plan x_this_plan_cycle x_this_plan_green x_this_plan_rule x_this_plan_least x_this_plan_away x_this_plan_statements x_this_plan_kinds a_this_plan_calm a_this_plan_pace a_this_plan_trusts x_this_plan_walkers a_this_plan_kindOf a_this_plan_comesAt a_this_plan_comers a_this_plan_names a_this_plan_code x_this_plan_size a_this_plan_spans), (wi_0_1600_0 a_this_plan_code cy g_this_plan_code)] (k_Qv dC dI (fun (u : Int32 × Int32 × Int32 × Int32 × Int32 × Int32 × (Nat → Int32)) => match u with | (n0, n1, n2, n3, n4, n5, n6) => ib n0 0 1600 ∧ ib n1 0 1600 ∧ ib n2 0 4 ∧ ib n5 0 1600 ∧ (¬ n2 = 0 → ib n0 0 1599) ∧ (F_X5_test_a0_4 (lf_A g_this_text) (Int32.toInt x_this_length) (Int32.toInt x_this_at) (Int32.toInt x_this_behind) (Int32.toInt x_this_sort) (Int32.toInt x_this_allowed) (lf_A g_this_plan_code) (Int32.toInt x_this_plan_size) (Int32.toInt x_this_fault) (Int32.toInt x_this_place) = ((Int32.toInt n0), (Int32.toInt n1), (Int32.toInt n2), (Int32.toInt n3), (Int32.toInt n4), (Int32.toInt n5), (lf_A n6)))) (fun u : Int32 × Int32 × Int32 × Int32 × Int32 × Int32 × (Nat → Int32) => match u with | (n0, n1, n2, n3, n4, n5, n6) => [(wo_5_riiiiirii a_this a_this_text x_this_length n0 n1 n2 x_this_allowed a_this_plan n3 n4), (wi_0_1600_0 a_this_text cy g_this_text), (wo_4_iiiiiiirrrirrrrrir a_this_plan x_this_plan_cycle x_this_plan_green x_this_plan_rule x_this_plan_least x_this_plan_away x_this_plan_statements x_this_plan_kinds a_this_plan_calm a_this_plan_pace a_this_plan_trusts x_this_plan_walkers a_this_plan_kindOf a_this_plan_comesAt a_this_plan_comers a_this_plan_names a_this_plan_code n5 a_this_plan_spans), (wi_0_1600_0 a_this_plan_code cy n6)])) := by
  refine k_ofW2 (by decide +kernel) (Nat.le_of_ble_eq_true rfl) ?_
  intro p e s m below meth c A ls H locs args Q hQ C0 hZ hr hlk hin hP hD hA hS hl
  have C0 : k_cx p s m args c cX5_test 3 RX5 dC dI cy sq := C0
  have hx := C0.1
  have hb := C0.2.1
  have hl : lv_has ls 3 [(0, .ref a_this), (1, .int 4)] := hl
  obtain ⟨O, hO⟩ : ∃ o, o = F_X5_test_a0_4 (lf_A g_this_text) (Int32.toInt x_this_length) (Int32.toInt x_this_at) (Int32.toInt x_this_behind) (Int32.toInt x_this_sort) (Int32.toInt x_this_allowed) (lf_A g_this_plan_code) (Int32.toInt x_this_plan_size) (Int32.toInt x_this_fault) (Int32.toInt x_this_place) := ⟨_, rfl⟩
  have hq := hO
  unfold F_X5_test_a0_4 at hq
  have jn7 : ∀ (n : Nat) (J7_c0_2 : Int32) (J7_c0_3 : Int32) (J7_c0_4 : Int32) (J7_c0_7 : Int32) (J7_c0_8 : Int32) (J7_c2_16 : Int32) (J7_a3 : Nat → Int32) (J7_l2 : Int32) (H : Heap) (locs : List Loc) (ls : Array Slot), ib J7_c0_2 0 1600 → ib J7_c0_3 0 1600 → ib J7_c0_4 0 4 → ib J7_c2_16 0 1600 → ib J7_l2 0 1600 → (¬ J7_c0_4 = 0 → ib J7_c0_2 0 1599) → (O = F_X5_test_a0_4_7 (lf_A g_this_text) (Int32.toInt x_this_length) (Int32.toInt x_this_allowed) n (Int32.toInt J7_c0_2) (Int32.toInt J7_c0_3) (Int32.toInt J7_c0_4) (Int32.toInt J7_c0_7) (Int32.toInt J7_c0_8) (Int32.toInt J7_c2_16) (lf_A J7_a3) (Int32.toInt J7_l2)) → 1601 ≤ J7_l2.toInt + (n : Int) → va_P (dC, dI) vwCl [(wo_5_riiiiirii a_this a_this_text x_this_length J7_c0_2 J7_c0_3 J7_c0_4 x_this_allowed a_this_plan J7_c0_7 J7_c0_8), (wi_0_1600_0 a_this_text cy g_this_text), (wo_4_iiiiiiirrrirrrrrir a_this_plan x_this_plan_cycle x_this_plan_green x_this_plan_rule x_this_plan_least x_this_plan_away x_this_plan_statements x_this_plan_kinds a_this_plan_calm a_this_plan_pace a_this_plan_trusts x_this_plan_walkers a_this_plan_kindOf a_this_plan_comesAt a_this_plan_comers a_this_plan_names a_this_plan_code J7_c2_16 a_this_plan_spans), (wi_0_1600_0 a_this_plan_code cy J7_a3)] H → va_D A [(wo_5_riiiiirii a_this a_this_text x_this_length J7_c0_2 J7_c0_3 J7_c0_4 x_this_allowed a_this_plan J7_c0_7 J7_c0_8), (wi_0_1600_0 a_this_text cy g_this_text), (wo_4_iiiiiiirrrirrrrrir a_this_plan x_this_plan_cycle x_this_plan_green x_this_plan_rule x_this_plan_least x_this_plan_away x_this_plan_statements x_this_plan_kinds a_this_plan_calm a_this_plan_pace a_this_plan_trusts x_this_plan_walkers a_this_plan_kindOf a_this_plan_comesAt a_this_plan_comers a_this_plan_names a_this_plan_code J7_c2_16 a_this_plan_spans), (wi_0_1600_0 a_this_plan_code cy J7_a3)] → va_S A s.heap H locs → lv_has ls 3 [(0, .ref a_this), (1, .int 4), (2, .int J7_l2)] → W p l e { frames := 19, cells := 0, slots := 0, locals := 477 } s m args below meth c H locs 0 0 Q (F0 m 7 ls []) := by
    as_aux_lemma =>
      intro n
      induction n with
      | zero =>
        intro J7_c0_2 J7_c0_3 J7_c0_4 J7_c0_7 J7_c0_8 J7_c2_16 J7_a3 J7_l2 H locs ls hJ7_c0_2 hJ7_c0_3 hJ7_c0_4 hJ7_c2_16 hJ7_l2 hJ7_ic0_0 hq hm
        exact absurd hm (by have := hJ7_l2; unfold ib at this; omega)
      | succ n ih =>
        intro J7_c0_2 J7_c0_3 J7_c0_4 J7_c0_7 J7_c0_8 J7_c2_16 J7_a3 J7_l2 H locs ls hJ7_c0_2 hJ7_c0_3 hJ7_c0_4 hJ7_c2_16 hJ7_l2 hJ7_ic0_0 hq hm7 hP hD hS hl
        have ih7 := ih
        obtain ⟨K7, hK7⟩ : ∃ K, K = F_X5_test_a0_4_7 (lf_A g_this_text) (Int32.toInt x_this_length) (Int32.toInt x_this_allowed) n := ⟨_, rfl⟩
        have hq : O = F_X5_test_a0_4_7b (lf_A g_this_text) (Int32.toInt x_this_length) (Int32.toInt x_this_allowed) K7 (Int32.toInt J7_c0_2) (Int32.toInt J7_c0_3) (Int32.toInt J7_c0_4) (Int32.toInt J7_c0_7) (Int32.toInt J7_c0_8) (Int32.toInt J7_c2_16) (lf_A J7_a3) (Int32.toInt J7_l2) := by rw [hK7]; exact hq
        unfold F_X5_test_a0_4_7b at hq
        refine lv_iload_n hx hb dX5_test_7 rfl (lv_at hl 2 rfl) ?_
        refine lv_sipush (v := 1600) hx hb dX5_test_8 rfl ?_
        refine lv_icmp_ge (tgt := 40) hx hb dX5_test_11 rfl (fun c1 => ?_) (fun c1 => ?_)
        · replace hq := lf_pos hq (lf_le (lf_lc 1600 (1600 : Int) rfl) (lf_rf J7_l2) c1)
          have h2 := ib_le (ib_c 1600 1600 1600 rfl) hJ7_l2 c1
          have h3 : ib J7_l2 1600 1600 := ib_w 1600 1600 h2.2 rfl
          subst hQ; exact k_vret hx hb hr hlk ((J7_c0_2, J7_c0_3, J7_c0_4, J7_c0_7, J7_c0_8, J7_c2_16, J7_a3)) hS ⟨ib_w 0 1600 hJ7_c0_2 rfl, ib_w 0 1600 hJ7_c0_3 rfl, ib_w 0 4 hJ7_c0_4 rfl, ib_w 0 1600 hJ7_c2_16 rfl, fun hq9 => ib_w 0 1599 (hJ7_ic0_0 hq9) rfl, (hO.symm.trans (by exact hq))⟩ hP hD (Nat.le_of_ble_eq_true rfl) (Nat.le_of_ble_eq_true rfl) dX5_test_40
        · as_aux_lemma =>
            replace hq := lf_neg hq (lf_nle (lf_lc 1600 (1600 : Int) rfl) (lf_rf J7_l2) c1)
            have h4 := ib_nle (ib_c 1600 1600 1600 rfl) hJ7_l2 c1
            have h5 : ib J7_l2 0 1599 := ib_w 0 1599 h4.2 rfl
            refine lv_aload_n hx hb dX5_test_14 rfl (lv_at hl 0 rfl) ?_
            refine va_ldcS hx hb C0.2.2.2.1 (C0.2.2.2.2.2.2.2.2.2.2.2.2 13 (by decide)) dX5_test_15 ?_
            refine k_jim hP hD hS hA [0, 1] [false, false, true, true] rfl rfl rfl 0 0 (Nat.le_of_ble_eq_true rfl) (Nat.le_of_ble_eq_true rfl) (fun hPc hDc => k_runV (As := [.ref (sq 13)]) (rest := []) C0 hZ hS hA (s_X5_takeWord_s13 l dC dI cy sq a_this a_this_text g_this_text x_this_length J7_c0_2 J7_c0_3 J7_c0_4 x_this_allowed a_this_plan J7_c0_7 J7_c0_8 hg_this_text (ib_w 0 1600 hx_this_length rfl) (ib_w 0 1600 hJ7_c0_2 rfl) (ib_w 0 1600 hJ7_c0_3 rfl) (ib_w 0 4 hJ7_c0_4 rfl) (fun hq9 => ib_w 0 1599 (hJ7_ic0_0 hq9) rfl)) mV_X5_195 hPc hDc rfl rfl rfl hl rfl rfl (Nat.le_of_ble_eq_true rfl) ⟨(Nat.le_of_ble_eq_true rfl), (Nat.le_of_ble_eq_true rfl)⟩ ⟨(Nat.le_of_ble_eq_true rfl), (Nat.le_of_ble_eq_true rfl)⟩ dX5_test_17) (fun r6 u7 H locs hw hP hD hS => ?_)
            obtain ⟨v8, v9, v10⟩ := u7
            try dsimp only at hP hD hw
            replace hP : va_P (dC, dI) vwCl [(wo_4_iiiiiiirrrirrrrrir a_this_plan x_this_plan_cycle x_this_plan_green x_this_plan_rule x_this_plan_least x_this_plan_away x_this_plan_statements x_this_plan_kinds a_this_plan_calm a_this_plan_pace a_this_plan_trusts x_this_plan_walkers a_this_plan_kindOf a_this_plan_comesAt a_this_plan_comers a_this_plan_names a_this_plan_code J7_c2_16 a_this_plan_spans), (wi_0_1600_0 a_this_plan_code cy J7_a3), (wo_5_riiiiirii a_this a_this_text x_this_length v8 v9 v10 x_this_allowed a_this_plan J7_c0_7 J7_c0_8), (wi_0_1600_0 a_this_text cy g_this_text)] H := hP
            replace hD := k_D hP hD
            obtain ⟨h11, h12, h13, h14, h15, h16⟩ := hw
            replace hq := lf_p1 hq h16
            replace hq := lf_p1 hq rfl
            replace hq := lf_p1 hq rfl
            refine lv_if_eq (tgt := 40) hx hb dX5_test_20 rfl (fun c17 => ?_) (fun c17 => ?_)
            · replace hq := lf_pos hq (lf_eq (lf_rf r6) (lf_lc 0 (0 : Int) rfl) c17)
              have h18 := ib_eq h11 (ib_c 0 0 0 rfl) c17
              have h19 : ib r6 0 0 := ib_w 0 0 h18.1 rfl
              subst hQ; exact k_vret hx hb hr hlk ((v8, v9, v10, J7_c0_7, J7_c0_8, J7_c2_16, J7_a3)) hS ⟨ib_w 0 1600 h12 rfl, ib_w 0 1600 h13 rfl, ib_w 0 4 h14 rfl, ib_w 0 1600 hJ7_c2_16 rfl, fun hq9 => ib_w 0 1599 (h15 hq9) rfl, (hO.symm.trans (by exact hq))⟩ (hP.sub [2, 3, 0, 1] rfl) (hD.sub [2, 3, 0, 1] rfl rfl) (Nat.le_of_ble_eq_true rfl) (Nat.le_of_ble_eq_true rfl) dX5_test_40
            · as_aux_lemma =>
                replace hq := lf_neg hq (lf_ne (lf_rf r6) (lf_lc 0 (0 : Int) rfl) c17)
                have h20 : ib r6 1 1 := ib_w 1 1 (ib_ne_lo 0 h11 rfl c17) rfl
                refine lv_aload_n hx hb dX5_test_23 rfl (lv_at hl 0 rfl) ?_
                refine lv_iload_n hx hb dX5_test_24 rfl (lv_at hl 1 rfl) ?_
                refine k_jvm hP hD hS hA [2, 3, 0, 1] [] rfl rfl rfl 0 0 (Nat.le_of_ble_eq_true rfl) (Nat.le_of_ble_eq_true rfl) (fun hPc hDc => k_runV (As := [.int 4]) (rest := []) C0 hZ hS hA (s_X5_both_a0_4 l dC dI cy sq a_this a_this_text g_this_text x_this_length v8 v9 v10 x_this_allowed a_this_plan x_this_plan_cycle x_this_plan_green x_this_plan_rule x_this_plan_least x_this_plan_away x_this_plan_statements x_this_plan_kinds a_this_plan_calm a_this_plan_pace a_this_plan_trusts x_this_plan_walkers a_this_plan_kindOf a_this_plan_comesAt a_this_plan_comers a_this_plan_names a_this_plan_code J7_a3 J7_c2_16 a_this_plan_spans J7_c0_7 J7_c0_8 hg_this_text (ib_w 0 1600 hx_this_length rfl) (ib_w 0 1600 h12 rfl) (ib_w 0 1600 h13 rfl) (ib_w 0 4 h14 rfl) (ib_w 0 1600 hJ7_c2_16 rfl) (fun hq9 => ib_w 0 1599 (h15 hq9) rfl)) mV_X5_190 hPc hDc rfl rfl rfl hl rfl rfl (Nat.le_of_ble_eq_true rfl) ⟨(Nat.le_of_ble_eq_true rfl), (Nat.le_of_ble_eq_true rfl)⟩ ⟨(Nat.le_of_ble_eq_true rfl), (Nat.le_of_ble_eq_true rfl)⟩ dX5_test_25) (fun u22 H locs hw hP hD hS => ?_)
                obtain ⟨v23, v24, v25, v26, v27, v28, f29⟩ := u22
                try dsimp only at hP hD hw
                replace hP : va_P (dC, dI) vwCl [(wo_5_riiiiirii a_this a_this_text x_this_length v23 v24 v25 x_this_allowed a_this_plan v26 v27), (wi_0_1600_0 a_this_text cy g_this_text), (wo_4_iiiiiiirrrirrrrrir a_this_plan x_this_plan_cycle x_this_plan_green x_this_plan_rule x_this_plan_least x_this_plan_away x_this_plan_statements x_this_plan_kinds a_this_plan_calm a_this_plan_pace a_this_plan_trusts x_this_plan_walkers a_this_plan_kindOf a_this_plan_comesAt a_this_plan_comers a_this_plan_names a_this_plan_code v28 a_this_plan_spans), (wi_0_1600_0 a_this_plan_code cy f29)] H := hP
                replace hD := k_D hP hD
                obtain ⟨h30, h31, h32, h33, h34, h35⟩ := hw
                replace hq := lf_p1 hq h35
                replace hq := lf_p1 hq rfl
                replace hq := lf_p1 hq rfl
                replace hq := lf_p1 hq rfl
                replace hq := lf_p1 hq rfl
                replace hq := lf_p1 hq rfl
                refine lv_aload_n hx hb dX5_test_28 rfl (lv_at hl 0 rfl) ?_
                refine lv_bipush (v := (-30)) hx hb dX5_test_29 rfl ?_
                refine k_jvm hP hD hS hA [0, 2, 3] [false, true] rfl rfl rfl 0 0 (Nat.le_of_ble_eq_true rfl) (Nat.le_of_ble_eq_true rfl) (fun hPc hDc => k_runV (As := [.int (-30)]) (rest := []) C0 hZ hS hA (s_X5_emit l dC dI cy sq a_this a_this_text x_this_length v23 v24 v25 x_this_allowed a_this_plan x_this_plan_cycle x_this_plan_green x_this_plan_rule x_this_plan_least x_this_plan_away x_this_plan_statements x_this_plan_kinds a_this_plan_calm a_this_plan_pace a_this_plan_trusts x_this_plan_walkers a_this_plan_kindOf a_this_plan_comesAt a_this_plan_comers a_this_plan_names a_this_plan_code f29 v28 a_this_plan_spans v26 v27 (-30) (ib_w 0 1600 h33 rfl)) mV_X5_199 hPc hDc rfl rfl rfl hl rfl rfl (Nat.le_of_ble_eq_true rfl) ⟨(Nat.le_of_ble_eq_true rfl), (Nat.le_of_ble_eq_true rfl)⟩ ⟨(Nat.le_of_ble_eq_true rfl), (Nat.le_of_ble_eq_true rfl)⟩ dX5_test_31) (fun u37 H locs hw hP hD hS => ?_)
                obtain ⟨v38, f39⟩ := u37
                try dsimp only at hP hD hw
                replace hP : va_P (dC, dI) vwCl [(wi_0_1600_0 a_this_text cy g_this_text), (wo_5_riiiiirii a_this a_this_text x_this_length v23 v24 v25 x_this_allowed a_this_plan v26 v27), (wo_4_iiiiiiirrrirrrrrir a_this_plan x_this_plan_cycle x_this_plan_green x_this_plan_rule x_this_plan_least x_this_plan_away x_this_plan_statements x_this_plan_kinds a_this_plan_calm a_this_plan_pace a_this_plan_trusts x_this_plan_walkers a_this_plan_kindOf a_this_plan_comesAt a_this_plan_comers a_this_plan_names a_this_plan_code v38 a_this_plan_spans), (wi_0_1600_0 a_this_plan_code cy f39)] H := hP
                replace hD := k_D hP hD
                obtain ⟨h40, h41⟩ := hw
                have h41 := by have h9 := h41; try simp only [show ((-30) : Int32).toInt = (-30 : Int) from rfl] at h9; exact h9
                replace hq := lf_p1 hq h41
                obtain ⟨z42, ez42⟩ : ∃ y : Int32, y = J7_l2 + 1 := ⟨_, rfl⟩
                refine lv_iinc (v := z42) (lv' := [(2, .int z42), (0, .ref a_this), (1, .int 4)]) hx hb dX5_test_34 hl (k := 2) rfl (by rw [ez42]; rfl) (Nat.le_of_ble_eq_true rfl) rfl (fun ls hl => ?_)
                have h43 := ib_add h5 (ib_c 1 1 1 rfl) rfl
                rw [← ez42] at h43
                have h44 : ib z42 1 1600 := ib_w 1 1600 h43.1 rfl
                have Ez42 := lf_add h43.2 (lf_rf J7_l2) (lf_lc 1 (1 : Int) rfl)
                refine lv_goto (tgt := 7) hx hb dX5_test_37 rfl ?_
                exact ih7 v23 v24 v25 v26 v27 v38 f39 z42 H locs ls (ib_w 0 1600 h30 rfl) (ib_w 0 1600 h31 rfl) (ib_w 0 4 h32 rfl) (ib_w 0 1600 h40 rfl) (ib_w 0 1600 h44 rfl) (fun hq9 => ib_w 0 1599 (h34 hq9) rfl) (by rw [← hK7]; rw [lf_u Ez42]; exact hq) (by have := h43.2; have : (1 : Int32).toInt = 1 := rfl; omega) (hP.sub [1, 0, 2, 3] rfl) (hD.sub [1, 0, 2, 3] rfl rfl) hS (lv_sub hl [1, 2, 0] rfl)
  refine lv_aload_n hx hb dX5_test_0 rfl (lv_at hl 0 rfl) ?_
  refine lv_iload_n hx hb dX5_test_1 rfl (lv_at hl 1 rfl) ?_
  refine k_jvm hP hD hS hA [0, 1, 2, 3] [] rfl rfl rfl 0 0 (Nat.le_of_ble_eq_true rfl) (Nat.le_of_ble_eq_true rfl) (fun hPc hDc => k_runV (As := [.int 4]) (rest := []) C0 hZ hS hA (s_X5_both_a0_4 l dC dI cy sq a_this a_this_text g_this_text x_this_length x_this_at x_this_behind x_this_sort x_this_allowed a_this_plan x_this_plan_cycle x_this_plan_green x_this_plan_rule x_this_plan_least x_this_plan_away x_this_plan_statements x_this_plan_kinds a_this_plan_calm a_this_plan_pace a_this_plan_trusts x_this_plan_walkers a_this_plan_kindOf a_this_plan_comesAt a_this_plan_comers a_this_plan_names a_this_plan_code g_this_plan_code x_this_plan_size a_this_plan_spans x_this_fault x_this_place hg_this_text (ib_w 0 1600 hx_this_length rfl) (ib_w 0 1600 hx_this_at rfl) (ib_w 0 1600 hx_this_behind rfl) (ib_w 0 4 hx_this_sort rfl) (ib_w 0 1600 hx_this_plan_size rfl) (fun hq9 => ib_w 0 1599 (hc0_this hq9) rfl)) mV_X5_190 hPc hDc rfl rfl rfl hl rfl rfl (Nat.le_of_ble_eq_true rfl) ⟨(Nat.le_of_ble_eq_true rfl), (Nat.le_of_ble_eq_true rfl)⟩ ⟨(Nat.le_of_ble_eq_true rfl), (Nat.le_of_ble_eq_true rfl)⟩ dX5_test_2) (fun u46 H locs hw hP hD hS => ?_)
  obtain ⟨v47, v48, v49, v50, v51, v52, f53⟩ := u46
  try dsimp only at hP hD hw
  replace hP : va_P (dC, dI) vwCl [(wo_5_riiiiirii a_this a_this_text x_this_length v47 v48 v49 x_this_allowed a_this_plan v50 v51), (wi_0_1600_0 a_this_text cy g_this_text), (wo_4_iiiiiiirrrirrrrrir a_this_plan x_this_plan_cycle x_this_plan_green x_this_plan_rule x_this_plan_least x_this_plan_away x_this_plan_statements x_this_plan_kinds a_this_plan_calm a_this_plan_pace a_this_plan_trusts x_this_plan_walkers a_this_plan_kindOf a_this_plan_comesAt a_this_plan_comers a_this_plan_names a_this_plan_code v52 a_this_plan_spans), (wi_0_1600_0 a_this_plan_code cy f53)] H := hP
  replace hD := k_D hP hD
  obtain ⟨h54, h55, h56, h57, h58, h59⟩ := hw
  replace hq := lf_p1 hq h59
  replace hq := lf_p1 hq rfl
  replace hq := lf_p1 hq rfl
  replace hq := lf_p1 hq rfl
  replace hq := lf_p1 hq rfl
  replace hq := lf_p1 hq rfl
  refine lv_iconst (v := 0) hx hb dX5_test_5 rfl ?_
  refine lv_istore_n (lv' := [(2, .int 0), (0, .ref a_this), (1, .int 4)]) hx hb dX5_test_6 rfl hl (Nat.le_of_ble_eq_true rfl) rfl (fun ls hl => ?_)
  exact jn7 1602 v47 v48 v49 v50 v51 v52 f53 0 H locs ls (ib_w 0 1600 h54 rfl) (ib_w 0 1600 h55 rfl) (ib_w 0 4 h56 rfl) (ib_w 0 1600 h57 rfl) (ib_w 0 1600 (ib_c 0 0 0 rfl) rfl) (fun hq9 => ib_w 0 1599 (h58 hq9) rfl) (by try simp only [show (0 : Int32).toInt = (0 : Int) from rfl]; exact hq) (by have := (ib_c 0 0 0 rfl); unfold ib at this; omega) hP hD hS (lv_sub hl [1, 2, 0] rfl)
set_option maxHeartbeats 4000000 in
set_option maxRecDepth 100000 in
theorem s_X5_fact_a0_3 (l : Launch) (dC : Nat → ClassId) (dI : Nat → Nat → Nat) (cy : Nat → ClassId) (sq : Nat → Nat) (a_this : Nat) (a_this_text : Nat) (g_this_text : Nat → Int32) (x_this_length : Int32) (x_this_at : Int32) (x_this_behind : Int32) (x_this_sort : Int32) (x_this_allowed : Int32) (a_this_plan : Nat) (x_this_plan_cycle : Int32) (x_this_plan_green : Int32) (x_this_plan_rule : Int32) (x_this_plan_least : Int32) (x_this_plan_away : Int32) (x_this_plan_statements : Int32) (x_this_plan_kinds : Int32) (a_this_plan_calm : Nat) (a_this_plan_pace : Nat) (a_this_plan_trusts : Nat) (x_this_plan_walkers : Int32) (a_this_plan_kindOf : Nat) (a_this_plan_comesAt : Nat) (a_this_plan_comers : Nat) (a_this_plan_names : Nat) (a_this_plan_code : Nat) (g_this_plan_code : Nat → Int32) (x_this_plan_size : Int32) (a_this_plan_spans : Nat) (x_this_fault : Int32) (x_this_place : Int32) (hg_this_text : ia g_this_text 1600 0 255) (hx_this_length : ib x_this_length 0 1600) (hx_this_at : ib x_this_at 0 1600) (hx_this_behind : ib x_this_behind 0 1600) (hx_this_sort : ib x_this_sort 0 4) (hx_this_plan_size : ib x_this_plan_size 0 1600) (hc0_this : ¬ x_this_sort = 0 → ib x_this_at 0 1599) : k_Met l yX5_fact cX5_fact 3 none { frames := 21, cells := 0, slots := 0, locals := 522 } dC dI cy sq [.ref a_this, .int 3] [(wo_5_riiiiirii a_this a_this_text x_this_length x_this_at x_this_behind x_this_sort x_this_allowed a_this_plan x_this_fault x_this_place), (wi_0_1600_0 a_this_text cy g_this_text), (wo_4_iiiiiiirrrirrrrrir a_this_plan x_this_plan_cycle x_this_plan_green x_this_plan_rule x_this_plan_least x_this_plan_away x_this_plan_statements x_this_plan_kinds a_this_plan_calm a_this_plan_pace a_this_plan_trusts x_this_plan_walkers a_this_plan_kindOf a_this_plan_comesAt a_this_plan_comers a_this_plan_names a_this_plan_code x_this_plan_size a_this_plan_spans), (wi_0_1600_0 a_this_plan_code cy g_this_plan_code)] (k_Qv dC dI (fun (u : Int32 × Int32 × Int32 × Int32 × Int32 × Int32 × (Nat → Int32)) => match u with | (n0, n1, n2, n3, n4, n5, n6) => ib n0 0 1600 ∧ ib n1 0 1600 ∧ ib n2 0 4 ∧ ib n5 0 1600 ∧ (¬ n2 = 0 → ib n0 0 1599) ∧ (F_X5_fact_a0_3 (lf_A g_this_text) (Int32.toInt x_this_length) (Int32.toInt x_this_at) (Int32.toInt x_this_behind) (Int32.toInt x_this_sort) (Int32.toInt x_this_allowed) (lf_A g_this_plan_code) (Int32.toInt x_this_plan_size) (Int32.toInt x_this_fault) (Int32.toInt x_this_place) = ((Int32.toInt n0), (Int32.toInt n1), (Int32.toInt n2), (Int32.toInt n3), (Int32.toInt n4), (Int32.toInt n5), (lf_A n6)))) (fun u : Int32 × Int32 × Int32 × Int32 × Int32 × Int32 × (Nat → Int32) => match u with | (n0, n1, n2, n3, n4, n5, n6) => [(wo_5_riiiiirii a_this a_this_text x_this_length n0 n1 n2 x_this_allowed a_this_plan n3 n4), (wi_0_1600_0 a_this_text cy g_this_text), (wo_4_iiiiiiirrrirrrrrir a_this_plan x_this_plan_cycle x_this_plan_green x_this_plan_rule x_this_plan_least x_this_plan_away x_this_plan_statements x_this_plan_kinds a_this_plan_calm a_this_plan_pace a_this_plan_trusts x_this_plan_walkers a_this_plan_kindOf a_this_plan_comesAt a_this_plan_comers a_this_plan_names a_this_plan_code n5 a_this_plan_spans), (wi_0_1600_0 a_this_plan_code cy n6)])) := by
  refine k_ofW2 (by decide +kernel) (Nat.le_of_ble_eq_true rfl) ?_
  intro p e s m below meth c A ls H locs args Q hQ C0 hZ hr hlk hin hP hD hA hS hl
  have C0 : k_cx p s m args c cX5_fact 3 RX5 dC dI cy sq := C0
  have hx := C0.1
  have hb := C0.2.1
  have hl : lv_has ls 3 [(0, .ref a_this), (1, .int 3)] := hl
  obtain ⟨O, hO⟩ : ∃ o, o = F_X5_fact_a0_3 (lf_A g_this_text) (Int32.toInt x_this_length) (Int32.toInt x_this_at) (Int32.toInt x_this_behind) (Int32.toInt x_this_sort) (Int32.toInt x_this_allowed) (lf_A g_this_plan_code) (Int32.toInt x_this_plan_size) (Int32.toInt x_this_fault) (Int32.toInt x_this_place) := ⟨_, rfl⟩
  have hq := hO
  unfold F_X5_fact_a0_3 at hq
  refine lv_aload_n hx hb dX5_fact_0 rfl (lv_at hl 0 rfl) ?_
  refine va_ldcS hx hb C0.2.2.2.1 (C0.2.2.2.2.2.2.2.2.2.2.2.2 15 (by decide)) dX5_fact_1 ?_
  refine k_jim hP hD hS hA [0, 1] [false, false, true, true] rfl rfl rfl 0 0 (Nat.le_of_ble_eq_true rfl) (Nat.le_of_ble_eq_true rfl) (fun hPc hDc => k_runV (As := [.ref (sq 15)]) (rest := []) C0 hZ hS hA (s_X5_wordIn_s15 l dC dI cy sq a_this a_this_text g_this_text x_this_length x_this_at x_this_behind x_this_sort x_this_allowed a_this_plan x_this_fault x_this_place hg_this_text (ib_w 0 1600 hx_this_at rfl) (ib_w 0 1600 hx_this_behind rfl) (ib_w 0 4 hx_this_sort rfl) (fun hq9 => ib_w 0 1599 (hc0_this hq9) rfl)) mV_X5_54 hPc hDc rfl rfl rfl hl rfl rfl (Nat.le_of_ble_eq_true rfl) ⟨(Nat.le_of_ble_eq_true rfl), (Nat.le_of_ble_eq_true rfl)⟩ ⟨(Nat.le_of_ble_eq_true rfl), (Nat.le_of_ble_eq_true rfl)⟩ dX5_fact_3) (fun r1 u2 H locs hw hP hD hS => ?_)
  try dsimp only at hP hD hw
  replace hP : va_P (dC, dI) vwCl [(wo_4_iiiiiiirrrirrrrrir a_this_plan x_this_plan_cycle x_this_plan_green x_this_plan_rule x_this_plan_least x_this_plan_away x_this_plan_statements x_this_plan_kinds a_this_plan_calm a_this_plan_pace a_this_plan_trusts x_this_plan_walkers a_this_plan_kindOf a_this_plan_comesAt a_this_plan_comers a_this_plan_names a_this_plan_code x_this_plan_size a_this_plan_spans), (wi_0_1600_0 a_this_plan_code cy g_this_plan_code), (wo_5_riiiiirii a_this a_this_text x_this_length x_this_at x_this_behind x_this_sort x_this_allowed a_this_plan x_this_fault x_this_place), (wi_0_1600_0 a_this_text cy g_this_text)] H := hP
  replace hD := k_D hP hD
  have h3 := hw
  replace hq := lf_b1 hq h3
  refine lv_iconst (v := (-1)) hx hb dX5_fact_6 rfl ?_
  refine lv_icmp_eq (tgt := 34) hx hb dX5_fact_7 rfl (fun c4 => ?_) (fun c4 => ?_)
  · as_aux_lemma =>
      replace hq := lf_pos hq (lf_eq (lf_rf r1) (lf_lc (-1) (-1 : Int) rfl) c4)
      have h5 := ib_eq (ib_any r1) (ib_c (-1) (-1) (-1) rfl) c4
      have h6 : ib r1 (-1) (-1) := ib_w (-1) (-1) h5.1 rfl
      refine lv_aload_n hx hb dX5_fact_34 rfl (lv_at hl 0 rfl) ?_
      refine lv_bipush (v := 91) hx hb dX5_fact_35 rfl ?_
      refine k_jim hP hD hS hA [2, 3] [true, true] rfl rfl rfl 0 0 (Nat.le_of_ble_eq_true rfl) (Nat.le_of_ble_eq_true rfl) (fun hPc hDc => k_runV (As := [.int 91]) (rest := []) C0 hZ hS hA (s_X5_sees l dC dI cy sq a_this a_this_text g_this_text x_this_length x_this_at x_this_behind x_this_sort x_this_allowed a_this_plan x_this_fault x_this_place 91 hg_this_text (ib_w 0 1600 hx_this_at rfl) (ib_w 0 4 hx_this_sort rfl) (fun hq9 => ib_w 0 1599 (hc0_this hq9) rfl)) mV_X5_213 hPc hDc rfl rfl rfl hl rfl rfl (Nat.le_of_ble_eq_true rfl) ⟨(Nat.le_of_ble_eq_true rfl), (Nat.le_of_ble_eq_true rfl)⟩ ⟨(Nat.le_of_ble_eq_true rfl), (Nat.le_of_ble_eq_true rfl)⟩ dX5_fact_37) (fun r7 u8 H locs hw hP hD hS => ?_)
      try dsimp only at hP hD hw
      replace hP : va_P (dC, dI) vwCl [(wo_4_iiiiiiirrrirrrrrir a_this_plan x_this_plan_cycle x_this_plan_green x_this_plan_rule x_this_plan_least x_this_plan_away x_this_plan_statements x_this_plan_kinds a_this_plan_calm a_this_plan_pace a_this_plan_trusts x_this_plan_walkers a_this_plan_kindOf a_this_plan_comesAt a_this_plan_comers a_this_plan_names a_this_plan_code x_this_plan_size a_this_plan_spans), (wi_0_1600_0 a_this_plan_code cy g_this_plan_code), (wo_5_riiiiirii a_this a_this_text x_this_length x_this_at x_this_behind x_this_sort x_this_allowed a_this_plan x_this_fault x_this_place), (wi_0_1600_0 a_this_text cy g_this_text)] H := hP
      replace hD := k_D hP hD
      obtain ⟨h9, h10, h11, h12, h13⟩ := hw
      have h13 := by have h9 := h13; try simp only [show (91 : Int32).toInt = (91 : Int) from rfl] at h9; exact h9
      replace hq := lf_b1 hq h13
      refine lv_if_eq (tgt := 67) hx hb dX5_fact_40 rfl (fun c14 => ?_) (fun c14 => ?_)
      · as_aux_lemma =>
          replace hq := lf_pos hq (lf_eq (lf_rf r7) (lf_lc 0 (0 : Int) rfl) c14)
          have h15 := ib_eq h9 (ib_c 0 0 0 rfl) c14
          have h16 : ib r7 0 0 := ib_w 0 0 h15.1 rfl
          refine lv_aload_n hx hb dX5_fact_67 rfl (lv_at hl 0 rfl) ?_
          refine va_ldcS hx hb C0.2.2.2.1 (C0.2.2.2.2.2.2.2.2.2.2.2.2 16 (by decide)) dX5_fact_68 ?_
          refine k_jim hP hD hS hA [2, 3] [true, true] rfl rfl rfl 0 0 (Nat.le_of_ble_eq_true rfl) (Nat.le_of_ble_eq_true rfl) (fun hPc hDc => k_runV (As := [.ref (sq 16)]) (rest := []) C0 hZ hS hA (s_X5_takeWord_s16 l dC dI cy sq a_this a_this_text g_this_text x_this_length x_this_at x_this_behind x_this_sort x_this_allowed a_this_plan x_this_fault x_this_place hg_this_text (ib_w 0 1600 hx_this_length rfl) (ib_w 0 1600 hx_this_at rfl) (ib_w 0 1600 hx_this_behind rfl) (ib_w 0 4 hx_this_sort rfl) (fun hq9 => ib_w 0 1599 (hc0_this hq9) rfl)) mV_X5_195 hPc hDc rfl rfl rfl hl rfl rfl (Nat.le_of_ble_eq_true rfl) ⟨(Nat.le_of_ble_eq_true rfl), (Nat.le_of_ble_eq_true rfl)⟩ ⟨(Nat.le_of_ble_eq_true rfl), (Nat.le_of_ble_eq_true rfl)⟩ dX5_fact_70) (fun r17 u18 H locs hw hP hD hS => ?_)
          obtain ⟨v19, v20, v21⟩ := u18
          try dsimp only at hP hD hw
          replace hP : va_P (dC, dI) vwCl [(wo_4_iiiiiiirrrirrrrrir a_this_plan x_this_plan_cycle x_this_plan_green x_this_plan_rule x_this_plan_least x_this_plan_away x_this_plan_statements x_this_plan_kinds a_this_plan_calm a_this_plan_pace a_this_plan_trusts x_this_plan_walkers a_this_plan_kindOf a_this_plan_comesAt a_this_plan_comers a_this_plan_names a_this_plan_code x_this_plan_size a_this_plan_spans), (wi_0_1600_0 a_this_plan_code cy g_this_plan_code), (wo_5_riiiiirii a_this a_this_text x_this_length v19 v20 v21 x_this_allowed a_this_plan x_this_fault x_this_place), (wi_0_1600_0 a_this_text cy g_this_text)] H := hP
          replace hD := k_D hP hD
          obtain ⟨h22, h23, h24, h25, h26, h27⟩ := hw
          replace hq := lf_p1 hq h27
          replace hq := lf_p1 hq rfl
          replace hq := lf_p1 hq rfl
          refine lv_if_eq (tgt := 84) hx hb dX5_fact_73 rfl (fun c28 => ?_) (fun c28 => ?_)
          · as_aux_lemma =>
              replace hq := lf_pos hq (lf_eq (lf_rf r17) (lf_lc 0 (0 : Int) rfl) c28)
              have h29 := ib_eq h22 (ib_c 0 0 0 rfl) c28
              have h30 : ib r17 0 0 := ib_w 0 0 h29.1 rfl
              refine lv_aload_n hx hb dX5_fact_84 rfl (lv_at hl 0 rfl) ?_
              refine lv_iload_n hx hb dX5_fact_85 rfl (lv_at hl 1 rfl) ?_
              refine k_jvm hP hD hS hA [2, 3, 0, 1] [] rfl rfl rfl 0 0 (Nat.le_of_ble_eq_true rfl) (Nat.le_of_ble_eq_true rfl) (fun hPc hDc => k_runV (As := [.int 3]) (rest := []) C0 hZ hS hA (s_X5_sum_a0_3 l dC dI cy sq a_this a_this_text g_this_text x_this_length v19 v20 v21 x_this_allowed a_this_plan x_this_plan_cycle x_this_plan_green x_this_plan_rule x_this_plan_least x_this_plan_away x_this_plan_statements x_this_plan_kinds a_this_plan_calm a_this_plan_pace a_this_plan_trusts x_this_plan_walkers a_this_plan_kindOf a_this_plan_comesAt a_this_plan_comers a_this_plan_names a_this_plan_code g_this_plan_code x_this_plan_size a_this_plan_spans x_this_fault x_this_place hg_this_text (ib_w 0 1600 hx_this_length rfl) (ib_w 0 1600 h23 rfl) (ib_w 0 1600 h24 rfl) (ib_w 0 4 h25 rfl) (ib_w 0 1600 hx_this_plan_size rfl) (fun hq9 => ib_w 0 1599 (h26 hq9) rfl)) mV_X5_93 hPc hDc rfl rfl rfl hl rfl rfl (Nat.le_of_ble_eq_true rfl) ⟨(Nat.le_of_ble_eq_true rfl), (Nat.le_of_ble_eq_true rfl)⟩ ⟨(Nat.le_of_ble_eq_true rfl), (Nat.le_of_ble_eq_true rfl)⟩ dX5_fact_86) (fun u32 H locs hw hP hD hS => ?_)
              obtain ⟨v33, v34, v35, v36, v37, v38, f39⟩ := u32
              try dsimp only at hP hD hw
              replace hP : va_P (dC, dI) vwCl [(wo_5_riiiiirii a_this a_this_text x_this_length v33 v34 v35 x_this_allowed a_this_plan v36 v37), (wi_0_1600_0 a_this_text cy g_this_text), (wo_4_iiiiiiirrrirrrrrir a_this_plan x_this_plan_cycle x_this_plan_green x_this_plan_rule x_this_plan_least x_this_plan_away x_this_plan_statements x_this_plan_kinds a_this_plan_calm a_this_plan_pace a_this_plan_trusts x_this_plan_walkers a_this_plan_kindOf a_this_plan_comesAt a_this_plan_comers a_this_plan_names a_this_plan_code v38 a_this_plan_spans), (wi_0_1600_0 a_this_plan_code cy f39)] H := hP
              replace hD := k_D hP hD
              obtain ⟨h40, h41, h42, h43, h44, h45⟩ := hw
              replace hq := lf_p1 hq h45
              replace hq := lf_p1 hq rfl
              replace hq := lf_p1 hq rfl
              replace hq := lf_p1 hq rfl
              replace hq := lf_p1 hq rfl
              replace hq := lf_p1 hq rfl
              refine lv_aload_n hx hb dX5_fact_89 rfl (lv_at hl 0 rfl) ?_
              refine k_jim hP hD hS hA [0, 1] [false, false, true, true] rfl rfl rfl 0 0 (Nat.le_of_ble_eq_true rfl) (Nat.le_of_ble_eq_true rfl) (fun hPc hDc => k_runV (As := []) (rest := []) C0 hZ hS hA (s_X5_signHere l dC dI cy sq a_this a_this_text g_this_text x_this_length v33 v34 v35 x_this_allowed a_this_plan v36 v37 hg_this_text (ib_w 0 1600 hx_this_length rfl) (ib_w 0 1600 h40 rfl) (ib_w 0 1600 h41 rfl) (ib_w 0 4 h42 rfl) (fun hq9 => ib_w 0 1599 (h44 hq9) rfl)) mV_X5_219 hPc hDc rfl rfl rfl hl rfl rfl (Nat.le_of_ble_eq_true rfl) ⟨(Nat.le_of_ble_eq_true rfl), (Nat.le_of_ble_eq_true rfl)⟩ ⟨(Nat.le_of_ble_eq_true rfl), (Nat.le_of_ble_eq_true rfl)⟩ dX5_fact_90) (fun r46 u47 H locs hw hP hD hS => ?_)
              obtain ⟨v48, v49, v50, v51, v52⟩ := u47
              try dsimp only at hP hD hw
              replace hP : va_P (dC, dI) vwCl [(wo_4_iiiiiiirrrirrrrrir a_this_plan x_this_plan_cycle x_this_plan_green x_this_plan_rule x_this_plan_least x_this_plan_away x_this_plan_statements x_this_plan_kinds a_this_plan_calm a_this_plan_pace a_this_plan_trusts x_this_plan_walkers a_this_plan_kindOf a_this_plan_comesAt a_this_plan_comers a_this_plan_names a_this_plan_code v38 a_this_plan_spans), (wi_0_1600_0 a_this_plan_code cy f39), (wo_5_riiiiirii a_this a_this_text x_this_length v48 v49 v50 x_this_allowed a_this_plan v51 v52), (wi_0_1600_0 a_this_text cy g_this_text)] H := hP
              replace hD := k_D hP hD
              obtain ⟨h53, h54, h55, h56, h57, h58⟩ := hw
              replace hq := lf_p1 hq h58
              replace hq := lf_p1 hq rfl
              replace hq := lf_p1 hq rfl
              replace hq := lf_p1 hq rfl
              replace hq := lf_p1 hq rfl
              refine lv_istore_n (lv' := [(2, .int r46), (0, .ref a_this), (1, .int 3)]) hx hb dX5_fact_93 rfl hl (Nat.le_of_ble_eq_true rfl) rfl (fun ls hl => ?_)
              as_aux_lemma =>
                refine lv_aload_n hx hb dX5_fact_94 rfl (lv_at hl 1 rfl) ?_
                refine lv_aload_n hx hb dX5_fact_95 rfl (lv_at hl 1 rfl) ?_
                refine k_get C0 fg_X5_18 hP 2 rfl rfl dX5_fact_96 ?_
                refine k_jvm hP hD hS hA [2, 3] [true, true] rfl rfl rfl 0 0 (Nat.le_of_ble_eq_true rfl) (Nat.le_of_ble_eq_true rfl) (fun hPc hDc => k_runV (As := [.int v49]) (rest := []) C0 hZ hS hA (s_X5_moveTo l dC dI cy sq a_this a_this_text g_this_text x_this_length v48 v49 v50 x_this_allowed a_this_plan v51 v52 v49 hg_this_text (ib_w 0 1600 hx_this_length rfl) (ib_w 0 1600 h55 rfl)) mV_X5_86 hPc hDc rfl rfl rfl hl rfl rfl (Nat.le_of_ble_eq_true rfl) ⟨(Nat.le_of_ble_eq_true rfl), (Nat.le_of_ble_eq_true rfl)⟩ ⟨(Nat.le_of_ble_eq_true rfl), (Nat.le_of_ble_eq_true rfl)⟩ dX5_fact_99) (fun u60 H locs hw hP hD hS => ?_)
                obtain ⟨v61, v62, v63⟩ := u60
                try dsimp only at hP hD hw
                replace hP : va_P (dC, dI) vwCl [(wo_4_iiiiiiirrrirrrrrir a_this_plan x_this_plan_cycle x_this_plan_green x_this_plan_rule x_this_plan_least x_this_plan_away x_this_plan_statements x_this_plan_kinds a_this_plan_calm a_this_plan_pace a_this_plan_trusts x_this_plan_walkers a_this_plan_kindOf a_this_plan_comesAt a_this_plan_comers a_this_plan_names a_this_plan_code v38 a_this_plan_spans), (wi_0_1600_0 a_this_plan_code cy f39), (wo_5_riiiiirii a_this a_this_text x_this_length v61 v62 v63 x_this_allowed a_this_plan v51 v52), (wi_0_1600_0 a_this_text cy g_this_text)] H := hP
                replace hD := k_D hP hD
                obtain ⟨h64, h65, h66, h67, h68⟩ := hw
                replace hq := lf_p1 hq h68
                replace hq := lf_p1 hq rfl
                refine lv_aload_n hx hb dX5_fact_102 rfl (lv_at hl 1 rfl) ?_
                refine lv_iload_n hx hb dX5_fact_103 rfl (lv_at hl 2 rfl) ?_
                refine k_jvm hP hD hS hA [2, 3, 0, 1] [] rfl rfl rfl 0 0 (Nat.le_of_ble_eq_true rfl) (Nat.le_of_ble_eq_true rfl) (fun hPc hDc => k_runV (As := [.int 3]) (rest := []) C0 hZ hS hA (s_X5_sum_a0_3 l dC dI cy sq a_this a_this_text g_this_text x_this_length v61 v62 v63 x_this_allowed a_this_plan x_this_plan_cycle x_this_plan_green x_this_plan_rule x_this_plan_least x_this_plan_away x_this_plan_statements x_this_plan_kinds a_this_plan_calm a_this_plan_pace a_this_plan_trusts x_this_plan_walkers a_this_plan_kindOf a_this_plan_comesAt a_this_plan_comers a_this_plan_names a_this_plan_code f39 v38 a_this_plan_spans v51 v52 hg_this_text (ib_w 0 1600 hx_this_length rfl) (ib_w 0 1600 h64 rfl) (ib_w 0 1600 h65 rfl) (ib_w 0 4 h66 rfl) (ib_w 0 1600 h43 rfl) (fun hq9 => ib_w 0 1599 (h67 hq9) rfl)) mV_X5_93 hPc hDc rfl rfl rfl hl rfl rfl (Nat.le_of_ble_eq_true rfl) ⟨(Nat.le_of_ble_eq_true rfl), (Nat.le_of_ble_eq_true rfl)⟩ ⟨(Nat.le_of_ble_eq_true rfl), (Nat.le_of_ble_eq_true rfl)⟩ dX5_fact_104) (fun u70 H locs hw hP hD hS => ?_)
                obtain ⟨v71, v72, v73, v74, v75, v76, f77⟩ := u70
                try dsimp only at hP hD hw
                replace hP : va_P (dC, dI) vwCl [(wo_5_riiiiirii a_this a_this_text x_this_length v71 v72 v73 x_this_allowed a_this_plan v74 v75), (wi_0_1600_0 a_this_text cy g_this_text), (wo_4_iiiiiiirrrirrrrrir a_this_plan x_this_plan_cycle x_this_plan_green x_this_plan_rule x_this_plan_least x_this_plan_away x_this_plan_statements x_this_plan_kinds a_this_plan_calm a_this_plan_pace a_this_plan_trusts x_this_plan_walkers a_this_plan_kindOf a_this_plan_comesAt a_this_plan_comers a_this_plan_names a_this_plan_code v76 a_this_plan_spans), (wi_0_1600_0 a_this_plan_code cy f77)] H := hP
                replace hD := k_D hP hD
                obtain ⟨h78, h79, h80, h81, h82, h83⟩ := hw
                replace hq := lf_p1 hq h83
                replace hq := lf_p1 hq rfl
                replace hq := lf_p1 hq rfl
                replace hq := lf_p1 hq rfl
                replace hq := lf_p1 hq rfl
                replace hq := lf_p1 hq rfl
                refine lv_aload_n hx hb dX5_fact_107 rfl (lv_at hl 1 rfl) ?_
                refine lv_iload_n hx hb dX5_fact_108 rfl (lv_at hl 0 rfl) ?_
                refine k_jvm hP hD hS hA [0, 2, 3] [false, true] rfl rfl rfl 0 0 (Nat.le_of_ble_eq_true rfl) (Nat.le_of_ble_eq_true rfl) (fun hPc hDc => k_runV (As := [.int r46]) (rest := []) C0 hZ hS hA (s_X5_emit l dC dI cy sq a_this a_this_text x_this_length v71 v72 v73 x_this_allowed a_this_plan x_this_plan_cycle x_this_plan_green x_this_plan_rule x_this_plan_least x_this_plan_away x_this_plan_statements x_this_plan_kinds a_this_plan_calm a_this_plan_pace a_this_plan_trusts x_this_plan_walkers a_this_plan_kindOf a_this_plan_comesAt a_this_plan_comers a_this_plan_names a_this_plan_code f77 v76 a_this_plan_spans v74 v75 r46 (ib_w 0 1600 h81 rfl)) mV_X5_199 hPc hDc rfl rfl rfl hl rfl rfl (Nat.le_of_ble_eq_true rfl) ⟨(Nat.le_of_ble_eq_true rfl), (Nat.le_of_ble_eq_true rfl)⟩ ⟨(Nat.le_of_ble_eq_true rfl), (Nat.le_of_ble_eq_true rfl)⟩ dX5_fact_109) (fun u85 H locs hw hP hD hS => ?_)
                obtain ⟨v86, f87⟩ := u85
                try dsimp only at hP hD hw
                replace hP : va_P (dC, dI) vwCl [(wi_0_1600_0 a_this_text cy g_this_text), (wo_5_riiiiirii a_this a_this_text x_this_length v71 v72 v73 x_this_allowed a_this_plan v74 v75), (wo_4_iiiiiiirrrirrrrrir a_this_plan x_this_plan_cycle x_this_plan_green x_this_plan_rule x_this_plan_least x_this_plan_away x_this_plan_statements x_this_plan_kinds a_this_plan_calm a_this_plan_pace a_this_plan_trusts x_this_plan_walkers a_this_plan_kindOf a_this_plan_comesAt a_this_plan_comers a_this_plan_names a_this_plan_code v86 a_this_plan_spans), (wi_0_1600_0 a_this_plan_code cy f87)] H := hP
                replace hD := k_D hP hD
                obtain ⟨h88, h89⟩ := hw
                replace hq := lf_p1 hq h89
                subst hQ; exact k_vret hx hb hr hlk ((v71, v72, v73, v74, v75, v86, f87)) hS ⟨ib_w 0 1600 h78 rfl, ib_w 0 1600 h79 rfl, ib_w 0 4 h80 rfl, ib_w 0 1600 h88 rfl, fun hq9 => ib_w 0 1599 (h82 hq9) rfl, (hO.symm.trans (by exact hq))⟩ (hP.sub [1, 0, 2, 3] rfl) (hD.sub [1, 0, 2, 3] rfl rfl) (Nat.le_of_ble_eq_true rfl) (Nat.le_of_ble_eq_true rfl) dX5_fact_112
          · replace hq := lf_neg hq (lf_ne (lf_rf r17) (lf_lc 0 (0 : Int) rfl) c28)
            have h90 : ib r17 1 1 := ib_w 1 1 (ib_ne_lo 0 h22 rfl c28) rfl
            refine lv_aload_n hx hb dX5_fact_76 rfl (lv_at hl 0 rfl) ?_
            refine lv_iconst (v := 1) hx hb dX5_fact_77 rfl ?_
            refine k_jvm hP hD hS hA [2, 0, 1] [false, false, false, true] rfl rfl rfl 0 0 (Nat.le_of_ble_eq_true rfl) (Nat.le_of_ble_eq_true rfl) (fun hPc hDc => k_runV (As := [.int 1]) (rest := []) C0 hZ hS hA (s_X5_emit l dC dI cy sq a_this a_this_text x_this_length v19 v20 v21 x_this_allowed a_this_plan x_this_plan_cycle x_this_plan_green x_this_plan_rule x_this_plan_least x_this_plan_away x_this_plan_statements x_this_plan_kinds a_this_plan_calm a_this_plan_pace a_this_plan_trusts x_this_plan_walkers a_this_plan_kindOf a_this_plan_comesAt a_this_plan_comers a_this_plan_names a_this_plan_code g_this_plan_code x_this_plan_size a_this_plan_spans x_this_fault x_this_place 1 (ib_w 0 1600 hx_this_plan_size rfl)) mV_X5_199 hPc hDc rfl rfl rfl hl rfl rfl (Nat.le_of_ble_eq_true rfl) ⟨(Nat.le_of_ble_eq_true rfl), (Nat.le_of_ble_eq_true rfl)⟩ ⟨(Nat.le_of_ble_eq_true rfl), (Nat.le_of_ble_eq_true rfl)⟩ dX5_fact_78) (fun u92 H locs hw hP hD hS => ?_)
            obtain ⟨v93, f94⟩ := u92
            try dsimp only at hP hD hw
            replace hP : va_P (dC, dI) vwCl [(wi_0_1600_0 a_this_text cy g_this_text), (wo_5_riiiiirii a_this a_this_text x_this_length v19 v20 v21 x_this_allowed a_this_plan x_this_fault x_this_place), (wo_4_iiiiiiirrrirrrrrir a_this_plan x_this_plan_cycle x_this_plan_green x_this_plan_rule x_this_plan_least x_this_plan_away x_this_plan_statements x_this_plan_kinds a_this_plan_calm a_this_plan_pace a_this_plan_trusts x_this_plan_walkers a_this_plan_kindOf a_this_plan_comesAt a_this_plan_comers a_this_plan_names a_this_plan_code v93 a_this_plan_spans), (wi_0_1600_0 a_this_plan_code cy f94)] H := hP
            replace hD := k_D hP hD
            obtain ⟨h95, h96⟩ := hw
            have h96 := by have h9 := h96; try simp only [show (1 : Int32).toInt = (1 : Int) from rfl] at h9; exact h9
            replace hq := lf_p1 hq h96
            refine lv_goto (tgt := 112) hx hb dX5_fact_81 rfl ?_
            subst hQ; exact k_vret hx hb hr hlk ((v19, v20, v21, x_this_fault, x_this_place, v93, f94)) hS ⟨ib_w 0 1600 h23 rfl, ib_w 0 1600 h24 rfl, ib_w 0 4 h25 rfl, ib_w 0 1600 h95 rfl, fun hq9 => ib_w 0 1599 (h26 hq9) rfl, (hO.symm.trans (by exact hq))⟩ (hP.sub [1, 0, 2, 3] rfl) (hD.sub [1, 0, 2, 3] rfl rfl) (Nat.le_of_ble_eq_true rfl) (Nat.le_of_ble_eq_true rfl) dX5_fact_112
      · as_aux_lemma =>
          replace hq := lf_neg hq (lf_ne (lf_rf r7) (lf_lc 0 (0 : Int) rfl) c14)
          have h97 : ib r7 1 1 := ib_w 1 1 (ib_ne_lo 0 h9 rfl c14) rfl
          have h98 : ib x_this_at 0 1599 := ib_w 0 1599 (ib_two hx_this_at (h10 c14)) rfl
          have h99 : ib x_this_sort 3 3 := ib_w 3 3 (ib_two hx_this_sort (h11 c14)) rfl
          refine lv_aload_n hx hb dX5_fact_43 rfl (lv_at hl 0 rfl) ?_
          refine lv_iload_n hx hb dX5_fact_44 rfl (lv_at hl 1 rfl) ?_
          refine k_jim hP hD hS hA [2, 3] [true, true] rfl rfl rfl 0 0 (Nat.le_of_ble_eq_true rfl) (Nat.le_of_ble_eq_true rfl) (fun hPc hDc => k_runV (As := [.int 3]) (rest := []) C0 hZ hS hA (s_X5_enters_a0_3 l dC dI cy sq a_this a_this_text g_this_text x_this_length x_this_at x_this_behind x_this_sort x_this_allowed a_this_plan x_this_fault x_this_place hg_this_text (ib_w 0 1600 hx_this_length rfl) (ib_w 0 1600 hx_this_behind rfl)) mV_X5_209 hPc hDc rfl rfl rfl hl rfl rfl (Nat.le_of_ble_eq_true rfl) ⟨(Nat.le_of_ble_eq_true rfl), (Nat.le_of_ble_eq_true rfl)⟩ ⟨(Nat.le_of_ble_eq_true rfl), (Nat.le_of_ble_eq_true rfl)⟩ dX5_fact_45) (fun r100 u101 H locs hw hP hD hS => ?_)
          obtain ⟨v102, v103, v104⟩ := u101
          try dsimp only at hP hD hw
          replace hP : va_P (dC, dI) vwCl [(wo_4_iiiiiiirrrirrrrrir a_this_plan x_this_plan_cycle x_this_plan_green x_this_plan_rule x_this_plan_least x_this_plan_away x_this_plan_statements x_this_plan_kinds a_this_plan_calm a_this_plan_pace a_this_plan_trusts x_this_plan_walkers a_this_plan_kindOf a_this_plan_comesAt a_this_plan_comers a_this_plan_names a_this_plan_code x_this_plan_size a_this_plan_spans), (wi_0_1600_0 a_this_plan_code cy g_this_plan_code), (wo_5_riiiiirii a_this a_this_text x_this_length v102 v103 v104 x_this_allowed a_this_plan x_this_fault x_this_place), (wi_0_1600_0 a_this_text cy g_this_text)] H := hP
          replace hD := k_D hP hD
          obtain ⟨h105, h106, h107, h108, h109, h110⟩ := hw
          replace hq := lf_p1 hq h110
          replace hq := lf_p1 hq rfl
          replace hq := lf_p1 hq rfl
          refine lv_if_eq (tgt := 112) hx hb dX5_fact_48 rfl (fun c111 => ?_) (fun c111 => ?_)
          · skip
            have h112 := ib_eq h105 (ib_c 0 0 0 rfl) c111
            exact ib_no (ib_w 1 0 h112.1 rfl) rfl
          · as_aux_lemma =>
              skip
              refine lv_aload_n hx hb dX5_fact_51 rfl (lv_at hl 0 rfl) ?_
              refine lv_iload_n hx hb dX5_fact_52 rfl (lv_at hl 1 rfl) ?_
              refine lv_iconst (v := 1) hx hb dX5_fact_53 rfl ?_
              refine lv_iadd hx hb dX5_fact_54 ?_
              refine k_topi (y := 4) (by decide) ?_
              refine k_jvm hP hD hS hA [2, 3, 0, 1] [] rfl rfl rfl 0 0 (Nat.le_of_ble_eq_true rfl) (Nat.le_of_ble_eq_true rfl) (fun hPc hDc => k_runV (As := [.int 4]) (rest := []) C0 hZ hS hA (s_X5_test_a0_4 l dC dI cy sq a_this a_this_text g_this_text x_this_length v102 v103 v104 x_this_allowed a_this_plan x_this_plan_cycle x_this_plan_green x_this_plan_rule x_this_plan_least x_this_plan_away x_this_plan_statements x_this_plan_kinds a_this_plan_calm a_this_plan_pace a_this_plan_trusts x_this_plan_walkers a_this_plan_kindOf a_this_plan_comesAt a_this_plan_comers a_this_plan_names a_this_plan_code g_this_plan_code x_this_plan_size a_this_plan_spans x_this_fault x_this_place hg_this_text (ib_w 0 1600 hx_this_length rfl) (ib_w 0 1600 h106 rfl) (ib_w 0 1600 h107 rfl) (ib_w 0 4 h108 rfl) (ib_w 0 1600 hx_this_plan_size rfl) (fun hq9 => ib_w 0 1599 (h109 hq9) rfl)) mV_X5_90 hPc hDc rfl rfl rfl hl rfl rfl (Nat.le_of_ble_eq_true rfl) ⟨(Nat.le_of_ble_eq_true rfl), (Nat.le_of_ble_eq_true rfl)⟩ ⟨(Nat.le_of_ble_eq_true rfl), (Nat.le_of_ble_eq_true rfl)⟩ dX5_fact_55) (fun u114 H locs hw hP hD hS => ?_)
              obtain ⟨v115, v116, v117, v118, v119, v120, f121⟩ := u114
              try dsimp only at hP hD hw
              replace hP : va_P (dC, dI) vwCl [(wo_5_riiiiirii a_this a_this_text x_this_length v115 v116 v117 x_this_allowed a_this_plan v118 v119), (wi_0_1600_0 a_this_text cy g_this_text), (wo_4_iiiiiiirrrirrrrrir a_this_plan x_this_plan_cycle x_this_plan_green x_this_plan_rule x_this_plan_least x_this_plan_away x_this_plan_statements x_this_plan_kinds a_this_plan_calm a_this_plan_pace a_this_plan_trusts x_this_plan_walkers a_this_plan_kindOf a_this_plan_comesAt a_this_plan_comers a_this_plan_names a_this_plan_code v120 a_this_plan_spans), (wi_0_1600_0 a_this_plan_code cy f121)] H := hP
              replace hD := k_D hP hD
              obtain ⟨h122, h123, h124, h125, h126, h127⟩ := hw
              replace hq := lf_p1 hq h127
              replace hq := lf_p1 hq rfl
              replace hq := lf_p1 hq rfl
              replace hq := lf_p1 hq rfl
              replace hq := lf_p1 hq rfl
              replace hq := lf_p1 hq rfl
              refine lv_aload_n hx hb dX5_fact_58 rfl (lv_at hl 0 rfl) ?_
              refine lv_bipush (v := 93) hx hb dX5_fact_59 rfl ?_
              refine k_jvm hP hD hS hA [0, 1] [false, false, true, true] rfl rfl rfl 0 0 (Nat.le_of_ble_eq_true rfl) (Nat.le_of_ble_eq_true rfl) (fun hPc hDc => k_runV (As := [.int 93]) (rest := []) C0 hZ hS hA (s_X5_need l dC dI cy sq a_this a_this_text g_this_text x_this_length v115 v116 v117 x_this_allowed a_this_plan v118 v119 93 hg_this_text (ib_w 0 1600 hx_this_length rfl) (ib_w 0 1600 h122 rfl) (ib_w 0 1600 h123 rfl) (ib_w 0 4 h124 rfl) (fun hq9 => ib_w 0 1599 (h126 hq9) rfl)) mV_X5_48 hPc hDc rfl rfl rfl hl rfl rfl (Nat.le_of_ble_eq_true rfl) ⟨(Nat.le_of_ble_eq_true rfl), (Nat.le_of_ble_eq_true rfl)⟩ ⟨(Nat.le_of_ble_eq_true rfl), (Nat.le_of_ble_eq_true rfl)⟩ dX5_fact_61) (fun u129 H locs hw hP hD hS => ?_)
              obtain ⟨v130, v131, v132, v133, v134⟩ := u129
              try dsimp only at hP hD hw
              replace hP : va_P (dC, dI) vwCl [(wo_4_iiiiiiirrrirrrrrir a_this_plan x_this_plan_cycle x_this_plan_green x_this_plan_rule x_this_plan_least x_this_plan_away x_this_plan_statements x_this_plan_kinds a_this_plan_calm a_this_plan_pace a_this_plan_trusts x_this_plan_walkers a_this_plan_kindOf a_this_plan_comesAt a_this_plan_comers a_this_plan_names a_this_plan_code v120 a_this_plan_spans), (wi_0_1600_0 a_this_plan_code cy f121), (wo_5_riiiiirii a_this a_this_text x_this_length v130 v131 v132 x_this_allowed a_this_plan v133 v134), (wi_0_1600_0 a_this_text cy g_this_text)] H := hP
              replace hD := k_D hP hD
              obtain ⟨h135, h136, h137, h138, h139⟩ := hw
              have h139 := by have h9 := h139; try simp only [show (93 : Int32).toInt = (93 : Int) from rfl] at h9; exact h9
              replace hq := lf_p1 hq h139
              replace hq := lf_p1 hq rfl
              replace hq := lf_p1 hq rfl
              replace hq := lf_p1 hq rfl
              refine lv_goto (tgt := 112) hx hb dX5_fact_64 rfl ?_
              subst hQ; exact k_vret hx hb hr hlk ((v130, v131, v132, v133, v134, v120, f121)) hS ⟨ib_w 0 1600 h135 rfl, ib_w 0 1600 h136 rfl, ib_w 0 4 h137 rfl, ib_w 0 1600 h125 rfl, fun hq9 => ib_w 0 1599 (h138 hq9) rfl, (hO.symm.trans (by exact hq))⟩ (hP.sub [2, 3, 0, 1] rfl) (hD.sub [2, 3, 0, 1] rfl rfl) (Nat.le_of_ble_eq_true rfl) (Nat.le_of_ble_eq_true rfl) dX5_fact_112
  · as_aux_lemma =>
      replace hq := lf_neg hq (lf_ne (lf_rf r1) (lf_lc (-1) (-1 : Int) rfl) c4)
      refine lv_aload_n hx hb dX5_fact_10 rfl (lv_at hl 0 rfl) ?_
      refine lv_iload_n hx hb dX5_fact_11 rfl (lv_at hl 1 rfl) ?_
      refine k_jim hP hD hS hA [2, 3] [true, true] rfl rfl rfl 0 0 (Nat.le_of_ble_eq_true rfl) (Nat.le_of_ble_eq_true rfl) (fun hPc hDc => k_runV (As := [.int 3]) (rest := []) C0 hZ hS hA (s_X5_enters_a0_3 l dC dI cy sq a_this a_this_text g_this_text x_this_length x_this_at x_this_behind x_this_sort x_this_allowed a_this_plan x_this_fault x_this_place hg_this_text (ib_w 0 1600 hx_this_length rfl) (ib_w 0 1600 hx_this_behind rfl)) mV_X5_209 hPc hDc rfl rfl rfl hl rfl rfl (Nat.le_of_ble_eq_true rfl) ⟨(Nat.le_of_ble_eq_true rfl), (Nat.le_of_ble_eq_true rfl)⟩ ⟨(Nat.le_of_ble_eq_true rfl), (Nat.le_of_ble_eq_true rfl)⟩ dX5_fact_12) (fun r140 u141 H locs hw hP hD hS => ?_)
      obtain ⟨v142, v143, v144⟩ := u141
      try dsimp only at hP hD hw
      replace hP : va_P (dC, dI) vwCl [(wo_4_iiiiiiirrrirrrrrir a_this_plan x_this_plan_cycle x_this_plan_green x_this_plan_rule x_this_plan_least x_this_plan_away x_this_plan_statements x_this_plan_kinds a_this_plan_calm a_this_plan_pace a_this_plan_trusts x_this_plan_walkers a_this_plan_kindOf a_this_plan_comesAt a_this_plan_comers a_this_plan_names a_this_plan_code x_this_plan_size a_this_plan_spans), (wi_0_1600_0 a_this_plan_code cy g_this_plan_code), (wo_5_riiiiirii a_this a_this_text x_this_length v142 v143 v144 x_this_allowed a_this_plan x_this_fault x_this_place), (wi_0_1600_0 a_this_text cy g_this_text)] H := hP
      replace hD := k_D hP hD
      obtain ⟨h145, h146, h147, h148, h149, h150⟩ := hw
      replace hq := lf_p1 hq h150
      replace hq := lf_p1 hq rfl
      replace hq := lf_p1 hq rfl
      refine lv_if_eq (tgt := 112) hx hb dX5_fact_15 rfl (fun c151 => ?_) (fun c151 => ?_)
      · skip
        have h152 := ib_eq h145 (ib_c 0 0 0 rfl) c151
        exact ib_no (ib_w 1 0 h152.1 rfl) rfl
      · as_aux_lemma =>
          skip
          refine lv_aload_n hx hb dX5_fact_18 rfl (lv_at hl 0 rfl) ?_
          refine lv_iload_n hx hb dX5_fact_19 rfl (lv_at hl 1 rfl) ?_
          refine lv_iconst (v := 1) hx hb dX5_fact_20 rfl ?_
          refine lv_iadd hx hb dX5_fact_21 ?_
          refine k_topi (y := 4) (by decide) ?_
          refine k_jvm hP hD hS hA [2, 3, 0, 1] [] rfl rfl rfl 0 0 (Nat.le_of_ble_eq_true rfl) (Nat.le_of_ble_eq_true rfl) (fun hPc hDc => k_runV (As := [.int 4]) (rest := []) C0 hZ hS hA (s_X5_fact_a0_4 l dC dI cy sq a_this a_this_text g_this_text x_this_length v142 v143 v144 x_this_allowed a_this_plan x_this_plan_cycle x_this_plan_green x_this_plan_rule x_this_plan_least x_this_plan_away x_this_plan_statements x_this_plan_kinds a_this_plan_calm a_this_plan_pace a_this_plan_trusts x_this_plan_walkers a_this_plan_kindOf a_this_plan_comesAt a_this_plan_comers a_this_plan_names a_this_plan_code g_this_plan_code x_this_plan_size a_this_plan_spans x_this_fault x_this_place hg_this_text (ib_w 0 1600 hx_this_length rfl) (ib_w 0 1600 h146 rfl) (ib_w 0 1600 h147 rfl) (ib_w 0 4 h148 rfl) (ib_w 0 1600 hx_this_plan_size rfl) (fun hq9 => ib_w 0 1599 (h149 hq9) rfl)) mV_X5_202 hPc hDc rfl rfl rfl hl rfl rfl (Nat.le_of_ble_eq_true rfl) ⟨(Nat.le_of_ble_eq_true rfl), (Nat.le_of_ble_eq_true rfl)⟩ ⟨(Nat.le_of_ble_eq_true rfl), (Nat.le_of_ble_eq_true rfl)⟩ dX5_fact_22) (fun u154 H locs hw hP hD hS => ?_)
          obtain ⟨v155, v156, v157, v158, v159, v160, f161⟩ := u154
          try dsimp only at hP hD hw
          replace hP : va_P (dC, dI) vwCl [(wo_5_riiiiirii a_this a_this_text x_this_length v155 v156 v157 x_this_allowed a_this_plan v158 v159), (wi_0_1600_0 a_this_text cy g_this_text), (wo_4_iiiiiiirrrirrrrrir a_this_plan x_this_plan_cycle x_this_plan_green x_this_plan_rule x_this_plan_least x_this_plan_away x_this_plan_statements x_this_plan_kinds a_this_plan_calm a_this_plan_pace a_this_plan_trusts x_this_plan_walkers a_this_plan_kindOf a_this_plan_comesAt a_this_plan_comers a_this_plan_names a_this_plan_code v160 a_this_plan_spans), (wi_0_1600_0 a_this_plan_code cy f161)] H := hP
          replace hD := k_D hP hD
          obtain ⟨h162, h163, h164, h165, h166, h167⟩ := hw
          replace hq := lf_p1 hq h167
          replace hq := lf_p1 hq rfl
          replace hq := lf_p1 hq rfl
          replace hq := lf_p1 hq rfl
          replace hq := lf_p1 hq rfl
          replace hq := lf_p1 hq rfl
          refine lv_aload_n hx hb dX5_fact_25 rfl (lv_at hl 0 rfl) ?_
          refine lv_bipush (v := (-31)) hx hb dX5_fact_26 rfl ?_
          refine k_jvm hP hD hS hA [0, 2, 3] [false, true] rfl rfl rfl 0 0 (Nat.le_of_ble_eq_true rfl) (Nat.le_of_ble_eq_true rfl) (fun hPc hDc => k_runV (As := [.int (-31)]) (rest := []) C0 hZ hS hA (s_X5_emit l dC dI cy sq a_this a_this_text x_this_length v155 v156 v157 x_this_allowed a_this_plan x_this_plan_cycle x_this_plan_green x_this_plan_rule x_this_plan_least x_this_plan_away x_this_plan_statements x_this_plan_kinds a_this_plan_calm a_this_plan_pace a_this_plan_trusts x_this_plan_walkers a_this_plan_kindOf a_this_plan_comesAt a_this_plan_comers a_this_plan_names a_this_plan_code f161 v160 a_this_plan_spans v158 v159 (-31) (ib_w 0 1600 h165 rfl)) mV_X5_199 hPc hDc rfl rfl rfl hl rfl rfl (Nat.le_of_ble_eq_true rfl) ⟨(Nat.le_of_ble_eq_true rfl), (Nat.le_of_ble_eq_true rfl)⟩ ⟨(Nat.le_of_ble_eq_true rfl), (Nat.le_of_ble_eq_true rfl)⟩ dX5_fact_28) (fun u169 H locs hw hP hD hS => ?_)
          obtain ⟨v170, f171⟩ := u169
          try dsimp only at hP hD hw
          replace hP : va_P (dC, dI) vwCl [(wi_0_1600_0 a_this_text cy g_this_text), (wo_5_riiiiirii a_this a_this_text x_this_length v155 v156 v157 x_this_allowed a_this_plan v158 v159), (wo_4_iiiiiiirrrirrrrrir a_this_plan x_this_plan_cycle x_this_plan_green x_this_plan_rule x_this_plan_least x_this_plan_away x_this_plan_statements x_this_plan_kinds a_this_plan_calm a_this_plan_pace a_this_plan_trusts x_this_plan_walkers a_this_plan_kindOf a_this_plan_comesAt a_this_plan_comers a_this_plan_names a_this_plan_code v170 a_this_plan_spans), (wi_0_1600_0 a_this_plan_code cy f171)] H := hP
          replace hD := k_D hP hD
          obtain ⟨h172, h173⟩ := hw
          have h173 := by have h9 := h173; try simp only [show ((-31) : Int32).toInt = (-31 : Int) from rfl] at h9; exact h9
          replace hq := lf_p1 hq h173
          refine lv_goto (tgt := 112) hx hb dX5_fact_31 rfl ?_
          subst hQ; exact k_vret hx hb hr hlk ((v155, v156, v157, v158, v159, v170, f171)) hS ⟨ib_w 0 1600 h162 rfl, ib_w 0 1600 h163 rfl, ib_w 0 4 h164 rfl, ib_w 0 1600 h172 rfl, fun hq9 => ib_w 0 1599 (h166 hq9) rfl, (hO.symm.trans (by exact hq))⟩ (hP.sub [1, 0, 2, 3] rfl) (hD.sub [1, 0, 2, 3] rfl rfl) (Nat.le_of_ble_eq_true rfl) (Nat.le_of_ble_eq_true rfl) dX5_fact_112
set_option maxHeartbeats 4000000 in
set_option maxRecDepth 100000 in
theorem s_X5_both_a0_3 (l : Launch) (dC : Nat → ClassId) (dI : Nat → Nat → Nat) (cy : Nat → ClassId) (sq : Nat → Nat) (a_this : Nat) (a_this_text : Nat) (g_this_text : Nat → Int32) (x_this_length : Int32) (x_this_at : Int32) (x_this_behind : Int32) (x_this_sort : Int32) (x_this_allowed : Int32) (a_this_plan : Nat) (x_this_plan_cycle : Int32) (x_this_plan_green : Int32) (x_this_plan_rule : Int32) (x_this_plan_least : Int32) (x_this_plan_away : Int32) (x_this_plan_statements : Int32) (x_this_plan_kinds : Int32) (a_this_plan_calm : Nat) (a_this_plan_pace : Nat) (a_this_plan_trusts : Nat) (x_this_plan_walkers : Int32) (a_this_plan_kindOf : Nat) (a_this_plan_comesAt : Nat) (a_this_plan_comers : Nat) (a_this_plan_names : Nat) (a_this_plan_code : Nat) (g_this_plan_code : Nat → Int32) (x_this_plan_size : Int32) (a_this_plan_spans : Nat) (x_this_fault : Int32) (x_this_place : Int32) (hg_this_text : ia g_this_text 1600 0 255) (hx_this_length : ib x_this_length 0 1600) (hx_this_at : ib x_this_at 0 1600) (hx_this_behind : ib x_this_behind 0 1600) (hx_this_sort : ib x_this_sort 0 4) (hx_this_plan_size : ib x_this_plan_size 0 1600) (hc0_this : ¬ x_this_sort = 0 → ib x_this_at 0 1599) : k_Met l yX5_both cX5_both 3 none { frames := 22, cells := 0, slots := 0, locals := 544 } dC dI cy sq [.ref a_this, .int 3] [(wo_5_riiiiirii a_this a_this_text x_this_length x_this_at x_this_behind x_this_sort x_this_allowed a_this_plan x_this_fault x_this_place), (wi_0_1600_0 a_this_text cy g_this_text), (wo_4_iiiiiiirrrirrrrrir a_this_plan x_this_plan_cycle x_this_plan_green x_this_plan_rule x_this_plan_least x_this_plan_away x_this_plan_statements x_this_plan_kinds a_this_plan_calm a_this_plan_pace a_this_plan_trusts x_this_plan_walkers a_this_plan_kindOf a_this_plan_comesAt a_this_plan_comers a_this_plan_names a_this_plan_code x_this_plan_size a_this_plan_spans), (wi_0_1600_0 a_this_plan_code cy g_this_plan_code)] (k_Qv dC dI (fun (u : Int32 × Int32 × Int32 × Int32 × Int32 × Int32 × (Nat → Int32)) => match u with | (n0, n1, n2, n3, n4, n5, n6) => ib n0 0 1600 ∧ ib n1 0 1600 ∧ ib n2 0 4 ∧ ib n5 0 1600 ∧ (¬ n2 = 0 → ib n0 0 1599) ∧ (F_X5_both_a0_3 (lf_A g_this_text) (Int32.toInt x_this_length) (Int32.toInt x_this_at) (Int32.toInt x_this_behind) (Int32.toInt x_this_sort) (Int32.toInt x_this_allowed) (lf_A g_this_plan_code) (Int32.toInt x_this_plan_size) (Int32.toInt x_this_fault) (Int32.toInt x_this_place) = ((Int32.toInt n0), (Int32.toInt n1), (Int32.toInt n2), (Int32.toInt n3), (Int32.toInt n4), (Int32.toInt n5), (lf_A n6)))) (fun u : Int32 × Int32 × Int32 × Int32 × Int32 × Int32 × (Nat → Int32) => match u with | (n0, n1, n2, n3, n4, n5, n6) => [(wo_5_riiiiirii a_this a_this_text x_this_length n0 n1 n2 x_this_allowed a_this_plan n3 n4), (wi_0_1600_0 a_this_text cy g_this_text), (wo_4_iiiiiiirrrirrrrrir a_this_plan x_this_plan_cycle x_this_plan_green x_this_plan_rule x_this_plan_least x_this_plan_away x_this_plan_statements x_this_plan_kinds a_this_plan_calm a_this_plan_pace a_this_plan_trusts x_this_plan_walkers a_this_plan_kindOf a_this_plan_comesAt a_this_plan_comers a_this_plan_names a_this_plan_code n5 a_this_plan_spans), (wi_0_1600_0 a_this_plan_code cy n6)])) := by
  refine k_ofW2 (by decide +kernel) (Nat.le_of_ble_eq_true rfl) ?_
  intro p e s m below meth c A ls H locs args Q hQ C0 hZ hr hlk hin hP hD hA hS hl
  have C0 : k_cx p s m args c cX5_both 3 RX5 dC dI cy sq := C0
  have hx := C0.1
  have hb := C0.2.1
  have hl : lv_has ls 3 [(0, .ref a_this), (1, .int 3)] := hl
  obtain ⟨O, hO⟩ : ∃ o, o = F_X5_both_a0_3 (lf_A g_this_text) (Int32.toInt x_this_length) (Int32.toInt x_this_at) (Int32.toInt x_this_behind) (Int32.toInt x_this_sort) (Int32.toInt x_this_allowed) (lf_A g_this_plan_code) (Int32.toInt x_this_plan_size) (Int32.toInt x_this_fault) (Int32.toInt x_this_place) := ⟨_, rfl⟩
  have hq := hO
  unfold F_X5_both_a0_3 at hq
  have jn7 : ∀ (n : Nat) (J7_c0_2 : Int32) (J7_c0_3 : Int32) (J7_c0_4 : Int32) (J7_c0_7 : Int32) (J7_c0_8 : Int32) (J7_c2_16 : Int32) (J7_a3 : Nat → Int32) (J7_l2 : Int32) (H : Heap) (locs : List Loc) (ls : Array Slot), ib J7_c0_2 0 1600 → ib J7_c0_3 0 1600 → ib J7_c0_4 0 4 → ib J7_c2_16 0 1600 → ib J7_l2 0 1600 → (¬ J7_c0_4 = 0 → ib J7_c0_2 0 1599) → (O = F_X5_both_a0_3_7 (lf_A g_this_text) (Int32.toInt x_this_length) (Int32.toInt x_this_allowed) n (Int32.toInt J7_c0_2) (Int32.toInt J7_c0_3) (Int32.toInt J7_c0_4) (Int32.toInt J7_c0_7) (Int32.toInt J7_c0_8) (Int32.toInt J7_c2_16) (lf_A J7_a3) (Int32.toInt J7_l2)) → 1601 ≤ J7_l2.toInt + (n : Int) → va_P (dC, dI) vwCl [(wo_5_riiiiirii a_this a_this_text x_this_length J7_c0_2 J7_c0_3 J7_c0_4 x_this_allowed a_this_plan J7_c0_7 J7_c0_8), (wi_0_1600_0 a_this_text cy g_this_text), (wo_4_iiiiiiirrrirrrrrir a_this_plan x_this_plan_cycle x_this_plan_green x_this_plan_rule x_this_plan_least x_this_plan_away x_this_plan_statements x_this_plan_kinds a_this_plan_calm a_this_plan_pace a_this_plan_trusts x_this_plan_walkers a_this_plan_kindOf a_this_plan_comesAt a_this_plan_comers a_this_plan_names a_this_plan_code J7_c2_16 a_this_plan_spans), (wi_0_1600_0 a_this_plan_code cy J7_a3)] H → va_D A [(wo_5_riiiiirii a_this a_this_text x_this_length J7_c0_2 J7_c0_3 J7_c0_4 x_this_allowed a_this_plan J7_c0_7 J7_c0_8), (wi_0_1600_0 a_this_text cy g_this_text), (wo_4_iiiiiiirrrirrrrrir a_this_plan x_this_plan_cycle x_this_plan_green x_this_plan_rule x_this_plan_least x_this_plan_away x_this_plan_statements x_this_plan_kinds a_this_plan_calm a_this_plan_pace a_this_plan_trusts x_this_plan_walkers a_this_plan_kindOf a_this_plan_comesAt a_this_plan_comers a_this_plan_names a_this_plan_code J7_c2_16 a_this_plan_spans), (wi_0_1600_0 a_this_plan_code cy J7_a3)] → va_S A s.heap H locs → lv_has ls 3 [(0, .ref a_this), (1, .int 3), (2, .int J7_l2)] → W p l e { frames := 22, cells := 0, slots := 0, locals := 544 } s m args below meth c H locs 0 0 Q (F0 m 7 ls []) := by
    as_aux_lemma =>
      intro n
      induction n with
      | zero =>
        intro J7_c0_2 J7_c0_3 J7_c0_4 J7_c0_7 J7_c0_8 J7_c2_16 J7_a3 J7_l2 H locs ls hJ7_c0_2 hJ7_c0_3 hJ7_c0_4 hJ7_c2_16 hJ7_l2 hJ7_ic0_0 hq hm
        exact absurd hm (by have := hJ7_l2; unfold ib at this; omega)
      | succ n ih =>
        intro J7_c0_2 J7_c0_3 J7_c0_4 J7_c0_7 J7_c0_8 J7_c2_16 J7_a3 J7_l2 H locs ls hJ7_c0_2 hJ7_c0_3 hJ7_c0_4 hJ7_c2_16 hJ7_l2 hJ7_ic0_0 hq hm7 hP hD hS hl
        have ih7 := ih
        obtain ⟨K7, hK7⟩ : ∃ K, K = F_X5_both_a0_3_7 (lf_A g_this_text) (Int32.toInt x_this_length) (Int32.toInt x_this_allowed) n := ⟨_, rfl⟩
        have hq : O = F_X5_both_a0_3_7b (lf_A g_this_text) (Int32.toInt x_this_length) (Int32.toInt x_this_allowed) K7 (Int32.toInt J7_c0_2) (Int32.toInt J7_c0_3) (Int32.toInt J7_c0_4) (Int32.toInt J7_c0_7) (Int32.toInt J7_c0_8) (Int32.toInt J7_c2_16) (lf_A J7_a3) (Int32.toInt J7_l2) := by rw [hK7]; exact hq
        unfold F_X5_both_a0_3_7b at hq
        refine lv_iload_n hx hb dX5_both_7 rfl (lv_at hl 2 rfl) ?_
        refine lv_sipush (v := 1600) hx hb dX5_both_8 rfl ?_
        refine lv_icmp_ge (tgt := 40) hx hb dX5_both_11 rfl (fun c1 => ?_) (fun c1 => ?_)
        · replace hq := lf_pos hq (lf_le (lf_lc 1600 (1600 : Int) rfl) (lf_rf J7_l2) c1)
          have h2 := ib_le (ib_c 1600 1600 1600 rfl) hJ7_l2 c1
          have h3 : ib J7_l2 1600 1600 := ib_w 1600 1600 h2.2 rfl
          subst hQ; exact k_vret hx hb hr hlk ((J7_c0_2, J7_c0_3, J7_c0_4, J7_c0_7, J7_c0_8, J7_c2_16, J7_a3)) hS ⟨ib_w 0 1600 hJ7_c0_2 rfl, ib_w 0 1600 hJ7_c0_3 rfl, ib_w 0 4 hJ7_c0_4 rfl, ib_w 0 1600 hJ7_c2_16 rfl, fun hq9 => ib_w 0 1599 (hJ7_ic0_0 hq9) rfl, (hO.symm.trans (by exact hq))⟩ hP hD (Nat.le_of_ble_eq_true rfl) (Nat.le_of_ble_eq_true rfl) dX5_both_40
        · as_aux_lemma =>
            replace hq := lf_neg hq (lf_nle (lf_lc 1600 (1600 : Int) rfl) (lf_rf J7_l2) c1)
            have h4 := ib_nle (ib_c 1600 1600 1600 rfl) hJ7_l2 c1
            have h5 : ib J7_l2 0 1599 := ib_w 0 1599 h4.2 rfl
            refine lv_aload_n hx hb dX5_both_14 rfl (lv_at hl 0 rfl) ?_
            refine va_ldcS hx hb C0.2.2.2.1 (C0.2.2.2.2.2.2.2.2.2.2.2.2 14 (by decide)) dX5_both_15 ?_
            refine k_jim hP hD hS hA [0, 1] [false, false, true, true] rfl rfl rfl 0 0 (Nat.le_of_ble_eq_true rfl) (Nat.le_of_ble_eq_true rfl) (fun hPc hDc => k_runV (As := [.ref (sq 14)]) (rest := []) C0 hZ hS hA (s_X5_takeWord_s14 l dC dI cy sq a_this a_this_text g_this_text x_this_length J7_c0_2 J7_c0_3 J7_c0_4 x_this_allowed a_this_plan J7_c0_7 J7_c0_8 hg_this_text (ib_w 0 1600 hx_this_length rfl) (ib_w 0 1600 hJ7_c0_2 rfl) (ib_w 0 1600 hJ7_c0_3 rfl) (ib_w 0 4 hJ7_c0_4 rfl) (fun hq9 => ib_w 0 1599 (hJ7_ic0_0 hq9) rfl)) mV_X5_195 hPc hDc rfl rfl rfl hl rfl rfl (Nat.le_of_ble_eq_true rfl) ⟨(Nat.le_of_ble_eq_true rfl), (Nat.le_of_ble_eq_true rfl)⟩ ⟨(Nat.le_of_ble_eq_true rfl), (Nat.le_of_ble_eq_true rfl)⟩ dX5_both_17) (fun r6 u7 H locs hw hP hD hS => ?_)
            obtain ⟨v8, v9, v10⟩ := u7
            try dsimp only at hP hD hw
            replace hP : va_P (dC, dI) vwCl [(wo_4_iiiiiiirrrirrrrrir a_this_plan x_this_plan_cycle x_this_plan_green x_this_plan_rule x_this_plan_least x_this_plan_away x_this_plan_statements x_this_plan_kinds a_this_plan_calm a_this_plan_pace a_this_plan_trusts x_this_plan_walkers a_this_plan_kindOf a_this_plan_comesAt a_this_plan_comers a_this_plan_names a_this_plan_code J7_c2_16 a_this_plan_spans), (wi_0_1600_0 a_this_plan_code cy J7_a3), (wo_5_riiiiirii a_this a_this_text x_this_length v8 v9 v10 x_this_allowed a_this_plan J7_c0_7 J7_c0_8), (wi_0_1600_0 a_this_text cy g_this_text)] H := hP
            replace hD := k_D hP hD
            obtain ⟨h11, h12, h13, h14, h15, h16⟩ := hw
            replace hq := lf_p1 hq h16
            replace hq := lf_p1 hq rfl
            replace hq := lf_p1 hq rfl
            refine lv_if_eq (tgt := 40) hx hb dX5_both_20 rfl (fun c17 => ?_) (fun c17 => ?_)
            · replace hq := lf_pos hq (lf_eq (lf_rf r6) (lf_lc 0 (0 : Int) rfl) c17)
              have h18 := ib_eq h11 (ib_c 0 0 0 rfl) c17
              have h19 : ib r6 0 0 := ib_w 0 0 h18.1 rfl
              subst hQ; exact k_vret hx hb hr hlk ((v8, v9, v10, J7_c0_7, J7_c0_8, J7_c2_16, J7_a3)) hS ⟨ib_w 0 1600 h12 rfl, ib_w 0 1600 h13 rfl, ib_w 0 4 h14 rfl, ib_w 0 1600 hJ7_c2_16 rfl, fun hq9 => ib_w 0 1599 (h15 hq9) rfl, (hO.symm.trans (by exact hq))⟩ (hP.sub [2, 3, 0, 1] rfl) (hD.sub [2, 3, 0, 1] rfl rfl) (Nat.le_of_ble_eq_true rfl) (Nat.le_of_ble_eq_true rfl) dX5_both_40
            · as_aux_lemma =>
                replace hq := lf_neg hq (lf_ne (lf_rf r6) (lf_lc 0 (0 : Int) rfl) c17)
                have h20 : ib r6 1 1 := ib_w 1 1 (ib_ne_lo 0 h11 rfl c17) rfl
                refine lv_aload_n hx hb dX5_both_23 rfl (lv_at hl 0 rfl) ?_
                refine lv_iload_n hx hb dX5_both_24 rfl (lv_at hl 1 rfl) ?_
                refine k_jvm hP hD hS hA [2, 3, 0, 1] [] rfl rfl rfl 0 0 (Nat.le_of_ble_eq_true rfl) (Nat.le_of_ble_eq_true rfl) (fun hPc hDc => k_runV (As := [.int 3]) (rest := []) C0 hZ hS hA (s_X5_fact_a0_3 l dC dI cy sq a_this a_this_text g_this_text x_this_length v8 v9 v10 x_this_allowed a_this_plan x_this_plan_cycle x_this_plan_green x_this_plan_rule x_this_plan_least x_this_plan_away x_this_plan_statements x_this_plan_kinds a_this_plan_calm a_this_plan_pace a_this_plan_trusts x_this_plan_walkers a_this_plan_kindOf a_this_plan_comesAt a_this_plan_comers a_this_plan_names a_this_plan_code J7_a3 J7_c2_16 a_this_plan_spans J7_c0_7 J7_c0_8 hg_this_text (ib_w 0 1600 hx_this_length rfl) (ib_w 0 1600 h12 rfl) (ib_w 0 1600 h13 rfl) (ib_w 0 4 h14 rfl) (ib_w 0 1600 hJ7_c2_16 rfl) (fun hq9 => ib_w 0 1599 (h15 hq9) rfl)) mV_X5_202 hPc hDc rfl rfl rfl hl rfl rfl (Nat.le_of_ble_eq_true rfl) ⟨(Nat.le_of_ble_eq_true rfl), (Nat.le_of_ble_eq_true rfl)⟩ ⟨(Nat.le_of_ble_eq_true rfl), (Nat.le_of_ble_eq_true rfl)⟩ dX5_both_25) (fun u22 H locs hw hP hD hS => ?_)
                obtain ⟨v23, v24, v25, v26, v27, v28, f29⟩ := u22
                try dsimp only at hP hD hw
                replace hP : va_P (dC, dI) vwCl [(wo_5_riiiiirii a_this a_this_text x_this_length v23 v24 v25 x_this_allowed a_this_plan v26 v27), (wi_0_1600_0 a_this_text cy g_this_text), (wo_4_iiiiiiirrrirrrrrir a_this_plan x_this_plan_cycle x_this_plan_green x_this_plan_rule x_this_plan_least x_this_plan_away x_this_plan_statements x_this_plan_kinds a_this_plan_calm a_this_plan_pace a_this_plan_trusts x_this_plan_walkers a_this_plan_kindOf a_this_plan_comesAt a_this_plan_comers a_this_plan_names a_this_plan_code v28 a_this_plan_spans), (wi_0_1600_0 a_this_plan_code cy f29)] H := hP
                replace hD := k_D hP hD
                obtain ⟨h30, h31, h32, h33, h34, h35⟩ := hw
                replace hq := lf_p1 hq h35
                replace hq := lf_p1 hq rfl
                replace hq := lf_p1 hq rfl
                replace hq := lf_p1 hq rfl
                replace hq := lf_p1 hq rfl
                replace hq := lf_p1 hq rfl
                refine lv_aload_n hx hb dX5_both_28 rfl (lv_at hl 0 rfl) ?_
                refine lv_bipush (v := (-29)) hx hb dX5_both_29 rfl ?_
                refine k_jvm hP hD hS hA [0, 2, 3] [false, true] rfl rfl rfl 0 0 (Nat.le_of_ble_eq_true rfl) (Nat.le_of_ble_eq_true rfl) (fun hPc hDc => k_runV (As := [.int (-29)]) (rest := []) C0 hZ hS hA (s_X5_emit l dC dI cy sq a_this a_this_text x_this_length v23 v24 v25 x_this_allowed a_this_plan x_this_plan_cycle x_this_plan_green x_this_plan_rule x_this_plan_least x_this_plan_away x_this_plan_statements x_this_plan_kinds a_this_plan_calm a_this_plan_pace a_this_plan_trusts x_this_plan_walkers a_this_plan_kindOf a_this_plan_comesAt a_this_plan_comers a_this_plan_names a_this_plan_code f29 v28 a_this_plan_spans v26 v27 (-29) (ib_w 0 1600 h33 rfl)) mV_X5_199 hPc hDc rfl rfl rfl hl rfl rfl (Nat.le_of_ble_eq_true rfl) ⟨(Nat.le_of_ble_eq_true rfl), (Nat.le_of_ble_eq_true rfl)⟩ ⟨(Nat.le_of_ble_eq_true rfl), (Nat.le_of_ble_eq_true rfl)⟩ dX5_both_31) (fun u37 H locs hw hP hD hS => ?_)
                obtain ⟨v38, f39⟩ := u37
                try dsimp only at hP hD hw
                replace hP : va_P (dC, dI) vwCl [(wi_0_1600_0 a_this_text cy g_this_text), (wo_5_riiiiirii a_this a_this_text x_this_length v23 v24 v25 x_this_allowed a_this_plan v26 v27), (wo_4_iiiiiiirrrirrrrrir a_this_plan x_this_plan_cycle x_this_plan_green x_this_plan_rule x_this_plan_least x_this_plan_away x_this_plan_statements x_this_plan_kinds a_this_plan_calm a_this_plan_pace a_this_plan_trusts x_this_plan_walkers a_this_plan_kindOf a_this_plan_comesAt a_this_plan_comers a_this_plan_names a_this_plan_code v38 a_this_plan_spans), (wi_0_1600_0 a_this_plan_code cy f39)] H := hP
                replace hD := k_D hP hD
                obtain ⟨h40, h41⟩ := hw
                have h41 := by have h9 := h41; try simp only [show ((-29) : Int32).toInt = (-29 : Int) from rfl] at h9; exact h9
                replace hq := lf_p1 hq h41
                obtain ⟨z42, ez42⟩ : ∃ y : Int32, y = J7_l2 + 1 := ⟨_, rfl⟩
                refine lv_iinc (v := z42) (lv' := [(2, .int z42), (0, .ref a_this), (1, .int 3)]) hx hb dX5_both_34 hl (k := 2) rfl (by rw [ez42]; rfl) (Nat.le_of_ble_eq_true rfl) rfl (fun ls hl => ?_)
                have h43 := ib_add h5 (ib_c 1 1 1 rfl) rfl
                rw [← ez42] at h43
                have h44 : ib z42 1 1600 := ib_w 1 1600 h43.1 rfl
                have Ez42 := lf_add h43.2 (lf_rf J7_l2) (lf_lc 1 (1 : Int) rfl)
                refine lv_goto (tgt := 7) hx hb dX5_both_37 rfl ?_
                exact ih7 v23 v24 v25 v26 v27 v38 f39 z42 H locs ls (ib_w 0 1600 h30 rfl) (ib_w 0 1600 h31 rfl) (ib_w 0 4 h32 rfl) (ib_w 0 1600 h40 rfl) (ib_w 0 1600 h44 rfl) (fun hq9 => ib_w 0 1599 (h34 hq9) rfl) (by rw [← hK7]; rw [lf_u Ez42]; exact hq) (by have := h43.2; have : (1 : Int32).toInt = 1 := rfl; omega) (hP.sub [1, 0, 2, 3] rfl) (hD.sub [1, 0, 2, 3] rfl rfl) hS (lv_sub hl [1, 2, 0] rfl)
  refine lv_aload_n hx hb dX5_both_0 rfl (lv_at hl 0 rfl) ?_
  refine lv_iload_n hx hb dX5_both_1 rfl (lv_at hl 1 rfl) ?_
  refine k_jvm hP hD hS hA [0, 1, 2, 3] [] rfl rfl rfl 0 0 (Nat.le_of_ble_eq_true rfl) (Nat.le_of_ble_eq_true rfl) (fun hPc hDc => k_runV (As := [.int 3]) (rest := []) C0 hZ hS hA (s_X5_fact_a0_3 l dC dI cy sq a_this a_this_text g_this_text x_this_length x_this_at x_this_behind x_this_sort x_this_allowed a_this_plan x_this_plan_cycle x_this_plan_green x_this_plan_rule x_this_plan_least x_this_plan_away x_this_plan_statements x_this_plan_kinds a_this_plan_calm a_this_plan_pace a_this_plan_trusts x_this_plan_walkers a_this_plan_kindOf a_this_plan_comesAt a_this_plan_comers a_this_plan_names a_this_plan_code g_this_plan_code x_this_plan_size a_this_plan_spans x_this_fault x_this_place hg_this_text (ib_w 0 1600 hx_this_length rfl) (ib_w 0 1600 hx_this_at rfl) (ib_w 0 1600 hx_this_behind rfl) (ib_w 0 4 hx_this_sort rfl) (ib_w 0 1600 hx_this_plan_size rfl) (fun hq9 => ib_w 0 1599 (hc0_this hq9) rfl)) mV_X5_202 hPc hDc rfl rfl rfl hl rfl rfl (Nat.le_of_ble_eq_true rfl) ⟨(Nat.le_of_ble_eq_true rfl), (Nat.le_of_ble_eq_true rfl)⟩ ⟨(Nat.le_of_ble_eq_true rfl), (Nat.le_of_ble_eq_true rfl)⟩ dX5_both_2) (fun u46 H locs hw hP hD hS => ?_)
  obtain ⟨v47, v48, v49, v50, v51, v52, f53⟩ := u46
  try dsimp only at hP hD hw
  replace hP : va_P (dC, dI) vwCl [(wo_5_riiiiirii a_this a_this_text x_this_length v47 v48 v49 x_this_allowed a_this_plan v50 v51), (wi_0_1600_0 a_this_text cy g_this_text), (wo_4_iiiiiiirrrirrrrrir a_this_plan x_this_plan_cycle x_this_plan_green x_this_plan_rule x_this_plan_least x_this_plan_away x_this_plan_statements x_this_plan_kinds a_this_plan_calm a_this_plan_pace a_this_plan_trusts x_this_plan_walkers a_this_plan_kindOf a_this_plan_comesAt a_this_plan_comers a_this_plan_names a_this_plan_code v52 a_this_plan_spans), (wi_0_1600_0 a_this_plan_code cy f53)] H := hP
  replace hD := k_D hP hD
  obtain ⟨h54, h55, h56, h57, h58, h59⟩ := hw
  replace hq := lf_p1 hq h59
  replace hq := lf_p1 hq rfl
  replace hq := lf_p1 hq rfl
  replace hq := lf_p1 hq rfl
  replace hq := lf_p1 hq rfl
  replace hq := lf_p1 hq rfl
  refine lv_iconst (v := 0) hx hb dX5_both_5 rfl ?_
  refine lv_istore_n (lv' := [(2, .int 0), (0, .ref a_this), (1, .int 3)]) hx hb dX5_both_6 rfl hl (Nat.le_of_ble_eq_true rfl) rfl (fun ls hl => ?_)
  exact jn7 1602 v47 v48 v49 v50 v51 v52 f53 0 H locs ls (ib_w 0 1600 h54 rfl) (ib_w 0 1600 h55 rfl) (ib_w 0 4 h56 rfl) (ib_w 0 1600 h57 rfl) (ib_w 0 1600 (ib_c 0 0 0 rfl) rfl) (fun hq9 => ib_w 0 1599 (h58 hq9) rfl) (by try simp only [show (0 : Int32).toInt = (0 : Int) from rfl]; exact hq) (by have := (ib_c 0 0 0 rfl); unfold ib at this; omega) hP hD hS (lv_sub hl [1, 2, 0] rfl)
set_option maxHeartbeats 4000000 in
set_option maxRecDepth 100000 in
theorem s_X5_test_a0_3 (l : Launch) (dC : Nat → ClassId) (dI : Nat → Nat → Nat) (cy : Nat → ClassId) (sq : Nat → Nat) (a_this : Nat) (a_this_text : Nat) (g_this_text : Nat → Int32) (x_this_length : Int32) (x_this_at : Int32) (x_this_behind : Int32) (x_this_sort : Int32) (x_this_allowed : Int32) (a_this_plan : Nat) (x_this_plan_cycle : Int32) (x_this_plan_green : Int32) (x_this_plan_rule : Int32) (x_this_plan_least : Int32) (x_this_plan_away : Int32) (x_this_plan_statements : Int32) (x_this_plan_kinds : Int32) (a_this_plan_calm : Nat) (a_this_plan_pace : Nat) (a_this_plan_trusts : Nat) (x_this_plan_walkers : Int32) (a_this_plan_kindOf : Nat) (a_this_plan_comesAt : Nat) (a_this_plan_comers : Nat) (a_this_plan_names : Nat) (a_this_plan_code : Nat) (g_this_plan_code : Nat → Int32) (x_this_plan_size : Int32) (a_this_plan_spans : Nat) (x_this_fault : Int32) (x_this_place : Int32) (hg_this_text : ia g_this_text 1600 0 255) (hx_this_length : ib x_this_length 0 1600) (hx_this_at : ib x_this_at 0 1600) (hx_this_behind : ib x_this_behind 0 1600) (hx_this_sort : ib x_this_sort 0 4) (hx_this_plan_size : ib x_this_plan_size 0 1600) (hc0_this : ¬ x_this_sort = 0 → ib x_this_at 0 1599) : k_Met l yX5_test cX5_test 3 none { frames := 23, cells := 0, slots := 0, locals := 566 } dC dI cy sq [.ref a_this, .int 3] [(wo_5_riiiiirii a_this a_this_text x_this_length x_this_at x_this_behind x_this_sort x_this_allowed a_this_plan x_this_fault x_this_place), (wi_0_1600_0 a_this_text cy g_this_text), (wo_4_iiiiiiirrrirrrrrir a_this_plan x_this_plan_cycle x_this_plan_green x_this_plan_rule x_this_plan_least x_this_plan_away x_this_plan_statements x_this_plan_kinds a_this_plan_calm a_this_plan_pace a_this_plan_trusts x_this_plan_walkers a_this_plan_kindOf a_this_plan_comesAt a_this_plan_comers a_this_plan_names a_this_plan_code x_this_plan_size a_this_plan_spans), (wi_0_1600_0 a_this_plan_code cy g_this_plan_code)] (k_Qv dC dI (fun (u : Int32 × Int32 × Int32 × Int32 × Int32 × Int32 × (Nat → Int32)) => match u with | (n0, n1, n2, n3, n4, n5, n6) => ib n0 0 1600 ∧ ib n1 0 1600 ∧ ib n2 0 4 ∧ ib n5 0 1600 ∧ (¬ n2 = 0 → ib n0 0 1599) ∧ (F_X5_test_a0_3 (lf_A g_this_text) (Int32.toInt x_this_length) (Int32.toInt x_this_at) (Int32.toInt x_this_behind) (Int32.toInt x_this_sort) (Int32.toInt x_this_allowed) (lf_A g_this_plan_code) (Int32.toInt x_this_plan_size) (Int32.toInt x_this_fault) (Int32.toInt x_this_place) = ((Int32.toInt n0), (Int32.toInt n1), (Int32.toInt n2), (Int32.toInt n3), (Int32.toInt n4), (Int32.toInt n5), (lf_A n6)))) (fun u : Int32 × Int32 × Int32 × Int32 × Int32 × Int32 × (Nat → Int32) => match u with | (n0, n1, n2, n3, n4, n5, n6) => [(wo_5_riiiiirii a_this a_this_text x_this_length n0 n1 n2 x_this_allowed a_this_plan n3 n4), (wi_0_1600_0 a_this_text cy g_this_text), (wo_4_iiiiiiirrrirrrrrir a_this_plan x_this_plan_cycle x_this_plan_green x_this_plan_rule x_this_plan_least x_this_plan_away x_this_plan_statements x_this_plan_kinds a_this_plan_calm a_this_plan_pace a_this_plan_trusts x_this_plan_walkers a_this_plan_kindOf a_this_plan_comesAt a_this_plan_comers a_this_plan_names a_this_plan_code n5 a_this_plan_spans), (wi_0_1600_0 a_this_plan_code cy n6)])) := by
  refine k_ofW2 (by decide +kernel) (Nat.le_of_ble_eq_true rfl) ?_
  intro p e s m below meth c A ls H locs args Q hQ C0 hZ hr hlk hin hP hD hA hS hl
  have C0 : k_cx p s m args c cX5_test 3 RX5 dC dI cy sq := C0
  have hx := C0.1
  have hb := C0.2.1
  have hl : lv_has ls 3 [(0, .ref a_this), (1, .int 3)] := hl
  obtain ⟨O, hO⟩ : ∃ o, o = F_X5_test_a0_3 (lf_A g_this_text) (Int32.toInt x_this_length) (Int32.toInt x_this_at) (Int32.toInt x_this_behind) (Int32.toInt x_this_sort) (Int32.toInt x_this_allowed) (lf_A g_this_plan_code) (Int32.toInt x_this_plan_size) (Int32.toInt x_this_fault) (Int32.toInt x_this_place) := ⟨_, rfl⟩
  have hq := hO
  unfold F_X5_test_a0_3 at hq
  have jn7 : ∀ (n : Nat) (J7_c0_2 : Int32) (J7_c0_3 : Int32) (J7_c0_4 : Int32) (J7_c0_7 : Int32) (J7_c0_8 : Int32) (J7_c2_16 : Int32) (J7_a3 : Nat → Int32) (J7_l2 : Int32) (H : Heap) (locs : List Loc) (ls : Array Slot), ib J7_c0_2 0 1600 → ib J7_c0_3 0 1600 → ib J7_c0_4 0 4 → ib J7_c2_16 0 1600 → ib J7_l2 0 1600 → (¬ J7_c0_4 = 0 → ib J7_c0_2 0 1599) → (O = F_X5_test_a0_3_7 (lf_A g_this_text) (Int32.toInt x_this_length) (Int32.toInt x_this_allowed) n (Int32.toInt J7_c0_2) (Int32.toInt J7_c0_3) (Int32.toInt J7_c0_4) (Int32.toInt J7_c0_7) (Int32.toInt J7_c0_8) (Int32.toInt J7_c2_16) (lf_A J7_a3) (Int32.toInt J7_l2)) → 1601 ≤ J7_l2.toInt + (n : Int) → va_P (dC, dI) vwCl [(wo_5_riiiiirii a_this a_this_text x_this_length J7_c0_2 J7_c0_3 J7_c0_4 x_this_allowed a_this_plan J7_c0_7 J7_c0_8), (wi_0_1600_0 a_this_text cy g_this_text), (wo_4_iiiiiiirrrirrrrrir a_this_plan x_this_plan_cycle x_this_plan_green x_this_plan_rule x_this_plan_least x_this_plan_away x_this_plan_statements x_this_plan_kinds a_this_plan_calm a_this_plan_pace a_this_plan_trusts x_this_plan_walkers a_this_plan_kindOf a_this_plan_comesAt a_this_plan_comers a_this_plan_names a_this_plan_code J7_c2_16 a_this_plan_spans), (wi_0_1600_0 a_this_plan_code cy J7_a3)] H → va_D A [(wo_5_riiiiirii a_this a_this_text x_this_length J7_c0_2 J7_c0_3 J7_c0_4 x_this_allowed a_this_plan J7_c0_7 J7_c0_8), (wi_0_1600_0 a_this_text cy g_this_text), (wo_4_iiiiiiirrrirrrrrir a_this_plan x_this_plan_cycle x_this_plan_green x_this_plan_rule x_this_plan_least x_this_plan_away x_this_plan_statements x_this_plan_kinds a_this_plan_calm a_this_plan_pace a_this_plan_trusts x_this_plan_walkers a_this_plan_kindOf a_this_plan_comesAt a_this_plan_comers a_this_plan_names a_this_plan_code J7_c2_16 a_this_plan_spans), (wi_0_1600_0 a_this_plan_code cy J7_a3)] → va_S A s.heap H locs → lv_has ls 3 [(0, .ref a_this), (1, .int 3), (2, .int J7_l2)] → W p l e { frames := 23, cells := 0, slots := 0, locals := 566 } s m args below meth c H locs 0 0 Q (F0 m 7 ls []) := by
    as_aux_lemma =>
      intro n
      induction n with
      | zero =>
        intro J7_c0_2 J7_c0_3 J7_c0_4 J7_c0_7 J7_c0_8 J7_c2_16 J7_a3 J7_l2 H locs ls hJ7_c0_2 hJ7_c0_3 hJ7_c0_4 hJ7_c2_16 hJ7_l2 hJ7_ic0_0 hq hm
        exact absurd hm (by have := hJ7_l2; unfold ib at this; omega)
      | succ n ih =>
        intro J7_c0_2 J7_c0_3 J7_c0_4 J7_c0_7 J7_c0_8 J7_c2_16 J7_a3 J7_l2 H locs ls hJ7_c0_2 hJ7_c0_3 hJ7_c0_4 hJ7_c2_16 hJ7_l2 hJ7_ic0_0 hq hm7 hP hD hS hl
        have ih7 := ih
        obtain ⟨K7, hK7⟩ : ∃ K, K = F_X5_test_a0_3_7 (lf_A g_this_text) (Int32.toInt x_this_length) (Int32.toInt x_this_allowed) n := ⟨_, rfl⟩
        have hq : O = F_X5_test_a0_3_7b (lf_A g_this_text) (Int32.toInt x_this_length) (Int32.toInt x_this_allowed) K7 (Int32.toInt J7_c0_2) (Int32.toInt J7_c0_3) (Int32.toInt J7_c0_4) (Int32.toInt J7_c0_7) (Int32.toInt J7_c0_8) (Int32.toInt J7_c2_16) (lf_A J7_a3) (Int32.toInt J7_l2) := by rw [hK7]; exact hq
        unfold F_X5_test_a0_3_7b at hq
        refine lv_iload_n hx hb dX5_test_7 rfl (lv_at hl 2 rfl) ?_
        refine lv_sipush (v := 1600) hx hb dX5_test_8 rfl ?_
        refine lv_icmp_ge (tgt := 40) hx hb dX5_test_11 rfl (fun c1 => ?_) (fun c1 => ?_)
        · replace hq := lf_pos hq (lf_le (lf_lc 1600 (1600 : Int) rfl) (lf_rf J7_l2) c1)
          have h2 := ib_le (ib_c 1600 1600 1600 rfl) hJ7_l2 c1
          have h3 : ib J7_l2 1600 1600 := ib_w 1600 1600 h2.2 rfl
          subst hQ; exact k_vret hx hb hr hlk ((J7_c0_2, J7_c0_3, J7_c0_4, J7_c0_7, J7_c0_8, J7_c2_16, J7_a3)) hS ⟨ib_w 0 1600 hJ7_c0_2 rfl, ib_w 0 1600 hJ7_c0_3 rfl, ib_w 0 4 hJ7_c0_4 rfl, ib_w 0 1600 hJ7_c2_16 rfl, fun hq9 => ib_w 0 1599 (hJ7_ic0_0 hq9) rfl, (hO.symm.trans (by exact hq))⟩ hP hD (Nat.le_of_ble_eq_true rfl) (Nat.le_of_ble_eq_true rfl) dX5_test_40
        · as_aux_lemma =>
            replace hq := lf_neg hq (lf_nle (lf_lc 1600 (1600 : Int) rfl) (lf_rf J7_l2) c1)
            have h4 := ib_nle (ib_c 1600 1600 1600 rfl) hJ7_l2 c1
            have h5 : ib J7_l2 0 1599 := ib_w 0 1599 h4.2 rfl
            refine lv_aload_n hx hb dX5_test_14 rfl (lv_at hl 0 rfl) ?_
            refine va_ldcS hx hb C0.2.2.2.1 (C0.2.2.2.2.2.2.2.2.2.2.2.2 13 (by decide)) dX5_test_15 ?_
            refine k_jim hP hD hS hA [0, 1] [false, false, true, true] rfl rfl rfl 0 0 (Nat.le_of_ble_eq_true rfl) (Nat.le_of_ble_eq_true rfl) (fun hPc hDc => k_runV (As := [.ref (sq 13)]) (rest := []) C0 hZ hS hA (s_X5_takeWord_s13 l dC dI cy sq a_this a_this_text g_this_text x_this_length J7_c0_2 J7_c0_3 J7_c0_4 x_this_allowed a_this_plan J7_c0_7 J7_c0_8 hg_this_text (ib_w 0 1600 hx_this_length rfl) (ib_w 0 1600 hJ7_c0_2 rfl) (ib_w 0 1600 hJ7_c0_3 rfl) (ib_w 0 4 hJ7_c0_4 rfl) (fun hq9 => ib_w 0 1599 (hJ7_ic0_0 hq9) rfl)) mV_X5_195 hPc hDc rfl rfl rfl hl rfl rfl (Nat.le_of_ble_eq_true rfl) ⟨(Nat.le_of_ble_eq_true rfl), (Nat.le_of_ble_eq_true rfl)⟩ ⟨(Nat.le_of_ble_eq_true rfl), (Nat.le_of_ble_eq_true rfl)⟩ dX5_test_17) (fun r6 u7 H locs hw hP hD hS => ?_)
            obtain ⟨v8, v9, v10⟩ := u7
            try dsimp only at hP hD hw
            replace hP : va_P (dC, dI) vwCl [(wo_4_iiiiiiirrrirrrrrir a_this_plan x_this_plan_cycle x_this_plan_green x_this_plan_rule x_this_plan_least x_this_plan_away x_this_plan_statements x_this_plan_kinds a_this_plan_calm a_this_plan_pace a_this_plan_trusts x_this_plan_walkers a_this_plan_kindOf a_this_plan_comesAt a_this_plan_comers a_this_plan_names a_this_plan_code J7_c2_16 a_this_plan_spans), (wi_0_1600_0 a_this_plan_code cy J7_a3), (wo_5_riiiiirii a_this a_this_text x_this_length v8 v9 v10 x_this_allowed a_this_plan J7_c0_7 J7_c0_8), (wi_0_1600_0 a_this_text cy g_this_text)] H := hP
            replace hD := k_D hP hD
            obtain ⟨h11, h12, h13, h14, h15, h16⟩ := hw
            replace hq := lf_p1 hq h16
            replace hq := lf_p1 hq rfl
            replace hq := lf_p1 hq rfl
            refine lv_if_eq (tgt := 40) hx hb dX5_test_20 rfl (fun c17 => ?_) (fun c17 => ?_)
            · replace hq := lf_pos hq (lf_eq (lf_rf r6) (lf_lc 0 (0 : Int) rfl) c17)
              have h18 := ib_eq h11 (ib_c 0 0 0 rfl) c17
              have h19 : ib r6 0 0 := ib_w 0 0 h18.1 rfl
              subst hQ; exact k_vret hx hb hr hlk ((v8, v9, v10, J7_c0_7, J7_c0_8, J7_c2_16, J7_a3)) hS ⟨ib_w 0 1600 h12 rfl, ib_w 0 1600 h13 rfl, ib_w 0 4 h14 rfl, ib_w 0 1600 hJ7_c2_16 rfl, fun hq9 => ib_w 0 1599 (h15 hq9) rfl, (hO.symm.trans (by exact hq))⟩ (hP.sub [2, 3, 0, 1] rfl) (hD.sub [2, 3, 0, 1] rfl rfl) (Nat.le_of_ble_eq_true rfl) (Nat.le_of_ble_eq_true rfl) dX5_test_40
            · as_aux_lemma =>
                replace hq := lf_neg hq (lf_ne (lf_rf r6) (lf_lc 0 (0 : Int) rfl) c17)
                have h20 : ib r6 1 1 := ib_w 1 1 (ib_ne_lo 0 h11 rfl c17) rfl
                refine lv_aload_n hx hb dX5_test_23 rfl (lv_at hl 0 rfl) ?_
                refine lv_iload_n hx hb dX5_test_24 rfl (lv_at hl 1 rfl) ?_
                refine k_jvm hP hD hS hA [2, 3, 0, 1] [] rfl rfl rfl 0 0 (Nat.le_of_ble_eq_true rfl) (Nat.le_of_ble_eq_true rfl) (fun hPc hDc => k_runV (As := [.int 3]) (rest := []) C0 hZ hS hA (s_X5_both_a0_3 l dC dI cy sq a_this a_this_text g_this_text x_this_length v8 v9 v10 x_this_allowed a_this_plan x_this_plan_cycle x_this_plan_green x_this_plan_rule x_this_plan_least x_this_plan_away x_this_plan_statements x_this_plan_kinds a_this_plan_calm a_this_plan_pace a_this_plan_trusts x_this_plan_walkers a_this_plan_kindOf a_this_plan_comesAt a_this_plan_comers a_this_plan_names a_this_plan_code J7_a3 J7_c2_16 a_this_plan_spans J7_c0_7 J7_c0_8 hg_this_text (ib_w 0 1600 hx_this_length rfl) (ib_w 0 1600 h12 rfl) (ib_w 0 1600 h13 rfl) (ib_w 0 4 h14 rfl) (ib_w 0 1600 hJ7_c2_16 rfl) (fun hq9 => ib_w 0 1599 (h15 hq9) rfl)) mV_X5_190 hPc hDc rfl rfl rfl hl rfl rfl (Nat.le_of_ble_eq_true rfl) ⟨(Nat.le_of_ble_eq_true rfl), (Nat.le_of_ble_eq_true rfl)⟩ ⟨(Nat.le_of_ble_eq_true rfl), (Nat.le_of_ble_eq_true rfl)⟩ dX5_test_25) (fun u22 H locs hw hP hD hS => ?_)
                obtain ⟨v23, v24, v25, v26, v27, v28, f29⟩ := u22
                try dsimp only at hP hD hw
                replace hP : va_P (dC, dI) vwCl [(wo_5_riiiiirii a_this a_this_text x_this_length v23 v24 v25 x_this_allowed a_this_plan v26 v27), (wi_0_1600_0 a_this_text cy g_this_text), (wo_4_iiiiiiirrrirrrrrir a_this_plan x_this_plan_cycle x_this_plan_green x_this_plan_rule x_this_plan_least x_this_plan_away x_this_plan_statements x_this_plan_kinds a_this_plan_calm a_this_plan_pace a_this_plan_trusts x_this_plan_walkers a_this_plan_kindOf a_this_plan_comesAt a_this_plan_comers a_this_plan_names a_this_plan_code v28 a_this_plan_spans), (wi_0_1600_0 a_this_plan_code cy f29)] H := hP
                replace hD := k_D hP hD
                obtain ⟨h30, h31, h32, h33, h34, h35⟩ := hw
                replace hq := lf_p1 hq h35
                replace hq := lf_p1 hq rfl
                replace hq := lf_p1 hq rfl
                replace hq := lf_p1 hq rfl
                replace hq := lf_p1 hq rfl
                replace hq := lf_p1 hq rfl
                refine lv_aload_n hx hb dX5_test_28 rfl (lv_at hl 0 rfl) ?_
                refine lv_bipush (v := (-30)) hx hb dX5_test_29 rfl ?_
                refine k_jvm hP hD hS hA [0, 2, 3] [false, true] rfl rfl rfl 0 0 (Nat.le_of_ble_eq_true rfl) (Nat.le_of_ble_eq_true rfl) (fun hPc hDc => k_runV (As := [.int (-30)]) (rest := []) C0 hZ hS hA (s_X5_emit l dC dI cy sq a_this a_this_text x_this_length v23 v24 v25 x_this_allowed a_this_plan x_this_plan_cycle x_this_plan_green x_this_plan_rule x_this_plan_least x_this_plan_away x_this_plan_statements x_this_plan_kinds a_this_plan_calm a_this_plan_pace a_this_plan_trusts x_this_plan_walkers a_this_plan_kindOf a_this_plan_comesAt a_this_plan_comers a_this_plan_names a_this_plan_code f29 v28 a_this_plan_spans v26 v27 (-30) (ib_w 0 1600 h33 rfl)) mV_X5_199 hPc hDc rfl rfl rfl hl rfl rfl (Nat.le_of_ble_eq_true rfl) ⟨(Nat.le_of_ble_eq_true rfl), (Nat.le_of_ble_eq_true rfl)⟩ ⟨(Nat.le_of_ble_eq_true rfl), (Nat.le_of_ble_eq_true rfl)⟩ dX5_test_31) (fun u37 H locs hw hP hD hS => ?_)
                obtain ⟨v38, f39⟩ := u37
                try dsimp only at hP hD hw
                replace hP : va_P (dC, dI) vwCl [(wi_0_1600_0 a_this_text cy g_this_text), (wo_5_riiiiirii a_this a_this_text x_this_length v23 v24 v25 x_this_allowed a_this_plan v26 v27), (wo_4_iiiiiiirrrirrrrrir a_this_plan x_this_plan_cycle x_this_plan_green x_this_plan_rule x_this_plan_least x_this_plan_away x_this_plan_statements x_this_plan_kinds a_this_plan_calm a_this_plan_pace a_this_plan_trusts x_this_plan_walkers a_this_plan_kindOf a_this_plan_comesAt a_this_plan_comers a_this_plan_names a_this_plan_code v38 a_this_plan_spans), (wi_0_1600_0 a_this_plan_code cy f39)] H := hP
                replace hD := k_D hP hD
                obtain ⟨h40, h41⟩ := hw
                have h41 := by have h9 := h41; try simp only [show ((-30) : Int32).toInt = (-30 : Int) from rfl] at h9; exact h9
                replace hq := lf_p1 hq h41
                obtain ⟨z42, ez42⟩ : ∃ y : Int32, y = J7_l2 + 1 := ⟨_, rfl⟩
                refine lv_iinc (v := z42) (lv' := [(2, .int z42), (0, .ref a_this), (1, .int 3)]) hx hb dX5_test_34 hl (k := 2) rfl (by rw [ez42]; rfl) (Nat.le_of_ble_eq_true rfl) rfl (fun ls hl => ?_)
                have h43 := ib_add h5 (ib_c 1 1 1 rfl) rfl
                rw [← ez42] at h43
                have h44 : ib z42 1 1600 := ib_w 1 1600 h43.1 rfl
                have Ez42 := lf_add h43.2 (lf_rf J7_l2) (lf_lc 1 (1 : Int) rfl)
                refine lv_goto (tgt := 7) hx hb dX5_test_37 rfl ?_
                exact ih7 v23 v24 v25 v26 v27 v38 f39 z42 H locs ls (ib_w 0 1600 h30 rfl) (ib_w 0 1600 h31 rfl) (ib_w 0 4 h32 rfl) (ib_w 0 1600 h40 rfl) (ib_w 0 1600 h44 rfl) (fun hq9 => ib_w 0 1599 (h34 hq9) rfl) (by rw [← hK7]; rw [lf_u Ez42]; exact hq) (by have := h43.2; have : (1 : Int32).toInt = 1 := rfl; omega) (hP.sub [1, 0, 2, 3] rfl) (hD.sub [1, 0, 2, 3] rfl rfl) hS (lv_sub hl [1, 2, 0] rfl)
  refine lv_aload_n hx hb dX5_test_0 rfl (lv_at hl 0 rfl) ?_
  refine lv_iload_n hx hb dX5_test_1 rfl (lv_at hl 1 rfl) ?_
  refine k_jvm hP hD hS hA [0, 1, 2, 3] [] rfl rfl rfl 0 0 (Nat.le_of_ble_eq_true rfl) (Nat.le_of_ble_eq_true rfl) (fun hPc hDc => k_runV (As := [.int 3]) (rest := []) C0 hZ hS hA (s_X5_both_a0_3 l dC dI cy sq a_this a_this_text g_this_text x_this_length x_this_at x_this_behind x_this_sort x_this_allowed a_this_plan x_this_plan_cycle x_this_plan_green x_this_plan_rule x_this_plan_least x_this_plan_away x_this_plan_statements x_this_plan_kinds a_this_plan_calm a_this_plan_pace a_this_plan_trusts x_this_plan_walkers a_this_plan_kindOf a_this_plan_comesAt a_this_plan_comers a_this_plan_names a_this_plan_code g_this_plan_code x_this_plan_size a_this_plan_spans x_this_fault x_this_place hg_this_text (ib_w 0 1600 hx_this_length rfl) (ib_w 0 1600 hx_this_at rfl) (ib_w 0 1600 hx_this_behind rfl) (ib_w 0 4 hx_this_sort rfl) (ib_w 0 1600 hx_this_plan_size rfl) (fun hq9 => ib_w 0 1599 (hc0_this hq9) rfl)) mV_X5_190 hPc hDc rfl rfl rfl hl rfl rfl (Nat.le_of_ble_eq_true rfl) ⟨(Nat.le_of_ble_eq_true rfl), (Nat.le_of_ble_eq_true rfl)⟩ ⟨(Nat.le_of_ble_eq_true rfl), (Nat.le_of_ble_eq_true rfl)⟩ dX5_test_2) (fun u46 H locs hw hP hD hS => ?_)
  obtain ⟨v47, v48, v49, v50, v51, v52, f53⟩ := u46
  try dsimp only at hP hD hw
  replace hP : va_P (dC, dI) vwCl [(wo_5_riiiiirii a_this a_this_text x_this_length v47 v48 v49 x_this_allowed a_this_plan v50 v51), (wi_0_1600_0 a_this_text cy g_this_text), (wo_4_iiiiiiirrrirrrrrir a_this_plan x_this_plan_cycle x_this_plan_green x_this_plan_rule x_this_plan_least x_this_plan_away x_this_plan_statements x_this_plan_kinds a_this_plan_calm a_this_plan_pace a_this_plan_trusts x_this_plan_walkers a_this_plan_kindOf a_this_plan_comesAt a_this_plan_comers a_this_plan_names a_this_plan_code v52 a_this_plan_spans), (wi_0_1600_0 a_this_plan_code cy f53)] H := hP
  replace hD := k_D hP hD
  obtain ⟨h54, h55, h56, h57, h58, h59⟩ := hw
  replace hq := lf_p1 hq h59
  replace hq := lf_p1 hq rfl
  replace hq := lf_p1 hq rfl
  replace hq := lf_p1 hq rfl
  replace hq := lf_p1 hq rfl
  replace hq := lf_p1 hq rfl
  refine lv_iconst (v := 0) hx hb dX5_test_5 rfl ?_
  refine lv_istore_n (lv' := [(2, .int 0), (0, .ref a_this), (1, .int 3)]) hx hb dX5_test_6 rfl hl (Nat.le_of_ble_eq_true rfl) rfl (fun ls hl => ?_)
  exact jn7 1602 v47 v48 v49 v50 v51 v52 f53 0 H locs ls (ib_w 0 1600 h54 rfl) (ib_w 0 1600 h55 rfl) (ib_w 0 4 h56 rfl) (ib_w 0 1600 h57 rfl) (ib_w 0 1600 (ib_c 0 0 0 rfl) rfl) (fun hq9 => ib_w 0 1599 (h58 hq9) rfl) (by try simp only [show (0 : Int32).toInt = (0 : Int) from rfl]; exact hq) (by have := (ib_c 0 0 0 rfl); unfold ib at this; omega) hP hD hS (lv_sub hl [1, 2, 0] rfl)
set_option maxHeartbeats 4000000 in
set_option maxRecDepth 100000 in
theorem s_X5_fact_a0_2 (l : Launch) (dC : Nat → ClassId) (dI : Nat → Nat → Nat) (cy : Nat → ClassId) (sq : Nat → Nat) (a_this : Nat) (a_this_text : Nat) (g_this_text : Nat → Int32) (x_this_length : Int32) (x_this_at : Int32) (x_this_behind : Int32) (x_this_sort : Int32) (x_this_allowed : Int32) (a_this_plan : Nat) (x_this_plan_cycle : Int32) (x_this_plan_green : Int32) (x_this_plan_rule : Int32) (x_this_plan_least : Int32) (x_this_plan_away : Int32) (x_this_plan_statements : Int32) (x_this_plan_kinds : Int32) (a_this_plan_calm : Nat) (a_this_plan_pace : Nat) (a_this_plan_trusts : Nat) (x_this_plan_walkers : Int32) (a_this_plan_kindOf : Nat) (a_this_plan_comesAt : Nat) (a_this_plan_comers : Nat) (a_this_plan_names : Nat) (a_this_plan_code : Nat) (g_this_plan_code : Nat → Int32) (x_this_plan_size : Int32) (a_this_plan_spans : Nat) (x_this_fault : Int32) (x_this_place : Int32) (hg_this_text : ia g_this_text 1600 0 255) (hx_this_length : ib x_this_length 0 1600) (hx_this_at : ib x_this_at 0 1600) (hx_this_behind : ib x_this_behind 0 1600) (hx_this_sort : ib x_this_sort 0 4) (hx_this_plan_size : ib x_this_plan_size 0 1600) (hc0_this : ¬ x_this_sort = 0 → ib x_this_at 0 1599) : k_Met l yX5_fact cX5_fact 3 none { frames := 25, cells := 0, slots := 0, locals := 611 } dC dI cy sq [.ref a_this, .int 2] [(wo_5_riiiiirii a_this a_this_text x_this_length x_this_at x_this_behind x_this_sort x_this_allowed a_this_plan x_this_fault x_this_place), (wi_0_1600_0 a_this_text cy g_this_text), (wo_4_iiiiiiirrrirrrrrir a_this_plan x_this_plan_cycle x_this_plan_green x_this_plan_rule x_this_plan_least x_this_plan_away x_this_plan_statements x_this_plan_kinds a_this_plan_calm a_this_plan_pace a_this_plan_trusts x_this_plan_walkers a_this_plan_kindOf a_this_plan_comesAt a_this_plan_comers a_this_plan_names a_this_plan_code x_this_plan_size a_this_plan_spans), (wi_0_1600_0 a_this_plan_code cy g_this_plan_code)] (k_Qv dC dI (fun (u : Int32 × Int32 × Int32 × Int32 × Int32 × Int32 × (Nat → Int32)) => match u with | (n0, n1, n2, n3, n4, n5, n6) => ib n0 0 1600 ∧ ib n1 0 1600 ∧ ib n2 0 4 ∧ ib n5 0 1600 ∧ (¬ n2 = 0 → ib n0 0 1599) ∧ (F_X5_fact_a0_2 (lf_A g_this_text) (Int32.toInt x_this_length) (Int32.toInt x_this_at) (Int32.toInt x_this_behind) (Int32.toInt x_this_sort) (Int32.toInt x_this_allowed) (lf_A g_this_plan_code) (Int32.toInt x_this_plan_size) (Int32.toInt x_this_fault) (Int32.toInt x_this_place) = ((Int32.toInt n0), (Int32.toInt n1), (Int32.toInt n2), (Int32.toInt n3), (Int32.toInt n4), (Int32.toInt n5), (lf_A n6)))) (fun u : Int32 × Int32 × Int32 × Int32 × Int32 × Int32 × (Nat → Int32) => match u with | (n0, n1, n2, n3, n4, n5, n6) => [(wo_5_riiiiirii a_this a_this_text x_this_length n0 n1 n2 x_this_allowed a_this_plan n3 n4), (wi_0_1600_0 a_this_text cy g_this_text), (wo_4_iiiiiiirrrirrrrrir a_this_plan x_this_plan_cycle x_this_plan_green x_this_plan_rule x_this_plan_least x_this_plan_away x_this_plan_statements x_this_plan_kinds a_this_plan_calm a_this_plan_pace a_this_plan_trusts x_this_plan_walkers a_this_plan_kindOf a_this_plan_comesAt a_this_plan_comers a_this_plan_names a_this_plan_code n5 a_this_plan_spans), (wi_0_1600_0 a_this_plan_code cy n6)])) := by
  refine k_ofW2 (by decide +kernel) (Nat.le_of_ble_eq_true rfl) ?_
  intro p e s m below meth c A ls H locs args Q hQ C0 hZ hr hlk hin hP hD hA hS hl
  have C0 : k_cx p s m args c cX5_fact 3 RX5 dC dI cy sq := C0
  have hx := C0.1
  have hb := C0.2.1
  have hl : lv_has ls 3 [(0, .ref a_this), (1, .int 2)] := hl
  obtain ⟨O, hO⟩ : ∃ o, o = F_X5_fact_a0_2 (lf_A g_this_text) (Int32.toInt x_this_length) (Int32.toInt x_this_at) (Int32.toInt x_this_behind) (Int32.toInt x_this_sort) (Int32.toInt x_this_allowed) (lf_A g_this_plan_code) (Int32.toInt x_this_plan_size) (Int32.toInt x_this_fault) (Int32.toInt x_this_place) := ⟨_, rfl⟩
  have hq := hO
  unfold F_X5_fact_a0_2 at hq
  refine lv_aload_n hx hb dX5_fact_0 rfl (lv_at hl 0 rfl) ?_
  refine va_ldcS hx hb C0.2.2.2.1 (C0.2.2.2.2.2.2.2.2.2.2.2.2 15 (by decide)) dX5_fact_1 ?_
  refine k_jim hP hD hS hA [0, 1] [false, false, true, true] rfl rfl rfl 0 0 (Nat.le_of_ble_eq_true rfl) (Nat.le_of_ble_eq_true rfl) (fun hPc hDc => k_runV (As := [.ref (sq 15)]) (rest := []) C0 hZ hS hA (s_X5_wordIn_s15 l dC dI cy sq a_this a_this_text g_this_text x_this_length x_this_at x_this_behind x_this_sort x_this_allowed a_this_plan x_this_fault x_this_place hg_this_text (ib_w 0 1600 hx_this_at rfl) (ib_w 0 1600 hx_this_behind rfl) (ib_w 0 4 hx_this_sort rfl) (fun hq9 => ib_w 0 1599 (hc0_this hq9) rfl)) mV_X5_54 hPc hDc rfl rfl rfl hl rfl rfl (Nat.le_of_ble_eq_true rfl) ⟨(Nat.le_of_ble_eq_true rfl), (Nat.le_of_ble_eq_true rfl)⟩ ⟨(Nat.le_of_ble_eq_true rfl), (Nat.le_of_ble_eq_true rfl)⟩ dX5_fact_3) (fun r1 u2 H locs hw hP hD hS => ?_)
  try dsimp only at hP hD hw
  replace hP : va_P (dC, dI) vwCl [(wo_4_iiiiiiirrrirrrrrir a_this_plan x_this_plan_cycle x_this_plan_green x_this_plan_rule x_this_plan_least x_this_plan_away x_this_plan_statements x_this_plan_kinds a_this_plan_calm a_this_plan_pace a_this_plan_trusts x_this_plan_walkers a_this_plan_kindOf a_this_plan_comesAt a_this_plan_comers a_this_plan_names a_this_plan_code x_this_plan_size a_this_plan_spans), (wi_0_1600_0 a_this_plan_code cy g_this_plan_code), (wo_5_riiiiirii a_this a_this_text x_this_length x_this_at x_this_behind x_this_sort x_this_allowed a_this_plan x_this_fault x_this_place), (wi_0_1600_0 a_this_text cy g_this_text)] H := hP
  replace hD := k_D hP hD
  have h3 := hw
  replace hq := lf_b1 hq h3
  refine lv_iconst (v := (-1)) hx hb dX5_fact_6 rfl ?_
  refine lv_icmp_eq (tgt := 34) hx hb dX5_fact_7 rfl (fun c4 => ?_) (fun c4 => ?_)
  · as_aux_lemma =>
      replace hq := lf_pos hq (lf_eq (lf_rf r1) (lf_lc (-1) (-1 : Int) rfl) c4)
      have h5 := ib_eq (ib_any r1) (ib_c (-1) (-1) (-1) rfl) c4
      have h6 : ib r1 (-1) (-1) := ib_w (-1) (-1) h5.1 rfl
      refine lv_aload_n hx hb dX5_fact_34 rfl (lv_at hl 0 rfl) ?_
      refine lv_bipush (v := 91) hx hb dX5_fact_35 rfl ?_
      refine k_jim hP hD hS hA [2, 3] [true, true] rfl rfl rfl 0 0 (Nat.le_of_ble_eq_true rfl) (Nat.le_of_ble_eq_true rfl) (fun hPc hDc => k_runV (As := [.int 91]) (rest := []) C0 hZ hS hA (s_X5_sees l dC dI cy sq a_this a_this_text g_this_text x_this_length x_this_at x_this_behind x_this_sort x_this_allowed a_this_plan x_this_fault x_this_place 91 hg_this_text (ib_w 0 1600 hx_this_at rfl) (ib_w 0 4 hx_this_sort rfl) (fun hq9 => ib_w 0 1599 (hc0_this hq9) rfl)) mV_X5_213 hPc hDc rfl rfl rfl hl rfl rfl (Nat.le_of_ble_eq_true rfl) ⟨(Nat.le_of_ble_eq_true rfl), (Nat.le_of_ble_eq_true rfl)⟩ ⟨(Nat.le_of_ble_eq_true rfl), (Nat.le_of_ble_eq_true rfl)⟩ dX5_fact_37) (fun r7 u8 H locs hw hP hD hS => ?_)
      try dsimp only at hP hD hw
      replace hP : va_P (dC, dI) vwCl [(wo_4_iiiiiiirrrirrrrrir a_this_plan x_this_plan_cycle x_this_plan_green x_this_plan_rule x_this_plan_least x_this_plan_away x_this_plan_statements x_this_plan_kinds a_this_plan_calm a_this_plan_pace a_this_plan_trusts x_this_plan_walkers a_this_plan_kindOf a_this_plan_comesAt a_this_plan_comers a_this_plan_names a_this_plan_code x_this_plan_size a_this_plan_spans), (wi_0_1600_0 a_this_plan_code cy g_this_plan_code), (wo_5_riiiiirii a_this a_this_text x_this_length x_this_at x_this_behind x_this_sort x_this_allowed a_this_plan x_this_fault x_this_place), (wi_0_1600_0 a_this_text cy g_this_text)] H := hP
      replace hD := k_D hP hD
      obtain ⟨h9, h10, h11, h12, h13⟩ := hw
      have h13 := by have h9 := h13; try simp only [show (91 : Int32).toInt = (91 : Int) from rfl] at h9; exact h9
      replace hq := lf_b1 hq h13
      refine lv_if_eq (tgt := 67) hx hb dX5_fact_40 rfl (fun c14 => ?_) (fun c14 => ?_)
      · as_aux_lemma =>
          replace hq := lf_pos hq (lf_eq (lf_rf r7) (lf_lc 0 (0 : Int) rfl) c14)
          have h15 := ib_eq h9 (ib_c 0 0 0 rfl) c14
          have h16 : ib r7 0 0 := ib_w 0 0 h15.1 rfl
          refine lv_aload_n hx hb dX5_fact_67 rfl (lv_at hl 0 rfl) ?_
          refine va_ldcS hx hb C0.2.2.2.1 (C0.2.2.2.2.2.2.2.2.2.2.2.2 16 (by decide)) dX5_fact_68 ?_
          refine k_jim hP hD hS hA [2, 3] [true, true] rfl rfl rfl 0 0 (Nat.le_of_ble_eq_true rfl) (Nat.le_of_ble_eq_true rfl) (fun hPc hDc => k_runV (As := [.ref (sq 16)]) (rest := []) C0 hZ hS hA (s_X5_takeWord_s16 l dC dI cy sq a_this a_this_text g_this_text x_this_length x_this_at x_this_behind x_this_sort x_this_allowed a_this_plan x_this_fault x_this_place hg_this_text (ib_w 0 1600 hx_this_length rfl) (ib_w 0 1600 hx_this_at rfl) (ib_w 0 1600 hx_this_behind rfl) (ib_w 0 4 hx_this_sort rfl) (fun hq9 => ib_w 0 1599 (hc0_this hq9) rfl)) mV_X5_195 hPc hDc rfl rfl rfl hl rfl rfl (Nat.le_of_ble_eq_true rfl) ⟨(Nat.le_of_ble_eq_true rfl), (Nat.le_of_ble_eq_true rfl)⟩ ⟨(Nat.le_of_ble_eq_true rfl), (Nat.le_of_ble_eq_true rfl)⟩ dX5_fact_70) (fun r17 u18 H locs hw hP hD hS => ?_)
          obtain ⟨v19, v20, v21⟩ := u18
          try dsimp only at hP hD hw
          replace hP : va_P (dC, dI) vwCl [(wo_4_iiiiiiirrrirrrrrir a_this_plan x_this_plan_cycle x_this_plan_green x_this_plan_rule x_this_plan_least x_this_plan_away x_this_plan_statements x_this_plan_kinds a_this_plan_calm a_this_plan_pace a_this_plan_trusts x_this_plan_walkers a_this_plan_kindOf a_this_plan_comesAt a_this_plan_comers a_this_plan_names a_this_plan_code x_this_plan_size a_this_plan_spans), (wi_0_1600_0 a_this_plan_code cy g_this_plan_code), (wo_5_riiiiirii a_this a_this_text x_this_length v19 v20 v21 x_this_allowed a_this_plan x_this_fault x_this_place), (wi_0_1600_0 a_this_text cy g_this_text)] H := hP
          replace hD := k_D hP hD
          obtain ⟨h22, h23, h24, h25, h26, h27⟩ := hw
          replace hq := lf_p1 hq h27
          replace hq := lf_p1 hq rfl
          replace hq := lf_p1 hq rfl
          refine lv_if_eq (tgt := 84) hx hb dX5_fact_73 rfl (fun c28 => ?_) (fun c28 => ?_)
          · as_aux_lemma =>
              replace hq := lf_pos hq (lf_eq (lf_rf r17) (lf_lc 0 (0 : Int) rfl) c28)
              have h29 := ib_eq h22 (ib_c 0 0 0 rfl) c28
              have h30 : ib r17 0 0 := ib_w 0 0 h29.1 rfl
              refine lv_aload_n hx hb dX5_fact_84 rfl (lv_at hl 0 rfl) ?_
              refine lv_iload_n hx hb dX5_fact_85 rfl (lv_at hl 1 rfl) ?_
              refine k_jvm hP hD hS hA [2, 3, 0, 1] [] rfl rfl rfl 0 0 (Nat.le_of_ble_eq_true rfl) (Nat.le_of_ble_eq_true rfl) (fun hPc hDc => k_runV (As := [.int 2]) (rest := []) C0 hZ hS hA (s_X5_sum_a0_2 l dC dI cy sq a_this a_this_text g_this_text x_this_length v19 v20 v21 x_this_allowed a_this_plan x_this_plan_cycle x_this_plan_green x_this_plan_rule x_this_plan_least x_this_plan_away x_this_plan_statements x_this_plan_kinds a_this_plan_calm a_this_plan_pace a_this_plan_trusts x_this_plan_walkers a_this_plan_kindOf a_this_plan_comesAt a_this_plan_comers a_this_plan_names a_this_plan_code g_this_plan_code x_this_plan_size a_this_plan_spans x_this_fault x_this_place hg_this_text (ib_w 0 1600 hx_this_length rfl) (ib_w 0 1600 h23 rfl) (ib_w 0 1600 h24 rfl) (ib_w 0 4 h25 rfl) (ib_w 0 1600 hx_this_plan_size rfl) (fun hq9 => ib_w 0 1599 (h26 hq9) rfl)) mV_X5_93 hPc hDc rfl rfl rfl hl rfl rfl (Nat.le_of_ble_eq_true rfl) ⟨(Nat.le_of_ble_eq_true rfl), (Nat.le_of_ble_eq_true rfl)⟩ ⟨(Nat.le_of_ble_eq_true rfl), (Nat.le_of_ble_eq_true rfl)⟩ dX5_fact_86) (fun u32 H locs hw hP hD hS => ?_)
              obtain ⟨v33, v34, v35, v36, v37, v38, f39⟩ := u32
              try dsimp only at hP hD hw
              replace hP : va_P (dC, dI) vwCl [(wo_5_riiiiirii a_this a_this_text x_this_length v33 v34 v35 x_this_allowed a_this_plan v36 v37), (wi_0_1600_0 a_this_text cy g_this_text), (wo_4_iiiiiiirrrirrrrrir a_this_plan x_this_plan_cycle x_this_plan_green x_this_plan_rule x_this_plan_least x_this_plan_away x_this_plan_statements x_this_plan_kinds a_this_plan_calm a_this_plan_pace a_this_plan_trusts x_this_plan_walkers a_this_plan_kindOf a_this_plan_comesAt a_this_plan_comers a_this_plan_names a_this_plan_code v38 a_this_plan_spans), (wi_0_1600_0 a_this_plan_code cy f39)] H := hP
              replace hD := k_D hP hD
              obtain ⟨h40, h41, h42, h43, h44, h45⟩ := hw
              replace hq := lf_p1 hq h45
              replace hq := lf_p1 hq rfl
              replace hq := lf_p1 hq rfl
              replace hq := lf_p1 hq rfl
              replace hq := lf_p1 hq rfl
              replace hq := lf_p1 hq rfl
              refine lv_aload_n hx hb dX5_fact_89 rfl (lv_at hl 0 rfl) ?_
              refine k_jim hP hD hS hA [0, 1] [false, false, true, true] rfl rfl rfl 0 0 (Nat.le_of_ble_eq_true rfl) (Nat.le_of_ble_eq_true rfl) (fun hPc hDc => k_runV (As := []) (rest := []) C0 hZ hS hA (s_X5_signHere l dC dI cy sq a_this a_this_text g_this_text x_this_length v33 v34 v35 x_this_allowed a_this_plan v36 v37 hg_this_text (ib_w 0 1600 hx_this_length rfl) (ib_w 0 1600 h40 rfl) (ib_w 0 1600 h41 rfl) (ib_w 0 4 h42 rfl) (fun hq9 => ib_w 0 1599 (h44 hq9) rfl)) mV_X5_219 hPc hDc rfl rfl rfl hl rfl rfl (Nat.le_of_ble_eq_true rfl) ⟨(Nat.le_of_ble_eq_true rfl), (Nat.le_of_ble_eq_true rfl)⟩ ⟨(Nat.le_of_ble_eq_true rfl), (Nat.le_of_ble_eq_true rfl)⟩ dX5_fact_90) (fun r46 u47 H locs hw hP hD hS => ?_)
              obtain ⟨v48, v49, v50, v51, v52⟩ := u47
              try dsimp only at hP hD hw
              replace hP : va_P (dC, dI) vwCl [(wo_4_iiiiiiirrrirrrrrir a_this_plan x_this_plan_cycle x_this_plan_green x_this_plan_rule x_this_plan_least x_this_plan_away x_this_plan_statements x_this_plan_kinds a_this_plan_calm a_this_plan_pace a_this_plan_trusts x_this_plan_walkers a_this_plan_kindOf a_this_plan_comesAt a_this_plan_comers a_this_plan_names a_this_plan_code v38 a_this_plan_spans), (wi_0_1600_0 a_this_plan_code cy f39), (wo_5_riiiiirii a_this a_this_text x_this_length v48 v49 v50 x_this_allowed a_this_plan v51 v52), (wi_0_1600_0 a_this_text cy g_this_text)] H := hP
              replace hD := k_D hP hD
              obtain ⟨h53, h54, h55, h56, h57, h58⟩ := hw
              replace hq := lf_p1 hq h58
              replace hq := lf_p1 hq rfl
              replace hq := lf_p1 hq rfl
              replace hq := lf_p1 hq rfl
              replace hq := lf_p1 hq rfl
              refine lv_istore_n (lv' := [(2, .int r46), (0, .ref a_this), (1, .int 2)]) hx hb dX5_fact_93 rfl hl (Nat.le_of_ble_eq_true rfl) rfl (fun ls hl => ?_)
              as_aux_lemma =>
                refine lv_aload_n hx hb dX5_fact_94 rfl (lv_at hl 1 rfl) ?_
                refine lv_aload_n hx hb dX5_fact_95 rfl (lv_at hl 1 rfl) ?_
                refine k_get C0 fg_X5_18 hP 2 rfl rfl dX5_fact_96 ?_
                refine k_jvm hP hD hS hA [2, 3] [true, true] rfl rfl rfl 0 0 (Nat.le_of_ble_eq_true rfl) (Nat.le_of_ble_eq_true rfl) (fun hPc hDc => k_runV (As := [.int v49]) (rest := []) C0 hZ hS hA (s_X5_moveTo l dC dI cy sq a_this a_this_text g_this_text x_this_length v48 v49 v50 x_this_allowed a_this_plan v51 v52 v49 hg_this_text (ib_w 0 1600 hx_this_length rfl) (ib_w 0 1600 h55 rfl)) mV_X5_86 hPc hDc rfl rfl rfl hl rfl rfl (Nat.le_of_ble_eq_true rfl) ⟨(Nat.le_of_ble_eq_true rfl), (Nat.le_of_ble_eq_true rfl)⟩ ⟨(Nat.le_of_ble_eq_true rfl), (Nat.le_of_ble_eq_true rfl)⟩ dX5_fact_99) (fun u60 H locs hw hP hD hS => ?_)
                obtain ⟨v61, v62, v63⟩ := u60
                try dsimp only at hP hD hw
                replace hP : va_P (dC, dI) vwCl [(wo_4_iiiiiiirrrirrrrrir a_this_plan x_this_plan_cycle x_this_plan_green x_this_plan_rule x_this_plan_least x_this_plan_away x_this_plan_statements x_this_plan_kinds a_this_plan_calm a_this_plan_pace a_this_plan_trusts x_this_plan_walkers a_this_plan_kindOf a_this_plan_comesAt a_this_plan_comers a_this_plan_names a_this_plan_code v38 a_this_plan_spans), (wi_0_1600_0 a_this_plan_code cy f39), (wo_5_riiiiirii a_this a_this_text x_this_length v61 v62 v63 x_this_allowed a_this_plan v51 v52), (wi_0_1600_0 a_this_text cy g_this_text)] H := hP
                replace hD := k_D hP hD
                obtain ⟨h64, h65, h66, h67, h68⟩ := hw
                replace hq := lf_p1 hq h68
                replace hq := lf_p1 hq rfl
                refine lv_aload_n hx hb dX5_fact_102 rfl (lv_at hl 1 rfl) ?_
                refine lv_iload_n hx hb dX5_fact_103 rfl (lv_at hl 2 rfl) ?_
                refine k_jvm hP hD hS hA [2, 3, 0, 1] [] rfl rfl rfl 0 0 (Nat.le_of_ble_eq_true rfl) (Nat.le_of_ble_eq_true rfl) (fun hPc hDc => k_runV (As := [.int 2]) (rest := []) C0 hZ hS hA (s_X5_sum_a0_2 l dC dI cy sq a_this a_this_text g_this_text x_this_length v61 v62 v63 x_this_allowed a_this_plan x_this_plan_cycle x_this_plan_green x_this_plan_rule x_this_plan_least x_this_plan_away x_this_plan_statements x_this_plan_kinds a_this_plan_calm a_this_plan_pace a_this_plan_trusts x_this_plan_walkers a_this_plan_kindOf a_this_plan_comesAt a_this_plan_comers a_this_plan_names a_this_plan_code f39 v38 a_this_plan_spans v51 v52 hg_this_text (ib_w 0 1600 hx_this_length rfl) (ib_w 0 1600 h64 rfl) (ib_w 0 1600 h65 rfl) (ib_w 0 4 h66 rfl) (ib_w 0 1600 h43 rfl) (fun hq9 => ib_w 0 1599 (h67 hq9) rfl)) mV_X5_93 hPc hDc rfl rfl rfl hl rfl rfl (Nat.le_of_ble_eq_true rfl) ⟨(Nat.le_of_ble_eq_true rfl), (Nat.le_of_ble_eq_true rfl)⟩ ⟨(Nat.le_of_ble_eq_true rfl), (Nat.le_of_ble_eq_true rfl)⟩ dX5_fact_104) (fun u70 H locs hw hP hD hS => ?_)
                obtain ⟨v71, v72, v73, v74, v75, v76, f77⟩ := u70
                try dsimp only at hP hD hw
                replace hP : va_P (dC, dI) vwCl [(wo_5_riiiiirii a_this a_this_text x_this_length v71 v72 v73 x_this_allowed a_this_plan v74 v75), (wi_0_1600_0 a_this_text cy g_this_text), (wo_4_iiiiiiirrrirrrrrir a_this_plan x_this_plan_cycle x_this_plan_green x_this_plan_rule x_this_plan_least x_this_plan_away x_this_plan_statements x_this_plan_kinds a_this_plan_calm a_this_plan_pace a_this_plan_trusts x_this_plan_walkers a_this_plan_kindOf a_this_plan_comesAt a_this_plan_comers a_this_plan_names a_this_plan_code v76 a_this_plan_spans), (wi_0_1600_0 a_this_plan_code cy f77)] H := hP
                replace hD := k_D hP hD
                obtain ⟨h78, h79, h80, h81, h82, h83⟩ := hw
                replace hq := lf_p1 hq h83
                replace hq := lf_p1 hq rfl
                replace hq := lf_p1 hq rfl
                replace hq := lf_p1 hq rfl
                replace hq := lf_p1 hq rfl
                replace hq := lf_p1 hq rfl
                refine lv_aload_n hx hb dX5_fact_107 rfl (lv_at hl 1 rfl) ?_
                refine lv_iload_n hx hb dX5_fact_108 rfl (lv_at hl 0 rfl) ?_
                refine k_jvm hP hD hS hA [0, 2, 3] [false, true] rfl rfl rfl 0 0 (Nat.le_of_ble_eq_true rfl) (Nat.le_of_ble_eq_true rfl) (fun hPc hDc => k_runV (As := [.int r46]) (rest := []) C0 hZ hS hA (s_X5_emit l dC dI cy sq a_this a_this_text x_this_length v71 v72 v73 x_this_allowed a_this_plan x_this_plan_cycle x_this_plan_green x_this_plan_rule x_this_plan_least x_this_plan_away x_this_plan_statements x_this_plan_kinds a_this_plan_calm a_this_plan_pace a_this_plan_trusts x_this_plan_walkers a_this_plan_kindOf a_this_plan_comesAt a_this_plan_comers a_this_plan_names a_this_plan_code f77 v76 a_this_plan_spans v74 v75 r46 (ib_w 0 1600 h81 rfl)) mV_X5_199 hPc hDc rfl rfl rfl hl rfl rfl (Nat.le_of_ble_eq_true rfl) ⟨(Nat.le_of_ble_eq_true rfl), (Nat.le_of_ble_eq_true rfl)⟩ ⟨(Nat.le_of_ble_eq_true rfl), (Nat.le_of_ble_eq_true rfl)⟩ dX5_fact_109) (fun u85 H locs hw hP hD hS => ?_)
                obtain ⟨v86, f87⟩ := u85
                try dsimp only at hP hD hw
                replace hP : va_P (dC, dI) vwCl [(wi_0_1600_0 a_this_text cy g_this_text), (wo_5_riiiiirii a_this a_this_text x_this_length v71 v72 v73 x_this_allowed a_this_plan v74 v75), (wo_4_iiiiiiirrrirrrrrir a_this_plan x_this_plan_cycle x_this_plan_green x_this_plan_rule x_this_plan_least x_this_plan_away x_this_plan_statements x_this_plan_kinds a_this_plan_calm a_this_plan_pace a_this_plan_trusts x_this_plan_walkers a_this_plan_kindOf a_this_plan_comesAt a_this_plan_comers a_this_plan_names a_this_plan_code v86 a_this_plan_spans), (wi_0_1600_0 a_this_plan_code cy f87)] H := hP
                replace hD := k_D hP hD
                obtain ⟨h88, h89⟩ := hw
                replace hq := lf_p1 hq h89
                subst hQ; exact k_vret hx hb hr hlk ((v71, v72, v73, v74, v75, v86, f87)) hS ⟨ib_w 0 1600 h78 rfl, ib_w 0 1600 h79 rfl, ib_w 0 4 h80 rfl, ib_w 0 1600 h88 rfl, fun hq9 => ib_w 0 1599 (h82 hq9) rfl, (hO.symm.trans (by exact hq))⟩ (hP.sub [1, 0, 2, 3] rfl) (hD.sub [1, 0, 2, 3] rfl rfl) (Nat.le_of_ble_eq_true rfl) (Nat.le_of_ble_eq_true rfl) dX5_fact_112
          · replace hq := lf_neg hq (lf_ne (lf_rf r17) (lf_lc 0 (0 : Int) rfl) c28)
            have h90 : ib r17 1 1 := ib_w 1 1 (ib_ne_lo 0 h22 rfl c28) rfl
            refine lv_aload_n hx hb dX5_fact_76 rfl (lv_at hl 0 rfl) ?_
            refine lv_iconst (v := 1) hx hb dX5_fact_77 rfl ?_
            refine k_jvm hP hD hS hA [2, 0, 1] [false, false, false, true] rfl rfl rfl 0 0 (Nat.le_of_ble_eq_true rfl) (Nat.le_of_ble_eq_true rfl) (fun hPc hDc => k_runV (As := [.int 1]) (rest := []) C0 hZ hS hA (s_X5_emit l dC dI cy sq a_this a_this_text x_this_length v19 v20 v21 x_this_allowed a_this_plan x_this_plan_cycle x_this_plan_green x_this_plan_rule x_this_plan_least x_this_plan_away x_this_plan_statements x_this_plan_kinds a_this_plan_calm a_this_plan_pace a_this_plan_trusts x_this_plan_walkers a_this_plan_kindOf a_this_plan_comesAt a_this_plan_comers a_this_plan_names a_this_plan_code g_this_plan_code x_this_plan_size a_this_plan_spans x_this_fault x_this_place 1 (ib_w 0 1600 hx_this_plan_size rfl)) mV_X5_199 hPc hDc rfl rfl rfl hl rfl rfl (Nat.le_of_ble_eq_true rfl) ⟨(Nat.le_of_ble_eq_true rfl), (Nat.le_of_ble_eq_true rfl)⟩ ⟨(Nat.le_of_ble_eq_true rfl), (Nat.le_of_ble_eq_true rfl)⟩ dX5_fact_78) (fun u92 H locs hw hP hD hS => ?_)
            obtain ⟨v93, f94⟩ := u92
            try dsimp only at hP hD hw
            replace hP : va_P (dC, dI) vwCl [(wi_0_1600_0 a_this_text cy g_this_text), (wo_5_riiiiirii a_this a_this_text x_this_length v19 v20 v21 x_this_allowed a_this_plan x_this_fault x_this_place), (wo_4_iiiiiiirrrirrrrrir a_this_plan x_this_plan_cycle x_this_plan_green x_this_plan_rule x_this_plan_least x_this_plan_away x_this_plan_statements x_this_plan_kinds a_this_plan_calm a_this_plan_pace a_this_plan_trusts x_this_plan_walkers a_this_plan_kindOf a_this_plan_comesAt a_this_plan_comers a_this_plan_names a_this_plan_code v93 a_this_plan_spans), (wi_0_1600_0 a_this_plan_code cy f94)] H := hP
            replace hD := k_D hP hD
            obtain ⟨h95, h96⟩ := hw
            have h96 := by have h9 := h96; try simp only [show (1 : Int32).toInt = (1 : Int) from rfl] at h9; exact h9
            replace hq := lf_p1 hq h96
            refine lv_goto (tgt := 112) hx hb dX5_fact_81 rfl ?_
            subst hQ; exact k_vret hx hb hr hlk ((v19, v20, v21, x_this_fault, x_this_place, v93, f94)) hS ⟨ib_w 0 1600 h23 rfl, ib_w 0 1600 h24 rfl, ib_w 0 4 h25 rfl, ib_w 0 1600 h95 rfl, fun hq9 => ib_w 0 1599 (h26 hq9) rfl, (hO.symm.trans (by exact hq))⟩ (hP.sub [1, 0, 2, 3] rfl) (hD.sub [1, 0, 2, 3] rfl rfl) (Nat.le_of_ble_eq_true rfl) (Nat.le_of_ble_eq_true rfl) dX5_fact_112
      · as_aux_lemma =>
          replace hq := lf_neg hq (lf_ne (lf_rf r7) (lf_lc 0 (0 : Int) rfl) c14)
          have h97 : ib r7 1 1 := ib_w 1 1 (ib_ne_lo 0 h9 rfl c14) rfl
          have h98 : ib x_this_at 0 1599 := ib_w 0 1599 (ib_two hx_this_at (h10 c14)) rfl
          have h99 : ib x_this_sort 3 3 := ib_w 3 3 (ib_two hx_this_sort (h11 c14)) rfl
          refine lv_aload_n hx hb dX5_fact_43 rfl (lv_at hl 0 rfl) ?_
          refine lv_iload_n hx hb dX5_fact_44 rfl (lv_at hl 1 rfl) ?_
          refine k_jim hP hD hS hA [2, 3] [true, true] rfl rfl rfl 0 0 (Nat.le_of_ble_eq_true rfl) (Nat.le_of_ble_eq_true rfl) (fun hPc hDc => k_runV (As := [.int 2]) (rest := []) C0 hZ hS hA (s_X5_enters_a0_2 l dC dI cy sq a_this a_this_text g_this_text x_this_length x_this_at x_this_behind x_this_sort x_this_allowed a_this_plan x_this_fault x_this_place hg_this_text (ib_w 0 1600 hx_this_length rfl) (ib_w 0 1600 hx_this_behind rfl)) mV_X5_209 hPc hDc rfl rfl rfl hl rfl rfl (Nat.le_of_ble_eq_true rfl) ⟨(Nat.le_of_ble_eq_true rfl), (Nat.le_of_ble_eq_true rfl)⟩ ⟨(Nat.le_of_ble_eq_true rfl), (Nat.le_of_ble_eq_true rfl)⟩ dX5_fact_45) (fun r100 u101 H locs hw hP hD hS => ?_)
          obtain ⟨v102, v103, v104⟩ := u101
          try dsimp only at hP hD hw
          replace hP : va_P (dC, dI) vwCl [(wo_4_iiiiiiirrrirrrrrir a_this_plan x_this_plan_cycle x_this_plan_green x_this_plan_rule x_this_plan_least x_this_plan_away x_this_plan_statements x_this_plan_kinds a_this_plan_calm a_this_plan_pace a_this_plan_trusts x_this_plan_walkers a_this_plan_kindOf a_this_plan_comesAt a_this_plan_comers a_this_plan_names a_this_plan_code x_this_plan_size a_this_plan_spans), (wi_0_1600_0 a_this_plan_code cy g_this_plan_code), (wo_5_riiiiirii a_this a_this_text x_this_length v102 v103 v104 x_this_allowed a_this_plan x_this_fault x_this_place), (wi_0_1600_0 a_this_text cy g_this_text)] H := hP
          replace hD := k_D hP hD
          obtain ⟨h105, h106, h107, h108, h109, h110⟩ := hw
          replace hq := lf_p1 hq h110
          replace hq := lf_p1 hq rfl
          replace hq := lf_p1 hq rfl
          refine lv_if_eq (tgt := 112) hx hb dX5_fact_48 rfl (fun c111 => ?_) (fun c111 => ?_)
          · skip
            have h112 := ib_eq h105 (ib_c 0 0 0 rfl) c111
            exact ib_no (ib_w 1 0 h112.1 rfl) rfl
          · as_aux_lemma =>
              skip
              refine lv_aload_n hx hb dX5_fact_51 rfl (lv_at hl 0 rfl) ?_
              refine lv_iload_n hx hb dX5_fact_52 rfl (lv_at hl 1 rfl) ?_
              refine lv_iconst (v := 1) hx hb dX5_fact_53 rfl ?_
              refine lv_iadd hx hb dX5_fact_54 ?_
              refine k_topi (y := 3) (by decide) ?_
              refine k_jvm hP hD hS hA [2, 3, 0, 1] [] rfl rfl rfl 0 0 (Nat.le_of_ble_eq_true rfl) (Nat.le_of_ble_eq_true rfl) (fun hPc hDc => k_runV (As := [.int 3]) (rest := []) C0 hZ hS hA (s_X5_test_a0_3 l dC dI cy sq a_this a_this_text g_this_text x_this_length v102 v103 v104 x_this_allowed a_this_plan x_this_plan_cycle x_this_plan_green x_this_plan_rule x_this_plan_least x_this_plan_away x_this_plan_statements x_this_plan_kinds a_this_plan_calm a_this_plan_pace a_this_plan_trusts x_this_plan_walkers a_this_plan_kindOf a_this_plan_comesAt a_this_plan_comers a_this_plan_names a_this_plan_code g_this_plan_code x_this_plan_size a_this_plan_spans x_this_fault x_this_place hg_this_text (ib_w 0 1600 hx_this_length rfl) (ib_w 0 1600 h106 rfl) (ib_w 0 1600 h107 rfl) (ib_w 0 4 h108 rfl) (ib_w 0 1600 hx_this_plan_size rfl) (fun hq9 => ib_w 0 1599 (h109 hq9) rfl)) mV_X5_90 hPc hDc rfl rfl rfl hl rfl rfl (Nat.le_of_ble_eq_true rfl) ⟨(Nat.le_of_ble_eq_true rfl), (Nat.le_of_ble_eq_true rfl)⟩ ⟨(Nat.le_of_ble_eq_true rfl), (Nat.le_of_ble_eq_true rfl)⟩ dX5_fact_55) (fun u114 H locs hw hP hD hS => ?_)
              obtain ⟨v115, v116, v117, v118, v119, v120, f121⟩ := u114
              try dsimp only at hP hD hw
              replace hP : va_P (dC, dI) vwCl [(wo_5_riiiiirii a_this a_this_text x_this_length v115 v116 v117 x_this_allowed a_this_plan v118 v119), (wi_0_1600_0 a_this_text cy g_this_text), (wo_4_iiiiiiirrrirrrrrir a_this_plan x_this_plan_cycle x_this_plan_green x_this_plan_rule x_this_plan_least x_this_plan_away x_this_plan_statements x_this_plan_kinds a_this_plan_calm a_this_plan_pace a_this_plan_trusts x_this_plan_walkers a_this_plan_kindOf a_this_plan_comesAt a_this_plan_comers a_this_plan_names a_this_plan_code v120 a_this_plan_spans), (wi_0_1600_0 a_this_plan_code cy f121)] H := hP
              replace hD := k_D hP hD
              obtain ⟨h122, h123, h124, h125, h126, h127⟩ := hw
              replace hq := lf_p1 hq h127
              replace hq := lf_p1 hq rfl
              replace hq := lf_p1 hq rfl
              replace hq := lf_p1 hq rfl
              replace hq := lf_p1 hq rfl
              replace hq := lf_p1 hq rfl
              refine lv_aload_n hx hb dX5_fact_58 rfl (lv_at hl 0 rfl) ?_
              refine lv_bipush (v := 93) hx hb dX5_fact_59 rfl ?_
              refine k_jvm hP hD hS hA [0, 1] [false, false, true, true] rfl rfl rfl 0 0 (Nat.le_of_ble_eq_true rfl) (Nat.le_of_ble_eq_true rfl) (fun hPc hDc => k_runV (As := [.int 93]) (rest := []) C0 hZ hS hA (s_X5_need l dC dI cy sq a_this a_this_text g_this_text x_this_length v115 v116 v117 x_this_allowed a_this_plan v118 v119 93 hg_this_text (ib_w 0 1600 hx_this_length rfl) (ib_w 0 1600 h122 rfl) (ib_w 0 1600 h123 rfl) (ib_w 0 4 h124 rfl) (fun hq9 => ib_w 0 1599 (h126 hq9) rfl)) mV_X5_48 hPc hDc rfl rfl rfl hl rfl rfl (Nat.le_of_ble_eq_true rfl) ⟨(Nat.le_of_ble_eq_true rfl), (Nat.le_of_ble_eq_true rfl)⟩ ⟨(Nat.le_of_ble_eq_true rfl), (Nat.le_of_ble_eq_true rfl)⟩ dX5_fact_61) (fun u129 H locs hw hP hD hS => ?_)
              obtain ⟨v130, v131, v132, v133, v134⟩ := u129
              try dsimp only at hP hD hw
              replace hP : va_P (dC, dI) vwCl [(wo_4_iiiiiiirrrirrrrrir a_this_plan x_this_plan_cycle x_this_plan_green x_this_plan_rule x_this_plan_least x_this_plan_away x_this_plan_statements x_this_plan_kinds a_this_plan_calm a_this_plan_pace a_this_plan_trusts x_this_plan_walkers a_this_plan_kindOf a_this_plan_comesAt a_this_plan_comers a_this_plan_names a_this_plan_code v120 a_this_plan_spans), (wi_0_1600_0 a_this_plan_code cy f121), (wo_5_riiiiirii a_this a_this_text x_this_length v130 v131 v132 x_this_allowed a_this_plan v133 v134), (wi_0_1600_0 a_this_text cy g_this_text)] H := hP
              replace hD := k_D hP hD
              obtain ⟨h135, h136, h137, h138, h139⟩ := hw
              have h139 := by have h9 := h139; try simp only [show (93 : Int32).toInt = (93 : Int) from rfl] at h9; exact h9
              replace hq := lf_p1 hq h139
              replace hq := lf_p1 hq rfl
              replace hq := lf_p1 hq rfl
              replace hq := lf_p1 hq rfl
              refine lv_goto (tgt := 112) hx hb dX5_fact_64 rfl ?_
              subst hQ; exact k_vret hx hb hr hlk ((v130, v131, v132, v133, v134, v120, f121)) hS ⟨ib_w 0 1600 h135 rfl, ib_w 0 1600 h136 rfl, ib_w 0 4 h137 rfl, ib_w 0 1600 h125 rfl, fun hq9 => ib_w 0 1599 (h138 hq9) rfl, (hO.symm.trans (by exact hq))⟩ (hP.sub [2, 3, 0, 1] rfl) (hD.sub [2, 3, 0, 1] rfl rfl) (Nat.le_of_ble_eq_true rfl) (Nat.le_of_ble_eq_true rfl) dX5_fact_112
  · as_aux_lemma =>
      replace hq := lf_neg hq (lf_ne (lf_rf r1) (lf_lc (-1) (-1 : Int) rfl) c4)
      refine lv_aload_n hx hb dX5_fact_10 rfl (lv_at hl 0 rfl) ?_
      refine lv_iload_n hx hb dX5_fact_11 rfl (lv_at hl 1 rfl) ?_
      refine k_jim hP hD hS hA [2, 3] [true, true] rfl rfl rfl 0 0 (Nat.le_of_ble_eq_true rfl) (Nat.le_of_ble_eq_true rfl) (fun hPc hDc => k_runV (As := [.int 2]) (rest := []) C0 hZ hS hA (s_X5_enters_a0_2 l dC dI cy sq a_this a_this_text g_this_text x_this_length x_this_at x_this_behind x_this_sort x_this_allowed a_this_plan x_this_fault x_this_place hg_this_text (ib_w 0 1600 hx_this_length rfl) (ib_w 0 1600 hx_this_behind rfl)) mV_X5_209 hPc hDc rfl rfl rfl hl rfl rfl (Nat.le_of_ble_eq_true rfl) ⟨(Nat.le_of_ble_eq_true rfl), (Nat.le_of_ble_eq_true rfl)⟩ ⟨(Nat.le_of_ble_eq_true rfl), (Nat.le_of_ble_eq_true rfl)⟩ dX5_fact_12) (fun r140 u141 H locs hw hP hD hS => ?_)
      obtain ⟨v142, v143, v144⟩ := u141
      try dsimp only at hP hD hw
      replace hP : va_P (dC, dI) vwCl [(wo_4_iiiiiiirrrirrrrrir a_this_plan x_this_plan_cycle x_this_plan_green x_this_plan_rule x_this_plan_least x_this_plan_away x_this_plan_statements x_this_plan_kinds a_this_plan_calm a_this_plan_pace a_this_plan_trusts x_this_plan_walkers a_this_plan_kindOf a_this_plan_comesAt a_this_plan_comers a_this_plan_names a_this_plan_code x_this_plan_size a_this_plan_spans), (wi_0_1600_0 a_this_plan_code cy g_this_plan_code), (wo_5_riiiiirii a_this a_this_text x_this_length v142 v143 v144 x_this_allowed a_this_plan x_this_fault x_this_place), (wi_0_1600_0 a_this_text cy g_this_text)] H := hP
      replace hD := k_D hP hD
      obtain ⟨h145, h146, h147, h148, h149, h150⟩ := hw
      replace hq := lf_p1 hq h150
      replace hq := lf_p1 hq rfl
      replace hq := lf_p1 hq rfl
      refine lv_if_eq (tgt := 112) hx hb dX5_fact_15 rfl (fun c151 => ?_) (fun c151 => ?_)
      · skip
        have h152 := ib_eq h145 (ib_c 0 0 0 rfl) c151
        exact ib_no (ib_w 1 0 h152.1 rfl) rfl
      · as_aux_lemma =>
          skip
          refine lv_aload_n hx hb dX5_fact_18 rfl (lv_at hl 0 rfl) ?_
          refine lv_iload_n hx hb dX5_fact_19 rfl (lv_at hl 1 rfl) ?_
          refine lv_iconst (v := 1) hx hb dX5_fact_20 rfl ?_
          refine lv_iadd hx hb dX5_fact_21 ?_
          refine k_topi (y := 3) (by decide) ?_
          refine k_jvm hP hD hS hA [2, 3, 0, 1] [] rfl rfl rfl 0 0 (Nat.le_of_ble_eq_true rfl) (Nat.le_of_ble_eq_true rfl) (fun hPc hDc => k_runV (As := [.int 3]) (rest := []) C0 hZ hS hA (s_X5_fact_a0_3 l dC dI cy sq a_this a_this_text g_this_text x_this_length v142 v143 v144 x_this_allowed a_this_plan x_this_plan_cycle x_this_plan_green x_this_plan_rule x_this_plan_least x_this_plan_away x_this_plan_statements x_this_plan_kinds a_this_plan_calm a_this_plan_pace a_this_plan_trusts x_this_plan_walkers a_this_plan_kindOf a_this_plan_comesAt a_this_plan_comers a_this_plan_names a_this_plan_code g_this_plan_code x_this_plan_size a_this_plan_spans x_this_fault x_this_place hg_this_text (ib_w 0 1600 hx_this_length rfl) (ib_w 0 1600 h146 rfl) (ib_w 0 1600 h147 rfl) (ib_w 0 4 h148 rfl) (ib_w 0 1600 hx_this_plan_size rfl) (fun hq9 => ib_w 0 1599 (h149 hq9) rfl)) mV_X5_202 hPc hDc rfl rfl rfl hl rfl rfl (Nat.le_of_ble_eq_true rfl) ⟨(Nat.le_of_ble_eq_true rfl), (Nat.le_of_ble_eq_true rfl)⟩ ⟨(Nat.le_of_ble_eq_true rfl), (Nat.le_of_ble_eq_true rfl)⟩ dX5_fact_22) (fun u154 H locs hw hP hD hS => ?_)
          obtain ⟨v155, v156, v157, v158, v159, v160, f161⟩ := u154
          try dsimp only at hP hD hw
          replace hP : va_P (dC, dI) vwCl [(wo_5_riiiiirii a_this a_this_text x_this_length v155 v156 v157 x_this_allowed a_this_plan v158 v159), (wi_0_1600_0 a_this_text cy g_this_text), (wo_4_iiiiiiirrrirrrrrir a_this_plan x_this_plan_cycle x_this_plan_green x_this_plan_rule x_this_plan_least x_this_plan_away x_this_plan_statements x_this_plan_kinds a_this_plan_calm a_this_plan_pace a_this_plan_trusts x_this_plan_walkers a_this_plan_kindOf a_this_plan_comesAt a_this_plan_comers a_this_plan_names a_this_plan_code v160 a_this_plan_spans), (wi_0_1600_0 a_this_plan_code cy f161)] H := hP
          replace hD := k_D hP hD
          obtain ⟨h162, h163, h164, h165, h166, h167⟩ := hw
          replace hq := lf_p1 hq h167
          replace hq := lf_p1 hq rfl
          replace hq := lf_p1 hq rfl
          replace hq := lf_p1 hq rfl
          replace hq := lf_p1 hq rfl
          replace hq := lf_p1 hq rfl
          refine lv_aload_n hx hb dX5_fact_25 rfl (lv_at hl 0 rfl) ?_
          refine lv_bipush (v := (-31)) hx hb dX5_fact_26 rfl ?_
          refine k_jvm hP hD hS hA [0, 2, 3] [false, true] rfl rfl rfl 0 0 (Nat.le_of_ble_eq_true rfl) (Nat.le_of_ble_eq_true rfl) (fun hPc hDc => k_runV (As := [.int (-31)]) (rest := []) C0 hZ hS hA (s_X5_emit l dC dI cy sq a_this a_this_text x_this_length v155 v156 v157 x_this_allowed a_this_plan x_this_plan_cycle x_this_plan_green x_this_plan_rule x_this_plan_least x_this_plan_away x_this_plan_statements x_this_plan_kinds a_this_plan_calm a_this_plan_pace a_this_plan_trusts x_this_plan_walkers a_this_plan_kindOf a_this_plan_comesAt a_this_plan_comers a_this_plan_names a_this_plan_code f161 v160 a_this_plan_spans v158 v159 (-31) (ib_w 0 1600 h165 rfl)) mV_X5_199 hPc hDc rfl rfl rfl hl rfl rfl (Nat.le_of_ble_eq_true rfl) ⟨(Nat.le_of_ble_eq_true rfl), (Nat.le_of_ble_eq_true rfl)⟩ ⟨(Nat.le_of_ble_eq_true rfl), (Nat.le_of_ble_eq_true rfl)⟩ dX5_fact_28) (fun u169 H locs hw hP hD hS => ?_)
          obtain ⟨v170, f171⟩ := u169
          try dsimp only at hP hD hw
          replace hP : va_P (dC, dI) vwCl [(wi_0_1600_0 a_this_text cy g_this_text), (wo_5_riiiiirii a_this a_this_text x_this_length v155 v156 v157 x_this_allowed a_this_plan v158 v159), (wo_4_iiiiiiirrrirrrrrir a_this_plan x_this_plan_cycle x_this_plan_green x_this_plan_rule x_this_plan_least x_this_plan_away x_this_plan_statements x_this_plan_kinds a_this_plan_calm a_this_plan_pace a_this_plan_trusts x_this_plan_walkers a_this_plan_kindOf a_this_plan_comesAt a_this_plan_comers a_this_plan_names a_this_plan_code v170 a_this_plan_spans), (wi_0_1600_0 a_this_plan_code cy f171)] H := hP
          replace hD := k_D hP hD
          obtain ⟨h172, h173⟩ := hw
          have h173 := by have h9 := h173; try simp only [show ((-31) : Int32).toInt = (-31 : Int) from rfl] at h9; exact h9
          replace hq := lf_p1 hq h173
          refine lv_goto (tgt := 112) hx hb dX5_fact_31 rfl ?_
          subst hQ; exact k_vret hx hb hr hlk ((v155, v156, v157, v158, v159, v170, f171)) hS ⟨ib_w 0 1600 h162 rfl, ib_w 0 1600 h163 rfl, ib_w 0 4 h164 rfl, ib_w 0 1600 h172 rfl, fun hq9 => ib_w 0 1599 (h166 hq9) rfl, (hO.symm.trans (by exact hq))⟩ (hP.sub [1, 0, 2, 3] rfl) (hD.sub [1, 0, 2, 3] rfl rfl) (Nat.le_of_ble_eq_true rfl) (Nat.le_of_ble_eq_true rfl) dX5_fact_112
set_option maxHeartbeats 4000000 in
set_option maxRecDepth 100000 in
theorem s_X5_both_a0_2 (l : Launch) (dC : Nat → ClassId) (dI : Nat → Nat → Nat) (cy : Nat → ClassId) (sq : Nat → Nat) (a_this : Nat) (a_this_text : Nat) (g_this_text : Nat → Int32) (x_this_length : Int32) (x_this_at : Int32) (x_this_behind : Int32) (x_this_sort : Int32) (x_this_allowed : Int32) (a_this_plan : Nat) (x_this_plan_cycle : Int32) (x_this_plan_green : Int32) (x_this_plan_rule : Int32) (x_this_plan_least : Int32) (x_this_plan_away : Int32) (x_this_plan_statements : Int32) (x_this_plan_kinds : Int32) (a_this_plan_calm : Nat) (a_this_plan_pace : Nat) (a_this_plan_trusts : Nat) (x_this_plan_walkers : Int32) (a_this_plan_kindOf : Nat) (a_this_plan_comesAt : Nat) (a_this_plan_comers : Nat) (a_this_plan_names : Nat) (a_this_plan_code : Nat) (g_this_plan_code : Nat → Int32) (x_this_plan_size : Int32) (a_this_plan_spans : Nat) (x_this_fault : Int32) (x_this_place : Int32) (hg_this_text : ia g_this_text 1600 0 255) (hx_this_length : ib x_this_length 0 1600) (hx_this_at : ib x_this_at 0 1600) (hx_this_behind : ib x_this_behind 0 1600) (hx_this_sort : ib x_this_sort 0 4) (hx_this_plan_size : ib x_this_plan_size 0 1600) (hc0_this : ¬ x_this_sort = 0 → ib x_this_at 0 1599) : k_Met l yX5_both cX5_both 3 none { frames := 26, cells := 0, slots := 0, locals := 633 } dC dI cy sq [.ref a_this, .int 2] [(wo_5_riiiiirii a_this a_this_text x_this_length x_this_at x_this_behind x_this_sort x_this_allowed a_this_plan x_this_fault x_this_place), (wi_0_1600_0 a_this_text cy g_this_text), (wo_4_iiiiiiirrrirrrrrir a_this_plan x_this_plan_cycle x_this_plan_green x_this_plan_rule x_this_plan_least x_this_plan_away x_this_plan_statements x_this_plan_kinds a_this_plan_calm a_this_plan_pace a_this_plan_trusts x_this_plan_walkers a_this_plan_kindOf a_this_plan_comesAt a_this_plan_comers a_this_plan_names a_this_plan_code x_this_plan_size a_this_plan_spans), (wi_0_1600_0 a_this_plan_code cy g_this_plan_code)] (k_Qv dC dI (fun (u : Int32 × Int32 × Int32 × Int32 × Int32 × Int32 × (Nat → Int32)) => match u with | (n0, n1, n2, n3, n4, n5, n6) => ib n0 0 1600 ∧ ib n1 0 1600 ∧ ib n2 0 4 ∧ ib n5 0 1600 ∧ (¬ n2 = 0 → ib n0 0 1599) ∧ (F_X5_both_a0_2 (lf_A g_this_text) (Int32.toInt x_this_length) (Int32.toInt x_this_at) (Int32.toInt x_this_behind) (Int32.toInt x_this_sort) (Int32.toInt x_this_allowed) (lf_A g_this_plan_code) (Int32.toInt x_this_plan_size) (Int32.toInt x_this_fault) (Int32.toInt x_this_place) = ((Int32.toInt n0), (Int32.toInt n1), (Int32.toInt n2), (Int32.toInt n3), (Int32.toInt n4), (Int32.toInt n5), (lf_A n6)))) (fun u : Int32 × Int32 × Int32 × Int32 × Int32 × Int32 × (Nat → Int32) => match u with | (n0, n1, n2, n3, n4, n5, n6) => [(wo_5_riiiiirii a_this a_this_text x_this_length n0 n1 n2 x_this_allowed a_this_plan n3 n4), (wi_0_1600_0 a_this_text cy g_this_text), (wo_4_iiiiiiirrrirrrrrir a_this_plan x_this_plan_cycle x_this_plan_green x_this_plan_rule x_this_plan_least x_this_plan_away x_this_plan_statements x_this_plan_kinds a_this_plan_calm a_this_plan_pace a_this_plan_trusts x_this_plan_walkers a_this_plan_kindOf a_this_plan_comesAt a_this_plan_comers a_this_plan_names a_this_plan_code n5 a_this_plan_spans), (wi_0_1600_0 a_this_plan_code cy n6)])) := by
  refine k_ofW2 (by decide +kernel) (Nat.le_of_ble_eq_true rfl) ?_
  intro p e s m below meth c A ls H locs args Q hQ C0 hZ hr hlk hin hP hD hA hS hl
  have C0 : k_cx p s m args c cX5_both 3 RX5 dC dI cy sq := C0
  have hx := C0.1
  have hb := C0.2.1
  have hl : lv_has ls 3 [(0, .ref a_this), (1, .int 2)] := hl
  obtain ⟨O, hO⟩ : ∃ o, o = F_X5_both_a0_2 (lf_A g_this_text) (Int32.toInt x_this_length) (Int32.toInt x_this_at) (Int32.toInt x_this_behind) (Int32.toInt x_this_sort) (Int32.toInt x_this_allowed) (lf_A g_this_plan_code) (Int32.toInt x_this_plan_size) (Int32.toInt x_this_fault) (Int32.toInt x_this_place) := ⟨_, rfl⟩
  have hq := hO
  unfold F_X5_both_a0_2 at hq
  have jn7 : ∀ (n : Nat) (J7_c0_2 : Int32) (J7_c0_3 : Int32) (J7_c0_4 : Int32) (J7_c0_7 : Int32) (J7_c0_8 : Int32) (J7_c2_16 : Int32) (J7_a3 : Nat → Int32) (J7_l2 : Int32) (H : Heap) (locs : List Loc) (ls : Array Slot), ib J7_c0_2 0 1600 → ib J7_c0_3 0 1600 → ib J7_c0_4 0 4 → ib J7_c2_16 0 1600 → ib J7_l2 0 1600 → (¬ J7_c0_4 = 0 → ib J7_c0_2 0 1599) → (O = F_X5_both_a0_2_7 (lf_A g_this_text) (Int32.toInt x_this_length) (Int32.toInt x_this_allowed) n (Int32.toInt J7_c0_2) (Int32.toInt J7_c0_3) (Int32.toInt J7_c0_4) (Int32.toInt J7_c0_7) (Int32.toInt J7_c0_8) (Int32.toInt J7_c2_16) (lf_A J7_a3) (Int32.toInt J7_l2)) → 1601 ≤ J7_l2.toInt + (n : Int) → va_P (dC, dI) vwCl [(wo_5_riiiiirii a_this a_this_text x_this_length J7_c0_2 J7_c0_3 J7_c0_4 x_this_allowed a_this_plan J7_c0_7 J7_c0_8), (wi_0_1600_0 a_this_text cy g_this_text), (wo_4_iiiiiiirrrirrrrrir a_this_plan x_this_plan_cycle x_this_plan_green x_this_plan_rule x_this_plan_least x_this_plan_away x_this_plan_statements x_this_plan_kinds a_this_plan_calm a_this_plan_pace a_this_plan_trusts x_this_plan_walkers a_this_plan_kindOf a_this_plan_comesAt a_this_plan_comers a_this_plan_names a_this_plan_code J7_c2_16 a_this_plan_spans), (wi_0_1600_0 a_this_plan_code cy J7_a3)] H → va_D A [(wo_5_riiiiirii a_this a_this_text x_this_length J7_c0_2 J7_c0_3 J7_c0_4 x_this_allowed a_this_plan J7_c0_7 J7_c0_8), (wi_0_1600_0 a_this_text cy g_this_text), (wo_4_iiiiiiirrrirrrrrir a_this_plan x_this_plan_cycle x_this_plan_green x_this_plan_rule x_this_plan_least x_this_plan_away x_this_plan_statements x_this_plan_kinds a_this_plan_calm a_this_plan_pace a_this_plan_trusts x_this_plan_walkers a_this_plan_kindOf a_this_plan_comesAt a_this_plan_comers a_this_plan_names a_this_plan_code J7_c2_16 a_this_plan_spans), (wi_0_1600_0 a_this_plan_code cy J7_a3)] → va_S A s.heap H locs → lv_has ls 3 [(0, .ref a_this), (1, .int 2), (2, .int J7_l2)] → W p l e { frames := 26, cells := 0, slots := 0, locals := 633 } s m args below meth c H locs 0 0 Q (F0 m 7 ls []) := by
    as_aux_lemma =>
      intro n
      induction n with
      | zero =>
        intro J7_c0_2 J7_c0_3 J7_c0_4 J7_c0_7 J7_c0_8 J7_c2_16 J7_a3 J7_l2 H locs ls hJ7_c0_2 hJ7_c0_3 hJ7_c0_4 hJ7_c2_16 hJ7_l2 hJ7_ic0_0 hq hm
        exact absurd hm (by have := hJ7_l2; unfold ib at this; omega)
      | succ n ih =>
        intro J7_c0_2 J7_c0_3 J7_c0_4 J7_c0_7 J7_c0_8 J7_c2_16 J7_a3 J7_l2 H locs ls hJ7_c0_2 hJ7_c0_3 hJ7_c0_4 hJ7_c2_16 hJ7_l2 hJ7_ic0_0 hq hm7 hP hD hS hl
        have ih7 := ih
        obtain ⟨K7, hK7⟩ : ∃ K, K = F_X5_both_a0_2_7 (lf_A g_this_text) (Int32.toInt x_this_length) (Int32.toInt x_this_allowed) n := ⟨_, rfl⟩
        have hq : O = F_X5_both_a0_2_7b (lf_A g_this_text) (Int32.toInt x_this_length) (Int32.toInt x_this_allowed) K7 (Int32.toInt J7_c0_2) (Int32.toInt J7_c0_3) (Int32.toInt J7_c0_4) (Int32.toInt J7_c0_7) (Int32.toInt J7_c0_8) (Int32.toInt J7_c2_16) (lf_A J7_a3) (Int32.toInt J7_l2) := by rw [hK7]; exact hq
        unfold F_X5_both_a0_2_7b at hq
        refine lv_iload_n hx hb dX5_both_7 rfl (lv_at hl 2 rfl) ?_
        refine lv_sipush (v := 1600) hx hb dX5_both_8 rfl ?_
        refine lv_icmp_ge (tgt := 40) hx hb dX5_both_11 rfl (fun c1 => ?_) (fun c1 => ?_)
        · replace hq := lf_pos hq (lf_le (lf_lc 1600 (1600 : Int) rfl) (lf_rf J7_l2) c1)
          have h2 := ib_le (ib_c 1600 1600 1600 rfl) hJ7_l2 c1
          have h3 : ib J7_l2 1600 1600 := ib_w 1600 1600 h2.2 rfl
          subst hQ; exact k_vret hx hb hr hlk ((J7_c0_2, J7_c0_3, J7_c0_4, J7_c0_7, J7_c0_8, J7_c2_16, J7_a3)) hS ⟨ib_w 0 1600 hJ7_c0_2 rfl, ib_w 0 1600 hJ7_c0_3 rfl, ib_w 0 4 hJ7_c0_4 rfl, ib_w 0 1600 hJ7_c2_16 rfl, fun hq9 => ib_w 0 1599 (hJ7_ic0_0 hq9) rfl, (hO.symm.trans (by exact hq))⟩ hP hD (Nat.le_of_ble_eq_true rfl) (Nat.le_of_ble_eq_true rfl) dX5_both_40
        · as_aux_lemma =>
            replace hq := lf_neg hq (lf_nle (lf_lc 1600 (1600 : Int) rfl) (lf_rf J7_l2) c1)
            have h4 := ib_nle (ib_c 1600 1600 1600 rfl) hJ7_l2 c1
            have h5 : ib J7_l2 0 1599 := ib_w 0 1599 h4.2 rfl
            refine lv_aload_n hx hb dX5_both_14 rfl (lv_at hl 0 rfl) ?_
            refine va_ldcS hx hb C0.2.2.2.1 (C0.2.2.2.2.2.2.2.2.2.2.2.2 14 (by decide)) dX5_both_15 ?_
            refine k_jim hP hD hS hA [0, 1] [false, false, true, true] rfl rfl rfl 0 0 (Nat.le_of_ble_eq_true rfl) (Nat.le_of_ble_eq_true rfl) (fun hPc hDc => k_runV (As := [.ref (sq 14)]) (rest := []) C0 hZ hS hA (s_X5_takeWord_s14 l dC dI cy sq a_this a_this_text g_this_text x_this_length J7_c0_2 J7_c0_3 J7_c0_4 x_this_allowed a_this_plan J7_c0_7 J7_c0_8 hg_this_text (ib_w 0 1600 hx_this_length rfl) (ib_w 0 1600 hJ7_c0_2 rfl) (ib_w 0 1600 hJ7_c0_3 rfl) (ib_w 0 4 hJ7_c0_4 rfl) (fun hq9 => ib_w 0 1599 (hJ7_ic0_0 hq9) rfl)) mV_X5_195 hPc hDc rfl rfl rfl hl rfl rfl (Nat.le_of_ble_eq_true rfl) ⟨(Nat.le_of_ble_eq_true rfl), (Nat.le_of_ble_eq_true rfl)⟩ ⟨(Nat.le_of_ble_eq_true rfl), (Nat.le_of_ble_eq_true rfl)⟩ dX5_both_17) (fun r6 u7 H locs hw hP hD hS => ?_)
            obtain ⟨v8, v9, v10⟩ := u7
            try dsimp only at hP hD hw
            replace hP : va_P (dC, dI) vwCl [(wo_4_iiiiiiirrrirrrrrir a_this_plan x_this_plan_cycle x_this_plan_green x_this_plan_rule x_this_plan_least x_this_plan_away x_this_plan_statements x_this_plan_kinds a_this_plan_calm a_this_plan_pace a_this_plan_trusts x_this_plan_walkers a_this_plan_kindOf a_this_plan_comesAt a_this_plan_comers a_this_plan_names a_this_plan_code J7_c2_16 a_this_plan_spans), (wi_0_1600_0 a_this_plan_code cy J7_a3), (wo_5_riiiiirii a_this a_this_text x_this_length v8 v9 v10 x_this_allowed a_this_plan J7_c0_7 J7_c0_8), (wi_0_1600_0 a_this_text cy g_this_text)] H := hP
            replace hD := k_D hP hD
            obtain ⟨h11, h12, h13, h14, h15, h16⟩ := hw
            replace hq := lf_p1 hq h16
            replace hq := lf_p1 hq rfl
            replace hq := lf_p1 hq rfl
            refine lv_if_eq (tgt := 40) hx hb dX5_both_20 rfl (fun c17 => ?_) (fun c17 => ?_)
            · replace hq := lf_pos hq (lf_eq (lf_rf r6) (lf_lc 0 (0 : Int) rfl) c17)
              have h18 := ib_eq h11 (ib_c 0 0 0 rfl) c17
              have h19 : ib r6 0 0 := ib_w 0 0 h18.1 rfl
              subst hQ; exact k_vret hx hb hr hlk ((v8, v9, v10, J7_c0_7, J7_c0_8, J7_c2_16, J7_a3)) hS ⟨ib_w 0 1600 h12 rfl, ib_w 0 1600 h13 rfl, ib_w 0 4 h14 rfl, ib_w 0 1600 hJ7_c2_16 rfl, fun hq9 => ib_w 0 1599 (h15 hq9) rfl, (hO.symm.trans (by exact hq))⟩ (hP.sub [2, 3, 0, 1] rfl) (hD.sub [2, 3, 0, 1] rfl rfl) (Nat.le_of_ble_eq_true rfl) (Nat.le_of_ble_eq_true rfl) dX5_both_40
            · as_aux_lemma =>
                replace hq := lf_neg hq (lf_ne (lf_rf r6) (lf_lc 0 (0 : Int) rfl) c17)
                have h20 : ib r6 1 1 := ib_w 1 1 (ib_ne_lo 0 h11 rfl c17) rfl
                refine lv_aload_n hx hb dX5_both_23 rfl (lv_at hl 0 rfl) ?_
                refine lv_iload_n hx hb dX5_both_24 rfl (lv_at hl 1 rfl) ?_
                refine k_jvm hP hD hS hA [2, 3, 0, 1] [] rfl rfl rfl 0 0 (Nat.le_of_ble_eq_true rfl) (Nat.le_of_ble_eq_true rfl) (fun hPc hDc => k_runV (As := [.int 2]) (rest := []) C0 hZ hS hA (s_X5_fact_a0_2 l dC dI cy sq a_this a_this_text g_this_text x_this_length v8 v9 v10 x_this_allowed a_this_plan x_this_plan_cycle x_this_plan_green x_this_plan_rule x_this_plan_least x_this_plan_away x_this_plan_statements x_this_plan_kinds a_this_plan_calm a_this_plan_pace a_this_plan_trusts x_this_plan_walkers a_this_plan_kindOf a_this_plan_comesAt a_this_plan_comers a_this_plan_names a_this_plan_code J7_a3 J7_c2_16 a_this_plan_spans J7_c0_7 J7_c0_8 hg_this_text (ib_w 0 1600 hx_this_length rfl) (ib_w 0 1600 h12 rfl) (ib_w 0 1600 h13 rfl) (ib_w 0 4 h14 rfl) (ib_w 0 1600 hJ7_c2_16 rfl) (fun hq9 => ib_w 0 1599 (h15 hq9) rfl)) mV_X5_202 hPc hDc rfl rfl rfl hl rfl rfl (Nat.le_of_ble_eq_true rfl) ⟨(Nat.le_of_ble_eq_true rfl), (Nat.le_of_ble_eq_true rfl)⟩ ⟨(Nat.le_of_ble_eq_true rfl), (Nat.le_of_ble_eq_true rfl)⟩ dX5_both_25) (fun u22 H locs hw hP hD hS => ?_)
                obtain ⟨v23, v24, v25, v26, v27, v28, f29⟩ := u22
                try dsimp only at hP hD hw
                replace hP : va_P (dC, dI) vwCl [(wo_5_riiiiirii a_this a_this_text x_this_length v23 v24 v25 x_this_allowed a_this_plan v26 v27), (wi_0_1600_0 a_this_text cy g_this_text), (wo_4_iiiiiiirrrirrrrrir a_this_plan x_this_plan_cycle x_this_plan_green x_this_plan_rule x_this_plan_least x_this_plan_away x_this_plan_statements x_this_plan_kinds a_this_plan_calm a_this_plan_pace a_this_plan_trusts x_this_plan_walkers a_this_plan_kindOf a_this_plan_comesAt a_this_plan_comers a_this_plan_names a_this_plan_code v28 a_this_plan_spans), (wi_0_1600_0 a_this_plan_code cy f29)] H := hP
                replace hD := k_D hP hD
                obtain ⟨h30, h31, h32, h33, h34, h35⟩ := hw
                replace hq := lf_p1 hq h35
                replace hq := lf_p1 hq rfl
                replace hq := lf_p1 hq rfl
                replace hq := lf_p1 hq rfl
                replace hq := lf_p1 hq rfl
                replace hq := lf_p1 hq rfl
                refine lv_aload_n hx hb dX5_both_28 rfl (lv_at hl 0 rfl) ?_
                refine lv_bipush (v := (-29)) hx hb dX5_both_29 rfl ?_
                refine k_jvm hP hD hS hA [0, 2, 3] [false, true] rfl rfl rfl 0 0 (Nat.le_of_ble_eq_true rfl) (Nat.le_of_ble_eq_true rfl) (fun hPc hDc => k_runV (As := [.int (-29)]) (rest := []) C0 hZ hS hA (s_X5_emit l dC dI cy sq a_this a_this_text x_this_length v23 v24 v25 x_this_allowed a_this_plan x_this_plan_cycle x_this_plan_green x_this_plan_rule x_this_plan_least x_this_plan_away x_this_plan_statements x_this_plan_kinds a_this_plan_calm a_this_plan_pace a_this_plan_trusts x_this_plan_walkers a_this_plan_kindOf a_this_plan_comesAt a_this_plan_comers a_this_plan_names a_this_plan_code f29 v28 a_this_plan_spans v26 v27 (-29) (ib_w 0 1600 h33 rfl)) mV_X5_199 hPc hDc rfl rfl rfl hl rfl rfl (Nat.le_of_ble_eq_true rfl) ⟨(Nat.le_of_ble_eq_true rfl), (Nat.le_of_ble_eq_true rfl)⟩ ⟨(Nat.le_of_ble_eq_true rfl), (Nat.le_of_ble_eq_true rfl)⟩ dX5_both_31) (fun u37 H locs hw hP hD hS => ?_)
                obtain ⟨v38, f39⟩ := u37
                try dsimp only at hP hD hw
                replace hP : va_P (dC, dI) vwCl [(wi_0_1600_0 a_this_text cy g_this_text), (wo_5_riiiiirii a_this a_this_text x_this_length v23 v24 v25 x_this_allowed a_this_plan v26 v27), (wo_4_iiiiiiirrrirrrrrir a_this_plan x_this_plan_cycle x_this_plan_green x_this_plan_rule x_this_plan_least x_this_plan_away x_this_plan_statements x_this_plan_kinds a_this_plan_calm a_this_plan_pace a_this_plan_trusts x_this_plan_walkers a_this_plan_kindOf a_this_plan_comesAt a_this_plan_comers a_this_plan_names a_this_plan_code v38 a_this_plan_spans), (wi_0_1600_0 a_this_plan_code cy f39)] H := hP
                replace hD := k_D hP hD
                obtain ⟨h40, h41⟩ := hw
                have h41 := by have h9 := h41; try simp only [show ((-29) : Int32).toInt = (-29 : Int) from rfl] at h9; exact h9
                replace hq := lf_p1 hq h41
                obtain ⟨z42, ez42⟩ : ∃ y : Int32, y = J7_l2 + 1 := ⟨_, rfl⟩
                refine lv_iinc (v := z42) (lv' := [(2, .int z42), (0, .ref a_this), (1, .int 2)]) hx hb dX5_both_34 hl (k := 2) rfl (by rw [ez42]; rfl) (Nat.le_of_ble_eq_true rfl) rfl (fun ls hl => ?_)
                have h43 := ib_add h5 (ib_c 1 1 1 rfl) rfl
                rw [← ez42] at h43
                have h44 : ib z42 1 1600 := ib_w 1 1600 h43.1 rfl
                have Ez42 := lf_add h43.2 (lf_rf J7_l2) (lf_lc 1 (1 : Int) rfl)
                refine lv_goto (tgt := 7) hx hb dX5_both_37 rfl ?_
                exact ih7 v23 v24 v25 v26 v27 v38 f39 z42 H locs ls (ib_w 0 1600 h30 rfl) (ib_w 0 1600 h31 rfl) (ib_w 0 4 h32 rfl) (ib_w 0 1600 h40 rfl) (ib_w 0 1600 h44 rfl) (fun hq9 => ib_w 0 1599 (h34 hq9) rfl) (by rw [← hK7]; rw [lf_u Ez42]; exact hq) (by have := h43.2; have : (1 : Int32).toInt = 1 := rfl; omega) (hP.sub [1, 0, 2, 3] rfl) (hD.sub [1, 0, 2, 3] rfl rfl) hS (lv_sub hl [1, 2, 0] rfl)
  refine lv_aload_n hx hb dX5_both_0 rfl (lv_at hl 0 rfl) ?_
  refine lv_iload_n hx hb dX5_both_1 rfl (lv_at hl 1 rfl) ?_
  refine k_jvm hP hD hS hA [0, 1, 2, 3] [] rfl rfl rfl 0 0 (Nat.le_of_ble_eq_true rfl) (Nat.le_of_ble_eq_true rfl) (fun hPc hDc => k_runV (As := [.int 2]) (rest := []) C0 hZ hS hA (s_X5_fact_a0_2 l dC dI cy sq a_this a_this_text g_this_text x_this_length x_this_at x_this_behind x_this_sort x_this_allowed a_this_plan x_this_plan_cycle x_this_plan_green x_this_plan_rule x_this_plan_least x_this_plan_away x_this_plan_statements x_this_plan_kinds a_this_plan_calm a_this_plan_pace a_this_plan_trusts x_this_plan_walkers a_this_plan_kindOf a_this_plan_comesAt a_this_plan_comers a_this_plan_names a_this_plan_code g_this_plan_code x_this_plan_size a_this_plan_spans x_this_fault x_this_place hg_this_text (ib_w 0 1600 hx_this_length rfl) (ib_w 0 1600 hx_this_at rfl) (ib_w 0 1600 hx_this_behind rfl) (ib_w 0 4 hx_this_sort rfl) (ib_w 0 1600 hx_this_plan_size rfl) (fun hq9 => ib_w 0 1599 (hc0_this hq9) rfl)) mV_X5_202 hPc hDc rfl rfl rfl hl rfl rfl (Nat.le_of_ble_eq_true rfl) ⟨(Nat.le_of_ble_eq_true rfl), (Nat.le_of_ble_eq_true rfl)⟩ ⟨(Nat.le_of_ble_eq_true rfl), (Nat.le_of_ble_eq_true rfl)⟩ dX5_both_2) (fun u46 H locs hw hP hD hS => ?_)
  obtain ⟨v47, v48, v49, v50, v51, v52, f53⟩ := u46
  try dsimp only at hP hD hw
  replace hP : va_P (dC, dI) vwCl [(wo_5_riiiiirii a_this a_this_text x_this_length v47 v48 v49 x_this_allowed a_this_plan v50 v51), (wi_0_1600_0 a_this_text cy g_this_text), (wo_4_iiiiiiirrrirrrrrir a_this_plan x_this_plan_cycle x_this_plan_green x_this_plan_rule x_this_plan_least x_this_plan_away x_this_plan_statements x_this_plan_kinds a_this_plan_calm a_this_plan_pace a_this_plan_trusts x_this_plan_walkers a_this_plan_kindOf a_this_plan_comesAt a_this_plan_comers a_this_plan_names a_this_plan_code v52 a_this_plan_spans), (wi_0_1600_0 a_this_plan_code cy f53)] H := hP
  replace hD := k_D hP hD
  obtain ⟨h54, h55, h56, h57, h58, h59⟩ := hw
  replace hq := lf_p1 hq h59
  replace hq := lf_p1 hq rfl
  replace hq := lf_p1 hq rfl
  replace hq := lf_p1 hq rfl
  replace hq := lf_p1 hq rfl
  replace hq := lf_p1 hq rfl
  refine lv_iconst (v := 0) hx hb dX5_both_5 rfl ?_
  refine lv_istore_n (lv' := [(2, .int 0), (0, .ref a_this), (1, .int 2)]) hx hb dX5_both_6 rfl hl (Nat.le_of_ble_eq_true rfl) rfl (fun ls hl => ?_)
  exact jn7 1602 v47 v48 v49 v50 v51 v52 f53 0 H locs ls (ib_w 0 1600 h54 rfl) (ib_w 0 1600 h55 rfl) (ib_w 0 4 h56 rfl) (ib_w 0 1600 h57 rfl) (ib_w 0 1600 (ib_c 0 0 0 rfl) rfl) (fun hq9 => ib_w 0 1599 (h58 hq9) rfl) (by try simp only [show (0 : Int32).toInt = (0 : Int) from rfl]; exact hq) (by have := (ib_c 0 0 0 rfl); unfold ib at this; omega) hP hD hS (lv_sub hl [1, 2, 0] rfl)
set_option maxHeartbeats 4000000 in
set_option maxRecDepth 100000 in
theorem s_X5_test_a0_2 (l : Launch) (dC : Nat → ClassId) (dI : Nat → Nat → Nat) (cy : Nat → ClassId) (sq : Nat → Nat) (a_this : Nat) (a_this_text : Nat) (g_this_text : Nat → Int32) (x_this_length : Int32) (x_this_at : Int32) (x_this_behind : Int32) (x_this_sort : Int32) (x_this_allowed : Int32) (a_this_plan : Nat) (x_this_plan_cycle : Int32) (x_this_plan_green : Int32) (x_this_plan_rule : Int32) (x_this_plan_least : Int32) (x_this_plan_away : Int32) (x_this_plan_statements : Int32) (x_this_plan_kinds : Int32) (a_this_plan_calm : Nat) (a_this_plan_pace : Nat) (a_this_plan_trusts : Nat) (x_this_plan_walkers : Int32) (a_this_plan_kindOf : Nat) (a_this_plan_comesAt : Nat) (a_this_plan_comers : Nat) (a_this_plan_names : Nat) (a_this_plan_code : Nat) (g_this_plan_code : Nat → Int32) (x_this_plan_size : Int32) (a_this_plan_spans : Nat) (x_this_fault : Int32) (x_this_place : Int32) (hg_this_text : ia g_this_text 1600 0 255) (hx_this_length : ib x_this_length 0 1600) (hx_this_at : ib x_this_at 0 1600) (hx_this_behind : ib x_this_behind 0 1600) (hx_this_sort : ib x_this_sort 0 4) (hx_this_plan_size : ib x_this_plan_size 0 1600) (hc0_this : ¬ x_this_sort = 0 → ib x_this_at 0 1599) : k_Met l yX5_test cX5_test 3 none { frames := 27, cells := 0, slots := 0, locals := 655 } dC dI cy sq [.ref a_this, .int 2] [(wo_5_riiiiirii a_this a_this_text x_this_length x_this_at x_this_behind x_this_sort x_this_allowed a_this_plan x_this_fault x_this_place), (wi_0_1600_0 a_this_text cy g_this_text), (wo_4_iiiiiiirrrirrrrrir a_this_plan x_this_plan_cycle x_this_plan_green x_this_plan_rule x_this_plan_least x_this_plan_away x_this_plan_statements x_this_plan_kinds a_this_plan_calm a_this_plan_pace a_this_plan_trusts x_this_plan_walkers a_this_plan_kindOf a_this_plan_comesAt a_this_plan_comers a_this_plan_names a_this_plan_code x_this_plan_size a_this_plan_spans), (wi_0_1600_0 a_this_plan_code cy g_this_plan_code)] (k_Qv dC dI (fun (u : Int32 × Int32 × Int32 × Int32 × Int32 × Int32 × (Nat → Int32)) => match u with | (n0, n1, n2, n3, n4, n5, n6) => ib n0 0 1600 ∧ ib n1 0 1600 ∧ ib n2 0 4 ∧ ib n5 0 1600 ∧ (¬ n2 = 0 → ib n0 0 1599) ∧ (F_X5_test_a0_2 (lf_A g_this_text) (Int32.toInt x_this_length) (Int32.toInt x_this_at) (Int32.toInt x_this_behind) (Int32.toInt x_this_sort) (Int32.toInt x_this_allowed) (lf_A g_this_plan_code) (Int32.toInt x_this_plan_size) (Int32.toInt x_this_fault) (Int32.toInt x_this_place) = ((Int32.toInt n0), (Int32.toInt n1), (Int32.toInt n2), (Int32.toInt n3), (Int32.toInt n4), (Int32.toInt n5), (lf_A n6)))) (fun u : Int32 × Int32 × Int32 × Int32 × Int32 × Int32 × (Nat → Int32) => match u with | (n0, n1, n2, n3, n4, n5, n6) => [(wo_5_riiiiirii a_this a_this_text x_this_length n0 n1 n2 x_this_allowed a_this_plan n3 n4), (wi_0_1600_0 a_this_text cy g_this_text), (wo_4_iiiiiiirrrirrrrrir a_this_plan x_this_plan_cycle x_this_plan_green x_this_plan_rule x_this_plan_least x_this_plan_away x_this_plan_statements x_this_plan_kinds a_this_plan_calm a_this_plan_pace a_this_plan_trusts x_this_plan_walkers a_this_plan_kindOf a_this_plan_comesAt a_this_plan_comers a_this_plan_names a_this_plan_code n5 a_this_plan_spans), (wi_0_1600_0 a_this_plan_code cy n6)])) := by
  refine k_ofW2 (by decide +kernel) (Nat.le_of_ble_eq_true rfl) ?_
  intro p e s m below meth c A ls H locs args Q hQ C0 hZ hr hlk hin hP hD hA hS hl
  have C0 : k_cx p s m args c cX5_test 3 RX5 dC dI cy sq := C0
  have hx := C0.1
  have hb := C0.2.1
  have hl : lv_has ls 3 [(0, .ref a_this), (1, .int 2)] := hl
  obtain ⟨O, hO⟩ : ∃ o, o = F_X5_test_a0_2 (lf_A g_this_text) (Int32.toInt x_this_length) (Int32.toInt x_this_at) (Int32.toInt x_this_behind) (Int32.toInt x_this_sort) (Int32.toInt x_this_allowed) (lf_A g_this_plan_code) (Int32.toInt x_this_plan_size) (Int32.toInt x_this_fault) (Int32.toInt x_this_place) := ⟨_, rfl⟩
  have hq := hO
  unfold F_X5_test_a0_2 at hq
  have jn7 : ∀ (n : Nat) (J7_c0_2 : Int32) (J7_c0_3 : Int32) (J7_c0_4 : Int32) (J7_c0_7 : Int32) (J7_c0_8 : Int32) (J7_c2_16 : Int32) (J7_a3 : Nat → Int32) (J7_l2 : Int32) (H : Heap) (locs : List Loc) (ls : Array Slot), ib J7_c0_2 0 1600 → ib J7_c0_3 0 1600 → ib J7_c0_4 0 4 → ib J7_c2_16 0 1600 → ib J7_l2 0 1600 → (¬ J7_c0_4 = 0 → ib J7_c0_2 0 1599) → (O = F_X5_test_a0_2_7 (lf_A g_this_text) (Int32.toInt x_this_length) (Int32.toInt x_this_allowed) n (Int32.toInt J7_c0_2) (Int32.toInt J7_c0_3) (Int32.toInt J7_c0_4) (Int32.toInt J7_c0_7) (Int32.toInt J7_c0_8) (Int32.toInt J7_c2_16) (lf_A J7_a3) (Int32.toInt J7_l2)) → 1601 ≤ J7_l2.toInt + (n : Int) → va_P (dC, dI) vwCl [(wo_5_riiiiirii a_this a_this_text x_this_length J7_c0_2 J7_c0_3 J7_c0_4 x_this_allowed a_this_plan J7_c0_7 J7_c0_8), (wi_0_1600_0 a_this_text cy g_this_text), (wo_4_iiiiiiirrrirrrrrir a_this_plan x_this_plan_cycle x_this_plan_green x_this_plan_rule x_this_plan_least x_this_plan_away x_this_plan_statements x_this_plan_kinds a_this_plan_calm a_this_plan_pace a_this_plan_trusts x_this_plan_walkers a_this_plan_kindOf a_this_plan_comesAt a_this_plan_comers a_this_plan_names a_this_plan_code J7_c2_16 a_this_plan_spans), (wi_0_1600_0 a_this_plan_code cy J7_a3)] H → va_D A [(wo_5_riiiiirii a_this a_this_text x_this_length J7_c0_2 J7_c0_3 J7_c0_4 x_this_allowed a_this_plan J7_c0_7 J7_c0_8), (wi_0_1600_0 a_this_text cy g_this_text), (wo_4_iiiiiiirrrirrrrrir a_this_plan x_this_plan_cycle x_this_plan_green x_this_plan_rule x_this_plan_least x_this_plan_away x_this_plan_statements x_this_plan_kinds a_this_plan_calm a_this_plan_pace a_this_plan_trusts x_this_plan_walkers a_this_plan_kindOf a_this_plan_comesAt a_this_plan_comers a_this_plan_names a_this_plan_code J7_c2_16 a_this_plan_spans), (wi_0_1600_0 a_this_plan_code cy J7_a3)] → va_S A s.heap H locs → lv_has ls 3 [(0, .ref a_this), (1, .int 2), (2, .int J7_l2)] → W p l e { frames := 27, cells := 0, slots := 0, locals := 655 } s m args below meth c H locs 0 0 Q (F0 m 7 ls []) := by
    as_aux_lemma =>
      intro n
      induction n with
      | zero =>
        intro J7_c0_2 J7_c0_3 J7_c0_4 J7_c0_7 J7_c0_8 J7_c2_16 J7_a3 J7_l2 H locs ls hJ7_c0_2 hJ7_c0_3 hJ7_c0_4 hJ7_c2_16 hJ7_l2 hJ7_ic0_0 hq hm
        exact absurd hm (by have := hJ7_l2; unfold ib at this; omega)
      | succ n ih =>
        intro J7_c0_2 J7_c0_3 J7_c0_4 J7_c0_7 J7_c0_8 J7_c2_16 J7_a3 J7_l2 H locs ls hJ7_c0_2 hJ7_c0_3 hJ7_c0_4 hJ7_c2_16 hJ7_l2 hJ7_ic0_0 hq hm7 hP hD hS hl
        have ih7 := ih
        obtain ⟨K7, hK7⟩ : ∃ K, K = F_X5_test_a0_2_7 (lf_A g_this_text) (Int32.toInt x_this_length) (Int32.toInt x_this_allowed) n := ⟨_, rfl⟩
        have hq : O = F_X5_test_a0_2_7b (lf_A g_this_text) (Int32.toInt x_this_length) (Int32.toInt x_this_allowed) K7 (Int32.toInt J7_c0_2) (Int32.toInt J7_c0_3) (Int32.toInt J7_c0_4) (Int32.toInt J7_c0_7) (Int32.toInt J7_c0_8) (Int32.toInt J7_c2_16) (lf_A J7_a3) (Int32.toInt J7_l2) := by rw [hK7]; exact hq
        unfold F_X5_test_a0_2_7b at hq
        refine lv_iload_n hx hb dX5_test_7 rfl (lv_at hl 2 rfl) ?_
        refine lv_sipush (v := 1600) hx hb dX5_test_8 rfl ?_
        refine lv_icmp_ge (tgt := 40) hx hb dX5_test_11 rfl (fun c1 => ?_) (fun c1 => ?_)
        · replace hq := lf_pos hq (lf_le (lf_lc 1600 (1600 : Int) rfl) (lf_rf J7_l2) c1)
          have h2 := ib_le (ib_c 1600 1600 1600 rfl) hJ7_l2 c1
          have h3 : ib J7_l2 1600 1600 := ib_w 1600 1600 h2.2 rfl
          subst hQ; exact k_vret hx hb hr hlk ((J7_c0_2, J7_c0_3, J7_c0_4, J7_c0_7, J7_c0_8, J7_c2_16, J7_a3)) hS ⟨ib_w 0 1600 hJ7_c0_2 rfl, ib_w 0 1600 hJ7_c0_3 rfl, ib_w 0 4 hJ7_c0_4 rfl, ib_w 0 1600 hJ7_c2_16 rfl, fun hq9 => ib_w 0 1599 (hJ7_ic0_0 hq9) rfl, (hO.symm.trans (by exact hq))⟩ hP hD (Nat.le_of_ble_eq_true rfl) (Nat.le_of_ble_eq_true rfl) dX5_test_40
        · as_aux_lemma =>
            replace hq := lf_neg hq (lf_nle (lf_lc 1600 (1600 : Int) rfl) (lf_rf J7_l2) c1)
            have h4 := ib_nle (ib_c 1600 1600 1600 rfl) hJ7_l2 c1
            have h5 : ib J7_l2 0 1599 := ib_w 0 1599 h4.2 rfl
            refine lv_aload_n hx hb dX5_test_14 rfl (lv_at hl 0 rfl) ?_
            refine va_ldcS hx hb C0.2.2.2.1 (C0.2.2.2.2.2.2.2.2.2.2.2.2 13 (by decide)) dX5_test_15 ?_
            refine k_jim hP hD hS hA [0, 1] [false, false, true, true] rfl rfl rfl 0 0 (Nat.le_of_ble_eq_true rfl) (Nat.le_of_ble_eq_true rfl) (fun hPc hDc => k_runV (As := [.ref (sq 13)]) (rest := []) C0 hZ hS hA (s_X5_takeWord_s13 l dC dI cy sq a_this a_this_text g_this_text x_this_length J7_c0_2 J7_c0_3 J7_c0_4 x_this_allowed a_this_plan J7_c0_7 J7_c0_8 hg_this_text (ib_w 0 1600 hx_this_length rfl) (ib_w 0 1600 hJ7_c0_2 rfl) (ib_w 0 1600 hJ7_c0_3 rfl) (ib_w 0 4 hJ7_c0_4 rfl) (fun hq9 => ib_w 0 1599 (hJ7_ic0_0 hq9) rfl)) mV_X5_195 hPc hDc rfl rfl rfl hl rfl rfl (Nat.le_of_ble_eq_true rfl) ⟨(Nat.le_of_ble_eq_true rfl), (Nat.le_of_ble_eq_true rfl)⟩ ⟨(Nat.le_of_ble_eq_true rfl), (Nat.le_of_ble_eq_true rfl)⟩ dX5_test_17) (fun r6 u7 H locs hw hP hD hS => ?_)
            obtain ⟨v8, v9, v10⟩ := u7
            try dsimp only at hP hD hw
            replace hP : va_P (dC, dI) vwCl [(wo_4_iiiiiiirrrirrrrrir a_this_plan x_this_plan_cycle x_this_plan_green x_this_plan_rule x_this_plan_least x_this_plan_away x_this_plan_statements x_this_plan_kinds a_this_plan_calm a_this_plan_pace a_this_plan_trusts x_this_plan_walkers a_this_plan_kindOf a_this_plan_comesAt a_this_plan_comers a_this_plan_names a_this_plan_code J7_c2_16 a_this_plan_spans), (wi_0_1600_0 a_this_plan_code cy J7_a3), (wo_5_riiiiirii a_this a_this_text x_this_length v8 v9 v10 x_this_allowed a_this_plan J7_c0_7 J7_c0_8), (wi_0_1600_0 a_this_text cy g_this_text)] H := hP
            replace hD := k_D hP hD
            obtain ⟨h11, h12, h13, h14, h15, h16⟩ := hw
            replace hq := lf_p1 hq h16
            replace hq := lf_p1 hq rfl
            replace hq := lf_p1 hq rfl
            refine lv_if_eq (tgt := 40) hx hb dX5_test_20 rfl (fun c17 => ?_) (fun c17 => ?_)
            · replace hq := lf_pos hq (lf_eq (lf_rf r6) (lf_lc 0 (0 : Int) rfl) c17)
              have h18 := ib_eq h11 (ib_c 0 0 0 rfl) c17
              have h19 : ib r6 0 0 := ib_w 0 0 h18.1 rfl
              subst hQ; exact k_vret hx hb hr hlk ((v8, v9, v10, J7_c0_7, J7_c0_8, J7_c2_16, J7_a3)) hS ⟨ib_w 0 1600 h12 rfl, ib_w 0 1600 h13 rfl, ib_w 0 4 h14 rfl, ib_w 0 1600 hJ7_c2_16 rfl, fun hq9 => ib_w 0 1599 (h15 hq9) rfl, (hO.symm.trans (by exact hq))⟩ (hP.sub [2, 3, 0, 1] rfl) (hD.sub [2, 3, 0, 1] rfl rfl) (Nat.le_of_ble_eq_true rfl) (Nat.le_of_ble_eq_true rfl) dX5_test_40
            · as_aux_lemma =>
                replace hq := lf_neg hq (lf_ne (lf_rf r6) (lf_lc 0 (0 : Int) rfl) c17)
                have h20 : ib r6 1 1 := ib_w 1 1 (ib_ne_lo 0 h11 rfl c17) rfl
                refine lv_aload_n hx hb dX5_test_23 rfl (lv_at hl 0 rfl) ?_
                refine lv_iload_n hx hb dX5_test_24 rfl (lv_at hl 1 rfl) ?_
                refine k_jvm hP hD hS hA [2, 3, 0, 1] [] rfl rfl rfl 0 0 (Nat.le_of_ble_eq_true rfl) (Nat.le_of_ble_eq_true rfl) (fun hPc hDc => k_runV (As := [.int 2]) (rest := []) C0 hZ hS hA (s_X5_both_a0_2 l dC dI cy sq a_this a_this_text g_this_text x_this_length v8 v9 v10 x_this_allowed a_this_plan x_this_plan_cycle x_this_plan_green x_this_plan_rule x_this_plan_least x_this_plan_away x_this_plan_statements x_this_plan_kinds a_this_plan_calm a_this_plan_pace a_this_plan_trusts x_this_plan_walkers a_this_plan_kindOf a_this_plan_comesAt a_this_plan_comers a_this_plan_names a_this_plan_code J7_a3 J7_c2_16 a_this_plan_spans J7_c0_7 J7_c0_8 hg_this_text (ib_w 0 1600 hx_this_length rfl) (ib_w 0 1600 h12 rfl) (ib_w 0 1600 h13 rfl) (ib_w 0 4 h14 rfl) (ib_w 0 1600 hJ7_c2_16 rfl) (fun hq9 => ib_w 0 1599 (h15 hq9) rfl)) mV_X5_190 hPc hDc rfl rfl rfl hl rfl rfl (Nat.le_of_ble_eq_true rfl) ⟨(Nat.le_of_ble_eq_true rfl), (Nat.le_of_ble_eq_true rfl)⟩ ⟨(Nat.le_of_ble_eq_true rfl), (Nat.le_of_ble_eq_true rfl)⟩ dX5_test_25) (fun u22 H locs hw hP hD hS => ?_)
                obtain ⟨v23, v24, v25, v26, v27, v28, f29⟩ := u22
                try dsimp only at hP hD hw
                replace hP : va_P (dC, dI) vwCl [(wo_5_riiiiirii a_this a_this_text x_this_length v23 v24 v25 x_this_allowed a_this_plan v26 v27), (wi_0_1600_0 a_this_text cy g_this_text), (wo_4_iiiiiiirrrirrrrrir a_this_plan x_this_plan_cycle x_this_plan_green x_this_plan_rule x_this_plan_least x_this_plan_away x_this_plan_statements x_this_plan_kinds a_this_plan_calm a_this_plan_pace a_this_plan_trusts x_this_plan_walkers a_this_plan_kindOf a_this_plan_comesAt a_this_plan_comers a_this_plan_names a_this_plan_code v28 a_this_plan_spans), (wi_0_1600_0 a_this_plan_code cy f29)] H := hP
                replace hD := k_D hP hD
                obtain ⟨h30, h31, h32, h33, h34, h35⟩ := hw
                replace hq := lf_p1 hq h35
                replace hq := lf_p1 hq rfl
                replace hq := lf_p1 hq rfl
                replace hq := lf_p1 hq rfl
                replace hq := lf_p1 hq rfl
                replace hq := lf_p1 hq rfl
                refine lv_aload_n hx hb dX5_test_28 rfl (lv_at hl 0 rfl) ?_
                refine lv_bipush (v := (-30)) hx hb dX5_test_29 rfl ?_
                refine k_jvm hP hD hS hA [0, 2, 3] [false, true] rfl rfl rfl 0 0 (Nat.le_of_ble_eq_true rfl) (Nat.le_of_ble_eq_true rfl) (fun hPc hDc => k_runV (As := [.int (-30)]) (rest := []) C0 hZ hS hA (s_X5_emit l dC dI cy sq a_this a_this_text x_this_length v23 v24 v25 x_this_allowed a_this_plan x_this_plan_cycle x_this_plan_green x_this_plan_rule x_this_plan_least x_this_plan_away x_this_plan_statements x_this_plan_kinds a_this_plan_calm a_this_plan_pace a_this_plan_trusts x_this_plan_walkers a_this_plan_kindOf a_this_plan_comesAt a_this_plan_comers a_this_plan_names a_this_plan_code f29 v28 a_this_plan_spans v26 v27 (-30) (ib_w 0 1600 h33 rfl)) mV_X5_199 hPc hDc rfl rfl rfl hl rfl rfl (Nat.le_of_ble_eq_true rfl) ⟨(Nat.le_of_ble_eq_true rfl), (Nat.le_of_ble_eq_true rfl)⟩ ⟨(Nat.le_of_ble_eq_true rfl), (Nat.le_of_ble_eq_true rfl)⟩ dX5_test_31) (fun u37 H locs hw hP hD hS => ?_)
                obtain ⟨v38, f39⟩ := u37
                try dsimp only at hP hD hw
                replace hP : va_P (dC, dI) vwCl [(wi_0_1600_0 a_this_text cy g_this_text), (wo_5_riiiiirii a_this a_this_text x_this_length v23 v24 v25 x_this_allowed a_this_plan v26 v27), (wo_4_iiiiiiirrrirrrrrir a_this_plan x_this_plan_cycle x_this_plan_green x_this_plan_rule x_this_plan_least x_this_plan_away x_this_plan_statements x_this_plan_kinds a_this_plan_calm a_this_plan_pace a_this_plan_trusts x_this_plan_walkers a_this_plan_kindOf a_this_plan_comesAt a_this_plan_comers a_this_plan_names a_this_plan_code v38 a_this_plan_spans), (wi_0_1600_0 a_this_plan_code cy f39)] H := hP
                replace hD := k_D hP hD
                obtain ⟨h40, h41⟩ := hw
                have h41 := by have h9 := h41; try simp only [show ((-30) : Int32).toInt = (-30 : Int) from rfl] at h9; exact h9
                replace hq := lf_p1 hq h41
                obtain ⟨z42, ez42⟩ : ∃ y : Int32, y = J7_l2 + 1 := ⟨_, rfl⟩
                refine lv_iinc (v := z42) (lv' := [(2, .int z42), (0, .ref a_this), (1, .int 2)]) hx hb dX5_test_34 hl (k := 2) rfl (by rw [ez42]; rfl) (Nat.le_of_ble_eq_true rfl) rfl (fun ls hl => ?_)
                have h43 := ib_add h5 (ib_c 1 1 1 rfl) rfl
                rw [← ez42] at h43
                have h44 : ib z42 1 1600 := ib_w 1 1600 h43.1 rfl
                have Ez42 := lf_add h43.2 (lf_rf J7_l2) (lf_lc 1 (1 : Int) rfl)
                refine lv_goto (tgt := 7) hx hb dX5_test_37 rfl ?_
                exact ih7 v23 v24 v25 v26 v27 v38 f39 z42 H locs ls (ib_w 0 1600 h30 rfl) (ib_w 0 1600 h31 rfl) (ib_w 0 4 h32 rfl) (ib_w 0 1600 h40 rfl) (ib_w 0 1600 h44 rfl) (fun hq9 => ib_w 0 1599 (h34 hq9) rfl) (by rw [← hK7]; rw [lf_u Ez42]; exact hq) (by have := h43.2; have : (1 : Int32).toInt = 1 := rfl; omega) (hP.sub [1, 0, 2, 3] rfl) (hD.sub [1, 0, 2, 3] rfl rfl) hS (lv_sub hl [1, 2, 0] rfl)
  refine lv_aload_n hx hb dX5_test_0 rfl (lv_at hl 0 rfl) ?_
  refine lv_iload_n hx hb dX5_test_1 rfl (lv_at hl 1 rfl) ?_
  refine k_jvm hP hD hS hA [0, 1, 2, 3] [] rfl rfl rfl 0 0 (Nat.le_of_ble_eq_true rfl) (Nat.le_of_ble_eq_true rfl) (fun hPc hDc => k_runV (As := [.int 2]) (rest := []) C0 hZ hS hA (s_X5_both_a0_2 l dC dI cy sq a_this a_this_text g_this_text x_this_length x_this_at x_this_behind x_this_sort x_this_allowed a_this_plan x_this_plan_cycle x_this_plan_green x_this_plan_rule x_this_plan_least x_this_plan_away x_this_plan_statements x_this_plan_kinds a_this_plan_calm a_this_plan_pace a_this_plan_trusts x_this_plan_walkers a_this_plan_kindOf a_this_plan_comesAt a_this_plan_comers a_this_plan_names a_this_plan_code g_this_plan_code x_this_plan_size a_this_plan_spans x_this_fault x_this_place hg_this_text (ib_w 0 1600 hx_this_length rfl) (ib_w 0 1600 hx_this_at rfl) (ib_w 0 1600 hx_this_behind rfl) (ib_w 0 4 hx_this_sort rfl) (ib_w 0 1600 hx_this_plan_size rfl) (fun hq9 => ib_w 0 1599 (hc0_this hq9) rfl)) mV_X5_190 hPc hDc rfl rfl rfl hl rfl rfl (Nat.le_of_ble_eq_true rfl) ⟨(Nat.le_of_ble_eq_true rfl), (Nat.le_of_ble_eq_true rfl)⟩ ⟨(Nat.le_of_ble_eq_true rfl), (Nat.le_of_ble_eq_true rfl)⟩ dX5_test_2) (fun u46 H locs hw hP hD hS => ?_)
  obtain ⟨v47, v48, v49, v50, v51, v52, f53⟩ := u46
  try dsimp only at hP hD hw
  replace hP : va_P (dC, dI) vwCl [(wo_5_riiiiirii a_this a_this_text x_this_length v47 v48 v49 x_this_allowed a_this_plan v50 v51), (wi_0_1600_0 a_this_text cy g_this_text), (wo_4_iiiiiiirrrirrrrrir a_this_plan x_this_plan_cycle x_this_plan_green x_this_plan_rule x_this_plan_least x_this_plan_away x_this_plan_statements x_this_plan_kinds a_this_plan_calm a_this_plan_pace a_this_plan_trusts x_this_plan_walkers a_this_plan_kindOf a_this_plan_comesAt a_this_plan_comers a_this_plan_names a_this_plan_code v52 a_this_plan_spans), (wi_0_1600_0 a_this_plan_code cy f53)] H := hP
  replace hD := k_D hP hD
  obtain ⟨h54, h55, h56, h57, h58, h59⟩ := hw
  replace hq := lf_p1 hq h59
  replace hq := lf_p1 hq rfl
  replace hq := lf_p1 hq rfl
  replace hq := lf_p1 hq rfl
  replace hq := lf_p1 hq rfl
  replace hq := lf_p1 hq rfl
  refine lv_iconst (v := 0) hx hb dX5_test_5 rfl ?_
  refine lv_istore_n (lv' := [(2, .int 0), (0, .ref a_this), (1, .int 2)]) hx hb dX5_test_6 rfl hl (Nat.le_of_ble_eq_true rfl) rfl (fun ls hl => ?_)
  exact jn7 1602 v47 v48 v49 v50 v51 v52 f53 0 H locs ls (ib_w 0 1600 h54 rfl) (ib_w 0 1600 h55 rfl) (ib_w 0 4 h56 rfl) (ib_w 0 1600 h57 rfl) (ib_w 0 1600 (ib_c 0 0 0 rfl) rfl) (fun hq9 => ib_w 0 1599 (h58 hq9) rfl) (by try simp only [show (0 : Int32).toInt = (0 : Int) from rfl]; exact hq) (by have := (ib_c 0 0 0 rfl); unfold ib at this; omega) hP hD hS (lv_sub hl [1, 2, 0] rfl)
