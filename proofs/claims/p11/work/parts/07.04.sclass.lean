set_option maxHeartbeats 4000000 in
set_option maxRecDepth 100000 in
theorem s_X5_product_a0_3 (l : Launch) (dC : Nat → ClassId) (dI : Nat → Nat → Nat) (cy : Nat → ClassId) (sq : Nat → Nat) (a_this : Nat) (a_this_text : Nat) (g_this_text : Nat → Int32) (x_this_length : Int32) (x_this_at : Int32) (x_this_behind : Int32) (x_this_sort : Int32) (x_this_allowed : Int32) (a_this_plan : Nat) (x_this_plan_cycle : Int32) (x_this_plan_green : Int32) (x_this_plan_rule : Int32) (x_this_plan_least : Int32) (x_this_plan_away : Int32) (x_this_plan_statements : Int32) (x_this_plan_kinds : Int32) (a_this_plan_calm : Nat) (a_this_plan_pace : Nat) (a_this_plan_trusts : Nat) (x_this_plan_walkers : Int32) (a_this_plan_kindOf : Nat) (a_this_plan_comesAt : Nat) (a_this_plan_comers : Nat) (a_this_plan_names : Nat) (a_this_plan_code : Nat) (g_this_plan_code : Nat → Int32) (x_this_plan_size : Int32) (a_this_plan_spans : Nat) (x_this_fault : Int32) (x_this_place : Int32) (hg_this_text : ia g_this_text 1600 0 255) (hx_this_length : ib x_this_length 0 1600) (hx_this_at : ib x_this_at 0 1600) (hx_this_behind : ib x_this_behind 0 1600) (hx_this_sort : ib x_this_sort 0 4) (hx_this_plan_size : ib x_this_plan_size 0 1600) (hc0_this : ¬ x_this_sort = 0 → ib x_this_at 0 1599) : k_Met l yX5_product cX5_product 4 none { frames := 19, cells := 0, slots := 0, locals := 476 } dC dI cy sq [.ref a_this, .int 3] [(wo_5_riiiiirii a_this a_this_text x_this_length x_this_at x_this_behind x_this_sort x_this_allowed a_this_plan x_this_fault x_this_place), (wi_0_1600_0 a_this_text cy g_this_text), (wo_4_iiiiiiirrrirrrrrir a_this_plan x_this_plan_cycle x_this_plan_green x_this_plan_rule x_this_plan_least x_this_plan_away x_this_plan_statements x_this_plan_kinds a_this_plan_calm a_this_plan_pace a_this_plan_trusts x_this_plan_walkers a_this_plan_kindOf a_this_plan_comesAt a_this_plan_comers a_this_plan_names a_this_plan_code x_this_plan_size a_this_plan_spans), (wi_0_1600_0 a_this_plan_code cy g_this_plan_code)] (k_Qv dC dI (fun (u : Int32 × Int32 × Int32 × Int32 × Int32 × Int32 × (Nat → Int32)) => match u with | (n0, n1, n2, n3, n4, n5, n6) => ib n0 0 1600 ∧ ib n1 0 1600 ∧ ib n2 0 4 ∧ ib n5 0 1600 ∧ (¬ n2 = 0 → ib n0 0 1599) ∧ (F_X5_product_a0_3 (lf_A g_this_text) (Int32.toInt x_this_length) (Int32.toInt x_this_at) (Int32.toInt x_this_behind) (Int32.toInt x_this_sort) (Int32.toInt x_this_allowed) (lf_A g_this_plan_code) (Int32.toInt x_this_plan_size) (Int32.toInt x_this_fault) (Int32.toInt x_this_place) = ((Int32.toInt n0), (Int32.toInt n1), (Int32.toInt n2), (Int32.toInt n3), (Int32.toInt n4), (Int32.toInt n5), (lf_A n6)))) (fun u : Int32 × Int32 × Int32 × Int32 × Int32 × Int32 × (Nat → Int32) => match u with | (n0, n1, n2, n3, n4, n5, n6) => [(wo_5_riiiiirii a_this a_this_text x_this_length n0 n1 n2 x_this_allowed a_this_plan n3 n4), (wi_0_1600_0 a_this_text cy g_this_text), (wo_4_iiiiiiirrrirrrrrir a_this_plan x_this_plan_cycle x_this_plan_green x_this_plan_rule x_this_plan_least x_this_plan_away x_this_plan_statements x_this_plan_kinds a_this_plan_calm a_this_plan_pace a_this_plan_trusts x_this_plan_walkers a_this_plan_kindOf a_this_plan_comesAt a_this_plan_comers a_this_plan_names a_this_plan_code n5 a_this_plan_spans), (wi_0_1600_0 a_this_plan_code cy n6)])) := by
  refine k_ofW2 (by decide +kernel) (Nat.le_of_ble_eq_true rfl) ?_
  intro p e s m below meth c A ls H locs args Q hQ C0 hZ hr hlk hin hP hD hA hS hl
  have C0 : k_cx p s m args c cX5_product 4 RX5 dC dI cy sq := C0
  have hx := C0.1
  have hb := C0.2.1
  have hl : lv_has ls 4 [(0, .ref a_this), (1, .int 3)] := hl
  obtain ⟨O, hO⟩ : ∃ o, o = F_X5_product_a0_3 (lf_A g_this_text) (Int32.toInt x_this_length) (Int32.toInt x_this_at) (Int32.toInt x_this_behind) (Int32.toInt x_this_sort) (Int32.toInt x_this_allowed) (lf_A g_this_plan_code) (Int32.toInt x_this_plan_size) (Int32.toInt x_this_fault) (Int32.toInt x_this_place) := ⟨_, rfl⟩
  have hq := hO
  unfold F_X5_product_a0_3 at hq
  have jn7 : ∀ (n : Nat) (J7_c0_2 : Int32) (J7_c0_3 : Int32) (J7_c0_4 : Int32) (J7_c0_7 : Int32) (J7_c0_8 : Int32) (J7_c2_16 : Int32) (J7_a3 : Nat → Int32) (J7_l2 : Int32) (H : Heap) (locs : List Loc) (ls : Array Slot), ib J7_c0_2 0 1600 → ib J7_c0_3 0 1600 → ib J7_c0_4 0 4 → ib J7_c2_16 0 1600 → ib J7_l2 0 1600 → (¬ J7_c0_4 = 0 → ib J7_c0_2 0 1599) → (O = F_X5_product_a0_3_7 (lf_A g_this_text) (Int32.toInt x_this_length) (Int32.toInt x_this_allowed) n (Int32.toInt J7_c0_2) (Int32.toInt J7_c0_3) (Int32.toInt J7_c0_4) (Int32.toInt J7_c0_7) (Int32.toInt J7_c0_8) (Int32.toInt J7_c2_16) (lf_A J7_a3) (Int32.toInt J7_l2)) → 1601 ≤ J7_l2.toInt + (n : Int) → va_P (dC, dI) vwCl [(wo_5_riiiiirii a_this a_this_text x_this_length J7_c0_2 J7_c0_3 J7_c0_4 x_this_allowed a_this_plan J7_c0_7 J7_c0_8), (wi_0_1600_0 a_this_text cy g_this_text), (wo_4_iiiiiiirrrirrrrrir a_this_plan x_this_plan_cycle x_this_plan_green x_this_plan_rule x_this_plan_least x_this_plan_away x_this_plan_statements x_this_plan_kinds a_this_plan_calm a_this_plan_pace a_this_plan_trusts x_this_plan_walkers a_this_plan_kindOf a_this_plan_comesAt a_this_plan_comers a_this_plan_names a_this_plan_code J7_c2_16 a_this_plan_spans), (wi_0_1600_0 a_this_plan_code cy J7_a3)] H → va_D A [(wo_5_riiiiirii a_this a_this_text x_this_length J7_c0_2 J7_c0_3 J7_c0_4 x_this_allowed a_this_plan J7_c0_7 J7_c0_8), (wi_0_1600_0 a_this_text cy g_this_text), (wo_4_iiiiiiirrrirrrrrir a_this_plan x_this_plan_cycle x_this_plan_green x_this_plan_rule x_this_plan_least x_this_plan_away x_this_plan_statements x_this_plan_kinds a_this_plan_calm a_this_plan_pace a_this_plan_trusts x_this_plan_walkers a_this_plan_kindOf a_this_plan_comesAt a_this_plan_comers a_this_plan_names a_this_plan_code J7_c2_16 a_this_plan_spans), (wi_0_1600_0 a_this_plan_code cy J7_a3)] → va_S A s.heap H locs → lv_has ls 4 [(0, .ref a_this), (1, .int 3), (2, .int J7_l2)] → W p l e { frames := 19, cells := 0, slots := 0, locals := 476 } s m args below meth c H locs 0 0 Q (F0 m 7 ls []) := by
    as_aux_lemma =>
      intro n
      induction n with
      | zero =>
        intro J7_c0_2 J7_c0_3 J7_c0_4 J7_c0_7 J7_c0_8 J7_c2_16 J7_a3 J7_l2 H locs ls hJ7_c0_2 hJ7_c0_3 hJ7_c0_4 hJ7_c2_16 hJ7_l2 hJ7_ic0_0 hq hm
        exact absurd hm (by have := hJ7_l2; unfold ib at this; omega)
      | succ n ih =>
        intro J7_c0_2 J7_c0_3 J7_c0_4 J7_c0_7 J7_c0_8 J7_c2_16 J7_a3 J7_l2 H locs ls hJ7_c0_2 hJ7_c0_3 hJ7_c0_4 hJ7_c2_16 hJ7_l2 hJ7_ic0_0 hq hm7 hP hD hS hl
        have ih7 := ih
        obtain ⟨K7, hK7⟩ : ∃ K, K = F_X5_product_a0_3_7 (lf_A g_this_text) (Int32.toInt x_this_length) (Int32.toInt x_this_allowed) n := ⟨_, rfl⟩
        have hq : O = F_X5_product_a0_3_7b (lf_A g_this_text) (Int32.toInt x_this_length) (Int32.toInt x_this_allowed) K7 (Int32.toInt J7_c0_2) (Int32.toInt J7_c0_3) (Int32.toInt J7_c0_4) (Int32.toInt J7_c0_7) (Int32.toInt J7_c0_8) (Int32.toInt J7_c2_16) (lf_A J7_a3) (Int32.toInt J7_l2) := by rw [hK7]; exact hq
        unfold F_X5_product_a0_3_7b at hq
        have jn48 : ∀ (J48_s0 : Int32) (H : Heap) (locs : List Loc) (ls : Array Slot), ib J7_l2 0 1599 → ib J7_c0_2 0 1599 → ib J7_c0_3 0 1600 → ib J7_c0_4 3 3 → ib J7_c2_16 0 1600 → ib J48_s0 (-23) (-22) → (O = F_X5_product_a0_3_48 (lf_A g_this_text) (Int32.toInt x_this_length) (Int32.toInt x_this_allowed) (Int32.toInt J7_c0_3) (Int32.toInt J7_c0_7) (Int32.toInt J7_c0_8) (Int32.toInt J7_c2_16) (lf_A J7_a3) (Int32.toInt J7_l2) K7 (Int32.toInt J48_s0)) → va_P (dC, dI) vwCl [(wo_5_riiiiirii a_this a_this_text x_this_length J7_c0_2 J7_c0_3 J7_c0_4 x_this_allowed a_this_plan J7_c0_7 J7_c0_8), (wi_0_1600_0 a_this_text cy g_this_text), (wo_4_iiiiiiirrrirrrrrir a_this_plan x_this_plan_cycle x_this_plan_green x_this_plan_rule x_this_plan_least x_this_plan_away x_this_plan_statements x_this_plan_kinds a_this_plan_calm a_this_plan_pace a_this_plan_trusts x_this_plan_walkers a_this_plan_kindOf a_this_plan_comesAt a_this_plan_comers a_this_plan_names a_this_plan_code J7_c2_16 a_this_plan_spans), (wi_0_1600_0 a_this_plan_code cy J7_a3)] H → va_D A [(wo_5_riiiiirii a_this a_this_text x_this_length J7_c0_2 J7_c0_3 J7_c0_4 x_this_allowed a_this_plan J7_c0_7 J7_c0_8), (wi_0_1600_0 a_this_text cy g_this_text), (wo_4_iiiiiiirrrirrrrrir a_this_plan x_this_plan_cycle x_this_plan_green x_this_plan_rule x_this_plan_least x_this_plan_away x_this_plan_statements x_this_plan_kinds a_this_plan_calm a_this_plan_pace a_this_plan_trusts x_this_plan_walkers a_this_plan_kindOf a_this_plan_comesAt a_this_plan_comers a_this_plan_names a_this_plan_code J7_c2_16 a_this_plan_spans), (wi_0_1600_0 a_this_plan_code cy J7_a3)] → va_S A s.heap H locs → lv_has ls 4 [(0, .ref a_this), (1, .int 3), (2, .int J7_l2)] → W p l e { frames := 19, cells := 0, slots := 0, locals := 476 } s m args below meth c H locs 0 0 Q (F0 m 48 ls [.int J48_s0]) := by
          as_aux_lemma =>
            intro J48_s0 H locs ls hK48_J7_l2 hK48_J7_c0_2 hK48_J7_c0_3 hK48_J7_c0_4 hK48_J7_c2_16 hJ48_s0 hq hP hD hS hl
            unfold F_X5_product_a0_3_48 at hq
            refine lv_istore_n (lv' := [(3, .int J48_s0), (0, .ref a_this), (1, .int 3), (2, .int J7_l2)]) hx hb dX5_product_48 rfl hl (Nat.le_of_ble_eq_true rfl) rfl (fun ls hl => ?_)
            refine lv_aload_n hx hb dX5_product_49 rfl (lv_at hl 1 rfl) ?_
            refine lv_aload_n hx hb dX5_product_50 rfl (lv_at hl 1 rfl) ?_
            refine k_get C0 fg_X5_18 hP 0 rfl rfl dX5_product_51 ?_
            refine k_jvm hP hD hS hA [0, 1] [false, false, true, true] rfl rfl rfl 0 0 (Nat.le_of_ble_eq_true rfl) (Nat.le_of_ble_eq_true rfl) (fun hPc hDc => k_runV (As := [.int J7_c0_3]) (rest := []) C0 hZ hS hA (s_X5_moveTo l dC dI cy sq a_this a_this_text g_this_text x_this_length J7_c0_2 J7_c0_3 J7_c0_4 x_this_allowed a_this_plan J7_c0_7 J7_c0_8 J7_c0_3 hg_this_text (ib_w 0 1600 hx_this_length rfl) (ib_w 0 1600 hK48_J7_c0_3 rfl)) mV_X5_86 hPc hDc rfl rfl rfl hl rfl rfl (Nat.le_of_ble_eq_true rfl) ⟨(Nat.le_of_ble_eq_true rfl), (Nat.le_of_ble_eq_true rfl)⟩ ⟨(Nat.le_of_ble_eq_true rfl), (Nat.le_of_ble_eq_true rfl)⟩ dX5_product_54) (fun u2 H locs hw hP hD hS => ?_)
            obtain ⟨v3, v4, v5⟩ := u2
            try dsimp only at hP hD hw
            replace hP : va_P (dC, dI) vwCl [(wo_4_iiiiiiirrrirrrrrir a_this_plan x_this_plan_cycle x_this_plan_green x_this_plan_rule x_this_plan_least x_this_plan_away x_this_plan_statements x_this_plan_kinds a_this_plan_calm a_this_plan_pace a_this_plan_trusts x_this_plan_walkers a_this_plan_kindOf a_this_plan_comesAt a_this_plan_comers a_this_plan_names a_this_plan_code J7_c2_16 a_this_plan_spans), (wi_0_1600_0 a_this_plan_code cy J7_a3), (wo_5_riiiiirii a_this a_this_text x_this_length v3 v4 v5 x_this_allowed a_this_plan J7_c0_7 J7_c0_8), (wi_0_1600_0 a_this_text cy g_this_text)] H := hP
            replace hD := k_D hP hD
            obtain ⟨h6, h7, h8, h9, h10⟩ := hw
            replace hq := lf_p1 hq h10
            replace hq := lf_p1 hq rfl
            refine lv_aload_n hx hb dX5_product_57 rfl (lv_at hl 1 rfl) ?_
            refine lv_iload_n hx hb dX5_product_58 rfl (lv_at hl 2 rfl) ?_
            refine k_jvm hP hD hS hA [2, 3, 0, 1] [] rfl rfl rfl 0 0 (Nat.le_of_ble_eq_true rfl) (Nat.le_of_ble_eq_true rfl) (fun hPc hDc => k_runV (As := [.int 3]) (rest := []) C0 hZ hS hA (s_X5_part_a0_3 l dC dI cy sq a_this a_this_text g_this_text x_this_length v3 v4 v5 x_this_allowed a_this_plan x_this_plan_cycle x_this_plan_green x_this_plan_rule x_this_plan_least x_this_plan_away x_this_plan_statements x_this_plan_kinds a_this_plan_calm a_this_plan_pace a_this_plan_trusts x_this_plan_walkers a_this_plan_kindOf a_this_plan_comesAt a_this_plan_comers a_this_plan_names a_this_plan_code J7_a3 J7_c2_16 a_this_plan_spans J7_c0_7 J7_c0_8 hg_this_text (ib_w 0 1600 hx_this_length rfl) (ib_w 0 1600 h6 rfl) (ib_w 0 1600 h7 rfl) (ib_w 0 4 h8 rfl) (ib_w 0 1600 hK48_J7_c2_16 rfl) (fun hq9 => ib_w 0 1599 (h9 hq9) rfl)) mV_X5_225 hPc hDc rfl rfl rfl hl rfl rfl (Nat.le_of_ble_eq_true rfl) ⟨(Nat.le_of_ble_eq_true rfl), (Nat.le_of_ble_eq_true rfl)⟩ ⟨(Nat.le_of_ble_eq_true rfl), (Nat.le_of_ble_eq_true rfl)⟩ dX5_product_59) (fun u12 H locs hw hP hD hS => ?_)
            obtain ⟨v13, v14, v15, v16, v17, v18, f19⟩ := u12
            try dsimp only at hP hD hw
            replace hP : va_P (dC, dI) vwCl [(wo_5_riiiiirii a_this a_this_text x_this_length v13 v14 v15 x_this_allowed a_this_plan v16 v17), (wi_0_1600_0 a_this_text cy g_this_text), (wo_4_iiiiiiirrrirrrrrir a_this_plan x_this_plan_cycle x_this_plan_green x_this_plan_rule x_this_plan_least x_this_plan_away x_this_plan_statements x_this_plan_kinds a_this_plan_calm a_this_plan_pace a_this_plan_trusts x_this_plan_walkers a_this_plan_kindOf a_this_plan_comesAt a_this_plan_comers a_this_plan_names a_this_plan_code v18 a_this_plan_spans), (wi_0_1600_0 a_this_plan_code cy f19)] H := hP
            replace hD := k_D hP hD
            obtain ⟨h20, h21, h22, h23, h24, h25⟩ := hw
            replace hq := lf_p1 hq h25
            replace hq := lf_p1 hq rfl
            replace hq := lf_p1 hq rfl
            replace hq := lf_p1 hq rfl
            replace hq := lf_p1 hq rfl
            replace hq := lf_p1 hq rfl
            refine lv_aload_n hx hb dX5_product_62 rfl (lv_at hl 1 rfl) ?_
            refine lv_iload_n hx hb dX5_product_63 rfl (lv_at hl 0 rfl) ?_
            refine k_jvm hP hD hS hA [0, 2, 3] [false, true] rfl rfl rfl 0 0 (Nat.le_of_ble_eq_true rfl) (Nat.le_of_ble_eq_true rfl) (fun hPc hDc => k_runV (As := [.int J48_s0]) (rest := []) C0 hZ hS hA (s_X5_emit l dC dI cy sq a_this a_this_text x_this_length v13 v14 v15 x_this_allowed a_this_plan x_this_plan_cycle x_this_plan_green x_this_plan_rule x_this_plan_least x_this_plan_away x_this_plan_statements x_this_plan_kinds a_this_plan_calm a_this_plan_pace a_this_plan_trusts x_this_plan_walkers a_this_plan_kindOf a_this_plan_comesAt a_this_plan_comers a_this_plan_names a_this_plan_code f19 v18 a_this_plan_spans v16 v17 J48_s0 (ib_w 0 1600 h23 rfl)) mV_X5_199 hPc hDc rfl rfl rfl hl rfl rfl (Nat.le_of_ble_eq_true rfl) ⟨(Nat.le_of_ble_eq_true rfl), (Nat.le_of_ble_eq_true rfl)⟩ ⟨(Nat.le_of_ble_eq_true rfl), (Nat.le_of_ble_eq_true rfl)⟩ dX5_product_64) (fun u27 H locs hw hP hD hS => ?_)
            obtain ⟨v28, f29⟩ := u27
            try dsimp only at hP hD hw
            replace hP : va_P (dC, dI) vwCl [(wi_0_1600_0 a_this_text cy g_this_text), (wo_5_riiiiirii a_this a_this_text x_this_length v13 v14 v15 x_this_allowed a_this_plan v16 v17), (wo_4_iiiiiiirrrirrrrrir a_this_plan x_this_plan_cycle x_this_plan_green x_this_plan_rule x_this_plan_least x_this_plan_away x_this_plan_statements x_this_plan_kinds a_this_plan_calm a_this_plan_pace a_this_plan_trusts x_this_plan_walkers a_this_plan_kindOf a_this_plan_comesAt a_this_plan_comers a_this_plan_names a_this_plan_code v28 a_this_plan_spans), (wi_0_1600_0 a_this_plan_code cy f29)] H := hP
            replace hD := k_D hP hD
            obtain ⟨h30, h31⟩ := hw
            replace hq := lf_p1 hq h31
            obtain ⟨z32, ez32⟩ : ∃ y : Int32, y = J7_l2 + 1 := ⟨_, rfl⟩
            refine lv_iinc (v := z32) (lv' := [(2, .int z32), (3, .int J48_s0), (0, .ref a_this), (1, .int 3)]) hx hb dX5_product_67 hl (k := 3) rfl (by rw [ez32]; rfl) (Nat.le_of_ble_eq_true rfl) rfl (fun ls hl => ?_)
            have h33 := ib_add hK48_J7_l2 (ib_c 1 1 1 rfl) rfl
            rw [← ez32] at h33
            have h34 : ib z32 1 1600 := ib_w 1 1600 h33.1 rfl
            have Ez32 := lf_add h33.2 (lf_rf J7_l2) (lf_lc 1 (1 : Int) rfl)
            refine lv_goto (tgt := 7) hx hb dX5_product_70 rfl ?_
            exact ih7 v13 v14 v15 v16 v17 v28 f29 z32 H locs ls (ib_w 0 1600 h20 rfl) (ib_w 0 1600 h21 rfl) (ib_w 0 4 h22 rfl) (ib_w 0 1600 h30 rfl) (ib_w 0 1600 h34 rfl) (fun hq9 => ib_w 0 1599 (h24 hq9) rfl) (by rw [← hK7]; rw [lf_u Ez32]; exact hq) (by have := h33.2; have : (1 : Int32).toInt = 1 := rfl; omega) (hP.sub [1, 0, 2, 3] rfl) (hD.sub [1, 0, 2, 3] rfl rfl) hS (lv_sub hl [2, 3, 0] rfl)
        have jn32 : ∀  (H : Heap) (locs : List Loc) (ls : Array Slot), ib J7_l2 0 1599 → ib J7_c0_2 0 1599 → ib J7_c0_3 0 1600 → ib J7_c0_4 3 3 → ib J7_c2_16 0 1600 → (O = F_X5_product_a0_3_32 (lf_A g_this_text) (Int32.toInt x_this_length) (Int32.toInt x_this_allowed) (Int32.toInt J7_c0_2) (Int32.toInt J7_c0_3) (Int32.toInt J7_c0_4) (Int32.toInt J7_c0_7) (Int32.toInt J7_c0_8) (Int32.toInt J7_c2_16) (lf_A J7_a3) (Int32.toInt J7_l2) K7 ) → va_P (dC, dI) vwCl [(wo_5_riiiiirii a_this a_this_text x_this_length J7_c0_2 J7_c0_3 J7_c0_4 x_this_allowed a_this_plan J7_c0_7 J7_c0_8), (wi_0_1600_0 a_this_text cy g_this_text), (wo_4_iiiiiiirrrirrrrrir a_this_plan x_this_plan_cycle x_this_plan_green x_this_plan_rule x_this_plan_least x_this_plan_away x_this_plan_statements x_this_plan_kinds a_this_plan_calm a_this_plan_pace a_this_plan_trusts x_this_plan_walkers a_this_plan_kindOf a_this_plan_comesAt a_this_plan_comers a_this_plan_names a_this_plan_code J7_c2_16 a_this_plan_spans), (wi_0_1600_0 a_this_plan_code cy J7_a3)] H → va_D A [(wo_5_riiiiirii a_this a_this_text x_this_length J7_c0_2 J7_c0_3 J7_c0_4 x_this_allowed a_this_plan J7_c0_7 J7_c0_8), (wi_0_1600_0 a_this_text cy g_this_text), (wo_4_iiiiiiirrrirrrrrir a_this_plan x_this_plan_cycle x_this_plan_green x_this_plan_rule x_this_plan_least x_this_plan_away x_this_plan_statements x_this_plan_kinds a_this_plan_calm a_this_plan_pace a_this_plan_trusts x_this_plan_walkers a_this_plan_kindOf a_this_plan_comesAt a_this_plan_comers a_this_plan_names a_this_plan_code J7_c2_16 a_this_plan_spans), (wi_0_1600_0 a_this_plan_code cy J7_a3)] → va_S A s.heap H locs → lv_has ls 4 [(0, .ref a_this), (1, .int 3), (2, .int J7_l2)] → W p l e { frames := 19, cells := 0, slots := 0, locals := 476 } s m args below meth c H locs 0 0 Q (F0 m 32 ls []) := by
          as_aux_lemma =>
            intro H locs ls hK32_J7_l2 hK32_J7_c0_2 hK32_J7_c0_3 hK32_J7_c0_4 hK32_J7_c2_16 hq hP hD hS hl
            unfold F_X5_product_a0_3_32 at hq
            refine lv_aload_n hx hb dX5_product_32 rfl (lv_at hl 0 rfl) ?_
            refine lv_bipush (v := 42) hx hb dX5_product_33 rfl ?_
            refine k_jim hP hD hS hA [0, 1] [false, false, true, true] rfl rfl rfl 0 0 (Nat.le_of_ble_eq_true rfl) (Nat.le_of_ble_eq_true rfl) (fun hPc hDc => k_runV (As := [.int 42]) (rest := []) C0 hZ hS hA (s_X5_sees l dC dI cy sq a_this a_this_text g_this_text x_this_length J7_c0_2 J7_c0_3 J7_c0_4 x_this_allowed a_this_plan J7_c0_7 J7_c0_8 42 hg_this_text (ib_w 0 1600 hK32_J7_c0_2 rfl) (ib_w 0 4 hK32_J7_c0_4 rfl) (fun _ => ib_w 0 1599 hK32_J7_c0_2 rfl)) mV_X5_213 hPc hDc rfl rfl rfl hl rfl rfl (Nat.le_of_ble_eq_true rfl) ⟨(Nat.le_of_ble_eq_true rfl), (Nat.le_of_ble_eq_true rfl)⟩ ⟨(Nat.le_of_ble_eq_true rfl), (Nat.le_of_ble_eq_true rfl)⟩ dX5_product_35) (fun r35 u36 H locs hw hP hD hS => ?_)
            try dsimp only at hP hD hw
            replace hP : va_P (dC, dI) vwCl [(wo_4_iiiiiiirrrirrrrrir a_this_plan x_this_plan_cycle x_this_plan_green x_this_plan_rule x_this_plan_least x_this_plan_away x_this_plan_statements x_this_plan_kinds a_this_plan_calm a_this_plan_pace a_this_plan_trusts x_this_plan_walkers a_this_plan_kindOf a_this_plan_comesAt a_this_plan_comers a_this_plan_names a_this_plan_code J7_c2_16 a_this_plan_spans), (wi_0_1600_0 a_this_plan_code cy J7_a3), (wo_5_riiiiirii a_this a_this_text x_this_length J7_c0_2 J7_c0_3 J7_c0_4 x_this_allowed a_this_plan J7_c0_7 J7_c0_8), (wi_0_1600_0 a_this_text cy g_this_text)] H := hP
            replace hD := k_D hP hD
            obtain ⟨h37, h38, h39, h40, h41⟩ := hw
            have h41 := by have h9 := h41; try simp only [show (42 : Int32).toInt = (42 : Int) from rfl] at h9; exact h9
            replace hq := lf_b1 hq h41
            refine lv_if_eq (tgt := 46) hx hb dX5_product_38 rfl (fun c42 => ?_) (fun c42 => ?_)
            · replace hq := lf_pos hq (lf_eq (lf_rf r35) (lf_lc 0 (0 : Int) rfl) c42)
              have h43 := ib_eq h37 (ib_c 0 0 0 rfl) c42
              have h44 : ib r35 0 0 := ib_w 0 0 h43.1 rfl
              refine lv_bipush (v := (-23)) hx hb dX5_product_46 rfl ?_
              exact jn48 (-23) H locs ls (ib_w 0 1599 hK32_J7_l2 rfl) (ib_w 0 1599 hK32_J7_c0_2 rfl) (ib_w 0 1600 hK32_J7_c0_3 rfl) (ib_w 3 3 hK32_J7_c0_4 rfl) (ib_w 0 1600 hK32_J7_c2_16 rfl) (ib_w (-23) (-22) (ib_c (-23) (-23) (-23) rfl) rfl) (by try simp only [show ((-23) : Int32).toInt = (-23 : Int) from rfl]; exact hq) (hP.sub [2, 3, 0, 1] rfl) (hD.sub [2, 3, 0, 1] rfl rfl) hS (lv_sub hl [0, 1, 2] rfl)
            · replace hq := lf_neg hq (lf_ne (lf_rf r35) (lf_lc 0 (0 : Int) rfl) c42)
              have h45 : ib r35 1 1 := ib_w 1 1 (ib_ne_lo 0 h37 rfl c42) rfl
              refine lv_bipush (v := (-22)) hx hb dX5_product_41 rfl ?_
              refine lv_goto (tgt := 48) hx hb dX5_product_43 rfl ?_
              exact jn48 (-22) H locs ls (ib_w 0 1599 hK32_J7_l2 rfl) (ib_w 0 1599 hK32_J7_c0_2 rfl) (ib_w 0 1600 hK32_J7_c0_3 rfl) (ib_w 3 3 hK32_J7_c0_4 rfl) (ib_w 0 1600 hK32_J7_c2_16 rfl) (ib_w (-23) (-22) (ib_c (-22) (-22) (-22) rfl) rfl) (by try simp only [show ((-22) : Int32).toInt = (-22 : Int) from rfl]; exact hq) (hP.sub [2, 3, 0, 1] rfl) (hD.sub [2, 3, 0, 1] rfl rfl) hS (lv_sub hl [0, 1, 2] rfl)
        refine lv_iload_n hx hb dX5_product_7 rfl (lv_at hl 2 rfl) ?_
        refine lv_sipush (v := 1600) hx hb dX5_product_8 rfl ?_
        refine lv_icmp_ge (tgt := 73) hx hb dX5_product_11 rfl (fun c46 => ?_) (fun c46 => ?_)
        · replace hq := lf_pos hq (lf_le (lf_lc 1600 (1600 : Int) rfl) (lf_rf J7_l2) c46)
          have h47 := ib_le (ib_c 1600 1600 1600 rfl) hJ7_l2 c46
          have h48 : ib J7_l2 1600 1600 := ib_w 1600 1600 h47.2 rfl
          subst hQ; exact k_vret hx hb hr hlk ((J7_c0_2, J7_c0_3, J7_c0_4, J7_c0_7, J7_c0_8, J7_c2_16, J7_a3)) hS ⟨ib_w 0 1600 hJ7_c0_2 rfl, ib_w 0 1600 hJ7_c0_3 rfl, ib_w 0 4 hJ7_c0_4 rfl, ib_w 0 1600 hJ7_c2_16 rfl, fun hq9 => ib_w 0 1599 (hJ7_ic0_0 hq9) rfl, (hO.symm.trans (by exact hq))⟩ hP hD (Nat.le_of_ble_eq_true rfl) (Nat.le_of_ble_eq_true rfl) dX5_product_73
        · as_aux_lemma =>
            replace hq := lf_neg hq (lf_nle (lf_lc 1600 (1600 : Int) rfl) (lf_rf J7_l2) c46)
            have h49 := ib_nle (ib_c 1600 1600 1600 rfl) hJ7_l2 c46
            have h50 : ib J7_l2 0 1599 := ib_w 0 1599 h49.2 rfl
            refine lv_aload_n hx hb dX5_product_14 rfl (lv_at hl 0 rfl) ?_
            refine lv_bipush (v := 42) hx hb dX5_product_15 rfl ?_
            refine k_jim hP hD hS hA [0, 1] [false, false, true, true] rfl rfl rfl 0 0 (Nat.le_of_ble_eq_true rfl) (Nat.le_of_ble_eq_true rfl) (fun hPc hDc => k_runV (As := [.int 42]) (rest := []) C0 hZ hS hA (s_X5_sees l dC dI cy sq a_this a_this_text g_this_text x_this_length J7_c0_2 J7_c0_3 J7_c0_4 x_this_allowed a_this_plan J7_c0_7 J7_c0_8 42 hg_this_text (ib_w 0 1600 hJ7_c0_2 rfl) (ib_w 0 4 hJ7_c0_4 rfl) (fun hq9 => ib_w 0 1599 (hJ7_ic0_0 hq9) rfl)) mV_X5_213 hPc hDc rfl rfl rfl hl rfl rfl (Nat.le_of_ble_eq_true rfl) ⟨(Nat.le_of_ble_eq_true rfl), (Nat.le_of_ble_eq_true rfl)⟩ ⟨(Nat.le_of_ble_eq_true rfl), (Nat.le_of_ble_eq_true rfl)⟩ dX5_product_17) (fun r51 u52 H locs hw hP hD hS => ?_)
            try dsimp only at hP hD hw
            replace hP : va_P (dC, dI) vwCl [(wo_4_iiiiiiirrrirrrrrir a_this_plan x_this_plan_cycle x_this_plan_green x_this_plan_rule x_this_plan_least x_this_plan_away x_this_plan_statements x_this_plan_kinds a_this_plan_calm a_this_plan_pace a_this_plan_trusts x_this_plan_walkers a_this_plan_kindOf a_this_plan_comesAt a_this_plan_comers a_this_plan_names a_this_plan_code J7_c2_16 a_this_plan_spans), (wi_0_1600_0 a_this_plan_code cy J7_a3), (wo_5_riiiiirii a_this a_this_text x_this_length J7_c0_2 J7_c0_3 J7_c0_4 x_this_allowed a_this_plan J7_c0_7 J7_c0_8), (wi_0_1600_0 a_this_text cy g_this_text)] H := hP
            replace hD := k_D hP hD
            obtain ⟨h53, h54, h55, h56, h57⟩ := hw
            have h57 := by have h9 := h57; try simp only [show (42 : Int32).toInt = (42 : Int) from rfl] at h9; exact h9
            replace hq := lf_b1 hq h57
            refine lv_if_ne (tgt := 32) hx hb dX5_product_20 rfl (fun c58 => ?_) (fun c58 => ?_)
            · replace hq := lf_neg hq (lf_ne (lf_rf r51) (lf_lc 0 (0 : Int) rfl) c58)
              have h59 : ib r51 1 1 := ib_w 1 1 (ib_ne_lo 0 h53 rfl c58) rfl
              have h60 : ib J7_c0_2 0 1599 := ib_w 0 1599 (ib_two hJ7_c0_2 (h54 c58)) rfl
              have h61 : ib J7_c0_4 3 3 := ib_w 3 3 (ib_two hJ7_c0_4 (h55 c58)) rfl
              exact jn32  H locs ls (ib_w 0 1599 h50 rfl) (ib_w 0 1599 h60 rfl) (ib_w 0 1600 hJ7_c0_3 rfl) (ib_w 3 3 h61 rfl) (ib_w 0 1600 hJ7_c2_16 rfl) (by exact hq) (hP.sub [2, 3, 0, 1] rfl) (hD.sub [2, 3, 0, 1] rfl rfl) hS (lv_sub hl [0, 1, 2] rfl)
            · as_aux_lemma =>
                replace hq := lf_pos hq (lf_eq (lf_rf r51) (lf_lc 0 (0 : Int) rfl) c58)
                have h62 := ib_eq h53 (ib_c 0 0 0 rfl) c58
                have h63 : ib r51 0 0 := ib_w 0 0 h62.1 rfl
                refine lv_aload_n hx hb dX5_product_23 rfl (lv_at hl 0 rfl) ?_
                refine lv_bipush (v := 47) hx hb dX5_product_24 rfl ?_
                refine k_jim hP hD hS hA [2, 3] [true, true] rfl rfl rfl 0 0 (Nat.le_of_ble_eq_true rfl) (Nat.le_of_ble_eq_true rfl) (fun hPc hDc => k_runV (As := [.int 47]) (rest := []) C0 hZ hS hA (s_X5_sees l dC dI cy sq a_this a_this_text g_this_text x_this_length J7_c0_2 J7_c0_3 J7_c0_4 x_this_allowed a_this_plan J7_c0_7 J7_c0_8 47 hg_this_text (ib_w 0 1600 hJ7_c0_2 rfl) (ib_w 0 4 hJ7_c0_4 rfl) (fun hq9 => ib_w 0 1599 (hJ7_ic0_0 hq9) rfl)) mV_X5_213 hPc hDc rfl rfl rfl hl rfl rfl (Nat.le_of_ble_eq_true rfl) ⟨(Nat.le_of_ble_eq_true rfl), (Nat.le_of_ble_eq_true rfl)⟩ ⟨(Nat.le_of_ble_eq_true rfl), (Nat.le_of_ble_eq_true rfl)⟩ dX5_product_26) (fun r64 u65 H locs hw hP hD hS => ?_)
                try dsimp only at hP hD hw
                replace hP : va_P (dC, dI) vwCl [(wo_4_iiiiiiirrrirrrrrir a_this_plan x_this_plan_cycle x_this_plan_green x_this_plan_rule x_this_plan_least x_this_plan_away x_this_plan_statements x_this_plan_kinds a_this_plan_calm a_this_plan_pace a_this_plan_trusts x_this_plan_walkers a_this_plan_kindOf a_this_plan_comesAt a_this_plan_comers a_this_plan_names a_this_plan_code J7_c2_16 a_this_plan_spans), (wi_0_1600_0 a_this_plan_code cy J7_a3), (wo_5_riiiiirii a_this a_this_text x_this_length J7_c0_2 J7_c0_3 J7_c0_4 x_this_allowed a_this_plan J7_c0_7 J7_c0_8), (wi_0_1600_0 a_this_text cy g_this_text)] H := hP
                replace hD := k_D hP hD
                obtain ⟨h66, h67, h68, h69, h70⟩ := hw
                have h70 := by have h9 := h70; try simp only [show (47 : Int32).toInt = (47 : Int) from rfl] at h9; exact h9
                replace hq := lf_b1 hq h70
                refine lv_if_eq (tgt := 73) hx hb dX5_product_29 rfl (fun c71 => ?_) (fun c71 => ?_)
                · replace hq := lf_pos hq (lf_eq (lf_rf r64) (lf_lc 0 (0 : Int) rfl) c71)
                  have h72 := ib_eq h66 (ib_c 0 0 0 rfl) c71
                  have h73 : ib r64 0 0 := ib_w 0 0 h72.1 rfl
                  subst hQ; exact k_vret hx hb hr hlk ((J7_c0_2, J7_c0_3, J7_c0_4, J7_c0_7, J7_c0_8, J7_c2_16, J7_a3)) hS ⟨ib_w 0 1600 hJ7_c0_2 rfl, ib_w 0 1600 hJ7_c0_3 rfl, ib_w 0 4 hJ7_c0_4 rfl, ib_w 0 1600 hJ7_c2_16 rfl, fun hq9 => ib_w 0 1599 (hJ7_ic0_0 hq9) rfl, (hO.symm.trans (by exact hq))⟩ (hP.sub [2, 3, 0, 1] rfl) (hD.sub [2, 3, 0, 1] rfl rfl) (Nat.le_of_ble_eq_true rfl) (Nat.le_of_ble_eq_true rfl) dX5_product_73
                · replace hq := lf_neg hq (lf_ne (lf_rf r64) (lf_lc 0 (0 : Int) rfl) c71)
                  have h74 : ib r64 1 1 := ib_w 1 1 (ib_ne_lo 0 h66 rfl c71) rfl
                  have h75 : ib J7_c0_2 0 1599 := ib_w 0 1599 (ib_two hJ7_c0_2 (h67 c71)) rfl
                  have h76 : ib J7_c0_4 3 3 := ib_w 3 3 (ib_two hJ7_c0_4 (h68 c71)) rfl
                  exact jn32  H locs ls (ib_w 0 1599 h50 rfl) (ib_w 0 1599 h75 rfl) (ib_w 0 1600 hJ7_c0_3 rfl) (ib_w 3 3 h76 rfl) (ib_w 0 1600 hJ7_c2_16 rfl) (by exact hq) (hP.sub [2, 3, 0, 1] rfl) (hD.sub [2, 3, 0, 1] rfl rfl) hS (lv_sub hl [0, 1, 2] rfl)
  refine lv_aload_n hx hb dX5_product_0 rfl (lv_at hl 0 rfl) ?_
  refine lv_iload_n hx hb dX5_product_1 rfl (lv_at hl 1 rfl) ?_
  refine k_jvm hP hD hS hA [0, 1, 2, 3] [] rfl rfl rfl 0 0 (Nat.le_of_ble_eq_true rfl) (Nat.le_of_ble_eq_true rfl) (fun hPc hDc => k_runV (As := [.int 3]) (rest := []) C0 hZ hS hA (s_X5_part_a0_3 l dC dI cy sq a_this a_this_text g_this_text x_this_length x_this_at x_this_behind x_this_sort x_this_allowed a_this_plan x_this_plan_cycle x_this_plan_green x_this_plan_rule x_this_plan_least x_this_plan_away x_this_plan_statements x_this_plan_kinds a_this_plan_calm a_this_plan_pace a_this_plan_trusts x_this_plan_walkers a_this_plan_kindOf a_this_plan_comesAt a_this_plan_comers a_this_plan_names a_this_plan_code g_this_plan_code x_this_plan_size a_this_plan_spans x_this_fault x_this_place hg_this_text (ib_w 0 1600 hx_this_length rfl) (ib_w 0 1600 hx_this_at rfl) (ib_w 0 1600 hx_this_behind rfl) (ib_w 0 4 hx_this_sort rfl) (ib_w 0 1600 hx_this_plan_size rfl) (fun hq9 => ib_w 0 1599 (hc0_this hq9) rfl)) mV_X5_225 hPc hDc rfl rfl rfl hl rfl rfl (Nat.le_of_ble_eq_true rfl) ⟨(Nat.le_of_ble_eq_true rfl), (Nat.le_of_ble_eq_true rfl)⟩ ⟨(Nat.le_of_ble_eq_true rfl), (Nat.le_of_ble_eq_true rfl)⟩ dX5_product_2) (fun u78 H locs hw hP hD hS => ?_)
  obtain ⟨v79, v80, v81, v82, v83, v84, f85⟩ := u78
  try dsimp only at hP hD hw
  replace hP : va_P (dC, dI) vwCl [(wo_5_riiiiirii a_this a_this_text x_this_length v79 v80 v81 x_this_allowed a_this_plan v82 v83), (wi_0_1600_0 a_this_text cy g_this_text), (wo_4_iiiiiiirrrirrrrrir a_this_plan x_this_plan_cycle x_this_plan_green x_this_plan_rule x_this_plan_least x_this_plan_away x_this_plan_statements x_this_plan_kinds a_this_plan_calm a_this_plan_pace a_this_plan_trusts x_this_plan_walkers a_this_plan_kindOf a_this_plan_comesAt a_this_plan_comers a_this_plan_names a_this_plan_code v84 a_this_plan_spans), (wi_0_1600_0 a_this_plan_code cy f85)] H := hP
  replace hD := k_D hP hD
  obtain ⟨h86, h87, h88, h89, h90, h91⟩ := hw
  replace hq := lf_p1 hq h91
  replace hq := lf_p1 hq rfl
  replace hq := lf_p1 hq rfl
  replace hq := lf_p1 hq rfl
  replace hq := lf_p1 hq rfl
  replace hq := lf_p1 hq rfl
  refine lv_iconst (v := 0) hx hb dX5_product_5 rfl ?_
  refine lv_istore_n (lv' := [(2, .int 0), (0, .ref a_this), (1, .int 3)]) hx hb dX5_product_6 rfl hl (Nat.le_of_ble_eq_true rfl) rfl (fun ls hl => ?_)
  exact jn7 1602 v79 v80 v81 v82 v83 v84 f85 0 H locs ls (ib_w 0 1600 h86 rfl) (ib_w 0 1600 h87 rfl) (ib_w 0 4 h88 rfl) (ib_w 0 1600 h89 rfl) (ib_w 0 1600 (ib_c 0 0 0 rfl) rfl) (fun hq9 => ib_w 0 1599 (h90 hq9) rfl) (by try simp only [show (0 : Int32).toInt = (0 : Int) from rfl]; exact hq) (by have := (ib_c 0 0 0 rfl); unfold ib at this; omega) hP hD hS (lv_sub hl [1, 2, 0] rfl)
set_option maxHeartbeats 4000000 in
set_option maxRecDepth 100000 in
theorem s_X5_sum_a0_3 (l : Launch) (dC : Nat → ClassId) (dI : Nat → Nat → Nat) (cy : Nat → ClassId) (sq : Nat → Nat) (a_this : Nat) (a_this_text : Nat) (g_this_text : Nat → Int32) (x_this_length : Int32) (x_this_at : Int32) (x_this_behind : Int32) (x_this_sort : Int32) (x_this_allowed : Int32) (a_this_plan : Nat) (x_this_plan_cycle : Int32) (x_this_plan_green : Int32) (x_this_plan_rule : Int32) (x_this_plan_least : Int32) (x_this_plan_away : Int32) (x_this_plan_statements : Int32) (x_this_plan_kinds : Int32) (a_this_plan_calm : Nat) (a_this_plan_pace : Nat) (a_this_plan_trusts : Nat) (x_this_plan_walkers : Int32) (a_this_plan_kindOf : Nat) (a_this_plan_comesAt : Nat) (a_this_plan_comers : Nat) (a_this_plan_names : Nat) (a_this_plan_code : Nat) (g_this_plan_code : Nat → Int32) (x_this_plan_size : Int32) (a_this_plan_spans : Nat) (x_this_fault : Int32) (x_this_place : Int32) (hg_this_text : ia g_this_text 1600 0 255) (hx_this_length : ib x_this_length 0 1600) (hx_this_at : ib x_this_at 0 1600) (hx_this_behind : ib x_this_behind 0 1600) (hx_this_sort : ib x_this_sort 0 4) (hx_this_plan_size : ib x_this_plan_size 0 1600) (hc0_this : ¬ x_this_sort = 0 → ib x_this_at 0 1599) : k_Met l yX5_sum cX5_sum 4 none { frames := 20, cells := 0, slots := 0, locals := 499 } dC dI cy sq [.ref a_this, .int 3] [(wo_5_riiiiirii a_this a_this_text x_this_length x_this_at x_this_behind x_this_sort x_this_allowed a_this_plan x_this_fault x_this_place), (wi_0_1600_0 a_this_text cy g_this_text), (wo_4_iiiiiiirrrirrrrrir a_this_plan x_this_plan_cycle x_this_plan_green x_this_plan_rule x_this_plan_least x_this_plan_away x_this_plan_statements x_this_plan_kinds a_this_plan_calm a_this_plan_pace a_this_plan_trusts x_this_plan_walkers a_this_plan_kindOf a_this_plan_comesAt a_this_plan_comers a_this_plan_names a_this_plan_code x_this_plan_size a_this_plan_spans), (wi_0_1600_0 a_this_plan_code cy g_this_plan_code)] (k_Qv dC dI (fun (u : Int32 × Int32 × Int32 × Int32 × Int32 × Int32 × (Nat → Int32)) => match u with | (n0, n1, n2, n3, n4, n5, n6) => ib n0 0 1600 ∧ ib n1 0 1600 ∧ ib n2 0 4 ∧ ib n5 0 1600 ∧ (¬ n2 = 0 → ib n0 0 1599) ∧ (F_X5_sum_a0_3 (lf_A g_this_text) (Int32.toInt x_this_length) (Int32.toInt x_this_at) (Int32.toInt x_this_behind) (Int32.toInt x_this_sort) (Int32.toInt x_this_allowed) (lf_A g_this_plan_code) (Int32.toInt x_this_plan_size) (Int32.toInt x_this_fault) (Int32.toInt x_this_place) = ((Int32.toInt n0), (Int32.toInt n1), (Int32.toInt n2), (Int32.toInt n3), (Int32.toInt n4), (Int32.toInt n5), (lf_A n6)))) (fun u : Int32 × Int32 × Int32 × Int32 × Int32 × Int32 × (Nat → Int32) => match u with | (n0, n1, n2, n3, n4, n5, n6) => [(wo_5_riiiiirii a_this a_this_text x_this_length n0 n1 n2 x_this_allowed a_this_plan n3 n4), (wi_0_1600_0 a_this_text cy g_this_text), (wo_4_iiiiiiirrrirrrrrir a_this_plan x_this_plan_cycle x_this_plan_green x_this_plan_rule x_this_plan_least x_this_plan_away x_this_plan_statements x_this_plan_kinds a_this_plan_calm a_this_plan_pace a_this_plan_trusts x_this_plan_walkers a_this_plan_kindOf a_this_plan_comesAt a_this_plan_comers a_this_plan_names a_this_plan_code n5 a_this_plan_spans), (wi_0_1600_0 a_this_plan_code cy n6)])) := by
  refine k_ofW2 (by decide +kernel) (Nat.le_of_ble_eq_true rfl) ?_
  intro p e s m below meth c A ls H locs args Q hQ C0 hZ hr hlk hin hP hD hA hS hl
  have C0 : k_cx p s m args c cX5_sum 4 RX5 dC dI cy sq := C0
  have hx := C0.1
  have hb := C0.2.1
  have hl : lv_has ls 4 [(0, .ref a_this), (1, .int 3)] := hl
  obtain ⟨O, hO⟩ : ∃ o, o = F_X5_sum_a0_3 (lf_A g_this_text) (Int32.toInt x_this_length) (Int32.toInt x_this_at) (Int32.toInt x_this_behind) (Int32.toInt x_this_sort) (Int32.toInt x_this_allowed) (lf_A g_this_plan_code) (Int32.toInt x_this_plan_size) (Int32.toInt x_this_fault) (Int32.toInt x_this_place) := ⟨_, rfl⟩
  have hq := hO
  unfold F_X5_sum_a0_3 at hq
  have jn7 : ∀ (n : Nat) (J7_c0_2 : Int32) (J7_c0_3 : Int32) (J7_c0_4 : Int32) (J7_c0_7 : Int32) (J7_c0_8 : Int32) (J7_c2_16 : Int32) (J7_a3 : Nat → Int32) (J7_l2 : Int32) (H : Heap) (locs : List Loc) (ls : Array Slot), ib J7_c0_2 0 1600 → ib J7_c0_3 0 1600 → ib J7_c0_4 0 4 → ib J7_c2_16 0 1600 → ib J7_l2 0 1600 → (¬ J7_c0_4 = 0 → ib J7_c0_2 0 1599) → (O = F_X5_sum_a0_3_7 (lf_A g_this_text) (Int32.toInt x_this_length) (Int32.toInt x_this_allowed) n (Int32.toInt J7_c0_2) (Int32.toInt J7_c0_3) (Int32.toInt J7_c0_4) (Int32.toInt J7_c0_7) (Int32.toInt J7_c0_8) (Int32.toInt J7_c2_16) (lf_A J7_a3) (Int32.toInt J7_l2)) → 1601 ≤ J7_l2.toInt + (n : Int) → va_P (dC, dI) vwCl [(wo_5_riiiiirii a_this a_this_text x_this_length J7_c0_2 J7_c0_3 J7_c0_4 x_this_allowed a_this_plan J7_c0_7 J7_c0_8), (wi_0_1600_0 a_this_text cy g_this_text), (wo_4_iiiiiiirrrirrrrrir a_this_plan x_this_plan_cycle x_this_plan_green x_this_plan_rule x_this_plan_least x_this_plan_away x_this_plan_statements x_this_plan_kinds a_this_plan_calm a_this_plan_pace a_this_plan_trusts x_this_plan_walkers a_this_plan_kindOf a_this_plan_comesAt a_this_plan_comers a_this_plan_names a_this_plan_code J7_c2_16 a_this_plan_spans), (wi_0_1600_0 a_this_plan_code cy J7_a3)] H → va_D A [(wo_5_riiiiirii a_this a_this_text x_this_length J7_c0_2 J7_c0_3 J7_c0_4 x_this_allowed a_this_plan J7_c0_7 J7_c0_8), (wi_0_1600_0 a_this_text cy g_this_text), (wo_4_iiiiiiirrrirrrrrir a_this_plan x_this_plan_cycle x_this_plan_green x_this_plan_rule x_this_plan_least x_this_plan_away x_this_plan_statements x_this_plan_kinds a_this_plan_calm a_this_plan_pace a_this_plan_trusts x_this_plan_walkers a_this_plan_kindOf a_this_plan_comesAt a_this_plan_comers a_this_plan_names a_this_plan_code J7_c2_16 a_this_plan_spans), (wi_0_1600_0 a_this_plan_code cy J7_a3)] → va_S A s.heap H locs → lv_has ls 4 [(0, .ref a_this), (1, .int 3), (2, .int J7_l2)] → W p l e { frames := 20, cells := 0, slots := 0, locals := 499 } s m args below meth c H locs 0 0 Q (F0 m 7 ls []) := by
    as_aux_lemma =>
      intro n
      induction n with
      | zero =>
        intro J7_c0_2 J7_c0_3 J7_c0_4 J7_c0_7 J7_c0_8 J7_c2_16 J7_a3 J7_l2 H locs ls hJ7_c0_2 hJ7_c0_3 hJ7_c0_4 hJ7_c2_16 hJ7_l2 hJ7_ic0_0 hq hm
        exact absurd hm (by have := hJ7_l2; unfold ib at this; omega)
      | succ n ih =>
        intro J7_c0_2 J7_c0_3 J7_c0_4 J7_c0_7 J7_c0_8 J7_c2_16 J7_a3 J7_l2 H locs ls hJ7_c0_2 hJ7_c0_3 hJ7_c0_4 hJ7_c2_16 hJ7_l2 hJ7_ic0_0 hq hm7 hP hD hS hl
        have ih7 := ih
        obtain ⟨K7, hK7⟩ : ∃ K, K = F_X5_sum_a0_3_7 (lf_A g_this_text) (Int32.toInt x_this_length) (Int32.toInt x_this_allowed) n := ⟨_, rfl⟩
        have hq : O = F_X5_sum_a0_3_7b (lf_A g_this_text) (Int32.toInt x_this_length) (Int32.toInt x_this_allowed) K7 (Int32.toInt J7_c0_2) (Int32.toInt J7_c0_3) (Int32.toInt J7_c0_4) (Int32.toInt J7_c0_7) (Int32.toInt J7_c0_8) (Int32.toInt J7_c2_16) (lf_A J7_a3) (Int32.toInt J7_l2) := by rw [hK7]; exact hq
        unfold F_X5_sum_a0_3_7b at hq
        have jn48 : ∀ (J48_s0 : Int32) (H : Heap) (locs : List Loc) (ls : Array Slot), ib J7_l2 0 1599 → ib J7_c0_2 0 1599 → ib J7_c0_3 0 1600 → ib J7_c0_4 3 3 → ib J7_c2_16 0 1600 → ib J48_s0 (-21) (-20) → (O = F_X5_sum_a0_3_48 (lf_A g_this_text) (Int32.toInt x_this_length) (Int32.toInt x_this_allowed) (Int32.toInt J7_c0_3) (Int32.toInt J7_c0_7) (Int32.toInt J7_c0_8) (Int32.toInt J7_c2_16) (lf_A J7_a3) (Int32.toInt J7_l2) K7 (Int32.toInt J48_s0)) → va_P (dC, dI) vwCl [(wo_5_riiiiirii a_this a_this_text x_this_length J7_c0_2 J7_c0_3 J7_c0_4 x_this_allowed a_this_plan J7_c0_7 J7_c0_8), (wi_0_1600_0 a_this_text cy g_this_text), (wo_4_iiiiiiirrrirrrrrir a_this_plan x_this_plan_cycle x_this_plan_green x_this_plan_rule x_this_plan_least x_this_plan_away x_this_plan_statements x_this_plan_kinds a_this_plan_calm a_this_plan_pace a_this_plan_trusts x_this_plan_walkers a_this_plan_kindOf a_this_plan_comesAt a_this_plan_comers a_this_plan_names a_this_plan_code J7_c2_16 a_this_plan_spans), (wi_0_1600_0 a_this_plan_code cy J7_a3)] H → va_D A [(wo_5_riiiiirii a_this a_this_text x_this_length J7_c0_2 J7_c0_3 J7_c0_4 x_this_allowed a_this_plan J7_c0_7 J7_c0_8), (wi_0_1600_0 a_this_text cy g_this_text), (wo_4_iiiiiiirrrirrrrrir a_this_plan x_this_plan_cycle x_this_plan_green x_this_plan_rule x_this_plan_least x_this_plan_away x_this_plan_statements x_this_plan_kinds a_this_plan_calm a_this_plan_pace a_this_plan_trusts x_this_plan_walkers a_this_plan_kindOf a_this_plan_comesAt a_this_plan_comers a_this_plan_names a_this_plan_code J7_c2_16 a_this_plan_spans), (wi_0_1600_0 a_this_plan_code cy J7_a3)] → va_S A s.heap H locs → lv_has ls 4 [(0, .ref a_this), (1, .int 3), (2, .int J7_l2)] → W p l e { frames := 20, cells := 0, slots := 0, locals := 499 } s m args below meth c H locs 0 0 Q (F0 m 48 ls [.int J48_s0]) := by
          as_aux_lemma =>
            intro J48_s0 H locs ls hK48_J7_l2 hK48_J7_c0_2 hK48_J7_c0_3 hK48_J7_c0_4 hK48_J7_c2_16 hJ48_s0 hq hP hD hS hl
            unfold F_X5_sum_a0_3_48 at hq
            refine lv_istore_n (lv' := [(3, .int J48_s0), (0, .ref a_this), (1, .int 3), (2, .int J7_l2)]) hx hb dX5_sum_48 rfl hl (Nat.le_of_ble_eq_true rfl) rfl (fun ls hl => ?_)
            refine lv_aload_n hx hb dX5_sum_49 rfl (lv_at hl 1 rfl) ?_
            refine lv_aload_n hx hb dX5_sum_50 rfl (lv_at hl 1 rfl) ?_
            refine k_get C0 fg_X5_18 hP 0 rfl rfl dX5_sum_51 ?_
            refine k_jvm hP hD hS hA [0, 1] [false, false, true, true] rfl rfl rfl 0 0 (Nat.le_of_ble_eq_true rfl) (Nat.le_of_ble_eq_true rfl) (fun hPc hDc => k_runV (As := [.int J7_c0_3]) (rest := []) C0 hZ hS hA (s_X5_moveTo l dC dI cy sq a_this a_this_text g_this_text x_this_length J7_c0_2 J7_c0_3 J7_c0_4 x_this_allowed a_this_plan J7_c0_7 J7_c0_8 J7_c0_3 hg_this_text (ib_w 0 1600 hx_this_length rfl) (ib_w 0 1600 hK48_J7_c0_3 rfl)) mV_X5_86 hPc hDc rfl rfl rfl hl rfl rfl (Nat.le_of_ble_eq_true rfl) ⟨(Nat.le_of_ble_eq_true rfl), (Nat.le_of_ble_eq_true rfl)⟩ ⟨(Nat.le_of_ble_eq_true rfl), (Nat.le_of_ble_eq_true rfl)⟩ dX5_sum_54) (fun u2 H locs hw hP hD hS => ?_)
            obtain ⟨v3, v4, v5⟩ := u2
            try dsimp only at hP hD hw
            replace hP : va_P (dC, dI) vwCl [(wo_4_iiiiiiirrrirrrrrir a_this_plan x_this_plan_cycle x_this_plan_green x_this_plan_rule x_this_plan_least x_this_plan_away x_this_plan_statements x_this_plan_kinds a_this_plan_calm a_this_plan_pace a_this_plan_trusts x_this_plan_walkers a_this_plan_kindOf a_this_plan_comesAt a_this_plan_comers a_this_plan_names a_this_plan_code J7_c2_16 a_this_plan_spans), (wi_0_1600_0 a_this_plan_code cy J7_a3), (wo_5_riiiiirii a_this a_this_text x_this_length v3 v4 v5 x_this_allowed a_this_plan J7_c0_7 J7_c0_8), (wi_0_1600_0 a_this_text cy g_this_text)] H := hP
            replace hD := k_D hP hD
            obtain ⟨h6, h7, h8, h9, h10⟩ := hw
            replace hq := lf_p1 hq h10
            replace hq := lf_p1 hq rfl
            refine lv_aload_n hx hb dX5_sum_57 rfl (lv_at hl 1 rfl) ?_
            refine lv_iload_n hx hb dX5_sum_58 rfl (lv_at hl 2 rfl) ?_
            refine k_jvm hP hD hS hA [2, 3, 0, 1] [] rfl rfl rfl 0 0 (Nat.le_of_ble_eq_true rfl) (Nat.le_of_ble_eq_true rfl) (fun hPc hDc => k_runV (As := [.int 3]) (rest := []) C0 hZ hS hA (s_X5_product_a0_3 l dC dI cy sq a_this a_this_text g_this_text x_this_length v3 v4 v5 x_this_allowed a_this_plan x_this_plan_cycle x_this_plan_green x_this_plan_rule x_this_plan_least x_this_plan_away x_this_plan_statements x_this_plan_kinds a_this_plan_calm a_this_plan_pace a_this_plan_trusts x_this_plan_walkers a_this_plan_kindOf a_this_plan_comesAt a_this_plan_comers a_this_plan_names a_this_plan_code J7_a3 J7_c2_16 a_this_plan_spans J7_c0_7 J7_c0_8 hg_this_text (ib_w 0 1600 hx_this_length rfl) (ib_w 0 1600 h6 rfl) (ib_w 0 1600 h7 rfl) (ib_w 0 4 h8 rfl) (ib_w 0 1600 hK48_J7_c2_16 rfl) (fun hq9 => ib_w 0 1599 (h9 hq9) rfl)) mV_X5_222 hPc hDc rfl rfl rfl hl rfl rfl (Nat.le_of_ble_eq_true rfl) ⟨(Nat.le_of_ble_eq_true rfl), (Nat.le_of_ble_eq_true rfl)⟩ ⟨(Nat.le_of_ble_eq_true rfl), (Nat.le_of_ble_eq_true rfl)⟩ dX5_sum_59) (fun u12 H locs hw hP hD hS => ?_)
            obtain ⟨v13, v14, v15, v16, v17, v18, f19⟩ := u12
            try dsimp only at hP hD hw
            replace hP : va_P (dC, dI) vwCl [(wo_5_riiiiirii a_this a_this_text x_this_length v13 v14 v15 x_this_allowed a_this_plan v16 v17), (wi_0_1600_0 a_this_text cy g_this_text), (wo_4_iiiiiiirrrirrrrrir a_this_plan x_this_plan_cycle x_this_plan_green x_this_plan_rule x_this_plan_least x_this_plan_away x_this_plan_statements x_this_plan_kinds a_this_plan_calm a_this_plan_pace a_this_plan_trusts x_this_plan_walkers a_this_plan_kindOf a_this_plan_comesAt a_this_plan_comers a_this_plan_names a_this_plan_code v18 a_this_plan_spans), (wi_0_1600_0 a_this_plan_code cy f19)] H := hP
            replace hD := k_D hP hD
            obtain ⟨h20, h21, h22, h23, h24, h25⟩ := hw
            replace hq := lf_p1 hq h25
            replace hq := lf_p1 hq rfl
            replace hq := lf_p1 hq rfl
            replace hq := lf_p1 hq rfl
            replace hq := lf_p1 hq rfl
            replace hq := lf_p1 hq rfl
            refine lv_aload_n hx hb dX5_sum_62 rfl (lv_at hl 1 rfl) ?_
            refine lv_iload_n hx hb dX5_sum_63 rfl (lv_at hl 0 rfl) ?_
            refine k_jvm hP hD hS hA [0, 2, 3] [false, true] rfl rfl rfl 0 0 (Nat.le_of_ble_eq_true rfl) (Nat.le_of_ble_eq_true rfl) (fun hPc hDc => k_runV (As := [.int J48_s0]) (rest := []) C0 hZ hS hA (s_X5_emit l dC dI cy sq a_this a_this_text x_this_length v13 v14 v15 x_this_allowed a_this_plan x_this_plan_cycle x_this_plan_green x_this_plan_rule x_this_plan_least x_this_plan_away x_this_plan_statements x_this_plan_kinds a_this_plan_calm a_this_plan_pace a_this_plan_trusts x_this_plan_walkers a_this_plan_kindOf a_this_plan_comesAt a_this_plan_comers a_this_plan_names a_this_plan_code f19 v18 a_this_plan_spans v16 v17 J48_s0 (ib_w 0 1600 h23 rfl)) mV_X5_199 hPc hDc rfl rfl rfl hl rfl rfl (Nat.le_of_ble_eq_true rfl) ⟨(Nat.le_of_ble_eq_true rfl), (Nat.le_of_ble_eq_true rfl)⟩ ⟨(Nat.le_of_ble_eq_true rfl), (Nat.le_of_ble_eq_true rfl)⟩ dX5_sum_64) (fun u27 H locs hw hP hD hS => ?_)
            obtain ⟨v28, f29⟩ := u27
            try dsimp only at hP hD hw
            replace hP : va_P (dC, dI) vwCl [(wi_0_1600_0 a_this_text cy g_this_text), (wo_5_riiiiirii a_this a_this_text x_this_length v13 v14 v15 x_this_allowed a_this_plan v16 v17), (wo_4_iiiiiiirrrirrrrrir a_this_plan x_this_plan_cycle x_this_plan_green x_this_plan_rule x_this_plan_least x_this_plan_away x_this_plan_statements x_this_plan_kinds a_this_plan_calm a_this_plan_pace a_this_plan_trusts x_this_plan_walkers a_this_plan_kindOf a_this_plan_comesAt a_this_plan_comers a_this_plan_names a_this_plan_code v28 a_this_plan_spans), (wi_0_1600_0 a_this_plan_code cy f29)] H := hP
            replace hD := k_D hP hD
            obtain ⟨h30, h31⟩ := hw
            replace hq := lf_p1 hq h31
            obtain ⟨z32, ez32⟩ : ∃ y : Int32, y = J7_l2 + 1 := ⟨_, rfl⟩
            refine lv_iinc (v := z32) (lv' := [(2, .int z32), (3, .int J48_s0), (0, .ref a_this), (1, .int 3)]) hx hb dX5_sum_67 hl (k := 3) rfl (by rw [ez32]; rfl) (Nat.le_of_ble_eq_true rfl) rfl (fun ls hl => ?_)
            have h33 := ib_add hK48_J7_l2 (ib_c 1 1 1 rfl) rfl
            rw [← ez32] at h33
            have h34 : ib z32 1 1600 := ib_w 1 1600 h33.1 rfl
            have Ez32 := lf_add h33.2 (lf_rf J7_l2) (lf_lc 1 (1 : Int) rfl)
            refine lv_goto (tgt := 7) hx hb dX5_sum_70 rfl ?_
            exact ih7 v13 v14 v15 v16 v17 v28 f29 z32 H locs ls (ib_w 0 1600 h20 rfl) (ib_w 0 1600 h21 rfl) (ib_w 0 4 h22 rfl) (ib_w 0 1600 h30 rfl) (ib_w 0 1600 h34 rfl) (fun hq9 => ib_w 0 1599 (h24 hq9) rfl) (by rw [← hK7]; rw [lf_u Ez32]; exact hq) (by have := h33.2; have : (1 : Int32).toInt = 1 := rfl; omega) (hP.sub [1, 0, 2, 3] rfl) (hD.sub [1, 0, 2, 3] rfl rfl) hS (lv_sub hl [2, 3, 0] rfl)
        have jn32 : ∀  (H : Heap) (locs : List Loc) (ls : Array Slot), ib J7_l2 0 1599 → ib J7_c0_2 0 1599 → ib J7_c0_3 0 1600 → ib J7_c0_4 3 3 → ib J7_c2_16 0 1600 → (O = F_X5_sum_a0_3_32 (lf_A g_this_text) (Int32.toInt x_this_length) (Int32.toInt x_this_allowed) (Int32.toInt J7_c0_2) (Int32.toInt J7_c0_3) (Int32.toInt J7_c0_4) (Int32.toInt J7_c0_7) (Int32.toInt J7_c0_8) (Int32.toInt J7_c2_16) (lf_A J7_a3) (Int32.toInt J7_l2) K7 ) → va_P (dC, dI) vwCl [(wo_5_riiiiirii a_this a_this_text x_this_length J7_c0_2 J7_c0_3 J7_c0_4 x_this_allowed a_this_plan J7_c0_7 J7_c0_8), (wi_0_1600_0 a_this_text cy g_this_text), (wo_4_iiiiiiirrrirrrrrir a_this_plan x_this_plan_cycle x_this_plan_green x_this_plan_rule x_this_plan_least x_this_plan_away x_this_plan_statements x_this_plan_kinds a_this_plan_calm a_this_plan_pace a_this_plan_trusts x_this_plan_walkers a_this_plan_kindOf a_this_plan_comesAt a_this_plan_comers a_this_plan_names a_this_plan_code J7_c2_16 a_this_plan_spans), (wi_0_1600_0 a_this_plan_code cy J7_a3)] H → va_D A [(wo_5_riiiiirii a_this a_this_text x_this_length J7_c0_2 J7_c0_3 J7_c0_4 x_this_allowed a_this_plan J7_c0_7 J7_c0_8), (wi_0_1600_0 a_this_text cy g_this_text), (wo_4_iiiiiiirrrirrrrrir a_this_plan x_this_plan_cycle x_this_plan_green x_this_plan_rule x_this_plan_least x_this_plan_away x_this_plan_statements x_this_plan_kinds a_this_plan_calm a_this_plan_pace a_this_plan_trusts x_this_plan_walkers a_this_plan_kindOf a_this_plan_comesAt a_this_plan_comers a_this_plan_names a_this_plan_code J7_c2_16 a_this_plan_spans), (wi_0_1600_0 a_this_plan_code cy J7_a3)] → va_S A s.heap H locs → lv_has ls 4 [(0, .ref a_this), (1, .int 3), (2, .int J7_l2)] → W p l e { frames := 20, cells := 0, slots := 0, locals := 499 } s m args below meth c H locs 0 0 Q (F0 m 32 ls []) := by
          as_aux_lemma =>
            intro H locs ls hK32_J7_l2 hK32_J7_c0_2 hK32_J7_c0_3 hK32_J7_c0_4 hK32_J7_c2_16 hq hP hD hS hl
            unfold F_X5_sum_a0_3_32 at hq
            refine lv_aload_n hx hb dX5_sum_32 rfl (lv_at hl 0 rfl) ?_
            refine lv_bipush (v := 43) hx hb dX5_sum_33 rfl ?_
            refine k_jim hP hD hS hA [0, 1] [false, false, true, true] rfl rfl rfl 0 0 (Nat.le_of_ble_eq_true rfl) (Nat.le_of_ble_eq_true rfl) (fun hPc hDc => k_runV (As := [.int 43]) (rest := []) C0 hZ hS hA (s_X5_sees l dC dI cy sq a_this a_this_text g_this_text x_this_length J7_c0_2 J7_c0_3 J7_c0_4 x_this_allowed a_this_plan J7_c0_7 J7_c0_8 43 hg_this_text (ib_w 0 1600 hK32_J7_c0_2 rfl) (ib_w 0 4 hK32_J7_c0_4 rfl) (fun _ => ib_w 0 1599 hK32_J7_c0_2 rfl)) mV_X5_213 hPc hDc rfl rfl rfl hl rfl rfl (Nat.le_of_ble_eq_true rfl) ⟨(Nat.le_of_ble_eq_true rfl), (Nat.le_of_ble_eq_true rfl)⟩ ⟨(Nat.le_of_ble_eq_true rfl), (Nat.le_of_ble_eq_true rfl)⟩ dX5_sum_35) (fun r35 u36 H locs hw hP hD hS => ?_)
            try dsimp only at hP hD hw
            replace hP : va_P (dC, dI) vwCl [(wo_4_iiiiiiirrrirrrrrir a_this_plan x_this_plan_cycle x_this_plan_green x_this_plan_rule x_this_plan_least x_this_plan_away x_this_plan_statements x_this_plan_kinds a_this_plan_calm a_this_plan_pace a_this_plan_trusts x_this_plan_walkers a_this_plan_kindOf a_this_plan_comesAt a_this_plan_comers a_this_plan_names a_this_plan_code J7_c2_16 a_this_plan_spans), (wi_0_1600_0 a_this_plan_code cy J7_a3), (wo_5_riiiiirii a_this a_this_text x_this_length J7_c0_2 J7_c0_3 J7_c0_4 x_this_allowed a_this_plan J7_c0_7 J7_c0_8), (wi_0_1600_0 a_this_text cy g_this_text)] H := hP
            replace hD := k_D hP hD
            obtain ⟨h37, h38, h39, h40, h41⟩ := hw
            have h41 := by have h9 := h41; try simp only [show (43 : Int32).toInt = (43 : Int) from rfl] at h9; exact h9
            replace hq := lf_b1 hq h41
            refine lv_if_eq (tgt := 46) hx hb dX5_sum_38 rfl (fun c42 => ?_) (fun c42 => ?_)
            · replace hq := lf_pos hq (lf_eq (lf_rf r35) (lf_lc 0 (0 : Int) rfl) c42)
              have h43 := ib_eq h37 (ib_c 0 0 0 rfl) c42
              have h44 : ib r35 0 0 := ib_w 0 0 h43.1 rfl
              refine lv_bipush (v := (-21)) hx hb dX5_sum_46 rfl ?_
              exact jn48 (-21) H locs ls (ib_w 0 1599 hK32_J7_l2 rfl) (ib_w 0 1599 hK32_J7_c0_2 rfl) (ib_w 0 1600 hK32_J7_c0_3 rfl) (ib_w 3 3 hK32_J7_c0_4 rfl) (ib_w 0 1600 hK32_J7_c2_16 rfl) (ib_w (-21) (-20) (ib_c (-21) (-21) (-21) rfl) rfl) (by try simp only [show ((-21) : Int32).toInt = (-21 : Int) from rfl]; exact hq) (hP.sub [2, 3, 0, 1] rfl) (hD.sub [2, 3, 0, 1] rfl rfl) hS (lv_sub hl [0, 1, 2] rfl)
            · replace hq := lf_neg hq (lf_ne (lf_rf r35) (lf_lc 0 (0 : Int) rfl) c42)
              have h45 : ib r35 1 1 := ib_w 1 1 (ib_ne_lo 0 h37 rfl c42) rfl
              refine lv_bipush (v := (-20)) hx hb dX5_sum_41 rfl ?_
              refine lv_goto (tgt := 48) hx hb dX5_sum_43 rfl ?_
              exact jn48 (-20) H locs ls (ib_w 0 1599 hK32_J7_l2 rfl) (ib_w 0 1599 hK32_J7_c0_2 rfl) (ib_w 0 1600 hK32_J7_c0_3 rfl) (ib_w 3 3 hK32_J7_c0_4 rfl) (ib_w 0 1600 hK32_J7_c2_16 rfl) (ib_w (-21) (-20) (ib_c (-20) (-20) (-20) rfl) rfl) (by try simp only [show ((-20) : Int32).toInt = (-20 : Int) from rfl]; exact hq) (hP.sub [2, 3, 0, 1] rfl) (hD.sub [2, 3, 0, 1] rfl rfl) hS (lv_sub hl [0, 1, 2] rfl)
        refine lv_iload_n hx hb dX5_sum_7 rfl (lv_at hl 2 rfl) ?_
        refine lv_sipush (v := 1600) hx hb dX5_sum_8 rfl ?_
        refine lv_icmp_ge (tgt := 73) hx hb dX5_sum_11 rfl (fun c46 => ?_) (fun c46 => ?_)
        · replace hq := lf_pos hq (lf_le (lf_lc 1600 (1600 : Int) rfl) (lf_rf J7_l2) c46)
          have h47 := ib_le (ib_c 1600 1600 1600 rfl) hJ7_l2 c46
          have h48 : ib J7_l2 1600 1600 := ib_w 1600 1600 h47.2 rfl
          subst hQ; exact k_vret hx hb hr hlk ((J7_c0_2, J7_c0_3, J7_c0_4, J7_c0_7, J7_c0_8, J7_c2_16, J7_a3)) hS ⟨ib_w 0 1600 hJ7_c0_2 rfl, ib_w 0 1600 hJ7_c0_3 rfl, ib_w 0 4 hJ7_c0_4 rfl, ib_w 0 1600 hJ7_c2_16 rfl, fun hq9 => ib_w 0 1599 (hJ7_ic0_0 hq9) rfl, (hO.symm.trans (by exact hq))⟩ hP hD (Nat.le_of_ble_eq_true rfl) (Nat.le_of_ble_eq_true rfl) dX5_sum_73
        · as_aux_lemma =>
            replace hq := lf_neg hq (lf_nle (lf_lc 1600 (1600 : Int) rfl) (lf_rf J7_l2) c46)
            have h49 := ib_nle (ib_c 1600 1600 1600 rfl) hJ7_l2 c46
            have h50 : ib J7_l2 0 1599 := ib_w 0 1599 h49.2 rfl
            refine lv_aload_n hx hb dX5_sum_14 rfl (lv_at hl 0 rfl) ?_
            refine lv_bipush (v := 43) hx hb dX5_sum_15 rfl ?_
            refine k_jim hP hD hS hA [0, 1] [false, false, true, true] rfl rfl rfl 0 0 (Nat.le_of_ble_eq_true rfl) (Nat.le_of_ble_eq_true rfl) (fun hPc hDc => k_runV (As := [.int 43]) (rest := []) C0 hZ hS hA (s_X5_sees l dC dI cy sq a_this a_this_text g_this_text x_this_length J7_c0_2 J7_c0_3 J7_c0_4 x_this_allowed a_this_plan J7_c0_7 J7_c0_8 43 hg_this_text (ib_w 0 1600 hJ7_c0_2 rfl) (ib_w 0 4 hJ7_c0_4 rfl) (fun hq9 => ib_w 0 1599 (hJ7_ic0_0 hq9) rfl)) mV_X5_213 hPc hDc rfl rfl rfl hl rfl rfl (Nat.le_of_ble_eq_true rfl) ⟨(Nat.le_of_ble_eq_true rfl), (Nat.le_of_ble_eq_true rfl)⟩ ⟨(Nat.le_of_ble_eq_true rfl), (Nat.le_of_ble_eq_true rfl)⟩ dX5_sum_17) (fun r51 u52 H locs hw hP hD hS => ?_)
            try dsimp only at hP hD hw
            replace hP : va_P (dC, dI) vwCl [(wo_4_iiiiiiirrrirrrrrir a_this_plan x_this_plan_cycle x_this_plan_green x_this_plan_rule x_this_plan_least x_this_plan_away x_this_plan_statements x_this_plan_kinds a_this_plan_calm a_this_plan_pace a_this_plan_trusts x_this_plan_walkers a_this_plan_kindOf a_this_plan_comesAt a_this_plan_comers a_this_plan_names a_this_plan_code J7_c2_16 a_this_plan_spans), (wi_0_1600_0 a_this_plan_code cy J7_a3), (wo_5_riiiiirii a_this a_this_text x_this_length J7_c0_2 J7_c0_3 J7_c0_4 x_this_allowed a_this_plan J7_c0_7 J7_c0_8), (wi_0_1600_0 a_this_text cy g_this_text)] H := hP
            replace hD := k_D hP hD
            obtain ⟨h53, h54, h55, h56, h57⟩ := hw
            have h57 := by have h9 := h57; try simp only [show (43 : Int32).toInt = (43 : Int) from rfl] at h9; exact h9
            replace hq := lf_b1 hq h57
            refine lv_if_ne (tgt := 32) hx hb dX5_sum_20 rfl (fun c58 => ?_) (fun c58 => ?_)
            · replace hq := lf_neg hq (lf_ne (lf_rf r51) (lf_lc 0 (0 : Int) rfl) c58)
              have h59 : ib r51 1 1 := ib_w 1 1 (ib_ne_lo 0 h53 rfl c58) rfl
              have h60 : ib J7_c0_2 0 1599 := ib_w 0 1599 (ib_two hJ7_c0_2 (h54 c58)) rfl
              have h61 : ib J7_c0_4 3 3 := ib_w 3 3 (ib_two hJ7_c0_4 (h55 c58)) rfl
              exact jn32  H locs ls (ib_w 0 1599 h50 rfl) (ib_w 0 1599 h60 rfl) (ib_w 0 1600 hJ7_c0_3 rfl) (ib_w 3 3 h61 rfl) (ib_w 0 1600 hJ7_c2_16 rfl) (by exact hq) (hP.sub [2, 3, 0, 1] rfl) (hD.sub [2, 3, 0, 1] rfl rfl) hS (lv_sub hl [0, 1, 2] rfl)
            · as_aux_lemma =>
                replace hq := lf_pos hq (lf_eq (lf_rf r51) (lf_lc 0 (0 : Int) rfl) c58)
                have h62 := ib_eq h53 (ib_c 0 0 0 rfl) c58
                have h63 : ib r51 0 0 := ib_w 0 0 h62.1 rfl
                refine lv_aload_n hx hb dX5_sum_23 rfl (lv_at hl 0 rfl) ?_
                refine lv_bipush (v := 45) hx hb dX5_sum_24 rfl ?_
                refine k_jim hP hD hS hA [2, 3] [true, true] rfl rfl rfl 0 0 (Nat.le_of_ble_eq_true rfl) (Nat.le_of_ble_eq_true rfl) (fun hPc hDc => k_runV (As := [.int 45]) (rest := []) C0 hZ hS hA (s_X5_sees l dC dI cy sq a_this a_this_text g_this_text x_this_length J7_c0_2 J7_c0_3 J7_c0_4 x_this_allowed a_this_plan J7_c0_7 J7_c0_8 45 hg_this_text (ib_w 0 1600 hJ7_c0_2 rfl) (ib_w 0 4 hJ7_c0_4 rfl) (fun hq9 => ib_w 0 1599 (hJ7_ic0_0 hq9) rfl)) mV_X5_213 hPc hDc rfl rfl rfl hl rfl rfl (Nat.le_of_ble_eq_true rfl) ⟨(Nat.le_of_ble_eq_true rfl), (Nat.le_of_ble_eq_true rfl)⟩ ⟨(Nat.le_of_ble_eq_true rfl), (Nat.le_of_ble_eq_true rfl)⟩ dX5_sum_26) (fun r64 u65 H locs hw hP hD hS => ?_)
                try dsimp only at hP hD hw
                replace hP : va_P (dC, dI) vwCl [(wo_4_iiiiiiirrrirrrrrir a_this_plan x_this_plan_cycle x_this_plan_green x_this_plan_rule x_this_plan_least x_this_plan_away x_this_plan_statements x_this_plan_kinds a_this_plan_calm a_this_plan_pace a_this_plan_trusts x_this_plan_walkers a_this_plan_kindOf a_this_plan_comesAt a_this_plan_comers a_this_plan_names a_this_plan_code J7_c2_16 a_this_plan_spans), (wi_0_1600_0 a_this_plan_code cy J7_a3), (wo_5_riiiiirii a_this a_this_text x_this_length J7_c0_2 J7_c0_3 J7_c0_4 x_this_allowed a_this_plan J7_c0_7 J7_c0_8), (wi_0_1600_0 a_this_text cy g_this_text)] H := hP
                replace hD := k_D hP hD
                obtain ⟨h66, h67, h68, h69, h70⟩ := hw
                have h70 := by have h9 := h70; try simp only [show (45 : Int32).toInt = (45 : Int) from rfl] at h9; exact h9
                replace hq := lf_b1 hq h70
                refine lv_if_eq (tgt := 73) hx hb dX5_sum_29 rfl (fun c71 => ?_) (fun c71 => ?_)
                · replace hq := lf_pos hq (lf_eq (lf_rf r64) (lf_lc 0 (0 : Int) rfl) c71)
                  have h72 := ib_eq h66 (ib_c 0 0 0 rfl) c71
                  have h73 : ib r64 0 0 := ib_w 0 0 h72.1 rfl
                  subst hQ; exact k_vret hx hb hr hlk ((J7_c0_2, J7_c0_3, J7_c0_4, J7_c0_7, J7_c0_8, J7_c2_16, J7_a3)) hS ⟨ib_w 0 1600 hJ7_c0_2 rfl, ib_w 0 1600 hJ7_c0_3 rfl, ib_w 0 4 hJ7_c0_4 rfl, ib_w 0 1600 hJ7_c2_16 rfl, fun hq9 => ib_w 0 1599 (hJ7_ic0_0 hq9) rfl, (hO.symm.trans (by exact hq))⟩ (hP.sub [2, 3, 0, 1] rfl) (hD.sub [2, 3, 0, 1] rfl rfl) (Nat.le_of_ble_eq_true rfl) (Nat.le_of_ble_eq_true rfl) dX5_sum_73
                · replace hq := lf_neg hq (lf_ne (lf_rf r64) (lf_lc 0 (0 : Int) rfl) c71)
                  have h74 : ib r64 1 1 := ib_w 1 1 (ib_ne_lo 0 h66 rfl c71) rfl
                  have h75 : ib J7_c0_2 0 1599 := ib_w 0 1599 (ib_two hJ7_c0_2 (h67 c71)) rfl
                  have h76 : ib J7_c0_4 3 3 := ib_w 3 3 (ib_two hJ7_c0_4 (h68 c71)) rfl
                  exact jn32  H locs ls (ib_w 0 1599 h50 rfl) (ib_w 0 1599 h75 rfl) (ib_w 0 1600 hJ7_c0_3 rfl) (ib_w 3 3 h76 rfl) (ib_w 0 1600 hJ7_c2_16 rfl) (by exact hq) (hP.sub [2, 3, 0, 1] rfl) (hD.sub [2, 3, 0, 1] rfl rfl) hS (lv_sub hl [0, 1, 2] rfl)
  refine lv_aload_n hx hb dX5_sum_0 rfl (lv_at hl 0 rfl) ?_
  refine lv_iload_n hx hb dX5_sum_1 rfl (lv_at hl 1 rfl) ?_
  refine k_jvm hP hD hS hA [0, 1, 2, 3] [] rfl rfl rfl 0 0 (Nat.le_of_ble_eq_true rfl) (Nat.le_of_ble_eq_true rfl) (fun hPc hDc => k_runV (As := [.int 3]) (rest := []) C0 hZ hS hA (s_X5_product_a0_3 l dC dI cy sq a_this a_this_text g_this_text x_this_length x_this_at x_this_behind x_this_sort x_this_allowed a_this_plan x_this_plan_cycle x_this_plan_green x_this_plan_rule x_this_plan_least x_this_plan_away x_this_plan_statements x_this_plan_kinds a_this_plan_calm a_this_plan_pace a_this_plan_trusts x_this_plan_walkers a_this_plan_kindOf a_this_plan_comesAt a_this_plan_comers a_this_plan_names a_this_plan_code g_this_plan_code x_this_plan_size a_this_plan_spans x_this_fault x_this_place hg_this_text (ib_w 0 1600 hx_this_length rfl) (ib_w 0 1600 hx_this_at rfl) (ib_w 0 1600 hx_this_behind rfl) (ib_w 0 4 hx_this_sort rfl) (ib_w 0 1600 hx_this_plan_size rfl) (fun hq9 => ib_w 0 1599 (hc0_this hq9) rfl)) mV_X5_222 hPc hDc rfl rfl rfl hl rfl rfl (Nat.le_of_ble_eq_true rfl) ⟨(Nat.le_of_ble_eq_true rfl), (Nat.le_of_ble_eq_true rfl)⟩ ⟨(Nat.le_of_ble_eq_true rfl), (Nat.le_of_ble_eq_true rfl)⟩ dX5_sum_2) (fun u78 H locs hw hP hD hS => ?_)
  obtain ⟨v79, v80, v81, v82, v83, v84, f85⟩ := u78
  try dsimp only at hP hD hw
  replace hP : va_P (dC, dI) vwCl [(wo_5_riiiiirii a_this a_this_text x_this_length v79 v80 v81 x_this_allowed a_this_plan v82 v83), (wi_0_1600_0 a_this_text cy g_this_text), (wo_4_iiiiiiirrrirrrrrir a_this_plan x_this_plan_cycle x_this_plan_green x_this_plan_rule x_this_plan_least x_this_plan_away x_this_plan_statements x_this_plan_kinds a_this_plan_calm a_this_plan_pace a_this_plan_trusts x_this_plan_walkers a_this_plan_kindOf a_this_plan_comesAt a_this_plan_comers a_this_plan_names a_this_plan_code v84 a_this_plan_spans), (wi_0_1600_0 a_this_plan_code cy f85)] H := hP
  replace hD := k_D hP hD
  obtain ⟨h86, h87, h88, h89, h90, h91⟩ := hw
  replace hq := lf_p1 hq h91
  replace hq := lf_p1 hq rfl
  replace hq := lf_p1 hq rfl
  replace hq := lf_p1 hq rfl
  replace hq := lf_p1 hq rfl
  replace hq := lf_p1 hq rfl
  refine lv_iconst (v := 0) hx hb dX5_sum_5 rfl ?_
  refine lv_istore_n (lv' := [(2, .int 0), (0, .ref a_this), (1, .int 3)]) hx hb dX5_sum_6 rfl hl (Nat.le_of_ble_eq_true rfl) rfl (fun ls hl => ?_)
  exact jn7 1602 v79 v80 v81 v82 v83 v84 f85 0 H locs ls (ib_w 0 1600 h86 rfl) (ib_w 0 1600 h87 rfl) (ib_w 0 4 h88 rfl) (ib_w 0 1600 h89 rfl) (ib_w 0 1600 (ib_c 0 0 0 rfl) rfl) (fun hq9 => ib_w 0 1599 (h90 hq9) rfl) (by try simp only [show (0 : Int32).toInt = (0 : Int) from rfl]; exact hq) (by have := (ib_c 0 0 0 rfl); unfold ib at this; omega) hP hD hS (lv_sub hl [1, 2, 0] rfl)
set_option maxHeartbeats 4000000 in
set_option maxRecDepth 100000 in
theorem s_X5_pair_a0_2 (l : Launch) (dC : Nat → ClassId) (dI : Nat → Nat → Nat) (cy : Nat → ClassId) (sq : Nat → Nat) (a_this : Nat) (a_this_text : Nat) (g_this_text : Nat → Int32) (x_this_length : Int32) (x_this_at : Int32) (x_this_behind : Int32) (x_this_sort : Int32) (x_this_allowed : Int32) (a_this_plan : Nat) (x_this_plan_cycle : Int32) (x_this_plan_green : Int32) (x_this_plan_rule : Int32) (x_this_plan_least : Int32) (x_this_plan_away : Int32) (x_this_plan_statements : Int32) (x_this_plan_kinds : Int32) (a_this_plan_calm : Nat) (a_this_plan_pace : Nat) (a_this_plan_trusts : Nat) (x_this_plan_walkers : Int32) (a_this_plan_kindOf : Nat) (a_this_plan_comesAt : Nat) (a_this_plan_comers : Nat) (a_this_plan_names : Nat) (a_this_plan_code : Nat) (g_this_plan_code : Nat → Int32) (x_this_plan_size : Int32) (a_this_plan_spans : Nat) (x_this_fault : Int32) (x_this_place : Int32) (p1 : Int32) (hg_this_text : ia g_this_text 1600 0 255) (hx_this_length : ib x_this_length 0 1600) (hx_this_at : ib x_this_at 0 1600) (hx_this_behind : ib x_this_behind 0 1600) (hx_this_sort : ib x_this_sort 0 4) (hx_this_plan_size : ib x_this_plan_size 0 1600) (hc0_this : ¬ x_this_sort = 0 → ib x_this_at 0 1599) : k_Met l yX5_pair cX5_pair 3 none { frames := 21, cells := 0, slots := 0, locals := 522 } dC dI cy sq [.ref a_this, .int 2, .int p1] [(wo_5_riiiiirii a_this a_this_text x_this_length x_this_at x_this_behind x_this_sort x_this_allowed a_this_plan x_this_fault x_this_place), (wi_0_1600_0 a_this_text cy g_this_text), (wo_4_iiiiiiirrrirrrrrir a_this_plan x_this_plan_cycle x_this_plan_green x_this_plan_rule x_this_plan_least x_this_plan_away x_this_plan_statements x_this_plan_kinds a_this_plan_calm a_this_plan_pace a_this_plan_trusts x_this_plan_walkers a_this_plan_kindOf a_this_plan_comesAt a_this_plan_comers a_this_plan_names a_this_plan_code x_this_plan_size a_this_plan_spans), (wi_0_1600_0 a_this_plan_code cy g_this_plan_code)] (k_Qv dC dI (fun (u : Int32 × Int32 × Int32 × Int32 × Int32 × Int32 × (Nat → Int32)) => match u with | (n0, n1, n2, n3, n4, n5, n6) => ib n0 0 1600 ∧ ib n1 0 1600 ∧ ib n2 0 4 ∧ ib n5 0 1600 ∧ (¬ n2 = 0 → ib n0 0 1599) ∧ (F_X5_pair_a0_2 (lf_A g_this_text) (Int32.toInt x_this_length) (Int32.toInt x_this_at) (Int32.toInt x_this_behind) (Int32.toInt x_this_sort) (Int32.toInt x_this_allowed) (lf_A g_this_plan_code) (Int32.toInt x_this_plan_size) (Int32.toInt x_this_fault) (Int32.toInt x_this_place) (Int32.toInt p1) = ((Int32.toInt n0), (Int32.toInt n1), (Int32.toInt n2), (Int32.toInt n3), (Int32.toInt n4), (Int32.toInt n5), (lf_A n6)))) (fun u : Int32 × Int32 × Int32 × Int32 × Int32 × Int32 × (Nat → Int32) => match u with | (n0, n1, n2, n3, n4, n5, n6) => [(wo_5_riiiiirii a_this a_this_text x_this_length n0 n1 n2 x_this_allowed a_this_plan n3 n4), (wi_0_1600_0 a_this_text cy g_this_text), (wo_4_iiiiiiirrrirrrrrir a_this_plan x_this_plan_cycle x_this_plan_green x_this_plan_rule x_this_plan_least x_this_plan_away x_this_plan_statements x_this_plan_kinds a_this_plan_calm a_this_plan_pace a_this_plan_trusts x_this_plan_walkers a_this_plan_kindOf a_this_plan_comesAt a_this_plan_comers a_this_plan_names a_this_plan_code n5 a_this_plan_spans), (wi_0_1600_0 a_this_plan_code cy n6)])) := by
  refine k_ofW2 (by decide +kernel) (Nat.le_of_ble_eq_true rfl) ?_
  intro p e s m below meth c A ls H locs args Q hQ C0 hZ hr hlk hin hP hD hA hS hl
  have C0 : k_cx p s m args c cX5_pair 3 RX5 dC dI cy sq := C0
  have hx := C0.1
  have hb := C0.2.1
  have hl : lv_has ls 3 [(0, .ref a_this), (1, .int 2), (2, .int p1)] := hl
  obtain ⟨O, hO⟩ : ∃ o, o = F_X5_pair_a0_2 (lf_A g_this_text) (Int32.toInt x_this_length) (Int32.toInt x_this_at) (Int32.toInt x_this_behind) (Int32.toInt x_this_sort) (Int32.toInt x_this_allowed) (lf_A g_this_plan_code) (Int32.toInt x_this_plan_size) (Int32.toInt x_this_fault) (Int32.toInt x_this_place) (Int32.toInt p1) := ⟨_, rfl⟩
  have hq := hO
  unfold F_X5_pair_a0_2 at hq
  refine lv_aload_n hx hb dX5_pair_0 rfl (lv_at hl 0 rfl) ?_
  refine lv_bipush (v := 40) hx hb dX5_pair_1 rfl ?_
  refine k_jim hP hD hS hA [0, 1] [false, false, true, true] rfl rfl rfl 0 0 (Nat.le_of_ble_eq_true rfl) (Nat.le_of_ble_eq_true rfl) (fun hPc hDc => k_runV (As := [.int 40]) (rest := []) C0 hZ hS hA (s_X5_sees l dC dI cy sq a_this a_this_text g_this_text x_this_length x_this_at x_this_behind x_this_sort x_this_allowed a_this_plan x_this_fault x_this_place 40 hg_this_text (ib_w 0 1600 hx_this_at rfl) (ib_w 0 4 hx_this_sort rfl) (fun hq9 => ib_w 0 1599 (hc0_this hq9) rfl)) mV_X5_213 hPc hDc rfl rfl rfl hl rfl rfl (Nat.le_of_ble_eq_true rfl) ⟨(Nat.le_of_ble_eq_true rfl), (Nat.le_of_ble_eq_true rfl)⟩ ⟨(Nat.le_of_ble_eq_true rfl), (Nat.le_of_ble_eq_true rfl)⟩ dX5_pair_3) (fun r1 u2 H locs hw hP hD hS => ?_)
  try dsimp only at hP hD hw
  replace hP : va_P (dC, dI) vwCl [(wo_4_iiiiiiirrrirrrrrir a_this_plan x_this_plan_cycle x_this_plan_green x_this_plan_rule x_this_plan_least x_this_plan_away x_this_plan_statements x_this_plan_kinds a_this_plan_calm a_this_plan_pace a_this_plan_trusts x_this_plan_walkers a_this_plan_kindOf a_this_plan_comesAt a_this_plan_comers a_this_plan_names a_this_plan_code x_this_plan_size a_this_plan_spans), (wi_0_1600_0 a_this_plan_code cy g_this_plan_code), (wo_5_riiiiirii a_this a_this_text x_this_length x_this_at x_this_behind x_this_sort x_this_allowed a_this_plan x_this_fault x_this_place), (wi_0_1600_0 a_this_text cy g_this_text)] H := hP
  replace hD := k_D hP hD
  obtain ⟨h3, h4, h5, h6, h7⟩ := hw
  have h7 := by have h9 := h7; try simp only [show (40 : Int32).toInt = (40 : Int) from rfl] at h9; exact h9
  replace hq := lf_b1 hq h7
  refine lv_if_ne (tgt := 21) hx hb dX5_pair_6 rfl (fun c8 => ?_) (fun c8 => ?_)
  · as_aux_lemma =>
      replace hq := lf_neg hq (lf_ne (lf_rf r1) (lf_lc 0 (0 : Int) rfl) c8)
      have h9 : ib r1 1 1 := ib_w 1 1 (ib_ne_lo 0 h3 rfl c8) rfl
      have h10 : ib x_this_at 0 1599 := ib_w 0 1599 (ib_two hx_this_at (h4 c8)) rfl
      have h11 : ib x_this_sort 3 3 := ib_w 3 3 (ib_two hx_this_sort (h5 c8)) rfl
      refine lv_aload_n hx hb dX5_pair_21 rfl (lv_at hl 0 rfl) ?_
      refine lv_iload_n hx hb dX5_pair_22 rfl (lv_at hl 1 rfl) ?_
      refine k_jim hP hD hS hA [2, 3] [true, true] rfl rfl rfl 0 0 (Nat.le_of_ble_eq_true rfl) (Nat.le_of_ble_eq_true rfl) (fun hPc hDc => k_runV (As := [.int 2]) (rest := []) C0 hZ hS hA (s_X5_enters_a0_2 l dC dI cy sq a_this a_this_text g_this_text x_this_length x_this_at x_this_behind x_this_sort x_this_allowed a_this_plan x_this_fault x_this_place hg_this_text (ib_w 0 1600 hx_this_length rfl) (ib_w 0 1600 hx_this_behind rfl)) mV_X5_209 hPc hDc rfl rfl rfl hl rfl rfl (Nat.le_of_ble_eq_true rfl) ⟨(Nat.le_of_ble_eq_true rfl), (Nat.le_of_ble_eq_true rfl)⟩ ⟨(Nat.le_of_ble_eq_true rfl), (Nat.le_of_ble_eq_true rfl)⟩ dX5_pair_23) (fun r12 u13 H locs hw hP hD hS => ?_)
      obtain ⟨v14, v15, v16⟩ := u13
      try dsimp only at hP hD hw
      replace hP : va_P (dC, dI) vwCl [(wo_4_iiiiiiirrrirrrrrir a_this_plan x_this_plan_cycle x_this_plan_green x_this_plan_rule x_this_plan_least x_this_plan_away x_this_plan_statements x_this_plan_kinds a_this_plan_calm a_this_plan_pace a_this_plan_trusts x_this_plan_walkers a_this_plan_kindOf a_this_plan_comesAt a_this_plan_comers a_this_plan_names a_this_plan_code x_this_plan_size a_this_plan_spans), (wi_0_1600_0 a_this_plan_code cy g_this_plan_code), (wo_5_riiiiirii a_this a_this_text x_this_length v14 v15 v16 x_this_allowed a_this_plan x_this_fault x_this_place), (wi_0_1600_0 a_this_text cy g_this_text)] H := hP
      replace hD := k_D hP hD
      obtain ⟨h17, h18, h19, h20, h21, h22⟩ := hw
      replace hq := lf_p1 hq h22
      replace hq := lf_p1 hq rfl
      replace hq := lf_p1 hq rfl
      refine lv_if_eq (tgt := 60) hx hb dX5_pair_26 rfl (fun c23 => ?_) (fun c23 => ?_)
      · skip
        have h24 := ib_eq h17 (ib_c 0 0 0 rfl) c23
        exact ib_no (ib_w 1 0 h24.1 rfl) rfl
      · as_aux_lemma =>
          skip
          refine lv_aload_n hx hb dX5_pair_29 rfl (lv_at hl 0 rfl) ?_
          refine lv_iload_n hx hb dX5_pair_30 rfl (lv_at hl 1 rfl) ?_
          refine lv_iconst (v := 1) hx hb dX5_pair_31 rfl ?_
          refine lv_iadd hx hb dX5_pair_32 ?_
          refine k_topi (y := 3) (by decide) ?_
          refine k_jvm hP hD hS hA [2, 3, 0, 1] [] rfl rfl rfl 0 0 (Nat.le_of_ble_eq_true rfl) (Nat.le_of_ble_eq_true rfl) (fun hPc hDc => k_runV (As := [.int 3]) (rest := []) C0 hZ hS hA (s_X5_sum_a0_3 l dC dI cy sq a_this a_this_text g_this_text x_this_length v14 v15 v16 x_this_allowed a_this_plan x_this_plan_cycle x_this_plan_green x_this_plan_rule x_this_plan_least x_this_plan_away x_this_plan_statements x_this_plan_kinds a_this_plan_calm a_this_plan_pace a_this_plan_trusts x_this_plan_walkers a_this_plan_kindOf a_this_plan_comesAt a_this_plan_comers a_this_plan_names a_this_plan_code g_this_plan_code x_this_plan_size a_this_plan_spans x_this_fault x_this_place hg_this_text (ib_w 0 1600 hx_this_length rfl) (ib_w 0 1600 h18 rfl) (ib_w 0 1600 h19 rfl) (ib_w 0 4 h20 rfl) (ib_w 0 1600 hx_this_plan_size rfl) (fun hq9 => ib_w 0 1599 (h21 hq9) rfl)) mV_X5_93 hPc hDc rfl rfl rfl hl rfl rfl (Nat.le_of_ble_eq_true rfl) ⟨(Nat.le_of_ble_eq_true rfl), (Nat.le_of_ble_eq_true rfl)⟩ ⟨(Nat.le_of_ble_eq_true rfl), (Nat.le_of_ble_eq_true rfl)⟩ dX5_pair_33) (fun u26 H locs hw hP hD hS => ?_)
          obtain ⟨v27, v28, v29, v30, v31, v32, f33⟩ := u26
          try dsimp only at hP hD hw
          replace hP : va_P (dC, dI) vwCl [(wo_5_riiiiirii a_this a_this_text x_this_length v27 v28 v29 x_this_allowed a_this_plan v30 v31), (wi_0_1600_0 a_this_text cy g_this_text), (wo_4_iiiiiiirrrirrrrrir a_this_plan x_this_plan_cycle x_this_plan_green x_this_plan_rule x_this_plan_least x_this_plan_away x_this_plan_statements x_this_plan_kinds a_this_plan_calm a_this_plan_pace a_this_plan_trusts x_this_plan_walkers a_this_plan_kindOf a_this_plan_comesAt a_this_plan_comers a_this_plan_names a_this_plan_code v32 a_this_plan_spans), (wi_0_1600_0 a_this_plan_code cy f33)] H := hP
          replace hD := k_D hP hD
          obtain ⟨h34, h35, h36, h37, h38, h39⟩ := hw
          replace hq := lf_p1 hq h39
          replace hq := lf_p1 hq rfl
          replace hq := lf_p1 hq rfl
          replace hq := lf_p1 hq rfl
          replace hq := lf_p1 hq rfl
          replace hq := lf_p1 hq rfl
          refine lv_aload_n hx hb dX5_pair_36 rfl (lv_at hl 0 rfl) ?_
          refine lv_bipush (v := 44) hx hb dX5_pair_37 rfl ?_
          refine k_jvm hP hD hS hA [0, 1] [false, false, true, true] rfl rfl rfl 0 0 (Nat.le_of_ble_eq_true rfl) (Nat.le_of_ble_eq_true rfl) (fun hPc hDc => k_runV (As := [.int 44]) (rest := []) C0 hZ hS hA (s_X5_need l dC dI cy sq a_this a_this_text g_this_text x_this_length v27 v28 v29 x_this_allowed a_this_plan v30 v31 44 hg_this_text (ib_w 0 1600 hx_this_length rfl) (ib_w 0 1600 h34 rfl) (ib_w 0 1600 h35 rfl) (ib_w 0 4 h36 rfl) (fun hq9 => ib_w 0 1599 (h38 hq9) rfl)) mV_X5_48 hPc hDc rfl rfl rfl hl rfl rfl (Nat.le_of_ble_eq_true rfl) ⟨(Nat.le_of_ble_eq_true rfl), (Nat.le_of_ble_eq_true rfl)⟩ ⟨(Nat.le_of_ble_eq_true rfl), (Nat.le_of_ble_eq_true rfl)⟩ dX5_pair_39) (fun u41 H locs hw hP hD hS => ?_)
          obtain ⟨v42, v43, v44, v45, v46⟩ := u41
          try dsimp only at hP hD hw
          replace hP : va_P (dC, dI) vwCl [(wo_4_iiiiiiirrrirrrrrir a_this_plan x_this_plan_cycle x_this_plan_green x_this_plan_rule x_this_plan_least x_this_plan_away x_this_plan_statements x_this_plan_kinds a_this_plan_calm a_this_plan_pace a_this_plan_trusts x_this_plan_walkers a_this_plan_kindOf a_this_plan_comesAt a_this_plan_comers a_this_plan_names a_this_plan_code v32 a_this_plan_spans), (wi_0_1600_0 a_this_plan_code cy f33), (wo_5_riiiiirii a_this a_this_text x_this_length v42 v43 v44 x_this_allowed a_this_plan v45 v46), (wi_0_1600_0 a_this_text cy g_this_text)] H := hP
          replace hD := k_D hP hD
          obtain ⟨h47, h48, h49, h50, h51⟩ := hw
          have h51 := by have h9 := h51; try simp only [show (44 : Int32).toInt = (44 : Int) from rfl] at h9; exact h9
          replace hq := lf_p1 hq h51
          replace hq := lf_p1 hq rfl
          replace hq := lf_p1 hq rfl
          as_aux_lemma =>
            replace hq := lf_p1 hq rfl
            refine lv_aload_n hx hb dX5_pair_42 rfl (lv_at hl 0 rfl) ?_
            refine lv_iload_n hx hb dX5_pair_43 rfl (lv_at hl 1 rfl) ?_
            refine lv_iconst (v := 1) hx hb dX5_pair_44 rfl ?_
            refine lv_iadd hx hb dX5_pair_45 ?_
            refine k_topi (y := 3) (by decide) ?_
            refine k_jvm hP hD hS hA [2, 3, 0, 1] [] rfl rfl rfl 0 0 (Nat.le_of_ble_eq_true rfl) (Nat.le_of_ble_eq_true rfl) (fun hPc hDc => k_runV (As := [.int 3]) (rest := []) C0 hZ hS hA (s_X5_sum_a0_3 l dC dI cy sq a_this a_this_text g_this_text x_this_length v42 v43 v44 x_this_allowed a_this_plan x_this_plan_cycle x_this_plan_green x_this_plan_rule x_this_plan_least x_this_plan_away x_this_plan_statements x_this_plan_kinds a_this_plan_calm a_this_plan_pace a_this_plan_trusts x_this_plan_walkers a_this_plan_kindOf a_this_plan_comesAt a_this_plan_comers a_this_plan_names a_this_plan_code f33 v32 a_this_plan_spans v45 v46 hg_this_text (ib_w 0 1600 hx_this_length rfl) (ib_w 0 1600 h47 rfl) (ib_w 0 1600 h48 rfl) (ib_w 0 4 h49 rfl) (ib_w 0 1600 h37 rfl) (fun hq9 => ib_w 0 1599 (h50 hq9) rfl)) mV_X5_93 hPc hDc rfl rfl rfl hl rfl rfl (Nat.le_of_ble_eq_true rfl) ⟨(Nat.le_of_ble_eq_true rfl), (Nat.le_of_ble_eq_true rfl)⟩ ⟨(Nat.le_of_ble_eq_true rfl), (Nat.le_of_ble_eq_true rfl)⟩ dX5_pair_46) (fun u53 H locs hw hP hD hS => ?_)
            obtain ⟨v54, v55, v56, v57, v58, v59, f60⟩ := u53
            try dsimp only at hP hD hw
            replace hP : va_P (dC, dI) vwCl [(wo_5_riiiiirii a_this a_this_text x_this_length v54 v55 v56 x_this_allowed a_this_plan v57 v58), (wi_0_1600_0 a_this_text cy g_this_text), (wo_4_iiiiiiirrrirrrrrir a_this_plan x_this_plan_cycle x_this_plan_green x_this_plan_rule x_this_plan_least x_this_plan_away x_this_plan_statements x_this_plan_kinds a_this_plan_calm a_this_plan_pace a_this_plan_trusts x_this_plan_walkers a_this_plan_kindOf a_this_plan_comesAt a_this_plan_comers a_this_plan_names a_this_plan_code v59 a_this_plan_spans), (wi_0_1600_0 a_this_plan_code cy f60)] H := hP
            replace hD := k_D hP hD
            obtain ⟨h61, h62, h63, h64, h65, h66⟩ := hw
            replace hq := lf_p1 hq h66
            replace hq := lf_p1 hq rfl
            replace hq := lf_p1 hq rfl
            replace hq := lf_p1 hq rfl
            replace hq := lf_p1 hq rfl
            replace hq := lf_p1 hq rfl
            refine lv_aload_n hx hb dX5_pair_49 rfl (lv_at hl 0 rfl) ?_
            refine lv_bipush (v := 41) hx hb dX5_pair_50 rfl ?_
            refine k_jvm hP hD hS hA [0, 1] [false, false, true, true] rfl rfl rfl 0 0 (Nat.le_of_ble_eq_true rfl) (Nat.le_of_ble_eq_true rfl) (fun hPc hDc => k_runV (As := [.int 41]) (rest := []) C0 hZ hS hA (s_X5_need l dC dI cy sq a_this a_this_text g_this_text x_this_length v54 v55 v56 x_this_allowed a_this_plan v57 v58 41 hg_this_text (ib_w 0 1600 hx_this_length rfl) (ib_w 0 1600 h61 rfl) (ib_w 0 1600 h62 rfl) (ib_w 0 4 h63 rfl) (fun hq9 => ib_w 0 1599 (h65 hq9) rfl)) mV_X5_48 hPc hDc rfl rfl rfl hl rfl rfl (Nat.le_of_ble_eq_true rfl) ⟨(Nat.le_of_ble_eq_true rfl), (Nat.le_of_ble_eq_true rfl)⟩ ⟨(Nat.le_of_ble_eq_true rfl), (Nat.le_of_ble_eq_true rfl)⟩ dX5_pair_52) (fun u68 H locs hw hP hD hS => ?_)
            obtain ⟨v69, v70, v71, v72, v73⟩ := u68
            try dsimp only at hP hD hw
            replace hP : va_P (dC, dI) vwCl [(wo_4_iiiiiiirrrirrrrrir a_this_plan x_this_plan_cycle x_this_plan_green x_this_plan_rule x_this_plan_least x_this_plan_away x_this_plan_statements x_this_plan_kinds a_this_plan_calm a_this_plan_pace a_this_plan_trusts x_this_plan_walkers a_this_plan_kindOf a_this_plan_comesAt a_this_plan_comers a_this_plan_names a_this_plan_code v59 a_this_plan_spans), (wi_0_1600_0 a_this_plan_code cy f60), (wo_5_riiiiirii a_this a_this_text x_this_length v69 v70 v71 x_this_allowed a_this_plan v72 v73), (wi_0_1600_0 a_this_text cy g_this_text)] H := hP
            replace hD := k_D hP hD
            obtain ⟨h74, h75, h76, h77, h78⟩ := hw
            have h78 := by have h9 := h78; try simp only [show (41 : Int32).toInt = (41 : Int) from rfl] at h9; exact h9
            replace hq := lf_p1 hq h78
            replace hq := lf_p1 hq rfl
            replace hq := lf_p1 hq rfl
            replace hq := lf_p1 hq rfl
            refine lv_aload_n hx hb dX5_pair_55 rfl (lv_at hl 0 rfl) ?_
            refine lv_iload_n hx hb dX5_pair_56 rfl (lv_at hl 2 rfl) ?_
            refine k_jvm hP hD hS hA [2, 0, 1] [false, false, false, true] rfl rfl rfl 0 0 (Nat.le_of_ble_eq_true rfl) (Nat.le_of_ble_eq_true rfl) (fun hPc hDc => k_runV (As := [.int p1]) (rest := []) C0 hZ hS hA (s_X5_emit l dC dI cy sq a_this a_this_text x_this_length v69 v70 v71 x_this_allowed a_this_plan x_this_plan_cycle x_this_plan_green x_this_plan_rule x_this_plan_least x_this_plan_away x_this_plan_statements x_this_plan_kinds a_this_plan_calm a_this_plan_pace a_this_plan_trusts x_this_plan_walkers a_this_plan_kindOf a_this_plan_comesAt a_this_plan_comers a_this_plan_names a_this_plan_code f60 v59 a_this_plan_spans v72 v73 p1 (ib_w 0 1600 h64 rfl)) mV_X5_199 hPc hDc rfl rfl rfl hl rfl rfl (Nat.le_of_ble_eq_true rfl) ⟨(Nat.le_of_ble_eq_true rfl), (Nat.le_of_ble_eq_true rfl)⟩ ⟨(Nat.le_of_ble_eq_true rfl), (Nat.le_of_ble_eq_true rfl)⟩ dX5_pair_57) (fun u80 H locs hw hP hD hS => ?_)
            obtain ⟨v81, f82⟩ := u80
            try dsimp only at hP hD hw
            replace hP : va_P (dC, dI) vwCl [(wi_0_1600_0 a_this_text cy g_this_text), (wo_5_riiiiirii a_this a_this_text x_this_length v69 v70 v71 x_this_allowed a_this_plan v72 v73), (wo_4_iiiiiiirrrirrrrrir a_this_plan x_this_plan_cycle x_this_plan_green x_this_plan_rule x_this_plan_least x_this_plan_away x_this_plan_statements x_this_plan_kinds a_this_plan_calm a_this_plan_pace a_this_plan_trusts x_this_plan_walkers a_this_plan_kindOf a_this_plan_comesAt a_this_plan_comers a_this_plan_names a_this_plan_code v81 a_this_plan_spans), (wi_0_1600_0 a_this_plan_code cy f82)] H := hP
            replace hD := k_D hP hD
            obtain ⟨h83, h84⟩ := hw
            replace hq := lf_p1 hq h84
            subst hQ; exact k_vret hx hb hr hlk ((v69, v70, v71, v72, v73, v81, f82)) hS ⟨ib_w 0 1600 h74 rfl, ib_w 0 1600 h75 rfl, ib_w 0 4 h76 rfl, ib_w 0 1600 h83 rfl, fun hq9 => ib_w 0 1599 (h77 hq9) rfl, (hO.symm.trans (by exact hq))⟩ (hP.sub [1, 0, 2, 3] rfl) (hD.sub [1, 0, 2, 3] rfl rfl) (Nat.le_of_ble_eq_true rfl) (Nat.le_of_ble_eq_true rfl) dX5_pair_60
  · replace hq := lf_pos hq (lf_eq (lf_rf r1) (lf_lc 0 (0 : Int) rfl) c8)
    have h85 := ib_eq h3 (ib_c 0 0 0 rfl) c8
    have h86 : ib r1 0 0 := ib_w 0 0 h85.1 rfl
    refine lv_aload_n hx hb dX5_pair_9 rfl (lv_at hl 0 rfl) ?_
    refine lv_iconst (v := 1) hx hb dX5_pair_10 rfl ?_
    refine lv_aload_n hx hb dX5_pair_11 rfl (lv_at hl 0 rfl) ?_
    refine k_get C0 fg_X5_15 hP 2 rfl rfl dX5_pair_12 ?_
    refine k_jvm hP hD hS hA [2] [true, true, false, true] rfl rfl rfl 0 0 (Nat.le_of_ble_eq_true rfl) (Nat.le_of_ble_eq_true rfl) (fun hPc hDc => k_runV (As := [.int 1, .int x_this_at]) (rest := []) C0 hZ hS hA (s_X5_fail l dC dI cy sq a_this a_this_text x_this_length x_this_at x_this_behind x_this_sort x_this_allowed a_this_plan x_this_fault x_this_place 1 x_this_at ) mV_X5_78 hPc hDc rfl rfl rfl hl rfl rfl (Nat.le_of_ble_eq_true rfl) ⟨(Nat.le_of_ble_eq_true rfl), (Nat.le_of_ble_eq_true rfl)⟩ ⟨(Nat.le_of_ble_eq_true rfl), (Nat.le_of_ble_eq_true rfl)⟩ dX5_pair_15) (fun u88 H locs hw hP hD hS => ?_)
    obtain ⟨v89, v90⟩ := u88
    try dsimp only at hP hD hw
    replace hP : va_P (dC, dI) vwCl [(wo_4_iiiiiiirrrirrrrrir a_this_plan x_this_plan_cycle x_this_plan_green x_this_plan_rule x_this_plan_least x_this_plan_away x_this_plan_statements x_this_plan_kinds a_this_plan_calm a_this_plan_pace a_this_plan_trusts x_this_plan_walkers a_this_plan_kindOf a_this_plan_comesAt a_this_plan_comers a_this_plan_names a_this_plan_code x_this_plan_size a_this_plan_spans), (wi_0_1600_0 a_this_plan_code cy g_this_plan_code), (wi_0_1600_0 a_this_text cy g_this_text), (wo_5_riiiiirii a_this a_this_text x_this_length x_this_length x_this_length 0 x_this_allowed a_this_plan v89 v90)] H := hP
    replace hD := k_D hP hD
    have h91 := hw
    have h91 := by have h9 := h91; try simp only [show (1 : Int32).toInt = (1 : Int) from rfl] at h9; exact h9
    replace hq := lf_p1 hq h91
    refine lv_goto (tgt := 60) hx hb dX5_pair_18 rfl ?_
    subst hQ; exact k_vret hx hb hr hlk ((x_this_length, x_this_length, 0, v89, v90, x_this_plan_size, g_this_plan_code)) hS ⟨ib_w 0 1600 hx_this_length rfl, ib_w 0 1600 hx_this_length rfl, ib_w 0 4 (ib_c 0 0 0 rfl) rfl, ib_w 0 1600 hx_this_plan_size rfl, fun hq9 => absurd rfl hq9, (hO.symm.trans (by try simp only [show (0 : Int32).toInt = (0 : Int) from rfl]; exact hq))⟩ (hP.sub [3, 2, 0, 1] rfl) (hD.sub [3, 2, 0, 1] rfl rfl) (Nat.le_of_ble_eq_true rfl) (Nat.le_of_ble_eq_true rfl) dX5_pair_60
set_option maxHeartbeats 4000000 in
set_option maxRecDepth 100000 in
theorem s_X5_part_a0_2 (l : Launch) (dC : Nat → ClassId) (dI : Nat → Nat → Nat) (cy : Nat → ClassId) (sq : Nat → Nat) (a_this : Nat) (a_this_text : Nat) (g_this_text : Nat → Int32) (x_this_length : Int32) (x_this_at : Int32) (x_this_behind : Int32) (x_this_sort : Int32) (x_this_allowed : Int32) (a_this_plan : Nat) (x_this_plan_cycle : Int32) (x_this_plan_green : Int32) (x_this_plan_rule : Int32) (x_this_plan_least : Int32) (x_this_plan_away : Int32) (x_this_plan_statements : Int32) (x_this_plan_kinds : Int32) (a_this_plan_calm : Nat) (a_this_plan_pace : Nat) (a_this_plan_trusts : Nat) (x_this_plan_walkers : Int32) (a_this_plan_kindOf : Nat) (a_this_plan_comesAt : Nat) (a_this_plan_comers : Nat) (a_this_plan_names : Nat) (a_this_plan_code : Nat) (g_this_plan_code : Nat → Int32) (x_this_plan_size : Int32) (a_this_plan_spans : Nat) (x_this_fault : Int32) (x_this_place : Int32) (hg_this_text : ia g_this_text 1600 0 255) (hx_this_length : ib x_this_length 0 1600) (hx_this_at : ib x_this_at 0 1600) (hx_this_behind : ib x_this_behind 0 1600) (hx_this_sort : ib x_this_sort 0 4) (hx_this_plan_size : ib x_this_plan_size 0 1600) (hc0_this : ¬ x_this_sort = 0 → ib x_this_at 0 1599) : k_Met l yX5_part cX5_part 2 none { frames := 22, cells := 0, slots := 0, locals := 544 } dC dI cy sq [.ref a_this, .int 2] [(wo_5_riiiiirii a_this a_this_text x_this_length x_this_at x_this_behind x_this_sort x_this_allowed a_this_plan x_this_fault x_this_place), (wi_0_1600_0 a_this_text cy g_this_text), (wo_4_iiiiiiirrrirrrrrir a_this_plan x_this_plan_cycle x_this_plan_green x_this_plan_rule x_this_plan_least x_this_plan_away x_this_plan_statements x_this_plan_kinds a_this_plan_calm a_this_plan_pace a_this_plan_trusts x_this_plan_walkers a_this_plan_kindOf a_this_plan_comesAt a_this_plan_comers a_this_plan_names a_this_plan_code x_this_plan_size a_this_plan_spans), (wi_0_1600_0 a_this_plan_code cy g_this_plan_code)] (k_Qv dC dI (fun (u : Int32 × Int32 × Int32 × Int32 × Int32 × Int32 × (Nat → Int32)) => match u with | (n0, n1, n2, n3, n4, n5, n6) => ib n0 0 1600 ∧ ib n1 0 1600 ∧ ib n2 0 4 ∧ ib n5 0 1600 ∧ (¬ n2 = 0 → ib n0 0 1599) ∧ (F_X5_part_a0_2 (lf_A g_this_text) (Int32.toInt x_this_length) (Int32.toInt x_this_at) (Int32.toInt x_this_behind) (Int32.toInt x_this_sort) (Int32.toInt x_this_allowed) (lf_A g_this_plan_code) (Int32.toInt x_this_plan_size) (Int32.toInt x_this_fault) (Int32.toInt x_this_place) = ((Int32.toInt n0), (Int32.toInt n1), (Int32.toInt n2), (Int32.toInt n3), (Int32.toInt n4), (Int32.toInt n5), (lf_A n6)))) (fun u : Int32 × Int32 × Int32 × Int32 × Int32 × Int32 × (Nat → Int32) => match u with | (n0, n1, n2, n3, n4, n5, n6) => [(wo_5_riiiiirii a_this a_this_text x_this_length n0 n1 n2 x_this_allowed a_this_plan n3 n4), (wi_0_1600_0 a_this_text cy g_this_text), (wo_4_iiiiiiirrrirrrrrir a_this_plan x_this_plan_cycle x_this_plan_green x_this_plan_rule x_this_plan_least x_this_plan_away x_this_plan_statements x_this_plan_kinds a_this_plan_calm a_this_plan_pace a_this_plan_trusts x_this_plan_walkers a_this_plan_kindOf a_this_plan_comesAt a_this_plan_comers a_this_plan_names a_this_plan_code n5 a_this_plan_spans), (wi_0_1600_0 a_this_plan_code cy n6)])) := by
  refine k_ofW2 (by decide +kernel) (Nat.le_of_ble_eq_true rfl) ?_
  intro p e s m below meth c A ls H locs args Q hQ C0 hZ hr hlk hin hP hD hA hS hl
  have C0 : k_cx p s m args c cX5_part 2 RX5 dC dI cy sq := C0
  have hx := C0.1
  have hb := C0.2.1
  have hl : lv_has ls 2 [(0, .ref a_this), (1, .int 2)] := hl
  obtain ⟨O, hO⟩ : ∃ o, o = F_X5_part_a0_2 (lf_A g_this_text) (Int32.toInt x_this_length) (Int32.toInt x_this_at) (Int32.toInt x_this_behind) (Int32.toInt x_this_sort) (Int32.toInt x_this_allowed) (lf_A g_this_plan_code) (Int32.toInt x_this_plan_size) (Int32.toInt x_this_fault) (Int32.toInt x_this_place) := ⟨_, rfl⟩
  have hq := hO
  unfold F_X5_part_a0_2 at hq
  have jn138 : ∀ (J138_c0_2 : Int32) (J138_c0_3 : Int32) (J138_c0_4 : Int32) (H : Heap) (locs : List Loc) (ls : Array Slot), ib J138_c0_2 0 1600 → ib J138_c0_3 0 1600 → ib J138_c0_4 0 4 → (¬ J138_c0_4 = 0 → ib J138_c0_2 0 1599) → (O = F_X5_part_a0_2_138 (lf_A g_this_text) (Int32.toInt x_this_length) (Int32.toInt x_this_allowed) (lf_A g_this_plan_code) (Int32.toInt x_this_plan_size) (Int32.toInt x_this_fault) (Int32.toInt x_this_place) (Int32.toInt J138_c0_2) (Int32.toInt J138_c0_3) (Int32.toInt J138_c0_4)) → va_P (dC, dI) vwCl [(wo_5_riiiiirii a_this a_this_text x_this_length J138_c0_2 J138_c0_3 J138_c0_4 x_this_allowed a_this_plan x_this_fault x_this_place), (wi_0_1600_0 a_this_text cy g_this_text), (wo_4_iiiiiiirrrirrrrrir a_this_plan x_this_plan_cycle x_this_plan_green x_this_plan_rule x_this_plan_least x_this_plan_away x_this_plan_statements x_this_plan_kinds a_this_plan_calm a_this_plan_pace a_this_plan_trusts x_this_plan_walkers a_this_plan_kindOf a_this_plan_comesAt a_this_plan_comers a_this_plan_names a_this_plan_code x_this_plan_size a_this_plan_spans), (wi_0_1600_0 a_this_plan_code cy g_this_plan_code)] H → va_D A [(wo_5_riiiiirii a_this a_this_text x_this_length J138_c0_2 J138_c0_3 J138_c0_4 x_this_allowed a_this_plan x_this_fault x_this_place), (wi_0_1600_0 a_this_text cy g_this_text), (wo_4_iiiiiiirrrirrrrrir a_this_plan x_this_plan_cycle x_this_plan_green x_this_plan_rule x_this_plan_least x_this_plan_away x_this_plan_statements x_this_plan_kinds a_this_plan_calm a_this_plan_pace a_this_plan_trusts x_this_plan_walkers a_this_plan_kindOf a_this_plan_comesAt a_this_plan_comers a_this_plan_names a_this_plan_code x_this_plan_size a_this_plan_spans), (wi_0_1600_0 a_this_plan_code cy g_this_plan_code)] → va_S A s.heap H locs → lv_has ls 2 [(0, .ref a_this), (1, .int 2)] → W p l e { frames := 22, cells := 0, slots := 0, locals := 544 } s m args below meth c H locs 0 0 Q (F0 m 138 ls []) := by
    intro J138_c0_2 J138_c0_3 J138_c0_4 H locs ls hJ138_c0_2 hJ138_c0_3 hJ138_c0_4 hJ138_ic0_0 hq hP hD hS hl
    unfold F_X5_part_a0_2_138 at hq
    refine lv_aload_n hx hb dX5_part_138 rfl (lv_at hl 0 rfl) ?_
    refine k_jvm hP hD hS hA [0, 1, 2, 3] [] rfl rfl rfl 0 0 (Nat.le_of_ble_eq_true rfl) (Nat.le_of_ble_eq_true rfl) (fun hPc hDc => k_runV (As := []) (rest := []) C0 hZ hS hA (s_X5_partWord l dC dI cy sq a_this a_this_text g_this_text x_this_length J138_c0_2 J138_c0_3 J138_c0_4 x_this_allowed a_this_plan x_this_plan_cycle x_this_plan_green x_this_plan_rule x_this_plan_least x_this_plan_away x_this_plan_statements x_this_plan_kinds a_this_plan_calm a_this_plan_pace a_this_plan_trusts x_this_plan_walkers a_this_plan_kindOf a_this_plan_comesAt a_this_plan_comers a_this_plan_names a_this_plan_code g_this_plan_code x_this_plan_size a_this_plan_spans x_this_fault x_this_place hg_this_text (ib_w 0 1600 hx_this_length rfl) (ib_w 0 1600 hJ138_c0_2 rfl) (ib_w 0 1600 hJ138_c0_3 rfl) (ib_w 0 4 hJ138_c0_4 rfl) (ib_w 0 1600 hx_this_plan_size rfl) (fun hq9 => ib_w 0 1599 (hJ138_ic0_0 hq9) rfl)) mV_X5_236 hPc hDc rfl rfl rfl hl rfl rfl (Nat.le_of_ble_eq_true rfl) ⟨(Nat.le_of_ble_eq_true rfl), (Nat.le_of_ble_eq_true rfl)⟩ ⟨(Nat.le_of_ble_eq_true rfl), (Nat.le_of_ble_eq_true rfl)⟩ dX5_part_139) (fun u2 H locs hw hP hD hS => ?_)
    obtain ⟨v3, v4, v5, v6, v7, v8, f9⟩ := u2
    try dsimp only at hP hD hw
    replace hP : va_P (dC, dI) vwCl [(wo_5_riiiiirii a_this a_this_text x_this_length v3 v4 v5 x_this_allowed a_this_plan v6 v7), (wi_0_1600_0 a_this_text cy g_this_text), (wo_4_iiiiiiirrrirrrrrir a_this_plan x_this_plan_cycle x_this_plan_green x_this_plan_rule x_this_plan_least x_this_plan_away x_this_plan_statements x_this_plan_kinds a_this_plan_calm a_this_plan_pace a_this_plan_trusts x_this_plan_walkers a_this_plan_kindOf a_this_plan_comesAt a_this_plan_comers a_this_plan_names a_this_plan_code v8 a_this_plan_spans), (wi_0_1600_0 a_this_plan_code cy f9)] H := hP
    replace hD := k_D hP hD
    obtain ⟨h10, h11, h12, h13, h14, h15⟩ := hw
    replace hq := lf_p1 hq h15
    replace hq := lf_p1 hq rfl
    replace hq := lf_p1 hq rfl
    replace hq := lf_p1 hq rfl
    replace hq := lf_p1 hq rfl
    replace hq := lf_p1 hq rfl
    subst hQ; exact k_vret hx hb hr hlk ((v3, v4, v5, v6, v7, v8, f9)) hS ⟨ib_w 0 1600 h10 rfl, ib_w 0 1600 h11 rfl, ib_w 0 4 h12 rfl, ib_w 0 1600 h13 rfl, fun hq9 => ib_w 0 1599 (h14 hq9) rfl, (hO.symm.trans (by exact hq))⟩ hP hD (Nat.le_of_ble_eq_true rfl) (Nat.le_of_ble_eq_true rfl) dX5_part_142
  refine lv_aload_n hx hb dX5_part_0 rfl (lv_at hl 0 rfl) ?_
  refine k_get C0 fg_X5_21 hP 0 rfl rfl dX5_part_1 ?_
  refine lv_iconst (v := 2) hx hb dX5_part_4 rfl ?_
  refine lv_icmp_ne (tgt := 23) hx hb dX5_part_5 rfl (fun c16 => ?_) (fun c16 => ?_)
  · as_aux_lemma =>
      replace hq := lf_neg hq (lf_ne (lf_rf x_this_sort) (lf_lc 2 (2 : Int) rfl) c16)
      refine lv_aload_n hx hb dX5_part_23 rfl (lv_at hl 0 rfl) ?_
      refine lv_bipush (v := 40) hx hb dX5_part_24 rfl ?_
      refine k_jim hP hD hS hA [0, 1] [false, false, true, true] rfl rfl rfl 0 0 (Nat.le_of_ble_eq_true rfl) (Nat.le_of_ble_eq_true rfl) (fun hPc hDc => k_runV (As := [.int 40]) (rest := []) C0 hZ hS hA (s_X5_sees l dC dI cy sq a_this a_this_text g_this_text x_this_length x_this_at x_this_behind x_this_sort x_this_allowed a_this_plan x_this_fault x_this_place 40 hg_this_text (ib_w 0 1600 hx_this_at rfl) (ib_w 0 4 hx_this_sort rfl) (fun hq9 => ib_w 0 1599 (hc0_this hq9) rfl)) mV_X5_213 hPc hDc rfl rfl rfl hl rfl rfl (Nat.le_of_ble_eq_true rfl) ⟨(Nat.le_of_ble_eq_true rfl), (Nat.le_of_ble_eq_true rfl)⟩ ⟨(Nat.le_of_ble_eq_true rfl), (Nat.le_of_ble_eq_true rfl)⟩ dX5_part_26) (fun r17 u18 H locs hw hP hD hS => ?_)
      try dsimp only at hP hD hw
      replace hP : va_P (dC, dI) vwCl [(wo_4_iiiiiiirrrirrrrrir a_this_plan x_this_plan_cycle x_this_plan_green x_this_plan_rule x_this_plan_least x_this_plan_away x_this_plan_statements x_this_plan_kinds a_this_plan_calm a_this_plan_pace a_this_plan_trusts x_this_plan_walkers a_this_plan_kindOf a_this_plan_comesAt a_this_plan_comers a_this_plan_names a_this_plan_code x_this_plan_size a_this_plan_spans), (wi_0_1600_0 a_this_plan_code cy g_this_plan_code), (wo_5_riiiiirii a_this a_this_text x_this_length x_this_at x_this_behind x_this_sort x_this_allowed a_this_plan x_this_fault x_this_place), (wi_0_1600_0 a_this_text cy g_this_text)] H := hP
      replace hD := k_D hP hD
      obtain ⟨h19, h20, h21, h22, h23⟩ := hw
      have h23 := by have h9 := h23; try simp only [show (40 : Int32).toInt = (40 : Int) from rfl] at h9; exact h9
      replace hq := lf_b1 hq h23
      refine lv_if_eq (tgt := 56) hx hb dX5_part_29 rfl (fun c24 => ?_) (fun c24 => ?_)
      · as_aux_lemma =>
          replace hq := lf_pos hq (lf_eq (lf_rf r17) (lf_lc 0 (0 : Int) rfl) c24)
          have h25 := ib_eq h19 (ib_c 0 0 0 rfl) c24
          have h26 : ib r17 0 0 := ib_w 0 0 h25.1 rfl
          refine lv_aload_n hx hb dX5_part_56 rfl (lv_at hl 0 rfl) ?_
          refine va_ldcS hx hb C0.2.2.2.1 (C0.2.2.2.2.2.2.2.2.2.2.2.2 17 (by decide)) dX5_part_57 ?_
          refine k_jim hP hD hS hA [2, 3] [true, true] rfl rfl rfl 0 0 (Nat.le_of_ble_eq_true rfl) (Nat.le_of_ble_eq_true rfl) (fun hPc hDc => k_runV (As := [.ref (sq 17)]) (rest := []) C0 hZ hS hA (s_X5_takeWord_s17 l dC dI cy sq a_this a_this_text g_this_text x_this_length x_this_at x_this_behind x_this_sort x_this_allowed a_this_plan x_this_fault x_this_place hg_this_text (ib_w 0 1600 hx_this_length rfl) (ib_w 0 1600 hx_this_at rfl) (ib_w 0 1600 hx_this_behind rfl) (ib_w 0 4 hx_this_sort rfl) (fun hq9 => ib_w 0 1599 (hc0_this hq9) rfl)) mV_X5_195 hPc hDc rfl rfl rfl hl rfl rfl (Nat.le_of_ble_eq_true rfl) ⟨(Nat.le_of_ble_eq_true rfl), (Nat.le_of_ble_eq_true rfl)⟩ ⟨(Nat.le_of_ble_eq_true rfl), (Nat.le_of_ble_eq_true rfl)⟩ dX5_part_59) (fun r27 u28 H locs hw hP hD hS => ?_)
          obtain ⟨v29, v30, v31⟩ := u28
          try dsimp only at hP hD hw
          replace hP : va_P (dC, dI) vwCl [(wo_4_iiiiiiirrrirrrrrir a_this_plan x_this_plan_cycle x_this_plan_green x_this_plan_rule x_this_plan_least x_this_plan_away x_this_plan_statements x_this_plan_kinds a_this_plan_calm a_this_plan_pace a_this_plan_trusts x_this_plan_walkers a_this_plan_kindOf a_this_plan_comesAt a_this_plan_comers a_this_plan_names a_this_plan_code x_this_plan_size a_this_plan_spans), (wi_0_1600_0 a_this_plan_code cy g_this_plan_code), (wo_5_riiiiirii a_this a_this_text x_this_length v29 v30 v31 x_this_allowed a_this_plan x_this_fault x_this_place), (wi_0_1600_0 a_this_text cy g_this_text)] H := hP
          replace hD := k_D hP hD
          obtain ⟨h32, h33, h34, h35, h36, h37⟩ := hw
          replace hq := lf_p1 hq h37
          replace hq := lf_p1 hq rfl
          replace hq := lf_p1 hq rfl
          refine lv_if_eq (tgt := 75) hx hb dX5_part_62 rfl (fun c38 => ?_) (fun c38 => ?_)
          · as_aux_lemma =>
              replace hq := lf_pos hq (lf_eq (lf_rf r27) (lf_lc 0 (0 : Int) rfl) c38)
              have h39 := ib_eq h32 (ib_c 0 0 0 rfl) c38
              have h40 : ib r27 0 0 := ib_w 0 0 h39.1 rfl
              refine lv_aload_n hx hb dX5_part_75 rfl (lv_at hl 0 rfl) ?_
              refine va_ldcS hx hb C0.2.2.2.1 (C0.2.2.2.2.2.2.2.2.2.2.2.2 18 (by decide)) dX5_part_76 ?_
              refine k_jim hP hD hS hA [2, 3] [true, true] rfl rfl rfl 0 0 (Nat.le_of_ble_eq_true rfl) (Nat.le_of_ble_eq_true rfl) (fun hPc hDc => k_runV (As := [.ref (sq 18)]) (rest := []) C0 hZ hS hA (s_X5_takeWord_s18 l dC dI cy sq a_this a_this_text g_this_text x_this_length v29 v30 v31 x_this_allowed a_this_plan x_this_fault x_this_place hg_this_text (ib_w 0 1600 hx_this_length rfl) (ib_w 0 1600 h33 rfl) (ib_w 0 1600 h34 rfl) (ib_w 0 4 h35 rfl) (fun hq9 => ib_w 0 1599 (h36 hq9) rfl)) mV_X5_195 hPc hDc rfl rfl rfl hl rfl rfl (Nat.le_of_ble_eq_true rfl) ⟨(Nat.le_of_ble_eq_true rfl), (Nat.le_of_ble_eq_true rfl)⟩ ⟨(Nat.le_of_ble_eq_true rfl), (Nat.le_of_ble_eq_true rfl)⟩ dX5_part_78) (fun r41 u42 H locs hw hP hD hS => ?_)
              obtain ⟨v43, v44, v45⟩ := u42
              try dsimp only at hP hD hw
              replace hP : va_P (dC, dI) vwCl [(wo_4_iiiiiiirrrirrrrrir a_this_plan x_this_plan_cycle x_this_plan_green x_this_plan_rule x_this_plan_least x_this_plan_away x_this_plan_statements x_this_plan_kinds a_this_plan_calm a_this_plan_pace a_this_plan_trusts x_this_plan_walkers a_this_plan_kindOf a_this_plan_comesAt a_this_plan_comers a_this_plan_names a_this_plan_code x_this_plan_size a_this_plan_spans), (wi_0_1600_0 a_this_plan_code cy g_this_plan_code), (wo_5_riiiiirii a_this a_this_text x_this_length v43 v44 v45 x_this_allowed a_this_plan x_this_fault x_this_place), (wi_0_1600_0 a_this_text cy g_this_text)] H := hP
              replace hD := k_D hP hD
              obtain ⟨h46, h47, h48, h49, h50, h51⟩ := hw
              replace hq := lf_p1 hq h51
              replace hq := lf_p1 hq rfl
              replace hq := lf_p1 hq rfl
              refine lv_if_eq (tgt := 94) hx hb dX5_part_81 rfl (fun c52 => ?_) (fun c52 => ?_)
              · as_aux_lemma =>
                  replace hq := lf_pos hq (lf_eq (lf_rf r41) (lf_lc 0 (0 : Int) rfl) c52)
                  have h53 := ib_eq h46 (ib_c 0 0 0 rfl) c52
                  have h54 : ib r41 0 0 := ib_w 0 0 h53.1 rfl
                  refine lv_aload_n hx hb dX5_part_94 rfl (lv_at hl 0 rfl) ?_
                  refine k_get C0 fg_X5_24 hP 2 rfl rfl dX5_part_95 ?_
                  refine lv_sipush (v := 3707) hx hb dX5_part_98 rfl ?_
                  refine lv_icmp_ne (tgt := 138) hx hb dX5_part_101 rfl (fun c55 => ?_) (fun c55 => ?_)
                  · replace hq := lf_neg hq (lf_ne (lf_rf x_this_allowed) (lf_lc 3707 (3707 : Int) rfl) c55)
                    exact jn138 v43 v44 v45 H locs ls (ib_w 0 1600 h47 rfl) (ib_w 0 1600 h48 rfl) (ib_w 0 4 h49 rfl) (fun hq9 => ib_w 0 1599 (h50 hq9) rfl) (by exact hq) (hP.sub [2, 3, 0, 1] rfl) (hD.sub [2, 3, 0, 1] rfl rfl) hS (lv_sub hl [0, 1] rfl)
                  · as_aux_lemma =>
                      replace hq := lf_pos hq (lf_eq (lf_rf x_this_allowed) (lf_lc 3707 (3707 : Int) rfl) c55)
                      have h56 := ib_eq (ib_any x_this_allowed) (ib_c 3707 3707 3707 rfl) c55
                      have h57 : ib x_this_allowed 3707 3707 := ib_w 3707 3707 h56.1 rfl
                      refine lv_aload_n hx hb dX5_part_104 rfl (lv_at hl 0 rfl) ?_
                      refine va_ldcS hx hb C0.2.2.2.1 (C0.2.2.2.2.2.2.2.2.2.2.2.2 19 (by decide)) dX5_part_105 ?_
                      refine k_jim hP hD hS hA [2, 3] [true, true] rfl rfl rfl 0 0 (Nat.le_of_ble_eq_true rfl) (Nat.le_of_ble_eq_true rfl) (fun hPc hDc => k_runV (As := [.ref (sq 19)]) (rest := []) C0 hZ hS hA (s_X5_wordIn_s19 l dC dI cy sq a_this a_this_text g_this_text x_this_length v43 v44 v45 x_this_allowed a_this_plan x_this_fault x_this_place hg_this_text (ib_w 0 1600 h47 rfl) (ib_w 0 1600 h48 rfl) (ib_w 0 4 h49 rfl) (fun hq9 => ib_w 0 1599 (h50 hq9) rfl)) mV_X5_54 hPc hDc rfl rfl rfl hl rfl rfl (Nat.le_of_ble_eq_true rfl) ⟨(Nat.le_of_ble_eq_true rfl), (Nat.le_of_ble_eq_true rfl)⟩ ⟨(Nat.le_of_ble_eq_true rfl), (Nat.le_of_ble_eq_true rfl)⟩ dX5_part_107) (fun r58 u59 H locs hw hP hD hS => ?_)
                      try dsimp only at hP hD hw
                      replace hP : va_P (dC, dI) vwCl [(wo_4_iiiiiiirrrirrrrrir a_this_plan x_this_plan_cycle x_this_plan_green x_this_plan_rule x_this_plan_least x_this_plan_away x_this_plan_statements x_this_plan_kinds a_this_plan_calm a_this_plan_pace a_this_plan_trusts x_this_plan_walkers a_this_plan_kindOf a_this_plan_comesAt a_this_plan_comers a_this_plan_names a_this_plan_code x_this_plan_size a_this_plan_spans), (wi_0_1600_0 a_this_plan_code cy g_this_plan_code), (wo_5_riiiiirii a_this a_this_text x_this_length v43 v44 v45 x_this_allowed a_this_plan x_this_fault x_this_place), (wi_0_1600_0 a_this_text cy g_this_text)] H := hP
                      replace hD := k_D hP hD
                      have h60 := hw
                      replace hq := lf_b1 hq h60
                      refine lv_iconst (v := (-1)) hx hb dX5_part_110 rfl ?_
                      refine lv_icmp_eq (tgt := 138) hx hb dX5_part_111 rfl (fun c61 => ?_) (fun c61 => ?_)
                      · replace hq := lf_pos hq (lf_eq (lf_rf r58) (lf_lc (-1) (-1 : Int) rfl) c61)
                        have h62 := ib_eq (ib_any r58) (ib_c (-1) (-1) (-1) rfl) c61
                        have h63 : ib r58 (-1) (-1) := ib_w (-1) (-1) h62.1 rfl
                        exact jn138 v43 v44 v45 H locs ls (ib_w 0 1600 h47 rfl) (ib_w 0 1600 h48 rfl) (ib_w 0 4 h49 rfl) (fun hq9 => ib_w 0 1599 (h50 hq9) rfl) (by exact hq) (hP.sub [2, 3, 0, 1] rfl) (hD.sub [2, 3, 0, 1] rfl rfl) hS (lv_sub hl [0, 1] rfl)
                      · as_aux_lemma =>
                          replace hq := lf_neg hq (lf_ne (lf_rf r58) (lf_lc (-1) (-1 : Int) rfl) c61)
                          refine lv_aload_n hx hb dX5_part_114 rfl (lv_at hl 0 rfl) ?_
                          refine lv_iload_n hx hb dX5_part_115 rfl (lv_at hl 1 rfl) ?_
                          refine k_jim hP hD hS hA [2, 3] [true, true] rfl rfl rfl 0 0 (Nat.le_of_ble_eq_true rfl) (Nat.le_of_ble_eq_true rfl) (fun hPc hDc => k_runV (As := [.int 2]) (rest := []) C0 hZ hS hA (s_X5_enters_a0_2 l dC dI cy sq a_this a_this_text g_this_text x_this_length v43 v44 v45 x_this_allowed a_this_plan x_this_fault x_this_place hg_this_text (ib_w 0 1600 hx_this_length rfl) (ib_w 0 1600 h48 rfl)) mV_X5_209 hPc hDc rfl rfl rfl hl rfl rfl (Nat.le_of_ble_eq_true rfl) ⟨(Nat.le_of_ble_eq_true rfl), (Nat.le_of_ble_eq_true rfl)⟩ ⟨(Nat.le_of_ble_eq_true rfl), (Nat.le_of_ble_eq_true rfl)⟩ dX5_part_116) (fun r64 u65 H locs hw hP hD hS => ?_)
                          obtain ⟨v66, v67, v68⟩ := u65
                          try dsimp only at hP hD hw
                          replace hP : va_P (dC, dI) vwCl [(wo_4_iiiiiiirrrirrrrrir a_this_plan x_this_plan_cycle x_this_plan_green x_this_plan_rule x_this_plan_least x_this_plan_away x_this_plan_statements x_this_plan_kinds a_this_plan_calm a_this_plan_pace a_this_plan_trusts x_this_plan_walkers a_this_plan_kindOf a_this_plan_comesAt a_this_plan_comers a_this_plan_names a_this_plan_code x_this_plan_size a_this_plan_spans), (wi_0_1600_0 a_this_plan_code cy g_this_plan_code), (wo_5_riiiiirii a_this a_this_text x_this_length v66 v67 v68 x_this_allowed a_this_plan x_this_fault x_this_place), (wi_0_1600_0 a_this_text cy g_this_text)] H := hP
                          replace hD := k_D hP hD
                          obtain ⟨h69, h70, h71, h72, h73, h74⟩ := hw
                          replace hq := lf_p1 hq h74
                          replace hq := lf_p1 hq rfl
                          replace hq := lf_p1 hq rfl
                          refine lv_if_eq (tgt := 142) hx hb dX5_part_119 rfl (fun c75 => ?_) (fun c75 => ?_)
                          · skip
                            have h76 := ib_eq h69 (ib_c 0 0 0 rfl) c75
                            exact ib_no (ib_w 1 0 h76.1 rfl) rfl
                          · as_aux_lemma =>
                              skip
                              refine lv_aload_n hx hb dX5_part_122 rfl (lv_at hl 0 rfl) ?_
                              refine lv_iload_n hx hb dX5_part_123 rfl (lv_at hl 1 rfl) ?_
                              refine lv_iconst (v := 1) hx hb dX5_part_124 rfl ?_
                              refine lv_iadd hx hb dX5_part_125 ?_
                              refine k_topi (y := 3) (by decide) ?_
                              refine k_jvm hP hD hS hA [2, 3, 0, 1] [] rfl rfl rfl 0 0 (Nat.le_of_ble_eq_true rfl) (Nat.le_of_ble_eq_true rfl) (fun hPc hDc => k_runV (As := [.int 3]) (rest := []) C0 hZ hS hA (s_X5_part_a0_3 l dC dI cy sq a_this a_this_text g_this_text x_this_length v66 v67 v68 x_this_allowed a_this_plan x_this_plan_cycle x_this_plan_green x_this_plan_rule x_this_plan_least x_this_plan_away x_this_plan_statements x_this_plan_kinds a_this_plan_calm a_this_plan_pace a_this_plan_trusts x_this_plan_walkers a_this_plan_kindOf a_this_plan_comesAt a_this_plan_comers a_this_plan_names a_this_plan_code g_this_plan_code x_this_plan_size a_this_plan_spans x_this_fault x_this_place hg_this_text (ib_w 0 1600 hx_this_length rfl) (ib_w 0 1600 h70 rfl) (ib_w 0 1600 h71 rfl) (ib_w 0 4 h72 rfl) (ib_w 0 1600 hx_this_plan_size rfl) (fun hq9 => ib_w 0 1599 (h73 hq9) rfl)) mV_X5_225 hPc hDc rfl rfl rfl hl rfl rfl (Nat.le_of_ble_eq_true rfl) ⟨(Nat.le_of_ble_eq_true rfl), (Nat.le_of_ble_eq_true rfl)⟩ ⟨(Nat.le_of_ble_eq_true rfl), (Nat.le_of_ble_eq_true rfl)⟩ dX5_part_126) (fun u78 H locs hw hP hD hS => ?_)
                              obtain ⟨v79, v80, v81, v82, v83, v84, f85⟩ := u78
                              try dsimp only at hP hD hw
                              replace hP : va_P (dC, dI) vwCl [(wo_5_riiiiirii a_this a_this_text x_this_length v79 v80 v81 x_this_allowed a_this_plan v82 v83), (wi_0_1600_0 a_this_text cy g_this_text), (wo_4_iiiiiiirrrirrrrrir a_this_plan x_this_plan_cycle x_this_plan_green x_this_plan_rule x_this_plan_least x_this_plan_away x_this_plan_statements x_this_plan_kinds a_this_plan_calm a_this_plan_pace a_this_plan_trusts x_this_plan_walkers a_this_plan_kindOf a_this_plan_comesAt a_this_plan_comers a_this_plan_names a_this_plan_code v84 a_this_plan_spans), (wi_0_1600_0 a_this_plan_code cy f85)] H := hP
                              replace hD := k_D hP hD
                              obtain ⟨h86, h87, h88, h89, h90, h91⟩ := hw
                              replace hq := lf_p1 hq h91
                              replace hq := lf_p1 hq rfl
                              replace hq := lf_p1 hq rfl
                              replace hq := lf_p1 hq rfl
                              replace hq := lf_p1 hq rfl
                              replace hq := lf_p1 hq rfl
                              refine lv_aload_n hx hb dX5_part_129 rfl (lv_at hl 0 rfl) ?_
                              refine lv_bipush (v := (-32)) hx hb dX5_part_130 rfl ?_
                              refine k_jvm hP hD hS hA [0, 2, 3] [false, true] rfl rfl rfl 0 0 (Nat.le_of_ble_eq_true rfl) (Nat.le_of_ble_eq_true rfl) (fun hPc hDc => k_runV (As := [.int (-32)]) (rest := []) C0 hZ hS hA (s_X5_emit l dC dI cy sq a_this a_this_text x_this_length v79 v80 v81 x_this_allowed a_this_plan x_this_plan_cycle x_this_plan_green x_this_plan_rule x_this_plan_least x_this_plan_away x_this_plan_statements x_this_plan_kinds a_this_plan_calm a_this_plan_pace a_this_plan_trusts x_this_plan_walkers a_this_plan_kindOf a_this_plan_comesAt a_this_plan_comers a_this_plan_names a_this_plan_code f85 v84 a_this_plan_spans v82 v83 (-32) (ib_w 0 1600 h89 rfl)) mV_X5_199 hPc hDc rfl rfl rfl hl rfl rfl (Nat.le_of_ble_eq_true rfl) ⟨(Nat.le_of_ble_eq_true rfl), (Nat.le_of_ble_eq_true rfl)⟩ ⟨(Nat.le_of_ble_eq_true rfl), (Nat.le_of_ble_eq_true rfl)⟩ dX5_part_132) (fun u93 H locs hw hP hD hS => ?_)
                              obtain ⟨v94, f95⟩ := u93
                              try dsimp only at hP hD hw
                              replace hP : va_P (dC, dI) vwCl [(wi_0_1600_0 a_this_text cy g_this_text), (wo_5_riiiiirii a_this a_this_text x_this_length v79 v80 v81 x_this_allowed a_this_plan v82 v83), (wo_4_iiiiiiirrrirrrrrir a_this_plan x_this_plan_cycle x_this_plan_green x_this_plan_rule x_this_plan_least x_this_plan_away x_this_plan_statements x_this_plan_kinds a_this_plan_calm a_this_plan_pace a_this_plan_trusts x_this_plan_walkers a_this_plan_kindOf a_this_plan_comesAt a_this_plan_comers a_this_plan_names a_this_plan_code v94 a_this_plan_spans), (wi_0_1600_0 a_this_plan_code cy f95)] H := hP
                              replace hD := k_D hP hD
                              obtain ⟨h96, h97⟩ := hw
                              have h97 := by have h9 := h97; try simp only [show ((-32) : Int32).toInt = (-32 : Int) from rfl] at h9; exact h9
                              replace hq := lf_p1 hq h97
                              refine lv_goto (tgt := 142) hx hb dX5_part_135 rfl ?_
                              subst hQ; exact k_vret hx hb hr hlk ((v79, v80, v81, v82, v83, v94, f95)) hS ⟨ib_w 0 1600 h86 rfl, ib_w 0 1600 h87 rfl, ib_w 0 4 h88 rfl, ib_w 0 1600 h96 rfl, fun hq9 => ib_w 0 1599 (h90 hq9) rfl, (hO.symm.trans (by exact hq))⟩ (hP.sub [1, 0, 2, 3] rfl) (hD.sub [1, 0, 2, 3] rfl rfl) (Nat.le_of_ble_eq_true rfl) (Nat.le_of_ble_eq_true rfl) dX5_part_142
              · as_aux_lemma =>
                  replace hq := lf_neg hq (lf_ne (lf_rf r41) (lf_lc 0 (0 : Int) rfl) c52)
                  have h98 : ib r41 1 1 := ib_w 1 1 (ib_ne_lo 0 h46 rfl c52) rfl
                  refine lv_aload_n hx hb dX5_part_84 rfl (lv_at hl 0 rfl) ?_
                  refine lv_iload_n hx hb dX5_part_85 rfl (lv_at hl 1 rfl) ?_
                  refine lv_bipush (v := (-25)) hx hb dX5_part_86 rfl ?_
                  refine k_jvm hP hD hS hA [2, 3, 0, 1] [] rfl rfl rfl 0 0 (Nat.le_of_ble_eq_true rfl) (Nat.le_of_ble_eq_true rfl) (fun hPc hDc => k_runV (As := [.int 2, .int (-25)]) (rest := []) C0 hZ hS hA (s_X5_pair_a0_2 l dC dI cy sq a_this a_this_text g_this_text x_this_length v43 v44 v45 x_this_allowed a_this_plan x_this_plan_cycle x_this_plan_green x_this_plan_rule x_this_plan_least x_this_plan_away x_this_plan_statements x_this_plan_kinds a_this_plan_calm a_this_plan_pace a_this_plan_trusts x_this_plan_walkers a_this_plan_kindOf a_this_plan_comesAt a_this_plan_comers a_this_plan_names a_this_plan_code g_this_plan_code x_this_plan_size a_this_plan_spans x_this_fault x_this_place (-25) hg_this_text (ib_w 0 1600 hx_this_length rfl) (ib_w 0 1600 h47 rfl) (ib_w 0 1600 h48 rfl) (ib_w 0 4 h49 rfl) (ib_w 0 1600 hx_this_plan_size rfl) (fun hq9 => ib_w 0 1599 (h50 hq9) rfl)) mV_X5_229 hPc hDc rfl rfl rfl hl rfl rfl (Nat.le_of_ble_eq_true rfl) ⟨(Nat.le_of_ble_eq_true rfl), (Nat.le_of_ble_eq_true rfl)⟩ ⟨(Nat.le_of_ble_eq_true rfl), (Nat.le_of_ble_eq_true rfl)⟩ dX5_part_88) (fun u100 H locs hw hP hD hS => ?_)
                  obtain ⟨v101, v102, v103, v104, v105, v106, f107⟩ := u100
                  try dsimp only at hP hD hw
                  replace hP : va_P (dC, dI) vwCl [(wo_5_riiiiirii a_this a_this_text x_this_length v101 v102 v103 x_this_allowed a_this_plan v104 v105), (wi_0_1600_0 a_this_text cy g_this_text), (wo_4_iiiiiiirrrirrrrrir a_this_plan x_this_plan_cycle x_this_plan_green x_this_plan_rule x_this_plan_least x_this_plan_away x_this_plan_statements x_this_plan_kinds a_this_plan_calm a_this_plan_pace a_this_plan_trusts x_this_plan_walkers a_this_plan_kindOf a_this_plan_comesAt a_this_plan_comers a_this_plan_names a_this_plan_code v106 a_this_plan_spans), (wi_0_1600_0 a_this_plan_code cy f107)] H := hP
                  replace hD := k_D hP hD
                  obtain ⟨h108, h109, h110, h111, h112, h113⟩ := hw
                  have h113 := by have h9 := h113; try simp only [show ((-25) : Int32).toInt = (-25 : Int) from rfl] at h9; exact h9
                  replace hq := lf_p1 hq h113
                  replace hq := lf_p1 hq rfl
                  replace hq := lf_p1 hq rfl
                  replace hq := lf_p1 hq rfl
                  replace hq := lf_p1 hq rfl
                  replace hq := lf_p1 hq rfl
                  refine lv_goto (tgt := 142) hx hb dX5_part_91 rfl ?_
                  subst hQ; exact k_vret hx hb hr hlk ((v101, v102, v103, v104, v105, v106, f107)) hS ⟨ib_w 0 1600 h108 rfl, ib_w 0 1600 h109 rfl, ib_w 0 4 h110 rfl, ib_w 0 1600 h111 rfl, fun hq9 => ib_w 0 1599 (h112 hq9) rfl, (hO.symm.trans (by exact hq))⟩ hP hD (Nat.le_of_ble_eq_true rfl) (Nat.le_of_ble_eq_true rfl) dX5_part_142
          · as_aux_lemma =>
              replace hq := lf_neg hq (lf_ne (lf_rf r27) (lf_lc 0 (0 : Int) rfl) c38)
              have h114 : ib r27 1 1 := ib_w 1 1 (ib_ne_lo 0 h32 rfl c38) rfl
              refine lv_aload_n hx hb dX5_part_65 rfl (lv_at hl 0 rfl) ?_
              refine lv_iload_n hx hb dX5_part_66 rfl (lv_at hl 1 rfl) ?_
              refine lv_bipush (v := (-24)) hx hb dX5_part_67 rfl ?_
              refine k_jvm hP hD hS hA [2, 3, 0, 1] [] rfl rfl rfl 0 0 (Nat.le_of_ble_eq_true rfl) (Nat.le_of_ble_eq_true rfl) (fun hPc hDc => k_runV (As := [.int 2, .int (-24)]) (rest := []) C0 hZ hS hA (s_X5_pair_a0_2 l dC dI cy sq a_this a_this_text g_this_text x_this_length v29 v30 v31 x_this_allowed a_this_plan x_this_plan_cycle x_this_plan_green x_this_plan_rule x_this_plan_least x_this_plan_away x_this_plan_statements x_this_plan_kinds a_this_plan_calm a_this_plan_pace a_this_plan_trusts x_this_plan_walkers a_this_plan_kindOf a_this_plan_comesAt a_this_plan_comers a_this_plan_names a_this_plan_code g_this_plan_code x_this_plan_size a_this_plan_spans x_this_fault x_this_place (-24) hg_this_text (ib_w 0 1600 hx_this_length rfl) (ib_w 0 1600 h33 rfl) (ib_w 0 1600 h34 rfl) (ib_w 0 4 h35 rfl) (ib_w 0 1600 hx_this_plan_size rfl) (fun hq9 => ib_w 0 1599 (h36 hq9) rfl)) mV_X5_229 hPc hDc rfl rfl rfl hl rfl rfl (Nat.le_of_ble_eq_true rfl) ⟨(Nat.le_of_ble_eq_true rfl), (Nat.le_of_ble_eq_true rfl)⟩ ⟨(Nat.le_of_ble_eq_true rfl), (Nat.le_of_ble_eq_true rfl)⟩ dX5_part_69) (fun u116 H locs hw hP hD hS => ?_)
              obtain ⟨v117, v118, v119, v120, v121, v122, f123⟩ := u116
              try dsimp only at hP hD hw
              replace hP : va_P (dC, dI) vwCl [(wo_5_riiiiirii a_this a_this_text x_this_length v117 v118 v119 x_this_allowed a_this_plan v120 v121), (wi_0_1600_0 a_this_text cy g_this_text), (wo_4_iiiiiiirrrirrrrrir a_this_plan x_this_plan_cycle x_this_plan_green x_this_plan_rule x_this_plan_least x_this_plan_away x_this_plan_statements x_this_plan_kinds a_this_plan_calm a_this_plan_pace a_this_plan_trusts x_this_plan_walkers a_this_plan_kindOf a_this_plan_comesAt a_this_plan_comers a_this_plan_names a_this_plan_code v122 a_this_plan_spans), (wi_0_1600_0 a_this_plan_code cy f123)] H := hP
              replace hD := k_D hP hD
              obtain ⟨h124, h125, h126, h127, h128, h129⟩ := hw
              have h129 := by have h9 := h129; try simp only [show ((-24) : Int32).toInt = (-24 : Int) from rfl] at h9; exact h9
              replace hq := lf_p1 hq h129
              replace hq := lf_p1 hq rfl
              replace hq := lf_p1 hq rfl
              replace hq := lf_p1 hq rfl
              replace hq := lf_p1 hq rfl
              replace hq := lf_p1 hq rfl
              refine lv_goto (tgt := 142) hx hb dX5_part_72 rfl ?_
              subst hQ; exact k_vret hx hb hr hlk ((v117, v118, v119, v120, v121, v122, f123)) hS ⟨ib_w 0 1600 h124 rfl, ib_w 0 1600 h125 rfl, ib_w 0 4 h126 rfl, ib_w 0 1600 h127 rfl, fun hq9 => ib_w 0 1599 (h128 hq9) rfl, (hO.symm.trans (by exact hq))⟩ hP hD (Nat.le_of_ble_eq_true rfl) (Nat.le_of_ble_eq_true rfl) dX5_part_142
      · as_aux_lemma =>
          replace hq := lf_neg hq (lf_ne (lf_rf r17) (lf_lc 0 (0 : Int) rfl) c24)
          have h130 : ib r17 1 1 := ib_w 1 1 (ib_ne_lo 0 h19 rfl c24) rfl
          have h131 : ib x_this_at 0 1599 := ib_w 0 1599 (ib_two hx_this_at (h20 c24)) rfl
          have h132 : ib x_this_sort 3 3 := ib_w 3 3 (ib_two hx_this_sort (h21 c24)) rfl
          refine lv_aload_n hx hb dX5_part_32 rfl (lv_at hl 0 rfl) ?_
          refine lv_iload_n hx hb dX5_part_33 rfl (lv_at hl 1 rfl) ?_
          refine k_jim hP hD hS hA [2, 3] [true, true] rfl rfl rfl 0 0 (Nat.le_of_ble_eq_true rfl) (Nat.le_of_ble_eq_true rfl) (fun hPc hDc => k_runV (As := [.int 2]) (rest := []) C0 hZ hS hA (s_X5_enters_a0_2 l dC dI cy sq a_this a_this_text g_this_text x_this_length x_this_at x_this_behind x_this_sort x_this_allowed a_this_plan x_this_fault x_this_place hg_this_text (ib_w 0 1600 hx_this_length rfl) (ib_w 0 1600 hx_this_behind rfl)) mV_X5_209 hPc hDc rfl rfl rfl hl rfl rfl (Nat.le_of_ble_eq_true rfl) ⟨(Nat.le_of_ble_eq_true rfl), (Nat.le_of_ble_eq_true rfl)⟩ ⟨(Nat.le_of_ble_eq_true rfl), (Nat.le_of_ble_eq_true rfl)⟩ dX5_part_34) (fun r133 u134 H locs hw hP hD hS => ?_)
          obtain ⟨v135, v136, v137⟩ := u134
          try dsimp only at hP hD hw
          replace hP : va_P (dC, dI) vwCl [(wo_4_iiiiiiirrrirrrrrir a_this_plan x_this_plan_cycle x_this_plan_green x_this_plan_rule x_this_plan_least x_this_plan_away x_this_plan_statements x_this_plan_kinds a_this_plan_calm a_this_plan_pace a_this_plan_trusts x_this_plan_walkers a_this_plan_kindOf a_this_plan_comesAt a_this_plan_comers a_this_plan_names a_this_plan_code x_this_plan_size a_this_plan_spans), (wi_0_1600_0 a_this_plan_code cy g_this_plan_code), (wo_5_riiiiirii a_this a_this_text x_this_length v135 v136 v137 x_this_allowed a_this_plan x_this_fault x_this_place), (wi_0_1600_0 a_this_text cy g_this_text)] H := hP
          replace hD := k_D hP hD
          obtain ⟨h138, h139, h140, h141, h142, h143⟩ := hw
          replace hq := lf_p1 hq h143
          replace hq := lf_p1 hq rfl
          replace hq := lf_p1 hq rfl
          refine lv_if_eq (tgt := 142) hx hb dX5_part_37 rfl (fun c144 => ?_) (fun c144 => ?_)
          · skip
            have h145 := ib_eq h138 (ib_c 0 0 0 rfl) c144
            exact ib_no (ib_w 1 0 h145.1 rfl) rfl
          · as_aux_lemma =>
              skip
              refine lv_aload_n hx hb dX5_part_40 rfl (lv_at hl 0 rfl) ?_
              refine lv_iload_n hx hb dX5_part_41 rfl (lv_at hl 1 rfl) ?_
              refine lv_iconst (v := 1) hx hb dX5_part_42 rfl ?_
              refine lv_iadd hx hb dX5_part_43 ?_
              refine k_topi (y := 3) (by decide) ?_
              refine k_jvm hP hD hS hA [2, 3, 0, 1] [] rfl rfl rfl 0 0 (Nat.le_of_ble_eq_true rfl) (Nat.le_of_ble_eq_true rfl) (fun hPc hDc => k_runV (As := [.int 3]) (rest := []) C0 hZ hS hA (s_X5_sum_a0_3 l dC dI cy sq a_this a_this_text g_this_text x_this_length v135 v136 v137 x_this_allowed a_this_plan x_this_plan_cycle x_this_plan_green x_this_plan_rule x_this_plan_least x_this_plan_away x_this_plan_statements x_this_plan_kinds a_this_plan_calm a_this_plan_pace a_this_plan_trusts x_this_plan_walkers a_this_plan_kindOf a_this_plan_comesAt a_this_plan_comers a_this_plan_names a_this_plan_code g_this_plan_code x_this_plan_size a_this_plan_spans x_this_fault x_this_place hg_this_text (ib_w 0 1600 hx_this_length rfl) (ib_w 0 1600 h139 rfl) (ib_w 0 1600 h140 rfl) (ib_w 0 4 h141 rfl) (ib_w 0 1600 hx_this_plan_size rfl) (fun hq9 => ib_w 0 1599 (h142 hq9) rfl)) mV_X5_93 hPc hDc rfl rfl rfl hl rfl rfl (Nat.le_of_ble_eq_true rfl) ⟨(Nat.le_of_ble_eq_true rfl), (Nat.le_of_ble_eq_true rfl)⟩ ⟨(Nat.le_of_ble_eq_true rfl), (Nat.le_of_ble_eq_true rfl)⟩ dX5_part_44) (fun u147 H locs hw hP hD hS => ?_)
              obtain ⟨v148, v149, v150, v151, v152, v153, f154⟩ := u147
              try dsimp only at hP hD hw
              replace hP : va_P (dC, dI) vwCl [(wo_5_riiiiirii a_this a_this_text x_this_length v148 v149 v150 x_this_allowed a_this_plan v151 v152), (wi_0_1600_0 a_this_text cy g_this_text), (wo_4_iiiiiiirrrirrrrrir a_this_plan x_this_plan_cycle x_this_plan_green x_this_plan_rule x_this_plan_least x_this_plan_away x_this_plan_statements x_this_plan_kinds a_this_plan_calm a_this_plan_pace a_this_plan_trusts x_this_plan_walkers a_this_plan_kindOf a_this_plan_comesAt a_this_plan_comers a_this_plan_names a_this_plan_code v153 a_this_plan_spans), (wi_0_1600_0 a_this_plan_code cy f154)] H := hP
              replace hD := k_D hP hD
              obtain ⟨h155, h156, h157, h158, h159, h160⟩ := hw
              replace hq := lf_p1 hq h160
              replace hq := lf_p1 hq rfl
              replace hq := lf_p1 hq rfl
              replace hq := lf_p1 hq rfl
              replace hq := lf_p1 hq rfl
              replace hq := lf_p1 hq rfl
              refine lv_aload_n hx hb dX5_part_47 rfl (lv_at hl 0 rfl) ?_
              refine lv_bipush (v := 41) hx hb dX5_part_48 rfl ?_
              refine k_jvm hP hD hS hA [0, 1] [false, false, true, true] rfl rfl rfl 0 0 (Nat.le_of_ble_eq_true rfl) (Nat.le_of_ble_eq_true rfl) (fun hPc hDc => k_runV (As := [.int 41]) (rest := []) C0 hZ hS hA (s_X5_need l dC dI cy sq a_this a_this_text g_this_text x_this_length v148 v149 v150 x_this_allowed a_this_plan v151 v152 41 hg_this_text (ib_w 0 1600 hx_this_length rfl) (ib_w 0 1600 h155 rfl) (ib_w 0 1600 h156 rfl) (ib_w 0 4 h157 rfl) (fun hq9 => ib_w 0 1599 (h159 hq9) rfl)) mV_X5_48 hPc hDc rfl rfl rfl hl rfl rfl (Nat.le_of_ble_eq_true rfl) ⟨(Nat.le_of_ble_eq_true rfl), (Nat.le_of_ble_eq_true rfl)⟩ ⟨(Nat.le_of_ble_eq_true rfl), (Nat.le_of_ble_eq_true rfl)⟩ dX5_part_50) (fun u162 H locs hw hP hD hS => ?_)
              obtain ⟨v163, v164, v165, v166, v167⟩ := u162
              try dsimp only at hP hD hw
              replace hP : va_P (dC, dI) vwCl [(wo_4_iiiiiiirrrirrrrrir a_this_plan x_this_plan_cycle x_this_plan_green x_this_plan_rule x_this_plan_least x_this_plan_away x_this_plan_statements x_this_plan_kinds a_this_plan_calm a_this_plan_pace a_this_plan_trusts x_this_plan_walkers a_this_plan_kindOf a_this_plan_comesAt a_this_plan_comers a_this_plan_names a_this_plan_code v153 a_this_plan_spans), (wi_0_1600_0 a_this_plan_code cy f154), (wo_5_riiiiirii a_this a_this_text x_this_length v163 v164 v165 x_this_allowed a_this_plan v166 v167), (wi_0_1600_0 a_this_text cy g_this_text)] H := hP
              replace hD := k_D hP hD
              obtain ⟨h168, h169, h170, h171, h172⟩ := hw
              have h172 := by have h9 := h172; try simp only [show (41 : Int32).toInt = (41 : Int) from rfl] at h9; exact h9
              replace hq := lf_p1 hq h172
              replace hq := lf_p1 hq rfl
              replace hq := lf_p1 hq rfl
              replace hq := lf_p1 hq rfl
              refine lv_goto (tgt := 142) hx hb dX5_part_53 rfl ?_
              subst hQ; exact k_vret hx hb hr hlk ((v163, v164, v165, v166, v167, v153, f154)) hS ⟨ib_w 0 1600 h168 rfl, ib_w 0 1600 h169 rfl, ib_w 0 4 h170 rfl, ib_w 0 1600 h158 rfl, fun hq9 => ib_w 0 1599 (h171 hq9) rfl, (hO.symm.trans (by exact hq))⟩ (hP.sub [2, 3, 0, 1] rfl) (hD.sub [2, 3, 0, 1] rfl rfl) (Nat.le_of_ble_eq_true rfl) (Nat.le_of_ble_eq_true rfl) dX5_part_142
  · as_aux_lemma =>
      replace hq := lf_pos hq (lf_eq (lf_rf x_this_sort) (lf_lc 2 (2 : Int) rfl) c16)
      have h173 := ib_eq hx_this_sort (ib_c 2 2 2 rfl) c16
      have h174 : ib x_this_sort 2 2 := ib_w 2 2 h173.1 rfl
      have h175 : ib x_this_at 0 1599 := ib_w 0 1599 (ib_two hx_this_at (hc0_this (ib_nz h174 rfl))) rfl
      refine lv_aload_n hx hb dX5_part_8 rfl (lv_at hl 0 rfl) ?_
      refine lv_aload_n hx hb dX5_part_9 rfl (lv_at hl 0 rfl) ?_
      refine lv_iconst (v := 0) hx hb dX5_part_10 rfl ?_
      refine lv_sipush (v := 9999) hx hb dX5_part_11 rfl ?_
      refine k_jim hP hD hS hA [0, 1] [false, false, true, true] rfl rfl rfl 0 0 (Nat.le_of_ble_eq_true rfl) (Nat.le_of_ble_eq_true rfl) (fun hPc hDc => k_runV (As := [.int 0, .int 9999]) (rest := [.ref a_this]) C0 hZ hS hA (s_X5_number_a0_0_a1_9999 l dC dI cy sq a_this a_this_text g_this_text x_this_length x_this_at x_this_behind x_this_sort x_this_allowed a_this_plan x_this_fault x_this_place hg_this_text (ib_w 0 1600 hx_this_length rfl) (ib_w 0 1600 h175 rfl) (ib_w 0 1600 hx_this_behind rfl) (ib_w 0 4 h174 rfl) (fun _ => ib_w 0 1599 h175 rfl)) mV_X5_168 hPc hDc rfl rfl rfl hl rfl rfl (Nat.le_of_ble_eq_true rfl) ⟨(Nat.le_of_ble_eq_true rfl), (Nat.le_of_ble_eq_true rfl)⟩ ⟨(Nat.le_of_ble_eq_true rfl), (Nat.le_of_ble_eq_true rfl)⟩ dX5_part_14) (fun r176 u177 H locs hw hP hD hS => ?_)
      obtain ⟨v178, v179, v180, v181, v182⟩ := u177
      try dsimp only at hP hD hw
      replace hP : va_P (dC, dI) vwCl [(wo_4_iiiiiiirrrirrrrrir a_this_plan x_this_plan_cycle x_this_plan_green x_this_plan_rule x_this_plan_least x_this_plan_away x_this_plan_statements x_this_plan_kinds a_this_plan_calm a_this_plan_pace a_this_plan_trusts x_this_plan_walkers a_this_plan_kindOf a_this_plan_comesAt a_this_plan_comers a_this_plan_names a_this_plan_code x_this_plan_size a_this_plan_spans), (wi_0_1600_0 a_this_plan_code cy g_this_plan_code), (wo_5_riiiiirii a_this a_this_text x_this_length v178 v179 v180 x_this_allowed a_this_plan v181 v182), (wi_0_1600_0 a_this_text cy g_this_text)] H := hP
      replace hD := k_D hP hD
      obtain ⟨h183, h184, h185, h186, h187, h188⟩ := hw
      replace hq := lf_p1 hq h188
      replace hq := lf_p1 hq rfl
      replace hq := lf_p1 hq rfl
      replace hq := lf_p1 hq rfl
      replace hq := lf_p1 hq rfl
      refine k_jvm hP hD hS hA [2, 0, 1] [false, false, false, true] rfl rfl rfl 0 0 (Nat.le_of_ble_eq_true rfl) (Nat.le_of_ble_eq_true rfl) (fun hPc hDc => k_runV (As := [.int r176]) (rest := []) C0 hZ hS hA (s_X5_emit l dC dI cy sq a_this a_this_text x_this_length v178 v179 v180 x_this_allowed a_this_plan x_this_plan_cycle x_this_plan_green x_this_plan_rule x_this_plan_least x_this_plan_away x_this_plan_statements x_this_plan_kinds a_this_plan_calm a_this_plan_pace a_this_plan_trusts x_this_plan_walkers a_this_plan_kindOf a_this_plan_comesAt a_this_plan_comers a_this_plan_names a_this_plan_code g_this_plan_code x_this_plan_size a_this_plan_spans v181 v182 r176 (ib_w 0 1600 hx_this_plan_size rfl)) mV_X5_199 hPc hDc rfl rfl rfl hl rfl rfl (Nat.le_of_ble_eq_true rfl) ⟨(Nat.le_of_ble_eq_true rfl), (Nat.le_of_ble_eq_true rfl)⟩ ⟨(Nat.le_of_ble_eq_true rfl), (Nat.le_of_ble_eq_true rfl)⟩ dX5_part_17) (fun u190 H locs hw hP hD hS => ?_)
      obtain ⟨v191, f192⟩ := u190
      try dsimp only at hP hD hw
      replace hP : va_P (dC, dI) vwCl [(wi_0_1600_0 a_this_text cy g_this_text), (wo_5_riiiiirii a_this a_this_text x_this_length v178 v179 v180 x_this_allowed a_this_plan v181 v182), (wo_4_iiiiiiirrrirrrrrir a_this_plan x_this_plan_cycle x_this_plan_green x_this_plan_rule x_this_plan_least x_this_plan_away x_this_plan_statements x_this_plan_kinds a_this_plan_calm a_this_plan_pace a_this_plan_trusts x_this_plan_walkers a_this_plan_kindOf a_this_plan_comesAt a_this_plan_comers a_this_plan_names a_this_plan_code v191 a_this_plan_spans), (wi_0_1600_0 a_this_plan_code cy f192)] H := hP
      replace hD := k_D hP hD
      obtain ⟨h193, h194⟩ := hw
      replace hq := lf_p1 hq h194
      refine lv_goto (tgt := 142) hx hb dX5_part_20 rfl ?_
      subst hQ; exact k_vret hx hb hr hlk ((v178, v179, v180, v181, v182, v191, f192)) hS ⟨ib_w 0 1600 h184 rfl, ib_w 0 1600 h185 rfl, ib_w 0 4 h186 rfl, ib_w 0 1600 h193 rfl, fun hq9 => ib_w 0 1599 (h187 hq9) rfl, (hO.symm.trans (by exact hq))⟩ (hP.sub [1, 0, 2, 3] rfl) (hD.sub [1, 0, 2, 3] rfl rfl) (Nat.le_of_ble_eq_true rfl) (Nat.le_of_ble_eq_true rfl) dX5_part_142
set_option maxHeartbeats 4000000 in
set_option maxRecDepth 100000 in
theorem s_X5_product_a0_2 (l : Launch) (dC : Nat → ClassId) (dI : Nat → Nat → Nat) (cy : Nat → ClassId) (sq : Nat → Nat) (a_this : Nat) (a_this_text : Nat) (g_this_text : Nat → Int32) (x_this_length : Int32) (x_this_at : Int32) (x_this_behind : Int32) (x_this_sort : Int32) (x_this_allowed : Int32) (a_this_plan : Nat) (x_this_plan_cycle : Int32) (x_this_plan_green : Int32) (x_this_plan_rule : Int32) (x_this_plan_least : Int32) (x_this_plan_away : Int32) (x_this_plan_statements : Int32) (x_this_plan_kinds : Int32) (a_this_plan_calm : Nat) (a_this_plan_pace : Nat) (a_this_plan_trusts : Nat) (x_this_plan_walkers : Int32) (a_this_plan_kindOf : Nat) (a_this_plan_comesAt : Nat) (a_this_plan_comers : Nat) (a_this_plan_names : Nat) (a_this_plan_code : Nat) (g_this_plan_code : Nat → Int32) (x_this_plan_size : Int32) (a_this_plan_spans : Nat) (x_this_fault : Int32) (x_this_place : Int32) (hg_this_text : ia g_this_text 1600 0 255) (hx_this_length : ib x_this_length 0 1600) (hx_this_at : ib x_this_at 0 1600) (hx_this_behind : ib x_this_behind 0 1600) (hx_this_sort : ib x_this_sort 0 4) (hx_this_plan_size : ib x_this_plan_size 0 1600) (hc0_this : ¬ x_this_sort = 0 → ib x_this_at 0 1599) : k_Met l yX5_product cX5_product 4 none { frames := 23, cells := 0, slots := 0, locals := 565 } dC dI cy sq [.ref a_this, .int 2] [(wo_5_riiiiirii a_this a_this_text x_this_length x_this_at x_this_behind x_this_sort x_this_allowed a_this_plan x_this_fault x_this_place), (wi_0_1600_0 a_this_text cy g_this_text), (wo_4_iiiiiiirrrirrrrrir a_this_plan x_this_plan_cycle x_this_plan_green x_this_plan_rule x_this_plan_least x_this_plan_away x_this_plan_statements x_this_plan_kinds a_this_plan_calm a_this_plan_pace a_this_plan_trusts x_this_plan_walkers a_this_plan_kindOf a_this_plan_comesAt a_this_plan_comers a_this_plan_names a_this_plan_code x_this_plan_size a_this_plan_spans), (wi_0_1600_0 a_this_plan_code cy g_this_plan_code)] (k_Qv dC dI (fun (u : Int32 × Int32 × Int32 × Int32 × Int32 × Int32 × (Nat → Int32)) => match u with | (n0, n1, n2, n3, n4, n5, n6) => ib n0 0 1600 ∧ ib n1 0 1600 ∧ ib n2 0 4 ∧ ib n5 0 1600 ∧ (¬ n2 = 0 → ib n0 0 1599) ∧ (F_X5_product_a0_2 (lf_A g_this_text) (Int32.toInt x_this_length) (Int32.toInt x_this_at) (Int32.toInt x_this_behind) (Int32.toInt x_this_sort) (Int32.toInt x_this_allowed) (lf_A g_this_plan_code) (Int32.toInt x_this_plan_size) (Int32.toInt x_this_fault) (Int32.toInt x_this_place) = ((Int32.toInt n0), (Int32.toInt n1), (Int32.toInt n2), (Int32.toInt n3), (Int32.toInt n4), (Int32.toInt n5), (lf_A n6)))) (fun u : Int32 × Int32 × Int32 × Int32 × Int32 × Int32 × (Nat → Int32) => match u with | (n0, n1, n2, n3, n4, n5, n6) => [(wo_5_riiiiirii a_this a_this_text x_this_length n0 n1 n2 x_this_allowed a_this_plan n3 n4), (wi_0_1600_0 a_this_text cy g_this_text), (wo_4_iiiiiiirrrirrrrrir a_this_plan x_this_plan_cycle x_this_plan_green x_this_plan_rule x_this_plan_least x_this_plan_away x_this_plan_statements x_this_plan_kinds a_this_plan_calm a_this_plan_pace a_this_plan_trusts x_this_plan_walkers a_this_plan_kindOf a_this_plan_comesAt a_this_plan_comers a_this_plan_names a_this_plan_code n5 a_this_plan_spans), (wi_0_1600_0 a_this_plan_code cy n6)])) := by
  refine k_ofW2 (by decide +kernel) (Nat.le_of_ble_eq_true rfl) ?_
  intro p e s m below meth c A ls H locs args Q hQ C0 hZ hr hlk hin hP hD hA hS hl
  have C0 : k_cx p s m args c cX5_product 4 RX5 dC dI cy sq := C0
  have hx := C0.1
  have hb := C0.2.1
  have hl : lv_has ls 4 [(0, .ref a_this), (1, .int 2)] := hl
  obtain ⟨O, hO⟩ : ∃ o, o = F_X5_product_a0_2 (lf_A g_this_text) (Int32.toInt x_this_length) (Int32.toInt x_this_at) (Int32.toInt x_this_behind) (Int32.toInt x_this_sort) (Int32.toInt x_this_allowed) (lf_A g_this_plan_code) (Int32.toInt x_this_plan_size) (Int32.toInt x_this_fault) (Int32.toInt x_this_place) := ⟨_, rfl⟩
  have hq := hO
  unfold F_X5_product_a0_2 at hq
  have jn7 : ∀ (n : Nat) (J7_c0_2 : Int32) (J7_c0_3 : Int32) (J7_c0_4 : Int32) (J7_c0_7 : Int32) (J7_c0_8 : Int32) (J7_c2_16 : Int32) (J7_a3 : Nat → Int32) (J7_l2 : Int32) (H : Heap) (locs : List Loc) (ls : Array Slot), ib J7_c0_2 0 1600 → ib J7_c0_3 0 1600 → ib J7_c0_4 0 4 → ib J7_c2_16 0 1600 → ib J7_l2 0 1600 → (¬ J7_c0_4 = 0 → ib J7_c0_2 0 1599) → (O = F_X5_product_a0_2_7 (lf_A g_this_text) (Int32.toInt x_this_length) (Int32.toInt x_this_allowed) n (Int32.toInt J7_c0_2) (Int32.toInt J7_c0_3) (Int32.toInt J7_c0_4) (Int32.toInt J7_c0_7) (Int32.toInt J7_c0_8) (Int32.toInt J7_c2_16) (lf_A J7_a3) (Int32.toInt J7_l2)) → 1601 ≤ J7_l2.toInt + (n : Int) → va_P (dC, dI) vwCl [(wo_5_riiiiirii a_this a_this_text x_this_length J7_c0_2 J7_c0_3 J7_c0_4 x_this_allowed a_this_plan J7_c0_7 J7_c0_8), (wi_0_1600_0 a_this_text cy g_this_text), (wo_4_iiiiiiirrrirrrrrir a_this_plan x_this_plan_cycle x_this_plan_green x_this_plan_rule x_this_plan_least x_this_plan_away x_this_plan_statements x_this_plan_kinds a_this_plan_calm a_this_plan_pace a_this_plan_trusts x_this_plan_walkers a_this_plan_kindOf a_this_plan_comesAt a_this_plan_comers a_this_plan_names a_this_plan_code J7_c2_16 a_this_plan_spans), (wi_0_1600_0 a_this_plan_code cy J7_a3)] H → va_D A [(wo_5_riiiiirii a_this a_this_text x_this_length J7_c0_2 J7_c0_3 J7_c0_4 x_this_allowed a_this_plan J7_c0_7 J7_c0_8), (wi_0_1600_0 a_this_text cy g_this_text), (wo_4_iiiiiiirrrirrrrrir a_this_plan x_this_plan_cycle x_this_plan_green x_this_plan_rule x_this_plan_least x_this_plan_away x_this_plan_statements x_this_plan_kinds a_this_plan_calm a_this_plan_pace a_this_plan_trusts x_this_plan_walkers a_this_plan_kindOf a_this_plan_comesAt a_this_plan_comers a_this_plan_names a_this_plan_code J7_c2_16 a_this_plan_spans), (wi_0_1600_0 a_this_plan_code cy J7_a3)] → va_S A s.heap H locs → lv_has ls 4 [(0, .ref a_this), (1, .int 2), (2, .int J7_l2)] → W p l e { frames := 23, cells := 0, slots := 0, locals := 565 } s m args below meth c H locs 0 0 Q (F0 m 7 ls []) := by
    as_aux_lemma =>
      intro n
      induction n with
      | zero =>
        intro J7_c0_2 J7_c0_3 J7_c0_4 J7_c0_7 J7_c0_8 J7_c2_16 J7_a3 J7_l2 H locs ls hJ7_c0_2 hJ7_c0_3 hJ7_c0_4 hJ7_c2_16 hJ7_l2 hJ7_ic0_0 hq hm
        exact absurd hm (by have := hJ7_l2; unfold ib at this; omega)
      | succ n ih =>
        intro J7_c0_2 J7_c0_3 J7_c0_4 J7_c0_7 J7_c0_8 J7_c2_16 J7_a3 J7_l2 H locs ls hJ7_c0_2 hJ7_c0_3 hJ7_c0_4 hJ7_c2_16 hJ7_l2 hJ7_ic0_0 hq hm7 hP hD hS hl
        have ih7 := ih
        obtain ⟨K7, hK7⟩ : ∃ K, K = F_X5_product_a0_2_7 (lf_A g_this_text) (Int32.toInt x_this_length) (Int32.toInt x_this_allowed) n := ⟨_, rfl⟩
        have hq : O = F_X5_product_a0_2_7b (lf_A g_this_text) (Int32.toInt x_this_length) (Int32.toInt x_this_allowed) K7 (Int32.toInt J7_c0_2) (Int32.toInt J7_c0_3) (Int32.toInt J7_c0_4) (Int32.toInt J7_c0_7) (Int32.toInt J7_c0_8) (Int32.toInt J7_c2_16) (lf_A J7_a3) (Int32.toInt J7_l2) := by rw [hK7]; exact hq
        unfold F_X5_product_a0_2_7b at hq
        have jn48 : ∀ (J48_s0 : Int32) (H : Heap) (locs : List Loc) (ls : Array Slot), ib J7_l2 0 1599 → ib J7_c0_2 0 1599 → ib J7_c0_3 0 1600 → ib J7_c0_4 3 3 → ib J7_c2_16 0 1600 → ib J48_s0 (-23) (-22) → (O = F_X5_product_a0_2_48 (lf_A g_this_text) (Int32.toInt x_this_length) (Int32.toInt x_this_allowed) (Int32.toInt J7_c0_3) (Int32.toInt J7_c0_7) (Int32.toInt J7_c0_8) (Int32.toInt J7_c2_16) (lf_A J7_a3) (Int32.toInt J7_l2) K7 (Int32.toInt J48_s0)) → va_P (dC, dI) vwCl [(wo_5_riiiiirii a_this a_this_text x_this_length J7_c0_2 J7_c0_3 J7_c0_4 x_this_allowed a_this_plan J7_c0_7 J7_c0_8), (wi_0_1600_0 a_this_text cy g_this_text), (wo_4_iiiiiiirrrirrrrrir a_this_plan x_this_plan_cycle x_this_plan_green x_this_plan_rule x_this_plan_least x_this_plan_away x_this_plan_statements x_this_plan_kinds a_this_plan_calm a_this_plan_pace a_this_plan_trusts x_this_plan_walkers a_this_plan_kindOf a_this_plan_comesAt a_this_plan_comers a_this_plan_names a_this_plan_code J7_c2_16 a_this_plan_spans), (wi_0_1600_0 a_this_plan_code cy J7_a3)] H → va_D A [(wo_5_riiiiirii a_this a_this_text x_this_length J7_c0_2 J7_c0_3 J7_c0_4 x_this_allowed a_this_plan J7_c0_7 J7_c0_8), (wi_0_1600_0 a_this_text cy g_this_text), (wo_4_iiiiiiirrrirrrrrir a_this_plan x_this_plan_cycle x_this_plan_green x_this_plan_rule x_this_plan_least x_this_plan_away x_this_plan_statements x_this_plan_kinds a_this_plan_calm a_this_plan_pace a_this_plan_trusts x_this_plan_walkers a_this_plan_kindOf a_this_plan_comesAt a_this_plan_comers a_this_plan_names a_this_plan_code J7_c2_16 a_this_plan_spans), (wi_0_1600_0 a_this_plan_code cy J7_a3)] → va_S A s.heap H locs → lv_has ls 4 [(0, .ref a_this), (1, .int 2), (2, .int J7_l2)] → W p l e { frames := 23, cells := 0, slots := 0, locals := 565 } s m args below meth c H locs 0 0 Q (F0 m 48 ls [.int J48_s0]) := by
          as_aux_lemma =>
            intro J48_s0 H locs ls hK48_J7_l2 hK48_J7_c0_2 hK48_J7_c0_3 hK48_J7_c0_4 hK48_J7_c2_16 hJ48_s0 hq hP hD hS hl
            unfold F_X5_product_a0_2_48 at hq
            refine lv_istore_n (lv' := [(3, .int J48_s0), (0, .ref a_this), (1, .int 2), (2, .int J7_l2)]) hx hb dX5_product_48 rfl hl (Nat.le_of_ble_eq_true rfl) rfl (fun ls hl => ?_)
            refine lv_aload_n hx hb dX5_product_49 rfl (lv_at hl 1 rfl) ?_
            refine lv_aload_n hx hb dX5_product_50 rfl (lv_at hl 1 rfl) ?_
            refine k_get C0 fg_X5_18 hP 0 rfl rfl dX5_product_51 ?_
            refine k_jvm hP hD hS hA [0, 1] [false, false, true, true] rfl rfl rfl 0 0 (Nat.le_of_ble_eq_true rfl) (Nat.le_of_ble_eq_true rfl) (fun hPc hDc => k_runV (As := [.int J7_c0_3]) (rest := []) C0 hZ hS hA (s_X5_moveTo l dC dI cy sq a_this a_this_text g_this_text x_this_length J7_c0_2 J7_c0_3 J7_c0_4 x_this_allowed a_this_plan J7_c0_7 J7_c0_8 J7_c0_3 hg_this_text (ib_w 0 1600 hx_this_length rfl) (ib_w 0 1600 hK48_J7_c0_3 rfl)) mV_X5_86 hPc hDc rfl rfl rfl hl rfl rfl (Nat.le_of_ble_eq_true rfl) ⟨(Nat.le_of_ble_eq_true rfl), (Nat.le_of_ble_eq_true rfl)⟩ ⟨(Nat.le_of_ble_eq_true rfl), (Nat.le_of_ble_eq_true rfl)⟩ dX5_product_54) (fun u2 H locs hw hP hD hS => ?_)
            obtain ⟨v3, v4, v5⟩ := u2
            try dsimp only at hP hD hw
            replace hP : va_P (dC, dI) vwCl [(wo_4_iiiiiiirrrirrrrrir a_this_plan x_this_plan_cycle x_this_plan_green x_this_plan_rule x_this_plan_least x_this_plan_away x_this_plan_statements x_this_plan_kinds a_this_plan_calm a_this_plan_pace a_this_plan_trusts x_this_plan_walkers a_this_plan_kindOf a_this_plan_comesAt a_this_plan_comers a_this_plan_names a_this_plan_code J7_c2_16 a_this_plan_spans), (wi_0_1600_0 a_this_plan_code cy J7_a3), (wo_5_riiiiirii a_this a_this_text x_this_length v3 v4 v5 x_this_allowed a_this_plan J7_c0_7 J7_c0_8), (wi_0_1600_0 a_this_text cy g_this_text)] H := hP
            replace hD := k_D hP hD
            obtain ⟨h6, h7, h8, h9, h10⟩ := hw
            replace hq := lf_p1 hq h10
            replace hq := lf_p1 hq rfl
            refine lv_aload_n hx hb dX5_product_57 rfl (lv_at hl 1 rfl) ?_
            refine lv_iload_n hx hb dX5_product_58 rfl (lv_at hl 2 rfl) ?_
            refine k_jvm hP hD hS hA [2, 3, 0, 1] [] rfl rfl rfl 0 0 (Nat.le_of_ble_eq_true rfl) (Nat.le_of_ble_eq_true rfl) (fun hPc hDc => k_runV (As := [.int 2]) (rest := []) C0 hZ hS hA (s_X5_part_a0_2 l dC dI cy sq a_this a_this_text g_this_text x_this_length v3 v4 v5 x_this_allowed a_this_plan x_this_plan_cycle x_this_plan_green x_this_plan_rule x_this_plan_least x_this_plan_away x_this_plan_statements x_this_plan_kinds a_this_plan_calm a_this_plan_pace a_this_plan_trusts x_this_plan_walkers a_this_plan_kindOf a_this_plan_comesAt a_this_plan_comers a_this_plan_names a_this_plan_code J7_a3 J7_c2_16 a_this_plan_spans J7_c0_7 J7_c0_8 hg_this_text (ib_w 0 1600 hx_this_length rfl) (ib_w 0 1600 h6 rfl) (ib_w 0 1600 h7 rfl) (ib_w 0 4 h8 rfl) (ib_w 0 1600 hK48_J7_c2_16 rfl) (fun hq9 => ib_w 0 1599 (h9 hq9) rfl)) mV_X5_225 hPc hDc rfl rfl rfl hl rfl rfl (Nat.le_of_ble_eq_true rfl) ⟨(Nat.le_of_ble_eq_true rfl), (Nat.le_of_ble_eq_true rfl)⟩ ⟨(Nat.le_of_ble_eq_true rfl), (Nat.le_of_ble_eq_true rfl)⟩ dX5_product_59) (fun u12 H locs hw hP hD hS => ?_)
            obtain ⟨v13, v14, v15, v16, v17, v18, f19⟩ := u12
            try dsimp only at hP hD hw
            replace hP : va_P (dC, dI) vwCl [(wo_5_riiiiirii a_this a_this_text x_this_length v13 v14 v15 x_this_allowed a_this_plan v16 v17), (wi_0_1600_0 a_this_text cy g_this_text), (wo_4_iiiiiiirrrirrrrrir a_this_plan x_this_plan_cycle x_this_plan_green x_this_plan_rule x_this_plan_least x_this_plan_away x_this_plan_statements x_this_plan_kinds a_this_plan_calm a_this_plan_pace a_this_plan_trusts x_this_plan_walkers a_this_plan_kindOf a_this_plan_comesAt a_this_plan_comers a_this_plan_names a_this_plan_code v18 a_this_plan_spans), (wi_0_1600_0 a_this_plan_code cy f19)] H := hP
            replace hD := k_D hP hD
            obtain ⟨h20, h21, h22, h23, h24, h25⟩ := hw
            replace hq := lf_p1 hq h25
            replace hq := lf_p1 hq rfl
            replace hq := lf_p1 hq rfl
            replace hq := lf_p1 hq rfl
            replace hq := lf_p1 hq rfl
            replace hq := lf_p1 hq rfl
            refine lv_aload_n hx hb dX5_product_62 rfl (lv_at hl 1 rfl) ?_
            refine lv_iload_n hx hb dX5_product_63 rfl (lv_at hl 0 rfl) ?_
            refine k_jvm hP hD hS hA [0, 2, 3] [false, true] rfl rfl rfl 0 0 (Nat.le_of_ble_eq_true rfl) (Nat.le_of_ble_eq_true rfl) (fun hPc hDc => k_runV (As := [.int J48_s0]) (rest := []) C0 hZ hS hA (s_X5_emit l dC dI cy sq a_this a_this_text x_this_length v13 v14 v15 x_this_allowed a_this_plan x_this_plan_cycle x_this_plan_green x_this_plan_rule x_this_plan_least x_this_plan_away x_this_plan_statements x_this_plan_kinds a_this_plan_calm a_this_plan_pace a_this_plan_trusts x_this_plan_walkers a_this_plan_kindOf a_this_plan_comesAt a_this_plan_comers a_this_plan_names a_this_plan_code f19 v18 a_this_plan_spans v16 v17 J48_s0 (ib_w 0 1600 h23 rfl)) mV_X5_199 hPc hDc rfl rfl rfl hl rfl rfl (Nat.le_of_ble_eq_true rfl) ⟨(Nat.le_of_ble_eq_true rfl), (Nat.le_of_ble_eq_true rfl)⟩ ⟨(Nat.le_of_ble_eq_true rfl), (Nat.le_of_ble_eq_true rfl)⟩ dX5_product_64) (fun u27 H locs hw hP hD hS => ?_)
            obtain ⟨v28, f29⟩ := u27
            try dsimp only at hP hD hw
            replace hP : va_P (dC, dI) vwCl [(wi_0_1600_0 a_this_text cy g_this_text), (wo_5_riiiiirii a_this a_this_text x_this_length v13 v14 v15 x_this_allowed a_this_plan v16 v17), (wo_4_iiiiiiirrrirrrrrir a_this_plan x_this_plan_cycle x_this_plan_green x_this_plan_rule x_this_plan_least x_this_plan_away x_this_plan_statements x_this_plan_kinds a_this_plan_calm a_this_plan_pace a_this_plan_trusts x_this_plan_walkers a_this_plan_kindOf a_this_plan_comesAt a_this_plan_comers a_this_plan_names a_this_plan_code v28 a_this_plan_spans), (wi_0_1600_0 a_this_plan_code cy f29)] H := hP
            replace hD := k_D hP hD
            obtain ⟨h30, h31⟩ := hw
            replace hq := lf_p1 hq h31
            obtain ⟨z32, ez32⟩ : ∃ y : Int32, y = J7_l2 + 1 := ⟨_, rfl⟩
            refine lv_iinc (v := z32) (lv' := [(2, .int z32), (3, .int J48_s0), (0, .ref a_this), (1, .int 2)]) hx hb dX5_product_67 hl (k := 3) rfl (by rw [ez32]; rfl) (Nat.le_of_ble_eq_true rfl) rfl (fun ls hl => ?_)
            have h33 := ib_add hK48_J7_l2 (ib_c 1 1 1 rfl) rfl
            rw [← ez32] at h33
            have h34 : ib z32 1 1600 := ib_w 1 1600 h33.1 rfl
            have Ez32 := lf_add h33.2 (lf_rf J7_l2) (lf_lc 1 (1 : Int) rfl)
            refine lv_goto (tgt := 7) hx hb dX5_product_70 rfl ?_
            exact ih7 v13 v14 v15 v16 v17 v28 f29 z32 H locs ls (ib_w 0 1600 h20 rfl) (ib_w 0 1600 h21 rfl) (ib_w 0 4 h22 rfl) (ib_w 0 1600 h30 rfl) (ib_w 0 1600 h34 rfl) (fun hq9 => ib_w 0 1599 (h24 hq9) rfl) (by rw [← hK7]; rw [lf_u Ez32]; exact hq) (by have := h33.2; have : (1 : Int32).toInt = 1 := rfl; omega) (hP.sub [1, 0, 2, 3] rfl) (hD.sub [1, 0, 2, 3] rfl rfl) hS (lv_sub hl [2, 3, 0] rfl)
        have jn32 : ∀  (H : Heap) (locs : List Loc) (ls : Array Slot), ib J7_l2 0 1599 → ib J7_c0_2 0 1599 → ib J7_c0_3 0 1600 → ib J7_c0_4 3 3 → ib J7_c2_16 0 1600 → (O = F_X5_product_a0_2_32 (lf_A g_this_text) (Int32.toInt x_this_length) (Int32.toInt x_this_allowed) (Int32.toInt J7_c0_2) (Int32.toInt J7_c0_3) (Int32.toInt J7_c0_4) (Int32.toInt J7_c0_7) (Int32.toInt J7_c0_8) (Int32.toInt J7_c2_16) (lf_A J7_a3) (Int32.toInt J7_l2) K7 ) → va_P (dC, dI) vwCl [(wo_5_riiiiirii a_this a_this_text x_this_length J7_c0_2 J7_c0_3 J7_c0_4 x_this_allowed a_this_plan J7_c0_7 J7_c0_8), (wi_0_1600_0 a_this_text cy g_this_text), (wo_4_iiiiiiirrrirrrrrir a_this_plan x_this_plan_cycle x_this_plan_green x_this_plan_rule x_this_plan_least x_this_plan_away x_this_plan_statements x_this_plan_kinds a_this_plan_calm a_this_plan_pace a_this_plan_trusts x_this_plan_walkers a_this_plan_kindOf a_this_plan_comesAt a_this_plan_comers a_this_plan_names a_this_plan_code J7_c2_16 a_this_plan_spans), (wi_0_1600_0 a_this_plan_code cy J7_a3)] H → va_D A [(wo_5_riiiiirii a_this a_this_text x_this_length J7_c0_2 J7_c0_3 J7_c0_4 x_this_allowed a_this_plan J7_c0_7 J7_c0_8), (wi_0_1600_0 a_this_text cy g_this_text), (wo_4_iiiiiiirrrirrrrrir a_this_plan x_this_plan_cycle x_this_plan_green x_this_plan_rule x_this_plan_least x_this_plan_away x_this_plan_statements x_this_plan_kinds a_this_plan_calm a_this_plan_pace a_this_plan_trusts x_this_plan_walkers a_this_plan_kindOf a_this_plan_comesAt a_this_plan_comers a_this_plan_names a_this_plan_code J7_c2_16 a_this_plan_spans), (wi_0_1600_0 a_this_plan_code cy J7_a3)] → va_S A s.heap H locs → lv_has ls 4 [(0, .ref a_this), (1, .int 2), (2, .int J7_l2)] → W p l e { frames := 23, cells := 0, slots := 0, locals := 565 } s m args below meth c H locs 0 0 Q (F0 m 32 ls []) := by
          as_aux_lemma =>
            intro H locs ls hK32_J7_l2 hK32_J7_c0_2 hK32_J7_c0_3 hK32_J7_c0_4 hK32_J7_c2_16 hq hP hD hS hl
            unfold F_X5_product_a0_2_32 at hq
            refine lv_aload_n hx hb dX5_product_32 rfl (lv_at hl 0 rfl) ?_
            refine lv_bipush (v := 42) hx hb dX5_product_33 rfl ?_
            refine k_jim hP hD hS hA [0, 1] [false, false, true, true] rfl rfl rfl 0 0 (Nat.le_of_ble_eq_true rfl) (Nat.le_of_ble_eq_true rfl) (fun hPc hDc => k_runV (As := [.int 42]) (rest := []) C0 hZ hS hA (s_X5_sees l dC dI cy sq a_this a_this_text g_this_text x_this_length J7_c0_2 J7_c0_3 J7_c0_4 x_this_allowed a_this_plan J7_c0_7 J7_c0_8 42 hg_this_text (ib_w 0 1600 hK32_J7_c0_2 rfl) (ib_w 0 4 hK32_J7_c0_4 rfl) (fun _ => ib_w 0 1599 hK32_J7_c0_2 rfl)) mV_X5_213 hPc hDc rfl rfl rfl hl rfl rfl (Nat.le_of_ble_eq_true rfl) ⟨(Nat.le_of_ble_eq_true rfl), (Nat.le_of_ble_eq_true rfl)⟩ ⟨(Nat.le_of_ble_eq_true rfl), (Nat.le_of_ble_eq_true rfl)⟩ dX5_product_35) (fun r35 u36 H locs hw hP hD hS => ?_)
            try dsimp only at hP hD hw
            replace hP : va_P (dC, dI) vwCl [(wo_4_iiiiiiirrrirrrrrir a_this_plan x_this_plan_cycle x_this_plan_green x_this_plan_rule x_this_plan_least x_this_plan_away x_this_plan_statements x_this_plan_kinds a_this_plan_calm a_this_plan_pace a_this_plan_trusts x_this_plan_walkers a_this_plan_kindOf a_this_plan_comesAt a_this_plan_comers a_this_plan_names a_this_plan_code J7_c2_16 a_this_plan_spans), (wi_0_1600_0 a_this_plan_code cy J7_a3), (wo_5_riiiiirii a_this a_this_text x_this_length J7_c0_2 J7_c0_3 J7_c0_4 x_this_allowed a_this_plan J7_c0_7 J7_c0_8), (wi_0_1600_0 a_this_text cy g_this_text)] H := hP
            replace hD := k_D hP hD
            obtain ⟨h37, h38, h39, h40, h41⟩ := hw
            have h41 := by have h9 := h41; try simp only [show (42 : Int32).toInt = (42 : Int) from rfl] at h9; exact h9
            replace hq := lf_b1 hq h41
            refine lv_if_eq (tgt := 46) hx hb dX5_product_38 rfl (fun c42 => ?_) (fun c42 => ?_)
            · replace hq := lf_pos hq (lf_eq (lf_rf r35) (lf_lc 0 (0 : Int) rfl) c42)
              have h43 := ib_eq h37 (ib_c 0 0 0 rfl) c42
              have h44 : ib r35 0 0 := ib_w 0 0 h43.1 rfl
              refine lv_bipush (v := (-23)) hx hb dX5_product_46 rfl ?_
              exact jn48 (-23) H locs ls (ib_w 0 1599 hK32_J7_l2 rfl) (ib_w 0 1599 hK32_J7_c0_2 rfl) (ib_w 0 1600 hK32_J7_c0_3 rfl) (ib_w 3 3 hK32_J7_c0_4 rfl) (ib_w 0 1600 hK32_J7_c2_16 rfl) (ib_w (-23) (-22) (ib_c (-23) (-23) (-23) rfl) rfl) (by try simp only [show ((-23) : Int32).toInt = (-23 : Int) from rfl]; exact hq) (hP.sub [2, 3, 0, 1] rfl) (hD.sub [2, 3, 0, 1] rfl rfl) hS (lv_sub hl [0, 1, 2] rfl)
            · replace hq := lf_neg hq (lf_ne (lf_rf r35) (lf_lc 0 (0 : Int) rfl) c42)
              have h45 : ib r35 1 1 := ib_w 1 1 (ib_ne_lo 0 h37 rfl c42) rfl
              refine lv_bipush (v := (-22)) hx hb dX5_product_41 rfl ?_
              refine lv_goto (tgt := 48) hx hb dX5_product_43 rfl ?_
              exact jn48 (-22) H locs ls (ib_w 0 1599 hK32_J7_l2 rfl) (ib_w 0 1599 hK32_J7_c0_2 rfl) (ib_w 0 1600 hK32_J7_c0_3 rfl) (ib_w 3 3 hK32_J7_c0_4 rfl) (ib_w 0 1600 hK32_J7_c2_16 rfl) (ib_w (-23) (-22) (ib_c (-22) (-22) (-22) rfl) rfl) (by try simp only [show ((-22) : Int32).toInt = (-22 : Int) from rfl]; exact hq) (hP.sub [2, 3, 0, 1] rfl) (hD.sub [2, 3, 0, 1] rfl rfl) hS (lv_sub hl [0, 1, 2] rfl)
        refine lv_iload_n hx hb dX5_product_7 rfl (lv_at hl 2 rfl) ?_
        refine lv_sipush (v := 1600) hx hb dX5_product_8 rfl ?_
        refine lv_icmp_ge (tgt := 73) hx hb dX5_product_11 rfl (fun c46 => ?_) (fun c46 => ?_)
        · replace hq := lf_pos hq (lf_le (lf_lc 1600 (1600 : Int) rfl) (lf_rf J7_l2) c46)
          have h47 := ib_le (ib_c 1600 1600 1600 rfl) hJ7_l2 c46
          have h48 : ib J7_l2 1600 1600 := ib_w 1600 1600 h47.2 rfl
          subst hQ; exact k_vret hx hb hr hlk ((J7_c0_2, J7_c0_3, J7_c0_4, J7_c0_7, J7_c0_8, J7_c2_16, J7_a3)) hS ⟨ib_w 0 1600 hJ7_c0_2 rfl, ib_w 0 1600 hJ7_c0_3 rfl, ib_w 0 4 hJ7_c0_4 rfl, ib_w 0 1600 hJ7_c2_16 rfl, fun hq9 => ib_w 0 1599 (hJ7_ic0_0 hq9) rfl, (hO.symm.trans (by exact hq))⟩ hP hD (Nat.le_of_ble_eq_true rfl) (Nat.le_of_ble_eq_true rfl) dX5_product_73
        · as_aux_lemma =>
            replace hq := lf_neg hq (lf_nle (lf_lc 1600 (1600 : Int) rfl) (lf_rf J7_l2) c46)
            have h49 := ib_nle (ib_c 1600 1600 1600 rfl) hJ7_l2 c46
            have h50 : ib J7_l2 0 1599 := ib_w 0 1599 h49.2 rfl
            refine lv_aload_n hx hb dX5_product_14 rfl (lv_at hl 0 rfl) ?_
            refine lv_bipush (v := 42) hx hb dX5_product_15 rfl ?_
            refine k_jim hP hD hS hA [0, 1] [false, false, true, true] rfl rfl rfl 0 0 (Nat.le_of_ble_eq_true rfl) (Nat.le_of_ble_eq_true rfl) (fun hPc hDc => k_runV (As := [.int 42]) (rest := []) C0 hZ hS hA (s_X5_sees l dC dI cy sq a_this a_this_text g_this_text x_this_length J7_c0_2 J7_c0_3 J7_c0_4 x_this_allowed a_this_plan J7_c0_7 J7_c0_8 42 hg_this_text (ib_w 0 1600 hJ7_c0_2 rfl) (ib_w 0 4 hJ7_c0_4 rfl) (fun hq9 => ib_w 0 1599 (hJ7_ic0_0 hq9) rfl)) mV_X5_213 hPc hDc rfl rfl rfl hl rfl rfl (Nat.le_of_ble_eq_true rfl) ⟨(Nat.le_of_ble_eq_true rfl), (Nat.le_of_ble_eq_true rfl)⟩ ⟨(Nat.le_of_ble_eq_true rfl), (Nat.le_of_ble_eq_true rfl)⟩ dX5_product_17) (fun r51 u52 H locs hw hP hD hS => ?_)
            try dsimp only at hP hD hw
            replace hP : va_P (dC, dI) vwCl [(wo_4_iiiiiiirrrirrrrrir a_this_plan x_this_plan_cycle x_this_plan_green x_this_plan_rule x_this_plan_least x_this_plan_away x_this_plan_statements x_this_plan_kinds a_this_plan_calm a_this_plan_pace a_this_plan_trusts x_this_plan_walkers a_this_plan_kindOf a_this_plan_comesAt a_this_plan_comers a_this_plan_names a_this_plan_code J7_c2_16 a_this_plan_spans), (wi_0_1600_0 a_this_plan_code cy J7_a3), (wo_5_riiiiirii a_this a_this_text x_this_length J7_c0_2 J7_c0_3 J7_c0_4 x_this_allowed a_this_plan J7_c0_7 J7_c0_8), (wi_0_1600_0 a_this_text cy g_this_text)] H := hP
            replace hD := k_D hP hD
            obtain ⟨h53, h54, h55, h56, h57⟩ := hw
            have h57 := by have h9 := h57; try simp only [show (42 : Int32).toInt = (42 : Int) from rfl] at h9; exact h9
            replace hq := lf_b1 hq h57
            refine lv_if_ne (tgt := 32) hx hb dX5_product_20 rfl (fun c58 => ?_) (fun c58 => ?_)
            · replace hq := lf_neg hq (lf_ne (lf_rf r51) (lf_lc 0 (0 : Int) rfl) c58)
              have h59 : ib r51 1 1 := ib_w 1 1 (ib_ne_lo 0 h53 rfl c58) rfl
              have h60 : ib J7_c0_2 0 1599 := ib_w 0 1599 (ib_two hJ7_c0_2 (h54 c58)) rfl
              have h61 : ib J7_c0_4 3 3 := ib_w 3 3 (ib_two hJ7_c0_4 (h55 c58)) rfl
              exact jn32  H locs ls (ib_w 0 1599 h50 rfl) (ib_w 0 1599 h60 rfl) (ib_w 0 1600 hJ7_c0_3 rfl) (ib_w 3 3 h61 rfl) (ib_w 0 1600 hJ7_c2_16 rfl) (by exact hq) (hP.sub [2, 3, 0, 1] rfl) (hD.sub [2, 3, 0, 1] rfl rfl) hS (lv_sub hl [0, 1, 2] rfl)
            · as_aux_lemma =>
                replace hq := lf_pos hq (lf_eq (lf_rf r51) (lf_lc 0 (0 : Int) rfl) c58)
                have h62 := ib_eq h53 (ib_c 0 0 0 rfl) c58
                have h63 : ib r51 0 0 := ib_w 0 0 h62.1 rfl
                refine lv_aload_n hx hb dX5_product_23 rfl (lv_at hl 0 rfl) ?_
                refine lv_bipush (v := 47) hx hb dX5_product_24 rfl ?_
                refine k_jim hP hD hS hA [2, 3] [true, true] rfl rfl rfl 0 0 (Nat.le_of_ble_eq_true rfl) (Nat.le_of_ble_eq_true rfl) (fun hPc hDc => k_runV (As := [.int 47]) (rest := []) C0 hZ hS hA (s_X5_sees l dC dI cy sq a_this a_this_text g_this_text x_this_length J7_c0_2 J7_c0_3 J7_c0_4 x_this_allowed a_this_plan J7_c0_7 J7_c0_8 47 hg_this_text (ib_w 0 1600 hJ7_c0_2 rfl) (ib_w 0 4 hJ7_c0_4 rfl) (fun hq9 => ib_w 0 1599 (hJ7_ic0_0 hq9) rfl)) mV_X5_213 hPc hDc rfl rfl rfl hl rfl rfl (Nat.le_of_ble_eq_true rfl) ⟨(Nat.le_of_ble_eq_true rfl), (Nat.le_of_ble_eq_true rfl)⟩ ⟨(Nat.le_of_ble_eq_true rfl), (Nat.le_of_ble_eq_true rfl)⟩ dX5_product_26) (fun r64 u65 H locs hw hP hD hS => ?_)
                try dsimp only at hP hD hw
                replace hP : va_P (dC, dI) vwCl [(wo_4_iiiiiiirrrirrrrrir a_this_plan x_this_plan_cycle x_this_plan_green x_this_plan_rule x_this_plan_least x_this_plan_away x_this_plan_statements x_this_plan_kinds a_this_plan_calm a_this_plan_pace a_this_plan_trusts x_this_plan_walkers a_this_plan_kindOf a_this_plan_comesAt a_this_plan_comers a_this_plan_names a_this_plan_code J7_c2_16 a_this_plan_spans), (wi_0_1600_0 a_this_plan_code cy J7_a3), (wo_5_riiiiirii a_this a_this_text x_this_length J7_c0_2 J7_c0_3 J7_c0_4 x_this_allowed a_this_plan J7_c0_7 J7_c0_8), (wi_0_1600_0 a_this_text cy g_this_text)] H := hP
                replace hD := k_D hP hD
                obtain ⟨h66, h67, h68, h69, h70⟩ := hw
                have h70 := by have h9 := h70; try simp only [show (47 : Int32).toInt = (47 : Int) from rfl] at h9; exact h9
                replace hq := lf_b1 hq h70
                refine lv_if_eq (tgt := 73) hx hb dX5_product_29 rfl (fun c71 => ?_) (fun c71 => ?_)
                · replace hq := lf_pos hq (lf_eq (lf_rf r64) (lf_lc 0 (0 : Int) rfl) c71)
                  have h72 := ib_eq h66 (ib_c 0 0 0 rfl) c71
                  have h73 : ib r64 0 0 := ib_w 0 0 h72.1 rfl
                  subst hQ; exact k_vret hx hb hr hlk ((J7_c0_2, J7_c0_3, J7_c0_4, J7_c0_7, J7_c0_8, J7_c2_16, J7_a3)) hS ⟨ib_w 0 1600 hJ7_c0_2 rfl, ib_w 0 1600 hJ7_c0_3 rfl, ib_w 0 4 hJ7_c0_4 rfl, ib_w 0 1600 hJ7_c2_16 rfl, fun hq9 => ib_w 0 1599 (hJ7_ic0_0 hq9) rfl, (hO.symm.trans (by exact hq))⟩ (hP.sub [2, 3, 0, 1] rfl) (hD.sub [2, 3, 0, 1] rfl rfl) (Nat.le_of_ble_eq_true rfl) (Nat.le_of_ble_eq_true rfl) dX5_product_73
                · replace hq := lf_neg hq (lf_ne (lf_rf r64) (lf_lc 0 (0 : Int) rfl) c71)
                  have h74 : ib r64 1 1 := ib_w 1 1 (ib_ne_lo 0 h66 rfl c71) rfl
                  have h75 : ib J7_c0_2 0 1599 := ib_w 0 1599 (ib_two hJ7_c0_2 (h67 c71)) rfl
                  have h76 : ib J7_c0_4 3 3 := ib_w 3 3 (ib_two hJ7_c0_4 (h68 c71)) rfl
                  exact jn32  H locs ls (ib_w 0 1599 h50 rfl) (ib_w 0 1599 h75 rfl) (ib_w 0 1600 hJ7_c0_3 rfl) (ib_w 3 3 h76 rfl) (ib_w 0 1600 hJ7_c2_16 rfl) (by exact hq) (hP.sub [2, 3, 0, 1] rfl) (hD.sub [2, 3, 0, 1] rfl rfl) hS (lv_sub hl [0, 1, 2] rfl)
  refine lv_aload_n hx hb dX5_product_0 rfl (lv_at hl 0 rfl) ?_
  refine lv_iload_n hx hb dX5_product_1 rfl (lv_at hl 1 rfl) ?_
  refine k_jvm hP hD hS hA [0, 1, 2, 3] [] rfl rfl rfl 0 0 (Nat.le_of_ble_eq_true rfl) (Nat.le_of_ble_eq_true rfl) (fun hPc hDc => k_runV (As := [.int 2]) (rest := []) C0 hZ hS hA (s_X5_part_a0_2 l dC dI cy sq a_this a_this_text g_this_text x_this_length x_this_at x_this_behind x_this_sort x_this_allowed a_this_plan x_this_plan_cycle x_this_plan_green x_this_plan_rule x_this_plan_least x_this_plan_away x_this_plan_statements x_this_plan_kinds a_this_plan_calm a_this_plan_pace a_this_plan_trusts x_this_plan_walkers a_this_plan_kindOf a_this_plan_comesAt a_this_plan_comers a_this_plan_names a_this_plan_code g_this_plan_code x_this_plan_size a_this_plan_spans x_this_fault x_this_place hg_this_text (ib_w 0 1600 hx_this_length rfl) (ib_w 0 1600 hx_this_at rfl) (ib_w 0 1600 hx_this_behind rfl) (ib_w 0 4 hx_this_sort rfl) (ib_w 0 1600 hx_this_plan_size rfl) (fun hq9 => ib_w 0 1599 (hc0_this hq9) rfl)) mV_X5_225 hPc hDc rfl rfl rfl hl rfl rfl (Nat.le_of_ble_eq_true rfl) ⟨(Nat.le_of_ble_eq_true rfl), (Nat.le_of_ble_eq_true rfl)⟩ ⟨(Nat.le_of_ble_eq_true rfl), (Nat.le_of_ble_eq_true rfl)⟩ dX5_product_2) (fun u78 H locs hw hP hD hS => ?_)
  obtain ⟨v79, v80, v81, v82, v83, v84, f85⟩ := u78
  try dsimp only at hP hD hw
  replace hP : va_P (dC, dI) vwCl [(wo_5_riiiiirii a_this a_this_text x_this_length v79 v80 v81 x_this_allowed a_this_plan v82 v83), (wi_0_1600_0 a_this_text cy g_this_text), (wo_4_iiiiiiirrrirrrrrir a_this_plan x_this_plan_cycle x_this_plan_green x_this_plan_rule x_this_plan_least x_this_plan_away x_this_plan_statements x_this_plan_kinds a_this_plan_calm a_this_plan_pace a_this_plan_trusts x_this_plan_walkers a_this_plan_kindOf a_this_plan_comesAt a_this_plan_comers a_this_plan_names a_this_plan_code v84 a_this_plan_spans), (wi_0_1600_0 a_this_plan_code cy f85)] H := hP
  replace hD := k_D hP hD
  obtain ⟨h86, h87, h88, h89, h90, h91⟩ := hw
  replace hq := lf_p1 hq h91
  replace hq := lf_p1 hq rfl
  replace hq := lf_p1 hq rfl
  replace hq := lf_p1 hq rfl
  replace hq := lf_p1 hq rfl
  replace hq := lf_p1 hq rfl
  refine lv_iconst (v := 0) hx hb dX5_product_5 rfl ?_
  refine lv_istore_n (lv' := [(2, .int 0), (0, .ref a_this), (1, .int 2)]) hx hb dX5_product_6 rfl hl (Nat.le_of_ble_eq_true rfl) rfl (fun ls hl => ?_)
  exact jn7 1602 v79 v80 v81 v82 v83 v84 f85 0 H locs ls (ib_w 0 1600 h86 rfl) (ib_w 0 1600 h87 rfl) (ib_w 0 4 h88 rfl) (ib_w 0 1600 h89 rfl) (ib_w 0 1600 (ib_c 0 0 0 rfl) rfl) (fun hq9 => ib_w 0 1599 (h90 hq9) rfl) (by try simp only [show (0 : Int32).toInt = (0 : Int) from rfl]; exact hq) (by have := (ib_c 0 0 0 rfl); unfold ib at this; omega) hP hD hS (lv_sub hl [1, 2, 0] rfl)
set_option maxHeartbeats 4000000 in
set_option maxRecDepth 100000 in
theorem s_X5_sum_a0_2 (l : Launch) (dC : Nat → ClassId) (dI : Nat → Nat → Nat) (cy : Nat → ClassId) (sq : Nat → Nat) (a_this : Nat) (a_this_text : Nat) (g_this_text : Nat → Int32) (x_this_length : Int32) (x_this_at : Int32) (x_this_behind : Int32) (x_this_sort : Int32) (x_this_allowed : Int32) (a_this_plan : Nat) (x_this_plan_cycle : Int32) (x_this_plan_green : Int32) (x_this_plan_rule : Int32) (x_this_plan_least : Int32) (x_this_plan_away : Int32) (x_this_plan_statements : Int32) (x_this_plan_kinds : Int32) (a_this_plan_calm : Nat) (a_this_plan_pace : Nat) (a_this_plan_trusts : Nat) (x_this_plan_walkers : Int32) (a_this_plan_kindOf : Nat) (a_this_plan_comesAt : Nat) (a_this_plan_comers : Nat) (a_this_plan_names : Nat) (a_this_plan_code : Nat) (g_this_plan_code : Nat → Int32) (x_this_plan_size : Int32) (a_this_plan_spans : Nat) (x_this_fault : Int32) (x_this_place : Int32) (hg_this_text : ia g_this_text 1600 0 255) (hx_this_length : ib x_this_length 0 1600) (hx_this_at : ib x_this_at 0 1600) (hx_this_behind : ib x_this_behind 0 1600) (hx_this_sort : ib x_this_sort 0 4) (hx_this_plan_size : ib x_this_plan_size 0 1600) (hc0_this : ¬ x_this_sort = 0 → ib x_this_at 0 1599) : k_Met l yX5_sum cX5_sum 4 none { frames := 24, cells := 0, slots := 0, locals := 588 } dC dI cy sq [.ref a_this, .int 2] [(wo_5_riiiiirii a_this a_this_text x_this_length x_this_at x_this_behind x_this_sort x_this_allowed a_this_plan x_this_fault x_this_place), (wi_0_1600_0 a_this_text cy g_this_text), (wo_4_iiiiiiirrrirrrrrir a_this_plan x_this_plan_cycle x_this_plan_green x_this_plan_rule x_this_plan_least x_this_plan_away x_this_plan_statements x_this_plan_kinds a_this_plan_calm a_this_plan_pace a_this_plan_trusts x_this_plan_walkers a_this_plan_kindOf a_this_plan_comesAt a_this_plan_comers a_this_plan_names a_this_plan_code x_this_plan_size a_this_plan_spans), (wi_0_1600_0 a_this_plan_code cy g_this_plan_code)] (k_Qv dC dI (fun (u : Int32 × Int32 × Int32 × Int32 × Int32 × Int32 × (Nat → Int32)) => match u with | (n0, n1, n2, n3, n4, n5, n6) => ib n0 0 1600 ∧ ib n1 0 1600 ∧ ib n2 0 4 ∧ ib n5 0 1600 ∧ (¬ n2 = 0 → ib n0 0 1599) ∧ (F_X5_sum_a0_2 (lf_A g_this_text) (Int32.toInt x_this_length) (Int32.toInt x_this_at) (Int32.toInt x_this_behind) (Int32.toInt x_this_sort) (Int32.toInt x_this_allowed) (lf_A g_this_plan_code) (Int32.toInt x_this_plan_size) (Int32.toInt x_this_fault) (Int32.toInt x_this_place) = ((Int32.toInt n0), (Int32.toInt n1), (Int32.toInt n2), (Int32.toInt n3), (Int32.toInt n4), (Int32.toInt n5), (lf_A n6)))) (fun u : Int32 × Int32 × Int32 × Int32 × Int32 × Int32 × (Nat → Int32) => match u with | (n0, n1, n2, n3, n4, n5, n6) => [(wo_5_riiiiirii a_this a_this_text x_this_length n0 n1 n2 x_this_allowed a_this_plan n3 n4), (wi_0_1600_0 a_this_text cy g_this_text), (wo_4_iiiiiiirrrirrrrrir a_this_plan x_this_plan_cycle x_this_plan_green x_this_plan_rule x_this_plan_least x_this_plan_away x_this_plan_statements x_this_plan_kinds a_this_plan_calm a_this_plan_pace a_this_plan_trusts x_this_plan_walkers a_this_plan_kindOf a_this_plan_comesAt a_this_plan_comers a_this_plan_names a_this_plan_code n5 a_this_plan_spans), (wi_0_1600_0 a_this_plan_code cy n6)])) := by
  refine k_ofW2 (by decide +kernel) (Nat.le_of_ble_eq_true rfl) ?_
  intro p e s m below meth c A ls H locs args Q hQ C0 hZ hr hlk hin hP hD hA hS hl
  have C0 : k_cx p s m args c cX5_sum 4 RX5 dC dI cy sq := C0
  have hx := C0.1
  have hb := C0.2.1
  have hl : lv_has ls 4 [(0, .ref a_this), (1, .int 2)] := hl
  obtain ⟨O, hO⟩ : ∃ o, o = F_X5_sum_a0_2 (lf_A g_this_text) (Int32.toInt x_this_length) (Int32.toInt x_this_at) (Int32.toInt x_this_behind) (Int32.toInt x_this_sort) (Int32.toInt x_this_allowed) (lf_A g_this_plan_code) (Int32.toInt x_this_plan_size) (Int32.toInt x_this_fault) (Int32.toInt x_this_place) := ⟨_, rfl⟩
  have hq := hO
  unfold F_X5_sum_a0_2 at hq
  have jn7 : ∀ (n : Nat) (J7_c0_2 : Int32) (J7_c0_3 : Int32) (J7_c0_4 : Int32) (J7_c0_7 : Int32) (J7_c0_8 : Int32) (J7_c2_16 : Int32) (J7_a3 : Nat → Int32) (J7_l2 : Int32) (H : Heap) (locs : List Loc) (ls : Array Slot), ib J7_c0_2 0 1600 → ib J7_c0_3 0 1600 → ib J7_c0_4 0 4 → ib J7_c2_16 0 1600 → ib J7_l2 0 1600 → (¬ J7_c0_4 = 0 → ib J7_c0_2 0 1599) → (O = F_X5_sum_a0_2_7 (lf_A g_this_text) (Int32.toInt x_this_length) (Int32.toInt x_this_allowed) n (Int32.toInt J7_c0_2) (Int32.toInt J7_c0_3) (Int32.toInt J7_c0_4) (Int32.toInt J7_c0_7) (Int32.toInt J7_c0_8) (Int32.toInt J7_c2_16) (lf_A J7_a3) (Int32.toInt J7_l2)) → 1601 ≤ J7_l2.toInt + (n : Int) → va_P (dC, dI) vwCl [(wo_5_riiiiirii a_this a_this_text x_this_length J7_c0_2 J7_c0_3 J7_c0_4 x_this_allowed a_this_plan J7_c0_7 J7_c0_8), (wi_0_1600_0 a_this_text cy g_this_text), (wo_4_iiiiiiirrrirrrrrir a_this_plan x_this_plan_cycle x_this_plan_green x_this_plan_rule x_this_plan_least x_this_plan_away x_this_plan_statements x_this_plan_kinds a_this_plan_calm a_this_plan_pace a_this_plan_trusts x_this_plan_walkers a_this_plan_kindOf a_this_plan_comesAt a_this_plan_comers a_this_plan_names a_this_plan_code J7_c2_16 a_this_plan_spans), (wi_0_1600_0 a_this_plan_code cy J7_a3)] H → va_D A [(wo_5_riiiiirii a_this a_this_text x_this_length J7_c0_2 J7_c0_3 J7_c0_4 x_this_allowed a_this_plan J7_c0_7 J7_c0_8), (wi_0_1600_0 a_this_text cy g_this_text), (wo_4_iiiiiiirrrirrrrrir a_this_plan x_this_plan_cycle x_this_plan_green x_this_plan_rule x_this_plan_least x_this_plan_away x_this_plan_statements x_this_plan_kinds a_this_plan_calm a_this_plan_pace a_this_plan_trusts x_this_plan_walkers a_this_plan_kindOf a_this_plan_comesAt a_this_plan_comers a_this_plan_names a_this_plan_code J7_c2_16 a_this_plan_spans), (wi_0_1600_0 a_this_plan_code cy J7_a3)] → va_S A s.heap H locs → lv_has ls 4 [(0, .ref a_this), (1, .int 2), (2, .int J7_l2)] → W p l e { frames := 24, cells := 0, slots := 0, locals := 588 } s m args below meth c H locs 0 0 Q (F0 m 7 ls []) := by
    as_aux_lemma =>
      intro n
      induction n with
      | zero =>
        intro J7_c0_2 J7_c0_3 J7_c0_4 J7_c0_7 J7_c0_8 J7_c2_16 J7_a3 J7_l2 H locs ls hJ7_c0_2 hJ7_c0_3 hJ7_c0_4 hJ7_c2_16 hJ7_l2 hJ7_ic0_0 hq hm
        exact absurd hm (by have := hJ7_l2; unfold ib at this; omega)
      | succ n ih =>
        intro J7_c0_2 J7_c0_3 J7_c0_4 J7_c0_7 J7_c0_8 J7_c2_16 J7_a3 J7_l2 H locs ls hJ7_c0_2 hJ7_c0_3 hJ7_c0_4 hJ7_c2_16 hJ7_l2 hJ7_ic0_0 hq hm7 hP hD hS hl
        have ih7 := ih
        obtain ⟨K7, hK7⟩ : ∃ K, K = F_X5_sum_a0_2_7 (lf_A g_this_text) (Int32.toInt x_this_length) (Int32.toInt x_this_allowed) n := ⟨_, rfl⟩
        have hq : O = F_X5_sum_a0_2_7b (lf_A g_this_text) (Int32.toInt x_this_length) (Int32.toInt x_this_allowed) K7 (Int32.toInt J7_c0_2) (Int32.toInt J7_c0_3) (Int32.toInt J7_c0_4) (Int32.toInt J7_c0_7) (Int32.toInt J7_c0_8) (Int32.toInt J7_c2_16) (lf_A J7_a3) (Int32.toInt J7_l2) := by rw [hK7]; exact hq
        unfold F_X5_sum_a0_2_7b at hq
        have jn48 : ∀ (J48_s0 : Int32) (H : Heap) (locs : List Loc) (ls : Array Slot), ib J7_l2 0 1599 → ib J7_c0_2 0 1599 → ib J7_c0_3 0 1600 → ib J7_c0_4 3 3 → ib J7_c2_16 0 1600 → ib J48_s0 (-21) (-20) → (O = F_X5_sum_a0_2_48 (lf_A g_this_text) (Int32.toInt x_this_length) (Int32.toInt x_this_allowed) (Int32.toInt J7_c0_3) (Int32.toInt J7_c0_7) (Int32.toInt J7_c0_8) (Int32.toInt J7_c2_16) (lf_A J7_a3) (Int32.toInt J7_l2) K7 (Int32.toInt J48_s0)) → va_P (dC, dI) vwCl [(wo_5_riiiiirii a_this a_this_text x_this_length J7_c0_2 J7_c0_3 J7_c0_4 x_this_allowed a_this_plan J7_c0_7 J7_c0_8), (wi_0_1600_0 a_this_text cy g_this_text), (wo_4_iiiiiiirrrirrrrrir a_this_plan x_this_plan_cycle x_this_plan_green x_this_plan_rule x_this_plan_least x_this_plan_away x_this_plan_statements x_this_plan_kinds a_this_plan_calm a_this_plan_pace a_this_plan_trusts x_this_plan_walkers a_this_plan_kindOf a_this_plan_comesAt a_this_plan_comers a_this_plan_names a_this_plan_code J7_c2_16 a_this_plan_spans), (wi_0_1600_0 a_this_plan_code cy J7_a3)] H → va_D A [(wo_5_riiiiirii a_this a_this_text x_this_length J7_c0_2 J7_c0_3 J7_c0_4 x_this_allowed a_this_plan J7_c0_7 J7_c0_8), (wi_0_1600_0 a_this_text cy g_this_text), (wo_4_iiiiiiirrrirrrrrir a_this_plan x_this_plan_cycle x_this_plan_green x_this_plan_rule x_this_plan_least x_this_plan_away x_this_plan_statements x_this_plan_kinds a_this_plan_calm a_this_plan_pace a_this_plan_trusts x_this_plan_walkers a_this_plan_kindOf a_this_plan_comesAt a_this_plan_comers a_this_plan_names a_this_plan_code J7_c2_16 a_this_plan_spans), (wi_0_1600_0 a_this_plan_code cy J7_a3)] → va_S A s.heap H locs → lv_has ls 4 [(0, .ref a_this), (1, .int 2), (2, .int J7_l2)] → W p l e { frames := 24, cells := 0, slots := 0, locals := 588 } s m args below meth c H locs 0 0 Q (F0 m 48 ls [.int J48_s0]) := by
          as_aux_lemma =>
            intro J48_s0 H locs ls hK48_J7_l2 hK48_J7_c0_2 hK48_J7_c0_3 hK48_J7_c0_4 hK48_J7_c2_16 hJ48_s0 hq hP hD hS hl
            unfold F_X5_sum_a0_2_48 at hq
            refine lv_istore_n (lv' := [(3, .int J48_s0), (0, .ref a_this), (1, .int 2), (2, .int J7_l2)]) hx hb dX5_sum_48 rfl hl (Nat.le_of_ble_eq_true rfl) rfl (fun ls hl => ?_)
            refine lv_aload_n hx hb dX5_sum_49 rfl (lv_at hl 1 rfl) ?_
            refine lv_aload_n hx hb dX5_sum_50 rfl (lv_at hl 1 rfl) ?_
            refine k_get C0 fg_X5_18 hP 0 rfl rfl dX5_sum_51 ?_
            refine k_jvm hP hD hS hA [0, 1] [false, false, true, true] rfl rfl rfl 0 0 (Nat.le_of_ble_eq_true rfl) (Nat.le_of_ble_eq_true rfl) (fun hPc hDc => k_runV (As := [.int J7_c0_3]) (rest := []) C0 hZ hS hA (s_X5_moveTo l dC dI cy sq a_this a_this_text g_this_text x_this_length J7_c0_2 J7_c0_3 J7_c0_4 x_this_allowed a_this_plan J7_c0_7 J7_c0_8 J7_c0_3 hg_this_text (ib_w 0 1600 hx_this_length rfl) (ib_w 0 1600 hK48_J7_c0_3 rfl)) mV_X5_86 hPc hDc rfl rfl rfl hl rfl rfl (Nat.le_of_ble_eq_true rfl) ⟨(Nat.le_of_ble_eq_true rfl), (Nat.le_of_ble_eq_true rfl)⟩ ⟨(Nat.le_of_ble_eq_true rfl), (Nat.le_of_ble_eq_true rfl)⟩ dX5_sum_54) (fun u2 H locs hw hP hD hS => ?_)
            obtain ⟨v3, v4, v5⟩ := u2
            try dsimp only at hP hD hw
            replace hP : va_P (dC, dI) vwCl [(wo_4_iiiiiiirrrirrrrrir a_this_plan x_this_plan_cycle x_this_plan_green x_this_plan_rule x_this_plan_least x_this_plan_away x_this_plan_statements x_this_plan_kinds a_this_plan_calm a_this_plan_pace a_this_plan_trusts x_this_plan_walkers a_this_plan_kindOf a_this_plan_comesAt a_this_plan_comers a_this_plan_names a_this_plan_code J7_c2_16 a_this_plan_spans), (wi_0_1600_0 a_this_plan_code cy J7_a3), (wo_5_riiiiirii a_this a_this_text x_this_length v3 v4 v5 x_this_allowed a_this_plan J7_c0_7 J7_c0_8), (wi_0_1600_0 a_this_text cy g_this_text)] H := hP
            replace hD := k_D hP hD
            obtain ⟨h6, h7, h8, h9, h10⟩ := hw
            replace hq := lf_p1 hq h10
            replace hq := lf_p1 hq rfl
            refine lv_aload_n hx hb dX5_sum_57 rfl (lv_at hl 1 rfl) ?_
            refine lv_iload_n hx hb dX5_sum_58 rfl (lv_at hl 2 rfl) ?_
            refine k_jvm hP hD hS hA [2, 3, 0, 1] [] rfl rfl rfl 0 0 (Nat.le_of_ble_eq_true rfl) (Nat.le_of_ble_eq_true rfl) (fun hPc hDc => k_runV (As := [.int 2]) (rest := []) C0 hZ hS hA (s_X5_product_a0_2 l dC dI cy sq a_this a_this_text g_this_text x_this_length v3 v4 v5 x_this_allowed a_this_plan x_this_plan_cycle x_this_plan_green x_this_plan_rule x_this_plan_least x_this_plan_away x_this_plan_statements x_this_plan_kinds a_this_plan_calm a_this_plan_pace a_this_plan_trusts x_this_plan_walkers a_this_plan_kindOf a_this_plan_comesAt a_this_plan_comers a_this_plan_names a_this_plan_code J7_a3 J7_c2_16 a_this_plan_spans J7_c0_7 J7_c0_8 hg_this_text (ib_w 0 1600 hx_this_length rfl) (ib_w 0 1600 h6 rfl) (ib_w 0 1600 h7 rfl) (ib_w 0 4 h8 rfl) (ib_w 0 1600 hK48_J7_c2_16 rfl) (fun hq9 => ib_w 0 1599 (h9 hq9) rfl)) mV_X5_222 hPc hDc rfl rfl rfl hl rfl rfl (Nat.le_of_ble_eq_true rfl) ⟨(Nat.le_of_ble_eq_true rfl), (Nat.le_of_ble_eq_true rfl)⟩ ⟨(Nat.le_of_ble_eq_true rfl), (Nat.le_of_ble_eq_true rfl)⟩ dX5_sum_59) (fun u12 H locs hw hP hD hS => ?_)
            obtain ⟨v13, v14, v15, v16, v17, v18, f19⟩ := u12
            try dsimp only at hP hD hw
            replace hP : va_P (dC, dI) vwCl [(wo_5_riiiiirii a_this a_this_text x_this_length v13 v14 v15 x_this_allowed a_this_plan v16 v17), (wi_0_1600_0 a_this_text cy g_this_text), (wo_4_iiiiiiirrrirrrrrir a_this_plan x_this_plan_cycle x_this_plan_green x_this_plan_rule x_this_plan_least x_this_plan_away x_this_plan_statements x_this_plan_kinds a_this_plan_calm a_this_plan_pace a_this_plan_trusts x_this_plan_walkers a_this_plan_kindOf a_this_plan_comesAt a_this_plan_comers a_this_plan_names a_this_plan_code v18 a_this_plan_spans), (wi_0_1600_0 a_this_plan_code cy f19)] H := hP
            replace hD := k_D hP hD
            obtain ⟨h20, h21, h22, h23, h24, h25⟩ := hw
            replace hq := lf_p1 hq h25
            replace hq := lf_p1 hq rfl
            replace hq := lf_p1 hq rfl
            replace hq := lf_p1 hq rfl
            replace hq := lf_p1 hq rfl
            replace hq := lf_p1 hq rfl
            refine lv_aload_n hx hb dX5_sum_62 rfl (lv_at hl 1 rfl) ?_
            refine lv_iload_n hx hb dX5_sum_63 rfl (lv_at hl 0 rfl) ?_
            refine k_jvm hP hD hS hA [0, 2, 3] [false, true] rfl rfl rfl 0 0 (Nat.le_of_ble_eq_true rfl) (Nat.le_of_ble_eq_true rfl) (fun hPc hDc => k_runV (As := [.int J48_s0]) (rest := []) C0 hZ hS hA (s_X5_emit l dC dI cy sq a_this a_this_text x_this_length v13 v14 v15 x_this_allowed a_this_plan x_this_plan_cycle x_this_plan_green x_this_plan_rule x_this_plan_least x_this_plan_away x_this_plan_statements x_this_plan_kinds a_this_plan_calm a_this_plan_pace a_this_plan_trusts x_this_plan_walkers a_this_plan_kindOf a_this_plan_comesAt a_this_plan_comers a_this_plan_names a_this_plan_code f19 v18 a_this_plan_spans v16 v17 J48_s0 (ib_w 0 1600 h23 rfl)) mV_X5_199 hPc hDc rfl rfl rfl hl rfl rfl (Nat.le_of_ble_eq_true rfl) ⟨(Nat.le_of_ble_eq_true rfl), (Nat.le_of_ble_eq_true rfl)⟩ ⟨(Nat.le_of_ble_eq_true rfl), (Nat.le_of_ble_eq_true rfl)⟩ dX5_sum_64) (fun u27 H locs hw hP hD hS => ?_)
            obtain ⟨v28, f29⟩ := u27
            try dsimp only at hP hD hw
            replace hP : va_P (dC, dI) vwCl [(wi_0_1600_0 a_this_text cy g_this_text), (wo_5_riiiiirii a_this a_this_text x_this_length v13 v14 v15 x_this_allowed a_this_plan v16 v17), (wo_4_iiiiiiirrrirrrrrir a_this_plan x_this_plan_cycle x_this_plan_green x_this_plan_rule x_this_plan_least x_this_plan_away x_this_plan_statements x_this_plan_kinds a_this_plan_calm a_this_plan_pace a_this_plan_trusts x_this_plan_walkers a_this_plan_kindOf a_this_plan_comesAt a_this_plan_comers a_this_plan_names a_this_plan_code v28 a_this_plan_spans), (wi_0_1600_0 a_this_plan_code cy f29)] H := hP
            replace hD := k_D hP hD
            obtain ⟨h30, h31⟩ := hw
            replace hq := lf_p1 hq h31
            obtain ⟨z32, ez32⟩ : ∃ y : Int32, y = J7_l2 + 1 := ⟨_, rfl⟩
            refine lv_iinc (v := z32) (lv' := [(2, .int z32), (3, .int J48_s0), (0, .ref a_this), (1, .int 2)]) hx hb dX5_sum_67 hl (k := 3) rfl (by rw [ez32]; rfl) (Nat.le_of_ble_eq_true rfl) rfl (fun ls hl => ?_)
            have h33 := ib_add hK48_J7_l2 (ib_c 1 1 1 rfl) rfl
            rw [← ez32] at h33
            have h34 : ib z32 1 1600 := ib_w 1 1600 h33.1 rfl
            have Ez32 := lf_add h33.2 (lf_rf J7_l2) (lf_lc 1 (1 : Int) rfl)
            refine lv_goto (tgt := 7) hx hb dX5_sum_70 rfl ?_
            exact ih7 v13 v14 v15 v16 v17 v28 f29 z32 H locs ls (ib_w 0 1600 h20 rfl) (ib_w 0 1600 h21 rfl) (ib_w 0 4 h22 rfl) (ib_w 0 1600 h30 rfl) (ib_w 0 1600 h34 rfl) (fun hq9 => ib_w 0 1599 (h24 hq9) rfl) (by rw [← hK7]; rw [lf_u Ez32]; exact hq) (by have := h33.2; have : (1 : Int32).toInt = 1 := rfl; omega) (hP.sub [1, 0, 2, 3] rfl) (hD.sub [1, 0, 2, 3] rfl rfl) hS (lv_sub hl [2, 3, 0] rfl)
        have jn32 : ∀  (H : Heap) (locs : List Loc) (ls : Array Slot), ib J7_l2 0 1599 → ib J7_c0_2 0 1599 → ib J7_c0_3 0 1600 → ib J7_c0_4 3 3 → ib J7_c2_16 0 1600 → (O = F_X5_sum_a0_2_32 (lf_A g_this_text) (Int32.toInt x_this_length) (Int32.toInt x_this_allowed) (Int32.toInt J7_c0_2) (Int32.toInt J7_c0_3) (Int32.toInt J7_c0_4) (Int32.toInt J7_c0_7) (Int32.toInt J7_c0_8) (Int32.toInt J7_c2_16) (lf_A J7_a3) (Int32.toInt J7_l2) K7 ) → va_P (dC, dI) vwCl [(wo_5_riiiiirii a_this a_this_text x_this_length J7_c0_2 J7_c0_3 J7_c0_4 x_this_allowed a_this_plan J7_c0_7 J7_c0_8), (wi_0_1600_0 a_this_text cy g_this_text), (wo_4_iiiiiiirrrirrrrrir a_this_plan x_this_plan_cycle x_this_plan_green x_this_plan_rule x_this_plan_least x_this_plan_away x_this_plan_statements x_this_plan_kinds a_this_plan_calm a_this_plan_pace a_this_plan_trusts x_this_plan_walkers a_this_plan_kindOf a_this_plan_comesAt a_this_plan_comers a_this_plan_names a_this_plan_code J7_c2_16 a_this_plan_spans), (wi_0_1600_0 a_this_plan_code cy J7_a3)] H → va_D A [(wo_5_riiiiirii a_this a_this_text x_this_length J7_c0_2 J7_c0_3 J7_c0_4 x_this_allowed a_this_plan J7_c0_7 J7_c0_8), (wi_0_1600_0 a_this_text cy g_this_text), (wo_4_iiiiiiirrrirrrrrir a_this_plan x_this_plan_cycle x_this_plan_green x_this_plan_rule x_this_plan_least x_this_plan_away x_this_plan_statements x_this_plan_kinds a_this_plan_calm a_this_plan_pace a_this_plan_trusts x_this_plan_walkers a_this_plan_kindOf a_this_plan_comesAt a_this_plan_comers a_this_plan_names a_this_plan_code J7_c2_16 a_this_plan_spans), (wi_0_1600_0 a_this_plan_code cy J7_a3)] → va_S A s.heap H locs → lv_has ls 4 [(0, .ref a_this), (1, .int 2), (2, .int J7_l2)] → W p l e { frames := 24, cells := 0, slots := 0, locals := 588 } s m args below meth c H locs 0 0 Q (F0 m 32 ls []) := by
          as_aux_lemma =>
            intro H locs ls hK32_J7_l2 hK32_J7_c0_2 hK32_J7_c0_3 hK32_J7_c0_4 hK32_J7_c2_16 hq hP hD hS hl
            unfold F_X5_sum_a0_2_32 at hq
            refine lv_aload_n hx hb dX5_sum_32 rfl (lv_at hl 0 rfl) ?_
            refine lv_bipush (v := 43) hx hb dX5_sum_33 rfl ?_
            refine k_jim hP hD hS hA [0, 1] [false, false, true, true] rfl rfl rfl 0 0 (Nat.le_of_ble_eq_true rfl) (Nat.le_of_ble_eq_true rfl) (fun hPc hDc => k_runV (As := [.int 43]) (rest := []) C0 hZ hS hA (s_X5_sees l dC dI cy sq a_this a_this_text g_this_text x_this_length J7_c0_2 J7_c0_3 J7_c0_4 x_this_allowed a_this_plan J7_c0_7 J7_c0_8 43 hg_this_text (ib_w 0 1600 hK32_J7_c0_2 rfl) (ib_w 0 4 hK32_J7_c0_4 rfl) (fun _ => ib_w 0 1599 hK32_J7_c0_2 rfl)) mV_X5_213 hPc hDc rfl rfl rfl hl rfl rfl (Nat.le_of_ble_eq_true rfl) ⟨(Nat.le_of_ble_eq_true rfl), (Nat.le_of_ble_eq_true rfl)⟩ ⟨(Nat.le_of_ble_eq_true rfl), (Nat.le_of_ble_eq_true rfl)⟩ dX5_sum_35) (fun r35 u36 H locs hw hP hD hS => ?_)
            try dsimp only at hP hD hw
            replace hP : va_P (dC, dI) vwCl [(wo_4_iiiiiiirrrirrrrrir a_this_plan x_this_plan_cycle x_this_plan_green x_this_plan_rule x_this_plan_least x_this_plan_away x_this_plan_statements x_this_plan_kinds a_this_plan_calm a_this_plan_pace a_this_plan_trusts x_this_plan_walkers a_this_plan_kindOf a_this_plan_comesAt a_this_plan_comers a_this_plan_names a_this_plan_code J7_c2_16 a_this_plan_spans), (wi_0_1600_0 a_this_plan_code cy J7_a3), (wo_5_riiiiirii a_this a_this_text x_this_length J7_c0_2 J7_c0_3 J7_c0_4 x_this_allowed a_this_plan J7_c0_7 J7_c0_8), (wi_0_1600_0 a_this_text cy g_this_text)] H := hP
            replace hD := k_D hP hD
            obtain ⟨h37, h38, h39, h40, h41⟩ := hw
            have h41 := by have h9 := h41; try simp only [show (43 : Int32).toInt = (43 : Int) from rfl] at h9; exact h9
            replace hq := lf_b1 hq h41
            refine lv_if_eq (tgt := 46) hx hb dX5_sum_38 rfl (fun c42 => ?_) (fun c42 => ?_)
            · replace hq := lf_pos hq (lf_eq (lf_rf r35) (lf_lc 0 (0 : Int) rfl) c42)
              have h43 := ib_eq h37 (ib_c 0 0 0 rfl) c42
              have h44 : ib r35 0 0 := ib_w 0 0 h43.1 rfl
              refine lv_bipush (v := (-21)) hx hb dX5_sum_46 rfl ?_
              exact jn48 (-21) H locs ls (ib_w 0 1599 hK32_J7_l2 rfl) (ib_w 0 1599 hK32_J7_c0_2 rfl) (ib_w 0 1600 hK32_J7_c0_3 rfl) (ib_w 3 3 hK32_J7_c0_4 rfl) (ib_w 0 1600 hK32_J7_c2_16 rfl) (ib_w (-21) (-20) (ib_c (-21) (-21) (-21) rfl) rfl) (by try simp only [show ((-21) : Int32).toInt = (-21 : Int) from rfl]; exact hq) (hP.sub [2, 3, 0, 1] rfl) (hD.sub [2, 3, 0, 1] rfl rfl) hS (lv_sub hl [0, 1, 2] rfl)
            · replace hq := lf_neg hq (lf_ne (lf_rf r35) (lf_lc 0 (0 : Int) rfl) c42)
              have h45 : ib r35 1 1 := ib_w 1 1 (ib_ne_lo 0 h37 rfl c42) rfl
              refine lv_bipush (v := (-20)) hx hb dX5_sum_41 rfl ?_
              refine lv_goto (tgt := 48) hx hb dX5_sum_43 rfl ?_
              exact jn48 (-20) H locs ls (ib_w 0 1599 hK32_J7_l2 rfl) (ib_w 0 1599 hK32_J7_c0_2 rfl) (ib_w 0 1600 hK32_J7_c0_3 rfl) (ib_w 3 3 hK32_J7_c0_4 rfl) (ib_w 0 1600 hK32_J7_c2_16 rfl) (ib_w (-21) (-20) (ib_c (-20) (-20) (-20) rfl) rfl) (by try simp only [show ((-20) : Int32).toInt = (-20 : Int) from rfl]; exact hq) (hP.sub [2, 3, 0, 1] rfl) (hD.sub [2, 3, 0, 1] rfl rfl) hS (lv_sub hl [0, 1, 2] rfl)
        refine lv_iload_n hx hb dX5_sum_7 rfl (lv_at hl 2 rfl) ?_
        refine lv_sipush (v := 1600) hx hb dX5_sum_8 rfl ?_
        refine lv_icmp_ge (tgt := 73) hx hb dX5_sum_11 rfl (fun c46 => ?_) (fun c46 => ?_)
        · replace hq := lf_pos hq (lf_le (lf_lc 1600 (1600 : Int) rfl) (lf_rf J7_l2) c46)
          have h47 := ib_le (ib_c 1600 1600 1600 rfl) hJ7_l2 c46
          have h48 : ib J7_l2 1600 1600 := ib_w 1600 1600 h47.2 rfl
          subst hQ; exact k_vret hx hb hr hlk ((J7_c0_2, J7_c0_3, J7_c0_4, J7_c0_7, J7_c0_8, J7_c2_16, J7_a3)) hS ⟨ib_w 0 1600 hJ7_c0_2 rfl, ib_w 0 1600 hJ7_c0_3 rfl, ib_w 0 4 hJ7_c0_4 rfl, ib_w 0 1600 hJ7_c2_16 rfl, fun hq9 => ib_w 0 1599 (hJ7_ic0_0 hq9) rfl, (hO.symm.trans (by exact hq))⟩ hP hD (Nat.le_of_ble_eq_true rfl) (Nat.le_of_ble_eq_true rfl) dX5_sum_73
        · as_aux_lemma =>
            replace hq := lf_neg hq (lf_nle (lf_lc 1600 (1600 : Int) rfl) (lf_rf J7_l2) c46)
            have h49 := ib_nle (ib_c 1600 1600 1600 rfl) hJ7_l2 c46
            have h50 : ib J7_l2 0 1599 := ib_w 0 1599 h49.2 rfl
            refine lv_aload_n hx hb dX5_sum_14 rfl (lv_at hl 0 rfl) ?_
            refine lv_bipush (v := 43) hx hb dX5_sum_15 rfl ?_
            refine k_jim hP hD hS hA [0, 1] [false, false, true, true] rfl rfl rfl 0 0 (Nat.le_of_ble_eq_true rfl) (Nat.le_of_ble_eq_true rfl) (fun hPc hDc => k_runV (As := [.int 43]) (rest := []) C0 hZ hS hA (s_X5_sees l dC dI cy sq a_this a_this_text g_this_text x_this_length J7_c0_2 J7_c0_3 J7_c0_4 x_this_allowed a_this_plan J7_c0_7 J7_c0_8 43 hg_this_text (ib_w 0 1600 hJ7_c0_2 rfl) (ib_w 0 4 hJ7_c0_4 rfl) (fun hq9 => ib_w 0 1599 (hJ7_ic0_0 hq9) rfl)) mV_X5_213 hPc hDc rfl rfl rfl hl rfl rfl (Nat.le_of_ble_eq_true rfl) ⟨(Nat.le_of_ble_eq_true rfl), (Nat.le_of_ble_eq_true rfl)⟩ ⟨(Nat.le_of_ble_eq_true rfl), (Nat.le_of_ble_eq_true rfl)⟩ dX5_sum_17) (fun r51 u52 H locs hw hP hD hS => ?_)
            try dsimp only at hP hD hw
            replace hP : va_P (dC, dI) vwCl [(wo_4_iiiiiiirrrirrrrrir a_this_plan x_this_plan_cycle x_this_plan_green x_this_plan_rule x_this_plan_least x_this_plan_away x_this_plan_statements x_this_plan_kinds a_this_plan_calm a_this_plan_pace a_this_plan_trusts x_this_plan_walkers a_this_plan_kindOf a_this_plan_comesAt a_this_plan_comers a_this_plan_names a_this_plan_code J7_c2_16 a_this_plan_spans), (wi_0_1600_0 a_this_plan_code cy J7_a3), (wo_5_riiiiirii a_this a_this_text x_this_length J7_c0_2 J7_c0_3 J7_c0_4 x_this_allowed a_this_plan J7_c0_7 J7_c0_8), (wi_0_1600_0 a_this_text cy g_this_text)] H := hP
            replace hD := k_D hP hD
            obtain ⟨h53, h54, h55, h56, h57⟩ := hw
            have h57 := by have h9 := h57; try simp only [show (43 : Int32).toInt = (43 : Int) from rfl] at h9; exact h9
            replace hq := lf_b1 hq h57
            refine lv_if_ne (tgt := 32) hx hb dX5_sum_20 rfl (fun c58 => ?_) (fun c58 => ?_)
            · replace hq := lf_neg hq (lf_ne (lf_rf r51) (lf_lc 0 (0 : Int) rfl) c58)
              have h59 : ib r51 1 1 := ib_w 1 1 (ib_ne_lo 0 h53 rfl c58) rfl
              have h60 : ib J7_c0_2 0 1599 := ib_w 0 1599 (ib_two hJ7_c0_2 (h54 c58)) rfl
              have h61 : ib J7_c0_4 3 3 := ib_w 3 3 (ib_two hJ7_c0_4 (h55 c58)) rfl
              exact jn32  H locs ls (ib_w 0 1599 h50 rfl) (ib_w 0 1599 h60 rfl) (ib_w 0 1600 hJ7_c0_3 rfl) (ib_w 3 3 h61 rfl) (ib_w 0 1600 hJ7_c2_16 rfl) (by exact hq) (hP.sub [2, 3, 0, 1] rfl) (hD.sub [2, 3, 0, 1] rfl rfl) hS (lv_sub hl [0, 1, 2] rfl)
            · as_aux_lemma =>
                replace hq := lf_pos hq (lf_eq (lf_rf r51) (lf_lc 0 (0 : Int) rfl) c58)
                have h62 := ib_eq h53 (ib_c 0 0 0 rfl) c58
                have h63 : ib r51 0 0 := ib_w 0 0 h62.1 rfl
                refine lv_aload_n hx hb dX5_sum_23 rfl (lv_at hl 0 rfl) ?_
                refine lv_bipush (v := 45) hx hb dX5_sum_24 rfl ?_
                refine k_jim hP hD hS hA [2, 3] [true, true] rfl rfl rfl 0 0 (Nat.le_of_ble_eq_true rfl) (Nat.le_of_ble_eq_true rfl) (fun hPc hDc => k_runV (As := [.int 45]) (rest := []) C0 hZ hS hA (s_X5_sees l dC dI cy sq a_this a_this_text g_this_text x_this_length J7_c0_2 J7_c0_3 J7_c0_4 x_this_allowed a_this_plan J7_c0_7 J7_c0_8 45 hg_this_text (ib_w 0 1600 hJ7_c0_2 rfl) (ib_w 0 4 hJ7_c0_4 rfl) (fun hq9 => ib_w 0 1599 (hJ7_ic0_0 hq9) rfl)) mV_X5_213 hPc hDc rfl rfl rfl hl rfl rfl (Nat.le_of_ble_eq_true rfl) ⟨(Nat.le_of_ble_eq_true rfl), (Nat.le_of_ble_eq_true rfl)⟩ ⟨(Nat.le_of_ble_eq_true rfl), (Nat.le_of_ble_eq_true rfl)⟩ dX5_sum_26) (fun r64 u65 H locs hw hP hD hS => ?_)
                try dsimp only at hP hD hw
                replace hP : va_P (dC, dI) vwCl [(wo_4_iiiiiiirrrirrrrrir a_this_plan x_this_plan_cycle x_this_plan_green x_this_plan_rule x_this_plan_least x_this_plan_away x_this_plan_statements x_this_plan_kinds a_this_plan_calm a_this_plan_pace a_this_plan_trusts x_this_plan_walkers a_this_plan_kindOf a_this_plan_comesAt a_this_plan_comers a_this_plan_names a_this_plan_code J7_c2_16 a_this_plan_spans), (wi_0_1600_0 a_this_plan_code cy J7_a3), (wo_5_riiiiirii a_this a_this_text x_this_length J7_c0_2 J7_c0_3 J7_c0_4 x_this_allowed a_this_plan J7_c0_7 J7_c0_8), (wi_0_1600_0 a_this_text cy g_this_text)] H := hP
                replace hD := k_D hP hD
                obtain ⟨h66, h67, h68, h69, h70⟩ := hw
                have h70 := by have h9 := h70; try simp only [show (45 : Int32).toInt = (45 : Int) from rfl] at h9; exact h9
                replace hq := lf_b1 hq h70
                refine lv_if_eq (tgt := 73) hx hb dX5_sum_29 rfl (fun c71 => ?_) (fun c71 => ?_)
                · replace hq := lf_pos hq (lf_eq (lf_rf r64) (lf_lc 0 (0 : Int) rfl) c71)
                  have h72 := ib_eq h66 (ib_c 0 0 0 rfl) c71
                  have h73 : ib r64 0 0 := ib_w 0 0 h72.1 rfl
                  subst hQ; exact k_vret hx hb hr hlk ((J7_c0_2, J7_c0_3, J7_c0_4, J7_c0_7, J7_c0_8, J7_c2_16, J7_a3)) hS ⟨ib_w 0 1600 hJ7_c0_2 rfl, ib_w 0 1600 hJ7_c0_3 rfl, ib_w 0 4 hJ7_c0_4 rfl, ib_w 0 1600 hJ7_c2_16 rfl, fun hq9 => ib_w 0 1599 (hJ7_ic0_0 hq9) rfl, (hO.symm.trans (by exact hq))⟩ (hP.sub [2, 3, 0, 1] rfl) (hD.sub [2, 3, 0, 1] rfl rfl) (Nat.le_of_ble_eq_true rfl) (Nat.le_of_ble_eq_true rfl) dX5_sum_73
                · replace hq := lf_neg hq (lf_ne (lf_rf r64) (lf_lc 0 (0 : Int) rfl) c71)
                  have h74 : ib r64 1 1 := ib_w 1 1 (ib_ne_lo 0 h66 rfl c71) rfl
                  have h75 : ib J7_c0_2 0 1599 := ib_w 0 1599 (ib_two hJ7_c0_2 (h67 c71)) rfl
                  have h76 : ib J7_c0_4 3 3 := ib_w 3 3 (ib_two hJ7_c0_4 (h68 c71)) rfl
                  exact jn32  H locs ls (ib_w 0 1599 h50 rfl) (ib_w 0 1599 h75 rfl) (ib_w 0 1600 hJ7_c0_3 rfl) (ib_w 3 3 h76 rfl) (ib_w 0 1600 hJ7_c2_16 rfl) (by exact hq) (hP.sub [2, 3, 0, 1] rfl) (hD.sub [2, 3, 0, 1] rfl rfl) hS (lv_sub hl [0, 1, 2] rfl)
  refine lv_aload_n hx hb dX5_sum_0 rfl (lv_at hl 0 rfl) ?_
  refine lv_iload_n hx hb dX5_sum_1 rfl (lv_at hl 1 rfl) ?_
  refine k_jvm hP hD hS hA [0, 1, 2, 3] [] rfl rfl rfl 0 0 (Nat.le_of_ble_eq_true rfl) (Nat.le_of_ble_eq_true rfl) (fun hPc hDc => k_runV (As := [.int 2]) (rest := []) C0 hZ hS hA (s_X5_product_a0_2 l dC dI cy sq a_this a_this_text g_this_text x_this_length x_this_at x_this_behind x_this_sort x_this_allowed a_this_plan x_this_plan_cycle x_this_plan_green x_this_plan_rule x_this_plan_least x_this_plan_away x_this_plan_statements x_this_plan_kinds a_this_plan_calm a_this_plan_pace a_this_plan_trusts x_this_plan_walkers a_this_plan_kindOf a_this_plan_comesAt a_this_plan_comers a_this_plan_names a_this_plan_code g_this_plan_code x_this_plan_size a_this_plan_spans x_this_fault x_this_place hg_this_text (ib_w 0 1600 hx_this_length rfl) (ib_w 0 1600 hx_this_at rfl) (ib_w 0 1600 hx_this_behind rfl) (ib_w 0 4 hx_this_sort rfl) (ib_w 0 1600 hx_this_plan_size rfl) (fun hq9 => ib_w 0 1599 (hc0_this hq9) rfl)) mV_X5_222 hPc hDc rfl rfl rfl hl rfl rfl (Nat.le_of_ble_eq_true rfl) ⟨(Nat.le_of_ble_eq_true rfl), (Nat.le_of_ble_eq_true rfl)⟩ ⟨(Nat.le_of_ble_eq_true rfl), (Nat.le_of_ble_eq_true rfl)⟩ dX5_sum_2) (fun u78 H locs hw hP hD hS => ?_)
  obtain ⟨v79, v80, v81, v82, v83, v84, f85⟩ := u78
  try dsimp only at hP hD hw
  replace hP : va_P (dC, dI) vwCl [(wo_5_riiiiirii a_this a_this_text x_this_length v79 v80 v81 x_this_allowed a_this_plan v82 v83), (wi_0_1600_0 a_this_text cy g_this_text), (wo_4_iiiiiiirrrirrrrrir a_this_plan x_this_plan_cycle x_this_plan_green x_this_plan_rule x_this_plan_least x_this_plan_away x_this_plan_statements x_this_plan_kinds a_this_plan_calm a_this_plan_pace a_this_plan_trusts x_this_plan_walkers a_this_plan_kindOf a_this_plan_comesAt a_this_plan_comers a_this_plan_names a_this_plan_code v84 a_this_plan_spans), (wi_0_1600_0 a_this_plan_code cy f85)] H := hP
  replace hD := k_D hP hD
  obtain ⟨h86, h87, h88, h89, h90, h91⟩ := hw
  replace hq := lf_p1 hq h91
  replace hq := lf_p1 hq rfl
  replace hq := lf_p1 hq rfl
  replace hq := lf_p1 hq rfl
  replace hq := lf_p1 hq rfl
  replace hq := lf_p1 hq rfl
  refine lv_iconst (v := 0) hx hb dX5_sum_5 rfl ?_
  refine lv_istore_n (lv' := [(2, .int 0), (0, .ref a_this), (1, .int 2)]) hx hb dX5_sum_6 rfl hl (Nat.le_of_ble_eq_true rfl) rfl (fun ls hl => ?_)
  exact jn7 1602 v79 v80 v81 v82 v83 v84 f85 0 H locs ls (ib_w 0 1600 h86 rfl) (ib_w 0 1600 h87 rfl) (ib_w 0 4 h88 rfl) (ib_w 0 1600 h89 rfl) (ib_w 0 1600 (ib_c 0 0 0 rfl) rfl) (fun hq9 => ib_w 0 1599 (h90 hq9) rfl) (by try simp only [show (0 : Int32).toInt = (0 : Int) from rfl]; exact hq) (by have := (ib_c 0 0 0 rfl); unfold ib at this; omega) hP hD hS (lv_sub hl [1, 2, 0] rfl)
set_option maxHeartbeats 4000000 in
set_option maxRecDepth 100000 in
theorem s_X5_pair_a0_1 (l : Launch) (dC : Nat → ClassId) (dI : Nat → Nat → Nat) (cy : Nat → ClassId) (sq : Nat → Nat) (a_this : Nat) (a_this_text : Nat) (g_this_text : Nat → Int32) (x_this_length : Int32) (x_this_at : Int32) (x_this_behind : Int32) (x_this_sort : Int32) (x_this_allowed : Int32) (a_this_plan : Nat) (x_this_plan_cycle : Int32) (x_this_plan_green : Int32) (x_this_plan_rule : Int32) (x_this_plan_least : Int32) (x_this_plan_away : Int32) (x_this_plan_statements : Int32) (x_this_plan_kinds : Int32) (a_this_plan_calm : Nat) (a_this_plan_pace : Nat) (a_this_plan_trusts : Nat) (x_this_plan_walkers : Int32) (a_this_plan_kindOf : Nat) (a_this_plan_comesAt : Nat) (a_this_plan_comers : Nat) (a_this_plan_names : Nat) (a_this_plan_code : Nat) (g_this_plan_code : Nat → Int32) (x_this_plan_size : Int32) (a_this_plan_spans : Nat) (x_this_fault : Int32) (x_this_place : Int32) (p1 : Int32) (hg_this_text : ia g_this_text 1600 0 255) (hx_this_length : ib x_this_length 0 1600) (hx_this_at : ib x_this_at 0 1600) (hx_this_behind : ib x_this_behind 0 1600) (hx_this_sort : ib x_this_sort 0 4) (hx_this_plan_size : ib x_this_plan_size 0 1600) (hc0_this : ¬ x_this_sort = 0 → ib x_this_at 0 1599) : k_Met l yX5_pair cX5_pair 3 none { frames := 25, cells := 0, slots := 0, locals := 611 } dC dI cy sq [.ref a_this, .int 1, .int p1] [(wo_5_riiiiirii a_this a_this_text x_this_length x_this_at x_this_behind x_this_sort x_this_allowed a_this_plan x_this_fault x_this_place), (wi_0_1600_0 a_this_text cy g_this_text), (wo_4_iiiiiiirrrirrrrrir a_this_plan x_this_plan_cycle x_this_plan_green x_this_plan_rule x_this_plan_least x_this_plan_away x_this_plan_statements x_this_plan_kinds a_this_plan_calm a_this_plan_pace a_this_plan_trusts x_this_plan_walkers a_this_plan_kindOf a_this_plan_comesAt a_this_plan_comers a_this_plan_names a_this_plan_code x_this_plan_size a_this_plan_spans), (wi_0_1600_0 a_this_plan_code cy g_this_plan_code)] (k_Qv dC dI (fun (u : Int32 × Int32 × Int32 × Int32 × Int32 × Int32 × (Nat → Int32)) => match u with | (n0, n1, n2, n3, n4, n5, n6) => ib n0 0 1600 ∧ ib n1 0 1600 ∧ ib n2 0 4 ∧ ib n5 0 1600 ∧ (¬ n2 = 0 → ib n0 0 1599) ∧ (F_X5_pair_a0_1 (lf_A g_this_text) (Int32.toInt x_this_length) (Int32.toInt x_this_at) (Int32.toInt x_this_behind) (Int32.toInt x_this_sort) (Int32.toInt x_this_allowed) (lf_A g_this_plan_code) (Int32.toInt x_this_plan_size) (Int32.toInt x_this_fault) (Int32.toInt x_this_place) (Int32.toInt p1) = ((Int32.toInt n0), (Int32.toInt n1), (Int32.toInt n2), (Int32.toInt n3), (Int32.toInt n4), (Int32.toInt n5), (lf_A n6)))) (fun u : Int32 × Int32 × Int32 × Int32 × Int32 × Int32 × (Nat → Int32) => match u with | (n0, n1, n2, n3, n4, n5, n6) => [(wo_5_riiiiirii a_this a_this_text x_this_length n0 n1 n2 x_this_allowed a_this_plan n3 n4), (wi_0_1600_0 a_this_text cy g_this_text), (wo_4_iiiiiiirrrirrrrrir a_this_plan x_this_plan_cycle x_this_plan_green x_this_plan_rule x_this_plan_least x_this_plan_away x_this_plan_statements x_this_plan_kinds a_this_plan_calm a_this_plan_pace a_this_plan_trusts x_this_plan_walkers a_this_plan_kindOf a_this_plan_comesAt a_this_plan_comers a_this_plan_names a_this_plan_code n5 a_this_plan_spans), (wi_0_1600_0 a_this_plan_code cy n6)])) := by
  refine k_ofW2 (by decide +kernel) (Nat.le_of_ble_eq_true rfl) ?_
  intro p e s m below meth c A ls H locs args Q hQ C0 hZ hr hlk hin hP hD hA hS hl
  have C0 : k_cx p s m args c cX5_pair 3 RX5 dC dI cy sq := C0
  have hx := C0.1
  have hb := C0.2.1
  have hl : lv_has ls 3 [(0, .ref a_this), (1, .int 1), (2, .int p1)] := hl
  obtain ⟨O, hO⟩ : ∃ o, o = F_X5_pair_a0_1 (lf_A g_this_text) (Int32.toInt x_this_length) (Int32.toInt x_this_at) (Int32.toInt x_this_behind) (Int32.toInt x_this_sort) (Int32.toInt x_this_allowed) (lf_A g_this_plan_code) (Int32.toInt x_this_plan_size) (Int32.toInt x_this_fault) (Int32.toInt x_this_place) (Int32.toInt p1) := ⟨_, rfl⟩
  have hq := hO
  unfold F_X5_pair_a0_1 at hq
  refine lv_aload_n hx hb dX5_pair_0 rfl (lv_at hl 0 rfl) ?_
  refine lv_bipush (v := 40) hx hb dX5_pair_1 rfl ?_
  refine k_jim hP hD hS hA [0, 1] [false, false, true, true] rfl rfl rfl 0 0 (Nat.le_of_ble_eq_true rfl) (Nat.le_of_ble_eq_true rfl) (fun hPc hDc => k_runV (As := [.int 40]) (rest := []) C0 hZ hS hA (s_X5_sees l dC dI cy sq a_this a_this_text g_this_text x_this_length x_this_at x_this_behind x_this_sort x_this_allowed a_this_plan x_this_fault x_this_place 40 hg_this_text (ib_w 0 1600 hx_this_at rfl) (ib_w 0 4 hx_this_sort rfl) (fun hq9 => ib_w 0 1599 (hc0_this hq9) rfl)) mV_X5_213 hPc hDc rfl rfl rfl hl rfl rfl (Nat.le_of_ble_eq_true rfl) ⟨(Nat.le_of_ble_eq_true rfl), (Nat.le_of_ble_eq_true rfl)⟩ ⟨(Nat.le_of_ble_eq_true rfl), (Nat.le_of_ble_eq_true rfl)⟩ dX5_pair_3) (fun r1 u2 H locs hw hP hD hS => ?_)
  try dsimp only at hP hD hw
  replace hP : va_P (dC, dI) vwCl [(wo_4_iiiiiiirrrirrrrrir a_this_plan x_this_plan_cycle x_this_plan_green x_this_plan_rule x_this_plan_least x_this_plan_away x_this_plan_statements x_this_plan_kinds a_this_plan_calm a_this_plan_pace a_this_plan_trusts x_this_plan_walkers a_this_plan_kindOf a_this_plan_comesAt a_this_plan_comers a_this_plan_names a_this_plan_code x_this_plan_size a_this_plan_spans), (wi_0_1600_0 a_this_plan_code cy g_this_plan_code), (wo_5_riiiiirii a_this a_this_text x_this_length x_this_at x_this_behind x_this_sort x_this_allowed a_this_plan x_this_fault x_this_place), (wi_0_1600_0 a_this_text cy g_this_text)] H := hP
  replace hD := k_D hP hD
  obtain ⟨h3, h4, h5, h6, h7⟩ := hw
  have h7 := by have h9 := h7; try simp only [show (40 : Int32).toInt = (40 : Int) from rfl] at h9; exact h9
  replace hq := lf_b1 hq h7
  refine lv_if_ne (tgt := 21) hx hb dX5_pair_6 rfl (fun c8 => ?_) (fun c8 => ?_)
  · as_aux_lemma =>
      replace hq := lf_neg hq (lf_ne (lf_rf r1) (lf_lc 0 (0 : Int) rfl) c8)
      have h9 : ib r1 1 1 := ib_w 1 1 (ib_ne_lo 0 h3 rfl c8) rfl
      have h10 : ib x_this_at 0 1599 := ib_w 0 1599 (ib_two hx_this_at (h4 c8)) rfl
      have h11 : ib x_this_sort 3 3 := ib_w 3 3 (ib_two hx_this_sort (h5 c8)) rfl
      refine lv_aload_n hx hb dX5_pair_21 rfl (lv_at hl 0 rfl) ?_
      refine lv_iload_n hx hb dX5_pair_22 rfl (lv_at hl 1 rfl) ?_
      refine k_jim hP hD hS hA [2, 3] [true, true] rfl rfl rfl 0 0 (Nat.le_of_ble_eq_true rfl) (Nat.le_of_ble_eq_true rfl) (fun hPc hDc => k_runV (As := [.int 1]) (rest := []) C0 hZ hS hA (s_X5_enters_a0_1 l dC dI cy sq a_this a_this_text g_this_text x_this_length x_this_at x_this_behind x_this_sort x_this_allowed a_this_plan x_this_fault x_this_place hg_this_text (ib_w 0 1600 hx_this_length rfl) (ib_w 0 1600 hx_this_behind rfl)) mV_X5_209 hPc hDc rfl rfl rfl hl rfl rfl (Nat.le_of_ble_eq_true rfl) ⟨(Nat.le_of_ble_eq_true rfl), (Nat.le_of_ble_eq_true rfl)⟩ ⟨(Nat.le_of_ble_eq_true rfl), (Nat.le_of_ble_eq_true rfl)⟩ dX5_pair_23) (fun r12 u13 H locs hw hP hD hS => ?_)
      obtain ⟨v14, v15, v16⟩ := u13
      try dsimp only at hP hD hw
      replace hP : va_P (dC, dI) vwCl [(wo_4_iiiiiiirrrirrrrrir a_this_plan x_this_plan_cycle x_this_plan_green x_this_plan_rule x_this_plan_least x_this_plan_away x_this_plan_statements x_this_plan_kinds a_this_plan_calm a_this_plan_pace a_this_plan_trusts x_this_plan_walkers a_this_plan_kindOf a_this_plan_comesAt a_this_plan_comers a_this_plan_names a_this_plan_code x_this_plan_size a_this_plan_spans), (wi_0_1600_0 a_this_plan_code cy g_this_plan_code), (wo_5_riiiiirii a_this a_this_text x_this_length v14 v15 v16 x_this_allowed a_this_plan x_this_fault x_this_place), (wi_0_1600_0 a_this_text cy g_this_text)] H := hP
      replace hD := k_D hP hD
      obtain ⟨h17, h18, h19, h20, h21, h22⟩ := hw
      replace hq := lf_p1 hq h22
      replace hq := lf_p1 hq rfl
      replace hq := lf_p1 hq rfl
      refine lv_if_eq (tgt := 60) hx hb dX5_pair_26 rfl (fun c23 => ?_) (fun c23 => ?_)
      · skip
        have h24 := ib_eq h17 (ib_c 0 0 0 rfl) c23
        exact ib_no (ib_w 1 0 h24.1 rfl) rfl
      · as_aux_lemma =>
          skip
          refine lv_aload_n hx hb dX5_pair_29 rfl (lv_at hl 0 rfl) ?_
          refine lv_iload_n hx hb dX5_pair_30 rfl (lv_at hl 1 rfl) ?_
          refine lv_iconst (v := 1) hx hb dX5_pair_31 rfl ?_
          refine lv_iadd hx hb dX5_pair_32 ?_
          refine k_topi (y := 2) (by decide) ?_
          refine k_jvm hP hD hS hA [2, 3, 0, 1] [] rfl rfl rfl 0 0 (Nat.le_of_ble_eq_true rfl) (Nat.le_of_ble_eq_true rfl) (fun hPc hDc => k_runV (As := [.int 2]) (rest := []) C0 hZ hS hA (s_X5_sum_a0_2 l dC dI cy sq a_this a_this_text g_this_text x_this_length v14 v15 v16 x_this_allowed a_this_plan x_this_plan_cycle x_this_plan_green x_this_plan_rule x_this_plan_least x_this_plan_away x_this_plan_statements x_this_plan_kinds a_this_plan_calm a_this_plan_pace a_this_plan_trusts x_this_plan_walkers a_this_plan_kindOf a_this_plan_comesAt a_this_plan_comers a_this_plan_names a_this_plan_code g_this_plan_code x_this_plan_size a_this_plan_spans x_this_fault x_this_place hg_this_text (ib_w 0 1600 hx_this_length rfl) (ib_w 0 1600 h18 rfl) (ib_w 0 1600 h19 rfl) (ib_w 0 4 h20 rfl) (ib_w 0 1600 hx_this_plan_size rfl) (fun hq9 => ib_w 0 1599 (h21 hq9) rfl)) mV_X5_93 hPc hDc rfl rfl rfl hl rfl rfl (Nat.le_of_ble_eq_true rfl) ⟨(Nat.le_of_ble_eq_true rfl), (Nat.le_of_ble_eq_true rfl)⟩ ⟨(Nat.le_of_ble_eq_true rfl), (Nat.le_of_ble_eq_true rfl)⟩ dX5_pair_33) (fun u26 H locs hw hP hD hS => ?_)
          obtain ⟨v27, v28, v29, v30, v31, v32, f33⟩ := u26
          try dsimp only at hP hD hw
          replace hP : va_P (dC, dI) vwCl [(wo_5_riiiiirii a_this a_this_text x_this_length v27 v28 v29 x_this_allowed a_this_plan v30 v31), (wi_0_1600_0 a_this_text cy g_this_text), (wo_4_iiiiiiirrrirrrrrir a_this_plan x_this_plan_cycle x_this_plan_green x_this_plan_rule x_this_plan_least x_this_plan_away x_this_plan_statements x_this_plan_kinds a_this_plan_calm a_this_plan_pace a_this_plan_trusts x_this_plan_walkers a_this_plan_kindOf a_this_plan_comesAt a_this_plan_comers a_this_plan_names a_this_plan_code v32 a_this_plan_spans), (wi_0_1600_0 a_this_plan_code cy f33)] H := hP
          replace hD := k_D hP hD
          obtain ⟨h34, h35, h36, h37, h38, h39⟩ := hw
          replace hq := lf_p1 hq h39
          replace hq := lf_p1 hq rfl
          replace hq := lf_p1 hq rfl
          replace hq := lf_p1 hq rfl
          replace hq := lf_p1 hq rfl
          replace hq := lf_p1 hq rfl
          refine lv_aload_n hx hb dX5_pair_36 rfl (lv_at hl 0 rfl) ?_
          refine lv_bipush (v := 44) hx hb dX5_pair_37 rfl ?_
          refine k_jvm hP hD hS hA [0, 1] [false, false, true, true] rfl rfl rfl 0 0 (Nat.le_of_ble_eq_true rfl) (Nat.le_of_ble_eq_true rfl) (fun hPc hDc => k_runV (As := [.int 44]) (rest := []) C0 hZ hS hA (s_X5_need l dC dI cy sq a_this a_this_text g_this_text x_this_length v27 v28 v29 x_this_allowed a_this_plan v30 v31 44 hg_this_text (ib_w 0 1600 hx_this_length rfl) (ib_w 0 1600 h34 rfl) (ib_w 0 1600 h35 rfl) (ib_w 0 4 h36 rfl) (fun hq9 => ib_w 0 1599 (h38 hq9) rfl)) mV_X5_48 hPc hDc rfl rfl rfl hl rfl rfl (Nat.le_of_ble_eq_true rfl) ⟨(Nat.le_of_ble_eq_true rfl), (Nat.le_of_ble_eq_true rfl)⟩ ⟨(Nat.le_of_ble_eq_true rfl), (Nat.le_of_ble_eq_true rfl)⟩ dX5_pair_39) (fun u41 H locs hw hP hD hS => ?_)
          obtain ⟨v42, v43, v44, v45, v46⟩ := u41
          try dsimp only at hP hD hw
          replace hP : va_P (dC, dI) vwCl [(wo_4_iiiiiiirrrirrrrrir a_this_plan x_this_plan_cycle x_this_plan_green x_this_plan_rule x_this_plan_least x_this_plan_away x_this_plan_statements x_this_plan_kinds a_this_plan_calm a_this_plan_pace a_this_plan_trusts x_this_plan_walkers a_this_plan_kindOf a_this_plan_comesAt a_this_plan_comers a_this_plan_names a_this_plan_code v32 a_this_plan_spans), (wi_0_1600_0 a_this_plan_code cy f33), (wo_5_riiiiirii a_this a_this_text x_this_length v42 v43 v44 x_this_allowed a_this_plan v45 v46), (wi_0_1600_0 a_this_text cy g_this_text)] H := hP
          replace hD := k_D hP hD
          obtain ⟨h47, h48, h49, h50, h51⟩ := hw
          have h51 := by have h9 := h51; try simp only [show (44 : Int32).toInt = (44 : Int) from rfl] at h9; exact h9
          replace hq := lf_p1 hq h51
          replace hq := lf_p1 hq rfl
          replace hq := lf_p1 hq rfl
          as_aux_lemma =>
            replace hq := lf_p1 hq rfl
            refine lv_aload_n hx hb dX5_pair_42 rfl (lv_at hl 0 rfl) ?_
            refine lv_iload_n hx hb dX5_pair_43 rfl (lv_at hl 1 rfl) ?_
            refine lv_iconst (v := 1) hx hb dX5_pair_44 rfl ?_
            refine lv_iadd hx hb dX5_pair_45 ?_
            refine k_topi (y := 2) (by decide) ?_
            refine k_jvm hP hD hS hA [2, 3, 0, 1] [] rfl rfl rfl 0 0 (Nat.le_of_ble_eq_true rfl) (Nat.le_of_ble_eq_true rfl) (fun hPc hDc => k_runV (As := [.int 2]) (rest := []) C0 hZ hS hA (s_X5_sum_a0_2 l dC dI cy sq a_this a_this_text g_this_text x_this_length v42 v43 v44 x_this_allowed a_this_plan x_this_plan_cycle x_this_plan_green x_this_plan_rule x_this_plan_least x_this_plan_away x_this_plan_statements x_this_plan_kinds a_this_plan_calm a_this_plan_pace a_this_plan_trusts x_this_plan_walkers a_this_plan_kindOf a_this_plan_comesAt a_this_plan_comers a_this_plan_names a_this_plan_code f33 v32 a_this_plan_spans v45 v46 hg_this_text (ib_w 0 1600 hx_this_length rfl) (ib_w 0 1600 h47 rfl) (ib_w 0 1600 h48 rfl) (ib_w 0 4 h49 rfl) (ib_w 0 1600 h37 rfl) (fun hq9 => ib_w 0 1599 (h50 hq9) rfl)) mV_X5_93 hPc hDc rfl rfl rfl hl rfl rfl (Nat.le_of_ble_eq_true rfl) ⟨(Nat.le_of_ble_eq_true rfl), (Nat.le_of_ble_eq_true rfl)⟩ ⟨(Nat.le_of_ble_eq_true rfl), (Nat.le_of_ble_eq_true rfl)⟩ dX5_pair_46) (fun u53 H locs hw hP hD hS => ?_)
            obtain ⟨v54, v55, v56, v57, v58, v59, f60⟩ := u53
            try dsimp only at hP hD hw
            replace hP : va_P (dC, dI) vwCl [(wo_5_riiiiirii a_this a_this_text x_this_length v54 v55 v56 x_this_allowed a_this_plan v57 v58), (wi_0_1600_0 a_this_text cy g_this_text), (wo_4_iiiiiiirrrirrrrrir a_this_plan x_this_plan_cycle x_this_plan_green x_this_plan_rule x_this_plan_least x_this_plan_away x_this_plan_statements x_this_plan_kinds a_this_plan_calm a_this_plan_pace a_this_plan_trusts x_this_plan_walkers a_this_plan_kindOf a_this_plan_comesAt a_this_plan_comers a_this_plan_names a_this_plan_code v59 a_this_plan_spans), (wi_0_1600_0 a_this_plan_code cy f60)] H := hP
            replace hD := k_D hP hD
            obtain ⟨h61, h62, h63, h64, h65, h66⟩ := hw
            replace hq := lf_p1 hq h66
            replace hq := lf_p1 hq rfl
            replace hq := lf_p1 hq rfl
            replace hq := lf_p1 hq rfl
            replace hq := lf_p1 hq rfl
            replace hq := lf_p1 hq rfl
            refine lv_aload_n hx hb dX5_pair_49 rfl (lv_at hl 0 rfl) ?_
            refine lv_bipush (v := 41) hx hb dX5_pair_50 rfl ?_
            refine k_jvm hP hD hS hA [0, 1] [false, false, true, true] rfl rfl rfl 0 0 (Nat.le_of_ble_eq_true rfl) (Nat.le_of_ble_eq_true rfl) (fun hPc hDc => k_runV (As := [.int 41]) (rest := []) C0 hZ hS hA (s_X5_need l dC dI cy sq a_this a_this_text g_this_text x_this_length v54 v55 v56 x_this_allowed a_this_plan v57 v58 41 hg_this_text (ib_w 0 1600 hx_this_length rfl) (ib_w 0 1600 h61 rfl) (ib_w 0 1600 h62 rfl) (ib_w 0 4 h63 rfl) (fun hq9 => ib_w 0 1599 (h65 hq9) rfl)) mV_X5_48 hPc hDc rfl rfl rfl hl rfl rfl (Nat.le_of_ble_eq_true rfl) ⟨(Nat.le_of_ble_eq_true rfl), (Nat.le_of_ble_eq_true rfl)⟩ ⟨(Nat.le_of_ble_eq_true rfl), (Nat.le_of_ble_eq_true rfl)⟩ dX5_pair_52) (fun u68 H locs hw hP hD hS => ?_)
            obtain ⟨v69, v70, v71, v72, v73⟩ := u68
            try dsimp only at hP hD hw
            replace hP : va_P (dC, dI) vwCl [(wo_4_iiiiiiirrrirrrrrir a_this_plan x_this_plan_cycle x_this_plan_green x_this_plan_rule x_this_plan_least x_this_plan_away x_this_plan_statements x_this_plan_kinds a_this_plan_calm a_this_plan_pace a_this_plan_trusts x_this_plan_walkers a_this_plan_kindOf a_this_plan_comesAt a_this_plan_comers a_this_plan_names a_this_plan_code v59 a_this_plan_spans), (wi_0_1600_0 a_this_plan_code cy f60), (wo_5_riiiiirii a_this a_this_text x_this_length v69 v70 v71 x_this_allowed a_this_plan v72 v73), (wi_0_1600_0 a_this_text cy g_this_text)] H := hP
            replace hD := k_D hP hD
            obtain ⟨h74, h75, h76, h77, h78⟩ := hw
            have h78 := by have h9 := h78; try simp only [show (41 : Int32).toInt = (41 : Int) from rfl] at h9; exact h9
            replace hq := lf_p1 hq h78
            replace hq := lf_p1 hq rfl
            replace hq := lf_p1 hq rfl
            replace hq := lf_p1 hq rfl
            refine lv_aload_n hx hb dX5_pair_55 rfl (lv_at hl 0 rfl) ?_
            refine lv_iload_n hx hb dX5_pair_56 rfl (lv_at hl 2 rfl) ?_
            refine k_jvm hP hD hS hA [2, 0, 1] [false, false, false, true] rfl rfl rfl 0 0 (Nat.le_of_ble_eq_true rfl) (Nat.le_of_ble_eq_true rfl) (fun hPc hDc => k_runV (As := [.int p1]) (rest := []) C0 hZ hS hA (s_X5_emit l dC dI cy sq a_this a_this_text x_this_length v69 v70 v71 x_this_allowed a_this_plan x_this_plan_cycle x_this_plan_green x_this_plan_rule x_this_plan_least x_this_plan_away x_this_plan_statements x_this_plan_kinds a_this_plan_calm a_this_plan_pace a_this_plan_trusts x_this_plan_walkers a_this_plan_kindOf a_this_plan_comesAt a_this_plan_comers a_this_plan_names a_this_plan_code f60 v59 a_this_plan_spans v72 v73 p1 (ib_w 0 1600 h64 rfl)) mV_X5_199 hPc hDc rfl rfl rfl hl rfl rfl (Nat.le_of_ble_eq_true rfl) ⟨(Nat.le_of_ble_eq_true rfl), (Nat.le_of_ble_eq_true rfl)⟩ ⟨(Nat.le_of_ble_eq_true rfl), (Nat.le_of_ble_eq_true rfl)⟩ dX5_pair_57) (fun u80 H locs hw hP hD hS => ?_)
            obtain ⟨v81, f82⟩ := u80
            try dsimp only at hP hD hw
            replace hP : va_P (dC, dI) vwCl [(wi_0_1600_0 a_this_text cy g_this_text), (wo_5_riiiiirii a_this a_this_text x_this_length v69 v70 v71 x_this_allowed a_this_plan v72 v73), (wo_4_iiiiiiirrrirrrrrir a_this_plan x_this_plan_cycle x_this_plan_green x_this_plan_rule x_this_plan_least x_this_plan_away x_this_plan_statements x_this_plan_kinds a_this_plan_calm a_this_plan_pace a_this_plan_trusts x_this_plan_walkers a_this_plan_kindOf a_this_plan_comesAt a_this_plan_comers a_this_plan_names a_this_plan_code v81 a_this_plan_spans), (wi_0_1600_0 a_this_plan_code cy f82)] H := hP
            replace hD := k_D hP hD
            obtain ⟨h83, h84⟩ := hw
            replace hq := lf_p1 hq h84
            subst hQ; exact k_vret hx hb hr hlk ((v69, v70, v71, v72, v73, v81, f82)) hS ⟨ib_w 0 1600 h74 rfl, ib_w 0 1600 h75 rfl, ib_w 0 4 h76 rfl, ib_w 0 1600 h83 rfl, fun hq9 => ib_w 0 1599 (h77 hq9) rfl, (hO.symm.trans (by exact hq))⟩ (hP.sub [1, 0, 2, 3] rfl) (hD.sub [1, 0, 2, 3] rfl rfl) (Nat.le_of_ble_eq_true rfl) (Nat.le_of_ble_eq_true rfl) dX5_pair_60
  · replace hq := lf_pos hq (lf_eq (lf_rf r1) (lf_lc 0 (0 : Int) rfl) c8)
    have h85 := ib_eq h3 (ib_c 0 0 0 rfl) c8
    have h86 : ib r1 0 0 := ib_w 0 0 h85.1 rfl
    refine lv_aload_n hx hb dX5_pair_9 rfl (lv_at hl 0 rfl) ?_
    refine lv_iconst (v := 1) hx hb dX5_pair_10 rfl ?_
    refine lv_aload_n hx hb dX5_pair_11 rfl (lv_at hl 0 rfl) ?_
    refine k_get C0 fg_X5_15 hP 2 rfl rfl dX5_pair_12 ?_
    refine k_jvm hP hD hS hA [2] [true, true, false, true] rfl rfl rfl 0 0 (Nat.le_of_ble_eq_true rfl) (Nat.le_of_ble_eq_true rfl) (fun hPc hDc => k_runV (As := [.int 1, .int x_this_at]) (rest := []) C0 hZ hS hA (s_X5_fail l dC dI cy sq a_this a_this_text x_this_length x_this_at x_this_behind x_this_sort x_this_allowed a_this_plan x_this_fault x_this_place 1 x_this_at ) mV_X5_78 hPc hDc rfl rfl rfl hl rfl rfl (Nat.le_of_ble_eq_true rfl) ⟨(Nat.le_of_ble_eq_true rfl), (Nat.le_of_ble_eq_true rfl)⟩ ⟨(Nat.le_of_ble_eq_true rfl), (Nat.le_of_ble_eq_true rfl)⟩ dX5_pair_15) (fun u88 H locs hw hP hD hS => ?_)
    obtain ⟨v89, v90⟩ := u88
    try dsimp only at hP hD hw
    replace hP : va_P (dC, dI) vwCl [(wo_4_iiiiiiirrrirrrrrir a_this_plan x_this_plan_cycle x_this_plan_green x_this_plan_rule x_this_plan_least x_this_plan_away x_this_plan_statements x_this_plan_kinds a_this_plan_calm a_this_plan_pace a_this_plan_trusts x_this_plan_walkers a_this_plan_kindOf a_this_plan_comesAt a_this_plan_comers a_this_plan_names a_this_plan_code x_this_plan_size a_this_plan_spans), (wi_0_1600_0 a_this_plan_code cy g_this_plan_code), (wi_0_1600_0 a_this_text cy g_this_text), (wo_5_riiiiirii a_this a_this_text x_this_length x_this_length x_this_length 0 x_this_allowed a_this_plan v89 v90)] H := hP
    replace hD := k_D hP hD
    have h91 := hw
    have h91 := by have h9 := h91; try simp only [show (1 : Int32).toInt = (1 : Int) from rfl] at h9; exact h9
    replace hq := lf_p1 hq h91
    refine lv_goto (tgt := 60) hx hb dX5_pair_18 rfl ?_
    subst hQ; exact k_vret hx hb hr hlk ((x_this_length, x_this_length, 0, v89, v90, x_this_plan_size, g_this_plan_code)) hS ⟨ib_w 0 1600 hx_this_length rfl, ib_w 0 1600 hx_this_length rfl, ib_w 0 4 (ib_c 0 0 0 rfl) rfl, ib_w 0 1600 hx_this_plan_size rfl, fun hq9 => absurd rfl hq9, (hO.symm.trans (by try simp only [show (0 : Int32).toInt = (0 : Int) from rfl]; exact hq))⟩ (hP.sub [3, 2, 0, 1] rfl) (hD.sub [3, 2, 0, 1] rfl rfl) (Nat.le_of_ble_eq_true rfl) (Nat.le_of_ble_eq_true rfl) dX5_pair_60
set_option maxHeartbeats 4000000 in
set_option maxRecDepth 100000 in
theorem s_X5_part_a0_1 (l : Launch) (dC : Nat → ClassId) (dI : Nat → Nat → Nat) (cy : Nat → ClassId) (sq : Nat → Nat) (a_this : Nat) (a_this_text : Nat) (g_this_text : Nat → Int32) (x_this_length : Int32) (x_this_at : Int32) (x_this_behind : Int32) (x_this_sort : Int32) (x_this_allowed : Int32) (a_this_plan : Nat) (x_this_plan_cycle : Int32) (x_this_plan_green : Int32) (x_this_plan_rule : Int32) (x_this_plan_least : Int32) (x_this_plan_away : Int32) (x_this_plan_statements : Int32) (x_this_plan_kinds : Int32) (a_this_plan_calm : Nat) (a_this_plan_pace : Nat) (a_this_plan_trusts : Nat) (x_this_plan_walkers : Int32) (a_this_plan_kindOf : Nat) (a_this_plan_comesAt : Nat) (a_this_plan_comers : Nat) (a_this_plan_names : Nat) (a_this_plan_code : Nat) (g_this_plan_code : Nat → Int32) (x_this_plan_size : Int32) (a_this_plan_spans : Nat) (x_this_fault : Int32) (x_this_place : Int32) (hg_this_text : ia g_this_text 1600 0 255) (hx_this_length : ib x_this_length 0 1600) (hx_this_at : ib x_this_at 0 1600) (hx_this_behind : ib x_this_behind 0 1600) (hx_this_sort : ib x_this_sort 0 4) (hx_this_plan_size : ib x_this_plan_size 0 1600) (hc0_this : ¬ x_this_sort = 0 → ib x_this_at 0 1599) : k_Met l yX5_part cX5_part 2 none { frames := 26, cells := 0, slots := 0, locals := 633 } dC dI cy sq [.ref a_this, .int 1] [(wo_5_riiiiirii a_this a_this_text x_this_length x_this_at x_this_behind x_this_sort x_this_allowed a_this_plan x_this_fault x_this_place), (wi_0_1600_0 a_this_text cy g_this_text), (wo_4_iiiiiiirrrirrrrrir a_this_plan x_this_plan_cycle x_this_plan_green x_this_plan_rule x_this_plan_least x_this_plan_away x_this_plan_statements x_this_plan_kinds a_this_plan_calm a_this_plan_pace a_this_plan_trusts x_this_plan_walkers a_this_plan_kindOf a_this_plan_comesAt a_this_plan_comers a_this_plan_names a_this_plan_code x_this_plan_size a_this_plan_spans), (wi_0_1600_0 a_this_plan_code cy g_this_plan_code)] (k_Qv dC dI (fun (u : Int32 × Int32 × Int32 × Int32 × Int32 × Int32 × (Nat → Int32)) => match u with | (n0, n1, n2, n3, n4, n5, n6) => ib n0 0 1600 ∧ ib n1 0 1600 ∧ ib n2 0 4 ∧ ib n5 0 1600 ∧ (¬ n2 = 0 → ib n0 0 1599) ∧ (F_X5_part_a0_1 (lf_A g_this_text) (Int32.toInt x_this_length) (Int32.toInt x_this_at) (Int32.toInt x_this_behind) (Int32.toInt x_this_sort) (Int32.toInt x_this_allowed) (lf_A g_this_plan_code) (Int32.toInt x_this_plan_size) (Int32.toInt x_this_fault) (Int32.toInt x_this_place) = ((Int32.toInt n0), (Int32.toInt n1), (Int32.toInt n2), (Int32.toInt n3), (Int32.toInt n4), (Int32.toInt n5), (lf_A n6)))) (fun u : Int32 × Int32 × Int32 × Int32 × Int32 × Int32 × (Nat → Int32) => match u with | (n0, n1, n2, n3, n4, n5, n6) => [(wo_5_riiiiirii a_this a_this_text x_this_length n0 n1 n2 x_this_allowed a_this_plan n3 n4), (wi_0_1600_0 a_this_text cy g_this_text), (wo_4_iiiiiiirrrirrrrrir a_this_plan x_this_plan_cycle x_this_plan_green x_this_plan_rule x_this_plan_least x_this_plan_away x_this_plan_statements x_this_plan_kinds a_this_plan_calm a_this_plan_pace a_this_plan_trusts x_this_plan_walkers a_this_plan_kindOf a_this_plan_comesAt a_this_plan_comers a_this_plan_names a_this_plan_code n5 a_this_plan_spans), (wi_0_1600_0 a_this_plan_code cy n6)])) := by
  refine k_ofW2 (by decide +kernel) (Nat.le_of_ble_eq_true rfl) ?_
  intro p e s m below meth c A ls H locs args Q hQ C0 hZ hr hlk hin hP hD hA hS hl
  have C0 : k_cx p s m args c cX5_part 2 RX5 dC dI cy sq := C0
  have hx := C0.1
  have hb := C0.2.1
  have hl : lv_has ls 2 [(0, .ref a_this), (1, .int 1)] := hl
  obtain ⟨O, hO⟩ : ∃ o, o = F_X5_part_a0_1 (lf_A g_this_text) (Int32.toInt x_this_length) (Int32.toInt x_this_at) (Int32.toInt x_this_behind) (Int32.toInt x_this_sort) (Int32.toInt x_this_allowed) (lf_A g_this_plan_code) (Int32.toInt x_this_plan_size) (Int32.toInt x_this_fault) (Int32.toInt x_this_place) := ⟨_, rfl⟩
  have hq := hO
  unfold F_X5_part_a0_1 at hq
  have jn138 : ∀ (J138_c0_2 : Int32) (J138_c0_3 : Int32) (J138_c0_4 : Int32) (H : Heap) (locs : List Loc) (ls : Array Slot), ib J138_c0_2 0 1600 → ib J138_c0_3 0 1600 → ib J138_c0_4 0 4 → (¬ J138_c0_4 = 0 → ib J138_c0_2 0 1599) → (O = F_X5_part_a0_1_138 (lf_A g_this_text) (Int32.toInt x_this_length) (Int32.toInt x_this_allowed) (lf_A g_this_plan_code) (Int32.toInt x_this_plan_size) (Int32.toInt x_this_fault) (Int32.toInt x_this_place) (Int32.toInt J138_c0_2) (Int32.toInt J138_c0_3) (Int32.toInt J138_c0_4)) → va_P (dC, dI) vwCl [(wo_5_riiiiirii a_this a_this_text x_this_length J138_c0_2 J138_c0_3 J138_c0_4 x_this_allowed a_this_plan x_this_fault x_this_place), (wi_0_1600_0 a_this_text cy g_this_text), (wo_4_iiiiiiirrrirrrrrir a_this_plan x_this_plan_cycle x_this_plan_green x_this_plan_rule x_this_plan_least x_this_plan_away x_this_plan_statements x_this_plan_kinds a_this_plan_calm a_this_plan_pace a_this_plan_trusts x_this_plan_walkers a_this_plan_kindOf a_this_plan_comesAt a_this_plan_comers a_this_plan_names a_this_plan_code x_this_plan_size a_this_plan_spans), (wi_0_1600_0 a_this_plan_code cy g_this_plan_code)] H → va_D A [(wo_5_riiiiirii a_this a_this_text x_this_length J138_c0_2 J138_c0_3 J138_c0_4 x_this_allowed a_this_plan x_this_fault x_this_place), (wi_0_1600_0 a_this_text cy g_this_text), (wo_4_iiiiiiirrrirrrrrir a_this_plan x_this_plan_cycle x_this_plan_green x_this_plan_rule x_this_plan_least x_this_plan_away x_this_plan_statements x_this_plan_kinds a_this_plan_calm a_this_plan_pace a_this_plan_trusts x_this_plan_walkers a_this_plan_kindOf a_this_plan_comesAt a_this_plan_comers a_this_plan_names a_this_plan_code x_this_plan_size a_this_plan_spans), (wi_0_1600_0 a_this_plan_code cy g_this_plan_code)] → va_S A s.heap H locs → lv_has ls 2 [(0, .ref a_this), (1, .int 1)] → W p l e { frames := 26, cells := 0, slots := 0, locals := 633 } s m args below meth c H locs 0 0 Q (F0 m 138 ls []) := by
    intro J138_c0_2 J138_c0_3 J138_c0_4 H locs ls hJ138_c0_2 hJ138_c0_3 hJ138_c0_4 hJ138_ic0_0 hq hP hD hS hl
    unfold F_X5_part_a0_1_138 at hq
    refine lv_aload_n hx hb dX5_part_138 rfl (lv_at hl 0 rfl) ?_
    refine k_jvm hP hD hS hA [0, 1, 2, 3] [] rfl rfl rfl 0 0 (Nat.le_of_ble_eq_true rfl) (Nat.le_of_ble_eq_true rfl) (fun hPc hDc => k_runV (As := []) (rest := []) C0 hZ hS hA (s_X5_partWord l dC dI cy sq a_this a_this_text g_this_text x_this_length J138_c0_2 J138_c0_3 J138_c0_4 x_this_allowed a_this_plan x_this_plan_cycle x_this_plan_green x_this_plan_rule x_this_plan_least x_this_plan_away x_this_plan_statements x_this_plan_kinds a_this_plan_calm a_this_plan_pace a_this_plan_trusts x_this_plan_walkers a_this_plan_kindOf a_this_plan_comesAt a_this_plan_comers a_this_plan_names a_this_plan_code g_this_plan_code x_this_plan_size a_this_plan_spans x_this_fault x_this_place hg_this_text (ib_w 0 1600 hx_this_length rfl) (ib_w 0 1600 hJ138_c0_2 rfl) (ib_w 0 1600 hJ138_c0_3 rfl) (ib_w 0 4 hJ138_c0_4 rfl) (ib_w 0 1600 hx_this_plan_size rfl) (fun hq9 => ib_w 0 1599 (hJ138_ic0_0 hq9) rfl)) mV_X5_236 hPc hDc rfl rfl rfl hl rfl rfl (Nat.le_of_ble_eq_true rfl) ⟨(Nat.le_of_ble_eq_true rfl), (Nat.le_of_ble_eq_true rfl)⟩ ⟨(Nat.le_of_ble_eq_true rfl), (Nat.le_of_ble_eq_true rfl)⟩ dX5_part_139) (fun u2 H locs hw hP hD hS => ?_)
    obtain ⟨v3, v4, v5, v6, v7, v8, f9⟩ := u2
    try dsimp only at hP hD hw
    replace hP : va_P (dC, dI) vwCl [(wo_5_riiiiirii a_this a_this_text x_this_length v3 v4 v5 x_this_allowed a_this_plan v6 v7), (wi_0_1600_0 a_this_text cy g_this_text), (wo_4_iiiiiiirrrirrrrrir a_this_plan x_this_plan_cycle x_this_plan_green x_this_plan_rule x_this_plan_least x_this_plan_away x_this_plan_statements x_this_plan_kinds a_this_plan_calm a_this_plan_pace a_this_plan_trusts x_this_plan_walkers a_this_plan_kindOf a_this_plan_comesAt a_this_plan_comers a_this_plan_names a_this_plan_code v8 a_this_plan_spans), (wi_0_1600_0 a_this_plan_code cy f9)] H := hP
    replace hD := k_D hP hD
    obtain ⟨h10, h11, h12, h13, h14, h15⟩ := hw
    replace hq := lf_p1 hq h15
    replace hq := lf_p1 hq rfl
    replace hq := lf_p1 hq rfl
    replace hq := lf_p1 hq rfl
    replace hq := lf_p1 hq rfl
    replace hq := lf_p1 hq rfl
    subst hQ; exact k_vret hx hb hr hlk ((v3, v4, v5, v6, v7, v8, f9)) hS ⟨ib_w 0 1600 h10 rfl, ib_w 0 1600 h11 rfl, ib_w 0 4 h12 rfl, ib_w 0 1600 h13 rfl, fun hq9 => ib_w 0 1599 (h14 hq9) rfl, (hO.symm.trans (by exact hq))⟩ hP hD (Nat.le_of_ble_eq_true rfl) (Nat.le_of_ble_eq_true rfl) dX5_part_142
  refine lv_aload_n hx hb dX5_part_0 rfl (lv_at hl 0 rfl) ?_
  refine k_get C0 fg_X5_21 hP 0 rfl rfl dX5_part_1 ?_
  refine lv_iconst (v := 2) hx hb dX5_part_4 rfl ?_
  refine lv_icmp_ne (tgt := 23) hx hb dX5_part_5 rfl (fun c16 => ?_) (fun c16 => ?_)
  · as_aux_lemma =>
      replace hq := lf_neg hq (lf_ne (lf_rf x_this_sort) (lf_lc 2 (2 : Int) rfl) c16)
      refine lv_aload_n hx hb dX5_part_23 rfl (lv_at hl 0 rfl) ?_
      refine lv_bipush (v := 40) hx hb dX5_part_24 rfl ?_
      refine k_jim hP hD hS hA [0, 1] [false, false, true, true] rfl rfl rfl 0 0 (Nat.le_of_ble_eq_true rfl) (Nat.le_of_ble_eq_true rfl) (fun hPc hDc => k_runV (As := [.int 40]) (rest := []) C0 hZ hS hA (s_X5_sees l dC dI cy sq a_this a_this_text g_this_text x_this_length x_this_at x_this_behind x_this_sort x_this_allowed a_this_plan x_this_fault x_this_place 40 hg_this_text (ib_w 0 1600 hx_this_at rfl) (ib_w 0 4 hx_this_sort rfl) (fun hq9 => ib_w 0 1599 (hc0_this hq9) rfl)) mV_X5_213 hPc hDc rfl rfl rfl hl rfl rfl (Nat.le_of_ble_eq_true rfl) ⟨(Nat.le_of_ble_eq_true rfl), (Nat.le_of_ble_eq_true rfl)⟩ ⟨(Nat.le_of_ble_eq_true rfl), (Nat.le_of_ble_eq_true rfl)⟩ dX5_part_26) (fun r17 u18 H locs hw hP hD hS => ?_)
      try dsimp only at hP hD hw
      replace hP : va_P (dC, dI) vwCl [(wo_4_iiiiiiirrrirrrrrir a_this_plan x_this_plan_cycle x_this_plan_green x_this_plan_rule x_this_plan_least x_this_plan_away x_this_plan_statements x_this_plan_kinds a_this_plan_calm a_this_plan_pace a_this_plan_trusts x_this_plan_walkers a_this_plan_kindOf a_this_plan_comesAt a_this_plan_comers a_this_plan_names a_this_plan_code x_this_plan_size a_this_plan_spans), (wi_0_1600_0 a_this_plan_code cy g_this_plan_code), (wo_5_riiiiirii a_this a_this_text x_this_length x_this_at x_this_behind x_this_sort x_this_allowed a_this_plan x_this_fault x_this_place), (wi_0_1600_0 a_this_text cy g_this_text)] H := hP
      replace hD := k_D hP hD
      obtain ⟨h19, h20, h21, h22, h23⟩ := hw
      have h23 := by have h9 := h23; try simp only [show (40 : Int32).toInt = (40 : Int) from rfl] at h9; exact h9
      replace hq := lf_b1 hq h23
      refine lv_if_eq (tgt := 56) hx hb dX5_part_29 rfl (fun c24 => ?_) (fun c24 => ?_)
      · as_aux_lemma =>
          replace hq := lf_pos hq (lf_eq (lf_rf r17) (lf_lc 0 (0 : Int) rfl) c24)
          have h25 := ib_eq h19 (ib_c 0 0 0 rfl) c24
          have h26 : ib r17 0 0 := ib_w 0 0 h25.1 rfl
          refine lv_aload_n hx hb dX5_part_56 rfl (lv_at hl 0 rfl) ?_
          refine va_ldcS hx hb C0.2.2.2.1 (C0.2.2.2.2.2.2.2.2.2.2.2.2 17 (by decide)) dX5_part_57 ?_
          refine k_jim hP hD hS hA [2, 3] [true, true] rfl rfl rfl 0 0 (Nat.le_of_ble_eq_true rfl) (Nat.le_of_ble_eq_true rfl) (fun hPc hDc => k_runV (As := [.ref (sq 17)]) (rest := []) C0 hZ hS hA (s_X5_takeWord_s17 l dC dI cy sq a_this a_this_text g_this_text x_this_length x_this_at x_this_behind x_this_sort x_this_allowed a_this_plan x_this_fault x_this_place hg_this_text (ib_w 0 1600 hx_this_length rfl) (ib_w 0 1600 hx_this_at rfl) (ib_w 0 1600 hx_this_behind rfl) (ib_w 0 4 hx_this_sort rfl) (fun hq9 => ib_w 0 1599 (hc0_this hq9) rfl)) mV_X5_195 hPc hDc rfl rfl rfl hl rfl rfl (Nat.le_of_ble_eq_true rfl) ⟨(Nat.le_of_ble_eq_true rfl), (Nat.le_of_ble_eq_true rfl)⟩ ⟨(Nat.le_of_ble_eq_true rfl), (Nat.le_of_ble_eq_true rfl)⟩ dX5_part_59) (fun r27 u28 H locs hw hP hD hS => ?_)
          obtain ⟨v29, v30, v31⟩ := u28
          try dsimp only at hP hD hw
          replace hP : va_P (dC, dI) vwCl [(wo_4_iiiiiiirrrirrrrrir a_this_plan x_this_plan_cycle x_this_plan_green x_this_plan_rule x_this_plan_least x_this_plan_away x_this_plan_statements x_this_plan_kinds a_this_plan_calm a_this_plan_pace a_this_plan_trusts x_this_plan_walkers a_this_plan_kindOf a_this_plan_comesAt a_this_plan_comers a_this_plan_names a_this_plan_code x_this_plan_size a_this_plan_spans), (wi_0_1600_0 a_this_plan_code cy g_this_plan_code), (wo_5_riiiiirii a_this a_this_text x_this_length v29 v30 v31 x_this_allowed a_this_plan x_this_fault x_this_place), (wi_0_1600_0 a_this_text cy g_this_text)] H := hP
          replace hD := k_D hP hD
          obtain ⟨h32, h33, h34, h35, h36, h37⟩ := hw
          replace hq := lf_p1 hq h37
          replace hq := lf_p1 hq rfl
          replace hq := lf_p1 hq rfl
          refine lv_if_eq (tgt := 75) hx hb dX5_part_62 rfl (fun c38 => ?_) (fun c38 => ?_)
          · as_aux_lemma =>
              replace hq := lf_pos hq (lf_eq (lf_rf r27) (lf_lc 0 (0 : Int) rfl) c38)
              have h39 := ib_eq h32 (ib_c 0 0 0 rfl) c38
              have h40 : ib r27 0 0 := ib_w 0 0 h39.1 rfl
              refine lv_aload_n hx hb dX5_part_75 rfl (lv_at hl 0 rfl) ?_
              refine va_ldcS hx hb C0.2.2.2.1 (C0.2.2.2.2.2.2.2.2.2.2.2.2 18 (by decide)) dX5_part_76 ?_
              refine k_jim hP hD hS hA [2, 3] [true, true] rfl rfl rfl 0 0 (Nat.le_of_ble_eq_true rfl) (Nat.le_of_ble_eq_true rfl) (fun hPc hDc => k_runV (As := [.ref (sq 18)]) (rest := []) C0 hZ hS hA (s_X5_takeWord_s18 l dC dI cy sq a_this a_this_text g_this_text x_this_length v29 v30 v31 x_this_allowed a_this_plan x_this_fault x_this_place hg_this_text (ib_w 0 1600 hx_this_length rfl) (ib_w 0 1600 h33 rfl) (ib_w 0 1600 h34 rfl) (ib_w 0 4 h35 rfl) (fun hq9 => ib_w 0 1599 (h36 hq9) rfl)) mV_X5_195 hPc hDc rfl rfl rfl hl rfl rfl (Nat.le_of_ble_eq_true rfl) ⟨(Nat.le_of_ble_eq_true rfl), (Nat.le_of_ble_eq_true rfl)⟩ ⟨(Nat.le_of_ble_eq_true rfl), (Nat.le_of_ble_eq_true rfl)⟩ dX5_part_78) (fun r41 u42 H locs hw hP hD hS => ?_)
              obtain ⟨v43, v44, v45⟩ := u42
              try dsimp only at hP hD hw
              replace hP : va_P (dC, dI) vwCl [(wo_4_iiiiiiirrrirrrrrir a_this_plan x_this_plan_cycle x_this_plan_green x_this_plan_rule x_this_plan_least x_this_plan_away x_this_plan_statements x_this_plan_kinds a_this_plan_calm a_this_plan_pace a_this_plan_trusts x_this_plan_walkers a_this_plan_kindOf a_this_plan_comesAt a_this_plan_comers a_this_plan_names a_this_plan_code x_this_plan_size a_this_plan_spans), (wi_0_1600_0 a_this_plan_code cy g_this_plan_code), (wo_5_riiiiirii a_this a_this_text x_this_length v43 v44 v45 x_this_allowed a_this_plan x_this_fault x_this_place), (wi_0_1600_0 a_this_text cy g_this_text)] H := hP
              replace hD := k_D hP hD
              obtain ⟨h46, h47, h48, h49, h50, h51⟩ := hw
              replace hq := lf_p1 hq h51
              replace hq := lf_p1 hq rfl
              replace hq := lf_p1 hq rfl
              refine lv_if_eq (tgt := 94) hx hb dX5_part_81 rfl (fun c52 => ?_) (fun c52 => ?_)
              · as_aux_lemma =>
                  replace hq := lf_pos hq (lf_eq (lf_rf r41) (lf_lc 0 (0 : Int) rfl) c52)
                  have h53 := ib_eq h46 (ib_c 0 0 0 rfl) c52
                  have h54 : ib r41 0 0 := ib_w 0 0 h53.1 rfl
                  refine lv_aload_n hx hb dX5_part_94 rfl (lv_at hl 0 rfl) ?_
                  refine k_get C0 fg_X5_24 hP 2 rfl rfl dX5_part_95 ?_
                  refine lv_sipush (v := 3707) hx hb dX5_part_98 rfl ?_
                  refine lv_icmp_ne (tgt := 138) hx hb dX5_part_101 rfl (fun c55 => ?_) (fun c55 => ?_)
                  · replace hq := lf_neg hq (lf_ne (lf_rf x_this_allowed) (lf_lc 3707 (3707 : Int) rfl) c55)
                    exact jn138 v43 v44 v45 H locs ls (ib_w 0 1600 h47 rfl) (ib_w 0 1600 h48 rfl) (ib_w 0 4 h49 rfl) (fun hq9 => ib_w 0 1599 (h50 hq9) rfl) (by exact hq) (hP.sub [2, 3, 0, 1] rfl) (hD.sub [2, 3, 0, 1] rfl rfl) hS (lv_sub hl [0, 1] rfl)
                  · as_aux_lemma =>
                      replace hq := lf_pos hq (lf_eq (lf_rf x_this_allowed) (lf_lc 3707 (3707 : Int) rfl) c55)
                      have h56 := ib_eq (ib_any x_this_allowed) (ib_c 3707 3707 3707 rfl) c55
                      have h57 : ib x_this_allowed 3707 3707 := ib_w 3707 3707 h56.1 rfl
                      refine lv_aload_n hx hb dX5_part_104 rfl (lv_at hl 0 rfl) ?_
                      refine va_ldcS hx hb C0.2.2.2.1 (C0.2.2.2.2.2.2.2.2.2.2.2.2 19 (by decide)) dX5_part_105 ?_
                      refine k_jim hP hD hS hA [2, 3] [true, true] rfl rfl rfl 0 0 (Nat.le_of_ble_eq_true rfl) (Nat.le_of_ble_eq_true rfl) (fun hPc hDc => k_runV (As := [.ref (sq 19)]) (rest := []) C0 hZ hS hA (s_X5_wordIn_s19 l dC dI cy sq a_this a_this_text g_this_text x_this_length v43 v44 v45 x_this_allowed a_this_plan x_this_fault x_this_place hg_this_text (ib_w 0 1600 h47 rfl) (ib_w 0 1600 h48 rfl) (ib_w 0 4 h49 rfl) (fun hq9 => ib_w 0 1599 (h50 hq9) rfl)) mV_X5_54 hPc hDc rfl rfl rfl hl rfl rfl (Nat.le_of_ble_eq_true rfl) ⟨(Nat.le_of_ble_eq_true rfl), (Nat.le_of_ble_eq_true rfl)⟩ ⟨(Nat.le_of_ble_eq_true rfl), (Nat.le_of_ble_eq_true rfl)⟩ dX5_part_107) (fun r58 u59 H locs hw hP hD hS => ?_)
                      try dsimp only at hP hD hw
                      replace hP : va_P (dC, dI) vwCl [(wo_4_iiiiiiirrrirrrrrir a_this_plan x_this_plan_cycle x_this_plan_green x_this_plan_rule x_this_plan_least x_this_plan_away x_this_plan_statements x_this_plan_kinds a_this_plan_calm a_this_plan_pace a_this_plan_trusts x_this_plan_walkers a_this_plan_kindOf a_this_plan_comesAt a_this_plan_comers a_this_plan_names a_this_plan_code x_this_plan_size a_this_plan_spans), (wi_0_1600_0 a_this_plan_code cy g_this_plan_code), (wo_5_riiiiirii a_this a_this_text x_this_length v43 v44 v45 x_this_allowed a_this_plan x_this_fault x_this_place), (wi_0_1600_0 a_this_text cy g_this_text)] H := hP
                      replace hD := k_D hP hD
                      have h60 := hw
                      replace hq := lf_b1 hq h60
                      refine lv_iconst (v := (-1)) hx hb dX5_part_110 rfl ?_
                      refine lv_icmp_eq (tgt := 138) hx hb dX5_part_111 rfl (fun c61 => ?_) (fun c61 => ?_)
                      · replace hq := lf_pos hq (lf_eq (lf_rf r58) (lf_lc (-1) (-1 : Int) rfl) c61)
                        have h62 := ib_eq (ib_any r58) (ib_c (-1) (-1) (-1) rfl) c61
                        have h63 : ib r58 (-1) (-1) := ib_w (-1) (-1) h62.1 rfl
                        exact jn138 v43 v44 v45 H locs ls (ib_w 0 1600 h47 rfl) (ib_w 0 1600 h48 rfl) (ib_w 0 4 h49 rfl) (fun hq9 => ib_w 0 1599 (h50 hq9) rfl) (by exact hq) (hP.sub [2, 3, 0, 1] rfl) (hD.sub [2, 3, 0, 1] rfl rfl) hS (lv_sub hl [0, 1] rfl)
                      · as_aux_lemma =>
                          replace hq := lf_neg hq (lf_ne (lf_rf r58) (lf_lc (-1) (-1 : Int) rfl) c61)
                          refine lv_aload_n hx hb dX5_part_114 rfl (lv_at hl 0 rfl) ?_
                          refine lv_iload_n hx hb dX5_part_115 rfl (lv_at hl 1 rfl) ?_
                          refine k_jim hP hD hS hA [2, 3] [true, true] rfl rfl rfl 0 0 (Nat.le_of_ble_eq_true rfl) (Nat.le_of_ble_eq_true rfl) (fun hPc hDc => k_runV (As := [.int 1]) (rest := []) C0 hZ hS hA (s_X5_enters_a0_1 l dC dI cy sq a_this a_this_text g_this_text x_this_length v43 v44 v45 x_this_allowed a_this_plan x_this_fault x_this_place hg_this_text (ib_w 0 1600 hx_this_length rfl) (ib_w 0 1600 h48 rfl)) mV_X5_209 hPc hDc rfl rfl rfl hl rfl rfl (Nat.le_of_ble_eq_true rfl) ⟨(Nat.le_of_ble_eq_true rfl), (Nat.le_of_ble_eq_true rfl)⟩ ⟨(Nat.le_of_ble_eq_true rfl), (Nat.le_of_ble_eq_true rfl)⟩ dX5_part_116) (fun r64 u65 H locs hw hP hD hS => ?_)
                          obtain ⟨v66, v67, v68⟩ := u65
                          try dsimp only at hP hD hw
                          replace hP : va_P (dC, dI) vwCl [(wo_4_iiiiiiirrrirrrrrir a_this_plan x_this_plan_cycle x_this_plan_green x_this_plan_rule x_this_plan_least x_this_plan_away x_this_plan_statements x_this_plan_kinds a_this_plan_calm a_this_plan_pace a_this_plan_trusts x_this_plan_walkers a_this_plan_kindOf a_this_plan_comesAt a_this_plan_comers a_this_plan_names a_this_plan_code x_this_plan_size a_this_plan_spans), (wi_0_1600_0 a_this_plan_code cy g_this_plan_code), (wo_5_riiiiirii a_this a_this_text x_this_length v66 v67 v68 x_this_allowed a_this_plan x_this_fault x_this_place), (wi_0_1600_0 a_this_text cy g_this_text)] H := hP
                          replace hD := k_D hP hD
                          obtain ⟨h69, h70, h71, h72, h73, h74⟩ := hw
                          replace hq := lf_p1 hq h74
                          replace hq := lf_p1 hq rfl
                          replace hq := lf_p1 hq rfl
                          refine lv_if_eq (tgt := 142) hx hb dX5_part_119 rfl (fun c75 => ?_) (fun c75 => ?_)
                          · skip
                            have h76 := ib_eq h69 (ib_c 0 0 0 rfl) c75
                            exact ib_no (ib_w 1 0 h76.1 rfl) rfl
                          · as_aux_lemma =>
                              skip
                              refine lv_aload_n hx hb dX5_part_122 rfl (lv_at hl 0 rfl) ?_
                              refine lv_iload_n hx hb dX5_part_123 rfl (lv_at hl 1 rfl) ?_
                              refine lv_iconst (v := 1) hx hb dX5_part_124 rfl ?_
                              refine lv_iadd hx hb dX5_part_125 ?_
                              refine k_topi (y := 2) (by decide) ?_
                              refine k_jvm hP hD hS hA [2, 3, 0, 1] [] rfl rfl rfl 0 0 (Nat.le_of_ble_eq_true rfl) (Nat.le_of_ble_eq_true rfl) (fun hPc hDc => k_runV (As := [.int 2]) (rest := []) C0 hZ hS hA (s_X5_part_a0_2 l dC dI cy sq a_this a_this_text g_this_text x_this_length v66 v67 v68 x_this_allowed a_this_plan x_this_plan_cycle x_this_plan_green x_this_plan_rule x_this_plan_least x_this_plan_away x_this_plan_statements x_this_plan_kinds a_this_plan_calm a_this_plan_pace a_this_plan_trusts x_this_plan_walkers a_this_plan_kindOf a_this_plan_comesAt a_this_plan_comers a_this_plan_names a_this_plan_code g_this_plan_code x_this_plan_size a_this_plan_spans x_this_fault x_this_place hg_this_text (ib_w 0 1600 hx_this_length rfl) (ib_w 0 1600 h70 rfl) (ib_w 0 1600 h71 rfl) (ib_w 0 4 h72 rfl) (ib_w 0 1600 hx_this_plan_size rfl) (fun hq9 => ib_w 0 1599 (h73 hq9) rfl)) mV_X5_225 hPc hDc rfl rfl rfl hl rfl rfl (Nat.le_of_ble_eq_true rfl) ⟨(Nat.le_of_ble_eq_true rfl), (Nat.le_of_ble_eq_true rfl)⟩ ⟨(Nat.le_of_ble_eq_true rfl), (Nat.le_of_ble_eq_true rfl)⟩ dX5_part_126) (fun u78 H locs hw hP hD hS => ?_)
                              obtain ⟨v79, v80, v81, v82, v83, v84, f85⟩ := u78
                              try dsimp only at hP hD hw
                              replace hP : va_P (dC, dI) vwCl [(wo_5_riiiiirii a_this a_this_text x_this_length v79 v80 v81 x_this_allowed a_this_plan v82 v83), (wi_0_1600_0 a_this_text cy g_this_text), (wo_4_iiiiiiirrrirrrrrir a_this_plan x_this_plan_cycle x_this_plan_green x_this_plan_rule x_this_plan_least x_this_plan_away x_this_plan_statements x_this_plan_kinds a_this_plan_calm a_this_plan_pace a_this_plan_trusts x_this_plan_walkers a_this_plan_kindOf a_this_plan_comesAt a_this_plan_comers a_this_plan_names a_this_plan_code v84 a_this_plan_spans), (wi_0_1600_0 a_this_plan_code cy f85)] H := hP
                              replace hD := k_D hP hD
                              obtain ⟨h86, h87, h88, h89, h90, h91⟩ := hw
                              replace hq := lf_p1 hq h91
                              replace hq := lf_p1 hq rfl
                              replace hq := lf_p1 hq rfl
                              replace hq := lf_p1 hq rfl
                              replace hq := lf_p1 hq rfl
                              replace hq := lf_p1 hq rfl
                              refine lv_aload_n hx hb dX5_part_129 rfl (lv_at hl 0 rfl) ?_
                              refine lv_bipush (v := (-32)) hx hb dX5_part_130 rfl ?_
                              refine k_jvm hP hD hS hA [0, 2, 3] [false, true] rfl rfl rfl 0 0 (Nat.le_of_ble_eq_true rfl) (Nat.le_of_ble_eq_true rfl) (fun hPc hDc => k_runV (As := [.int (-32)]) (rest := []) C0 hZ hS hA (s_X5_emit l dC dI cy sq a_this a_this_text x_this_length v79 v80 v81 x_this_allowed a_this_plan x_this_plan_cycle x_this_plan_green x_this_plan_rule x_this_plan_least x_this_plan_away x_this_plan_statements x_this_plan_kinds a_this_plan_calm a_this_plan_pace a_this_plan_trusts x_this_plan_walkers a_this_plan_kindOf a_this_plan_comesAt a_this_plan_comers a_this_plan_names a_this_plan_code f85 v84 a_this_plan_spans v82 v83 (-32) (ib_w 0 1600 h89 rfl)) mV_X5_199 hPc hDc rfl rfl rfl hl rfl rfl (Nat.le_of_ble_eq_true rfl) ⟨(Nat.le_of_ble_eq_true rfl), (Nat.le_of_ble_eq_true rfl)⟩ ⟨(Nat.le_of_ble_eq_true rfl), (Nat.le_of_ble_eq_true rfl)⟩ dX5_part_132) (fun u93 H locs hw hP hD hS => ?_)
                              obtain ⟨v94, f95⟩ := u93
                              try dsimp only at hP hD hw
                              replace hP : va_P (dC, dI) vwCl [(wi_0_1600_0 a_this_text cy g_this_text), (wo_5_riiiiirii a_this a_this_text x_this_length v79 v80 v81 x_this_allowed a_this_plan v82 v83), (wo_4_iiiiiiirrrirrrrrir a_this_plan x_this_plan_cycle x_this_plan_green x_this_plan_rule x_this_plan_least x_this_plan_away x_this_plan_statements x_this_plan_kinds a_this_plan_calm a_this_plan_pace a_this_plan_trusts x_this_plan_walkers a_this_plan_kindOf a_this_plan_comesAt a_this_plan_comers a_this_plan_names a_this_plan_code v94 a_this_plan_spans), (wi_0_1600_0 a_this_plan_code cy f95)] H := hP
                              replace hD := k_D hP hD
                              obtain ⟨h96, h97⟩ := hw
                              have h97 := by have h9 := h97; try simp only [show ((-32) : Int32).toInt = (-32 : Int) from rfl] at h9; exact h9
                              replace hq := lf_p1 hq h97
                              refine lv_goto (tgt := 142) hx hb dX5_part_135 rfl ?_
                              subst hQ; exact k_vret hx hb hr hlk ((v79, v80, v81, v82, v83, v94, f95)) hS ⟨ib_w 0 1600 h86 rfl, ib_w 0 1600 h87 rfl, ib_w 0 4 h88 rfl, ib_w 0 1600 h96 rfl, fun hq9 => ib_w 0 1599 (h90 hq9) rfl, (hO.symm.trans (by exact hq))⟩ (hP.sub [1, 0, 2, 3] rfl) (hD.sub [1, 0, 2, 3] rfl rfl) (Nat.le_of_ble_eq_true rfl) (Nat.le_of_ble_eq_true rfl) dX5_part_142
              · as_aux_lemma =>
                  replace hq := lf_neg hq (lf_ne (lf_rf r41) (lf_lc 0 (0 : Int) rfl) c52)
                  have h98 : ib r41 1 1 := ib_w 1 1 (ib_ne_lo 0 h46 rfl c52) rfl
                  refine lv_aload_n hx hb dX5_part_84 rfl (lv_at hl 0 rfl) ?_
                  refine lv_iload_n hx hb dX5_part_85 rfl (lv_at hl 1 rfl) ?_
                  refine lv_bipush (v := (-25)) hx hb dX5_part_86 rfl ?_
                  refine k_jvm hP hD hS hA [2, 3, 0, 1] [] rfl rfl rfl 0 0 (Nat.le_of_ble_eq_true rfl) (Nat.le_of_ble_eq_true rfl) (fun hPc hDc => k_runV (As := [.int 1, .int (-25)]) (rest := []) C0 hZ hS hA (s_X5_pair_a0_1 l dC dI cy sq a_this a_this_text g_this_text x_this_length v43 v44 v45 x_this_allowed a_this_plan x_this_plan_cycle x_this_plan_green x_this_plan_rule x_this_plan_least x_this_plan_away x_this_plan_statements x_this_plan_kinds a_this_plan_calm a_this_plan_pace a_this_plan_trusts x_this_plan_walkers a_this_plan_kindOf a_this_plan_comesAt a_this_plan_comers a_this_plan_names a_this_plan_code g_this_plan_code x_this_plan_size a_this_plan_spans x_this_fault x_this_place (-25) hg_this_text (ib_w 0 1600 hx_this_length rfl) (ib_w 0 1600 h47 rfl) (ib_w 0 1600 h48 rfl) (ib_w 0 4 h49 rfl) (ib_w 0 1600 hx_this_plan_size rfl) (fun hq9 => ib_w 0 1599 (h50 hq9) rfl)) mV_X5_229 hPc hDc rfl rfl rfl hl rfl rfl (Nat.le_of_ble_eq_true rfl) ⟨(Nat.le_of_ble_eq_true rfl), (Nat.le_of_ble_eq_true rfl)⟩ ⟨(Nat.le_of_ble_eq_true rfl), (Nat.le_of_ble_eq_true rfl)⟩ dX5_part_88) (fun u100 H locs hw hP hD hS => ?_)
                  obtain ⟨v101, v102, v103, v104, v105, v106, f107⟩ := u100
                  try dsimp only at hP hD hw
                  replace hP : va_P (dC, dI) vwCl [(wo_5_riiiiirii a_this a_this_text x_this_length v101 v102 v103 x_this_allowed a_this_plan v104 v105), (wi_0_1600_0 a_this_text cy g_this_text), (wo_4_iiiiiiirrrirrrrrir a_this_plan x_this_plan_cycle x_this_plan_green x_this_plan_rule x_this_plan_least x_this_plan_away x_this_plan_statements x_this_plan_kinds a_this_plan_calm a_this_plan_pace a_this_plan_trusts x_this_plan_walkers a_this_plan_kindOf a_this_plan_comesAt a_this_plan_comers a_this_plan_names a_this_plan_code v106 a_this_plan_spans), (wi_0_1600_0 a_this_plan_code cy f107)] H := hP
                  replace hD := k_D hP hD
                  obtain ⟨h108, h109, h110, h111, h112, h113⟩ := hw
                  have h113 := by have h9 := h113; try simp only [show ((-25) : Int32).toInt = (-25 : Int) from rfl] at h9; exact h9
                  replace hq := lf_p1 hq h113
                  replace hq := lf_p1 hq rfl
                  replace hq := lf_p1 hq rfl
                  replace hq := lf_p1 hq rfl
                  replace hq := lf_p1 hq rfl
                  replace hq := lf_p1 hq rfl
                  refine lv_goto (tgt := 142) hx hb dX5_part_91 rfl ?_
                  subst hQ; exact k_vret hx hb hr hlk ((v101, v102, v103, v104, v105, v106, f107)) hS ⟨ib_w 0 1600 h108 rfl, ib_w 0 1600 h109 rfl, ib_w 0 4 h110 rfl, ib_w 0 1600 h111 rfl, fun hq9 => ib_w 0 1599 (h112 hq9) rfl, (hO.symm.trans (by exact hq))⟩ hP hD (Nat.le_of_ble_eq_true rfl) (Nat.le_of_ble_eq_true rfl) dX5_part_142
          · as_aux_lemma =>
              replace hq := lf_neg hq (lf_ne (lf_rf r27) (lf_lc 0 (0 : Int) rfl) c38)
              have h114 : ib r27 1 1 := ib_w 1 1 (ib_ne_lo 0 h32 rfl c38) rfl
              refine lv_aload_n hx hb dX5_part_65 rfl (lv_at hl 0 rfl) ?_
              refine lv_iload_n hx hb dX5_part_66 rfl (lv_at hl 1 rfl) ?_
              refine lv_bipush (v := (-24)) hx hb dX5_part_67 rfl ?_
              refine k_jvm hP hD hS hA [2, 3, 0, 1] [] rfl rfl rfl 0 0 (Nat.le_of_ble_eq_true rfl) (Nat.le_of_ble_eq_true rfl) (fun hPc hDc => k_runV (As := [.int 1, .int (-24)]) (rest := []) C0 hZ hS hA (s_X5_pair_a0_1 l dC dI cy sq a_this a_this_text g_this_text x_this_length v29 v30 v31 x_this_allowed a_this_plan x_this_plan_cycle x_this_plan_green x_this_plan_rule x_this_plan_least x_this_plan_away x_this_plan_statements x_this_plan_kinds a_this_plan_calm a_this_plan_pace a_this_plan_trusts x_this_plan_walkers a_this_plan_kindOf a_this_plan_comesAt a_this_plan_comers a_this_plan_names a_this_plan_code g_this_plan_code x_this_plan_size a_this_plan_spans x_this_fault x_this_place (-24) hg_this_text (ib_w 0 1600 hx_this_length rfl) (ib_w 0 1600 h33 rfl) (ib_w 0 1600 h34 rfl) (ib_w 0 4 h35 rfl) (ib_w 0 1600 hx_this_plan_size rfl) (fun hq9 => ib_w 0 1599 (h36 hq9) rfl)) mV_X5_229 hPc hDc rfl rfl rfl hl rfl rfl (Nat.le_of_ble_eq_true rfl) ⟨(Nat.le_of_ble_eq_true rfl), (Nat.le_of_ble_eq_true rfl)⟩ ⟨(Nat.le_of_ble_eq_true rfl), (Nat.le_of_ble_eq_true rfl)⟩ dX5_part_69) (fun u116 H locs hw hP hD hS => ?_)
              obtain ⟨v117, v118, v119, v120, v121, v122, f123⟩ := u116
              try dsimp only at hP hD hw
              replace hP : va_P (dC, dI) vwCl [(wo_5_riiiiirii a_this a_this_text x_this_length v117 v118 v119 x_this_allowed a_this_plan v120 v121), (wi_0_1600_0 a_this_text cy g_this_text), (wo_4_iiiiiiirrrirrrrrir a_this_plan x_this_plan_cycle x_this_plan_green x_this_plan_rule x_this_plan_least x_this_plan_away x_this_plan_statements x_this_plan_kinds a_this_plan_calm a_this_plan_pace a_this_plan_trusts x_this_plan_walkers a_this_plan_kindOf a_this_plan_comesAt a_this_plan_comers a_this_plan_names a_this_plan_code v122 a_this_plan_spans), (wi_0_1600_0 a_this_plan_code cy f123)] H := hP
              replace hD := k_D hP hD
              obtain ⟨h124, h125, h126, h127, h128, h129⟩ := hw
              have h129 := by have h9 := h129; try simp only [show ((-24) : Int32).toInt = (-24 : Int) from rfl] at h9; exact h9
              replace hq := lf_p1 hq h129
              replace hq := lf_p1 hq rfl
              replace hq := lf_p1 hq rfl
              replace hq := lf_p1 hq rfl
              replace hq := lf_p1 hq rfl
              replace hq := lf_p1 hq rfl
              refine lv_goto (tgt := 142) hx hb dX5_part_72 rfl ?_
              subst hQ; exact k_vret hx hb hr hlk ((v117, v118, v119, v120, v121, v122, f123)) hS ⟨ib_w 0 1600 h124 rfl, ib_w 0 1600 h125 rfl, ib_w 0 4 h126 rfl, ib_w 0 1600 h127 rfl, fun hq9 => ib_w 0 1599 (h128 hq9) rfl, (hO.symm.trans (by exact hq))⟩ hP hD (Nat.le_of_ble_eq_true rfl) (Nat.le_of_ble_eq_true rfl) dX5_part_142
      · as_aux_lemma =>
          replace hq := lf_neg hq (lf_ne (lf_rf r17) (lf_lc 0 (0 : Int) rfl) c24)
          have h130 : ib r17 1 1 := ib_w 1 1 (ib_ne_lo 0 h19 rfl c24) rfl
          have h131 : ib x_this_at 0 1599 := ib_w 0 1599 (ib_two hx_this_at (h20 c24)) rfl
          have h132 : ib x_this_sort 3 3 := ib_w 3 3 (ib_two hx_this_sort (h21 c24)) rfl
          refine lv_aload_n hx hb dX5_part_32 rfl (lv_at hl 0 rfl) ?_
          refine lv_iload_n hx hb dX5_part_33 rfl (lv_at hl 1 rfl) ?_
          refine k_jim hP hD hS hA [2, 3] [true, true] rfl rfl rfl 0 0 (Nat.le_of_ble_eq_true rfl) (Nat.le_of_ble_eq_true rfl) (fun hPc hDc => k_runV (As := [.int 1]) (rest := []) C0 hZ hS hA (s_X5_enters_a0_1 l dC dI cy sq a_this a_this_text g_this_text x_this_length x_this_at x_this_behind x_this_sort x_this_allowed a_this_plan x_this_fault x_this_place hg_this_text (ib_w 0 1600 hx_this_length rfl) (ib_w 0 1600 hx_this_behind rfl)) mV_X5_209 hPc hDc rfl rfl rfl hl rfl rfl (Nat.le_of_ble_eq_true rfl) ⟨(Nat.le_of_ble_eq_true rfl), (Nat.le_of_ble_eq_true rfl)⟩ ⟨(Nat.le_of_ble_eq_true rfl), (Nat.le_of_ble_eq_true rfl)⟩ dX5_part_34) (fun r133 u134 H locs hw hP hD hS => ?_)
          obtain ⟨v135, v136, v137⟩ := u134
          try dsimp only at hP hD hw
          replace hP : va_P (dC, dI) vwCl [(wo_4_iiiiiiirrrirrrrrir a_this_plan x_this_plan_cycle x_this_plan_green x_this_plan_rule x_this_plan_least x_this_plan_away x_this_plan_statements x_this_plan_kinds a_this_plan_calm a_this_plan_pace a_this_plan_trusts x_this_plan_walkers a_this_plan_kindOf a_this_plan_comesAt a_this_plan_comers a_this_plan_names a_this_plan_code x_this_plan_size a_this_plan_spans), (wi_0_1600_0 a_this_plan_code cy g_this_plan_code), (wo_5_riiiiirii a_this a_this_text x_this_length v135 v136 v137 x_this_allowed a_this_plan x_this_fault x_this_place), (wi_0_1600_0 a_this_text cy g_this_text)] H := hP
          replace hD := k_D hP hD
          obtain ⟨h138, h139, h140, h141, h142, h143⟩ := hw
          replace hq := lf_p1 hq h143
          replace hq := lf_p1 hq rfl
          replace hq := lf_p1 hq rfl
          refine lv_if_eq (tgt := 142) hx hb dX5_part_37 rfl (fun c144 => ?_) (fun c144 => ?_)
          · skip
            have h145 := ib_eq h138 (ib_c 0 0 0 rfl) c144
            exact ib_no (ib_w 1 0 h145.1 rfl) rfl
          · as_aux_lemma =>
              skip
              refine lv_aload_n hx hb dX5_part_40 rfl (lv_at hl 0 rfl) ?_
              refine lv_iload_n hx hb dX5_part_41 rfl (lv_at hl 1 rfl) ?_
              refine lv_iconst (v := 1) hx hb dX5_part_42 rfl ?_
              refine lv_iadd hx hb dX5_part_43 ?_
              refine k_topi (y := 2) (by decide) ?_
              refine k_jvm hP hD hS hA [2, 3, 0, 1] [] rfl rfl rfl 0 0 (Nat.le_of_ble_eq_true rfl) (Nat.le_of_ble_eq_true rfl) (fun hPc hDc => k_runV (As := [.int 2]) (rest := []) C0 hZ hS hA (s_X5_sum_a0_2 l dC dI cy sq a_this a_this_text g_this_text x_this_length v135 v136 v137 x_this_allowed a_this_plan x_this_plan_cycle x_this_plan_green x_this_plan_rule x_this_plan_least x_this_plan_away x_this_plan_statements x_this_plan_kinds a_this_plan_calm a_this_plan_pace a_this_plan_trusts x_this_plan_walkers a_this_plan_kindOf a_this_plan_comesAt a_this_plan_comers a_this_plan_names a_this_plan_code g_this_plan_code x_this_plan_size a_this_plan_spans x_this_fault x_this_place hg_this_text (ib_w 0 1600 hx_this_length rfl) (ib_w 0 1600 h139 rfl) (ib_w 0 1600 h140 rfl) (ib_w 0 4 h141 rfl) (ib_w 0 1600 hx_this_plan_size rfl) (fun hq9 => ib_w 0 1599 (h142 hq9) rfl)) mV_X5_93 hPc hDc rfl rfl rfl hl rfl rfl (Nat.le_of_ble_eq_true rfl) ⟨(Nat.le_of_ble_eq_true rfl), (Nat.le_of_ble_eq_true rfl)⟩ ⟨(Nat.le_of_ble_eq_true rfl), (Nat.le_of_ble_eq_true rfl)⟩ dX5_part_44) (fun u147 H locs hw hP hD hS => ?_)
              obtain ⟨v148, v149, v150, v151, v152, v153, f154⟩ := u147
              try dsimp only at hP hD hw
              replace hP : va_P (dC, dI) vwCl [(wo_5_riiiiirii a_this a_this_text x_this_length v148 v149 v150 x_this_allowed a_this_plan v151 v152), (wi_0_1600_0 a_this_text cy g_this_text), (wo_4_iiiiiiirrrirrrrrir a_this_plan x_this_plan_cycle x_this_plan_green x_this_plan_rule x_this_plan_least x_this_plan_away x_this_plan_statements x_this_plan_kinds a_this_plan_calm a_this_plan_pace a_this_plan_trusts x_this_plan_walkers a_this_plan_kindOf a_this_plan_comesAt a_this_plan_comers a_this_plan_names a_this_plan_code v153 a_this_plan_spans), (wi_0_1600_0 a_this_plan_code cy f154)] H := hP
              replace hD := k_D hP hD
              obtain ⟨h155, h156, h157, h158, h159, h160⟩ := hw
              replace hq := lf_p1 hq h160
              replace hq := lf_p1 hq rfl
              replace hq := lf_p1 hq rfl
              replace hq := lf_p1 hq rfl
              replace hq := lf_p1 hq rfl
              replace hq := lf_p1 hq rfl
              refine lv_aload_n hx hb dX5_part_47 rfl (lv_at hl 0 rfl) ?_
              refine lv_bipush (v := 41) hx hb dX5_part_48 rfl ?_
              refine k_jvm hP hD hS hA [0, 1] [false, false, true, true] rfl rfl rfl 0 0 (Nat.le_of_ble_eq_true rfl) (Nat.le_of_ble_eq_true rfl) (fun hPc hDc => k_runV (As := [.int 41]) (rest := []) C0 hZ hS hA (s_X5_need l dC dI cy sq a_this a_this_text g_this_text x_this_length v148 v149 v150 x_this_allowed a_this_plan v151 v152 41 hg_this_text (ib_w 0 1600 hx_this_length rfl) (ib_w 0 1600 h155 rfl) (ib_w 0 1600 h156 rfl) (ib_w 0 4 h157 rfl) (fun hq9 => ib_w 0 1599 (h159 hq9) rfl)) mV_X5_48 hPc hDc rfl rfl rfl hl rfl rfl (Nat.le_of_ble_eq_true rfl) ⟨(Nat.le_of_ble_eq_true rfl), (Nat.le_of_ble_eq_true rfl)⟩ ⟨(Nat.le_of_ble_eq_true rfl), (Nat.le_of_ble_eq_true rfl)⟩ dX5_part_50) (fun u162 H locs hw hP hD hS => ?_)
              obtain ⟨v163, v164, v165, v166, v167⟩ := u162
              try dsimp only at hP hD hw
              replace hP : va_P (dC, dI) vwCl [(wo_4_iiiiiiirrrirrrrrir a_this_plan x_this_plan_cycle x_this_plan_green x_this_plan_rule x_this_plan_least x_this_plan_away x_this_plan_statements x_this_plan_kinds a_this_plan_calm a_this_plan_pace a_this_plan_trusts x_this_plan_walkers a_this_plan_kindOf a_this_plan_comesAt a_this_plan_comers a_this_plan_names a_this_plan_code v153 a_this_plan_spans), (wi_0_1600_0 a_this_plan_code cy f154), (wo_5_riiiiirii a_this a_this_text x_this_length v163 v164 v165 x_this_allowed a_this_plan v166 v167), (wi_0_1600_0 a_this_text cy g_this_text)] H := hP
              replace hD := k_D hP hD
              obtain ⟨h168, h169, h170, h171, h172⟩ := hw
              have h172 := by have h9 := h172; try simp only [show (41 : Int32).toInt = (41 : Int) from rfl] at h9; exact h9
              replace hq := lf_p1 hq h172
              replace hq := lf_p1 hq rfl
              replace hq := lf_p1 hq rfl
              replace hq := lf_p1 hq rfl
              refine lv_goto (tgt := 142) hx hb dX5_part_53 rfl ?_
              subst hQ; exact k_vret hx hb hr hlk ((v163, v164, v165, v166, v167, v153, f154)) hS ⟨ib_w 0 1600 h168 rfl, ib_w 0 1600 h169 rfl, ib_w 0 4 h170 rfl, ib_w 0 1600 h158 rfl, fun hq9 => ib_w 0 1599 (h171 hq9) rfl, (hO.symm.trans (by exact hq))⟩ (hP.sub [2, 3, 0, 1] rfl) (hD.sub [2, 3, 0, 1] rfl rfl) (Nat.le_of_ble_eq_true rfl) (Nat.le_of_ble_eq_true rfl) dX5_part_142
  · as_aux_lemma =>
      replace hq := lf_pos hq (lf_eq (lf_rf x_this_sort) (lf_lc 2 (2 : Int) rfl) c16)
      have h173 := ib_eq hx_this_sort (ib_c 2 2 2 rfl) c16
      have h174 : ib x_this_sort 2 2 := ib_w 2 2 h173.1 rfl
      have h175 : ib x_this_at 0 1599 := ib_w 0 1599 (ib_two hx_this_at (hc0_this (ib_nz h174 rfl))) rfl
      refine lv_aload_n hx hb dX5_part_8 rfl (lv_at hl 0 rfl) ?_
      refine lv_aload_n hx hb dX5_part_9 rfl (lv_at hl 0 rfl) ?_
      refine lv_iconst (v := 0) hx hb dX5_part_10 rfl ?_
      refine lv_sipush (v := 9999) hx hb dX5_part_11 rfl ?_
      refine k_jim hP hD hS hA [0, 1] [false, false, true, true] rfl rfl rfl 0 0 (Nat.le_of_ble_eq_true rfl) (Nat.le_of_ble_eq_true rfl) (fun hPc hDc => k_runV (As := [.int 0, .int 9999]) (rest := [.ref a_this]) C0 hZ hS hA (s_X5_number_a0_0_a1_9999 l dC dI cy sq a_this a_this_text g_this_text x_this_length x_this_at x_this_behind x_this_sort x_this_allowed a_this_plan x_this_fault x_this_place hg_this_text (ib_w 0 1600 hx_this_length rfl) (ib_w 0 1600 h175 rfl) (ib_w 0 1600 hx_this_behind rfl) (ib_w 0 4 h174 rfl) (fun _ => ib_w 0 1599 h175 rfl)) mV_X5_168 hPc hDc rfl rfl rfl hl rfl rfl (Nat.le_of_ble_eq_true rfl) ⟨(Nat.le_of_ble_eq_true rfl), (Nat.le_of_ble_eq_true rfl)⟩ ⟨(Nat.le_of_ble_eq_true rfl), (Nat.le_of_ble_eq_true rfl)⟩ dX5_part_14) (fun r176 u177 H locs hw hP hD hS => ?_)
      obtain ⟨v178, v179, v180, v181, v182⟩ := u177
      try dsimp only at hP hD hw
      replace hP : va_P (dC, dI) vwCl [(wo_4_iiiiiiirrrirrrrrir a_this_plan x_this_plan_cycle x_this_plan_green x_this_plan_rule x_this_plan_least x_this_plan_away x_this_plan_statements x_this_plan_kinds a_this_plan_calm a_this_plan_pace a_this_plan_trusts x_this_plan_walkers a_this_plan_kindOf a_this_plan_comesAt a_this_plan_comers a_this_plan_names a_this_plan_code x_this_plan_size a_this_plan_spans), (wi_0_1600_0 a_this_plan_code cy g_this_plan_code), (wo_5_riiiiirii a_this a_this_text x_this_length v178 v179 v180 x_this_allowed a_this_plan v181 v182), (wi_0_1600_0 a_this_text cy g_this_text)] H := hP
      replace hD := k_D hP hD
      obtain ⟨h183, h184, h185, h186, h187, h188⟩ := hw
      replace hq := lf_p1 hq h188
      replace hq := lf_p1 hq rfl
      replace hq := lf_p1 hq rfl
      replace hq := lf_p1 hq rfl
      replace hq := lf_p1 hq rfl
      refine k_jvm hP hD hS hA [2, 0, 1] [false, false, false, true] rfl rfl rfl 0 0 (Nat.le_of_ble_eq_true rfl) (Nat.le_of_ble_eq_true rfl) (fun hPc hDc => k_runV (As := [.int r176]) (rest := []) C0 hZ hS hA (s_X5_emit l dC dI cy sq a_this a_this_text x_this_length v178 v179 v180 x_this_allowed a_this_plan x_this_plan_cycle x_this_plan_green x_this_plan_rule x_this_plan_least x_this_plan_away x_this_plan_statements x_this_plan_kinds a_this_plan_calm a_this_plan_pace a_this_plan_trusts x_this_plan_walkers a_this_plan_kindOf a_this_plan_comesAt a_this_plan_comers a_this_plan_names a_this_plan_code g_this_plan_code x_this_plan_size a_this_plan_spans v181 v182 r176 (ib_w 0 1600 hx_this_plan_size rfl)) mV_X5_199 hPc hDc rfl rfl rfl hl rfl rfl (Nat.le_of_ble_eq_true rfl) ⟨(Nat.le_of_ble_eq_true rfl), (Nat.le_of_ble_eq_true rfl)⟩ ⟨(Nat.le_of_ble_eq_true rfl), (Nat.le_of_ble_eq_true rfl)⟩ dX5_part_17) (fun u190 H locs hw hP hD hS => ?_)
      obtain ⟨v191, f192⟩ := u190
      try dsimp only at hP hD hw
      replace hP : va_P (dC, dI) vwCl [(wi_0_1600_0 a_this_text cy g_this_text), (wo_5_riiiiirii a_this a_this_text x_this_length v178 v179 v180 x_this_allowed a_this_plan v181 v182), (wo_4_iiiiiiirrrirrrrrir a_this_plan x_this_plan_cycle x_this_plan_green x_this_plan_rule x_this_plan_least x_this_plan_away x_this_plan_statements x_this_plan_kinds a_this_plan_calm a_this_plan_pace a_this_plan_trusts x_this_plan_walkers a_this_plan_kindOf a_this_plan_comesAt a_this_plan_comers a_this_plan_names a_this_plan_code v191 a_this_plan_spans), (wi_0_1600_0 a_this_plan_code cy f192)] H := hP
      replace hD := k_D hP hD
      obtain ⟨h193, h194⟩ := hw
      replace hq := lf_p1 hq h194
      refine lv_goto (tgt := 142) hx hb dX5_part_20 rfl ?_
      subst hQ; exact k_vret hx hb hr hlk ((v178, v179, v180, v181, v182, v191, f192)) hS ⟨ib_w 0 1600 h184 rfl, ib_w 0 1600 h185 rfl, ib_w 0 4 h186 rfl, ib_w 0 1600 h193 rfl, fun hq9 => ib_w 0 1599 (h187 hq9) rfl, (hO.symm.trans (by exact hq))⟩ (hP.sub [1, 0, 2, 3] rfl) (hD.sub [1, 0, 2, 3] rfl rfl) (Nat.le_of_ble_eq_true rfl) (Nat.le_of_ble_eq_true rfl) dX5_part_142
set_option maxHeartbeats 4000000 in
set_option maxRecDepth 100000 in
theorem s_X5_product_a0_1 (l : Launch) (dC : Nat → ClassId) (dI : Nat → Nat → Nat) (cy : Nat → ClassId) (sq : Nat → Nat) (a_this : Nat) (a_this_text : Nat) (g_this_text : Nat → Int32) (x_this_length : Int32) (x_this_at : Int32) (x_this_behind : Int32) (x_this_sort : Int32) (x_this_allowed : Int32) (a_this_plan : Nat) (x_this_plan_cycle : Int32) (x_this_plan_green : Int32) (x_this_plan_rule : Int32) (x_this_plan_least : Int32) (x_this_plan_away : Int32) (x_this_plan_statements : Int32) (x_this_plan_kinds : Int32) (a_this_plan_calm : Nat) (a_this_plan_pace : Nat) (a_this_plan_trusts : Nat) (x_this_plan_walkers : Int32) (a_this_plan_kindOf : Nat) (a_this_plan_comesAt : Nat) (a_this_plan_comers : Nat) (a_this_plan_names : Nat) (a_this_plan_code : Nat) (g_this_plan_code : Nat → Int32) (x_this_plan_size : Int32) (a_this_plan_spans : Nat) (x_this_fault : Int32) (x_this_place : Int32) (hg_this_text : ia g_this_text 1600 0 255) (hx_this_length : ib x_this_length 0 1600) (hx_this_at : ib x_this_at 0 1600) (hx_this_behind : ib x_this_behind 0 1600) (hx_this_sort : ib x_this_sort 0 4) (hx_this_plan_size : ib x_this_plan_size 0 1600) (hc0_this : ¬ x_this_sort = 0 → ib x_this_at 0 1599) : k_Met l yX5_product cX5_product 4 none { frames := 27, cells := 0, slots := 0, locals := 654 } dC dI cy sq [.ref a_this, .int 1] [(wo_5_riiiiirii a_this a_this_text x_this_length x_this_at x_this_behind x_this_sort x_this_allowed a_this_plan x_this_fault x_this_place), (wi_0_1600_0 a_this_text cy g_this_text), (wo_4_iiiiiiirrrirrrrrir a_this_plan x_this_plan_cycle x_this_plan_green x_this_plan_rule x_this_plan_least x_this_plan_away x_this_plan_statements x_this_plan_kinds a_this_plan_calm a_this_plan_pace a_this_plan_trusts x_this_plan_walkers a_this_plan_kindOf a_this_plan_comesAt a_this_plan_comers a_this_plan_names a_this_plan_code x_this_plan_size a_this_plan_spans), (wi_0_1600_0 a_this_plan_code cy g_this_plan_code)] (k_Qv dC dI (fun (u : Int32 × Int32 × Int32 × Int32 × Int32 × Int32 × (Nat → Int32)) => match u with | (n0, n1, n2, n3, n4, n5, n6) => ib n0 0 1600 ∧ ib n1 0 1600 ∧ ib n2 0 4 ∧ ib n5 0 1600 ∧ (¬ n2 = 0 → ib n0 0 1599) ∧ (F_X5_product_a0_1 (lf_A g_this_text) (Int32.toInt x_this_length) (Int32.toInt x_this_at) (Int32.toInt x_this_behind) (Int32.toInt x_this_sort) (Int32.toInt x_this_allowed) (lf_A g_this_plan_code) (Int32.toInt x_this_plan_size) (Int32.toInt x_this_fault) (Int32.toInt x_this_place) = ((Int32.toInt n0), (Int32.toInt n1), (Int32.toInt n2), (Int32.toInt n3), (Int32.toInt n4), (Int32.toInt n5), (lf_A n6)))) (fun u : Int32 × Int32 × Int32 × Int32 × Int32 × Int32 × (Nat → Int32) => match u with | (n0, n1, n2, n3, n4, n5, n6) => [(wo_5_riiiiirii a_this a_this_text x_this_length n0 n1 n2 x_this_allowed a_this_plan n3 n4), (wi_0_1600_0 a_this_text cy g_this_text), (wo_4_iiiiiiirrrirrrrrir a_this_plan x_this_plan_cycle x_this_plan_green x_this_plan_rule x_this_plan_least x_this_plan_away x_this_plan_statements x_this_plan_kinds a_this_plan_calm a_this_plan_pace a_this_plan_trusts x_this_plan_walkers a_this_plan_kindOf a_this_plan_comesAt a_this_plan_comers a_this_plan_names a_this_plan_code n5 a_this_plan_spans), (wi_0_1600_0 a_this_plan_code cy n6)])) := by
  refine k_ofW2 (by decide +kernel) (Nat.le_of_ble_eq_true rfl) ?_
  intro p e s m below meth c A ls H locs args Q hQ C0 hZ hr hlk hin hP hD hA hS hl
  have C0 : k_cx p s m args c cX5_product 4 RX5 dC dI cy sq := C0
  have hx := C0.1
  have hb := C0.2.1
  have hl : lv_has ls 4 [(0, .ref a_this), (1, .int 1)] := hl
  obtain ⟨O, hO⟩ : ∃ o, o = F_X5_product_a0_1 (lf_A g_this_text) (Int32.toInt x_this_length) (Int32.toInt x_this_at) (Int32.toInt x_this_behind) (Int32.toInt x_this_sort) (Int32.toInt x_this_allowed) (lf_A g_this_plan_code) (Int32.toInt x_this_plan_size) (Int32.toInt x_this_fault) (Int32.toInt x_this_place) := ⟨_, rfl⟩
  have hq := hO
  unfold F_X5_product_a0_1 at hq
  have jn7 : ∀ (n : Nat) (J7_c0_2 : Int32) (J7_c0_3 : Int32) (J7_c0_4 : Int32) (J7_c0_7 : Int32) (J7_c0_8 : Int32) (J7_c2_16 : Int32) (J7_a3 : Nat → Int32) (J7_l2 : Int32) (H : Heap) (locs : List Loc) (ls : Array Slot), ib J7_c0_2 0 1600 → ib J7_c0_3 0 1600 → ib J7_c0_4 0 4 → ib J7_c2_16 0 1600 → ib J7_l2 0 1600 → (¬ J7_c0_4 = 0 → ib J7_c0_2 0 1599) → (O = F_X5_product_a0_1_7 (lf_A g_this_text) (Int32.toInt x_this_length) (Int32.toInt x_this_allowed) n (Int32.toInt J7_c0_2) (Int32.toInt J7_c0_3) (Int32.toInt J7_c0_4) (Int32.toInt J7_c0_7) (Int32.toInt J7_c0_8) (Int32.toInt J7_c2_16) (lf_A J7_a3) (Int32.toInt J7_l2)) → 1601 ≤ J7_l2.toInt + (n : Int) → va_P (dC, dI) vwCl [(wo_5_riiiiirii a_this a_this_text x_this_length J7_c0_2 J7_c0_3 J7_c0_4 x_this_allowed a_this_plan J7_c0_7 J7_c0_8), (wi_0_1600_0 a_this_text cy g_this_text), (wo_4_iiiiiiirrrirrrrrir a_this_plan x_this_plan_cycle x_this_plan_green x_this_plan_rule x_this_plan_least x_this_plan_away x_this_plan_statements x_this_plan_kinds a_this_plan_calm a_this_plan_pace a_this_plan_trusts x_this_plan_walkers a_this_plan_kindOf a_this_plan_comesAt a_this_plan_comers a_this_plan_names a_this_plan_code J7_c2_16 a_this_plan_spans), (wi_0_1600_0 a_this_plan_code cy J7_a3)] H → va_D A [(wo_5_riiiiirii a_this a_this_text x_this_length J7_c0_2 J7_c0_3 J7_c0_4 x_this_allowed a_this_plan J7_c0_7 J7_c0_8), (wi_0_1600_0 a_this_text cy g_this_text), (wo_4_iiiiiiirrrirrrrrir a_this_plan x_this_plan_cycle x_this_plan_green x_this_plan_rule x_this_plan_least x_this_plan_away x_this_plan_statements x_this_plan_kinds a_this_plan_calm a_this_plan_pace a_this_plan_trusts x_this_plan_walkers a_this_plan_kindOf a_this_plan_comesAt a_this_plan_comers a_this_plan_names a_this_plan_code J7_c2_16 a_this_plan_spans), (wi_0_1600_0 a_this_plan_code cy J7_a3)] → va_S A s.heap H locs → lv_has ls 4 [(0, .ref a_this), (1, .int 1), (2, .int J7_l2)] → W p l e { frames := 27, cells := 0, slots := 0, locals := 654 } s m args below meth c H locs 0 0 Q (F0 m 7 ls []) := by
    as_aux_lemma =>
      intro n
      induction n with
      | zero =>
        intro J7_c0_2 J7_c0_3 J7_c0_4 J7_c0_7 J7_c0_8 J7_c2_16 J7_a3 J7_l2 H locs ls hJ7_c0_2 hJ7_c0_3 hJ7_c0_4 hJ7_c2_16 hJ7_l2 hJ7_ic0_0 hq hm
        exact absurd hm (by have := hJ7_l2; unfold ib at this; omega)
      | succ n ih =>
        intro J7_c0_2 J7_c0_3 J7_c0_4 J7_c0_7 J7_c0_8 J7_c2_16 J7_a3 J7_l2 H locs ls hJ7_c0_2 hJ7_c0_3 hJ7_c0_4 hJ7_c2_16 hJ7_l2 hJ7_ic0_0 hq hm7 hP hD hS hl
        have ih7 := ih
        obtain ⟨K7, hK7⟩ : ∃ K, K = F_X5_product_a0_1_7 (lf_A g_this_text) (Int32.toInt x_this_length) (Int32.toInt x_this_allowed) n := ⟨_, rfl⟩
        have hq : O = F_X5_product_a0_1_7b (lf_A g_this_text) (Int32.toInt x_this_length) (Int32.toInt x_this_allowed) K7 (Int32.toInt J7_c0_2) (Int32.toInt J7_c0_3) (Int32.toInt J7_c0_4) (Int32.toInt J7_c0_7) (Int32.toInt J7_c0_8) (Int32.toInt J7_c2_16) (lf_A J7_a3) (Int32.toInt J7_l2) := by rw [hK7]; exact hq
        unfold F_X5_product_a0_1_7b at hq
        have jn48 : ∀ (J48_s0 : Int32) (H : Heap) (locs : List Loc) (ls : Array Slot), ib J7_l2 0 1599 → ib J7_c0_2 0 1599 → ib J7_c0_3 0 1600 → ib J7_c0_4 3 3 → ib J7_c2_16 0 1600 → ib J48_s0 (-23) (-22) → (O = F_X5_product_a0_1_48 (lf_A g_this_text) (Int32.toInt x_this_length) (Int32.toInt x_this_allowed) (Int32.toInt J7_c0_3) (Int32.toInt J7_c0_7) (Int32.toInt J7_c0_8) (Int32.toInt J7_c2_16) (lf_A J7_a3) (Int32.toInt J7_l2) K7 (Int32.toInt J48_s0)) → va_P (dC, dI) vwCl [(wo_5_riiiiirii a_this a_this_text x_this_length J7_c0_2 J7_c0_3 J7_c0_4 x_this_allowed a_this_plan J7_c0_7 J7_c0_8), (wi_0_1600_0 a_this_text cy g_this_text), (wo_4_iiiiiiirrrirrrrrir a_this_plan x_this_plan_cycle x_this_plan_green x_this_plan_rule x_this_plan_least x_this_plan_away x_this_plan_statements x_this_plan_kinds a_this_plan_calm a_this_plan_pace a_this_plan_trusts x_this_plan_walkers a_this_plan_kindOf a_this_plan_comesAt a_this_plan_comers a_this_plan_names a_this_plan_code J7_c2_16 a_this_plan_spans), (wi_0_1600_0 a_this_plan_code cy J7_a3)] H → va_D A [(wo_5_riiiiirii a_this a_this_text x_this_length J7_c0_2 J7_c0_3 J7_c0_4 x_this_allowed a_this_plan J7_c0_7 J7_c0_8), (wi_0_1600_0 a_this_text cy g_this_text), (wo_4_iiiiiiirrrirrrrrir a_this_plan x_this_plan_cycle x_this_plan_green x_this_plan_rule x_this_plan_least x_this_plan_away x_this_plan_statements x_this_plan_kinds a_this_plan_calm a_this_plan_pace a_this_plan_trusts x_this_plan_walkers a_this_plan_kindOf a_this_plan_comesAt a_this_plan_comers a_this_plan_names a_this_plan_code J7_c2_16 a_this_plan_spans), (wi_0_1600_0 a_this_plan_code cy J7_a3)] → va_S A s.heap H locs → lv_has ls 4 [(0, .ref a_this), (1, .int 1), (2, .int J7_l2)] → W p l e { frames := 27, cells := 0, slots := 0, locals := 654 } s m args below meth c H locs 0 0 Q (F0 m 48 ls [.int J48_s0]) := by
          as_aux_lemma =>
            intro J48_s0 H locs ls hK48_J7_l2 hK48_J7_c0_2 hK48_J7_c0_3 hK48_J7_c0_4 hK48_J7_c2_16 hJ48_s0 hq hP hD hS hl
            unfold F_X5_product_a0_1_48 at hq
            refine lv_istore_n (lv' := [(3, .int J48_s0), (0, .ref a_this), (1, .int 1), (2, .int J7_l2)]) hx hb dX5_product_48 rfl hl (Nat.le_of_ble_eq_true rfl) rfl (fun ls hl => ?_)
            refine lv_aload_n hx hb dX5_product_49 rfl (lv_at hl 1 rfl) ?_
            refine lv_aload_n hx hb dX5_product_50 rfl (lv_at hl 1 rfl) ?_
            refine k_get C0 fg_X5_18 hP 0 rfl rfl dX5_product_51 ?_
            refine k_jvm hP hD hS hA [0, 1] [false, false, true, true] rfl rfl rfl 0 0 (Nat.le_of_ble_eq_true rfl) (Nat.le_of_ble_eq_true rfl) (fun hPc hDc => k_runV (As := [.int J7_c0_3]) (rest := []) C0 hZ hS hA (s_X5_moveTo l dC dI cy sq a_this a_this_text g_this_text x_this_length J7_c0_2 J7_c0_3 J7_c0_4 x_this_allowed a_this_plan J7_c0_7 J7_c0_8 J7_c0_3 hg_this_text (ib_w 0 1600 hx_this_length rfl) (ib_w 0 1600 hK48_J7_c0_3 rfl)) mV_X5_86 hPc hDc rfl rfl rfl hl rfl rfl (Nat.le_of_ble_eq_true rfl) ⟨(Nat.le_of_ble_eq_true rfl), (Nat.le_of_ble_eq_true rfl)⟩ ⟨(Nat.le_of_ble_eq_true rfl), (Nat.le_of_ble_eq_true rfl)⟩ dX5_product_54) (fun u2 H locs hw hP hD hS => ?_)
            obtain ⟨v3, v4, v5⟩ := u2
            try dsimp only at hP hD hw
            replace hP : va_P (dC, dI) vwCl [(wo_4_iiiiiiirrrirrrrrir a_this_plan x_this_plan_cycle x_this_plan_green x_this_plan_rule x_this_plan_least x_this_plan_away x_this_plan_statements x_this_plan_kinds a_this_plan_calm a_this_plan_pace a_this_plan_trusts x_this_plan_walkers a_this_plan_kindOf a_this_plan_comesAt a_this_plan_comers a_this_plan_names a_this_plan_code J7_c2_16 a_this_plan_spans), (wi_0_1600_0 a_this_plan_code cy J7_a3), (wo_5_riiiiirii a_this a_this_text x_this_length v3 v4 v5 x_this_allowed a_this_plan J7_c0_7 J7_c0_8), (wi_0_1600_0 a_this_text cy g_this_text)] H := hP
            replace hD := k_D hP hD
            obtain ⟨h6, h7, h8, h9, h10⟩ := hw
            replace hq := lf_p1 hq h10
            replace hq := lf_p1 hq rfl
            refine lv_aload_n hx hb dX5_product_57 rfl (lv_at hl 1 rfl) ?_
            refine lv_iload_n hx hb dX5_product_58 rfl (lv_at hl 2 rfl) ?_
            refine k_jvm hP hD hS hA [2, 3, 0, 1] [] rfl rfl rfl 0 0 (Nat.le_of_ble_eq_true rfl) (Nat.le_of_ble_eq_true rfl) (fun hPc hDc => k_runV (As := [.int 1]) (rest := []) C0 hZ hS hA (s_X5_part_a0_1 l dC dI cy sq a_this a_this_text g_this_text x_this_length v3 v4 v5 x_this_allowed a_this_plan x_this_plan_cycle x_this_plan_green x_this_plan_rule x_this_plan_least x_this_plan_away x_this_plan_statements x_this_plan_kinds a_this_plan_calm a_this_plan_pace a_this_plan_trusts x_this_plan_walkers a_this_plan_kindOf a_this_plan_comesAt a_this_plan_comers a_this_plan_names a_this_plan_code J7_a3 J7_c2_16 a_this_plan_spans J7_c0_7 J7_c0_8 hg_this_text (ib_w 0 1600 hx_this_length rfl) (ib_w 0 1600 h6 rfl) (ib_w 0 1600 h7 rfl) (ib_w 0 4 h8 rfl) (ib_w 0 1600 hK48_J7_c2_16 rfl) (fun hq9 => ib_w 0 1599 (h9 hq9) rfl)) mV_X5_225 hPc hDc rfl rfl rfl hl rfl rfl (Nat.le_of_ble_eq_true rfl) ⟨(Nat.le_of_ble_eq_true rfl), (Nat.le_of_ble_eq_true rfl)⟩ ⟨(Nat.le_of_ble_eq_true rfl), (Nat.le_of_ble_eq_true rfl)⟩ dX5_product_59) (fun u12 H locs hw hP hD hS => ?_)
            obtain ⟨v13, v14, v15, v16, v17, v18, f19⟩ := u12
            try dsimp only at hP hD hw
            replace hP : va_P (dC, dI) vwCl [(wo_5_riiiiirii a_this a_this_text x_this_length v13 v14 v15 x_this_allowed a_this_plan v16 v17), (wi_0_1600_0 a_this_text cy g_this_text), (wo_4_iiiiiiirrrirrrrrir a_this_plan x_this_plan_cycle x_this_plan_green x_this_plan_rule x_this_plan_least x_this_plan_away x_this_plan_statements x_this_plan_kinds a_this_plan_calm a_this_plan_pace a_this_plan_trusts x_this_plan_walkers a_this_plan_kindOf a_this_plan_comesAt a_this_plan_comers a_this_plan_names a_this_plan_code v18 a_this_plan_spans), (wi_0_1600_0 a_this_plan_code cy f19)] H := hP
            replace hD := k_D hP hD
            obtain ⟨h20, h21, h22, h23, h24, h25⟩ := hw
            replace hq := lf_p1 hq h25
            replace hq := lf_p1 hq rfl
            replace hq := lf_p1 hq rfl
            replace hq := lf_p1 hq rfl
            replace hq := lf_p1 hq rfl
            replace hq := lf_p1 hq rfl
            refine lv_aload_n hx hb dX5_product_62 rfl (lv_at hl 1 rfl) ?_
            refine lv_iload_n hx hb dX5_product_63 rfl (lv_at hl 0 rfl) ?_
            refine k_jvm hP hD hS hA [0, 2, 3] [false, true] rfl rfl rfl 0 0 (Nat.le_of_ble_eq_true rfl) (Nat.le_of_ble_eq_true rfl) (fun hPc hDc => k_runV (As := [.int J48_s0]) (rest := []) C0 hZ hS hA (s_X5_emit l dC dI cy sq a_this a_this_text x_this_length v13 v14 v15 x_this_allowed a_this_plan x_this_plan_cycle x_this_plan_green x_this_plan_rule x_this_plan_least x_this_plan_away x_this_plan_statements x_this_plan_kinds a_this_plan_calm a_this_plan_pace a_this_plan_trusts x_this_plan_walkers a_this_plan_kindOf a_this_plan_comesAt a_this_plan_comers a_this_plan_names a_this_plan_code f19 v18 a_this_plan_spans v16 v17 J48_s0 (ib_w 0 1600 h23 rfl)) mV_X5_199 hPc hDc rfl rfl rfl hl rfl rfl (Nat.le_of_ble_eq_true rfl) ⟨(Nat.le_of_ble_eq_true rfl), (Nat.le_of_ble_eq_true rfl)⟩ ⟨(Nat.le_of_ble_eq_true rfl), (Nat.le_of_ble_eq_true rfl)⟩ dX5_product_64) (fun u27 H locs hw hP hD hS => ?_)
            obtain ⟨v28, f29⟩ := u27
            try dsimp only at hP hD hw
            replace hP : va_P (dC, dI) vwCl [(wi_0_1600_0 a_this_text cy g_this_text), (wo_5_riiiiirii a_this a_this_text x_this_length v13 v14 v15 x_this_allowed a_this_plan v16 v17), (wo_4_iiiiiiirrrirrrrrir a_this_plan x_this_plan_cycle x_this_plan_green x_this_plan_rule x_this_plan_least x_this_plan_away x_this_plan_statements x_this_plan_kinds a_this_plan_calm a_this_plan_pace a_this_plan_trusts x_this_plan_walkers a_this_plan_kindOf a_this_plan_comesAt a_this_plan_comers a_this_plan_names a_this_plan_code v28 a_this_plan_spans), (wi_0_1600_0 a_this_plan_code cy f29)] H := hP
            replace hD := k_D hP hD
            obtain ⟨h30, h31⟩ := hw
            replace hq := lf_p1 hq h31
            obtain ⟨z32, ez32⟩ : ∃ y : Int32, y = J7_l2 + 1 := ⟨_, rfl⟩
            refine lv_iinc (v := z32) (lv' := [(2, .int z32), (3, .int J48_s0), (0, .ref a_this), (1, .int 1)]) hx hb dX5_product_67 hl (k := 3) rfl (by rw [ez32]; rfl) (Nat.le_of_ble_eq_true rfl) rfl (fun ls hl => ?_)
            have h33 := ib_add hK48_J7_l2 (ib_c 1 1 1 rfl) rfl
            rw [← ez32] at h33
            have h34 : ib z32 1 1600 := ib_w 1 1600 h33.1 rfl
            have Ez32 := lf_add h33.2 (lf_rf J7_l2) (lf_lc 1 (1 : Int) rfl)
            refine lv_goto (tgt := 7) hx hb dX5_product_70 rfl ?_
            exact ih7 v13 v14 v15 v16 v17 v28 f29 z32 H locs ls (ib_w 0 1600 h20 rfl) (ib_w 0 1600 h21 rfl) (ib_w 0 4 h22 rfl) (ib_w 0 1600 h30 rfl) (ib_w 0 1600 h34 rfl) (fun hq9 => ib_w 0 1599 (h24 hq9) rfl) (by rw [← hK7]; rw [lf_u Ez32]; exact hq) (by have := h33.2; have : (1 : Int32).toInt = 1 := rfl; omega) (hP.sub [1, 0, 2, 3] rfl) (hD.sub [1, 0, 2, 3] rfl rfl) hS (lv_sub hl [2, 3, 0] rfl)
        have jn32 : ∀  (H : Heap) (locs : List Loc) (ls : Array Slot), ib J7_l2 0 1599 → ib J7_c0_2 0 1599 → ib J7_c0_3 0 1600 → ib J7_c0_4 3 3 → ib J7_c2_16 0 1600 → (O = F_X5_product_a0_1_32 (lf_A g_this_text) (Int32.toInt x_this_length) (Int32.toInt x_this_allowed) (Int32.toInt J7_c0_2) (Int32.toInt J7_c0_3) (Int32.toInt J7_c0_4) (Int32.toInt J7_c0_7) (Int32.toInt J7_c0_8) (Int32.toInt J7_c2_16) (lf_A J7_a3) (Int32.toInt J7_l2) K7 ) → va_P (dC, dI) vwCl [(wo_5_riiiiirii a_this a_this_text x_this_length J7_c0_2 J7_c0_3 J7_c0_4 x_this_allowed a_this_plan J7_c0_7 J7_c0_8), (wi_0_1600_0 a_this_text cy g_this_text), (wo_4_iiiiiiirrrirrrrrir a_this_plan x_this_plan_cycle x_this_plan_green x_this_plan_rule x_this_plan_least x_this_plan_away x_this_plan_statements x_this_plan_kinds a_this_plan_calm a_this_plan_pace a_this_plan_trusts x_this_plan_walkers a_this_plan_kindOf a_this_plan_comesAt a_this_plan_comers a_this_plan_names a_this_plan_code J7_c2_16 a_this_plan_spans), (wi_0_1600_0 a_this_plan_code cy J7_a3)] H → va_D A [(wo_5_riiiiirii a_this a_this_text x_this_length J7_c0_2 J7_c0_3 J7_c0_4 x_this_allowed a_this_plan J7_c0_7 J7_c0_8), (wi_0_1600_0 a_this_text cy g_this_text), (wo_4_iiiiiiirrrirrrrrir a_this_plan x_this_plan_cycle x_this_plan_green x_this_plan_rule x_this_plan_least x_this_plan_away x_this_plan_statements x_this_plan_kinds a_this_plan_calm a_this_plan_pace a_this_plan_trusts x_this_plan_walkers a_this_plan_kindOf a_this_plan_comesAt a_this_plan_comers a_this_plan_names a_this_plan_code J7_c2_16 a_this_plan_spans), (wi_0_1600_0 a_this_plan_code cy J7_a3)] → va_S A s.heap H locs → lv_has ls 4 [(0, .ref a_this), (1, .int 1), (2, .int J7_l2)] → W p l e { frames := 27, cells := 0, slots := 0, locals := 654 } s m args below meth c H locs 0 0 Q (F0 m 32 ls []) := by
          as_aux_lemma =>
            intro H locs ls hK32_J7_l2 hK32_J7_c0_2 hK32_J7_c0_3 hK32_J7_c0_4 hK32_J7_c2_16 hq hP hD hS hl
            unfold F_X5_product_a0_1_32 at hq
            refine lv_aload_n hx hb dX5_product_32 rfl (lv_at hl 0 rfl) ?_
            refine lv_bipush (v := 42) hx hb dX5_product_33 rfl ?_
            refine k_jim hP hD hS hA [0, 1] [false, false, true, true] rfl rfl rfl 0 0 (Nat.le_of_ble_eq_true rfl) (Nat.le_of_ble_eq_true rfl) (fun hPc hDc => k_runV (As := [.int 42]) (rest := []) C0 hZ hS hA (s_X5_sees l dC dI cy sq a_this a_this_text g_this_text x_this_length J7_c0_2 J7_c0_3 J7_c0_4 x_this_allowed a_this_plan J7_c0_7 J7_c0_8 42 hg_this_text (ib_w 0 1600 hK32_J7_c0_2 rfl) (ib_w 0 4 hK32_J7_c0_4 rfl) (fun _ => ib_w 0 1599 hK32_J7_c0_2 rfl)) mV_X5_213 hPc hDc rfl rfl rfl hl rfl rfl (Nat.le_of_ble_eq_true rfl) ⟨(Nat.le_of_ble_eq_true rfl), (Nat.le_of_ble_eq_true rfl)⟩ ⟨(Nat.le_of_ble_eq_true rfl), (Nat.le_of_ble_eq_true rfl)⟩ dX5_product_35) (fun r35 u36 H locs hw hP hD hS => ?_)
            try dsimp only at hP hD hw
            replace hP : va_P (dC, dI) vwCl [(wo_4_iiiiiiirrrirrrrrir a_this_plan x_this_plan_cycle x_this_plan_green x_this_plan_rule x_this_plan_least x_this_plan_away x_this_plan_statements x_this_plan_kinds a_this_plan_calm a_this_plan_pace a_this_plan_trusts x_this_plan_walkers a_this_plan_kindOf a_this_plan_comesAt a_this_plan_comers a_this_plan_names a_this_plan_code J7_c2_16 a_this_plan_spans), (wi_0_1600_0 a_this_plan_code cy J7_a3), (wo_5_riiiiirii a_this a_this_text x_this_length J7_c0_2 J7_c0_3 J7_c0_4 x_this_allowed a_this_plan J7_c0_7 J7_c0_8), (wi_0_1600_0 a_this_text cy g_this_text)] H := hP
            replace hD := k_D hP hD
            obtain ⟨h37, h38, h39, h40, h41⟩ := hw
            have h41 := by have h9 := h41; try simp only [show (42 : Int32).toInt = (42 : Int) from rfl] at h9; exact h9
            replace hq := lf_b1 hq h41
            refine lv_if_eq (tgt := 46) hx hb dX5_product_38 rfl (fun c42 => ?_) (fun c42 => ?_)
            · replace hq := lf_pos hq (lf_eq (lf_rf r35) (lf_lc 0 (0 : Int) rfl) c42)
              have h43 := ib_eq h37 (ib_c 0 0 0 rfl) c42
              have h44 : ib r35 0 0 := ib_w 0 0 h43.1 rfl
              refine lv_bipush (v := (-23)) hx hb dX5_product_46 rfl ?_
              exact jn48 (-23) H locs ls (ib_w 0 1599 hK32_J7_l2 rfl) (ib_w 0 1599 hK32_J7_c0_2 rfl) (ib_w 0 1600 hK32_J7_c0_3 rfl) (ib_w 3 3 hK32_J7_c0_4 rfl) (ib_w 0 1600 hK32_J7_c2_16 rfl) (ib_w (-23) (-22) (ib_c (-23) (-23) (-23) rfl) rfl) (by try simp only [show ((-23) : Int32).toInt = (-23 : Int) from rfl]; exact hq) (hP.sub [2, 3, 0, 1] rfl) (hD.sub [2, 3, 0, 1] rfl rfl) hS (lv_sub hl [0, 1, 2] rfl)
            · replace hq := lf_neg hq (lf_ne (lf_rf r35) (lf_lc 0 (0 : Int) rfl) c42)
              have h45 : ib r35 1 1 := ib_w 1 1 (ib_ne_lo 0 h37 rfl c42) rfl
              refine lv_bipush (v := (-22)) hx hb dX5_product_41 rfl ?_
              refine lv_goto (tgt := 48) hx hb dX5_product_43 rfl ?_
              exact jn48 (-22) H locs ls (ib_w 0 1599 hK32_J7_l2 rfl) (ib_w 0 1599 hK32_J7_c0_2 rfl) (ib_w 0 1600 hK32_J7_c0_3 rfl) (ib_w 3 3 hK32_J7_c0_4 rfl) (ib_w 0 1600 hK32_J7_c2_16 rfl) (ib_w (-23) (-22) (ib_c (-22) (-22) (-22) rfl) rfl) (by try simp only [show ((-22) : Int32).toInt = (-22 : Int) from rfl]; exact hq) (hP.sub [2, 3, 0, 1] rfl) (hD.sub [2, 3, 0, 1] rfl rfl) hS (lv_sub hl [0, 1, 2] rfl)
        refine lv_iload_n hx hb dX5_product_7 rfl (lv_at hl 2 rfl) ?_
        refine lv_sipush (v := 1600) hx hb dX5_product_8 rfl ?_
        refine lv_icmp_ge (tgt := 73) hx hb dX5_product_11 rfl (fun c46 => ?_) (fun c46 => ?_)
        · replace hq := lf_pos hq (lf_le (lf_lc 1600 (1600 : Int) rfl) (lf_rf J7_l2) c46)
          have h47 := ib_le (ib_c 1600 1600 1600 rfl) hJ7_l2 c46
          have h48 : ib J7_l2 1600 1600 := ib_w 1600 1600 h47.2 rfl
          subst hQ; exact k_vret hx hb hr hlk ((J7_c0_2, J7_c0_3, J7_c0_4, J7_c0_7, J7_c0_8, J7_c2_16, J7_a3)) hS ⟨ib_w 0 1600 hJ7_c0_2 rfl, ib_w 0 1600 hJ7_c0_3 rfl, ib_w 0 4 hJ7_c0_4 rfl, ib_w 0 1600 hJ7_c2_16 rfl, fun hq9 => ib_w 0 1599 (hJ7_ic0_0 hq9) rfl, (hO.symm.trans (by exact hq))⟩ hP hD (Nat.le_of_ble_eq_true rfl) (Nat.le_of_ble_eq_true rfl) dX5_product_73
        · as_aux_lemma =>
            replace hq := lf_neg hq (lf_nle (lf_lc 1600 (1600 : Int) rfl) (lf_rf J7_l2) c46)
            have h49 := ib_nle (ib_c 1600 1600 1600 rfl) hJ7_l2 c46
            have h50 : ib J7_l2 0 1599 := ib_w 0 1599 h49.2 rfl
            refine lv_aload_n hx hb dX5_product_14 rfl (lv_at hl 0 rfl) ?_
            refine lv_bipush (v := 42) hx hb dX5_product_15 rfl ?_
            refine k_jim hP hD hS hA [0, 1] [false, false, true, true] rfl rfl rfl 0 0 (Nat.le_of_ble_eq_true rfl) (Nat.le_of_ble_eq_true rfl) (fun hPc hDc => k_runV (As := [.int 42]) (rest := []) C0 hZ hS hA (s_X5_sees l dC dI cy sq a_this a_this_text g_this_text x_this_length J7_c0_2 J7_c0_3 J7_c0_4 x_this_allowed a_this_plan J7_c0_7 J7_c0_8 42 hg_this_text (ib_w 0 1600 hJ7_c0_2 rfl) (ib_w 0 4 hJ7_c0_4 rfl) (fun hq9 => ib_w 0 1599 (hJ7_ic0_0 hq9) rfl)) mV_X5_213 hPc hDc rfl rfl rfl hl rfl rfl (Nat.le_of_ble_eq_true rfl) ⟨(Nat.le_of_ble_eq_true rfl), (Nat.le_of_ble_eq_true rfl)⟩ ⟨(Nat.le_of_ble_eq_true rfl), (Nat.le_of_ble_eq_true rfl)⟩ dX5_product_17) (fun r51 u52 H locs hw hP hD hS => ?_)
            try dsimp only at hP hD hw
            replace hP : va_P (dC, dI) vwCl [(wo_4_iiiiiiirrrirrrrrir a_this_plan x_this_plan_cycle x_this_plan_green x_this_plan_rule x_this_plan_least x_this_plan_away x_this_plan_statements x_this_plan_kinds a_this_plan_calm a_this_plan_pace a_this_plan_trusts x_this_plan_walkers a_this_plan_kindOf a_this_plan_comesAt a_this_plan_comers a_this_plan_names a_this_plan_code J7_c2_16 a_this_plan_spans), (wi_0_1600_0 a_this_plan_code cy J7_a3), (wo_5_riiiiirii a_this a_this_text x_this_length J7_c0_2 J7_c0_3 J7_c0_4 x_this_allowed a_this_plan J7_c0_7 J7_c0_8), (wi_0_1600_0 a_this_text cy g_this_text)] H := hP
            replace hD := k_D hP hD
            obtain ⟨h53, h54, h55, h56, h57⟩ := hw
            have h57 := by have h9 := h57; try simp only [show (42 : Int32).toInt = (42 : Int) from rfl] at h9; exact h9
            replace hq := lf_b1 hq h57
            refine lv_if_ne (tgt := 32) hx hb dX5_product_20 rfl (fun c58 => ?_) (fun c58 => ?_)
            · replace hq := lf_neg hq (lf_ne (lf_rf r51) (lf_lc 0 (0 : Int) rfl) c58)
              have h59 : ib r51 1 1 := ib_w 1 1 (ib_ne_lo 0 h53 rfl c58) rfl
              have h60 : ib J7_c0_2 0 1599 := ib_w 0 1599 (ib_two hJ7_c0_2 (h54 c58)) rfl
              have h61 : ib J7_c0_4 3 3 := ib_w 3 3 (ib_two hJ7_c0_4 (h55 c58)) rfl
              exact jn32  H locs ls (ib_w 0 1599 h50 rfl) (ib_w 0 1599 h60 rfl) (ib_w 0 1600 hJ7_c0_3 rfl) (ib_w 3 3 h61 rfl) (ib_w 0 1600 hJ7_c2_16 rfl) (by exact hq) (hP.sub [2, 3, 0, 1] rfl) (hD.sub [2, 3, 0, 1] rfl rfl) hS (lv_sub hl [0, 1, 2] rfl)
            · as_aux_lemma =>
                replace hq := lf_pos hq (lf_eq (lf_rf r51) (lf_lc 0 (0 : Int) rfl) c58)
                have h62 := ib_eq h53 (ib_c 0 0 0 rfl) c58
                have h63 : ib r51 0 0 := ib_w 0 0 h62.1 rfl
                refine lv_aload_n hx hb dX5_product_23 rfl (lv_at hl 0 rfl) ?_
                refine lv_bipush (v := 47) hx hb dX5_product_24 rfl ?_
                refine k_jim hP hD hS hA [2, 3] [true, true] rfl rfl rfl 0 0 (Nat.le_of_ble_eq_true rfl) (Nat.le_of_ble_eq_true rfl) (fun hPc hDc => k_runV (As := [.int 47]) (rest := []) C0 hZ hS hA (s_X5_sees l dC dI cy sq a_this a_this_text g_this_text x_this_length J7_c0_2 J7_c0_3 J7_c0_4 x_this_allowed a_this_plan J7_c0_7 J7_c0_8 47 hg_this_text (ib_w 0 1600 hJ7_c0_2 rfl) (ib_w 0 4 hJ7_c0_4 rfl) (fun hq9 => ib_w 0 1599 (hJ7_ic0_0 hq9) rfl)) mV_X5_213 hPc hDc rfl rfl rfl hl rfl rfl (Nat.le_of_ble_eq_true rfl) ⟨(Nat.le_of_ble_eq_true rfl), (Nat.le_of_ble_eq_true rfl)⟩ ⟨(Nat.le_of_ble_eq_true rfl), (Nat.le_of_ble_eq_true rfl)⟩ dX5_product_26) (fun r64 u65 H locs hw hP hD hS => ?_)
                try dsimp only at hP hD hw
                replace hP : va_P (dC, dI) vwCl [(wo_4_iiiiiiirrrirrrrrir a_this_plan x_this_plan_cycle x_this_plan_green x_this_plan_rule x_this_plan_least x_this_plan_away x_this_plan_statements x_this_plan_kinds a_this_plan_calm a_this_plan_pace a_this_plan_trusts x_this_plan_walkers a_this_plan_kindOf a_this_plan_comesAt a_this_plan_comers a_this_plan_names a_this_plan_code J7_c2_16 a_this_plan_spans), (wi_0_1600_0 a_this_plan_code cy J7_a3), (wo_5_riiiiirii a_this a_this_text x_this_length J7_c0_2 J7_c0_3 J7_c0_4 x_this_allowed a_this_plan J7_c0_7 J7_c0_8), (wi_0_1600_0 a_this_text cy g_this_text)] H := hP
                replace hD := k_D hP hD
                obtain ⟨h66, h67, h68, h69, h70⟩ := hw
                have h70 := by have h9 := h70; try simp only [show (47 : Int32).toInt = (47 : Int) from rfl] at h9; exact h9
                replace hq := lf_b1 hq h70
                refine lv_if_eq (tgt := 73) hx hb dX5_product_29 rfl (fun c71 => ?_) (fun c71 => ?_)
                · replace hq := lf_pos hq (lf_eq (lf_rf r64) (lf_lc 0 (0 : Int) rfl) c71)
                  have h72 := ib_eq h66 (ib_c 0 0 0 rfl) c71
                  have h73 : ib r64 0 0 := ib_w 0 0 h72.1 rfl
                  subst hQ; exact k_vret hx hb hr hlk ((J7_c0_2, J7_c0_3, J7_c0_4, J7_c0_7, J7_c0_8, J7_c2_16, J7_a3)) hS ⟨ib_w 0 1600 hJ7_c0_2 rfl, ib_w 0 1600 hJ7_c0_3 rfl, ib_w 0 4 hJ7_c0_4 rfl, ib_w 0 1600 hJ7_c2_16 rfl, fun hq9 => ib_w 0 1599 (hJ7_ic0_0 hq9) rfl, (hO.symm.trans (by exact hq))⟩ (hP.sub [2, 3, 0, 1] rfl) (hD.sub [2, 3, 0, 1] rfl rfl) (Nat.le_of_ble_eq_true rfl) (Nat.le_of_ble_eq_true rfl) dX5_product_73
                · replace hq := lf_neg hq (lf_ne (lf_rf r64) (lf_lc 0 (0 : Int) rfl) c71)
                  have h74 : ib r64 1 1 := ib_w 1 1 (ib_ne_lo 0 h66 rfl c71) rfl
                  have h75 : ib J7_c0_2 0 1599 := ib_w 0 1599 (ib_two hJ7_c0_2 (h67 c71)) rfl
                  have h76 : ib J7_c0_4 3 3 := ib_w 3 3 (ib_two hJ7_c0_4 (h68 c71)) rfl
                  exact jn32  H locs ls (ib_w 0 1599 h50 rfl) (ib_w 0 1599 h75 rfl) (ib_w 0 1600 hJ7_c0_3 rfl) (ib_w 3 3 h76 rfl) (ib_w 0 1600 hJ7_c2_16 rfl) (by exact hq) (hP.sub [2, 3, 0, 1] rfl) (hD.sub [2, 3, 0, 1] rfl rfl) hS (lv_sub hl [0, 1, 2] rfl)
  refine lv_aload_n hx hb dX5_product_0 rfl (lv_at hl 0 rfl) ?_
  refine lv_iload_n hx hb dX5_product_1 rfl (lv_at hl 1 rfl) ?_
  refine k_jvm hP hD hS hA [0, 1, 2, 3] [] rfl rfl rfl 0 0 (Nat.le_of_ble_eq_true rfl) (Nat.le_of_ble_eq_true rfl) (fun hPc hDc => k_runV (As := [.int 1]) (rest := []) C0 hZ hS hA (s_X5_part_a0_1 l dC dI cy sq a_this a_this_text g_this_text x_this_length x_this_at x_this_behind x_this_sort x_this_allowed a_this_plan x_this_plan_cycle x_this_plan_green x_this_plan_rule x_this_plan_least x_this_plan_away x_this_plan_statements x_this_plan_kinds a_this_plan_calm a_this_plan_pace a_this_plan_trusts x_this_plan_walkers a_this_plan_kindOf a_this_plan_comesAt a_this_plan_comers a_this_plan_names a_this_plan_code g_this_plan_code x_this_plan_size a_this_plan_spans x_this_fault x_this_place hg_this_text (ib_w 0 1600 hx_this_length rfl) (ib_w 0 1600 hx_this_at rfl) (ib_w 0 1600 hx_this_behind rfl) (ib_w 0 4 hx_this_sort rfl) (ib_w 0 1600 hx_this_plan_size rfl) (fun hq9 => ib_w 0 1599 (hc0_this hq9) rfl)) mV_X5_225 hPc hDc rfl rfl rfl hl rfl rfl (Nat.le_of_ble_eq_true rfl) ⟨(Nat.le_of_ble_eq_true rfl), (Nat.le_of_ble_eq_true rfl)⟩ ⟨(Nat.le_of_ble_eq_true rfl), (Nat.le_of_ble_eq_true rfl)⟩ dX5_product_2) (fun u78 H locs hw hP hD hS => ?_)
  obtain ⟨v79, v80, v81, v82, v83, v84, f85⟩ := u78
  try dsimp only at hP hD hw
  replace hP : va_P (dC, dI) vwCl [(wo_5_riiiiirii a_this a_this_text x_this_length v79 v80 v81 x_this_allowed a_this_plan v82 v83), (wi_0_1600_0 a_this_text cy g_this_text), (wo_4_iiiiiiirrrirrrrrir a_this_plan x_this_plan_cycle x_this_plan_green x_this_plan_rule x_this_plan_least x_this_plan_away x_this_plan_statements x_this_plan_kinds a_this_plan_calm a_this_plan_pace a_this_plan_trusts x_this_plan_walkers a_this_plan_kindOf a_this_plan_comesAt a_this_plan_comers a_this_plan_names a_this_plan_code v84 a_this_plan_spans), (wi_0_1600_0 a_this_plan_code cy f85)] H := hP
  replace hD := k_D hP hD
  obtain ⟨h86, h87, h88, h89, h90, h91⟩ := hw
  replace hq := lf_p1 hq h91
  replace hq := lf_p1 hq rfl
  replace hq := lf_p1 hq rfl
  replace hq := lf_p1 hq rfl
  replace hq := lf_p1 hq rfl
  replace hq := lf_p1 hq rfl
  refine lv_iconst (v := 0) hx hb dX5_product_5 rfl ?_
  refine lv_istore_n (lv' := [(2, .int 0), (0, .ref a_this), (1, .int 1)]) hx hb dX5_product_6 rfl hl (Nat.le_of_ble_eq_true rfl) rfl (fun ls hl => ?_)
  exact jn7 1602 v79 v80 v81 v82 v83 v84 f85 0 H locs ls (ib_w 0 1600 h86 rfl) (ib_w 0 1600 h87 rfl) (ib_w 0 4 h88 rfl) (ib_w 0 1600 h89 rfl) (ib_w 0 1600 (ib_c 0 0 0 rfl) rfl) (fun hq9 => ib_w 0 1599 (h90 hq9) rfl) (by try simp only [show (0 : Int32).toInt = (0 : Int) from rfl]; exact hq) (by have := (ib_c 0 0 0 rfl); unfold ib at this; omega) hP hD hS (lv_sub hl [1, 2, 0] rfl)
set_option maxHeartbeats 4000000 in
set_option maxRecDepth 100000 in
theorem s_X5_sum_a0_1 (l : Launch) (dC : Nat → ClassId) (dI : Nat → Nat → Nat) (cy : Nat → ClassId) (sq : Nat → Nat) (a_this : Nat) (a_this_text : Nat) (g_this_text : Nat → Int32) (x_this_length : Int32) (x_this_at : Int32) (x_this_behind : Int32) (x_this_sort : Int32) (x_this_allowed : Int32) (a_this_plan : Nat) (x_this_plan_cycle : Int32) (x_this_plan_green : Int32) (x_this_plan_rule : Int32) (x_this_plan_least : Int32) (x_this_plan_away : Int32) (x_this_plan_statements : Int32) (x_this_plan_kinds : Int32) (a_this_plan_calm : Nat) (a_this_plan_pace : Nat) (a_this_plan_trusts : Nat) (x_this_plan_walkers : Int32) (a_this_plan_kindOf : Nat) (a_this_plan_comesAt : Nat) (a_this_plan_comers : Nat) (a_this_plan_names : Nat) (a_this_plan_code : Nat) (g_this_plan_code : Nat → Int32) (x_this_plan_size : Int32) (a_this_plan_spans : Nat) (x_this_fault : Int32) (x_this_place : Int32) (hg_this_text : ia g_this_text 1600 0 255) (hx_this_length : ib x_this_length 0 1600) (hx_this_at : ib x_this_at 0 1600) (hx_this_behind : ib x_this_behind 0 1600) (hx_this_sort : ib x_this_sort 0 4) (hx_this_plan_size : ib x_this_plan_size 0 1600) (hc0_this : ¬ x_this_sort = 0 → ib x_this_at 0 1599) : k_Met l yX5_sum cX5_sum 4 none { frames := 28, cells := 0, slots := 0, locals := 677 } dC dI cy sq [.ref a_this, .int 1] [(wo_5_riiiiirii a_this a_this_text x_this_length x_this_at x_this_behind x_this_sort x_this_allowed a_this_plan x_this_fault x_this_place), (wi_0_1600_0 a_this_text cy g_this_text), (wo_4_iiiiiiirrrirrrrrir a_this_plan x_this_plan_cycle x_this_plan_green x_this_plan_rule x_this_plan_least x_this_plan_away x_this_plan_statements x_this_plan_kinds a_this_plan_calm a_this_plan_pace a_this_plan_trusts x_this_plan_walkers a_this_plan_kindOf a_this_plan_comesAt a_this_plan_comers a_this_plan_names a_this_plan_code x_this_plan_size a_this_plan_spans), (wi_0_1600_0 a_this_plan_code cy g_this_plan_code)] (k_Qv dC dI (fun (u : Int32 × Int32 × Int32 × Int32 × Int32 × Int32 × (Nat → Int32)) => match u with | (n0, n1, n2, n3, n4, n5, n6) => ib n0 0 1600 ∧ ib n1 0 1600 ∧ ib n2 0 4 ∧ ib n5 0 1600 ∧ (¬ n2 = 0 → ib n0 0 1599) ∧ (F_X5_sum_a0_1 (lf_A g_this_text) (Int32.toInt x_this_length) (Int32.toInt x_this_at) (Int32.toInt x_this_behind) (Int32.toInt x_this_sort) (Int32.toInt x_this_allowed) (lf_A g_this_plan_code) (Int32.toInt x_this_plan_size) (Int32.toInt x_this_fault) (Int32.toInt x_this_place) = ((Int32.toInt n0), (Int32.toInt n1), (Int32.toInt n2), (Int32.toInt n3), (Int32.toInt n4), (Int32.toInt n5), (lf_A n6)))) (fun u : Int32 × Int32 × Int32 × Int32 × Int32 × Int32 × (Nat → Int32) => match u with | (n0, n1, n2, n3, n4, n5, n6) => [(wo_5_riiiiirii a_this a_this_text x_this_length n0 n1 n2 x_this_allowed a_this_plan n3 n4), (wi_0_1600_0 a_this_text cy g_this_text), (wo_4_iiiiiiirrrirrrrrir a_this_plan x_this_plan_cycle x_this_plan_green x_this_plan_rule x_this_plan_least x_this_plan_away x_this_plan_statements x_this_plan_kinds a_this_plan_calm a_this_plan_pace a_this_plan_trusts x_this_plan_walkers a_this_plan_kindOf a_this_plan_comesAt a_this_plan_comers a_this_plan_names a_this_plan_code n5 a_this_plan_spans), (wi_0_1600_0 a_this_plan_code cy n6)])) := by
  refine k_ofW2 (by decide +kernel) (Nat.le_of_ble_eq_true rfl) ?_
  intro p e s m below meth c A ls H locs args Q hQ C0 hZ hr hlk hin hP hD hA hS hl
  have C0 : k_cx p s m args c cX5_sum 4 RX5 dC dI cy sq := C0
  have hx := C0.1
  have hb := C0.2.1
  have hl : lv_has ls 4 [(0, .ref a_this), (1, .int 1)] := hl
  obtain ⟨O, hO⟩ : ∃ o, o = F_X5_sum_a0_1 (lf_A g_this_text) (Int32.toInt x_this_length) (Int32.toInt x_this_at) (Int32.toInt x_this_behind) (Int32.toInt x_this_sort) (Int32.toInt x_this_allowed) (lf_A g_this_plan_code) (Int32.toInt x_this_plan_size) (Int32.toInt x_this_fault) (Int32.toInt x_this_place) := ⟨_, rfl⟩
  have hq := hO
  unfold F_X5_sum_a0_1 at hq
  have jn7 : ∀ (n : Nat) (J7_c0_2 : Int32) (J7_c0_3 : Int32) (J7_c0_4 : Int32) (J7_c0_7 : Int32) (J7_c0_8 : Int32) (J7_c2_16 : Int32) (J7_a3 : Nat → Int32) (J7_l2 : Int32) (H : Heap) (locs : List Loc) (ls : Array Slot), ib J7_c0_2 0 1600 → ib J7_c0_3 0 1600 → ib J7_c0_4 0 4 → ib J7_c2_16 0 1600 → ib J7_l2 0 1600 → (¬ J7_c0_4 = 0 → ib J7_c0_2 0 1599) → (O = F_X5_sum_a0_1_7 (lf_A g_this_text) (Int32.toInt x_this_length) (Int32.toInt x_this_allowed) n (Int32.toInt J7_c0_2) (Int32.toInt J7_c0_3) (Int32.toInt J7_c0_4) (Int32.toInt J7_c0_7) (Int32.toInt J7_c0_8) (Int32.toInt J7_c2_16) (lf_A J7_a3) (Int32.toInt J7_l2)) → 1601 ≤ J7_l2.toInt + (n : Int) → va_P (dC, dI) vwCl [(wo_5_riiiiirii a_this a_this_text x_this_length J7_c0_2 J7_c0_3 J7_c0_4 x_this_allowed a_this_plan J7_c0_7 J7_c0_8), (wi_0_1600_0 a_this_text cy g_this_text), (wo_4_iiiiiiirrrirrrrrir a_this_plan x_this_plan_cycle x_this_plan_green x_this_plan_rule x_this_plan_least x_this_plan_away x_this_plan_statements x_this_plan_kinds a_this_plan_calm a_this_plan_pace a_this_plan_trusts x_this_plan_walkers a_this_plan_kindOf a_this_plan_comesAt a_this_plan_comers a_this_plan_names a_this_plan_code J7_c2_16 a_this_plan_spans), (wi_0_1600_0 a_this_plan_code cy J7_a3)] H → va_D A [(wo_5_riiiiirii a_this a_this_text x_this_length J7_c0_2 J7_c0_3 J7_c0_4 x_this_allowed a_this_plan J7_c0_7 J7_c0_8), (wi_0_1600_0 a_this_text cy g_this_text), (wo_4_iiiiiiirrrirrrrrir a_this_plan x_this_plan_cycle x_this_plan_green x_this_plan_rule x_this_plan_least x_this_plan_away x_this_plan_statements x_this_plan_kinds a_this_plan_calm a_this_plan_pace a_this_plan_trusts x_this_plan_walkers a_this_plan_kindOf a_this_plan_comesAt a_this_plan_comers a_this_plan_names a_this_plan_code J7_c2_16 a_this_plan_spans), (wi_0_1600_0 a_this_plan_code cy J7_a3)] → va_S A s.heap H locs → lv_has ls 4 [(0, .ref a_this), (1, .int 1), (2, .int J7_l2)] → W p l e { frames := 28, cells := 0, slots := 0, locals := 677 } s m args below meth c H locs 0 0 Q (F0 m 7 ls []) := by
    as_aux_lemma =>
      intro n
      induction n with
      | zero =>
        intro J7_c0_2 J7_c0_3 J7_c0_4 J7_c0_7 J7_c0_8 J7_c2_16 J7_a3 J7_l2 H locs ls hJ7_c0_2 hJ7_c0_3 hJ7_c0_4 hJ7_c2_16 hJ7_l2 hJ7_ic0_0 hq hm
        exact absurd hm (by have := hJ7_l2; unfold ib at this; omega)
      | succ n ih =>
        intro J7_c0_2 J7_c0_3 J7_c0_4 J7_c0_7 J7_c0_8 J7_c2_16 J7_a3 J7_l2 H locs ls hJ7_c0_2 hJ7_c0_3 hJ7_c0_4 hJ7_c2_16 hJ7_l2 hJ7_ic0_0 hq hm7 hP hD hS hl
        have ih7 := ih
        obtain ⟨K7, hK7⟩ : ∃ K, K = F_X5_sum_a0_1_7 (lf_A g_this_text) (Int32.toInt x_this_length) (Int32.toInt x_this_allowed) n := ⟨_, rfl⟩
        have hq : O = F_X5_sum_a0_1_7b (lf_A g_this_text) (Int32.toInt x_this_length) (Int32.toInt x_this_allowed) K7 (Int32.toInt J7_c0_2) (Int32.toInt J7_c0_3) (Int32.toInt J7_c0_4) (Int32.toInt J7_c0_7) (Int32.toInt J7_c0_8) (Int32.toInt J7_c2_16) (lf_A J7_a3) (Int32.toInt J7_l2) := by rw [hK7]; exact hq
        unfold F_X5_sum_a0_1_7b at hq
        have jn48 : ∀ (J48_s0 : Int32) (H : Heap) (locs : List Loc) (ls : Array Slot), ib J7_l2 0 1599 → ib J7_c0_2 0 1599 → ib J7_c0_3 0 1600 → ib J7_c0_4 3 3 → ib J7_c2_16 0 1600 → ib J48_s0 (-21) (-20) → (O = F_X5_sum_a0_1_48 (lf_A g_this_text) (Int32.toInt x_this_length) (Int32.toInt x_this_allowed) (Int32.toInt J7_c0_3) (Int32.toInt J7_c0_7) (Int32.toInt J7_c0_8) (Int32.toInt J7_c2_16) (lf_A J7_a3) (Int32.toInt J7_l2) K7 (Int32.toInt J48_s0)) → va_P (dC, dI) vwCl [(wo_5_riiiiirii a_this a_this_text x_this_length J7_c0_2 J7_c0_3 J7_c0_4 x_this_allowed a_this_plan J7_c0_7 J7_c0_8), (wi_0_1600_0 a_this_text cy g_this_text), (wo_4_iiiiiiirrrirrrrrir a_this_plan x_this_plan_cycle x_this_plan_green x_this_plan_rule x_this_plan_least x_this_plan_away x_this_plan_statements x_this_plan_kinds a_this_plan_calm a_this_plan_pace a_this_plan_trusts x_this_plan_walkers a_this_plan_kindOf a_this_plan_comesAt a_this_plan_comers a_this_plan_names a_this_plan_code J7_c2_16 a_this_plan_spans), (wi_0_1600_0 a_this_plan_code cy J7_a3)] H → va_D A [(wo_5_riiiiirii a_this a_this_text x_this_length J7_c0_2 J7_c0_3 J7_c0_4 x_this_allowed a_this_plan J7_c0_7 J7_c0_8), (wi_0_1600_0 a_this_text cy g_this_text), (wo_4_iiiiiiirrrirrrrrir a_this_plan x_this_plan_cycle x_this_plan_green x_this_plan_rule x_this_plan_least x_this_plan_away x_this_plan_statements x_this_plan_kinds a_this_plan_calm a_this_plan_pace a_this_plan_trusts x_this_plan_walkers a_this_plan_kindOf a_this_plan_comesAt a_this_plan_comers a_this_plan_names a_this_plan_code J7_c2_16 a_this_plan_spans), (wi_0_1600_0 a_this_plan_code cy J7_a3)] → va_S A s.heap H locs → lv_has ls 4 [(0, .ref a_this), (1, .int 1), (2, .int J7_l2)] → W p l e { frames := 28, cells := 0, slots := 0, locals := 677 } s m args below meth c H locs 0 0 Q (F0 m 48 ls [.int J48_s0]) := by
          as_aux_lemma =>
            intro J48_s0 H locs ls hK48_J7_l2 hK48_J7_c0_2 hK48_J7_c0_3 hK48_J7_c0_4 hK48_J7_c2_16 hJ48_s0 hq hP hD hS hl
            unfold F_X5_sum_a0_1_48 at hq
            refine lv_istore_n (lv' := [(3, .int J48_s0), (0, .ref a_this), (1, .int 1), (2, .int J7_l2)]) hx hb dX5_sum_48 rfl hl (Nat.le_of_ble_eq_true rfl) rfl (fun ls hl => ?_)
            refine lv_aload_n hx hb dX5_sum_49 rfl (lv_at hl 1 rfl) ?_
            refine lv_aload_n hx hb dX5_sum_50 rfl (lv_at hl 1 rfl) ?_
            refine k_get C0 fg_X5_18 hP 0 rfl rfl dX5_sum_51 ?_
            refine k_jvm hP hD hS hA [0, 1] [false, false, true, true] rfl rfl rfl 0 0 (Nat.le_of_ble_eq_true rfl) (Nat.le_of_ble_eq_true rfl) (fun hPc hDc => k_runV (As := [.int J7_c0_3]) (rest := []) C0 hZ hS hA (s_X5_moveTo l dC dI cy sq a_this a_this_text g_this_text x_this_length J7_c0_2 J7_c0_3 J7_c0_4 x_this_allowed a_this_plan J7_c0_7 J7_c0_8 J7_c0_3 hg_this_text (ib_w 0 1600 hx_this_length rfl) (ib_w 0 1600 hK48_J7_c0_3 rfl)) mV_X5_86 hPc hDc rfl rfl rfl hl rfl rfl (Nat.le_of_ble_eq_true rfl) ⟨(Nat.le_of_ble_eq_true rfl), (Nat.le_of_ble_eq_true rfl)⟩ ⟨(Nat.le_of_ble_eq_true rfl), (Nat.le_of_ble_eq_true rfl)⟩ dX5_sum_54) (fun u2 H locs hw hP hD hS => ?_)
            obtain ⟨v3, v4, v5⟩ := u2
            try dsimp only at hP hD hw
            replace hP : va_P (dC, dI) vwCl [(wo_4_iiiiiiirrrirrrrrir a_this_plan x_this_plan_cycle x_this_plan_green x_this_plan_rule x_this_plan_least x_this_plan_away x_this_plan_statements x_this_plan_kinds a_this_plan_calm a_this_plan_pace a_this_plan_trusts x_this_plan_walkers a_this_plan_kindOf a_this_plan_comesAt a_this_plan_comers a_this_plan_names a_this_plan_code J7_c2_16 a_this_plan_spans), (wi_0_1600_0 a_this_plan_code cy J7_a3), (wo_5_riiiiirii a_this a_this_text x_this_length v3 v4 v5 x_this_allowed a_this_plan J7_c0_7 J7_c0_8), (wi_0_1600_0 a_this_text cy g_this_text)] H := hP
            replace hD := k_D hP hD
            obtain ⟨h6, h7, h8, h9, h10⟩ := hw
            replace hq := lf_p1 hq h10
            replace hq := lf_p1 hq rfl
            refine lv_aload_n hx hb dX5_sum_57 rfl (lv_at hl 1 rfl) ?_
            refine lv_iload_n hx hb dX5_sum_58 rfl (lv_at hl 2 rfl) ?_
            refine k_jvm hP hD hS hA [2, 3, 0, 1] [] rfl rfl rfl 0 0 (Nat.le_of_ble_eq_true rfl) (Nat.le_of_ble_eq_true rfl) (fun hPc hDc => k_runV (As := [.int 1]) (rest := []) C0 hZ hS hA (s_X5_product_a0_1 l dC dI cy sq a_this a_this_text g_this_text x_this_length v3 v4 v5 x_this_allowed a_this_plan x_this_plan_cycle x_this_plan_green x_this_plan_rule x_this_plan_least x_this_plan_away x_this_plan_statements x_this_plan_kinds a_this_plan_calm a_this_plan_pace a_this_plan_trusts x_this_plan_walkers a_this_plan_kindOf a_this_plan_comesAt a_this_plan_comers a_this_plan_names a_this_plan_code J7_a3 J7_c2_16 a_this_plan_spans J7_c0_7 J7_c0_8 hg_this_text (ib_w 0 1600 hx_this_length rfl) (ib_w 0 1600 h6 rfl) (ib_w 0 1600 h7 rfl) (ib_w 0 4 h8 rfl) (ib_w 0 1600 hK48_J7_c2_16 rfl) (fun hq9 => ib_w 0 1599 (h9 hq9) rfl)) mV_X5_222 hPc hDc rfl rfl rfl hl rfl rfl (Nat.le_of_ble_eq_true rfl) ⟨(Nat.le_of_ble_eq_true rfl), (Nat.le_of_ble_eq_true rfl)⟩ ⟨(Nat.le_of_ble_eq_true rfl), (Nat.le_of_ble_eq_true rfl)⟩ dX5_sum_59) (fun u12 H locs hw hP hD hS => ?_)
            obtain ⟨v13, v14, v15, v16, v17, v18, f19⟩ := u12
            try dsimp only at hP hD hw
            replace hP : va_P (dC, dI) vwCl [(wo_5_riiiiirii a_this a_this_text x_this_length v13 v14 v15 x_this_allowed a_this_plan v16 v17), (wi_0_1600_0 a_this_text cy g_this_text), (wo_4_iiiiiiirrrirrrrrir a_this_plan x_this_plan_cycle x_this_plan_green x_this_plan_rule x_this_plan_least x_this_plan_away x_this_plan_statements x_this_plan_kinds a_this_plan_calm a_this_plan_pace a_this_plan_trusts x_this_plan_walkers a_this_plan_kindOf a_this_plan_comesAt a_this_plan_comers a_this_plan_names a_this_plan_code v18 a_this_plan_spans), (wi_0_1600_0 a_this_plan_code cy f19)] H := hP
            replace hD := k_D hP hD
            obtain ⟨h20, h21, h22, h23, h24, h25⟩ := hw
            replace hq := lf_p1 hq h25
            replace hq := lf_p1 hq rfl
            replace hq := lf_p1 hq rfl
            replace hq := lf_p1 hq rfl
            replace hq := lf_p1 hq rfl
            replace hq := lf_p1 hq rfl
            refine lv_aload_n hx hb dX5_sum_62 rfl (lv_at hl 1 rfl) ?_
            refine lv_iload_n hx hb dX5_sum_63 rfl (lv_at hl 0 rfl) ?_
            refine k_jvm hP hD hS hA [0, 2, 3] [false, true] rfl rfl rfl 0 0 (Nat.le_of_ble_eq_true rfl) (Nat.le_of_ble_eq_true rfl) (fun hPc hDc => k_runV (As := [.int J48_s0]) (rest := []) C0 hZ hS hA (s_X5_emit l dC dI cy sq a_this a_this_text x_this_length v13 v14 v15 x_this_allowed a_this_plan x_this_plan_cycle x_this_plan_green x_this_plan_rule x_this_plan_least x_this_plan_away x_this_plan_statements x_this_plan_kinds a_this_plan_calm a_this_plan_pace a_this_plan_trusts x_this_plan_walkers a_this_plan_kindOf a_this_plan_comesAt a_this_plan_comers a_this_plan_names a_this_plan_code f19 v18 a_this_plan_spans v16 v17 J48_s0 (ib_w 0 1600 h23 rfl)) mV_X5_199 hPc hDc rfl rfl rfl hl rfl rfl (Nat.le_of_ble_eq_true rfl) ⟨(Nat.le_of_ble_eq_true rfl), (Nat.le_of_ble_eq_true rfl)⟩ ⟨(Nat.le_of_ble_eq_true rfl), (Nat.le_of_ble_eq_true rfl)⟩ dX5_sum_64) (fun u27 H locs hw hP hD hS => ?_)
            obtain ⟨v28, f29⟩ := u27
            try dsimp only at hP hD hw
            replace hP : va_P (dC, dI) vwCl [(wi_0_1600_0 a_this_text cy g_this_text), (wo_5_riiiiirii a_this a_this_text x_this_length v13 v14 v15 x_this_allowed a_this_plan v16 v17), (wo_4_iiiiiiirrrirrrrrir a_this_plan x_this_plan_cycle x_this_plan_green x_this_plan_rule x_this_plan_least x_this_plan_away x_this_plan_statements x_this_plan_kinds a_this_plan_calm a_this_plan_pace a_this_plan_trusts x_this_plan_walkers a_this_plan_kindOf a_this_plan_comesAt a_this_plan_comers a_this_plan_names a_this_plan_code v28 a_this_plan_spans), (wi_0_1600_0 a_this_plan_code cy f29)] H := hP
            replace hD := k_D hP hD
            obtain ⟨h30, h31⟩ := hw
            replace hq := lf_p1 hq h31
            obtain ⟨z32, ez32⟩ : ∃ y : Int32, y = J7_l2 + 1 := ⟨_, rfl⟩
            refine lv_iinc (v := z32) (lv' := [(2, .int z32), (3, .int J48_s0), (0, .ref a_this), (1, .int 1)]) hx hb dX5_sum_67 hl (k := 3) rfl (by rw [ez32]; rfl) (Nat.le_of_ble_eq_true rfl) rfl (fun ls hl => ?_)
            have h33 := ib_add hK48_J7_l2 (ib_c 1 1 1 rfl) rfl
            rw [← ez32] at h33
            have h34 : ib z32 1 1600 := ib_w 1 1600 h33.1 rfl
            have Ez32 := lf_add h33.2 (lf_rf J7_l2) (lf_lc 1 (1 : Int) rfl)
            refine lv_goto (tgt := 7) hx hb dX5_sum_70 rfl ?_
            exact ih7 v13 v14 v15 v16 v17 v28 f29 z32 H locs ls (ib_w 0 1600 h20 rfl) (ib_w 0 1600 h21 rfl) (ib_w 0 4 h22 rfl) (ib_w 0 1600 h30 rfl) (ib_w 0 1600 h34 rfl) (fun hq9 => ib_w 0 1599 (h24 hq9) rfl) (by rw [← hK7]; rw [lf_u Ez32]; exact hq) (by have := h33.2; have : (1 : Int32).toInt = 1 := rfl; omega) (hP.sub [1, 0, 2, 3] rfl) (hD.sub [1, 0, 2, 3] rfl rfl) hS (lv_sub hl [2, 3, 0] rfl)
        have jn32 : ∀  (H : Heap) (locs : List Loc) (ls : Array Slot), ib J7_l2 0 1599 → ib J7_c0_2 0 1599 → ib J7_c0_3 0 1600 → ib J7_c0_4 3 3 → ib J7_c2_16 0 1600 → (O = F_X5_sum_a0_1_32 (lf_A g_this_text) (Int32.toInt x_this_length) (Int32.toInt x_this_allowed) (Int32.toInt J7_c0_2) (Int32.toInt J7_c0_3) (Int32.toInt J7_c0_4) (Int32.toInt J7_c0_7) (Int32.toInt J7_c0_8) (Int32.toInt J7_c2_16) (lf_A J7_a3) (Int32.toInt J7_l2) K7 ) → va_P (dC, dI) vwCl [(wo_5_riiiiirii a_this a_this_text x_this_length J7_c0_2 J7_c0_3 J7_c0_4 x_this_allowed a_this_plan J7_c0_7 J7_c0_8), (wi_0_1600_0 a_this_text cy g_this_text), (wo_4_iiiiiiirrrirrrrrir a_this_plan x_this_plan_cycle x_this_plan_green x_this_plan_rule x_this_plan_least x_this_plan_away x_this_plan_statements x_this_plan_kinds a_this_plan_calm a_this_plan_pace a_this_plan_trusts x_this_plan_walkers a_this_plan_kindOf a_this_plan_comesAt a_this_plan_comers a_this_plan_names a_this_plan_code J7_c2_16 a_this_plan_spans), (wi_0_1600_0 a_this_plan_code cy J7_a3)] H → va_D A [(wo_5_riiiiirii a_this a_this_text x_this_length J7_c0_2 J7_c0_3 J7_c0_4 x_this_allowed a_this_plan J7_c0_7 J7_c0_8), (wi_0_1600_0 a_this_text cy g_this_text), (wo_4_iiiiiiirrrirrrrrir a_this_plan x_this_plan_cycle x_this_plan_green x_this_plan_rule x_this_plan_least x_this_plan_away x_this_plan_statements x_this_plan_kinds a_this_plan_calm a_this_plan_pace a_this_plan_trusts x_this_plan_walkers a_this_plan_kindOf a_this_plan_comesAt a_this_plan_comers a_this_plan_names a_this_plan_code J7_c2_16 a_this_plan_spans), (wi_0_1600_0 a_this_plan_code cy J7_a3)] → va_S A s.heap H locs → lv_has ls 4 [(0, .ref a_this), (1, .int 1), (2, .int J7_l2)] → W p l e { frames := 28, cells := 0, slots := 0, locals := 677 } s m args below meth c H locs 0 0 Q (F0 m 32 ls []) := by
          as_aux_lemma =>
            intro H locs ls hK32_J7_l2 hK32_J7_c0_2 hK32_J7_c0_3 hK32_J7_c0_4 hK32_J7_c2_16 hq hP hD hS hl
            unfold F_X5_sum_a0_1_32 at hq
            refine lv_aload_n hx hb dX5_sum_32 rfl (lv_at hl 0 rfl) ?_
            refine lv_bipush (v := 43) hx hb dX5_sum_33 rfl ?_
            refine k_jim hP hD hS hA [0, 1] [false, false, true, true] rfl rfl rfl 0 0 (Nat.le_of_ble_eq_true rfl) (Nat.le_of_ble_eq_true rfl) (fun hPc hDc => k_runV (As := [.int 43]) (rest := []) C0 hZ hS hA (s_X5_sees l dC dI cy sq a_this a_this_text g_this_text x_this_length J7_c0_2 J7_c0_3 J7_c0_4 x_this_allowed a_this_plan J7_c0_7 J7_c0_8 43 hg_this_text (ib_w 0 1600 hK32_J7_c0_2 rfl) (ib_w 0 4 hK32_J7_c0_4 rfl) (fun _ => ib_w 0 1599 hK32_J7_c0_2 rfl)) mV_X5_213 hPc hDc rfl rfl rfl hl rfl rfl (Nat.le_of_ble_eq_true rfl) ⟨(Nat.le_of_ble_eq_true rfl), (Nat.le_of_ble_eq_true rfl)⟩ ⟨(Nat.le_of_ble_eq_true rfl), (Nat.le_of_ble_eq_true rfl)⟩ dX5_sum_35) (fun r35 u36 H locs hw hP hD hS => ?_)
            try dsimp only at hP hD hw
            replace hP : va_P (dC, dI) vwCl [(wo_4_iiiiiiirrrirrrrrir a_this_plan x_this_plan_cycle x_this_plan_green x_this_plan_rule x_this_plan_least x_this_plan_away x_this_plan_statements x_this_plan_kinds a_this_plan_calm a_this_plan_pace a_this_plan_trusts x_this_plan_walkers a_this_plan_kindOf a_this_plan_comesAt a_this_plan_comers a_this_plan_names a_this_plan_code J7_c2_16 a_this_plan_spans), (wi_0_1600_0 a_this_plan_code cy J7_a3), (wo_5_riiiiirii a_this a_this_text x_this_length J7_c0_2 J7_c0_3 J7_c0_4 x_this_allowed a_this_plan J7_c0_7 J7_c0_8), (wi_0_1600_0 a_this_text cy g_this_text)] H := hP
            replace hD := k_D hP hD
            obtain ⟨h37, h38, h39, h40, h41⟩ := hw
            have h41 := by have h9 := h41; try simp only [show (43 : Int32).toInt = (43 : Int) from rfl] at h9; exact h9
            replace hq := lf_b1 hq h41
            refine lv_if_eq (tgt := 46) hx hb dX5_sum_38 rfl (fun c42 => ?_) (fun c42 => ?_)
            · replace hq := lf_pos hq (lf_eq (lf_rf r35) (lf_lc 0 (0 : Int) rfl) c42)
              have h43 := ib_eq h37 (ib_c 0 0 0 rfl) c42
              have h44 : ib r35 0 0 := ib_w 0 0 h43.1 rfl
              refine lv_bipush (v := (-21)) hx hb dX5_sum_46 rfl ?_
              exact jn48 (-21) H locs ls (ib_w 0 1599 hK32_J7_l2 rfl) (ib_w 0 1599 hK32_J7_c0_2 rfl) (ib_w 0 1600 hK32_J7_c0_3 rfl) (ib_w 3 3 hK32_J7_c0_4 rfl) (ib_w 0 1600 hK32_J7_c2_16 rfl) (ib_w (-21) (-20) (ib_c (-21) (-21) (-21) rfl) rfl) (by try simp only [show ((-21) : Int32).toInt = (-21 : Int) from rfl]; exact hq) (hP.sub [2, 3, 0, 1] rfl) (hD.sub [2, 3, 0, 1] rfl rfl) hS (lv_sub hl [0, 1, 2] rfl)
            · replace hq := lf_neg hq (lf_ne (lf_rf r35) (lf_lc 0 (0 : Int) rfl) c42)
              have h45 : ib r35 1 1 := ib_w 1 1 (ib_ne_lo 0 h37 rfl c42) rfl
              refine lv_bipush (v := (-20)) hx hb dX5_sum_41 rfl ?_
              refine lv_goto (tgt := 48) hx hb dX5_sum_43 rfl ?_
              exact jn48 (-20) H locs ls (ib_w 0 1599 hK32_J7_l2 rfl) (ib_w 0 1599 hK32_J7_c0_2 rfl) (ib_w 0 1600 hK32_J7_c0_3 rfl) (ib_w 3 3 hK32_J7_c0_4 rfl) (ib_w 0 1600 hK32_J7_c2_16 rfl) (ib_w (-21) (-20) (ib_c (-20) (-20) (-20) rfl) rfl) (by try simp only [show ((-20) : Int32).toInt = (-20 : Int) from rfl]; exact hq) (hP.sub [2, 3, 0, 1] rfl) (hD.sub [2, 3, 0, 1] rfl rfl) hS (lv_sub hl [0, 1, 2] rfl)
        refine lv_iload_n hx hb dX5_sum_7 rfl (lv_at hl 2 rfl) ?_
        refine lv_sipush (v := 1600) hx hb dX5_sum_8 rfl ?_
        refine lv_icmp_ge (tgt := 73) hx hb dX5_sum_11 rfl (fun c46 => ?_) (fun c46 => ?_)
        · replace hq := lf_pos hq (lf_le (lf_lc 1600 (1600 : Int) rfl) (lf_rf J7_l2) c46)
          have h47 := ib_le (ib_c 1600 1600 1600 rfl) hJ7_l2 c46
          have h48 : ib J7_l2 1600 1600 := ib_w 1600 1600 h47.2 rfl
          subst hQ; exact k_vret hx hb hr hlk ((J7_c0_2, J7_c0_3, J7_c0_4, J7_c0_7, J7_c0_8, J7_c2_16, J7_a3)) hS ⟨ib_w 0 1600 hJ7_c0_2 rfl, ib_w 0 1600 hJ7_c0_3 rfl, ib_w 0 4 hJ7_c0_4 rfl, ib_w 0 1600 hJ7_c2_16 rfl, fun hq9 => ib_w 0 1599 (hJ7_ic0_0 hq9) rfl, (hO.symm.trans (by exact hq))⟩ hP hD (Nat.le_of_ble_eq_true rfl) (Nat.le_of_ble_eq_true rfl) dX5_sum_73
        · as_aux_lemma =>
            replace hq := lf_neg hq (lf_nle (lf_lc 1600 (1600 : Int) rfl) (lf_rf J7_l2) c46)
            have h49 := ib_nle (ib_c 1600 1600 1600 rfl) hJ7_l2 c46
            have h50 : ib J7_l2 0 1599 := ib_w 0 1599 h49.2 rfl
            refine lv_aload_n hx hb dX5_sum_14 rfl (lv_at hl 0 rfl) ?_
            refine lv_bipush (v := 43) hx hb dX5_sum_15 rfl ?_
            refine k_jim hP hD hS hA [0, 1] [false, false, true, true] rfl rfl rfl 0 0 (Nat.le_of_ble_eq_true rfl) (Nat.le_of_ble_eq_true rfl) (fun hPc hDc => k_runV (As := [.int 43]) (rest := []) C0 hZ hS hA (s_X5_sees l dC dI cy sq a_this a_this_text g_this_text x_this_length J7_c0_2 J7_c0_3 J7_c0_4 x_this_allowed a_this_plan J7_c0_7 J7_c0_8 43 hg_this_text (ib_w 0 1600 hJ7_c0_2 rfl) (ib_w 0 4 hJ7_c0_4 rfl) (fun hq9 => ib_w 0 1599 (hJ7_ic0_0 hq9) rfl)) mV_X5_213 hPc hDc rfl rfl rfl hl rfl rfl (Nat.le_of_ble_eq_true rfl) ⟨(Nat.le_of_ble_eq_true rfl), (Nat.le_of_ble_eq_true rfl)⟩ ⟨(Nat.le_of_ble_eq_true rfl), (Nat.le_of_ble_eq_true rfl)⟩ dX5_sum_17) (fun r51 u52 H locs hw hP hD hS => ?_)
            try dsimp only at hP hD hw
            replace hP : va_P (dC, dI) vwCl [(wo_4_iiiiiiirrrirrrrrir a_this_plan x_this_plan_cycle x_this_plan_green x_this_plan_rule x_this_plan_least x_this_plan_away x_this_plan_statements x_this_plan_kinds a_this_plan_calm a_this_plan_pace a_this_plan_trusts x_this_plan_walkers a_this_plan_kindOf a_this_plan_comesAt a_this_plan_comers a_this_plan_names a_this_plan_code J7_c2_16 a_this_plan_spans), (wi_0_1600_0 a_this_plan_code cy J7_a3), (wo_5_riiiiirii a_this a_this_text x_this_length J7_c0_2 J7_c0_3 J7_c0_4 x_this_allowed a_this_plan J7_c0_7 J7_c0_8), (wi_0_1600_0 a_this_text cy g_this_text)] H := hP
            replace hD := k_D hP hD
            obtain ⟨h53, h54, h55, h56, h57⟩ := hw
            have h57 := by have h9 := h57; try simp only [show (43 : Int32).toInt = (43 : Int) from rfl] at h9; exact h9
            replace hq := lf_b1 hq h57
            refine lv_if_ne (tgt := 32) hx hb dX5_sum_20 rfl (fun c58 => ?_) (fun c58 => ?_)
            · replace hq := lf_neg hq (lf_ne (lf_rf r51) (lf_lc 0 (0 : Int) rfl) c58)
              have h59 : ib r51 1 1 := ib_w 1 1 (ib_ne_lo 0 h53 rfl c58) rfl
              have h60 : ib J7_c0_2 0 1599 := ib_w 0 1599 (ib_two hJ7_c0_2 (h54 c58)) rfl
              have h61 : ib J7_c0_4 3 3 := ib_w 3 3 (ib_two hJ7_c0_4 (h55 c58)) rfl
              exact jn32  H locs ls (ib_w 0 1599 h50 rfl) (ib_w 0 1599 h60 rfl) (ib_w 0 1600 hJ7_c0_3 rfl) (ib_w 3 3 h61 rfl) (ib_w 0 1600 hJ7_c2_16 rfl) (by exact hq) (hP.sub [2, 3, 0, 1] rfl) (hD.sub [2, 3, 0, 1] rfl rfl) hS (lv_sub hl [0, 1, 2] rfl)
            · as_aux_lemma =>
                replace hq := lf_pos hq (lf_eq (lf_rf r51) (lf_lc 0 (0 : Int) rfl) c58)
                have h62 := ib_eq h53 (ib_c 0 0 0 rfl) c58
                have h63 : ib r51 0 0 := ib_w 0 0 h62.1 rfl
                refine lv_aload_n hx hb dX5_sum_23 rfl (lv_at hl 0 rfl) ?_
                refine lv_bipush (v := 45) hx hb dX5_sum_24 rfl ?_
                refine k_jim hP hD hS hA [2, 3] [true, true] rfl rfl rfl 0 0 (Nat.le_of_ble_eq_true rfl) (Nat.le_of_ble_eq_true rfl) (fun hPc hDc => k_runV (As := [.int 45]) (rest := []) C0 hZ hS hA (s_X5_sees l dC dI cy sq a_this a_this_text g_this_text x_this_length J7_c0_2 J7_c0_3 J7_c0_4 x_this_allowed a_this_plan J7_c0_7 J7_c0_8 45 hg_this_text (ib_w 0 1600 hJ7_c0_2 rfl) (ib_w 0 4 hJ7_c0_4 rfl) (fun hq9 => ib_w 0 1599 (hJ7_ic0_0 hq9) rfl)) mV_X5_213 hPc hDc rfl rfl rfl hl rfl rfl (Nat.le_of_ble_eq_true rfl) ⟨(Nat.le_of_ble_eq_true rfl), (Nat.le_of_ble_eq_true rfl)⟩ ⟨(Nat.le_of_ble_eq_true rfl), (Nat.le_of_ble_eq_true rfl)⟩ dX5_sum_26) (fun r64 u65 H locs hw hP hD hS => ?_)
                try dsimp only at hP hD hw
                replace hP : va_P (dC, dI) vwCl [(wo_4_iiiiiiirrrirrrrrir a_this_plan x_this_plan_cycle x_this_plan_green x_this_plan_rule x_this_plan_least x_this_plan_away x_this_plan_statements x_this_plan_kinds a_this_plan_calm a_this_plan_pace a_this_plan_trusts x_this_plan_walkers a_this_plan_kindOf a_this_plan_comesAt a_this_plan_comers a_this_plan_names a_this_plan_code J7_c2_16 a_this_plan_spans), (wi_0_1600_0 a_this_plan_code cy J7_a3), (wo_5_riiiiirii a_this a_this_text x_this_length J7_c0_2 J7_c0_3 J7_c0_4 x_this_allowed a_this_plan J7_c0_7 J7_c0_8), (wi_0_1600_0 a_this_text cy g_this_text)] H := hP
                replace hD := k_D hP hD
                obtain ⟨h66, h67, h68, h69, h70⟩ := hw
                have h70 := by have h9 := h70; try simp only [show (45 : Int32).toInt = (45 : Int) from rfl] at h9; exact h9
                replace hq := lf_b1 hq h70
                refine lv_if_eq (tgt := 73) hx hb dX5_sum_29 rfl (fun c71 => ?_) (fun c71 => ?_)
                · replace hq := lf_pos hq (lf_eq (lf_rf r64) (lf_lc 0 (0 : Int) rfl) c71)
                  have h72 := ib_eq h66 (ib_c 0 0 0 rfl) c71
                  have h73 : ib r64 0 0 := ib_w 0 0 h72.1 rfl
                  subst hQ; exact k_vret hx hb hr hlk ((J7_c0_2, J7_c0_3, J7_c0_4, J7_c0_7, J7_c0_8, J7_c2_16, J7_a3)) hS ⟨ib_w 0 1600 hJ7_c0_2 rfl, ib_w 0 1600 hJ7_c0_3 rfl, ib_w 0 4 hJ7_c0_4 rfl, ib_w 0 1600 hJ7_c2_16 rfl, fun hq9 => ib_w 0 1599 (hJ7_ic0_0 hq9) rfl, (hO.symm.trans (by exact hq))⟩ (hP.sub [2, 3, 0, 1] rfl) (hD.sub [2, 3, 0, 1] rfl rfl) (Nat.le_of_ble_eq_true rfl) (Nat.le_of_ble_eq_true rfl) dX5_sum_73
                · replace hq := lf_neg hq (lf_ne (lf_rf r64) (lf_lc 0 (0 : Int) rfl) c71)
                  have h74 : ib r64 1 1 := ib_w 1 1 (ib_ne_lo 0 h66 rfl c71) rfl
                  have h75 : ib J7_c0_2 0 1599 := ib_w 0 1599 (ib_two hJ7_c0_2 (h67 c71)) rfl
                  have h76 : ib J7_c0_4 3 3 := ib_w 3 3 (ib_two hJ7_c0_4 (h68 c71)) rfl
                  exact jn32  H locs ls (ib_w 0 1599 h50 rfl) (ib_w 0 1599 h75 rfl) (ib_w 0 1600 hJ7_c0_3 rfl) (ib_w 3 3 h76 rfl) (ib_w 0 1600 hJ7_c2_16 rfl) (by exact hq) (hP.sub [2, 3, 0, 1] rfl) (hD.sub [2, 3, 0, 1] rfl rfl) hS (lv_sub hl [0, 1, 2] rfl)
  refine lv_aload_n hx hb dX5_sum_0 rfl (lv_at hl 0 rfl) ?_
  refine lv_iload_n hx hb dX5_sum_1 rfl (lv_at hl 1 rfl) ?_
  refine k_jvm hP hD hS hA [0, 1, 2, 3] [] rfl rfl rfl 0 0 (Nat.le_of_ble_eq_true rfl) (Nat.le_of_ble_eq_true rfl) (fun hPc hDc => k_runV (As := [.int 1]) (rest := []) C0 hZ hS hA (s_X5_product_a0_1 l dC dI cy sq a_this a_this_text g_this_text x_this_length x_this_at x_this_behind x_this_sort x_this_allowed a_this_plan x_this_plan_cycle x_this_plan_green x_this_plan_rule x_this_plan_least x_this_plan_away x_this_plan_statements x_this_plan_kinds a_this_plan_calm a_this_plan_pace a_this_plan_trusts x_this_plan_walkers a_this_plan_kindOf a_this_plan_comesAt a_this_plan_comers a_this_plan_names a_this_plan_code g_this_plan_code x_this_plan_size a_this_plan_spans x_this_fault x_this_place hg_this_text (ib_w 0 1600 hx_this_length rfl) (ib_w 0 1600 hx_this_at rfl) (ib_w 0 1600 hx_this_behind rfl) (ib_w 0 4 hx_this_sort rfl) (ib_w 0 1600 hx_this_plan_size rfl) (fun hq9 => ib_w 0 1599 (hc0_this hq9) rfl)) mV_X5_222 hPc hDc rfl rfl rfl hl rfl rfl (Nat.le_of_ble_eq_true rfl) ⟨(Nat.le_of_ble_eq_true rfl), (Nat.le_of_ble_eq_true rfl)⟩ ⟨(Nat.le_of_ble_eq_true rfl), (Nat.le_of_ble_eq_true rfl)⟩ dX5_sum_2) (fun u78 H locs hw hP hD hS => ?_)
  obtain ⟨v79, v80, v81, v82, v83, v84, f85⟩ := u78
  try dsimp only at hP hD hw
  replace hP : va_P (dC, dI) vwCl [(wo_5_riiiiirii a_this a_this_text x_this_length v79 v80 v81 x_this_allowed a_this_plan v82 v83), (wi_0_1600_0 a_this_text cy g_this_text), (wo_4_iiiiiiirrrirrrrrir a_this_plan x_this_plan_cycle x_this_plan_green x_this_plan_rule x_this_plan_least x_this_plan_away x_this_plan_statements x_this_plan_kinds a_this_plan_calm a_this_plan_pace a_this_plan_trusts x_this_plan_walkers a_this_plan_kindOf a_this_plan_comesAt a_this_plan_comers a_this_plan_names a_this_plan_code v84 a_this_plan_spans), (wi_0_1600_0 a_this_plan_code cy f85)] H := hP
  replace hD := k_D hP hD
  obtain ⟨h86, h87, h88, h89, h90, h91⟩ := hw
  replace hq := lf_p1 hq h91
  replace hq := lf_p1 hq rfl
  replace hq := lf_p1 hq rfl
  replace hq := lf_p1 hq rfl
  replace hq := lf_p1 hq rfl
  replace hq := lf_p1 hq rfl
  refine lv_iconst (v := 0) hx hb dX5_sum_5 rfl ?_
  refine lv_istore_n (lv' := [(2, .int 0), (0, .ref a_this), (1, .int 1)]) hx hb dX5_sum_6 rfl hl (Nat.le_of_ble_eq_true rfl) rfl (fun ls hl => ?_)
  exact jn7 1602 v79 v80 v81 v82 v83 v84 f85 0 H locs ls (ib_w 0 1600 h86 rfl) (ib_w 0 1600 h87 rfl) (ib_w 0 4 h88 rfl) (ib_w 0 1600 h89 rfl) (ib_w 0 1600 (ib_c 0 0 0 rfl) rfl) (fun hq9 => ib_w 0 1599 (h90 hq9) rfl) (by try simp only [show (0 : Int32).toInt = (0 : Int) from rfl]; exact hq) (by have := (ib_c 0 0 0 rfl); unfold ib at this; omega) hP hD hS (lv_sub hl [1, 2, 0] rfl)
set_option maxHeartbeats 4000000 in
set_option maxRecDepth 100000 in
theorem s_X5_pair_a0_0 (l : Launch) (dC : Nat → ClassId) (dI : Nat → Nat → Nat) (cy : Nat → ClassId) (sq : Nat → Nat) (a_this : Nat) (a_this_text : Nat) (g_this_text : Nat → Int32) (x_this_length : Int32) (x_this_at : Int32) (x_this_behind : Int32) (x_this_sort : Int32) (x_this_allowed : Int32) (a_this_plan : Nat) (x_this_plan_cycle : Int32) (x_this_plan_green : Int32) (x_this_plan_rule : Int32) (x_this_plan_least : Int32) (x_this_plan_away : Int32) (x_this_plan_statements : Int32) (x_this_plan_kinds : Int32) (a_this_plan_calm : Nat) (a_this_plan_pace : Nat) (a_this_plan_trusts : Nat) (x_this_plan_walkers : Int32) (a_this_plan_kindOf : Nat) (a_this_plan_comesAt : Nat) (a_this_plan_comers : Nat) (a_this_plan_names : Nat) (a_this_plan_code : Nat) (g_this_plan_code : Nat → Int32) (x_this_plan_size : Int32) (a_this_plan_spans : Nat) (x_this_fault : Int32) (x_this_place : Int32) (p1 : Int32) (hg_this_text : ia g_this_text 1600 0 255) (hx_this_length : ib x_this_length 0 1600) (hx_this_at : ib x_this_at 0 1600) (hx_this_behind : ib x_this_behind 0 1600) (hx_this_sort : ib x_this_sort 0 4) (hx_this_plan_size : ib x_this_plan_size 0 1600) (hc0_this : ¬ x_this_sort = 0 → ib x_this_at 0 1599) : k_Met l yX5_pair cX5_pair 3 none { frames := 29, cells := 0, slots := 0, locals := 700 } dC dI cy sq [.ref a_this, .int 0, .int p1] [(wo_5_riiiiirii a_this a_this_text x_this_length x_this_at x_this_behind x_this_sort x_this_allowed a_this_plan x_this_fault x_this_place), (wi_0_1600_0 a_this_text cy g_this_text), (wo_4_iiiiiiirrrirrrrrir a_this_plan x_this_plan_cycle x_this_plan_green x_this_plan_rule x_this_plan_least x_this_plan_away x_this_plan_statements x_this_plan_kinds a_this_plan_calm a_this_plan_pace a_this_plan_trusts x_this_plan_walkers a_this_plan_kindOf a_this_plan_comesAt a_this_plan_comers a_this_plan_names a_this_plan_code x_this_plan_size a_this_plan_spans), (wi_0_1600_0 a_this_plan_code cy g_this_plan_code)] (k_Qv dC dI (fun (u : Int32 × Int32 × Int32 × Int32 × Int32 × Int32 × (Nat → Int32)) => match u with | (n0, n1, n2, n3, n4, n5, n6) => ib n0 0 1600 ∧ ib n1 0 1600 ∧ ib n2 0 4 ∧ ib n5 0 1600 ∧ (¬ n2 = 0 → ib n0 0 1599) ∧ (F_X5_pair_a0_0 (lf_A g_this_text) (Int32.toInt x_this_length) (Int32.toInt x_this_at) (Int32.toInt x_this_behind) (Int32.toInt x_this_sort) (Int32.toInt x_this_allowed) (lf_A g_this_plan_code) (Int32.toInt x_this_plan_size) (Int32.toInt x_this_fault) (Int32.toInt x_this_place) (Int32.toInt p1) = ((Int32.toInt n0), (Int32.toInt n1), (Int32.toInt n2), (Int32.toInt n3), (Int32.toInt n4), (Int32.toInt n5), (lf_A n6)))) (fun u : Int32 × Int32 × Int32 × Int32 × Int32 × Int32 × (Nat → Int32) => match u with | (n0, n1, n2, n3, n4, n5, n6) => [(wo_5_riiiiirii a_this a_this_text x_this_length n0 n1 n2 x_this_allowed a_this_plan n3 n4), (wi_0_1600_0 a_this_text cy g_this_text), (wo_4_iiiiiiirrrirrrrrir a_this_plan x_this_plan_cycle x_this_plan_green x_this_plan_rule x_this_plan_least x_this_plan_away x_this_plan_statements x_this_plan_kinds a_this_plan_calm a_this_plan_pace a_this_plan_trusts x_this_plan_walkers a_this_plan_kindOf a_this_plan_comesAt a_this_plan_comers a_this_plan_names a_this_plan_code n5 a_this_plan_spans), (wi_0_1600_0 a_this_plan_code cy n6)])) := by
  refine k_ofW2 (by decide +kernel) (Nat.le_of_ble_eq_true rfl) ?_
  intro p e s m below meth c A ls H locs args Q hQ C0 hZ hr hlk hin hP hD hA hS hl
  have C0 : k_cx p s m args c cX5_pair 3 RX5 dC dI cy sq := C0
  have hx := C0.1
  have hb := C0.2.1
  have hl : lv_has ls 3 [(0, .ref a_this), (1, .int 0), (2, .int p1)] := hl
  obtain ⟨O, hO⟩ : ∃ o, o = F_X5_pair_a0_0 (lf_A g_this_text) (Int32.toInt x_this_length) (Int32.toInt x_this_at) (Int32.toInt x_this_behind) (Int32.toInt x_this_sort) (Int32.toInt x_this_allowed) (lf_A g_this_plan_code) (Int32.toInt x_this_plan_size) (Int32.toInt x_this_fault) (Int32.toInt x_this_place) (Int32.toInt p1) := ⟨_, rfl⟩
  have hq := hO
  unfold F_X5_pair_a0_0 at hq
  refine lv_aload_n hx hb dX5_pair_0 rfl (lv_at hl 0 rfl) ?_
  refine lv_bipush (v := 40) hx hb dX5_pair_1 rfl ?_
  refine k_jim hP hD hS hA [0, 1] [false, false, true, true] rfl rfl rfl 0 0 (Nat.le_of_ble_eq_true rfl) (Nat.le_of_ble_eq_true rfl) (fun hPc hDc => k_runV (As := [.int 40]) (rest := []) C0 hZ hS hA (s_X5_sees l dC dI cy sq a_this a_this_text g_this_text x_this_length x_this_at x_this_behind x_this_sort x_this_allowed a_this_plan x_this_fault x_this_place 40 hg_this_text (ib_w 0 1600 hx_this_at rfl) (ib_w 0 4 hx_this_sort rfl) (fun hq9 => ib_w 0 1599 (hc0_this hq9) rfl)) mV_X5_213 hPc hDc rfl rfl rfl hl rfl rfl (Nat.le_of_ble_eq_true rfl) ⟨(Nat.le_of_ble_eq_true rfl), (Nat.le_of_ble_eq_true rfl)⟩ ⟨(Nat.le_of_ble_eq_true rfl), (Nat.le_of_ble_eq_true rfl)⟩ dX5_pair_3) (fun r1 u2 H locs hw hP hD hS => ?_)
  try dsimp only at hP hD hw
  replace hP : va_P (dC, dI) vwCl [(wo_4_iiiiiiirrrirrrrrir a_this_plan x_this_plan_cycle x_this_plan_green x_this_plan_rule x_this_plan_least x_this_plan_away x_this_plan_statements x_this_plan_kinds a_this_plan_calm a_this_plan_pace a_this_plan_trusts x_this_plan_walkers a_this_plan_kindOf a_this_plan_comesAt a_this_plan_comers a_this_plan_names a_this_plan_code x_this_plan_size a_this_plan_spans), (wi_0_1600_0 a_this_plan_code cy g_this_plan_code), (wo_5_riiiiirii a_this a_this_text x_this_length x_this_at x_this_behind x_this_sort x_this_allowed a_this_plan x_this_fault x_this_place), (wi_0_1600_0 a_this_text cy g_this_text)] H := hP
  replace hD := k_D hP hD
  obtain ⟨h3, h4, h5, h6, h7⟩ := hw
  have h7 := by have h9 := h7; try simp only [show (40 : Int32).toInt = (40 : Int) from rfl] at h9; exact h9
  replace hq := lf_b1 hq h7
  refine lv_if_ne (tgt := 21) hx hb dX5_pair_6 rfl (fun c8 => ?_) (fun c8 => ?_)
  · as_aux_lemma =>
      replace hq := lf_neg hq (lf_ne (lf_rf r1) (lf_lc 0 (0 : Int) rfl) c8)
      have h9 : ib r1 1 1 := ib_w 1 1 (ib_ne_lo 0 h3 rfl c8) rfl
      have h10 : ib x_this_at 0 1599 := ib_w 0 1599 (ib_two hx_this_at (h4 c8)) rfl
      have h11 : ib x_this_sort 3 3 := ib_w 3 3 (ib_two hx_this_sort (h5 c8)) rfl
      refine lv_aload_n hx hb dX5_pair_21 rfl (lv_at hl 0 rfl) ?_
      refine lv_iload_n hx hb dX5_pair_22 rfl (lv_at hl 1 rfl) ?_
      refine k_jim hP hD hS hA [2, 3] [true, true] rfl rfl rfl 0 0 (Nat.le_of_ble_eq_true rfl) (Nat.le_of_ble_eq_true rfl) (fun hPc hDc => k_runV (As := [.int 0]) (rest := []) C0 hZ hS hA (s_X5_enters_a0_0 l dC dI cy sq a_this a_this_text g_this_text x_this_length x_this_at x_this_behind x_this_sort x_this_allowed a_this_plan x_this_fault x_this_place hg_this_text (ib_w 0 1600 hx_this_length rfl) (ib_w 0 1600 hx_this_behind rfl)) mV_X5_209 hPc hDc rfl rfl rfl hl rfl rfl (Nat.le_of_ble_eq_true rfl) ⟨(Nat.le_of_ble_eq_true rfl), (Nat.le_of_ble_eq_true rfl)⟩ ⟨(Nat.le_of_ble_eq_true rfl), (Nat.le_of_ble_eq_true rfl)⟩ dX5_pair_23) (fun r12 u13 H locs hw hP hD hS => ?_)
      obtain ⟨v14, v15, v16⟩ := u13
      try dsimp only at hP hD hw
      replace hP : va_P (dC, dI) vwCl [(wo_4_iiiiiiirrrirrrrrir a_this_plan x_this_plan_cycle x_this_plan_green x_this_plan_rule x_this_plan_least x_this_plan_away x_this_plan_statements x_this_plan_kinds a_this_plan_calm a_this_plan_pace a_this_plan_trusts x_this_plan_walkers a_this_plan_kindOf a_this_plan_comesAt a_this_plan_comers a_this_plan_names a_this_plan_code x_this_plan_size a_this_plan_spans), (wi_0_1600_0 a_this_plan_code cy g_this_plan_code), (wo_5_riiiiirii a_this a_this_text x_this_length v14 v15 v16 x_this_allowed a_this_plan x_this_fault x_this_place), (wi_0_1600_0 a_this_text cy g_this_text)] H := hP
      replace hD := k_D hP hD
      obtain ⟨h17, h18, h19, h20, h21, h22⟩ := hw
      replace hq := lf_p1 hq h22
      replace hq := lf_p1 hq rfl
      replace hq := lf_p1 hq rfl
      refine lv_if_eq (tgt := 60) hx hb dX5_pair_26 rfl (fun c23 => ?_) (fun c23 => ?_)
      · skip
        have h24 := ib_eq h17 (ib_c 0 0 0 rfl) c23
        exact ib_no (ib_w 1 0 h24.1 rfl) rfl
      · as_aux_lemma =>
          skip
          refine lv_aload_n hx hb dX5_pair_29 rfl (lv_at hl 0 rfl) ?_
          refine lv_iload_n hx hb dX5_pair_30 rfl (lv_at hl 1 rfl) ?_
          refine lv_iconst (v := 1) hx hb dX5_pair_31 rfl ?_
          refine lv_iadd hx hb dX5_pair_32 ?_
          refine k_topi (y := 1) (by decide) ?_
          refine k_jvm hP hD hS hA [2, 3, 0, 1] [] rfl rfl rfl 0 0 (Nat.le_of_ble_eq_true rfl) (Nat.le_of_ble_eq_true rfl) (fun hPc hDc => k_runV (As := [.int 1]) (rest := []) C0 hZ hS hA (s_X5_sum_a0_1 l dC dI cy sq a_this a_this_text g_this_text x_this_length v14 v15 v16 x_this_allowed a_this_plan x_this_plan_cycle x_this_plan_green x_this_plan_rule x_this_plan_least x_this_plan_away x_this_plan_statements x_this_plan_kinds a_this_plan_calm a_this_plan_pace a_this_plan_trusts x_this_plan_walkers a_this_plan_kindOf a_this_plan_comesAt a_this_plan_comers a_this_plan_names a_this_plan_code g_this_plan_code x_this_plan_size a_this_plan_spans x_this_fault x_this_place hg_this_text (ib_w 0 1600 hx_this_length rfl) (ib_w 0 1600 h18 rfl) (ib_w 0 1600 h19 rfl) (ib_w 0 4 h20 rfl) (ib_w 0 1600 hx_this_plan_size rfl) (fun hq9 => ib_w 0 1599 (h21 hq9) rfl)) mV_X5_93 hPc hDc rfl rfl rfl hl rfl rfl (Nat.le_of_ble_eq_true rfl) ⟨(Nat.le_of_ble_eq_true rfl), (Nat.le_of_ble_eq_true rfl)⟩ ⟨(Nat.le_of_ble_eq_true rfl), (Nat.le_of_ble_eq_true rfl)⟩ dX5_pair_33) (fun u26 H locs hw hP hD hS => ?_)
          obtain ⟨v27, v28, v29, v30, v31, v32, f33⟩ := u26
          try dsimp only at hP hD hw
          replace hP : va_P (dC, dI) vwCl [(wo_5_riiiiirii a_this a_this_text x_this_length v27 v28 v29 x_this_allowed a_this_plan v30 v31), (wi_0_1600_0 a_this_text cy g_this_text), (wo_4_iiiiiiirrrirrrrrir a_this_plan x_this_plan_cycle x_this_plan_green x_this_plan_rule x_this_plan_least x_this_plan_away x_this_plan_statements x_this_plan_kinds a_this_plan_calm a_this_plan_pace a_this_plan_trusts x_this_plan_walkers a_this_plan_kindOf a_this_plan_comesAt a_this_plan_comers a_this_plan_names a_this_plan_code v32 a_this_plan_spans), (wi_0_1600_0 a_this_plan_code cy f33)] H := hP
          replace hD := k_D hP hD
          obtain ⟨h34, h35, h36, h37, h38, h39⟩ := hw
          replace hq := lf_p1 hq h39
          replace hq := lf_p1 hq rfl
          replace hq := lf_p1 hq rfl
          replace hq := lf_p1 hq rfl
          replace hq := lf_p1 hq rfl
          replace hq := lf_p1 hq rfl
          refine lv_aload_n hx hb dX5_pair_36 rfl (lv_at hl 0 rfl) ?_
          refine lv_bipush (v := 44) hx hb dX5_pair_37 rfl ?_
          refine k_jvm hP hD hS hA [0, 1] [false, false, true, true] rfl rfl rfl 0 0 (Nat.le_of_ble_eq_true rfl) (Nat.le_of_ble_eq_true rfl) (fun hPc hDc => k_runV (As := [.int 44]) (rest := []) C0 hZ hS hA (s_X5_need l dC dI cy sq a_this a_this_text g_this_text x_this_length v27 v28 v29 x_this_allowed a_this_plan v30 v31 44 hg_this_text (ib_w 0 1600 hx_this_length rfl) (ib_w 0 1600 h34 rfl) (ib_w 0 1600 h35 rfl) (ib_w 0 4 h36 rfl) (fun hq9 => ib_w 0 1599 (h38 hq9) rfl)) mV_X5_48 hPc hDc rfl rfl rfl hl rfl rfl (Nat.le_of_ble_eq_true rfl) ⟨(Nat.le_of_ble_eq_true rfl), (Nat.le_of_ble_eq_true rfl)⟩ ⟨(Nat.le_of_ble_eq_true rfl), (Nat.le_of_ble_eq_true rfl)⟩ dX5_pair_39) (fun u41 H locs hw hP hD hS => ?_)
          obtain ⟨v42, v43, v44, v45, v46⟩ := u41
          try dsimp only at hP hD hw
          replace hP : va_P (dC, dI) vwCl [(wo_4_iiiiiiirrrirrrrrir a_this_plan x_this_plan_cycle x_this_plan_green x_this_plan_rule x_this_plan_least x_this_plan_away x_this_plan_statements x_this_plan_kinds a_this_plan_calm a_this_plan_pace a_this_plan_trusts x_this_plan_walkers a_this_plan_kindOf a_this_plan_comesAt a_this_plan_comers a_this_plan_names a_this_plan_code v32 a_this_plan_spans), (wi_0_1600_0 a_this_plan_code cy f33), (wo_5_riiiiirii a_this a_this_text x_this_length v42 v43 v44 x_this_allowed a_this_plan v45 v46), (wi_0_1600_0 a_this_text cy g_this_text)] H := hP
          replace hD := k_D hP hD
          obtain ⟨h47, h48, h49, h50, h51⟩ := hw
          have h51 := by have h9 := h51; try simp only [show (44 : Int32).toInt = (44 : Int) from rfl] at h9; exact h9
          replace hq := lf_p1 hq h51
          replace hq := lf_p1 hq rfl
          replace hq := lf_p1 hq rfl
          as_aux_lemma =>
            replace hq := lf_p1 hq rfl
            refine lv_aload_n hx hb dX5_pair_42 rfl (lv_at hl 0 rfl) ?_
            refine lv_iload_n hx hb dX5_pair_43 rfl (lv_at hl 1 rfl) ?_
            refine lv_iconst (v := 1) hx hb dX5_pair_44 rfl ?_
            refine lv_iadd hx hb dX5_pair_45 ?_
            refine k_topi (y := 1) (by decide) ?_
            refine k_jvm hP hD hS hA [2, 3, 0, 1] [] rfl rfl rfl 0 0 (Nat.le_of_ble_eq_true rfl) (Nat.le_of_ble_eq_true rfl) (fun hPc hDc => k_runV (As := [.int 1]) (rest := []) C0 hZ hS hA (s_X5_sum_a0_1 l dC dI cy sq a_this a_this_text g_this_text x_this_length v42 v43 v44 x_this_allowed a_this_plan x_this_plan_cycle x_this_plan_green x_this_plan_rule x_this_plan_least x_this_plan_away x_this_plan_statements x_this_plan_kinds a_this_plan_calm a_this_plan_pace a_this_plan_trusts x_this_plan_walkers a_this_plan_kindOf a_this_plan_comesAt a_this_plan_comers a_this_plan_names a_this_plan_code f33 v32 a_this_plan_spans v45 v46 hg_this_text (ib_w 0 1600 hx_this_length rfl) (ib_w 0 1600 h47 rfl) (ib_w 0 1600 h48 rfl) (ib_w 0 4 h49 rfl) (ib_w 0 1600 h37 rfl) (fun hq9 => ib_w 0 1599 (h50 hq9) rfl)) mV_X5_93 hPc hDc rfl rfl rfl hl rfl rfl (Nat.le_of_ble_eq_true rfl) ⟨(Nat.le_of_ble_eq_true rfl), (Nat.le_of_ble_eq_true rfl)⟩ ⟨(Nat.le_of_ble_eq_true rfl), (Nat.le_of_ble_eq_true rfl)⟩ dX5_pair_46) (fun u53 H locs hw hP hD hS => ?_)
            obtain ⟨v54, v55, v56, v57, v58, v59, f60⟩ := u53
            try dsimp only at hP hD hw
            replace hP : va_P (dC, dI) vwCl [(wo_5_riiiiirii a_this a_this_text x_this_length v54 v55 v56 x_this_allowed a_this_plan v57 v58), (wi_0_1600_0 a_this_text cy g_this_text), (wo_4_iiiiiiirrrirrrrrir a_this_plan x_this_plan_cycle x_this_plan_green x_this_plan_rule x_this_plan_least x_this_plan_away x_this_plan_statements x_this_plan_kinds a_this_plan_calm a_this_plan_pace a_this_plan_trusts x_this_plan_walkers a_this_plan_kindOf a_this_plan_comesAt a_this_plan_comers a_this_plan_names a_this_plan_code v59 a_this_plan_spans), (wi_0_1600_0 a_this_plan_code cy f60)] H := hP
            replace hD := k_D hP hD
            obtain ⟨h61, h62, h63, h64, h65, h66⟩ := hw
            replace hq := lf_p1 hq h66
            replace hq := lf_p1 hq rfl
            replace hq := lf_p1 hq rfl
            replace hq := lf_p1 hq rfl
            replace hq := lf_p1 hq rfl
            replace hq := lf_p1 hq rfl
            refine lv_aload_n hx hb dX5_pair_49 rfl (lv_at hl 0 rfl) ?_
            refine lv_bipush (v := 41) hx hb dX5_pair_50 rfl ?_
            refine k_jvm hP hD hS hA [0, 1] [false, false, true, true] rfl rfl rfl 0 0 (Nat.le_of_ble_eq_true rfl) (Nat.le_of_ble_eq_true rfl) (fun hPc hDc => k_runV (As := [.int 41]) (rest := []) C0 hZ hS hA (s_X5_need l dC dI cy sq a_this a_this_text g_this_text x_this_length v54 v55 v56 x_this_allowed a_this_plan v57 v58 41 hg_this_text (ib_w 0 1600 hx_this_length rfl) (ib_w 0 1600 h61 rfl) (ib_w 0 1600 h62 rfl) (ib_w 0 4 h63 rfl) (fun hq9 => ib_w 0 1599 (h65 hq9) rfl)) mV_X5_48 hPc hDc rfl rfl rfl hl rfl rfl (Nat.le_of_ble_eq_true rfl) ⟨(Nat.le_of_ble_eq_true rfl), (Nat.le_of_ble_eq_true rfl)⟩ ⟨(Nat.le_of_ble_eq_true rfl), (Nat.le_of_ble_eq_true rfl)⟩ dX5_pair_52) (fun u68 H locs hw hP hD hS => ?_)
            obtain ⟨v69, v70, v71, v72, v73⟩ := u68
            try dsimp only at hP hD hw
            replace hP : va_P (dC, dI) vwCl [(wo_4_iiiiiiirrrirrrrrir a_this_plan x_this_plan_cycle x_this_plan_green x_this_plan_rule x_this_plan_least x_this_plan_away x_this_plan_statements x_this_plan_kinds a_this_plan_calm a_this_plan_pace a_this_plan_trusts x_this_plan_walkers a_this_plan_kindOf a_this_plan_comesAt a_this_plan_comers a_this_plan_names a_this_plan_code v59 a_this_plan_spans), (wi_0_1600_0 a_this_plan_code cy f60), (wo_5_riiiiirii a_this a_this_text x_this_length v69 v70 v71 x_this_allowed a_this_plan v72 v73), (wi_0_1600_0 a_this_text cy g_this_text)] H := hP
            replace hD := k_D hP hD
            obtain ⟨h74, h75, h76, h77, h78⟩ := hw
            have h78 := by have h9 := h78; try simp only [show (41 : Int32).toInt = (41 : Int) from rfl] at h9; exact h9
            replace hq := lf_p1 hq h78
            replace hq := lf_p1 hq rfl
            replace hq := lf_p1 hq rfl
            replace hq := lf_p1 hq rfl
            refine lv_aload_n hx hb dX5_pair_55 rfl (lv_at hl 0 rfl) ?_
            refine lv_iload_n hx hb dX5_pair_56 rfl (lv_at hl 2 rfl) ?_
            refine k_jvm hP hD hS hA [2, 0, 1] [false, false, false, true] rfl rfl rfl 0 0 (Nat.le_of_ble_eq_true rfl) (Nat.le_of_ble_eq_true rfl) (fun hPc hDc => k_runV (As := [.int p1]) (rest := []) C0 hZ hS hA (s_X5_emit l dC dI cy sq a_this a_this_text x_this_length v69 v70 v71 x_this_allowed a_this_plan x_this_plan_cycle x_this_plan_green x_this_plan_rule x_this_plan_least x_this_plan_away x_this_plan_statements x_this_plan_kinds a_this_plan_calm a_this_plan_pace a_this_plan_trusts x_this_plan_walkers a_this_plan_kindOf a_this_plan_comesAt a_this_plan_comers a_this_plan_names a_this_plan_code f60 v59 a_this_plan_spans v72 v73 p1 (ib_w 0 1600 h64 rfl)) mV_X5_199 hPc hDc rfl rfl rfl hl rfl rfl (Nat.le_of_ble_eq_true rfl) ⟨(Nat.le_of_ble_eq_true rfl), (Nat.le_of_ble_eq_true rfl)⟩ ⟨(Nat.le_of_ble_eq_true rfl), (Nat.le_of_ble_eq_true rfl)⟩ dX5_pair_57) (fun u80 H locs hw hP hD hS => ?_)
            obtain ⟨v81, f82⟩ := u80
            try dsimp only at hP hD hw
            replace hP : va_P (dC, dI) vwCl [(wi_0_1600_0 a_this_text cy g_this_text), (wo_5_riiiiirii a_this a_this_text x_this_length v69 v70 v71 x_this_allowed a_this_plan v72 v73), (wo_4_iiiiiiirrrirrrrrir a_this_plan x_this_plan_cycle x_this_plan_green x_this_plan_rule x_this_plan_least x_this_plan_away x_this_plan_statements x_this_plan_kinds a_this_plan_calm a_this_plan_pace a_this_plan_trusts x_this_plan_walkers a_this_plan_kindOf a_this_plan_comesAt a_this_plan_comers a_this_plan_names a_this_plan_code v81 a_this_plan_spans), (wi_0_1600_0 a_this_plan_code cy f82)] H := hP
            replace hD := k_D hP hD
            obtain ⟨h83, h84⟩ := hw
            replace hq := lf_p1 hq h84
            subst hQ; exact k_vret hx hb hr hlk ((v69, v70, v71, v72, v73, v81, f82)) hS ⟨ib_w 0 1600 h74 rfl, ib_w 0 1600 h75 rfl, ib_w 0 4 h76 rfl, ib_w 0 1600 h83 rfl, fun hq9 => ib_w 0 1599 (h77 hq9) rfl, (hO.symm.trans (by exact hq))⟩ (hP.sub [1, 0, 2, 3] rfl) (hD.sub [1, 0, 2, 3] rfl rfl) (Nat.le_of_ble_eq_true rfl) (Nat.le_of_ble_eq_true rfl) dX5_pair_60
  · replace hq := lf_pos hq (lf_eq (lf_rf r1) (lf_lc 0 (0 : Int) rfl) c8)
    have h85 := ib_eq h3 (ib_c 0 0 0 rfl) c8
    have h86 : ib r1 0 0 := ib_w 0 0 h85.1 rfl
    refine lv_aload_n hx hb dX5_pair_9 rfl (lv_at hl 0 rfl) ?_
    refine lv_iconst (v := 1) hx hb dX5_pair_10 rfl ?_
    refine lv_aload_n hx hb dX5_pair_11 rfl (lv_at hl 0 rfl) ?_
    refine k_get C0 fg_X5_15 hP 2 rfl rfl dX5_pair_12 ?_
    refine k_jvm hP hD hS hA [2] [true, true, false, true] rfl rfl rfl 0 0 (Nat.le_of_ble_eq_true rfl) (Nat.le_of_ble_eq_true rfl) (fun hPc hDc => k_runV (As := [.int 1, .int x_this_at]) (rest := []) C0 hZ hS hA (s_X5_fail l dC dI cy sq a_this a_this_text x_this_length x_this_at x_this_behind x_this_sort x_this_allowed a_this_plan x_this_fault x_this_place 1 x_this_at ) mV_X5_78 hPc hDc rfl rfl rfl hl rfl rfl (Nat.le_of_ble_eq_true rfl) ⟨(Nat.le_of_ble_eq_true rfl), (Nat.le_of_ble_eq_true rfl)⟩ ⟨(Nat.le_of_ble_eq_true rfl), (Nat.le_of_ble_eq_true rfl)⟩ dX5_pair_15) (fun u88 H locs hw hP hD hS => ?_)
    obtain ⟨v89, v90⟩ := u88
    try dsimp only at hP hD hw
    replace hP : va_P (dC, dI) vwCl [(wo_4_iiiiiiirrrirrrrrir a_this_plan x_this_plan_cycle x_this_plan_green x_this_plan_rule x_this_plan_least x_this_plan_away x_this_plan_statements x_this_plan_kinds a_this_plan_calm a_this_plan_pace a_this_plan_trusts x_this_plan_walkers a_this_plan_kindOf a_this_plan_comesAt a_this_plan_comers a_this_plan_names a_this_plan_code x_this_plan_size a_this_plan_spans), (wi_0_1600_0 a_this_plan_code cy g_this_plan_code), (wi_0_1600_0 a_this_text cy g_this_text), (wo_5_riiiiirii a_this a_this_text x_this_length x_this_length x_this_length 0 x_this_allowed a_this_plan v89 v90)] H := hP
    replace hD := k_D hP hD
    have h91 := hw
    have h91 := by have h9 := h91; try simp only [show (1 : Int32).toInt = (1 : Int) from rfl] at h9; exact h9
    replace hq := lf_p1 hq h91
    refine lv_goto (tgt := 60) hx hb dX5_pair_18 rfl ?_
    subst hQ; exact k_vret hx hb hr hlk ((x_this_length, x_this_length, 0, v89, v90, x_this_plan_size, g_this_plan_code)) hS ⟨ib_w 0 1600 hx_this_length rfl, ib_w 0 1600 hx_this_length rfl, ib_w 0 4 (ib_c 0 0 0 rfl) rfl, ib_w 0 1600 hx_this_plan_size rfl, fun hq9 => absurd rfl hq9, (hO.symm.trans (by try simp only [show (0 : Int32).toInt = (0 : Int) from rfl]; exact hq))⟩ (hP.sub [3, 2, 0, 1] rfl) (hD.sub [3, 2, 0, 1] rfl rfl) (Nat.le_of_ble_eq_true rfl) (Nat.le_of_ble_eq_true rfl) dX5_pair_60
set_option maxHeartbeats 4000000 in
set_option maxRecDepth 100000 in
theorem s_X5_part_a0_0 (l : Launch) (dC : Nat → ClassId) (dI : Nat → Nat → Nat) (cy : Nat → ClassId) (sq : Nat → Nat) (a_this : Nat) (a_this_text : Nat) (g_this_text : Nat → Int32) (x_this_length : Int32) (x_this_at : Int32) (x_this_behind : Int32) (x_this_sort : Int32) (x_this_allowed : Int32) (a_this_plan : Nat) (x_this_plan_cycle : Int32) (x_this_plan_green : Int32) (x_this_plan_rule : Int32) (x_this_plan_least : Int32) (x_this_plan_away : Int32) (x_this_plan_statements : Int32) (x_this_plan_kinds : Int32) (a_this_plan_calm : Nat) (a_this_plan_pace : Nat) (a_this_plan_trusts : Nat) (x_this_plan_walkers : Int32) (a_this_plan_kindOf : Nat) (a_this_plan_comesAt : Nat) (a_this_plan_comers : Nat) (a_this_plan_names : Nat) (a_this_plan_code : Nat) (g_this_plan_code : Nat → Int32) (x_this_plan_size : Int32) (a_this_plan_spans : Nat) (x_this_fault : Int32) (x_this_place : Int32) (hg_this_text : ia g_this_text 1600 0 255) (hx_this_length : ib x_this_length 0 1600) (hx_this_at : ib x_this_at 0 1600) (hx_this_behind : ib x_this_behind 0 1600) (hx_this_sort : ib x_this_sort 0 4) (hx_this_plan_size : ib x_this_plan_size 0 1600) (hc0_this : ¬ x_this_sort = 0 → ib x_this_at 0 1599) : k_Met l yX5_part cX5_part 2 none { frames := 30, cells := 0, slots := 0, locals := 722 } dC dI cy sq [.ref a_this, .int 0] [(wo_5_riiiiirii a_this a_this_text x_this_length x_this_at x_this_behind x_this_sort x_this_allowed a_this_plan x_this_fault x_this_place), (wi_0_1600_0 a_this_text cy g_this_text), (wo_4_iiiiiiirrrirrrrrir a_this_plan x_this_plan_cycle x_this_plan_green x_this_plan_rule x_this_plan_least x_this_plan_away x_this_plan_statements x_this_plan_kinds a_this_plan_calm a_this_plan_pace a_this_plan_trusts x_this_plan_walkers a_this_plan_kindOf a_this_plan_comesAt a_this_plan_comers a_this_plan_names a_this_plan_code x_this_plan_size a_this_plan_spans), (wi_0_1600_0 a_this_plan_code cy g_this_plan_code)] (k_Qv dC dI (fun (u : Int32 × Int32 × Int32 × Int32 × Int32 × Int32 × (Nat → Int32)) => match u with | (n0, n1, n2, n3, n4, n5, n6) => ib n0 0 1600 ∧ ib n1 0 1600 ∧ ib n2 0 4 ∧ ib n5 0 1600 ∧ (¬ n2 = 0 → ib n0 0 1599) ∧ (F_X5_part_a0_0 (lf_A g_this_text) (Int32.toInt x_this_length) (Int32.toInt x_this_at) (Int32.toInt x_this_behind) (Int32.toInt x_this_sort) (Int32.toInt x_this_allowed) (lf_A g_this_plan_code) (Int32.toInt x_this_plan_size) (Int32.toInt x_this_fault) (Int32.toInt x_this_place) = ((Int32.toInt n0), (Int32.toInt n1), (Int32.toInt n2), (Int32.toInt n3), (Int32.toInt n4), (Int32.toInt n5), (lf_A n6)))) (fun u : Int32 × Int32 × Int32 × Int32 × Int32 × Int32 × (Nat → Int32) => match u with | (n0, n1, n2, n3, n4, n5, n6) => [(wo_5_riiiiirii a_this a_this_text x_this_length n0 n1 n2 x_this_allowed a_this_plan n3 n4), (wi_0_1600_0 a_this_text cy g_this_text), (wo_4_iiiiiiirrrirrrrrir a_this_plan x_this_plan_cycle x_this_plan_green x_this_plan_rule x_this_plan_least x_this_plan_away x_this_plan_statements x_this_plan_kinds a_this_plan_calm a_this_plan_pace a_this_plan_trusts x_this_plan_walkers a_this_plan_kindOf a_this_plan_comesAt a_this_plan_comers a_this_plan_names a_this_plan_code n5 a_this_plan_spans), (wi_0_1600_0 a_this_plan_code cy n6)])) := by
  refine k_ofW2 (by decide +kernel) (Nat.le_of_ble_eq_true rfl) ?_
  intro p e s m below meth c A ls H locs args Q hQ C0 hZ hr hlk hin hP hD hA hS hl
  have C0 : k_cx p s m args c cX5_part 2 RX5 dC dI cy sq := C0
  have hx := C0.1
  have hb := C0.2.1
  have hl : lv_has ls 2 [(0, .ref a_this), (1, .int 0)] := hl
  obtain ⟨O, hO⟩ : ∃ o, o = F_X5_part_a0_0 (lf_A g_this_text) (Int32.toInt x_this_length) (Int32.toInt x_this_at) (Int32.toInt x_this_behind) (Int32.toInt x_this_sort) (Int32.toInt x_this_allowed) (lf_A g_this_plan_code) (Int32.toInt x_this_plan_size) (Int32.toInt x_this_fault) (Int32.toInt x_this_place) := ⟨_, rfl⟩
  have hq := hO
  unfold F_X5_part_a0_0 at hq
  have jn138 : ∀ (J138_c0_2 : Int32) (J138_c0_3 : Int32) (J138_c0_4 : Int32) (H : Heap) (locs : List Loc) (ls : Array Slot), ib J138_c0_2 0 1600 → ib J138_c0_3 0 1600 → ib J138_c0_4 0 4 → (¬ J138_c0_4 = 0 → ib J138_c0_2 0 1599) → (O = F_X5_part_a0_0_138 (lf_A g_this_text) (Int32.toInt x_this_length) (Int32.toInt x_this_allowed) (lf_A g_this_plan_code) (Int32.toInt x_this_plan_size) (Int32.toInt x_this_fault) (Int32.toInt x_this_place) (Int32.toInt J138_c0_2) (Int32.toInt J138_c0_3) (Int32.toInt J138_c0_4)) → va_P (dC, dI) vwCl [(wo_5_riiiiirii a_this a_this_text x_this_length J138_c0_2 J138_c0_3 J138_c0_4 x_this_allowed a_this_plan x_this_fault x_this_place), (wi_0_1600_0 a_this_text cy g_this_text), (wo_4_iiiiiiirrrirrrrrir a_this_plan x_this_plan_cycle x_this_plan_green x_this_plan_rule x_this_plan_least x_this_plan_away x_this_plan_statements x_this_plan_kinds a_this_plan_calm a_this_plan_pace a_this_plan_trusts x_this_plan_walkers a_this_plan_kindOf a_this_plan_comesAt a_this_plan_comers a_this_plan_names a_this_plan_code x_this_plan_size a_this_plan_spans), (wi_0_1600_0 a_this_plan_code cy g_this_plan_code)] H → va_D A [(wo_5_riiiiirii a_this a_this_text x_this_length J138_c0_2 J138_c0_3 J138_c0_4 x_this_allowed a_this_plan x_this_fault x_this_place), (wi_0_1600_0 a_this_text cy g_this_text), (wo_4_iiiiiiirrrirrrrrir a_this_plan x_this_plan_cycle x_this_plan_green x_this_plan_rule x_this_plan_least x_this_plan_away x_this_plan_statements x_this_plan_kinds a_this_plan_calm a_this_plan_pace a_this_plan_trusts x_this_plan_walkers a_this_plan_kindOf a_this_plan_comesAt a_this_plan_comers a_this_plan_names a_this_plan_code x_this_plan_size a_this_plan_spans), (wi_0_1600_0 a_this_plan_code cy g_this_plan_code)] → va_S A s.heap H locs → lv_has ls 2 [(0, .ref a_this), (1, .int 0)] → W p l e { frames := 30, cells := 0, slots := 0, locals := 722 } s m args below meth c H locs 0 0 Q (F0 m 138 ls []) := by
    intro J138_c0_2 J138_c0_3 J138_c0_4 H locs ls hJ138_c0_2 hJ138_c0_3 hJ138_c0_4 hJ138_ic0_0 hq hP hD hS hl
    unfold F_X5_part_a0_0_138 at hq
    refine lv_aload_n hx hb dX5_part_138 rfl (lv_at hl 0 rfl) ?_
    refine k_jvm hP hD hS hA [0, 1, 2, 3] [] rfl rfl rfl 0 0 (Nat.le_of_ble_eq_true rfl) (Nat.le_of_ble_eq_true rfl) (fun hPc hDc => k_runV (As := []) (rest := []) C0 hZ hS hA (s_X5_partWord l dC dI cy sq a_this a_this_text g_this_text x_this_length J138_c0_2 J138_c0_3 J138_c0_4 x_this_allowed a_this_plan x_this_plan_cycle x_this_plan_green x_this_plan_rule x_this_plan_least x_this_plan_away x_this_plan_statements x_this_plan_kinds a_this_plan_calm a_this_plan_pace a_this_plan_trusts x_this_plan_walkers a_this_plan_kindOf a_this_plan_comesAt a_this_plan_comers a_this_plan_names a_this_plan_code g_this_plan_code x_this_plan_size a_this_plan_spans x_this_fault x_this_place hg_this_text (ib_w 0 1600 hx_this_length rfl) (ib_w 0 1600 hJ138_c0_2 rfl) (ib_w 0 1600 hJ138_c0_3 rfl) (ib_w 0 4 hJ138_c0_4 rfl) (ib_w 0 1600 hx_this_plan_size rfl) (fun hq9 => ib_w 0 1599 (hJ138_ic0_0 hq9) rfl)) mV_X5_236 hPc hDc rfl rfl rfl hl rfl rfl (Nat.le_of_ble_eq_true rfl) ⟨(Nat.le_of_ble_eq_true rfl), (Nat.le_of_ble_eq_true rfl)⟩ ⟨(Nat.le_of_ble_eq_true rfl), (Nat.le_of_ble_eq_true rfl)⟩ dX5_part_139) (fun u2 H locs hw hP hD hS => ?_)
    obtain ⟨v3, v4, v5, v6, v7, v8, f9⟩ := u2
    try dsimp only at hP hD hw
    replace hP : va_P (dC, dI) vwCl [(wo_5_riiiiirii a_this a_this_text x_this_length v3 v4 v5 x_this_allowed a_this_plan v6 v7), (wi_0_1600_0 a_this_text cy g_this_text), (wo_4_iiiiiiirrrirrrrrir a_this_plan x_this_plan_cycle x_this_plan_green x_this_plan_rule x_this_plan_least x_this_plan_away x_this_plan_statements x_this_plan_kinds a_this_plan_calm a_this_plan_pace a_this_plan_trusts x_this_plan_walkers a_this_plan_kindOf a_this_plan_comesAt a_this_plan_comers a_this_plan_names a_this_plan_code v8 a_this_plan_spans), (wi_0_1600_0 a_this_plan_code cy f9)] H := hP
    replace hD := k_D hP hD
    obtain ⟨h10, h11, h12, h13, h14, h15⟩ := hw
    replace hq := lf_p1 hq h15
    replace hq := lf_p1 hq rfl
    replace hq := lf_p1 hq rfl
    replace hq := lf_p1 hq rfl
    replace hq := lf_p1 hq rfl
    replace hq := lf_p1 hq rfl
    subst hQ; exact k_vret hx hb hr hlk ((v3, v4, v5, v6, v7, v8, f9)) hS ⟨ib_w 0 1600 h10 rfl, ib_w 0 1600 h11 rfl, ib_w 0 4 h12 rfl, ib_w 0 1600 h13 rfl, fun hq9 => ib_w 0 1599 (h14 hq9) rfl, (hO.symm.trans (by exact hq))⟩ hP hD (Nat.le_of_ble_eq_true rfl) (Nat.le_of_ble_eq_true rfl) dX5_part_142
  refine lv_aload_n hx hb dX5_part_0 rfl (lv_at hl 0 rfl) ?_
  refine k_get C0 fg_X5_21 hP 0 rfl rfl dX5_part_1 ?_
  refine lv_iconst (v := 2) hx hb dX5_part_4 rfl ?_
  refine lv_icmp_ne (tgt := 23) hx hb dX5_part_5 rfl (fun c16 => ?_) (fun c16 => ?_)
  · as_aux_lemma =>
      replace hq := lf_neg hq (lf_ne (lf_rf x_this_sort) (lf_lc 2 (2 : Int) rfl) c16)
      refine lv_aload_n hx hb dX5_part_23 rfl (lv_at hl 0 rfl) ?_
      refine lv_bipush (v := 40) hx hb dX5_part_24 rfl ?_
      refine k_jim hP hD hS hA [0, 1] [false, false, true, true] rfl rfl rfl 0 0 (Nat.le_of_ble_eq_true rfl) (Nat.le_of_ble_eq_true rfl) (fun hPc hDc => k_runV (As := [.int 40]) (rest := []) C0 hZ hS hA (s_X5_sees l dC dI cy sq a_this a_this_text g_this_text x_this_length x_this_at x_this_behind x_this_sort x_this_allowed a_this_plan x_this_fault x_this_place 40 hg_this_text (ib_w 0 1600 hx_this_at rfl) (ib_w 0 4 hx_this_sort rfl) (fun hq9 => ib_w 0 1599 (hc0_this hq9) rfl)) mV_X5_213 hPc hDc rfl rfl rfl hl rfl rfl (Nat.le_of_ble_eq_true rfl) ⟨(Nat.le_of_ble_eq_true rfl), (Nat.le_of_ble_eq_true rfl)⟩ ⟨(Nat.le_of_ble_eq_true rfl), (Nat.le_of_ble_eq_true rfl)⟩ dX5_part_26) (fun r17 u18 H locs hw hP hD hS => ?_)
      try dsimp only at hP hD hw
      replace hP : va_P (dC, dI) vwCl [(wo_4_iiiiiiirrrirrrrrir a_this_plan x_this_plan_cycle x_this_plan_green x_this_plan_rule x_this_plan_least x_this_plan_away x_this_plan_statements x_this_plan_kinds a_this_plan_calm a_this_plan_pace a_this_plan_trusts x_this_plan_walkers a_this_plan_kindOf a_this_plan_comesAt a_this_plan_comers a_this_plan_names a_this_plan_code x_this_plan_size a_this_plan_spans), (wi_0_1600_0 a_this_plan_code cy g_this_plan_code), (wo_5_riiiiirii a_this a_this_text x_this_length x_this_at x_this_behind x_this_sort x_this_allowed a_this_plan x_this_fault x_this_place), (wi_0_1600_0 a_this_text cy g_this_text)] H := hP
      replace hD := k_D hP hD
      obtain ⟨h19, h20, h21, h22, h23⟩ := hw
      have h23 := by have h9 := h23; try simp only [show (40 : Int32).toInt = (40 : Int) from rfl] at h9; exact h9
      replace hq := lf_b1 hq h23
      refine lv_if_eq (tgt := 56) hx hb dX5_part_29 rfl (fun c24 => ?_) (fun c24 => ?_)
      · as_aux_lemma =>
          replace hq := lf_pos hq (lf_eq (lf_rf r17) (lf_lc 0 (0 : Int) rfl) c24)
          have h25 := ib_eq h19 (ib_c 0 0 0 rfl) c24
          have h26 : ib r17 0 0 := ib_w 0 0 h25.1 rfl
          refine lv_aload_n hx hb dX5_part_56 rfl (lv_at hl 0 rfl) ?_
          refine va_ldcS hx hb C0.2.2.2.1 (C0.2.2.2.2.2.2.2.2.2.2.2.2 17 (by decide)) dX5_part_57 ?_
          refine k_jim hP hD hS hA [2, 3] [true, true] rfl rfl rfl 0 0 (Nat.le_of_ble_eq_true rfl) (Nat.le_of_ble_eq_true rfl) (fun hPc hDc => k_runV (As := [.ref (sq 17)]) (rest := []) C0 hZ hS hA (s_X5_takeWord_s17 l dC dI cy sq a_this a_this_text g_this_text x_this_length x_this_at x_this_behind x_this_sort x_this_allowed a_this_plan x_this_fault x_this_place hg_this_text (ib_w 0 1600 hx_this_length rfl) (ib_w 0 1600 hx_this_at rfl) (ib_w 0 1600 hx_this_behind rfl) (ib_w 0 4 hx_this_sort rfl) (fun hq9 => ib_w 0 1599 (hc0_this hq9) rfl)) mV_X5_195 hPc hDc rfl rfl rfl hl rfl rfl (Nat.le_of_ble_eq_true rfl) ⟨(Nat.le_of_ble_eq_true rfl), (Nat.le_of_ble_eq_true rfl)⟩ ⟨(Nat.le_of_ble_eq_true rfl), (Nat.le_of_ble_eq_true rfl)⟩ dX5_part_59) (fun r27 u28 H locs hw hP hD hS => ?_)
          obtain ⟨v29, v30, v31⟩ := u28
          try dsimp only at hP hD hw
          replace hP : va_P (dC, dI) vwCl [(wo_4_iiiiiiirrrirrrrrir a_this_plan x_this_plan_cycle x_this_plan_green x_this_plan_rule x_this_plan_least x_this_plan_away x_this_plan_statements x_this_plan_kinds a_this_plan_calm a_this_plan_pace a_this_plan_trusts x_this_plan_walkers a_this_plan_kindOf a_this_plan_comesAt a_this_plan_comers a_this_plan_names a_this_plan_code x_this_plan_size a_this_plan_spans), (wi_0_1600_0 a_this_plan_code cy g_this_plan_code), (wo_5_riiiiirii a_this a_this_text x_this_length v29 v30 v31 x_this_allowed a_this_plan x_this_fault x_this_place), (wi_0_1600_0 a_this_text cy g_this_text)] H := hP
          replace hD := k_D hP hD
          obtain ⟨h32, h33, h34, h35, h36, h37⟩ := hw
          replace hq := lf_p1 hq h37
          replace hq := lf_p1 hq rfl
          replace hq := lf_p1 hq rfl
          refine lv_if_eq (tgt := 75) hx hb dX5_part_62 rfl (fun c38 => ?_) (fun c38 => ?_)
          · as_aux_lemma =>
              replace hq := lf_pos hq (lf_eq (lf_rf r27) (lf_lc 0 (0 : Int) rfl) c38)
              have h39 := ib_eq h32 (ib_c 0 0 0 rfl) c38
              have h40 : ib r27 0 0 := ib_w 0 0 h39.1 rfl
              refine lv_aload_n hx hb dX5_part_75 rfl (lv_at hl 0 rfl) ?_
              refine va_ldcS hx hb C0.2.2.2.1 (C0.2.2.2.2.2.2.2.2.2.2.2.2 18 (by decide)) dX5_part_76 ?_
              refine k_jim hP hD hS hA [2, 3] [true, true] rfl rfl rfl 0 0 (Nat.le_of_ble_eq_true rfl) (Nat.le_of_ble_eq_true rfl) (fun hPc hDc => k_runV (As := [.ref (sq 18)]) (rest := []) C0 hZ hS hA (s_X5_takeWord_s18 l dC dI cy sq a_this a_this_text g_this_text x_this_length v29 v30 v31 x_this_allowed a_this_plan x_this_fault x_this_place hg_this_text (ib_w 0 1600 hx_this_length rfl) (ib_w 0 1600 h33 rfl) (ib_w 0 1600 h34 rfl) (ib_w 0 4 h35 rfl) (fun hq9 => ib_w 0 1599 (h36 hq9) rfl)) mV_X5_195 hPc hDc rfl rfl rfl hl rfl rfl (Nat.le_of_ble_eq_true rfl) ⟨(Nat.le_of_ble_eq_true rfl), (Nat.le_of_ble_eq_true rfl)⟩ ⟨(Nat.le_of_ble_eq_true rfl), (Nat.le_of_ble_eq_true rfl)⟩ dX5_part_78) (fun r41 u42 H locs hw hP hD hS => ?_)
              obtain ⟨v43, v44, v45⟩ := u42
              try dsimp only at hP hD hw
              replace hP : va_P (dC, dI) vwCl [(wo_4_iiiiiiirrrirrrrrir a_this_plan x_this_plan_cycle x_this_plan_green x_this_plan_rule x_this_plan_least x_this_plan_away x_this_plan_statements x_this_plan_kinds a_this_plan_calm a_this_plan_pace a_this_plan_trusts x_this_plan_walkers a_this_plan_kindOf a_this_plan_comesAt a_this_plan_comers a_this_plan_names a_this_plan_code x_this_plan_size a_this_plan_spans), (wi_0_1600_0 a_this_plan_code cy g_this_plan_code), (wo_5_riiiiirii a_this a_this_text x_this_length v43 v44 v45 x_this_allowed a_this_plan x_this_fault x_this_place), (wi_0_1600_0 a_this_text cy g_this_text)] H := hP
              replace hD := k_D hP hD
              obtain ⟨h46, h47, h48, h49, h50, h51⟩ := hw
              replace hq := lf_p1 hq h51
              replace hq := lf_p1 hq rfl
              replace hq := lf_p1 hq rfl
              refine lv_if_eq (tgt := 94) hx hb dX5_part_81 rfl (fun c52 => ?_) (fun c52 => ?_)
              · as_aux_lemma =>
                  replace hq := lf_pos hq (lf_eq (lf_rf r41) (lf_lc 0 (0 : Int) rfl) c52)
                  have h53 := ib_eq h46 (ib_c 0 0 0 rfl) c52
                  have h54 : ib r41 0 0 := ib_w 0 0 h53.1 rfl
                  refine lv_aload_n hx hb dX5_part_94 rfl (lv_at hl 0 rfl) ?_
                  refine k_get C0 fg_X5_24 hP 2 rfl rfl dX5_part_95 ?_
                  refine lv_sipush (v := 3707) hx hb dX5_part_98 rfl ?_
                  refine lv_icmp_ne (tgt := 138) hx hb dX5_part_101 rfl (fun c55 => ?_) (fun c55 => ?_)
                  · replace hq := lf_neg hq (lf_ne (lf_rf x_this_allowed) (lf_lc 3707 (3707 : Int) rfl) c55)
                    exact jn138 v43 v44 v45 H locs ls (ib_w 0 1600 h47 rfl) (ib_w 0 1600 h48 rfl) (ib_w 0 4 h49 rfl) (fun hq9 => ib_w 0 1599 (h50 hq9) rfl) (by exact hq) (hP.sub [2, 3, 0, 1] rfl) (hD.sub [2, 3, 0, 1] rfl rfl) hS (lv_sub hl [0, 1] rfl)
                  · as_aux_lemma =>
                      replace hq := lf_pos hq (lf_eq (lf_rf x_this_allowed) (lf_lc 3707 (3707 : Int) rfl) c55)
                      have h56 := ib_eq (ib_any x_this_allowed) (ib_c 3707 3707 3707 rfl) c55
                      have h57 : ib x_this_allowed 3707 3707 := ib_w 3707 3707 h56.1 rfl
                      refine lv_aload_n hx hb dX5_part_104 rfl (lv_at hl 0 rfl) ?_
                      refine va_ldcS hx hb C0.2.2.2.1 (C0.2.2.2.2.2.2.2.2.2.2.2.2 19 (by decide)) dX5_part_105 ?_
                      refine k_jim hP hD hS hA [2, 3] [true, true] rfl rfl rfl 0 0 (Nat.le_of_ble_eq_true rfl) (Nat.le_of_ble_eq_true rfl) (fun hPc hDc => k_runV (As := [.ref (sq 19)]) (rest := []) C0 hZ hS hA (s_X5_wordIn_s19 l dC dI cy sq a_this a_this_text g_this_text x_this_length v43 v44 v45 x_this_allowed a_this_plan x_this_fault x_this_place hg_this_text (ib_w 0 1600 h47 rfl) (ib_w 0 1600 h48 rfl) (ib_w 0 4 h49 rfl) (fun hq9 => ib_w 0 1599 (h50 hq9) rfl)) mV_X5_54 hPc hDc rfl rfl rfl hl rfl rfl (Nat.le_of_ble_eq_true rfl) ⟨(Nat.le_of_ble_eq_true rfl), (Nat.le_of_ble_eq_true rfl)⟩ ⟨(Nat.le_of_ble_eq_true rfl), (Nat.le_of_ble_eq_true rfl)⟩ dX5_part_107) (fun r58 u59 H locs hw hP hD hS => ?_)
                      try dsimp only at hP hD hw
                      replace hP : va_P (dC, dI) vwCl [(wo_4_iiiiiiirrrirrrrrir a_this_plan x_this_plan_cycle x_this_plan_green x_this_plan_rule x_this_plan_least x_this_plan_away x_this_plan_statements x_this_plan_kinds a_this_plan_calm a_this_plan_pace a_this_plan_trusts x_this_plan_walkers a_this_plan_kindOf a_this_plan_comesAt a_this_plan_comers a_this_plan_names a_this_plan_code x_this_plan_size a_this_plan_spans), (wi_0_1600_0 a_this_plan_code cy g_this_plan_code), (wo_5_riiiiirii a_this a_this_text x_this_length v43 v44 v45 x_this_allowed a_this_plan x_this_fault x_this_place), (wi_0_1600_0 a_this_text cy g_this_text)] H := hP
                      replace hD := k_D hP hD
                      have h60 := hw
                      replace hq := lf_b1 hq h60
                      refine lv_iconst (v := (-1)) hx hb dX5_part_110 rfl ?_
                      refine lv_icmp_eq (tgt := 138) hx hb dX5_part_111 rfl (fun c61 => ?_) (fun c61 => ?_)
                      · replace hq := lf_pos hq (lf_eq (lf_rf r58) (lf_lc (-1) (-1 : Int) rfl) c61)
                        have h62 := ib_eq (ib_any r58) (ib_c (-1) (-1) (-1) rfl) c61
                        have h63 : ib r58 (-1) (-1) := ib_w (-1) (-1) h62.1 rfl
                        exact jn138 v43 v44 v45 H locs ls (ib_w 0 1600 h47 rfl) (ib_w 0 1600 h48 rfl) (ib_w 0 4 h49 rfl) (fun hq9 => ib_w 0 1599 (h50 hq9) rfl) (by exact hq) (hP.sub [2, 3, 0, 1] rfl) (hD.sub [2, 3, 0, 1] rfl rfl) hS (lv_sub hl [0, 1] rfl)
                      · as_aux_lemma =>
                          replace hq := lf_neg hq (lf_ne (lf_rf r58) (lf_lc (-1) (-1 : Int) rfl) c61)
                          refine lv_aload_n hx hb dX5_part_114 rfl (lv_at hl 0 rfl) ?_
                          refine lv_iload_n hx hb dX5_part_115 rfl (lv_at hl 1 rfl) ?_
                          refine k_jim hP hD hS hA [2, 3] [true, true] rfl rfl rfl 0 0 (Nat.le_of_ble_eq_true rfl) (Nat.le_of_ble_eq_true rfl) (fun hPc hDc => k_runV (As := [.int 0]) (rest := []) C0 hZ hS hA (s_X5_enters_a0_0 l dC dI cy sq a_this a_this_text g_this_text x_this_length v43 v44 v45 x_this_allowed a_this_plan x_this_fault x_this_place hg_this_text (ib_w 0 1600 hx_this_length rfl) (ib_w 0 1600 h48 rfl)) mV_X5_209 hPc hDc rfl rfl rfl hl rfl rfl (Nat.le_of_ble_eq_true rfl) ⟨(Nat.le_of_ble_eq_true rfl), (Nat.le_of_ble_eq_true rfl)⟩ ⟨(Nat.le_of_ble_eq_true rfl), (Nat.le_of_ble_eq_true rfl)⟩ dX5_part_116) (fun r64 u65 H locs hw hP hD hS => ?_)
                          obtain ⟨v66, v67, v68⟩ := u65
                          try dsimp only at hP hD hw
                          replace hP : va_P (dC, dI) vwCl [(wo_4_iiiiiiirrrirrrrrir a_this_plan x_this_plan_cycle x_this_plan_green x_this_plan_rule x_this_plan_least x_this_plan_away x_this_plan_statements x_this_plan_kinds a_this_plan_calm a_this_plan_pace a_this_plan_trusts x_this_plan_walkers a_this_plan_kindOf a_this_plan_comesAt a_this_plan_comers a_this_plan_names a_this_plan_code x_this_plan_size a_this_plan_spans), (wi_0_1600_0 a_this_plan_code cy g_this_plan_code), (wo_5_riiiiirii a_this a_this_text x_this_length v66 v67 v68 x_this_allowed a_this_plan x_this_fault x_this_place), (wi_0_1600_0 a_this_text cy g_this_text)] H := hP
                          replace hD := k_D hP hD
                          obtain ⟨h69, h70, h71, h72, h73, h74⟩ := hw
                          replace hq := lf_p1 hq h74
                          replace hq := lf_p1 hq rfl
                          replace hq := lf_p1 hq rfl
                          refine lv_if_eq (tgt := 142) hx hb dX5_part_119 rfl (fun c75 => ?_) (fun c75 => ?_)
                          · skip
                            have h76 := ib_eq h69 (ib_c 0 0 0 rfl) c75
                            exact ib_no (ib_w 1 0 h76.1 rfl) rfl
                          · as_aux_lemma =>
                              skip
                              refine lv_aload_n hx hb dX5_part_122 rfl (lv_at hl 0 rfl) ?_
                              refine lv_iload_n hx hb dX5_part_123 rfl (lv_at hl 1 rfl) ?_
                              refine lv_iconst (v := 1) hx hb dX5_part_124 rfl ?_
                              refine lv_iadd hx hb dX5_part_125 ?_
                              refine k_topi (y := 1) (by decide) ?_
                              refine k_jvm hP hD hS hA [2, 3, 0, 1] [] rfl rfl rfl 0 0 (Nat.le_of_ble_eq_true rfl) (Nat.le_of_ble_eq_true rfl) (fun hPc hDc => k_runV (As := [.int 1]) (rest := []) C0 hZ hS hA (s_X5_part_a0_1 l dC dI cy sq a_this a_this_text g_this_text x_this_length v66 v67 v68 x_this_allowed a_this_plan x_this_plan_cycle x_this_plan_green x_this_plan_rule x_this_plan_least x_this_plan_away x_this_plan_statements x_this_plan_kinds a_this_plan_calm a_this_plan_pace a_this_plan_trusts x_this_plan_walkers a_this_plan_kindOf a_this_plan_comesAt a_this_plan_comers a_this_plan_names a_this_plan_code g_this_plan_code x_this_plan_size a_this_plan_spans x_this_fault x_this_place hg_this_text (ib_w 0 1600 hx_this_length rfl) (ib_w 0 1600 h70 rfl) (ib_w 0 1600 h71 rfl) (ib_w 0 4 h72 rfl) (ib_w 0 1600 hx_this_plan_size rfl) (fun hq9 => ib_w 0 1599 (h73 hq9) rfl)) mV_X5_225 hPc hDc rfl rfl rfl hl rfl rfl (Nat.le_of_ble_eq_true rfl) ⟨(Nat.le_of_ble_eq_true rfl), (Nat.le_of_ble_eq_true rfl)⟩ ⟨(Nat.le_of_ble_eq_true rfl), (Nat.le_of_ble_eq_true rfl)⟩ dX5_part_126) (fun u78 H locs hw hP hD hS => ?_)
                              obtain ⟨v79, v80, v81, v82, v83, v84, f85⟩ := u78
                              try dsimp only at hP hD hw
                              replace hP : va_P (dC, dI) vwCl [(wo_5_riiiiirii a_this a_this_text x_this_length v79 v80 v81 x_this_allowed a_this_plan v82 v83), (wi_0_1600_0 a_this_text cy g_this_text), (wo_4_iiiiiiirrrirrrrrir a_this_plan x_this_plan_cycle x_this_plan_green x_this_plan_rule x_this_plan_least x_this_plan_away x_this_plan_statements x_this_plan_kinds a_this_plan_calm a_this_plan_pace a_this_plan_trusts x_this_plan_walkers a_this_plan_kindOf a_this_plan_comesAt a_this_plan_comers a_this_plan_names a_this_plan_code v84 a_this_plan_spans), (wi_0_1600_0 a_this_plan_code cy f85)] H := hP
                              replace hD := k_D hP hD
                              obtain ⟨h86, h87, h88, h89, h90, h91⟩ := hw
                              replace hq := lf_p1 hq h91
                              replace hq := lf_p1 hq rfl
                              replace hq := lf_p1 hq rfl
                              replace hq := lf_p1 hq rfl
                              replace hq := lf_p1 hq rfl
                              replace hq := lf_p1 hq rfl
                              refine lv_aload_n hx hb dX5_part_129 rfl (lv_at hl 0 rfl) ?_
                              refine lv_bipush (v := (-32)) hx hb dX5_part_130 rfl ?_
                              refine k_jvm hP hD hS hA [0, 2, 3] [false, true] rfl rfl rfl 0 0 (Nat.le_of_ble_eq_true rfl) (Nat.le_of_ble_eq_true rfl) (fun hPc hDc => k_runV (As := [.int (-32)]) (rest := []) C0 hZ hS hA (s_X5_emit l dC dI cy sq a_this a_this_text x_this_length v79 v80 v81 x_this_allowed a_this_plan x_this_plan_cycle x_this_plan_green x_this_plan_rule x_this_plan_least x_this_plan_away x_this_plan_statements x_this_plan_kinds a_this_plan_calm a_this_plan_pace a_this_plan_trusts x_this_plan_walkers a_this_plan_kindOf a_this_plan_comesAt a_this_plan_comers a_this_plan_names a_this_plan_code f85 v84 a_this_plan_spans v82 v83 (-32) (ib_w 0 1600 h89 rfl)) mV_X5_199 hPc hDc rfl rfl rfl hl rfl rfl (Nat.le_of_ble_eq_true rfl) ⟨(Nat.le_of_ble_eq_true rfl), (Nat.le_of_ble_eq_true rfl)⟩ ⟨(Nat.le_of_ble_eq_true rfl), (Nat.le_of_ble_eq_true rfl)⟩ dX5_part_132) (fun u93 H locs hw hP hD hS => ?_)
                              obtain ⟨v94, f95⟩ := u93
                              try dsimp only at hP hD hw
                              replace hP : va_P (dC, dI) vwCl [(wi_0_1600_0 a_this_text cy g_this_text), (wo_5_riiiiirii a_this a_this_text x_this_length v79 v80 v81 x_this_allowed a_this_plan v82 v83), (wo_4_iiiiiiirrrirrrrrir a_this_plan x_this_plan_cycle x_this_plan_green x_this_plan_rule x_this_plan_least x_this_plan_away x_this_plan_statements x_this_plan_kinds a_this_plan_calm a_this_plan_pace a_this_plan_trusts x_this_plan_walkers a_this_plan_kindOf a_this_plan_comesAt a_this_plan_comers a_this_plan_names a_this_plan_code v94 a_this_plan_spans), (wi_0_1600_0 a_this_plan_code cy f95)] H := hP
                              replace hD := k_D hP hD
                              obtain ⟨h96, h97⟩ := hw
                              have h97 := by have h9 := h97; try simp only [show ((-32) : Int32).toInt = (-32 : Int) from rfl] at h9; exact h9
                              replace hq := lf_p1 hq h97
                              refine lv_goto (tgt := 142) hx hb dX5_part_135 rfl ?_
                              subst hQ; exact k_vret hx hb hr hlk ((v79, v80, v81, v82, v83, v94, f95)) hS ⟨ib_w 0 1600 h86 rfl, ib_w 0 1600 h87 rfl, ib_w 0 4 h88 rfl, ib_w 0 1600 h96 rfl, fun hq9 => ib_w 0 1599 (h90 hq9) rfl, (hO.symm.trans (by exact hq))⟩ (hP.sub [1, 0, 2, 3] rfl) (hD.sub [1, 0, 2, 3] rfl rfl) (Nat.le_of_ble_eq_true rfl) (Nat.le_of_ble_eq_true rfl) dX5_part_142
              · as_aux_lemma =>
                  replace hq := lf_neg hq (lf_ne (lf_rf r41) (lf_lc 0 (0 : Int) rfl) c52)
                  have h98 : ib r41 1 1 := ib_w 1 1 (ib_ne_lo 0 h46 rfl c52) rfl
                  refine lv_aload_n hx hb dX5_part_84 rfl (lv_at hl 0 rfl) ?_
                  refine lv_iload_n hx hb dX5_part_85 rfl (lv_at hl 1 rfl) ?_
                  refine lv_bipush (v := (-25)) hx hb dX5_part_86 rfl ?_
                  refine k_jvm hP hD hS hA [2, 3, 0, 1] [] rfl rfl rfl 0 0 (Nat.le_of_ble_eq_true rfl) (Nat.le_of_ble_eq_true rfl) (fun hPc hDc => k_runV (As := [.int 0, .int (-25)]) (rest := []) C0 hZ hS hA (s_X5_pair_a0_0 l dC dI cy sq a_this a_this_text g_this_text x_this_length v43 v44 v45 x_this_allowed a_this_plan x_this_plan_cycle x_this_plan_green x_this_plan_rule x_this_plan_least x_this_plan_away x_this_plan_statements x_this_plan_kinds a_this_plan_calm a_this_plan_pace a_this_plan_trusts x_this_plan_walkers a_this_plan_kindOf a_this_plan_comesAt a_this_plan_comers a_this_plan_names a_this_plan_code g_this_plan_code x_this_plan_size a_this_plan_spans x_this_fault x_this_place (-25) hg_this_text (ib_w 0 1600 hx_this_length rfl) (ib_w 0 1600 h47 rfl) (ib_w 0 1600 h48 rfl) (ib_w 0 4 h49 rfl) (ib_w 0 1600 hx_this_plan_size rfl) (fun hq9 => ib_w 0 1599 (h50 hq9) rfl)) mV_X5_229 hPc hDc rfl rfl rfl hl rfl rfl (Nat.le_of_ble_eq_true rfl) ⟨(Nat.le_of_ble_eq_true rfl), (Nat.le_of_ble_eq_true rfl)⟩ ⟨(Nat.le_of_ble_eq_true rfl), (Nat.le_of_ble_eq_true rfl)⟩ dX5_part_88) (fun u100 H locs hw hP hD hS => ?_)
                  obtain ⟨v101, v102, v103, v104, v105, v106, f107⟩ := u100
                  try dsimp only at hP hD hw
                  replace hP : va_P (dC, dI) vwCl [(wo_5_riiiiirii a_this a_this_text x_this_length v101 v102 v103 x_this_allowed a_this_plan v104 v105), (wi_0_1600_0 a_this_text cy g_this_text), (wo_4_iiiiiiirrrirrrrrir a_this_plan x_this_plan_cycle x_this_plan_green x_this_plan_rule x_this_plan_least x_this_plan_away x_this_plan_statements x_this_plan_kinds a_this_plan_calm a_this_plan_pace a_this_plan_trusts x_this_plan_walkers a_this_plan_kindOf a_this_plan_comesAt a_this_plan_comers a_this_plan_names a_this_plan_code v106 a_this_plan_spans), (wi_0_1600_0 a_this_plan_code cy f107)] H := hP
                  replace hD := k_D hP hD
                  obtain ⟨h108, h109, h110, h111, h112, h113⟩ := hw
                  have h113 := by have h9 := h113; try simp only [show ((-25) : Int32).toInt = (-25 : Int) from rfl] at h9; exact h9
                  replace hq := lf_p1 hq h113
                  replace hq := lf_p1 hq rfl
                  replace hq := lf_p1 hq rfl
                  replace hq := lf_p1 hq rfl
                  replace hq := lf_p1 hq rfl
                  replace hq := lf_p1 hq rfl
                  refine lv_goto (tgt := 142) hx hb dX5_part_91 rfl ?_
                  subst hQ; exact k_vret hx hb hr hlk ((v101, v102, v103, v104, v105, v106, f107)) hS ⟨ib_w 0 1600 h108 rfl, ib_w 0 1600 h109 rfl, ib_w 0 4 h110 rfl, ib_w 0 1600 h111 rfl, fun hq9 => ib_w 0 1599 (h112 hq9) rfl, (hO.symm.trans (by exact hq))⟩ hP hD (Nat.le_of_ble_eq_true rfl) (Nat.le_of_ble_eq_true rfl) dX5_part_142
          · as_aux_lemma =>
              replace hq := lf_neg hq (lf_ne (lf_rf r27) (lf_lc 0 (0 : Int) rfl) c38)
              have h114 : ib r27 1 1 := ib_w 1 1 (ib_ne_lo 0 h32 rfl c38) rfl
              refine lv_aload_n hx hb dX5_part_65 rfl (lv_at hl 0 rfl) ?_
              refine lv_iload_n hx hb dX5_part_66 rfl (lv_at hl 1 rfl) ?_
              refine lv_bipush (v := (-24)) hx hb dX5_part_67 rfl ?_
              refine k_jvm hP hD hS hA [2, 3, 0, 1] [] rfl rfl rfl 0 0 (Nat.le_of_ble_eq_true rfl) (Nat.le_of_ble_eq_true rfl) (fun hPc hDc => k_runV (As := [.int 0, .int (-24)]) (rest := []) C0 hZ hS hA (s_X5_pair_a0_0 l dC dI cy sq a_this a_this_text g_this_text x_this_length v29 v30 v31 x_this_allowed a_this_plan x_this_plan_cycle x_this_plan_green x_this_plan_rule x_this_plan_least x_this_plan_away x_this_plan_statements x_this_plan_kinds a_this_plan_calm a_this_plan_pace a_this_plan_trusts x_this_plan_walkers a_this_plan_kindOf a_this_plan_comesAt a_this_plan_comers a_this_plan_names a_this_plan_code g_this_plan_code x_this_plan_size a_this_plan_spans x_this_fault x_this_place (-24) hg_this_text (ib_w 0 1600 hx_this_length rfl) (ib_w 0 1600 h33 rfl) (ib_w 0 1600 h34 rfl) (ib_w 0 4 h35 rfl) (ib_w 0 1600 hx_this_plan_size rfl) (fun hq9 => ib_w 0 1599 (h36 hq9) rfl)) mV_X5_229 hPc hDc rfl rfl rfl hl rfl rfl (Nat.le_of_ble_eq_true rfl) ⟨(Nat.le_of_ble_eq_true rfl), (Nat.le_of_ble_eq_true rfl)⟩ ⟨(Nat.le_of_ble_eq_true rfl), (Nat.le_of_ble_eq_true rfl)⟩ dX5_part_69) (fun u116 H locs hw hP hD hS => ?_)
              obtain ⟨v117, v118, v119, v120, v121, v122, f123⟩ := u116
              try dsimp only at hP hD hw
              replace hP : va_P (dC, dI) vwCl [(wo_5_riiiiirii a_this a_this_text x_this_length v117 v118 v119 x_this_allowed a_this_plan v120 v121), (wi_0_1600_0 a_this_text cy g_this_text), (wo_4_iiiiiiirrrirrrrrir a_this_plan x_this_plan_cycle x_this_plan_green x_this_plan_rule x_this_plan_least x_this_plan_away x_this_plan_statements x_this_plan_kinds a_this_plan_calm a_this_plan_pace a_this_plan_trusts x_this_plan_walkers a_this_plan_kindOf a_this_plan_comesAt a_this_plan_comers a_this_plan_names a_this_plan_code v122 a_this_plan_spans), (wi_0_1600_0 a_this_plan_code cy f123)] H := hP
              replace hD := k_D hP hD
              obtain ⟨h124, h125, h126, h127, h128, h129⟩ := hw
              have h129 := by have h9 := h129; try simp only [show ((-24) : Int32).toInt = (-24 : Int) from rfl] at h9; exact h9
              replace hq := lf_p1 hq h129
              replace hq := lf_p1 hq rfl
              replace hq := lf_p1 hq rfl
              replace hq := lf_p1 hq rfl
              replace hq := lf_p1 hq rfl
              replace hq := lf_p1 hq rfl
              refine lv_goto (tgt := 142) hx hb dX5_part_72 rfl ?_
              subst hQ; exact k_vret hx hb hr hlk ((v117, v118, v119, v120, v121, v122, f123)) hS ⟨ib_w 0 1600 h124 rfl, ib_w 0 1600 h125 rfl, ib_w 0 4 h126 rfl, ib_w 0 1600 h127 rfl, fun hq9 => ib_w 0 1599 (h128 hq9) rfl, (hO.symm.trans (by exact hq))⟩ hP hD (Nat.le_of_ble_eq_true rfl) (Nat.le_of_ble_eq_true rfl) dX5_part_142
      · as_aux_lemma =>
          replace hq := lf_neg hq (lf_ne (lf_rf r17) (lf_lc 0 (0 : Int) rfl) c24)
          have h130 : ib r17 1 1 := ib_w 1 1 (ib_ne_lo 0 h19 rfl c24) rfl
          have h131 : ib x_this_at 0 1599 := ib_w 0 1599 (ib_two hx_this_at (h20 c24)) rfl
          have h132 : ib x_this_sort 3 3 := ib_w 3 3 (ib_two hx_this_sort (h21 c24)) rfl
          refine lv_aload_n hx hb dX5_part_32 rfl (lv_at hl 0 rfl) ?_
          refine lv_iload_n hx hb dX5_part_33 rfl (lv_at hl 1 rfl) ?_
          refine k_jim hP hD hS hA [2, 3] [true, true] rfl rfl rfl 0 0 (Nat.le_of_ble_eq_true rfl) (Nat.le_of_ble_eq_true rfl) (fun hPc hDc => k_runV (As := [.int 0]) (rest := []) C0 hZ hS hA (s_X5_enters_a0_0 l dC dI cy sq a_this a_this_text g_this_text x_this_length x_this_at x_this_behind x_this_sort x_this_allowed a_this_plan x_this_fault x_this_place hg_this_text (ib_w 0 1600 hx_this_length rfl) (ib_w 0 1600 hx_this_behind rfl)) mV_X5_209 hPc hDc rfl rfl rfl hl rfl rfl (Nat.le_of_ble_eq_true rfl) ⟨(Nat.le_of_ble_eq_true rfl), (Nat.le_of_ble_eq_true rfl)⟩ ⟨(Nat.le_of_ble_eq_true rfl), (Nat.le_of_ble_eq_true rfl)⟩ dX5_part_34) (fun r133 u134 H locs hw hP hD hS => ?_)
          obtain ⟨v135, v136, v137⟩ := u134
          try dsimp only at hP hD hw
          replace hP : va_P (dC, dI) vwCl [(wo_4_iiiiiiirrrirrrrrir a_this_plan x_this_plan_cycle x_this_plan_green x_this_plan_rule x_this_plan_least x_this_plan_away x_this_plan_statements x_this_plan_kinds a_this_plan_calm a_this_plan_pace a_this_plan_trusts x_this_plan_walkers a_this_plan_kindOf a_this_plan_comesAt a_this_plan_comers a_this_plan_names a_this_plan_code x_this_plan_size a_this_plan_spans), (wi_0_1600_0 a_this_plan_code cy g_this_plan_code), (wo_5_riiiiirii a_this a_this_text x_this_length v135 v136 v137 x_this_allowed a_this_plan x_this_fault x_this_place), (wi_0_1600_0 a_this_text cy g_this_text)] H := hP
          replace hD := k_D hP hD
          obtain ⟨h138, h139, h140, h141, h142, h143⟩ := hw
          replace hq := lf_p1 hq h143
          replace hq := lf_p1 hq rfl
          replace hq := lf_p1 hq rfl
          refine lv_if_eq (tgt := 142) hx hb dX5_part_37 rfl (fun c144 => ?_) (fun c144 => ?_)
          · skip
            have h145 := ib_eq h138 (ib_c 0 0 0 rfl) c144
            exact ib_no (ib_w 1 0 h145.1 rfl) rfl
          · as_aux_lemma =>
              skip
              refine lv_aload_n hx hb dX5_part_40 rfl (lv_at hl 0 rfl) ?_
              refine lv_iload_n hx hb dX5_part_41 rfl (lv_at hl 1 rfl) ?_
              refine lv_iconst (v := 1) hx hb dX5_part_42 rfl ?_
              refine lv_iadd hx hb dX5_part_43 ?_
              refine k_topi (y := 1) (by decide) ?_
              refine k_jvm hP hD hS hA [2, 3, 0, 1] [] rfl rfl rfl 0 0 (Nat.le_of_ble_eq_true rfl) (Nat.le_of_ble_eq_true rfl) (fun hPc hDc => k_runV (As := [.int 1]) (rest := []) C0 hZ hS hA (s_X5_sum_a0_1 l dC dI cy sq a_this a_this_text g_this_text x_this_length v135 v136 v137 x_this_allowed a_this_plan x_this_plan_cycle x_this_plan_green x_this_plan_rule x_this_plan_least x_this_plan_away x_this_plan_statements x_this_plan_kinds a_this_plan_calm a_this_plan_pace a_this_plan_trusts x_this_plan_walkers a_this_plan_kindOf a_this_plan_comesAt a_this_plan_comers a_this_plan_names a_this_plan_code g_this_plan_code x_this_plan_size a_this_plan_spans x_this_fault x_this_place hg_this_text (ib_w 0 1600 hx_this_length rfl) (ib_w 0 1600 h139 rfl) (ib_w 0 1600 h140 rfl) (ib_w 0 4 h141 rfl) (ib_w 0 1600 hx_this_plan_size rfl) (fun hq9 => ib_w 0 1599 (h142 hq9) rfl)) mV_X5_93 hPc hDc rfl rfl rfl hl rfl rfl (Nat.le_of_ble_eq_true rfl) ⟨(Nat.le_of_ble_eq_true rfl), (Nat.le_of_ble_eq_true rfl)⟩ ⟨(Nat.le_of_ble_eq_true rfl), (Nat.le_of_ble_eq_true rfl)⟩ dX5_part_44) (fun u147 H locs hw hP hD hS => ?_)
              obtain ⟨v148, v149, v150, v151, v152, v153, f154⟩ := u147
              try dsimp only at hP hD hw
              replace hP : va_P (dC, dI) vwCl [(wo_5_riiiiirii a_this a_this_text x_this_length v148 v149 v150 x_this_allowed a_this_plan v151 v152), (wi_0_1600_0 a_this_text cy g_this_text), (wo_4_iiiiiiirrrirrrrrir a_this_plan x_this_plan_cycle x_this_plan_green x_this_plan_rule x_this_plan_least x_this_plan_away x_this_plan_statements x_this_plan_kinds a_this_plan_calm a_this_plan_pace a_this_plan_trusts x_this_plan_walkers a_this_plan_kindOf a_this_plan_comesAt a_this_plan_comers a_this_plan_names a_this_plan_code v153 a_this_plan_spans), (wi_0_1600_0 a_this_plan_code cy f154)] H := hP
              replace hD := k_D hP hD
              obtain ⟨h155, h156, h157, h158, h159, h160⟩ := hw
              replace hq := lf_p1 hq h160
              replace hq := lf_p1 hq rfl
              replace hq := lf_p1 hq rfl
              replace hq := lf_p1 hq rfl
              replace hq := lf_p1 hq rfl
              replace hq := lf_p1 hq rfl
              refine lv_aload_n hx hb dX5_part_47 rfl (lv_at hl 0 rfl) ?_
              refine lv_bipush (v := 41) hx hb dX5_part_48 rfl ?_
              refine k_jvm hP hD hS hA [0, 1] [false, false, true, true] rfl rfl rfl 0 0 (Nat.le_of_ble_eq_true rfl) (Nat.le_of_ble_eq_true rfl) (fun hPc hDc => k_runV (As := [.int 41]) (rest := []) C0 hZ hS hA (s_X5_need l dC dI cy sq a_this a_this_text g_this_text x_this_length v148 v149 v150 x_this_allowed a_this_plan v151 v152 41 hg_this_text (ib_w 0 1600 hx_this_length rfl) (ib_w 0 1600 h155 rfl) (ib_w 0 1600 h156 rfl) (ib_w 0 4 h157 rfl) (fun hq9 => ib_w 0 1599 (h159 hq9) rfl)) mV_X5_48 hPc hDc rfl rfl rfl hl rfl rfl (Nat.le_of_ble_eq_true rfl) ⟨(Nat.le_of_ble_eq_true rfl), (Nat.le_of_ble_eq_true rfl)⟩ ⟨(Nat.le_of_ble_eq_true rfl), (Nat.le_of_ble_eq_true rfl)⟩ dX5_part_50) (fun u162 H locs hw hP hD hS => ?_)
              obtain ⟨v163, v164, v165, v166, v167⟩ := u162
              try dsimp only at hP hD hw
              replace hP : va_P (dC, dI) vwCl [(wo_4_iiiiiiirrrirrrrrir a_this_plan x_this_plan_cycle x_this_plan_green x_this_plan_rule x_this_plan_least x_this_plan_away x_this_plan_statements x_this_plan_kinds a_this_plan_calm a_this_plan_pace a_this_plan_trusts x_this_plan_walkers a_this_plan_kindOf a_this_plan_comesAt a_this_plan_comers a_this_plan_names a_this_plan_code v153 a_this_plan_spans), (wi_0_1600_0 a_this_plan_code cy f154), (wo_5_riiiiirii a_this a_this_text x_this_length v163 v164 v165 x_this_allowed a_this_plan v166 v167), (wi_0_1600_0 a_this_text cy g_this_text)] H := hP
              replace hD := k_D hP hD
              obtain ⟨h168, h169, h170, h171, h172⟩ := hw
              have h172 := by have h9 := h172; try simp only [show (41 : Int32).toInt = (41 : Int) from rfl] at h9; exact h9
              replace hq := lf_p1 hq h172
              replace hq := lf_p1 hq rfl
              replace hq := lf_p1 hq rfl
              replace hq := lf_p1 hq rfl
              refine lv_goto (tgt := 142) hx hb dX5_part_53 rfl ?_
              subst hQ; exact k_vret hx hb hr hlk ((v163, v164, v165, v166, v167, v153, f154)) hS ⟨ib_w 0 1600 h168 rfl, ib_w 0 1600 h169 rfl, ib_w 0 4 h170 rfl, ib_w 0 1600 h158 rfl, fun hq9 => ib_w 0 1599 (h171 hq9) rfl, (hO.symm.trans (by exact hq))⟩ (hP.sub [2, 3, 0, 1] rfl) (hD.sub [2, 3, 0, 1] rfl rfl) (Nat.le_of_ble_eq_true rfl) (Nat.le_of_ble_eq_true rfl) dX5_part_142
  · as_aux_lemma =>
      replace hq := lf_pos hq (lf_eq (lf_rf x_this_sort) (lf_lc 2 (2 : Int) rfl) c16)
      have h173 := ib_eq hx_this_sort (ib_c 2 2 2 rfl) c16
      have h174 : ib x_this_sort 2 2 := ib_w 2 2 h173.1 rfl
      have h175 : ib x_this_at 0 1599 := ib_w 0 1599 (ib_two hx_this_at (hc0_this (ib_nz h174 rfl))) rfl
      refine lv_aload_n hx hb dX5_part_8 rfl (lv_at hl 0 rfl) ?_
      refine lv_aload_n hx hb dX5_part_9 rfl (lv_at hl 0 rfl) ?_
      refine lv_iconst (v := 0) hx hb dX5_part_10 rfl ?_
      refine lv_sipush (v := 9999) hx hb dX5_part_11 rfl ?_
      refine k_jim hP hD hS hA [0, 1] [false, false, true, true] rfl rfl rfl 0 0 (Nat.le_of_ble_eq_true rfl) (Nat.le_of_ble_eq_true rfl) (fun hPc hDc => k_runV (As := [.int 0, .int 9999]) (rest := [.ref a_this]) C0 hZ hS hA (s_X5_number_a0_0_a1_9999 l dC dI cy sq a_this a_this_text g_this_text x_this_length x_this_at x_this_behind x_this_sort x_this_allowed a_this_plan x_this_fault x_this_place hg_this_text (ib_w 0 1600 hx_this_length rfl) (ib_w 0 1600 h175 rfl) (ib_w 0 1600 hx_this_behind rfl) (ib_w 0 4 h174 rfl) (fun _ => ib_w 0 1599 h175 rfl)) mV_X5_168 hPc hDc rfl rfl rfl hl rfl rfl (Nat.le_of_ble_eq_true rfl) ⟨(Nat.le_of_ble_eq_true rfl), (Nat.le_of_ble_eq_true rfl)⟩ ⟨(Nat.le_of_ble_eq_true rfl), (Nat.le_of_ble_eq_true rfl)⟩ dX5_part_14) (fun r176 u177 H locs hw hP hD hS => ?_)
      obtain ⟨v178, v179, v180, v181, v182⟩ := u177
      try dsimp only at hP hD hw
      replace hP : va_P (dC, dI) vwCl [(wo_4_iiiiiiirrrirrrrrir a_this_plan x_this_plan_cycle x_this_plan_green x_this_plan_rule x_this_plan_least x_this_plan_away x_this_plan_statements x_this_plan_kinds a_this_plan_calm a_this_plan_pace a_this_plan_trusts x_this_plan_walkers a_this_plan_kindOf a_this_plan_comesAt a_this_plan_comers a_this_plan_names a_this_plan_code x_this_plan_size a_this_plan_spans), (wi_0_1600_0 a_this_plan_code cy g_this_plan_code), (wo_5_riiiiirii a_this a_this_text x_this_length v178 v179 v180 x_this_allowed a_this_plan v181 v182), (wi_0_1600_0 a_this_text cy g_this_text)] H := hP
      replace hD := k_D hP hD
      obtain ⟨h183, h184, h185, h186, h187, h188⟩ := hw
      replace hq := lf_p1 hq h188
      replace hq := lf_p1 hq rfl
      replace hq := lf_p1 hq rfl
      replace hq := lf_p1 hq rfl
      replace hq := lf_p1 hq rfl
      refine k_jvm hP hD hS hA [2, 0, 1] [false, false, false, true] rfl rfl rfl 0 0 (Nat.le_of_ble_eq_true rfl) (Nat.le_of_ble_eq_true rfl) (fun hPc hDc => k_runV (As := [.int r176]) (rest := []) C0 hZ hS hA (s_X5_emit l dC dI cy sq a_this a_this_text x_this_length v178 v179 v180 x_this_allowed a_this_plan x_this_plan_cycle x_this_plan_green x_this_plan_rule x_this_plan_least x_this_plan_away x_this_plan_statements x_this_plan_kinds a_this_plan_calm a_this_plan_pace a_this_plan_trusts x_this_plan_walkers a_this_plan_kindOf a_this_plan_comesAt a_this_plan_comers a_this_plan_names a_this_plan_code g_this_plan_code x_this_plan_size a_this_plan_spans v181 v182 r176 (ib_w 0 1600 hx_this_plan_size rfl)) mV_X5_199 hPc hDc rfl rfl rfl hl rfl rfl (Nat.le_of_ble_eq_true rfl) ⟨(Nat.le_of_ble_eq_true rfl), (Nat.le_of_ble_eq_true rfl)⟩ ⟨(Nat.le_of_ble_eq_true rfl), (Nat.le_of_ble_eq_true rfl)⟩ dX5_part_17) (fun u190 H locs hw hP hD hS => ?_)
      obtain ⟨v191, f192⟩ := u190
      try dsimp only at hP hD hw
      replace hP : va_P (dC, dI) vwCl [(wi_0_1600_0 a_this_text cy g_this_text), (wo_5_riiiiirii a_this a_this_text x_this_length v178 v179 v180 x_this_allowed a_this_plan v181 v182), (wo_4_iiiiiiirrrirrrrrir a_this_plan x_this_plan_cycle x_this_plan_green x_this_plan_rule x_this_plan_least x_this_plan_away x_this_plan_statements x_this_plan_kinds a_this_plan_calm a_this_plan_pace a_this_plan_trusts x_this_plan_walkers a_this_plan_kindOf a_this_plan_comesAt a_this_plan_comers a_this_plan_names a_this_plan_code v191 a_this_plan_spans), (wi_0_1600_0 a_this_plan_code cy f192)] H := hP
      replace hD := k_D hP hD
      obtain ⟨h193, h194⟩ := hw
      replace hq := lf_p1 hq h194
      refine lv_goto (tgt := 142) hx hb dX5_part_20 rfl ?_
      subst hQ; exact k_vret hx hb hr hlk ((v178, v179, v180, v181, v182, v191, f192)) hS ⟨ib_w 0 1600 h184 rfl, ib_w 0 1600 h185 rfl, ib_w 0 4 h186 rfl, ib_w 0 1600 h193 rfl, fun hq9 => ib_w 0 1599 (h187 hq9) rfl, (hO.symm.trans (by exact hq))⟩ (hP.sub [1, 0, 2, 3] rfl) (hD.sub [1, 0, 2, 3] rfl rfl) (Nat.le_of_ble_eq_true rfl) (Nat.le_of_ble_eq_true rfl) dX5_part_142
set_option maxHeartbeats 4000000 in
set_option maxRecDepth 100000 in
theorem s_X5_product_a0_0 (l : Launch) (dC : Nat → ClassId) (dI : Nat → Nat → Nat) (cy : Nat → ClassId) (sq : Nat → Nat) (a_this : Nat) (a_this_text : Nat) (g_this_text : Nat → Int32) (x_this_length : Int32) (x_this_at : Int32) (x_this_behind : Int32) (x_this_sort : Int32) (x_this_allowed : Int32) (a_this_plan : Nat) (x_this_plan_cycle : Int32) (x_this_plan_green : Int32) (x_this_plan_rule : Int32) (x_this_plan_least : Int32) (x_this_plan_away : Int32) (x_this_plan_statements : Int32) (x_this_plan_kinds : Int32) (a_this_plan_calm : Nat) (a_this_plan_pace : Nat) (a_this_plan_trusts : Nat) (x_this_plan_walkers : Int32) (a_this_plan_kindOf : Nat) (a_this_plan_comesAt : Nat) (a_this_plan_comers : Nat) (a_this_plan_names : Nat) (a_this_plan_code : Nat) (g_this_plan_code : Nat → Int32) (x_this_plan_size : Int32) (a_this_plan_spans : Nat) (x_this_fault : Int32) (x_this_place : Int32) (hg_this_text : ia g_this_text 1600 0 255) (hx_this_length : ib x_this_length 0 1600) (hx_this_at : ib x_this_at 0 1600) (hx_this_behind : ib x_this_behind 0 1600) (hx_this_sort : ib x_this_sort 0 4) (hx_this_plan_size : ib x_this_plan_size 0 1600) (hc0_this : ¬ x_this_sort = 0 → ib x_this_at 0 1599) : k_Met l yX5_product cX5_product 4 none { frames := 31, cells := 0, slots := 0, locals := 743 } dC dI cy sq [.ref a_this, .int 0] [(wo_5_riiiiirii a_this a_this_text x_this_length x_this_at x_this_behind x_this_sort x_this_allowed a_this_plan x_this_fault x_this_place), (wi_0_1600_0 a_this_text cy g_this_text), (wo_4_iiiiiiirrrirrrrrir a_this_plan x_this_plan_cycle x_this_plan_green x_this_plan_rule x_this_plan_least x_this_plan_away x_this_plan_statements x_this_plan_kinds a_this_plan_calm a_this_plan_pace a_this_plan_trusts x_this_plan_walkers a_this_plan_kindOf a_this_plan_comesAt a_this_plan_comers a_this_plan_names a_this_plan_code x_this_plan_size a_this_plan_spans), (wi_0_1600_0 a_this_plan_code cy g_this_plan_code)] (k_Qv dC dI (fun (u : Int32 × Int32 × Int32 × Int32 × Int32 × Int32 × (Nat → Int32)) => match u with | (n0, n1, n2, n3, n4, n5, n6) => ib n0 0 1600 ∧ ib n1 0 1600 ∧ ib n2 0 4 ∧ ib n5 0 1600 ∧ (¬ n2 = 0 → ib n0 0 1599) ∧ (F_X5_product_a0_0 (lf_A g_this_text) (Int32.toInt x_this_length) (Int32.toInt x_this_at) (Int32.toInt x_this_behind) (Int32.toInt x_this_sort) (Int32.toInt x_this_allowed) (lf_A g_this_plan_code) (Int32.toInt x_this_plan_size) (Int32.toInt x_this_fault) (Int32.toInt x_this_place) = ((Int32.toInt n0), (Int32.toInt n1), (Int32.toInt n2), (Int32.toInt n3), (Int32.toInt n4), (Int32.toInt n5), (lf_A n6)))) (fun u : Int32 × Int32 × Int32 × Int32 × Int32 × Int32 × (Nat → Int32) => match u with | (n0, n1, n2, n3, n4, n5, n6) => [(wo_5_riiiiirii a_this a_this_text x_this_length n0 n1 n2 x_this_allowed a_this_plan n3 n4), (wi_0_1600_0 a_this_text cy g_this_text), (wo_4_iiiiiiirrrirrrrrir a_this_plan x_this_plan_cycle x_this_plan_green x_this_plan_rule x_this_plan_least x_this_plan_away x_this_plan_statements x_this_plan_kinds a_this_plan_calm a_this_plan_pace a_this_plan_trusts x_this_plan_walkers a_this_plan_kindOf a_this_plan_comesAt a_this_plan_comers a_this_plan_names a_this_plan_code n5 a_this_plan_spans), (wi_0_1600_0 a_this_plan_code cy n6)])) := by
  refine k_ofW2 (by decide +kernel) (Nat.le_of_ble_eq_true rfl) ?_
  intro p e s m below meth c A ls H locs args Q hQ C0 hZ hr hlk hin hP hD hA hS hl
  have C0 : k_cx p s m args c cX5_product 4 RX5 dC dI cy sq := C0
  have hx := C0.1
  have hb := C0.2.1
  have hl : lv_has ls 4 [(0, .ref a_this), (1, .int 0)] := hl
  obtain ⟨O, hO⟩ : ∃ o, o = F_X5_product_a0_0 (lf_A g_this_text) (Int32.toInt x_this_length) (Int32.toInt x_this_at) (Int32.toInt x_this_behind) (Int32.toInt x_this_sort) (Int32.toInt x_this_allowed) (lf_A g_this_plan_code) (Int32.toInt x_this_plan_size) (Int32.toInt x_this_fault) (Int32.toInt x_this_place) := ⟨_, rfl⟩
  have hq := hO
  unfold F_X5_product_a0_0 at hq
  have jn7 : ∀ (n : Nat) (J7_c0_2 : Int32) (J7_c0_3 : Int32) (J7_c0_4 : Int32) (J7_c0_7 : Int32) (J7_c0_8 : Int32) (J7_c2_16 : Int32) (J7_a3 : Nat → Int32) (J7_l2 : Int32) (H : Heap) (locs : List Loc) (ls : Array Slot), ib J7_c0_2 0 1600 → ib J7_c0_3 0 1600 → ib J7_c0_4 0 4 → ib J7_c2_16 0 1600 → ib J7_l2 0 1600 → (¬ J7_c0_4 = 0 → ib J7_c0_2 0 1599) → (O = F_X5_product_a0_0_7 (lf_A g_this_text) (Int32.toInt x_this_length) (Int32.toInt x_this_allowed) n (Int32.toInt J7_c0_2) (Int32.toInt J7_c0_3) (Int32.toInt J7_c0_4) (Int32.toInt J7_c0_7) (Int32.toInt J7_c0_8) (Int32.toInt J7_c2_16) (lf_A J7_a3) (Int32.toInt J7_l2)) → 1601 ≤ J7_l2.toInt + (n : Int) → va_P (dC, dI) vwCl [(wo_5_riiiiirii a_this a_this_text x_this_length J7_c0_2 J7_c0_3 J7_c0_4 x_this_allowed a_this_plan J7_c0_7 J7_c0_8), (wi_0_1600_0 a_this_text cy g_this_text), (wo_4_iiiiiiirrrirrrrrir a_this_plan x_this_plan_cycle x_this_plan_green x_this_plan_rule x_this_plan_least x_this_plan_away x_this_plan_statements x_this_plan_kinds a_this_plan_calm a_this_plan_pace a_this_plan_trusts x_this_plan_walkers a_this_plan_kindOf a_this_plan_comesAt a_this_plan_comers a_this_plan_names a_this_plan_code J7_c2_16 a_this_plan_spans), (wi_0_1600_0 a_this_plan_code cy J7_a3)] H → va_D A [(wo_5_riiiiirii a_this a_this_text x_this_length J7_c0_2 J7_c0_3 J7_c0_4 x_this_allowed a_this_plan J7_c0_7 J7_c0_8), (wi_0_1600_0 a_this_text cy g_this_text), (wo_4_iiiiiiirrrirrrrrir a_this_plan x_this_plan_cycle x_this_plan_green x_this_plan_rule x_this_plan_least x_this_plan_away x_this_plan_statements x_this_plan_kinds a_this_plan_calm a_this_plan_pace a_this_plan_trusts x_this_plan_walkers a_this_plan_kindOf a_this_plan_comesAt a_this_plan_comers a_this_plan_names a_this_plan_code J7_c2_16 a_this_plan_spans), (wi_0_1600_0 a_this_plan_code cy J7_a3)] → va_S A s.heap H locs → lv_has ls 4 [(0, .ref a_this), (1, .int 0), (2, .int J7_l2)] → W p l e { frames := 31, cells := 0, slots := 0, locals := 743 } s m args below meth c H locs 0 0 Q (F0 m 7 ls []) := by
    as_aux_lemma =>
      intro n
      induction n with
      | zero =>
        intro J7_c0_2 J7_c0_3 J7_c0_4 J7_c0_7 J7_c0_8 J7_c2_16 J7_a3 J7_l2 H locs ls hJ7_c0_2 hJ7_c0_3 hJ7_c0_4 hJ7_c2_16 hJ7_l2 hJ7_ic0_0 hq hm
        exact absurd hm (by have := hJ7_l2; unfold ib at this; omega)
      | succ n ih =>
        intro J7_c0_2 J7_c0_3 J7_c0_4 J7_c0_7 J7_c0_8 J7_c2_16 J7_a3 J7_l2 H locs ls hJ7_c0_2 hJ7_c0_3 hJ7_c0_4 hJ7_c2_16 hJ7_l2 hJ7_ic0_0 hq hm7 hP hD hS hl
        have ih7 := ih
        obtain ⟨K7, hK7⟩ : ∃ K, K = F_X5_product_a0_0_7 (lf_A g_this_text) (Int32.toInt x_this_length) (Int32.toInt x_this_allowed) n := ⟨_, rfl⟩
        have hq : O = F_X5_product_a0_0_7b (lf_A g_this_text) (Int32.toInt x_this_length) (Int32.toInt x_this_allowed) K7 (Int32.toInt J7_c0_2) (Int32.toInt J7_c0_3) (Int32.toInt J7_c0_4) (Int32.toInt J7_c0_7) (Int32.toInt J7_c0_8) (Int32.toInt J7_c2_16) (lf_A J7_a3) (Int32.toInt J7_l2) := by rw [hK7]; exact hq
        unfold F_X5_product_a0_0_7b at hq
        have jn48 : ∀ (J48_s0 : Int32) (H : Heap) (locs : List Loc) (ls : Array Slot), ib J7_l2 0 1599 → ib J7_c0_2 0 1599 → ib J7_c0_3 0 1600 → ib J7_c0_4 3 3 → ib J7_c2_16 0 1600 → ib J48_s0 (-23) (-22) → (O = F_X5_product_a0_0_48 (lf_A g_this_text) (Int32.toInt x_this_length) (Int32.toInt x_this_allowed) (Int32.toInt J7_c0_3) (Int32.toInt J7_c0_7) (Int32.toInt J7_c0_8) (Int32.toInt J7_c2_16) (lf_A J7_a3) (Int32.toInt J7_l2) K7 (Int32.toInt J48_s0)) → va_P (dC, dI) vwCl [(wo_5_riiiiirii a_this a_this_text x_this_length J7_c0_2 J7_c0_3 J7_c0_4 x_this_allowed a_this_plan J7_c0_7 J7_c0_8), (wi_0_1600_0 a_this_text cy g_this_text), (wo_4_iiiiiiirrrirrrrrir a_this_plan x_this_plan_cycle x_this_plan_green x_this_plan_rule x_this_plan_least x_this_plan_away x_this_plan_statements x_this_plan_kinds a_this_plan_calm a_this_plan_pace a_this_plan_trusts x_this_plan_walkers a_this_plan_kindOf a_this_plan_comesAt a_this_plan_comers a_this_plan_names a_this_plan_code J7_c2_16 a_this_plan_spans), (wi_0_1600_0 a_this_plan_code cy J7_a3)] H → va_D A [(wo_5_riiiiirii a_this a_this_text x_this_length J7_c0_2 J7_c0_3 J7_c0_4 x_this_allowed a_this_plan J7_c0_7 J7_c0_8), (wi_0_1600_0 a_this_text cy g_this_text), (wo_4_iiiiiiirrrirrrrrir a_this_plan x_this_plan_cycle x_this_plan_green x_this_plan_rule x_this_plan_least x_this_plan_away x_this_plan_statements x_this_plan_kinds a_this_plan_calm a_this_plan_pace a_this_plan_trusts x_this_plan_walkers a_this_plan_kindOf a_this_plan_comesAt a_this_plan_comers a_this_plan_names a_this_plan_code J7_c2_16 a_this_plan_spans), (wi_0_1600_0 a_this_plan_code cy J7_a3)] → va_S A s.heap H locs → lv_has ls 4 [(0, .ref a_this), (1, .int 0), (2, .int J7_l2)] → W p l e { frames := 31, cells := 0, slots := 0, locals := 743 } s m args below meth c H locs 0 0 Q (F0 m 48 ls [.int J48_s0]) := by
          as_aux_lemma =>
            intro J48_s0 H locs ls hK48_J7_l2 hK48_J7_c0_2 hK48_J7_c0_3 hK48_J7_c0_4 hK48_J7_c2_16 hJ48_s0 hq hP hD hS hl
            unfold F_X5_product_a0_0_48 at hq
            refine lv_istore_n (lv' := [(3, .int J48_s0), (0, .ref a_this), (1, .int 0), (2, .int J7_l2)]) hx hb dX5_product_48 rfl hl (Nat.le_of_ble_eq_true rfl) rfl (fun ls hl => ?_)
            refine lv_aload_n hx hb dX5_product_49 rfl (lv_at hl 1 rfl) ?_
            refine lv_aload_n hx hb dX5_product_50 rfl (lv_at hl 1 rfl) ?_
            refine k_get C0 fg_X5_18 hP 0 rfl rfl dX5_product_51 ?_
            refine k_jvm hP hD hS hA [0, 1] [false, false, true, true] rfl rfl rfl 0 0 (Nat.le_of_ble_eq_true rfl) (Nat.le_of_ble_eq_true rfl) (fun hPc hDc => k_runV (As := [.int J7_c0_3]) (rest := []) C0 hZ hS hA (s_X5_moveTo l dC dI cy sq a_this a_this_text g_this_text x_this_length J7_c0_2 J7_c0_3 J7_c0_4 x_this_allowed a_this_plan J7_c0_7 J7_c0_8 J7_c0_3 hg_this_text (ib_w 0 1600 hx_this_length rfl) (ib_w 0 1600 hK48_J7_c0_3 rfl)) mV_X5_86 hPc hDc rfl rfl rfl hl rfl rfl (Nat.le_of_ble_eq_true rfl) ⟨(Nat.le_of_ble_eq_true rfl), (Nat.le_of_ble_eq_true rfl)⟩ ⟨(Nat.le_of_ble_eq_true rfl), (Nat.le_of_ble_eq_true rfl)⟩ dX5_product_54) (fun u2 H locs hw hP hD hS => ?_)
            obtain ⟨v3, v4, v5⟩ := u2
            try dsimp only at hP hD hw
            replace hP : va_P (dC, dI) vwCl [(wo_4_iiiiiiirrrirrrrrir a_this_plan x_this_plan_cycle x_this_plan_green x_this_plan_rule x_this_plan_least x_this_plan_away x_this_plan_statements x_this_plan_kinds a_this_plan_calm a_this_plan_pace a_this_plan_trusts x_this_plan_walkers a_this_plan_kindOf a_this_plan_comesAt a_this_plan_comers a_this_plan_names a_this_plan_code J7_c2_16 a_this_plan_spans), (wi_0_1600_0 a_this_plan_code cy J7_a3), (wo_5_riiiiirii a_this a_this_text x_this_length v3 v4 v5 x_this_allowed a_this_plan J7_c0_7 J7_c0_8), (wi_0_1600_0 a_this_text cy g_this_text)] H := hP
            replace hD := k_D hP hD
            obtain ⟨h6, h7, h8, h9, h10⟩ := hw
            replace hq := lf_p1 hq h10
            replace hq := lf_p1 hq rfl
            refine lv_aload_n hx hb dX5_product_57 rfl (lv_at hl 1 rfl) ?_
            refine lv_iload_n hx hb dX5_product_58 rfl (lv_at hl 2 rfl) ?_
            refine k_jvm hP hD hS hA [2, 3, 0, 1] [] rfl rfl rfl 0 0 (Nat.le_of_ble_eq_true rfl) (Nat.le_of_ble_eq_true rfl) (fun hPc hDc => k_runV (As := [.int 0]) (rest := []) C0 hZ hS hA (s_X5_part_a0_0 l dC dI cy sq a_this a_this_text g_this_text x_this_length v3 v4 v5 x_this_allowed a_this_plan x_this_plan_cycle x_this_plan_green x_this_plan_rule x_this_plan_least x_this_plan_away x_this_plan_statements x_this_plan_kinds a_this_plan_calm a_this_plan_pace a_this_plan_trusts x_this_plan_walkers a_this_plan_kindOf a_this_plan_comesAt a_this_plan_comers a_this_plan_names a_this_plan_code J7_a3 J7_c2_16 a_this_plan_spans J7_c0_7 J7_c0_8 hg_this_text (ib_w 0 1600 hx_this_length rfl) (ib_w 0 1600 h6 rfl) (ib_w 0 1600 h7 rfl) (ib_w 0 4 h8 rfl) (ib_w 0 1600 hK48_J7_c2_16 rfl) (fun hq9 => ib_w 0 1599 (h9 hq9) rfl)) mV_X5_225 hPc hDc rfl rfl rfl hl rfl rfl (Nat.le_of_ble_eq_true rfl) ⟨(Nat.le_of_ble_eq_true rfl), (Nat.le_of_ble_eq_true rfl)⟩ ⟨(Nat.le_of_ble_eq_true rfl), (Nat.le_of_ble_eq_true rfl)⟩ dX5_product_59) (fun u12 H locs hw hP hD hS => ?_)
            obtain ⟨v13, v14, v15, v16, v17, v18, f19⟩ := u12
            try dsimp only at hP hD hw
            replace hP : va_P (dC, dI) vwCl [(wo_5_riiiiirii a_this a_this_text x_this_length v13 v14 v15 x_this_allowed a_this_plan v16 v17), (wi_0_1600_0 a_this_text cy g_this_text), (wo_4_iiiiiiirrrirrrrrir a_this_plan x_this_plan_cycle x_this_plan_green x_this_plan_rule x_this_plan_least x_this_plan_away x_this_plan_statements x_this_plan_kinds a_this_plan_calm a_this_plan_pace a_this_plan_trusts x_this_plan_walkers a_this_plan_kindOf a_this_plan_comesAt a_this_plan_comers a_this_plan_names a_this_plan_code v18 a_this_plan_spans), (wi_0_1600_0 a_this_plan_code cy f19)] H := hP
            replace hD := k_D hP hD
            obtain ⟨h20, h21, h22, h23, h24, h25⟩ := hw
            replace hq := lf_p1 hq h25
            replace hq := lf_p1 hq rfl
            replace hq := lf_p1 hq rfl
            replace hq := lf_p1 hq rfl
            replace hq := lf_p1 hq rfl
            replace hq := lf_p1 hq rfl
            refine lv_aload_n hx hb dX5_product_62 rfl (lv_at hl 1 rfl) ?_
            refine lv_iload_n hx hb dX5_product_63 rfl (lv_at hl 0 rfl) ?_
            refine k_jvm hP hD hS hA [0, 2, 3] [false, true] rfl rfl rfl 0 0 (Nat.le_of_ble_eq_true rfl) (Nat.le_of_ble_eq_true rfl) (fun hPc hDc => k_runV (As := [.int J48_s0]) (rest := []) C0 hZ hS hA (s_X5_emit l dC dI cy sq a_this a_this_text x_this_length v13 v14 v15 x_this_allowed a_this_plan x_this_plan_cycle x_this_plan_green x_this_plan_rule x_this_plan_least x_this_plan_away x_this_plan_statements x_this_plan_kinds a_this_plan_calm a_this_plan_pace a_this_plan_trusts x_this_plan_walkers a_this_plan_kindOf a_this_plan_comesAt a_this_plan_comers a_this_plan_names a_this_plan_code f19 v18 a_this_plan_spans v16 v17 J48_s0 (ib_w 0 1600 h23 rfl)) mV_X5_199 hPc hDc rfl rfl rfl hl rfl rfl (Nat.le_of_ble_eq_true rfl) ⟨(Nat.le_of_ble_eq_true rfl), (Nat.le_of_ble_eq_true rfl)⟩ ⟨(Nat.le_of_ble_eq_true rfl), (Nat.le_of_ble_eq_true rfl)⟩ dX5_product_64) (fun u27 H locs hw hP hD hS => ?_)
            obtain ⟨v28, f29⟩ := u27
            try dsimp only at hP hD hw
            replace hP : va_P (dC, dI) vwCl [(wi_0_1600_0 a_this_text cy g_this_text), (wo_5_riiiiirii a_this a_this_text x_this_length v13 v14 v15 x_this_allowed a_this_plan v16 v17), (wo_4_iiiiiiirrrirrrrrir a_this_plan x_this_plan_cycle x_this_plan_green x_this_plan_rule x_this_plan_least x_this_plan_away x_this_plan_statements x_this_plan_kinds a_this_plan_calm a_this_plan_pace a_this_plan_trusts x_this_plan_walkers a_this_plan_kindOf a_this_plan_comesAt a_this_plan_comers a_this_plan_names a_this_plan_code v28 a_this_plan_spans), (wi_0_1600_0 a_this_plan_code cy f29)] H := hP
            replace hD := k_D hP hD
            obtain ⟨h30, h31⟩ := hw
            replace hq := lf_p1 hq h31
            obtain ⟨z32, ez32⟩ : ∃ y : Int32, y = J7_l2 + 1 := ⟨_, rfl⟩
            refine lv_iinc (v := z32) (lv' := [(2, .int z32), (3, .int J48_s0), (0, .ref a_this), (1, .int 0)]) hx hb dX5_product_67 hl (k := 3) rfl (by rw [ez32]; rfl) (Nat.le_of_ble_eq_true rfl) rfl (fun ls hl => ?_)
            have h33 := ib_add hK48_J7_l2 (ib_c 1 1 1 rfl) rfl
            rw [← ez32] at h33
            have h34 : ib z32 1 1600 := ib_w 1 1600 h33.1 rfl
            have Ez32 := lf_add h33.2 (lf_rf J7_l2) (lf_lc 1 (1 : Int) rfl)
            refine lv_goto (tgt := 7) hx hb dX5_product_70 rfl ?_
            exact ih7 v13 v14 v15 v16 v17 v28 f29 z32 H locs ls (ib_w 0 1600 h20 rfl) (ib_w 0 1600 h21 rfl) (ib_w 0 4 h22 rfl) (ib_w 0 1600 h30 rfl) (ib_w 0 1600 h34 rfl) (fun hq9 => ib_w 0 1599 (h24 hq9) rfl) (by rw [← hK7]; rw [lf_u Ez32]; exact hq) (by have := h33.2; have : (1 : Int32).toInt = 1 := rfl; omega) (hP.sub [1, 0, 2, 3] rfl) (hD.sub [1, 0, 2, 3] rfl rfl) hS (lv_sub hl [2, 3, 0] rfl)
        have jn32 : ∀  (H : Heap) (locs : List Loc) (ls : Array Slot), ib J7_l2 0 1599 → ib J7_c0_2 0 1599 → ib J7_c0_3 0 1600 → ib J7_c0_4 3 3 → ib J7_c2_16 0 1600 → (O = F_X5_product_a0_0_32 (lf_A g_this_text) (Int32.toInt x_this_length) (Int32.toInt x_this_allowed) (Int32.toInt J7_c0_2) (Int32.toInt J7_c0_3) (Int32.toInt J7_c0_4) (Int32.toInt J7_c0_7) (Int32.toInt J7_c0_8) (Int32.toInt J7_c2_16) (lf_A J7_a3) (Int32.toInt J7_l2) K7 ) → va_P (dC, dI) vwCl [(wo_5_riiiiirii a_this a_this_text x_this_length J7_c0_2 J7_c0_3 J7_c0_4 x_this_allowed a_this_plan J7_c0_7 J7_c0_8), (wi_0_1600_0 a_this_text cy g_this_text), (wo_4_iiiiiiirrrirrrrrir a_this_plan x_this_plan_cycle x_this_plan_green x_this_plan_rule x_this_plan_least x_this_plan_away x_this_plan_statements x_this_plan_kinds a_this_plan_calm a_this_plan_pace a_this_plan_trusts x_this_plan_walkers a_this_plan_kindOf a_this_plan_comesAt a_this_plan_comers a_this_plan_names a_this_plan_code J7_c2_16 a_this_plan_spans), (wi_0_1600_0 a_this_plan_code cy J7_a3)] H → va_D A [(wo_5_riiiiirii a_this a_this_text x_this_length J7_c0_2 J7_c0_3 J7_c0_4 x_this_allowed a_this_plan J7_c0_7 J7_c0_8), (wi_0_1600_0 a_this_text cy g_this_text), (wo_4_iiiiiiirrrirrrrrir a_this_plan x_this_plan_cycle x_this_plan_green x_this_plan_rule x_this_plan_least x_this_plan_away x_this_plan_statements x_this_plan_kinds a_this_plan_calm a_this_plan_pace a_this_plan_trusts x_this_plan_walkers a_this_plan_kindOf a_this_plan_comesAt a_this_plan_comers a_this_plan_names a_this_plan_code J7_c2_16 a_this_plan_spans), (wi_0_1600_0 a_this_plan_code cy J7_a3)] → va_S A s.heap H locs → lv_has ls 4 [(0, .ref a_this), (1, .int 0), (2, .int J7_l2)] → W p l e { frames := 31, cells := 0, slots := 0, locals := 743 } s m args below meth c H locs 0 0 Q (F0 m 32 ls []) := by
          as_aux_lemma =>
            intro H locs ls hK32_J7_l2 hK32_J7_c0_2 hK32_J7_c0_3 hK32_J7_c0_4 hK32_J7_c2_16 hq hP hD hS hl
            unfold F_X5_product_a0_0_32 at hq
            refine lv_aload_n hx hb dX5_product_32 rfl (lv_at hl 0 rfl) ?_
            refine lv_bipush (v := 42) hx hb dX5_product_33 rfl ?_
            refine k_jim hP hD hS hA [0, 1] [false, false, true, true] rfl rfl rfl 0 0 (Nat.le_of_ble_eq_true rfl) (Nat.le_of_ble_eq_true rfl) (fun hPc hDc => k_runV (As := [.int 42]) (rest := []) C0 hZ hS hA (s_X5_sees l dC dI cy sq a_this a_this_text g_this_text x_this_length J7_c0_2 J7_c0_3 J7_c0_4 x_this_allowed a_this_plan J7_c0_7 J7_c0_8 42 hg_this_text (ib_w 0 1600 hK32_J7_c0_2 rfl) (ib_w 0 4 hK32_J7_c0_4 rfl) (fun _ => ib_w 0 1599 hK32_J7_c0_2 rfl)) mV_X5_213 hPc hDc rfl rfl rfl hl rfl rfl (Nat.le_of_ble_eq_true rfl) ⟨(Nat.le_of_ble_eq_true rfl), (Nat.le_of_ble_eq_true rfl)⟩ ⟨(Nat.le_of_ble_eq_true rfl), (Nat.le_of_ble_eq_true rfl)⟩ dX5_product_35) (fun r35 u36 H locs hw hP hD hS => ?_)
            try dsimp only at hP hD hw
            replace hP : va_P (dC, dI) vwCl [(wo_4_iiiiiiirrrirrrrrir a_this_plan x_this_plan_cycle x_this_plan_green x_this_plan_rule x_this_plan_least x_this_plan_away x_this_plan_statements x_this_plan_kinds a_this_plan_calm a_this_plan_pace a_this_plan_trusts x_this_plan_walkers a_this_plan_kindOf a_this_plan_comesAt a_this_plan_comers a_this_plan_names a_this_plan_code J7_c2_16 a_this_plan_spans), (wi_0_1600_0 a_this_plan_code cy J7_a3), (wo_5_riiiiirii a_this a_this_text x_this_length J7_c0_2 J7_c0_3 J7_c0_4 x_this_allowed a_this_plan J7_c0_7 J7_c0_8), (wi_0_1600_0 a_this_text cy g_this_text)] H := hP
            replace hD := k_D hP hD
            obtain ⟨h37, h38, h39, h40, h41⟩ := hw
            have h41 := by have h9 := h41; try simp only [show (42 : Int32).toInt = (42 : Int) from rfl] at h9; exact h9
            replace hq := lf_b1 hq h41
            refine lv_if_eq (tgt := 46) hx hb dX5_product_38 rfl (fun c42 => ?_) (fun c42 => ?_)
            · replace hq := lf_pos hq (lf_eq (lf_rf r35) (lf_lc 0 (0 : Int) rfl) c42)
              have h43 := ib_eq h37 (ib_c 0 0 0 rfl) c42
              have h44 : ib r35 0 0 := ib_w 0 0 h43.1 rfl
              refine lv_bipush (v := (-23)) hx hb dX5_product_46 rfl ?_
              exact jn48 (-23) H locs ls (ib_w 0 1599 hK32_J7_l2 rfl) (ib_w 0 1599 hK32_J7_c0_2 rfl) (ib_w 0 1600 hK32_J7_c0_3 rfl) (ib_w 3 3 hK32_J7_c0_4 rfl) (ib_w 0 1600 hK32_J7_c2_16 rfl) (ib_w (-23) (-22) (ib_c (-23) (-23) (-23) rfl) rfl) (by try simp only [show ((-23) : Int32).toInt = (-23 : Int) from rfl]; exact hq) (hP.sub [2, 3, 0, 1] rfl) (hD.sub [2, 3, 0, 1] rfl rfl) hS (lv_sub hl [0, 1, 2] rfl)
            · replace hq := lf_neg hq (lf_ne (lf_rf r35) (lf_lc 0 (0 : Int) rfl) c42)
              have h45 : ib r35 1 1 := ib_w 1 1 (ib_ne_lo 0 h37 rfl c42) rfl
              refine lv_bipush (v := (-22)) hx hb dX5_product_41 rfl ?_
              refine lv_goto (tgt := 48) hx hb dX5_product_43 rfl ?_
              exact jn48 (-22) H locs ls (ib_w 0 1599 hK32_J7_l2 rfl) (ib_w 0 1599 hK32_J7_c0_2 rfl) (ib_w 0 1600 hK32_J7_c0_3 rfl) (ib_w 3 3 hK32_J7_c0_4 rfl) (ib_w 0 1600 hK32_J7_c2_16 rfl) (ib_w (-23) (-22) (ib_c (-22) (-22) (-22) rfl) rfl) (by try simp only [show ((-22) : Int32).toInt = (-22 : Int) from rfl]; exact hq) (hP.sub [2, 3, 0, 1] rfl) (hD.sub [2, 3, 0, 1] rfl rfl) hS (lv_sub hl [0, 1, 2] rfl)
        refine lv_iload_n hx hb dX5_product_7 rfl (lv_at hl 2 rfl) ?_
        refine lv_sipush (v := 1600) hx hb dX5_product_8 rfl ?_
        refine lv_icmp_ge (tgt := 73) hx hb dX5_product_11 rfl (fun c46 => ?_) (fun c46 => ?_)
        · replace hq := lf_pos hq (lf_le (lf_lc 1600 (1600 : Int) rfl) (lf_rf J7_l2) c46)
          have h47 := ib_le (ib_c 1600 1600 1600 rfl) hJ7_l2 c46
          have h48 : ib J7_l2 1600 1600 := ib_w 1600 1600 h47.2 rfl
          subst hQ; exact k_vret hx hb hr hlk ((J7_c0_2, J7_c0_3, J7_c0_4, J7_c0_7, J7_c0_8, J7_c2_16, J7_a3)) hS ⟨ib_w 0 1600 hJ7_c0_2 rfl, ib_w 0 1600 hJ7_c0_3 rfl, ib_w 0 4 hJ7_c0_4 rfl, ib_w 0 1600 hJ7_c2_16 rfl, fun hq9 => ib_w 0 1599 (hJ7_ic0_0 hq9) rfl, (hO.symm.trans (by exact hq))⟩ hP hD (Nat.le_of_ble_eq_true rfl) (Nat.le_of_ble_eq_true rfl) dX5_product_73
        · as_aux_lemma =>
            replace hq := lf_neg hq (lf_nle (lf_lc 1600 (1600 : Int) rfl) (lf_rf J7_l2) c46)
            have h49 := ib_nle (ib_c 1600 1600 1600 rfl) hJ7_l2 c46
            have h50 : ib J7_l2 0 1599 := ib_w 0 1599 h49.2 rfl
            refine lv_aload_n hx hb dX5_product_14 rfl (lv_at hl 0 rfl) ?_
            refine lv_bipush (v := 42) hx hb dX5_product_15 rfl ?_
            refine k_jim hP hD hS hA [0, 1] [false, false, true, true] rfl rfl rfl 0 0 (Nat.le_of_ble_eq_true rfl) (Nat.le_of_ble_eq_true rfl) (fun hPc hDc => k_runV (As := [.int 42]) (rest := []) C0 hZ hS hA (s_X5_sees l dC dI cy sq a_this a_this_text g_this_text x_this_length J7_c0_2 J7_c0_3 J7_c0_4 x_this_allowed a_this_plan J7_c0_7 J7_c0_8 42 hg_this_text (ib_w 0 1600 hJ7_c0_2 rfl) (ib_w 0 4 hJ7_c0_4 rfl) (fun hq9 => ib_w 0 1599 (hJ7_ic0_0 hq9) rfl)) mV_X5_213 hPc hDc rfl rfl rfl hl rfl rfl (Nat.le_of_ble_eq_true rfl) ⟨(Nat.le_of_ble_eq_true rfl), (Nat.le_of_ble_eq_true rfl)⟩ ⟨(Nat.le_of_ble_eq_true rfl), (Nat.le_of_ble_eq_true rfl)⟩ dX5_product_17) (fun r51 u52 H locs hw hP hD hS => ?_)
            try dsimp only at hP hD hw
            replace hP : va_P (dC, dI) vwCl [(wo_4_iiiiiiirrrirrrrrir a_this_plan x_this_plan_cycle x_this_plan_green x_this_plan_rule x_this_plan_least x_this_plan_away x_this_plan_statements x_this_plan_kinds a_this_plan_calm a_this_plan_pace a_this_plan_trusts x_this_plan_walkers a_this_plan_kindOf a_this_plan_comesAt a_this_plan_comers a_this_plan_names a_this_plan_code J7_c2_16 a_this_plan_spans), (wi_0_1600_0 a_this_plan_code cy J7_a3), (wo_5_riiiiirii a_this a_this_text x_this_length J7_c0_2 J7_c0_3 J7_c0_4 x_this_allowed a_this_plan J7_c0_7 J7_c0_8), (wi_0_1600_0 a_this_text cy g_this_text)] H := hP
            replace hD := k_D hP hD
            obtain ⟨h53, h54, h55, h56, h57⟩ := hw
            have h57 := by have h9 := h57; try simp only [show (42 : Int32).toInt = (42 : Int) from rfl] at h9; exact h9
            replace hq := lf_b1 hq h57
            refine lv_if_ne (tgt := 32) hx hb dX5_product_20 rfl (fun c58 => ?_) (fun c58 => ?_)
            · replace hq := lf_neg hq (lf_ne (lf_rf r51) (lf_lc 0 (0 : Int) rfl) c58)
              have h59 : ib r51 1 1 := ib_w 1 1 (ib_ne_lo 0 h53 rfl c58) rfl
              have h60 : ib J7_c0_2 0 1599 := ib_w 0 1599 (ib_two hJ7_c0_2 (h54 c58)) rfl
              have h61 : ib J7_c0_4 3 3 := ib_w 3 3 (ib_two hJ7_c0_4 (h55 c58)) rfl
              exact jn32  H locs ls (ib_w 0 1599 h50 rfl) (ib_w 0 1599 h60 rfl) (ib_w 0 1600 hJ7_c0_3 rfl) (ib_w 3 3 h61 rfl) (ib_w 0 1600 hJ7_c2_16 rfl) (by exact hq) (hP.sub [2, 3, 0, 1] rfl) (hD.sub [2, 3, 0, 1] rfl rfl) hS (lv_sub hl [0, 1, 2] rfl)
            · as_aux_lemma =>
                replace hq := lf_pos hq (lf_eq (lf_rf r51) (lf_lc 0 (0 : Int) rfl) c58)
                have h62 := ib_eq h53 (ib_c 0 0 0 rfl) c58
                have h63 : ib r51 0 0 := ib_w 0 0 h62.1 rfl
                refine lv_aload_n hx hb dX5_product_23 rfl (lv_at hl 0 rfl) ?_
                refine lv_bipush (v := 47) hx hb dX5_product_24 rfl ?_
                refine k_jim hP hD hS hA [2, 3] [true, true] rfl rfl rfl 0 0 (Nat.le_of_ble_eq_true rfl) (Nat.le_of_ble_eq_true rfl) (fun hPc hDc => k_runV (As := [.int 47]) (rest := []) C0 hZ hS hA (s_X5_sees l dC dI cy sq a_this a_this_text g_this_text x_this_length J7_c0_2 J7_c0_3 J7_c0_4 x_this_allowed a_this_plan J7_c0_7 J7_c0_8 47 hg_this_text (ib_w 0 1600 hJ7_c0_2 rfl) (ib_w 0 4 hJ7_c0_4 rfl) (fun hq9 => ib_w 0 1599 (hJ7_ic0_0 hq9) rfl)) mV_X5_213 hPc hDc rfl rfl rfl hl rfl rfl (Nat.le_of_ble_eq_true rfl) ⟨(Nat.le_of_ble_eq_true rfl), (Nat.le_of_ble_eq_true rfl)⟩ ⟨(Nat.le_of_ble_eq_true rfl), (Nat.le_of_ble_eq_true rfl)⟩ dX5_product_26) (fun r64 u65 H locs hw hP hD hS => ?_)
                try dsimp only at hP hD hw
                replace hP : va_P (dC, dI) vwCl [(wo_4_iiiiiiirrrirrrrrir a_this_plan x_this_plan_cycle x_this_plan_green x_this_plan_rule x_this_plan_least x_this_plan_away x_this_plan_statements x_this_plan_kinds a_this_plan_calm a_this_plan_pace a_this_plan_trusts x_this_plan_walkers a_this_plan_kindOf a_this_plan_comesAt a_this_plan_comers a_this_plan_names a_this_plan_code J7_c2_16 a_this_plan_spans), (wi_0_1600_0 a_this_plan_code cy J7_a3), (wo_5_riiiiirii a_this a_this_text x_this_length J7_c0_2 J7_c0_3 J7_c0_4 x_this_allowed a_this_plan J7_c0_7 J7_c0_8), (wi_0_1600_0 a_this_text cy g_this_text)] H := hP
                replace hD := k_D hP hD
                obtain ⟨h66, h67, h68, h69, h70⟩ := hw
                have h70 := by have h9 := h70; try simp only [show (47 : Int32).toInt = (47 : Int) from rfl] at h9; exact h9
                replace hq := lf_b1 hq h70
                refine lv_if_eq (tgt := 73) hx hb dX5_product_29 rfl (fun c71 => ?_) (fun c71 => ?_)
                · replace hq := lf_pos hq (lf_eq (lf_rf r64) (lf_lc 0 (0 : Int) rfl) c71)
                  have h72 := ib_eq h66 (ib_c 0 0 0 rfl) c71
                  have h73 : ib r64 0 0 := ib_w 0 0 h72.1 rfl
                  subst hQ; exact k_vret hx hb hr hlk ((J7_c0_2, J7_c0_3, J7_c0_4, J7_c0_7, J7_c0_8, J7_c2_16, J7_a3)) hS ⟨ib_w 0 1600 hJ7_c0_2 rfl, ib_w 0 1600 hJ7_c0_3 rfl, ib_w 0 4 hJ7_c0_4 rfl, ib_w 0 1600 hJ7_c2_16 rfl, fun hq9 => ib_w 0 1599 (hJ7_ic0_0 hq9) rfl, (hO.symm.trans (by exact hq))⟩ (hP.sub [2, 3, 0, 1] rfl) (hD.sub [2, 3, 0, 1] rfl rfl) (Nat.le_of_ble_eq_true rfl) (Nat.le_of_ble_eq_true rfl) dX5_product_73
                · replace hq := lf_neg hq (lf_ne (lf_rf r64) (lf_lc 0 (0 : Int) rfl) c71)
                  have h74 : ib r64 1 1 := ib_w 1 1 (ib_ne_lo 0 h66 rfl c71) rfl
                  have h75 : ib J7_c0_2 0 1599 := ib_w 0 1599 (ib_two hJ7_c0_2 (h67 c71)) rfl
                  have h76 : ib J7_c0_4 3 3 := ib_w 3 3 (ib_two hJ7_c0_4 (h68 c71)) rfl
                  exact jn32  H locs ls (ib_w 0 1599 h50 rfl) (ib_w 0 1599 h75 rfl) (ib_w 0 1600 hJ7_c0_3 rfl) (ib_w 3 3 h76 rfl) (ib_w 0 1600 hJ7_c2_16 rfl) (by exact hq) (hP.sub [2, 3, 0, 1] rfl) (hD.sub [2, 3, 0, 1] rfl rfl) hS (lv_sub hl [0, 1, 2] rfl)
  refine lv_aload_n hx hb dX5_product_0 rfl (lv_at hl 0 rfl) ?_
  refine lv_iload_n hx hb dX5_product_1 rfl (lv_at hl 1 rfl) ?_
  refine k_jvm hP hD hS hA [0, 1, 2, 3] [] rfl rfl rfl 0 0 (Nat.le_of_ble_eq_true rfl) (Nat.le_of_ble_eq_true rfl) (fun hPc hDc => k_runV (As := [.int 0]) (rest := []) C0 hZ hS hA (s_X5_part_a0_0 l dC dI cy sq a_this a_this_text g_this_text x_this_length x_this_at x_this_behind x_this_sort x_this_allowed a_this_plan x_this_plan_cycle x_this_plan_green x_this_plan_rule x_this_plan_least x_this_plan_away x_this_plan_statements x_this_plan_kinds a_this_plan_calm a_this_plan_pace a_this_plan_trusts x_this_plan_walkers a_this_plan_kindOf a_this_plan_comesAt a_this_plan_comers a_this_plan_names a_this_plan_code g_this_plan_code x_this_plan_size a_this_plan_spans x_this_fault x_this_place hg_this_text (ib_w 0 1600 hx_this_length rfl) (ib_w 0 1600 hx_this_at rfl) (ib_w 0 1600 hx_this_behind rfl) (ib_w 0 4 hx_this_sort rfl) (ib_w 0 1600 hx_this_plan_size rfl) (fun hq9 => ib_w 0 1599 (hc0_this hq9) rfl)) mV_X5_225 hPc hDc rfl rfl rfl hl rfl rfl (Nat.le_of_ble_eq_true rfl) ⟨(Nat.le_of_ble_eq_true rfl), (Nat.le_of_ble_eq_true rfl)⟩ ⟨(Nat.le_of_ble_eq_true rfl), (Nat.le_of_ble_eq_true rfl)⟩ dX5_product_2) (fun u78 H locs hw hP hD hS => ?_)
  obtain ⟨v79, v80, v81, v82, v83, v84, f85⟩ := u78
  try dsimp only at hP hD hw
  replace hP : va_P (dC, dI) vwCl [(wo_5_riiiiirii a_this a_this_text x_this_length v79 v80 v81 x_this_allowed a_this_plan v82 v83), (wi_0_1600_0 a_this_text cy g_this_text), (wo_4_iiiiiiirrrirrrrrir a_this_plan x_this_plan_cycle x_this_plan_green x_this_plan_rule x_this_plan_least x_this_plan_away x_this_plan_statements x_this_plan_kinds a_this_plan_calm a_this_plan_pace a_this_plan_trusts x_this_plan_walkers a_this_plan_kindOf a_this_plan_comesAt a_this_plan_comers a_this_plan_names a_this_plan_code v84 a_this_plan_spans), (wi_0_1600_0 a_this_plan_code cy f85)] H := hP
  replace hD := k_D hP hD
  obtain ⟨h86, h87, h88, h89, h90, h91⟩ := hw
  replace hq := lf_p1 hq h91
  replace hq := lf_p1 hq rfl
  replace hq := lf_p1 hq rfl
  replace hq := lf_p1 hq rfl
  replace hq := lf_p1 hq rfl
  replace hq := lf_p1 hq rfl
  refine lv_iconst (v := 0) hx hb dX5_product_5 rfl ?_
  refine lv_istore_n (lv' := [(2, .int 0), (0, .ref a_this), (1, .int 0)]) hx hb dX5_product_6 rfl hl (Nat.le_of_ble_eq_true rfl) rfl (fun ls hl => ?_)
  exact jn7 1602 v79 v80 v81 v82 v83 v84 f85 0 H locs ls (ib_w 0 1600 h86 rfl) (ib_w 0 1600 h87 rfl) (ib_w 0 4 h88 rfl) (ib_w 0 1600 h89 rfl) (ib_w 0 1600 (ib_c 0 0 0 rfl) rfl) (fun hq9 => ib_w 0 1599 (h90 hq9) rfl) (by try simp only [show (0 : Int32).toInt = (0 : Int) from rfl]; exact hq) (by have := (ib_c 0 0 0 rfl); unfold ib at this; omega) hP hD hS (lv_sub hl [1, 2, 0] rfl)
set_option maxHeartbeats 4000000 in
set_option maxRecDepth 100000 in
theorem s_X5_sum_a0_0 (l : Launch) (dC : Nat → ClassId) (dI : Nat → Nat → Nat) (cy : Nat → ClassId) (sq : Nat → Nat) (a_this : Nat) (a_this_text : Nat) (g_this_text : Nat → Int32) (x_this_length : Int32) (x_this_at : Int32) (x_this_behind : Int32) (x_this_sort : Int32) (x_this_allowed : Int32) (a_this_plan : Nat) (x_this_plan_cycle : Int32) (x_this_plan_green : Int32) (x_this_plan_rule : Int32) (x_this_plan_least : Int32) (x_this_plan_away : Int32) (x_this_plan_statements : Int32) (x_this_plan_kinds : Int32) (a_this_plan_calm : Nat) (a_this_plan_pace : Nat) (a_this_plan_trusts : Nat) (x_this_plan_walkers : Int32) (a_this_plan_kindOf : Nat) (a_this_plan_comesAt : Nat) (a_this_plan_comers : Nat) (a_this_plan_names : Nat) (a_this_plan_code : Nat) (g_this_plan_code : Nat → Int32) (x_this_plan_size : Int32) (a_this_plan_spans : Nat) (x_this_fault : Int32) (x_this_place : Int32) (hg_this_text : ia g_this_text 1600 0 255) (hx_this_length : ib x_this_length 0 1600) (hx_this_at : ib x_this_at 0 1600) (hx_this_behind : ib x_this_behind 0 1600) (hx_this_sort : ib x_this_sort 0 4) (hx_this_plan_size : ib x_this_plan_size 0 1600) (hc0_this : ¬ x_this_sort = 0 → ib x_this_at 0 1599) : k_Met l yX5_sum cX5_sum 4 none { frames := 32, cells := 0, slots := 0, locals := 766 } dC dI cy sq [.ref a_this, .int 0] [(wo_5_riiiiirii a_this a_this_text x_this_length x_this_at x_this_behind x_this_sort x_this_allowed a_this_plan x_this_fault x_this_place), (wi_0_1600_0 a_this_text cy g_this_text), (wo_4_iiiiiiirrrirrrrrir a_this_plan x_this_plan_cycle x_this_plan_green x_this_plan_rule x_this_plan_least x_this_plan_away x_this_plan_statements x_this_plan_kinds a_this_plan_calm a_this_plan_pace a_this_plan_trusts x_this_plan_walkers a_this_plan_kindOf a_this_plan_comesAt a_this_plan_comers a_this_plan_names a_this_plan_code x_this_plan_size a_this_plan_spans), (wi_0_1600_0 a_this_plan_code cy g_this_plan_code)] (k_Qv dC dI (fun (u : Int32 × Int32 × Int32 × Int32 × Int32 × Int32 × (Nat → Int32)) => match u with | (n0, n1, n2, n3, n4, n5, n6) => ib n0 0 1600 ∧ ib n1 0 1600 ∧ ib n2 0 4 ∧ ib n5 0 1600 ∧ (¬ n2 = 0 → ib n0 0 1599) ∧ (F_X5_sum_a0_0 (lf_A g_this_text) (Int32.toInt x_this_length) (Int32.toInt x_this_at) (Int32.toInt x_this_behind) (Int32.toInt x_this_sort) (Int32.toInt x_this_allowed) (lf_A g_this_plan_code) (Int32.toInt x_this_plan_size) (Int32.toInt x_this_fault) (Int32.toInt x_this_place) = ((Int32.toInt n0), (Int32.toInt n1), (Int32.toInt n2), (Int32.toInt n3), (Int32.toInt n4), (Int32.toInt n5), (lf_A n6)))) (fun u : Int32 × Int32 × Int32 × Int32 × Int32 × Int32 × (Nat → Int32) => match u with | (n0, n1, n2, n3, n4, n5, n6) => [(wo_5_riiiiirii a_this a_this_text x_this_length n0 n1 n2 x_this_allowed a_this_plan n3 n4), (wi_0_1600_0 a_this_text cy g_this_text), (wo_4_iiiiiiirrrirrrrrir a_this_plan x_this_plan_cycle x_this_plan_green x_this_plan_rule x_this_plan_least x_this_plan_away x_this_plan_statements x_this_plan_kinds a_this_plan_calm a_this_plan_pace a_this_plan_trusts x_this_plan_walkers a_this_plan_kindOf a_this_plan_comesAt a_this_plan_comers a_this_plan_names a_this_plan_code n5 a_this_plan_spans), (wi_0_1600_0 a_this_plan_code cy n6)])) := by
  refine k_ofW2 (by decide +kernel) (Nat.le_of_ble_eq_true rfl) ?_
  intro p e s m below meth c A ls H locs args Q hQ C0 hZ hr hlk hin hP hD hA hS hl
  have C0 : k_cx p s m args c cX5_sum 4 RX5 dC dI cy sq := C0
  have hx := C0.1
  have hb := C0.2.1
  have hl : lv_has ls 4 [(0, .ref a_this), (1, .int 0)] := hl
  obtain ⟨O, hO⟩ : ∃ o, o = F_X5_sum_a0_0 (lf_A g_this_text) (Int32.toInt x_this_length) (Int32.toInt x_this_at) (Int32.toInt x_this_behind) (Int32.toInt x_this_sort) (Int32.toInt x_this_allowed) (lf_A g_this_plan_code) (Int32.toInt x_this_plan_size) (Int32.toInt x_this_fault) (Int32.toInt x_this_place) := ⟨_, rfl⟩
  have hq := hO
  unfold F_X5_sum_a0_0 at hq
  have jn7 : ∀ (n : Nat) (J7_c0_2 : Int32) (J7_c0_3 : Int32) (J7_c0_4 : Int32) (J7_c0_7 : Int32) (J7_c0_8 : Int32) (J7_c2_16 : Int32) (J7_a3 : Nat → Int32) (J7_l2 : Int32) (H : Heap) (locs : List Loc) (ls : Array Slot), ib J7_c0_2 0 1600 → ib J7_c0_3 0 1600 → ib J7_c0_4 0 4 → ib J7_c2_16 0 1600 → ib J7_l2 0 1600 → (¬ J7_c0_4 = 0 → ib J7_c0_2 0 1599) → (O = F_X5_sum_a0_0_7 (lf_A g_this_text) (Int32.toInt x_this_length) (Int32.toInt x_this_allowed) n (Int32.toInt J7_c0_2) (Int32.toInt J7_c0_3) (Int32.toInt J7_c0_4) (Int32.toInt J7_c0_7) (Int32.toInt J7_c0_8) (Int32.toInt J7_c2_16) (lf_A J7_a3) (Int32.toInt J7_l2)) → 1601 ≤ J7_l2.toInt + (n : Int) → va_P (dC, dI) vwCl [(wo_5_riiiiirii a_this a_this_text x_this_length J7_c0_2 J7_c0_3 J7_c0_4 x_this_allowed a_this_plan J7_c0_7 J7_c0_8), (wi_0_1600_0 a_this_text cy g_this_text), (wo_4_iiiiiiirrrirrrrrir a_this_plan x_this_plan_cycle x_this_plan_green x_this_plan_rule x_this_plan_least x_this_plan_away x_this_plan_statements x_this_plan_kinds a_this_plan_calm a_this_plan_pace a_this_plan_trusts x_this_plan_walkers a_this_plan_kindOf a_this_plan_comesAt a_this_plan_comers a_this_plan_names a_this_plan_code J7_c2_16 a_this_plan_spans), (wi_0_1600_0 a_this_plan_code cy J7_a3)] H → va_D A [(wo_5_riiiiirii a_this a_this_text x_this_length J7_c0_2 J7_c0_3 J7_c0_4 x_this_allowed a_this_plan J7_c0_7 J7_c0_8), (wi_0_1600_0 a_this_text cy g_this_text), (wo_4_iiiiiiirrrirrrrrir a_this_plan x_this_plan_cycle x_this_plan_green x_this_plan_rule x_this_plan_least x_this_plan_away x_this_plan_statements x_this_plan_kinds a_this_plan_calm a_this_plan_pace a_this_plan_trusts x_this_plan_walkers a_this_plan_kindOf a_this_plan_comesAt a_this_plan_comers a_this_plan_names a_this_plan_code J7_c2_16 a_this_plan_spans), (wi_0_1600_0 a_this_plan_code cy J7_a3)] → va_S A s.heap H locs → lv_has ls 4 [(0, .ref a_this), (1, .int 0), (2, .int J7_l2)] → W p l e { frames := 32, cells := 0, slots := 0, locals := 766 } s m args below meth c H locs 0 0 Q (F0 m 7 ls []) := by
    as_aux_lemma =>
      intro n
      induction n with
      | zero =>
        intro J7_c0_2 J7_c0_3 J7_c0_4 J7_c0_7 J7_c0_8 J7_c2_16 J7_a3 J7_l2 H locs ls hJ7_c0_2 hJ7_c0_3 hJ7_c0_4 hJ7_c2_16 hJ7_l2 hJ7_ic0_0 hq hm
        exact absurd hm (by have := hJ7_l2; unfold ib at this; omega)
      | succ n ih =>
        intro J7_c0_2 J7_c0_3 J7_c0_4 J7_c0_7 J7_c0_8 J7_c2_16 J7_a3 J7_l2 H locs ls hJ7_c0_2 hJ7_c0_3 hJ7_c0_4 hJ7_c2_16 hJ7_l2 hJ7_ic0_0 hq hm7 hP hD hS hl
        have ih7 := ih
        obtain ⟨K7, hK7⟩ : ∃ K, K = F_X5_sum_a0_0_7 (lf_A g_this_text) (Int32.toInt x_this_length) (Int32.toInt x_this_allowed) n := ⟨_, rfl⟩
        have hq : O = F_X5_sum_a0_0_7b (lf_A g_this_text) (Int32.toInt x_this_length) (Int32.toInt x_this_allowed) K7 (Int32.toInt J7_c0_2) (Int32.toInt J7_c0_3) (Int32.toInt J7_c0_4) (Int32.toInt J7_c0_7) (Int32.toInt J7_c0_8) (Int32.toInt J7_c2_16) (lf_A J7_a3) (Int32.toInt J7_l2) := by rw [hK7]; exact hq
        unfold F_X5_sum_a0_0_7b at hq
        have jn48 : ∀ (J48_s0 : Int32) (H : Heap) (locs : List Loc) (ls : Array Slot), ib J7_l2 0 1599 → ib J7_c0_2 0 1599 → ib J7_c0_3 0 1600 → ib J7_c0_4 3 3 → ib J7_c2_16 0 1600 → ib J48_s0 (-21) (-20) → (O = F_X5_sum_a0_0_48 (lf_A g_this_text) (Int32.toInt x_this_length) (Int32.toInt x_this_allowed) (Int32.toInt J7_c0_3) (Int32.toInt J7_c0_7) (Int32.toInt J7_c0_8) (Int32.toInt J7_c2_16) (lf_A J7_a3) (Int32.toInt J7_l2) K7 (Int32.toInt J48_s0)) → va_P (dC, dI) vwCl [(wo_5_riiiiirii a_this a_this_text x_this_length J7_c0_2 J7_c0_3 J7_c0_4 x_this_allowed a_this_plan J7_c0_7 J7_c0_8), (wi_0_1600_0 a_this_text cy g_this_text), (wo_4_iiiiiiirrrirrrrrir a_this_plan x_this_plan_cycle x_this_plan_green x_this_plan_rule x_this_plan_least x_this_plan_away x_this_plan_statements x_this_plan_kinds a_this_plan_calm a_this_plan_pace a_this_plan_trusts x_this_plan_walkers a_this_plan_kindOf a_this_plan_comesAt a_this_plan_comers a_this_plan_names a_this_plan_code J7_c2_16 a_this_plan_spans), (wi_0_1600_0 a_this_plan_code cy J7_a3)] H → va_D A [(wo_5_riiiiirii a_this a_this_text x_this_length J7_c0_2 J7_c0_3 J7_c0_4 x_this_allowed a_this_plan J7_c0_7 J7_c0_8), (wi_0_1600_0 a_this_text cy g_this_text), (wo_4_iiiiiiirrrirrrrrir a_this_plan x_this_plan_cycle x_this_plan_green x_this_plan_rule x_this_plan_least x_this_plan_away x_this_plan_statements x_this_plan_kinds a_this_plan_calm a_this_plan_pace a_this_plan_trusts x_this_plan_walkers a_this_plan_kindOf a_this_plan_comesAt a_this_plan_comers a_this_plan_names a_this_plan_code J7_c2_16 a_this_plan_spans), (wi_0_1600_0 a_this_plan_code cy J7_a3)] → va_S A s.heap H locs → lv_has ls 4 [(0, .ref a_this), (1, .int 0), (2, .int J7_l2)] → W p l e { frames := 32, cells := 0, slots := 0, locals := 766 } s m args below meth c H locs 0 0 Q (F0 m 48 ls [.int J48_s0]) := by
          as_aux_lemma =>
            intro J48_s0 H locs ls hK48_J7_l2 hK48_J7_c0_2 hK48_J7_c0_3 hK48_J7_c0_4 hK48_J7_c2_16 hJ48_s0 hq hP hD hS hl
            unfold F_X5_sum_a0_0_48 at hq
            refine lv_istore_n (lv' := [(3, .int J48_s0), (0, .ref a_this), (1, .int 0), (2, .int J7_l2)]) hx hb dX5_sum_48 rfl hl (Nat.le_of_ble_eq_true rfl) rfl (fun ls hl => ?_)
            refine lv_aload_n hx hb dX5_sum_49 rfl (lv_at hl 1 rfl) ?_
            refine lv_aload_n hx hb dX5_sum_50 rfl (lv_at hl 1 rfl) ?_
            refine k_get C0 fg_X5_18 hP 0 rfl rfl dX5_sum_51 ?_
            refine k_jvm hP hD hS hA [0, 1] [false, false, true, true] rfl rfl rfl 0 0 (Nat.le_of_ble_eq_true rfl) (Nat.le_of_ble_eq_true rfl) (fun hPc hDc => k_runV (As := [.int J7_c0_3]) (rest := []) C0 hZ hS hA (s_X5_moveTo l dC dI cy sq a_this a_this_text g_this_text x_this_length J7_c0_2 J7_c0_3 J7_c0_4 x_this_allowed a_this_plan J7_c0_7 J7_c0_8 J7_c0_3 hg_this_text (ib_w 0 1600 hx_this_length rfl) (ib_w 0 1600 hK48_J7_c0_3 rfl)) mV_X5_86 hPc hDc rfl rfl rfl hl rfl rfl (Nat.le_of_ble_eq_true rfl) ⟨(Nat.le_of_ble_eq_true rfl), (Nat.le_of_ble_eq_true rfl)⟩ ⟨(Nat.le_of_ble_eq_true rfl), (Nat.le_of_ble_eq_true rfl)⟩ dX5_sum_54) (fun u2 H locs hw hP hD hS => ?_)
            obtain ⟨v3, v4, v5⟩ := u2
            try dsimp only at hP hD hw
            replace hP : va_P (dC, dI) vwCl [(wo_4_iiiiiiirrrirrrrrir a_this_plan x_this_plan_cycle x_this_plan_green x_this_plan_rule x_this_plan_least x_this_plan_away x_this_plan_statements x_this_plan_kinds a_this_plan_calm a_this_plan_pace a_this_plan_trusts x_this_plan_walkers a_this_plan_kindOf a_this_plan_comesAt a_this_plan_comers a_this_plan_names a_this_plan_code J7_c2_16 a_this_plan_spans), (wi_0_1600_0 a_this_plan_code cy J7_a3), (wo_5_riiiiirii a_this a_this_text x_this_length v3 v4 v5 x_this_allowed a_this_plan J7_c0_7 J7_c0_8), (wi_0_1600_0 a_this_text cy g_this_text)] H := hP
            replace hD := k_D hP hD
            obtain ⟨h6, h7, h8, h9, h10⟩ := hw
            replace hq := lf_p1 hq h10
            replace hq := lf_p1 hq rfl
            refine lv_aload_n hx hb dX5_sum_57 rfl (lv_at hl 1 rfl) ?_
            refine lv_iload_n hx hb dX5_sum_58 rfl (lv_at hl 2 rfl) ?_
            refine k_jvm hP hD hS hA [2, 3, 0, 1] [] rfl rfl rfl 0 0 (Nat.le_of_ble_eq_true rfl) (Nat.le_of_ble_eq_true rfl) (fun hPc hDc => k_runV (As := [.int 0]) (rest := []) C0 hZ hS hA (s_X5_product_a0_0 l dC dI cy sq a_this a_this_text g_this_text x_this_length v3 v4 v5 x_this_allowed a_this_plan x_this_plan_cycle x_this_plan_green x_this_plan_rule x_this_plan_least x_this_plan_away x_this_plan_statements x_this_plan_kinds a_this_plan_calm a_this_plan_pace a_this_plan_trusts x_this_plan_walkers a_this_plan_kindOf a_this_plan_comesAt a_this_plan_comers a_this_plan_names a_this_plan_code J7_a3 J7_c2_16 a_this_plan_spans J7_c0_7 J7_c0_8 hg_this_text (ib_w 0 1600 hx_this_length rfl) (ib_w 0 1600 h6 rfl) (ib_w 0 1600 h7 rfl) (ib_w 0 4 h8 rfl) (ib_w 0 1600 hK48_J7_c2_16 rfl) (fun hq9 => ib_w 0 1599 (h9 hq9) rfl)) mV_X5_222 hPc hDc rfl rfl rfl hl rfl rfl (Nat.le_of_ble_eq_true rfl) ⟨(Nat.le_of_ble_eq_true rfl), (Nat.le_of_ble_eq_true rfl)⟩ ⟨(Nat.le_of_ble_eq_true rfl), (Nat.le_of_ble_eq_true rfl)⟩ dX5_sum_59) (fun u12 H locs hw hP hD hS => ?_)
            obtain ⟨v13, v14, v15, v16, v17, v18, f19⟩ := u12
            try dsimp only at hP hD hw
            replace hP : va_P (dC, dI) vwCl [(wo_5_riiiiirii a_this a_this_text x_this_length v13 v14 v15 x_this_allowed a_this_plan v16 v17), (wi_0_1600_0 a_this_text cy g_this_text), (wo_4_iiiiiiirrrirrrrrir a_this_plan x_this_plan_cycle x_this_plan_green x_this_plan_rule x_this_plan_least x_this_plan_away x_this_plan_statements x_this_plan_kinds a_this_plan_calm a_this_plan_pace a_this_plan_trusts x_this_plan_walkers a_this_plan_kindOf a_this_plan_comesAt a_this_plan_comers a_this_plan_names a_this_plan_code v18 a_this_plan_spans), (wi_0_1600_0 a_this_plan_code cy f19)] H := hP
            replace hD := k_D hP hD
            obtain ⟨h20, h21, h22, h23, h24, h25⟩ := hw
            replace hq := lf_p1 hq h25
            replace hq := lf_p1 hq rfl
            replace hq := lf_p1 hq rfl
            replace hq := lf_p1 hq rfl
            replace hq := lf_p1 hq rfl
            replace hq := lf_p1 hq rfl
            refine lv_aload_n hx hb dX5_sum_62 rfl (lv_at hl 1 rfl) ?_
            refine lv_iload_n hx hb dX5_sum_63 rfl (lv_at hl 0 rfl) ?_
            refine k_jvm hP hD hS hA [0, 2, 3] [false, true] rfl rfl rfl 0 0 (Nat.le_of_ble_eq_true rfl) (Nat.le_of_ble_eq_true rfl) (fun hPc hDc => k_runV (As := [.int J48_s0]) (rest := []) C0 hZ hS hA (s_X5_emit l dC dI cy sq a_this a_this_text x_this_length v13 v14 v15 x_this_allowed a_this_plan x_this_plan_cycle x_this_plan_green x_this_plan_rule x_this_plan_least x_this_plan_away x_this_plan_statements x_this_plan_kinds a_this_plan_calm a_this_plan_pace a_this_plan_trusts x_this_plan_walkers a_this_plan_kindOf a_this_plan_comesAt a_this_plan_comers a_this_plan_names a_this_plan_code f19 v18 a_this_plan_spans v16 v17 J48_s0 (ib_w 0 1600 h23 rfl)) mV_X5_199 hPc hDc rfl rfl rfl hl rfl rfl (Nat.le_of_ble_eq_true rfl) ⟨(Nat.le_of_ble_eq_true rfl), (Nat.le_of_ble_eq_true rfl)⟩ ⟨(Nat.le_of_ble_eq_true rfl), (Nat.le_of_ble_eq_true rfl)⟩ dX5_sum_64) (fun u27 H locs hw hP hD hS => ?_)
            obtain ⟨v28, f29⟩ := u27
            try dsimp only at hP hD hw
            replace hP : va_P (dC, dI) vwCl [(wi_0_1600_0 a_this_text cy g_this_text), (wo_5_riiiiirii a_this a_this_text x_this_length v13 v14 v15 x_this_allowed a_this_plan v16 v17), (wo_4_iiiiiiirrrirrrrrir a_this_plan x_this_plan_cycle x_this_plan_green x_this_plan_rule x_this_plan_least x_this_plan_away x_this_plan_statements x_this_plan_kinds a_this_plan_calm a_this_plan_pace a_this_plan_trusts x_this_plan_walkers a_this_plan_kindOf a_this_plan_comesAt a_this_plan_comers a_this_plan_names a_this_plan_code v28 a_this_plan_spans), (wi_0_1600_0 a_this_plan_code cy f29)] H := hP
            replace hD := k_D hP hD
            obtain ⟨h30, h31⟩ := hw
            replace hq := lf_p1 hq h31
            obtain ⟨z32, ez32⟩ : ∃ y : Int32, y = J7_l2 + 1 := ⟨_, rfl⟩
            refine lv_iinc (v := z32) (lv' := [(2, .int z32), (3, .int J48_s0), (0, .ref a_this), (1, .int 0)]) hx hb dX5_sum_67 hl (k := 3) rfl (by rw [ez32]; rfl) (Nat.le_of_ble_eq_true rfl) rfl (fun ls hl => ?_)
            have h33 := ib_add hK48_J7_l2 (ib_c 1 1 1 rfl) rfl
            rw [← ez32] at h33
            have h34 : ib z32 1 1600 := ib_w 1 1600 h33.1 rfl
            have Ez32 := lf_add h33.2 (lf_rf J7_l2) (lf_lc 1 (1 : Int) rfl)
            refine lv_goto (tgt := 7) hx hb dX5_sum_70 rfl ?_
            exact ih7 v13 v14 v15 v16 v17 v28 f29 z32 H locs ls (ib_w 0 1600 h20 rfl) (ib_w 0 1600 h21 rfl) (ib_w 0 4 h22 rfl) (ib_w 0 1600 h30 rfl) (ib_w 0 1600 h34 rfl) (fun hq9 => ib_w 0 1599 (h24 hq9) rfl) (by rw [← hK7]; rw [lf_u Ez32]; exact hq) (by have := h33.2; have : (1 : Int32).toInt = 1 := rfl; omega) (hP.sub [1, 0, 2, 3] rfl) (hD.sub [1, 0, 2, 3] rfl rfl) hS (lv_sub hl [2, 3, 0] rfl)
        have jn32 : ∀  (H : Heap) (locs : List Loc) (ls : Array Slot), ib J7_l2 0 1599 → ib J7_c0_2 0 1599 → ib J7_c0_3 0 1600 → ib J7_c0_4 3 3 → ib J7_c2_16 0 1600 → (O = F_X5_sum_a0_0_32 (lf_A g_this_text) (Int32.toInt x_this_length) (Int32.toInt x_this_allowed) (Int32.toInt J7_c0_2) (Int32.toInt J7_c0_3) (Int32.toInt J7_c0_4) (Int32.toInt J7_c0_7) (Int32.toInt J7_c0_8) (Int32.toInt J7_c2_16) (lf_A J7_a3) (Int32.toInt J7_l2) K7 ) → va_P (dC, dI) vwCl [(wo_5_riiiiirii a_this a_this_text x_this_length J7_c0_2 J7_c0_3 J7_c0_4 x_this_allowed a_this_plan J7_c0_7 J7_c0_8), (wi_0_1600_0 a_this_text cy g_this_text), (wo_4_iiiiiiirrrirrrrrir a_this_plan x_this_plan_cycle x_this_plan_green x_this_plan_rule x_this_plan_least x_this_plan_away x_this_plan_statements x_this_plan_kinds a_this_plan_calm a_this_plan_pace a_this_plan_trusts x_this_plan_walkers a_this_plan_kindOf a_this_plan_comesAt a_this_plan_comers a_this_plan_names a_this_plan_code J7_c2_16 a_this_plan_spans), (wi_0_1600_0 a_this_plan_code cy J7_a3)] H → va_D A [(wo_5_riiiiirii a_this a_this_text x_this_length J7_c0_2 J7_c0_3 J7_c0_4 x_this_allowed a_this_plan J7_c0_7 J7_c0_8), (wi_0_1600_0 a_this_text cy g_this_text), (wo_4_iiiiiiirrrirrrrrir a_this_plan x_this_plan_cycle x_this_plan_green x_this_plan_rule x_this_plan_least x_this_plan_away x_this_plan_statements x_this_plan_kinds a_this_plan_calm a_this_plan_pace a_this_plan_trusts x_this_plan_walkers a_this_plan_kindOf a_this_plan_comesAt a_this_plan_comers a_this_plan_names a_this_plan_code J7_c2_16 a_this_plan_spans), (wi_0_1600_0 a_this_plan_code cy J7_a3)] → va_S A s.heap H locs → lv_has ls 4 [(0, .ref a_this), (1, .int 0), (2, .int J7_l2)] → W p l e { frames := 32, cells := 0, slots := 0, locals := 766 } s m args below meth c H locs 0 0 Q (F0 m 32 ls []) := by
          as_aux_lemma =>
            intro H locs ls hK32_J7_l2 hK32_J7_c0_2 hK32_J7_c0_3 hK32_J7_c0_4 hK32_J7_c2_16 hq hP hD hS hl
            unfold F_X5_sum_a0_0_32 at hq
            refine lv_aload_n hx hb dX5_sum_32 rfl (lv_at hl 0 rfl) ?_
            refine lv_bipush (v := 43) hx hb dX5_sum_33 rfl ?_
            refine k_jim hP hD hS hA [0, 1] [false, false, true, true] rfl rfl rfl 0 0 (Nat.le_of_ble_eq_true rfl) (Nat.le_of_ble_eq_true rfl) (fun hPc hDc => k_runV (As := [.int 43]) (rest := []) C0 hZ hS hA (s_X5_sees l dC dI cy sq a_this a_this_text g_this_text x_this_length J7_c0_2 J7_c0_3 J7_c0_4 x_this_allowed a_this_plan J7_c0_7 J7_c0_8 43 hg_this_text (ib_w 0 1600 hK32_J7_c0_2 rfl) (ib_w 0 4 hK32_J7_c0_4 rfl) (fun _ => ib_w 0 1599 hK32_J7_c0_2 rfl)) mV_X5_213 hPc hDc rfl rfl rfl hl rfl rfl (Nat.le_of_ble_eq_true rfl) ⟨(Nat.le_of_ble_eq_true rfl), (Nat.le_of_ble_eq_true rfl)⟩ ⟨(Nat.le_of_ble_eq_true rfl), (Nat.le_of_ble_eq_true rfl)⟩ dX5_sum_35) (fun r35 u36 H locs hw hP hD hS => ?_)
            try dsimp only at hP hD hw
            replace hP : va_P (dC, dI) vwCl [(wo_4_iiiiiiirrrirrrrrir a_this_plan x_this_plan_cycle x_this_plan_green x_this_plan_rule x_this_plan_least x_this_plan_away x_this_plan_statements x_this_plan_kinds a_this_plan_calm a_this_plan_pace a_this_plan_trusts x_this_plan_walkers a_this_plan_kindOf a_this_plan_comesAt a_this_plan_comers a_this_plan_names a_this_plan_code J7_c2_16 a_this_plan_spans), (wi_0_1600_0 a_this_plan_code cy J7_a3), (wo_5_riiiiirii a_this a_this_text x_this_length J7_c0_2 J7_c0_3 J7_c0_4 x_this_allowed a_this_plan J7_c0_7 J7_c0_8), (wi_0_1600_0 a_this_text cy g_this_text)] H := hP
            replace hD := k_D hP hD
            obtain ⟨h37, h38, h39, h40, h41⟩ := hw
            have h41 := by have h9 := h41; try simp only [show (43 : Int32).toInt = (43 : Int) from rfl] at h9; exact h9
            replace hq := lf_b1 hq h41
            refine lv_if_eq (tgt := 46) hx hb dX5_sum_38 rfl (fun c42 => ?_) (fun c42 => ?_)
            · replace hq := lf_pos hq (lf_eq (lf_rf r35) (lf_lc 0 (0 : Int) rfl) c42)
              have h43 := ib_eq h37 (ib_c 0 0 0 rfl) c42
              have h44 : ib r35 0 0 := ib_w 0 0 h43.1 rfl
              refine lv_bipush (v := (-21)) hx hb dX5_sum_46 rfl ?_
              exact jn48 (-21) H locs ls (ib_w 0 1599 hK32_J7_l2 rfl) (ib_w 0 1599 hK32_J7_c0_2 rfl) (ib_w 0 1600 hK32_J7_c0_3 rfl) (ib_w 3 3 hK32_J7_c0_4 rfl) (ib_w 0 1600 hK32_J7_c2_16 rfl) (ib_w (-21) (-20) (ib_c (-21) (-21) (-21) rfl) rfl) (by try simp only [show ((-21) : Int32).toInt = (-21 : Int) from rfl]; exact hq) (hP.sub [2, 3, 0, 1] rfl) (hD.sub [2, 3, 0, 1] rfl rfl) hS (lv_sub hl [0, 1, 2] rfl)
            · replace hq := lf_neg hq (lf_ne (lf_rf r35) (lf_lc 0 (0 : Int) rfl) c42)
              have h45 : ib r35 1 1 := ib_w 1 1 (ib_ne_lo 0 h37 rfl c42) rfl
              refine lv_bipush (v := (-20)) hx hb dX5_sum_41 rfl ?_
              refine lv_goto (tgt := 48) hx hb dX5_sum_43 rfl ?_
              exact jn48 (-20) H locs ls (ib_w 0 1599 hK32_J7_l2 rfl) (ib_w 0 1599 hK32_J7_c0_2 rfl) (ib_w 0 1600 hK32_J7_c0_3 rfl) (ib_w 3 3 hK32_J7_c0_4 rfl) (ib_w 0 1600 hK32_J7_c2_16 rfl) (ib_w (-21) (-20) (ib_c (-20) (-20) (-20) rfl) rfl) (by try simp only [show ((-20) : Int32).toInt = (-20 : Int) from rfl]; exact hq) (hP.sub [2, 3, 0, 1] rfl) (hD.sub [2, 3, 0, 1] rfl rfl) hS (lv_sub hl [0, 1, 2] rfl)
        refine lv_iload_n hx hb dX5_sum_7 rfl (lv_at hl 2 rfl) ?_
        refine lv_sipush (v := 1600) hx hb dX5_sum_8 rfl ?_
        refine lv_icmp_ge (tgt := 73) hx hb dX5_sum_11 rfl (fun c46 => ?_) (fun c46 => ?_)
        · replace hq := lf_pos hq (lf_le (lf_lc 1600 (1600 : Int) rfl) (lf_rf J7_l2) c46)
          have h47 := ib_le (ib_c 1600 1600 1600 rfl) hJ7_l2 c46
          have h48 : ib J7_l2 1600 1600 := ib_w 1600 1600 h47.2 rfl
          subst hQ; exact k_vret hx hb hr hlk ((J7_c0_2, J7_c0_3, J7_c0_4, J7_c0_7, J7_c0_8, J7_c2_16, J7_a3)) hS ⟨ib_w 0 1600 hJ7_c0_2 rfl, ib_w 0 1600 hJ7_c0_3 rfl, ib_w 0 4 hJ7_c0_4 rfl, ib_w 0 1600 hJ7_c2_16 rfl, fun hq9 => ib_w 0 1599 (hJ7_ic0_0 hq9) rfl, (hO.symm.trans (by exact hq))⟩ hP hD (Nat.le_of_ble_eq_true rfl) (Nat.le_of_ble_eq_true rfl) dX5_sum_73
        · as_aux_lemma =>
            replace hq := lf_neg hq (lf_nle (lf_lc 1600 (1600 : Int) rfl) (lf_rf J7_l2) c46)
            have h49 := ib_nle (ib_c 1600 1600 1600 rfl) hJ7_l2 c46
            have h50 : ib J7_l2 0 1599 := ib_w 0 1599 h49.2 rfl
            refine lv_aload_n hx hb dX5_sum_14 rfl (lv_at hl 0 rfl) ?_
            refine lv_bipush (v := 43) hx hb dX5_sum_15 rfl ?_
            refine k_jim hP hD hS hA [0, 1] [false, false, true, true] rfl rfl rfl 0 0 (Nat.le_of_ble_eq_true rfl) (Nat.le_of_ble_eq_true rfl) (fun hPc hDc => k_runV (As := [.int 43]) (rest := []) C0 hZ hS hA (s_X5_sees l dC dI cy sq a_this a_this_text g_this_text x_this_length J7_c0_2 J7_c0_3 J7_c0_4 x_this_allowed a_this_plan J7_c0_7 J7_c0_8 43 hg_this_text (ib_w 0 1600 hJ7_c0_2 rfl) (ib_w 0 4 hJ7_c0_4 rfl) (fun hq9 => ib_w 0 1599 (hJ7_ic0_0 hq9) rfl)) mV_X5_213 hPc hDc rfl rfl rfl hl rfl rfl (Nat.le_of_ble_eq_true rfl) ⟨(Nat.le_of_ble_eq_true rfl), (Nat.le_of_ble_eq_true rfl)⟩ ⟨(Nat.le_of_ble_eq_true rfl), (Nat.le_of_ble_eq_true rfl)⟩ dX5_sum_17) (fun r51 u52 H locs hw hP hD hS => ?_)
            try dsimp only at hP hD hw
            replace hP : va_P (dC, dI) vwCl [(wo_4_iiiiiiirrrirrrrrir a_this_plan x_this_plan_cycle x_this_plan_green x_this_plan_rule x_this_plan_least x_this_plan_away x_this_plan_statements x_this_plan_kinds a_this_plan_calm a_this_plan_pace a_this_plan_trusts x_this_plan_walkers a_this_plan_kindOf a_this_plan_comesAt a_this_plan_comers a_this_plan_names a_this_plan_code J7_c2_16 a_this_plan_spans), (wi_0_1600_0 a_this_plan_code cy J7_a3), (wo_5_riiiiirii a_this a_this_text x_this_length J7_c0_2 J7_c0_3 J7_c0_4 x_this_allowed a_this_plan J7_c0_7 J7_c0_8), (wi_0_1600_0 a_this_text cy g_this_text)] H := hP
            replace hD := k_D hP hD
            obtain ⟨h53, h54, h55, h56, h57⟩ := hw
            have h57 := by have h9 := h57; try simp only [show (43 : Int32).toInt = (43 : Int) from rfl] at h9; exact h9
            replace hq := lf_b1 hq h57
            refine lv_if_ne (tgt := 32) hx hb dX5_sum_20 rfl (fun c58 => ?_) (fun c58 => ?_)
            · replace hq := lf_neg hq (lf_ne (lf_rf r51) (lf_lc 0 (0 : Int) rfl) c58)
              have h59 : ib r51 1 1 := ib_w 1 1 (ib_ne_lo 0 h53 rfl c58) rfl
              have h60 : ib J7_c0_2 0 1599 := ib_w 0 1599 (ib_two hJ7_c0_2 (h54 c58)) rfl
              have h61 : ib J7_c0_4 3 3 := ib_w 3 3 (ib_two hJ7_c0_4 (h55 c58)) rfl
              exact jn32  H locs ls (ib_w 0 1599 h50 rfl) (ib_w 0 1599 h60 rfl) (ib_w 0 1600 hJ7_c0_3 rfl) (ib_w 3 3 h61 rfl) (ib_w 0 1600 hJ7_c2_16 rfl) (by exact hq) (hP.sub [2, 3, 0, 1] rfl) (hD.sub [2, 3, 0, 1] rfl rfl) hS (lv_sub hl [0, 1, 2] rfl)
            · as_aux_lemma =>
                replace hq := lf_pos hq (lf_eq (lf_rf r51) (lf_lc 0 (0 : Int) rfl) c58)
                have h62 := ib_eq h53 (ib_c 0 0 0 rfl) c58
                have h63 : ib r51 0 0 := ib_w 0 0 h62.1 rfl
                refine lv_aload_n hx hb dX5_sum_23 rfl (lv_at hl 0 rfl) ?_
                refine lv_bipush (v := 45) hx hb dX5_sum_24 rfl ?_
                refine k_jim hP hD hS hA [2, 3] [true, true] rfl rfl rfl 0 0 (Nat.le_of_ble_eq_true rfl) (Nat.le_of_ble_eq_true rfl) (fun hPc hDc => k_runV (As := [.int 45]) (rest := []) C0 hZ hS hA (s_X5_sees l dC dI cy sq a_this a_this_text g_this_text x_this_length J7_c0_2 J7_c0_3 J7_c0_4 x_this_allowed a_this_plan J7_c0_7 J7_c0_8 45 hg_this_text (ib_w 0 1600 hJ7_c0_2 rfl) (ib_w 0 4 hJ7_c0_4 rfl) (fun hq9 => ib_w 0 1599 (hJ7_ic0_0 hq9) rfl)) mV_X5_213 hPc hDc rfl rfl rfl hl rfl rfl (Nat.le_of_ble_eq_true rfl) ⟨(Nat.le_of_ble_eq_true rfl), (Nat.le_of_ble_eq_true rfl)⟩ ⟨(Nat.le_of_ble_eq_true rfl), (Nat.le_of_ble_eq_true rfl)⟩ dX5_sum_26) (fun r64 u65 H locs hw hP hD hS => ?_)
                try dsimp only at hP hD hw
                replace hP : va_P (dC, dI) vwCl [(wo_4_iiiiiiirrrirrrrrir a_this_plan x_this_plan_cycle x_this_plan_green x_this_plan_rule x_this_plan_least x_this_plan_away x_this_plan_statements x_this_plan_kinds a_this_plan_calm a_this_plan_pace a_this_plan_trusts x_this_plan_walkers a_this_plan_kindOf a_this_plan_comesAt a_this_plan_comers a_this_plan_names a_this_plan_code J7_c2_16 a_this_plan_spans), (wi_0_1600_0 a_this_plan_code cy J7_a3), (wo_5_riiiiirii a_this a_this_text x_this_length J7_c0_2 J7_c0_3 J7_c0_4 x_this_allowed a_this_plan J7_c0_7 J7_c0_8), (wi_0_1600_0 a_this_text cy g_this_text)] H := hP
                replace hD := k_D hP hD
                obtain ⟨h66, h67, h68, h69, h70⟩ := hw
                have h70 := by have h9 := h70; try simp only [show (45 : Int32).toInt = (45 : Int) from rfl] at h9; exact h9
                replace hq := lf_b1 hq h70
                refine lv_if_eq (tgt := 73) hx hb dX5_sum_29 rfl (fun c71 => ?_) (fun c71 => ?_)
                · replace hq := lf_pos hq (lf_eq (lf_rf r64) (lf_lc 0 (0 : Int) rfl) c71)
                  have h72 := ib_eq h66 (ib_c 0 0 0 rfl) c71
                  have h73 : ib r64 0 0 := ib_w 0 0 h72.1 rfl
                  subst hQ; exact k_vret hx hb hr hlk ((J7_c0_2, J7_c0_3, J7_c0_4, J7_c0_7, J7_c0_8, J7_c2_16, J7_a3)) hS ⟨ib_w 0 1600 hJ7_c0_2 rfl, ib_w 0 1600 hJ7_c0_3 rfl, ib_w 0 4 hJ7_c0_4 rfl, ib_w 0 1600 hJ7_c2_16 rfl, fun hq9 => ib_w 0 1599 (hJ7_ic0_0 hq9) rfl, (hO.symm.trans (by exact hq))⟩ (hP.sub [2, 3, 0, 1] rfl) (hD.sub [2, 3, 0, 1] rfl rfl) (Nat.le_of_ble_eq_true rfl) (Nat.le_of_ble_eq_true rfl) dX5_sum_73
                · replace hq := lf_neg hq (lf_ne (lf_rf r64) (lf_lc 0 (0 : Int) rfl) c71)
                  have h74 : ib r64 1 1 := ib_w 1 1 (ib_ne_lo 0 h66 rfl c71) rfl
                  have h75 : ib J7_c0_2 0 1599 := ib_w 0 1599 (ib_two hJ7_c0_2 (h67 c71)) rfl
                  have h76 : ib J7_c0_4 3 3 := ib_w 3 3 (ib_two hJ7_c0_4 (h68 c71)) rfl
                  exact jn32  H locs ls (ib_w 0 1599 h50 rfl) (ib_w 0 1599 h75 rfl) (ib_w 0 1600 hJ7_c0_3 rfl) (ib_w 3 3 h76 rfl) (ib_w 0 1600 hJ7_c2_16 rfl) (by exact hq) (hP.sub [2, 3, 0, 1] rfl) (hD.sub [2, 3, 0, 1] rfl rfl) hS (lv_sub hl [0, 1, 2] rfl)
  refine lv_aload_n hx hb dX5_sum_0 rfl (lv_at hl 0 rfl) ?_
  refine lv_iload_n hx hb dX5_sum_1 rfl (lv_at hl 1 rfl) ?_
  refine k_jvm hP hD hS hA [0, 1, 2, 3] [] rfl rfl rfl 0 0 (Nat.le_of_ble_eq_true rfl) (Nat.le_of_ble_eq_true rfl) (fun hPc hDc => k_runV (As := [.int 0]) (rest := []) C0 hZ hS hA (s_X5_product_a0_0 l dC dI cy sq a_this a_this_text g_this_text x_this_length x_this_at x_this_behind x_this_sort x_this_allowed a_this_plan x_this_plan_cycle x_this_plan_green x_this_plan_rule x_this_plan_least x_this_plan_away x_this_plan_statements x_this_plan_kinds a_this_plan_calm a_this_plan_pace a_this_plan_trusts x_this_plan_walkers a_this_plan_kindOf a_this_plan_comesAt a_this_plan_comers a_this_plan_names a_this_plan_code g_this_plan_code x_this_plan_size a_this_plan_spans x_this_fault x_this_place hg_this_text (ib_w 0 1600 hx_this_length rfl) (ib_w 0 1600 hx_this_at rfl) (ib_w 0 1600 hx_this_behind rfl) (ib_w 0 4 hx_this_sort rfl) (ib_w 0 1600 hx_this_plan_size rfl) (fun hq9 => ib_w 0 1599 (hc0_this hq9) rfl)) mV_X5_222 hPc hDc rfl rfl rfl hl rfl rfl (Nat.le_of_ble_eq_true rfl) ⟨(Nat.le_of_ble_eq_true rfl), (Nat.le_of_ble_eq_true rfl)⟩ ⟨(Nat.le_of_ble_eq_true rfl), (Nat.le_of_ble_eq_true rfl)⟩ dX5_sum_2) (fun u78 H locs hw hP hD hS => ?_)
  obtain ⟨v79, v80, v81, v82, v83, v84, f85⟩ := u78
  try dsimp only at hP hD hw
  replace hP : va_P (dC, dI) vwCl [(wo_5_riiiiirii a_this a_this_text x_this_length v79 v80 v81 x_this_allowed a_this_plan v82 v83), (wi_0_1600_0 a_this_text cy g_this_text), (wo_4_iiiiiiirrrirrrrrir a_this_plan x_this_plan_cycle x_this_plan_green x_this_plan_rule x_this_plan_least x_this_plan_away x_this_plan_statements x_this_plan_kinds a_this_plan_calm a_this_plan_pace a_this_plan_trusts x_this_plan_walkers a_this_plan_kindOf a_this_plan_comesAt a_this_plan_comers a_this_plan_names a_this_plan_code v84 a_this_plan_spans), (wi_0_1600_0 a_this_plan_code cy f85)] H := hP
  replace hD := k_D hP hD
  obtain ⟨h86, h87, h88, h89, h90, h91⟩ := hw
  replace hq := lf_p1 hq h91
  replace hq := lf_p1 hq rfl
  replace hq := lf_p1 hq rfl
  replace hq := lf_p1 hq rfl
  replace hq := lf_p1 hq rfl
  replace hq := lf_p1 hq rfl
  refine lv_iconst (v := 0) hx hb dX5_sum_5 rfl ?_
  refine lv_istore_n (lv' := [(2, .int 0), (0, .ref a_this), (1, .int 0)]) hx hb dX5_sum_6 rfl hl (Nat.le_of_ble_eq_true rfl) rfl (fun ls hl => ?_)
  exact jn7 1602 v79 v80 v81 v82 v83 v84 f85 0 H locs ls (ib_w 0 1600 h86 rfl) (ib_w 0 1600 h87 rfl) (ib_w 0 4 h88 rfl) (ib_w 0 1600 h89 rfl) (ib_w 0 1600 (ib_c 0 0 0 rfl) rfl) (fun hq9 => ib_w 0 1599 (h90 hq9) rfl) (by try simp only [show (0 : Int32).toInt = (0 : Int) from rfl]; exact hq) (by have := (ib_c 0 0 0 rfl); unfold ib at this; omega) hP hD hS (lv_sub hl [1, 2, 0] rfl)
set_option maxHeartbeats 4000000 in
set_option maxRecDepth 100000 in
theorem s_X5_signHere (l : Launch) (dC : Nat → ClassId) (dI : Nat → Nat → Nat) (cy : Nat → ClassId) (sq : Nat → Nat) (a_this : Nat) (a_this_text : Nat) (g_this_text : Nat → Int32) (x_this_length : Int32) (x_this_at : Int32) (x_this_behind : Int32) (x_this_sort : Int32) (x_this_allowed : Int32) (a_this_plan : Nat) (x_this_fault : Int32) (x_this_place : Int32) (hg_this_text : ia g_this_text 1600 0 255) (hx_this_length : ib x_this_length 0 1600) (hx_this_at : ib x_this_at 0 1600) (hx_this_behind : ib x_this_behind 0 1600) (hx_this_sort : ib x_this_sort 0 4) (hc0_this : ¬ x_this_sort = 0 → ib x_this_at 0 1599) : k_Met l yX5_signHere cX5_signHere 1 (some .int) { frames := 1, cells := 0, slots := 0, locals := 22 } dC dI cy sq [.ref a_this] [(wo_5_riiiiirii a_this a_this_text x_this_length x_this_at x_this_behind x_this_sort x_this_allowed a_this_plan x_this_fault x_this_place), (wi_0_1600_0 a_this_text cy g_this_text)] (k_Qi dC dI (fun (r : Int32) (u : Int32 × Int32 × Int32 × Int32 × Int32) => match u with | (n0, n1, n2, n3, n4) => ib r (-28) (-26) ∧ ib n0 0 1600 ∧ ib n1 0 1600 ∧ ib n2 0 3 ∧ (¬ n2 = 0 → ib n0 0 1599) ∧ (F_X5_signHere (lf_A g_this_text) (Int32.toInt x_this_length) (Int32.toInt x_this_at) (Int32.toInt x_this_behind) (Int32.toInt x_this_sort) (Int32.toInt x_this_fault) (Int32.toInt x_this_place) = ((Int32.toInt r), (Int32.toInt n0), (Int32.toInt n1), (Int32.toInt n2), (Int32.toInt n3), (Int32.toInt n4)))) (fun u : Int32 × Int32 × Int32 × Int32 × Int32 => match u with | (n0, n1, n2, n3, n4) => [(wo_5_riiiiirii a_this a_this_text x_this_length n0 n1 n2 x_this_allowed a_this_plan n3 n4), (wi_0_1600_0 a_this_text cy g_this_text)])) := by
  refine k_ofW2 (by decide +kernel) (Nat.le_of_ble_eq_true rfl) ?_
  intro p e s m below meth c A ls H locs args Q hQ C0 hZ hr hlk hin hP hD hA hS hl
  have C0 : k_cx p s m args c cX5_signHere 1 RX5 dC dI cy sq := C0
  have hx := C0.1
  have hb := C0.2.1
  have hl : lv_has ls 1 [(0, .ref a_this)] := hl
  obtain ⟨O, hO⟩ : ∃ o, o = F_X5_signHere (lf_A g_this_text) (Int32.toInt x_this_length) (Int32.toInt x_this_at) (Int32.toInt x_this_behind) (Int32.toInt x_this_sort) (Int32.toInt x_this_fault) (Int32.toInt x_this_place) := ⟨_, rfl⟩
  have hq := hO
  unfold F_X5_signHere at hq
  have jn42 : ∀ (J42_c0_2 : Int32) (J42_c0_3 : Int32) (J42_c0_4 : Int32) (J42_c0_7 : Int32) (J42_c0_8 : Int32) (H : Heap) (locs : List Loc) (ls : Array Slot), ib J42_c0_2 0 1600 → ib J42_c0_3 0 1600 → ib J42_c0_4 0 3 → (¬ J42_c0_4 = 0 → ib J42_c0_2 0 1599) → (O = F_X5_signHere_42 (Int32.toInt J42_c0_2) (Int32.toInt J42_c0_3) (Int32.toInt J42_c0_4) (Int32.toInt J42_c0_7) (Int32.toInt J42_c0_8)) → va_P (dC, dI) vwCl [(wo_5_riiiiirii a_this a_this_text x_this_length J42_c0_2 J42_c0_3 J42_c0_4 x_this_allowed a_this_plan J42_c0_7 J42_c0_8), (wi_0_1600_0 a_this_text cy g_this_text)] H → va_D A [(wo_5_riiiiirii a_this a_this_text x_this_length J42_c0_2 J42_c0_3 J42_c0_4 x_this_allowed a_this_plan J42_c0_7 J42_c0_8), (wi_0_1600_0 a_this_text cy g_this_text)] → va_S A s.heap H locs → lv_has ls 1 [(0, .ref a_this)] → W p l e { frames := 1, cells := 0, slots := 0, locals := 22 } s m args below meth c H locs 0 0 Q (F0 m 42 ls []) := by
    intro J42_c0_2 J42_c0_3 J42_c0_4 J42_c0_7 J42_c0_8 H locs ls hJ42_c0_2 hJ42_c0_3 hJ42_c0_4 hJ42_ic0_0 hq hP hD hS hl
    unfold F_X5_signHere_42 at hq
    refine lv_bipush (v := (-28)) hx hb dX5_signHere_42 rfl ?_
    subst hQ; exact k_iret hx hb hr hlk rfl ((J42_c0_2, J42_c0_3, J42_c0_4, J42_c0_7, J42_c0_8)) hS ⟨ib_w (-28) (-26) (ib_c (-28) (-28) (-28) rfl) rfl, ib_w 0 1600 hJ42_c0_2 rfl, ib_w 0 1600 hJ42_c0_3 rfl, ib_w 0 3 hJ42_c0_4 rfl, fun hq9 => ib_w 0 1599 (hJ42_ic0_0 hq9) rfl, (hO.symm.trans (by try simp only [show ((-28) : Int32).toInt = (-28 : Int) from rfl]; exact hq))⟩ hP hD (Nat.le_of_ble_eq_true rfl) (Nat.le_of_ble_eq_true rfl) dX5_signHere_44
  refine lv_aload_n hx hb dX5_signHere_0 rfl (lv_at hl 0 rfl) ?_
  refine lv_bipush (v := 60) hx hb dX5_signHere_1 rfl ?_
  refine k_jim hP hD hS hA [0, 1] [] rfl rfl rfl 0 0 (Nat.le_of_ble_eq_true rfl) (Nat.le_of_ble_eq_true rfl) (fun hPc hDc => k_runV (As := [.int 60]) (rest := []) C0 hZ hS hA (s_X5_sees l dC dI cy sq a_this a_this_text g_this_text x_this_length x_this_at x_this_behind x_this_sort x_this_allowed a_this_plan x_this_fault x_this_place 60 hg_this_text (ib_w 0 1600 hx_this_at rfl) (ib_w 0 4 hx_this_sort rfl) (fun hq9 => ib_w 0 1599 (hc0_this hq9) rfl)) mV_X5_213 hPc hDc rfl rfl rfl hl rfl rfl (Nat.le_of_ble_eq_true rfl) ⟨(Nat.le_of_ble_eq_true rfl), (Nat.le_of_ble_eq_true rfl)⟩ ⟨(Nat.le_of_ble_eq_true rfl), (Nat.le_of_ble_eq_true rfl)⟩ dX5_signHere_3) (fun r1 u2 H locs hw hP hD hS => ?_)
  try dsimp only at hP hD hw
  replace hP : va_P (dC, dI) vwCl [(wo_5_riiiiirii a_this a_this_text x_this_length x_this_at x_this_behind x_this_sort x_this_allowed a_this_plan x_this_fault x_this_place), (wi_0_1600_0 a_this_text cy g_this_text)] H := hP
  replace hD := k_D hP hD
  obtain ⟨h3, h4, h5, h6, h7⟩ := hw
  have h7 := by have h9 := h7; try simp only [show (60 : Int32).toInt = (60 : Int) from rfl] at h9; exact h9
  replace hq := lf_b1 hq h7
  refine lv_if_eq (tgt := 12) hx hb dX5_signHere_6 rfl (fun c8 => ?_) (fun c8 => ?_)
  · as_aux_lemma =>
      replace hq := lf_pos hq (lf_eq (lf_rf r1) (lf_lc 0 (0 : Int) rfl) c8)
      have h9 := ib_eq h3 (ib_c 0 0 0 rfl) c8
      have h10 : ib r1 0 0 := ib_w 0 0 h9.1 rfl
      refine lv_aload_n hx hb dX5_signHere_12 rfl (lv_at hl 0 rfl) ?_
      refine lv_bipush (v := 62) hx hb dX5_signHere_13 rfl ?_
      refine k_jim hP hD hS hA [0, 1] [] rfl rfl rfl 0 0 (Nat.le_of_ble_eq_true rfl) (Nat.le_of_ble_eq_true rfl) (fun hPc hDc => k_runV (As := [.int 62]) (rest := []) C0 hZ hS hA (s_X5_sees l dC dI cy sq a_this a_this_text g_this_text x_this_length x_this_at x_this_behind x_this_sort x_this_allowed a_this_plan x_this_fault x_this_place 62 hg_this_text (ib_w 0 1600 hx_this_at rfl) (ib_w 0 4 hx_this_sort rfl) (fun hq9 => ib_w 0 1599 (hc0_this hq9) rfl)) mV_X5_213 hPc hDc rfl rfl rfl hl rfl rfl (Nat.le_of_ble_eq_true rfl) ⟨(Nat.le_of_ble_eq_true rfl), (Nat.le_of_ble_eq_true rfl)⟩ ⟨(Nat.le_of_ble_eq_true rfl), (Nat.le_of_ble_eq_true rfl)⟩ dX5_signHere_15) (fun r11 u12 H locs hw hP hD hS => ?_)
      try dsimp only at hP hD hw
      replace hP : va_P (dC, dI) vwCl [(wo_5_riiiiirii a_this a_this_text x_this_length x_this_at x_this_behind x_this_sort x_this_allowed a_this_plan x_this_fault x_this_place), (wi_0_1600_0 a_this_text cy g_this_text)] H := hP
      replace hD := k_D hP hD
      obtain ⟨h13, h14, h15, h16, h17⟩ := hw
      have h17 := by have h9 := h17; try simp only [show (62 : Int32).toInt = (62 : Int) from rfl] at h9; exact h9
      replace hq := lf_b1 hq h17
      refine lv_if_eq (tgt := 24) hx hb dX5_signHere_18 rfl (fun c18 => ?_) (fun c18 => ?_)
      · as_aux_lemma =>
          replace hq := lf_pos hq (lf_eq (lf_rf r11) (lf_lc 0 (0 : Int) rfl) c18)
          have h19 := ib_eq h13 (ib_c 0 0 0 rfl) c18
          have h20 : ib r11 0 0 := ib_w 0 0 h19.1 rfl
          refine lv_aload_n hx hb dX5_signHere_24 rfl (lv_at hl 0 rfl) ?_
          refine lv_bipush (v := 61) hx hb dX5_signHere_25 rfl ?_
          refine k_jim hP hD hS hA [0, 1] [] rfl rfl rfl 0 0 (Nat.le_of_ble_eq_true rfl) (Nat.le_of_ble_eq_true rfl) (fun hPc hDc => k_runV (As := [.int 61]) (rest := []) C0 hZ hS hA (s_X5_sees l dC dI cy sq a_this a_this_text g_this_text x_this_length x_this_at x_this_behind x_this_sort x_this_allowed a_this_plan x_this_fault x_this_place 61 hg_this_text (ib_w 0 1600 hx_this_at rfl) (ib_w 0 4 hx_this_sort rfl) (fun hq9 => ib_w 0 1599 (hc0_this hq9) rfl)) mV_X5_213 hPc hDc rfl rfl rfl hl rfl rfl (Nat.le_of_ble_eq_true rfl) ⟨(Nat.le_of_ble_eq_true rfl), (Nat.le_of_ble_eq_true rfl)⟩ ⟨(Nat.le_of_ble_eq_true rfl), (Nat.le_of_ble_eq_true rfl)⟩ dX5_signHere_27) (fun r21 u22 H locs hw hP hD hS => ?_)
          try dsimp only at hP hD hw
          replace hP : va_P (dC, dI) vwCl [(wo_5_riiiiirii a_this a_this_text x_this_length x_this_at x_this_behind x_this_sort x_this_allowed a_this_plan x_this_fault x_this_place), (wi_0_1600_0 a_this_text cy g_this_text)] H := hP
          replace hD := k_D hP hD
          obtain ⟨h23, h24, h25, h26, h27⟩ := hw
          have h27 := by have h9 := h27; try simp only [show (61 : Int32).toInt = (61 : Int) from rfl] at h9; exact h9
          replace hq := lf_b1 hq h27
          refine lv_if_ne (tgt := 42) hx hb dX5_signHere_30 rfl (fun c28 => ?_) (fun c28 => ?_)
          · replace hq := lf_neg hq (lf_ne (lf_rf r21) (lf_lc 0 (0 : Int) rfl) c28)
            have h29 : ib r21 1 1 := ib_w 1 1 (ib_ne_lo 0 h23 rfl c28) rfl
            have h30 : ib x_this_at 0 1599 := ib_w 0 1599 (ib_two hx_this_at (h24 c28)) rfl
            have h31 : ib x_this_sort 3 3 := ib_w 3 3 (ib_two hx_this_sort (h25 c28)) rfl
            exact jn42 x_this_at x_this_behind x_this_sort x_this_fault x_this_place H locs ls (ib_w 0 1600 h30 rfl) (ib_w 0 1600 hx_this_behind rfl) (ib_w 0 3 h31 rfl) (fun _ => ib_w 0 1599 h30 rfl) (by exact hq) hP hD hS (lv_sub hl [0] rfl)
          · replace hq := lf_pos hq (lf_eq (lf_rf r21) (lf_lc 0 (0 : Int) rfl) c28)
            have h32 := ib_eq h23 (ib_c 0 0 0 rfl) c28
            have h33 : ib r21 0 0 := ib_w 0 0 h32.1 rfl
            refine lv_aload_n hx hb dX5_signHere_33 rfl (lv_at hl 0 rfl) ?_
            refine lv_iconst (v := 1) hx hb dX5_signHere_34 rfl ?_
            refine lv_aload_n hx hb dX5_signHere_35 rfl (lv_at hl 0 rfl) ?_
            refine k_get C0 fg_X5_15 hP 0 rfl rfl dX5_signHere_36 ?_
            refine k_jvm hP hD hS hA [0] [false, true] rfl rfl rfl 0 0 (Nat.le_of_ble_eq_true rfl) (Nat.le_of_ble_eq_true rfl) (fun hPc hDc => k_runV (As := [.int 1, .int x_this_at]) (rest := []) C0 hZ hS hA (s_X5_fail l dC dI cy sq a_this a_this_text x_this_length x_this_at x_this_behind x_this_sort x_this_allowed a_this_plan x_this_fault x_this_place 1 x_this_at ) mV_X5_78 hPc hDc rfl rfl rfl hl rfl rfl (Nat.le_of_ble_eq_true rfl) ⟨(Nat.le_of_ble_eq_true rfl), (Nat.le_of_ble_eq_true rfl)⟩ ⟨(Nat.le_of_ble_eq_true rfl), (Nat.le_of_ble_eq_true rfl)⟩ dX5_signHere_39) (fun u35 H locs hw hP hD hS => ?_)
            obtain ⟨v36, v37⟩ := u35
            try dsimp only at hP hD hw
            replace hP : va_P (dC, dI) vwCl [(wi_0_1600_0 a_this_text cy g_this_text), (wo_5_riiiiirii a_this a_this_text x_this_length x_this_length x_this_length 0 x_this_allowed a_this_plan v36 v37)] H := hP
            replace hD := k_D hP hD
            have h38 := hw
            have h38 := by have h9 := h38; try simp only [show (1 : Int32).toInt = (1 : Int) from rfl] at h9; exact h9
            replace hq := lf_p1 hq h38
            exact jn42 x_this_length x_this_length 0 v36 v37 H locs ls (ib_w 0 1600 hx_this_length rfl) (ib_w 0 1600 hx_this_length rfl) (ib_w 0 3 (ib_c 0 0 0 rfl) rfl) (fun hq9 => absurd rfl hq9) (by try simp only [show (0 : Int32).toInt = (0 : Int) from rfl]; exact hq) (hP.sub [1, 0] rfl) (hD.sub [1, 0] rfl rfl) hS (lv_sub hl [0] rfl)
      · replace hq := lf_neg hq (lf_ne (lf_rf r11) (lf_lc 0 (0 : Int) rfl) c18)
        have h39 : ib r11 1 1 := ib_w 1 1 (ib_ne_lo 0 h13 rfl c18) rfl
        have h40 : ib x_this_at 0 1599 := ib_w 0 1599 (ib_two hx_this_at (h14 c18)) rfl
        have h41 : ib x_this_sort 3 3 := ib_w 3 3 (ib_two hx_this_sort (h15 c18)) rfl
        refine lv_bipush (v := (-27)) hx hb dX5_signHere_21 rfl ?_
        subst hQ; exact k_iret hx hb hr hlk rfl ((x_this_at, x_this_behind, x_this_sort, x_this_fault, x_this_place)) hS ⟨ib_w (-28) (-26) (ib_c (-27) (-27) (-27) rfl) rfl, ib_w 0 1600 h40 rfl, ib_w 0 1600 hx_this_behind rfl, ib_w 0 3 h41 rfl, fun _ => ib_w 0 1599 h40 rfl, (hO.symm.trans (by try simp only [show ((-27) : Int32).toInt = (-27 : Int) from rfl]; exact hq))⟩ hP hD (Nat.le_of_ble_eq_true rfl) (Nat.le_of_ble_eq_true rfl) dX5_signHere_23
  · replace hq := lf_neg hq (lf_ne (lf_rf r1) (lf_lc 0 (0 : Int) rfl) c8)
    have h42 : ib r1 1 1 := ib_w 1 1 (ib_ne_lo 0 h3 rfl c8) rfl
    have h43 : ib x_this_at 0 1599 := ib_w 0 1599 (ib_two hx_this_at (h4 c8)) rfl
    have h44 : ib x_this_sort 3 3 := ib_w 3 3 (ib_two hx_this_sort (h5 c8)) rfl
    refine lv_bipush (v := (-26)) hx hb dX5_signHere_9 rfl ?_
    subst hQ; exact k_iret hx hb hr hlk rfl ((x_this_at, x_this_behind, x_this_sort, x_this_fault, x_this_place)) hS ⟨ib_w (-28) (-26) (ib_c (-26) (-26) (-26) rfl) rfl, ib_w 0 1600 h43 rfl, ib_w 0 1600 hx_this_behind rfl, ib_w 0 3 h44 rfl, fun _ => ib_w 0 1599 h43 rfl, (hO.symm.trans (by try simp only [show ((-26) : Int32).toInt = (-26 : Int) from rfl]; exact hq))⟩ hP hD (Nat.le_of_ble_eq_true rfl) (Nat.le_of_ble_eq_true rfl) dX5_signHere_11
