set_option maxHeartbeats 4000000 in
set_option maxRecDepth 100000 in
theorem s_X5_needWord_s8 (l : Launch) (dC : Nat → ClassId) (dI : Nat → Nat → Nat) (cy : Nat → ClassId) (sq : Nat → Nat) (a_this : Nat) (a_this_text : Nat) (g_this_text : Nat → Int32) (x_this_length : Int32) (x_this_at : Int32) (x_this_behind : Int32) (x_this_sort : Int32) (x_this_allowed : Int32) (a_this_plan : Nat) (x_this_fault : Int32) (x_this_place : Int32) (hg_this_text : ia g_this_text 1600 0 255) (hx_this_length : ib x_this_length 0 1600) (hx_this_at : ib x_this_at 0 1600) (hx_this_behind : ib x_this_behind 0 1600) (hx_this_sort : ib x_this_sort 0 4) (hc0_this : ¬ x_this_sort = 0 → ib x_this_at 0 1599) : k_Met l yX5_needWord cX5_needWord 2 none { frames := 5, cells := 0, slots := 0, locals := 166 } dC dI cy sq [.ref a_this, .ref (sq 8)] [(wo_5_riiiiirii a_this a_this_text x_this_length x_this_at x_this_behind x_this_sort x_this_allowed a_this_plan x_this_fault x_this_place), (wi_0_1600_0 a_this_text cy g_this_text)] (k_Qv dC dI (fun (u : Int32 × Int32 × Int32 × Int32 × Int32) => match u with | (n0, n1, n2, n3, n4) => ib n0 0 1600 ∧ ib n1 0 1600 ∧ ib n2 0 4 ∧ (¬ n2 = 0 → ib n0 0 1599) ∧ (F_X5_needWord_s8 (lf_A g_this_text) (Int32.toInt x_this_length) (Int32.toInt x_this_at) (Int32.toInt x_this_behind) (Int32.toInt x_this_sort) (Int32.toInt x_this_fault) (Int32.toInt x_this_place) = ((Int32.toInt n0), (Int32.toInt n1), (Int32.toInt n2), (Int32.toInt n3), (Int32.toInt n4)))) (fun u : Int32 × Int32 × Int32 × Int32 × Int32 => match u with | (n0, n1, n2, n3, n4) => [(wo_5_riiiiirii a_this a_this_text x_this_length n0 n1 n2 x_this_allowed a_this_plan n3 n4), (wi_0_1600_0 a_this_text cy g_this_text)])) := by
  refine k_ofW2 (by decide +kernel) (Nat.le_of_ble_eq_true rfl) ?_
  intro p e s m below meth c A ls H locs args Q hQ C0 hZ hr hlk hin hP hD hA hS hl
  have C0 : k_cx p s m args c cX5_needWord 2 RX5 dC dI cy sq := C0
  have hx := C0.1
  have hb := C0.2.1
  have hl : lv_has ls 2 [(0, .ref a_this), (1, .ref (sq 8))] := hl
  obtain ⟨O, hO⟩ : ∃ o, o = F_X5_needWord_s8 (lf_A g_this_text) (Int32.toInt x_this_length) (Int32.toInt x_this_at) (Int32.toInt x_this_behind) (Int32.toInt x_this_sort) (Int32.toInt x_this_fault) (Int32.toInt x_this_place) := ⟨_, rfl⟩
  have hq := hO
  unfold F_X5_needWord_s8 at hq
  refine lv_aload_n hx hb dX5_needWord_0 rfl (lv_at hl 0 rfl) ?_
  refine lv_aload_n hx hb dX5_needWord_1 rfl (lv_at hl 1 rfl) ?_
  refine k_jim hP hD hS hA [0, 1] [] rfl rfl rfl 0 0 (Nat.le_of_ble_eq_true rfl) (Nat.le_of_ble_eq_true rfl) (fun hPc hDc => k_runV (As := [.ref (sq 8)]) (rest := []) C0 hZ hS hA (s_X5_wordIn_s8 l dC dI cy sq a_this a_this_text g_this_text x_this_length x_this_at x_this_behind x_this_sort x_this_allowed a_this_plan x_this_fault x_this_place hg_this_text (ib_w 0 1600 hx_this_at rfl) (ib_w 0 1600 hx_this_behind rfl) (ib_w 0 4 hx_this_sort rfl) (fun hq9 => ib_w 0 1599 (hc0_this hq9) rfl)) mV_X5_54 hPc hDc rfl rfl rfl hl rfl rfl (Nat.le_of_ble_eq_true rfl) ⟨(Nat.le_of_ble_eq_true rfl), (Nat.le_of_ble_eq_true rfl)⟩ ⟨(Nat.le_of_ble_eq_true rfl), (Nat.le_of_ble_eq_true rfl)⟩ dX5_needWord_2) (fun r1 u2 H locs hw hP hD hS => ?_)
  try dsimp only at hP hD hw
  replace hP : va_P (dC, dI) vwCl [(wo_5_riiiiirii a_this a_this_text x_this_length x_this_at x_this_behind x_this_sort x_this_allowed a_this_plan x_this_fault x_this_place), (wi_0_1600_0 a_this_text cy g_this_text)] H := hP
  replace hD := k_D hP hD
  have h3 := hw
  replace hq := lf_b1 hq h3
  refine lv_iconst (v := (-1)) hx hb dX5_needWord_5 rfl ?_
  refine lv_icmp_ne (tgt := 21) hx hb dX5_needWord_6 rfl (fun c4 => ?_) (fun c4 => ?_)
  · replace hq := lf_neg hq (lf_ne (lf_rf r1) (lf_lc (-1) (-1 : Int) rfl) c4)
    refine lv_aload_n hx hb dX5_needWord_21 rfl (lv_at hl 0 rfl) ?_
    refine lv_aload_n hx hb dX5_needWord_22 rfl (lv_at hl 0 rfl) ?_
    refine k_get C0 fg_X5_18 hP 0 rfl rfl dX5_needWord_23 ?_
    refine k_jvm hP hD hS hA [0, 1] [] rfl rfl rfl 0 0 (Nat.le_of_ble_eq_true rfl) (Nat.le_of_ble_eq_true rfl) (fun hPc hDc => k_runV (As := [.int x_this_behind]) (rest := []) C0 hZ hS hA (s_X5_moveTo l dC dI cy sq a_this a_this_text g_this_text x_this_length x_this_at x_this_behind x_this_sort x_this_allowed a_this_plan x_this_fault x_this_place x_this_behind hg_this_text (ib_w 0 1600 hx_this_length rfl) (ib_w 0 1600 hx_this_behind rfl)) mV_X5_86 hPc hDc rfl rfl rfl hl rfl rfl (Nat.le_of_ble_eq_true rfl) ⟨(Nat.le_of_ble_eq_true rfl), (Nat.le_of_ble_eq_true rfl)⟩ ⟨(Nat.le_of_ble_eq_true rfl), (Nat.le_of_ble_eq_true rfl)⟩ dX5_needWord_26) (fun u6 H locs hw hP hD hS => ?_)
    obtain ⟨v7, v8, v9⟩ := u6
    try dsimp only at hP hD hw
    replace hP : va_P (dC, dI) vwCl [(wo_5_riiiiirii a_this a_this_text x_this_length v7 v8 v9 x_this_allowed a_this_plan x_this_fault x_this_place), (wi_0_1600_0 a_this_text cy g_this_text)] H := hP
    replace hD := k_D hP hD
    obtain ⟨h10, h11, h12, h13, h14⟩ := hw
    replace hq := lf_p1 hq h14
    replace hq := lf_p1 hq rfl
    subst hQ; exact k_vret hx hb hr hlk ((v7, v8, v9, x_this_fault, x_this_place)) hS ⟨ib_w 0 1600 h10 rfl, ib_w 0 1600 h11 rfl, ib_w 0 4 h12 rfl, fun hq9 => ib_w 0 1599 (h13 hq9) rfl, (hO.symm.trans (by exact hq))⟩ hP hD (Nat.le_of_ble_eq_true rfl) (Nat.le_of_ble_eq_true rfl) dX5_needWord_29
  · replace hq := lf_pos hq (lf_eq (lf_rf r1) (lf_lc (-1) (-1 : Int) rfl) c4)
    have h15 := ib_eq (ib_any r1) (ib_c (-1) (-1) (-1) rfl) c4
    have h16 : ib r1 (-1) (-1) := ib_w (-1) (-1) h15.1 rfl
    refine lv_aload_n hx hb dX5_needWord_9 rfl (lv_at hl 0 rfl) ?_
    refine lv_iconst (v := 1) hx hb dX5_needWord_10 rfl ?_
    refine lv_aload_n hx hb dX5_needWord_11 rfl (lv_at hl 0 rfl) ?_
    refine k_get C0 fg_X5_15 hP 0 rfl rfl dX5_needWord_12 ?_
    refine k_jvm hP hD hS hA [0] [false, true] rfl rfl rfl 0 0 (Nat.le_of_ble_eq_true rfl) (Nat.le_of_ble_eq_true rfl) (fun hPc hDc => k_runV (As := [.int 1, .int x_this_at]) (rest := []) C0 hZ hS hA (s_X5_fail l dC dI cy sq a_this a_this_text x_this_length x_this_at x_this_behind x_this_sort x_this_allowed a_this_plan x_this_fault x_this_place 1 x_this_at ) mV_X5_78 hPc hDc rfl rfl rfl hl rfl rfl (Nat.le_of_ble_eq_true rfl) ⟨(Nat.le_of_ble_eq_true rfl), (Nat.le_of_ble_eq_true rfl)⟩ ⟨(Nat.le_of_ble_eq_true rfl), (Nat.le_of_ble_eq_true rfl)⟩ dX5_needWord_15) (fun u18 H locs hw hP hD hS => ?_)
    obtain ⟨v19, v20⟩ := u18
    try dsimp only at hP hD hw
    replace hP : va_P (dC, dI) vwCl [(wi_0_1600_0 a_this_text cy g_this_text), (wo_5_riiiiirii a_this a_this_text x_this_length x_this_length x_this_length 0 x_this_allowed a_this_plan v19 v20)] H := hP
    replace hD := k_D hP hD
    have h21 := hw
    have h21 := by have h9 := h21; try simp only [show (1 : Int32).toInt = (1 : Int) from rfl] at h9; exact h9
    replace hq := lf_p1 hq h21
    refine lv_goto (tgt := 29) hx hb dX5_needWord_18 rfl ?_
    subst hQ; exact k_vret hx hb hr hlk ((x_this_length, x_this_length, 0, v19, v20)) hS ⟨ib_w 0 1600 hx_this_length rfl, ib_w 0 1600 hx_this_length rfl, ib_w 0 4 (ib_c 0 0 0 rfl) rfl, fun hq9 => absurd rfl hq9, (hO.symm.trans (by try simp only [show (0 : Int32).toInt = (0 : Int) from rfl]; exact hq))⟩ (hP.sub [1, 0] rfl) (hD.sub [1, 0] rfl rfl) (Nat.le_of_ble_eq_true rfl) (Nat.le_of_ble_eq_true rfl) dX5_needWord_29
set_option maxHeartbeats 4000000 in
set_option maxRecDepth 100000 in
theorem s_X5_number_a0_1_a1_20 (l : Launch) (dC : Nat → ClassId) (dI : Nat → Nat → Nat) (cy : Nat → ClassId) (sq : Nat → Nat) (a_this : Nat) (a_this_text : Nat) (g_this_text : Nat → Int32) (x_this_length : Int32) (x_this_at : Int32) (x_this_behind : Int32) (x_this_sort : Int32) (x_this_allowed : Int32) (a_this_plan : Nat) (x_this_fault : Int32) (x_this_place : Int32) (hg_this_text : ia g_this_text 1600 0 255) (hx_this_length : ib x_this_length 0 1600) (hx_this_at : ib x_this_at 0 1600) (hx_this_behind : ib x_this_behind 0 1600) (hx_this_sort : ib x_this_sort 0 4) (hc0_this : ¬ x_this_sort = 0 → ib x_this_at 0 1599) : k_Met l yX5_number cX5_number 5 (some .int) { frames := 2, cells := 0, slots := 0, locals := 43 } dC dI cy sq [.ref a_this, .int 1, .int 20] [(wo_5_riiiiirii a_this a_this_text x_this_length x_this_at x_this_behind x_this_sort x_this_allowed a_this_plan x_this_fault x_this_place), (wi_0_1600_0 a_this_text cy g_this_text)] (k_Qi dC dI (fun (r : Int32) (u : Int32 × Int32 × Int32 × Int32 × Int32) => match u with | (n0, n1, n2, n3, n4) => ib r 1 20 ∧ ib n0 0 1600 ∧ ib n1 0 1600 ∧ ib n2 0 4 ∧ (¬ n2 = 0 → ib n0 0 1599) ∧ (F_X5_number_a0_1_a1_20 (lf_A g_this_text) (Int32.toInt x_this_length) (Int32.toInt x_this_at) (Int32.toInt x_this_behind) (Int32.toInt x_this_sort) (Int32.toInt x_this_fault) (Int32.toInt x_this_place) = ((Int32.toInt r), (Int32.toInt n0), (Int32.toInt n1), (Int32.toInt n2), (Int32.toInt n3), (Int32.toInt n4)))) (fun u : Int32 × Int32 × Int32 × Int32 × Int32 => match u with | (n0, n1, n2, n3, n4) => [(wo_5_riiiiirii a_this a_this_text x_this_length n0 n1 n2 x_this_allowed a_this_plan n3 n4), (wi_0_1600_0 a_this_text cy g_this_text)])) := by
  refine k_ofW2 (by decide +kernel) (Nat.le_of_ble_eq_true rfl) ?_
  intro p e s m below meth c A ls H locs args Q hQ C0 hZ hr hlk hin hP hD hA hS hl
  have C0 : k_cx p s m args c cX5_number 5 RX5 dC dI cy sq := C0
  have hx := C0.1
  have hb := C0.2.1
  have hl : lv_has ls 5 [(0, .ref a_this), (1, .int 1), (2, .int 20)] := hl
  obtain ⟨O, hO⟩ : ∃ o, o = F_X5_number_a0_1_a1_20 (lf_A g_this_text) (Int32.toInt x_this_length) (Int32.toInt x_this_at) (Int32.toInt x_this_behind) (Int32.toInt x_this_sort) (Int32.toInt x_this_fault) (Int32.toInt x_this_place) := ⟨_, rfl⟩
  have hq := hO
  unfold F_X5_number_a0_1_a1_20 at hq
  have jn94 : ∀ (J94_l3 : Int32) (J94_l4 : Int32) (H : Heap) (locs : List Loc) (ls : Array Slot), ib x_this_at 0 1599 → ib x_this_sort 2 2 → ib J94_l4 0 1600 → (O = F_X5_number_a0_1_a1_20_94 (Int32.toInt x_this_length) (Int32.toInt x_this_at) (Int32.toInt x_this_fault) (Int32.toInt x_this_place) (Int32.toInt J94_l3) (Int32.toInt J94_l4)) → va_P (dC, dI) vwCl [(wo_5_riiiiirii a_this a_this_text x_this_length x_this_at x_this_behind x_this_sort x_this_allowed a_this_plan x_this_fault x_this_place), (wi_0_1600_0 a_this_text cy g_this_text)] H → va_D A [(wo_5_riiiiirii a_this a_this_text x_this_length x_this_at x_this_behind x_this_sort x_this_allowed a_this_plan x_this_fault x_this_place), (wi_0_1600_0 a_this_text cy g_this_text)] → va_S A s.heap H locs → lv_has ls 5 [(0, .ref a_this), (1, .int 1), (2, .int 20), (3, .int J94_l3), (4, .int J94_l4)] → W p l e { frames := 2, cells := 0, slots := 0, locals := 43 } s m args below meth c H locs 0 0 Q (F0 m 94 ls []) := by
    intro J94_l3 J94_l4 H locs ls hK94_x_this_at hK94_x_this_sort hJ94_l4 hq hP hD hS hl
    unfold F_X5_number_a0_1_a1_20_94 at hq
    refine lv_aload_n hx hb dX5_number_94 rfl (lv_at hl 0 rfl) ?_
    refine lv_iconst (v := 2) hx hb dX5_number_95 rfl ?_
    refine lv_aload_n hx hb dX5_number_96 rfl (lv_at hl 0 rfl) ?_
    refine k_get C0 fg_X5_15 hP 0 rfl rfl dX5_number_97 ?_
    refine k_jvm hP hD hS hA [0] [false, true] rfl rfl rfl 0 0 (Nat.le_of_ble_eq_true rfl) (Nat.le_of_ble_eq_true rfl) (fun hPc hDc => k_runV (As := [.int 2, .int x_this_at]) (rest := []) C0 hZ hS hA (s_X5_fail l dC dI cy sq a_this a_this_text x_this_length x_this_at x_this_behind x_this_sort x_this_allowed a_this_plan x_this_fault x_this_place 2 x_this_at ) mV_X5_78 hPc hDc rfl rfl rfl hl rfl rfl (Nat.le_of_ble_eq_true rfl) ⟨(Nat.le_of_ble_eq_true rfl), (Nat.le_of_ble_eq_true rfl)⟩ ⟨(Nat.le_of_ble_eq_true rfl), (Nat.le_of_ble_eq_true rfl)⟩ dX5_number_100) (fun u2 H locs hw hP hD hS => ?_)
    obtain ⟨v3, v4⟩ := u2
    try dsimp only at hP hD hw
    replace hP : va_P (dC, dI) vwCl [(wi_0_1600_0 a_this_text cy g_this_text), (wo_5_riiiiirii a_this a_this_text x_this_length x_this_length x_this_length 0 x_this_allowed a_this_plan v3 v4)] H := hP
    replace hD := k_D hP hD
    have h5 := hw
    have h5 := by have h9 := h5; try simp only [show (2 : Int32).toInt = (2 : Int) from rfl] at h9; exact h9
    replace hq := lf_p1 hq h5
    refine lv_iload_n hx hb dX5_number_103 rfl (lv_at hl 1 rfl) ?_
    subst hQ; exact k_iret hx hb hr hlk rfl ((x_this_length, x_this_length, 0, v3, v4)) hS ⟨ib_w 1 20 (ib_c 1 1 1 rfl) rfl, ib_w 0 1600 hx_this_length rfl, ib_w 0 1600 hx_this_length rfl, ib_w 0 4 (ib_c 0 0 0 rfl) rfl, fun hq9 => absurd rfl hq9, (hO.symm.trans (by try simp only [show (1 : Int32).toInt = (1 : Int) from rfl]; try simp only [show (0 : Int32).toInt = (0 : Int) from rfl]; exact hq))⟩ (hP.sub [1, 0] rfl) (hD.sub [1, 0] rfl rfl) (Nat.le_of_ble_eq_true rfl) (Nat.le_of_ble_eq_true rfl) dX5_number_104
  have jn53 : ∀ (n : Nat) (J53_l3 : Int32) (J53_l4 : Int32) (H : Heap) (locs : List Loc) (ls : Array Slot), ib x_this_at 0 1599 → ib x_this_sort 2 2 → ib J53_l4 0 1600 → (O = F_X5_number_a0_1_a1_20_53 (lf_A g_this_text) (Int32.toInt x_this_length) (Int32.toInt x_this_at) (Int32.toInt x_this_behind) (Int32.toInt x_this_fault) (Int32.toInt x_this_place) n (Int32.toInt J53_l3) (Int32.toInt J53_l4)) → 1601 ≤ J53_l4.toInt + (n : Int) → va_P (dC, dI) vwCl [(wo_5_riiiiirii a_this a_this_text x_this_length x_this_at x_this_behind x_this_sort x_this_allowed a_this_plan x_this_fault x_this_place), (wi_0_1600_0 a_this_text cy g_this_text)] H → va_D A [(wo_5_riiiiirii a_this a_this_text x_this_length x_this_at x_this_behind x_this_sort x_this_allowed a_this_plan x_this_fault x_this_place), (wi_0_1600_0 a_this_text cy g_this_text)] → va_S A s.heap H locs → lv_has ls 5 [(0, .ref a_this), (1, .int 1), (2, .int 20), (3, .int J53_l3), (4, .int J53_l4)] → W p l e { frames := 2, cells := 0, slots := 0, locals := 43 } s m args below meth c H locs 0 0 Q (F0 m 53 ls []) := by
    as_aux_lemma =>
      intro n
      induction n with
      | zero =>
        intro J53_l3 J53_l4 H locs ls hK53_x_this_at hK53_x_this_sort hJ53_l4 hq hm
        exact absurd hm (by have := hJ53_l4; unfold ib at this; omega)
      | succ n ih =>
        intro J53_l3 J53_l4 H locs ls hK53_x_this_at hK53_x_this_sort hJ53_l4 hq hm53 hP hD hS hl
        have ih53 := ih
        obtain ⟨K53, hK53⟩ : ∃ K, K = F_X5_number_a0_1_a1_20_53 (lf_A g_this_text) (Int32.toInt x_this_length) (Int32.toInt x_this_at) (Int32.toInt x_this_behind) (Int32.toInt x_this_fault) (Int32.toInt x_this_place) n := ⟨_, rfl⟩
        have hq : O = F_X5_number_a0_1_a1_20_53b (lf_A g_this_text) (Int32.toInt x_this_length) (Int32.toInt x_this_at) (Int32.toInt x_this_behind) (Int32.toInt x_this_fault) (Int32.toInt x_this_place) K53 (Int32.toInt J53_l3) (Int32.toInt J53_l4) := by rw [hK53]; exact hq
        unfold F_X5_number_a0_1_a1_20_53b at hq
        refine lv_iload hx hb dX5_number_53 (lv_at hl 4 rfl) ?_
        refine lv_aload_n hx hb dX5_number_55 rfl (lv_at hl 0 rfl) ?_
        refine k_get C0 fg_X5_18 hP 0 rfl rfl dX5_number_56 ?_
        refine lv_icmp_ge (tgt := 84) hx hb dX5_number_59 rfl (fun c6 => ?_) (fun c6 => ?_)
        · as_aux_lemma =>
            replace hq := lf_pos hq (lf_le (lf_rf x_this_behind) (lf_rf J53_l4) c6)
            have h7 := ib_le hx_this_behind hJ53_l4 c6
            refine lv_iload_n hx hb dX5_number_84 rfl (lv_at hl 3 rfl) ?_
            refine lv_iload_n hx hb dX5_number_85 rfl (lv_at hl 1 rfl) ?_
            refine lv_icmp_lt (tgt := 94) hx hb dX5_number_86 rfl (fun c8 => ?_) (fun c8 => ?_)
            · replace hq := lf_pos hq (lf_lt (lf_rf J53_l3) (lf_lc 1 (1 : Int) rfl) c8)
              have h9 := ib_lt (ib_any J53_l3) (ib_c 1 1 1 rfl) c8
              have h10 : ib J53_l3 (-2147483648) 0 := ib_w (-2147483648) 0 h9.1 rfl
              exact jn94 J53_l3 J53_l4 H locs ls (ib_w 0 1599 hK53_x_this_at rfl) (ib_w 2 2 hK53_x_this_sort rfl) (ib_w 0 1600 hJ53_l4 rfl) (by exact hq) hP hD hS (lv_sub hl [0, 1, 2, 3, 4] rfl)
            · as_aux_lemma =>
                replace hq := lf_neg hq (lf_nlt (lf_rf J53_l3) (lf_lc 1 (1 : Int) rfl) c8)
                have h11 := ib_nlt (ib_any J53_l3) (ib_c 1 1 1 rfl) c8
                have h12 : ib J53_l3 1 2147483647 := ib_w 1 2147483647 h11.1 rfl
                refine lv_iload_n hx hb dX5_number_89 rfl (lv_at hl 3 rfl) ?_
                refine lv_iload_n hx hb dX5_number_90 rfl (lv_at hl 2 rfl) ?_
                refine lv_icmp_le (tgt := 105) hx hb dX5_number_91 rfl (fun c13 => ?_) (fun c13 => ?_)
                · replace hq := lf_pos hq (lf_le (lf_rf J53_l3) (lf_lc 20 (20 : Int) rfl) c13)
                  have h14 := ib_le h12 (ib_c 20 20 20 rfl) c13
                  have h15 : ib J53_l3 1 20 := ib_w 1 20 h14.1 rfl
                  refine lv_aload_n hx hb dX5_number_105 rfl (lv_at hl 0 rfl) ?_
                  refine lv_aload_n hx hb dX5_number_106 rfl (lv_at hl 0 rfl) ?_
                  refine k_get C0 fg_X5_18 hP 0 rfl rfl dX5_number_107 ?_
                  refine k_jvm hP hD hS hA [0, 1] [] rfl rfl rfl 0 0 (Nat.le_of_ble_eq_true rfl) (Nat.le_of_ble_eq_true rfl) (fun hPc hDc => k_runV (As := [.int x_this_behind]) (rest := []) C0 hZ hS hA (s_X5_moveTo l dC dI cy sq a_this a_this_text g_this_text x_this_length x_this_at x_this_behind x_this_sort x_this_allowed a_this_plan x_this_fault x_this_place x_this_behind hg_this_text (ib_w 0 1600 hx_this_length rfl) (ib_w 0 1600 hx_this_behind rfl)) mV_X5_86 hPc hDc rfl rfl rfl hl rfl rfl (Nat.le_of_ble_eq_true rfl) ⟨(Nat.le_of_ble_eq_true rfl), (Nat.le_of_ble_eq_true rfl)⟩ ⟨(Nat.le_of_ble_eq_true rfl), (Nat.le_of_ble_eq_true rfl)⟩ dX5_number_110) (fun u17 H locs hw hP hD hS => ?_)
                  obtain ⟨v18, v19, v20⟩ := u17
                  try dsimp only at hP hD hw
                  replace hP : va_P (dC, dI) vwCl [(wo_5_riiiiirii a_this a_this_text x_this_length v18 v19 v20 x_this_allowed a_this_plan x_this_fault x_this_place), (wi_0_1600_0 a_this_text cy g_this_text)] H := hP
                  replace hD := k_D hP hD
                  obtain ⟨h21, h22, h23, h24, h25⟩ := hw
                  replace hq := lf_p1 hq h25
                  replace hq := lf_p1 hq rfl
                  refine lv_iload_n hx hb dX5_number_113 rfl (lv_at hl 3 rfl) ?_
                  subst hQ; exact k_iret hx hb hr hlk rfl ((v18, v19, v20, x_this_fault, x_this_place)) hS ⟨ib_w 1 20 h15 rfl, ib_w 0 1600 h21 rfl, ib_w 0 1600 h22 rfl, ib_w 0 4 h23 rfl, fun hq9 => ib_w 0 1599 (h24 hq9) rfl, (hO.symm.trans (by exact hq))⟩ hP hD (Nat.le_of_ble_eq_true rfl) (Nat.le_of_ble_eq_true rfl) dX5_number_114
                · replace hq := lf_neg hq (lf_nle (lf_rf J53_l3) (lf_lc 20 (20 : Int) rfl) c13)
                  have h26 := ib_nle h12 (ib_c 20 20 20 rfl) c13
                  have h27 : ib J53_l3 21 2147483647 := ib_w 21 2147483647 h26.1 rfl
                  exact jn94 J53_l3 J53_l4 H locs ls (ib_w 0 1599 hK53_x_this_at rfl) (ib_w 2 2 hK53_x_this_sort rfl) (ib_w 0 1600 hJ53_l4 rfl) (by exact hq) hP hD hS (lv_sub hl [0, 1, 2, 3, 4] rfl)
        · as_aux_lemma =>
            replace hq := lf_neg hq (lf_nle (lf_rf x_this_behind) (lf_rf J53_l4) c6)
            have h28 := ib_nle hx_this_behind hJ53_l4 c6
            have h29 : ib x_this_behind 1 1600 := ib_w 1 1600 h28.1 rfl
            have h30 : ib J53_l4 0 1599 := ib_w 0 1599 h28.2 rfl
            refine lv_iload_n hx hb dX5_number_62 rfl (lv_at hl 3 rfl) ?_
            refine lv_bipush (v := 10) hx hb dX5_number_63 rfl ?_
            refine lv_imul hx hb dX5_number_65 ?_
            refine lv_topi (fun z31 ez31 => ?_)
            have Ez31 := lf_op lf_imul ez31 (lf_rf J53_l3) (lf_lc 10 (10 : Int) rfl)
            refine lv_aload_n hx hb dX5_number_66 rfl (lv_at hl 0 rfl) ?_
            refine k_get C0 fg_X5_33 hP 0 rfl rfl dX5_number_67 ?_
            refine lv_iload hx hb dX5_number_70 (lv_at hl 4 rfl) ?_
            refine va_iald hx hb C0.2.2.2.2.2.1 hP 1 0 rfl rfl (ib_in 1600 h30 rfl) dX5_number_72 ?_
            refine lv_topi (fun z32 ez32 => ?_)
            have h33 : ib z32 0 255 := by rw [ez32]; exact ia_at hg_this_text (ib_in 1600 h30 rfl)
            have Ez32 := lf_ld ez32 (lf_ra g_this_text) (lf_rf J53_l4)
            refine lv_iadd hx hb dX5_number_73 ?_
            refine lv_topi (fun z34 ez34 => ?_)
            have Ez34 := lf_op lf_iadd ez34 Ez31 Ez32
            refine lv_bipush (v := 48) hx hb dX5_number_74 rfl ?_
            refine lv_isub hx hb dX5_number_76 ?_
            refine lv_topi (fun z35 ez35 => ?_)
            have Ez35 := lf_op lf_isub ez35 Ez34 (lf_lc 48 (48 : Int) rfl)
            refine lv_istore_n (lv' := [(3, .int z35), (0, .ref a_this), (1, .int 1), (2, .int 20), (4, .int J53_l4)]) hx hb dX5_number_77 rfl hl (Nat.le_of_ble_eq_true rfl) rfl (fun ls hl => ?_)
            obtain ⟨z36, ez36⟩ : ∃ y : Int32, y = J53_l4 + 1 := ⟨_, rfl⟩
            refine lv_iinc (v := z36) (lv' := [(4, .int z36), (3, .int z35), (0, .ref a_this), (1, .int 1), (2, .int 20)]) hx hb dX5_number_78 hl (k := 4) rfl (by rw [ez36]; rfl) (Nat.le_of_ble_eq_true rfl) rfl (fun ls hl => ?_)
            have h37 := ib_add h30 (ib_c 1 1 1 rfl) rfl
            rw [← ez36] at h37
            have h38 : ib z36 1 1600 := ib_w 1 1600 h37.1 rfl
            have Ez36 := lf_add h37.2 (lf_rf J53_l4) (lf_lc 1 (1 : Int) rfl)
            refine lv_goto (tgt := 53) hx hb dX5_number_81 rfl ?_
            exact ih53 z35 z36 H locs ls (ib_w 0 1599 hK53_x_this_at rfl) (ib_w 2 2 hK53_x_this_sort rfl) (ib_w 0 1600 h38 rfl) (by rw [← hK53]; rw [lf_u Ez35]; rw [lf_u Ez36]; exact hq) (by have := h37.2; have : (1 : Int32).toInt = 1 := rfl; omega) hP hD hS (lv_sub hl [2, 3, 4, 1, 0] rfl)
  refine lv_aload_n hx hb dX5_number_0 rfl (lv_at hl 0 rfl) ?_
  refine k_get C0 fg_X5_21 hP 0 rfl rfl dX5_number_1 ?_
  refine lv_iconst (v := 2) hx hb dX5_number_4 rfl ?_
  refine lv_icmp_eq (tgt := 19) hx hb dX5_number_5 rfl (fun c39 => ?_) (fun c39 => ?_)
  · as_aux_lemma =>
      replace hq := lf_pos hq (lf_eq (lf_rf x_this_sort) (lf_lc 2 (2 : Int) rfl) c39)
      have h40 := ib_eq hx_this_sort (ib_c 2 2 2 rfl) c39
      have h41 : ib x_this_sort 2 2 := ib_w 2 2 h40.1 rfl
      have h42 : ib x_this_at 0 1599 := ib_w 0 1599 (ib_two hx_this_at (hc0_this (ib_nz h41 rfl))) rfl
      refine lv_aload_n hx hb dX5_number_19 rfl (lv_at hl 0 rfl) ?_
      refine k_get C0 fg_X5_18 hP 0 rfl rfl dX5_number_20 ?_
      refine lv_aload_n hx hb dX5_number_23 rfl (lv_at hl 0 rfl) ?_
      refine k_get C0 fg_X5_15 hP 0 rfl rfl dX5_number_24 ?_
      refine lv_isub hx hb dX5_number_27 ?_
      refine lv_topi (fun z43 ez43 => ?_)
      have h44 := ib_sub hx_this_behind h42 rfl
      rw [← ez43] at h44
      have h45 : ib z43 (-1599) 1600 := ib_w (-1599) 1600 h44.1 rfl
      have Ez43 := lf_sub h44.2 (lf_rf x_this_behind) (lf_rf x_this_at)
      refine lv_iconst (v := 4) hx hb dX5_number_28 rfl ?_
      refine lv_icmp_le (tgt := 45) hx hb dX5_number_29 rfl (fun c46 => ?_) (fun c46 => ?_)
      · replace hq := lf_pos hq (lf_le Ez43 (lf_lc 4 (4 : Int) rfl) c46)
        have h47 := ib_le h45 (ib_c 4 4 4 rfl) c46
        have h48 : ib z43 (-1599) 4 := ib_w (-1599) 4 h47.1 rfl
        refine lv_iconst (v := 0) hx hb dX5_number_45 rfl ?_
        refine lv_istore_n (lv' := [(3, .int 0), (0, .ref a_this), (1, .int 1), (2, .int 20)]) hx hb dX5_number_46 rfl hl (Nat.le_of_ble_eq_true rfl) rfl (fun ls hl => ?_)
        refine lv_aload_n hx hb dX5_number_47 rfl (lv_at hl 1 rfl) ?_
        refine k_get C0 fg_X5_15 hP 0 rfl rfl dX5_number_48 ?_
        refine lv_istore (lv' := [(4, .int x_this_at), (3, .int 0), (0, .ref a_this), (1, .int 1), (2, .int 20)]) hx hb dX5_number_51 hl (Nat.le_of_ble_eq_true rfl) rfl (fun ls hl => ?_)
        exact jn53 1602 0 x_this_at H locs ls (ib_w 0 1599 h42 rfl) (ib_w 2 2 h41 rfl) (ib_w 0 1600 h42 rfl) (by try simp only [show (0 : Int32).toInt = (0 : Int) from rfl]; exact hq) (by have := h42; unfold ib at this; omega) hP hD hS (lv_sub hl [2, 3, 4, 1, 0] rfl)
      · as_aux_lemma =>
          replace hq := lf_neg hq (lf_nle Ez43 (lf_lc 4 (4 : Int) rfl) c46)
          have h49 := ib_nle h45 (ib_c 4 4 4 rfl) c46
          have h50 : ib z43 5 1600 := ib_w 5 1600 h49.1 rfl
          refine lv_aload_n hx hb dX5_number_32 rfl (lv_at hl 0 rfl) ?_
          refine lv_iconst (v := 1) hx hb dX5_number_33 rfl ?_
          refine lv_aload_n hx hb dX5_number_34 rfl (lv_at hl 0 rfl) ?_
          refine k_get C0 fg_X5_15 hP 0 rfl rfl dX5_number_35 ?_
          refine lv_iconst (v := 4) hx hb dX5_number_38 rfl ?_
          refine lv_iadd hx hb dX5_number_39 ?_
          refine lv_topi (fun z51 ez51 => ?_)
          have h52 := ib_add h42 (ib_c 4 4 4 rfl) rfl
          rw [← ez51] at h52
          have h53 : ib z51 4 1603 := ib_w 4 1603 h52.1 rfl
          have Ez51 := lf_add h52.2 (lf_rf x_this_at) (lf_lc 4 (4 : Int) rfl)
          refine k_jvm hP hD hS hA [0] [false, true] rfl rfl rfl 0 0 (Nat.le_of_ble_eq_true rfl) (Nat.le_of_ble_eq_true rfl) (fun hPc hDc => k_runV (As := [.int 1, .int z51]) (rest := []) C0 hZ hS hA (s_X5_fail l dC dI cy sq a_this a_this_text x_this_length x_this_at x_this_behind x_this_sort x_this_allowed a_this_plan x_this_fault x_this_place 1 z51 ) mV_X5_78 hPc hDc rfl rfl rfl hl rfl rfl (Nat.le_of_ble_eq_true rfl) ⟨(Nat.le_of_ble_eq_true rfl), (Nat.le_of_ble_eq_true rfl)⟩ ⟨(Nat.le_of_ble_eq_true rfl), (Nat.le_of_ble_eq_true rfl)⟩ dX5_number_40) (fun u55 H locs hw hP hD hS => ?_)
          obtain ⟨v56, v57⟩ := u55
          try dsimp only at hP hD hw
          replace hP : va_P (dC, dI) vwCl [(wi_0_1600_0 a_this_text cy g_this_text), (wo_5_riiiiirii a_this a_this_text x_this_length x_this_length x_this_length 0 x_this_allowed a_this_plan v56 v57)] H := hP
          replace hD := k_D hP hD
          have h58 := hw
          have h58 := by have h9 := h58; try simp only [show (1 : Int32).toInt = (1 : Int) from rfl] at h9; rw [lf_u Ez51] at h9; exact h9
          replace hq := lf_p1 hq h58
          refine lv_iload_n hx hb dX5_number_43 rfl (lv_at hl 1 rfl) ?_
          subst hQ; exact k_iret hx hb hr hlk rfl ((x_this_length, x_this_length, 0, v56, v57)) hS ⟨ib_w 1 20 (ib_c 1 1 1 rfl) rfl, ib_w 0 1600 hx_this_length rfl, ib_w 0 1600 hx_this_length rfl, ib_w 0 4 (ib_c 0 0 0 rfl) rfl, fun hq9 => absurd rfl hq9, (hO.symm.trans (by try simp only [show (1 : Int32).toInt = (1 : Int) from rfl]; try simp only [show (0 : Int32).toInt = (0 : Int) from rfl]; exact hq))⟩ (hP.sub [1, 0] rfl) (hD.sub [1, 0] rfl rfl) (Nat.le_of_ble_eq_true rfl) (Nat.le_of_ble_eq_true rfl) dX5_number_44
  · replace hq := lf_neg hq (lf_ne (lf_rf x_this_sort) (lf_lc 2 (2 : Int) rfl) c39)
    refine lv_aload_n hx hb dX5_number_8 rfl (lv_at hl 0 rfl) ?_
    refine lv_iconst (v := 1) hx hb dX5_number_9 rfl ?_
    refine lv_aload_n hx hb dX5_number_10 rfl (lv_at hl 0 rfl) ?_
    refine k_get C0 fg_X5_15 hP 0 rfl rfl dX5_number_11 ?_
    refine k_jvm hP hD hS hA [0] [false, true] rfl rfl rfl 0 0 (Nat.le_of_ble_eq_true rfl) (Nat.le_of_ble_eq_true rfl) (fun hPc hDc => k_runV (As := [.int 1, .int x_this_at]) (rest := []) C0 hZ hS hA (s_X5_fail l dC dI cy sq a_this a_this_text x_this_length x_this_at x_this_behind x_this_sort x_this_allowed a_this_plan x_this_fault x_this_place 1 x_this_at ) mV_X5_78 hPc hDc rfl rfl rfl hl rfl rfl (Nat.le_of_ble_eq_true rfl) ⟨(Nat.le_of_ble_eq_true rfl), (Nat.le_of_ble_eq_true rfl)⟩ ⟨(Nat.le_of_ble_eq_true rfl), (Nat.le_of_ble_eq_true rfl)⟩ dX5_number_14) (fun u60 H locs hw hP hD hS => ?_)
    obtain ⟨v61, v62⟩ := u60
    try dsimp only at hP hD hw
    replace hP : va_P (dC, dI) vwCl [(wi_0_1600_0 a_this_text cy g_this_text), (wo_5_riiiiirii a_this a_this_text x_this_length x_this_length x_this_length 0 x_this_allowed a_this_plan v61 v62)] H := hP
    replace hD := k_D hP hD
    have h63 := hw
    have h63 := by have h9 := h63; try simp only [show (1 : Int32).toInt = (1 : Int) from rfl] at h9; exact h9
    replace hq := lf_p1 hq h63
    refine lv_iload_n hx hb dX5_number_17 rfl (lv_at hl 1 rfl) ?_
    subst hQ; exact k_iret hx hb hr hlk rfl ((x_this_length, x_this_length, 0, v61, v62)) hS ⟨ib_w 1 20 (ib_c 1 1 1 rfl) rfl, ib_w 0 1600 hx_this_length rfl, ib_w 0 1600 hx_this_length rfl, ib_w 0 4 (ib_c 0 0 0 rfl) rfl, fun hq9 => absurd rfl hq9, (hO.symm.trans (by try simp only [show (1 : Int32).toInt = (1 : Int) from rfl]; try simp only [show (0 : Int32).toInt = (0 : Int) from rfl]; exact hq))⟩ (hP.sub [1, 0] rfl) (hD.sub [1, 0] rfl rfl) (Nat.le_of_ble_eq_true rfl) (Nat.le_of_ble_eq_true rfl) dX5_number_18
set_option maxHeartbeats 4000000 in
set_option maxRecDepth 100000 in
theorem s_X5_numberBehind_a1_1_a2_20_s8 (l : Launch) (dC : Nat → ClassId) (dI : Nat → Nat → Nat) (cy : Nat → ClassId) (sq : Nat → Nat) (a_this : Nat) (a_this_text : Nat) (g_this_text : Nat → Int32) (x_this_length : Int32) (x_this_at : Int32) (x_this_behind : Int32) (x_this_sort : Int32) (x_this_allowed : Int32) (a_this_plan : Nat) (x_this_fault : Int32) (x_this_place : Int32) (hg_this_text : ia g_this_text 1600 0 255) (hx_this_length : ib x_this_length 0 1600) (hx_this_at : ib x_this_at 0 1600) (hx_this_behind : ib x_this_behind 0 1600) (hx_this_sort : ib x_this_sort 0 4) (hc0_this : ¬ x_this_sort = 0 → ib x_this_at 0 1599) : k_Met l yX5_numberBehind cX5_numberBehind 4 (some .int) { frames := 6, cells := 0, slots := 0, locals := 187 } dC dI cy sq [.ref a_this, .ref (sq 8), .int 1, .int 20] [(wo_5_riiiiirii a_this a_this_text x_this_length x_this_at x_this_behind x_this_sort x_this_allowed a_this_plan x_this_fault x_this_place), (wi_0_1600_0 a_this_text cy g_this_text)] (k_Qi dC dI (fun (r : Int32) (u : Int32 × Int32 × Int32 × Int32 × Int32) => match u with | (n0, n1, n2, n3, n4) => ib r 1 20 ∧ ib n0 0 1600 ∧ ib n1 0 1600 ∧ ib n2 0 4 ∧ (¬ n2 = 0 → ib n0 0 1599) ∧ (F_X5_numberBehind_a1_1_a2_20_s8 (lf_A g_this_text) (Int32.toInt x_this_length) (Int32.toInt x_this_at) (Int32.toInt x_this_behind) (Int32.toInt x_this_sort) (Int32.toInt x_this_fault) (Int32.toInt x_this_place) = ((Int32.toInt r), (Int32.toInt n0), (Int32.toInt n1), (Int32.toInt n2), (Int32.toInt n3), (Int32.toInt n4)))) (fun u : Int32 × Int32 × Int32 × Int32 × Int32 => match u with | (n0, n1, n2, n3, n4) => [(wo_5_riiiiirii a_this a_this_text x_this_length n0 n1 n2 x_this_allowed a_this_plan n3 n4), (wi_0_1600_0 a_this_text cy g_this_text)])) := by
  refine k_ofW2 (by decide +kernel) (Nat.le_of_ble_eq_true rfl) ?_
  intro p e s m below meth c A ls H locs args Q hQ C0 hZ hr hlk hin hP hD hA hS hl
  have C0 : k_cx p s m args c cX5_numberBehind 4 RX5 dC dI cy sq := C0
  have hx := C0.1
  have hb := C0.2.1
  have hl : lv_has ls 4 [(0, .ref a_this), (1, .ref (sq 8)), (2, .int 1), (3, .int 20)] := hl
  obtain ⟨O, hO⟩ : ∃ o, o = F_X5_numberBehind_a1_1_a2_20_s8 (lf_A g_this_text) (Int32.toInt x_this_length) (Int32.toInt x_this_at) (Int32.toInt x_this_behind) (Int32.toInt x_this_sort) (Int32.toInt x_this_fault) (Int32.toInt x_this_place) := ⟨_, rfl⟩
  have hq := hO
  unfold F_X5_numberBehind_a1_1_a2_20_s8 at hq
  refine lv_aload_n hx hb dX5_numberBehind_0 rfl (lv_at hl 0 rfl) ?_
  refine lv_aload_n hx hb dX5_numberBehind_1 rfl (lv_at hl 1 rfl) ?_
  refine k_jvm hP hD hS hA [0, 1] [] rfl rfl rfl 0 0 (Nat.le_of_ble_eq_true rfl) (Nat.le_of_ble_eq_true rfl) (fun hPc hDc => k_runV (As := [.ref (sq 8)]) (rest := []) C0 hZ hS hA (s_X5_needWord_s8 l dC dI cy sq a_this a_this_text g_this_text x_this_length x_this_at x_this_behind x_this_sort x_this_allowed a_this_plan x_this_fault x_this_place hg_this_text (ib_w 0 1600 hx_this_length rfl) (ib_w 0 1600 hx_this_at rfl) (ib_w 0 1600 hx_this_behind rfl) (ib_w 0 4 hx_this_sort rfl) (fun hq9 => ib_w 0 1599 (hc0_this hq9) rfl)) mV_X5_144 hPc hDc rfl rfl rfl hl rfl rfl (Nat.le_of_ble_eq_true rfl) ⟨(Nat.le_of_ble_eq_true rfl), (Nat.le_of_ble_eq_true rfl)⟩ ⟨(Nat.le_of_ble_eq_true rfl), (Nat.le_of_ble_eq_true rfl)⟩ dX5_numberBehind_2) (fun u2 H locs hw hP hD hS => ?_)
  obtain ⟨v3, v4, v5, v6, v7⟩ := u2
  try dsimp only at hP hD hw
  replace hP : va_P (dC, dI) vwCl [(wo_5_riiiiirii a_this a_this_text x_this_length v3 v4 v5 x_this_allowed a_this_plan v6 v7), (wi_0_1600_0 a_this_text cy g_this_text)] H := hP
  replace hD := k_D hP hD
  obtain ⟨h8, h9, h10, h11, h12⟩ := hw
  replace hq := lf_p1 hq h12
  replace hq := lf_p1 hq rfl
  replace hq := lf_p1 hq rfl
  replace hq := lf_p1 hq rfl
  refine lv_aload_n hx hb dX5_numberBehind_5 rfl (lv_at hl 0 rfl) ?_
  refine lv_iload_n hx hb dX5_numberBehind_6 rfl (lv_at hl 2 rfl) ?_
  refine lv_iload_n hx hb dX5_numberBehind_7 rfl (lv_at hl 3 rfl) ?_
  refine k_jim hP hD hS hA [0, 1] [] rfl rfl rfl 0 0 (Nat.le_of_ble_eq_true rfl) (Nat.le_of_ble_eq_true rfl) (fun hPc hDc => k_runV (As := [.int 1, .int 20]) (rest := []) C0 hZ hS hA (s_X5_number_a0_1_a1_20 l dC dI cy sq a_this a_this_text g_this_text x_this_length v3 v4 v5 x_this_allowed a_this_plan v6 v7 hg_this_text (ib_w 0 1600 hx_this_length rfl) (ib_w 0 1600 h8 rfl) (ib_w 0 1600 h9 rfl) (ib_w 0 4 h10 rfl) (fun hq9 => ib_w 0 1599 (h11 hq9) rfl)) mV_X5_168 hPc hDc rfl rfl rfl hl rfl rfl (Nat.le_of_ble_eq_true rfl) ⟨(Nat.le_of_ble_eq_true rfl), (Nat.le_of_ble_eq_true rfl)⟩ ⟨(Nat.le_of_ble_eq_true rfl), (Nat.le_of_ble_eq_true rfl)⟩ dX5_numberBehind_8) (fun r13 u14 H locs hw hP hD hS => ?_)
  obtain ⟨v15, v16, v17, v18, v19⟩ := u14
  try dsimp only at hP hD hw
  replace hP : va_P (dC, dI) vwCl [(wo_5_riiiiirii a_this a_this_text x_this_length v15 v16 v17 x_this_allowed a_this_plan v18 v19), (wi_0_1600_0 a_this_text cy g_this_text)] H := hP
  replace hD := k_D hP hD
  obtain ⟨h20, h21, h22, h23, h24, h25⟩ := hw
  replace hq := lf_p1 hq h25
  replace hq := lf_p1 hq rfl
  replace hq := lf_p1 hq rfl
  replace hq := lf_p1 hq rfl
  replace hq := lf_p1 hq rfl
  subst hQ; exact k_iret hx hb hr hlk rfl ((v15, v16, v17, v18, v19)) hS ⟨ib_w 1 20 h20 rfl, ib_w 0 1600 h21 rfl, ib_w 0 1600 h22 rfl, ib_w 0 4 h23 rfl, fun hq9 => ib_w 0 1599 (h24 hq9) rfl, (hO.symm.trans (by exact hq))⟩ hP hD (Nat.le_of_ble_eq_true rfl) (Nat.le_of_ble_eq_true rfl) dX5_numberBehind_11
set_option maxHeartbeats 4000000 in
set_option maxRecDepth 100000 in
theorem s_X5_wordIn_s9 (l : Launch) (dC : Nat → ClassId) (dI : Nat → Nat → Nat) (cy : Nat → ClassId) (sq : Nat → Nat) (a_this : Nat) (a_this_text : Nat) (g_this_text : Nat → Int32) (x_this_length : Int32) (x_this_at : Int32) (x_this_behind : Int32) (x_this_sort : Int32) (x_this_allowed : Int32) (a_this_plan : Nat) (x_this_fault : Int32) (x_this_place : Int32) (hg_this_text : ia g_this_text 1600 0 255) (hx_this_at : ib x_this_at 0 1600) (hx_this_behind : ib x_this_behind 0 1600) (hx_this_sort : ib x_this_sort 0 4) (hc0_this : ¬ x_this_sort = 0 → ib x_this_at 0 1599) : k_Met l yX5_wordIn cX5_wordIn 6 (some .int) { frames := 4, cells := 0, slots := 0, locals := 141 } dC dI cy sq [.ref a_this, .ref (sq 9)] [(wo_5_riiiiirii a_this a_this_text x_this_length x_this_at x_this_behind x_this_sort x_this_allowed a_this_plan x_this_fault x_this_place), (wi_0_1600_0 a_this_text cy g_this_text)] (k_Qi dC dI (fun (r : Int32) (_ : Unit) => (F_X5_wordIn_s9 (lf_A g_this_text) (Int32.toInt x_this_at) (Int32.toInt x_this_behind) (Int32.toInt x_this_sort) = ((Int32.toInt r)))) (fun _ : Unit => [(wo_5_riiiiirii a_this a_this_text x_this_length x_this_at x_this_behind x_this_sort x_this_allowed a_this_plan x_this_fault x_this_place), (wi_0_1600_0 a_this_text cy g_this_text)])) := by
  refine k_ofW2 (by decide +kernel) (Nat.le_of_ble_eq_true rfl) ?_
  intro p e s m below meth c A ls H locs args Q hQ C0 hZ hr hlk hin hP hD hA hS hl
  have C0 : k_cx p s m args c cX5_wordIn 6 RX5 dC dI cy sq := C0
  have hx := C0.1
  have hb := C0.2.1
  have hl : lv_has ls 6 [(0, .ref a_this), (1, .ref (sq 9))] := hl
  obtain ⟨O, hO⟩ : ∃ o, o = F_X5_wordIn_s9 (lf_A g_this_text) (Int32.toInt x_this_at) (Int32.toInt x_this_behind) (Int32.toInt x_this_sort) := ⟨_, rfl⟩
  have hq := hO
  unfold F_X5_wordIn_s9 at hq
  have jn23 : ∀ (n : Nat) (J23_l2 : Int32) (J23_l3 : Int32) (J23_l4 : Int32) (J23_l5 : Int32) (H : Heap) (locs : List Loc) (ls : Array Slot), ib x_this_at 0 1599 → ib x_this_sort 1 1 → ib J23_l3 0 1606 → ib J23_l4 0 1 → ib J23_l5 0 7 → (1 * J23_l3.toInt + (-1) * J23_l5.toInt ≤ 1600) → (O = F_X5_wordIn_s9_23 (lf_A g_this_text) (Int32.toInt x_this_at) (Int32.toInt x_this_behind) n (Int32.toInt J23_l2) (Int32.toInt J23_l3) (Int32.toInt J23_l4) (Int32.toInt J23_l5)) → 8 ≤ J23_l5.toInt + (n : Int) → va_P (dC, dI) vwCl [(wo_5_riiiiirii a_this a_this_text x_this_length x_this_at x_this_behind x_this_sort x_this_allowed a_this_plan x_this_fault x_this_place), (wi_0_1600_0 a_this_text cy g_this_text)] H → va_D A [(wo_5_riiiiirii a_this a_this_text x_this_length x_this_at x_this_behind x_this_sort x_this_allowed a_this_plan x_this_fault x_this_place), (wi_0_1600_0 a_this_text cy g_this_text)] → va_S A s.heap H locs → lv_has ls 6 [(0, .ref a_this), (1, .ref (sq 9)), (2, .int J23_l2), (3, .int J23_l3), (4, .int J23_l4), (5, .int J23_l5)] → W p l e { frames := 4, cells := 0, slots := 0, locals := 141 } s m args below meth c H locs 0 0 Q (F0 m 23 ls []) := by
    as_aux_lemma =>
      intro n
      induction n with
      | zero =>
        intro J23_l2 J23_l3 J23_l4 J23_l5 H locs ls hK23_x_this_at hK23_x_this_sort hJ23_l3 hJ23_l4 hJ23_l5 hJ23_lin0 hq hm
        exact absurd hm (by have := hJ23_l5; unfold ib at this; omega)
      | succ n ih =>
        intro J23_l2 J23_l3 J23_l4 J23_l5 H locs ls hK23_x_this_at hK23_x_this_sort hJ23_l3 hJ23_l4 hJ23_l5 hJ23_lin0 hq hm23 hP hD hS hl
        have ih23 := ih
        obtain ⟨K23, hK23⟩ : ∃ K, K = F_X5_wordIn_s9_23 (lf_A g_this_text) (Int32.toInt x_this_at) (Int32.toInt x_this_behind) n := ⟨_, rfl⟩
        have hq : O = F_X5_wordIn_s9_23b (lf_A g_this_text) (Int32.toInt x_this_at) (Int32.toInt x_this_behind) K23 (Int32.toInt J23_l2) (Int32.toInt J23_l3) (Int32.toInt J23_l4) (Int32.toInt J23_l5) := by rw [hK23]; exact hq
        unfold F_X5_wordIn_s9_23b at hq
        have jn119 : ∀ (J119_l2 : Int32) (J119_l3 : Int32) (J119_l4 : Int32) (H : Heap) (locs : List Loc) (ls : Array Slot), ib x_this_at 0 1599 → ib J23_l5 0 6 → ib x_this_sort 1 1 → ib J119_l3 0 1606 → ib J119_l4 0 1 → (1 * J119_l3.toInt + (-1) * J23_l5.toInt ≤ 1601) → (O = F_X5_wordIn_s9_119 (Int32.toInt J23_l5) K23 (Int32.toInt J119_l2) (Int32.toInt J119_l3) (Int32.toInt J119_l4)) → va_P (dC, dI) vwCl [(wo_5_riiiiirii a_this a_this_text x_this_length x_this_at x_this_behind x_this_sort x_this_allowed a_this_plan x_this_fault x_this_place), (wi_0_1600_0 a_this_text cy g_this_text)] H → va_D A [(wo_5_riiiiirii a_this a_this_text x_this_length x_this_at x_this_behind x_this_sort x_this_allowed a_this_plan x_this_fault x_this_place), (wi_0_1600_0 a_this_text cy g_this_text)] → va_S A s.heap H locs → lv_has ls 6 [(0, .ref a_this), (1, .ref (sq 9)), (2, .int J119_l2), (3, .int J119_l3), (4, .int J119_l4), (5, .int J23_l5)] → W p l e { frames := 4, cells := 0, slots := 0, locals := 141 } s m args below meth c H locs 0 0 Q (F0 m 119 ls []) := by
          intro J119_l2 J119_l3 J119_l4 H locs ls hK119_x_this_at hK119_J23_l5 hK119_x_this_sort hJ119_l3 hJ119_l4 hJ119_lin0 hq hP hD hS hl
          unfold F_X5_wordIn_s9_119 at hq
          obtain ⟨z1, ez1⟩ : ∃ y : Int32, y = J23_l5 + 1 := ⟨_, rfl⟩
          refine lv_iinc (v := z1) (lv' := [(5, .int z1), (0, .ref a_this), (1, .ref (sq 9)), (2, .int J119_l2), (3, .int J119_l3), (4, .int J119_l4)]) hx hb dX5_wordIn_119 hl (k := 5) rfl (by rw [ez1]; rfl) (Nat.le_of_ble_eq_true rfl) rfl (fun ls hl => ?_)
          have h2 := ib_add hK119_J23_l5 (ib_c 1 1 1 rfl) rfl
          rw [← ez1] at h2
          have h3 : ib z1 1 7 := ib_w 1 7 h2.1 rfl
          have Ez1 := lf_add h2.2 (lf_rf J23_l5) (lf_lc 1 (1 : Int) rfl)
          refine lv_goto (tgt := 23) hx hb dX5_wordIn_122 rfl ?_
          exact ih23 J119_l2 J119_l3 J119_l4 z1 H locs ls (ib_w 0 1599 hK119_x_this_at rfl) (ib_w 1 1 hK119_x_this_sort rfl) (ib_w 0 1606 hJ119_l3 rfl) (ib_w 0 1 hJ119_l4 rfl) (ib_w 0 7 h3 rfl) (by have := h2.2; have : (1 : Int32).toInt = 1 := rfl; have := hJ119_lin0; omega) (by rw [← hK23]; rw [lf_u Ez1]; exact hq) (by have := h2.2; have : (1 : Int32).toInt = 1 := rfl; omega) hP hD hS (lv_sub hl [1, 2, 3, 4, 5, 0] rfl)
        have jn114 : ∀ (J114_s0 : Int32) (H : Heap) (locs : List Loc) (ls : Array Slot), ib J23_l3 0 1605 → ib J23_l4 0 1 → ib J23_l5 0 5 → ib x_this_at 0 1599 → ib x_this_sort 1 1 → ib J114_s0 0 1 → (1 * J23_l3.toInt + (-1) * J23_l5.toInt ≤ 1600) → (O = F_X5_wordIn_s9_114 (Int32.toInt J23_l2) (Int32.toInt J23_l3) (Int32.toInt J23_l5) K23 (Int32.toInt J114_s0)) → va_P (dC, dI) vwCl [(wo_5_riiiiirii a_this a_this_text x_this_length x_this_at x_this_behind x_this_sort x_this_allowed a_this_plan x_this_fault x_this_place), (wi_0_1600_0 a_this_text cy g_this_text)] H → va_D A [(wo_5_riiiiirii a_this a_this_text x_this_length x_this_at x_this_behind x_this_sort x_this_allowed a_this_plan x_this_fault x_this_place), (wi_0_1600_0 a_this_text cy g_this_text)] → va_S A s.heap H locs → lv_has ls 6 [(0, .ref a_this), (1, .ref (sq 9)), (2, .int J23_l2), (3, .int J23_l3), (4, .int J23_l4), (5, .int J23_l5)] → W p l e { frames := 4, cells := 0, slots := 0, locals := 141 } s m args below meth c H locs 0 0 Q (F0 m 114 ls [.int J114_s0]) := by
          intro J114_s0 H locs ls hK114_J23_l3 hK114_J23_l4 hK114_J23_l5 hK114_x_this_at hK114_x_this_sort hJ114_s0 hJ114_lin0 hq hP hD hS hl
          unfold F_X5_wordIn_s9_114 at hq
          refine lv_istore (lv' := [(4, .int J114_s0), (0, .ref a_this), (1, .ref (sq 9)), (2, .int J23_l2), (3, .int J23_l3), (5, .int J23_l5)]) hx hb dX5_wordIn_114 hl (Nat.le_of_ble_eq_true rfl) rfl (fun ls hl => ?_)
          obtain ⟨z4, ez4⟩ : ∃ y : Int32, y = J23_l3 + 1 := ⟨_, rfl⟩
          refine lv_iinc (v := z4) (lv' := [(3, .int z4), (4, .int J114_s0), (0, .ref a_this), (1, .ref (sq 9)), (2, .int J23_l2), (5, .int J23_l5)]) hx hb dX5_wordIn_116 hl (k := 4) rfl (by rw [ez4]; rfl) (Nat.le_of_ble_eq_true rfl) rfl (fun ls hl => ?_)
          have h5 := ib_add hK114_J23_l3 (ib_c 1 1 1 rfl) rfl
          rw [← ez4] at h5
          have h6 : ib z4 1 1606 := ib_w 1 1606 h5.1 rfl
          have Ez4 := lf_add h5.2 (lf_rf J23_l3) (lf_lc 1 (1 : Int) rfl)
          exact jn119 J23_l2 z4 J114_s0 H locs ls (ib_w 0 1599 hK114_x_this_at rfl) (ib_w 0 6 hK114_J23_l5 rfl) (ib_w 1 1 hK114_x_this_sort rfl) (ib_w 0 1606 h6 rfl) (ib_w 0 1 hJ114_s0 rfl) (by have := (hK114_J23_l5).1; have := hJ23_lin0; have := (h6).2; have := h5.2; have : (1 : Int32).toInt = 1 := rfl; omega) (by rw [lf_u Ez4]; exact hq) hP hD hS (lv_sub hl [2, 3, 4, 0, 1, 5] rfl)
        have jn113 : ∀  (H : Heap) (locs : List Loc) (ls : Array Slot), ib J23_l3 0 1605 → ib J23_l4 0 1 → ib J23_l5 0 5 → ib x_this_at 0 1599 → ib x_this_sort 1 1 → (1 * J23_l3.toInt + (-1) * J23_l5.toInt ≤ 1600) → (O = F_X5_wordIn_s9_113 (Int32.toInt J23_l2) (Int32.toInt J23_l3) (Int32.toInt J23_l5) K23 ) → va_P (dC, dI) vwCl [(wo_5_riiiiirii a_this a_this_text x_this_length x_this_at x_this_behind x_this_sort x_this_allowed a_this_plan x_this_fault x_this_place), (wi_0_1600_0 a_this_text cy g_this_text)] H → va_D A [(wo_5_riiiiirii a_this a_this_text x_this_length x_this_at x_this_behind x_this_sort x_this_allowed a_this_plan x_this_fault x_this_place), (wi_0_1600_0 a_this_text cy g_this_text)] → va_S A s.heap H locs → lv_has ls 6 [(0, .ref a_this), (1, .ref (sq 9)), (2, .int J23_l2), (3, .int J23_l3), (4, .int J23_l4), (5, .int J23_l5)] → W p l e { frames := 4, cells := 0, slots := 0, locals := 141 } s m args below meth c H locs 0 0 Q (F0 m 113 ls []) := by
          intro H locs ls hK113_J23_l3 hK113_J23_l4 hK113_J23_l5 hK113_x_this_at hK113_x_this_sort hJ113_lin0 hq hP hD hS hl
          unfold F_X5_wordIn_s9_113 at hq
          refine lv_iconst (v := 0) hx hb dX5_wordIn_113 rfl ?_
          exact jn114 0 H locs ls (ib_w 0 1605 hK113_J23_l3 rfl) (ib_w 0 1 hK113_J23_l4 rfl) (ib_w 0 5 hK113_J23_l5 rfl) (ib_w 0 1599 hK113_x_this_at rfl) (ib_w 1 1 hK113_x_this_sort rfl) (ib_w 0 1 (ib_c 0 0 0 rfl) rfl) (by have := hJ23_lin0; omega) (by try simp only [show (0 : Int32).toInt = (0 : Int) from rfl]; exact hq) hP hD hS (lv_sub hl [0, 1, 2, 3, 4, 5] rfl)
        have jn67 : ∀  (H : Heap) (locs : List Loc) (ls : Array Slot), ib J23_l3 0 1606 → ib J23_l4 0 1 → ib J23_l5 0 6 → ib x_this_at 0 1599 → ib x_this_sort 1 1 → (O = F_X5_wordIn_s9_67 (Int32.toInt x_this_at) (Int32.toInt J23_l2) (Int32.toInt J23_l5) K23 ) → va_P (dC, dI) vwCl [(wo_5_riiiiirii a_this a_this_text x_this_length x_this_at x_this_behind x_this_sort x_this_allowed a_this_plan x_this_fault x_this_place), (wi_0_1600_0 a_this_text cy g_this_text)] H → va_D A [(wo_5_riiiiirii a_this a_this_text x_this_length x_this_at x_this_behind x_this_sort x_this_allowed a_this_plan x_this_fault x_this_place), (wi_0_1600_0 a_this_text cy g_this_text)] → va_S A s.heap H locs → lv_has ls 6 [(0, .ref a_this), (1, .ref (sq 9)), (2, .int J23_l2), (3, .int J23_l3), (4, .int J23_l4), (5, .int J23_l5)] → W p l e { frames := 4, cells := 0, slots := 0, locals := 141 } s m args below meth c H locs 0 0 Q (F0 m 67 ls []) := by
          intro H locs ls hK67_J23_l3 hK67_J23_l4 hK67_J23_l5 hK67_x_this_at hK67_x_this_sort hq hP hD hS hl
          unfold F_X5_wordIn_s9_67 at hq
          obtain ⟨z7, ez7⟩ : ∃ y : Int32, y = J23_l2 + 1 := ⟨_, rfl⟩
          refine lv_iinc (v := z7) (lv' := [(2, .int z7), (0, .ref a_this), (1, .ref (sq 9)), (3, .int J23_l3), (4, .int J23_l4), (5, .int J23_l5)]) hx hb dX5_wordIn_67 hl (k := 2) rfl (by rw [ez7]; rfl) (Nat.le_of_ble_eq_true rfl) rfl (fun ls hl => ?_)
          have Ez7 := lf_op lf_iadd ez7 (lf_rf J23_l2) (lf_lc 1 (1 : Int) rfl)
          refine lv_aload_n hx hb dX5_wordIn_70 rfl (lv_at hl 1 rfl) ?_
          refine k_get C0 fg_X5_15 hP 0 rfl rfl dX5_wordIn_71 ?_
          refine lv_istore_n (lv' := [(3, .int x_this_at), (2, .int z7), (0, .ref a_this), (1, .ref (sq 9)), (4, .int J23_l4), (5, .int J23_l5)]) hx hb dX5_wordIn_74 rfl hl (Nat.le_of_ble_eq_true rfl) rfl (fun ls hl => ?_)
          refine lv_iconst (v := 1) hx hb dX5_wordIn_75 rfl ?_
          refine lv_istore (lv' := [(4, .int 1), (3, .int x_this_at), (2, .int z7), (0, .ref a_this), (1, .ref (sq 9)), (5, .int J23_l5)]) hx hb dX5_wordIn_76 hl (Nat.le_of_ble_eq_true rfl) rfl (fun ls hl => ?_)
          refine lv_goto (tgt := 119) hx hb dX5_wordIn_78 rfl ?_
          exact jn119 z7 x_this_at 1 H locs ls (ib_w 0 1599 hK67_x_this_at rfl) (ib_w 0 6 hK67_J23_l5 rfl) (ib_w 1 1 hK67_x_this_sort rfl) (ib_w 0 1606 hK67_x_this_at rfl) (ib_w 0 1 (ib_c 1 1 1 rfl) rfl) (by have := (hK67_J23_l5).1; have := (hK67_x_this_at).2; omega) (by rw [lf_u Ez7]; try simp only [show (1 : Int32).toInt = (1 : Int) from rfl]; exact hq) hP hD hS (lv_sub hl [3, 4, 2, 1, 0, 5] rfl)
        have jn52 : ∀  (H : Heap) (locs : List Loc) (ls : Array Slot), ib J23_l3 0 1606 → ib J23_l4 0 1 → ib J23_l5 0 6 → ib x_this_at 0 1599 → ib x_this_sort 1 1 → (O = F_X5_wordIn_s9_52 (Int32.toInt x_this_at) (Int32.toInt x_this_behind) (Int32.toInt J23_l2) (Int32.toInt J23_l3) (Int32.toInt J23_l4) (Int32.toInt J23_l5) K23 ) → va_P (dC, dI) vwCl [(wo_5_riiiiirii a_this a_this_text x_this_length x_this_at x_this_behind x_this_sort x_this_allowed a_this_plan x_this_fault x_this_place), (wi_0_1600_0 a_this_text cy g_this_text)] H → va_D A [(wo_5_riiiiirii a_this a_this_text x_this_length x_this_at x_this_behind x_this_sort x_this_allowed a_this_plan x_this_fault x_this_place), (wi_0_1600_0 a_this_text cy g_this_text)] → va_S A s.heap H locs → lv_has ls 6 [(0, .ref a_this), (1, .ref (sq 9)), (2, .int J23_l2), (3, .int J23_l3), (4, .int J23_l4), (5, .int J23_l5)] → W p l e { frames := 4, cells := 0, slots := 0, locals := 141 } s m args below meth c H locs 0 0 Q (F0 m 52 ls []) := by
          as_aux_lemma =>
            intro H locs ls hK52_J23_l3 hK52_J23_l4 hK52_J23_l5 hK52_x_this_at hK52_x_this_sort hq hP hD hS hl
            unfold F_X5_wordIn_s9_52 at hq
            refine lv_iload hx hb dX5_wordIn_52 (lv_at hl 4 rfl) ?_
            refine lv_if_eq (tgt := 67) hx hb dX5_wordIn_54 rfl (fun c8 => ?_) (fun c8 => ?_)
            · replace hq := lf_pos hq (lf_eq (lf_rf J23_l4) (lf_lc 0 (0 : Int) rfl) c8)
              have h9 := ib_eq hK52_J23_l4 (ib_c 0 0 0 rfl) c8
              have h10 : ib J23_l4 0 0 := ib_w 0 0 h9.1 rfl
              exact jn67  H locs ls (ib_w 0 1606 hK52_J23_l3 rfl) (ib_w 0 1 h10 rfl) (ib_w 0 6 hK52_J23_l5 rfl) (ib_w 0 1599 hK52_x_this_at rfl) (ib_w 1 1 hK52_x_this_sort rfl) (by exact hq) hP hD hS (lv_sub hl [0, 1, 2, 3, 4, 5] rfl)
            · replace hq := lf_neg hq (lf_ne (lf_rf J23_l4) (lf_lc 0 (0 : Int) rfl) c8)
              have h11 : ib J23_l4 1 1 := ib_w 1 1 (ib_ne_lo 0 hK52_J23_l4 rfl c8) rfl
              refine lv_iload_n hx hb dX5_wordIn_57 rfl (lv_at hl 3 rfl) ?_
              refine lv_aload_n hx hb dX5_wordIn_58 rfl (lv_at hl 0 rfl) ?_
              refine k_get C0 fg_X5_18 hP 0 rfl rfl dX5_wordIn_59 ?_
              refine lv_icmp_ne (tgt := 67) hx hb dX5_wordIn_62 rfl (fun c12 => ?_) (fun c12 => ?_)
              · replace hq := lf_neg hq (lf_ne (lf_rf J23_l3) (lf_rf x_this_behind) c12)
                exact jn67  H locs ls (ib_w 0 1606 hK52_J23_l3 rfl) (ib_w 0 1 h11 rfl) (ib_w 0 6 hK52_J23_l5 rfl) (ib_w 0 1599 hK52_x_this_at rfl) (ib_w 1 1 hK52_x_this_sort rfl) (by exact hq) hP hD hS (lv_sub hl [0, 1, 2, 3, 4, 5] rfl)
              · replace hq := lf_pos hq (lf_eq (lf_rf J23_l3) (lf_rf x_this_behind) c12)
                have h13 := ib_eq hK52_J23_l3 hx_this_behind c12
                have h14 : ib J23_l3 0 1600 := ib_w 0 1600 h13.1 rfl
                refine lv_iload_n hx hb dX5_wordIn_65 rfl (lv_at hl 2 rfl) ?_
                subst hQ; exact k_iret hx hb hr hlk rfl () hS ((hO.symm.trans (by exact hq))) hP hD (Nat.le_of_ble_eq_true rfl) (Nat.le_of_ble_eq_true rfl) dX5_wordIn_66
        refine lv_iload hx hb dX5_wordIn_23 (lv_at hl 5 rfl) ?_
        refine lv_aload_n hx hb dX5_wordIn_25 rfl (lv_at hl 1 rfl) ?_
        refine k_jim hP hD hS hA [] [true, true] rfl rfl rfl 0 0 (Nat.le_of_ble_eq_true rfl) (Nat.le_of_ble_eq_true rfl) (fun hPc hDc => k_runVO (As := []) (rest := [.int J23_l5]) C0 hZ hS hA (c_length l dC dI cy sq 9 (by decide)) mV_X5_244 hPc hDc (vk_recv hZ.1 (by decide) hS) hl rfl rfl (Nat.le_of_ble_eq_true rfl) ⟨(Nat.le_of_ble_eq_true rfl), (Nat.le_of_ble_eq_true rfl)⟩ ⟨(Nat.le_of_ble_eq_true rfl), (Nat.le_of_ble_eq_true rfl)⟩ dX5_wordIn_26) (fun r15 u16 H locs hw hP hD hS => ?_)
        replace hP : va_P (dC, dI) vwCl [(wo_5_riiiiirii a_this a_this_text x_this_length x_this_at x_this_behind x_this_sort x_this_allowed a_this_plan x_this_fault x_this_place), (wi_0_1600_0 a_this_text cy g_this_text)] H := hP
        replace hD := k_D hP hD
        obtain rfl : r15 = 6 := hw.trans (by decide)
        refine lv_icmp_gt (tgt := 125) hx hb dX5_wordIn_29 rfl (fun c17 => ?_) (fun c17 => ?_)
        · replace hq := lf_pos hq (lf_lt (lf_lc 6 (6 : Int) rfl) (lf_rf J23_l5) c17)
          have h18 := ib_lt (ib_c 6 6 6 rfl) hJ23_l5 c17
          have h19 : ib J23_l5 7 7 := ib_w 7 7 h18.2 rfl
          refine lv_iconst (v := (-1)) hx hb dX5_wordIn_125 rfl ?_
          subst hQ; exact k_iret hx hb hr hlk rfl () hS ((hO.symm.trans (by try simp only [show ((-1) : Int32).toInt = (-1 : Int) from rfl]; exact hq))) hP hD (Nat.le_of_ble_eq_true rfl) (Nat.le_of_ble_eq_true rfl) dX5_wordIn_126
        · as_aux_lemma =>
            replace hq := lf_neg hq (lf_nlt (lf_lc 6 (6 : Int) rfl) (lf_rf J23_l5) c17)
            have h20 := ib_nlt (ib_c 6 6 6 rfl) hJ23_l5 c17
            have h21 : ib J23_l5 0 6 := ib_w 0 6 h20.2 rfl
            refine lv_iload hx hb dX5_wordIn_32 (lv_at hl 5 rfl) ?_
            refine lv_aload_n hx hb dX5_wordIn_34 rfl (lv_at hl 1 rfl) ?_
            refine k_jim hP hD hS hA [] [true, true] rfl rfl rfl 0 0 (Nat.le_of_ble_eq_true rfl) (Nat.le_of_ble_eq_true rfl) (fun hPc hDc => k_runVO (As := []) (rest := [.int J23_l5]) C0 hZ hS hA (c_length l dC dI cy sq 9 (by decide)) mV_X5_244 hPc hDc (vk_recv hZ.1 (by decide) hS) hl rfl rfl (Nat.le_of_ble_eq_true rfl) ⟨(Nat.le_of_ble_eq_true rfl), (Nat.le_of_ble_eq_true rfl)⟩ ⟨(Nat.le_of_ble_eq_true rfl), (Nat.le_of_ble_eq_true rfl)⟩ dX5_wordIn_35) (fun r22 u23 H locs hw hP hD hS => ?_)
            replace hP : va_P (dC, dI) vwCl [(wo_5_riiiiirii a_this a_this_text x_this_length x_this_at x_this_behind x_this_sort x_this_allowed a_this_plan x_this_fault x_this_place), (wi_0_1600_0 a_this_text cy g_this_text)] H := hP
            replace hD := k_D hP hD
            obtain rfl : r22 = 6 := hw.trans (by decide)
            refine lv_icmp_eq (tgt := 52) hx hb dX5_wordIn_38 rfl (fun c24 => ?_) (fun c24 => ?_)
            · replace hq := lf_pos hq (lf_eq (lf_rf J23_l5) (lf_lc 6 (6 : Int) rfl) c24)
              have h25 := ib_eq h21 (ib_c 6 6 6 rfl) c24
              have h26 : ib J23_l5 6 6 := ib_w 6 6 h25.1 rfl
              exact jn52  H locs ls (ib_w 0 1606 hJ23_l3 rfl) (ib_w 0 1 hJ23_l4 rfl) (ib_w 0 6 h26 rfl) (ib_w 0 1599 hK23_x_this_at rfl) (ib_w 1 1 hK23_x_this_sort rfl) (by exact hq) hP hD hS (lv_sub hl [0, 1, 2, 3, 4, 5] rfl)
            · as_aux_lemma =>
                replace hq := lf_neg hq (lf_ne (lf_rf J23_l5) (lf_lc 6 (6 : Int) rfl) c24)
                have h27 : ib J23_l5 0 5 := ib_w 0 5 (ib_ne_hi 6 h21 rfl c24) rfl
                refine lv_aload_n hx hb dX5_wordIn_41 rfl (lv_at hl 1 rfl) ?_
                refine lv_iload hx hb dX5_wordIn_42 (lv_at hl 5 rfl) ?_
                refine k_jim hP hD hS hA [] [true, true] rfl rfl rfl 0 0 (Nat.le_of_ble_eq_true rfl) (Nat.le_of_ble_eq_true rfl) (fun hPc hDc => k_runVO (As := [.int J23_l5]) (rest := []) C0 hZ hS hA (cx_charAt l dC dI cy sq 9 (by decide) J23_l5 (ib_ch 9 6 h27 rfl rfl).1 (ib_ch 9 6 h27 rfl rfl).2.1 (ib_ch 9 6 h27 rfl rfl).2.2) mV_X5_248 hPc hDc (vk_recv hZ.1 (by decide) hS) hl rfl rfl (Nat.le_of_ble_eq_true rfl) ⟨(Nat.le_of_ble_eq_true rfl), (Nat.le_of_ble_eq_true rfl)⟩ ⟨(Nat.le_of_ble_eq_true rfl), (Nat.le_of_ble_eq_true rfl)⟩ dX5_wordIn_44) (fun r28 u29 H locs hw hP hD hS => ?_)
                replace hP : va_P (dC, dI) vwCl [(wo_5_riiiiirii a_this a_this_text x_this_length x_this_at x_this_behind x_this_sort x_this_allowed a_this_plan x_this_fault x_this_place), (wi_0_1600_0 a_this_text cy g_this_text)] H := hP
                replace hD := k_D hP hD
                have Er28 := lf_cha (j := 9) hw (lf_rf J23_l5)
                refine lv_bipush (v := 32) hx hb dX5_wordIn_47 rfl ?_
                refine lv_icmp_ne (tgt := 81) hx hb dX5_wordIn_49 rfl (fun c30 => ?_) (fun c30 => ?_)
                · as_aux_lemma =>
                    replace hq := lf_neg hq (lf_ne Er28 (lf_lc 32 (32 : Int) rfl) c30)
                    refine lv_iload hx hb dX5_wordIn_81 (lv_at hl 4 rfl) ?_
                    refine lv_if_eq (tgt := 113) hx hb dX5_wordIn_83 rfl (fun c31 => ?_) (fun c31 => ?_)
                    · replace hq := lf_pos hq (lf_eq (lf_rf J23_l4) (lf_lc 0 (0 : Int) rfl) c31)
                      have h32 := ib_eq hJ23_l4 (ib_c 0 0 0 rfl) c31
                      have h33 : ib J23_l4 0 0 := ib_w 0 0 h32.1 rfl
                      have h34 : ib J23_l3 0 1605 := ⟨(hJ23_l3).1, by have := (hJ23_l3).2; have := hJ23_lin0; have := (h27).2; omega⟩
                      exact jn113  H locs ls (ib_w 0 1605 h34 rfl) (ib_w 0 1 h33 rfl) (ib_w 0 5 h27 rfl) (ib_w 0 1599 hK23_x_this_at rfl) (ib_w 1 1 hK23_x_this_sort rfl) (by have := hJ23_lin0; omega) (by exact hq) hP hD hS (lv_sub hl [0, 1, 2, 3, 4, 5] rfl)
                    · as_aux_lemma =>
                        replace hq := lf_neg hq (lf_ne (lf_rf J23_l4) (lf_lc 0 (0 : Int) rfl) c31)
                        have h35 : ib J23_l4 1 1 := ib_w 1 1 (ib_ne_lo 0 hJ23_l4 rfl c31) rfl
                        refine lv_iload_n hx hb dX5_wordIn_86 rfl (lv_at hl 3 rfl) ?_
                        refine lv_aload_n hx hb dX5_wordIn_87 rfl (lv_at hl 0 rfl) ?_
                        refine k_get C0 fg_X5_18 hP 0 rfl rfl dX5_wordIn_88 ?_
                        refine lv_icmp_ge (tgt := 113) hx hb dX5_wordIn_91 rfl (fun c36 => ?_) (fun c36 => ?_)
                        · replace hq := lf_pos hq (lf_le (lf_rf x_this_behind) (lf_rf J23_l3) c36)
                          have h37 := ib_le hx_this_behind hJ23_l3 c36
                          have h38 : ib J23_l3 0 1605 := ⟨(hJ23_l3).1, by have := (hJ23_l3).2; have := hJ23_lin0; have := (h27).2; omega⟩
                          exact jn113  H locs ls (ib_w 0 1605 h38 rfl) (ib_w 0 1 h35 rfl) (ib_w 0 5 h27 rfl) (ib_w 0 1599 hK23_x_this_at rfl) (ib_w 1 1 hK23_x_this_sort rfl) (by have := hJ23_lin0; omega) (by exact hq) hP hD hS (lv_sub hl [0, 1, 2, 3, 4, 5] rfl)
                        · as_aux_lemma =>
                            replace hq := lf_neg hq (lf_nle (lf_rf x_this_behind) (lf_rf J23_l3) c36)
                            have h39 := ib_nle hx_this_behind hJ23_l3 c36
                            have h40 : ib x_this_behind 1 1600 := ib_w 1 1600 h39.1 rfl
                            have h41 : ib J23_l3 0 1599 := ib_w 0 1599 h39.2 rfl
                            refine lv_aload_n hx hb dX5_wordIn_94 rfl (lv_at hl 0 rfl) ?_
                            refine k_get C0 fg_X5_33 hP 0 rfl rfl dX5_wordIn_95 ?_
                            refine lv_iload_n hx hb dX5_wordIn_98 rfl (lv_at hl 3 rfl) ?_
                            refine va_iald hx hb C0.2.2.2.2.2.1 hP 1 0 rfl rfl (ib_in 1600 h41 rfl) dX5_wordIn_99 ?_
                            refine lv_topi (fun z42 ez42 => ?_)
                            have h43 : ib z42 0 255 := by rw [ez42]; exact ia_at hg_this_text (ib_in 1600 h41 rfl)
                            have Ez42 := lf_ld ez42 (lf_ra g_this_text) (lf_rf J23_l3)
                            refine lv_aload_n hx hb dX5_wordIn_100 rfl (lv_at hl 1 rfl) ?_
                            refine lv_iload hx hb dX5_wordIn_101 (lv_at hl 5 rfl) ?_
                            refine k_jim hP hD hS hA [] [true, true] rfl rfl rfl 0 0 (Nat.le_of_ble_eq_true rfl) (Nat.le_of_ble_eq_true rfl) (fun hPc hDc => k_runVO (As := [.int J23_l5]) (rest := [.int z42]) C0 hZ hS hA (cx_charAt l dC dI cy sq 9 (by decide) J23_l5 (ib_ch 9 6 h27 rfl rfl).1 (ib_ch 9 6 h27 rfl rfl).2.1 (ib_ch 9 6 h27 rfl rfl).2.2) mV_X5_248 hPc hDc (vk_recv hZ.1 (by decide) hS) hl rfl rfl (Nat.le_of_ble_eq_true rfl) ⟨(Nat.le_of_ble_eq_true rfl), (Nat.le_of_ble_eq_true rfl)⟩ ⟨(Nat.le_of_ble_eq_true rfl), (Nat.le_of_ble_eq_true rfl)⟩ dX5_wordIn_103) (fun r44 u45 H locs hw hP hD hS => ?_)
                            replace hP : va_P (dC, dI) vwCl [(wo_5_riiiiirii a_this a_this_text x_this_length x_this_at x_this_behind x_this_sort x_this_allowed a_this_plan x_this_fault x_this_place), (wi_0_1600_0 a_this_text cy g_this_text)] H := hP
                            replace hD := k_D hP hD
                            have Er44 := lf_cha (j := 9) hw (lf_rf J23_l5)
                            refine lv_icmp_ne (tgt := 113) hx hb dX5_wordIn_106 rfl (fun c46 => ?_) (fun c46 => ?_)
                            · replace hq := lf_neg hq (lf_ne Ez42 Er44 c46)
                              exact jn113  H locs ls (ib_w 0 1605 h41 rfl) (ib_w 0 1 h35 rfl) (ib_w 0 5 h27 rfl) (ib_w 0 1599 hK23_x_this_at rfl) (ib_w 1 1 hK23_x_this_sort rfl) (by have := hJ23_lin0; omega) (by exact hq) hP hD hS (lv_sub hl [0, 1, 2, 3, 4, 5] rfl)
                            · replace hq := lf_pos hq (lf_eq Ez42 Er44 c46)
                              have h47 := ib_eq h43 (ib_any r44) c46
                              have h48 : ib r44 0 255 := ib_w 0 255 h47.2 rfl
                              refine lv_iconst (v := 1) hx hb dX5_wordIn_109 rfl ?_
                              refine lv_goto (tgt := 114) hx hb dX5_wordIn_110 rfl ?_
                              exact jn114 1 H locs ls (ib_w 0 1605 h41 rfl) (ib_w 0 1 h35 rfl) (ib_w 0 5 h27 rfl) (ib_w 0 1599 hK23_x_this_at rfl) (ib_w 1 1 hK23_x_this_sort rfl) (ib_w 0 1 (ib_c 1 1 1 rfl) rfl) (by have := hJ23_lin0; omega) (by try simp only [show (1 : Int32).toInt = (1 : Int) from rfl]; exact hq) hP hD hS (lv_sub hl [0, 1, 2, 3, 4, 5] rfl)
                · replace hq := lf_pos hq (lf_eq Er28 (lf_lc 32 (32 : Int) rfl) c30)
                  have h49 := ib_eq (ib_any r28) (ib_c 32 32 32 rfl) c30
                  have h50 : ib r28 32 32 := ib_w 32 32 h49.1 rfl
                  have h51 : ib J23_l3 0 1605 := ⟨(hJ23_l3).1, by have := (hJ23_l3).2; have := hJ23_lin0; have := (h27).2; omega⟩
                  exact jn52  H locs ls (ib_w 0 1606 h51 rfl) (ib_w 0 1 hJ23_l4 rfl) (ib_w 0 6 h27 rfl) (ib_w 0 1599 hK23_x_this_at rfl) (ib_w 1 1 hK23_x_this_sort rfl) (by exact hq) hP hD hS (lv_sub hl [0, 1, 2, 3, 4, 5] rfl)
  refine lv_aload_n hx hb dX5_wordIn_0 rfl (lv_at hl 0 rfl) ?_
  refine k_get C0 fg_X5_21 hP 0 rfl rfl dX5_wordIn_1 ?_
  refine lv_iconst (v := 1) hx hb dX5_wordIn_4 rfl ?_
  refine lv_icmp_eq (tgt := 10) hx hb dX5_wordIn_5 rfl (fun c52 => ?_) (fun c52 => ?_)
  · replace hq := lf_pos hq (lf_eq (lf_rf x_this_sort) (lf_lc 1 (1 : Int) rfl) c52)
    have h53 := ib_eq hx_this_sort (ib_c 1 1 1 rfl) c52
    have h54 : ib x_this_sort 1 1 := ib_w 1 1 h53.1 rfl
    have h55 : ib x_this_at 0 1599 := ib_w 0 1599 (ib_two hx_this_at (hc0_this (ib_nz h54 rfl))) rfl
    refine lv_iconst (v := 0) hx hb dX5_wordIn_10 rfl ?_
    refine lv_istore_n (lv' := [(2, .int 0), (0, .ref a_this), (1, .ref (sq 9))]) hx hb dX5_wordIn_11 rfl hl (Nat.le_of_ble_eq_true rfl) rfl (fun ls hl => ?_)
    refine lv_aload_n hx hb dX5_wordIn_12 rfl (lv_at hl 1 rfl) ?_
    refine k_get C0 fg_X5_15 hP 0 rfl rfl dX5_wordIn_13 ?_
    refine lv_istore_n (lv' := [(3, .int x_this_at), (2, .int 0), (0, .ref a_this), (1, .ref (sq 9))]) hx hb dX5_wordIn_16 rfl hl (Nat.le_of_ble_eq_true rfl) rfl (fun ls hl => ?_)
    refine lv_iconst (v := 1) hx hb dX5_wordIn_17 rfl ?_
    refine lv_istore (lv' := [(4, .int 1), (3, .int x_this_at), (2, .int 0), (0, .ref a_this), (1, .ref (sq 9))]) hx hb dX5_wordIn_18 hl (Nat.le_of_ble_eq_true rfl) rfl (fun ls hl => ?_)
    refine lv_iconst (v := 0) hx hb dX5_wordIn_20 rfl ?_
    refine lv_istore (lv' := [(5, .int 0), (4, .int 1), (3, .int x_this_at), (2, .int 0), (0, .ref a_this), (1, .ref (sq 9))]) hx hb dX5_wordIn_21 hl (Nat.le_of_ble_eq_true rfl) rfl (fun ls hl => ?_)
    exact jn23 9 0 x_this_at 1 0 H locs ls (ib_w 0 1599 h55 rfl) (ib_w 1 1 h54 rfl) (ib_w 0 1606 h55 rfl) (ib_w 0 1 (ib_c 1 1 1 rfl) rfl) (ib_w 0 7 (ib_c 0 0 0 rfl) rfl) (by have : (0 : Int32).toInt = 0 := rfl; have := (h55).2; omega) (by try simp only [show (0 : Int32).toInt = (0 : Int) from rfl]; try simp only [show (1 : Int32).toInt = (1 : Int) from rfl]; exact hq) (by have := (ib_c 0 0 0 rfl); unfold ib at this; omega) hP hD hS (lv_sub hl [4, 5, 3, 2, 1, 0] rfl)
  · replace hq := lf_neg hq (lf_ne (lf_rf x_this_sort) (lf_lc 1 (1 : Int) rfl) c52)
    refine lv_iconst (v := (-1)) hx hb dX5_wordIn_8 rfl ?_
    subst hQ; exact k_iret hx hb hr hlk rfl () hS ((hO.symm.trans (by try simp only [show ((-1) : Int32).toInt = (-1 : Int) from rfl]; exact hq))) hP hD (Nat.le_of_ble_eq_true rfl) (Nat.le_of_ble_eq_true rfl) dX5_wordIn_9
set_option maxHeartbeats 4000000 in
set_option maxRecDepth 100000 in
theorem s_X5_needWord_s9 (l : Launch) (dC : Nat → ClassId) (dI : Nat → Nat → Nat) (cy : Nat → ClassId) (sq : Nat → Nat) (a_this : Nat) (a_this_text : Nat) (g_this_text : Nat → Int32) (x_this_length : Int32) (x_this_at : Int32) (x_this_behind : Int32) (x_this_sort : Int32) (x_this_allowed : Int32) (a_this_plan : Nat) (x_this_fault : Int32) (x_this_place : Int32) (hg_this_text : ia g_this_text 1600 0 255) (hx_this_length : ib x_this_length 0 1600) (hx_this_at : ib x_this_at 0 1600) (hx_this_behind : ib x_this_behind 0 1600) (hx_this_sort : ib x_this_sort 0 4) (hc0_this : ¬ x_this_sort = 0 → ib x_this_at 0 1599) : k_Met l yX5_needWord cX5_needWord 2 none { frames := 5, cells := 0, slots := 0, locals := 166 } dC dI cy sq [.ref a_this, .ref (sq 9)] [(wo_5_riiiiirii a_this a_this_text x_this_length x_this_at x_this_behind x_this_sort x_this_allowed a_this_plan x_this_fault x_this_place), (wi_0_1600_0 a_this_text cy g_this_text)] (k_Qv dC dI (fun (u : Int32 × Int32 × Int32 × Int32 × Int32) => match u with | (n0, n1, n2, n3, n4) => ib n0 0 1600 ∧ ib n1 0 1600 ∧ ib n2 0 4 ∧ (¬ n2 = 0 → ib n0 0 1599) ∧ (F_X5_needWord_s9 (lf_A g_this_text) (Int32.toInt x_this_length) (Int32.toInt x_this_at) (Int32.toInt x_this_behind) (Int32.toInt x_this_sort) (Int32.toInt x_this_fault) (Int32.toInt x_this_place) = ((Int32.toInt n0), (Int32.toInt n1), (Int32.toInt n2), (Int32.toInt n3), (Int32.toInt n4)))) (fun u : Int32 × Int32 × Int32 × Int32 × Int32 => match u with | (n0, n1, n2, n3, n4) => [(wo_5_riiiiirii a_this a_this_text x_this_length n0 n1 n2 x_this_allowed a_this_plan n3 n4), (wi_0_1600_0 a_this_text cy g_this_text)])) := by
  refine k_ofW2 (by decide +kernel) (Nat.le_of_ble_eq_true rfl) ?_
  intro p e s m below meth c A ls H locs args Q hQ C0 hZ hr hlk hin hP hD hA hS hl
  have C0 : k_cx p s m args c cX5_needWord 2 RX5 dC dI cy sq := C0
  have hx := C0.1
  have hb := C0.2.1
  have hl : lv_has ls 2 [(0, .ref a_this), (1, .ref (sq 9))] := hl
  obtain ⟨O, hO⟩ : ∃ o, o = F_X5_needWord_s9 (lf_A g_this_text) (Int32.toInt x_this_length) (Int32.toInt x_this_at) (Int32.toInt x_this_behind) (Int32.toInt x_this_sort) (Int32.toInt x_this_fault) (Int32.toInt x_this_place) := ⟨_, rfl⟩
  have hq := hO
  unfold F_X5_needWord_s9 at hq
  refine lv_aload_n hx hb dX5_needWord_0 rfl (lv_at hl 0 rfl) ?_
  refine lv_aload_n hx hb dX5_needWord_1 rfl (lv_at hl 1 rfl) ?_
  refine k_jim hP hD hS hA [0, 1] [] rfl rfl rfl 0 0 (Nat.le_of_ble_eq_true rfl) (Nat.le_of_ble_eq_true rfl) (fun hPc hDc => k_runV (As := [.ref (sq 9)]) (rest := []) C0 hZ hS hA (s_X5_wordIn_s9 l dC dI cy sq a_this a_this_text g_this_text x_this_length x_this_at x_this_behind x_this_sort x_this_allowed a_this_plan x_this_fault x_this_place hg_this_text (ib_w 0 1600 hx_this_at rfl) (ib_w 0 1600 hx_this_behind rfl) (ib_w 0 4 hx_this_sort rfl) (fun hq9 => ib_w 0 1599 (hc0_this hq9) rfl)) mV_X5_54 hPc hDc rfl rfl rfl hl rfl rfl (Nat.le_of_ble_eq_true rfl) ⟨(Nat.le_of_ble_eq_true rfl), (Nat.le_of_ble_eq_true rfl)⟩ ⟨(Nat.le_of_ble_eq_true rfl), (Nat.le_of_ble_eq_true rfl)⟩ dX5_needWord_2) (fun r1 u2 H locs hw hP hD hS => ?_)
  try dsimp only at hP hD hw
  replace hP : va_P (dC, dI) vwCl [(wo_5_riiiiirii a_this a_this_text x_this_length x_this_at x_this_behind x_this_sort x_this_allowed a_this_plan x_this_fault x_this_place), (wi_0_1600_0 a_this_text cy g_this_text)] H := hP
  replace hD := k_D hP hD
  have h3 := hw
  replace hq := lf_b1 hq h3
  refine lv_iconst (v := (-1)) hx hb dX5_needWord_5 rfl ?_
  refine lv_icmp_ne (tgt := 21) hx hb dX5_needWord_6 rfl (fun c4 => ?_) (fun c4 => ?_)
  · replace hq := lf_neg hq (lf_ne (lf_rf r1) (lf_lc (-1) (-1 : Int) rfl) c4)
    refine lv_aload_n hx hb dX5_needWord_21 rfl (lv_at hl 0 rfl) ?_
    refine lv_aload_n hx hb dX5_needWord_22 rfl (lv_at hl 0 rfl) ?_
    refine k_get C0 fg_X5_18 hP 0 rfl rfl dX5_needWord_23 ?_
    refine k_jvm hP hD hS hA [0, 1] [] rfl rfl rfl 0 0 (Nat.le_of_ble_eq_true rfl) (Nat.le_of_ble_eq_true rfl) (fun hPc hDc => k_runV (As := [.int x_this_behind]) (rest := []) C0 hZ hS hA (s_X5_moveTo l dC dI cy sq a_this a_this_text g_this_text x_this_length x_this_at x_this_behind x_this_sort x_this_allowed a_this_plan x_this_fault x_this_place x_this_behind hg_this_text (ib_w 0 1600 hx_this_length rfl) (ib_w 0 1600 hx_this_behind rfl)) mV_X5_86 hPc hDc rfl rfl rfl hl rfl rfl (Nat.le_of_ble_eq_true rfl) ⟨(Nat.le_of_ble_eq_true rfl), (Nat.le_of_ble_eq_true rfl)⟩ ⟨(Nat.le_of_ble_eq_true rfl), (Nat.le_of_ble_eq_true rfl)⟩ dX5_needWord_26) (fun u6 H locs hw hP hD hS => ?_)
    obtain ⟨v7, v8, v9⟩ := u6
    try dsimp only at hP hD hw
    replace hP : va_P (dC, dI) vwCl [(wo_5_riiiiirii a_this a_this_text x_this_length v7 v8 v9 x_this_allowed a_this_plan x_this_fault x_this_place), (wi_0_1600_0 a_this_text cy g_this_text)] H := hP
    replace hD := k_D hP hD
    obtain ⟨h10, h11, h12, h13, h14⟩ := hw
    replace hq := lf_p1 hq h14
    replace hq := lf_p1 hq rfl
    subst hQ; exact k_vret hx hb hr hlk ((v7, v8, v9, x_this_fault, x_this_place)) hS ⟨ib_w 0 1600 h10 rfl, ib_w 0 1600 h11 rfl, ib_w 0 4 h12 rfl, fun hq9 => ib_w 0 1599 (h13 hq9) rfl, (hO.symm.trans (by exact hq))⟩ hP hD (Nat.le_of_ble_eq_true rfl) (Nat.le_of_ble_eq_true rfl) dX5_needWord_29
  · replace hq := lf_pos hq (lf_eq (lf_rf r1) (lf_lc (-1) (-1 : Int) rfl) c4)
    have h15 := ib_eq (ib_any r1) (ib_c (-1) (-1) (-1) rfl) c4
    have h16 : ib r1 (-1) (-1) := ib_w (-1) (-1) h15.1 rfl
    refine lv_aload_n hx hb dX5_needWord_9 rfl (lv_at hl 0 rfl) ?_
    refine lv_iconst (v := 1) hx hb dX5_needWord_10 rfl ?_
    refine lv_aload_n hx hb dX5_needWord_11 rfl (lv_at hl 0 rfl) ?_
    refine k_get C0 fg_X5_15 hP 0 rfl rfl dX5_needWord_12 ?_
    refine k_jvm hP hD hS hA [0] [false, true] rfl rfl rfl 0 0 (Nat.le_of_ble_eq_true rfl) (Nat.le_of_ble_eq_true rfl) (fun hPc hDc => k_runV (As := [.int 1, .int x_this_at]) (rest := []) C0 hZ hS hA (s_X5_fail l dC dI cy sq a_this a_this_text x_this_length x_this_at x_this_behind x_this_sort x_this_allowed a_this_plan x_this_fault x_this_place 1 x_this_at ) mV_X5_78 hPc hDc rfl rfl rfl hl rfl rfl (Nat.le_of_ble_eq_true rfl) ⟨(Nat.le_of_ble_eq_true rfl), (Nat.le_of_ble_eq_true rfl)⟩ ⟨(Nat.le_of_ble_eq_true rfl), (Nat.le_of_ble_eq_true rfl)⟩ dX5_needWord_15) (fun u18 H locs hw hP hD hS => ?_)
    obtain ⟨v19, v20⟩ := u18
    try dsimp only at hP hD hw
    replace hP : va_P (dC, dI) vwCl [(wi_0_1600_0 a_this_text cy g_this_text), (wo_5_riiiiirii a_this a_this_text x_this_length x_this_length x_this_length 0 x_this_allowed a_this_plan v19 v20)] H := hP
    replace hD := k_D hP hD
    have h21 := hw
    have h21 := by have h9 := h21; try simp only [show (1 : Int32).toInt = (1 : Int) from rfl] at h9; exact h9
    replace hq := lf_p1 hq h21
    refine lv_goto (tgt := 29) hx hb dX5_needWord_18 rfl ?_
    subst hQ; exact k_vret hx hb hr hlk ((x_this_length, x_this_length, 0, v19, v20)) hS ⟨ib_w 0 1600 hx_this_length rfl, ib_w 0 1600 hx_this_length rfl, ib_w 0 4 (ib_c 0 0 0 rfl) rfl, fun hq9 => absurd rfl hq9, (hO.symm.trans (by try simp only [show (0 : Int32).toInt = (0 : Int) from rfl]; exact hq))⟩ (hP.sub [1, 0] rfl) (hD.sub [1, 0] rfl rfl) (Nat.le_of_ble_eq_true rfl) (Nat.le_of_ble_eq_true rfl) dX5_needWord_29
set_option maxHeartbeats 4000000 in
set_option maxRecDepth 100000 in
theorem s_X5_number_a0_0_a1_9 (l : Launch) (dC : Nat → ClassId) (dI : Nat → Nat → Nat) (cy : Nat → ClassId) (sq : Nat → Nat) (a_this : Nat) (a_this_text : Nat) (g_this_text : Nat → Int32) (x_this_length : Int32) (x_this_at : Int32) (x_this_behind : Int32) (x_this_sort : Int32) (x_this_allowed : Int32) (a_this_plan : Nat) (x_this_fault : Int32) (x_this_place : Int32) (hg_this_text : ia g_this_text 1600 0 255) (hx_this_length : ib x_this_length 0 1600) (hx_this_at : ib x_this_at 0 1600) (hx_this_behind : ib x_this_behind 0 1600) (hx_this_sort : ib x_this_sort 0 4) (hc0_this : ¬ x_this_sort = 0 → ib x_this_at 0 1599) : k_Met l yX5_number cX5_number 5 (some .int) { frames := 2, cells := 0, slots := 0, locals := 43 } dC dI cy sq [.ref a_this, .int 0, .int 9] [(wo_5_riiiiirii a_this a_this_text x_this_length x_this_at x_this_behind x_this_sort x_this_allowed a_this_plan x_this_fault x_this_place), (wi_0_1600_0 a_this_text cy g_this_text)] (k_Qi dC dI (fun (r : Int32) (u : Int32 × Int32 × Int32 × Int32 × Int32) => match u with | (n0, n1, n2, n3, n4) => ib r 0 9 ∧ ib n0 0 1600 ∧ ib n1 0 1600 ∧ ib n2 0 4 ∧ (¬ n2 = 0 → ib n0 0 1599) ∧ (F_X5_number_a0_0_a1_9 (lf_A g_this_text) (Int32.toInt x_this_length) (Int32.toInt x_this_at) (Int32.toInt x_this_behind) (Int32.toInt x_this_sort) (Int32.toInt x_this_fault) (Int32.toInt x_this_place) = ((Int32.toInt r), (Int32.toInt n0), (Int32.toInt n1), (Int32.toInt n2), (Int32.toInt n3), (Int32.toInt n4)))) (fun u : Int32 × Int32 × Int32 × Int32 × Int32 => match u with | (n0, n1, n2, n3, n4) => [(wo_5_riiiiirii a_this a_this_text x_this_length n0 n1 n2 x_this_allowed a_this_plan n3 n4), (wi_0_1600_0 a_this_text cy g_this_text)])) := by
  refine k_ofW2 (by decide +kernel) (Nat.le_of_ble_eq_true rfl) ?_
  intro p e s m below meth c A ls H locs args Q hQ C0 hZ hr hlk hin hP hD hA hS hl
  have C0 : k_cx p s m args c cX5_number 5 RX5 dC dI cy sq := C0
  have hx := C0.1
  have hb := C0.2.1
  have hl : lv_has ls 5 [(0, .ref a_this), (1, .int 0), (2, .int 9)] := hl
  obtain ⟨O, hO⟩ : ∃ o, o = F_X5_number_a0_0_a1_9 (lf_A g_this_text) (Int32.toInt x_this_length) (Int32.toInt x_this_at) (Int32.toInt x_this_behind) (Int32.toInt x_this_sort) (Int32.toInt x_this_fault) (Int32.toInt x_this_place) := ⟨_, rfl⟩
  have hq := hO
  unfold F_X5_number_a0_0_a1_9 at hq
  have jn94 : ∀ (J94_l3 : Int32) (J94_l4 : Int32) (H : Heap) (locs : List Loc) (ls : Array Slot), ib J94_l4 0 1600 → ib x_this_at 0 1599 → ib x_this_sort 2 2 → (O = F_X5_number_a0_0_a1_9_94 (Int32.toInt x_this_length) (Int32.toInt x_this_at) (Int32.toInt x_this_fault) (Int32.toInt x_this_place) (Int32.toInt J94_l3) (Int32.toInt J94_l4)) → va_P (dC, dI) vwCl [(wo_5_riiiiirii a_this a_this_text x_this_length x_this_at x_this_behind x_this_sort x_this_allowed a_this_plan x_this_fault x_this_place), (wi_0_1600_0 a_this_text cy g_this_text)] H → va_D A [(wo_5_riiiiirii a_this a_this_text x_this_length x_this_at x_this_behind x_this_sort x_this_allowed a_this_plan x_this_fault x_this_place), (wi_0_1600_0 a_this_text cy g_this_text)] → va_S A s.heap H locs → lv_has ls 5 [(0, .ref a_this), (1, .int 0), (2, .int 9), (3, .int J94_l3), (4, .int J94_l4)] → W p l e { frames := 2, cells := 0, slots := 0, locals := 43 } s m args below meth c H locs 0 0 Q (F0 m 94 ls []) := by
    intro J94_l3 J94_l4 H locs ls hJ94_l4 hK94_x_this_at hK94_x_this_sort hq hP hD hS hl
    unfold F_X5_number_a0_0_a1_9_94 at hq
    refine lv_aload_n hx hb dX5_number_94 rfl (lv_at hl 0 rfl) ?_
    refine lv_iconst (v := 2) hx hb dX5_number_95 rfl ?_
    refine lv_aload_n hx hb dX5_number_96 rfl (lv_at hl 0 rfl) ?_
    refine k_get C0 fg_X5_15 hP 0 rfl rfl dX5_number_97 ?_
    refine k_jvm hP hD hS hA [0] [false, true] rfl rfl rfl 0 0 (Nat.le_of_ble_eq_true rfl) (Nat.le_of_ble_eq_true rfl) (fun hPc hDc => k_runV (As := [.int 2, .int x_this_at]) (rest := []) C0 hZ hS hA (s_X5_fail l dC dI cy sq a_this a_this_text x_this_length x_this_at x_this_behind x_this_sort x_this_allowed a_this_plan x_this_fault x_this_place 2 x_this_at ) mV_X5_78 hPc hDc rfl rfl rfl hl rfl rfl (Nat.le_of_ble_eq_true rfl) ⟨(Nat.le_of_ble_eq_true rfl), (Nat.le_of_ble_eq_true rfl)⟩ ⟨(Nat.le_of_ble_eq_true rfl), (Nat.le_of_ble_eq_true rfl)⟩ dX5_number_100) (fun u2 H locs hw hP hD hS => ?_)
    obtain ⟨v3, v4⟩ := u2
    try dsimp only at hP hD hw
    replace hP : va_P (dC, dI) vwCl [(wi_0_1600_0 a_this_text cy g_this_text), (wo_5_riiiiirii a_this a_this_text x_this_length x_this_length x_this_length 0 x_this_allowed a_this_plan v3 v4)] H := hP
    replace hD := k_D hP hD
    have h5 := hw
    have h5 := by have h9 := h5; try simp only [show (2 : Int32).toInt = (2 : Int) from rfl] at h9; exact h9
    replace hq := lf_p1 hq h5
    refine lv_iload_n hx hb dX5_number_103 rfl (lv_at hl 1 rfl) ?_
    subst hQ; exact k_iret hx hb hr hlk rfl ((x_this_length, x_this_length, 0, v3, v4)) hS ⟨ib_w 0 9 (ib_c 0 0 0 rfl) rfl, ib_w 0 1600 hx_this_length rfl, ib_w 0 1600 hx_this_length rfl, ib_w 0 4 (ib_c 0 0 0 rfl) rfl, fun hq9 => absurd rfl hq9, (hO.symm.trans (by try simp only [show (0 : Int32).toInt = (0 : Int) from rfl]; exact hq))⟩ (hP.sub [1, 0] rfl) (hD.sub [1, 0] rfl rfl) (Nat.le_of_ble_eq_true rfl) (Nat.le_of_ble_eq_true rfl) dX5_number_104
  have jn53 : ∀ (n : Nat) (J53_l3 : Int32) (J53_l4 : Int32) (H : Heap) (locs : List Loc) (ls : Array Slot), ib x_this_at 0 1599 → ib x_this_sort 2 2 → ib J53_l4 0 1600 → (O = F_X5_number_a0_0_a1_9_53 (lf_A g_this_text) (Int32.toInt x_this_length) (Int32.toInt x_this_at) (Int32.toInt x_this_behind) (Int32.toInt x_this_fault) (Int32.toInt x_this_place) n (Int32.toInt J53_l3) (Int32.toInt J53_l4)) → 1601 ≤ J53_l4.toInt + (n : Int) → va_P (dC, dI) vwCl [(wo_5_riiiiirii a_this a_this_text x_this_length x_this_at x_this_behind x_this_sort x_this_allowed a_this_plan x_this_fault x_this_place), (wi_0_1600_0 a_this_text cy g_this_text)] H → va_D A [(wo_5_riiiiirii a_this a_this_text x_this_length x_this_at x_this_behind x_this_sort x_this_allowed a_this_plan x_this_fault x_this_place), (wi_0_1600_0 a_this_text cy g_this_text)] → va_S A s.heap H locs → lv_has ls 5 [(0, .ref a_this), (1, .int 0), (2, .int 9), (3, .int J53_l3), (4, .int J53_l4)] → W p l e { frames := 2, cells := 0, slots := 0, locals := 43 } s m args below meth c H locs 0 0 Q (F0 m 53 ls []) := by
    as_aux_lemma =>
      intro n
      induction n with
      | zero =>
        intro J53_l3 J53_l4 H locs ls hK53_x_this_at hK53_x_this_sort hJ53_l4 hq hm
        exact absurd hm (by have := hJ53_l4; unfold ib at this; omega)
      | succ n ih =>
        intro J53_l3 J53_l4 H locs ls hK53_x_this_at hK53_x_this_sort hJ53_l4 hq hm53 hP hD hS hl
        have ih53 := ih
        obtain ⟨K53, hK53⟩ : ∃ K, K = F_X5_number_a0_0_a1_9_53 (lf_A g_this_text) (Int32.toInt x_this_length) (Int32.toInt x_this_at) (Int32.toInt x_this_behind) (Int32.toInt x_this_fault) (Int32.toInt x_this_place) n := ⟨_, rfl⟩
        have hq : O = F_X5_number_a0_0_a1_9_53b (lf_A g_this_text) (Int32.toInt x_this_length) (Int32.toInt x_this_at) (Int32.toInt x_this_behind) (Int32.toInt x_this_fault) (Int32.toInt x_this_place) K53 (Int32.toInt J53_l3) (Int32.toInt J53_l4) := by rw [hK53]; exact hq
        unfold F_X5_number_a0_0_a1_9_53b at hq
        refine lv_iload hx hb dX5_number_53 (lv_at hl 4 rfl) ?_
        refine lv_aload_n hx hb dX5_number_55 rfl (lv_at hl 0 rfl) ?_
        refine k_get C0 fg_X5_18 hP 0 rfl rfl dX5_number_56 ?_
        refine lv_icmp_ge (tgt := 84) hx hb dX5_number_59 rfl (fun c6 => ?_) (fun c6 => ?_)
        · as_aux_lemma =>
            replace hq := lf_pos hq (lf_le (lf_rf x_this_behind) (lf_rf J53_l4) c6)
            have h7 := ib_le hx_this_behind hJ53_l4 c6
            refine lv_iload_n hx hb dX5_number_84 rfl (lv_at hl 3 rfl) ?_
            refine lv_iload_n hx hb dX5_number_85 rfl (lv_at hl 1 rfl) ?_
            refine lv_icmp_lt (tgt := 94) hx hb dX5_number_86 rfl (fun c8 => ?_) (fun c8 => ?_)
            · replace hq := lf_pos hq (lf_lt (lf_rf J53_l3) (lf_lc 0 (0 : Int) rfl) c8)
              have h9 := ib_lt (ib_any J53_l3) (ib_c 0 0 0 rfl) c8
              have h10 : ib J53_l3 (-2147483648) (-1) := ib_w (-2147483648) (-1) h9.1 rfl
              exact jn94 J53_l3 J53_l4 H locs ls (ib_w 0 1600 hJ53_l4 rfl) (ib_w 0 1599 hK53_x_this_at rfl) (ib_w 2 2 hK53_x_this_sort rfl) (by exact hq) hP hD hS (lv_sub hl [0, 1, 2, 3, 4] rfl)
            · as_aux_lemma =>
                replace hq := lf_neg hq (lf_nlt (lf_rf J53_l3) (lf_lc 0 (0 : Int) rfl) c8)
                have h11 := ib_nlt (ib_any J53_l3) (ib_c 0 0 0 rfl) c8
                have h12 : ib J53_l3 0 2147483647 := ib_w 0 2147483647 h11.1 rfl
                refine lv_iload_n hx hb dX5_number_89 rfl (lv_at hl 3 rfl) ?_
                refine lv_iload_n hx hb dX5_number_90 rfl (lv_at hl 2 rfl) ?_
                refine lv_icmp_le (tgt := 105) hx hb dX5_number_91 rfl (fun c13 => ?_) (fun c13 => ?_)
                · replace hq := lf_pos hq (lf_le (lf_rf J53_l3) (lf_lc 9 (9 : Int) rfl) c13)
                  have h14 := ib_le h12 (ib_c 9 9 9 rfl) c13
                  have h15 : ib J53_l3 0 9 := ib_w 0 9 h14.1 rfl
                  refine lv_aload_n hx hb dX5_number_105 rfl (lv_at hl 0 rfl) ?_
                  refine lv_aload_n hx hb dX5_number_106 rfl (lv_at hl 0 rfl) ?_
                  refine k_get C0 fg_X5_18 hP 0 rfl rfl dX5_number_107 ?_
                  refine k_jvm hP hD hS hA [0, 1] [] rfl rfl rfl 0 0 (Nat.le_of_ble_eq_true rfl) (Nat.le_of_ble_eq_true rfl) (fun hPc hDc => k_runV (As := [.int x_this_behind]) (rest := []) C0 hZ hS hA (s_X5_moveTo l dC dI cy sq a_this a_this_text g_this_text x_this_length x_this_at x_this_behind x_this_sort x_this_allowed a_this_plan x_this_fault x_this_place x_this_behind hg_this_text (ib_w 0 1600 hx_this_length rfl) (ib_w 0 1600 hx_this_behind rfl)) mV_X5_86 hPc hDc rfl rfl rfl hl rfl rfl (Nat.le_of_ble_eq_true rfl) ⟨(Nat.le_of_ble_eq_true rfl), (Nat.le_of_ble_eq_true rfl)⟩ ⟨(Nat.le_of_ble_eq_true rfl), (Nat.le_of_ble_eq_true rfl)⟩ dX5_number_110) (fun u17 H locs hw hP hD hS => ?_)
                  obtain ⟨v18, v19, v20⟩ := u17
                  try dsimp only at hP hD hw
                  replace hP : va_P (dC, dI) vwCl [(wo_5_riiiiirii a_this a_this_text x_this_length v18 v19 v20 x_this_allowed a_this_plan x_this_fault x_this_place), (wi_0_1600_0 a_this_text cy g_this_text)] H := hP
                  replace hD := k_D hP hD
                  obtain ⟨h21, h22, h23, h24, h25⟩ := hw
                  replace hq := lf_p1 hq h25
                  replace hq := lf_p1 hq rfl
                  refine lv_iload_n hx hb dX5_number_113 rfl (lv_at hl 3 rfl) ?_
                  subst hQ; exact k_iret hx hb hr hlk rfl ((v18, v19, v20, x_this_fault, x_this_place)) hS ⟨ib_w 0 9 h15 rfl, ib_w 0 1600 h21 rfl, ib_w 0 1600 h22 rfl, ib_w 0 4 h23 rfl, fun hq9 => ib_w 0 1599 (h24 hq9) rfl, (hO.symm.trans (by exact hq))⟩ hP hD (Nat.le_of_ble_eq_true rfl) (Nat.le_of_ble_eq_true rfl) dX5_number_114
                · replace hq := lf_neg hq (lf_nle (lf_rf J53_l3) (lf_lc 9 (9 : Int) rfl) c13)
                  have h26 := ib_nle h12 (ib_c 9 9 9 rfl) c13
                  have h27 : ib J53_l3 10 2147483647 := ib_w 10 2147483647 h26.1 rfl
                  exact jn94 J53_l3 J53_l4 H locs ls (ib_w 0 1600 hJ53_l4 rfl) (ib_w 0 1599 hK53_x_this_at rfl) (ib_w 2 2 hK53_x_this_sort rfl) (by exact hq) hP hD hS (lv_sub hl [0, 1, 2, 3, 4] rfl)
        · as_aux_lemma =>
            replace hq := lf_neg hq (lf_nle (lf_rf x_this_behind) (lf_rf J53_l4) c6)
            have h28 := ib_nle hx_this_behind hJ53_l4 c6
            have h29 : ib x_this_behind 1 1600 := ib_w 1 1600 h28.1 rfl
            have h30 : ib J53_l4 0 1599 := ib_w 0 1599 h28.2 rfl
            refine lv_iload_n hx hb dX5_number_62 rfl (lv_at hl 3 rfl) ?_
            refine lv_bipush (v := 10) hx hb dX5_number_63 rfl ?_
            refine lv_imul hx hb dX5_number_65 ?_
            refine lv_topi (fun z31 ez31 => ?_)
            have Ez31 := lf_op lf_imul ez31 (lf_rf J53_l3) (lf_lc 10 (10 : Int) rfl)
            refine lv_aload_n hx hb dX5_number_66 rfl (lv_at hl 0 rfl) ?_
            refine k_get C0 fg_X5_33 hP 0 rfl rfl dX5_number_67 ?_
            refine lv_iload hx hb dX5_number_70 (lv_at hl 4 rfl) ?_
            refine va_iald hx hb C0.2.2.2.2.2.1 hP 1 0 rfl rfl (ib_in 1600 h30 rfl) dX5_number_72 ?_
            refine lv_topi (fun z32 ez32 => ?_)
            have h33 : ib z32 0 255 := by rw [ez32]; exact ia_at hg_this_text (ib_in 1600 h30 rfl)
            have Ez32 := lf_ld ez32 (lf_ra g_this_text) (lf_rf J53_l4)
            refine lv_iadd hx hb dX5_number_73 ?_
            refine lv_topi (fun z34 ez34 => ?_)
            have Ez34 := lf_op lf_iadd ez34 Ez31 Ez32
            refine lv_bipush (v := 48) hx hb dX5_number_74 rfl ?_
            refine lv_isub hx hb dX5_number_76 ?_
            refine lv_topi (fun z35 ez35 => ?_)
            have Ez35 := lf_op lf_isub ez35 Ez34 (lf_lc 48 (48 : Int) rfl)
            refine lv_istore_n (lv' := [(3, .int z35), (0, .ref a_this), (1, .int 0), (2, .int 9), (4, .int J53_l4)]) hx hb dX5_number_77 rfl hl (Nat.le_of_ble_eq_true rfl) rfl (fun ls hl => ?_)
            obtain ⟨z36, ez36⟩ : ∃ y : Int32, y = J53_l4 + 1 := ⟨_, rfl⟩
            refine lv_iinc (v := z36) (lv' := [(4, .int z36), (3, .int z35), (0, .ref a_this), (1, .int 0), (2, .int 9)]) hx hb dX5_number_78 hl (k := 4) rfl (by rw [ez36]; rfl) (Nat.le_of_ble_eq_true rfl) rfl (fun ls hl => ?_)
            have h37 := ib_add h30 (ib_c 1 1 1 rfl) rfl
            rw [← ez36] at h37
            have h38 : ib z36 1 1600 := ib_w 1 1600 h37.1 rfl
            have Ez36 := lf_add h37.2 (lf_rf J53_l4) (lf_lc 1 (1 : Int) rfl)
            refine lv_goto (tgt := 53) hx hb dX5_number_81 rfl ?_
            exact ih53 z35 z36 H locs ls (ib_w 0 1599 hK53_x_this_at rfl) (ib_w 2 2 hK53_x_this_sort rfl) (ib_w 0 1600 h38 rfl) (by rw [← hK53]; rw [lf_u Ez35]; rw [lf_u Ez36]; exact hq) (by have := h37.2; have : (1 : Int32).toInt = 1 := rfl; omega) hP hD hS (lv_sub hl [2, 3, 4, 1, 0] rfl)
  refine lv_aload_n hx hb dX5_number_0 rfl (lv_at hl 0 rfl) ?_
  refine k_get C0 fg_X5_21 hP 0 rfl rfl dX5_number_1 ?_
  refine lv_iconst (v := 2) hx hb dX5_number_4 rfl ?_
  refine lv_icmp_eq (tgt := 19) hx hb dX5_number_5 rfl (fun c39 => ?_) (fun c39 => ?_)
  · as_aux_lemma =>
      replace hq := lf_pos hq (lf_eq (lf_rf x_this_sort) (lf_lc 2 (2 : Int) rfl) c39)
      have h40 := ib_eq hx_this_sort (ib_c 2 2 2 rfl) c39
      have h41 : ib x_this_sort 2 2 := ib_w 2 2 h40.1 rfl
      have h42 : ib x_this_at 0 1599 := ib_w 0 1599 (ib_two hx_this_at (hc0_this (ib_nz h41 rfl))) rfl
      refine lv_aload_n hx hb dX5_number_19 rfl (lv_at hl 0 rfl) ?_
      refine k_get C0 fg_X5_18 hP 0 rfl rfl dX5_number_20 ?_
      refine lv_aload_n hx hb dX5_number_23 rfl (lv_at hl 0 rfl) ?_
      refine k_get C0 fg_X5_15 hP 0 rfl rfl dX5_number_24 ?_
      refine lv_isub hx hb dX5_number_27 ?_
      refine lv_topi (fun z43 ez43 => ?_)
      have h44 := ib_sub hx_this_behind h42 rfl
      rw [← ez43] at h44
      have h45 : ib z43 (-1599) 1600 := ib_w (-1599) 1600 h44.1 rfl
      have Ez43 := lf_sub h44.2 (lf_rf x_this_behind) (lf_rf x_this_at)
      refine lv_iconst (v := 4) hx hb dX5_number_28 rfl ?_
      refine lv_icmp_le (tgt := 45) hx hb dX5_number_29 rfl (fun c46 => ?_) (fun c46 => ?_)
      · replace hq := lf_pos hq (lf_le Ez43 (lf_lc 4 (4 : Int) rfl) c46)
        have h47 := ib_le h45 (ib_c 4 4 4 rfl) c46
        have h48 : ib z43 (-1599) 4 := ib_w (-1599) 4 h47.1 rfl
        refine lv_iconst (v := 0) hx hb dX5_number_45 rfl ?_
        refine lv_istore_n (lv' := [(3, .int 0), (0, .ref a_this), (1, .int 0), (2, .int 9)]) hx hb dX5_number_46 rfl hl (Nat.le_of_ble_eq_true rfl) rfl (fun ls hl => ?_)
        refine lv_aload_n hx hb dX5_number_47 rfl (lv_at hl 1 rfl) ?_
        refine k_get C0 fg_X5_15 hP 0 rfl rfl dX5_number_48 ?_
        refine lv_istore (lv' := [(4, .int x_this_at), (3, .int 0), (0, .ref a_this), (1, .int 0), (2, .int 9)]) hx hb dX5_number_51 hl (Nat.le_of_ble_eq_true rfl) rfl (fun ls hl => ?_)
        exact jn53 1602 0 x_this_at H locs ls (ib_w 0 1599 h42 rfl) (ib_w 2 2 h41 rfl) (ib_w 0 1600 h42 rfl) (by try simp only [show (0 : Int32).toInt = (0 : Int) from rfl]; exact hq) (by have := h42; unfold ib at this; omega) hP hD hS (lv_sub hl [2, 3, 4, 1, 0] rfl)
      · as_aux_lemma =>
          replace hq := lf_neg hq (lf_nle Ez43 (lf_lc 4 (4 : Int) rfl) c46)
          have h49 := ib_nle h45 (ib_c 4 4 4 rfl) c46
          have h50 : ib z43 5 1600 := ib_w 5 1600 h49.1 rfl
          refine lv_aload_n hx hb dX5_number_32 rfl (lv_at hl 0 rfl) ?_
          refine lv_iconst (v := 1) hx hb dX5_number_33 rfl ?_
          refine lv_aload_n hx hb dX5_number_34 rfl (lv_at hl 0 rfl) ?_
          refine k_get C0 fg_X5_15 hP 0 rfl rfl dX5_number_35 ?_
          refine lv_iconst (v := 4) hx hb dX5_number_38 rfl ?_
          refine lv_iadd hx hb dX5_number_39 ?_
          refine lv_topi (fun z51 ez51 => ?_)
          have h52 := ib_add h42 (ib_c 4 4 4 rfl) rfl
          rw [← ez51] at h52
          have h53 : ib z51 4 1603 := ib_w 4 1603 h52.1 rfl
          have Ez51 := lf_add h52.2 (lf_rf x_this_at) (lf_lc 4 (4 : Int) rfl)
          refine k_jvm hP hD hS hA [0] [false, true] rfl rfl rfl 0 0 (Nat.le_of_ble_eq_true rfl) (Nat.le_of_ble_eq_true rfl) (fun hPc hDc => k_runV (As := [.int 1, .int z51]) (rest := []) C0 hZ hS hA (s_X5_fail l dC dI cy sq a_this a_this_text x_this_length x_this_at x_this_behind x_this_sort x_this_allowed a_this_plan x_this_fault x_this_place 1 z51 ) mV_X5_78 hPc hDc rfl rfl rfl hl rfl rfl (Nat.le_of_ble_eq_true rfl) ⟨(Nat.le_of_ble_eq_true rfl), (Nat.le_of_ble_eq_true rfl)⟩ ⟨(Nat.le_of_ble_eq_true rfl), (Nat.le_of_ble_eq_true rfl)⟩ dX5_number_40) (fun u55 H locs hw hP hD hS => ?_)
          obtain ⟨v56, v57⟩ := u55
          try dsimp only at hP hD hw
          replace hP : va_P (dC, dI) vwCl [(wi_0_1600_0 a_this_text cy g_this_text), (wo_5_riiiiirii a_this a_this_text x_this_length x_this_length x_this_length 0 x_this_allowed a_this_plan v56 v57)] H := hP
          replace hD := k_D hP hD
          have h58 := hw
          have h58 := by have h9 := h58; try simp only [show (1 : Int32).toInt = (1 : Int) from rfl] at h9; rw [lf_u Ez51] at h9; exact h9
          replace hq := lf_p1 hq h58
          refine lv_iload_n hx hb dX5_number_43 rfl (lv_at hl 1 rfl) ?_
          subst hQ; exact k_iret hx hb hr hlk rfl ((x_this_length, x_this_length, 0, v56, v57)) hS ⟨ib_w 0 9 (ib_c 0 0 0 rfl) rfl, ib_w 0 1600 hx_this_length rfl, ib_w 0 1600 hx_this_length rfl, ib_w 0 4 (ib_c 0 0 0 rfl) rfl, fun hq9 => absurd rfl hq9, (hO.symm.trans (by try simp only [show (0 : Int32).toInt = (0 : Int) from rfl]; exact hq))⟩ (hP.sub [1, 0] rfl) (hD.sub [1, 0] rfl rfl) (Nat.le_of_ble_eq_true rfl) (Nat.le_of_ble_eq_true rfl) dX5_number_44
  · replace hq := lf_neg hq (lf_ne (lf_rf x_this_sort) (lf_lc 2 (2 : Int) rfl) c39)
    refine lv_aload_n hx hb dX5_number_8 rfl (lv_at hl 0 rfl) ?_
    refine lv_iconst (v := 1) hx hb dX5_number_9 rfl ?_
    refine lv_aload_n hx hb dX5_number_10 rfl (lv_at hl 0 rfl) ?_
    refine k_get C0 fg_X5_15 hP 0 rfl rfl dX5_number_11 ?_
    refine k_jvm hP hD hS hA [0] [false, true] rfl rfl rfl 0 0 (Nat.le_of_ble_eq_true rfl) (Nat.le_of_ble_eq_true rfl) (fun hPc hDc => k_runV (As := [.int 1, .int x_this_at]) (rest := []) C0 hZ hS hA (s_X5_fail l dC dI cy sq a_this a_this_text x_this_length x_this_at x_this_behind x_this_sort x_this_allowed a_this_plan x_this_fault x_this_place 1 x_this_at ) mV_X5_78 hPc hDc rfl rfl rfl hl rfl rfl (Nat.le_of_ble_eq_true rfl) ⟨(Nat.le_of_ble_eq_true rfl), (Nat.le_of_ble_eq_true rfl)⟩ ⟨(Nat.le_of_ble_eq_true rfl), (Nat.le_of_ble_eq_true rfl)⟩ dX5_number_14) (fun u60 H locs hw hP hD hS => ?_)
    obtain ⟨v61, v62⟩ := u60
    try dsimp only at hP hD hw
    replace hP : va_P (dC, dI) vwCl [(wi_0_1600_0 a_this_text cy g_this_text), (wo_5_riiiiirii a_this a_this_text x_this_length x_this_length x_this_length 0 x_this_allowed a_this_plan v61 v62)] H := hP
    replace hD := k_D hP hD
    have h63 := hw
    have h63 := by have h9 := h63; try simp only [show (1 : Int32).toInt = (1 : Int) from rfl] at h9; exact h9
    replace hq := lf_p1 hq h63
    refine lv_iload_n hx hb dX5_number_17 rfl (lv_at hl 1 rfl) ?_
    subst hQ; exact k_iret hx hb hr hlk rfl ((x_this_length, x_this_length, 0, v61, v62)) hS ⟨ib_w 0 9 (ib_c 0 0 0 rfl) rfl, ib_w 0 1600 hx_this_length rfl, ib_w 0 1600 hx_this_length rfl, ib_w 0 4 (ib_c 0 0 0 rfl) rfl, fun hq9 => absurd rfl hq9, (hO.symm.trans (by try simp only [show (0 : Int32).toInt = (0 : Int) from rfl]; exact hq))⟩ (hP.sub [1, 0] rfl) (hD.sub [1, 0] rfl rfl) (Nat.le_of_ble_eq_true rfl) (Nat.le_of_ble_eq_true rfl) dX5_number_18
set_option maxHeartbeats 4000000 in
set_option maxRecDepth 100000 in
theorem s_X5_numberBehind_a1_0_a2_9_s9 (l : Launch) (dC : Nat → ClassId) (dI : Nat → Nat → Nat) (cy : Nat → ClassId) (sq : Nat → Nat) (a_this : Nat) (a_this_text : Nat) (g_this_text : Nat → Int32) (x_this_length : Int32) (x_this_at : Int32) (x_this_behind : Int32) (x_this_sort : Int32) (x_this_allowed : Int32) (a_this_plan : Nat) (x_this_fault : Int32) (x_this_place : Int32) (hg_this_text : ia g_this_text 1600 0 255) (hx_this_length : ib x_this_length 0 1600) (hx_this_at : ib x_this_at 0 1600) (hx_this_behind : ib x_this_behind 0 1600) (hx_this_sort : ib x_this_sort 0 4) (hc0_this : ¬ x_this_sort = 0 → ib x_this_at 0 1599) : k_Met l yX5_numberBehind cX5_numberBehind 4 (some .int) { frames := 6, cells := 0, slots := 0, locals := 187 } dC dI cy sq [.ref a_this, .ref (sq 9), .int 0, .int 9] [(wo_5_riiiiirii a_this a_this_text x_this_length x_this_at x_this_behind x_this_sort x_this_allowed a_this_plan x_this_fault x_this_place), (wi_0_1600_0 a_this_text cy g_this_text)] (k_Qi dC dI (fun (r : Int32) (u : Int32 × Int32 × Int32 × Int32 × Int32) => match u with | (n0, n1, n2, n3, n4) => ib r 0 9 ∧ ib n0 0 1600 ∧ ib n1 0 1600 ∧ ib n2 0 4 ∧ (¬ n2 = 0 → ib n0 0 1599) ∧ (F_X5_numberBehind_a1_0_a2_9_s9 (lf_A g_this_text) (Int32.toInt x_this_length) (Int32.toInt x_this_at) (Int32.toInt x_this_behind) (Int32.toInt x_this_sort) (Int32.toInt x_this_fault) (Int32.toInt x_this_place) = ((Int32.toInt r), (Int32.toInt n0), (Int32.toInt n1), (Int32.toInt n2), (Int32.toInt n3), (Int32.toInt n4)))) (fun u : Int32 × Int32 × Int32 × Int32 × Int32 => match u with | (n0, n1, n2, n3, n4) => [(wo_5_riiiiirii a_this a_this_text x_this_length n0 n1 n2 x_this_allowed a_this_plan n3 n4), (wi_0_1600_0 a_this_text cy g_this_text)])) := by
  refine k_ofW2 (by decide +kernel) (Nat.le_of_ble_eq_true rfl) ?_
  intro p e s m below meth c A ls H locs args Q hQ C0 hZ hr hlk hin hP hD hA hS hl
  have C0 : k_cx p s m args c cX5_numberBehind 4 RX5 dC dI cy sq := C0
  have hx := C0.1
  have hb := C0.2.1
  have hl : lv_has ls 4 [(0, .ref a_this), (1, .ref (sq 9)), (2, .int 0), (3, .int 9)] := hl
  obtain ⟨O, hO⟩ : ∃ o, o = F_X5_numberBehind_a1_0_a2_9_s9 (lf_A g_this_text) (Int32.toInt x_this_length) (Int32.toInt x_this_at) (Int32.toInt x_this_behind) (Int32.toInt x_this_sort) (Int32.toInt x_this_fault) (Int32.toInt x_this_place) := ⟨_, rfl⟩
  have hq := hO
  unfold F_X5_numberBehind_a1_0_a2_9_s9 at hq
  refine lv_aload_n hx hb dX5_numberBehind_0 rfl (lv_at hl 0 rfl) ?_
  refine lv_aload_n hx hb dX5_numberBehind_1 rfl (lv_at hl 1 rfl) ?_
  refine k_jvm hP hD hS hA [0, 1] [] rfl rfl rfl 0 0 (Nat.le_of_ble_eq_true rfl) (Nat.le_of_ble_eq_true rfl) (fun hPc hDc => k_runV (As := [.ref (sq 9)]) (rest := []) C0 hZ hS hA (s_X5_needWord_s9 l dC dI cy sq a_this a_this_text g_this_text x_this_length x_this_at x_this_behind x_this_sort x_this_allowed a_this_plan x_this_fault x_this_place hg_this_text (ib_w 0 1600 hx_this_length rfl) (ib_w 0 1600 hx_this_at rfl) (ib_w 0 1600 hx_this_behind rfl) (ib_w 0 4 hx_this_sort rfl) (fun hq9 => ib_w 0 1599 (hc0_this hq9) rfl)) mV_X5_144 hPc hDc rfl rfl rfl hl rfl rfl (Nat.le_of_ble_eq_true rfl) ⟨(Nat.le_of_ble_eq_true rfl), (Nat.le_of_ble_eq_true rfl)⟩ ⟨(Nat.le_of_ble_eq_true rfl), (Nat.le_of_ble_eq_true rfl)⟩ dX5_numberBehind_2) (fun u2 H locs hw hP hD hS => ?_)
  obtain ⟨v3, v4, v5, v6, v7⟩ := u2
  try dsimp only at hP hD hw
  replace hP : va_P (dC, dI) vwCl [(wo_5_riiiiirii a_this a_this_text x_this_length v3 v4 v5 x_this_allowed a_this_plan v6 v7), (wi_0_1600_0 a_this_text cy g_this_text)] H := hP
  replace hD := k_D hP hD
  obtain ⟨h8, h9, h10, h11, h12⟩ := hw
  replace hq := lf_p1 hq h12
  replace hq := lf_p1 hq rfl
  replace hq := lf_p1 hq rfl
  replace hq := lf_p1 hq rfl
  refine lv_aload_n hx hb dX5_numberBehind_5 rfl (lv_at hl 0 rfl) ?_
  refine lv_iload_n hx hb dX5_numberBehind_6 rfl (lv_at hl 2 rfl) ?_
  refine lv_iload_n hx hb dX5_numberBehind_7 rfl (lv_at hl 3 rfl) ?_
  refine k_jim hP hD hS hA [0, 1] [] rfl rfl rfl 0 0 (Nat.le_of_ble_eq_true rfl) (Nat.le_of_ble_eq_true rfl) (fun hPc hDc => k_runV (As := [.int 0, .int 9]) (rest := []) C0 hZ hS hA (s_X5_number_a0_0_a1_9 l dC dI cy sq a_this a_this_text g_this_text x_this_length v3 v4 v5 x_this_allowed a_this_plan v6 v7 hg_this_text (ib_w 0 1600 hx_this_length rfl) (ib_w 0 1600 h8 rfl) (ib_w 0 1600 h9 rfl) (ib_w 0 4 h10 rfl) (fun hq9 => ib_w 0 1599 (h11 hq9) rfl)) mV_X5_168 hPc hDc rfl rfl rfl hl rfl rfl (Nat.le_of_ble_eq_true rfl) ⟨(Nat.le_of_ble_eq_true rfl), (Nat.le_of_ble_eq_true rfl)⟩ ⟨(Nat.le_of_ble_eq_true rfl), (Nat.le_of_ble_eq_true rfl)⟩ dX5_numberBehind_8) (fun r13 u14 H locs hw hP hD hS => ?_)
  obtain ⟨v15, v16, v17, v18, v19⟩ := u14
  try dsimp only at hP hD hw
  replace hP : va_P (dC, dI) vwCl [(wo_5_riiiiirii a_this a_this_text x_this_length v15 v16 v17 x_this_allowed a_this_plan v18 v19), (wi_0_1600_0 a_this_text cy g_this_text)] H := hP
  replace hD := k_D hP hD
  obtain ⟨h20, h21, h22, h23, h24, h25⟩ := hw
  replace hq := lf_p1 hq h25
  replace hq := lf_p1 hq rfl
  replace hq := lf_p1 hq rfl
  replace hq := lf_p1 hq rfl
  replace hq := lf_p1 hq rfl
  subst hQ; exact k_iret hx hb hr hlk rfl ((v15, v16, v17, v18, v19)) hS ⟨ib_w 0 9 h20 rfl, ib_w 0 1600 h21 rfl, ib_w 0 1600 h22 rfl, ib_w 0 4 h23 rfl, fun hq9 => ib_w 0 1599 (h24 hq9) rfl, (hO.symm.trans (by exact hq))⟩ hP hD (Nat.le_of_ble_eq_true rfl) (Nat.le_of_ble_eq_true rfl) dX5_numberBehind_11
set_option maxHeartbeats 4000000 in
set_option maxRecDepth 100000 in
theorem s_X5_kindStatement (l : Launch) (dC : Nat → ClassId) (dI : Nat → Nat → Nat) (cy : Nat → ClassId) (sq : Nat → Nat) (a_this : Nat) (a_this_text : Nat) (g_this_text : Nat → Int32) (x_this_length : Int32) (x_this_at : Int32) (x_this_behind : Int32) (x_this_sort : Int32) (x_this_allowed : Int32) (a_this_plan : Nat) (x_this_plan_cycle : Int32) (x_this_plan_green : Int32) (x_this_plan_rule : Int32) (x_this_plan_least : Int32) (x_this_plan_away : Int32) (x_this_plan_statements : Int32) (x_this_plan_kinds : Int32) (a_this_plan_calm : Nat) (g_this_plan_calm : Nat → Int32) (a_this_plan_pace : Nat) (g_this_plan_pace : Nat → Int32) (a_this_plan_trusts : Nat) (g_this_plan_trusts : Nat → Int32) (x_this_plan_walkers : Int32) (a_this_plan_kindOf : Nat) (a_this_plan_comesAt : Nat) (a_this_plan_comers : Nat) (a_this_plan_names : Nat) (g_this_plan_names : Nat → Int32) (a_this_plan_code : Nat) (x_this_plan_size : Int32) (a_this_plan_spans : Nat) (x_this_fault : Int32) (x_this_place : Int32) (hg_this_text : ia g_this_text 1600 0 255) (hx_this_length : ib x_this_length 0 1600) (hx_this_behind : ib x_this_behind 0 1600) (hx_this_plan_kinds : ib x_this_plan_kinds 0 6) (hx_this_plan_walkers : ib x_this_plan_walkers 0 12) : k_Met l yX5_kindStatement cX5_kindStatement 2 none { frames := 7, cells := 0, slots := 0, locals := 210 } dC dI cy sq [.ref a_this] [(wo_5_riiiiirii a_this a_this_text x_this_length x_this_at x_this_behind x_this_sort x_this_allowed a_this_plan x_this_fault x_this_place), (wo_4_iiiiiiirrrirrrrrir a_this_plan x_this_plan_cycle x_this_plan_green x_this_plan_rule x_this_plan_least x_this_plan_away x_this_plan_statements x_this_plan_kinds a_this_plan_calm a_this_plan_pace a_this_plan_trusts x_this_plan_walkers a_this_plan_kindOf a_this_plan_comesAt a_this_plan_comers a_this_plan_names a_this_plan_code x_this_plan_size a_this_plan_spans), (wi_0_1600_0 a_this_text cy g_this_text), (wi_0_108_0 a_this_plan_names cy g_this_plan_names), (wi_0_6_0 a_this_plan_calm cy g_this_plan_calm), (wi_0_6_0 a_this_plan_pace cy g_this_plan_pace), (wi_0_6_0 a_this_plan_trusts cy g_this_plan_trusts)] (k_Qv dC dI (fun (u : Int32 × Int32 × Int32 × Int32 × Int32 × Int32 × (Nat → Int32) × (Nat → Int32) × (Nat → Int32) × (Nat → Int32)) => match u with | (n0, n1, n2, n3, n4, n5, n6, n7, n8, n9) => ib n0 0 1600 ∧ ib n1 0 1600 ∧ ib n2 0 4 ∧ ib n5 1 6 ∧ (¬ n2 = 0 → ib n0 0 1599) ∧ (F_X5_kindStatement (lf_A g_this_text) (Int32.toInt x_this_length) (Int32.toInt x_this_at) (Int32.toInt x_this_behind) (Int32.toInt x_this_plan_kinds) (lf_A g_this_plan_calm) (lf_A g_this_plan_pace) (lf_A g_this_plan_trusts) (Int32.toInt x_this_plan_walkers) (lf_A g_this_plan_names) (Int32.toInt x_this_fault) (Int32.toInt x_this_place) = ((Int32.toInt n0), (Int32.toInt n1), (Int32.toInt n2), (Int32.toInt n3), (Int32.toInt n4), (Int32.toInt n5), (lf_A n6), (lf_A n7), (lf_A n8), (lf_A n9)))) (fun u : Int32 × Int32 × Int32 × Int32 × Int32 × Int32 × (Nat → Int32) × (Nat → Int32) × (Nat → Int32) × (Nat → Int32) => match u with | (n0, n1, n2, n3, n4, n5, n6, n7, n8, n9) => [(wo_5_riiiiirii a_this a_this_text x_this_length n0 n1 n2 x_this_allowed a_this_plan n3 n4), (wo_4_iiiiiiirrrirrrrrir a_this_plan x_this_plan_cycle x_this_plan_green x_this_plan_rule x_this_plan_least x_this_plan_away x_this_plan_statements n5 a_this_plan_calm a_this_plan_pace a_this_plan_trusts x_this_plan_walkers a_this_plan_kindOf a_this_plan_comesAt a_this_plan_comers a_this_plan_names a_this_plan_code x_this_plan_size a_this_plan_spans), (wi_0_1600_0 a_this_text cy g_this_text), (wi_0_108_0 a_this_plan_names cy n6), (wi_0_6_0 a_this_plan_calm cy n7), (wi_0_6_0 a_this_plan_pace cy n8), (wi_0_6_0 a_this_plan_trusts cy n9)])) := by
  refine k_ofW2 (by decide +kernel) (Nat.le_of_ble_eq_true rfl) ?_
  intro p e s m below meth c A ls H locs args Q hQ C0 hZ hr hlk hin hP hD hA hS hl
  have C0 : k_cx p s m args c cX5_kindStatement 2 RX5 dC dI cy sq := C0
  have hx := C0.1
  have hb := C0.2.1
  have hl : lv_has ls 2 [(0, .ref a_this)] := hl
  obtain ⟨O, hO⟩ : ∃ o, o = F_X5_kindStatement (lf_A g_this_text) (Int32.toInt x_this_length) (Int32.toInt x_this_at) (Int32.toInt x_this_behind) (Int32.toInt x_this_plan_kinds) (lf_A g_this_plan_calm) (lf_A g_this_plan_pace) (lf_A g_this_plan_trusts) (Int32.toInt x_this_plan_walkers) (lf_A g_this_plan_names) (Int32.toInt x_this_fault) (Int32.toInt x_this_place) := ⟨_, rfl⟩
  have hq := hO
  unfold F_X5_kindStatement at hq
  refine lv_aload_n hx hb dX5_kindStatement_0 rfl (lv_at hl 0 rfl) ?_
  refine k_get C0 fg_X5_37 hP 0 rfl rfl dX5_kindStatement_1 ?_
  refine k_get C0 fg_X5_121 hP 1 rfl rfl dX5_kindStatement_4 ?_
  refine lv_istore_n (lv' := [(1, .int x_this_plan_kinds), (0, .ref a_this)]) hx hb dX5_kindStatement_7 rfl hl (Nat.le_of_ble_eq_true rfl) rfl (fun ls hl => ?_)
  refine lv_iload_n hx hb dX5_kindStatement_8 rfl (lv_at hl 0 rfl) ?_
  refine lv_bipush (v := 6) hx hb dX5_kindStatement_9 rfl ?_
  refine lv_icmp_lt (tgt := 24) hx hb dX5_kindStatement_11 rfl (fun c1 => ?_) (fun c1 => ?_)
  · as_aux_lemma =>
      replace hq := lf_pos hq (lf_lt (lf_rf x_this_plan_kinds) (lf_lc 6 (6 : Int) rfl) c1)
      have h2 := ib_lt hx_this_plan_kinds (ib_c 6 6 6 rfl) c1
      have h3 : ib x_this_plan_kinds 0 5 := ib_w 0 5 h2.1 rfl
      refine lv_aload_n hx hb dX5_kindStatement_24 rfl (lv_at hl 1 rfl) ?_
      refine lv_aload_n hx hb dX5_kindStatement_25 rfl (lv_at hl 1 rfl) ?_
      refine k_get C0 fg_X5_18 hP 0 rfl rfl dX5_kindStatement_26 ?_
      refine k_jvm hP hD hS hA [0, 2] [false, true, false, true, true, true, true] rfl rfl rfl 0 0 (Nat.le_of_ble_eq_true rfl) (Nat.le_of_ble_eq_true rfl) (fun hPc hDc => k_runV (As := [.int x_this_behind]) (rest := []) C0 hZ hS hA (s_X5_moveTo l dC dI cy sq a_this a_this_text g_this_text x_this_length x_this_at x_this_behind x_this_sort x_this_allowed a_this_plan x_this_fault x_this_place x_this_behind hg_this_text (ib_w 0 1600 hx_this_length rfl) (ib_w 0 1600 hx_this_behind rfl)) mV_X5_86 hPc hDc rfl rfl rfl hl rfl rfl (Nat.le_of_ble_eq_true rfl) ⟨(Nat.le_of_ble_eq_true rfl), (Nat.le_of_ble_eq_true rfl)⟩ ⟨(Nat.le_of_ble_eq_true rfl), (Nat.le_of_ble_eq_true rfl)⟩ dX5_kindStatement_29) (fun u5 H locs hw hP hD hS => ?_)
      obtain ⟨v6, v7, v8⟩ := u5
      try dsimp only at hP hD hw
      replace hP : va_P (dC, dI) vwCl [(wo_4_iiiiiiirrrirrrrrir a_this_plan x_this_plan_cycle x_this_plan_green x_this_plan_rule x_this_plan_least x_this_plan_away x_this_plan_statements x_this_plan_kinds a_this_plan_calm a_this_plan_pace a_this_plan_trusts x_this_plan_walkers a_this_plan_kindOf a_this_plan_comesAt a_this_plan_comers a_this_plan_names a_this_plan_code x_this_plan_size a_this_plan_spans), (wi_0_108_0 a_this_plan_names cy g_this_plan_names), (wi_0_6_0 a_this_plan_calm cy g_this_plan_calm), (wi_0_6_0 a_this_plan_pace cy g_this_plan_pace), (wi_0_6_0 a_this_plan_trusts cy g_this_plan_trusts), (wo_5_riiiiirii a_this a_this_text x_this_length v6 v7 v8 x_this_allowed a_this_plan x_this_fault x_this_place), (wi_0_1600_0 a_this_text cy g_this_text)] H := hP
      replace hD := k_D hP hD
      obtain ⟨h9, h10, h11, h12, h13⟩ := hw
      replace hq := lf_p1 hq h13
      replace hq := lf_p1 hq rfl
      refine lv_aload_n hx hb dX5_kindStatement_32 rfl (lv_at hl 1 rfl) ?_
      refine lv_iload_n hx hb dX5_kindStatement_33 rfl (lv_at hl 0 rfl) ?_
      refine k_jvm hP hD hS hA [5, 6, 0, 1] [false, false, true, true, true] rfl rfl rfl 0 0 (Nat.le_of_ble_eq_true rfl) (Nat.le_of_ble_eq_true rfl) (fun hPc hDc => k_runV (As := [.int x_this_plan_kinds]) (rest := []) C0 hZ hS hA (s_X5_newName l dC dI cy sq a_this a_this_text g_this_text x_this_length v6 v7 v8 x_this_allowed a_this_plan x_this_plan_cycle x_this_plan_green x_this_plan_rule x_this_plan_least x_this_plan_away x_this_plan_statements x_this_plan_kinds a_this_plan_calm a_this_plan_pace a_this_plan_trusts x_this_plan_walkers a_this_plan_kindOf a_this_plan_comesAt a_this_plan_comers a_this_plan_names g_this_plan_names a_this_plan_code x_this_plan_size a_this_plan_spans x_this_fault x_this_place x_this_plan_kinds hg_this_text (ib_w 0 1600 hx_this_length rfl) (ib_w 0 1600 h9 rfl) (ib_w 0 1600 h10 rfl) (ib_w 0 4 h11 rfl) (ib_w 0 6 h3 rfl) (ib_w 0 12 hx_this_plan_walkers rfl) (fun hq9 => ib_w 0 1599 (h12 hq9) rfl) (ib_w 0 17 h3 rfl)) mV_X5_124 hPc hDc rfl rfl rfl hl rfl rfl (Nat.le_of_ble_eq_true rfl) ⟨(Nat.le_of_ble_eq_true rfl), (Nat.le_of_ble_eq_true rfl)⟩ ⟨(Nat.le_of_ble_eq_true rfl), (Nat.le_of_ble_eq_true rfl)⟩ dX5_kindStatement_34) (fun u15 H locs hw hP hD hS => ?_)
      obtain ⟨v16, v17, v18, v19, v20, f21⟩ := u15
      try dsimp only at hP hD hw
      replace hP : va_P (dC, dI) vwCl [(wi_0_6_0 a_this_plan_calm cy g_this_plan_calm), (wi_0_6_0 a_this_plan_pace cy g_this_plan_pace), (wi_0_6_0 a_this_plan_trusts cy g_this_plan_trusts), (wo_5_riiiiirii a_this a_this_text x_this_length v16 v17 v18 x_this_allowed a_this_plan v19 v20), (wi_0_1600_0 a_this_text cy g_this_text), (wo_4_iiiiiiirrrirrrrrir a_this_plan x_this_plan_cycle x_this_plan_green x_this_plan_rule x_this_plan_least x_this_plan_away x_this_plan_statements x_this_plan_kinds a_this_plan_calm a_this_plan_pace a_this_plan_trusts x_this_plan_walkers a_this_plan_kindOf a_this_plan_comesAt a_this_plan_comers a_this_plan_names a_this_plan_code x_this_plan_size a_this_plan_spans), (wi_0_108_0 a_this_plan_names cy f21)] H := hP
      replace hD := k_D hP hD
      obtain ⟨h22, h23, h24, h25, h26⟩ := hw
      replace hq := lf_p1 hq h26
      replace hq := lf_p1 hq rfl
      replace hq := lf_p1 hq rfl
      replace hq := lf_p1 hq rfl
      replace hq := lf_p1 hq rfl
      refine lv_aload_n hx hb dX5_kindStatement_37 rfl (lv_at hl 1 rfl) ?_
      refine k_get C0 fg_X5_37 hP 3 rfl rfl dX5_kindStatement_38 ?_
      refine k_get C0 fg_X5_127 hP 5 rfl rfl dX5_kindStatement_41 ?_
      as_aux_lemma =>
        refine lv_iload_n hx hb dX5_kindStatement_44 rfl (lv_at hl 0 rfl) ?_
        refine lv_aload_n hx hb dX5_kindStatement_45 rfl (lv_at hl 1 rfl) ?_
        refine va_ldcS hx hb C0.2.2.2.1 (C0.2.2.2.2.2.2.2.2.2.2.2.2 7 (by decide)) dX5_kindStatement_46 ?_
        refine lv_iconst (v := 0) hx hb dX5_kindStatement_48 rfl ?_
        refine lv_bipush (v := 99) hx hb dX5_kindStatement_49 rfl ?_
        refine k_jim hP hD hS hA [3, 4] [true, true, true, false, false, true, true] rfl rfl rfl 0 0 (Nat.le_of_ble_eq_true rfl) (Nat.le_of_ble_eq_true rfl) (fun hPc hDc => k_runV (As := [.ref (sq 7), .int 0, .int 99]) (rest := [.int x_this_plan_kinds, .ref a_this_plan_calm]) C0 hZ hS hA (s_X5_numberBehind_a1_0_a2_99_s7 l dC dI cy sq a_this a_this_text g_this_text x_this_length v16 v17 v18 x_this_allowed a_this_plan v19 v20 hg_this_text (ib_w 0 1600 hx_this_length rfl) (ib_w 0 1600 h22 rfl) (ib_w 0 1600 h23 rfl) (ib_w 0 4 h24 rfl) (fun hq9 => ib_w 0 1599 (h25 hq9) rfl)) mV_X5_70 hPc hDc rfl rfl rfl hl rfl rfl (Nat.le_of_ble_eq_true rfl) ⟨(Nat.le_of_ble_eq_true rfl), (Nat.le_of_ble_eq_true rfl)⟩ ⟨(Nat.le_of_ble_eq_true rfl), (Nat.le_of_ble_eq_true rfl)⟩ dX5_kindStatement_51) (fun r27 u28 H locs hw hP hD hS => ?_)
        obtain ⟨v29, v30, v31, v32, v33⟩ := u28
        try dsimp only at hP hD hw
        replace hP : va_P (dC, dI) vwCl [(wi_0_6_0 a_this_plan_calm cy g_this_plan_calm), (wi_0_6_0 a_this_plan_pace cy g_this_plan_pace), (wi_0_6_0 a_this_plan_trusts cy g_this_plan_trusts), (wo_4_iiiiiiirrrirrrrrir a_this_plan x_this_plan_cycle x_this_plan_green x_this_plan_rule x_this_plan_least x_this_plan_away x_this_plan_statements x_this_plan_kinds a_this_plan_calm a_this_plan_pace a_this_plan_trusts x_this_plan_walkers a_this_plan_kindOf a_this_plan_comesAt a_this_plan_comers a_this_plan_names a_this_plan_code x_this_plan_size a_this_plan_spans), (wi_0_108_0 a_this_plan_names cy f21), (wo_5_riiiiirii a_this a_this_text x_this_length v29 v30 v31 x_this_allowed a_this_plan v32 v33), (wi_0_1600_0 a_this_text cy g_this_text)] H := hP
        replace hD := k_D hP hD
        obtain ⟨h34, h35, h36, h37, h38, h39⟩ := hw
        replace hq := lf_p1 hq h39
        replace hq := lf_p1 hq rfl
        replace hq := lf_p1 hq rfl
        replace hq := lf_p1 hq rfl
        replace hq := lf_p1 hq rfl
        refine va_iast hx hb C0.2.2.2.2.2.1 hP hD hS 0 0 rfl rfl (ib_in 6 h3 rfl) dX5_kindStatement_54 (fun H locs hP hD hS => ?_)
        replace hP : va_P (dC, dI) vwCl [(wi_0_6_0 a_this_plan_calm cy (upd g_this_plan_calm (Int32.toNatClampNeg x_this_plan_kinds) r27)), (wi_0_6_0 a_this_plan_pace cy g_this_plan_pace), (wi_0_6_0 a_this_plan_trusts cy g_this_plan_trusts), (wo_4_iiiiiiirrrirrrrrir a_this_plan x_this_plan_cycle x_this_plan_green x_this_plan_rule x_this_plan_least x_this_plan_away x_this_plan_statements x_this_plan_kinds a_this_plan_calm a_this_plan_pace a_this_plan_trusts x_this_plan_walkers a_this_plan_kindOf a_this_plan_comesAt a_this_plan_comers a_this_plan_names a_this_plan_code x_this_plan_size a_this_plan_spans), (wi_0_108_0 a_this_plan_names cy f21), (wo_5_riiiiirii a_this a_this_text x_this_length v29 v30 v31 x_this_allowed a_this_plan v32 v33), (wi_0_1600_0 a_this_text cy g_this_text)] H := hP
        replace hD := k_D hP hD
        generalize ef40 : upd g_this_plan_calm (Int32.toNatClampNeg x_this_plan_kinds) r27 = f40 at hP hD
        have Ef40 := lf_st ef40 (lf_ra g_this_plan_calm) (lf_rf x_this_plan_kinds) (lf_rf r27)
        refine lv_aload_n hx hb dX5_kindStatement_55 rfl (lv_at hl 1 rfl) ?_
        refine k_get C0 fg_X5_37 hP 5 rfl rfl dX5_kindStatement_56 ?_
        refine k_get C0 fg_X5_131 hP 3 rfl rfl dX5_kindStatement_59 ?_
        refine lv_iload_n hx hb dX5_kindStatement_62 rfl (lv_at hl 0 rfl) ?_
        refine lv_aload_n hx hb dX5_kindStatement_63 rfl (lv_at hl 1 rfl) ?_
        refine va_ldcS hx hb C0.2.2.2.1 (C0.2.2.2.2.2.2.2.2.2.2.2.2 8 (by decide)) dX5_kindStatement_64 ?_
        refine lv_iconst (v := 1) hx hb dX5_kindStatement_66 rfl ?_
        refine lv_bipush (v := 20) hx hb dX5_kindStatement_67 rfl ?_
        refine k_jim hP hD hS hA [5, 6] [true, true, true, true, true] rfl rfl rfl 0 0 (Nat.le_of_ble_eq_true rfl) (Nat.le_of_ble_eq_true rfl) (fun hPc hDc => k_runV (As := [.ref (sq 8), .int 1, .int 20]) (rest := [.int x_this_plan_kinds, .ref a_this_plan_pace]) C0 hZ hS hA (s_X5_numberBehind_a1_1_a2_20_s8 l dC dI cy sq a_this a_this_text g_this_text x_this_length v29 v30 v31 x_this_allowed a_this_plan v32 v33 hg_this_text (ib_w 0 1600 hx_this_length rfl) (ib_w 0 1600 h35 rfl) (ib_w 0 1600 h36 rfl) (ib_w 0 4 h37 rfl) (fun hq9 => ib_w 0 1599 (h38 hq9) rfl)) mV_X5_70 hPc hDc rfl rfl rfl hl rfl rfl (Nat.le_of_ble_eq_true rfl) ⟨(Nat.le_of_ble_eq_true rfl), (Nat.le_of_ble_eq_true rfl)⟩ ⟨(Nat.le_of_ble_eq_true rfl), (Nat.le_of_ble_eq_true rfl)⟩ dX5_kindStatement_69) (fun r41 u42 H locs hw hP hD hS => ?_)
        as_aux_lemma =>
          obtain ⟨v43, v44, v45, v46, v47⟩ := u42
          try dsimp only at hP hD hw
          replace hP : va_P (dC, dI) vwCl [(wi_0_6_0 a_this_plan_calm cy f40), (wi_0_6_0 a_this_plan_pace cy g_this_plan_pace), (wi_0_6_0 a_this_plan_trusts cy g_this_plan_trusts), (wo_4_iiiiiiirrrirrrrrir a_this_plan x_this_plan_cycle x_this_plan_green x_this_plan_rule x_this_plan_least x_this_plan_away x_this_plan_statements x_this_plan_kinds a_this_plan_calm a_this_plan_pace a_this_plan_trusts x_this_plan_walkers a_this_plan_kindOf a_this_plan_comesAt a_this_plan_comers a_this_plan_names a_this_plan_code x_this_plan_size a_this_plan_spans), (wi_0_108_0 a_this_plan_names cy f21), (wo_5_riiiiirii a_this a_this_text x_this_length v43 v44 v45 x_this_allowed a_this_plan v46 v47), (wi_0_1600_0 a_this_text cy g_this_text)] H := hP
          replace hD := k_D hP hD
          obtain ⟨h48, h49, h50, h51, h52, h53⟩ := hw
          replace hq := lf_p1 hq h53
          replace hq := lf_p1 hq rfl
          replace hq := lf_p1 hq rfl
          replace hq := lf_p1 hq rfl
          replace hq := lf_p1 hq rfl
          refine va_iast hx hb C0.2.2.2.2.2.1 hP hD hS 1 0 rfl rfl (ib_in 6 h3 rfl) dX5_kindStatement_72 (fun H locs hP hD hS => ?_)
          replace hP : va_P (dC, dI) vwCl [(wi_0_6_0 a_this_plan_calm cy f40), (wi_0_6_0 a_this_plan_pace cy (upd g_this_plan_pace (Int32.toNatClampNeg x_this_plan_kinds) r41)), (wi_0_6_0 a_this_plan_trusts cy g_this_plan_trusts), (wo_4_iiiiiiirrrirrrrrir a_this_plan x_this_plan_cycle x_this_plan_green x_this_plan_rule x_this_plan_least x_this_plan_away x_this_plan_statements x_this_plan_kinds a_this_plan_calm a_this_plan_pace a_this_plan_trusts x_this_plan_walkers a_this_plan_kindOf a_this_plan_comesAt a_this_plan_comers a_this_plan_names a_this_plan_code x_this_plan_size a_this_plan_spans), (wi_0_108_0 a_this_plan_names cy f21), (wo_5_riiiiirii a_this a_this_text x_this_length v43 v44 v45 x_this_allowed a_this_plan v46 v47), (wi_0_1600_0 a_this_text cy g_this_text)] H := hP
          replace hD := k_D hP hD
          generalize ef54 : upd g_this_plan_pace (Int32.toNatClampNeg x_this_plan_kinds) r41 = f54 at hP hD
          have Ef54 := lf_st ef54 (lf_ra g_this_plan_pace) (lf_rf x_this_plan_kinds) (lf_rf r41)
          refine lv_aload_n hx hb dX5_kindStatement_73 rfl (lv_at hl 1 rfl) ?_
          refine k_get C0 fg_X5_37 hP 5 rfl rfl dX5_kindStatement_74 ?_
          refine k_get C0 fg_X5_135 hP 3 rfl rfl dX5_kindStatement_77 ?_
          refine lv_iload_n hx hb dX5_kindStatement_80 rfl (lv_at hl 0 rfl) ?_
          refine lv_aload_n hx hb dX5_kindStatement_81 rfl (lv_at hl 1 rfl) ?_
          refine va_ldcS hx hb C0.2.2.2.1 (C0.2.2.2.2.2.2.2.2.2.2.2.2 9 (by decide)) dX5_kindStatement_82 ?_
          refine lv_iconst (v := 0) hx hb dX5_kindStatement_84 rfl ?_
          refine lv_bipush (v := 9) hx hb dX5_kindStatement_85 rfl ?_
          refine k_jim hP hD hS hA [5, 6] [true, true, true, true, true] rfl rfl rfl 0 0 (Nat.le_of_ble_eq_true rfl) (Nat.le_of_ble_eq_true rfl) (fun hPc hDc => k_runV (As := [.ref (sq 9), .int 0, .int 9]) (rest := [.int x_this_plan_kinds, .ref a_this_plan_trusts]) C0 hZ hS hA (s_X5_numberBehind_a1_0_a2_9_s9 l dC dI cy sq a_this a_this_text g_this_text x_this_length v43 v44 v45 x_this_allowed a_this_plan v46 v47 hg_this_text (ib_w 0 1600 hx_this_length rfl) (ib_w 0 1600 h49 rfl) (ib_w 0 1600 h50 rfl) (ib_w 0 4 h51 rfl) (fun hq9 => ib_w 0 1599 (h52 hq9) rfl)) mV_X5_70 hPc hDc rfl rfl rfl hl rfl rfl (Nat.le_of_ble_eq_true rfl) ⟨(Nat.le_of_ble_eq_true rfl), (Nat.le_of_ble_eq_true rfl)⟩ ⟨(Nat.le_of_ble_eq_true rfl), (Nat.le_of_ble_eq_true rfl)⟩ dX5_kindStatement_87) (fun r55 u56 H locs hw hP hD hS => ?_)
          obtain ⟨v57, v58, v59, v60, v61⟩ := u56
          try dsimp only at hP hD hw
          replace hP : va_P (dC, dI) vwCl [(wi_0_6_0 a_this_plan_calm cy f40), (wi_0_6_0 a_this_plan_pace cy f54), (wi_0_6_0 a_this_plan_trusts cy g_this_plan_trusts), (wo_4_iiiiiiirrrirrrrrir a_this_plan x_this_plan_cycle x_this_plan_green x_this_plan_rule x_this_plan_least x_this_plan_away x_this_plan_statements x_this_plan_kinds a_this_plan_calm a_this_plan_pace a_this_plan_trusts x_this_plan_walkers a_this_plan_kindOf a_this_plan_comesAt a_this_plan_comers a_this_plan_names a_this_plan_code x_this_plan_size a_this_plan_spans), (wi_0_108_0 a_this_plan_names cy f21), (wo_5_riiiiirii a_this a_this_text x_this_length v57 v58 v59 x_this_allowed a_this_plan v60 v61), (wi_0_1600_0 a_this_text cy g_this_text)] H := hP
          replace hD := k_D hP hD
          obtain ⟨h62, h63, h64, h65, h66, h67⟩ := hw
          replace hq := lf_p1 hq h67
          as_aux_lemma =>
            replace hq := lf_p1 hq rfl
            replace hq := lf_p1 hq rfl
            replace hq := lf_p1 hq rfl
            replace hq := lf_p1 hq rfl
            refine va_iast hx hb C0.2.2.2.2.2.1 hP hD hS 2 0 rfl rfl (ib_in 6 h3 rfl) dX5_kindStatement_90 (fun H locs hP hD hS => ?_)
            replace hP : va_P (dC, dI) vwCl [(wi_0_6_0 a_this_plan_calm cy f40), (wi_0_6_0 a_this_plan_pace cy f54), (wi_0_6_0 a_this_plan_trusts cy (upd g_this_plan_trusts (Int32.toNatClampNeg x_this_plan_kinds) r55)), (wo_4_iiiiiiirrrirrrrrir a_this_plan x_this_plan_cycle x_this_plan_green x_this_plan_rule x_this_plan_least x_this_plan_away x_this_plan_statements x_this_plan_kinds a_this_plan_calm a_this_plan_pace a_this_plan_trusts x_this_plan_walkers a_this_plan_kindOf a_this_plan_comesAt a_this_plan_comers a_this_plan_names a_this_plan_code x_this_plan_size a_this_plan_spans), (wi_0_108_0 a_this_plan_names cy f21), (wo_5_riiiiirii a_this a_this_text x_this_length v57 v58 v59 x_this_allowed a_this_plan v60 v61), (wi_0_1600_0 a_this_text cy g_this_text)] H := hP
            replace hD := k_D hP hD
            generalize ef68 : upd g_this_plan_trusts (Int32.toNatClampNeg x_this_plan_kinds) r55 = f68 at hP hD
            have Ef68 := lf_st ef68 (lf_ra g_this_plan_trusts) (lf_rf x_this_plan_kinds) (lf_rf r55)
            refine lv_aload_n hx hb dX5_kindStatement_91 rfl (lv_at hl 1 rfl) ?_
            refine k_get C0 fg_X5_37 hP 5 rfl rfl dX5_kindStatement_92 ?_
            refine lv_dup hx hb dX5_kindStatement_95 rfl ?_
            refine k_get C0 fg_X5_121 hP 3 rfl rfl dX5_kindStatement_96 ?_
            refine lv_iconst (v := 1) hx hb dX5_kindStatement_99 rfl ?_
            refine lv_iadd hx hb dX5_kindStatement_100 ?_
            refine lv_topi (fun z69 ez69 => ?_)
            have h70 := ib_add h3 (ib_c 1 1 1 rfl) rfl
            rw [← ez69] at h70
            have h71 : ib z69 1 6 := ib_w 1 6 h70.1 rfl
            have Ez69 := lf_add h70.2 (lf_rf x_this_plan_kinds) (lf_lc 1 (1 : Int) rfl)
            refine k_put C0 fp_X5_121 hP hD hS 3 rfl rfl rfl (Nat.le_of_ble_eq_true rfl) dX5_kindStatement_101 (fun H locs hP hD hS => ?_)
            replace hP : va_P (dC, dI) vwCl [(wi_0_6_0 a_this_plan_calm cy f40), (wi_0_6_0 a_this_plan_pace cy f54), (wi_0_6_0 a_this_plan_trusts cy f68), (wo_4_iiiiiiirrrirrrrrir a_this_plan x_this_plan_cycle x_this_plan_green x_this_plan_rule x_this_plan_least x_this_plan_away x_this_plan_statements z69 a_this_plan_calm a_this_plan_pace a_this_plan_trusts x_this_plan_walkers a_this_plan_kindOf a_this_plan_comesAt a_this_plan_comers a_this_plan_names a_this_plan_code x_this_plan_size a_this_plan_spans), (wi_0_108_0 a_this_plan_names cy f21), (wo_5_riiiiirii a_this a_this_text x_this_length v57 v58 v59 x_this_allowed a_this_plan v60 v61), (wi_0_1600_0 a_this_text cy g_this_text)] H := hP
            replace hD := k_D hP hD
            subst hQ; exact k_vret hx hb hr hlk ((v57, v58, v59, v60, v61, z69, f21, f40, f54, f68)) hS ⟨ib_w 0 1600 h63 rfl, ib_w 0 1600 h64 rfl, ib_w 0 4 h65 rfl, ib_w 1 6 h71 rfl, fun hq9 => ib_w 0 1599 (h66 hq9) rfl, (hO.symm.trans (by rw [lf_u Ez69]; rw [lf_ua Ef40]; rw [lf_ua Ef54]; rw [lf_ua Ef68]; exact hq))⟩ (hP.sub [5, 3, 6, 4, 0, 1, 2] rfl) (hD.sub [5, 3, 6, 4, 0, 1, 2] rfl rfl) (Nat.le_of_ble_eq_true rfl) (Nat.le_of_ble_eq_true rfl) dX5_kindStatement_104
  · replace hq := lf_neg hq (lf_nlt (lf_rf x_this_plan_kinds) (lf_lc 6 (6 : Int) rfl) c1)
    have h72 := ib_nlt hx_this_plan_kinds (ib_c 6 6 6 rfl) c1
    have h73 : ib x_this_plan_kinds 6 6 := ib_w 6 6 h72.1 rfl
    refine lv_aload_n hx hb dX5_kindStatement_14 rfl (lv_at hl 1 rfl) ?_
    refine lv_iconst (v := 5) hx hb dX5_kindStatement_15 rfl ?_
    refine lv_aload_n hx hb dX5_kindStatement_16 rfl (lv_at hl 1 rfl) ?_
    refine k_get C0 fg_X5_15 hP 0 rfl rfl dX5_kindStatement_17 ?_
    refine k_jvm hP hD hS hA [0] [false, true, true, true, true, true, true] rfl rfl rfl 0 0 (Nat.le_of_ble_eq_true rfl) (Nat.le_of_ble_eq_true rfl) (fun hPc hDc => k_runV (As := [.int 5, .int x_this_at]) (rest := []) C0 hZ hS hA (s_X5_fail l dC dI cy sq a_this a_this_text x_this_length x_this_at x_this_behind x_this_sort x_this_allowed a_this_plan x_this_fault x_this_place 5 x_this_at ) mV_X5_78 hPc hDc rfl rfl rfl hl rfl rfl (Nat.le_of_ble_eq_true rfl) ⟨(Nat.le_of_ble_eq_true rfl), (Nat.le_of_ble_eq_true rfl)⟩ ⟨(Nat.le_of_ble_eq_true rfl), (Nat.le_of_ble_eq_true rfl)⟩ dX5_kindStatement_20) (fun u75 H locs hw hP hD hS => ?_)
    obtain ⟨v76, v77⟩ := u75
    try dsimp only at hP hD hw
    replace hP : va_P (dC, dI) vwCl [(wo_4_iiiiiiirrrirrrrrir a_this_plan x_this_plan_cycle x_this_plan_green x_this_plan_rule x_this_plan_least x_this_plan_away x_this_plan_statements x_this_plan_kinds a_this_plan_calm a_this_plan_pace a_this_plan_trusts x_this_plan_walkers a_this_plan_kindOf a_this_plan_comesAt a_this_plan_comers a_this_plan_names a_this_plan_code x_this_plan_size a_this_plan_spans), (wi_0_1600_0 a_this_text cy g_this_text), (wi_0_108_0 a_this_plan_names cy g_this_plan_names), (wi_0_6_0 a_this_plan_calm cy g_this_plan_calm), (wi_0_6_0 a_this_plan_pace cy g_this_plan_pace), (wi_0_6_0 a_this_plan_trusts cy g_this_plan_trusts), (wo_5_riiiiirii a_this a_this_text x_this_length x_this_length x_this_length 0 x_this_allowed a_this_plan v76 v77)] H := hP
    replace hD := k_D hP hD
    have h78 := hw
    have h78 := by have h9 := h78; try simp only [show (5 : Int32).toInt = (5 : Int) from rfl] at h9; exact h9
    replace hq := lf_p1 hq h78
    subst hQ; exact k_vret hx hb hr hlk ((x_this_length, x_this_length, 0, v76, v77, x_this_plan_kinds, g_this_plan_names, g_this_plan_calm, g_this_plan_pace, g_this_plan_trusts)) hS ⟨ib_w 0 1600 hx_this_length rfl, ib_w 0 1600 hx_this_length rfl, ib_w 0 4 (ib_c 0 0 0 rfl) rfl, ib_w 1 6 h73 rfl, fun hq9 => absurd rfl hq9, (hO.symm.trans (by try simp only [show (0 : Int32).toInt = (0 : Int) from rfl]; exact hq))⟩ (hP.sub [6, 0, 1, 2, 3, 4, 5] rfl) (hD.sub [6, 0, 1, 2, 3, 4, 5] rfl rfl) (Nat.le_of_ble_eq_true rfl) (Nat.le_of_ble_eq_true rfl) dX5_kindStatement_23
set_option maxHeartbeats 4000000 in
set_option maxRecDepth 100000 in
theorem s_X5_number (l : Launch) (dC : Nat → ClassId) (dI : Nat → Nat → Nat) (cy : Nat → ClassId) (sq : Nat → Nat) (a_this : Nat) (a_this_text : Nat) (g_this_text : Nat → Int32) (x_this_length : Int32) (x_this_at : Int32) (x_this_behind : Int32) (x_this_sort : Int32) (x_this_allowed : Int32) (a_this_plan : Nat) (x_this_fault : Int32) (x_this_place : Int32) (p0 : Int32) (p1 : Int32) (hg_this_text : ia g_this_text 1600 0 255) (hx_this_length : ib x_this_length 0 1600) (hx_this_at : ib x_this_at 0 1600) (hx_this_behind : ib x_this_behind 0 1600) (hx_this_sort : ib x_this_sort 0 4) (hc0_this : ¬ x_this_sort = 0 → ib x_this_at 0 1599) : k_Met l yX5_number cX5_number 5 (some .int) { frames := 2, cells := 0, slots := 0, locals := 43 } dC dI cy sq [.ref a_this, .int p0, .int p1] [(wo_5_riiiiirii a_this a_this_text x_this_length x_this_at x_this_behind x_this_sort x_this_allowed a_this_plan x_this_fault x_this_place), (wi_0_1600_0 a_this_text cy g_this_text)] (k_Qi dC dI (fun (r : Int32) (u : Int32 × Int32 × Int32 × Int32 × Int32) => match u with | (n0, n1, n2, n3, n4) => ib n0 0 1600 ∧ ib n1 0 1600 ∧ ib n2 0 4 ∧ (¬ n2 = 0 → ib n0 0 1599) ∧ (F_X5_number (lf_A g_this_text) (Int32.toInt x_this_length) (Int32.toInt x_this_at) (Int32.toInt x_this_behind) (Int32.toInt x_this_sort) (Int32.toInt x_this_fault) (Int32.toInt x_this_place) (Int32.toInt p0) (Int32.toInt p1) = ((Int32.toInt r), (Int32.toInt n0), (Int32.toInt n1), (Int32.toInt n2), (Int32.toInt n3), (Int32.toInt n4)))) (fun u : Int32 × Int32 × Int32 × Int32 × Int32 => match u with | (n0, n1, n2, n3, n4) => [(wo_5_riiiiirii a_this a_this_text x_this_length n0 n1 n2 x_this_allowed a_this_plan n3 n4), (wi_0_1600_0 a_this_text cy g_this_text)])) := by
  refine k_ofW2 (by decide +kernel) (Nat.le_of_ble_eq_true rfl) ?_
  intro p e s m below meth c A ls H locs args Q hQ C0 hZ hr hlk hin hP hD hA hS hl
  have C0 : k_cx p s m args c cX5_number 5 RX5 dC dI cy sq := C0
  have hx := C0.1
  have hb := C0.2.1
  have hl : lv_has ls 5 [(0, .ref a_this), (1, .int p0), (2, .int p1)] := hl
  obtain ⟨O, hO⟩ : ∃ o, o = F_X5_number (lf_A g_this_text) (Int32.toInt x_this_length) (Int32.toInt x_this_at) (Int32.toInt x_this_behind) (Int32.toInt x_this_sort) (Int32.toInt x_this_fault) (Int32.toInt x_this_place) (Int32.toInt p0) (Int32.toInt p1) := ⟨_, rfl⟩
  have hq := hO
  unfold F_X5_number at hq
  have jn94 : ∀ (J94_l3 : Int32) (J94_l4 : Int32) (H : Heap) (locs : List Loc) (ls : Array Slot), ib x_this_at 0 1599 → ib x_this_sort 2 2 → ib J94_l4 0 1600 → (O = F_X5_number_94 (Int32.toInt x_this_length) (Int32.toInt x_this_at) (Int32.toInt x_this_fault) (Int32.toInt x_this_place) (Int32.toInt p0) (Int32.toInt J94_l3) (Int32.toInt J94_l4)) → va_P (dC, dI) vwCl [(wo_5_riiiiirii a_this a_this_text x_this_length x_this_at x_this_behind x_this_sort x_this_allowed a_this_plan x_this_fault x_this_place), (wi_0_1600_0 a_this_text cy g_this_text)] H → va_D A [(wo_5_riiiiirii a_this a_this_text x_this_length x_this_at x_this_behind x_this_sort x_this_allowed a_this_plan x_this_fault x_this_place), (wi_0_1600_0 a_this_text cy g_this_text)] → va_S A s.heap H locs → lv_has ls 5 [(0, .ref a_this), (1, .int p0), (2, .int p1), (3, .int J94_l3), (4, .int J94_l4)] → W p l e { frames := 2, cells := 0, slots := 0, locals := 43 } s m args below meth c H locs 0 0 Q (F0 m 94 ls []) := by
    intro J94_l3 J94_l4 H locs ls hK94_x_this_at hK94_x_this_sort hJ94_l4 hq hP hD hS hl
    unfold F_X5_number_94 at hq
    refine lv_aload_n hx hb dX5_number_94 rfl (lv_at hl 0 rfl) ?_
    refine lv_iconst (v := 2) hx hb dX5_number_95 rfl ?_
    refine lv_aload_n hx hb dX5_number_96 rfl (lv_at hl 0 rfl) ?_
    refine k_get C0 fg_X5_15 hP 0 rfl rfl dX5_number_97 ?_
    refine k_jvm hP hD hS hA [0] [false, true] rfl rfl rfl 0 0 (Nat.le_of_ble_eq_true rfl) (Nat.le_of_ble_eq_true rfl) (fun hPc hDc => k_runV (As := [.int 2, .int x_this_at]) (rest := []) C0 hZ hS hA (s_X5_fail l dC dI cy sq a_this a_this_text x_this_length x_this_at x_this_behind x_this_sort x_this_allowed a_this_plan x_this_fault x_this_place 2 x_this_at ) mV_X5_78 hPc hDc rfl rfl rfl hl rfl rfl (Nat.le_of_ble_eq_true rfl) ⟨(Nat.le_of_ble_eq_true rfl), (Nat.le_of_ble_eq_true rfl)⟩ ⟨(Nat.le_of_ble_eq_true rfl), (Nat.le_of_ble_eq_true rfl)⟩ dX5_number_100) (fun u2 H locs hw hP hD hS => ?_)
    obtain ⟨v3, v4⟩ := u2
    try dsimp only at hP hD hw
    replace hP : va_P (dC, dI) vwCl [(wi_0_1600_0 a_this_text cy g_this_text), (wo_5_riiiiirii a_this a_this_text x_this_length x_this_length x_this_length 0 x_this_allowed a_this_plan v3 v4)] H := hP
    replace hD := k_D hP hD
    have h5 := hw
    have h5 := by have h9 := h5; try simp only [show (2 : Int32).toInt = (2 : Int) from rfl] at h9; exact h9
    replace hq := lf_p1 hq h5
    refine lv_iload_n hx hb dX5_number_103 rfl (lv_at hl 1 rfl) ?_
    subst hQ; exact k_iret hx hb hr hlk rfl ((x_this_length, x_this_length, 0, v3, v4)) hS ⟨ib_w 0 1600 hx_this_length rfl, ib_w 0 1600 hx_this_length rfl, ib_w 0 4 (ib_c 0 0 0 rfl) rfl, fun hq9 => absurd rfl hq9, (hO.symm.trans (by try simp only [show (0 : Int32).toInt = (0 : Int) from rfl]; exact hq))⟩ (hP.sub [1, 0] rfl) (hD.sub [1, 0] rfl rfl) (Nat.le_of_ble_eq_true rfl) (Nat.le_of_ble_eq_true rfl) dX5_number_104
  have jn53 : ∀ (n : Nat) (J53_l3 : Int32) (J53_l4 : Int32) (H : Heap) (locs : List Loc) (ls : Array Slot), ib x_this_at 0 1599 → ib x_this_sort 2 2 → ib J53_l4 0 1600 → (O = F_X5_number_53 (lf_A g_this_text) (Int32.toInt x_this_length) (Int32.toInt x_this_at) (Int32.toInt x_this_behind) (Int32.toInt x_this_fault) (Int32.toInt x_this_place) (Int32.toInt p0) (Int32.toInt p1) n (Int32.toInt J53_l3) (Int32.toInt J53_l4)) → 1601 ≤ J53_l4.toInt + (n : Int) → va_P (dC, dI) vwCl [(wo_5_riiiiirii a_this a_this_text x_this_length x_this_at x_this_behind x_this_sort x_this_allowed a_this_plan x_this_fault x_this_place), (wi_0_1600_0 a_this_text cy g_this_text)] H → va_D A [(wo_5_riiiiirii a_this a_this_text x_this_length x_this_at x_this_behind x_this_sort x_this_allowed a_this_plan x_this_fault x_this_place), (wi_0_1600_0 a_this_text cy g_this_text)] → va_S A s.heap H locs → lv_has ls 5 [(0, .ref a_this), (1, .int p0), (2, .int p1), (3, .int J53_l3), (4, .int J53_l4)] → W p l e { frames := 2, cells := 0, slots := 0, locals := 43 } s m args below meth c H locs 0 0 Q (F0 m 53 ls []) := by
    as_aux_lemma =>
      intro n
      induction n with
      | zero =>
        intro J53_l3 J53_l4 H locs ls hK53_x_this_at hK53_x_this_sort hJ53_l4 hq hm
        exact absurd hm (by have := hJ53_l4; unfold ib at this; omega)
      | succ n ih =>
        intro J53_l3 J53_l4 H locs ls hK53_x_this_at hK53_x_this_sort hJ53_l4 hq hm53 hP hD hS hl
        have ih53 := ih
        obtain ⟨K53, hK53⟩ : ∃ K, K = F_X5_number_53 (lf_A g_this_text) (Int32.toInt x_this_length) (Int32.toInt x_this_at) (Int32.toInt x_this_behind) (Int32.toInt x_this_fault) (Int32.toInt x_this_place) (Int32.toInt p0) (Int32.toInt p1) n := ⟨_, rfl⟩
        have hq : O = F_X5_number_53b (lf_A g_this_text) (Int32.toInt x_this_length) (Int32.toInt x_this_at) (Int32.toInt x_this_behind) (Int32.toInt x_this_fault) (Int32.toInt x_this_place) (Int32.toInt p0) (Int32.toInt p1) K53 (Int32.toInt J53_l3) (Int32.toInt J53_l4) := by rw [hK53]; exact hq
        unfold F_X5_number_53b at hq
        refine lv_iload hx hb dX5_number_53 (lv_at hl 4 rfl) ?_
        refine lv_aload_n hx hb dX5_number_55 rfl (lv_at hl 0 rfl) ?_
        refine k_get C0 fg_X5_18 hP 0 rfl rfl dX5_number_56 ?_
        refine lv_icmp_ge (tgt := 84) hx hb dX5_number_59 rfl (fun c6 => ?_) (fun c6 => ?_)
        · as_aux_lemma =>
            replace hq := lf_pos hq (lf_le (lf_rf x_this_behind) (lf_rf J53_l4) c6)
            have h7 := ib_le hx_this_behind hJ53_l4 c6
            refine lv_iload_n hx hb dX5_number_84 rfl (lv_at hl 3 rfl) ?_
            refine lv_iload_n hx hb dX5_number_85 rfl (lv_at hl 1 rfl) ?_
            refine lv_icmp_lt (tgt := 94) hx hb dX5_number_86 rfl (fun c8 => ?_) (fun c8 => ?_)
            · replace hq := lf_pos hq (lf_lt (lf_rf J53_l3) (lf_rf p0) c8)
              have h9 := ib_lt (ib_any J53_l3) (ib_any p0) c8
              have h10 : ib J53_l3 (-2147483648) 2147483646 := ib_w (-2147483648) 2147483646 h9.1 rfl
              have h11 : ib p0 (-2147483647) 2147483647 := ib_w (-2147483647) 2147483647 h9.2 rfl
              exact jn94 J53_l3 J53_l4 H locs ls (ib_w 0 1599 hK53_x_this_at rfl) (ib_w 2 2 hK53_x_this_sort rfl) (ib_w 0 1600 hJ53_l4 rfl) (by exact hq) hP hD hS (lv_sub hl [0, 1, 2, 3, 4] rfl)
            · as_aux_lemma =>
                replace hq := lf_neg hq (lf_nlt (lf_rf J53_l3) (lf_rf p0) c8)
                have h12 := ib_nlt (ib_any J53_l3) (ib_any p0) c8
                refine lv_iload_n hx hb dX5_number_89 rfl (lv_at hl 3 rfl) ?_
                refine lv_iload_n hx hb dX5_number_90 rfl (lv_at hl 2 rfl) ?_
                refine lv_icmp_le (tgt := 105) hx hb dX5_number_91 rfl (fun c13 => ?_) (fun c13 => ?_)
                · replace hq := lf_pos hq (lf_le (lf_rf J53_l3) (lf_rf p1) c13)
                  have h14 := ib_le (ib_any J53_l3) (ib_any p1) c13
                  refine lv_aload_n hx hb dX5_number_105 rfl (lv_at hl 0 rfl) ?_
                  refine lv_aload_n hx hb dX5_number_106 rfl (lv_at hl 0 rfl) ?_
                  refine k_get C0 fg_X5_18 hP 0 rfl rfl dX5_number_107 ?_
                  refine k_jvm hP hD hS hA [0, 1] [] rfl rfl rfl 0 0 (Nat.le_of_ble_eq_true rfl) (Nat.le_of_ble_eq_true rfl) (fun hPc hDc => k_runV (As := [.int x_this_behind]) (rest := []) C0 hZ hS hA (s_X5_moveTo l dC dI cy sq a_this a_this_text g_this_text x_this_length x_this_at x_this_behind x_this_sort x_this_allowed a_this_plan x_this_fault x_this_place x_this_behind hg_this_text (ib_w 0 1600 hx_this_length rfl) (ib_w 0 1600 hx_this_behind rfl)) mV_X5_86 hPc hDc rfl rfl rfl hl rfl rfl (Nat.le_of_ble_eq_true rfl) ⟨(Nat.le_of_ble_eq_true rfl), (Nat.le_of_ble_eq_true rfl)⟩ ⟨(Nat.le_of_ble_eq_true rfl), (Nat.le_of_ble_eq_true rfl)⟩ dX5_number_110) (fun u16 H locs hw hP hD hS => ?_)
                  obtain ⟨v17, v18, v19⟩ := u16
                  try dsimp only at hP hD hw
                  replace hP : va_P (dC, dI) vwCl [(wo_5_riiiiirii a_this a_this_text x_this_length v17 v18 v19 x_this_allowed a_this_plan x_this_fault x_this_place), (wi_0_1600_0 a_this_text cy g_this_text)] H := hP
                  replace hD := k_D hP hD
                  obtain ⟨h20, h21, h22, h23, h24⟩ := hw
                  replace hq := lf_p1 hq h24
                  replace hq := lf_p1 hq rfl
                  refine lv_iload_n hx hb dX5_number_113 rfl (lv_at hl 3 rfl) ?_
                  subst hQ; exact k_iret hx hb hr hlk rfl ((v17, v18, v19, x_this_fault, x_this_place)) hS ⟨ib_w 0 1600 h20 rfl, ib_w 0 1600 h21 rfl, ib_w 0 4 h22 rfl, fun hq9 => ib_w 0 1599 (h23 hq9) rfl, (hO.symm.trans (by exact hq))⟩ hP hD (Nat.le_of_ble_eq_true rfl) (Nat.le_of_ble_eq_true rfl) dX5_number_114
                · replace hq := lf_neg hq (lf_nle (lf_rf J53_l3) (lf_rf p1) c13)
                  have h25 := ib_nle (ib_any J53_l3) (ib_any p1) c13
                  have h26 : ib J53_l3 (-2147483647) 2147483647 := ib_w (-2147483647) 2147483647 h25.1 rfl
                  have h27 : ib p1 (-2147483648) 2147483646 := ib_w (-2147483648) 2147483646 h25.2 rfl
                  exact jn94 J53_l3 J53_l4 H locs ls (ib_w 0 1599 hK53_x_this_at rfl) (ib_w 2 2 hK53_x_this_sort rfl) (ib_w 0 1600 hJ53_l4 rfl) (by exact hq) hP hD hS (lv_sub hl [0, 1, 2, 3, 4] rfl)
        · as_aux_lemma =>
            replace hq := lf_neg hq (lf_nle (lf_rf x_this_behind) (lf_rf J53_l4) c6)
            have h28 := ib_nle hx_this_behind hJ53_l4 c6
            have h29 : ib x_this_behind 1 1600 := ib_w 1 1600 h28.1 rfl
            have h30 : ib J53_l4 0 1599 := ib_w 0 1599 h28.2 rfl
            refine lv_iload_n hx hb dX5_number_62 rfl (lv_at hl 3 rfl) ?_
            refine lv_bipush (v := 10) hx hb dX5_number_63 rfl ?_
            refine lv_imul hx hb dX5_number_65 ?_
            refine lv_topi (fun z31 ez31 => ?_)
            have Ez31 := lf_op lf_imul ez31 (lf_rf J53_l3) (lf_lc 10 (10 : Int) rfl)
            refine lv_aload_n hx hb dX5_number_66 rfl (lv_at hl 0 rfl) ?_
            refine k_get C0 fg_X5_33 hP 0 rfl rfl dX5_number_67 ?_
            refine lv_iload hx hb dX5_number_70 (lv_at hl 4 rfl) ?_
            refine va_iald hx hb C0.2.2.2.2.2.1 hP 1 0 rfl rfl (ib_in 1600 h30 rfl) dX5_number_72 ?_
            refine lv_topi (fun z32 ez32 => ?_)
            have h33 : ib z32 0 255 := by rw [ez32]; exact ia_at hg_this_text (ib_in 1600 h30 rfl)
            have Ez32 := lf_ld ez32 (lf_ra g_this_text) (lf_rf J53_l4)
            refine lv_iadd hx hb dX5_number_73 ?_
            refine lv_topi (fun z34 ez34 => ?_)
            have Ez34 := lf_op lf_iadd ez34 Ez31 Ez32
            refine lv_bipush (v := 48) hx hb dX5_number_74 rfl ?_
            refine lv_isub hx hb dX5_number_76 ?_
            refine lv_topi (fun z35 ez35 => ?_)
            have Ez35 := lf_op lf_isub ez35 Ez34 (lf_lc 48 (48 : Int) rfl)
            refine lv_istore_n (lv' := [(3, .int z35), (0, .ref a_this), (1, .int p0), (2, .int p1), (4, .int J53_l4)]) hx hb dX5_number_77 rfl hl (Nat.le_of_ble_eq_true rfl) rfl (fun ls hl => ?_)
            obtain ⟨z36, ez36⟩ : ∃ y : Int32, y = J53_l4 + 1 := ⟨_, rfl⟩
            refine lv_iinc (v := z36) (lv' := [(4, .int z36), (3, .int z35), (0, .ref a_this), (1, .int p0), (2, .int p1)]) hx hb dX5_number_78 hl (k := 4) rfl (by rw [ez36]; rfl) (Nat.le_of_ble_eq_true rfl) rfl (fun ls hl => ?_)
            have h37 := ib_add h30 (ib_c 1 1 1 rfl) rfl
            rw [← ez36] at h37
            have h38 : ib z36 1 1600 := ib_w 1 1600 h37.1 rfl
            have Ez36 := lf_add h37.2 (lf_rf J53_l4) (lf_lc 1 (1 : Int) rfl)
            refine lv_goto (tgt := 53) hx hb dX5_number_81 rfl ?_
            exact ih53 z35 z36 H locs ls (ib_w 0 1599 hK53_x_this_at rfl) (ib_w 2 2 hK53_x_this_sort rfl) (ib_w 0 1600 h38 rfl) (by rw [← hK53]; rw [lf_u Ez35]; rw [lf_u Ez36]; exact hq) (by have := h37.2; have : (1 : Int32).toInt = 1 := rfl; omega) hP hD hS (lv_sub hl [2, 3, 4, 1, 0] rfl)
  refine lv_aload_n hx hb dX5_number_0 rfl (lv_at hl 0 rfl) ?_
  refine k_get C0 fg_X5_21 hP 0 rfl rfl dX5_number_1 ?_
  refine lv_iconst (v := 2) hx hb dX5_number_4 rfl ?_
  refine lv_icmp_eq (tgt := 19) hx hb dX5_number_5 rfl (fun c39 => ?_) (fun c39 => ?_)
  · as_aux_lemma =>
      replace hq := lf_pos hq (lf_eq (lf_rf x_this_sort) (lf_lc 2 (2 : Int) rfl) c39)
      have h40 := ib_eq hx_this_sort (ib_c 2 2 2 rfl) c39
      have h41 : ib x_this_sort 2 2 := ib_w 2 2 h40.1 rfl
      have h42 : ib x_this_at 0 1599 := ib_w 0 1599 (ib_two hx_this_at (hc0_this (ib_nz h41 rfl))) rfl
      refine lv_aload_n hx hb dX5_number_19 rfl (lv_at hl 0 rfl) ?_
      refine k_get C0 fg_X5_18 hP 0 rfl rfl dX5_number_20 ?_
      refine lv_aload_n hx hb dX5_number_23 rfl (lv_at hl 0 rfl) ?_
      refine k_get C0 fg_X5_15 hP 0 rfl rfl dX5_number_24 ?_
      refine lv_isub hx hb dX5_number_27 ?_
      refine lv_topi (fun z43 ez43 => ?_)
      have h44 := ib_sub hx_this_behind h42 rfl
      rw [← ez43] at h44
      have h45 : ib z43 (-1599) 1600 := ib_w (-1599) 1600 h44.1 rfl
      have Ez43 := lf_sub h44.2 (lf_rf x_this_behind) (lf_rf x_this_at)
      refine lv_iconst (v := 4) hx hb dX5_number_28 rfl ?_
      refine lv_icmp_le (tgt := 45) hx hb dX5_number_29 rfl (fun c46 => ?_) (fun c46 => ?_)
      · replace hq := lf_pos hq (lf_le Ez43 (lf_lc 4 (4 : Int) rfl) c46)
        have h47 := ib_le h45 (ib_c 4 4 4 rfl) c46
        have h48 : ib z43 (-1599) 4 := ib_w (-1599) 4 h47.1 rfl
        refine lv_iconst (v := 0) hx hb dX5_number_45 rfl ?_
        refine lv_istore_n (lv' := [(3, .int 0), (0, .ref a_this), (1, .int p0), (2, .int p1)]) hx hb dX5_number_46 rfl hl (Nat.le_of_ble_eq_true rfl) rfl (fun ls hl => ?_)
        refine lv_aload_n hx hb dX5_number_47 rfl (lv_at hl 1 rfl) ?_
        refine k_get C0 fg_X5_15 hP 0 rfl rfl dX5_number_48 ?_
        refine lv_istore (lv' := [(4, .int x_this_at), (3, .int 0), (0, .ref a_this), (1, .int p0), (2, .int p1)]) hx hb dX5_number_51 hl (Nat.le_of_ble_eq_true rfl) rfl (fun ls hl => ?_)
        exact jn53 1602 0 x_this_at H locs ls (ib_w 0 1599 h42 rfl) (ib_w 2 2 h41 rfl) (ib_w 0 1600 h42 rfl) (by try simp only [show (0 : Int32).toInt = (0 : Int) from rfl]; exact hq) (by have := h42; unfold ib at this; omega) hP hD hS (lv_sub hl [2, 3, 4, 1, 0] rfl)
      · as_aux_lemma =>
          replace hq := lf_neg hq (lf_nle Ez43 (lf_lc 4 (4 : Int) rfl) c46)
          have h49 := ib_nle h45 (ib_c 4 4 4 rfl) c46
          have h50 : ib z43 5 1600 := ib_w 5 1600 h49.1 rfl
          refine lv_aload_n hx hb dX5_number_32 rfl (lv_at hl 0 rfl) ?_
          refine lv_iconst (v := 1) hx hb dX5_number_33 rfl ?_
          refine lv_aload_n hx hb dX5_number_34 rfl (lv_at hl 0 rfl) ?_
          refine k_get C0 fg_X5_15 hP 0 rfl rfl dX5_number_35 ?_
          refine lv_iconst (v := 4) hx hb dX5_number_38 rfl ?_
          refine lv_iadd hx hb dX5_number_39 ?_
          refine lv_topi (fun z51 ez51 => ?_)
          have h52 := ib_add h42 (ib_c 4 4 4 rfl) rfl
          rw [← ez51] at h52
          have h53 : ib z51 4 1603 := ib_w 4 1603 h52.1 rfl
          have Ez51 := lf_add h52.2 (lf_rf x_this_at) (lf_lc 4 (4 : Int) rfl)
          refine k_jvm hP hD hS hA [0] [false, true] rfl rfl rfl 0 0 (Nat.le_of_ble_eq_true rfl) (Nat.le_of_ble_eq_true rfl) (fun hPc hDc => k_runV (As := [.int 1, .int z51]) (rest := []) C0 hZ hS hA (s_X5_fail l dC dI cy sq a_this a_this_text x_this_length x_this_at x_this_behind x_this_sort x_this_allowed a_this_plan x_this_fault x_this_place 1 z51 ) mV_X5_78 hPc hDc rfl rfl rfl hl rfl rfl (Nat.le_of_ble_eq_true rfl) ⟨(Nat.le_of_ble_eq_true rfl), (Nat.le_of_ble_eq_true rfl)⟩ ⟨(Nat.le_of_ble_eq_true rfl), (Nat.le_of_ble_eq_true rfl)⟩ dX5_number_40) (fun u55 H locs hw hP hD hS => ?_)
          obtain ⟨v56, v57⟩ := u55
          try dsimp only at hP hD hw
          replace hP : va_P (dC, dI) vwCl [(wi_0_1600_0 a_this_text cy g_this_text), (wo_5_riiiiirii a_this a_this_text x_this_length x_this_length x_this_length 0 x_this_allowed a_this_plan v56 v57)] H := hP
          replace hD := k_D hP hD
          have h58 := hw
          have h58 := by have h9 := h58; try simp only [show (1 : Int32).toInt = (1 : Int) from rfl] at h9; rw [lf_u Ez51] at h9; exact h9
          replace hq := lf_p1 hq h58
          refine lv_iload_n hx hb dX5_number_43 rfl (lv_at hl 1 rfl) ?_
          subst hQ; exact k_iret hx hb hr hlk rfl ((x_this_length, x_this_length, 0, v56, v57)) hS ⟨ib_w 0 1600 hx_this_length rfl, ib_w 0 1600 hx_this_length rfl, ib_w 0 4 (ib_c 0 0 0 rfl) rfl, fun hq9 => absurd rfl hq9, (hO.symm.trans (by try simp only [show (0 : Int32).toInt = (0 : Int) from rfl]; exact hq))⟩ (hP.sub [1, 0] rfl) (hD.sub [1, 0] rfl rfl) (Nat.le_of_ble_eq_true rfl) (Nat.le_of_ble_eq_true rfl) dX5_number_44
  · replace hq := lf_neg hq (lf_ne (lf_rf x_this_sort) (lf_lc 2 (2 : Int) rfl) c39)
    refine lv_aload_n hx hb dX5_number_8 rfl (lv_at hl 0 rfl) ?_
    refine lv_iconst (v := 1) hx hb dX5_number_9 rfl ?_
    refine lv_aload_n hx hb dX5_number_10 rfl (lv_at hl 0 rfl) ?_
    refine k_get C0 fg_X5_15 hP 0 rfl rfl dX5_number_11 ?_
    refine k_jvm hP hD hS hA [0] [false, true] rfl rfl rfl 0 0 (Nat.le_of_ble_eq_true rfl) (Nat.le_of_ble_eq_true rfl) (fun hPc hDc => k_runV (As := [.int 1, .int x_this_at]) (rest := []) C0 hZ hS hA (s_X5_fail l dC dI cy sq a_this a_this_text x_this_length x_this_at x_this_behind x_this_sort x_this_allowed a_this_plan x_this_fault x_this_place 1 x_this_at ) mV_X5_78 hPc hDc rfl rfl rfl hl rfl rfl (Nat.le_of_ble_eq_true rfl) ⟨(Nat.le_of_ble_eq_true rfl), (Nat.le_of_ble_eq_true rfl)⟩ ⟨(Nat.le_of_ble_eq_true rfl), (Nat.le_of_ble_eq_true rfl)⟩ dX5_number_14) (fun u60 H locs hw hP hD hS => ?_)
    obtain ⟨v61, v62⟩ := u60
    try dsimp only at hP hD hw
    replace hP : va_P (dC, dI) vwCl [(wi_0_1600_0 a_this_text cy g_this_text), (wo_5_riiiiirii a_this a_this_text x_this_length x_this_length x_this_length 0 x_this_allowed a_this_plan v61 v62)] H := hP
    replace hD := k_D hP hD
    have h63 := hw
    have h63 := by have h9 := h63; try simp only [show (1 : Int32).toInt = (1 : Int) from rfl] at h9; exact h9
    replace hq := lf_p1 hq h63
    refine lv_iload_n hx hb dX5_number_17 rfl (lv_at hl 1 rfl) ?_
    subst hQ; exact k_iret hx hb hr hlk rfl ((x_this_length, x_this_length, 0, v61, v62)) hS ⟨ib_w 0 1600 hx_this_length rfl, ib_w 0 1600 hx_this_length rfl, ib_w 0 4 (ib_c 0 0 0 rfl) rfl, fun hq9 => absurd rfl hq9, (hO.symm.trans (by try simp only [show (0 : Int32).toInt = (0 : Int) from rfl]; exact hq))⟩ (hP.sub [1, 0] rfl) (hD.sub [1, 0] rfl rfl) (Nat.le_of_ble_eq_true rfl) (Nat.le_of_ble_eq_true rfl) dX5_number_18
set_option maxHeartbeats 4000000 in
set_option maxRecDepth 100000 in
theorem s_X5_wordIn_s0 (l : Launch) (dC : Nat → ClassId) (dI : Nat → Nat → Nat) (cy : Nat → ClassId) (sq : Nat → Nat) (a_this : Nat) (a_this_text : Nat) (g_this_text : Nat → Int32) (x_this_length : Int32) (x_this_at : Int32) (x_this_behind : Int32) (x_this_sort : Int32) (x_this_allowed : Int32) (a_this_plan : Nat) (x_this_fault : Int32) (x_this_place : Int32) (hg_this_text : ia g_this_text 1600 0 255) (hx_this_at : ib x_this_at 0 1600) (hx_this_behind : ib x_this_behind 0 1600) (hx_this_sort : ib x_this_sort 0 4) (hc0_this : ¬ x_this_sort = 0 → ib x_this_at 0 1599) : k_Met l yX5_wordIn cX5_wordIn 6 (some .int) { frames := 4, cells := 0, slots := 0, locals := 141 } dC dI cy sq [.ref a_this, .ref (sq 0)] [(wo_5_riiiiirii a_this a_this_text x_this_length x_this_at x_this_behind x_this_sort x_this_allowed a_this_plan x_this_fault x_this_place), (wi_0_1600_0 a_this_text cy g_this_text)] (k_Qi dC dI (fun (r : Int32) (_ : Unit) => (F_X5_wordIn_s0 (lf_A g_this_text) (Int32.toInt x_this_at) (Int32.toInt x_this_behind) (Int32.toInt x_this_sort) = ((Int32.toInt r)))) (fun _ : Unit => [(wo_5_riiiiirii a_this a_this_text x_this_length x_this_at x_this_behind x_this_sort x_this_allowed a_this_plan x_this_fault x_this_place), (wi_0_1600_0 a_this_text cy g_this_text)])) := by
  refine k_ofW2 (by decide +kernel) (Nat.le_of_ble_eq_true rfl) ?_
  intro p e s m below meth c A ls H locs args Q hQ C0 hZ hr hlk hin hP hD hA hS hl
  have C0 : k_cx p s m args c cX5_wordIn 6 RX5 dC dI cy sq := C0
  have hx := C0.1
  have hb := C0.2.1
  have hl : lv_has ls 6 [(0, .ref a_this), (1, .ref (sq 0))] := hl
  obtain ⟨O, hO⟩ : ∃ o, o = F_X5_wordIn_s0 (lf_A g_this_text) (Int32.toInt x_this_at) (Int32.toInt x_this_behind) (Int32.toInt x_this_sort) := ⟨_, rfl⟩
  have hq := hO
  unfold F_X5_wordIn_s0 at hq
  have jn23 : ∀ (n : Nat) (J23_l2 : Int32) (J23_l3 : Int32) (J23_l4 : Int32) (J23_l5 : Int32) (H : Heap) (locs : List Loc) (ls : Array Slot), ib x_this_at 0 1599 → ib x_this_sort 1 1 → ib J23_l3 0 1630 → ib J23_l4 0 1 → ib J23_l5 0 31 → (1 * J23_l3.toInt + (-1) * J23_l5.toInt ≤ 1600) → (O = F_X5_wordIn_s0_23 (lf_A g_this_text) (Int32.toInt x_this_at) (Int32.toInt x_this_behind) n (Int32.toInt J23_l2) (Int32.toInt J23_l3) (Int32.toInt J23_l4) (Int32.toInt J23_l5)) → 32 ≤ J23_l5.toInt + (n : Int) → va_P (dC, dI) vwCl [(wo_5_riiiiirii a_this a_this_text x_this_length x_this_at x_this_behind x_this_sort x_this_allowed a_this_plan x_this_fault x_this_place), (wi_0_1600_0 a_this_text cy g_this_text)] H → va_D A [(wo_5_riiiiirii a_this a_this_text x_this_length x_this_at x_this_behind x_this_sort x_this_allowed a_this_plan x_this_fault x_this_place), (wi_0_1600_0 a_this_text cy g_this_text)] → va_S A s.heap H locs → lv_has ls 6 [(0, .ref a_this), (1, .ref (sq 0)), (2, .int J23_l2), (3, .int J23_l3), (4, .int J23_l4), (5, .int J23_l5)] → W p l e { frames := 4, cells := 0, slots := 0, locals := 141 } s m args below meth c H locs 0 0 Q (F0 m 23 ls []) := by
    as_aux_lemma =>
      intro n
      induction n with
      | zero =>
        intro J23_l2 J23_l3 J23_l4 J23_l5 H locs ls hK23_x_this_at hK23_x_this_sort hJ23_l3 hJ23_l4 hJ23_l5 hJ23_lin0 hq hm
        exact absurd hm (by have := hJ23_l5; unfold ib at this; omega)
      | succ n ih =>
        intro J23_l2 J23_l3 J23_l4 J23_l5 H locs ls hK23_x_this_at hK23_x_this_sort hJ23_l3 hJ23_l4 hJ23_l5 hJ23_lin0 hq hm23 hP hD hS hl
        have ih23 := ih
        obtain ⟨K23, hK23⟩ : ∃ K, K = F_X5_wordIn_s0_23 (lf_A g_this_text) (Int32.toInt x_this_at) (Int32.toInt x_this_behind) n := ⟨_, rfl⟩
        have hq : O = F_X5_wordIn_s0_23b (lf_A g_this_text) (Int32.toInt x_this_at) (Int32.toInt x_this_behind) K23 (Int32.toInt J23_l2) (Int32.toInt J23_l3) (Int32.toInt J23_l4) (Int32.toInt J23_l5) := by rw [hK23]; exact hq
        unfold F_X5_wordIn_s0_23b at hq
        have jn119 : ∀ (J119_l2 : Int32) (J119_l3 : Int32) (J119_l4 : Int32) (H : Heap) (locs : List Loc) (ls : Array Slot), ib x_this_at 0 1599 → ib J23_l5 0 30 → ib x_this_sort 1 1 → ib J119_l3 0 1630 → ib J119_l4 0 1 → (1 * J119_l3.toInt + (-1) * J23_l5.toInt ≤ 1601) → (O = F_X5_wordIn_s0_119 (Int32.toInt J23_l5) K23 (Int32.toInt J119_l2) (Int32.toInt J119_l3) (Int32.toInt J119_l4)) → va_P (dC, dI) vwCl [(wo_5_riiiiirii a_this a_this_text x_this_length x_this_at x_this_behind x_this_sort x_this_allowed a_this_plan x_this_fault x_this_place), (wi_0_1600_0 a_this_text cy g_this_text)] H → va_D A [(wo_5_riiiiirii a_this a_this_text x_this_length x_this_at x_this_behind x_this_sort x_this_allowed a_this_plan x_this_fault x_this_place), (wi_0_1600_0 a_this_text cy g_this_text)] → va_S A s.heap H locs → lv_has ls 6 [(0, .ref a_this), (1, .ref (sq 0)), (2, .int J119_l2), (3, .int J119_l3), (4, .int J119_l4), (5, .int J23_l5)] → W p l e { frames := 4, cells := 0, slots := 0, locals := 141 } s m args below meth c H locs 0 0 Q (F0 m 119 ls []) := by
          intro J119_l2 J119_l3 J119_l4 H locs ls hK119_x_this_at hK119_J23_l5 hK119_x_this_sort hJ119_l3 hJ119_l4 hJ119_lin0 hq hP hD hS hl
          unfold F_X5_wordIn_s0_119 at hq
          obtain ⟨z1, ez1⟩ : ∃ y : Int32, y = J23_l5 + 1 := ⟨_, rfl⟩
          refine lv_iinc (v := z1) (lv' := [(5, .int z1), (0, .ref a_this), (1, .ref (sq 0)), (2, .int J119_l2), (3, .int J119_l3), (4, .int J119_l4)]) hx hb dX5_wordIn_119 hl (k := 5) rfl (by rw [ez1]; rfl) (Nat.le_of_ble_eq_true rfl) rfl (fun ls hl => ?_)
          have h2 := ib_add hK119_J23_l5 (ib_c 1 1 1 rfl) rfl
          rw [← ez1] at h2
          have h3 : ib z1 1 31 := ib_w 1 31 h2.1 rfl
          have Ez1 := lf_add h2.2 (lf_rf J23_l5) (lf_lc 1 (1 : Int) rfl)
          refine lv_goto (tgt := 23) hx hb dX5_wordIn_122 rfl ?_
          exact ih23 J119_l2 J119_l3 J119_l4 z1 H locs ls (ib_w 0 1599 hK119_x_this_at rfl) (ib_w 1 1 hK119_x_this_sort rfl) (ib_w 0 1630 hJ119_l3 rfl) (ib_w 0 1 hJ119_l4 rfl) (ib_w 0 31 h3 rfl) (by have := h2.2; have : (1 : Int32).toInt = 1 := rfl; have := hJ119_lin0; omega) (by rw [← hK23]; rw [lf_u Ez1]; exact hq) (by have := h2.2; have : (1 : Int32).toInt = 1 := rfl; omega) hP hD hS (lv_sub hl [1, 2, 3, 4, 5, 0] rfl)
        have jn114 : ∀ (J114_s0 : Int32) (H : Heap) (locs : List Loc) (ls : Array Slot), ib J23_l3 0 1629 → ib J23_l4 0 1 → ib J23_l5 0 29 → ib x_this_at 0 1599 → ib x_this_sort 1 1 → ib J114_s0 0 1 → (1 * J23_l3.toInt + (-1) * J23_l5.toInt ≤ 1600) → (O = F_X5_wordIn_s0_114 (Int32.toInt J23_l2) (Int32.toInt J23_l3) (Int32.toInt J23_l5) K23 (Int32.toInt J114_s0)) → va_P (dC, dI) vwCl [(wo_5_riiiiirii a_this a_this_text x_this_length x_this_at x_this_behind x_this_sort x_this_allowed a_this_plan x_this_fault x_this_place), (wi_0_1600_0 a_this_text cy g_this_text)] H → va_D A [(wo_5_riiiiirii a_this a_this_text x_this_length x_this_at x_this_behind x_this_sort x_this_allowed a_this_plan x_this_fault x_this_place), (wi_0_1600_0 a_this_text cy g_this_text)] → va_S A s.heap H locs → lv_has ls 6 [(0, .ref a_this), (1, .ref (sq 0)), (2, .int J23_l2), (3, .int J23_l3), (4, .int J23_l4), (5, .int J23_l5)] → W p l e { frames := 4, cells := 0, slots := 0, locals := 141 } s m args below meth c H locs 0 0 Q (F0 m 114 ls [.int J114_s0]) := by
          intro J114_s0 H locs ls hK114_J23_l3 hK114_J23_l4 hK114_J23_l5 hK114_x_this_at hK114_x_this_sort hJ114_s0 hJ114_lin0 hq hP hD hS hl
          unfold F_X5_wordIn_s0_114 at hq
          refine lv_istore (lv' := [(4, .int J114_s0), (0, .ref a_this), (1, .ref (sq 0)), (2, .int J23_l2), (3, .int J23_l3), (5, .int J23_l5)]) hx hb dX5_wordIn_114 hl (Nat.le_of_ble_eq_true rfl) rfl (fun ls hl => ?_)
          obtain ⟨z4, ez4⟩ : ∃ y : Int32, y = J23_l3 + 1 := ⟨_, rfl⟩
          refine lv_iinc (v := z4) (lv' := [(3, .int z4), (4, .int J114_s0), (0, .ref a_this), (1, .ref (sq 0)), (2, .int J23_l2), (5, .int J23_l5)]) hx hb dX5_wordIn_116 hl (k := 4) rfl (by rw [ez4]; rfl) (Nat.le_of_ble_eq_true rfl) rfl (fun ls hl => ?_)
          have h5 := ib_add hK114_J23_l3 (ib_c 1 1 1 rfl) rfl
          rw [← ez4] at h5
          have h6 : ib z4 1 1630 := ib_w 1 1630 h5.1 rfl
          have Ez4 := lf_add h5.2 (lf_rf J23_l3) (lf_lc 1 (1 : Int) rfl)
          exact jn119 J23_l2 z4 J114_s0 H locs ls (ib_w 0 1599 hK114_x_this_at rfl) (ib_w 0 30 hK114_J23_l5 rfl) (ib_w 1 1 hK114_x_this_sort rfl) (ib_w 0 1630 h6 rfl) (ib_w 0 1 hJ114_s0 rfl) (by have := (hK114_J23_l5).1; have := hJ23_lin0; have := (h6).2; have := h5.2; have : (1 : Int32).toInt = 1 := rfl; omega) (by rw [lf_u Ez4]; exact hq) hP hD hS (lv_sub hl [2, 3, 4, 0, 1, 5] rfl)
        have jn113 : ∀  (H : Heap) (locs : List Loc) (ls : Array Slot), ib J23_l3 0 1629 → ib J23_l4 0 1 → ib J23_l5 0 29 → ib x_this_at 0 1599 → ib x_this_sort 1 1 → (1 * J23_l3.toInt + (-1) * J23_l5.toInt ≤ 1600) → (O = F_X5_wordIn_s0_113 (Int32.toInt J23_l2) (Int32.toInt J23_l3) (Int32.toInt J23_l5) K23 ) → va_P (dC, dI) vwCl [(wo_5_riiiiirii a_this a_this_text x_this_length x_this_at x_this_behind x_this_sort x_this_allowed a_this_plan x_this_fault x_this_place), (wi_0_1600_0 a_this_text cy g_this_text)] H → va_D A [(wo_5_riiiiirii a_this a_this_text x_this_length x_this_at x_this_behind x_this_sort x_this_allowed a_this_plan x_this_fault x_this_place), (wi_0_1600_0 a_this_text cy g_this_text)] → va_S A s.heap H locs → lv_has ls 6 [(0, .ref a_this), (1, .ref (sq 0)), (2, .int J23_l2), (3, .int J23_l3), (4, .int J23_l4), (5, .int J23_l5)] → W p l e { frames := 4, cells := 0, slots := 0, locals := 141 } s m args below meth c H locs 0 0 Q (F0 m 113 ls []) := by
          intro H locs ls hK113_J23_l3 hK113_J23_l4 hK113_J23_l5 hK113_x_this_at hK113_x_this_sort hJ113_lin0 hq hP hD hS hl
          unfold F_X5_wordIn_s0_113 at hq
          refine lv_iconst (v := 0) hx hb dX5_wordIn_113 rfl ?_
          exact jn114 0 H locs ls (ib_w 0 1629 hK113_J23_l3 rfl) (ib_w 0 1 hK113_J23_l4 rfl) (ib_w 0 29 hK113_J23_l5 rfl) (ib_w 0 1599 hK113_x_this_at rfl) (ib_w 1 1 hK113_x_this_sort rfl) (ib_w 0 1 (ib_c 0 0 0 rfl) rfl) (by have := hJ23_lin0; omega) (by try simp only [show (0 : Int32).toInt = (0 : Int) from rfl]; exact hq) hP hD hS (lv_sub hl [0, 1, 2, 3, 4, 5] rfl)
        have jn67 : ∀  (H : Heap) (locs : List Loc) (ls : Array Slot), ib J23_l3 0 1630 → ib J23_l4 0 1 → ib J23_l5 0 30 → ib x_this_at 0 1599 → ib x_this_sort 1 1 → (O = F_X5_wordIn_s0_67 (Int32.toInt x_this_at) (Int32.toInt J23_l2) (Int32.toInt J23_l5) K23 ) → va_P (dC, dI) vwCl [(wo_5_riiiiirii a_this a_this_text x_this_length x_this_at x_this_behind x_this_sort x_this_allowed a_this_plan x_this_fault x_this_place), (wi_0_1600_0 a_this_text cy g_this_text)] H → va_D A [(wo_5_riiiiirii a_this a_this_text x_this_length x_this_at x_this_behind x_this_sort x_this_allowed a_this_plan x_this_fault x_this_place), (wi_0_1600_0 a_this_text cy g_this_text)] → va_S A s.heap H locs → lv_has ls 6 [(0, .ref a_this), (1, .ref (sq 0)), (2, .int J23_l2), (3, .int J23_l3), (4, .int J23_l4), (5, .int J23_l5)] → W p l e { frames := 4, cells := 0, slots := 0, locals := 141 } s m args below meth c H locs 0 0 Q (F0 m 67 ls []) := by
          intro H locs ls hK67_J23_l3 hK67_J23_l4 hK67_J23_l5 hK67_x_this_at hK67_x_this_sort hq hP hD hS hl
          unfold F_X5_wordIn_s0_67 at hq
          obtain ⟨z7, ez7⟩ : ∃ y : Int32, y = J23_l2 + 1 := ⟨_, rfl⟩
          refine lv_iinc (v := z7) (lv' := [(2, .int z7), (0, .ref a_this), (1, .ref (sq 0)), (3, .int J23_l3), (4, .int J23_l4), (5, .int J23_l5)]) hx hb dX5_wordIn_67 hl (k := 2) rfl (by rw [ez7]; rfl) (Nat.le_of_ble_eq_true rfl) rfl (fun ls hl => ?_)
          have Ez7 := lf_op lf_iadd ez7 (lf_rf J23_l2) (lf_lc 1 (1 : Int) rfl)
          refine lv_aload_n hx hb dX5_wordIn_70 rfl (lv_at hl 1 rfl) ?_
          refine k_get C0 fg_X5_15 hP 0 rfl rfl dX5_wordIn_71 ?_
          refine lv_istore_n (lv' := [(3, .int x_this_at), (2, .int z7), (0, .ref a_this), (1, .ref (sq 0)), (4, .int J23_l4), (5, .int J23_l5)]) hx hb dX5_wordIn_74 rfl hl (Nat.le_of_ble_eq_true rfl) rfl (fun ls hl => ?_)
          refine lv_iconst (v := 1) hx hb dX5_wordIn_75 rfl ?_
          refine lv_istore (lv' := [(4, .int 1), (3, .int x_this_at), (2, .int z7), (0, .ref a_this), (1, .ref (sq 0)), (5, .int J23_l5)]) hx hb dX5_wordIn_76 hl (Nat.le_of_ble_eq_true rfl) rfl (fun ls hl => ?_)
          refine lv_goto (tgt := 119) hx hb dX5_wordIn_78 rfl ?_
          exact jn119 z7 x_this_at 1 H locs ls (ib_w 0 1599 hK67_x_this_at rfl) (ib_w 0 30 hK67_J23_l5 rfl) (ib_w 1 1 hK67_x_this_sort rfl) (ib_w 0 1630 hK67_x_this_at rfl) (ib_w 0 1 (ib_c 1 1 1 rfl) rfl) (by have := (hK67_J23_l5).1; have := (hK67_x_this_at).2; omega) (by rw [lf_u Ez7]; try simp only [show (1 : Int32).toInt = (1 : Int) from rfl]; exact hq) hP hD hS (lv_sub hl [3, 4, 2, 1, 0, 5] rfl)
        have jn52 : ∀  (H : Heap) (locs : List Loc) (ls : Array Slot), ib J23_l3 0 1630 → ib J23_l4 0 1 → ib J23_l5 0 30 → ib x_this_at 0 1599 → ib x_this_sort 1 1 → (O = F_X5_wordIn_s0_52 (Int32.toInt x_this_at) (Int32.toInt x_this_behind) (Int32.toInt J23_l2) (Int32.toInt J23_l3) (Int32.toInt J23_l4) (Int32.toInt J23_l5) K23 ) → va_P (dC, dI) vwCl [(wo_5_riiiiirii a_this a_this_text x_this_length x_this_at x_this_behind x_this_sort x_this_allowed a_this_plan x_this_fault x_this_place), (wi_0_1600_0 a_this_text cy g_this_text)] H → va_D A [(wo_5_riiiiirii a_this a_this_text x_this_length x_this_at x_this_behind x_this_sort x_this_allowed a_this_plan x_this_fault x_this_place), (wi_0_1600_0 a_this_text cy g_this_text)] → va_S A s.heap H locs → lv_has ls 6 [(0, .ref a_this), (1, .ref (sq 0)), (2, .int J23_l2), (3, .int J23_l3), (4, .int J23_l4), (5, .int J23_l5)] → W p l e { frames := 4, cells := 0, slots := 0, locals := 141 } s m args below meth c H locs 0 0 Q (F0 m 52 ls []) := by
          as_aux_lemma =>
            intro H locs ls hK52_J23_l3 hK52_J23_l4 hK52_J23_l5 hK52_x_this_at hK52_x_this_sort hq hP hD hS hl
            unfold F_X5_wordIn_s0_52 at hq
            refine lv_iload hx hb dX5_wordIn_52 (lv_at hl 4 rfl) ?_
            refine lv_if_eq (tgt := 67) hx hb dX5_wordIn_54 rfl (fun c8 => ?_) (fun c8 => ?_)
            · replace hq := lf_pos hq (lf_eq (lf_rf J23_l4) (lf_lc 0 (0 : Int) rfl) c8)
              have h9 := ib_eq hK52_J23_l4 (ib_c 0 0 0 rfl) c8
              have h10 : ib J23_l4 0 0 := ib_w 0 0 h9.1 rfl
              exact jn67  H locs ls (ib_w 0 1630 hK52_J23_l3 rfl) (ib_w 0 1 h10 rfl) (ib_w 0 30 hK52_J23_l5 rfl) (ib_w 0 1599 hK52_x_this_at rfl) (ib_w 1 1 hK52_x_this_sort rfl) (by exact hq) hP hD hS (lv_sub hl [0, 1, 2, 3, 4, 5] rfl)
            · replace hq := lf_neg hq (lf_ne (lf_rf J23_l4) (lf_lc 0 (0 : Int) rfl) c8)
              have h11 : ib J23_l4 1 1 := ib_w 1 1 (ib_ne_lo 0 hK52_J23_l4 rfl c8) rfl
              refine lv_iload_n hx hb dX5_wordIn_57 rfl (lv_at hl 3 rfl) ?_
              refine lv_aload_n hx hb dX5_wordIn_58 rfl (lv_at hl 0 rfl) ?_
              refine k_get C0 fg_X5_18 hP 0 rfl rfl dX5_wordIn_59 ?_
              refine lv_icmp_ne (tgt := 67) hx hb dX5_wordIn_62 rfl (fun c12 => ?_) (fun c12 => ?_)
              · replace hq := lf_neg hq (lf_ne (lf_rf J23_l3) (lf_rf x_this_behind) c12)
                exact jn67  H locs ls (ib_w 0 1630 hK52_J23_l3 rfl) (ib_w 0 1 h11 rfl) (ib_w 0 30 hK52_J23_l5 rfl) (ib_w 0 1599 hK52_x_this_at rfl) (ib_w 1 1 hK52_x_this_sort rfl) (by exact hq) hP hD hS (lv_sub hl [0, 1, 2, 3, 4, 5] rfl)
              · replace hq := lf_pos hq (lf_eq (lf_rf J23_l3) (lf_rf x_this_behind) c12)
                have h13 := ib_eq hK52_J23_l3 hx_this_behind c12
                have h14 : ib J23_l3 0 1600 := ib_w 0 1600 h13.1 rfl
                refine lv_iload_n hx hb dX5_wordIn_65 rfl (lv_at hl 2 rfl) ?_
                subst hQ; exact k_iret hx hb hr hlk rfl () hS ((hO.symm.trans (by exact hq))) hP hD (Nat.le_of_ble_eq_true rfl) (Nat.le_of_ble_eq_true rfl) dX5_wordIn_66
        refine lv_iload hx hb dX5_wordIn_23 (lv_at hl 5 rfl) ?_
        refine lv_aload_n hx hb dX5_wordIn_25 rfl (lv_at hl 1 rfl) ?_
        refine k_jim hP hD hS hA [] [true, true] rfl rfl rfl 0 0 (Nat.le_of_ble_eq_true rfl) (Nat.le_of_ble_eq_true rfl) (fun hPc hDc => k_runVO (As := []) (rest := [.int J23_l5]) C0 hZ hS hA (c_length l dC dI cy sq 0 (by decide)) mV_X5_244 hPc hDc (vk_recv hZ.1 (by decide) hS) hl rfl rfl (Nat.le_of_ble_eq_true rfl) ⟨(Nat.le_of_ble_eq_true rfl), (Nat.le_of_ble_eq_true rfl)⟩ ⟨(Nat.le_of_ble_eq_true rfl), (Nat.le_of_ble_eq_true rfl)⟩ dX5_wordIn_26) (fun r15 u16 H locs hw hP hD hS => ?_)
        replace hP : va_P (dC, dI) vwCl [(wo_5_riiiiirii a_this a_this_text x_this_length x_this_at x_this_behind x_this_sort x_this_allowed a_this_plan x_this_fault x_this_place), (wi_0_1600_0 a_this_text cy g_this_text)] H := hP
        replace hD := k_D hP hD
        obtain rfl : r15 = 30 := hw.trans (by decide)
        refine lv_icmp_gt (tgt := 125) hx hb dX5_wordIn_29 rfl (fun c17 => ?_) (fun c17 => ?_)
        · replace hq := lf_pos hq (lf_lt (lf_lc 30 (30 : Int) rfl) (lf_rf J23_l5) c17)
          have h18 := ib_lt (ib_c 30 30 30 rfl) hJ23_l5 c17
          have h19 : ib J23_l5 31 31 := ib_w 31 31 h18.2 rfl
          refine lv_iconst (v := (-1)) hx hb dX5_wordIn_125 rfl ?_
          subst hQ; exact k_iret hx hb hr hlk rfl () hS ((hO.symm.trans (by try simp only [show ((-1) : Int32).toInt = (-1 : Int) from rfl]; exact hq))) hP hD (Nat.le_of_ble_eq_true rfl) (Nat.le_of_ble_eq_true rfl) dX5_wordIn_126
        · as_aux_lemma =>
            replace hq := lf_neg hq (lf_nlt (lf_lc 30 (30 : Int) rfl) (lf_rf J23_l5) c17)
            have h20 := ib_nlt (ib_c 30 30 30 rfl) hJ23_l5 c17
            have h21 : ib J23_l5 0 30 := ib_w 0 30 h20.2 rfl
            refine lv_iload hx hb dX5_wordIn_32 (lv_at hl 5 rfl) ?_
            refine lv_aload_n hx hb dX5_wordIn_34 rfl (lv_at hl 1 rfl) ?_
            refine k_jim hP hD hS hA [] [true, true] rfl rfl rfl 0 0 (Nat.le_of_ble_eq_true rfl) (Nat.le_of_ble_eq_true rfl) (fun hPc hDc => k_runVO (As := []) (rest := [.int J23_l5]) C0 hZ hS hA (c_length l dC dI cy sq 0 (by decide)) mV_X5_244 hPc hDc (vk_recv hZ.1 (by decide) hS) hl rfl rfl (Nat.le_of_ble_eq_true rfl) ⟨(Nat.le_of_ble_eq_true rfl), (Nat.le_of_ble_eq_true rfl)⟩ ⟨(Nat.le_of_ble_eq_true rfl), (Nat.le_of_ble_eq_true rfl)⟩ dX5_wordIn_35) (fun r22 u23 H locs hw hP hD hS => ?_)
            replace hP : va_P (dC, dI) vwCl [(wo_5_riiiiirii a_this a_this_text x_this_length x_this_at x_this_behind x_this_sort x_this_allowed a_this_plan x_this_fault x_this_place), (wi_0_1600_0 a_this_text cy g_this_text)] H := hP
            replace hD := k_D hP hD
            obtain rfl : r22 = 30 := hw.trans (by decide)
            refine lv_icmp_eq (tgt := 52) hx hb dX5_wordIn_38 rfl (fun c24 => ?_) (fun c24 => ?_)
            · replace hq := lf_pos hq (lf_eq (lf_rf J23_l5) (lf_lc 30 (30 : Int) rfl) c24)
              have h25 := ib_eq h21 (ib_c 30 30 30 rfl) c24
              have h26 : ib J23_l5 30 30 := ib_w 30 30 h25.1 rfl
              exact jn52  H locs ls (ib_w 0 1630 hJ23_l3 rfl) (ib_w 0 1 hJ23_l4 rfl) (ib_w 0 30 h26 rfl) (ib_w 0 1599 hK23_x_this_at rfl) (ib_w 1 1 hK23_x_this_sort rfl) (by exact hq) hP hD hS (lv_sub hl [0, 1, 2, 3, 4, 5] rfl)
            · as_aux_lemma =>
                replace hq := lf_neg hq (lf_ne (lf_rf J23_l5) (lf_lc 30 (30 : Int) rfl) c24)
                have h27 : ib J23_l5 0 29 := ib_w 0 29 (ib_ne_hi 30 h21 rfl c24) rfl
                refine lv_aload_n hx hb dX5_wordIn_41 rfl (lv_at hl 1 rfl) ?_
                refine lv_iload hx hb dX5_wordIn_42 (lv_at hl 5 rfl) ?_
                refine k_jim hP hD hS hA [] [true, true] rfl rfl rfl 0 0 (Nat.le_of_ble_eq_true rfl) (Nat.le_of_ble_eq_true rfl) (fun hPc hDc => k_runVO (As := [.int J23_l5]) (rest := []) C0 hZ hS hA (cx_charAt l dC dI cy sq 0 (by decide) J23_l5 (ib_ch 0 30 h27 rfl rfl).1 (ib_ch 0 30 h27 rfl rfl).2.1 (ib_ch 0 30 h27 rfl rfl).2.2) mV_X5_248 hPc hDc (vk_recv hZ.1 (by decide) hS) hl rfl rfl (Nat.le_of_ble_eq_true rfl) ⟨(Nat.le_of_ble_eq_true rfl), (Nat.le_of_ble_eq_true rfl)⟩ ⟨(Nat.le_of_ble_eq_true rfl), (Nat.le_of_ble_eq_true rfl)⟩ dX5_wordIn_44) (fun r28 u29 H locs hw hP hD hS => ?_)
                replace hP : va_P (dC, dI) vwCl [(wo_5_riiiiirii a_this a_this_text x_this_length x_this_at x_this_behind x_this_sort x_this_allowed a_this_plan x_this_fault x_this_place), (wi_0_1600_0 a_this_text cy g_this_text)] H := hP
                replace hD := k_D hP hD
                have Er28 := lf_cha (j := 0) hw (lf_rf J23_l5)
                refine lv_bipush (v := 32) hx hb dX5_wordIn_47 rfl ?_
                refine lv_icmp_ne (tgt := 81) hx hb dX5_wordIn_49 rfl (fun c30 => ?_) (fun c30 => ?_)
                · as_aux_lemma =>
                    replace hq := lf_neg hq (lf_ne Er28 (lf_lc 32 (32 : Int) rfl) c30)
                    refine lv_iload hx hb dX5_wordIn_81 (lv_at hl 4 rfl) ?_
                    refine lv_if_eq (tgt := 113) hx hb dX5_wordIn_83 rfl (fun c31 => ?_) (fun c31 => ?_)
                    · replace hq := lf_pos hq (lf_eq (lf_rf J23_l4) (lf_lc 0 (0 : Int) rfl) c31)
                      have h32 := ib_eq hJ23_l4 (ib_c 0 0 0 rfl) c31
                      have h33 : ib J23_l4 0 0 := ib_w 0 0 h32.1 rfl
                      have h34 : ib J23_l3 0 1629 := ⟨(hJ23_l3).1, by have := (hJ23_l3).2; have := hJ23_lin0; have := (h27).2; omega⟩
                      exact jn113  H locs ls (ib_w 0 1629 h34 rfl) (ib_w 0 1 h33 rfl) (ib_w 0 29 h27 rfl) (ib_w 0 1599 hK23_x_this_at rfl) (ib_w 1 1 hK23_x_this_sort rfl) (by have := hJ23_lin0; omega) (by exact hq) hP hD hS (lv_sub hl [0, 1, 2, 3, 4, 5] rfl)
                    · as_aux_lemma =>
                        replace hq := lf_neg hq (lf_ne (lf_rf J23_l4) (lf_lc 0 (0 : Int) rfl) c31)
                        have h35 : ib J23_l4 1 1 := ib_w 1 1 (ib_ne_lo 0 hJ23_l4 rfl c31) rfl
                        refine lv_iload_n hx hb dX5_wordIn_86 rfl (lv_at hl 3 rfl) ?_
                        refine lv_aload_n hx hb dX5_wordIn_87 rfl (lv_at hl 0 rfl) ?_
                        refine k_get C0 fg_X5_18 hP 0 rfl rfl dX5_wordIn_88 ?_
                        refine lv_icmp_ge (tgt := 113) hx hb dX5_wordIn_91 rfl (fun c36 => ?_) (fun c36 => ?_)
                        · replace hq := lf_pos hq (lf_le (lf_rf x_this_behind) (lf_rf J23_l3) c36)
                          have h37 := ib_le hx_this_behind hJ23_l3 c36
                          have h38 : ib J23_l3 0 1629 := ⟨(hJ23_l3).1, by have := (hJ23_l3).2; have := hJ23_lin0; have := (h27).2; omega⟩
                          exact jn113  H locs ls (ib_w 0 1629 h38 rfl) (ib_w 0 1 h35 rfl) (ib_w 0 29 h27 rfl) (ib_w 0 1599 hK23_x_this_at rfl) (ib_w 1 1 hK23_x_this_sort rfl) (by have := hJ23_lin0; omega) (by exact hq) hP hD hS (lv_sub hl [0, 1, 2, 3, 4, 5] rfl)
                        · as_aux_lemma =>
                            replace hq := lf_neg hq (lf_nle (lf_rf x_this_behind) (lf_rf J23_l3) c36)
                            have h39 := ib_nle hx_this_behind hJ23_l3 c36
                            have h40 : ib x_this_behind 1 1600 := ib_w 1 1600 h39.1 rfl
                            have h41 : ib J23_l3 0 1599 := ib_w 0 1599 h39.2 rfl
                            refine lv_aload_n hx hb dX5_wordIn_94 rfl (lv_at hl 0 rfl) ?_
                            refine k_get C0 fg_X5_33 hP 0 rfl rfl dX5_wordIn_95 ?_
                            refine lv_iload_n hx hb dX5_wordIn_98 rfl (lv_at hl 3 rfl) ?_
                            refine va_iald hx hb C0.2.2.2.2.2.1 hP 1 0 rfl rfl (ib_in 1600 h41 rfl) dX5_wordIn_99 ?_
                            refine lv_topi (fun z42 ez42 => ?_)
                            have h43 : ib z42 0 255 := by rw [ez42]; exact ia_at hg_this_text (ib_in 1600 h41 rfl)
                            have Ez42 := lf_ld ez42 (lf_ra g_this_text) (lf_rf J23_l3)
                            refine lv_aload_n hx hb dX5_wordIn_100 rfl (lv_at hl 1 rfl) ?_
                            refine lv_iload hx hb dX5_wordIn_101 (lv_at hl 5 rfl) ?_
                            refine k_jim hP hD hS hA [] [true, true] rfl rfl rfl 0 0 (Nat.le_of_ble_eq_true rfl) (Nat.le_of_ble_eq_true rfl) (fun hPc hDc => k_runVO (As := [.int J23_l5]) (rest := [.int z42]) C0 hZ hS hA (cx_charAt l dC dI cy sq 0 (by decide) J23_l5 (ib_ch 0 30 h27 rfl rfl).1 (ib_ch 0 30 h27 rfl rfl).2.1 (ib_ch 0 30 h27 rfl rfl).2.2) mV_X5_248 hPc hDc (vk_recv hZ.1 (by decide) hS) hl rfl rfl (Nat.le_of_ble_eq_true rfl) ⟨(Nat.le_of_ble_eq_true rfl), (Nat.le_of_ble_eq_true rfl)⟩ ⟨(Nat.le_of_ble_eq_true rfl), (Nat.le_of_ble_eq_true rfl)⟩ dX5_wordIn_103) (fun r44 u45 H locs hw hP hD hS => ?_)
                            replace hP : va_P (dC, dI) vwCl [(wo_5_riiiiirii a_this a_this_text x_this_length x_this_at x_this_behind x_this_sort x_this_allowed a_this_plan x_this_fault x_this_place), (wi_0_1600_0 a_this_text cy g_this_text)] H := hP
                            replace hD := k_D hP hD
                            have Er44 := lf_cha (j := 0) hw (lf_rf J23_l5)
                            refine lv_icmp_ne (tgt := 113) hx hb dX5_wordIn_106 rfl (fun c46 => ?_) (fun c46 => ?_)
                            · replace hq := lf_neg hq (lf_ne Ez42 Er44 c46)
                              exact jn113  H locs ls (ib_w 0 1629 h41 rfl) (ib_w 0 1 h35 rfl) (ib_w 0 29 h27 rfl) (ib_w 0 1599 hK23_x_this_at rfl) (ib_w 1 1 hK23_x_this_sort rfl) (by have := hJ23_lin0; omega) (by exact hq) hP hD hS (lv_sub hl [0, 1, 2, 3, 4, 5] rfl)
                            · replace hq := lf_pos hq (lf_eq Ez42 Er44 c46)
                              have h47 := ib_eq h43 (ib_any r44) c46
                              have h48 : ib r44 0 255 := ib_w 0 255 h47.2 rfl
                              refine lv_iconst (v := 1) hx hb dX5_wordIn_109 rfl ?_
                              refine lv_goto (tgt := 114) hx hb dX5_wordIn_110 rfl ?_
                              exact jn114 1 H locs ls (ib_w 0 1629 h41 rfl) (ib_w 0 1 h35 rfl) (ib_w 0 29 h27 rfl) (ib_w 0 1599 hK23_x_this_at rfl) (ib_w 1 1 hK23_x_this_sort rfl) (ib_w 0 1 (ib_c 1 1 1 rfl) rfl) (by have := hJ23_lin0; omega) (by try simp only [show (1 : Int32).toInt = (1 : Int) from rfl]; exact hq) hP hD hS (lv_sub hl [0, 1, 2, 3, 4, 5] rfl)
                · replace hq := lf_pos hq (lf_eq Er28 (lf_lc 32 (32 : Int) rfl) c30)
                  have h49 := ib_eq (ib_any r28) (ib_c 32 32 32 rfl) c30
                  have h50 : ib r28 32 32 := ib_w 32 32 h49.1 rfl
                  have h51 : ib J23_l3 0 1629 := ⟨(hJ23_l3).1, by have := (hJ23_l3).2; have := hJ23_lin0; have := (h27).2; omega⟩
                  exact jn52  H locs ls (ib_w 0 1630 h51 rfl) (ib_w 0 1 hJ23_l4 rfl) (ib_w 0 30 h27 rfl) (ib_w 0 1599 hK23_x_this_at rfl) (ib_w 1 1 hK23_x_this_sort rfl) (by exact hq) hP hD hS (lv_sub hl [0, 1, 2, 3, 4, 5] rfl)
  refine lv_aload_n hx hb dX5_wordIn_0 rfl (lv_at hl 0 rfl) ?_
  refine k_get C0 fg_X5_21 hP 0 rfl rfl dX5_wordIn_1 ?_
  refine lv_iconst (v := 1) hx hb dX5_wordIn_4 rfl ?_
  refine lv_icmp_eq (tgt := 10) hx hb dX5_wordIn_5 rfl (fun c52 => ?_) (fun c52 => ?_)
  · replace hq := lf_pos hq (lf_eq (lf_rf x_this_sort) (lf_lc 1 (1 : Int) rfl) c52)
    have h53 := ib_eq hx_this_sort (ib_c 1 1 1 rfl) c52
    have h54 : ib x_this_sort 1 1 := ib_w 1 1 h53.1 rfl
    have h55 : ib x_this_at 0 1599 := ib_w 0 1599 (ib_two hx_this_at (hc0_this (ib_nz h54 rfl))) rfl
    refine lv_iconst (v := 0) hx hb dX5_wordIn_10 rfl ?_
    refine lv_istore_n (lv' := [(2, .int 0), (0, .ref a_this), (1, .ref (sq 0))]) hx hb dX5_wordIn_11 rfl hl (Nat.le_of_ble_eq_true rfl) rfl (fun ls hl => ?_)
    refine lv_aload_n hx hb dX5_wordIn_12 rfl (lv_at hl 1 rfl) ?_
    refine k_get C0 fg_X5_15 hP 0 rfl rfl dX5_wordIn_13 ?_
    refine lv_istore_n (lv' := [(3, .int x_this_at), (2, .int 0), (0, .ref a_this), (1, .ref (sq 0))]) hx hb dX5_wordIn_16 rfl hl (Nat.le_of_ble_eq_true rfl) rfl (fun ls hl => ?_)
    refine lv_iconst (v := 1) hx hb dX5_wordIn_17 rfl ?_
    refine lv_istore (lv' := [(4, .int 1), (3, .int x_this_at), (2, .int 0), (0, .ref a_this), (1, .ref (sq 0))]) hx hb dX5_wordIn_18 hl (Nat.le_of_ble_eq_true rfl) rfl (fun ls hl => ?_)
    refine lv_iconst (v := 0) hx hb dX5_wordIn_20 rfl ?_
    refine lv_istore (lv' := [(5, .int 0), (4, .int 1), (3, .int x_this_at), (2, .int 0), (0, .ref a_this), (1, .ref (sq 0))]) hx hb dX5_wordIn_21 hl (Nat.le_of_ble_eq_true rfl) rfl (fun ls hl => ?_)
    exact jn23 33 0 x_this_at 1 0 H locs ls (ib_w 0 1599 h55 rfl) (ib_w 1 1 h54 rfl) (ib_w 0 1630 h55 rfl) (ib_w 0 1 (ib_c 1 1 1 rfl) rfl) (ib_w 0 31 (ib_c 0 0 0 rfl) rfl) (by have : (0 : Int32).toInt = 0 := rfl; have := (h55).2; omega) (by try simp only [show (0 : Int32).toInt = (0 : Int) from rfl]; try simp only [show (1 : Int32).toInt = (1 : Int) from rfl]; exact hq) (by have := (ib_c 0 0 0 rfl); unfold ib at this; omega) hP hD hS (lv_sub hl [4, 5, 3, 2, 1, 0] rfl)
  · replace hq := lf_neg hq (lf_ne (lf_rf x_this_sort) (lf_lc 1 (1 : Int) rfl) c52)
    refine lv_iconst (v := (-1)) hx hb dX5_wordIn_8 rfl ?_
    subst hQ; exact k_iret hx hb hr hlk rfl () hS ((hO.symm.trans (by try simp only [show ((-1) : Int32).toInt = (-1 : Int) from rfl]; exact hq))) hP hD (Nat.le_of_ble_eq_true rfl) (Nat.le_of_ble_eq_true rfl) dX5_wordIn_9
set_option maxHeartbeats 4000000 in
set_option maxRecDepth 100000 in
theorem s_X5_wordIn_s1 (l : Launch) (dC : Nat → ClassId) (dI : Nat → Nat → Nat) (cy : Nat → ClassId) (sq : Nat → Nat) (a_this : Nat) (a_this_text : Nat) (g_this_text : Nat → Int32) (x_this_length : Int32) (x_this_at : Int32) (x_this_behind : Int32) (x_this_sort : Int32) (x_this_allowed : Int32) (a_this_plan : Nat) (x_this_fault : Int32) (x_this_place : Int32) (hg_this_text : ia g_this_text 1600 0 255) (hx_this_at : ib x_this_at 0 1600) (hx_this_behind : ib x_this_behind 0 1600) (hx_this_sort : ib x_this_sort 0 4) (hc0_this : ¬ x_this_sort = 0 → ib x_this_at 0 1599) : k_Met l yX5_wordIn cX5_wordIn 6 (some .int) { frames := 4, cells := 0, slots := 0, locals := 141 } dC dI cy sq [.ref a_this, .ref (sq 1)] [(wo_5_riiiiirii a_this a_this_text x_this_length x_this_at x_this_behind x_this_sort x_this_allowed a_this_plan x_this_fault x_this_place), (wi_0_1600_0 a_this_text cy g_this_text)] (k_Qi dC dI (fun (r : Int32) (_ : Unit) => (F_X5_wordIn_s1 (lf_A g_this_text) (Int32.toInt x_this_at) (Int32.toInt x_this_behind) (Int32.toInt x_this_sort) = ((Int32.toInt r)))) (fun _ : Unit => [(wo_5_riiiiirii a_this a_this_text x_this_length x_this_at x_this_behind x_this_sort x_this_allowed a_this_plan x_this_fault x_this_place), (wi_0_1600_0 a_this_text cy g_this_text)])) := by
  refine k_ofW2 (by decide +kernel) (Nat.le_of_ble_eq_true rfl) ?_
  intro p e s m below meth c A ls H locs args Q hQ C0 hZ hr hlk hin hP hD hA hS hl
  have C0 : k_cx p s m args c cX5_wordIn 6 RX5 dC dI cy sq := C0
  have hx := C0.1
  have hb := C0.2.1
  have hl : lv_has ls 6 [(0, .ref a_this), (1, .ref (sq 1))] := hl
  obtain ⟨O, hO⟩ : ∃ o, o = F_X5_wordIn_s1 (lf_A g_this_text) (Int32.toInt x_this_at) (Int32.toInt x_this_behind) (Int32.toInt x_this_sort) := ⟨_, rfl⟩
  have hq := hO
  unfold F_X5_wordIn_s1 at hq
  have jn23 : ∀ (n : Nat) (J23_l2 : Int32) (J23_l3 : Int32) (J23_l4 : Int32) (J23_l5 : Int32) (H : Heap) (locs : List Loc) (ls : Array Slot), ib x_this_at 0 1599 → ib x_this_sort 1 1 → ib J23_l3 0 1604 → ib J23_l4 0 1 → ib J23_l5 0 5 → (1 * J23_l3.toInt + (-1) * J23_l5.toInt ≤ 1600) → (O = F_X5_wordIn_s1_23 (lf_A g_this_text) (Int32.toInt x_this_at) (Int32.toInt x_this_behind) n (Int32.toInt J23_l2) (Int32.toInt J23_l3) (Int32.toInt J23_l4) (Int32.toInt J23_l5)) → 6 ≤ J23_l5.toInt + (n : Int) → va_P (dC, dI) vwCl [(wo_5_riiiiirii a_this a_this_text x_this_length x_this_at x_this_behind x_this_sort x_this_allowed a_this_plan x_this_fault x_this_place), (wi_0_1600_0 a_this_text cy g_this_text)] H → va_D A [(wo_5_riiiiirii a_this a_this_text x_this_length x_this_at x_this_behind x_this_sort x_this_allowed a_this_plan x_this_fault x_this_place), (wi_0_1600_0 a_this_text cy g_this_text)] → va_S A s.heap H locs → lv_has ls 6 [(0, .ref a_this), (1, .ref (sq 1)), (2, .int J23_l2), (3, .int J23_l3), (4, .int J23_l4), (5, .int J23_l5)] → W p l e { frames := 4, cells := 0, slots := 0, locals := 141 } s m args below meth c H locs 0 0 Q (F0 m 23 ls []) := by
    as_aux_lemma =>
      intro n
      induction n with
      | zero =>
        intro J23_l2 J23_l3 J23_l4 J23_l5 H locs ls hK23_x_this_at hK23_x_this_sort hJ23_l3 hJ23_l4 hJ23_l5 hJ23_lin0 hq hm
        exact absurd hm (by have := hJ23_l5; unfold ib at this; omega)
      | succ n ih =>
        intro J23_l2 J23_l3 J23_l4 J23_l5 H locs ls hK23_x_this_at hK23_x_this_sort hJ23_l3 hJ23_l4 hJ23_l5 hJ23_lin0 hq hm23 hP hD hS hl
        have ih23 := ih
        obtain ⟨K23, hK23⟩ : ∃ K, K = F_X5_wordIn_s1_23 (lf_A g_this_text) (Int32.toInt x_this_at) (Int32.toInt x_this_behind) n := ⟨_, rfl⟩
        have hq : O = F_X5_wordIn_s1_23b (lf_A g_this_text) (Int32.toInt x_this_at) (Int32.toInt x_this_behind) K23 (Int32.toInt J23_l2) (Int32.toInt J23_l3) (Int32.toInt J23_l4) (Int32.toInt J23_l5) := by rw [hK23]; exact hq
        unfold F_X5_wordIn_s1_23b at hq
        have jn119 : ∀ (J119_l2 : Int32) (J119_l3 : Int32) (J119_l4 : Int32) (H : Heap) (locs : List Loc) (ls : Array Slot), ib x_this_at 0 1599 → ib J23_l5 0 4 → ib x_this_sort 1 1 → ib J119_l3 0 1604 → ib J119_l4 0 1 → (1 * J119_l3.toInt + (-1) * J23_l5.toInt ≤ 1601) → (O = F_X5_wordIn_s1_119 (Int32.toInt J23_l5) K23 (Int32.toInt J119_l2) (Int32.toInt J119_l3) (Int32.toInt J119_l4)) → va_P (dC, dI) vwCl [(wo_5_riiiiirii a_this a_this_text x_this_length x_this_at x_this_behind x_this_sort x_this_allowed a_this_plan x_this_fault x_this_place), (wi_0_1600_0 a_this_text cy g_this_text)] H → va_D A [(wo_5_riiiiirii a_this a_this_text x_this_length x_this_at x_this_behind x_this_sort x_this_allowed a_this_plan x_this_fault x_this_place), (wi_0_1600_0 a_this_text cy g_this_text)] → va_S A s.heap H locs → lv_has ls 6 [(0, .ref a_this), (1, .ref (sq 1)), (2, .int J119_l2), (3, .int J119_l3), (4, .int J119_l4), (5, .int J23_l5)] → W p l e { frames := 4, cells := 0, slots := 0, locals := 141 } s m args below meth c H locs 0 0 Q (F0 m 119 ls []) := by
          intro J119_l2 J119_l3 J119_l4 H locs ls hK119_x_this_at hK119_J23_l5 hK119_x_this_sort hJ119_l3 hJ119_l4 hJ119_lin0 hq hP hD hS hl
          unfold F_X5_wordIn_s1_119 at hq
          obtain ⟨z1, ez1⟩ : ∃ y : Int32, y = J23_l5 + 1 := ⟨_, rfl⟩
          refine lv_iinc (v := z1) (lv' := [(5, .int z1), (0, .ref a_this), (1, .ref (sq 1)), (2, .int J119_l2), (3, .int J119_l3), (4, .int J119_l4)]) hx hb dX5_wordIn_119 hl (k := 5) rfl (by rw [ez1]; rfl) (Nat.le_of_ble_eq_true rfl) rfl (fun ls hl => ?_)
          have h2 := ib_add hK119_J23_l5 (ib_c 1 1 1 rfl) rfl
          rw [← ez1] at h2
          have h3 : ib z1 1 5 := ib_w 1 5 h2.1 rfl
          have Ez1 := lf_add h2.2 (lf_rf J23_l5) (lf_lc 1 (1 : Int) rfl)
          refine lv_goto (tgt := 23) hx hb dX5_wordIn_122 rfl ?_
          exact ih23 J119_l2 J119_l3 J119_l4 z1 H locs ls (ib_w 0 1599 hK119_x_this_at rfl) (ib_w 1 1 hK119_x_this_sort rfl) (ib_w 0 1604 hJ119_l3 rfl) (ib_w 0 1 hJ119_l4 rfl) (ib_w 0 5 h3 rfl) (by have := h2.2; have : (1 : Int32).toInt = 1 := rfl; have := hJ119_lin0; omega) (by rw [← hK23]; rw [lf_u Ez1]; exact hq) (by have := h2.2; have : (1 : Int32).toInt = 1 := rfl; omega) hP hD hS (lv_sub hl [1, 2, 3, 4, 5, 0] rfl)
        have jn114 : ∀ (J114_s0 : Int32) (H : Heap) (locs : List Loc) (ls : Array Slot), ib J23_l3 0 1603 → ib J23_l4 0 1 → ib J23_l5 0 3 → ib x_this_at 0 1599 → ib x_this_sort 1 1 → ib J114_s0 0 1 → (1 * J23_l3.toInt + (-1) * J23_l5.toInt ≤ 1600) → (O = F_X5_wordIn_s1_114 (Int32.toInt J23_l2) (Int32.toInt J23_l3) (Int32.toInt J23_l5) K23 (Int32.toInt J114_s0)) → va_P (dC, dI) vwCl [(wo_5_riiiiirii a_this a_this_text x_this_length x_this_at x_this_behind x_this_sort x_this_allowed a_this_plan x_this_fault x_this_place), (wi_0_1600_0 a_this_text cy g_this_text)] H → va_D A [(wo_5_riiiiirii a_this a_this_text x_this_length x_this_at x_this_behind x_this_sort x_this_allowed a_this_plan x_this_fault x_this_place), (wi_0_1600_0 a_this_text cy g_this_text)] → va_S A s.heap H locs → lv_has ls 6 [(0, .ref a_this), (1, .ref (sq 1)), (2, .int J23_l2), (3, .int J23_l3), (4, .int J23_l4), (5, .int J23_l5)] → W p l e { frames := 4, cells := 0, slots := 0, locals := 141 } s m args below meth c H locs 0 0 Q (F0 m 114 ls [.int J114_s0]) := by
          intro J114_s0 H locs ls hK114_J23_l3 hK114_J23_l4 hK114_J23_l5 hK114_x_this_at hK114_x_this_sort hJ114_s0 hJ114_lin0 hq hP hD hS hl
          unfold F_X5_wordIn_s1_114 at hq
          refine lv_istore (lv' := [(4, .int J114_s0), (0, .ref a_this), (1, .ref (sq 1)), (2, .int J23_l2), (3, .int J23_l3), (5, .int J23_l5)]) hx hb dX5_wordIn_114 hl (Nat.le_of_ble_eq_true rfl) rfl (fun ls hl => ?_)
          obtain ⟨z4, ez4⟩ : ∃ y : Int32, y = J23_l3 + 1 := ⟨_, rfl⟩
          refine lv_iinc (v := z4) (lv' := [(3, .int z4), (4, .int J114_s0), (0, .ref a_this), (1, .ref (sq 1)), (2, .int J23_l2), (5, .int J23_l5)]) hx hb dX5_wordIn_116 hl (k := 4) rfl (by rw [ez4]; rfl) (Nat.le_of_ble_eq_true rfl) rfl (fun ls hl => ?_)
          have h5 := ib_add hK114_J23_l3 (ib_c 1 1 1 rfl) rfl
          rw [← ez4] at h5
          have h6 : ib z4 1 1604 := ib_w 1 1604 h5.1 rfl
          have Ez4 := lf_add h5.2 (lf_rf J23_l3) (lf_lc 1 (1 : Int) rfl)
          exact jn119 J23_l2 z4 J114_s0 H locs ls (ib_w 0 1599 hK114_x_this_at rfl) (ib_w 0 4 hK114_J23_l5 rfl) (ib_w 1 1 hK114_x_this_sort rfl) (ib_w 0 1604 h6 rfl) (ib_w 0 1 hJ114_s0 rfl) (by have := (hK114_J23_l5).1; have := hJ23_lin0; have := (h6).2; have := h5.2; have : (1 : Int32).toInt = 1 := rfl; omega) (by rw [lf_u Ez4]; exact hq) hP hD hS (lv_sub hl [2, 3, 4, 0, 1, 5] rfl)
        have jn113 : ∀  (H : Heap) (locs : List Loc) (ls : Array Slot), ib J23_l3 0 1603 → ib J23_l4 0 1 → ib J23_l5 0 3 → ib x_this_at 0 1599 → ib x_this_sort 1 1 → (1 * J23_l3.toInt + (-1) * J23_l5.toInt ≤ 1600) → (O = F_X5_wordIn_s1_113 (Int32.toInt J23_l2) (Int32.toInt J23_l3) (Int32.toInt J23_l5) K23 ) → va_P (dC, dI) vwCl [(wo_5_riiiiirii a_this a_this_text x_this_length x_this_at x_this_behind x_this_sort x_this_allowed a_this_plan x_this_fault x_this_place), (wi_0_1600_0 a_this_text cy g_this_text)] H → va_D A [(wo_5_riiiiirii a_this a_this_text x_this_length x_this_at x_this_behind x_this_sort x_this_allowed a_this_plan x_this_fault x_this_place), (wi_0_1600_0 a_this_text cy g_this_text)] → va_S A s.heap H locs → lv_has ls 6 [(0, .ref a_this), (1, .ref (sq 1)), (2, .int J23_l2), (3, .int J23_l3), (4, .int J23_l4), (5, .int J23_l5)] → W p l e { frames := 4, cells := 0, slots := 0, locals := 141 } s m args below meth c H locs 0 0 Q (F0 m 113 ls []) := by
          intro H locs ls hK113_J23_l3 hK113_J23_l4 hK113_J23_l5 hK113_x_this_at hK113_x_this_sort hJ113_lin0 hq hP hD hS hl
          unfold F_X5_wordIn_s1_113 at hq
          refine lv_iconst (v := 0) hx hb dX5_wordIn_113 rfl ?_
          exact jn114 0 H locs ls (ib_w 0 1603 hK113_J23_l3 rfl) (ib_w 0 1 hK113_J23_l4 rfl) (ib_w 0 3 hK113_J23_l5 rfl) (ib_w 0 1599 hK113_x_this_at rfl) (ib_w 1 1 hK113_x_this_sort rfl) (ib_w 0 1 (ib_c 0 0 0 rfl) rfl) (by have := hJ23_lin0; omega) (by try simp only [show (0 : Int32).toInt = (0 : Int) from rfl]; exact hq) hP hD hS (lv_sub hl [0, 1, 2, 3, 4, 5] rfl)
        have jn67 : ∀  (H : Heap) (locs : List Loc) (ls : Array Slot), ib J23_l3 0 1604 → ib J23_l4 0 1 → ib J23_l5 0 4 → ib x_this_at 0 1599 → ib x_this_sort 1 1 → (O = F_X5_wordIn_s1_67 (Int32.toInt x_this_at) (Int32.toInt J23_l2) (Int32.toInt J23_l5) K23 ) → va_P (dC, dI) vwCl [(wo_5_riiiiirii a_this a_this_text x_this_length x_this_at x_this_behind x_this_sort x_this_allowed a_this_plan x_this_fault x_this_place), (wi_0_1600_0 a_this_text cy g_this_text)] H → va_D A [(wo_5_riiiiirii a_this a_this_text x_this_length x_this_at x_this_behind x_this_sort x_this_allowed a_this_plan x_this_fault x_this_place), (wi_0_1600_0 a_this_text cy g_this_text)] → va_S A s.heap H locs → lv_has ls 6 [(0, .ref a_this), (1, .ref (sq 1)), (2, .int J23_l2), (3, .int J23_l3), (4, .int J23_l4), (5, .int J23_l5)] → W p l e { frames := 4, cells := 0, slots := 0, locals := 141 } s m args below meth c H locs 0 0 Q (F0 m 67 ls []) := by
          intro H locs ls hK67_J23_l3 hK67_J23_l4 hK67_J23_l5 hK67_x_this_at hK67_x_this_sort hq hP hD hS hl
          unfold F_X5_wordIn_s1_67 at hq
          obtain ⟨z7, ez7⟩ : ∃ y : Int32, y = J23_l2 + 1 := ⟨_, rfl⟩
          refine lv_iinc (v := z7) (lv' := [(2, .int z7), (0, .ref a_this), (1, .ref (sq 1)), (3, .int J23_l3), (4, .int J23_l4), (5, .int J23_l5)]) hx hb dX5_wordIn_67 hl (k := 2) rfl (by rw [ez7]; rfl) (Nat.le_of_ble_eq_true rfl) rfl (fun ls hl => ?_)
          have Ez7 := lf_op lf_iadd ez7 (lf_rf J23_l2) (lf_lc 1 (1 : Int) rfl)
          refine lv_aload_n hx hb dX5_wordIn_70 rfl (lv_at hl 1 rfl) ?_
          refine k_get C0 fg_X5_15 hP 0 rfl rfl dX5_wordIn_71 ?_
          refine lv_istore_n (lv' := [(3, .int x_this_at), (2, .int z7), (0, .ref a_this), (1, .ref (sq 1)), (4, .int J23_l4), (5, .int J23_l5)]) hx hb dX5_wordIn_74 rfl hl (Nat.le_of_ble_eq_true rfl) rfl (fun ls hl => ?_)
          refine lv_iconst (v := 1) hx hb dX5_wordIn_75 rfl ?_
          refine lv_istore (lv' := [(4, .int 1), (3, .int x_this_at), (2, .int z7), (0, .ref a_this), (1, .ref (sq 1)), (5, .int J23_l5)]) hx hb dX5_wordIn_76 hl (Nat.le_of_ble_eq_true rfl) rfl (fun ls hl => ?_)
          refine lv_goto (tgt := 119) hx hb dX5_wordIn_78 rfl ?_
          exact jn119 z7 x_this_at 1 H locs ls (ib_w 0 1599 hK67_x_this_at rfl) (ib_w 0 4 hK67_J23_l5 rfl) (ib_w 1 1 hK67_x_this_sort rfl) (ib_w 0 1604 hK67_x_this_at rfl) (ib_w 0 1 (ib_c 1 1 1 rfl) rfl) (by have := (hK67_J23_l5).1; have := (hK67_x_this_at).2; omega) (by rw [lf_u Ez7]; try simp only [show (1 : Int32).toInt = (1 : Int) from rfl]; exact hq) hP hD hS (lv_sub hl [3, 4, 2, 1, 0, 5] rfl)
        have jn52 : ∀  (H : Heap) (locs : List Loc) (ls : Array Slot), ib J23_l3 0 1604 → ib J23_l4 0 1 → ib J23_l5 0 4 → ib x_this_at 0 1599 → ib x_this_sort 1 1 → (O = F_X5_wordIn_s1_52 (Int32.toInt x_this_at) (Int32.toInt x_this_behind) (Int32.toInt J23_l2) (Int32.toInt J23_l3) (Int32.toInt J23_l4) (Int32.toInt J23_l5) K23 ) → va_P (dC, dI) vwCl [(wo_5_riiiiirii a_this a_this_text x_this_length x_this_at x_this_behind x_this_sort x_this_allowed a_this_plan x_this_fault x_this_place), (wi_0_1600_0 a_this_text cy g_this_text)] H → va_D A [(wo_5_riiiiirii a_this a_this_text x_this_length x_this_at x_this_behind x_this_sort x_this_allowed a_this_plan x_this_fault x_this_place), (wi_0_1600_0 a_this_text cy g_this_text)] → va_S A s.heap H locs → lv_has ls 6 [(0, .ref a_this), (1, .ref (sq 1)), (2, .int J23_l2), (3, .int J23_l3), (4, .int J23_l4), (5, .int J23_l5)] → W p l e { frames := 4, cells := 0, slots := 0, locals := 141 } s m args below meth c H locs 0 0 Q (F0 m 52 ls []) := by
          as_aux_lemma =>
            intro H locs ls hK52_J23_l3 hK52_J23_l4 hK52_J23_l5 hK52_x_this_at hK52_x_this_sort hq hP hD hS hl
            unfold F_X5_wordIn_s1_52 at hq
            refine lv_iload hx hb dX5_wordIn_52 (lv_at hl 4 rfl) ?_
            refine lv_if_eq (tgt := 67) hx hb dX5_wordIn_54 rfl (fun c8 => ?_) (fun c8 => ?_)
            · replace hq := lf_pos hq (lf_eq (lf_rf J23_l4) (lf_lc 0 (0 : Int) rfl) c8)
              have h9 := ib_eq hK52_J23_l4 (ib_c 0 0 0 rfl) c8
              have h10 : ib J23_l4 0 0 := ib_w 0 0 h9.1 rfl
              exact jn67  H locs ls (ib_w 0 1604 hK52_J23_l3 rfl) (ib_w 0 1 h10 rfl) (ib_w 0 4 hK52_J23_l5 rfl) (ib_w 0 1599 hK52_x_this_at rfl) (ib_w 1 1 hK52_x_this_sort rfl) (by exact hq) hP hD hS (lv_sub hl [0, 1, 2, 3, 4, 5] rfl)
            · replace hq := lf_neg hq (lf_ne (lf_rf J23_l4) (lf_lc 0 (0 : Int) rfl) c8)
              have h11 : ib J23_l4 1 1 := ib_w 1 1 (ib_ne_lo 0 hK52_J23_l4 rfl c8) rfl
              refine lv_iload_n hx hb dX5_wordIn_57 rfl (lv_at hl 3 rfl) ?_
              refine lv_aload_n hx hb dX5_wordIn_58 rfl (lv_at hl 0 rfl) ?_
              refine k_get C0 fg_X5_18 hP 0 rfl rfl dX5_wordIn_59 ?_
              refine lv_icmp_ne (tgt := 67) hx hb dX5_wordIn_62 rfl (fun c12 => ?_) (fun c12 => ?_)
              · replace hq := lf_neg hq (lf_ne (lf_rf J23_l3) (lf_rf x_this_behind) c12)
                exact jn67  H locs ls (ib_w 0 1604 hK52_J23_l3 rfl) (ib_w 0 1 h11 rfl) (ib_w 0 4 hK52_J23_l5 rfl) (ib_w 0 1599 hK52_x_this_at rfl) (ib_w 1 1 hK52_x_this_sort rfl) (by exact hq) hP hD hS (lv_sub hl [0, 1, 2, 3, 4, 5] rfl)
              · replace hq := lf_pos hq (lf_eq (lf_rf J23_l3) (lf_rf x_this_behind) c12)
                have h13 := ib_eq hK52_J23_l3 hx_this_behind c12
                have h14 : ib J23_l3 0 1600 := ib_w 0 1600 h13.1 rfl
                refine lv_iload_n hx hb dX5_wordIn_65 rfl (lv_at hl 2 rfl) ?_
                subst hQ; exact k_iret hx hb hr hlk rfl () hS ((hO.symm.trans (by exact hq))) hP hD (Nat.le_of_ble_eq_true rfl) (Nat.le_of_ble_eq_true rfl) dX5_wordIn_66
        refine lv_iload hx hb dX5_wordIn_23 (lv_at hl 5 rfl) ?_
        refine lv_aload_n hx hb dX5_wordIn_25 rfl (lv_at hl 1 rfl) ?_
        refine k_jim hP hD hS hA [] [true, true] rfl rfl rfl 0 0 (Nat.le_of_ble_eq_true rfl) (Nat.le_of_ble_eq_true rfl) (fun hPc hDc => k_runVO (As := []) (rest := [.int J23_l5]) C0 hZ hS hA (c_length l dC dI cy sq 1 (by decide)) mV_X5_244 hPc hDc (vk_recv hZ.1 (by decide) hS) hl rfl rfl (Nat.le_of_ble_eq_true rfl) ⟨(Nat.le_of_ble_eq_true rfl), (Nat.le_of_ble_eq_true rfl)⟩ ⟨(Nat.le_of_ble_eq_true rfl), (Nat.le_of_ble_eq_true rfl)⟩ dX5_wordIn_26) (fun r15 u16 H locs hw hP hD hS => ?_)
        replace hP : va_P (dC, dI) vwCl [(wo_5_riiiiirii a_this a_this_text x_this_length x_this_at x_this_behind x_this_sort x_this_allowed a_this_plan x_this_fault x_this_place), (wi_0_1600_0 a_this_text cy g_this_text)] H := hP
        replace hD := k_D hP hD
        obtain rfl : r15 = 4 := hw.trans (by decide)
        refine lv_icmp_gt (tgt := 125) hx hb dX5_wordIn_29 rfl (fun c17 => ?_) (fun c17 => ?_)
        · replace hq := lf_pos hq (lf_lt (lf_lc 4 (4 : Int) rfl) (lf_rf J23_l5) c17)
          have h18 := ib_lt (ib_c 4 4 4 rfl) hJ23_l5 c17
          have h19 : ib J23_l5 5 5 := ib_w 5 5 h18.2 rfl
          refine lv_iconst (v := (-1)) hx hb dX5_wordIn_125 rfl ?_
          subst hQ; exact k_iret hx hb hr hlk rfl () hS ((hO.symm.trans (by try simp only [show ((-1) : Int32).toInt = (-1 : Int) from rfl]; exact hq))) hP hD (Nat.le_of_ble_eq_true rfl) (Nat.le_of_ble_eq_true rfl) dX5_wordIn_126
        · as_aux_lemma =>
            replace hq := lf_neg hq (lf_nlt (lf_lc 4 (4 : Int) rfl) (lf_rf J23_l5) c17)
            have h20 := ib_nlt (ib_c 4 4 4 rfl) hJ23_l5 c17
            have h21 : ib J23_l5 0 4 := ib_w 0 4 h20.2 rfl
            refine lv_iload hx hb dX5_wordIn_32 (lv_at hl 5 rfl) ?_
            refine lv_aload_n hx hb dX5_wordIn_34 rfl (lv_at hl 1 rfl) ?_
            refine k_jim hP hD hS hA [] [true, true] rfl rfl rfl 0 0 (Nat.le_of_ble_eq_true rfl) (Nat.le_of_ble_eq_true rfl) (fun hPc hDc => k_runVO (As := []) (rest := [.int J23_l5]) C0 hZ hS hA (c_length l dC dI cy sq 1 (by decide)) mV_X5_244 hPc hDc (vk_recv hZ.1 (by decide) hS) hl rfl rfl (Nat.le_of_ble_eq_true rfl) ⟨(Nat.le_of_ble_eq_true rfl), (Nat.le_of_ble_eq_true rfl)⟩ ⟨(Nat.le_of_ble_eq_true rfl), (Nat.le_of_ble_eq_true rfl)⟩ dX5_wordIn_35) (fun r22 u23 H locs hw hP hD hS => ?_)
            replace hP : va_P (dC, dI) vwCl [(wo_5_riiiiirii a_this a_this_text x_this_length x_this_at x_this_behind x_this_sort x_this_allowed a_this_plan x_this_fault x_this_place), (wi_0_1600_0 a_this_text cy g_this_text)] H := hP
            replace hD := k_D hP hD
            obtain rfl : r22 = 4 := hw.trans (by decide)
            refine lv_icmp_eq (tgt := 52) hx hb dX5_wordIn_38 rfl (fun c24 => ?_) (fun c24 => ?_)
            · replace hq := lf_pos hq (lf_eq (lf_rf J23_l5) (lf_lc 4 (4 : Int) rfl) c24)
              have h25 := ib_eq h21 (ib_c 4 4 4 rfl) c24
              have h26 : ib J23_l5 4 4 := ib_w 4 4 h25.1 rfl
              exact jn52  H locs ls (ib_w 0 1604 hJ23_l3 rfl) (ib_w 0 1 hJ23_l4 rfl) (ib_w 0 4 h26 rfl) (ib_w 0 1599 hK23_x_this_at rfl) (ib_w 1 1 hK23_x_this_sort rfl) (by exact hq) hP hD hS (lv_sub hl [0, 1, 2, 3, 4, 5] rfl)
            · as_aux_lemma =>
                replace hq := lf_neg hq (lf_ne (lf_rf J23_l5) (lf_lc 4 (4 : Int) rfl) c24)
                have h27 : ib J23_l5 0 3 := ib_w 0 3 (ib_ne_hi 4 h21 rfl c24) rfl
                refine lv_aload_n hx hb dX5_wordIn_41 rfl (lv_at hl 1 rfl) ?_
                refine lv_iload hx hb dX5_wordIn_42 (lv_at hl 5 rfl) ?_
                refine k_jim hP hD hS hA [] [true, true] rfl rfl rfl 0 0 (Nat.le_of_ble_eq_true rfl) (Nat.le_of_ble_eq_true rfl) (fun hPc hDc => k_runVO (As := [.int J23_l5]) (rest := []) C0 hZ hS hA (cx_charAt l dC dI cy sq 1 (by decide) J23_l5 (ib_ch 1 4 h27 rfl rfl).1 (ib_ch 1 4 h27 rfl rfl).2.1 (ib_ch 1 4 h27 rfl rfl).2.2) mV_X5_248 hPc hDc (vk_recv hZ.1 (by decide) hS) hl rfl rfl (Nat.le_of_ble_eq_true rfl) ⟨(Nat.le_of_ble_eq_true rfl), (Nat.le_of_ble_eq_true rfl)⟩ ⟨(Nat.le_of_ble_eq_true rfl), (Nat.le_of_ble_eq_true rfl)⟩ dX5_wordIn_44) (fun r28 u29 H locs hw hP hD hS => ?_)
                replace hP : va_P (dC, dI) vwCl [(wo_5_riiiiirii a_this a_this_text x_this_length x_this_at x_this_behind x_this_sort x_this_allowed a_this_plan x_this_fault x_this_place), (wi_0_1600_0 a_this_text cy g_this_text)] H := hP
                replace hD := k_D hP hD
                have Er28 := lf_cha (j := 1) hw (lf_rf J23_l5)
                refine lv_bipush (v := 32) hx hb dX5_wordIn_47 rfl ?_
                refine lv_icmp_ne (tgt := 81) hx hb dX5_wordIn_49 rfl (fun c30 => ?_) (fun c30 => ?_)
                · as_aux_lemma =>
                    replace hq := lf_neg hq (lf_ne Er28 (lf_lc 32 (32 : Int) rfl) c30)
                    refine lv_iload hx hb dX5_wordIn_81 (lv_at hl 4 rfl) ?_
                    refine lv_if_eq (tgt := 113) hx hb dX5_wordIn_83 rfl (fun c31 => ?_) (fun c31 => ?_)
                    · replace hq := lf_pos hq (lf_eq (lf_rf J23_l4) (lf_lc 0 (0 : Int) rfl) c31)
                      have h32 := ib_eq hJ23_l4 (ib_c 0 0 0 rfl) c31
                      have h33 : ib J23_l4 0 0 := ib_w 0 0 h32.1 rfl
                      have h34 : ib J23_l3 0 1603 := ⟨(hJ23_l3).1, by have := (hJ23_l3).2; have := hJ23_lin0; have := (h27).2; omega⟩
                      exact jn113  H locs ls (ib_w 0 1603 h34 rfl) (ib_w 0 1 h33 rfl) (ib_w 0 3 h27 rfl) (ib_w 0 1599 hK23_x_this_at rfl) (ib_w 1 1 hK23_x_this_sort rfl) (by have := hJ23_lin0; omega) (by exact hq) hP hD hS (lv_sub hl [0, 1, 2, 3, 4, 5] rfl)
                    · as_aux_lemma =>
                        replace hq := lf_neg hq (lf_ne (lf_rf J23_l4) (lf_lc 0 (0 : Int) rfl) c31)
                        have h35 : ib J23_l4 1 1 := ib_w 1 1 (ib_ne_lo 0 hJ23_l4 rfl c31) rfl
                        refine lv_iload_n hx hb dX5_wordIn_86 rfl (lv_at hl 3 rfl) ?_
                        refine lv_aload_n hx hb dX5_wordIn_87 rfl (lv_at hl 0 rfl) ?_
                        refine k_get C0 fg_X5_18 hP 0 rfl rfl dX5_wordIn_88 ?_
                        refine lv_icmp_ge (tgt := 113) hx hb dX5_wordIn_91 rfl (fun c36 => ?_) (fun c36 => ?_)
                        · replace hq := lf_pos hq (lf_le (lf_rf x_this_behind) (lf_rf J23_l3) c36)
                          have h37 := ib_le hx_this_behind hJ23_l3 c36
                          have h38 : ib J23_l3 0 1603 := ⟨(hJ23_l3).1, by have := (hJ23_l3).2; have := hJ23_lin0; have := (h27).2; omega⟩
                          exact jn113  H locs ls (ib_w 0 1603 h38 rfl) (ib_w 0 1 h35 rfl) (ib_w 0 3 h27 rfl) (ib_w 0 1599 hK23_x_this_at rfl) (ib_w 1 1 hK23_x_this_sort rfl) (by have := hJ23_lin0; omega) (by exact hq) hP hD hS (lv_sub hl [0, 1, 2, 3, 4, 5] rfl)
                        · as_aux_lemma =>
                            replace hq := lf_neg hq (lf_nle (lf_rf x_this_behind) (lf_rf J23_l3) c36)
                            have h39 := ib_nle hx_this_behind hJ23_l3 c36
                            have h40 : ib x_this_behind 1 1600 := ib_w 1 1600 h39.1 rfl
                            have h41 : ib J23_l3 0 1599 := ib_w 0 1599 h39.2 rfl
                            refine lv_aload_n hx hb dX5_wordIn_94 rfl (lv_at hl 0 rfl) ?_
                            refine k_get C0 fg_X5_33 hP 0 rfl rfl dX5_wordIn_95 ?_
                            refine lv_iload_n hx hb dX5_wordIn_98 rfl (lv_at hl 3 rfl) ?_
                            refine va_iald hx hb C0.2.2.2.2.2.1 hP 1 0 rfl rfl (ib_in 1600 h41 rfl) dX5_wordIn_99 ?_
                            refine lv_topi (fun z42 ez42 => ?_)
                            have h43 : ib z42 0 255 := by rw [ez42]; exact ia_at hg_this_text (ib_in 1600 h41 rfl)
                            have Ez42 := lf_ld ez42 (lf_ra g_this_text) (lf_rf J23_l3)
                            refine lv_aload_n hx hb dX5_wordIn_100 rfl (lv_at hl 1 rfl) ?_
                            refine lv_iload hx hb dX5_wordIn_101 (lv_at hl 5 rfl) ?_
                            refine k_jim hP hD hS hA [] [true, true] rfl rfl rfl 0 0 (Nat.le_of_ble_eq_true rfl) (Nat.le_of_ble_eq_true rfl) (fun hPc hDc => k_runVO (As := [.int J23_l5]) (rest := [.int z42]) C0 hZ hS hA (cx_charAt l dC dI cy sq 1 (by decide) J23_l5 (ib_ch 1 4 h27 rfl rfl).1 (ib_ch 1 4 h27 rfl rfl).2.1 (ib_ch 1 4 h27 rfl rfl).2.2) mV_X5_248 hPc hDc (vk_recv hZ.1 (by decide) hS) hl rfl rfl (Nat.le_of_ble_eq_true rfl) ⟨(Nat.le_of_ble_eq_true rfl), (Nat.le_of_ble_eq_true rfl)⟩ ⟨(Nat.le_of_ble_eq_true rfl), (Nat.le_of_ble_eq_true rfl)⟩ dX5_wordIn_103) (fun r44 u45 H locs hw hP hD hS => ?_)
                            replace hP : va_P (dC, dI) vwCl [(wo_5_riiiiirii a_this a_this_text x_this_length x_this_at x_this_behind x_this_sort x_this_allowed a_this_plan x_this_fault x_this_place), (wi_0_1600_0 a_this_text cy g_this_text)] H := hP
                            replace hD := k_D hP hD
                            have Er44 := lf_cha (j := 1) hw (lf_rf J23_l5)
                            refine lv_icmp_ne (tgt := 113) hx hb dX5_wordIn_106 rfl (fun c46 => ?_) (fun c46 => ?_)
                            · replace hq := lf_neg hq (lf_ne Ez42 Er44 c46)
                              exact jn113  H locs ls (ib_w 0 1603 h41 rfl) (ib_w 0 1 h35 rfl) (ib_w 0 3 h27 rfl) (ib_w 0 1599 hK23_x_this_at rfl) (ib_w 1 1 hK23_x_this_sort rfl) (by have := hJ23_lin0; omega) (by exact hq) hP hD hS (lv_sub hl [0, 1, 2, 3, 4, 5] rfl)
                            · replace hq := lf_pos hq (lf_eq Ez42 Er44 c46)
                              have h47 := ib_eq h43 (ib_any r44) c46
                              have h48 : ib r44 0 255 := ib_w 0 255 h47.2 rfl
                              refine lv_iconst (v := 1) hx hb dX5_wordIn_109 rfl ?_
                              refine lv_goto (tgt := 114) hx hb dX5_wordIn_110 rfl ?_
                              exact jn114 1 H locs ls (ib_w 0 1603 h41 rfl) (ib_w 0 1 h35 rfl) (ib_w 0 3 h27 rfl) (ib_w 0 1599 hK23_x_this_at rfl) (ib_w 1 1 hK23_x_this_sort rfl) (ib_w 0 1 (ib_c 1 1 1 rfl) rfl) (by have := hJ23_lin0; omega) (by try simp only [show (1 : Int32).toInt = (1 : Int) from rfl]; exact hq) hP hD hS (lv_sub hl [0, 1, 2, 3, 4, 5] rfl)
                · replace hq := lf_pos hq (lf_eq Er28 (lf_lc 32 (32 : Int) rfl) c30)
                  have h49 := ib_eq (ib_any r28) (ib_c 32 32 32 rfl) c30
                  have h50 : ib r28 32 32 := ib_w 32 32 h49.1 rfl
                  have h51 : ib J23_l3 0 1603 := ⟨(hJ23_l3).1, by have := (hJ23_l3).2; have := hJ23_lin0; have := (h27).2; omega⟩
                  exact jn52  H locs ls (ib_w 0 1604 h51 rfl) (ib_w 0 1 hJ23_l4 rfl) (ib_w 0 4 h27 rfl) (ib_w 0 1599 hK23_x_this_at rfl) (ib_w 1 1 hK23_x_this_sort rfl) (by exact hq) hP hD hS (lv_sub hl [0, 1, 2, 3, 4, 5] rfl)
  refine lv_aload_n hx hb dX5_wordIn_0 rfl (lv_at hl 0 rfl) ?_
  refine k_get C0 fg_X5_21 hP 0 rfl rfl dX5_wordIn_1 ?_
  refine lv_iconst (v := 1) hx hb dX5_wordIn_4 rfl ?_
  refine lv_icmp_eq (tgt := 10) hx hb dX5_wordIn_5 rfl (fun c52 => ?_) (fun c52 => ?_)
  · replace hq := lf_pos hq (lf_eq (lf_rf x_this_sort) (lf_lc 1 (1 : Int) rfl) c52)
    have h53 := ib_eq hx_this_sort (ib_c 1 1 1 rfl) c52
    have h54 : ib x_this_sort 1 1 := ib_w 1 1 h53.1 rfl
    have h55 : ib x_this_at 0 1599 := ib_w 0 1599 (ib_two hx_this_at (hc0_this (ib_nz h54 rfl))) rfl
    refine lv_iconst (v := 0) hx hb dX5_wordIn_10 rfl ?_
    refine lv_istore_n (lv' := [(2, .int 0), (0, .ref a_this), (1, .ref (sq 1))]) hx hb dX5_wordIn_11 rfl hl (Nat.le_of_ble_eq_true rfl) rfl (fun ls hl => ?_)
    refine lv_aload_n hx hb dX5_wordIn_12 rfl (lv_at hl 1 rfl) ?_
    refine k_get C0 fg_X5_15 hP 0 rfl rfl dX5_wordIn_13 ?_
    refine lv_istore_n (lv' := [(3, .int x_this_at), (2, .int 0), (0, .ref a_this), (1, .ref (sq 1))]) hx hb dX5_wordIn_16 rfl hl (Nat.le_of_ble_eq_true rfl) rfl (fun ls hl => ?_)
    refine lv_iconst (v := 1) hx hb dX5_wordIn_17 rfl ?_
    refine lv_istore (lv' := [(4, .int 1), (3, .int x_this_at), (2, .int 0), (0, .ref a_this), (1, .ref (sq 1))]) hx hb dX5_wordIn_18 hl (Nat.le_of_ble_eq_true rfl) rfl (fun ls hl => ?_)
    refine lv_iconst (v := 0) hx hb dX5_wordIn_20 rfl ?_
    refine lv_istore (lv' := [(5, .int 0), (4, .int 1), (3, .int x_this_at), (2, .int 0), (0, .ref a_this), (1, .ref (sq 1))]) hx hb dX5_wordIn_21 hl (Nat.le_of_ble_eq_true rfl) rfl (fun ls hl => ?_)
    exact jn23 7 0 x_this_at 1 0 H locs ls (ib_w 0 1599 h55 rfl) (ib_w 1 1 h54 rfl) (ib_w 0 1604 h55 rfl) (ib_w 0 1 (ib_c 1 1 1 rfl) rfl) (ib_w 0 5 (ib_c 0 0 0 rfl) rfl) (by have : (0 : Int32).toInt = 0 := rfl; have := (h55).2; omega) (by try simp only [show (0 : Int32).toInt = (0 : Int) from rfl]; try simp only [show (1 : Int32).toInt = (1 : Int) from rfl]; exact hq) (by have := (ib_c 0 0 0 rfl); unfold ib at this; omega) hP hD hS (lv_sub hl [4, 5, 3, 2, 1, 0] rfl)
  · replace hq := lf_neg hq (lf_ne (lf_rf x_this_sort) (lf_lc 1 (1 : Int) rfl) c52)
    refine lv_iconst (v := (-1)) hx hb dX5_wordIn_8 rfl ?_
    subst hQ; exact k_iret hx hb hr hlk rfl () hS ((hO.symm.trans (by try simp only [show ((-1) : Int32).toInt = (-1 : Int) from rfl]; exact hq))) hP hD (Nat.le_of_ble_eq_true rfl) (Nat.le_of_ble_eq_true rfl) dX5_wordIn_9
set_option maxHeartbeats 4000000 in
set_option maxRecDepth 100000 in
theorem s_X5_needWord_s1 (l : Launch) (dC : Nat → ClassId) (dI : Nat → Nat → Nat) (cy : Nat → ClassId) (sq : Nat → Nat) (a_this : Nat) (a_this_text : Nat) (g_this_text : Nat → Int32) (x_this_length : Int32) (x_this_at : Int32) (x_this_behind : Int32) (x_this_sort : Int32) (x_this_allowed : Int32) (a_this_plan : Nat) (x_this_fault : Int32) (x_this_place : Int32) (hg_this_text : ia g_this_text 1600 0 255) (hx_this_length : ib x_this_length 0 1600) (hx_this_at : ib x_this_at 0 1600) (hx_this_behind : ib x_this_behind 0 1600) (hx_this_sort : ib x_this_sort 0 4) (hc0_this : ¬ x_this_sort = 0 → ib x_this_at 0 1599) : k_Met l yX5_needWord cX5_needWord 2 none { frames := 5, cells := 0, slots := 0, locals := 166 } dC dI cy sq [.ref a_this, .ref (sq 1)] [(wo_5_riiiiirii a_this a_this_text x_this_length x_this_at x_this_behind x_this_sort x_this_allowed a_this_plan x_this_fault x_this_place), (wi_0_1600_0 a_this_text cy g_this_text)] (k_Qv dC dI (fun (u : Int32 × Int32 × Int32 × Int32 × Int32) => match u with | (n0, n1, n2, n3, n4) => ib n0 0 1600 ∧ ib n1 0 1600 ∧ ib n2 0 4 ∧ (¬ n2 = 0 → ib n0 0 1599) ∧ (F_X5_needWord_s1 (lf_A g_this_text) (Int32.toInt x_this_length) (Int32.toInt x_this_at) (Int32.toInt x_this_behind) (Int32.toInt x_this_sort) (Int32.toInt x_this_fault) (Int32.toInt x_this_place) = ((Int32.toInt n0), (Int32.toInt n1), (Int32.toInt n2), (Int32.toInt n3), (Int32.toInt n4)))) (fun u : Int32 × Int32 × Int32 × Int32 × Int32 => match u with | (n0, n1, n2, n3, n4) => [(wo_5_riiiiirii a_this a_this_text x_this_length n0 n1 n2 x_this_allowed a_this_plan n3 n4), (wi_0_1600_0 a_this_text cy g_this_text)])) := by
  refine k_ofW2 (by decide +kernel) (Nat.le_of_ble_eq_true rfl) ?_
  intro p e s m below meth c A ls H locs args Q hQ C0 hZ hr hlk hin hP hD hA hS hl
  have C0 : k_cx p s m args c cX5_needWord 2 RX5 dC dI cy sq := C0
  have hx := C0.1
  have hb := C0.2.1
  have hl : lv_has ls 2 [(0, .ref a_this), (1, .ref (sq 1))] := hl
  obtain ⟨O, hO⟩ : ∃ o, o = F_X5_needWord_s1 (lf_A g_this_text) (Int32.toInt x_this_length) (Int32.toInt x_this_at) (Int32.toInt x_this_behind) (Int32.toInt x_this_sort) (Int32.toInt x_this_fault) (Int32.toInt x_this_place) := ⟨_, rfl⟩
  have hq := hO
  unfold F_X5_needWord_s1 at hq
  refine lv_aload_n hx hb dX5_needWord_0 rfl (lv_at hl 0 rfl) ?_
  refine lv_aload_n hx hb dX5_needWord_1 rfl (lv_at hl 1 rfl) ?_
  refine k_jim hP hD hS hA [0, 1] [] rfl rfl rfl 0 0 (Nat.le_of_ble_eq_true rfl) (Nat.le_of_ble_eq_true rfl) (fun hPc hDc => k_runV (As := [.ref (sq 1)]) (rest := []) C0 hZ hS hA (s_X5_wordIn_s1 l dC dI cy sq a_this a_this_text g_this_text x_this_length x_this_at x_this_behind x_this_sort x_this_allowed a_this_plan x_this_fault x_this_place hg_this_text (ib_w 0 1600 hx_this_at rfl) (ib_w 0 1600 hx_this_behind rfl) (ib_w 0 4 hx_this_sort rfl) (fun hq9 => ib_w 0 1599 (hc0_this hq9) rfl)) mV_X5_54 hPc hDc rfl rfl rfl hl rfl rfl (Nat.le_of_ble_eq_true rfl) ⟨(Nat.le_of_ble_eq_true rfl), (Nat.le_of_ble_eq_true rfl)⟩ ⟨(Nat.le_of_ble_eq_true rfl), (Nat.le_of_ble_eq_true rfl)⟩ dX5_needWord_2) (fun r1 u2 H locs hw hP hD hS => ?_)
  try dsimp only at hP hD hw
  replace hP : va_P (dC, dI) vwCl [(wo_5_riiiiirii a_this a_this_text x_this_length x_this_at x_this_behind x_this_sort x_this_allowed a_this_plan x_this_fault x_this_place), (wi_0_1600_0 a_this_text cy g_this_text)] H := hP
  replace hD := k_D hP hD
  have h3 := hw
  replace hq := lf_b1 hq h3
  refine lv_iconst (v := (-1)) hx hb dX5_needWord_5 rfl ?_
  refine lv_icmp_ne (tgt := 21) hx hb dX5_needWord_6 rfl (fun c4 => ?_) (fun c4 => ?_)
  · replace hq := lf_neg hq (lf_ne (lf_rf r1) (lf_lc (-1) (-1 : Int) rfl) c4)
    refine lv_aload_n hx hb dX5_needWord_21 rfl (lv_at hl 0 rfl) ?_
    refine lv_aload_n hx hb dX5_needWord_22 rfl (lv_at hl 0 rfl) ?_
    refine k_get C0 fg_X5_18 hP 0 rfl rfl dX5_needWord_23 ?_
    refine k_jvm hP hD hS hA [0, 1] [] rfl rfl rfl 0 0 (Nat.le_of_ble_eq_true rfl) (Nat.le_of_ble_eq_true rfl) (fun hPc hDc => k_runV (As := [.int x_this_behind]) (rest := []) C0 hZ hS hA (s_X5_moveTo l dC dI cy sq a_this a_this_text g_this_text x_this_length x_this_at x_this_behind x_this_sort x_this_allowed a_this_plan x_this_fault x_this_place x_this_behind hg_this_text (ib_w 0 1600 hx_this_length rfl) (ib_w 0 1600 hx_this_behind rfl)) mV_X5_86 hPc hDc rfl rfl rfl hl rfl rfl (Nat.le_of_ble_eq_true rfl) ⟨(Nat.le_of_ble_eq_true rfl), (Nat.le_of_ble_eq_true rfl)⟩ ⟨(Nat.le_of_ble_eq_true rfl), (Nat.le_of_ble_eq_true rfl)⟩ dX5_needWord_26) (fun u6 H locs hw hP hD hS => ?_)
    obtain ⟨v7, v8, v9⟩ := u6
    try dsimp only at hP hD hw
    replace hP : va_P (dC, dI) vwCl [(wo_5_riiiiirii a_this a_this_text x_this_length v7 v8 v9 x_this_allowed a_this_plan x_this_fault x_this_place), (wi_0_1600_0 a_this_text cy g_this_text)] H := hP
    replace hD := k_D hP hD
    obtain ⟨h10, h11, h12, h13, h14⟩ := hw
    replace hq := lf_p1 hq h14
    replace hq := lf_p1 hq rfl
    subst hQ; exact k_vret hx hb hr hlk ((v7, v8, v9, x_this_fault, x_this_place)) hS ⟨ib_w 0 1600 h10 rfl, ib_w 0 1600 h11 rfl, ib_w 0 4 h12 rfl, fun hq9 => ib_w 0 1599 (h13 hq9) rfl, (hO.symm.trans (by exact hq))⟩ hP hD (Nat.le_of_ble_eq_true rfl) (Nat.le_of_ble_eq_true rfl) dX5_needWord_29
  · replace hq := lf_pos hq (lf_eq (lf_rf r1) (lf_lc (-1) (-1 : Int) rfl) c4)
    have h15 := ib_eq (ib_any r1) (ib_c (-1) (-1) (-1) rfl) c4
    have h16 : ib r1 (-1) (-1) := ib_w (-1) (-1) h15.1 rfl
    refine lv_aload_n hx hb dX5_needWord_9 rfl (lv_at hl 0 rfl) ?_
    refine lv_iconst (v := 1) hx hb dX5_needWord_10 rfl ?_
    refine lv_aload_n hx hb dX5_needWord_11 rfl (lv_at hl 0 rfl) ?_
    refine k_get C0 fg_X5_15 hP 0 rfl rfl dX5_needWord_12 ?_
    refine k_jvm hP hD hS hA [0] [false, true] rfl rfl rfl 0 0 (Nat.le_of_ble_eq_true rfl) (Nat.le_of_ble_eq_true rfl) (fun hPc hDc => k_runV (As := [.int 1, .int x_this_at]) (rest := []) C0 hZ hS hA (s_X5_fail l dC dI cy sq a_this a_this_text x_this_length x_this_at x_this_behind x_this_sort x_this_allowed a_this_plan x_this_fault x_this_place 1 x_this_at ) mV_X5_78 hPc hDc rfl rfl rfl hl rfl rfl (Nat.le_of_ble_eq_true rfl) ⟨(Nat.le_of_ble_eq_true rfl), (Nat.le_of_ble_eq_true rfl)⟩ ⟨(Nat.le_of_ble_eq_true rfl), (Nat.le_of_ble_eq_true rfl)⟩ dX5_needWord_15) (fun u18 H locs hw hP hD hS => ?_)
    obtain ⟨v19, v20⟩ := u18
    try dsimp only at hP hD hw
    replace hP : va_P (dC, dI) vwCl [(wi_0_1600_0 a_this_text cy g_this_text), (wo_5_riiiiirii a_this a_this_text x_this_length x_this_length x_this_length 0 x_this_allowed a_this_plan v19 v20)] H := hP
    replace hD := k_D hP hD
    have h21 := hw
    have h21 := by have h9 := h21; try simp only [show (1 : Int32).toInt = (1 : Int) from rfl] at h9; exact h9
    replace hq := lf_p1 hq h21
    refine lv_goto (tgt := 29) hx hb dX5_needWord_18 rfl ?_
    subst hQ; exact k_vret hx hb hr hlk ((x_this_length, x_this_length, 0, v19, v20)) hS ⟨ib_w 0 1600 hx_this_length rfl, ib_w 0 1600 hx_this_length rfl, ib_w 0 4 (ib_c 0 0 0 rfl) rfl, fun hq9 => absurd rfl hq9, (hO.symm.trans (by try simp only [show (0 : Int32).toInt = (0 : Int) from rfl]; exact hq))⟩ (hP.sub [1, 0] rfl) (hD.sub [1, 0] rfl rfl) (Nat.le_of_ble_eq_true rfl) (Nat.le_of_ble_eq_true rfl) dX5_needWord_29
set_option maxHeartbeats 4000000 in
set_option maxRecDepth 100000 in
theorem s_X5_number_a0_0_a1_100 (l : Launch) (dC : Nat → ClassId) (dI : Nat → Nat → Nat) (cy : Nat → ClassId) (sq : Nat → Nat) (a_this : Nat) (a_this_text : Nat) (g_this_text : Nat → Int32) (x_this_length : Int32) (x_this_at : Int32) (x_this_behind : Int32) (x_this_sort : Int32) (x_this_allowed : Int32) (a_this_plan : Nat) (x_this_fault : Int32) (x_this_place : Int32) (hg_this_text : ia g_this_text 1600 0 255) (hx_this_length : ib x_this_length 0 1600) (hx_this_at : ib x_this_at 0 1600) (hx_this_behind : ib x_this_behind 0 1600) (hx_this_sort : ib x_this_sort 0 4) (hc0_this : ¬ x_this_sort = 0 → ib x_this_at 0 1599) : k_Met l yX5_number cX5_number 5 (some .int) { frames := 2, cells := 0, slots := 0, locals := 43 } dC dI cy sq [.ref a_this, .int 0, .int 100] [(wo_5_riiiiirii a_this a_this_text x_this_length x_this_at x_this_behind x_this_sort x_this_allowed a_this_plan x_this_fault x_this_place), (wi_0_1600_0 a_this_text cy g_this_text)] (k_Qi dC dI (fun (r : Int32) (u : Int32 × Int32 × Int32 × Int32 × Int32) => match u with | (n0, n1, n2, n3, n4) => ib r 0 100 ∧ ib n0 0 1600 ∧ ib n1 0 1600 ∧ ib n2 0 4 ∧ (¬ n2 = 0 → ib n0 0 1599) ∧ (F_X5_number_a0_0_a1_100 (lf_A g_this_text) (Int32.toInt x_this_length) (Int32.toInt x_this_at) (Int32.toInt x_this_behind) (Int32.toInt x_this_sort) (Int32.toInt x_this_fault) (Int32.toInt x_this_place) = ((Int32.toInt r), (Int32.toInt n0), (Int32.toInt n1), (Int32.toInt n2), (Int32.toInt n3), (Int32.toInt n4)))) (fun u : Int32 × Int32 × Int32 × Int32 × Int32 => match u with | (n0, n1, n2, n3, n4) => [(wo_5_riiiiirii a_this a_this_text x_this_length n0 n1 n2 x_this_allowed a_this_plan n3 n4), (wi_0_1600_0 a_this_text cy g_this_text)])) := by
  refine k_ofW2 (by decide +kernel) (Nat.le_of_ble_eq_true rfl) ?_
  intro p e s m below meth c A ls H locs args Q hQ C0 hZ hr hlk hin hP hD hA hS hl
  have C0 : k_cx p s m args c cX5_number 5 RX5 dC dI cy sq := C0
  have hx := C0.1
  have hb := C0.2.1
  have hl : lv_has ls 5 [(0, .ref a_this), (1, .int 0), (2, .int 100)] := hl
  obtain ⟨O, hO⟩ : ∃ o, o = F_X5_number_a0_0_a1_100 (lf_A g_this_text) (Int32.toInt x_this_length) (Int32.toInt x_this_at) (Int32.toInt x_this_behind) (Int32.toInt x_this_sort) (Int32.toInt x_this_fault) (Int32.toInt x_this_place) := ⟨_, rfl⟩
  have hq := hO
  unfold F_X5_number_a0_0_a1_100 at hq
  have jn94 : ∀ (J94_l3 : Int32) (J94_l4 : Int32) (H : Heap) (locs : List Loc) (ls : Array Slot), ib J94_l4 0 1600 → ib x_this_at 0 1599 → ib x_this_sort 2 2 → (O = F_X5_number_a0_0_a1_100_94 (Int32.toInt x_this_length) (Int32.toInt x_this_at) (Int32.toInt x_this_fault) (Int32.toInt x_this_place) (Int32.toInt J94_l3) (Int32.toInt J94_l4)) → va_P (dC, dI) vwCl [(wo_5_riiiiirii a_this a_this_text x_this_length x_this_at x_this_behind x_this_sort x_this_allowed a_this_plan x_this_fault x_this_place), (wi_0_1600_0 a_this_text cy g_this_text)] H → va_D A [(wo_5_riiiiirii a_this a_this_text x_this_length x_this_at x_this_behind x_this_sort x_this_allowed a_this_plan x_this_fault x_this_place), (wi_0_1600_0 a_this_text cy g_this_text)] → va_S A s.heap H locs → lv_has ls 5 [(0, .ref a_this), (1, .int 0), (2, .int 100), (3, .int J94_l3), (4, .int J94_l4)] → W p l e { frames := 2, cells := 0, slots := 0, locals := 43 } s m args below meth c H locs 0 0 Q (F0 m 94 ls []) := by
    intro J94_l3 J94_l4 H locs ls hJ94_l4 hK94_x_this_at hK94_x_this_sort hq hP hD hS hl
    unfold F_X5_number_a0_0_a1_100_94 at hq
    refine lv_aload_n hx hb dX5_number_94 rfl (lv_at hl 0 rfl) ?_
    refine lv_iconst (v := 2) hx hb dX5_number_95 rfl ?_
    refine lv_aload_n hx hb dX5_number_96 rfl (lv_at hl 0 rfl) ?_
    refine k_get C0 fg_X5_15 hP 0 rfl rfl dX5_number_97 ?_
    refine k_jvm hP hD hS hA [0] [false, true] rfl rfl rfl 0 0 (Nat.le_of_ble_eq_true rfl) (Nat.le_of_ble_eq_true rfl) (fun hPc hDc => k_runV (As := [.int 2, .int x_this_at]) (rest := []) C0 hZ hS hA (s_X5_fail l dC dI cy sq a_this a_this_text x_this_length x_this_at x_this_behind x_this_sort x_this_allowed a_this_plan x_this_fault x_this_place 2 x_this_at ) mV_X5_78 hPc hDc rfl rfl rfl hl rfl rfl (Nat.le_of_ble_eq_true rfl) ⟨(Nat.le_of_ble_eq_true rfl), (Nat.le_of_ble_eq_true rfl)⟩ ⟨(Nat.le_of_ble_eq_true rfl), (Nat.le_of_ble_eq_true rfl)⟩ dX5_number_100) (fun u2 H locs hw hP hD hS => ?_)
    obtain ⟨v3, v4⟩ := u2
    try dsimp only at hP hD hw
    replace hP : va_P (dC, dI) vwCl [(wi_0_1600_0 a_this_text cy g_this_text), (wo_5_riiiiirii a_this a_this_text x_this_length x_this_length x_this_length 0 x_this_allowed a_this_plan v3 v4)] H := hP
    replace hD := k_D hP hD
    have h5 := hw
    have h5 := by have h9 := h5; try simp only [show (2 : Int32).toInt = (2 : Int) from rfl] at h9; exact h9
    replace hq := lf_p1 hq h5
    refine lv_iload_n hx hb dX5_number_103 rfl (lv_at hl 1 rfl) ?_
    subst hQ; exact k_iret hx hb hr hlk rfl ((x_this_length, x_this_length, 0, v3, v4)) hS ⟨ib_w 0 100 (ib_c 0 0 0 rfl) rfl, ib_w 0 1600 hx_this_length rfl, ib_w 0 1600 hx_this_length rfl, ib_w 0 4 (ib_c 0 0 0 rfl) rfl, fun hq9 => absurd rfl hq9, (hO.symm.trans (by try simp only [show (0 : Int32).toInt = (0 : Int) from rfl]; exact hq))⟩ (hP.sub [1, 0] rfl) (hD.sub [1, 0] rfl rfl) (Nat.le_of_ble_eq_true rfl) (Nat.le_of_ble_eq_true rfl) dX5_number_104
  have jn53 : ∀ (n : Nat) (J53_l3 : Int32) (J53_l4 : Int32) (H : Heap) (locs : List Loc) (ls : Array Slot), ib x_this_at 0 1599 → ib x_this_sort 2 2 → ib J53_l4 0 1600 → (O = F_X5_number_a0_0_a1_100_53 (lf_A g_this_text) (Int32.toInt x_this_length) (Int32.toInt x_this_at) (Int32.toInt x_this_behind) (Int32.toInt x_this_fault) (Int32.toInt x_this_place) n (Int32.toInt J53_l3) (Int32.toInt J53_l4)) → 1601 ≤ J53_l4.toInt + (n : Int) → va_P (dC, dI) vwCl [(wo_5_riiiiirii a_this a_this_text x_this_length x_this_at x_this_behind x_this_sort x_this_allowed a_this_plan x_this_fault x_this_place), (wi_0_1600_0 a_this_text cy g_this_text)] H → va_D A [(wo_5_riiiiirii a_this a_this_text x_this_length x_this_at x_this_behind x_this_sort x_this_allowed a_this_plan x_this_fault x_this_place), (wi_0_1600_0 a_this_text cy g_this_text)] → va_S A s.heap H locs → lv_has ls 5 [(0, .ref a_this), (1, .int 0), (2, .int 100), (3, .int J53_l3), (4, .int J53_l4)] → W p l e { frames := 2, cells := 0, slots := 0, locals := 43 } s m args below meth c H locs 0 0 Q (F0 m 53 ls []) := by
    as_aux_lemma =>
      intro n
      induction n with
      | zero =>
        intro J53_l3 J53_l4 H locs ls hK53_x_this_at hK53_x_this_sort hJ53_l4 hq hm
        exact absurd hm (by have := hJ53_l4; unfold ib at this; omega)
      | succ n ih =>
        intro J53_l3 J53_l4 H locs ls hK53_x_this_at hK53_x_this_sort hJ53_l4 hq hm53 hP hD hS hl
        have ih53 := ih
        obtain ⟨K53, hK53⟩ : ∃ K, K = F_X5_number_a0_0_a1_100_53 (lf_A g_this_text) (Int32.toInt x_this_length) (Int32.toInt x_this_at) (Int32.toInt x_this_behind) (Int32.toInt x_this_fault) (Int32.toInt x_this_place) n := ⟨_, rfl⟩
        have hq : O = F_X5_number_a0_0_a1_100_53b (lf_A g_this_text) (Int32.toInt x_this_length) (Int32.toInt x_this_at) (Int32.toInt x_this_behind) (Int32.toInt x_this_fault) (Int32.toInt x_this_place) K53 (Int32.toInt J53_l3) (Int32.toInt J53_l4) := by rw [hK53]; exact hq
        unfold F_X5_number_a0_0_a1_100_53b at hq
        refine lv_iload hx hb dX5_number_53 (lv_at hl 4 rfl) ?_
        refine lv_aload_n hx hb dX5_number_55 rfl (lv_at hl 0 rfl) ?_
        refine k_get C0 fg_X5_18 hP 0 rfl rfl dX5_number_56 ?_
        refine lv_icmp_ge (tgt := 84) hx hb dX5_number_59 rfl (fun c6 => ?_) (fun c6 => ?_)
        · as_aux_lemma =>
            replace hq := lf_pos hq (lf_le (lf_rf x_this_behind) (lf_rf J53_l4) c6)
            have h7 := ib_le hx_this_behind hJ53_l4 c6
            refine lv_iload_n hx hb dX5_number_84 rfl (lv_at hl 3 rfl) ?_
            refine lv_iload_n hx hb dX5_number_85 rfl (lv_at hl 1 rfl) ?_
            refine lv_icmp_lt (tgt := 94) hx hb dX5_number_86 rfl (fun c8 => ?_) (fun c8 => ?_)
            · replace hq := lf_pos hq (lf_lt (lf_rf J53_l3) (lf_lc 0 (0 : Int) rfl) c8)
              have h9 := ib_lt (ib_any J53_l3) (ib_c 0 0 0 rfl) c8
              have h10 : ib J53_l3 (-2147483648) (-1) := ib_w (-2147483648) (-1) h9.1 rfl
              exact jn94 J53_l3 J53_l4 H locs ls (ib_w 0 1600 hJ53_l4 rfl) (ib_w 0 1599 hK53_x_this_at rfl) (ib_w 2 2 hK53_x_this_sort rfl) (by exact hq) hP hD hS (lv_sub hl [0, 1, 2, 3, 4] rfl)
            · as_aux_lemma =>
                replace hq := lf_neg hq (lf_nlt (lf_rf J53_l3) (lf_lc 0 (0 : Int) rfl) c8)
                have h11 := ib_nlt (ib_any J53_l3) (ib_c 0 0 0 rfl) c8
                have h12 : ib J53_l3 0 2147483647 := ib_w 0 2147483647 h11.1 rfl
                refine lv_iload_n hx hb dX5_number_89 rfl (lv_at hl 3 rfl) ?_
                refine lv_iload_n hx hb dX5_number_90 rfl (lv_at hl 2 rfl) ?_
                refine lv_icmp_le (tgt := 105) hx hb dX5_number_91 rfl (fun c13 => ?_) (fun c13 => ?_)
                · replace hq := lf_pos hq (lf_le (lf_rf J53_l3) (lf_lc 100 (100 : Int) rfl) c13)
                  have h14 := ib_le h12 (ib_c 100 100 100 rfl) c13
                  have h15 : ib J53_l3 0 100 := ib_w 0 100 h14.1 rfl
                  refine lv_aload_n hx hb dX5_number_105 rfl (lv_at hl 0 rfl) ?_
                  refine lv_aload_n hx hb dX5_number_106 rfl (lv_at hl 0 rfl) ?_
                  refine k_get C0 fg_X5_18 hP 0 rfl rfl dX5_number_107 ?_
                  refine k_jvm hP hD hS hA [0, 1] [] rfl rfl rfl 0 0 (Nat.le_of_ble_eq_true rfl) (Nat.le_of_ble_eq_true rfl) (fun hPc hDc => k_runV (As := [.int x_this_behind]) (rest := []) C0 hZ hS hA (s_X5_moveTo l dC dI cy sq a_this a_this_text g_this_text x_this_length x_this_at x_this_behind x_this_sort x_this_allowed a_this_plan x_this_fault x_this_place x_this_behind hg_this_text (ib_w 0 1600 hx_this_length rfl) (ib_w 0 1600 hx_this_behind rfl)) mV_X5_86 hPc hDc rfl rfl rfl hl rfl rfl (Nat.le_of_ble_eq_true rfl) ⟨(Nat.le_of_ble_eq_true rfl), (Nat.le_of_ble_eq_true rfl)⟩ ⟨(Nat.le_of_ble_eq_true rfl), (Nat.le_of_ble_eq_true rfl)⟩ dX5_number_110) (fun u17 H locs hw hP hD hS => ?_)
                  obtain ⟨v18, v19, v20⟩ := u17
                  try dsimp only at hP hD hw
                  replace hP : va_P (dC, dI) vwCl [(wo_5_riiiiirii a_this a_this_text x_this_length v18 v19 v20 x_this_allowed a_this_plan x_this_fault x_this_place), (wi_0_1600_0 a_this_text cy g_this_text)] H := hP
                  replace hD := k_D hP hD
                  obtain ⟨h21, h22, h23, h24, h25⟩ := hw
                  replace hq := lf_p1 hq h25
                  replace hq := lf_p1 hq rfl
                  refine lv_iload_n hx hb dX5_number_113 rfl (lv_at hl 3 rfl) ?_
                  subst hQ; exact k_iret hx hb hr hlk rfl ((v18, v19, v20, x_this_fault, x_this_place)) hS ⟨ib_w 0 100 h15 rfl, ib_w 0 1600 h21 rfl, ib_w 0 1600 h22 rfl, ib_w 0 4 h23 rfl, fun hq9 => ib_w 0 1599 (h24 hq9) rfl, (hO.symm.trans (by exact hq))⟩ hP hD (Nat.le_of_ble_eq_true rfl) (Nat.le_of_ble_eq_true rfl) dX5_number_114
                · replace hq := lf_neg hq (lf_nle (lf_rf J53_l3) (lf_lc 100 (100 : Int) rfl) c13)
                  have h26 := ib_nle h12 (ib_c 100 100 100 rfl) c13
                  have h27 : ib J53_l3 101 2147483647 := ib_w 101 2147483647 h26.1 rfl
                  exact jn94 J53_l3 J53_l4 H locs ls (ib_w 0 1600 hJ53_l4 rfl) (ib_w 0 1599 hK53_x_this_at rfl) (ib_w 2 2 hK53_x_this_sort rfl) (by exact hq) hP hD hS (lv_sub hl [0, 1, 2, 3, 4] rfl)
        · as_aux_lemma =>
            replace hq := lf_neg hq (lf_nle (lf_rf x_this_behind) (lf_rf J53_l4) c6)
            have h28 := ib_nle hx_this_behind hJ53_l4 c6
            have h29 : ib x_this_behind 1 1600 := ib_w 1 1600 h28.1 rfl
            have h30 : ib J53_l4 0 1599 := ib_w 0 1599 h28.2 rfl
            refine lv_iload_n hx hb dX5_number_62 rfl (lv_at hl 3 rfl) ?_
            refine lv_bipush (v := 10) hx hb dX5_number_63 rfl ?_
            refine lv_imul hx hb dX5_number_65 ?_
            refine lv_topi (fun z31 ez31 => ?_)
            have Ez31 := lf_op lf_imul ez31 (lf_rf J53_l3) (lf_lc 10 (10 : Int) rfl)
            refine lv_aload_n hx hb dX5_number_66 rfl (lv_at hl 0 rfl) ?_
            refine k_get C0 fg_X5_33 hP 0 rfl rfl dX5_number_67 ?_
            refine lv_iload hx hb dX5_number_70 (lv_at hl 4 rfl) ?_
            refine va_iald hx hb C0.2.2.2.2.2.1 hP 1 0 rfl rfl (ib_in 1600 h30 rfl) dX5_number_72 ?_
            refine lv_topi (fun z32 ez32 => ?_)
            have h33 : ib z32 0 255 := by rw [ez32]; exact ia_at hg_this_text (ib_in 1600 h30 rfl)
            have Ez32 := lf_ld ez32 (lf_ra g_this_text) (lf_rf J53_l4)
            refine lv_iadd hx hb dX5_number_73 ?_
            refine lv_topi (fun z34 ez34 => ?_)
            have Ez34 := lf_op lf_iadd ez34 Ez31 Ez32
            refine lv_bipush (v := 48) hx hb dX5_number_74 rfl ?_
            refine lv_isub hx hb dX5_number_76 ?_
            refine lv_topi (fun z35 ez35 => ?_)
            have Ez35 := lf_op lf_isub ez35 Ez34 (lf_lc 48 (48 : Int) rfl)
            refine lv_istore_n (lv' := [(3, .int z35), (0, .ref a_this), (1, .int 0), (2, .int 100), (4, .int J53_l4)]) hx hb dX5_number_77 rfl hl (Nat.le_of_ble_eq_true rfl) rfl (fun ls hl => ?_)
            obtain ⟨z36, ez36⟩ : ∃ y : Int32, y = J53_l4 + 1 := ⟨_, rfl⟩
            refine lv_iinc (v := z36) (lv' := [(4, .int z36), (3, .int z35), (0, .ref a_this), (1, .int 0), (2, .int 100)]) hx hb dX5_number_78 hl (k := 4) rfl (by rw [ez36]; rfl) (Nat.le_of_ble_eq_true rfl) rfl (fun ls hl => ?_)
            have h37 := ib_add h30 (ib_c 1 1 1 rfl) rfl
            rw [← ez36] at h37
            have h38 : ib z36 1 1600 := ib_w 1 1600 h37.1 rfl
            have Ez36 := lf_add h37.2 (lf_rf J53_l4) (lf_lc 1 (1 : Int) rfl)
            refine lv_goto (tgt := 53) hx hb dX5_number_81 rfl ?_
            exact ih53 z35 z36 H locs ls (ib_w 0 1599 hK53_x_this_at rfl) (ib_w 2 2 hK53_x_this_sort rfl) (ib_w 0 1600 h38 rfl) (by rw [← hK53]; rw [lf_u Ez35]; rw [lf_u Ez36]; exact hq) (by have := h37.2; have : (1 : Int32).toInt = 1 := rfl; omega) hP hD hS (lv_sub hl [2, 3, 4, 1, 0] rfl)
  refine lv_aload_n hx hb dX5_number_0 rfl (lv_at hl 0 rfl) ?_
  refine k_get C0 fg_X5_21 hP 0 rfl rfl dX5_number_1 ?_
  refine lv_iconst (v := 2) hx hb dX5_number_4 rfl ?_
  refine lv_icmp_eq (tgt := 19) hx hb dX5_number_5 rfl (fun c39 => ?_) (fun c39 => ?_)
  · as_aux_lemma =>
      replace hq := lf_pos hq (lf_eq (lf_rf x_this_sort) (lf_lc 2 (2 : Int) rfl) c39)
      have h40 := ib_eq hx_this_sort (ib_c 2 2 2 rfl) c39
      have h41 : ib x_this_sort 2 2 := ib_w 2 2 h40.1 rfl
      have h42 : ib x_this_at 0 1599 := ib_w 0 1599 (ib_two hx_this_at (hc0_this (ib_nz h41 rfl))) rfl
      refine lv_aload_n hx hb dX5_number_19 rfl (lv_at hl 0 rfl) ?_
      refine k_get C0 fg_X5_18 hP 0 rfl rfl dX5_number_20 ?_
      refine lv_aload_n hx hb dX5_number_23 rfl (lv_at hl 0 rfl) ?_
      refine k_get C0 fg_X5_15 hP 0 rfl rfl dX5_number_24 ?_
      refine lv_isub hx hb dX5_number_27 ?_
      refine lv_topi (fun z43 ez43 => ?_)
      have h44 := ib_sub hx_this_behind h42 rfl
      rw [← ez43] at h44
      have h45 : ib z43 (-1599) 1600 := ib_w (-1599) 1600 h44.1 rfl
      have Ez43 := lf_sub h44.2 (lf_rf x_this_behind) (lf_rf x_this_at)
      refine lv_iconst (v := 4) hx hb dX5_number_28 rfl ?_
      refine lv_icmp_le (tgt := 45) hx hb dX5_number_29 rfl (fun c46 => ?_) (fun c46 => ?_)
      · replace hq := lf_pos hq (lf_le Ez43 (lf_lc 4 (4 : Int) rfl) c46)
        have h47 := ib_le h45 (ib_c 4 4 4 rfl) c46
        have h48 : ib z43 (-1599) 4 := ib_w (-1599) 4 h47.1 rfl
        refine lv_iconst (v := 0) hx hb dX5_number_45 rfl ?_
        refine lv_istore_n (lv' := [(3, .int 0), (0, .ref a_this), (1, .int 0), (2, .int 100)]) hx hb dX5_number_46 rfl hl (Nat.le_of_ble_eq_true rfl) rfl (fun ls hl => ?_)
        refine lv_aload_n hx hb dX5_number_47 rfl (lv_at hl 1 rfl) ?_
        refine k_get C0 fg_X5_15 hP 0 rfl rfl dX5_number_48 ?_
        refine lv_istore (lv' := [(4, .int x_this_at), (3, .int 0), (0, .ref a_this), (1, .int 0), (2, .int 100)]) hx hb dX5_number_51 hl (Nat.le_of_ble_eq_true rfl) rfl (fun ls hl => ?_)
        exact jn53 1602 0 x_this_at H locs ls (ib_w 0 1599 h42 rfl) (ib_w 2 2 h41 rfl) (ib_w 0 1600 h42 rfl) (by try simp only [show (0 : Int32).toInt = (0 : Int) from rfl]; exact hq) (by have := h42; unfold ib at this; omega) hP hD hS (lv_sub hl [2, 3, 4, 1, 0] rfl)
      · as_aux_lemma =>
          replace hq := lf_neg hq (lf_nle Ez43 (lf_lc 4 (4 : Int) rfl) c46)
          have h49 := ib_nle h45 (ib_c 4 4 4 rfl) c46
          have h50 : ib z43 5 1600 := ib_w 5 1600 h49.1 rfl
          refine lv_aload_n hx hb dX5_number_32 rfl (lv_at hl 0 rfl) ?_
          refine lv_iconst (v := 1) hx hb dX5_number_33 rfl ?_
          refine lv_aload_n hx hb dX5_number_34 rfl (lv_at hl 0 rfl) ?_
          refine k_get C0 fg_X5_15 hP 0 rfl rfl dX5_number_35 ?_
          refine lv_iconst (v := 4) hx hb dX5_number_38 rfl ?_
          refine lv_iadd hx hb dX5_number_39 ?_
          refine lv_topi (fun z51 ez51 => ?_)
          have h52 := ib_add h42 (ib_c 4 4 4 rfl) rfl
          rw [← ez51] at h52
          have h53 : ib z51 4 1603 := ib_w 4 1603 h52.1 rfl
          have Ez51 := lf_add h52.2 (lf_rf x_this_at) (lf_lc 4 (4 : Int) rfl)
          refine k_jvm hP hD hS hA [0] [false, true] rfl rfl rfl 0 0 (Nat.le_of_ble_eq_true rfl) (Nat.le_of_ble_eq_true rfl) (fun hPc hDc => k_runV (As := [.int 1, .int z51]) (rest := []) C0 hZ hS hA (s_X5_fail l dC dI cy sq a_this a_this_text x_this_length x_this_at x_this_behind x_this_sort x_this_allowed a_this_plan x_this_fault x_this_place 1 z51 ) mV_X5_78 hPc hDc rfl rfl rfl hl rfl rfl (Nat.le_of_ble_eq_true rfl) ⟨(Nat.le_of_ble_eq_true rfl), (Nat.le_of_ble_eq_true rfl)⟩ ⟨(Nat.le_of_ble_eq_true rfl), (Nat.le_of_ble_eq_true rfl)⟩ dX5_number_40) (fun u55 H locs hw hP hD hS => ?_)
          obtain ⟨v56, v57⟩ := u55
          try dsimp only at hP hD hw
          replace hP : va_P (dC, dI) vwCl [(wi_0_1600_0 a_this_text cy g_this_text), (wo_5_riiiiirii a_this a_this_text x_this_length x_this_length x_this_length 0 x_this_allowed a_this_plan v56 v57)] H := hP
          replace hD := k_D hP hD
          have h58 := hw
          have h58 := by have h9 := h58; try simp only [show (1 : Int32).toInt = (1 : Int) from rfl] at h9; rw [lf_u Ez51] at h9; exact h9
          replace hq := lf_p1 hq h58
          refine lv_iload_n hx hb dX5_number_43 rfl (lv_at hl 1 rfl) ?_
          subst hQ; exact k_iret hx hb hr hlk rfl ((x_this_length, x_this_length, 0, v56, v57)) hS ⟨ib_w 0 100 (ib_c 0 0 0 rfl) rfl, ib_w 0 1600 hx_this_length rfl, ib_w 0 1600 hx_this_length rfl, ib_w 0 4 (ib_c 0 0 0 rfl) rfl, fun hq9 => absurd rfl hq9, (hO.symm.trans (by try simp only [show (0 : Int32).toInt = (0 : Int) from rfl]; exact hq))⟩ (hP.sub [1, 0] rfl) (hD.sub [1, 0] rfl rfl) (Nat.le_of_ble_eq_true rfl) (Nat.le_of_ble_eq_true rfl) dX5_number_44
  · replace hq := lf_neg hq (lf_ne (lf_rf x_this_sort) (lf_lc 2 (2 : Int) rfl) c39)
    refine lv_aload_n hx hb dX5_number_8 rfl (lv_at hl 0 rfl) ?_
    refine lv_iconst (v := 1) hx hb dX5_number_9 rfl ?_
    refine lv_aload_n hx hb dX5_number_10 rfl (lv_at hl 0 rfl) ?_
    refine k_get C0 fg_X5_15 hP 0 rfl rfl dX5_number_11 ?_
    refine k_jvm hP hD hS hA [0] [false, true] rfl rfl rfl 0 0 (Nat.le_of_ble_eq_true rfl) (Nat.le_of_ble_eq_true rfl) (fun hPc hDc => k_runV (As := [.int 1, .int x_this_at]) (rest := []) C0 hZ hS hA (s_X5_fail l dC dI cy sq a_this a_this_text x_this_length x_this_at x_this_behind x_this_sort x_this_allowed a_this_plan x_this_fault x_this_place 1 x_this_at ) mV_X5_78 hPc hDc rfl rfl rfl hl rfl rfl (Nat.le_of_ble_eq_true rfl) ⟨(Nat.le_of_ble_eq_true rfl), (Nat.le_of_ble_eq_true rfl)⟩ ⟨(Nat.le_of_ble_eq_true rfl), (Nat.le_of_ble_eq_true rfl)⟩ dX5_number_14) (fun u60 H locs hw hP hD hS => ?_)
    obtain ⟨v61, v62⟩ := u60
    try dsimp only at hP hD hw
    replace hP : va_P (dC, dI) vwCl [(wi_0_1600_0 a_this_text cy g_this_text), (wo_5_riiiiirii a_this a_this_text x_this_length x_this_length x_this_length 0 x_this_allowed a_this_plan v61 v62)] H := hP
    replace hD := k_D hP hD
    have h63 := hw
    have h63 := by have h9 := h63; try simp only [show (1 : Int32).toInt = (1 : Int) from rfl] at h9; exact h9
    replace hq := lf_p1 hq h63
    refine lv_iload_n hx hb dX5_number_17 rfl (lv_at hl 1 rfl) ?_
    subst hQ; exact k_iret hx hb hr hlk rfl ((x_this_length, x_this_length, 0, v61, v62)) hS ⟨ib_w 0 100 (ib_c 0 0 0 rfl) rfl, ib_w 0 1600 hx_this_length rfl, ib_w 0 1600 hx_this_length rfl, ib_w 0 4 (ib_c 0 0 0 rfl) rfl, fun hq9 => absurd rfl hq9, (hO.symm.trans (by try simp only [show (0 : Int32).toInt = (0 : Int) from rfl]; exact hq))⟩ (hP.sub [1, 0] rfl) (hD.sub [1, 0] rfl rfl) (Nat.le_of_ble_eq_true rfl) (Nat.le_of_ble_eq_true rfl) dX5_number_18
set_option maxHeartbeats 4000000 in
set_option maxRecDepth 100000 in
theorem s_X5_numberBehind_a1_0_a2_100_s1 (l : Launch) (dC : Nat → ClassId) (dI : Nat → Nat → Nat) (cy : Nat → ClassId) (sq : Nat → Nat) (a_this : Nat) (a_this_text : Nat) (g_this_text : Nat → Int32) (x_this_length : Int32) (x_this_at : Int32) (x_this_behind : Int32) (x_this_sort : Int32) (x_this_allowed : Int32) (a_this_plan : Nat) (x_this_fault : Int32) (x_this_place : Int32) (hg_this_text : ia g_this_text 1600 0 255) (hx_this_length : ib x_this_length 0 1600) (hx_this_at : ib x_this_at 0 1600) (hx_this_behind : ib x_this_behind 0 1600) (hx_this_sort : ib x_this_sort 0 4) (hc0_this : ¬ x_this_sort = 0 → ib x_this_at 0 1599) : k_Met l yX5_numberBehind cX5_numberBehind 4 (some .int) { frames := 6, cells := 0, slots := 0, locals := 187 } dC dI cy sq [.ref a_this, .ref (sq 1), .int 0, .int 100] [(wo_5_riiiiirii a_this a_this_text x_this_length x_this_at x_this_behind x_this_sort x_this_allowed a_this_plan x_this_fault x_this_place), (wi_0_1600_0 a_this_text cy g_this_text)] (k_Qi dC dI (fun (r : Int32) (u : Int32 × Int32 × Int32 × Int32 × Int32) => match u with | (n0, n1, n2, n3, n4) => ib r 0 100 ∧ ib n0 0 1600 ∧ ib n1 0 1600 ∧ ib n2 0 4 ∧ (¬ n2 = 0 → ib n0 0 1599) ∧ (F_X5_numberBehind_a1_0_a2_100_s1 (lf_A g_this_text) (Int32.toInt x_this_length) (Int32.toInt x_this_at) (Int32.toInt x_this_behind) (Int32.toInt x_this_sort) (Int32.toInt x_this_fault) (Int32.toInt x_this_place) = ((Int32.toInt r), (Int32.toInt n0), (Int32.toInt n1), (Int32.toInt n2), (Int32.toInt n3), (Int32.toInt n4)))) (fun u : Int32 × Int32 × Int32 × Int32 × Int32 => match u with | (n0, n1, n2, n3, n4) => [(wo_5_riiiiirii a_this a_this_text x_this_length n0 n1 n2 x_this_allowed a_this_plan n3 n4), (wi_0_1600_0 a_this_text cy g_this_text)])) := by
  refine k_ofW2 (by decide +kernel) (Nat.le_of_ble_eq_true rfl) ?_
  intro p e s m below meth c A ls H locs args Q hQ C0 hZ hr hlk hin hP hD hA hS hl
  have C0 : k_cx p s m args c cX5_numberBehind 4 RX5 dC dI cy sq := C0
  have hx := C0.1
  have hb := C0.2.1
  have hl : lv_has ls 4 [(0, .ref a_this), (1, .ref (sq 1)), (2, .int 0), (3, .int 100)] := hl
  obtain ⟨O, hO⟩ : ∃ o, o = F_X5_numberBehind_a1_0_a2_100_s1 (lf_A g_this_text) (Int32.toInt x_this_length) (Int32.toInt x_this_at) (Int32.toInt x_this_behind) (Int32.toInt x_this_sort) (Int32.toInt x_this_fault) (Int32.toInt x_this_place) := ⟨_, rfl⟩
  have hq := hO
  unfold F_X5_numberBehind_a1_0_a2_100_s1 at hq
  refine lv_aload_n hx hb dX5_numberBehind_0 rfl (lv_at hl 0 rfl) ?_
  refine lv_aload_n hx hb dX5_numberBehind_1 rfl (lv_at hl 1 rfl) ?_
  refine k_jvm hP hD hS hA [0, 1] [] rfl rfl rfl 0 0 (Nat.le_of_ble_eq_true rfl) (Nat.le_of_ble_eq_true rfl) (fun hPc hDc => k_runV (As := [.ref (sq 1)]) (rest := []) C0 hZ hS hA (s_X5_needWord_s1 l dC dI cy sq a_this a_this_text g_this_text x_this_length x_this_at x_this_behind x_this_sort x_this_allowed a_this_plan x_this_fault x_this_place hg_this_text (ib_w 0 1600 hx_this_length rfl) (ib_w 0 1600 hx_this_at rfl) (ib_w 0 1600 hx_this_behind rfl) (ib_w 0 4 hx_this_sort rfl) (fun hq9 => ib_w 0 1599 (hc0_this hq9) rfl)) mV_X5_144 hPc hDc rfl rfl rfl hl rfl rfl (Nat.le_of_ble_eq_true rfl) ⟨(Nat.le_of_ble_eq_true rfl), (Nat.le_of_ble_eq_true rfl)⟩ ⟨(Nat.le_of_ble_eq_true rfl), (Nat.le_of_ble_eq_true rfl)⟩ dX5_numberBehind_2) (fun u2 H locs hw hP hD hS => ?_)
  obtain ⟨v3, v4, v5, v6, v7⟩ := u2
  try dsimp only at hP hD hw
  replace hP : va_P (dC, dI) vwCl [(wo_5_riiiiirii a_this a_this_text x_this_length v3 v4 v5 x_this_allowed a_this_plan v6 v7), (wi_0_1600_0 a_this_text cy g_this_text)] H := hP
  replace hD := k_D hP hD
  obtain ⟨h8, h9, h10, h11, h12⟩ := hw
  replace hq := lf_p1 hq h12
  replace hq := lf_p1 hq rfl
  replace hq := lf_p1 hq rfl
  replace hq := lf_p1 hq rfl
  refine lv_aload_n hx hb dX5_numberBehind_5 rfl (lv_at hl 0 rfl) ?_
  refine lv_iload_n hx hb dX5_numberBehind_6 rfl (lv_at hl 2 rfl) ?_
  refine lv_iload_n hx hb dX5_numberBehind_7 rfl (lv_at hl 3 rfl) ?_
  refine k_jim hP hD hS hA [0, 1] [] rfl rfl rfl 0 0 (Nat.le_of_ble_eq_true rfl) (Nat.le_of_ble_eq_true rfl) (fun hPc hDc => k_runV (As := [.int 0, .int 100]) (rest := []) C0 hZ hS hA (s_X5_number_a0_0_a1_100 l dC dI cy sq a_this a_this_text g_this_text x_this_length v3 v4 v5 x_this_allowed a_this_plan v6 v7 hg_this_text (ib_w 0 1600 hx_this_length rfl) (ib_w 0 1600 h8 rfl) (ib_w 0 1600 h9 rfl) (ib_w 0 4 h10 rfl) (fun hq9 => ib_w 0 1599 (h11 hq9) rfl)) mV_X5_168 hPc hDc rfl rfl rfl hl rfl rfl (Nat.le_of_ble_eq_true rfl) ⟨(Nat.le_of_ble_eq_true rfl), (Nat.le_of_ble_eq_true rfl)⟩ ⟨(Nat.le_of_ble_eq_true rfl), (Nat.le_of_ble_eq_true rfl)⟩ dX5_numberBehind_8) (fun r13 u14 H locs hw hP hD hS => ?_)
  obtain ⟨v15, v16, v17, v18, v19⟩ := u14
  try dsimp only at hP hD hw
  replace hP : va_P (dC, dI) vwCl [(wo_5_riiiiirii a_this a_this_text x_this_length v15 v16 v17 x_this_allowed a_this_plan v18 v19), (wi_0_1600_0 a_this_text cy g_this_text)] H := hP
  replace hD := k_D hP hD
  obtain ⟨h20, h21, h22, h23, h24, h25⟩ := hw
  replace hq := lf_p1 hq h25
  replace hq := lf_p1 hq rfl
  replace hq := lf_p1 hq rfl
  replace hq := lf_p1 hq rfl
  replace hq := lf_p1 hq rfl
  subst hQ; exact k_iret hx hb hr hlk rfl ((v15, v16, v17, v18, v19)) hS ⟨ib_w 0 100 h20 rfl, ib_w 0 1600 h21 rfl, ib_w 0 1600 h22 rfl, ib_w 0 4 h23 rfl, fun hq9 => ib_w 0 1599 (h24 hq9) rfl, (hO.symm.trans (by exact hq))⟩ hP hD (Nat.le_of_ble_eq_true rfl) (Nat.le_of_ble_eq_true rfl) dX5_numberBehind_11
set_option maxHeartbeats 4000000 in
set_option maxRecDepth 100000 in
theorem s_X5_readCrossing (l : Launch) (dC : Nat → ClassId) (dI : Nat → Nat → Nat) (cy : Nat → ClassId) (sq : Nat → Nat) (a_this : Nat) (a_this_text : Nat) (g_this_text : Nat → Int32) (x_this_length : Int32) (x_this_at : Int32) (x_this_behind : Int32) (x_this_sort : Int32) (x_this_allowed : Int32) (a_this_plan : Nat) (x_this_fault : Int32) (x_this_place : Int32) (a_arg0 : Nat) (x_arg0_cycle : Int32) (x_arg0_green : Int32) (x_arg0_rule : Int32) (x_arg0_least : Int32) (x_arg0_away : Int32) (x_arg0_statements : Int32) (x_arg0_kinds : Int32) (a_arg0_calm : Nat) (g_arg0_calm : Nat → Int32) (a_arg0_pace : Nat) (g_arg0_pace : Nat → Int32) (a_arg0_trusts : Nat) (g_arg0_trusts : Nat → Int32) (x_arg0_walkers : Int32) (a_arg0_kindOf : Nat) (g_arg0_kindOf : Nat → Int32) (a_arg0_comesAt : Nat) (g_arg0_comesAt : Nat → Int32) (a_arg0_comers : Nat) (g_arg0_comers : Nat → Int32) (a_arg0_names : Nat) (g_arg0_names : Nat → Int32) (a_arg0_code : Nat) (g_arg0_code : Nat → Int32) (x_arg0_size : Int32) (a_arg0_spans : Nat) (g_arg0_spans : Nat → Int32) (p1 : Int32) (hg_this_text : ia g_this_text 1600 0 255) (hg_arg0_kindOf : ia g_arg0_kindOf 12 0 5) (hg_arg0_comesAt : ia g_arg0_comesAt 12 0 199) (hp1 : ib p1 0 1600) : k_Met l yX5_readCrossing cX5_readCrossing 4 none { frames := 37, cells := 0, slots := 0, locals := 877 } dC dI cy sq [.ref a_this, .ref a_arg0, .int p1] [(wo_5_riiiiirii a_this a_this_text x_this_length x_this_at x_this_behind x_this_sort x_this_allowed a_this_plan x_this_fault x_this_place), (wo_4_iiiiiiirrrirrrrrir a_arg0 x_arg0_cycle x_arg0_green x_arg0_rule x_arg0_least x_arg0_away x_arg0_statements x_arg0_kinds a_arg0_calm a_arg0_pace a_arg0_trusts x_arg0_walkers a_arg0_kindOf a_arg0_comesAt a_arg0_comers a_arg0_names a_arg0_code x_arg0_size a_arg0_spans), (wi_0_200_0 a_arg0_comers cy g_arg0_comers), (wi_0_6_0 a_arg0_spans cy g_arg0_spans), (wi_0_1600_0 a_this_text cy g_this_text), (wi_0_108_0 a_arg0_names cy g_arg0_names), (wi_0_6_0 a_arg0_calm cy g_arg0_calm), (wi_0_6_0 a_arg0_pace cy g_arg0_pace), (wi_0_6_0 a_arg0_trusts cy g_arg0_trusts), (wi_0_12_0 a_arg0_kindOf cy g_arg0_kindOf), (wi_0_12_0 a_arg0_comesAt cy g_arg0_comesAt), (wi_0_1600_0 a_arg0_code cy g_arg0_code)] (k_Qv dC dI (fun (u : Int32 × Int32 × Int32 × Int32 × Int32 × Int32 × Int32 × Int32 × Int32 × Int32 × Int32 × Int32 × Int32 × Int32 × Int32 × Int32 × (Nat → Int32) × (Nat → Int32) × (Nat → Int32) × (Nat → Int32) × (Nat → Int32) × (Nat → Int32) × (Nat → Int32) × (Nat → Int32) × (Nat → Int32)) => match u with | (n0, n1, n2, n3, n4, n5, n6, n7, n8, n9, n10, n11, n12, n13, n14, n15, n16, n17, n18, n19, n20, n21, n22, n23, n24) => ib n0 0 1600 ∧ ib n1 0 1600 ∧ ib n2 0 1600 ∧ ib n3 0 0 ∧ ib n7 10 120 ∧ ib n8 1 2147483647 ∧ ib n9 0 2 ∧ ib n10 0 99 ∧ ib n11 0 100 ∧ ib n12 1 80 ∧ ib n13 0 6 ∧ ib n14 0 12 ∧ ib n15 0 1600 ∧ ia n17 6 0 1600 ∧ ia n22 12 0 5 ∧ ia n23 12 0 199 ∧ (¬ n3 = 0 → ib n1 0 1599) ∧ (F_X5_readCrossing (lf_A g_this_text) (Int32.toInt x_this_allowed) (lf_A g_arg0_calm) (lf_A g_arg0_pace) (lf_A g_arg0_trusts) (lf_A g_arg0_kindOf) (lf_A g_arg0_comesAt) (lf_A g_arg0_comers) (lf_A g_arg0_names) (lf_A g_arg0_code) (lf_A g_arg0_spans) (Int32.toInt p1) = ((Int32.toInt n0), (Int32.toInt n1), (Int32.toInt n2), (Int32.toInt n3), (Int32.toInt n4), (Int32.toInt n5), (Int32.toInt n6), (Int32.toInt n7), (Int32.toInt n8), (Int32.toInt n9), (Int32.toInt n10), (Int32.toInt n11), (Int32.toInt n12), (Int32.toInt n13), (Int32.toInt n14), (Int32.toInt n15), (lf_A n16), (lf_A n17), (lf_A n18), (lf_A n19), (lf_A n20), (lf_A n21), (lf_A n22), (lf_A n23), (lf_A n24)))) (fun u : Int32 × Int32 × Int32 × Int32 × Int32 × Int32 × Int32 × Int32 × Int32 × Int32 × Int32 × Int32 × Int32 × Int32 × Int32 × Int32 × (Nat → Int32) × (Nat → Int32) × (Nat → Int32) × (Nat → Int32) × (Nat → Int32) × (Nat → Int32) × (Nat → Int32) × (Nat → Int32) × (Nat → Int32) => match u with | (n0, n1, n2, n3, n4, n5, n6, n7, n8, n9, n10, n11, n12, n13, n14, n15, n16, n17, n18, n19, n20, n21, n22, n23, n24) => [(wo_5_riiiiirii a_this a_this_text n0 n1 n2 n3 n4 a_arg0 n5 n6), (wo_4_iiiiiiirrrirrrrrir a_arg0 n7 n8 n9 n10 n11 n12 n13 a_arg0_calm a_arg0_pace a_arg0_trusts n14 a_arg0_kindOf a_arg0_comesAt a_arg0_comers a_arg0_names a_arg0_code n15 a_arg0_spans), (wi_0_200_0 a_arg0_comers cy n16), (wi_0_6_0 a_arg0_spans cy n17), (wi_0_1600_0 a_this_text cy g_this_text), (wi_0_108_0 a_arg0_names cy n18), (wi_0_6_0 a_arg0_calm cy n19), (wi_0_6_0 a_arg0_pace cy n20), (wi_0_6_0 a_arg0_trusts cy n21), (wi_0_12_0 a_arg0_kindOf cy n22), (wi_0_12_0 a_arg0_comesAt cy n23), (wi_0_1600_0 a_arg0_code cy n24)])) := by
  refine k_ofW2 (by decide +kernel) (Nat.le_of_ble_eq_true rfl) ?_
  intro p e s m below meth c A ls H locs args Q hQ C0 hZ hr hlk hin hP hD hA hS hl
  have C0 : k_cx p s m args c cX5_readCrossing 4 RX5 dC dI cy sq := C0
  have hx := C0.1
  have hb := C0.2.1
  have hl : lv_has ls 4 [(0, .ref a_this), (1, .ref a_arg0), (2, .int p1)] := hl
  obtain ⟨O, hO⟩ : ∃ o, o = F_X5_readCrossing (lf_A g_this_text) (Int32.toInt x_this_allowed) (lf_A g_arg0_calm) (lf_A g_arg0_pace) (lf_A g_arg0_trusts) (lf_A g_arg0_kindOf) (lf_A g_arg0_comesAt) (lf_A g_arg0_comers) (lf_A g_arg0_names) (lf_A g_arg0_code) (lf_A g_arg0_spans) (Int32.toInt p1) := ⟨_, rfl⟩
  have hq := hO
  unfold F_X5_readCrossing at hq
  have jn174 : ∀ (J174_l3 : Int32) (J174_c0_1 : Int32) (J174_c0_2 : Int32) (J174_c0_3 : Int32) (J174_c0_4 : Int32) (J174_c0_5 : Int32) (J174_c0_7 : Int32) (J174_c0_8 : Int32) (J174_c1_0 : Int32) (J174_c1_1 : Int32) (J174_c1_2 : Int32) (J174_c1_3 : Int32) (J174_c1_4 : Int32) (J174_c1_6 : Int32) (J174_c1_10 : Int32) (J174_c1_16 : Int32) (J174_a2 : Nat → Int32) (J174_a3 : Nat → Int32) (J174_a5 : Nat → Int32) (J174_a6 : Nat → Int32) (J174_a7 : Nat → Int32) (J174_a8 : Nat → Int32) (J174_a9 : Nat → Int32) (J174_a10 : Nat → Int32) (J174_a11 : Nat → Int32) (H : Heap) (locs : List Loc) (ls : Array Slot), ib J174_l3 1 80 → ib J174_c0_1 0 1600 → ib J174_c0_2 0 1600 → ib J174_c0_3 0 1600 → ib J174_c0_4 0 0 → ib J174_c1_0 10 120 → ib J174_c1_1 1 2147483647 → ib J174_c1_2 0 2 → ib J174_c1_3 0 99 → ib J174_c1_4 0 100 → ib J174_c1_6 0 6 → ib J174_c1_10 0 12 → ib J174_c1_16 0 1600 → ia J174_a3 6 0 1600 → ia J174_a9 12 0 5 → ia J174_a10 12 0 199 → (¬ J174_c0_4 = 0 → ib J174_c0_2 0 1599) → (O = F_X5_readCrossing_174 (Int32.toInt J174_l3) (Int32.toInt J174_c0_1) (Int32.toInt J174_c0_2) (Int32.toInt J174_c0_3) (Int32.toInt J174_c0_4) (Int32.toInt J174_c0_5) (Int32.toInt J174_c0_7) (Int32.toInt J174_c0_8) (Int32.toInt J174_c1_0) (Int32.toInt J174_c1_1) (Int32.toInt J174_c1_2) (Int32.toInt J174_c1_3) (Int32.toInt J174_c1_4) (Int32.toInt J174_c1_6) (Int32.toInt J174_c1_10) (Int32.toInt J174_c1_16) (lf_A J174_a2) (lf_A J174_a3) (lf_A J174_a5) (lf_A J174_a6) (lf_A J174_a7) (lf_A J174_a8) (lf_A J174_a9) (lf_A J174_a10) (lf_A J174_a11)) → va_P (dC, dI) vwCl [(wo_5_riiiiirii a_this a_this_text J174_c0_1 J174_c0_2 J174_c0_3 J174_c0_4 J174_c0_5 a_arg0 J174_c0_7 J174_c0_8), (wo_4_iiiiiiirrrirrrrrir a_arg0 J174_c1_0 J174_c1_1 J174_c1_2 J174_c1_3 J174_c1_4 0 J174_c1_6 a_arg0_calm a_arg0_pace a_arg0_trusts J174_c1_10 a_arg0_kindOf a_arg0_comesAt a_arg0_comers a_arg0_names a_arg0_code J174_c1_16 a_arg0_spans), (wi_0_200_0 a_arg0_comers cy J174_a2), (wi_0_6_0 a_arg0_spans cy J174_a3), (wi_0_1600_0 a_this_text cy g_this_text), (wi_0_108_0 a_arg0_names cy J174_a5), (wi_0_6_0 a_arg0_calm cy J174_a6), (wi_0_6_0 a_arg0_pace cy J174_a7), (wi_0_6_0 a_arg0_trusts cy J174_a8), (wi_0_12_0 a_arg0_kindOf cy J174_a9), (wi_0_12_0 a_arg0_comesAt cy J174_a10), (wi_0_1600_0 a_arg0_code cy J174_a11)] H → va_D A [(wo_5_riiiiirii a_this a_this_text J174_c0_1 J174_c0_2 J174_c0_3 J174_c0_4 J174_c0_5 a_arg0 J174_c0_7 J174_c0_8), (wo_4_iiiiiiirrrirrrrrir a_arg0 J174_c1_0 J174_c1_1 J174_c1_2 J174_c1_3 J174_c1_4 0 J174_c1_6 a_arg0_calm a_arg0_pace a_arg0_trusts J174_c1_10 a_arg0_kindOf a_arg0_comesAt a_arg0_comers a_arg0_names a_arg0_code J174_c1_16 a_arg0_spans), (wi_0_200_0 a_arg0_comers cy J174_a2), (wi_0_6_0 a_arg0_spans cy J174_a3), (wi_0_1600_0 a_this_text cy g_this_text), (wi_0_108_0 a_arg0_names cy J174_a5), (wi_0_6_0 a_arg0_calm cy J174_a6), (wi_0_6_0 a_arg0_pace cy J174_a7), (wi_0_6_0 a_arg0_trusts cy J174_a8), (wi_0_12_0 a_arg0_kindOf cy J174_a9), (wi_0_12_0 a_arg0_comesAt cy J174_a10), (wi_0_1600_0 a_arg0_code cy J174_a11)] → va_S A s.heap H locs → lv_has ls 4 [(0, .ref a_this), (1, .ref a_arg0), (2, .int p1), (3, .int J174_l3)] → W p l e { frames := 37, cells := 0, slots := 0, locals := 877 } s m args below meth c H locs 0 0 Q (F0 m 174 ls []) := by
    intro J174_l3 J174_c0_1 J174_c0_2 J174_c0_3 J174_c0_4 J174_c0_5 J174_c0_7 J174_c0_8 J174_c1_0 J174_c1_1 J174_c1_2 J174_c1_3 J174_c1_4 J174_c1_6 J174_c1_10 J174_c1_16 J174_a2 J174_a3 J174_a5 J174_a6 J174_a7 J174_a8 J174_a9 J174_a10 J174_a11 H locs ls hJ174_l3 hJ174_c0_1 hJ174_c0_2 hJ174_c0_3 hJ174_c0_4 hJ174_c1_0 hJ174_c1_1 hJ174_c1_2 hJ174_c1_3 hJ174_c1_4 hJ174_c1_6 hJ174_c1_10 hJ174_c1_16 hJ174_a3 hJ174_a9 hJ174_a10 hJ174_ic0_0 hq hP hD hS hl
    unfold F_X5_readCrossing_174 at hq
    refine lv_aload_n hx hb dX5_readCrossing_174 rfl (lv_at hl 1 rfl) ?_
    refine lv_iload_n hx hb dX5_readCrossing_175 rfl (lv_at hl 3 rfl) ?_
    refine k_put C0 fp_X5_81 hP hD hS 1 rfl rfl rfl (Nat.le_of_ble_eq_true rfl) dX5_readCrossing_176 (fun H locs hP hD hS => ?_)
    replace hP : va_P (dC, dI) vwCl [(wo_5_riiiiirii a_this a_this_text J174_c0_1 J174_c0_2 J174_c0_3 J174_c0_4 J174_c0_5 a_arg0 J174_c0_7 J174_c0_8), (wo_4_iiiiiiirrrirrrrrir a_arg0 J174_c1_0 J174_c1_1 J174_c1_2 J174_c1_3 J174_c1_4 J174_l3 J174_c1_6 a_arg0_calm a_arg0_pace a_arg0_trusts J174_c1_10 a_arg0_kindOf a_arg0_comesAt a_arg0_comers a_arg0_names a_arg0_code J174_c1_16 a_arg0_spans), (wi_0_200_0 a_arg0_comers cy J174_a2), (wi_0_6_0 a_arg0_spans cy J174_a3), (wi_0_1600_0 a_this_text cy g_this_text), (wi_0_108_0 a_arg0_names cy J174_a5), (wi_0_6_0 a_arg0_calm cy J174_a6), (wi_0_6_0 a_arg0_pace cy J174_a7), (wi_0_6_0 a_arg0_trusts cy J174_a8), (wi_0_12_0 a_arg0_kindOf cy J174_a9), (wi_0_12_0 a_arg0_comesAt cy J174_a10), (wi_0_1600_0 a_arg0_code cy J174_a11)] H := hP
    replace hD := k_D hP hD
    subst hQ; exact k_vret hx hb hr hlk ((J174_c0_1, J174_c0_2, J174_c0_3, J174_c0_4, J174_c0_5, J174_c0_7, J174_c0_8, J174_c1_0, J174_c1_1, J174_c1_2, J174_c1_3, J174_c1_4, J174_l3, J174_c1_6, J174_c1_10, J174_c1_16, J174_a2, J174_a3, J174_a5, J174_a6, J174_a7, J174_a8, J174_a9, J174_a10, J174_a11)) hS ⟨ib_w 0 1600 hJ174_c0_1 rfl, ib_w 0 1600 hJ174_c0_2 rfl, ib_w 0 1600 hJ174_c0_3 rfl, ib_w 0 0 hJ174_c0_4 rfl, ib_w 10 120 hJ174_c1_0 rfl, ib_w 1 2147483647 hJ174_c1_1 rfl, ib_w 0 2 hJ174_c1_2 rfl, ib_w 0 99 hJ174_c1_3 rfl, ib_w 0 100 hJ174_c1_4 rfl, ib_w 1 80 hJ174_l3 rfl, ib_w 0 6 hJ174_c1_6 rfl, ib_w 0 12 hJ174_c1_10 rfl, ib_w 0 1600 hJ174_c1_16 rfl, hJ174_a3, hJ174_a9, hJ174_a10, fun hq9 => ib_w 0 1599 (hJ174_ic0_0 hq9) rfl, (hO.symm.trans (by exact hq))⟩ hP hD (Nat.le_of_ble_eq_true rfl) (Nat.le_of_ble_eq_true rfl) dX5_readCrossing_179
  have jn158 : ∀ (J158_c0_1 : Int32) (J158_c0_2 : Int32) (J158_c0_3 : Int32) (J158_c0_4 : Int32) (J158_c0_7 : Int32) (J158_c0_8 : Int32) (J158_c1_0 : Int32) (J158_c1_1 : Int32) (J158_c1_2 : Int32) (J158_c1_3 : Int32) (J158_a2 : Nat → Int32) (J158_a3 : Nat → Int32) (J158_l3 : Int32) (J158_c0_5 : Int32) (J158_c1_4 : Int32) (J158_c1_6 : Int32) (J158_c1_10 : Int32) (J158_c1_16 : Int32) (J158_a5 : Nat → Int32) (J158_a6 : Nat → Int32) (J158_a7 : Nat → Int32) (J158_a8 : Nat → Int32) (J158_a9 : Nat → Int32) (J158_a10 : Nat → Int32) (J158_a11 : Nat → Int32) (H : Heap) (locs : List Loc) (ls : Array Slot), ib J158_c0_1 0 1600 → ib J158_c0_2 0 1600 → ib J158_c0_3 0 1600 → ib J158_c0_4 0 4 → ib J158_c1_0 10 120 → ib J158_c1_1 1 2147483647 → ib J158_c1_2 0 2 → ib J158_c1_3 0 99 → ib J158_l3 1 80 → ib J158_c1_4 0 100 → ib J158_c1_6 0 6 → ib J158_c1_10 0 12 → ib J158_c1_16 0 1600 → ia J158_a3 6 0 1600 → ia J158_a9 12 0 5 → ia J158_a10 12 0 199 → (¬ J158_c0_4 = 0 → ib J158_c0_2 0 1599) → (O = F_X5_readCrossing_158 (Int32.toInt J158_c0_1) (Int32.toInt J158_c0_2) (Int32.toInt J158_c0_3) (Int32.toInt J158_c0_4) (Int32.toInt J158_c0_7) (Int32.toInt J158_c0_8) (Int32.toInt J158_c1_0) (Int32.toInt J158_c1_1) (Int32.toInt J158_c1_2) (Int32.toInt J158_c1_3) (lf_A J158_a2) (lf_A J158_a3) (Int32.toInt J158_l3) (Int32.toInt J158_c0_5) (Int32.toInt J158_c1_4) (Int32.toInt J158_c1_6) (Int32.toInt J158_c1_10) (Int32.toInt J158_c1_16) (lf_A J158_a5) (lf_A J158_a6) (lf_A J158_a7) (lf_A J158_a8) (lf_A J158_a9) (lf_A J158_a10) (lf_A J158_a11)) → va_P (dC, dI) vwCl [(wo_5_riiiiirii a_this a_this_text J158_c0_1 J158_c0_2 J158_c0_3 J158_c0_4 J158_c0_5 a_arg0 J158_c0_7 J158_c0_8), (wo_4_iiiiiiirrrirrrrrir a_arg0 J158_c1_0 J158_c1_1 J158_c1_2 J158_c1_3 J158_c1_4 0 J158_c1_6 a_arg0_calm a_arg0_pace a_arg0_trusts J158_c1_10 a_arg0_kindOf a_arg0_comesAt a_arg0_comers a_arg0_names a_arg0_code J158_c1_16 a_arg0_spans), (wi_0_200_0 a_arg0_comers cy J158_a2), (wi_0_6_0 a_arg0_spans cy J158_a3), (wi_0_1600_0 a_this_text cy g_this_text), (wi_0_108_0 a_arg0_names cy J158_a5), (wi_0_6_0 a_arg0_calm cy J158_a6), (wi_0_6_0 a_arg0_pace cy J158_a7), (wi_0_6_0 a_arg0_trusts cy J158_a8), (wi_0_12_0 a_arg0_kindOf cy J158_a9), (wi_0_12_0 a_arg0_comesAt cy J158_a10), (wi_0_1600_0 a_arg0_code cy J158_a11)] H → va_D A [(wo_5_riiiiirii a_this a_this_text J158_c0_1 J158_c0_2 J158_c0_3 J158_c0_4 J158_c0_5 a_arg0 J158_c0_7 J158_c0_8), (wo_4_iiiiiiirrrirrrrrir a_arg0 J158_c1_0 J158_c1_1 J158_c1_2 J158_c1_3 J158_c1_4 0 J158_c1_6 a_arg0_calm a_arg0_pace a_arg0_trusts J158_c1_10 a_arg0_kindOf a_arg0_comesAt a_arg0_comers a_arg0_names a_arg0_code J158_c1_16 a_arg0_spans), (wi_0_200_0 a_arg0_comers cy J158_a2), (wi_0_6_0 a_arg0_spans cy J158_a3), (wi_0_1600_0 a_this_text cy g_this_text), (wi_0_108_0 a_arg0_names cy J158_a5), (wi_0_6_0 a_arg0_calm cy J158_a6), (wi_0_6_0 a_arg0_pace cy J158_a7), (wi_0_6_0 a_arg0_trusts cy J158_a8), (wi_0_12_0 a_arg0_kindOf cy J158_a9), (wi_0_12_0 a_arg0_comesAt cy J158_a10), (wi_0_1600_0 a_arg0_code cy J158_a11)] → va_S A s.heap H locs → lv_has ls 4 [(0, .ref a_this), (1, .ref a_arg0), (2, .int p1), (3, .int J158_l3)] → W p l e { frames := 37, cells := 0, slots := 0, locals := 877 } s m args below meth c H locs 0 0 Q (F0 m 158 ls []) := by
    as_aux_lemma =>
      intro J158_c0_1 J158_c0_2 J158_c0_3 J158_c0_4 J158_c0_7 J158_c0_8 J158_c1_0 J158_c1_1 J158_c1_2 J158_c1_3 J158_a2 J158_a3 J158_l3 J158_c0_5 J158_c1_4 J158_c1_6 J158_c1_10 J158_c1_16 J158_a5 J158_a6 J158_a7 J158_a8 J158_a9 J158_a10 J158_a11 H locs ls hJ158_c0_1 hJ158_c0_2 hJ158_c0_3 hJ158_c0_4 hJ158_c1_0 hJ158_c1_1 hJ158_c1_2 hJ158_c1_3 hJ158_l3 hJ158_c1_4 hJ158_c1_6 hJ158_c1_10 hJ158_c1_16 hJ158_a3 hJ158_a9 hJ158_a10 hJ158_ic0_0 hq hP hD hS hl
      unfold F_X5_readCrossing_158 at hq
      refine lv_aload_n hx hb dX5_readCrossing_158 rfl (lv_at hl 0 rfl) ?_
      refine k_get C0 fg_X5_21 hP 0 rfl rfl dX5_readCrossing_159 ?_
      refine lv_if_eq (tgt := 174) hx hb dX5_readCrossing_162 rfl (fun c1 => ?_) (fun c1 => ?_)
      · replace hq := lf_pos hq (lf_eq (lf_rf J158_c0_4) (lf_lc 0 (0 : Int) rfl) c1)
        have h2 := ib_eq hJ158_c0_4 (ib_c 0 0 0 rfl) c1
        have h3 : ib J158_c0_4 0 0 := ib_w 0 0 h2.1 rfl
        exact jn174 J158_l3 J158_c0_1 J158_c0_2 J158_c0_3 J158_c0_4 J158_c0_5 J158_c0_7 J158_c0_8 J158_c1_0 J158_c1_1 J158_c1_2 J158_c1_3 J158_c1_4 J158_c1_6 J158_c1_10 J158_c1_16 J158_a2 J158_a3 J158_a5 J158_a6 J158_a7 J158_a8 J158_a9 J158_a10 J158_a11 H locs ls (ib_w 1 80 hJ158_l3 rfl) (ib_w 0 1600 hJ158_c0_1 rfl) (ib_w 0 1600 hJ158_c0_2 rfl) (ib_w 0 1600 hJ158_c0_3 rfl) (ib_w 0 0 h3 rfl) (ib_w 10 120 hJ158_c1_0 rfl) (ib_w 1 2147483647 hJ158_c1_1 rfl) (ib_w 0 2 hJ158_c1_2 rfl) (ib_w 0 99 hJ158_c1_3 rfl) (ib_w 0 100 hJ158_c1_4 rfl) (ib_w 0 6 hJ158_c1_6 rfl) (ib_w 0 12 hJ158_c1_10 rfl) (ib_w 0 1600 hJ158_c1_16 rfl) hJ158_a3 hJ158_a9 hJ158_a10 (fun hq9 => ib_w 0 1599 (hJ158_ic0_0 hq9) rfl) (by exact hq) hP hD hS (lv_sub hl [0, 1, 2, 3] rfl)
      · replace hq := lf_neg hq (lf_ne (lf_rf J158_c0_4) (lf_lc 0 (0 : Int) rfl) c1)
        have h4 : ib J158_c0_4 1 4 := ib_w 1 4 (ib_ne_lo 0 hJ158_c0_4 rfl c1) rfl
        have h5 : ib J158_c0_2 0 1599 := ib_w 0 1599 (ib_two hJ158_c0_2 (hJ158_ic0_0 c1)) rfl
        refine lv_aload_n hx hb dX5_readCrossing_165 rfl (lv_at hl 0 rfl) ?_
        refine lv_iconst (v := 5) hx hb dX5_readCrossing_166 rfl ?_
        refine lv_aload_n hx hb dX5_readCrossing_167 rfl (lv_at hl 0 rfl) ?_
        refine k_get C0 fg_X5_15 hP 0 rfl rfl dX5_readCrossing_168 ?_
        refine k_jvm hP hD hS hA [0] [false, true, true, true, true, true, true, true, true, true, true, true] rfl rfl (by decide +kernel) 0 0 (Nat.le_of_ble_eq_true rfl) (Nat.le_of_ble_eq_true rfl) (fun hPc hDc => k_runV (As := [.int 5, .int J158_c0_2]) (rest := []) C0 hZ hS hA (s_X5_fail l dC dI cy sq a_this a_this_text J158_c0_1 J158_c0_2 J158_c0_3 J158_c0_4 J158_c0_5 a_arg0 J158_c0_7 J158_c0_8 5 J158_c0_2 ) mV_X5_78 hPc hDc rfl rfl rfl hl rfl rfl (Nat.le_of_ble_eq_true rfl) ⟨(Nat.le_of_ble_eq_true rfl), (Nat.le_of_ble_eq_true rfl)⟩ ⟨(Nat.le_of_ble_eq_true rfl), (Nat.le_of_ble_eq_true rfl)⟩ dX5_readCrossing_171) (fun u7 H locs hw hP hD hS => ?_)
        obtain ⟨v8, v9⟩ := u7
        try dsimp only at hP hD hw
        replace hP : va_P (dC, dI) vwCl [(wo_4_iiiiiiirrrirrrrrir a_arg0 J158_c1_0 J158_c1_1 J158_c1_2 J158_c1_3 J158_c1_4 0 J158_c1_6 a_arg0_calm a_arg0_pace a_arg0_trusts J158_c1_10 a_arg0_kindOf a_arg0_comesAt a_arg0_comers a_arg0_names a_arg0_code J158_c1_16 a_arg0_spans), (wi_0_200_0 a_arg0_comers cy J158_a2), (wi_0_6_0 a_arg0_spans cy J158_a3), (wi_0_1600_0 a_this_text cy g_this_text), (wi_0_108_0 a_arg0_names cy J158_a5), (wi_0_6_0 a_arg0_calm cy J158_a6), (wi_0_6_0 a_arg0_pace cy J158_a7), (wi_0_6_0 a_arg0_trusts cy J158_a8), (wi_0_12_0 a_arg0_kindOf cy J158_a9), (wi_0_12_0 a_arg0_comesAt cy J158_a10), (wi_0_1600_0 a_arg0_code cy J158_a11), (wo_5_riiiiirii a_this a_this_text J158_c0_1 J158_c0_1 J158_c0_1 0 J158_c0_5 a_arg0 v8 v9)] H := hP
        replace hD := k_D hP hD
        have h10 := hw
        have h10 := by have h9 := h10; try simp only [show (5 : Int32).toInt = (5 : Int) from rfl] at h9; exact h9
        replace hq := lf_p1 hq h10
        exact jn174 J158_l3 J158_c0_1 J158_c0_1 J158_c0_1 0 J158_c0_5 v8 v9 J158_c1_0 J158_c1_1 J158_c1_2 J158_c1_3 J158_c1_4 J158_c1_6 J158_c1_10 J158_c1_16 J158_a2 J158_a3 J158_a5 J158_a6 J158_a7 J158_a8 J158_a9 J158_a10 J158_a11 H locs ls (ib_w 1 80 hJ158_l3 rfl) (ib_w 0 1600 hJ158_c0_1 rfl) (ib_w 0 1600 hJ158_c0_1 rfl) (ib_w 0 1600 hJ158_c0_1 rfl) (ib_w 0 0 (ib_c 0 0 0 rfl) rfl) (ib_w 10 120 hJ158_c1_0 rfl) (ib_w 1 2147483647 hJ158_c1_1 rfl) (ib_w 0 2 hJ158_c1_2 rfl) (ib_w 0 99 hJ158_c1_3 rfl) (ib_w 0 100 hJ158_c1_4 rfl) (ib_w 0 6 hJ158_c1_6 rfl) (ib_w 0 12 hJ158_c1_10 rfl) (ib_w 0 1600 hJ158_c1_16 rfl) hJ158_a3 hJ158_a9 hJ158_a10 (fun hq9 => absurd rfl hq9) (by try simp only [show (0 : Int32).toInt = (0 : Int) from rfl]; exact hq) (hP.sub [11, 0, 1, 2, 3, 4, 5, 6, 7, 8, 9, 10] rfl) (hD.sub [11, 0, 1, 2, 3, 4, 5, 6, 7, 8, 9, 10] (by decide +kernel) rfl) hS (lv_sub hl [0, 1, 2, 3] rfl)
  have jn18 : ∀ (n : Nat) (J18_c0_1 : Int32) (J18_c0_2 : Int32) (J18_c0_3 : Int32) (J18_c0_4 : Int32) (J18_c0_7 : Int32) (J18_c0_8 : Int32) (J18_c1_0 : Int32) (J18_c1_1 : Int32) (J18_c1_2 : Int32) (J18_c1_3 : Int32) (J18_a2 : Nat → Int32) (J18_a3 : Nat → Int32) (J18_l3 : Int32) (J18_c0_5 : Int32) (J18_c1_4 : Int32) (J18_c1_6 : Int32) (J18_c1_10 : Int32) (J18_c1_16 : Int32) (J18_a5 : Nat → Int32) (J18_a6 : Nat → Int32) (J18_a7 : Nat → Int32) (J18_a8 : Nat → Int32) (J18_a9 : Nat → Int32) (J18_a10 : Nat → Int32) (J18_a11 : Nat → Int32) (H : Heap) (locs : List Loc) (ls : Array Slot), ib J18_c0_1 0 1600 → ib J18_c0_2 0 1600 → ib J18_c0_3 0 1600 → ib J18_c0_4 0 4 → ib J18_c1_0 10 120 → ib J18_c1_1 1 2147483647 → ib J18_c1_2 0 2 → ib J18_c1_3 0 99 → ib J18_l3 1 80 → ib J18_c1_4 0 100 → ib J18_c1_6 0 6 → ib J18_c1_10 0 12 → ib J18_c1_16 0 1600 → ia J18_a3 6 0 1600 → ia J18_a9 12 0 5 → ia J18_a10 12 0 199 → (¬ J18_c0_4 = 0 → ib J18_c0_2 0 1599) → (O = F_X5_readCrossing_18 (lf_A g_this_text) n (Int32.toInt J18_c0_1) (Int32.toInt J18_c0_2) (Int32.toInt J18_c0_3) (Int32.toInt J18_c0_4) (Int32.toInt J18_c0_7) (Int32.toInt J18_c0_8) (Int32.toInt J18_c1_0) (Int32.toInt J18_c1_1) (Int32.toInt J18_c1_2) (Int32.toInt J18_c1_3) (lf_A J18_a2) (lf_A J18_a3) (Int32.toInt J18_l3) (Int32.toInt J18_c0_5) (Int32.toInt J18_c1_4) (Int32.toInt J18_c1_6) (Int32.toInt J18_c1_10) (Int32.toInt J18_c1_16) (lf_A J18_a5) (lf_A J18_a6) (lf_A J18_a7) (lf_A J18_a8) (lf_A J18_a9) (lf_A J18_a10) (lf_A J18_a11)) → 81 ≤ J18_l3.toInt + (n : Int) → va_P (dC, dI) vwCl [(wo_5_riiiiirii a_this a_this_text J18_c0_1 J18_c0_2 J18_c0_3 J18_c0_4 J18_c0_5 a_arg0 J18_c0_7 J18_c0_8), (wo_4_iiiiiiirrrirrrrrir a_arg0 J18_c1_0 J18_c1_1 J18_c1_2 J18_c1_3 J18_c1_4 0 J18_c1_6 a_arg0_calm a_arg0_pace a_arg0_trusts J18_c1_10 a_arg0_kindOf a_arg0_comesAt a_arg0_comers a_arg0_names a_arg0_code J18_c1_16 a_arg0_spans), (wi_0_200_0 a_arg0_comers cy J18_a2), (wi_0_6_0 a_arg0_spans cy J18_a3), (wi_0_1600_0 a_this_text cy g_this_text), (wi_0_108_0 a_arg0_names cy J18_a5), (wi_0_6_0 a_arg0_calm cy J18_a6), (wi_0_6_0 a_arg0_pace cy J18_a7), (wi_0_6_0 a_arg0_trusts cy J18_a8), (wi_0_12_0 a_arg0_kindOf cy J18_a9), (wi_0_12_0 a_arg0_comesAt cy J18_a10), (wi_0_1600_0 a_arg0_code cy J18_a11)] H → va_D A [(wo_5_riiiiirii a_this a_this_text J18_c0_1 J18_c0_2 J18_c0_3 J18_c0_4 J18_c0_5 a_arg0 J18_c0_7 J18_c0_8), (wo_4_iiiiiiirrrirrrrrir a_arg0 J18_c1_0 J18_c1_1 J18_c1_2 J18_c1_3 J18_c1_4 0 J18_c1_6 a_arg0_calm a_arg0_pace a_arg0_trusts J18_c1_10 a_arg0_kindOf a_arg0_comesAt a_arg0_comers a_arg0_names a_arg0_code J18_c1_16 a_arg0_spans), (wi_0_200_0 a_arg0_comers cy J18_a2), (wi_0_6_0 a_arg0_spans cy J18_a3), (wi_0_1600_0 a_this_text cy g_this_text), (wi_0_108_0 a_arg0_names cy J18_a5), (wi_0_6_0 a_arg0_calm cy J18_a6), (wi_0_6_0 a_arg0_pace cy J18_a7), (wi_0_6_0 a_arg0_trusts cy J18_a8), (wi_0_12_0 a_arg0_kindOf cy J18_a9), (wi_0_12_0 a_arg0_comesAt cy J18_a10), (wi_0_1600_0 a_arg0_code cy J18_a11)] → va_S A s.heap H locs → lv_has ls 4 [(0, .ref a_this), (1, .ref a_arg0), (2, .int p1), (3, .int J18_l3)] → W p l e { frames := 37, cells := 0, slots := 0, locals := 877 } s m args below meth c H locs 0 0 Q (F0 m 18 ls []) := by
    as_aux_lemma =>
      intro n
      induction n with
      | zero =>
        intro J18_c0_1 J18_c0_2 J18_c0_3 J18_c0_4 J18_c0_7 J18_c0_8 J18_c1_0 J18_c1_1 J18_c1_2 J18_c1_3 J18_a2 J18_a3 J18_l3 J18_c0_5 J18_c1_4 J18_c1_6 J18_c1_10 J18_c1_16 J18_a5 J18_a6 J18_a7 J18_a8 J18_a9 J18_a10 J18_a11 H locs ls hJ18_c0_1 hJ18_c0_2 hJ18_c0_3 hJ18_c0_4 hJ18_c1_0 hJ18_c1_1 hJ18_c1_2 hJ18_c1_3 hJ18_l3 hJ18_c1_4 hJ18_c1_6 hJ18_c1_10 hJ18_c1_16 hJ18_a3 hJ18_a9 hJ18_a10 hJ18_ic0_0 hq hm
        exact absurd hm (by have := hJ18_l3; unfold ib at this; omega)
      | succ n ih =>
        intro J18_c0_1 J18_c0_2 J18_c0_3 J18_c0_4 J18_c0_7 J18_c0_8 J18_c1_0 J18_c1_1 J18_c1_2 J18_c1_3 J18_a2 J18_a3 J18_l3 J18_c0_5 J18_c1_4 J18_c1_6 J18_c1_10 J18_c1_16 J18_a5 J18_a6 J18_a7 J18_a8 J18_a9 J18_a10 J18_a11 H locs ls hJ18_c0_1 hJ18_c0_2 hJ18_c0_3 hJ18_c0_4 hJ18_c1_0 hJ18_c1_1 hJ18_c1_2 hJ18_c1_3 hJ18_l3 hJ18_c1_4 hJ18_c1_6 hJ18_c1_10 hJ18_c1_16 hJ18_a3 hJ18_a9 hJ18_a10 hJ18_ic0_0 hq hm18 hP hD hS hl
        have ih18 := ih
        obtain ⟨K18, hK18⟩ : ∃ K, K = F_X5_readCrossing_18 (lf_A g_this_text) n := ⟨_, rfl⟩
        have hq : O = F_X5_readCrossing_18b (lf_A g_this_text) K18 (Int32.toInt J18_c0_1) (Int32.toInt J18_c0_2) (Int32.toInt J18_c0_3) (Int32.toInt J18_c0_4) (Int32.toInt J18_c0_7) (Int32.toInt J18_c0_8) (Int32.toInt J18_c1_0) (Int32.toInt J18_c1_1) (Int32.toInt J18_c1_2) (Int32.toInt J18_c1_3) (lf_A J18_a2) (lf_A J18_a3) (Int32.toInt J18_l3) (Int32.toInt J18_c0_5) (Int32.toInt J18_c1_4) (Int32.toInt J18_c1_6) (Int32.toInt J18_c1_10) (Int32.toInt J18_c1_16) (lf_A J18_a5) (lf_A J18_a6) (lf_A J18_a7) (lf_A J18_a8) (lf_A J18_a9) (lf_A J18_a10) (lf_A J18_a11) := by rw [hK18]; exact hq
        unfold F_X5_readCrossing_18b at hq
        have jn146 : ∀ (J146_c0_2 : Int32) (J146_c0_3 : Int32) (J146_c0_4 : Int32) (J146_c0_7 : Int32) (J146_c0_8 : Int32) (J146_c1_6 : Int32) (J146_a5 : Nat → Int32) (J146_a6 : Nat → Int32) (J146_a7 : Nat → Int32) (J146_a8 : Nat → Int32) (J146_c1_10 : Int32) (J146_a2 : Nat → Int32) (J146_a9 : Nat → Int32) (J146_a10 : Nat → Int32) (J146_c0_5 : Int32) (J146_c1_16 : Int32) (J146_a3 : Nat → Int32) (J146_a11 : Nat → Int32) (J146_c1_4 : Int32) (H : Heap) (locs : List Loc) (ls : Array Slot), ib J18_l3 1 79 → ib J18_c0_1 0 1600 → ib J146_c0_2 0 1600 → ib J146_c0_3 0 1600 → ib J146_c0_4 0 4 → ib J18_c1_0 10 120 → ib J18_c1_1 1 2147483647 → ib J18_c1_2 0 2 → ib J18_c1_3 0 99 → ib J146_c1_6 0 6 → ib J146_c1_10 0 12 → ib J146_c1_16 0 1600 → ib J146_c1_4 0 100 → ia J146_a9 12 0 5 → ia J146_a10 12 0 199 → ia J146_a3 6 0 1600 → (¬ J146_c0_4 = 0 → ib J146_c0_2 0 1599) → (O = F_X5_readCrossing_146 (lf_A g_this_text) (Int32.toInt J18_c0_1) (Int32.toInt J18_c1_0) (Int32.toInt J18_c1_1) (Int32.toInt J18_c1_2) (Int32.toInt J18_c1_3) (Int32.toInt J18_l3) K18 (Int32.toInt J146_c0_2) (Int32.toInt J146_c0_3) (Int32.toInt J146_c0_4) (Int32.toInt J146_c0_7) (Int32.toInt J146_c0_8) (Int32.toInt J146_c1_6) (lf_A J146_a5) (lf_A J146_a6) (lf_A J146_a7) (lf_A J146_a8) (Int32.toInt J146_c1_10) (lf_A J146_a2) (lf_A J146_a9) (lf_A J146_a10) (Int32.toInt J146_c0_5) (Int32.toInt J146_c1_16) (lf_A J146_a3) (lf_A J146_a11) (Int32.toInt J146_c1_4)) → va_P (dC, dI) vwCl [(wo_5_riiiiirii a_this a_this_text J18_c0_1 J146_c0_2 J146_c0_3 J146_c0_4 J146_c0_5 a_arg0 J146_c0_7 J146_c0_8), (wo_4_iiiiiiirrrirrrrrir a_arg0 J18_c1_0 J18_c1_1 J18_c1_2 J18_c1_3 J146_c1_4 0 J146_c1_6 a_arg0_calm a_arg0_pace a_arg0_trusts J146_c1_10 a_arg0_kindOf a_arg0_comesAt a_arg0_comers a_arg0_names a_arg0_code J146_c1_16 a_arg0_spans), (wi_0_200_0 a_arg0_comers cy J146_a2), (wi_0_6_0 a_arg0_spans cy J146_a3), (wi_0_1600_0 a_this_text cy g_this_text), (wi_0_108_0 a_arg0_names cy J146_a5), (wi_0_6_0 a_arg0_calm cy J146_a6), (wi_0_6_0 a_arg0_pace cy J146_a7), (wi_0_6_0 a_arg0_trusts cy J146_a8), (wi_0_12_0 a_arg0_kindOf cy J146_a9), (wi_0_12_0 a_arg0_comesAt cy J146_a10), (wi_0_1600_0 a_arg0_code cy J146_a11)] H → va_D A [(wo_5_riiiiirii a_this a_this_text J18_c0_1 J146_c0_2 J146_c0_3 J146_c0_4 J146_c0_5 a_arg0 J146_c0_7 J146_c0_8), (wo_4_iiiiiiirrrirrrrrir a_arg0 J18_c1_0 J18_c1_1 J18_c1_2 J18_c1_3 J146_c1_4 0 J146_c1_6 a_arg0_calm a_arg0_pace a_arg0_trusts J146_c1_10 a_arg0_kindOf a_arg0_comesAt a_arg0_comers a_arg0_names a_arg0_code J146_c1_16 a_arg0_spans), (wi_0_200_0 a_arg0_comers cy J146_a2), (wi_0_6_0 a_arg0_spans cy J146_a3), (wi_0_1600_0 a_this_text cy g_this_text), (wi_0_108_0 a_arg0_names cy J146_a5), (wi_0_6_0 a_arg0_calm cy J146_a6), (wi_0_6_0 a_arg0_pace cy J146_a7), (wi_0_6_0 a_arg0_trusts cy J146_a8), (wi_0_12_0 a_arg0_kindOf cy J146_a9), (wi_0_12_0 a_arg0_comesAt cy J146_a10), (wi_0_1600_0 a_arg0_code cy J146_a11)] → va_S A s.heap H locs → lv_has ls 4 [(0, .ref a_this), (1, .ref a_arg0), (2, .int p1), (3, .int J18_l3)] → W p l e { frames := 37, cells := 0, slots := 0, locals := 877 } s m args below meth c H locs 0 0 Q (F0 m 146 ls []) := by
          as_aux_lemma =>
            intro J146_c0_2 J146_c0_3 J146_c0_4 J146_c0_7 J146_c0_8 J146_c1_6 J146_a5 J146_a6 J146_a7 J146_a8 J146_c1_10 J146_a2 J146_a9 J146_a10 J146_c0_5 J146_c1_16 J146_a3 J146_a11 J146_c1_4 H locs ls hK146_J18_l3 hK146_J18_c0_1 hJ146_c0_2 hJ146_c0_3 hJ146_c0_4 hK146_J18_c1_0 hK146_J18_c1_1 hK146_J18_c1_2 hK146_J18_c1_3 hJ146_c1_6 hJ146_c1_10 hJ146_c1_16 hJ146_c1_4 hJ146_a9 hJ146_a10 hJ146_a3 hJ146_ic0_0 hq hP hD hS hl
            unfold F_X5_readCrossing_146 at hq
            refine lv_aload_n hx hb dX5_readCrossing_146 rfl (lv_at hl 0 rfl) ?_
            refine lv_bipush (v := 59) hx hb dX5_readCrossing_147 rfl ?_
            refine k_jvm hP hD hS hA [0, 4] [false, true, true, true, false, true, true, true, true, true, true, true] rfl rfl (by decide +kernel) 0 0 (Nat.le_of_ble_eq_true rfl) (Nat.le_of_ble_eq_true rfl) (fun hPc hDc => k_runV (As := [.int 59]) (rest := []) C0 hZ hS hA (s_X5_need l dC dI cy sq a_this a_this_text g_this_text J18_c0_1 J146_c0_2 J146_c0_3 J146_c0_4 J146_c0_5 a_arg0 J146_c0_7 J146_c0_8 59 hg_this_text (ib_w 0 1600 hK146_J18_c0_1 rfl) (ib_w 0 1600 hJ146_c0_2 rfl) (ib_w 0 1600 hJ146_c0_3 rfl) (ib_w 0 4 hJ146_c0_4 rfl) (fun hq9 => ib_w 0 1599 (hJ146_ic0_0 hq9) rfl)) mV_X5_48 hPc hDc rfl rfl rfl hl rfl rfl (Nat.le_of_ble_eq_true rfl) ⟨(Nat.le_of_ble_eq_true rfl), (Nat.le_of_ble_eq_true rfl)⟩ ⟨(Nat.le_of_ble_eq_true rfl), (Nat.le_of_ble_eq_true rfl)⟩ dX5_readCrossing_149) (fun u12 H locs hw hP hD hS => ?_)
            obtain ⟨v13, v14, v15, v16, v17⟩ := u12
            try dsimp only at hP hD hw
            replace hP : va_P (dC, dI) vwCl [(wo_4_iiiiiiirrrirrrrrir a_arg0 J18_c1_0 J18_c1_1 J18_c1_2 J18_c1_3 J146_c1_4 0 J146_c1_6 a_arg0_calm a_arg0_pace a_arg0_trusts J146_c1_10 a_arg0_kindOf a_arg0_comesAt a_arg0_comers a_arg0_names a_arg0_code J146_c1_16 a_arg0_spans), (wi_0_200_0 a_arg0_comers cy J146_a2), (wi_0_6_0 a_arg0_spans cy J146_a3), (wi_0_108_0 a_arg0_names cy J146_a5), (wi_0_6_0 a_arg0_calm cy J146_a6), (wi_0_6_0 a_arg0_pace cy J146_a7), (wi_0_6_0 a_arg0_trusts cy J146_a8), (wi_0_12_0 a_arg0_kindOf cy J146_a9), (wi_0_12_0 a_arg0_comesAt cy J146_a10), (wi_0_1600_0 a_arg0_code cy J146_a11), (wo_5_riiiiirii a_this a_this_text J18_c0_1 v13 v14 v15 J146_c0_5 a_arg0 v16 v17), (wi_0_1600_0 a_this_text cy g_this_text)] H := hP
            replace hD := k_D hP hD
            obtain ⟨h18, h19, h20, h21, h22⟩ := hw
            have h22 := by have h9 := h22; try simp only [show (59 : Int32).toInt = (59 : Int) from rfl] at h9; exact h9
            replace hq := lf_p1 hq h22
            replace hq := lf_p1 hq rfl
            replace hq := lf_p1 hq rfl
            replace hq := lf_p1 hq rfl
            obtain ⟨z23, ez23⟩ : ∃ y : Int32, y = J18_l3 + 1 := ⟨_, rfl⟩
            refine lv_iinc (v := z23) (lv' := [(3, .int z23), (0, .ref a_this), (1, .ref a_arg0), (2, .int p1)]) hx hb dX5_readCrossing_152 hl (k := 3) rfl (by rw [ez23]; rfl) (Nat.le_of_ble_eq_true rfl) rfl (fun ls hl => ?_)
            have h24 := ib_add hK146_J18_l3 (ib_c 1 1 1 rfl) rfl
            rw [← ez23] at h24
            have h25 : ib z23 2 80 := ib_w 2 80 h24.1 rfl
            have Ez23 := lf_add h24.2 (lf_rf J18_l3) (lf_lc 1 (1 : Int) rfl)
            refine lv_goto (tgt := 18) hx hb dX5_readCrossing_155 rfl ?_
            exact ih18 J18_c0_1 v13 v14 v15 v16 v17 J18_c1_0 J18_c1_1 J18_c1_2 J18_c1_3 J146_a2 J146_a3 z23 J146_c0_5 J146_c1_4 J146_c1_6 J146_c1_10 J146_c1_16 J146_a5 J146_a6 J146_a7 J146_a8 J146_a9 J146_a10 J146_a11 H locs ls (ib_w 0 1600 hK146_J18_c0_1 rfl) (ib_w 0 1600 h18 rfl) (ib_w 0 1600 h19 rfl) (ib_w 0 4 h20 rfl) (ib_w 10 120 hK146_J18_c1_0 rfl) (ib_w 1 2147483647 hK146_J18_c1_1 rfl) (ib_w 0 2 hK146_J18_c1_2 rfl) (ib_w 0 99 hK146_J18_c1_3 rfl) (ib_w 1 80 h25 rfl) (ib_w 0 100 hJ146_c1_4 rfl) (ib_w 0 6 hJ146_c1_6 rfl) (ib_w 0 12 hJ146_c1_10 rfl) (ib_w 0 1600 hJ146_c1_16 rfl) hJ146_a3 hJ146_a9 hJ146_a10 (fun hq9 => ib_w 0 1599 (h21 hq9) rfl) (by rw [← hK18]; rw [lf_u Ez23]; exact hq) (by have := h24.2; have : (1 : Int32).toInt = 1 := rfl; omega) (hP.sub [10, 0, 1, 2, 11, 3, 4, 5, 6, 7, 8, 9] rfl) (hD.sub [10, 0, 1, 2, 11, 3, 4, 5, 6, 7, 8, 9] (by decide +kernel) rfl) hS (lv_sub hl [1, 2, 3, 0] rfl)
        refine lv_aload_n hx hb dX5_readCrossing_18 rfl (lv_at hl 0 rfl) ?_
        refine k_get C0 fg_X5_21 hP 0 rfl rfl dX5_readCrossing_19 ?_
        refine lv_if_eq (tgt := 158) hx hb dX5_readCrossing_22 rfl (fun c26 => ?_) (fun c26 => ?_)
        · replace hq := lf_pos hq (lf_eq (lf_rf J18_c0_4) (lf_lc 0 (0 : Int) rfl) c26)
          have h27 := ib_eq hJ18_c0_4 (ib_c 0 0 0 rfl) c26
          have h28 : ib J18_c0_4 0 0 := ib_w 0 0 h27.1 rfl
          exact jn158 J18_c0_1 J18_c0_2 J18_c0_3 J18_c0_4 J18_c0_7 J18_c0_8 J18_c1_0 J18_c1_1 J18_c1_2 J18_c1_3 J18_a2 J18_a3 J18_l3 J18_c0_5 J18_c1_4 J18_c1_6 J18_c1_10 J18_c1_16 J18_a5 J18_a6 J18_a7 J18_a8 J18_a9 J18_a10 J18_a11 H locs ls (ib_w 0 1600 hJ18_c0_1 rfl) (ib_w 0 1600 hJ18_c0_2 rfl) (ib_w 0 1600 hJ18_c0_3 rfl) (ib_w 0 4 h28 rfl) (ib_w 10 120 hJ18_c1_0 rfl) (ib_w 1 2147483647 hJ18_c1_1 rfl) (ib_w 0 2 hJ18_c1_2 rfl) (ib_w 0 99 hJ18_c1_3 rfl) (ib_w 1 80 hJ18_l3 rfl) (ib_w 0 100 hJ18_c1_4 rfl) (ib_w 0 6 hJ18_c1_6 rfl) (ib_w 0 12 hJ18_c1_10 rfl) (ib_w 0 1600 hJ18_c1_16 rfl) hJ18_a3 hJ18_a9 hJ18_a10 (fun hq9 => ib_w 0 1599 (hJ18_ic0_0 hq9) rfl) (by exact hq) hP hD hS (lv_sub hl [0, 1, 2, 3] rfl)
        · as_aux_lemma =>
            replace hq := lf_neg hq (lf_ne (lf_rf J18_c0_4) (lf_lc 0 (0 : Int) rfl) c26)
            have h29 : ib J18_c0_4 1 4 := ib_w 1 4 (ib_ne_lo 0 hJ18_c0_4 rfl c26) rfl
            have h30 : ib J18_c0_2 0 1599 := ib_w 0 1599 (ib_two hJ18_c0_2 (hJ18_ic0_0 c26)) rfl
            refine lv_iload_n hx hb dX5_readCrossing_25 rfl (lv_at hl 3 rfl) ?_
            refine lv_bipush (v := 80) hx hb dX5_readCrossing_26 rfl ?_
            refine lv_icmp_ge (tgt := 158) hx hb dX5_readCrossing_28 rfl (fun c31 => ?_) (fun c31 => ?_)
            · replace hq := lf_pos hq (lf_le (lf_lc 80 (80 : Int) rfl) (lf_rf J18_l3) c31)
              have h32 := ib_le (ib_c 80 80 80 rfl) hJ18_l3 c31
              have h33 : ib J18_l3 80 80 := ib_w 80 80 h32.2 rfl
              exact jn158 J18_c0_1 J18_c0_2 J18_c0_3 J18_c0_4 J18_c0_7 J18_c0_8 J18_c1_0 J18_c1_1 J18_c1_2 J18_c1_3 J18_a2 J18_a3 J18_l3 J18_c0_5 J18_c1_4 J18_c1_6 J18_c1_10 J18_c1_16 J18_a5 J18_a6 J18_a7 J18_a8 J18_a9 J18_a10 J18_a11 H locs ls (ib_w 0 1600 hJ18_c0_1 rfl) (ib_w 0 1600 h30 rfl) (ib_w 0 1600 hJ18_c0_3 rfl) (ib_w 0 4 h29 rfl) (ib_w 10 120 hJ18_c1_0 rfl) (ib_w 1 2147483647 hJ18_c1_1 rfl) (ib_w 0 2 hJ18_c1_2 rfl) (ib_w 0 99 hJ18_c1_3 rfl) (ib_w 1 80 h33 rfl) (ib_w 0 100 hJ18_c1_4 rfl) (ib_w 0 6 hJ18_c1_6 rfl) (ib_w 0 12 hJ18_c1_10 rfl) (ib_w 0 1600 hJ18_c1_16 rfl) hJ18_a3 hJ18_a9 hJ18_a10 (fun _ => ib_w 0 1599 h30 rfl) (by exact hq) hP hD hS (lv_sub hl [0, 1, 2, 3] rfl)
            · as_aux_lemma =>
                replace hq := lf_neg hq (lf_nle (lf_lc 80 (80 : Int) rfl) (lf_rf J18_l3) c31)
                have h34 := ib_nle (ib_c 80 80 80 rfl) hJ18_l3 c31
                have h35 : ib J18_l3 1 79 := ib_w 1 79 h34.2 rfl
                refine lv_aload_n hx hb dX5_readCrossing_31 rfl (lv_at hl 0 rfl) ?_
                refine va_ldcS hx hb C0.2.2.2.1 (C0.2.2.2.2.2.2.2.2.2.2.2.2 0 (by decide)) dX5_readCrossing_32 ?_
                refine k_jim hP hD hS hA [0, 4] [false, true, true, true, false, true, true, true, true, true, true, true] rfl rfl (by decide +kernel) 0 0 (Nat.le_of_ble_eq_true rfl) (Nat.le_of_ble_eq_true rfl) (fun hPc hDc => k_runV (As := [.ref (sq 0)]) (rest := []) C0 hZ hS hA (s_X5_wordIn_s0 l dC dI cy sq a_this a_this_text g_this_text J18_c0_1 J18_c0_2 J18_c0_3 J18_c0_4 J18_c0_5 a_arg0 J18_c0_7 J18_c0_8 hg_this_text (ib_w 0 1600 h30 rfl) (ib_w 0 1600 hJ18_c0_3 rfl) (ib_w 0 4 h29 rfl) (fun _ => ib_w 0 1599 h30 rfl)) mV_X5_54 hPc hDc rfl rfl rfl hl rfl rfl (Nat.le_of_ble_eq_true rfl) ⟨(Nat.le_of_ble_eq_true rfl), (Nat.le_of_ble_eq_true rfl)⟩ ⟨(Nat.le_of_ble_eq_true rfl), (Nat.le_of_ble_eq_true rfl)⟩ dX5_readCrossing_34) (fun r36 u37 H locs hw hP hD hS => ?_)
                try dsimp only at hP hD hw
                replace hP : va_P (dC, dI) vwCl [(wo_4_iiiiiiirrrirrrrrir a_arg0 J18_c1_0 J18_c1_1 J18_c1_2 J18_c1_3 J18_c1_4 0 J18_c1_6 a_arg0_calm a_arg0_pace a_arg0_trusts J18_c1_10 a_arg0_kindOf a_arg0_comesAt a_arg0_comers a_arg0_names a_arg0_code J18_c1_16 a_arg0_spans), (wi_0_200_0 a_arg0_comers cy J18_a2), (wi_0_6_0 a_arg0_spans cy J18_a3), (wi_0_108_0 a_arg0_names cy J18_a5), (wi_0_6_0 a_arg0_calm cy J18_a6), (wi_0_6_0 a_arg0_pace cy J18_a7), (wi_0_6_0 a_arg0_trusts cy J18_a8), (wi_0_12_0 a_arg0_kindOf cy J18_a9), (wi_0_12_0 a_arg0_comesAt cy J18_a10), (wi_0_1600_0 a_arg0_code cy J18_a11), (wo_5_riiiiirii a_this a_this_text J18_c0_1 J18_c0_2 J18_c0_3 J18_c0_4 J18_c0_5 a_arg0 J18_c0_7 J18_c0_8), (wi_0_1600_0 a_this_text cy g_this_text)] H := hP
                replace hD := k_D hP hD
                have h38 := hw
                replace hq := lf_b1 hq h38
                rcases Decidable.em (r36 = 0) with s39_0 | s39_0
                · as_aux_lemma =>
                    skip
                    replace hq := lf_pos hq (lf_eq (lf_rf r36) (lf_lc 0 (0 : Int) rfl) s39_0)
                    have h40 : ib r36 0 0 := by rw [s39_0]; exact ib_c 0 0 0 rfl
                    refine lv_tableIn (off := 39) (tgt := 76) hx hb dX5_readCrossing_37 (by rw [s39_0]; decide) (by rw [s39_0]; decide) (by rw [s39_0]; decide) (by decide) ?_
                    refine lv_aload_n hx hb dX5_readCrossing_76 rfl (lv_at hl 0 rfl) ?_
                    refine k_jvm hP hD hS hA [10, 0, 11, 3, 4, 5, 6] [false, true, true, false, false, false, false, true, true, true] rfl rfl (by decide +kernel) 0 0 (Nat.le_of_ble_eq_true rfl) (Nat.le_of_ble_eq_true rfl) (fun hPc hDc => k_runV (As := []) (rest := []) C0 hZ hS hA (s_X5_kindStatement l dC dI cy sq a_this a_this_text g_this_text J18_c0_1 J18_c0_2 J18_c0_3 J18_c0_4 J18_c0_5 a_arg0 J18_c1_0 J18_c1_1 J18_c1_2 J18_c1_3 J18_c1_4 0 J18_c1_6 a_arg0_calm J18_a6 a_arg0_pace J18_a7 a_arg0_trusts J18_a8 J18_c1_10 a_arg0_kindOf a_arg0_comesAt a_arg0_comers a_arg0_names J18_a5 a_arg0_code J18_c1_16 a_arg0_spans J18_c0_7 J18_c0_8 hg_this_text (ib_w 0 1600 hJ18_c0_1 rfl) (ib_w 0 1600 hJ18_c0_3 rfl) (ib_w 0 6 hJ18_c1_6 rfl) (ib_w 0 12 hJ18_c1_10 rfl)) mV_X5_58 hPc hDc rfl rfl rfl hl rfl rfl (Nat.le_of_ble_eq_true rfl) ⟨(Nat.le_of_ble_eq_true rfl), (Nat.le_of_ble_eq_true rfl)⟩ ⟨(Nat.le_of_ble_eq_true rfl), (Nat.le_of_ble_eq_true rfl)⟩ dX5_readCrossing_77) (fun u42 H locs hw hP hD hS => ?_)
                    obtain ⟨v43, v44, v45, v46, v47, v48, f49, f50, f51, f52⟩ := u42
                    try dsimp only at hP hD hw
                    replace hP : va_P (dC, dI) vwCl [(wi_0_200_0 a_arg0_comers cy J18_a2), (wi_0_6_0 a_arg0_spans cy J18_a3), (wi_0_12_0 a_arg0_kindOf cy J18_a9), (wi_0_12_0 a_arg0_comesAt cy J18_a10), (wi_0_1600_0 a_arg0_code cy J18_a11), (wo_5_riiiiirii a_this a_this_text J18_c0_1 v43 v44 v45 J18_c0_5 a_arg0 v46 v47), (wo_4_iiiiiiirrrirrrrrir a_arg0 J18_c1_0 J18_c1_1 J18_c1_2 J18_c1_3 J18_c1_4 0 v48 a_arg0_calm a_arg0_pace a_arg0_trusts J18_c1_10 a_arg0_kindOf a_arg0_comesAt a_arg0_comers a_arg0_names a_arg0_code J18_c1_16 a_arg0_spans), (wi_0_1600_0 a_this_text cy g_this_text), (wi_0_108_0 a_arg0_names cy f49), (wi_0_6_0 a_arg0_calm cy f50), (wi_0_6_0 a_arg0_pace cy f51), (wi_0_6_0 a_arg0_trusts cy f52)] H := hP
                    replace hD := k_D hP hD
                    obtain ⟨h53, h54, h55, h56, h57, h58⟩ := hw
                    replace hq := lf_p1 hq h58
                    replace hq := lf_p1 hq rfl
                    replace hq := lf_p1 hq rfl
                    replace hq := lf_p1 hq rfl
                    replace hq := lf_p1 hq rfl
                    replace hq := lf_p1 hq rfl
                    replace hq := lf_p1 hq rfl
                    replace hq := lf_p1 hq rfl
                    replace hq := lf_p1 hq rfl
                    refine lv_goto (tgt := 146) hx hb dX5_readCrossing_80 rfl ?_
                    exact jn146 v43 v44 v45 v46 v47 v48 f49 f50 f51 f52 J18_c1_10 J18_a2 J18_a9 J18_a10 J18_c0_5 J18_c1_16 J18_a3 J18_a11 J18_c1_4 H locs ls (ib_w 1 79 h35 rfl) (ib_w 0 1600 hJ18_c0_1 rfl) (ib_w 0 1600 h53 rfl) (ib_w 0 1600 h54 rfl) (ib_w 0 4 h55 rfl) (ib_w 10 120 hJ18_c1_0 rfl) (ib_w 1 2147483647 hJ18_c1_1 rfl) (ib_w 0 2 hJ18_c1_2 rfl) (ib_w 0 99 hJ18_c1_3 rfl) (ib_w 0 6 h56 rfl) (ib_w 0 12 hJ18_c1_10 rfl) (ib_w 0 1600 hJ18_c1_16 rfl) (ib_w 0 100 hJ18_c1_4 rfl) hJ18_a9 hJ18_a10 hJ18_a3 (fun hq9 => ib_w 0 1599 (h57 hq9) rfl) (by exact hq) (hP.sub [5, 6, 0, 1, 7, 8, 9, 10, 11, 2, 3, 4] rfl) (hD.sub [5, 6, 0, 1, 7, 8, 9, 10, 11, 2, 3, 4] (by decide +kernel) rfl) hS (lv_sub hl [0, 1, 2, 3] rfl)
                replace hq := lf_neg hq (lf_ne (lf_rf r36) (lf_lc 0 (0 : Int) rfl) s39_0)
                rcases Decidable.em (r36 = 1) with s39_1 | s39_1
                · as_aux_lemma =>
                    skip
                    replace hq := lf_pos hq (lf_eq (lf_rf r36) (lf_lc 1 (1 : Int) rfl) s39_1)
                    have h59 : ib r36 1 1 := by rw [s39_1]; exact ib_c 1 1 1 rfl
                    refine lv_tableIn (off := 46) (tgt := 83) hx hb dX5_readCrossing_37 (by rw [s39_1]; decide) (by rw [s39_1]; decide) (by rw [s39_1]; decide) (by decide) ?_
                    refine lv_aload_n hx hb dX5_readCrossing_83 rfl (lv_at hl 0 rfl) ?_
                    refine k_jvm hP hD hS hA [10, 0, 11, 3, 7, 8, 1] [false, false, true, false, true, true, true, false, false, true] rfl rfl (by decide +kernel) 0 0 (Nat.le_of_ble_eq_true rfl) (Nat.le_of_ble_eq_true rfl) (fun hPc hDc => k_runV (As := []) (rest := []) C0 hZ hS hA (s_X5_comesStatement l dC dI cy sq a_this a_this_text g_this_text J18_c0_1 J18_c0_2 J18_c0_3 J18_c0_4 J18_c0_5 a_arg0 J18_c1_0 J18_c1_1 J18_c1_2 J18_c1_3 J18_c1_4 0 J18_c1_6 a_arg0_calm a_arg0_pace a_arg0_trusts J18_c1_10 a_arg0_kindOf J18_a9 a_arg0_comesAt J18_a10 a_arg0_comers J18_a2 a_arg0_names J18_a5 a_arg0_code J18_c1_16 a_arg0_spans J18_c0_7 J18_c0_8 hg_this_text (ib_w 0 1600 hJ18_c0_1 rfl) (ib_w 0 1600 hJ18_c0_3 rfl) (ib_w 0 6 hJ18_c1_6 rfl) (ib_w 0 12 hJ18_c1_10 rfl) hJ18_a9 hJ18_a10) mV_X5_61 hPc hDc rfl rfl rfl hl rfl rfl (Nat.le_of_ble_eq_true rfl) ⟨(Nat.le_of_ble_eq_true rfl), (Nat.le_of_ble_eq_true rfl)⟩ ⟨(Nat.le_of_ble_eq_true rfl), (Nat.le_of_ble_eq_true rfl)⟩ dX5_readCrossing_84) (fun u61 H locs hw hP hD hS => ?_)
                    obtain ⟨v62, v63, v64, v65, v66, v67, f68, f69, f70, f71⟩ := u61
                    try dsimp only at hP hD hw
                    replace hP : va_P (dC, dI) vwCl [(wi_0_6_0 a_arg0_spans cy J18_a3), (wi_0_6_0 a_arg0_calm cy J18_a6), (wi_0_6_0 a_arg0_pace cy J18_a7), (wi_0_6_0 a_arg0_trusts cy J18_a8), (wi_0_1600_0 a_arg0_code cy J18_a11), (wo_5_riiiiirii a_this a_this_text J18_c0_1 v62 v63 v64 J18_c0_5 a_arg0 v65 v66), (wo_4_iiiiiiirrrirrrrrir a_arg0 J18_c1_0 J18_c1_1 J18_c1_2 J18_c1_3 J18_c1_4 0 J18_c1_6 a_arg0_calm a_arg0_pace a_arg0_trusts v67 a_arg0_kindOf a_arg0_comesAt a_arg0_comers a_arg0_names a_arg0_code J18_c1_16 a_arg0_spans), (wi_0_1600_0 a_this_text cy g_this_text), (wi_0_108_0 a_arg0_names cy f68), (wi_0_12_0 a_arg0_kindOf cy f69), (wi_0_12_0 a_arg0_comesAt cy f70), (wi_0_200_0 a_arg0_comers cy f71)] H := hP
                    replace hD := k_D hP hD
                    obtain ⟨h72, h73, h74, h75, h76, h77, h78, h79⟩ := hw
                    replace hq := lf_p1 hq h79
                    replace hq := lf_p1 hq rfl
                    replace hq := lf_p1 hq rfl
                    replace hq := lf_p1 hq rfl
                    replace hq := lf_p1 hq rfl
                    replace hq := lf_p1 hq rfl
                    replace hq := lf_p1 hq rfl
                    replace hq := lf_p1 hq rfl
                    replace hq := lf_p1 hq rfl
                    refine lv_goto (tgt := 146) hx hb dX5_readCrossing_87 rfl ?_
                    exact jn146 v62 v63 v64 v65 v66 J18_c1_6 f68 J18_a6 J18_a7 J18_a8 v67 f71 f69 f70 J18_c0_5 J18_c1_16 J18_a3 J18_a11 J18_c1_4 H locs ls (ib_w 1 79 h35 rfl) (ib_w 0 1600 hJ18_c0_1 rfl) (ib_w 0 1600 h72 rfl) (ib_w 0 1600 h73 rfl) (ib_w 0 4 h74 rfl) (ib_w 10 120 hJ18_c1_0 rfl) (ib_w 1 2147483647 hJ18_c1_1 rfl) (ib_w 0 2 hJ18_c1_2 rfl) (ib_w 0 99 hJ18_c1_3 rfl) (ib_w 0 6 hJ18_c1_6 rfl) (ib_w 0 12 h75 rfl) (ib_w 0 1600 hJ18_c1_16 rfl) (ib_w 0 100 hJ18_c1_4 rfl) h76 h77 hJ18_a3 (fun hq9 => ib_w 0 1599 (h78 hq9) rfl) (by exact hq) (hP.sub [5, 6, 11, 0, 7, 8, 1, 2, 3, 9, 10, 4] rfl) (hD.sub [5, 6, 11, 0, 7, 8, 1, 2, 3, 9, 10, 4] (by decide +kernel) rfl) hS (lv_sub hl [0, 1, 2, 3] rfl)
                replace hq := lf_neg hq (lf_ne (lf_rf r36) (lf_lc 1 (1 : Int) rfl) s39_1)
                rcases Decidable.em (r36 = 2) with s39_2 | s39_2
                · as_aux_lemma =>
                    skip
                    replace hq := lf_pos hq (lf_eq (lf_rf r36) (lf_lc 2 (2 : Int) rfl) s39_2)
                    have h80 : ib r36 2 2 := by rw [s39_2]; exact ib_c 2 2 2 rfl
                    refine lv_tableIn (off := 53) (tgt := 90) hx hb dX5_readCrossing_37 (by rw [s39_2]; decide) (by rw [s39_2]; decide) (by rw [s39_2]; decide) (by decide) ?_
                    refine lv_aload_n hx hb dX5_readCrossing_90 rfl (lv_at hl 0 rfl) ?_
                    refine lv_iconst (v := 0) hx hb dX5_readCrossing_91 rfl ?_
                    refine lv_bipush (v := 7) hx hb dX5_readCrossing_92 rfl ?_
                    refine k_jvm hP hD hS hA [10, 0, 2, 11, 9] [false, true, false, true, true, true, true, true, true] rfl rfl (by decide +kernel) 0 0 (Nat.le_of_ble_eq_true rfl) (Nat.le_of_ble_eq_true rfl) (fun hPc hDc => k_runV (As := [.int 0, .int 7]) (rest := []) C0 hZ hS hA (s_X5_codeStatement l dC dI cy sq a_this a_this_text g_this_text J18_c0_1 J18_c0_2 J18_c0_3 J18_c0_4 J18_c0_5 a_arg0 J18_c1_0 J18_c1_1 J18_c1_2 J18_c1_3 J18_c1_4 0 J18_c1_6 a_arg0_calm a_arg0_pace a_arg0_trusts J18_c1_10 a_arg0_kindOf a_arg0_comesAt a_arg0_comers a_arg0_names a_arg0_code J18_a11 J18_c1_16 a_arg0_spans J18_a3 J18_c0_7 J18_c0_8 0 7 hg_this_text (ib_w 0 1600 hJ18_c0_1 rfl) (ib_w 0 1600 hJ18_c0_3 rfl) (ib_w 0 1600 hJ18_c1_16 rfl) hJ18_a3 (ib_w 0 4 (ib_c 0 0 0 rfl) rfl)) mV_X5_64 hPc hDc rfl rfl rfl hl rfl rfl (Nat.le_of_ble_eq_true rfl) ⟨(Nat.le_of_ble_eq_true rfl), (Nat.le_of_ble_eq_true rfl)⟩ ⟨(Nat.le_of_ble_eq_true rfl), (Nat.le_of_ble_eq_true rfl)⟩ dX5_readCrossing_94) (fun u82 H locs hw hP hD hS => ?_)
                    obtain ⟨v83, v84, v85, v86, v87, v88, v89, f90, f91⟩ := u82
                    try dsimp only at hP hD hw
                    replace hP : va_P (dC, dI) vwCl [(wi_0_200_0 a_arg0_comers cy J18_a2), (wi_0_108_0 a_arg0_names cy J18_a5), (wi_0_6_0 a_arg0_calm cy J18_a6), (wi_0_6_0 a_arg0_pace cy J18_a7), (wi_0_6_0 a_arg0_trusts cy J18_a8), (wi_0_12_0 a_arg0_kindOf cy J18_a9), (wi_0_12_0 a_arg0_comesAt cy J18_a10), (wo_5_riiiiirii a_this a_this_text J18_c0_1 v83 v84 v85 v86 a_arg0 v87 v88), (wo_4_iiiiiiirrrirrrrrir a_arg0 J18_c1_0 J18_c1_1 J18_c1_2 J18_c1_3 J18_c1_4 0 J18_c1_6 a_arg0_calm a_arg0_pace a_arg0_trusts J18_c1_10 a_arg0_kindOf a_arg0_comesAt a_arg0_comers a_arg0_names a_arg0_code v89 a_arg0_spans), (wi_0_6_0 a_arg0_spans cy f90), (wi_0_1600_0 a_this_text cy g_this_text), (wi_0_1600_0 a_arg0_code cy f91)] H := hP
                    replace hD := k_D hP hD
                    obtain ⟨h92, h93, h94, h95, h96, h97, h98⟩ := hw
                    have h98 := by have h9 := h98; try simp only [show (0 : Int32).toInt = (0 : Int) from rfl] at h9; try simp only [show (7 : Int32).toInt = (7 : Int) from rfl] at h9; exact h9
                    replace hq := lf_p1 hq h98
                    replace hq := lf_p1 hq rfl
                    replace hq := lf_p1 hq rfl
                    replace hq := lf_p1 hq rfl
                    replace hq := lf_p1 hq rfl
                    replace hq := lf_p1 hq rfl
                    replace hq := lf_p1 hq rfl
                    replace hq := lf_p1 hq rfl
                    refine lv_goto (tgt := 146) hx hb dX5_readCrossing_97 rfl ?_
                    exact jn146 v83 v84 v85 v87 v88 J18_c1_6 J18_a5 J18_a6 J18_a7 J18_a8 J18_c1_10 J18_a2 J18_a9 J18_a10 v86 v89 f90 f91 J18_c1_4 H locs ls (ib_w 1 79 h35 rfl) (ib_w 0 1600 hJ18_c0_1 rfl) (ib_w 0 1600 h92 rfl) (ib_w 0 1600 h93 rfl) (ib_w 0 4 h94 rfl) (ib_w 10 120 hJ18_c1_0 rfl) (ib_w 1 2147483647 hJ18_c1_1 rfl) (ib_w 0 2 hJ18_c1_2 rfl) (ib_w 0 99 hJ18_c1_3 rfl) (ib_w 0 6 hJ18_c1_6 rfl) (ib_w 0 12 hJ18_c1_10 rfl) (ib_w 0 1600 h95 rfl) (ib_w 0 100 hJ18_c1_4 rfl) hJ18_a9 hJ18_a10 h96 (fun hq9 => ib_w 0 1599 (h97 hq9) rfl) (by exact hq) (hP.sub [7, 8, 0, 9, 10, 1, 2, 3, 4, 5, 6, 11] rfl) (hD.sub [7, 8, 0, 9, 10, 1, 2, 3, 4, 5, 6, 11] (by decide +kernel) rfl) hS (lv_sub hl [0, 1, 2, 3] rfl)
                replace hq := lf_neg hq (lf_ne (lf_rf r36) (lf_lc 2 (2 : Int) rfl) s39_2)
                rcases Decidable.em (r36 = 3) with s39_3 | s39_3
                · as_aux_lemma =>
                    skip
                    replace hq := lf_pos hq (lf_eq (lf_rf r36) (lf_lc 3 (3 : Int) rfl) s39_3)
                    have h99 : ib r36 3 3 := by rw [s39_3]; exact ib_c 3 3 3 rfl
                    refine lv_tableIn (off := 63) (tgt := 100) hx hb dX5_readCrossing_37 (by rw [s39_3]; decide) (by rw [s39_3]; decide) (by rw [s39_3]; decide) (by decide) ?_
                    refine lv_aload_n hx hb dX5_readCrossing_100 rfl (lv_at hl 0 rfl) ?_
                    refine lv_iconst (v := 2) hx hb dX5_readCrossing_101 rfl ?_
                    refine lv_sipush (v := 507) hx hb dX5_readCrossing_102 rfl ?_
                    refine k_jvm hP hD hS hA [10, 0, 2, 11, 9] [false, true, false, true, true, true, true, true, true] rfl rfl (by decide +kernel) 0 0 (Nat.le_of_ble_eq_true rfl) (Nat.le_of_ble_eq_true rfl) (fun hPc hDc => k_runV (As := [.int 2, .int 507]) (rest := []) C0 hZ hS hA (s_X5_codeStatement l dC dI cy sq a_this a_this_text g_this_text J18_c0_1 J18_c0_2 J18_c0_3 J18_c0_4 J18_c0_5 a_arg0 J18_c1_0 J18_c1_1 J18_c1_2 J18_c1_3 J18_c1_4 0 J18_c1_6 a_arg0_calm a_arg0_pace a_arg0_trusts J18_c1_10 a_arg0_kindOf a_arg0_comesAt a_arg0_comers a_arg0_names a_arg0_code J18_a11 J18_c1_16 a_arg0_spans J18_a3 J18_c0_7 J18_c0_8 2 507 hg_this_text (ib_w 0 1600 hJ18_c0_1 rfl) (ib_w 0 1600 hJ18_c0_3 rfl) (ib_w 0 1600 hJ18_c1_16 rfl) hJ18_a3 (ib_w 0 4 (ib_c 2 2 2 rfl) rfl)) mV_X5_64 hPc hDc rfl rfl rfl hl rfl rfl (Nat.le_of_ble_eq_true rfl) ⟨(Nat.le_of_ble_eq_true rfl), (Nat.le_of_ble_eq_true rfl)⟩ ⟨(Nat.le_of_ble_eq_true rfl), (Nat.le_of_ble_eq_true rfl)⟩ dX5_readCrossing_105) (fun u101 H locs hw hP hD hS => ?_)
                    obtain ⟨v102, v103, v104, v105, v106, v107, v108, f109, f110⟩ := u101
                    try dsimp only at hP hD hw
                    replace hP : va_P (dC, dI) vwCl [(wi_0_200_0 a_arg0_comers cy J18_a2), (wi_0_108_0 a_arg0_names cy J18_a5), (wi_0_6_0 a_arg0_calm cy J18_a6), (wi_0_6_0 a_arg0_pace cy J18_a7), (wi_0_6_0 a_arg0_trusts cy J18_a8), (wi_0_12_0 a_arg0_kindOf cy J18_a9), (wi_0_12_0 a_arg0_comesAt cy J18_a10), (wo_5_riiiiirii a_this a_this_text J18_c0_1 v102 v103 v104 v105 a_arg0 v106 v107), (wo_4_iiiiiiirrrirrrrrir a_arg0 J18_c1_0 J18_c1_1 J18_c1_2 J18_c1_3 J18_c1_4 0 J18_c1_6 a_arg0_calm a_arg0_pace a_arg0_trusts J18_c1_10 a_arg0_kindOf a_arg0_comesAt a_arg0_comers a_arg0_names a_arg0_code v108 a_arg0_spans), (wi_0_6_0 a_arg0_spans cy f109), (wi_0_1600_0 a_this_text cy g_this_text), (wi_0_1600_0 a_arg0_code cy f110)] H := hP
                    replace hD := k_D hP hD
                    obtain ⟨h111, h112, h113, h114, h115, h116, h117⟩ := hw
                    have h117 := by have h9 := h117; try simp only [show (2 : Int32).toInt = (2 : Int) from rfl] at h9; try simp only [show (507 : Int32).toInt = (507 : Int) from rfl] at h9; exact h9
                    replace hq := lf_p1 hq h117
                    replace hq := lf_p1 hq rfl
                    replace hq := lf_p1 hq rfl
                    replace hq := lf_p1 hq rfl
                    replace hq := lf_p1 hq rfl
                    replace hq := lf_p1 hq rfl
                    replace hq := lf_p1 hq rfl
                    replace hq := lf_p1 hq rfl
                    refine lv_goto (tgt := 146) hx hb dX5_readCrossing_108 rfl ?_
                    exact jn146 v102 v103 v104 v106 v107 J18_c1_6 J18_a5 J18_a6 J18_a7 J18_a8 J18_c1_10 J18_a2 J18_a9 J18_a10 v105 v108 f109 f110 J18_c1_4 H locs ls (ib_w 1 79 h35 rfl) (ib_w 0 1600 hJ18_c0_1 rfl) (ib_w 0 1600 h111 rfl) (ib_w 0 1600 h112 rfl) (ib_w 0 4 h113 rfl) (ib_w 10 120 hJ18_c1_0 rfl) (ib_w 1 2147483647 hJ18_c1_1 rfl) (ib_w 0 2 hJ18_c1_2 rfl) (ib_w 0 99 hJ18_c1_3 rfl) (ib_w 0 6 hJ18_c1_6 rfl) (ib_w 0 12 hJ18_c1_10 rfl) (ib_w 0 1600 h114 rfl) (ib_w 0 100 hJ18_c1_4 rfl) hJ18_a9 hJ18_a10 h115 (fun hq9 => ib_w 0 1599 (h116 hq9) rfl) (by exact hq) (hP.sub [7, 8, 0, 9, 10, 1, 2, 3, 4, 5, 6, 11] rfl) (hD.sub [7, 8, 0, 9, 10, 1, 2, 3, 4, 5, 6, 11] (by decide +kernel) rfl) hS (lv_sub hl [0, 1, 2, 3] rfl)
                replace hq := lf_neg hq (lf_ne (lf_rf r36) (lf_lc 3 (3 : Int) rfl) s39_3)
                rcases Decidable.em (r36 = 4) with s39_4 | s39_4
                · as_aux_lemma =>
                    skip
                    replace hq := lf_pos hq (lf_eq (lf_rf r36) (lf_lc 4 (4 : Int) rfl) s39_4)
                    have h118 : ib r36 4 4 := by rw [s39_4]; exact ib_c 4 4 4 rfl
                    refine lv_tableIn (off := 74) (tgt := 111) hx hb dX5_readCrossing_37 (by rw [s39_4]; decide) (by rw [s39_4]; decide) (by rw [s39_4]; decide) (by decide) ?_
                    refine lv_aload_n hx hb dX5_readCrossing_111 rfl (lv_at hl 0 rfl) ?_
                    refine lv_iconst (v := 4) hx hb dX5_readCrossing_112 rfl ?_
                    refine lv_bipush (v := 123) hx hb dX5_readCrossing_113 rfl ?_
                    refine k_jvm hP hD hS hA [10, 0, 2, 11, 9] [false, true, false, true, true, true, true, true, true] rfl rfl (by decide +kernel) 0 0 (Nat.le_of_ble_eq_true rfl) (Nat.le_of_ble_eq_true rfl) (fun hPc hDc => k_runV (As := [.int 4, .int 123]) (rest := []) C0 hZ hS hA (s_X5_codeStatement l dC dI cy sq a_this a_this_text g_this_text J18_c0_1 J18_c0_2 J18_c0_3 J18_c0_4 J18_c0_5 a_arg0 J18_c1_0 J18_c1_1 J18_c1_2 J18_c1_3 J18_c1_4 0 J18_c1_6 a_arg0_calm a_arg0_pace a_arg0_trusts J18_c1_10 a_arg0_kindOf a_arg0_comesAt a_arg0_comers a_arg0_names a_arg0_code J18_a11 J18_c1_16 a_arg0_spans J18_a3 J18_c0_7 J18_c0_8 4 123 hg_this_text (ib_w 0 1600 hJ18_c0_1 rfl) (ib_w 0 1600 hJ18_c0_3 rfl) (ib_w 0 1600 hJ18_c1_16 rfl) hJ18_a3 (ib_w 0 4 (ib_c 4 4 4 rfl) rfl)) mV_X5_64 hPc hDc rfl rfl rfl hl rfl rfl (Nat.le_of_ble_eq_true rfl) ⟨(Nat.le_of_ble_eq_true rfl), (Nat.le_of_ble_eq_true rfl)⟩ ⟨(Nat.le_of_ble_eq_true rfl), (Nat.le_of_ble_eq_true rfl)⟩ dX5_readCrossing_115) (fun u120 H locs hw hP hD hS => ?_)
                    obtain ⟨v121, v122, v123, v124, v125, v126, v127, f128, f129⟩ := u120
                    try dsimp only at hP hD hw
                    replace hP : va_P (dC, dI) vwCl [(wi_0_200_0 a_arg0_comers cy J18_a2), (wi_0_108_0 a_arg0_names cy J18_a5), (wi_0_6_0 a_arg0_calm cy J18_a6), (wi_0_6_0 a_arg0_pace cy J18_a7), (wi_0_6_0 a_arg0_trusts cy J18_a8), (wi_0_12_0 a_arg0_kindOf cy J18_a9), (wi_0_12_0 a_arg0_comesAt cy J18_a10), (wo_5_riiiiirii a_this a_this_text J18_c0_1 v121 v122 v123 v124 a_arg0 v125 v126), (wo_4_iiiiiiirrrirrrrrir a_arg0 J18_c1_0 J18_c1_1 J18_c1_2 J18_c1_3 J18_c1_4 0 J18_c1_6 a_arg0_calm a_arg0_pace a_arg0_trusts J18_c1_10 a_arg0_kindOf a_arg0_comesAt a_arg0_comers a_arg0_names a_arg0_code v127 a_arg0_spans), (wi_0_6_0 a_arg0_spans cy f128), (wi_0_1600_0 a_this_text cy g_this_text), (wi_0_1600_0 a_arg0_code cy f129)] H := hP
                    replace hD := k_D hP hD
                    obtain ⟨h130, h131, h132, h133, h134, h135, h136⟩ := hw
                    have h136 := by have h9 := h136; try simp only [show (4 : Int32).toInt = (4 : Int) from rfl] at h9; try simp only [show (123 : Int32).toInt = (123 : Int) from rfl] at h9; exact h9
                    replace hq := lf_p1 hq h136
                    replace hq := lf_p1 hq rfl
                    replace hq := lf_p1 hq rfl
                    replace hq := lf_p1 hq rfl
                    replace hq := lf_p1 hq rfl
                    replace hq := lf_p1 hq rfl
                    replace hq := lf_p1 hq rfl
                    replace hq := lf_p1 hq rfl
                    refine lv_goto (tgt := 146) hx hb dX5_readCrossing_118 rfl ?_
                    exact jn146 v121 v122 v123 v125 v126 J18_c1_6 J18_a5 J18_a6 J18_a7 J18_a8 J18_c1_10 J18_a2 J18_a9 J18_a10 v124 v127 f128 f129 J18_c1_4 H locs ls (ib_w 1 79 h35 rfl) (ib_w 0 1600 hJ18_c0_1 rfl) (ib_w 0 1600 h130 rfl) (ib_w 0 1600 h131 rfl) (ib_w 0 4 h132 rfl) (ib_w 10 120 hJ18_c1_0 rfl) (ib_w 1 2147483647 hJ18_c1_1 rfl) (ib_w 0 2 hJ18_c1_2 rfl) (ib_w 0 99 hJ18_c1_3 rfl) (ib_w 0 6 hJ18_c1_6 rfl) (ib_w 0 12 hJ18_c1_10 rfl) (ib_w 0 1600 h133 rfl) (ib_w 0 100 hJ18_c1_4 rfl) hJ18_a9 hJ18_a10 h134 (fun hq9 => ib_w 0 1599 (h135 hq9) rfl) (by exact hq) (hP.sub [7, 8, 0, 9, 10, 1, 2, 3, 4, 5, 6, 11] rfl) (hD.sub [7, 8, 0, 9, 10, 1, 2, 3, 4, 5, 6, 11] (by decide +kernel) rfl) hS (lv_sub hl [0, 1, 2, 3] rfl)
                replace hq := lf_neg hq (lf_ne (lf_rf r36) (lf_lc 4 (4 : Int) rfl) s39_4)
                rcases Decidable.em (r36 = 5) with s39_5 | s39_5
                · as_aux_lemma =>
                    skip
                    replace hq := lf_pos hq (lf_eq (lf_rf r36) (lf_lc 5 (5 : Int) rfl) s39_5)
                    have h137 : ib r36 5 5 := by rw [s39_5]; exact ib_c 5 5 5 rfl
                    refine lv_tableIn (off := 84) (tgt := 121) hx hb dX5_readCrossing_37 (by rw [s39_5]; decide) (by rw [s39_5]; decide) (by rw [s39_5]; decide) (by decide) ?_
                    refine lv_aload_n hx hb dX5_readCrossing_121 rfl (lv_at hl 1 rfl) ?_
                    refine lv_aload_n hx hb dX5_readCrossing_122 rfl (lv_at hl 0 rfl) ?_
                    refine va_ldcS hx hb C0.2.2.2.1 (C0.2.2.2.2.2.2.2.2.2.2.2.2 1 (by decide)) dX5_readCrossing_123 ?_
                    refine lv_iconst (v := 0) hx hb dX5_readCrossing_125 rfl ?_
                    refine lv_bipush (v := 100) hx hb dX5_readCrossing_126 rfl ?_
                    refine k_jim hP hD hS hA [10, 11] [true, true, true, true, true, true, true, true, true, true] rfl rfl (by decide +kernel) 0 0 (Nat.le_of_ble_eq_true rfl) (Nat.le_of_ble_eq_true rfl) (fun hPc hDc => k_runV (As := [.ref (sq 1), .int 0, .int 100]) (rest := [.ref a_arg0]) C0 hZ hS hA (s_X5_numberBehind_a1_0_a2_100_s1 l dC dI cy sq a_this a_this_text g_this_text J18_c0_1 J18_c0_2 J18_c0_3 J18_c0_4 J18_c0_5 a_arg0 J18_c0_7 J18_c0_8 hg_this_text (ib_w 0 1600 hJ18_c0_1 rfl) (ib_w 0 1600 h30 rfl) (ib_w 0 1600 hJ18_c0_3 rfl) (ib_w 0 4 h29 rfl) (fun _ => ib_w 0 1599 h30 rfl)) mV_X5_70 hPc hDc rfl rfl rfl hl rfl rfl (Nat.le_of_ble_eq_true rfl) ⟨(Nat.le_of_ble_eq_true rfl), (Nat.le_of_ble_eq_true rfl)⟩ ⟨(Nat.le_of_ble_eq_true rfl), (Nat.le_of_ble_eq_true rfl)⟩ dX5_readCrossing_128) (fun r138 u139 H locs hw hP hD hS => ?_)
                    obtain ⟨v140, v141, v142, v143, v144⟩ := u139
                    try dsimp only at hP hD hw
                    replace hP : va_P (dC, dI) vwCl [(wo_4_iiiiiiirrrirrrrrir a_arg0 J18_c1_0 J18_c1_1 J18_c1_2 J18_c1_3 J18_c1_4 0 J18_c1_6 a_arg0_calm a_arg0_pace a_arg0_trusts J18_c1_10 a_arg0_kindOf a_arg0_comesAt a_arg0_comers a_arg0_names a_arg0_code J18_c1_16 a_arg0_spans), (wi_0_200_0 a_arg0_comers cy J18_a2), (wi_0_6_0 a_arg0_spans cy J18_a3), (wi_0_108_0 a_arg0_names cy J18_a5), (wi_0_6_0 a_arg0_calm cy J18_a6), (wi_0_6_0 a_arg0_pace cy J18_a7), (wi_0_6_0 a_arg0_trusts cy J18_a8), (wi_0_12_0 a_arg0_kindOf cy J18_a9), (wi_0_12_0 a_arg0_comesAt cy J18_a10), (wi_0_1600_0 a_arg0_code cy J18_a11), (wo_5_riiiiirii a_this a_this_text J18_c0_1 v140 v141 v142 J18_c0_5 a_arg0 v143 v144), (wi_0_1600_0 a_this_text cy g_this_text)] H := hP
                    replace hD := k_D hP hD
                    obtain ⟨h145, h146, h147, h148, h149, h150⟩ := hw
                    replace hq := lf_p1 hq h150
                    replace hq := lf_p1 hq rfl
                    replace hq := lf_p1 hq rfl
                    replace hq := lf_p1 hq rfl
                    replace hq := lf_p1 hq rfl
                    refine k_put C0 fp_X5_74 hP hD hS 0 rfl rfl rfl (Nat.le_of_ble_eq_true rfl) dX5_readCrossing_131 (fun H locs hP hD hS => ?_)
                    replace hP : va_P (dC, dI) vwCl [(wo_4_iiiiiiirrrirrrrrir a_arg0 J18_c1_0 J18_c1_1 J18_c1_2 J18_c1_3 r138 0 J18_c1_6 a_arg0_calm a_arg0_pace a_arg0_trusts J18_c1_10 a_arg0_kindOf a_arg0_comesAt a_arg0_comers a_arg0_names a_arg0_code J18_c1_16 a_arg0_spans), (wi_0_200_0 a_arg0_comers cy J18_a2), (wi_0_6_0 a_arg0_spans cy J18_a3), (wi_0_108_0 a_arg0_names cy J18_a5), (wi_0_6_0 a_arg0_calm cy J18_a6), (wi_0_6_0 a_arg0_pace cy J18_a7), (wi_0_6_0 a_arg0_trusts cy J18_a8), (wi_0_12_0 a_arg0_kindOf cy J18_a9), (wi_0_12_0 a_arg0_comesAt cy J18_a10), (wi_0_1600_0 a_arg0_code cy J18_a11), (wo_5_riiiiirii a_this a_this_text J18_c0_1 v140 v141 v142 J18_c0_5 a_arg0 v143 v144), (wi_0_1600_0 a_this_text cy g_this_text)] H := hP
                    replace hD := k_D hP hD
                    refine lv_goto (tgt := 146) hx hb dX5_readCrossing_134 rfl ?_
                    exact jn146 v140 v141 v142 v143 v144 J18_c1_6 J18_a5 J18_a6 J18_a7 J18_a8 J18_c1_10 J18_a2 J18_a9 J18_a10 J18_c0_5 J18_c1_16 J18_a3 J18_a11 r138 H locs ls (ib_w 1 79 h35 rfl) (ib_w 0 1600 hJ18_c0_1 rfl) (ib_w 0 1600 h146 rfl) (ib_w 0 1600 h147 rfl) (ib_w 0 4 h148 rfl) (ib_w 10 120 hJ18_c1_0 rfl) (ib_w 1 2147483647 hJ18_c1_1 rfl) (ib_w 0 2 hJ18_c1_2 rfl) (ib_w 0 99 hJ18_c1_3 rfl) (ib_w 0 6 hJ18_c1_6 rfl) (ib_w 0 12 hJ18_c1_10 rfl) (ib_w 0 1600 hJ18_c1_16 rfl) (ib_w 0 100 h145 rfl) hJ18_a9 hJ18_a10 hJ18_a3 (fun hq9 => ib_w 0 1599 (h149 hq9) rfl) (by exact hq) (hP.sub [10, 0, 1, 2, 11, 3, 4, 5, 6, 7, 8, 9] rfl) (hD.sub [10, 0, 1, 2, 11, 3, 4, 5, 6, 7, 8, 9] (by decide +kernel) rfl) hS (lv_sub hl [0, 1, 2, 3] rfl)
                replace hq := lf_neg hq (lf_ne (lf_rf r36) (lf_lc 5 (5 : Int) rfl) s39_5)
                refine lv_tableOut (tgt := 137) hx hb dX5_readCrossing_37 (by have q0 := ib_nei 0 0 rfl s39_0; have q1 := ib_nei 1 1 rfl s39_1; have q2 := ib_nei 2 2 rfl s39_2; have q3 := ib_nei 3 3 rfl s39_3; have q4 := ib_nei 4 4 rfl s39_4; have q5 := ib_nei 5 5 rfl s39_5; omega) (by decide) ?_
                refine lv_aload_n hx hb dX5_readCrossing_137 rfl (lv_at hl 0 rfl) ?_
                refine lv_iconst (v := 1) hx hb dX5_readCrossing_138 rfl ?_
                refine lv_aload_n hx hb dX5_readCrossing_139 rfl (lv_at hl 0 rfl) ?_
                refine k_get C0 fg_X5_15 hP 10 rfl rfl dX5_readCrossing_140 ?_
                refine k_jvm hP hD hS hA [10] [true, true, true, true, true, true, true, true, true, true, false, true] rfl rfl (by decide +kernel) 0 0 (Nat.le_of_ble_eq_true rfl) (Nat.le_of_ble_eq_true rfl) (fun hPc hDc => k_runV (As := [.int 1, .int J18_c0_2]) (rest := []) C0 hZ hS hA (s_X5_fail l dC dI cy sq a_this a_this_text J18_c0_1 J18_c0_2 J18_c0_3 J18_c0_4 J18_c0_5 a_arg0 J18_c0_7 J18_c0_8 1 J18_c0_2 ) mV_X5_78 hPc hDc rfl rfl rfl hl rfl rfl (Nat.le_of_ble_eq_true rfl) ⟨(Nat.le_of_ble_eq_true rfl), (Nat.le_of_ble_eq_true rfl)⟩ ⟨(Nat.le_of_ble_eq_true rfl), (Nat.le_of_ble_eq_true rfl)⟩ dX5_readCrossing_143) (fun u152 H locs hw hP hD hS => ?_)
                obtain ⟨v153, v154⟩ := u152
                try dsimp only at hP hD hw
                replace hP : va_P (dC, dI) vwCl [(wo_4_iiiiiiirrrirrrrrir a_arg0 J18_c1_0 J18_c1_1 J18_c1_2 J18_c1_3 J18_c1_4 0 J18_c1_6 a_arg0_calm a_arg0_pace a_arg0_trusts J18_c1_10 a_arg0_kindOf a_arg0_comesAt a_arg0_comers a_arg0_names a_arg0_code J18_c1_16 a_arg0_spans), (wi_0_200_0 a_arg0_comers cy J18_a2), (wi_0_6_0 a_arg0_spans cy J18_a3), (wi_0_108_0 a_arg0_names cy J18_a5), (wi_0_6_0 a_arg0_calm cy J18_a6), (wi_0_6_0 a_arg0_pace cy J18_a7), (wi_0_6_0 a_arg0_trusts cy J18_a8), (wi_0_12_0 a_arg0_kindOf cy J18_a9), (wi_0_12_0 a_arg0_comesAt cy J18_a10), (wi_0_1600_0 a_arg0_code cy J18_a11), (wi_0_1600_0 a_this_text cy g_this_text), (wo_5_riiiiirii a_this a_this_text J18_c0_1 J18_c0_1 J18_c0_1 0 J18_c0_5 a_arg0 v153 v154)] H := hP
                replace hD := k_D hP hD
                have h155 := hw
                have h155 := by have h9 := h155; try simp only [show (1 : Int32).toInt = (1 : Int) from rfl] at h9; exact h9
                replace hq := lf_p1 hq h155
                exact jn146 J18_c0_1 J18_c0_1 0 v153 v154 J18_c1_6 J18_a5 J18_a6 J18_a7 J18_a8 J18_c1_10 J18_a2 J18_a9 J18_a10 J18_c0_5 J18_c1_16 J18_a3 J18_a11 J18_c1_4 H locs ls (ib_w 1 79 h35 rfl) (ib_w 0 1600 hJ18_c0_1 rfl) (ib_w 0 1600 hJ18_c0_1 rfl) (ib_w 0 1600 hJ18_c0_1 rfl) (ib_w 0 4 (ib_c 0 0 0 rfl) rfl) (ib_w 10 120 hJ18_c1_0 rfl) (ib_w 1 2147483647 hJ18_c1_1 rfl) (ib_w 0 2 hJ18_c1_2 rfl) (ib_w 0 99 hJ18_c1_3 rfl) (ib_w 0 6 hJ18_c1_6 rfl) (ib_w 0 12 hJ18_c1_10 rfl) (ib_w 0 1600 hJ18_c1_16 rfl) (ib_w 0 100 hJ18_c1_4 rfl) hJ18_a9 hJ18_a10 hJ18_a3 (fun hq9 => absurd rfl hq9) (by try simp only [show (0 : Int32).toInt = (0 : Int) from rfl]; exact hq) (hP.sub [11, 0, 1, 2, 10, 3, 4, 5, 6, 7, 8, 9] rfl) (hD.sub [11, 0, 1, 2, 10, 3, 4, 5, 6, 7, 8, 9] (by decide +kernel) rfl) hS (lv_sub hl [0, 1, 2, 3] rfl)
  refine lv_aload_n hx hb dX5_readCrossing_0 rfl (lv_at hl 0 rfl) ?_
  refine lv_aload_n hx hb dX5_readCrossing_1 rfl (lv_at hl 1 rfl) ?_
  refine lv_iload_n hx hb dX5_readCrossing_2 rfl (lv_at hl 2 rfl) ?_
  refine k_jvm hP hD hS hA [0, 1, 2, 3, 4] [false, false, false, false, false, true, true, true, true, true, true, true] rfl rfl (by decide +kernel) 0 0 (Nat.le_of_ble_eq_true rfl) (Nat.le_of_ble_eq_true rfl) (fun hPc hDc => k_runV (As := [.ref a_arg0, .int p1]) (rest := []) C0 hZ hS hA (s_X5_begin l dC dI cy sq a_this a_this_text g_this_text x_this_length x_this_at x_this_behind x_this_sort x_this_allowed a_this_plan x_this_fault x_this_place a_arg0 x_arg0_cycle x_arg0_green x_arg0_rule x_arg0_least x_arg0_away x_arg0_statements x_arg0_kinds a_arg0_calm a_arg0_pace a_arg0_trusts x_arg0_walkers a_arg0_kindOf a_arg0_comesAt a_arg0_comers g_arg0_comers a_arg0_names a_arg0_code x_arg0_size a_arg0_spans g_arg0_spans p1 hg_this_text (ib_w 0 1600 hp1 rfl)) mV_X5_41 hPc hDc rfl rfl rfl hl rfl rfl (Nat.le_of_ble_eq_true rfl) ⟨(Nat.le_of_ble_eq_true rfl), (Nat.le_of_ble_eq_true rfl)⟩ ⟨(Nat.le_of_ble_eq_true rfl), (Nat.le_of_ble_eq_true rfl)⟩ dX5_readCrossing_3) (fun u157 H locs hw hP hD hS => ?_)
  obtain ⟨v158, v159, v160, v161, f162, f163⟩ := u157
  try dsimp only at hP hD hw
  replace hP : va_P (dC, dI) vwCl [(wi_0_108_0 a_arg0_names cy g_arg0_names), (wi_0_6_0 a_arg0_calm cy g_arg0_calm), (wi_0_6_0 a_arg0_pace cy g_arg0_pace), (wi_0_6_0 a_arg0_trusts cy g_arg0_trusts), (wi_0_12_0 a_arg0_kindOf cy g_arg0_kindOf), (wi_0_12_0 a_arg0_comesAt cy g_arg0_comesAt), (wi_0_1600_0 a_arg0_code cy g_arg0_code), (wo_5_riiiiirii a_this a_this_text v158 v159 v160 v161 x_this_allowed a_arg0 0 (-1)), (wo_4_iiiiiiirrrirrrrrir a_arg0 0 x_arg0_green x_arg0_rule x_arg0_least 0 0 0 a_arg0_calm a_arg0_pace a_arg0_trusts 0 a_arg0_kindOf a_arg0_comesAt a_arg0_comers a_arg0_names a_arg0_code 0 a_arg0_spans), (wi_0_200_0 a_arg0_comers cy f162), (wi_0_6_0 a_arg0_spans cy f163), (wi_0_1600_0 a_this_text cy g_this_text)] H := hP
  replace hD := k_D hP hD
  obtain ⟨h164, h165, h166, h167, h168, h169, h170⟩ := hw
  replace hq := lf_p1 hq h170
  replace hq := lf_p1 hq rfl
  replace hq := lf_p1 hq rfl
  replace hq := lf_p1 hq rfl
  replace hq := lf_p1 hq rfl
  refine lv_aload_n hx hb dX5_readCrossing_6 rfl (lv_at hl 0 rfl) ?_
  refine k_jvm hP hD hS hA [7, 11, 8] [true, true, true, true, true, true, true, false, false, true, true] rfl rfl (by decide +kernel) 0 0 (Nat.le_of_ble_eq_true rfl) (Nat.le_of_ble_eq_true rfl) (fun hPc hDc => k_runV (As := []) (rest := []) C0 hZ hS hA (s_X5_firstStatement l dC dI cy sq a_this a_this_text g_this_text v158 v159 v160 v161 x_this_allowed a_arg0 0 x_arg0_green x_arg0_rule x_arg0_least 0 0 0 a_arg0_calm a_arg0_pace a_arg0_trusts 0 a_arg0_kindOf a_arg0_comesAt a_arg0_comers a_arg0_names a_arg0_code 0 a_arg0_spans 0 (-1) hg_this_text (ib_w 0 1600 h164 rfl) (ib_w 0 1600 h165 rfl) (ib_w 0 1600 h166 rfl) (ib_w 0 4 h167 rfl) (fun hq9 => ib_w 0 1599 (h169 hq9) rfl)) mV_X5_45 hPc hDc rfl rfl rfl hl rfl rfl (Nat.le_of_ble_eq_true rfl) ⟨(Nat.le_of_ble_eq_true rfl), (Nat.le_of_ble_eq_true rfl)⟩ ⟨(Nat.le_of_ble_eq_true rfl), (Nat.le_of_ble_eq_true rfl)⟩ dX5_readCrossing_7) (fun u172 H locs hw hP hD hS => ?_)
  obtain ⟨v173, v174, v175, v176, v177, v178, v179, v180, v181⟩ := u172
  try dsimp only at hP hD hw
  as_aux_lemma =>
    replace hP : va_P (dC, dI) vwCl [(wi_0_108_0 a_arg0_names cy g_arg0_names), (wi_0_6_0 a_arg0_calm cy g_arg0_calm), (wi_0_6_0 a_arg0_pace cy g_arg0_pace), (wi_0_6_0 a_arg0_trusts cy g_arg0_trusts), (wi_0_12_0 a_arg0_kindOf cy g_arg0_kindOf), (wi_0_12_0 a_arg0_comesAt cy g_arg0_comesAt), (wi_0_1600_0 a_arg0_code cy g_arg0_code), (wi_0_200_0 a_arg0_comers cy f162), (wi_0_6_0 a_arg0_spans cy f163), (wo_5_riiiiirii a_this a_this_text v158 v173 v174 v175 x_this_allowed a_arg0 v176 v177), (wi_0_1600_0 a_this_text cy g_this_text), (wo_4_iiiiiiirrrirrrrrir a_arg0 v178 v179 v180 v181 0 0 0 a_arg0_calm a_arg0_pace a_arg0_trusts 0 a_arg0_kindOf a_arg0_comesAt a_arg0_comers a_arg0_names a_arg0_code 0 a_arg0_spans)] H := hP
    replace hD := k_D hP hD
    obtain ⟨h182, h183, h184, h185, h186, h187, h188, h189, h190⟩ := hw
    have h190 := by have h9 := h190; try simp only [show (0 : Int32).toInt = (0 : Int) from rfl] at h9; try simp only [show ((-1) : Int32).toInt = (-1 : Int) from rfl] at h9; exact h9
    replace hq := lf_p1 hq h190
    replace hq := lf_p1 hq rfl
    replace hq := lf_p1 hq rfl
    replace hq := lf_p1 hq rfl
    replace hq := lf_p1 hq rfl
    replace hq := lf_p1 hq rfl
    replace hq := lf_p1 hq rfl
    replace hq := lf_p1 hq rfl
    refine lv_aload_n hx hb dX5_readCrossing_10 rfl (lv_at hl 0 rfl) ?_
    refine lv_bipush (v := 59) hx hb dX5_readCrossing_11 rfl ?_
    refine k_jvm hP hD hS hA [9, 10] [true, true, true, true, true, true, true, true, true, false, false, true] rfl rfl (by decide +kernel) 0 0 (Nat.le_of_ble_eq_true rfl) (Nat.le_of_ble_eq_true rfl) (fun hPc hDc => k_runV (As := [.int 59]) (rest := []) C0 hZ hS hA (s_X5_need l dC dI cy sq a_this a_this_text g_this_text v158 v173 v174 v175 x_this_allowed a_arg0 v176 v177 59 hg_this_text (ib_w 0 1600 h164 rfl) (ib_w 0 1600 h182 rfl) (ib_w 0 1600 h183 rfl) (ib_w 0 4 h184 rfl) (fun hq9 => ib_w 0 1599 (h189 hq9) rfl)) mV_X5_48 hPc hDc rfl rfl rfl hl rfl rfl (Nat.le_of_ble_eq_true rfl) ⟨(Nat.le_of_ble_eq_true rfl), (Nat.le_of_ble_eq_true rfl)⟩ ⟨(Nat.le_of_ble_eq_true rfl), (Nat.le_of_ble_eq_true rfl)⟩ dX5_readCrossing_13) (fun u192 H locs hw hP hD hS => ?_)
    obtain ⟨v193, v194, v195, v196, v197⟩ := u192
    try dsimp only at hP hD hw
    replace hP : va_P (dC, dI) vwCl [(wi_0_108_0 a_arg0_names cy g_arg0_names), (wi_0_6_0 a_arg0_calm cy g_arg0_calm), (wi_0_6_0 a_arg0_pace cy g_arg0_pace), (wi_0_6_0 a_arg0_trusts cy g_arg0_trusts), (wi_0_12_0 a_arg0_kindOf cy g_arg0_kindOf), (wi_0_12_0 a_arg0_comesAt cy g_arg0_comesAt), (wi_0_1600_0 a_arg0_code cy g_arg0_code), (wi_0_200_0 a_arg0_comers cy f162), (wi_0_6_0 a_arg0_spans cy f163), (wo_4_iiiiiiirrrirrrrrir a_arg0 v178 v179 v180 v181 0 0 0 a_arg0_calm a_arg0_pace a_arg0_trusts 0 a_arg0_kindOf a_arg0_comesAt a_arg0_comers a_arg0_names a_arg0_code 0 a_arg0_spans), (wo_5_riiiiirii a_this a_this_text v158 v193 v194 v195 x_this_allowed a_arg0 v196 v197), (wi_0_1600_0 a_this_text cy g_this_text)] H := hP
    replace hD := k_D hP hD
    obtain ⟨h198, h199, h200, h201, h202⟩ := hw
    have h202 := by have h9 := h202; try simp only [show (59 : Int32).toInt = (59 : Int) from rfl] at h9; exact h9
    replace hq := lf_p1 hq h202
    replace hq := lf_p1 hq rfl
    replace hq := lf_p1 hq rfl
    replace hq := lf_p1 hq rfl
    refine lv_iconst (v := 1) hx hb dX5_readCrossing_16 rfl ?_
    refine lv_istore_n (lv' := [(3, .int 1), (0, .ref a_this), (1, .ref a_arg0), (2, .int p1)]) hx hb dX5_readCrossing_17 rfl hl (Nat.le_of_ble_eq_true rfl) rfl (fun ls hl => ?_)
    exact jn18 81 v158 v193 v194 v195 v196 v197 v178 v179 v180 v181 f162 f163 1 x_this_allowed 0 0 0 0 g_arg0_names g_arg0_calm g_arg0_pace g_arg0_trusts g_arg0_kindOf g_arg0_comesAt g_arg0_code H locs ls (ib_w 0 1600 h164 rfl) (ib_w 0 1600 h198 rfl) (ib_w 0 1600 h199 rfl) (ib_w 0 4 h200 rfl) (ib_w 10 120 h185 rfl) (ib_w 1 2147483647 h186 rfl) (ib_w 0 2 h187 rfl) (ib_w 0 99 h188 rfl) (ib_w 1 80 (ib_c 1 1 1 rfl) rfl) (ib_w 0 100 (ib_c 0 0 0 rfl) rfl) (ib_w 0 6 (ib_c 0 0 0 rfl) rfl) (ib_w 0 12 (ib_c 0 0 0 rfl) rfl) (ib_w 0 1600 (ib_c 0 0 0 rfl) rfl) h168 hg_arg0_kindOf hg_arg0_comesAt (fun hq9 => ib_w 0 1599 (h201 hq9) rfl) (by try simp only [show (1 : Int32).toInt = (1 : Int) from rfl]; try simp only [show (0 : Int32).toInt = (0 : Int) from rfl]; exact hq) (by have := (ib_c 1 1 1 rfl); unfold ib at this; omega) (hP.sub [10, 9, 7, 8, 11, 0, 1, 2, 3, 4, 5, 6] rfl) (hD.sub [10, 9, 7, 8, 11, 0, 1, 2, 3, 4, 5, 6] (by decide +kernel) rfl) hS (lv_sub hl [1, 2, 3, 0] rfl)
set_option maxHeartbeats 4000000 in
set_option maxRecDepth 100000 in
theorem s_X5_wordIn_s2 (l : Launch) (dC : Nat → ClassId) (dI : Nat → Nat → Nat) (cy : Nat → ClassId) (sq : Nat → Nat) (a_this : Nat) (a_this_text : Nat) (g_this_text : Nat → Int32) (x_this_length : Int32) (x_this_at : Int32) (x_this_behind : Int32) (x_this_sort : Int32) (x_this_allowed : Int32) (a_this_plan : Nat) (x_this_fault : Int32) (x_this_place : Int32) (hg_this_text : ia g_this_text 1600 0 255) (hx_this_at : ib x_this_at 0 1600) (hx_this_behind : ib x_this_behind 0 1600) (hx_this_sort : ib x_this_sort 0 4) (hc0_this : ¬ x_this_sort = 0 → ib x_this_at 0 1599) : k_Met l yX5_wordIn cX5_wordIn 6 (some .int) { frames := 4, cells := 0, slots := 0, locals := 141 } dC dI cy sq [.ref a_this, .ref (sq 2)] [(wo_5_riiiiirii a_this a_this_text x_this_length x_this_at x_this_behind x_this_sort x_this_allowed a_this_plan x_this_fault x_this_place), (wi_0_1600_0 a_this_text cy g_this_text)] (k_Qi dC dI (fun (r : Int32) (_ : Unit) => (F_X5_wordIn_s2 (lf_A g_this_text) (Int32.toInt x_this_at) (Int32.toInt x_this_behind) (Int32.toInt x_this_sort) = ((Int32.toInt r)))) (fun _ : Unit => [(wo_5_riiiiirii a_this a_this_text x_this_length x_this_at x_this_behind x_this_sort x_this_allowed a_this_plan x_this_fault x_this_place), (wi_0_1600_0 a_this_text cy g_this_text)])) := by
  refine k_ofW2 (by decide +kernel) (Nat.le_of_ble_eq_true rfl) ?_
  intro p e s m below meth c A ls H locs args Q hQ C0 hZ hr hlk hin hP hD hA hS hl
  have C0 : k_cx p s m args c cX5_wordIn 6 RX5 dC dI cy sq := C0
  have hx := C0.1
  have hb := C0.2.1
  have hl : lv_has ls 6 [(0, .ref a_this), (1, .ref (sq 2))] := hl
  obtain ⟨O, hO⟩ : ∃ o, o = F_X5_wordIn_s2 (lf_A g_this_text) (Int32.toInt x_this_at) (Int32.toInt x_this_behind) (Int32.toInt x_this_sort) := ⟨_, rfl⟩
  have hq := hO
  unfold F_X5_wordIn_s2 at hq
  have jn23 : ∀ (n : Nat) (J23_l2 : Int32) (J23_l3 : Int32) (J23_l4 : Int32) (J23_l5 : Int32) (H : Heap) (locs : List Loc) (ls : Array Slot), ib x_this_at 0 1599 → ib x_this_sort 1 1 → ib J23_l3 0 1633 → ib J23_l4 0 1 → ib J23_l5 0 34 → (1 * J23_l3.toInt + (-1) * J23_l5.toInt ≤ 1600) → (O = F_X5_wordIn_s2_23 (lf_A g_this_text) (Int32.toInt x_this_at) (Int32.toInt x_this_behind) n (Int32.toInt J23_l2) (Int32.toInt J23_l3) (Int32.toInt J23_l4) (Int32.toInt J23_l5)) → 35 ≤ J23_l5.toInt + (n : Int) → va_P (dC, dI) vwCl [(wo_5_riiiiirii a_this a_this_text x_this_length x_this_at x_this_behind x_this_sort x_this_allowed a_this_plan x_this_fault x_this_place), (wi_0_1600_0 a_this_text cy g_this_text)] H → va_D A [(wo_5_riiiiirii a_this a_this_text x_this_length x_this_at x_this_behind x_this_sort x_this_allowed a_this_plan x_this_fault x_this_place), (wi_0_1600_0 a_this_text cy g_this_text)] → va_S A s.heap H locs → lv_has ls 6 [(0, .ref a_this), (1, .ref (sq 2)), (2, .int J23_l2), (3, .int J23_l3), (4, .int J23_l4), (5, .int J23_l5)] → W p l e { frames := 4, cells := 0, slots := 0, locals := 141 } s m args below meth c H locs 0 0 Q (F0 m 23 ls []) := by
    as_aux_lemma =>
      intro n
      induction n with
      | zero =>
        intro J23_l2 J23_l3 J23_l4 J23_l5 H locs ls hK23_x_this_at hK23_x_this_sort hJ23_l3 hJ23_l4 hJ23_l5 hJ23_lin0 hq hm
        exact absurd hm (by have := hJ23_l5; unfold ib at this; omega)
      | succ n ih =>
        intro J23_l2 J23_l3 J23_l4 J23_l5 H locs ls hK23_x_this_at hK23_x_this_sort hJ23_l3 hJ23_l4 hJ23_l5 hJ23_lin0 hq hm23 hP hD hS hl
        have ih23 := ih
        obtain ⟨K23, hK23⟩ : ∃ K, K = F_X5_wordIn_s2_23 (lf_A g_this_text) (Int32.toInt x_this_at) (Int32.toInt x_this_behind) n := ⟨_, rfl⟩
        have hq : O = F_X5_wordIn_s2_23b (lf_A g_this_text) (Int32.toInt x_this_at) (Int32.toInt x_this_behind) K23 (Int32.toInt J23_l2) (Int32.toInt J23_l3) (Int32.toInt J23_l4) (Int32.toInt J23_l5) := by rw [hK23]; exact hq
        unfold F_X5_wordIn_s2_23b at hq
        have jn119 : ∀ (J119_l2 : Int32) (J119_l3 : Int32) (J119_l4 : Int32) (H : Heap) (locs : List Loc) (ls : Array Slot), ib x_this_at 0 1599 → ib J23_l5 0 33 → ib x_this_sort 1 1 → ib J119_l3 0 1633 → ib J119_l4 0 1 → (1 * J119_l3.toInt + (-1) * J23_l5.toInt ≤ 1601) → (O = F_X5_wordIn_s2_119 (Int32.toInt J23_l5) K23 (Int32.toInt J119_l2) (Int32.toInt J119_l3) (Int32.toInt J119_l4)) → va_P (dC, dI) vwCl [(wo_5_riiiiirii a_this a_this_text x_this_length x_this_at x_this_behind x_this_sort x_this_allowed a_this_plan x_this_fault x_this_place), (wi_0_1600_0 a_this_text cy g_this_text)] H → va_D A [(wo_5_riiiiirii a_this a_this_text x_this_length x_this_at x_this_behind x_this_sort x_this_allowed a_this_plan x_this_fault x_this_place), (wi_0_1600_0 a_this_text cy g_this_text)] → va_S A s.heap H locs → lv_has ls 6 [(0, .ref a_this), (1, .ref (sq 2)), (2, .int J119_l2), (3, .int J119_l3), (4, .int J119_l4), (5, .int J23_l5)] → W p l e { frames := 4, cells := 0, slots := 0, locals := 141 } s m args below meth c H locs 0 0 Q (F0 m 119 ls []) := by
          intro J119_l2 J119_l3 J119_l4 H locs ls hK119_x_this_at hK119_J23_l5 hK119_x_this_sort hJ119_l3 hJ119_l4 hJ119_lin0 hq hP hD hS hl
          unfold F_X5_wordIn_s2_119 at hq
          obtain ⟨z1, ez1⟩ : ∃ y : Int32, y = J23_l5 + 1 := ⟨_, rfl⟩
          refine lv_iinc (v := z1) (lv' := [(5, .int z1), (0, .ref a_this), (1, .ref (sq 2)), (2, .int J119_l2), (3, .int J119_l3), (4, .int J119_l4)]) hx hb dX5_wordIn_119 hl (k := 5) rfl (by rw [ez1]; rfl) (Nat.le_of_ble_eq_true rfl) rfl (fun ls hl => ?_)
          have h2 := ib_add hK119_J23_l5 (ib_c 1 1 1 rfl) rfl
          rw [← ez1] at h2
          have h3 : ib z1 1 34 := ib_w 1 34 h2.1 rfl
          have Ez1 := lf_add h2.2 (lf_rf J23_l5) (lf_lc 1 (1 : Int) rfl)
          refine lv_goto (tgt := 23) hx hb dX5_wordIn_122 rfl ?_
          exact ih23 J119_l2 J119_l3 J119_l4 z1 H locs ls (ib_w 0 1599 hK119_x_this_at rfl) (ib_w 1 1 hK119_x_this_sort rfl) (ib_w 0 1633 hJ119_l3 rfl) (ib_w 0 1 hJ119_l4 rfl) (ib_w 0 34 h3 rfl) (by have := h2.2; have : (1 : Int32).toInt = 1 := rfl; have := hJ119_lin0; omega) (by rw [← hK23]; rw [lf_u Ez1]; exact hq) (by have := h2.2; have : (1 : Int32).toInt = 1 := rfl; omega) hP hD hS (lv_sub hl [1, 2, 3, 4, 5, 0] rfl)
        have jn114 : ∀ (J114_s0 : Int32) (H : Heap) (locs : List Loc) (ls : Array Slot), ib J23_l3 0 1632 → ib J23_l4 0 1 → ib J23_l5 0 32 → ib x_this_at 0 1599 → ib x_this_sort 1 1 → ib J114_s0 0 1 → (1 * J23_l3.toInt + (-1) * J23_l5.toInt ≤ 1600) → (O = F_X5_wordIn_s2_114 (Int32.toInt J23_l2) (Int32.toInt J23_l3) (Int32.toInt J23_l5) K23 (Int32.toInt J114_s0)) → va_P (dC, dI) vwCl [(wo_5_riiiiirii a_this a_this_text x_this_length x_this_at x_this_behind x_this_sort x_this_allowed a_this_plan x_this_fault x_this_place), (wi_0_1600_0 a_this_text cy g_this_text)] H → va_D A [(wo_5_riiiiirii a_this a_this_text x_this_length x_this_at x_this_behind x_this_sort x_this_allowed a_this_plan x_this_fault x_this_place), (wi_0_1600_0 a_this_text cy g_this_text)] → va_S A s.heap H locs → lv_has ls 6 [(0, .ref a_this), (1, .ref (sq 2)), (2, .int J23_l2), (3, .int J23_l3), (4, .int J23_l4), (5, .int J23_l5)] → W p l e { frames := 4, cells := 0, slots := 0, locals := 141 } s m args below meth c H locs 0 0 Q (F0 m 114 ls [.int J114_s0]) := by
          intro J114_s0 H locs ls hK114_J23_l3 hK114_J23_l4 hK114_J23_l5 hK114_x_this_at hK114_x_this_sort hJ114_s0 hJ114_lin0 hq hP hD hS hl
          unfold F_X5_wordIn_s2_114 at hq
          refine lv_istore (lv' := [(4, .int J114_s0), (0, .ref a_this), (1, .ref (sq 2)), (2, .int J23_l2), (3, .int J23_l3), (5, .int J23_l5)]) hx hb dX5_wordIn_114 hl (Nat.le_of_ble_eq_true rfl) rfl (fun ls hl => ?_)
          obtain ⟨z4, ez4⟩ : ∃ y : Int32, y = J23_l3 + 1 := ⟨_, rfl⟩
          refine lv_iinc (v := z4) (lv' := [(3, .int z4), (4, .int J114_s0), (0, .ref a_this), (1, .ref (sq 2)), (2, .int J23_l2), (5, .int J23_l5)]) hx hb dX5_wordIn_116 hl (k := 4) rfl (by rw [ez4]; rfl) (Nat.le_of_ble_eq_true rfl) rfl (fun ls hl => ?_)
          have h5 := ib_add hK114_J23_l3 (ib_c 1 1 1 rfl) rfl
          rw [← ez4] at h5
          have h6 : ib z4 1 1633 := ib_w 1 1633 h5.1 rfl
          have Ez4 := lf_add h5.2 (lf_rf J23_l3) (lf_lc 1 (1 : Int) rfl)
          exact jn119 J23_l2 z4 J114_s0 H locs ls (ib_w 0 1599 hK114_x_this_at rfl) (ib_w 0 33 hK114_J23_l5 rfl) (ib_w 1 1 hK114_x_this_sort rfl) (ib_w 0 1633 h6 rfl) (ib_w 0 1 hJ114_s0 rfl) (by have := (hK114_J23_l5).1; have := hJ23_lin0; have := (h6).2; have := h5.2; have : (1 : Int32).toInt = 1 := rfl; omega) (by rw [lf_u Ez4]; exact hq) hP hD hS (lv_sub hl [2, 3, 4, 0, 1, 5] rfl)
        have jn113 : ∀  (H : Heap) (locs : List Loc) (ls : Array Slot), ib J23_l3 0 1632 → ib J23_l4 0 1 → ib J23_l5 0 32 → ib x_this_at 0 1599 → ib x_this_sort 1 1 → (1 * J23_l3.toInt + (-1) * J23_l5.toInt ≤ 1600) → (O = F_X5_wordIn_s2_113 (Int32.toInt J23_l2) (Int32.toInt J23_l3) (Int32.toInt J23_l5) K23 ) → va_P (dC, dI) vwCl [(wo_5_riiiiirii a_this a_this_text x_this_length x_this_at x_this_behind x_this_sort x_this_allowed a_this_plan x_this_fault x_this_place), (wi_0_1600_0 a_this_text cy g_this_text)] H → va_D A [(wo_5_riiiiirii a_this a_this_text x_this_length x_this_at x_this_behind x_this_sort x_this_allowed a_this_plan x_this_fault x_this_place), (wi_0_1600_0 a_this_text cy g_this_text)] → va_S A s.heap H locs → lv_has ls 6 [(0, .ref a_this), (1, .ref (sq 2)), (2, .int J23_l2), (3, .int J23_l3), (4, .int J23_l4), (5, .int J23_l5)] → W p l e { frames := 4, cells := 0, slots := 0, locals := 141 } s m args below meth c H locs 0 0 Q (F0 m 113 ls []) := by
          intro H locs ls hK113_J23_l3 hK113_J23_l4 hK113_J23_l5 hK113_x_this_at hK113_x_this_sort hJ113_lin0 hq hP hD hS hl
          unfold F_X5_wordIn_s2_113 at hq
          refine lv_iconst (v := 0) hx hb dX5_wordIn_113 rfl ?_
          exact jn114 0 H locs ls (ib_w 0 1632 hK113_J23_l3 rfl) (ib_w 0 1 hK113_J23_l4 rfl) (ib_w 0 32 hK113_J23_l5 rfl) (ib_w 0 1599 hK113_x_this_at rfl) (ib_w 1 1 hK113_x_this_sort rfl) (ib_w 0 1 (ib_c 0 0 0 rfl) rfl) (by have := hJ23_lin0; omega) (by try simp only [show (0 : Int32).toInt = (0 : Int) from rfl]; exact hq) hP hD hS (lv_sub hl [0, 1, 2, 3, 4, 5] rfl)
        have jn67 : ∀  (H : Heap) (locs : List Loc) (ls : Array Slot), ib J23_l3 0 1633 → ib J23_l4 0 1 → ib J23_l5 0 33 → ib x_this_at 0 1599 → ib x_this_sort 1 1 → (O = F_X5_wordIn_s2_67 (Int32.toInt x_this_at) (Int32.toInt J23_l2) (Int32.toInt J23_l5) K23 ) → va_P (dC, dI) vwCl [(wo_5_riiiiirii a_this a_this_text x_this_length x_this_at x_this_behind x_this_sort x_this_allowed a_this_plan x_this_fault x_this_place), (wi_0_1600_0 a_this_text cy g_this_text)] H → va_D A [(wo_5_riiiiirii a_this a_this_text x_this_length x_this_at x_this_behind x_this_sort x_this_allowed a_this_plan x_this_fault x_this_place), (wi_0_1600_0 a_this_text cy g_this_text)] → va_S A s.heap H locs → lv_has ls 6 [(0, .ref a_this), (1, .ref (sq 2)), (2, .int J23_l2), (3, .int J23_l3), (4, .int J23_l4), (5, .int J23_l5)] → W p l e { frames := 4, cells := 0, slots := 0, locals := 141 } s m args below meth c H locs 0 0 Q (F0 m 67 ls []) := by
          intro H locs ls hK67_J23_l3 hK67_J23_l4 hK67_J23_l5 hK67_x_this_at hK67_x_this_sort hq hP hD hS hl
          unfold F_X5_wordIn_s2_67 at hq
          obtain ⟨z7, ez7⟩ : ∃ y : Int32, y = J23_l2 + 1 := ⟨_, rfl⟩
          refine lv_iinc (v := z7) (lv' := [(2, .int z7), (0, .ref a_this), (1, .ref (sq 2)), (3, .int J23_l3), (4, .int J23_l4), (5, .int J23_l5)]) hx hb dX5_wordIn_67 hl (k := 2) rfl (by rw [ez7]; rfl) (Nat.le_of_ble_eq_true rfl) rfl (fun ls hl => ?_)
          have Ez7 := lf_op lf_iadd ez7 (lf_rf J23_l2) (lf_lc 1 (1 : Int) rfl)
          refine lv_aload_n hx hb dX5_wordIn_70 rfl (lv_at hl 1 rfl) ?_
          refine k_get C0 fg_X5_15 hP 0 rfl rfl dX5_wordIn_71 ?_
          refine lv_istore_n (lv' := [(3, .int x_this_at), (2, .int z7), (0, .ref a_this), (1, .ref (sq 2)), (4, .int J23_l4), (5, .int J23_l5)]) hx hb dX5_wordIn_74 rfl hl (Nat.le_of_ble_eq_true rfl) rfl (fun ls hl => ?_)
          refine lv_iconst (v := 1) hx hb dX5_wordIn_75 rfl ?_
          refine lv_istore (lv' := [(4, .int 1), (3, .int x_this_at), (2, .int z7), (0, .ref a_this), (1, .ref (sq 2)), (5, .int J23_l5)]) hx hb dX5_wordIn_76 hl (Nat.le_of_ble_eq_true rfl) rfl (fun ls hl => ?_)
          refine lv_goto (tgt := 119) hx hb dX5_wordIn_78 rfl ?_
          exact jn119 z7 x_this_at 1 H locs ls (ib_w 0 1599 hK67_x_this_at rfl) (ib_w 0 33 hK67_J23_l5 rfl) (ib_w 1 1 hK67_x_this_sort rfl) (ib_w 0 1633 hK67_x_this_at rfl) (ib_w 0 1 (ib_c 1 1 1 rfl) rfl) (by have := (hK67_J23_l5).1; have := (hK67_x_this_at).2; omega) (by rw [lf_u Ez7]; try simp only [show (1 : Int32).toInt = (1 : Int) from rfl]; exact hq) hP hD hS (lv_sub hl [3, 4, 2, 1, 0, 5] rfl)
        have jn52 : ∀  (H : Heap) (locs : List Loc) (ls : Array Slot), ib J23_l3 0 1633 → ib J23_l4 0 1 → ib J23_l5 0 33 → ib x_this_at 0 1599 → ib x_this_sort 1 1 → (O = F_X5_wordIn_s2_52 (Int32.toInt x_this_at) (Int32.toInt x_this_behind) (Int32.toInt J23_l2) (Int32.toInt J23_l3) (Int32.toInt J23_l4) (Int32.toInt J23_l5) K23 ) → va_P (dC, dI) vwCl [(wo_5_riiiiirii a_this a_this_text x_this_length x_this_at x_this_behind x_this_sort x_this_allowed a_this_plan x_this_fault x_this_place), (wi_0_1600_0 a_this_text cy g_this_text)] H → va_D A [(wo_5_riiiiirii a_this a_this_text x_this_length x_this_at x_this_behind x_this_sort x_this_allowed a_this_plan x_this_fault x_this_place), (wi_0_1600_0 a_this_text cy g_this_text)] → va_S A s.heap H locs → lv_has ls 6 [(0, .ref a_this), (1, .ref (sq 2)), (2, .int J23_l2), (3, .int J23_l3), (4, .int J23_l4), (5, .int J23_l5)] → W p l e { frames := 4, cells := 0, slots := 0, locals := 141 } s m args below meth c H locs 0 0 Q (F0 m 52 ls []) := by
          as_aux_lemma =>
            intro H locs ls hK52_J23_l3 hK52_J23_l4 hK52_J23_l5 hK52_x_this_at hK52_x_this_sort hq hP hD hS hl
            unfold F_X5_wordIn_s2_52 at hq
            refine lv_iload hx hb dX5_wordIn_52 (lv_at hl 4 rfl) ?_
            refine lv_if_eq (tgt := 67) hx hb dX5_wordIn_54 rfl (fun c8 => ?_) (fun c8 => ?_)
            · replace hq := lf_pos hq (lf_eq (lf_rf J23_l4) (lf_lc 0 (0 : Int) rfl) c8)
              have h9 := ib_eq hK52_J23_l4 (ib_c 0 0 0 rfl) c8
              have h10 : ib J23_l4 0 0 := ib_w 0 0 h9.1 rfl
              exact jn67  H locs ls (ib_w 0 1633 hK52_J23_l3 rfl) (ib_w 0 1 h10 rfl) (ib_w 0 33 hK52_J23_l5 rfl) (ib_w 0 1599 hK52_x_this_at rfl) (ib_w 1 1 hK52_x_this_sort rfl) (by exact hq) hP hD hS (lv_sub hl [0, 1, 2, 3, 4, 5] rfl)
            · replace hq := lf_neg hq (lf_ne (lf_rf J23_l4) (lf_lc 0 (0 : Int) rfl) c8)
              have h11 : ib J23_l4 1 1 := ib_w 1 1 (ib_ne_lo 0 hK52_J23_l4 rfl c8) rfl
              refine lv_iload_n hx hb dX5_wordIn_57 rfl (lv_at hl 3 rfl) ?_
              refine lv_aload_n hx hb dX5_wordIn_58 rfl (lv_at hl 0 rfl) ?_
              refine k_get C0 fg_X5_18 hP 0 rfl rfl dX5_wordIn_59 ?_
              refine lv_icmp_ne (tgt := 67) hx hb dX5_wordIn_62 rfl (fun c12 => ?_) (fun c12 => ?_)
              · replace hq := lf_neg hq (lf_ne (lf_rf J23_l3) (lf_rf x_this_behind) c12)
                exact jn67  H locs ls (ib_w 0 1633 hK52_J23_l3 rfl) (ib_w 0 1 h11 rfl) (ib_w 0 33 hK52_J23_l5 rfl) (ib_w 0 1599 hK52_x_this_at rfl) (ib_w 1 1 hK52_x_this_sort rfl) (by exact hq) hP hD hS (lv_sub hl [0, 1, 2, 3, 4, 5] rfl)
              · replace hq := lf_pos hq (lf_eq (lf_rf J23_l3) (lf_rf x_this_behind) c12)
                have h13 := ib_eq hK52_J23_l3 hx_this_behind c12
                have h14 : ib J23_l3 0 1600 := ib_w 0 1600 h13.1 rfl
                refine lv_iload_n hx hb dX5_wordIn_65 rfl (lv_at hl 2 rfl) ?_
                subst hQ; exact k_iret hx hb hr hlk rfl () hS ((hO.symm.trans (by exact hq))) hP hD (Nat.le_of_ble_eq_true rfl) (Nat.le_of_ble_eq_true rfl) dX5_wordIn_66
        refine lv_iload hx hb dX5_wordIn_23 (lv_at hl 5 rfl) ?_
        refine lv_aload_n hx hb dX5_wordIn_25 rfl (lv_at hl 1 rfl) ?_
        refine k_jim hP hD hS hA [] [true, true] rfl rfl rfl 0 0 (Nat.le_of_ble_eq_true rfl) (Nat.le_of_ble_eq_true rfl) (fun hPc hDc => k_runVO (As := []) (rest := [.int J23_l5]) C0 hZ hS hA (c_length l dC dI cy sq 2 (by decide)) mV_X5_244 hPc hDc (vk_recv hZ.1 (by decide) hS) hl rfl rfl (Nat.le_of_ble_eq_true rfl) ⟨(Nat.le_of_ble_eq_true rfl), (Nat.le_of_ble_eq_true rfl)⟩ ⟨(Nat.le_of_ble_eq_true rfl), (Nat.le_of_ble_eq_true rfl)⟩ dX5_wordIn_26) (fun r15 u16 H locs hw hP hD hS => ?_)
        replace hP : va_P (dC, dI) vwCl [(wo_5_riiiiirii a_this a_this_text x_this_length x_this_at x_this_behind x_this_sort x_this_allowed a_this_plan x_this_fault x_this_place), (wi_0_1600_0 a_this_text cy g_this_text)] H := hP
        replace hD := k_D hP hD
        obtain rfl : r15 = 33 := hw.trans (by decide)
        refine lv_icmp_gt (tgt := 125) hx hb dX5_wordIn_29 rfl (fun c17 => ?_) (fun c17 => ?_)
        · replace hq := lf_pos hq (lf_lt (lf_lc 33 (33 : Int) rfl) (lf_rf J23_l5) c17)
          have h18 := ib_lt (ib_c 33 33 33 rfl) hJ23_l5 c17
          have h19 : ib J23_l5 34 34 := ib_w 34 34 h18.2 rfl
          refine lv_iconst (v := (-1)) hx hb dX5_wordIn_125 rfl ?_
          subst hQ; exact k_iret hx hb hr hlk rfl () hS ((hO.symm.trans (by try simp only [show ((-1) : Int32).toInt = (-1 : Int) from rfl]; exact hq))) hP hD (Nat.le_of_ble_eq_true rfl) (Nat.le_of_ble_eq_true rfl) dX5_wordIn_126
        · as_aux_lemma =>
            replace hq := lf_neg hq (lf_nlt (lf_lc 33 (33 : Int) rfl) (lf_rf J23_l5) c17)
            have h20 := ib_nlt (ib_c 33 33 33 rfl) hJ23_l5 c17
            have h21 : ib J23_l5 0 33 := ib_w 0 33 h20.2 rfl
            refine lv_iload hx hb dX5_wordIn_32 (lv_at hl 5 rfl) ?_
            refine lv_aload_n hx hb dX5_wordIn_34 rfl (lv_at hl 1 rfl) ?_
            refine k_jim hP hD hS hA [] [true, true] rfl rfl rfl 0 0 (Nat.le_of_ble_eq_true rfl) (Nat.le_of_ble_eq_true rfl) (fun hPc hDc => k_runVO (As := []) (rest := [.int J23_l5]) C0 hZ hS hA (c_length l dC dI cy sq 2 (by decide)) mV_X5_244 hPc hDc (vk_recv hZ.1 (by decide) hS) hl rfl rfl (Nat.le_of_ble_eq_true rfl) ⟨(Nat.le_of_ble_eq_true rfl), (Nat.le_of_ble_eq_true rfl)⟩ ⟨(Nat.le_of_ble_eq_true rfl), (Nat.le_of_ble_eq_true rfl)⟩ dX5_wordIn_35) (fun r22 u23 H locs hw hP hD hS => ?_)
            replace hP : va_P (dC, dI) vwCl [(wo_5_riiiiirii a_this a_this_text x_this_length x_this_at x_this_behind x_this_sort x_this_allowed a_this_plan x_this_fault x_this_place), (wi_0_1600_0 a_this_text cy g_this_text)] H := hP
            replace hD := k_D hP hD
            obtain rfl : r22 = 33 := hw.trans (by decide)
            refine lv_icmp_eq (tgt := 52) hx hb dX5_wordIn_38 rfl (fun c24 => ?_) (fun c24 => ?_)
            · replace hq := lf_pos hq (lf_eq (lf_rf J23_l5) (lf_lc 33 (33 : Int) rfl) c24)
              have h25 := ib_eq h21 (ib_c 33 33 33 rfl) c24
              have h26 : ib J23_l5 33 33 := ib_w 33 33 h25.1 rfl
              exact jn52  H locs ls (ib_w 0 1633 hJ23_l3 rfl) (ib_w 0 1 hJ23_l4 rfl) (ib_w 0 33 h26 rfl) (ib_w 0 1599 hK23_x_this_at rfl) (ib_w 1 1 hK23_x_this_sort rfl) (by exact hq) hP hD hS (lv_sub hl [0, 1, 2, 3, 4, 5] rfl)
            · as_aux_lemma =>
                replace hq := lf_neg hq (lf_ne (lf_rf J23_l5) (lf_lc 33 (33 : Int) rfl) c24)
                have h27 : ib J23_l5 0 32 := ib_w 0 32 (ib_ne_hi 33 h21 rfl c24) rfl
                refine lv_aload_n hx hb dX5_wordIn_41 rfl (lv_at hl 1 rfl) ?_
                refine lv_iload hx hb dX5_wordIn_42 (lv_at hl 5 rfl) ?_
                refine k_jim hP hD hS hA [] [true, true] rfl rfl rfl 0 0 (Nat.le_of_ble_eq_true rfl) (Nat.le_of_ble_eq_true rfl) (fun hPc hDc => k_runVO (As := [.int J23_l5]) (rest := []) C0 hZ hS hA (cx_charAt l dC dI cy sq 2 (by decide) J23_l5 (ib_ch 2 33 h27 rfl rfl).1 (ib_ch 2 33 h27 rfl rfl).2.1 (ib_ch 2 33 h27 rfl rfl).2.2) mV_X5_248 hPc hDc (vk_recv hZ.1 (by decide) hS) hl rfl rfl (Nat.le_of_ble_eq_true rfl) ⟨(Nat.le_of_ble_eq_true rfl), (Nat.le_of_ble_eq_true rfl)⟩ ⟨(Nat.le_of_ble_eq_true rfl), (Nat.le_of_ble_eq_true rfl)⟩ dX5_wordIn_44) (fun r28 u29 H locs hw hP hD hS => ?_)
                replace hP : va_P (dC, dI) vwCl [(wo_5_riiiiirii a_this a_this_text x_this_length x_this_at x_this_behind x_this_sort x_this_allowed a_this_plan x_this_fault x_this_place), (wi_0_1600_0 a_this_text cy g_this_text)] H := hP
                replace hD := k_D hP hD
                have Er28 := lf_cha (j := 2) hw (lf_rf J23_l5)
                refine lv_bipush (v := 32) hx hb dX5_wordIn_47 rfl ?_
                refine lv_icmp_ne (tgt := 81) hx hb dX5_wordIn_49 rfl (fun c30 => ?_) (fun c30 => ?_)
                · as_aux_lemma =>
                    replace hq := lf_neg hq (lf_ne Er28 (lf_lc 32 (32 : Int) rfl) c30)
                    refine lv_iload hx hb dX5_wordIn_81 (lv_at hl 4 rfl) ?_
                    refine lv_if_eq (tgt := 113) hx hb dX5_wordIn_83 rfl (fun c31 => ?_) (fun c31 => ?_)
                    · replace hq := lf_pos hq (lf_eq (lf_rf J23_l4) (lf_lc 0 (0 : Int) rfl) c31)
                      have h32 := ib_eq hJ23_l4 (ib_c 0 0 0 rfl) c31
                      have h33 : ib J23_l4 0 0 := ib_w 0 0 h32.1 rfl
                      have h34 : ib J23_l3 0 1632 := ⟨(hJ23_l3).1, by have := (hJ23_l3).2; have := hJ23_lin0; have := (h27).2; omega⟩
                      exact jn113  H locs ls (ib_w 0 1632 h34 rfl) (ib_w 0 1 h33 rfl) (ib_w 0 32 h27 rfl) (ib_w 0 1599 hK23_x_this_at rfl) (ib_w 1 1 hK23_x_this_sort rfl) (by have := hJ23_lin0; omega) (by exact hq) hP hD hS (lv_sub hl [0, 1, 2, 3, 4, 5] rfl)
                    · as_aux_lemma =>
                        replace hq := lf_neg hq (lf_ne (lf_rf J23_l4) (lf_lc 0 (0 : Int) rfl) c31)
                        have h35 : ib J23_l4 1 1 := ib_w 1 1 (ib_ne_lo 0 hJ23_l4 rfl c31) rfl
                        refine lv_iload_n hx hb dX5_wordIn_86 rfl (lv_at hl 3 rfl) ?_
                        refine lv_aload_n hx hb dX5_wordIn_87 rfl (lv_at hl 0 rfl) ?_
                        refine k_get C0 fg_X5_18 hP 0 rfl rfl dX5_wordIn_88 ?_
                        refine lv_icmp_ge (tgt := 113) hx hb dX5_wordIn_91 rfl (fun c36 => ?_) (fun c36 => ?_)
                        · replace hq := lf_pos hq (lf_le (lf_rf x_this_behind) (lf_rf J23_l3) c36)
                          have h37 := ib_le hx_this_behind hJ23_l3 c36
                          have h38 : ib J23_l3 0 1632 := ⟨(hJ23_l3).1, by have := (hJ23_l3).2; have := hJ23_lin0; have := (h27).2; omega⟩
                          exact jn113  H locs ls (ib_w 0 1632 h38 rfl) (ib_w 0 1 h35 rfl) (ib_w 0 32 h27 rfl) (ib_w 0 1599 hK23_x_this_at rfl) (ib_w 1 1 hK23_x_this_sort rfl) (by have := hJ23_lin0; omega) (by exact hq) hP hD hS (lv_sub hl [0, 1, 2, 3, 4, 5] rfl)
                        · as_aux_lemma =>
                            replace hq := lf_neg hq (lf_nle (lf_rf x_this_behind) (lf_rf J23_l3) c36)
                            have h39 := ib_nle hx_this_behind hJ23_l3 c36
                            have h40 : ib x_this_behind 1 1600 := ib_w 1 1600 h39.1 rfl
                            have h41 : ib J23_l3 0 1599 := ib_w 0 1599 h39.2 rfl
                            refine lv_aload_n hx hb dX5_wordIn_94 rfl (lv_at hl 0 rfl) ?_
                            refine k_get C0 fg_X5_33 hP 0 rfl rfl dX5_wordIn_95 ?_
                            refine lv_iload_n hx hb dX5_wordIn_98 rfl (lv_at hl 3 rfl) ?_
                            refine va_iald hx hb C0.2.2.2.2.2.1 hP 1 0 rfl rfl (ib_in 1600 h41 rfl) dX5_wordIn_99 ?_
                            refine lv_topi (fun z42 ez42 => ?_)
                            have h43 : ib z42 0 255 := by rw [ez42]; exact ia_at hg_this_text (ib_in 1600 h41 rfl)
                            have Ez42 := lf_ld ez42 (lf_ra g_this_text) (lf_rf J23_l3)
                            refine lv_aload_n hx hb dX5_wordIn_100 rfl (lv_at hl 1 rfl) ?_
                            refine lv_iload hx hb dX5_wordIn_101 (lv_at hl 5 rfl) ?_
                            refine k_jim hP hD hS hA [] [true, true] rfl rfl rfl 0 0 (Nat.le_of_ble_eq_true rfl) (Nat.le_of_ble_eq_true rfl) (fun hPc hDc => k_runVO (As := [.int J23_l5]) (rest := [.int z42]) C0 hZ hS hA (cx_charAt l dC dI cy sq 2 (by decide) J23_l5 (ib_ch 2 33 h27 rfl rfl).1 (ib_ch 2 33 h27 rfl rfl).2.1 (ib_ch 2 33 h27 rfl rfl).2.2) mV_X5_248 hPc hDc (vk_recv hZ.1 (by decide) hS) hl rfl rfl (Nat.le_of_ble_eq_true rfl) ⟨(Nat.le_of_ble_eq_true rfl), (Nat.le_of_ble_eq_true rfl)⟩ ⟨(Nat.le_of_ble_eq_true rfl), (Nat.le_of_ble_eq_true rfl)⟩ dX5_wordIn_103) (fun r44 u45 H locs hw hP hD hS => ?_)
                            replace hP : va_P (dC, dI) vwCl [(wo_5_riiiiirii a_this a_this_text x_this_length x_this_at x_this_behind x_this_sort x_this_allowed a_this_plan x_this_fault x_this_place), (wi_0_1600_0 a_this_text cy g_this_text)] H := hP
                            replace hD := k_D hP hD
                            have Er44 := lf_cha (j := 2) hw (lf_rf J23_l5)
                            refine lv_icmp_ne (tgt := 113) hx hb dX5_wordIn_106 rfl (fun c46 => ?_) (fun c46 => ?_)
                            · replace hq := lf_neg hq (lf_ne Ez42 Er44 c46)
                              exact jn113  H locs ls (ib_w 0 1632 h41 rfl) (ib_w 0 1 h35 rfl) (ib_w 0 32 h27 rfl) (ib_w 0 1599 hK23_x_this_at rfl) (ib_w 1 1 hK23_x_this_sort rfl) (by have := hJ23_lin0; omega) (by exact hq) hP hD hS (lv_sub hl [0, 1, 2, 3, 4, 5] rfl)
                            · replace hq := lf_pos hq (lf_eq Ez42 Er44 c46)
                              have h47 := ib_eq h43 (ib_any r44) c46
                              have h48 : ib r44 0 255 := ib_w 0 255 h47.2 rfl
                              refine lv_iconst (v := 1) hx hb dX5_wordIn_109 rfl ?_
                              refine lv_goto (tgt := 114) hx hb dX5_wordIn_110 rfl ?_
                              exact jn114 1 H locs ls (ib_w 0 1632 h41 rfl) (ib_w 0 1 h35 rfl) (ib_w 0 32 h27 rfl) (ib_w 0 1599 hK23_x_this_at rfl) (ib_w 1 1 hK23_x_this_sort rfl) (ib_w 0 1 (ib_c 1 1 1 rfl) rfl) (by have := hJ23_lin0; omega) (by try simp only [show (1 : Int32).toInt = (1 : Int) from rfl]; exact hq) hP hD hS (lv_sub hl [0, 1, 2, 3, 4, 5] rfl)
                · replace hq := lf_pos hq (lf_eq Er28 (lf_lc 32 (32 : Int) rfl) c30)
                  have h49 := ib_eq (ib_any r28) (ib_c 32 32 32 rfl) c30
                  have h50 : ib r28 32 32 := ib_w 32 32 h49.1 rfl
                  have h51 : ib J23_l3 0 1632 := ⟨(hJ23_l3).1, by have := (hJ23_l3).2; have := hJ23_lin0; have := (h27).2; omega⟩
                  exact jn52  H locs ls (ib_w 0 1633 h51 rfl) (ib_w 0 1 hJ23_l4 rfl) (ib_w 0 33 h27 rfl) (ib_w 0 1599 hK23_x_this_at rfl) (ib_w 1 1 hK23_x_this_sort rfl) (by exact hq) hP hD hS (lv_sub hl [0, 1, 2, 3, 4, 5] rfl)
  refine lv_aload_n hx hb dX5_wordIn_0 rfl (lv_at hl 0 rfl) ?_
  refine k_get C0 fg_X5_21 hP 0 rfl rfl dX5_wordIn_1 ?_
  refine lv_iconst (v := 1) hx hb dX5_wordIn_4 rfl ?_
  refine lv_icmp_eq (tgt := 10) hx hb dX5_wordIn_5 rfl (fun c52 => ?_) (fun c52 => ?_)
  · replace hq := lf_pos hq (lf_eq (lf_rf x_this_sort) (lf_lc 1 (1 : Int) rfl) c52)
    have h53 := ib_eq hx_this_sort (ib_c 1 1 1 rfl) c52
    have h54 : ib x_this_sort 1 1 := ib_w 1 1 h53.1 rfl
    have h55 : ib x_this_at 0 1599 := ib_w 0 1599 (ib_two hx_this_at (hc0_this (ib_nz h54 rfl))) rfl
    refine lv_iconst (v := 0) hx hb dX5_wordIn_10 rfl ?_
    refine lv_istore_n (lv' := [(2, .int 0), (0, .ref a_this), (1, .ref (sq 2))]) hx hb dX5_wordIn_11 rfl hl (Nat.le_of_ble_eq_true rfl) rfl (fun ls hl => ?_)
    refine lv_aload_n hx hb dX5_wordIn_12 rfl (lv_at hl 1 rfl) ?_
    refine k_get C0 fg_X5_15 hP 0 rfl rfl dX5_wordIn_13 ?_
    refine lv_istore_n (lv' := [(3, .int x_this_at), (2, .int 0), (0, .ref a_this), (1, .ref (sq 2))]) hx hb dX5_wordIn_16 rfl hl (Nat.le_of_ble_eq_true rfl) rfl (fun ls hl => ?_)
    refine lv_iconst (v := 1) hx hb dX5_wordIn_17 rfl ?_
    refine lv_istore (lv' := [(4, .int 1), (3, .int x_this_at), (2, .int 0), (0, .ref a_this), (1, .ref (sq 2))]) hx hb dX5_wordIn_18 hl (Nat.le_of_ble_eq_true rfl) rfl (fun ls hl => ?_)
    refine lv_iconst (v := 0) hx hb dX5_wordIn_20 rfl ?_
    refine lv_istore (lv' := [(5, .int 0), (4, .int 1), (3, .int x_this_at), (2, .int 0), (0, .ref a_this), (1, .ref (sq 2))]) hx hb dX5_wordIn_21 hl (Nat.le_of_ble_eq_true rfl) rfl (fun ls hl => ?_)
    exact jn23 36 0 x_this_at 1 0 H locs ls (ib_w 0 1599 h55 rfl) (ib_w 1 1 h54 rfl) (ib_w 0 1633 h55 rfl) (ib_w 0 1 (ib_c 1 1 1 rfl) rfl) (ib_w 0 34 (ib_c 0 0 0 rfl) rfl) (by have : (0 : Int32).toInt = 0 := rfl; have := (h55).2; omega) (by try simp only [show (0 : Int32).toInt = (0 : Int) from rfl]; try simp only [show (1 : Int32).toInt = (1 : Int) from rfl]; exact hq) (by have := (ib_c 0 0 0 rfl); unfold ib at this; omega) hP hD hS (lv_sub hl [4, 5, 3, 2, 1, 0] rfl)
  · replace hq := lf_neg hq (lf_ne (lf_rf x_this_sort) (lf_lc 1 (1 : Int) rfl) c52)
    refine lv_iconst (v := (-1)) hx hb dX5_wordIn_8 rfl ?_
    subst hQ; exact k_iret hx hb hr hlk rfl () hS ((hO.symm.trans (by try simp only [show ((-1) : Int32).toInt = (-1 : Int) from rfl]; exact hq))) hP hD (Nat.le_of_ble_eq_true rfl) (Nat.le_of_ble_eq_true rfl) dX5_wordIn_9
set_option maxHeartbeats 4000000 in
set_option maxRecDepth 100000 in
theorem s_X5_readQuestion (l : Launch) (dC : Nat → ClassId) (dI : Nat → Nat → Nat) (cy : Nat → ClassId) (sq : Nat → Nat) (a_this : Nat) (a_this_text : Nat) (g_this_text : Nat → Int32) (x_this_length : Int32) (x_this_at : Int32) (x_this_behind : Int32) (x_this_sort : Int32) (x_this_allowed : Int32) (a_this_plan : Nat) (x_this_fault : Int32) (x_this_place : Int32) (a_arg0 : Nat) (x_arg0_cycle : Int32) (x_arg0_green : Int32) (x_arg0_rule : Int32) (x_arg0_least : Int32) (x_arg0_away : Int32) (x_arg0_statements : Int32) (x_arg0_kinds : Int32) (a_arg0_calm : Nat) (a_arg0_pace : Nat) (a_arg0_trusts : Nat) (x_arg0_walkers : Int32) (a_arg0_kindOf : Nat) (a_arg0_comesAt : Nat) (a_arg0_comers : Nat) (g_arg0_comers : Nat → Int32) (a_arg0_names : Nat) (a_arg0_code : Nat) (g_arg0_code : Nat → Int32) (x_arg0_size : Int32) (a_arg0_spans : Nat) (g_arg0_spans : Nat → Int32) (p1 : Int32) (hg_this_text : ia g_this_text 1600 0 255) (hp1 : ib p1 0 1600) : k_Met l yX5_readQuestion cX5_readQuestion 4 (some .int) { frames := 36, cells := 0, slots := 0, locals := 855 } dC dI cy sq [.ref a_this, .ref a_arg0, .int p1] [(wo_5_riiiiirii a_this a_this_text x_this_length x_this_at x_this_behind x_this_sort x_this_allowed a_this_plan x_this_fault x_this_place), (wo_4_iiiiiiirrrirrrrrir a_arg0 x_arg0_cycle x_arg0_green x_arg0_rule x_arg0_least x_arg0_away x_arg0_statements x_arg0_kinds a_arg0_calm a_arg0_pace a_arg0_trusts x_arg0_walkers a_arg0_kindOf a_arg0_comesAt a_arg0_comers a_arg0_names a_arg0_code x_arg0_size a_arg0_spans), (wi_0_200_0 a_arg0_comers cy g_arg0_comers), (wi_0_6_0 a_arg0_spans cy g_arg0_spans), (wi_0_1600_0 a_this_text cy g_this_text), (wi_0_1600_0 a_arg0_code cy g_arg0_code)] (k_Qi dC dI (fun (r : Int32) (u : Int32 × Int32 × Int32 × Int32 × Int32 × Int32 × Int32 × (Nat → Int32) × (Nat → Int32) × (Nat → Int32)) => match u with | (n0, n1, n2, n3, n4, n5, n6, n7, n8, n9) => ib n0 0 1600 ∧ ib n1 0 1600 ∧ ib n2 0 1600 ∧ ib n3 0 0 ∧ ib n6 0 1600 ∧ ia n8 6 0 1600 ∧ (¬ n3 = 0 → ib n1 0 1599) ∧ (F_X5_readQuestion (lf_A g_this_text) (lf_A g_arg0_comers) (lf_A g_arg0_code) (lf_A g_arg0_spans) (Int32.toInt p1) = ((Int32.toInt r), (Int32.toInt n0), (Int32.toInt n1), (Int32.toInt n2), (Int32.toInt n3), (Int32.toInt n4), (Int32.toInt n5), (Int32.toInt n6), (lf_A n7), (lf_A n8), (lf_A n9)))) (fun u : Int32 × Int32 × Int32 × Int32 × Int32 × Int32 × Int32 × (Nat → Int32) × (Nat → Int32) × (Nat → Int32) => match u with | (n0, n1, n2, n3, n4, n5, n6, n7, n8, n9) => [(wo_5_riiiiirii a_this a_this_text n0 n1 n2 n3 3707 a_arg0 n4 n5), (wo_4_iiiiiiirrrirrrrrir a_arg0 0 x_arg0_green x_arg0_rule x_arg0_least 0 0 0 a_arg0_calm a_arg0_pace a_arg0_trusts 0 a_arg0_kindOf a_arg0_comesAt a_arg0_comers a_arg0_names a_arg0_code n6 a_arg0_spans), (wi_0_200_0 a_arg0_comers cy n7), (wi_0_6_0 a_arg0_spans cy n8), (wi_0_1600_0 a_this_text cy g_this_text), (wi_0_1600_0 a_arg0_code cy n9)])) := by
  refine k_ofW2 (by decide +kernel) (Nat.le_of_ble_eq_true rfl) ?_
  intro p e s m below meth c A ls H locs args Q hQ C0 hZ hr hlk hin hP hD hA hS hl
  have C0 : k_cx p s m args c cX5_readQuestion 4 RX5 dC dI cy sq := C0
  have hx := C0.1
  have hb := C0.2.1
  have hl : lv_has ls 4 [(0, .ref a_this), (1, .ref a_arg0), (2, .int p1)] := hl
  obtain ⟨O, hO⟩ : ∃ o, o = F_X5_readQuestion (lf_A g_this_text) (lf_A g_arg0_comers) (lf_A g_arg0_code) (lf_A g_arg0_spans) (Int32.toInt p1) := ⟨_, rfl⟩
  have hq := hO
  unfold F_X5_readQuestion at hq
  have jn79 : ∀ (J79_l3 : Int32) (J79_c0_1 : Int32) (J79_c0_2 : Int32) (J79_c0_3 : Int32) (J79_c0_4 : Int32) (J79_c0_7 : Int32) (J79_c0_8 : Int32) (J79_c1_16 : Int32) (J79_a2 : Nat → Int32) (J79_a3 : Nat → Int32) (J79_a5 : Nat → Int32) (H : Heap) (locs : List Loc) (ls : Array Slot), ib J79_c0_1 0 1600 → ib J79_c0_2 0 1600 → ib J79_c0_3 0 1600 → ib J79_c0_4 0 0 → ib J79_c1_16 0 1600 → ia J79_a3 6 0 1600 → (¬ J79_c0_4 = 0 → ib J79_c0_2 0 1599) → (O = F_X5_readQuestion_79 (Int32.toInt J79_l3) (Int32.toInt J79_c0_1) (Int32.toInt J79_c0_2) (Int32.toInt J79_c0_3) (Int32.toInt J79_c0_4) (Int32.toInt J79_c0_7) (Int32.toInt J79_c0_8) (Int32.toInt J79_c1_16) (lf_A J79_a2) (lf_A J79_a3) (lf_A J79_a5)) → va_P (dC, dI) vwCl [(wo_5_riiiiirii a_this a_this_text J79_c0_1 J79_c0_2 J79_c0_3 J79_c0_4 3707 a_arg0 J79_c0_7 J79_c0_8), (wo_4_iiiiiiirrrirrrrrir a_arg0 0 x_arg0_green x_arg0_rule x_arg0_least 0 0 0 a_arg0_calm a_arg0_pace a_arg0_trusts 0 a_arg0_kindOf a_arg0_comesAt a_arg0_comers a_arg0_names a_arg0_code J79_c1_16 a_arg0_spans), (wi_0_200_0 a_arg0_comers cy J79_a2), (wi_0_6_0 a_arg0_spans cy J79_a3), (wi_0_1600_0 a_this_text cy g_this_text), (wi_0_1600_0 a_arg0_code cy J79_a5)] H → va_D A [(wo_5_riiiiirii a_this a_this_text J79_c0_1 J79_c0_2 J79_c0_3 J79_c0_4 3707 a_arg0 J79_c0_7 J79_c0_8), (wo_4_iiiiiiirrrirrrrrir a_arg0 0 x_arg0_green x_arg0_rule x_arg0_least 0 0 0 a_arg0_calm a_arg0_pace a_arg0_trusts 0 a_arg0_kindOf a_arg0_comesAt a_arg0_comers a_arg0_names a_arg0_code J79_c1_16 a_arg0_spans), (wi_0_200_0 a_arg0_comers cy J79_a2), (wi_0_6_0 a_arg0_spans cy J79_a3), (wi_0_1600_0 a_this_text cy g_this_text), (wi_0_1600_0 a_arg0_code cy J79_a5)] → va_S A s.heap H locs → lv_has ls 4 [(0, .ref a_this), (1, .ref a_arg0), (2, .int p1), (3, .int J79_l3)] → W p l e { frames := 36, cells := 0, slots := 0, locals := 855 } s m args below meth c H locs 0 0 Q (F0 m 79 ls []) := by
    intro J79_l3 J79_c0_1 J79_c0_2 J79_c0_3 J79_c0_4 J79_c0_7 J79_c0_8 J79_c1_16 J79_a2 J79_a3 J79_a5 H locs ls hJ79_c0_1 hJ79_c0_2 hJ79_c0_3 hJ79_c0_4 hJ79_c1_16 hJ79_a3 hJ79_ic0_0 hq hP hD hS hl
    unfold F_X5_readQuestion_79 at hq
    refine lv_iload_n hx hb dX5_readQuestion_79 rfl (lv_at hl 3 rfl) ?_
    subst hQ; exact k_iret hx hb hr hlk rfl ((J79_c0_1, J79_c0_2, J79_c0_3, J79_c0_4, J79_c0_7, J79_c0_8, J79_c1_16, J79_a2, J79_a3, J79_a5)) hS ⟨ib_w 0 1600 hJ79_c0_1 rfl, ib_w 0 1600 hJ79_c0_2 rfl, ib_w 0 1600 hJ79_c0_3 rfl, ib_w 0 0 hJ79_c0_4 rfl, ib_w 0 1600 hJ79_c1_16 rfl, hJ79_a3, fun hq9 => ib_w 0 1599 (hJ79_ic0_0 hq9) rfl, (hO.symm.trans (by exact hq))⟩ hP hD (Nat.le_of_ble_eq_true rfl) (Nat.le_of_ble_eq_true rfl) dX5_readQuestion_80
  have jn63 : ∀ (J63_l3 : Int32) (J63_c0_1 : Int32) (J63_c0_2 : Int32) (J63_c0_3 : Int32) (J63_c0_4 : Int32) (J63_c0_7 : Int32) (J63_c0_8 : Int32) (J63_c1_16 : Int32) (J63_a2 : Nat → Int32) (J63_a3 : Nat → Int32) (J63_a5 : Nat → Int32) (H : Heap) (locs : List Loc) (ls : Array Slot), ib J63_c0_1 0 1600 → ib J63_c0_2 0 1600 → ib J63_c0_3 0 1600 → ib J63_c0_4 0 4 → ib J63_c1_16 0 1600 → ia J63_a3 6 0 1600 → (¬ J63_c0_4 = 0 → ib J63_c0_2 0 1599) → (O = F_X5_readQuestion_63 (Int32.toInt J63_l3) (Int32.toInt J63_c0_1) (Int32.toInt J63_c0_2) (Int32.toInt J63_c0_3) (Int32.toInt J63_c0_4) (Int32.toInt J63_c0_7) (Int32.toInt J63_c0_8) (Int32.toInt J63_c1_16) (lf_A J63_a2) (lf_A J63_a3) (lf_A J63_a5)) → va_P (dC, dI) vwCl [(wo_5_riiiiirii a_this a_this_text J63_c0_1 J63_c0_2 J63_c0_3 J63_c0_4 3707 a_arg0 J63_c0_7 J63_c0_8), (wo_4_iiiiiiirrrirrrrrir a_arg0 0 x_arg0_green x_arg0_rule x_arg0_least 0 0 0 a_arg0_calm a_arg0_pace a_arg0_trusts 0 a_arg0_kindOf a_arg0_comesAt a_arg0_comers a_arg0_names a_arg0_code J63_c1_16 a_arg0_spans), (wi_0_200_0 a_arg0_comers cy J63_a2), (wi_0_6_0 a_arg0_spans cy J63_a3), (wi_0_1600_0 a_this_text cy g_this_text), (wi_0_1600_0 a_arg0_code cy J63_a5)] H → va_D A [(wo_5_riiiiirii a_this a_this_text J63_c0_1 J63_c0_2 J63_c0_3 J63_c0_4 3707 a_arg0 J63_c0_7 J63_c0_8), (wo_4_iiiiiiirrrirrrrrir a_arg0 0 x_arg0_green x_arg0_rule x_arg0_least 0 0 0 a_arg0_calm a_arg0_pace a_arg0_trusts 0 a_arg0_kindOf a_arg0_comesAt a_arg0_comers a_arg0_names a_arg0_code J63_c1_16 a_arg0_spans), (wi_0_200_0 a_arg0_comers cy J63_a2), (wi_0_6_0 a_arg0_spans cy J63_a3), (wi_0_1600_0 a_this_text cy g_this_text), (wi_0_1600_0 a_arg0_code cy J63_a5)] → va_S A s.heap H locs → lv_has ls 4 [(0, .ref a_this), (1, .ref a_arg0), (2, .int p1), (3, .int J63_l3)] → W p l e { frames := 36, cells := 0, slots := 0, locals := 855 } s m args below meth c H locs 0 0 Q (F0 m 63 ls []) := by
    as_aux_lemma =>
      intro J63_l3 J63_c0_1 J63_c0_2 J63_c0_3 J63_c0_4 J63_c0_7 J63_c0_8 J63_c1_16 J63_a2 J63_a3 J63_a5 H locs ls hJ63_c0_1 hJ63_c0_2 hJ63_c0_3 hJ63_c0_4 hJ63_c1_16 hJ63_a3 hJ63_ic0_0 hq hP hD hS hl
      unfold F_X5_readQuestion_63 at hq
      refine lv_aload_n hx hb dX5_readQuestion_63 rfl (lv_at hl 0 rfl) ?_
      refine k_get C0 fg_X5_21 hP 0 rfl rfl dX5_readQuestion_64 ?_
      refine lv_if_eq (tgt := 79) hx hb dX5_readQuestion_67 rfl (fun c1 => ?_) (fun c1 => ?_)
      · replace hq := lf_pos hq (lf_eq (lf_rf J63_c0_4) (lf_lc 0 (0 : Int) rfl) c1)
        have h2 := ib_eq hJ63_c0_4 (ib_c 0 0 0 rfl) c1
        have h3 : ib J63_c0_4 0 0 := ib_w 0 0 h2.1 rfl
        exact jn79 J63_l3 J63_c0_1 J63_c0_2 J63_c0_3 J63_c0_4 J63_c0_7 J63_c0_8 J63_c1_16 J63_a2 J63_a3 J63_a5 H locs ls (ib_w 0 1600 hJ63_c0_1 rfl) (ib_w 0 1600 hJ63_c0_2 rfl) (ib_w 0 1600 hJ63_c0_3 rfl) (ib_w 0 0 h3 rfl) (ib_w 0 1600 hJ63_c1_16 rfl) hJ63_a3 (fun hq9 => ib_w 0 1599 (hJ63_ic0_0 hq9) rfl) (by exact hq) hP hD hS (lv_sub hl [0, 1, 2, 3] rfl)
      · replace hq := lf_neg hq (lf_ne (lf_rf J63_c0_4) (lf_lc 0 (0 : Int) rfl) c1)
        have h4 : ib J63_c0_4 1 4 := ib_w 1 4 (ib_ne_lo 0 hJ63_c0_4 rfl c1) rfl
        have h5 : ib J63_c0_2 0 1599 := ib_w 0 1599 (ib_two hJ63_c0_2 (hJ63_ic0_0 c1)) rfl
        refine lv_aload_n hx hb dX5_readQuestion_70 rfl (lv_at hl 0 rfl) ?_
        refine lv_iconst (v := 1) hx hb dX5_readQuestion_71 rfl ?_
        refine lv_aload_n hx hb dX5_readQuestion_72 rfl (lv_at hl 0 rfl) ?_
        refine k_get C0 fg_X5_15 hP 0 rfl rfl dX5_readQuestion_73 ?_
        refine k_jvm hP hD hS hA [0] [false, true, true, true, true, true] rfl rfl rfl 0 0 (Nat.le_of_ble_eq_true rfl) (Nat.le_of_ble_eq_true rfl) (fun hPc hDc => k_runV (As := [.int 1, .int J63_c0_2]) (rest := []) C0 hZ hS hA (s_X5_fail l dC dI cy sq a_this a_this_text J63_c0_1 J63_c0_2 J63_c0_3 J63_c0_4 3707 a_arg0 J63_c0_7 J63_c0_8 1 J63_c0_2 ) mV_X5_78 hPc hDc rfl rfl rfl hl rfl rfl (Nat.le_of_ble_eq_true rfl) ⟨(Nat.le_of_ble_eq_true rfl), (Nat.le_of_ble_eq_true rfl)⟩ ⟨(Nat.le_of_ble_eq_true rfl), (Nat.le_of_ble_eq_true rfl)⟩ dX5_readQuestion_76) (fun u7 H locs hw hP hD hS => ?_)
        obtain ⟨v8, v9⟩ := u7
        try dsimp only at hP hD hw
        replace hP : va_P (dC, dI) vwCl [(wo_4_iiiiiiirrrirrrrrir a_arg0 0 x_arg0_green x_arg0_rule x_arg0_least 0 0 0 a_arg0_calm a_arg0_pace a_arg0_trusts 0 a_arg0_kindOf a_arg0_comesAt a_arg0_comers a_arg0_names a_arg0_code J63_c1_16 a_arg0_spans), (wi_0_200_0 a_arg0_comers cy J63_a2), (wi_0_6_0 a_arg0_spans cy J63_a3), (wi_0_1600_0 a_this_text cy g_this_text), (wi_0_1600_0 a_arg0_code cy J63_a5), (wo_5_riiiiirii a_this a_this_text J63_c0_1 J63_c0_1 J63_c0_1 0 3707 a_arg0 v8 v9)] H := hP
        replace hD := k_D hP hD
        have h10 := hw
        have h10 := by have h9 := h10; try simp only [show (1 : Int32).toInt = (1 : Int) from rfl] at h9; exact h9
        replace hq := lf_p1 hq h10
        exact jn79 J63_l3 J63_c0_1 J63_c0_1 J63_c0_1 0 v8 v9 J63_c1_16 J63_a2 J63_a3 J63_a5 H locs ls (ib_w 0 1600 hJ63_c0_1 rfl) (ib_w 0 1600 hJ63_c0_1 rfl) (ib_w 0 1600 hJ63_c0_1 rfl) (ib_w 0 0 (ib_c 0 0 0 rfl) rfl) (ib_w 0 1600 hJ63_c1_16 rfl) hJ63_a3 (fun hq9 => absurd rfl hq9) (by try simp only [show (0 : Int32).toInt = (0 : Int) from rfl]; exact hq) (hP.sub [5, 0, 1, 2, 3, 4] rfl) (hD.sub [5, 0, 1, 2, 3, 4] rfl rfl) hS (lv_sub hl [0, 1, 2, 3] rfl)
  refine lv_aload_n hx hb dX5_readQuestion_0 rfl (lv_at hl 0 rfl) ?_
  refine lv_aload_n hx hb dX5_readQuestion_1 rfl (lv_at hl 1 rfl) ?_
  refine lv_iload_n hx hb dX5_readQuestion_2 rfl (lv_at hl 2 rfl) ?_
  refine k_jvm hP hD hS hA [0, 1, 2, 3, 4] [false, false, false, false, false, true] rfl rfl rfl 0 0 (Nat.le_of_ble_eq_true rfl) (Nat.le_of_ble_eq_true rfl) (fun hPc hDc => k_runV (As := [.ref a_arg0, .int p1]) (rest := []) C0 hZ hS hA (s_X5_begin l dC dI cy sq a_this a_this_text g_this_text x_this_length x_this_at x_this_behind x_this_sort x_this_allowed a_this_plan x_this_fault x_this_place a_arg0 x_arg0_cycle x_arg0_green x_arg0_rule x_arg0_least x_arg0_away x_arg0_statements x_arg0_kinds a_arg0_calm a_arg0_pace a_arg0_trusts x_arg0_walkers a_arg0_kindOf a_arg0_comesAt a_arg0_comers g_arg0_comers a_arg0_names a_arg0_code x_arg0_size a_arg0_spans g_arg0_spans p1 hg_this_text (ib_w 0 1600 hp1 rfl)) mV_X5_41 hPc hDc rfl rfl rfl hl rfl rfl (Nat.le_of_ble_eq_true rfl) ⟨(Nat.le_of_ble_eq_true rfl), (Nat.le_of_ble_eq_true rfl)⟩ ⟨(Nat.le_of_ble_eq_true rfl), (Nat.le_of_ble_eq_true rfl)⟩ dX5_readQuestion_3) (fun u12 H locs hw hP hD hS => ?_)
  obtain ⟨v13, v14, v15, v16, f17, f18⟩ := u12
  try dsimp only at hP hD hw
  replace hP : va_P (dC, dI) vwCl [(wi_0_1600_0 a_arg0_code cy g_arg0_code), (wo_5_riiiiirii a_this a_this_text v13 v14 v15 v16 x_this_allowed a_arg0 0 (-1)), (wo_4_iiiiiiirrrirrrrrir a_arg0 0 x_arg0_green x_arg0_rule x_arg0_least 0 0 0 a_arg0_calm a_arg0_pace a_arg0_trusts 0 a_arg0_kindOf a_arg0_comesAt a_arg0_comers a_arg0_names a_arg0_code 0 a_arg0_spans), (wi_0_200_0 a_arg0_comers cy f17), (wi_0_6_0 a_arg0_spans cy f18), (wi_0_1600_0 a_this_text cy g_this_text)] H := hP
  replace hD := k_D hP hD
  obtain ⟨h19, h20, h21, h22, h23, h24, h25⟩ := hw
  replace hq := lf_p1 hq h25
  replace hq := lf_p1 hq rfl
  replace hq := lf_p1 hq rfl
  replace hq := lf_p1 hq rfl
  replace hq := lf_p1 hq rfl
  refine lv_aload_n hx hb dX5_readQuestion_6 rfl (lv_at hl 0 rfl) ?_
  refine lv_sipush (v := 3707) hx hb dX5_readQuestion_7 rfl ?_
  refine k_put C0 fp_X5_24 hP hD hS 1 rfl rfl rfl (Nat.le_of_ble_eq_true rfl) dX5_readQuestion_10 (fun H locs hP hD hS => ?_)
  replace hP : va_P (dC, dI) vwCl [(wi_0_1600_0 a_arg0_code cy g_arg0_code), (wo_5_riiiiirii a_this a_this_text v13 v14 v15 v16 3707 a_arg0 0 (-1)), (wo_4_iiiiiiirrrirrrrrir a_arg0 0 x_arg0_green x_arg0_rule x_arg0_least 0 0 0 a_arg0_calm a_arg0_pace a_arg0_trusts 0 a_arg0_kindOf a_arg0_comesAt a_arg0_comers a_arg0_names a_arg0_code 0 a_arg0_spans), (wi_0_200_0 a_arg0_comers cy f17), (wi_0_6_0 a_arg0_spans cy f18), (wi_0_1600_0 a_this_text cy g_this_text)] H := hP
  replace hD := k_D hP hD
  as_aux_lemma =>
    refine lv_aload_n hx hb dX5_readQuestion_13 rfl (lv_at hl 0 rfl) ?_
    refine va_ldcS hx hb C0.2.2.2.1 (C0.2.2.2.2.2.2.2.2.2.2.2.2 2 (by decide)) dX5_readQuestion_14 ?_
    refine k_jim hP hD hS hA [1, 5] [true, false, true, true, true] rfl rfl rfl 0 0 (Nat.le_of_ble_eq_true rfl) (Nat.le_of_ble_eq_true rfl) (fun hPc hDc => k_runV (As := [.ref (sq 2)]) (rest := []) C0 hZ hS hA (s_X5_wordIn_s2 l dC dI cy sq a_this a_this_text g_this_text v13 v14 v15 v16 3707 a_arg0 0 (-1) hg_this_text (ib_w 0 1600 h20 rfl) (ib_w 0 1600 h21 rfl) (ib_w 0 4 h22 rfl) (fun hq9 => ib_w 0 1599 (h24 hq9) rfl)) mV_X5_54 hPc hDc rfl rfl rfl hl rfl rfl (Nat.le_of_ble_eq_true rfl) ⟨(Nat.le_of_ble_eq_true rfl), (Nat.le_of_ble_eq_true rfl)⟩ ⟨(Nat.le_of_ble_eq_true rfl), (Nat.le_of_ble_eq_true rfl)⟩ dX5_readQuestion_16) (fun r26 u27 H locs hw hP hD hS => ?_)
    try dsimp only at hP hD hw
    replace hP : va_P (dC, dI) vwCl [(wi_0_1600_0 a_arg0_code cy g_arg0_code), (wo_4_iiiiiiirrrirrrrrir a_arg0 0 x_arg0_green x_arg0_rule x_arg0_least 0 0 0 a_arg0_calm a_arg0_pace a_arg0_trusts 0 a_arg0_kindOf a_arg0_comesAt a_arg0_comers a_arg0_names a_arg0_code 0 a_arg0_spans), (wi_0_200_0 a_arg0_comers cy f17), (wi_0_6_0 a_arg0_spans cy f18), (wo_5_riiiiirii a_this a_this_text v13 v14 v15 v16 3707 a_arg0 0 (-1)), (wi_0_1600_0 a_this_text cy g_this_text)] H := hP
    replace hD := k_D hP hD
    have h28 := hw
    replace hq := lf_b1 hq h28
    refine lv_istore_n (lv' := [(3, .int r26), (0, .ref a_this), (1, .ref a_arg0), (2, .int p1)]) hx hb dX5_readQuestion_19 rfl hl (Nat.le_of_ble_eq_true rfl) rfl (fun ls hl => ?_)
    refine lv_iload_n hx hb dX5_readQuestion_20 rfl (lv_at hl 0 rfl) ?_
    refine lv_iconst (v := (-1)) hx hb dX5_readQuestion_21 rfl ?_
    refine lv_icmp_ne (tgt := 37) hx hb dX5_readQuestion_22 rfl (fun c29 => ?_) (fun c29 => ?_)
    · as_aux_lemma =>
        replace hq := lf_neg hq (lf_ne (lf_rf r26) (lf_lc (-1) (-1 : Int) rfl) c29)
        refine lv_aload_n hx hb dX5_readQuestion_37 rfl (lv_at hl 1 rfl) ?_
        refine lv_aload_n hx hb dX5_readQuestion_38 rfl (lv_at hl 1 rfl) ?_
        refine k_get C0 fg_X5_18 hP 4 rfl rfl dX5_readQuestion_39 ?_
        refine k_jvm hP hD hS hA [4, 5] [true, true, true, true] rfl rfl rfl 0 0 (Nat.le_of_ble_eq_true rfl) (Nat.le_of_ble_eq_true rfl) (fun hPc hDc => k_runV (As := [.int v15]) (rest := []) C0 hZ hS hA (s_X5_moveTo l dC dI cy sq a_this a_this_text g_this_text v13 v14 v15 v16 3707 a_arg0 0 (-1) v15 hg_this_text (ib_w 0 1600 h19 rfl) (ib_w 0 1600 h21 rfl)) mV_X5_86 hPc hDc rfl rfl rfl hl rfl rfl (Nat.le_of_ble_eq_true rfl) ⟨(Nat.le_of_ble_eq_true rfl), (Nat.le_of_ble_eq_true rfl)⟩ ⟨(Nat.le_of_ble_eq_true rfl), (Nat.le_of_ble_eq_true rfl)⟩ dX5_readQuestion_42) (fun u31 H locs hw hP hD hS => ?_)
        obtain ⟨v32, v33, v34⟩ := u31
        try dsimp only at hP hD hw
        replace hP : va_P (dC, dI) vwCl [(wi_0_1600_0 a_arg0_code cy g_arg0_code), (wo_4_iiiiiiirrrirrrrrir a_arg0 0 x_arg0_green x_arg0_rule x_arg0_least 0 0 0 a_arg0_calm a_arg0_pace a_arg0_trusts 0 a_arg0_kindOf a_arg0_comesAt a_arg0_comers a_arg0_names a_arg0_code 0 a_arg0_spans), (wi_0_200_0 a_arg0_comers cy f17), (wi_0_6_0 a_arg0_spans cy f18), (wo_5_riiiiirii a_this a_this_text v13 v32 v33 v34 3707 a_arg0 0 (-1)), (wi_0_1600_0 a_this_text cy g_this_text)] H := hP
        replace hD := k_D hP hD
        obtain ⟨h35, h36, h37, h38, h39⟩ := hw
        replace hq := lf_p1 hq h39
        replace hq := lf_p1 hq rfl
        refine lv_iload_n hx hb dX5_readQuestion_45 rfl (lv_at hl 0 rfl) ?_
        refine lv_iconst (v := 2) hx hb dX5_readQuestion_46 rfl ?_
        refine lv_icmp_gt (tgt := 58) hx hb dX5_readQuestion_47 rfl (fun c40 => ?_) (fun c40 => ?_)
        · replace hq := lf_pos hq (lf_lt (lf_lc 2 (2 : Int) rfl) (lf_rf r26) c40)
          have h41 := ib_lt (ib_c 2 2 2 rfl) (ib_any r26) c40
          have h42 : ib r26 3 2147483647 := ib_w 3 2147483647 h41.2 rfl
          refine lv_aload_n hx hb dX5_readQuestion_58 rfl (lv_at hl 1 rfl) ?_
          refine lv_iconst (v := 0) hx hb dX5_readQuestion_59 rfl ?_
          refine k_jvm hP hD hS hA [4, 5, 1, 0] [false, false, true, true] rfl rfl rfl 0 0 (Nat.le_of_ble_eq_true rfl) (Nat.le_of_ble_eq_true rfl) (fun hPc hDc => k_runV (As := [.int 0]) (rest := []) C0 hZ hS hA (s_X5_sum_a0_0 l dC dI cy sq a_this a_this_text g_this_text v13 v32 v33 v34 3707 a_arg0 0 x_arg0_green x_arg0_rule x_arg0_least 0 0 0 a_arg0_calm a_arg0_pace a_arg0_trusts 0 a_arg0_kindOf a_arg0_comesAt a_arg0_comers a_arg0_names a_arg0_code g_arg0_code 0 a_arg0_spans 0 (-1) hg_this_text (ib_w 0 1600 h19 rfl) (ib_w 0 1600 h35 rfl) (ib_w 0 1600 h36 rfl) (ib_w 0 4 h37 rfl) (ib_w 0 1600 (ib_c 0 0 0 rfl) rfl) (fun hq9 => ib_w 0 1599 (h38 hq9) rfl)) mV_X5_93 hPc hDc rfl rfl rfl hl rfl rfl (Nat.le_of_ble_eq_true rfl) ⟨(Nat.le_of_ble_eq_true rfl), (Nat.le_of_ble_eq_true rfl)⟩ ⟨(Nat.le_of_ble_eq_true rfl), (Nat.le_of_ble_eq_true rfl)⟩ dX5_readQuestion_60) (fun u44 H locs hw hP hD hS => ?_)
          obtain ⟨v45, v46, v47, v48, v49, v50, f51⟩ := u44
          try dsimp only at hP hD hw
          replace hP : va_P (dC, dI) vwCl [(wi_0_200_0 a_arg0_comers cy f17), (wi_0_6_0 a_arg0_spans cy f18), (wo_5_riiiiirii a_this a_this_text v13 v45 v46 v47 3707 a_arg0 v48 v49), (wi_0_1600_0 a_this_text cy g_this_text), (wo_4_iiiiiiirrrirrrrrir a_arg0 0 x_arg0_green x_arg0_rule x_arg0_least 0 0 0 a_arg0_calm a_arg0_pace a_arg0_trusts 0 a_arg0_kindOf a_arg0_comesAt a_arg0_comers a_arg0_names a_arg0_code v50 a_arg0_spans), (wi_0_1600_0 a_arg0_code cy f51)] H := hP
          replace hD := k_D hP hD
          obtain ⟨h52, h53, h54, h55, h56, h57⟩ := hw
          have h57 := by have h9 := h57; try simp only [show (3707 : Int32).toInt = (3707 : Int) from rfl] at h9; try simp only [show (0 : Int32).toInt = (0 : Int) from rfl] at h9; try simp only [show ((-1) : Int32).toInt = (-1 : Int) from rfl] at h9; exact h9
          replace hq := lf_p1 hq h57
          replace hq := lf_p1 hq rfl
          replace hq := lf_p1 hq rfl
          replace hq := lf_p1 hq rfl
          replace hq := lf_p1 hq rfl
          replace hq := lf_p1 hq rfl
          exact jn63 r26 v13 v45 v46 v47 v48 v49 v50 f17 f18 f51 H locs ls (ib_w 0 1600 h19 rfl) (ib_w 0 1600 h52 rfl) (ib_w 0 1600 h53 rfl) (ib_w 0 4 h54 rfl) (ib_w 0 1600 h55 rfl) h23 (fun hq9 => ib_w 0 1599 (h56 hq9) rfl) (by exact hq) (hP.sub [2, 4, 0, 1, 3, 5] rfl) (hD.sub [2, 4, 0, 1, 3, 5] rfl rfl) hS (lv_sub hl [1, 2, 3, 0] rfl)
        · as_aux_lemma =>
            replace hq := lf_neg hq (lf_nlt (lf_lc 2 (2 : Int) rfl) (lf_rf r26) c40)
            have h58 := ib_nlt (ib_c 2 2 2 rfl) (ib_any r26) c40
            have h59 : ib r26 (-2147483648) 2 := ib_w (-2147483648) 2 h58.2 rfl
            refine lv_aload_n hx hb dX5_readQuestion_50 rfl (lv_at hl 1 rfl) ?_
            refine lv_iconst (v := 0) hx hb dX5_readQuestion_51 rfl ?_
            refine k_jvm hP hD hS hA [4, 5, 1, 0] [false, false, true, true] rfl rfl rfl 0 0 (Nat.le_of_ble_eq_true rfl) (Nat.le_of_ble_eq_true rfl) (fun hPc hDc => k_runV (As := [.int 0]) (rest := []) C0 hZ hS hA (s_X5_test_a0_0 l dC dI cy sq a_this a_this_text g_this_text v13 v32 v33 v34 3707 a_arg0 0 x_arg0_green x_arg0_rule x_arg0_least 0 0 0 a_arg0_calm a_arg0_pace a_arg0_trusts 0 a_arg0_kindOf a_arg0_comesAt a_arg0_comers a_arg0_names a_arg0_code g_arg0_code 0 a_arg0_spans 0 (-1) hg_this_text (ib_w 0 1600 h19 rfl) (ib_w 0 1600 h35 rfl) (ib_w 0 1600 h36 rfl) (ib_w 0 4 h37 rfl) (ib_w 0 1600 (ib_c 0 0 0 rfl) rfl) (fun hq9 => ib_w 0 1599 (h38 hq9) rfl)) mV_X5_90 hPc hDc rfl rfl rfl hl rfl rfl (Nat.le_of_ble_eq_true rfl) ⟨(Nat.le_of_ble_eq_true rfl), (Nat.le_of_ble_eq_true rfl)⟩ ⟨(Nat.le_of_ble_eq_true rfl), (Nat.le_of_ble_eq_true rfl)⟩ dX5_readQuestion_52) (fun u61 H locs hw hP hD hS => ?_)
            obtain ⟨v62, v63, v64, v65, v66, v67, f68⟩ := u61
            try dsimp only at hP hD hw
            replace hP : va_P (dC, dI) vwCl [(wi_0_200_0 a_arg0_comers cy f17), (wi_0_6_0 a_arg0_spans cy f18), (wo_5_riiiiirii a_this a_this_text v13 v62 v63 v64 3707 a_arg0 v65 v66), (wi_0_1600_0 a_this_text cy g_this_text), (wo_4_iiiiiiirrrirrrrrir a_arg0 0 x_arg0_green x_arg0_rule x_arg0_least 0 0 0 a_arg0_calm a_arg0_pace a_arg0_trusts 0 a_arg0_kindOf a_arg0_comesAt a_arg0_comers a_arg0_names a_arg0_code v67 a_arg0_spans), (wi_0_1600_0 a_arg0_code cy f68)] H := hP
            replace hD := k_D hP hD
            obtain ⟨h69, h70, h71, h72, h73, h74⟩ := hw
            have h74 := by have h9 := h74; try simp only [show (3707 : Int32).toInt = (3707 : Int) from rfl] at h9; try simp only [show (0 : Int32).toInt = (0 : Int) from rfl] at h9; try simp only [show ((-1) : Int32).toInt = (-1 : Int) from rfl] at h9; exact h9
            replace hq := lf_p1 hq h74
            replace hq := lf_p1 hq rfl
            replace hq := lf_p1 hq rfl
            replace hq := lf_p1 hq rfl
            replace hq := lf_p1 hq rfl
            replace hq := lf_p1 hq rfl
            refine lv_goto (tgt := 63) hx hb dX5_readQuestion_55 rfl ?_
            exact jn63 r26 v13 v62 v63 v64 v65 v66 v67 f17 f18 f68 H locs ls (ib_w 0 1600 h19 rfl) (ib_w 0 1600 h69 rfl) (ib_w 0 1600 h70 rfl) (ib_w 0 4 h71 rfl) (ib_w 0 1600 h72 rfl) h23 (fun hq9 => ib_w 0 1599 (h73 hq9) rfl) (by exact hq) (hP.sub [2, 4, 0, 1, 3, 5] rfl) (hD.sub [2, 4, 0, 1, 3, 5] rfl rfl) hS (lv_sub hl [1, 2, 3, 0] rfl)
    · replace hq := lf_pos hq (lf_eq (lf_rf r26) (lf_lc (-1) (-1 : Int) rfl) c29)
      have h75 := ib_eq (ib_any r26) (ib_c (-1) (-1) (-1) rfl) c29
      have h76 : ib r26 (-1) (-1) := ib_w (-1) (-1) h75.1 rfl
      refine lv_aload_n hx hb dX5_readQuestion_25 rfl (lv_at hl 1 rfl) ?_
      refine lv_iconst (v := 1) hx hb dX5_readQuestion_26 rfl ?_
      refine lv_aload_n hx hb dX5_readQuestion_27 rfl (lv_at hl 1 rfl) ?_
      refine k_get C0 fg_X5_15 hP 4 rfl rfl dX5_readQuestion_28 ?_
      refine k_jvm hP hD hS hA [4] [true, true, true, true, false, true] rfl rfl rfl 0 0 (Nat.le_of_ble_eq_true rfl) (Nat.le_of_ble_eq_true rfl) (fun hPc hDc => k_runV (As := [.int 1, .int v14]) (rest := []) C0 hZ hS hA (s_X5_fail l dC dI cy sq a_this a_this_text v13 v14 v15 v16 3707 a_arg0 0 (-1) 1 v14 ) mV_X5_78 hPc hDc rfl rfl rfl hl rfl rfl (Nat.le_of_ble_eq_true rfl) ⟨(Nat.le_of_ble_eq_true rfl), (Nat.le_of_ble_eq_true rfl)⟩ ⟨(Nat.le_of_ble_eq_true rfl), (Nat.le_of_ble_eq_true rfl)⟩ dX5_readQuestion_31) (fun u78 H locs hw hP hD hS => ?_)
      obtain ⟨v79, v80⟩ := u78
      try dsimp only at hP hD hw
      replace hP : va_P (dC, dI) vwCl [(wi_0_1600_0 a_arg0_code cy g_arg0_code), (wo_4_iiiiiiirrrirrrrrir a_arg0 0 x_arg0_green x_arg0_rule x_arg0_least 0 0 0 a_arg0_calm a_arg0_pace a_arg0_trusts 0 a_arg0_kindOf a_arg0_comesAt a_arg0_comers a_arg0_names a_arg0_code 0 a_arg0_spans), (wi_0_200_0 a_arg0_comers cy f17), (wi_0_6_0 a_arg0_spans cy f18), (wi_0_1600_0 a_this_text cy g_this_text), (wo_5_riiiiirii a_this a_this_text v13 v13 v13 0 3707 a_arg0 v79 v80)] H := hP
      replace hD := k_D hP hD
      have h81 := hw
      have h81 := by have h9 := h81; try simp only [show (0 : Int32).toInt = (0 : Int) from rfl] at h9; try simp only [show ((-1) : Int32).toInt = (-1 : Int) from rfl] at h9; try simp only [show (1 : Int32).toInt = (1 : Int) from rfl] at h9; exact h9
      replace hq := lf_p1 hq h81
      refine lv_goto (tgt := 63) hx hb dX5_readQuestion_34 rfl ?_
      exact jn63 r26 v13 v13 v13 0 v79 v80 0 f17 f18 g_arg0_code H locs ls (ib_w 0 1600 h19 rfl) (ib_w 0 1600 h19 rfl) (ib_w 0 1600 h19 rfl) (ib_w 0 4 (ib_c 0 0 0 rfl) rfl) (ib_w 0 1600 (ib_c 0 0 0 rfl) rfl) h23 (fun hq9 => absurd rfl hq9) (by try simp only [show (0 : Int32).toInt = (0 : Int) from rfl]; exact hq) (hP.sub [5, 1, 2, 3, 4, 0] rfl) (hD.sub [5, 1, 2, 3, 4, 0] rfl rfl) hS (lv_sub hl [1, 2, 3, 0] rfl)
set_option maxHeartbeats 4000000 in
set_option maxRecDepth 100000 in
theorem s_X5_slotOf (l : Launch) (dC : Nat → ClassId) (dI : Nat → Nat → Nat) (cy : Nat → ClassId) (sq : Nat → Nat) (a_this : Nat) (a_this_text : Nat) (g_this_text : Nat → Int32) (x_this_length : Int32) (x_this_at : Int32) (x_this_behind : Int32) (x_this_sort : Int32) (x_this_allowed : Int32) (a_this_plan : Nat) (x_this_plan_cycle : Int32) (x_this_plan_green : Int32) (x_this_plan_rule : Int32) (x_this_plan_least : Int32) (x_this_plan_away : Int32) (x_this_plan_statements : Int32) (x_this_plan_kinds : Int32) (a_this_plan_calm : Nat) (a_this_plan_pace : Nat) (a_this_plan_trusts : Nat) (x_this_plan_walkers : Int32) (a_this_plan_kindOf : Nat) (a_this_plan_comesAt : Nat) (a_this_plan_comers : Nat) (a_this_plan_names : Nat) (g_this_plan_names : Nat → Int32) (a_this_plan_code : Nat) (x_this_plan_size : Int32) (a_this_plan_spans : Nat) (x_this_fault : Int32) (x_this_place : Int32) (p0 : Int32) (p1 : Int32) (hg_this_text : ia g_this_text 1600 0 255) (hx_this_at : ib x_this_at 0 1600) (hx_this_behind : ib x_this_behind 0 1600) (hp0 : ib p0 0 6) (hp1 : ib p1 0 12) : k_Met l yX5_slotOf cX5_slotOf 5 (some .int) { frames := 1, cells := 0, slots := 0, locals := 21 } dC dI cy sq [.ref a_this, .int p0, .int p1] [(wo_5_riiiiirii a_this a_this_text x_this_length x_this_at x_this_behind x_this_sort x_this_allowed a_this_plan x_this_fault x_this_place), (wo_4_iiiiiiirrrirrrrrir a_this_plan x_this_plan_cycle x_this_plan_green x_this_plan_rule x_this_plan_least x_this_plan_away x_this_plan_statements x_this_plan_kinds a_this_plan_calm a_this_plan_pace a_this_plan_trusts x_this_plan_walkers a_this_plan_kindOf a_this_plan_comesAt a_this_plan_comers a_this_plan_names a_this_plan_code x_this_plan_size a_this_plan_spans), (wi_0_108_0 a_this_plan_names cy g_this_plan_names), (wi_0_1600_0 a_this_text cy g_this_text)] (k_Qi dC dI (fun (r : Int32) (_ : Unit) => ib r (-1) 17 ∧ (F_X5_slotOf (lf_A g_this_text) (Int32.toInt x_this_at) (Int32.toInt x_this_behind) (lf_A g_this_plan_names) (Int32.toInt p0) (Int32.toInt p1) = ((Int32.toInt r)))) (fun _ : Unit => [(wo_5_riiiiirii a_this a_this_text x_this_length x_this_at x_this_behind x_this_sort x_this_allowed a_this_plan x_this_fault x_this_place), (wo_4_iiiiiiirrrirrrrrir a_this_plan x_this_plan_cycle x_this_plan_green x_this_plan_rule x_this_plan_least x_this_plan_away x_this_plan_statements x_this_plan_kinds a_this_plan_calm a_this_plan_pace a_this_plan_trusts x_this_plan_walkers a_this_plan_kindOf a_this_plan_comesAt a_this_plan_comers a_this_plan_names a_this_plan_code x_this_plan_size a_this_plan_spans), (wi_0_108_0 a_this_plan_names cy g_this_plan_names), (wi_0_1600_0 a_this_text cy g_this_text)])) := by
  refine k_ofW2 (by decide +kernel) (Nat.le_of_ble_eq_true rfl) ?_
  intro p e s m below meth c A ls H locs args Q hQ C0 hZ hr hlk hin hP hD hA hS hl
  have C0 : k_cx p s m args c cX5_slotOf 5 RX5 dC dI cy sq := C0
  have hx := C0.1
  have hb := C0.2.1
  have hl : lv_has ls 5 [(0, .ref a_this), (1, .int p0), (2, .int p1)] := hl
  obtain ⟨O, hO⟩ : ∃ o, o = F_X5_slotOf (lf_A g_this_text) (Int32.toInt x_this_at) (Int32.toInt x_this_behind) (lf_A g_this_plan_names) (Int32.toInt p0) (Int32.toInt p1) := ⟨_, rfl⟩
  have hq := hO
  unfold F_X5_slotOf at hq
  have jn2 : ∀ (n : Nat) (J2_l3 : Int32) (H : Heap) (locs : List Loc) (ls : Array Slot), ib J2_l3 0 18 → (O = F_X5_slotOf_2 (lf_A g_this_text) (Int32.toInt x_this_at) (Int32.toInt x_this_behind) (lf_A g_this_plan_names) (Int32.toInt p0) (Int32.toInt p1) n (Int32.toInt J2_l3)) → 19 ≤ J2_l3.toInt + (n : Int) → va_P (dC, dI) vwCl [(wo_5_riiiiirii a_this a_this_text x_this_length x_this_at x_this_behind x_this_sort x_this_allowed a_this_plan x_this_fault x_this_place), (wo_4_iiiiiiirrrirrrrrir a_this_plan x_this_plan_cycle x_this_plan_green x_this_plan_rule x_this_plan_least x_this_plan_away x_this_plan_statements x_this_plan_kinds a_this_plan_calm a_this_plan_pace a_this_plan_trusts x_this_plan_walkers a_this_plan_kindOf a_this_plan_comesAt a_this_plan_comers a_this_plan_names a_this_plan_code x_this_plan_size a_this_plan_spans), (wi_0_108_0 a_this_plan_names cy g_this_plan_names), (wi_0_1600_0 a_this_text cy g_this_text)] H → va_D A [(wo_5_riiiiirii a_this a_this_text x_this_length x_this_at x_this_behind x_this_sort x_this_allowed a_this_plan x_this_fault x_this_place), (wo_4_iiiiiiirrrirrrrrir a_this_plan x_this_plan_cycle x_this_plan_green x_this_plan_rule x_this_plan_least x_this_plan_away x_this_plan_statements x_this_plan_kinds a_this_plan_calm a_this_plan_pace a_this_plan_trusts x_this_plan_walkers a_this_plan_kindOf a_this_plan_comesAt a_this_plan_comers a_this_plan_names a_this_plan_code x_this_plan_size a_this_plan_spans), (wi_0_108_0 a_this_plan_names cy g_this_plan_names), (wi_0_1600_0 a_this_text cy g_this_text)] → va_S A s.heap H locs → lv_has ls 5 [(0, .ref a_this), (1, .int p0), (2, .int p1), (3, .int J2_l3)] → W p l e { frames := 1, cells := 0, slots := 0, locals := 21 } s m args below meth c H locs 0 0 Q (F0 m 2 ls []) := by
    as_aux_lemma =>
      intro n
      induction n with
      | zero =>
        intro J2_l3 H locs ls hJ2_l3 hq hm
        exact absurd hm (by have := hJ2_l3; unfold ib at this; omega)
      | succ n ih =>
        intro J2_l3 H locs ls hJ2_l3 hq hm2 hP hD hS hl
        have ih2 := ih
        obtain ⟨K2, hK2⟩ : ∃ K, K = F_X5_slotOf_2 (lf_A g_this_text) (Int32.toInt x_this_at) (Int32.toInt x_this_behind) (lf_A g_this_plan_names) (Int32.toInt p0) (Int32.toInt p1) n := ⟨_, rfl⟩
        have hq : O = F_X5_slotOf_2b (lf_A g_this_text) (Int32.toInt x_this_at) (Int32.toInt x_this_behind) (lf_A g_this_plan_names) (Int32.toInt p0) (Int32.toInt p1) K2 (Int32.toInt J2_l3) := by rw [hK2]; exact hq
        unfold F_X5_slotOf_2b at hq
        have jn49 : ∀ (J49_l4 : Int32) (H : Heap) (locs : List Loc) (ls : Array Slot), ib J2_l3 0 17 → ib J49_l4 0 6 → (O = F_X5_slotOf_49 (Int32.toInt J2_l3) K2 (Int32.toInt J49_l4)) → va_P (dC, dI) vwCl [(wo_5_riiiiirii a_this a_this_text x_this_length x_this_at x_this_behind x_this_sort x_this_allowed a_this_plan x_this_fault x_this_place), (wo_4_iiiiiiirrrirrrrrir a_this_plan x_this_plan_cycle x_this_plan_green x_this_plan_rule x_this_plan_least x_this_plan_away x_this_plan_statements x_this_plan_kinds a_this_plan_calm a_this_plan_pace a_this_plan_trusts x_this_plan_walkers a_this_plan_kindOf a_this_plan_comesAt a_this_plan_comers a_this_plan_names a_this_plan_code x_this_plan_size a_this_plan_spans), (wi_0_108_0 a_this_plan_names cy g_this_plan_names), (wi_0_1600_0 a_this_text cy g_this_text)] H → va_D A [(wo_5_riiiiirii a_this a_this_text x_this_length x_this_at x_this_behind x_this_sort x_this_allowed a_this_plan x_this_fault x_this_place), (wo_4_iiiiiiirrrirrrrrir a_this_plan x_this_plan_cycle x_this_plan_green x_this_plan_rule x_this_plan_least x_this_plan_away x_this_plan_statements x_this_plan_kinds a_this_plan_calm a_this_plan_pace a_this_plan_trusts x_this_plan_walkers a_this_plan_kindOf a_this_plan_comesAt a_this_plan_comers a_this_plan_names a_this_plan_code x_this_plan_size a_this_plan_spans), (wi_0_108_0 a_this_plan_names cy g_this_plan_names), (wi_0_1600_0 a_this_text cy g_this_text)] → va_S A s.heap H locs → lv_has ls 5 [(0, .ref a_this), (1, .int p0), (2, .int p1), (3, .int J2_l3), (4, .int J49_l4)] → W p l e { frames := 1, cells := 0, slots := 0, locals := 21 } s m args below meth c H locs 0 0 Q (F0 m 49 ls []) := by
          as_aux_lemma =>
            intro J49_l4 H locs ls hK49_J2_l3 hJ49_l4 hq hP hD hS hl
            unfold F_X5_slotOf_49 at hq
            refine lv_iload hx hb dX5_slotOf_49 (lv_at hl 4 rfl) ?_
            refine lv_bipush (v := 6) hx hb dX5_slotOf_51 rfl ?_
            refine lv_icmp_ne (tgt := 58) hx hb dX5_slotOf_53 rfl (fun c1 => ?_) (fun c1 => ?_)
            · replace hq := lf_neg hq (lf_ne (lf_rf J49_l4) (lf_lc 6 (6 : Int) rfl) c1)
              have h2 : ib J49_l4 0 5 := ib_w 0 5 (ib_ne_hi 6 hJ49_l4 rfl c1) rfl
              obtain ⟨z3, ez3⟩ : ∃ y : Int32, y = J2_l3 + 1 := ⟨_, rfl⟩
              refine lv_iinc (v := z3) (lv' := [(3, .int z3), (0, .ref a_this), (1, .int p0), (2, .int p1), (4, .int J49_l4)]) hx hb dX5_slotOf_58 hl (k := 3) rfl (by rw [ez3]; rfl) (Nat.le_of_ble_eq_true rfl) rfl (fun ls hl => ?_)
              have h4 := ib_add hK49_J2_l3 (ib_c 1 1 1 rfl) rfl
              rw [← ez3] at h4
              have h5 : ib z3 1 18 := ib_w 1 18 h4.1 rfl
              have Ez3 := lf_add h4.2 (lf_rf J2_l3) (lf_lc 1 (1 : Int) rfl)
              refine lv_goto (tgt := 2) hx hb dX5_slotOf_61 rfl ?_
              exact ih2 z3 H locs ls (ib_w 0 18 h5 rfl) (by rw [← hK2]; rw [lf_u Ez3]; exact hq) (by have := h4.2; have : (1 : Int32).toInt = 1 := rfl; omega) hP hD hS (lv_sub hl [1, 2, 3, 0] rfl)
            · replace hq := lf_pos hq (lf_eq (lf_rf J49_l4) (lf_lc 6 (6 : Int) rfl) c1)
              have h6 := ib_eq hJ49_l4 (ib_c 6 6 6 rfl) c1
              have h7 : ib J49_l4 6 6 := ib_w 6 6 h6.1 rfl
              refine lv_iload_n hx hb dX5_slotOf_56 rfl (lv_at hl 3 rfl) ?_
              subst hQ; exact k_iret hx hb hr hlk rfl () hS ⟨ib_w (-1) 17 hK49_J2_l3 rfl, (hO.symm.trans (by exact hq))⟩ hP hD (Nat.le_of_ble_eq_true rfl) (Nat.le_of_ble_eq_true rfl) dX5_slotOf_57
        have jn12 : ∀ (n : Nat) (J12_l4 : Int32) (H : Heap) (locs : List Loc) (ls : Array Slot), ib J2_l3 0 17 → ib J12_l4 0 6 → (O = F_X5_slotOf_12 (lf_A g_this_text) (Int32.toInt x_this_at) (Int32.toInt x_this_behind) (lf_A g_this_plan_names) (Int32.toInt J2_l3) K2 n (Int32.toInt J12_l4)) → 7 ≤ J12_l4.toInt + (n : Int) → va_P (dC, dI) vwCl [(wo_5_riiiiirii a_this a_this_text x_this_length x_this_at x_this_behind x_this_sort x_this_allowed a_this_plan x_this_fault x_this_place), (wo_4_iiiiiiirrrirrrrrir a_this_plan x_this_plan_cycle x_this_plan_green x_this_plan_rule x_this_plan_least x_this_plan_away x_this_plan_statements x_this_plan_kinds a_this_plan_calm a_this_plan_pace a_this_plan_trusts x_this_plan_walkers a_this_plan_kindOf a_this_plan_comesAt a_this_plan_comers a_this_plan_names a_this_plan_code x_this_plan_size a_this_plan_spans), (wi_0_108_0 a_this_plan_names cy g_this_plan_names), (wi_0_1600_0 a_this_text cy g_this_text)] H → va_D A [(wo_5_riiiiirii a_this a_this_text x_this_length x_this_at x_this_behind x_this_sort x_this_allowed a_this_plan x_this_fault x_this_place), (wo_4_iiiiiiirrrirrrrrir a_this_plan x_this_plan_cycle x_this_plan_green x_this_plan_rule x_this_plan_least x_this_plan_away x_this_plan_statements x_this_plan_kinds a_this_plan_calm a_this_plan_pace a_this_plan_trusts x_this_plan_walkers a_this_plan_kindOf a_this_plan_comesAt a_this_plan_comers a_this_plan_names a_this_plan_code x_this_plan_size a_this_plan_spans), (wi_0_108_0 a_this_plan_names cy g_this_plan_names), (wi_0_1600_0 a_this_text cy g_this_text)] → va_S A s.heap H locs → lv_has ls 5 [(0, .ref a_this), (1, .int p0), (2, .int p1), (3, .int J2_l3), (4, .int J12_l4)] → W p l e { frames := 1, cells := 0, slots := 0, locals := 21 } s m args below meth c H locs 0 0 Q (F0 m 12 ls []) := by
          as_aux_lemma =>
            intro n
            induction n with
            | zero =>
              intro J12_l4 H locs ls hK12_J2_l3 hJ12_l4 hq hm
              exact absurd hm (by have := hJ12_l4; unfold ib at this; omega)
            | succ n ih =>
              intro J12_l4 H locs ls hK12_J2_l3 hJ12_l4 hq hm12 hP hD hS hl
              have ih12 := ih
              obtain ⟨K12, hK12⟩ : ∃ K, K = F_X5_slotOf_12 (lf_A g_this_text) (Int32.toInt x_this_at) (Int32.toInt x_this_behind) (lf_A g_this_plan_names) (Int32.toInt J2_l3) K2 n := ⟨_, rfl⟩
              have hq : O = F_X5_slotOf_12b (lf_A g_this_text) (Int32.toInt x_this_at) (Int32.toInt x_this_behind) (lf_A g_this_plan_names) (Int32.toInt J2_l3) K2 K12 (Int32.toInt J12_l4) := by rw [hK12]; exact hq
              unfold F_X5_slotOf_12b at hq
              refine lv_iload hx hb dX5_slotOf_12 (lv_at hl 4 rfl) ?_
              refine lv_bipush (v := 6) hx hb dX5_slotOf_14 rfl ?_
              refine lv_icmp_ge (tgt := 49) hx hb dX5_slotOf_16 rfl (fun c8 => ?_) (fun c8 => ?_)
              · replace hq := lf_pos hq (lf_le (lf_lc 6 (6 : Int) rfl) (lf_rf J12_l4) c8)
                have h9 := ib_le (ib_c 6 6 6 rfl) hJ12_l4 c8
                have h10 : ib J12_l4 6 6 := ib_w 6 6 h9.2 rfl
                exact jn49 J12_l4 H locs ls (ib_w 0 17 hK12_J2_l3 rfl) (ib_w 0 6 h10 rfl) (by exact hq) hP hD hS (lv_sub hl [0, 1, 2, 3, 4] rfl)
              · as_aux_lemma =>
                  replace hq := lf_neg hq (lf_nle (lf_lc 6 (6 : Int) rfl) (lf_rf J12_l4) c8)
                  have h11 := ib_nle (ib_c 6 6 6 rfl) hJ12_l4 c8
                  have h12 : ib J12_l4 0 5 := ib_w 0 5 h11.2 rfl
                  refine lv_aload_n hx hb dX5_slotOf_19 rfl (lv_at hl 0 rfl) ?_
                  refine k_get C0 fg_X5_37 hP 0 rfl rfl dX5_slotOf_20 ?_
                  refine k_get C0 fg_X5_181 hP 1 rfl rfl dX5_slotOf_23 ?_
                  refine lv_iload_n hx hb dX5_slotOf_26 rfl (lv_at hl 3 rfl) ?_
                  refine lv_bipush (v := 6) hx hb dX5_slotOf_27 rfl ?_
                  refine lv_imul hx hb dX5_slotOf_29 ?_
                  refine lv_topi (fun z13 ez13 => ?_)
                  have h14 := ib_mul hK12_J2_l3 (ib_c 6 6 6 rfl) rfl
                  rw [← ez13] at h14
                  have h15 : ib z13 0 102 := ib_w 0 102 h14.1 rfl
                  have Ez13 := lf_mul h14.2 (lf_rf J2_l3) (lf_lc 6 (6 : Int) rfl)
                  refine lv_iload hx hb dX5_slotOf_30 (lv_at hl 4 rfl) ?_
                  refine lv_iadd hx hb dX5_slotOf_32 ?_
                  refine lv_topi (fun z16 ez16 => ?_)
                  have h17 := ib_add h15 h12 rfl
                  rw [← ez16] at h17
                  have h18 : ib z16 0 107 := ib_w 0 107 h17.1 rfl
                  have Ez16 := lf_add h17.2 Ez13 (lf_rf J12_l4)
                  refine va_iald hx hb C0.2.2.2.2.2.1 hP 2 0 rfl rfl (ib_in 108 h18 rfl) dX5_slotOf_33 ?_
                  refine lv_topi (fun z19 ez19 => ?_)
                  have Ez19 := lf_ld ez19 (lf_ra g_this_plan_names) Ez16
                  refine lv_aload_n hx hb dX5_slotOf_34 rfl (lv_at hl 0 rfl) ?_
                  refine lv_iload hx hb dX5_slotOf_35 (lv_at hl 4 rfl) ?_
                  refine k_jim hP hD hS hA [0, 3] [false, true, true] rfl rfl rfl 0 0 (Nat.le_of_ble_eq_true rfl) (Nat.le_of_ble_eq_true rfl) (fun hPc hDc => k_runV (As := [.int J12_l4]) (rest := [.int z19]) C0 hZ hS hA (s_X5_nameLetter l dC dI cy sq a_this a_this_text g_this_text x_this_length x_this_at x_this_behind x_this_sort x_this_allowed a_this_plan x_this_fault x_this_place J12_l4 hg_this_text (ib_w 0 1600 hx_this_at rfl) (ib_w 0 1600 hx_this_behind rfl) (ib_w 0 5 h12 rfl)) mV_X5_184 hPc hDc rfl rfl rfl hl rfl rfl (Nat.le_of_ble_eq_true rfl) ⟨(Nat.le_of_ble_eq_true rfl), (Nat.le_of_ble_eq_true rfl)⟩ ⟨(Nat.le_of_ble_eq_true rfl), (Nat.le_of_ble_eq_true rfl)⟩ dX5_slotOf_37) (fun r20 u21 H locs hw hP hD hS => ?_)
                  try dsimp only at hP hD hw
                  replace hP : va_P (dC, dI) vwCl [(wo_4_iiiiiiirrrirrrrrir a_this_plan x_this_plan_cycle x_this_plan_green x_this_plan_rule x_this_plan_least x_this_plan_away x_this_plan_statements x_this_plan_kinds a_this_plan_calm a_this_plan_pace a_this_plan_trusts x_this_plan_walkers a_this_plan_kindOf a_this_plan_comesAt a_this_plan_comers a_this_plan_names a_this_plan_code x_this_plan_size a_this_plan_spans), (wi_0_108_0 a_this_plan_names cy g_this_plan_names), (wo_5_riiiiirii a_this a_this_text x_this_length x_this_at x_this_behind x_this_sort x_this_allowed a_this_plan x_this_fault x_this_place), (wi_0_1600_0 a_this_text cy g_this_text)] H := hP
                  replace hD := k_D hP hD
                  obtain ⟨h22, h23⟩ := hw
                  replace hq := lf_b1 hq h23
                  refine lv_icmp_ne (tgt := 49) hx hb dX5_slotOf_40 rfl (fun c24 => ?_) (fun c24 => ?_)
                  · replace hq := lf_neg hq (lf_ne Ez19 (lf_rf r20) c24)
                    exact jn49 J12_l4 H locs ls (ib_w 0 17 hK12_J2_l3 rfl) (ib_w 0 6 h12 rfl) (by exact hq) (hP.sub [2, 0, 1, 3] rfl) (hD.sub [2, 0, 1, 3] rfl rfl) hS (lv_sub hl [0, 1, 2, 3, 4] rfl)
                  · replace hq := lf_pos hq (lf_eq Ez19 (lf_rf r20) c24)
                    have h25 := ib_eq (ib_any z19) h22 c24
                    have h26 : ib z19 (-96) 159 := ib_w (-96) 159 h25.1 rfl
                    obtain ⟨z27, ez27⟩ : ∃ y : Int32, y = J12_l4 + 1 := ⟨_, rfl⟩
                    refine lv_iinc (v := z27) (lv' := [(4, .int z27), (0, .ref a_this), (1, .int p0), (2, .int p1), (3, .int J2_l3)]) hx hb dX5_slotOf_43 hl (k := 4) rfl (by rw [ez27]; rfl) (Nat.le_of_ble_eq_true rfl) rfl (fun ls hl => ?_)
                    have h28 := ib_add h12 (ib_c 1 1 1 rfl) rfl
                    rw [← ez27] at h28
                    have h29 : ib z27 1 6 := ib_w 1 6 h28.1 rfl
                    have Ez27 := lf_add h28.2 (lf_rf J12_l4) (lf_lc 1 (1 : Int) rfl)
                    refine lv_goto (tgt := 12) hx hb dX5_slotOf_46 rfl ?_
                    exact ih12 z27 H locs ls (ib_w 0 17 hK12_J2_l3 rfl) (ib_w 0 6 h29 rfl) (by rw [← hK12]; rw [lf_u Ez27]; exact hq) (by have := h28.2; have : (1 : Int32).toInt = 1 := rfl; omega) (hP.sub [2, 0, 1, 3] rfl) (hD.sub [2, 0, 1, 3] rfl rfl) hS (lv_sub hl [1, 2, 3, 4, 0] rfl)
        refine lv_iload_n hx hb dX5_slotOf_2 rfl (lv_at hl 3 rfl) ?_
        refine lv_iload_n hx hb dX5_slotOf_3 rfl (lv_at hl 1 rfl) ?_
        refine lv_iload_n hx hb dX5_slotOf_4 rfl (lv_at hl 2 rfl) ?_
        refine lv_iadd hx hb dX5_slotOf_5 ?_
        refine lv_topi (fun z30 ez30 => ?_)
        have h31 := ib_add hp0 hp1 rfl
        rw [← ez30] at h31
        have h32 : ib z30 0 18 := ib_w 0 18 h31.1 rfl
        have Ez30 := lf_add h31.2 (lf_rf p0) (lf_rf p1)
        refine lv_icmp_ge (tgt := 64) hx hb dX5_slotOf_6 rfl (fun c33 => ?_) (fun c33 => ?_)
        · replace hq := lf_pos hq (lf_le Ez30 (lf_rf J2_l3) c33)
          have h34 := ib_le h32 hJ2_l3 c33
          refine lv_iconst (v := (-1)) hx hb dX5_slotOf_64 rfl ?_
          subst hQ; exact k_iret hx hb hr hlk rfl () hS ⟨ib_w (-1) 17 (ib_c (-1) (-1) (-1) rfl) rfl, (hO.symm.trans (by try simp only [show ((-1) : Int32).toInt = (-1 : Int) from rfl]; exact hq))⟩ hP hD (Nat.le_of_ble_eq_true rfl) (Nat.le_of_ble_eq_true rfl) dX5_slotOf_65
        · replace hq := lf_neg hq (lf_nle Ez30 (lf_rf J2_l3) c33)
          have h35 := ib_nle h32 hJ2_l3 c33
          have h36 : ib z30 1 18 := ib_w 1 18 h35.1 rfl
          have h37 : ib J2_l3 0 17 := ib_w 0 17 h35.2 rfl
          refine lv_iconst (v := 0) hx hb dX5_slotOf_9 rfl ?_
          refine lv_istore (lv' := [(4, .int 0), (0, .ref a_this), (1, .int p0), (2, .int p1), (3, .int J2_l3)]) hx hb dX5_slotOf_10 hl (Nat.le_of_ble_eq_true rfl) rfl (fun ls hl => ?_)
          exact jn12 8 0 H locs ls (ib_w 0 17 h37 rfl) (ib_w 0 6 (ib_c 0 0 0 rfl) rfl) (by try simp only [show (0 : Int32).toInt = (0 : Int) from rfl]; exact hq) (by have := (ib_c 0 0 0 rfl); unfold ib at this; omega) hP hD hS (lv_sub hl [1, 2, 3, 4, 0] rfl)
  refine lv_iload_n hx hb dX5_slotOf_0 rfl (lv_at hl 1 rfl) ?_
  refine lv_istore_n (lv' := [(3, .int p0), (0, .ref a_this), (1, .int p0), (2, .int p1)]) hx hb dX5_slotOf_1 rfl hl (Nat.le_of_ble_eq_true rfl) rfl (fun ls hl => ?_)
  exact jn2 20 p0 H locs ls (ib_w 0 18 hp0 rfl) (by exact hq) (by have := hp0; unfold ib at this; omega) hP hD hS (lv_sub hl [1, 2, 3, 0] rfl)
