set_option maxHeartbeats 4000000 in
set_option maxRecDepth 100000 in
theorem s_X5_needWord_s5 (l : Launch) (dC : Nat → ClassId) (dI : Nat → Nat → Nat) (cy : Nat → ClassId) (sq : Nat → Nat) (a_this : Nat) (a_this_text : Nat) (g_this_text : Nat → Int32) (x_this_length : Int32) (x_this_at : Int32) (x_this_behind : Int32) (x_this_sort : Int32) (x_this_allowed : Int32) (a_this_plan : Nat) (x_this_fault : Int32) (x_this_place : Int32) (hg_this_text : ia g_this_text 1600 0 255) (hx_this_length : ib x_this_length 0 1600) (hx_this_at : ib x_this_at 0 1600) (hx_this_behind : ib x_this_behind 0 1600) (hx_this_sort : ib x_this_sort 0 4) (hc0_this : ¬ x_this_sort = 0 → ib x_this_at 0 1599) : k_Met l yX5_needWord cX5_needWord 2 none { frames := 5, cells := 0, slots := 0, locals := 166 } dC dI cy sq [.ref a_this, .ref (sq 5)] [(a_this, .inr (5, [.ref a_this_text, .int x_this_length, .int x_this_at, .int x_this_behind, .int x_this_sort, .int x_this_allowed, .ref a_this_plan, .int x_this_fault, .int x_this_place])), (a_this_text, .inl (cy 0, 1600, .inl g_this_text))] (k_Qv dC dI (fun (u : Int32 × Int32 × Int32 × Int32 × Int32) => match u with | (n0, n1, n2, n3, n4) => ib n0 0 1600 ∧ ib n1 0 1600 ∧ ib n2 0 4 ∧ (¬ n2 = 0 → ib n0 0 1599)) (fun u : Int32 × Int32 × Int32 × Int32 × Int32 => match u with | (n0, n1, n2, n3, n4) => [(a_this, .inr (5, [.ref a_this_text, .int x_this_length, .int n0, .int n1, .int n2, .int x_this_allowed, .ref a_this_plan, .int n3, .int n4])), (a_this_text, .inl (cy 0, 1600, .inl g_this_text))])) := by
  refine k_ofW2 (by decide +kernel) (Nat.le_of_ble_eq_true rfl) ?_
  intro p e s m below meth c A ls H locs args Q hQ C0 hZ hr hlk hin hP hD hA hS hl
  have C0 : k_cx p s m args c cX5_needWord 2 RX5 dC dI cy sq := C0
  have hx := C0.1
  have hb := C0.2.1
  have hl : lv_has ls 2 [(0, .ref a_this), (1, .ref (sq 5))] := hl
  refine lv_aload_n hx hb dX5_needWord_0 rfl (lv_at hl 0 rfl) ?_
  refine lv_aload_n hx hb dX5_needWord_1 rfl (lv_at hl 1 rfl) ?_
  refine k_ji hP hD hS hA [0, 1] [] (wr := []) rfl rfl (by decide) (by decide) (by decide) 0 0 (Nat.le_of_ble_eq_true rfl) (Nat.le_of_ble_eq_true rfl) (fun hPc hDc => k_runV (As := [.ref (sq 5)]) (rest := []) C0 hZ hS hA (s_X5_wordIn_s5 l dC dI cy sq a_this a_this_text g_this_text x_this_length x_this_at x_this_behind x_this_sort x_this_allowed a_this_plan x_this_fault x_this_place hg_this_text (ib_w 0 1600 hx_this_at (by decide)) (ib_w 0 1600 hx_this_behind (by decide)) (ib_w 0 4 hx_this_sort (by decide)) (fun hq9 => ib_w 0 1599 (hc0_this hq9) (by decide))) mV_X5_54 hPc hDc rfl rfl rfl hl rfl rfl (Nat.le_of_ble_eq_true rfl) ⟨(Nat.le_of_ble_eq_true rfl), (Nat.le_of_ble_eq_true rfl)⟩ ⟨(Nat.le_of_ble_eq_true rfl), (Nat.le_of_ble_eq_true rfl)⟩ dX5_needWord_2) (fun r1 u2 H locs hw hP hD hS => ?_)
  try dsimp only at hP hD hw
  have hP : va_P (dC, dI) vwCl [(a_this, .inr (5, [.ref a_this_text, .int x_this_length, .int x_this_at, .int x_this_behind, .int x_this_sort, .int x_this_allowed, .ref a_this_plan, .int x_this_fault, .int x_this_place])), (a_this_text, .inl (cy 0, 1600, .inl g_this_text))] H := hP
  have hD : va_D A [(a_this, .inr (5, [.ref a_this_text, .int x_this_length, .int x_this_at, .int x_this_behind, .int x_this_sort, .int x_this_allowed, .ref a_this_plan, .int x_this_fault, .int x_this_place])), (a_this_text, .inl (cy 0, 1600, .inl g_this_text))] := hD
  refine lv_iconst (v := (-1)) hx hb dX5_needWord_5 (by decide) ?_
  refine lv_icmp_ne (tgt := 21) hx hb dX5_needWord_6 (by decide) (fun c3 => ?_) (fun c3 => ?_)
  · skip
    refine lv_aload_n hx hb dX5_needWord_21 rfl (lv_at hl 0 rfl) ?_
    refine lv_aload_n hx hb dX5_needWord_22 rfl (lv_at hl 0 rfl) ?_
    refine k_get C0 fg_X5_18 hP 0 rfl rfl dX5_needWord_23 ?_
    refine k_jv hP hD hS hA [0, 1] [] (wr := []) rfl rfl (by decide) (by decide) (by decide) 0 0 (Nat.le_of_ble_eq_true rfl) (Nat.le_of_ble_eq_true rfl) (fun hPc hDc => k_runV (As := [.int x_this_behind]) (rest := []) C0 hZ hS hA (s_X5_moveTo l dC dI cy sq a_this a_this_text g_this_text x_this_length x_this_at x_this_behind x_this_sort x_this_allowed a_this_plan x_this_fault x_this_place x_this_behind hg_this_text (ib_w 0 1600 hx_this_length (by decide)) (ib_w 0 1600 hx_this_behind (by decide))) mV_X5_86 hPc hDc rfl rfl rfl hl rfl rfl (Nat.le_of_ble_eq_true rfl) ⟨(Nat.le_of_ble_eq_true rfl), (Nat.le_of_ble_eq_true rfl)⟩ ⟨(Nat.le_of_ble_eq_true rfl), (Nat.le_of_ble_eq_true rfl)⟩ dX5_needWord_26) (fun u5 H locs hw hP hD hS => ?_)
    obtain ⟨v6, v7, v8⟩ := u5
    try dsimp only at hP hD hw
    have hP : va_P (dC, dI) vwCl [(a_this, .inr (5, [.ref a_this_text, .int x_this_length, .int v6, .int v7, .int v8, .int x_this_allowed, .ref a_this_plan, .int x_this_fault, .int x_this_place])), (a_this_text, .inl (cy 0, 1600, .inl g_this_text))] H := hP
    have hD : va_D A [(a_this, .inr (5, [.ref a_this_text, .int x_this_length, .int v6, .int v7, .int v8, .int x_this_allowed, .ref a_this_plan, .int x_this_fault, .int x_this_place])), (a_this_text, .inl (cy 0, 1600, .inl g_this_text))] := hD
    obtain ⟨h9, h10, h11, h12⟩ := hw
    subst hQ; exact k_vret hx hb hr hlk ((v6, v7, v8, x_this_fault, x_this_place)) hS ⟨ib_w 0 1600 h9 (by decide), ib_w 0 1600 h10 (by decide), ib_w 0 4 h11 (by decide), fun hq9 => ib_w 0 1599 (h12 hq9) (by decide)⟩ hP hD (Nat.le_of_ble_eq_true rfl) (Nat.le_of_ble_eq_true rfl) dX5_needWord_29
  · have h13 := ib_eq (ib_any r1) (ib_c (-1) (-1) (-1) (by decide)) c3
    have h14 : ib r1 (-1) (-1) := ib_w (-1) (-1) h13.1 (by decide)
    refine lv_aload_n hx hb dX5_needWord_9 rfl (lv_at hl 0 rfl) ?_
    refine lv_iconst (v := 1) hx hb dX5_needWord_10 (by decide) ?_
    refine lv_aload_n hx hb dX5_needWord_11 rfl (lv_at hl 0 rfl) ?_
    refine k_get C0 fg_X5_15 hP 0 rfl rfl dX5_needWord_12 ?_
    refine k_jv hP hD hS hA [0] [1] (wr := [(a_this_text, .inl (cy 0, 1600, .inl g_this_text))]) rfl rfl (by decide) (by decide) (by decide) 0 0 (Nat.le_of_ble_eq_true rfl) (Nat.le_of_ble_eq_true rfl) (fun hPc hDc => k_runV (As := [.int 1, .int x_this_at]) (rest := []) C0 hZ hS hA (s_X5_fail l dC dI cy sq a_this a_this_text x_this_length x_this_at x_this_behind x_this_sort x_this_allowed a_this_plan x_this_fault x_this_place 1 x_this_at ) mV_X5_78 hPc hDc rfl rfl rfl hl rfl rfl (Nat.le_of_ble_eq_true rfl) ⟨(Nat.le_of_ble_eq_true rfl), (Nat.le_of_ble_eq_true rfl)⟩ ⟨(Nat.le_of_ble_eq_true rfl), (Nat.le_of_ble_eq_true rfl)⟩ dX5_needWord_15) (fun u16 H locs hw hP hD hS => ?_)
    obtain ⟨v17, v18⟩ := u16
    try dsimp only at hP hD hw
    have hP : va_P (dC, dI) vwCl [(a_this_text, .inl (cy 0, 1600, .inl g_this_text)), (a_this, .inr (5, [.ref a_this_text, .int x_this_length, .int x_this_length, .int x_this_length, .int 0, .int x_this_allowed, .ref a_this_plan, .int v17, .int v18]))] H := hP
    have hD : va_D A [(a_this_text, .inl (cy 0, 1600, .inl g_this_text)), (a_this, .inr (5, [.ref a_this_text, .int x_this_length, .int x_this_length, .int x_this_length, .int 0, .int x_this_allowed, .ref a_this_plan, .int v17, .int v18]))] := hD
    refine lv_goto (tgt := 29) hx hb dX5_needWord_18 (by decide) ?_
    subst hQ; exact k_vret hx hb hr hlk ((x_this_length, x_this_length, 0, v17, v18)) hS ⟨ib_w 0 1600 hx_this_length (by decide), ib_w 0 1600 hx_this_length (by decide), ib_w 0 4 (ib_c 0 0 0 (by decide)) (by decide), fun hq9 => absurd rfl hq9⟩ (hP.sub [1, 0] rfl) (hD.sub [1, 0] (by decide) rfl) (Nat.le_of_ble_eq_true rfl) (Nat.le_of_ble_eq_true rfl) dX5_needWord_29
set_option maxHeartbeats 4000000 in
set_option maxRecDepth 100000 in
theorem s_X5_number_a0_0_a1_2 (l : Launch) (dC : Nat → ClassId) (dI : Nat → Nat → Nat) (cy : Nat → ClassId) (sq : Nat → Nat) (a_this : Nat) (a_this_text : Nat) (g_this_text : Nat → Int32) (x_this_length : Int32) (x_this_at : Int32) (x_this_behind : Int32) (x_this_sort : Int32) (x_this_allowed : Int32) (a_this_plan : Nat) (x_this_fault : Int32) (x_this_place : Int32) (hg_this_text : ia g_this_text 1600 0 255) (hx_this_length : ib x_this_length 0 1600) (hx_this_at : ib x_this_at 0 1600) (hx_this_behind : ib x_this_behind 0 1600) (hx_this_sort : ib x_this_sort 0 4) (hc0_this : ¬ x_this_sort = 0 → ib x_this_at 0 1599) : k_Met l yX5_number cX5_number 5 (some .int) { frames := 2, cells := 0, slots := 0, locals := 43 } dC dI cy sq [.ref a_this, .int 0, .int 2] [(a_this, .inr (5, [.ref a_this_text, .int x_this_length, .int x_this_at, .int x_this_behind, .int x_this_sort, .int x_this_allowed, .ref a_this_plan, .int x_this_fault, .int x_this_place])), (a_this_text, .inl (cy 0, 1600, .inl g_this_text))] (k_Qi dC dI (fun (r : Int32) (u : Int32 × Int32 × Int32 × Int32 × Int32) => match u with | (n0, n1, n2, n3, n4) => ib r 0 2 ∧ ib n0 0 1600 ∧ ib n1 0 1600 ∧ ib n2 0 4 ∧ (¬ n2 = 0 → ib n0 0 1599)) (fun u : Int32 × Int32 × Int32 × Int32 × Int32 => match u with | (n0, n1, n2, n3, n4) => [(a_this, .inr (5, [.ref a_this_text, .int x_this_length, .int n0, .int n1, .int n2, .int x_this_allowed, .ref a_this_plan, .int n3, .int n4])), (a_this_text, .inl (cy 0, 1600, .inl g_this_text))])) := by
  refine k_ofW2 (by decide +kernel) (Nat.le_of_ble_eq_true rfl) ?_
  intro p e s m below meth c A ls H locs args Q hQ C0 hZ hr hlk hin hP hD hA hS hl
  have C0 : k_cx p s m args c cX5_number 5 RX5 dC dI cy sq := C0
  have hx := C0.1
  have hb := C0.2.1
  have hl : lv_has ls 5 [(0, .ref a_this), (1, .int 0), (2, .int 2)] := hl
  have jn94 : ∀ (J94_l3 : Int32) (J94_l4 : Int32) (H : Heap) (locs : List Loc) (ls : Array Slot), ib J94_l4 0 1600 → ib x_this_at 0 1599 → ib x_this_sort 2 2 → va_P (dC, dI) vwCl [(a_this, .inr (5, [.ref a_this_text, .int x_this_length, .int x_this_at, .int x_this_behind, .int x_this_sort, .int x_this_allowed, .ref a_this_plan, .int x_this_fault, .int x_this_place])), (a_this_text, .inl (cy 0, 1600, .inl g_this_text))] H → va_D A [(a_this, .inr (5, [.ref a_this_text, .int x_this_length, .int x_this_at, .int x_this_behind, .int x_this_sort, .int x_this_allowed, .ref a_this_plan, .int x_this_fault, .int x_this_place])), (a_this_text, .inl (cy 0, 1600, .inl g_this_text))] → va_S A s.heap H locs → lv_has ls 5 [(0, .ref a_this), (1, .int 0), (2, .int 2), (3, .int J94_l3), (4, .int J94_l4)] → W p l e { frames := 2, cells := 0, slots := 0, locals := 43 } s m args below meth c H locs 0 0 Q (F0 m 94 ls []) := by
    intro J94_l3 J94_l4 H locs ls hJ94_l4 hK94_x_this_at hK94_x_this_sort hP hD hS hl
    refine lv_aload_n hx hb dX5_number_94 rfl (lv_at hl 0 rfl) ?_
    refine lv_iconst (v := 2) hx hb dX5_number_95 (by decide) ?_
    refine lv_aload_n hx hb dX5_number_96 rfl (lv_at hl 0 rfl) ?_
    refine k_get C0 fg_X5_15 hP 0 rfl rfl dX5_number_97 ?_
    refine k_jv hP hD hS hA [0] [1] (wr := [(a_this_text, .inl (cy 0, 1600, .inl g_this_text))]) rfl rfl (by decide) (by decide) (by decide) 0 0 (Nat.le_of_ble_eq_true rfl) (Nat.le_of_ble_eq_true rfl) (fun hPc hDc => k_runV (As := [.int 2, .int x_this_at]) (rest := []) C0 hZ hS hA (s_X5_fail l dC dI cy sq a_this a_this_text x_this_length x_this_at x_this_behind x_this_sort x_this_allowed a_this_plan x_this_fault x_this_place 2 x_this_at ) mV_X5_78 hPc hDc rfl rfl rfl hl rfl rfl (Nat.le_of_ble_eq_true rfl) ⟨(Nat.le_of_ble_eq_true rfl), (Nat.le_of_ble_eq_true rfl)⟩ ⟨(Nat.le_of_ble_eq_true rfl), (Nat.le_of_ble_eq_true rfl)⟩ dX5_number_100) (fun u2 H locs hw hP hD hS => ?_)
    obtain ⟨v3, v4⟩ := u2
    try dsimp only at hP hD hw
    have hP : va_P (dC, dI) vwCl [(a_this_text, .inl (cy 0, 1600, .inl g_this_text)), (a_this, .inr (5, [.ref a_this_text, .int x_this_length, .int x_this_length, .int x_this_length, .int 0, .int x_this_allowed, .ref a_this_plan, .int v3, .int v4]))] H := hP
    have hD : va_D A [(a_this_text, .inl (cy 0, 1600, .inl g_this_text)), (a_this, .inr (5, [.ref a_this_text, .int x_this_length, .int x_this_length, .int x_this_length, .int 0, .int x_this_allowed, .ref a_this_plan, .int v3, .int v4]))] := hD
    refine lv_iload_n hx hb dX5_number_103 rfl (lv_at hl 1 rfl) ?_
    subst hQ; exact k_iret hx hb hr hlk rfl ((x_this_length, x_this_length, 0, v3, v4)) hS ⟨ib_w 0 2 (ib_c 0 0 0 (by decide)) (by decide), ib_w 0 1600 hx_this_length (by decide), ib_w 0 1600 hx_this_length (by decide), ib_w 0 4 (ib_c 0 0 0 (by decide)) (by decide), fun hq9 => absurd rfl hq9⟩ (hP.sub [1, 0] rfl) (hD.sub [1, 0] (by decide) rfl) (Nat.le_of_ble_eq_true rfl) (Nat.le_of_ble_eq_true rfl) dX5_number_104
  have jn53 : ∀ (n : Nat) (J53_l3 : Int32) (J53_l4 : Int32) (H : Heap) (locs : List Loc) (ls : Array Slot), ib x_this_at 0 1599 → ib x_this_sort 2 2 → ib J53_l4 0 1600 → 1601 ≤ J53_l4.toInt + (n : Int) → va_P (dC, dI) vwCl [(a_this, .inr (5, [.ref a_this_text, .int x_this_length, .int x_this_at, .int x_this_behind, .int x_this_sort, .int x_this_allowed, .ref a_this_plan, .int x_this_fault, .int x_this_place])), (a_this_text, .inl (cy 0, 1600, .inl g_this_text))] H → va_D A [(a_this, .inr (5, [.ref a_this_text, .int x_this_length, .int x_this_at, .int x_this_behind, .int x_this_sort, .int x_this_allowed, .ref a_this_plan, .int x_this_fault, .int x_this_place])), (a_this_text, .inl (cy 0, 1600, .inl g_this_text))] → va_S A s.heap H locs → lv_has ls 5 [(0, .ref a_this), (1, .int 0), (2, .int 2), (3, .int J53_l3), (4, .int J53_l4)] → W p l e { frames := 2, cells := 0, slots := 0, locals := 43 } s m args below meth c H locs 0 0 Q (F0 m 53 ls []) := by
    intro n
    induction n with
    | zero =>
      intro J53_l3 J53_l4 H locs ls hK53_x_this_at hK53_x_this_sort hJ53_l4 hm
      exact absurd hm (by have := hJ53_l4; unfold ib at this; omega)
    | succ n ih =>
      intro J53_l3 J53_l4 H locs ls hK53_x_this_at hK53_x_this_sort hJ53_l4 hm53 hP hD hS hl
      have ih53 := ih
      refine lv_iload hx hb dX5_number_53 (lv_at hl 4 rfl) ?_
      refine lv_aload_n hx hb dX5_number_55 rfl (lv_at hl 0 rfl) ?_
      refine k_get C0 fg_X5_18 hP 0 rfl rfl dX5_number_56 ?_
      refine lv_icmp_ge (tgt := 84) hx hb dX5_number_59 (by decide) (fun c5 => ?_) (fun c5 => ?_)
      · have h6 := ib_le hx_this_behind hJ53_l4 c5
        refine lv_iload_n hx hb dX5_number_84 rfl (lv_at hl 3 rfl) ?_
        refine lv_iload_n hx hb dX5_number_85 rfl (lv_at hl 1 rfl) ?_
        refine lv_icmp_lt (tgt := 94) hx hb dX5_number_86 (by decide) (fun c7 => ?_) (fun c7 => ?_)
        · have h8 := ib_lt (ib_any J53_l3) (ib_c 0 0 0 (by decide)) c7
          have h9 : ib J53_l3 (-2147483648) (-1) := ib_w (-2147483648) (-1) h8.1 (by decide)
          exact jn94 J53_l3 J53_l4 H locs ls (ib_w 0 1600 hJ53_l4 (by decide)) (ib_w 0 1599 hK53_x_this_at (by decide)) (ib_w 2 2 hK53_x_this_sort (by decide)) hP hD hS (lv_sub hl [0, 1, 2, 3, 4] rfl)
        · have h10 := ib_nlt (ib_any J53_l3) (ib_c 0 0 0 (by decide)) c7
          have h11 : ib J53_l3 0 2147483647 := ib_w 0 2147483647 h10.1 (by decide)
          refine lv_iload_n hx hb dX5_number_89 rfl (lv_at hl 3 rfl) ?_
          refine lv_iload_n hx hb dX5_number_90 rfl (lv_at hl 2 rfl) ?_
          refine lv_icmp_le (tgt := 105) hx hb dX5_number_91 (by decide) (fun c12 => ?_) (fun c12 => ?_)
          · have h13 := ib_le h11 (ib_c 2 2 2 (by decide)) c12
            have h14 : ib J53_l3 0 2 := ib_w 0 2 h13.1 (by decide)
            refine lv_aload_n hx hb dX5_number_105 rfl (lv_at hl 0 rfl) ?_
            refine lv_aload_n hx hb dX5_number_106 rfl (lv_at hl 0 rfl) ?_
            refine k_get C0 fg_X5_18 hP 0 rfl rfl dX5_number_107 ?_
            refine k_jv hP hD hS hA [0, 1] [] (wr := []) rfl rfl (by decide) (by decide) (by decide) 0 0 (Nat.le_of_ble_eq_true rfl) (Nat.le_of_ble_eq_true rfl) (fun hPc hDc => k_runV (As := [.int x_this_behind]) (rest := []) C0 hZ hS hA (s_X5_moveTo l dC dI cy sq a_this a_this_text g_this_text x_this_length x_this_at x_this_behind x_this_sort x_this_allowed a_this_plan x_this_fault x_this_place x_this_behind hg_this_text (ib_w 0 1600 hx_this_length (by decide)) (ib_w 0 1600 hx_this_behind (by decide))) mV_X5_86 hPc hDc rfl rfl rfl hl rfl rfl (Nat.le_of_ble_eq_true rfl) ⟨(Nat.le_of_ble_eq_true rfl), (Nat.le_of_ble_eq_true rfl)⟩ ⟨(Nat.le_of_ble_eq_true rfl), (Nat.le_of_ble_eq_true rfl)⟩ dX5_number_110) (fun u16 H locs hw hP hD hS => ?_)
            obtain ⟨v17, v18, v19⟩ := u16
            try dsimp only at hP hD hw
            have hP : va_P (dC, dI) vwCl [(a_this, .inr (5, [.ref a_this_text, .int x_this_length, .int v17, .int v18, .int v19, .int x_this_allowed, .ref a_this_plan, .int x_this_fault, .int x_this_place])), (a_this_text, .inl (cy 0, 1600, .inl g_this_text))] H := hP
            have hD : va_D A [(a_this, .inr (5, [.ref a_this_text, .int x_this_length, .int v17, .int v18, .int v19, .int x_this_allowed, .ref a_this_plan, .int x_this_fault, .int x_this_place])), (a_this_text, .inl (cy 0, 1600, .inl g_this_text))] := hD
            obtain ⟨h20, h21, h22, h23⟩ := hw
            refine lv_iload_n hx hb dX5_number_113 rfl (lv_at hl 3 rfl) ?_
            subst hQ; exact k_iret hx hb hr hlk rfl ((v17, v18, v19, x_this_fault, x_this_place)) hS ⟨ib_w 0 2 h14 (by decide), ib_w 0 1600 h20 (by decide), ib_w 0 1600 h21 (by decide), ib_w 0 4 h22 (by decide), fun hq9 => ib_w 0 1599 (h23 hq9) (by decide)⟩ hP hD (Nat.le_of_ble_eq_true rfl) (Nat.le_of_ble_eq_true rfl) dX5_number_114
          · have h24 := ib_nle h11 (ib_c 2 2 2 (by decide)) c12
            have h25 : ib J53_l3 3 2147483647 := ib_w 3 2147483647 h24.1 (by decide)
            exact jn94 J53_l3 J53_l4 H locs ls (ib_w 0 1600 hJ53_l4 (by decide)) (ib_w 0 1599 hK53_x_this_at (by decide)) (ib_w 2 2 hK53_x_this_sort (by decide)) hP hD hS (lv_sub hl [0, 1, 2, 3, 4] rfl)
      · have h26 := ib_nle hx_this_behind hJ53_l4 c5
        have h27 : ib x_this_behind 1 1600 := ib_w 1 1600 h26.1 (by decide)
        have h28 : ib J53_l4 0 1599 := ib_w 0 1599 h26.2 (by decide)
        refine lv_iload_n hx hb dX5_number_62 rfl (lv_at hl 3 rfl) ?_
        refine lv_bipush (v := 10) hx hb dX5_number_63 (by decide) ?_
        refine lv_imul hx hb dX5_number_65 ?_
        refine lv_topi (fun z29 ez29 => ?_)
        refine lv_aload_n hx hb dX5_number_66 rfl (lv_at hl 0 rfl) ?_
        refine k_get C0 fg_X5_33 hP 0 rfl rfl dX5_number_67 ?_
        refine lv_iload hx hb dX5_number_70 (lv_at hl 4 rfl) ?_
        refine va_iald hx hb C0.2.2.2.2.2.1 hP 1 0 rfl rfl (ib_in 1600 h28 (by decide)) dX5_number_72 ?_
        refine lv_topi (fun z30 ez30 => ?_)
        have h31 : ib z30 0 255 := by rw [ez30]; exact ia_at hg_this_text (ib_in 1600 h28 (by decide))
        refine lv_iadd hx hb dX5_number_73 ?_
        refine lv_topi (fun z32 ez32 => ?_)
        refine lv_bipush (v := 48) hx hb dX5_number_74 (by decide) ?_
        refine lv_isub hx hb dX5_number_76 ?_
        refine lv_topi (fun z33 ez33 => ?_)
        refine lv_istore_n (lv' := [(3, .int z33), (0, .ref a_this), (1, .int 0), (2, .int 2), (4, .int J53_l4)]) hx hb dX5_number_77 rfl hl (by decide) rfl (fun ls hl => ?_)
        obtain ⟨z34, ez34⟩ : ∃ y : Int32, y = J53_l4 + 1 := ⟨_, rfl⟩
        refine lv_iinc (v := z34) (lv' := [(4, .int z34), (3, .int z33), (0, .ref a_this), (1, .int 0), (2, .int 2)]) hx hb dX5_number_78 hl (k := 4) rfl (by rw [ez34]; rfl) (by decide) rfl (fun ls hl => ?_)
        have h35 := ib_add h28 (ib_c 1 1 1 (by decide)) (by decide)
        rw [← ez34] at h35
        have h36 : ib z34 1 1600 := ib_w 1 1600 h35.1 (by decide)
        refine lv_goto (tgt := 53) hx hb dX5_number_81 (by decide) ?_
        exact ih53 z33 z34 H locs ls (ib_w 0 1599 hK53_x_this_at (by decide)) (ib_w 2 2 hK53_x_this_sort (by decide)) (ib_w 0 1600 h36 (by decide)) (by have := h35.2; have : (1 : Int32).toInt = 1 := (by decide); omega) hP hD hS (lv_sub hl [2, 3, 4, 1, 0] rfl)
  refine lv_aload_n hx hb dX5_number_0 rfl (lv_at hl 0 rfl) ?_
  refine k_get C0 fg_X5_21 hP 0 rfl rfl dX5_number_1 ?_
  refine lv_iconst (v := 2) hx hb dX5_number_4 (by decide) ?_
  refine lv_icmp_eq (tgt := 19) hx hb dX5_number_5 (by decide) (fun c37 => ?_) (fun c37 => ?_)
  · have h38 := ib_eq hx_this_sort (ib_c 2 2 2 (by decide)) c37
    have h39 : ib x_this_sort 2 2 := ib_w 2 2 h38.1 (by decide)
    have h40 : ib x_this_at 0 1599 := ib_w 0 1599 (ib_two hx_this_at (hc0_this (ib_nz h39 (by decide)))) (by decide)
    refine lv_aload_n hx hb dX5_number_19 rfl (lv_at hl 0 rfl) ?_
    refine k_get C0 fg_X5_18 hP 0 rfl rfl dX5_number_20 ?_
    refine lv_aload_n hx hb dX5_number_23 rfl (lv_at hl 0 rfl) ?_
    refine k_get C0 fg_X5_15 hP 0 rfl rfl dX5_number_24 ?_
    refine lv_isub hx hb dX5_number_27 ?_
    refine lv_topi (fun z41 ez41 => ?_)
    have h42 := ib_sub hx_this_behind h40 (by decide)
    rw [← ez41] at h42
    have h43 : ib z41 (-1599) 1600 := ib_w (-1599) 1600 h42.1 (by decide)
    refine lv_iconst (v := 4) hx hb dX5_number_28 (by decide) ?_
    refine lv_icmp_le (tgt := 45) hx hb dX5_number_29 (by decide) (fun c44 => ?_) (fun c44 => ?_)
    · have h45 := ib_le h43 (ib_c 4 4 4 (by decide)) c44
      have h46 : ib z41 (-1599) 4 := ib_w (-1599) 4 h45.1 (by decide)
      refine lv_iconst (v := 0) hx hb dX5_number_45 (by decide) ?_
      refine lv_istore_n (lv' := [(3, .int 0), (0, .ref a_this), (1, .int 0), (2, .int 2)]) hx hb dX5_number_46 rfl hl (by decide) rfl (fun ls hl => ?_)
      refine lv_aload_n hx hb dX5_number_47 rfl (lv_at hl 1 rfl) ?_
      refine k_get C0 fg_X5_15 hP 0 rfl rfl dX5_number_48 ?_
      refine lv_istore (lv' := [(4, .int x_this_at), (3, .int 0), (0, .ref a_this), (1, .int 0), (2, .int 2)]) hx hb dX5_number_51 hl (by decide) rfl (fun ls hl => ?_)
      exact jn53 1602 0 x_this_at H locs ls (ib_w 0 1599 h40 (by decide)) (ib_w 2 2 h39 (by decide)) (ib_w 0 1600 h40 (by decide)) (by have := h40; unfold ib at this; omega) hP hD hS (lv_sub hl [2, 3, 4, 1, 0] rfl)
    · have h47 := ib_nle h43 (ib_c 4 4 4 (by decide)) c44
      have h48 : ib z41 5 1600 := ib_w 5 1600 h47.1 (by decide)
      refine lv_aload_n hx hb dX5_number_32 rfl (lv_at hl 0 rfl) ?_
      refine lv_iconst (v := 1) hx hb dX5_number_33 (by decide) ?_
      refine lv_aload_n hx hb dX5_number_34 rfl (lv_at hl 0 rfl) ?_
      refine k_get C0 fg_X5_15 hP 0 rfl rfl dX5_number_35 ?_
      refine lv_iconst (v := 4) hx hb dX5_number_38 (by decide) ?_
      refine lv_iadd hx hb dX5_number_39 ?_
      refine lv_topi (fun z49 ez49 => ?_)
      have h50 := ib_add h40 (ib_c 4 4 4 (by decide)) (by decide)
      rw [← ez49] at h50
      have h51 : ib z49 4 1603 := ib_w 4 1603 h50.1 (by decide)
      refine k_jv hP hD hS hA [0] [1] (wr := [(a_this_text, .inl (cy 0, 1600, .inl g_this_text))]) rfl rfl (by decide) (by decide) (by decide) 0 0 (Nat.le_of_ble_eq_true rfl) (Nat.le_of_ble_eq_true rfl) (fun hPc hDc => k_runV (As := [.int 1, .int z49]) (rest := []) C0 hZ hS hA (s_X5_fail l dC dI cy sq a_this a_this_text x_this_length x_this_at x_this_behind x_this_sort x_this_allowed a_this_plan x_this_fault x_this_place 1 z49 ) mV_X5_78 hPc hDc rfl rfl rfl hl rfl rfl (Nat.le_of_ble_eq_true rfl) ⟨(Nat.le_of_ble_eq_true rfl), (Nat.le_of_ble_eq_true rfl)⟩ ⟨(Nat.le_of_ble_eq_true rfl), (Nat.le_of_ble_eq_true rfl)⟩ dX5_number_40) (fun u53 H locs hw hP hD hS => ?_)
      obtain ⟨v54, v55⟩ := u53
      try dsimp only at hP hD hw
      have hP : va_P (dC, dI) vwCl [(a_this_text, .inl (cy 0, 1600, .inl g_this_text)), (a_this, .inr (5, [.ref a_this_text, .int x_this_length, .int x_this_length, .int x_this_length, .int 0, .int x_this_allowed, .ref a_this_plan, .int v54, .int v55]))] H := hP
      have hD : va_D A [(a_this_text, .inl (cy 0, 1600, .inl g_this_text)), (a_this, .inr (5, [.ref a_this_text, .int x_this_length, .int x_this_length, .int x_this_length, .int 0, .int x_this_allowed, .ref a_this_plan, .int v54, .int v55]))] := hD
      refine lv_iload_n hx hb dX5_number_43 rfl (lv_at hl 1 rfl) ?_
      subst hQ; exact k_iret hx hb hr hlk rfl ((x_this_length, x_this_length, 0, v54, v55)) hS ⟨ib_w 0 2 (ib_c 0 0 0 (by decide)) (by decide), ib_w 0 1600 hx_this_length (by decide), ib_w 0 1600 hx_this_length (by decide), ib_w 0 4 (ib_c 0 0 0 (by decide)) (by decide), fun hq9 => absurd rfl hq9⟩ (hP.sub [1, 0] rfl) (hD.sub [1, 0] (by decide) rfl) (Nat.le_of_ble_eq_true rfl) (Nat.le_of_ble_eq_true rfl) dX5_number_44
  · skip
    refine lv_aload_n hx hb dX5_number_8 rfl (lv_at hl 0 rfl) ?_
    refine lv_iconst (v := 1) hx hb dX5_number_9 (by decide) ?_
    refine lv_aload_n hx hb dX5_number_10 rfl (lv_at hl 0 rfl) ?_
    refine k_get C0 fg_X5_15 hP 0 rfl rfl dX5_number_11 ?_
    refine k_jv hP hD hS hA [0] [1] (wr := [(a_this_text, .inl (cy 0, 1600, .inl g_this_text))]) rfl rfl (by decide) (by decide) (by decide) 0 0 (Nat.le_of_ble_eq_true rfl) (Nat.le_of_ble_eq_true rfl) (fun hPc hDc => k_runV (As := [.int 1, .int x_this_at]) (rest := []) C0 hZ hS hA (s_X5_fail l dC dI cy sq a_this a_this_text x_this_length x_this_at x_this_behind x_this_sort x_this_allowed a_this_plan x_this_fault x_this_place 1 x_this_at ) mV_X5_78 hPc hDc rfl rfl rfl hl rfl rfl (Nat.le_of_ble_eq_true rfl) ⟨(Nat.le_of_ble_eq_true rfl), (Nat.le_of_ble_eq_true rfl)⟩ ⟨(Nat.le_of_ble_eq_true rfl), (Nat.le_of_ble_eq_true rfl)⟩ dX5_number_14) (fun u57 H locs hw hP hD hS => ?_)
    obtain ⟨v58, v59⟩ := u57
    try dsimp only at hP hD hw
    have hP : va_P (dC, dI) vwCl [(a_this_text, .inl (cy 0, 1600, .inl g_this_text)), (a_this, .inr (5, [.ref a_this_text, .int x_this_length, .int x_this_length, .int x_this_length, .int 0, .int x_this_allowed, .ref a_this_plan, .int v58, .int v59]))] H := hP
    have hD : va_D A [(a_this_text, .inl (cy 0, 1600, .inl g_this_text)), (a_this, .inr (5, [.ref a_this_text, .int x_this_length, .int x_this_length, .int x_this_length, .int 0, .int x_this_allowed, .ref a_this_plan, .int v58, .int v59]))] := hD
    refine lv_iload_n hx hb dX5_number_17 rfl (lv_at hl 1 rfl) ?_
    subst hQ; exact k_iret hx hb hr hlk rfl ((x_this_length, x_this_length, 0, v58, v59)) hS ⟨ib_w 0 2 (ib_c 0 0 0 (by decide)) (by decide), ib_w 0 1600 hx_this_length (by decide), ib_w 0 1600 hx_this_length (by decide), ib_w 0 4 (ib_c 0 0 0 (by decide)) (by decide), fun hq9 => absurd rfl hq9⟩ (hP.sub [1, 0] rfl) (hD.sub [1, 0] (by decide) rfl) (Nat.le_of_ble_eq_true rfl) (Nat.le_of_ble_eq_true rfl) dX5_number_18
set_option maxHeartbeats 4000000 in
set_option maxRecDepth 100000 in
theorem s_X5_numberBehind_a1_0_a2_2_s5 (l : Launch) (dC : Nat → ClassId) (dI : Nat → Nat → Nat) (cy : Nat → ClassId) (sq : Nat → Nat) (a_this : Nat) (a_this_text : Nat) (g_this_text : Nat → Int32) (x_this_length : Int32) (x_this_at : Int32) (x_this_behind : Int32) (x_this_sort : Int32) (x_this_allowed : Int32) (a_this_plan : Nat) (x_this_fault : Int32) (x_this_place : Int32) (hg_this_text : ia g_this_text 1600 0 255) (hx_this_length : ib x_this_length 0 1600) (hx_this_at : ib x_this_at 0 1600) (hx_this_behind : ib x_this_behind 0 1600) (hx_this_sort : ib x_this_sort 0 4) (hc0_this : ¬ x_this_sort = 0 → ib x_this_at 0 1599) : k_Met l yX5_numberBehind cX5_numberBehind 4 (some .int) { frames := 6, cells := 0, slots := 0, locals := 187 } dC dI cy sq [.ref a_this, .ref (sq 5), .int 0, .int 2] [(a_this, .inr (5, [.ref a_this_text, .int x_this_length, .int x_this_at, .int x_this_behind, .int x_this_sort, .int x_this_allowed, .ref a_this_plan, .int x_this_fault, .int x_this_place])), (a_this_text, .inl (cy 0, 1600, .inl g_this_text))] (k_Qi dC dI (fun (r : Int32) (u : Int32 × Int32 × Int32 × Int32 × Int32) => match u with | (n0, n1, n2, n3, n4) => ib r 0 2 ∧ ib n0 0 1600 ∧ ib n1 0 1600 ∧ ib n2 0 4 ∧ (¬ n2 = 0 → ib n0 0 1599)) (fun u : Int32 × Int32 × Int32 × Int32 × Int32 => match u with | (n0, n1, n2, n3, n4) => [(a_this, .inr (5, [.ref a_this_text, .int x_this_length, .int n0, .int n1, .int n2, .int x_this_allowed, .ref a_this_plan, .int n3, .int n4])), (a_this_text, .inl (cy 0, 1600, .inl g_this_text))])) := by
  refine k_ofW2 (by decide +kernel) (Nat.le_of_ble_eq_true rfl) ?_
  intro p e s m below meth c A ls H locs args Q hQ C0 hZ hr hlk hin hP hD hA hS hl
  have C0 : k_cx p s m args c cX5_numberBehind 4 RX5 dC dI cy sq := C0
  have hx := C0.1
  have hb := C0.2.1
  have hl : lv_has ls 4 [(0, .ref a_this), (1, .ref (sq 5)), (2, .int 0), (3, .int 2)] := hl
  refine lv_aload_n hx hb dX5_numberBehind_0 rfl (lv_at hl 0 rfl) ?_
  refine lv_aload_n hx hb dX5_numberBehind_1 rfl (lv_at hl 1 rfl) ?_
  refine k_jv hP hD hS hA [0, 1] [] (wr := []) rfl rfl (by decide) (by decide) (by decide) 0 0 (Nat.le_of_ble_eq_true rfl) (Nat.le_of_ble_eq_true rfl) (fun hPc hDc => k_runV (As := [.ref (sq 5)]) (rest := []) C0 hZ hS hA (s_X5_needWord_s5 l dC dI cy sq a_this a_this_text g_this_text x_this_length x_this_at x_this_behind x_this_sort x_this_allowed a_this_plan x_this_fault x_this_place hg_this_text (ib_w 0 1600 hx_this_length (by decide)) (ib_w 0 1600 hx_this_at (by decide)) (ib_w 0 1600 hx_this_behind (by decide)) (ib_w 0 4 hx_this_sort (by decide)) (fun hq9 => ib_w 0 1599 (hc0_this hq9) (by decide))) mV_X5_144 hPc hDc rfl rfl rfl hl rfl rfl (Nat.le_of_ble_eq_true rfl) ⟨(Nat.le_of_ble_eq_true rfl), (Nat.le_of_ble_eq_true rfl)⟩ ⟨(Nat.le_of_ble_eq_true rfl), (Nat.le_of_ble_eq_true rfl)⟩ dX5_numberBehind_2) (fun u2 H locs hw hP hD hS => ?_)
  obtain ⟨v3, v4, v5, v6, v7⟩ := u2
  try dsimp only at hP hD hw
  have hP : va_P (dC, dI) vwCl [(a_this, .inr (5, [.ref a_this_text, .int x_this_length, .int v3, .int v4, .int v5, .int x_this_allowed, .ref a_this_plan, .int v6, .int v7])), (a_this_text, .inl (cy 0, 1600, .inl g_this_text))] H := hP
  have hD : va_D A [(a_this, .inr (5, [.ref a_this_text, .int x_this_length, .int v3, .int v4, .int v5, .int x_this_allowed, .ref a_this_plan, .int v6, .int v7])), (a_this_text, .inl (cy 0, 1600, .inl g_this_text))] := hD
  obtain ⟨h8, h9, h10, h11⟩ := hw
  refine lv_aload_n hx hb dX5_numberBehind_5 rfl (lv_at hl 0 rfl) ?_
  refine lv_iload_n hx hb dX5_numberBehind_6 rfl (lv_at hl 2 rfl) ?_
  refine lv_iload_n hx hb dX5_numberBehind_7 rfl (lv_at hl 3 rfl) ?_
  refine k_ji hP hD hS hA [0, 1] [] (wr := []) rfl rfl (by decide) (by decide) (by decide) 0 0 (Nat.le_of_ble_eq_true rfl) (Nat.le_of_ble_eq_true rfl) (fun hPc hDc => k_runV (As := [.int 0, .int 2]) (rest := []) C0 hZ hS hA (s_X5_number_a0_0_a1_2 l dC dI cy sq a_this a_this_text g_this_text x_this_length v3 v4 v5 x_this_allowed a_this_plan v6 v7 hg_this_text (ib_w 0 1600 hx_this_length (by decide)) (ib_w 0 1600 h8 (by decide)) (ib_w 0 1600 h9 (by decide)) (ib_w 0 4 h10 (by decide)) (fun hq9 => ib_w 0 1599 (h11 hq9) (by decide))) mV_X5_168 hPc hDc rfl rfl rfl hl rfl rfl (Nat.le_of_ble_eq_true rfl) ⟨(Nat.le_of_ble_eq_true rfl), (Nat.le_of_ble_eq_true rfl)⟩ ⟨(Nat.le_of_ble_eq_true rfl), (Nat.le_of_ble_eq_true rfl)⟩ dX5_numberBehind_8) (fun r12 u13 H locs hw hP hD hS => ?_)
  obtain ⟨v14, v15, v16, v17, v18⟩ := u13
  try dsimp only at hP hD hw
  have hP : va_P (dC, dI) vwCl [(a_this, .inr (5, [.ref a_this_text, .int x_this_length, .int v14, .int v15, .int v16, .int x_this_allowed, .ref a_this_plan, .int v17, .int v18])), (a_this_text, .inl (cy 0, 1600, .inl g_this_text))] H := hP
  have hD : va_D A [(a_this, .inr (5, [.ref a_this_text, .int x_this_length, .int v14, .int v15, .int v16, .int x_this_allowed, .ref a_this_plan, .int v17, .int v18])), (a_this_text, .inl (cy 0, 1600, .inl g_this_text))] := hD
  obtain ⟨h19, h20, h21, h22, h23⟩ := hw
  subst hQ; exact k_iret hx hb hr hlk rfl ((v14, v15, v16, v17, v18)) hS ⟨ib_w 0 2 h19 (by decide), ib_w 0 1600 h20 (by decide), ib_w 0 1600 h21 (by decide), ib_w 0 4 h22 (by decide), fun hq9 => ib_w 0 1599 (h23 hq9) (by decide)⟩ hP hD (Nat.le_of_ble_eq_true rfl) (Nat.le_of_ble_eq_true rfl) dX5_numberBehind_11
set_option maxHeartbeats 4000000 in
set_option maxRecDepth 100000 in
theorem s_X5_wordIn_s6 (l : Launch) (dC : Nat → ClassId) (dI : Nat → Nat → Nat) (cy : Nat → ClassId) (sq : Nat → Nat) (a_this : Nat) (a_this_text : Nat) (g_this_text : Nat → Int32) (x_this_length : Int32) (x_this_at : Int32) (x_this_behind : Int32) (x_this_sort : Int32) (x_this_allowed : Int32) (a_this_plan : Nat) (x_this_fault : Int32) (x_this_place : Int32) (hg_this_text : ia g_this_text 1600 0 255) (hx_this_at : ib x_this_at 0 1600) (hx_this_behind : ib x_this_behind 0 1600) (hx_this_sort : ib x_this_sort 0 4) (hc0_this : ¬ x_this_sort = 0 → ib x_this_at 0 1599) : k_Met l yX5_wordIn cX5_wordIn 6 (some .int) { frames := 4, cells := 0, slots := 0, locals := 141 } dC dI cy sq [.ref a_this, .ref (sq 6)] [(a_this, .inr (5, [.ref a_this_text, .int x_this_length, .int x_this_at, .int x_this_behind, .int x_this_sort, .int x_this_allowed, .ref a_this_plan, .int x_this_fault, .int x_this_place])), (a_this_text, .inl (cy 0, 1600, .inl g_this_text))] (k_Qi dC dI (fun (r : Int32) (_ : Unit) => True) (fun _ : Unit => [(a_this, .inr (5, [.ref a_this_text, .int x_this_length, .int x_this_at, .int x_this_behind, .int x_this_sort, .int x_this_allowed, .ref a_this_plan, .int x_this_fault, .int x_this_place])), (a_this_text, .inl (cy 0, 1600, .inl g_this_text))])) := by
  refine k_ofW2 (by decide +kernel) (Nat.le_of_ble_eq_true rfl) ?_
  intro p e s m below meth c A ls H locs args Q hQ C0 hZ hr hlk hin hP hD hA hS hl
  have C0 : k_cx p s m args c cX5_wordIn 6 RX5 dC dI cy sq := C0
  have hx := C0.1
  have hb := C0.2.1
  have hl : lv_has ls 6 [(0, .ref a_this), (1, .ref (sq 6))] := hl
  have jn23 : ∀ (n : Nat) (J23_l2 : Int32) (J23_l3 : Int32) (J23_l4 : Int32) (J23_l5 : Int32) (H : Heap) (locs : List Loc) (ls : Array Slot), ib x_this_at 0 1599 → ib x_this_sort 1 1 → ib J23_l3 0 1605 → ib J23_l4 0 1 → ib J23_l5 0 6 → (1 * J23_l3.toInt + (-1) * J23_l5.toInt ≤ 1600) → 7 ≤ J23_l5.toInt + (n : Int) → va_P (dC, dI) vwCl [(a_this, .inr (5, [.ref a_this_text, .int x_this_length, .int x_this_at, .int x_this_behind, .int x_this_sort, .int x_this_allowed, .ref a_this_plan, .int x_this_fault, .int x_this_place])), (a_this_text, .inl (cy 0, 1600, .inl g_this_text))] H → va_D A [(a_this, .inr (5, [.ref a_this_text, .int x_this_length, .int x_this_at, .int x_this_behind, .int x_this_sort, .int x_this_allowed, .ref a_this_plan, .int x_this_fault, .int x_this_place])), (a_this_text, .inl (cy 0, 1600, .inl g_this_text))] → va_S A s.heap H locs → lv_has ls 6 [(0, .ref a_this), (1, .ref (sq 6)), (2, .int J23_l2), (3, .int J23_l3), (4, .int J23_l4), (5, .int J23_l5)] → W p l e { frames := 4, cells := 0, slots := 0, locals := 141 } s m args below meth c H locs 0 0 Q (F0 m 23 ls []) := by
    intro n
    induction n with
    | zero =>
      intro J23_l2 J23_l3 J23_l4 J23_l5 H locs ls hK23_x_this_at hK23_x_this_sort hJ23_l3 hJ23_l4 hJ23_l5 hJ23_lin0 hm
      exact absurd hm (by have := hJ23_l5; unfold ib at this; omega)
    | succ n ih =>
      intro J23_l2 J23_l3 J23_l4 J23_l5 H locs ls hK23_x_this_at hK23_x_this_sort hJ23_l3 hJ23_l4 hJ23_l5 hJ23_lin0 hm23 hP hD hS hl
      have ih23 := ih
      have jn119 : ∀ (J119_l2 : Int32) (J119_l3 : Int32) (J119_l4 : Int32) (H : Heap) (locs : List Loc) (ls : Array Slot), ib x_this_at 0 1599 → ib J23_l5 0 5 → ib x_this_sort 1 1 → ib J119_l3 0 1605 → ib J119_l4 0 1 → (1 * J119_l3.toInt + (-1) * J23_l5.toInt ≤ 1601) → va_P (dC, dI) vwCl [(a_this, .inr (5, [.ref a_this_text, .int x_this_length, .int x_this_at, .int x_this_behind, .int x_this_sort, .int x_this_allowed, .ref a_this_plan, .int x_this_fault, .int x_this_place])), (a_this_text, .inl (cy 0, 1600, .inl g_this_text))] H → va_D A [(a_this, .inr (5, [.ref a_this_text, .int x_this_length, .int x_this_at, .int x_this_behind, .int x_this_sort, .int x_this_allowed, .ref a_this_plan, .int x_this_fault, .int x_this_place])), (a_this_text, .inl (cy 0, 1600, .inl g_this_text))] → va_S A s.heap H locs → lv_has ls 6 [(0, .ref a_this), (1, .ref (sq 6)), (2, .int J119_l2), (3, .int J119_l3), (4, .int J119_l4), (5, .int J23_l5)] → W p l e { frames := 4, cells := 0, slots := 0, locals := 141 } s m args below meth c H locs 0 0 Q (F0 m 119 ls []) := by
        intro J119_l2 J119_l3 J119_l4 H locs ls hK119_x_this_at hK119_J23_l5 hK119_x_this_sort hJ119_l3 hJ119_l4 hJ119_lin0 hP hD hS hl
        obtain ⟨z1, ez1⟩ : ∃ y : Int32, y = J23_l5 + 1 := ⟨_, rfl⟩
        refine lv_iinc (v := z1) (lv' := [(5, .int z1), (0, .ref a_this), (1, .ref (sq 6)), (2, .int J119_l2), (3, .int J119_l3), (4, .int J119_l4)]) hx hb dX5_wordIn_119 hl (k := 5) rfl (by rw [ez1]; rfl) (by decide) rfl (fun ls hl => ?_)
        have h2 := ib_add hK119_J23_l5 (ib_c 1 1 1 (by decide)) (by decide)
        rw [← ez1] at h2
        have h3 : ib z1 1 6 := ib_w 1 6 h2.1 (by decide)
        refine lv_goto (tgt := 23) hx hb dX5_wordIn_122 (by decide) ?_
        exact ih23 J119_l2 J119_l3 J119_l4 z1 H locs ls (ib_w 0 1599 hK119_x_this_at (by decide)) (ib_w 1 1 hK119_x_this_sort (by decide)) (ib_w 0 1605 hJ119_l3 (by decide)) (ib_w 0 1 hJ119_l4 (by decide)) (ib_w 0 6 h3 (by decide)) (by have := (h3).1; have := (h3).2; have := h2.2; have : (1 : Int32).toInt = 1 := (by decide); have := (hK119_J23_l5).1; have := (hK119_J23_l5).2; have := hJ23_lin0; have := hJ119_lin0; have := (hJ119_l3).1; have := (hJ119_l3).2; have := (hJ23_l3).1; have := (hJ23_l3).2; omega) (by have := h2.2; have : (1 : Int32).toInt = 1 := (by decide); omega) hP hD hS (lv_sub hl [1, 2, 3, 4, 5, 0] rfl)
      have jn114 : ∀ (J114_s0 : Int32) (H : Heap) (locs : List Loc) (ls : Array Slot), ib J23_l3 0 1604 → ib J23_l4 0 1 → ib J23_l5 0 4 → ib x_this_at 0 1599 → ib x_this_sort 1 1 → ib J114_s0 0 1 → (1 * J23_l3.toInt + (-1) * J23_l5.toInt ≤ 1600) → va_P (dC, dI) vwCl [(a_this, .inr (5, [.ref a_this_text, .int x_this_length, .int x_this_at, .int x_this_behind, .int x_this_sort, .int x_this_allowed, .ref a_this_plan, .int x_this_fault, .int x_this_place])), (a_this_text, .inl (cy 0, 1600, .inl g_this_text))] H → va_D A [(a_this, .inr (5, [.ref a_this_text, .int x_this_length, .int x_this_at, .int x_this_behind, .int x_this_sort, .int x_this_allowed, .ref a_this_plan, .int x_this_fault, .int x_this_place])), (a_this_text, .inl (cy 0, 1600, .inl g_this_text))] → va_S A s.heap H locs → lv_has ls 6 [(0, .ref a_this), (1, .ref (sq 6)), (2, .int J23_l2), (3, .int J23_l3), (4, .int J23_l4), (5, .int J23_l5)] → W p l e { frames := 4, cells := 0, slots := 0, locals := 141 } s m args below meth c H locs 0 0 Q (F0 m 114 ls [.int J114_s0]) := by
        intro J114_s0 H locs ls hK114_J23_l3 hK114_J23_l4 hK114_J23_l5 hK114_x_this_at hK114_x_this_sort hJ114_s0 hJ114_lin0 hP hD hS hl
        refine lv_istore (lv' := [(4, .int J114_s0), (0, .ref a_this), (1, .ref (sq 6)), (2, .int J23_l2), (3, .int J23_l3), (5, .int J23_l5)]) hx hb dX5_wordIn_114 hl (by decide) rfl (fun ls hl => ?_)
        obtain ⟨z4, ez4⟩ : ∃ y : Int32, y = J23_l3 + 1 := ⟨_, rfl⟩
        refine lv_iinc (v := z4) (lv' := [(3, .int z4), (4, .int J114_s0), (0, .ref a_this), (1, .ref (sq 6)), (2, .int J23_l2), (5, .int J23_l5)]) hx hb dX5_wordIn_116 hl (k := 4) rfl (by rw [ez4]; rfl) (by decide) rfl (fun ls hl => ?_)
        have h5 := ib_add hK114_J23_l3 (ib_c 1 1 1 (by decide)) (by decide)
        rw [← ez4] at h5
        have h6 : ib z4 1 1605 := ib_w 1 1605 h5.1 (by decide)
        exact jn119 J23_l2 z4 J114_s0 H locs ls (ib_w 0 1599 hK114_x_this_at (by decide)) (ib_w 0 5 hK114_J23_l5 (by decide)) (ib_w 1 1 hK114_x_this_sort (by decide)) (ib_w 0 1605 h6 (by decide)) (ib_w 0 1 hJ114_s0 (by decide)) (by have := (hK114_J23_l5).1; have := (hK114_J23_l5).2; have := hJ23_lin0; have := hJ114_lin0; have := (hK114_J23_l3).1; have := (hK114_J23_l3).2; have := (h6).1; have := (h6).2; have := h5.2; have : (1 : Int32).toInt = 1 := (by decide); omega) hP hD hS (lv_sub hl [2, 3, 4, 0, 1, 5] rfl)
      have jn113 : ∀  (H : Heap) (locs : List Loc) (ls : Array Slot), ib J23_l3 0 1604 → ib J23_l4 0 1 → ib J23_l5 0 4 → ib x_this_at 0 1599 → ib x_this_sort 1 1 → (1 * J23_l3.toInt + (-1) * J23_l5.toInt ≤ 1600) → va_P (dC, dI) vwCl [(a_this, .inr (5, [.ref a_this_text, .int x_this_length, .int x_this_at, .int x_this_behind, .int x_this_sort, .int x_this_allowed, .ref a_this_plan, .int x_this_fault, .int x_this_place])), (a_this_text, .inl (cy 0, 1600, .inl g_this_text))] H → va_D A [(a_this, .inr (5, [.ref a_this_text, .int x_this_length, .int x_this_at, .int x_this_behind, .int x_this_sort, .int x_this_allowed, .ref a_this_plan, .int x_this_fault, .int x_this_place])), (a_this_text, .inl (cy 0, 1600, .inl g_this_text))] → va_S A s.heap H locs → lv_has ls 6 [(0, .ref a_this), (1, .ref (sq 6)), (2, .int J23_l2), (3, .int J23_l3), (4, .int J23_l4), (5, .int J23_l5)] → W p l e { frames := 4, cells := 0, slots := 0, locals := 141 } s m args below meth c H locs 0 0 Q (F0 m 113 ls []) := by
        intro H locs ls hK113_J23_l3 hK113_J23_l4 hK113_J23_l5 hK113_x_this_at hK113_x_this_sort hJ113_lin0 hP hD hS hl
        refine lv_iconst (v := 0) hx hb dX5_wordIn_113 (by decide) ?_
        exact jn114 0 H locs ls (ib_w 0 1604 hK113_J23_l3 (by decide)) (ib_w 0 1 hK113_J23_l4 (by decide)) (ib_w 0 4 hK113_J23_l5 (by decide)) (ib_w 0 1599 hK113_x_this_at (by decide)) (ib_w 1 1 hK113_x_this_sort (by decide)) (ib_w 0 1 (ib_c 0 0 0 (by decide)) (by decide)) (by have := (hK113_J23_l5).1; have := (hK113_J23_l5).2; have := hJ23_lin0; have := hJ113_lin0; have := (hK113_J23_l3).1; have := (hK113_J23_l3).2; omega) hP hD hS (lv_sub hl [0, 1, 2, 3, 4, 5] rfl)
      have jn67 : ∀  (H : Heap) (locs : List Loc) (ls : Array Slot), ib J23_l3 0 1605 → ib J23_l4 0 1 → ib J23_l5 0 5 → ib x_this_at 0 1599 → ib x_this_sort 1 1 → va_P (dC, dI) vwCl [(a_this, .inr (5, [.ref a_this_text, .int x_this_length, .int x_this_at, .int x_this_behind, .int x_this_sort, .int x_this_allowed, .ref a_this_plan, .int x_this_fault, .int x_this_place])), (a_this_text, .inl (cy 0, 1600, .inl g_this_text))] H → va_D A [(a_this, .inr (5, [.ref a_this_text, .int x_this_length, .int x_this_at, .int x_this_behind, .int x_this_sort, .int x_this_allowed, .ref a_this_plan, .int x_this_fault, .int x_this_place])), (a_this_text, .inl (cy 0, 1600, .inl g_this_text))] → va_S A s.heap H locs → lv_has ls 6 [(0, .ref a_this), (1, .ref (sq 6)), (2, .int J23_l2), (3, .int J23_l3), (4, .int J23_l4), (5, .int J23_l5)] → W p l e { frames := 4, cells := 0, slots := 0, locals := 141 } s m args below meth c H locs 0 0 Q (F0 m 67 ls []) := by
        intro H locs ls hK67_J23_l3 hK67_J23_l4 hK67_J23_l5 hK67_x_this_at hK67_x_this_sort hP hD hS hl
        obtain ⟨z7, ez7⟩ : ∃ y : Int32, y = J23_l2 + 1 := ⟨_, rfl⟩
        refine lv_iinc (v := z7) (lv' := [(2, .int z7), (0, .ref a_this), (1, .ref (sq 6)), (3, .int J23_l3), (4, .int J23_l4), (5, .int J23_l5)]) hx hb dX5_wordIn_67 hl (k := 2) rfl (by rw [ez7]; rfl) (by decide) rfl (fun ls hl => ?_)
        refine lv_aload_n hx hb dX5_wordIn_70 rfl (lv_at hl 1 rfl) ?_
        refine k_get C0 fg_X5_15 hP 0 rfl rfl dX5_wordIn_71 ?_
        refine lv_istore_n (lv' := [(3, .int x_this_at), (2, .int z7), (0, .ref a_this), (1, .ref (sq 6)), (4, .int J23_l4), (5, .int J23_l5)]) hx hb dX5_wordIn_74 rfl hl (by decide) rfl (fun ls hl => ?_)
        refine lv_iconst (v := 1) hx hb dX5_wordIn_75 (by decide) ?_
        refine lv_istore (lv' := [(4, .int 1), (3, .int x_this_at), (2, .int z7), (0, .ref a_this), (1, .ref (sq 6)), (5, .int J23_l5)]) hx hb dX5_wordIn_76 hl (by decide) rfl (fun ls hl => ?_)
        refine lv_goto (tgt := 119) hx hb dX5_wordIn_78 (by decide) ?_
        exact jn119 z7 x_this_at 1 H locs ls (ib_w 0 1599 hK67_x_this_at (by decide)) (ib_w 0 5 hK67_J23_l5 (by decide)) (ib_w 1 1 hK67_x_this_sort (by decide)) (ib_w 0 1605 hK67_x_this_at (by decide)) (ib_w 0 1 (ib_c 1 1 1 (by decide)) (by decide)) (by have := (hK67_J23_l5).1; have := (hK67_J23_l5).2; have := hJ23_lin0; have := (hK67_J23_l3).1; have := (hK67_J23_l3).2; have := (hK67_x_this_at).1; have := (hK67_x_this_at).2; omega) hP hD hS (lv_sub hl [3, 4, 2, 1, 0, 5] rfl)
      have jn52 : ∀  (H : Heap) (locs : List Loc) (ls : Array Slot), ib J23_l3 0 1605 → ib J23_l4 0 1 → ib J23_l5 0 5 → ib x_this_at 0 1599 → ib x_this_sort 1 1 → va_P (dC, dI) vwCl [(a_this, .inr (5, [.ref a_this_text, .int x_this_length, .int x_this_at, .int x_this_behind, .int x_this_sort, .int x_this_allowed, .ref a_this_plan, .int x_this_fault, .int x_this_place])), (a_this_text, .inl (cy 0, 1600, .inl g_this_text))] H → va_D A [(a_this, .inr (5, [.ref a_this_text, .int x_this_length, .int x_this_at, .int x_this_behind, .int x_this_sort, .int x_this_allowed, .ref a_this_plan, .int x_this_fault, .int x_this_place])), (a_this_text, .inl (cy 0, 1600, .inl g_this_text))] → va_S A s.heap H locs → lv_has ls 6 [(0, .ref a_this), (1, .ref (sq 6)), (2, .int J23_l2), (3, .int J23_l3), (4, .int J23_l4), (5, .int J23_l5)] → W p l e { frames := 4, cells := 0, slots := 0, locals := 141 } s m args below meth c H locs 0 0 Q (F0 m 52 ls []) := by
        intro H locs ls hK52_J23_l3 hK52_J23_l4 hK52_J23_l5 hK52_x_this_at hK52_x_this_sort hP hD hS hl
        refine lv_iload hx hb dX5_wordIn_52 (lv_at hl 4 rfl) ?_
        refine lv_if_eq (tgt := 67) hx hb dX5_wordIn_54 (by decide) (fun c8 => ?_) (fun c8 => ?_)
        · have h9 := ib_eq hK52_J23_l4 (ib_c 0 0 0 (by decide)) c8
          have h10 : ib J23_l4 0 0 := ib_w 0 0 h9.1 (by decide)
          exact jn67  H locs ls (ib_w 0 1605 hK52_J23_l3 (by decide)) (ib_w 0 1 h10 (by decide)) (ib_w 0 5 hK52_J23_l5 (by decide)) (ib_w 0 1599 hK52_x_this_at (by decide)) (ib_w 1 1 hK52_x_this_sort (by decide)) hP hD hS (lv_sub hl [0, 1, 2, 3, 4, 5] rfl)
        · have h11 : ib J23_l4 1 1 := ib_w 1 1 (ib_ne_lo 0 hK52_J23_l4 (by decide) c8) (by decide)
          refine lv_iload_n hx hb dX5_wordIn_57 rfl (lv_at hl 3 rfl) ?_
          refine lv_aload_n hx hb dX5_wordIn_58 rfl (lv_at hl 0 rfl) ?_
          refine k_get C0 fg_X5_18 hP 0 rfl rfl dX5_wordIn_59 ?_
          refine lv_icmp_ne (tgt := 67) hx hb dX5_wordIn_62 (by decide) (fun c12 => ?_) (fun c12 => ?_)
          · skip
            exact jn67  H locs ls (ib_w 0 1605 hK52_J23_l3 (by decide)) (ib_w 0 1 h11 (by decide)) (ib_w 0 5 hK52_J23_l5 (by decide)) (ib_w 0 1599 hK52_x_this_at (by decide)) (ib_w 1 1 hK52_x_this_sort (by decide)) hP hD hS (lv_sub hl [0, 1, 2, 3, 4, 5] rfl)
          · have h13 := ib_eq hK52_J23_l3 hx_this_behind c12
            have h14 : ib J23_l3 0 1600 := ib_w 0 1600 h13.1 (by decide)
            refine lv_iload_n hx hb dX5_wordIn_65 rfl (lv_at hl 2 rfl) ?_
            subst hQ; exact k_iret hx hb hr hlk rfl () hS True.intro hP hD (Nat.le_of_ble_eq_true rfl) (Nat.le_of_ble_eq_true rfl) dX5_wordIn_66
      refine lv_iload hx hb dX5_wordIn_23 (lv_at hl 5 rfl) ?_
      refine lv_aload_n hx hb dX5_wordIn_25 rfl (lv_at hl 1 rfl) ?_
      refine k_ji hP hD hS hA [] [0, 1] (wr := [(a_this, .inr (5, [.ref a_this_text, .int x_this_length, .int x_this_at, .int x_this_behind, .int x_this_sort, .int x_this_allowed, .ref a_this_plan, .int x_this_fault, .int x_this_place])), (a_this_text, .inl (cy 0, 1600, .inl g_this_text))]) rfl rfl (by decide) (by decide) (by decide) 0 0 (Nat.le_of_ble_eq_true rfl) (Nat.le_of_ble_eq_true rfl) (fun hPc hDc => k_runVO (As := []) (rest := [.int J23_l5]) C0 hZ hS hA (c_length l dC dI cy sq 6 (by decide)) mV_X5_244 hPc hDc (vk_recv hZ.1 (by decide) hS) hl rfl rfl (Nat.le_of_ble_eq_true rfl) ⟨(Nat.le_of_ble_eq_true rfl), (Nat.le_of_ble_eq_true rfl)⟩ ⟨(Nat.le_of_ble_eq_true rfl), (Nat.le_of_ble_eq_true rfl)⟩ dX5_wordIn_26) (fun r15 u16 H locs hw hP hD hS => ?_)
      have hP : va_P (dC, dI) vwCl [(a_this, .inr (5, [.ref a_this_text, .int x_this_length, .int x_this_at, .int x_this_behind, .int x_this_sort, .int x_this_allowed, .ref a_this_plan, .int x_this_fault, .int x_this_place])), (a_this_text, .inl (cy 0, 1600, .inl g_this_text))] H := hP
      have hD : va_D A [(a_this, .inr (5, [.ref a_this_text, .int x_this_length, .int x_this_at, .int x_this_behind, .int x_this_sort, .int x_this_allowed, .ref a_this_plan, .int x_this_fault, .int x_this_place])), (a_this_text, .inl (cy 0, 1600, .inl g_this_text))] := hD
      obtain rfl : r15 = 5 := hw.trans (by decide)
      refine lv_icmp_gt (tgt := 125) hx hb dX5_wordIn_29 (by decide) (fun c17 => ?_) (fun c17 => ?_)
      · have h18 := ib_lt (ib_c 5 5 5 (by decide)) hJ23_l5 c17
        have h19 : ib J23_l5 6 6 := ib_w 6 6 h18.2 (by decide)
        refine lv_iconst (v := (-1)) hx hb dX5_wordIn_125 (by decide) ?_
        subst hQ; exact k_iret hx hb hr hlk rfl () hS True.intro hP hD (Nat.le_of_ble_eq_true rfl) (Nat.le_of_ble_eq_true rfl) dX5_wordIn_126
      · have h20 := ib_nlt (ib_c 5 5 5 (by decide)) hJ23_l5 c17
        have h21 : ib J23_l5 0 5 := ib_w 0 5 h20.2 (by decide)
        refine lv_iload hx hb dX5_wordIn_32 (lv_at hl 5 rfl) ?_
        refine lv_aload_n hx hb dX5_wordIn_34 rfl (lv_at hl 1 rfl) ?_
        refine k_ji hP hD hS hA [] [0, 1] (wr := [(a_this, .inr (5, [.ref a_this_text, .int x_this_length, .int x_this_at, .int x_this_behind, .int x_this_sort, .int x_this_allowed, .ref a_this_plan, .int x_this_fault, .int x_this_place])), (a_this_text, .inl (cy 0, 1600, .inl g_this_text))]) rfl rfl (by decide) (by decide) (by decide) 0 0 (Nat.le_of_ble_eq_true rfl) (Nat.le_of_ble_eq_true rfl) (fun hPc hDc => k_runVO (As := []) (rest := [.int J23_l5]) C0 hZ hS hA (c_length l dC dI cy sq 6 (by decide)) mV_X5_244 hPc hDc (vk_recv hZ.1 (by decide) hS) hl rfl rfl (Nat.le_of_ble_eq_true rfl) ⟨(Nat.le_of_ble_eq_true rfl), (Nat.le_of_ble_eq_true rfl)⟩ ⟨(Nat.le_of_ble_eq_true rfl), (Nat.le_of_ble_eq_true rfl)⟩ dX5_wordIn_35) (fun r22 u23 H locs hw hP hD hS => ?_)
        have hP : va_P (dC, dI) vwCl [(a_this, .inr (5, [.ref a_this_text, .int x_this_length, .int x_this_at, .int x_this_behind, .int x_this_sort, .int x_this_allowed, .ref a_this_plan, .int x_this_fault, .int x_this_place])), (a_this_text, .inl (cy 0, 1600, .inl g_this_text))] H := hP
        have hD : va_D A [(a_this, .inr (5, [.ref a_this_text, .int x_this_length, .int x_this_at, .int x_this_behind, .int x_this_sort, .int x_this_allowed, .ref a_this_plan, .int x_this_fault, .int x_this_place])), (a_this_text, .inl (cy 0, 1600, .inl g_this_text))] := hD
        obtain rfl : r22 = 5 := hw.trans (by decide)
        refine lv_icmp_eq (tgt := 52) hx hb dX5_wordIn_38 (by decide) (fun c24 => ?_) (fun c24 => ?_)
        · have h25 := ib_eq h21 (ib_c 5 5 5 (by decide)) c24
          have h26 : ib J23_l5 5 5 := ib_w 5 5 h25.1 (by decide)
          exact jn52  H locs ls (ib_w 0 1605 hJ23_l3 (by decide)) (ib_w 0 1 hJ23_l4 (by decide)) (ib_w 0 5 h26 (by decide)) (ib_w 0 1599 hK23_x_this_at (by decide)) (ib_w 1 1 hK23_x_this_sort (by decide)) hP hD hS (lv_sub hl [0, 1, 2, 3, 4, 5] rfl)
        · have h27 : ib J23_l5 0 4 := ib_w 0 4 (ib_ne_hi 5 h21 (by decide) c24) (by decide)
          refine lv_aload_n hx hb dX5_wordIn_41 rfl (lv_at hl 1 rfl) ?_
          refine lv_iload hx hb dX5_wordIn_42 (lv_at hl 5 rfl) ?_
          refine k_ji hP hD hS hA [] [0, 1] (wr := [(a_this, .inr (5, [.ref a_this_text, .int x_this_length, .int x_this_at, .int x_this_behind, .int x_this_sort, .int x_this_allowed, .ref a_this_plan, .int x_this_fault, .int x_this_place])), (a_this_text, .inl (cy 0, 1600, .inl g_this_text))]) rfl rfl (by decide) (by decide) (by decide) 0 0 (Nat.le_of_ble_eq_true rfl) (Nat.le_of_ble_eq_true rfl) (fun hPc hDc => k_runVO (As := [.int J23_l5]) (rest := []) C0 hZ hS hA (c_charAt l dC dI cy sq 6 (by decide) J23_l5 (ib_ch 6 5 h27 rfl (by decide)).1 (ib_ch 6 5 h27 rfl (by decide)).2.1 (ib_ch 6 5 h27 rfl (by decide)).2.2) mV_X5_248 hPc hDc (vk_recv hZ.1 (by decide) hS) hl rfl rfl (Nat.le_of_ble_eq_true rfl) ⟨(Nat.le_of_ble_eq_true rfl), (Nat.le_of_ble_eq_true rfl)⟩ ⟨(Nat.le_of_ble_eq_true rfl), (Nat.le_of_ble_eq_true rfl)⟩ dX5_wordIn_44) (fun r28 u29 H locs hw hP hD hS => ?_)
          have hP : va_P (dC, dI) vwCl [(a_this, .inr (5, [.ref a_this_text, .int x_this_length, .int x_this_at, .int x_this_behind, .int x_this_sort, .int x_this_allowed, .ref a_this_plan, .int x_this_fault, .int x_this_place])), (a_this_text, .inl (cy 0, 1600, .inl g_this_text))] H := hP
          have hD : va_D A [(a_this, .inr (5, [.ref a_this_text, .int x_this_length, .int x_this_at, .int x_this_behind, .int x_this_sort, .int x_this_allowed, .ref a_this_plan, .int x_this_fault, .int x_this_place])), (a_this_text, .inl (cy 0, 1600, .inl g_this_text))] := hD
          refine lv_bipush (v := 32) hx hb dX5_wordIn_47 (by decide) ?_
          refine lv_icmp_ne (tgt := 81) hx hb dX5_wordIn_49 (by decide) (fun c30 => ?_) (fun c30 => ?_)
          · skip
            refine lv_iload hx hb dX5_wordIn_81 (lv_at hl 4 rfl) ?_
            refine lv_if_eq (tgt := 113) hx hb dX5_wordIn_83 (by decide) (fun c31 => ?_) (fun c31 => ?_)
            · have h32 := ib_eq hJ23_l4 (ib_c 0 0 0 (by decide)) c31
              have h33 : ib J23_l4 0 0 := ib_w 0 0 h32.1 (by decide)
              have h34 : ib J23_l3 0 1604 := ⟨(hJ23_l3).1, by have := (hJ23_l3).1; have := (hJ23_l3).2; have := hJ23_lin0; have := (h27).1; have := (h27).2; omega⟩
              exact jn113  H locs ls (ib_w 0 1604 h34 (by decide)) (ib_w 0 1 h33 (by decide)) (ib_w 0 4 h27 (by decide)) (ib_w 0 1599 hK23_x_this_at (by decide)) (ib_w 1 1 hK23_x_this_sort (by decide)) (by have := (h27).1; have := (h27).2; have := hJ23_lin0; have := (h34).1; have := (h34).2; omega) hP hD hS (lv_sub hl [0, 1, 2, 3, 4, 5] rfl)
            · have h35 : ib J23_l4 1 1 := ib_w 1 1 (ib_ne_lo 0 hJ23_l4 (by decide) c31) (by decide)
              refine lv_iload_n hx hb dX5_wordIn_86 rfl (lv_at hl 3 rfl) ?_
              refine lv_aload_n hx hb dX5_wordIn_87 rfl (lv_at hl 0 rfl) ?_
              refine k_get C0 fg_X5_18 hP 0 rfl rfl dX5_wordIn_88 ?_
              refine lv_icmp_ge (tgt := 113) hx hb dX5_wordIn_91 (by decide) (fun c36 => ?_) (fun c36 => ?_)
              · have h37 := ib_le hx_this_behind hJ23_l3 c36
                have h38 : ib J23_l3 0 1604 := ⟨(hJ23_l3).1, by have := (hJ23_l3).1; have := (hJ23_l3).2; have := hJ23_lin0; have := (h27).1; have := (h27).2; omega⟩
                exact jn113  H locs ls (ib_w 0 1604 h38 (by decide)) (ib_w 0 1 h35 (by decide)) (ib_w 0 4 h27 (by decide)) (ib_w 0 1599 hK23_x_this_at (by decide)) (ib_w 1 1 hK23_x_this_sort (by decide)) (by have := (h27).1; have := (h27).2; have := hJ23_lin0; have := (h38).1; have := (h38).2; omega) hP hD hS (lv_sub hl [0, 1, 2, 3, 4, 5] rfl)
              · have h39 := ib_nle hx_this_behind hJ23_l3 c36
                have h40 : ib x_this_behind 1 1600 := ib_w 1 1600 h39.1 (by decide)
                have h41 : ib J23_l3 0 1599 := ib_w 0 1599 h39.2 (by decide)
                refine lv_aload_n hx hb dX5_wordIn_94 rfl (lv_at hl 0 rfl) ?_
                refine k_get C0 fg_X5_33 hP 0 rfl rfl dX5_wordIn_95 ?_
                refine lv_iload_n hx hb dX5_wordIn_98 rfl (lv_at hl 3 rfl) ?_
                refine va_iald hx hb C0.2.2.2.2.2.1 hP 1 0 rfl rfl (ib_in 1600 h41 (by decide)) dX5_wordIn_99 ?_
                refine lv_topi (fun z42 ez42 => ?_)
                have h43 : ib z42 0 255 := by rw [ez42]; exact ia_at hg_this_text (ib_in 1600 h41 (by decide))
                refine lv_aload_n hx hb dX5_wordIn_100 rfl (lv_at hl 1 rfl) ?_
                refine lv_iload hx hb dX5_wordIn_101 (lv_at hl 5 rfl) ?_
                refine k_ji hP hD hS hA [] [0, 1] (wr := [(a_this, .inr (5, [.ref a_this_text, .int x_this_length, .int x_this_at, .int x_this_behind, .int x_this_sort, .int x_this_allowed, .ref a_this_plan, .int x_this_fault, .int x_this_place])), (a_this_text, .inl (cy 0, 1600, .inl g_this_text))]) rfl rfl (by decide) (by decide) (by decide) 0 0 (Nat.le_of_ble_eq_true rfl) (Nat.le_of_ble_eq_true rfl) (fun hPc hDc => k_runVO (As := [.int J23_l5]) (rest := [.int z42]) C0 hZ hS hA (c_charAt l dC dI cy sq 6 (by decide) J23_l5 (ib_ch 6 5 h27 rfl (by decide)).1 (ib_ch 6 5 h27 rfl (by decide)).2.1 (ib_ch 6 5 h27 rfl (by decide)).2.2) mV_X5_248 hPc hDc (vk_recv hZ.1 (by decide) hS) hl rfl rfl (Nat.le_of_ble_eq_true rfl) ⟨(Nat.le_of_ble_eq_true rfl), (Nat.le_of_ble_eq_true rfl)⟩ ⟨(Nat.le_of_ble_eq_true rfl), (Nat.le_of_ble_eq_true rfl)⟩ dX5_wordIn_103) (fun r44 u45 H locs hw hP hD hS => ?_)
                have hP : va_P (dC, dI) vwCl [(a_this, .inr (5, [.ref a_this_text, .int x_this_length, .int x_this_at, .int x_this_behind, .int x_this_sort, .int x_this_allowed, .ref a_this_plan, .int x_this_fault, .int x_this_place])), (a_this_text, .inl (cy 0, 1600, .inl g_this_text))] H := hP
                have hD : va_D A [(a_this, .inr (5, [.ref a_this_text, .int x_this_length, .int x_this_at, .int x_this_behind, .int x_this_sort, .int x_this_allowed, .ref a_this_plan, .int x_this_fault, .int x_this_place])), (a_this_text, .inl (cy 0, 1600, .inl g_this_text))] := hD
                refine lv_icmp_ne (tgt := 113) hx hb dX5_wordIn_106 (by decide) (fun c46 => ?_) (fun c46 => ?_)
                · skip
                  exact jn113  H locs ls (ib_w 0 1604 h41 (by decide)) (ib_w 0 1 h35 (by decide)) (ib_w 0 4 h27 (by decide)) (ib_w 0 1599 hK23_x_this_at (by decide)) (ib_w 1 1 hK23_x_this_sort (by decide)) (by have := (h27).1; have := (h27).2; have := hJ23_lin0; have := (h41).1; have := (h41).2; omega) hP hD hS (lv_sub hl [0, 1, 2, 3, 4, 5] rfl)
                · have h47 := ib_eq h43 (ib_any r44) c46
                  have h48 : ib r44 0 255 := ib_w 0 255 h47.2 (by decide)
                  refine lv_iconst (v := 1) hx hb dX5_wordIn_109 (by decide) ?_
                  refine lv_goto (tgt := 114) hx hb dX5_wordIn_110 (by decide) ?_
                  exact jn114 1 H locs ls (ib_w 0 1604 h41 (by decide)) (ib_w 0 1 h35 (by decide)) (ib_w 0 4 h27 (by decide)) (ib_w 0 1599 hK23_x_this_at (by decide)) (ib_w 1 1 hK23_x_this_sort (by decide)) (ib_w 0 1 (ib_c 1 1 1 (by decide)) (by decide)) (by have := (h27).1; have := (h27).2; have := hJ23_lin0; have := (h41).1; have := (h41).2; omega) hP hD hS (lv_sub hl [0, 1, 2, 3, 4, 5] rfl)
          · have h49 := ib_eq (ib_any r28) (ib_c 32 32 32 (by decide)) c30
            have h50 : ib r28 32 32 := ib_w 32 32 h49.1 (by decide)
            have h51 : ib J23_l3 0 1604 := ⟨(hJ23_l3).1, by have := (hJ23_l3).1; have := (hJ23_l3).2; have := hJ23_lin0; have := (h27).1; have := (h27).2; omega⟩
            exact jn52  H locs ls (ib_w 0 1605 h51 (by decide)) (ib_w 0 1 hJ23_l4 (by decide)) (ib_w 0 5 h27 (by decide)) (ib_w 0 1599 hK23_x_this_at (by decide)) (ib_w 1 1 hK23_x_this_sort (by decide)) hP hD hS (lv_sub hl [0, 1, 2, 3, 4, 5] rfl)
  refine lv_aload_n hx hb dX5_wordIn_0 rfl (lv_at hl 0 rfl) ?_
  refine k_get C0 fg_X5_21 hP 0 rfl rfl dX5_wordIn_1 ?_
  refine lv_iconst (v := 1) hx hb dX5_wordIn_4 (by decide) ?_
  refine lv_icmp_eq (tgt := 10) hx hb dX5_wordIn_5 (by decide) (fun c52 => ?_) (fun c52 => ?_)
  · have h53 := ib_eq hx_this_sort (ib_c 1 1 1 (by decide)) c52
    have h54 : ib x_this_sort 1 1 := ib_w 1 1 h53.1 (by decide)
    have h55 : ib x_this_at 0 1599 := ib_w 0 1599 (ib_two hx_this_at (hc0_this (ib_nz h54 (by decide)))) (by decide)
    refine lv_iconst (v := 0) hx hb dX5_wordIn_10 (by decide) ?_
    refine lv_istore_n (lv' := [(2, .int 0), (0, .ref a_this), (1, .ref (sq 6))]) hx hb dX5_wordIn_11 rfl hl (by decide) rfl (fun ls hl => ?_)
    refine lv_aload_n hx hb dX5_wordIn_12 rfl (lv_at hl 1 rfl) ?_
    refine k_get C0 fg_X5_15 hP 0 rfl rfl dX5_wordIn_13 ?_
    refine lv_istore_n (lv' := [(3, .int x_this_at), (2, .int 0), (0, .ref a_this), (1, .ref (sq 6))]) hx hb dX5_wordIn_16 rfl hl (by decide) rfl (fun ls hl => ?_)
    refine lv_iconst (v := 1) hx hb dX5_wordIn_17 (by decide) ?_
    refine lv_istore (lv' := [(4, .int 1), (3, .int x_this_at), (2, .int 0), (0, .ref a_this), (1, .ref (sq 6))]) hx hb dX5_wordIn_18 hl (by decide) rfl (fun ls hl => ?_)
    refine lv_iconst (v := 0) hx hb dX5_wordIn_20 (by decide) ?_
    refine lv_istore (lv' := [(5, .int 0), (4, .int 1), (3, .int x_this_at), (2, .int 0), (0, .ref a_this), (1, .ref (sq 6))]) hx hb dX5_wordIn_21 hl (by decide) rfl (fun ls hl => ?_)
    exact jn23 8 0 x_this_at 1 0 H locs ls (ib_w 0 1599 h55 (by decide)) (ib_w 1 1 h54 (by decide)) (ib_w 0 1605 h55 (by decide)) (ib_w 0 1 (ib_c 1 1 1 (by decide)) (by decide)) (ib_w 0 6 (ib_c 0 0 0 (by decide)) (by decide)) (by have : (0 : Int32).toInt = 0 := (by decide); have := (h55).1; have := (h55).2; omega) (by have := (ib_c 0 0 0 (by decide)); unfold ib at this; omega) hP hD hS (lv_sub hl [4, 5, 3, 2, 1, 0] rfl)
  · skip
    refine lv_iconst (v := (-1)) hx hb dX5_wordIn_8 (by decide) ?_
    subst hQ; exact k_iret hx hb hr hlk rfl () hS True.intro hP hD (Nat.le_of_ble_eq_true rfl) (Nat.le_of_ble_eq_true rfl) dX5_wordIn_9
set_option maxHeartbeats 4000000 in
set_option maxRecDepth 100000 in
theorem s_X5_needWord_s6 (l : Launch) (dC : Nat → ClassId) (dI : Nat → Nat → Nat) (cy : Nat → ClassId) (sq : Nat → Nat) (a_this : Nat) (a_this_text : Nat) (g_this_text : Nat → Int32) (x_this_length : Int32) (x_this_at : Int32) (x_this_behind : Int32) (x_this_sort : Int32) (x_this_allowed : Int32) (a_this_plan : Nat) (x_this_fault : Int32) (x_this_place : Int32) (hg_this_text : ia g_this_text 1600 0 255) (hx_this_length : ib x_this_length 0 1600) (hx_this_at : ib x_this_at 0 1600) (hx_this_behind : ib x_this_behind 0 1600) (hx_this_sort : ib x_this_sort 0 4) (hc0_this : ¬ x_this_sort = 0 → ib x_this_at 0 1599) : k_Met l yX5_needWord cX5_needWord 2 none { frames := 5, cells := 0, slots := 0, locals := 166 } dC dI cy sq [.ref a_this, .ref (sq 6)] [(a_this, .inr (5, [.ref a_this_text, .int x_this_length, .int x_this_at, .int x_this_behind, .int x_this_sort, .int x_this_allowed, .ref a_this_plan, .int x_this_fault, .int x_this_place])), (a_this_text, .inl (cy 0, 1600, .inl g_this_text))] (k_Qv dC dI (fun (u : Int32 × Int32 × Int32 × Int32 × Int32) => match u with | (n0, n1, n2, n3, n4) => ib n0 0 1600 ∧ ib n1 0 1600 ∧ ib n2 0 4 ∧ (¬ n2 = 0 → ib n0 0 1599)) (fun u : Int32 × Int32 × Int32 × Int32 × Int32 => match u with | (n0, n1, n2, n3, n4) => [(a_this, .inr (5, [.ref a_this_text, .int x_this_length, .int n0, .int n1, .int n2, .int x_this_allowed, .ref a_this_plan, .int n3, .int n4])), (a_this_text, .inl (cy 0, 1600, .inl g_this_text))])) := by
  refine k_ofW2 (by decide +kernel) (Nat.le_of_ble_eq_true rfl) ?_
  intro p e s m below meth c A ls H locs args Q hQ C0 hZ hr hlk hin hP hD hA hS hl
  have C0 : k_cx p s m args c cX5_needWord 2 RX5 dC dI cy sq := C0
  have hx := C0.1
  have hb := C0.2.1
  have hl : lv_has ls 2 [(0, .ref a_this), (1, .ref (sq 6))] := hl
  refine lv_aload_n hx hb dX5_needWord_0 rfl (lv_at hl 0 rfl) ?_
  refine lv_aload_n hx hb dX5_needWord_1 rfl (lv_at hl 1 rfl) ?_
  refine k_ji hP hD hS hA [0, 1] [] (wr := []) rfl rfl (by decide) (by decide) (by decide) 0 0 (Nat.le_of_ble_eq_true rfl) (Nat.le_of_ble_eq_true rfl) (fun hPc hDc => k_runV (As := [.ref (sq 6)]) (rest := []) C0 hZ hS hA (s_X5_wordIn_s6 l dC dI cy sq a_this a_this_text g_this_text x_this_length x_this_at x_this_behind x_this_sort x_this_allowed a_this_plan x_this_fault x_this_place hg_this_text (ib_w 0 1600 hx_this_at (by decide)) (ib_w 0 1600 hx_this_behind (by decide)) (ib_w 0 4 hx_this_sort (by decide)) (fun hq9 => ib_w 0 1599 (hc0_this hq9) (by decide))) mV_X5_54 hPc hDc rfl rfl rfl hl rfl rfl (Nat.le_of_ble_eq_true rfl) ⟨(Nat.le_of_ble_eq_true rfl), (Nat.le_of_ble_eq_true rfl)⟩ ⟨(Nat.le_of_ble_eq_true rfl), (Nat.le_of_ble_eq_true rfl)⟩ dX5_needWord_2) (fun r1 u2 H locs hw hP hD hS => ?_)
  try dsimp only at hP hD hw
  have hP : va_P (dC, dI) vwCl [(a_this, .inr (5, [.ref a_this_text, .int x_this_length, .int x_this_at, .int x_this_behind, .int x_this_sort, .int x_this_allowed, .ref a_this_plan, .int x_this_fault, .int x_this_place])), (a_this_text, .inl (cy 0, 1600, .inl g_this_text))] H := hP
  have hD : va_D A [(a_this, .inr (5, [.ref a_this_text, .int x_this_length, .int x_this_at, .int x_this_behind, .int x_this_sort, .int x_this_allowed, .ref a_this_plan, .int x_this_fault, .int x_this_place])), (a_this_text, .inl (cy 0, 1600, .inl g_this_text))] := hD
  refine lv_iconst (v := (-1)) hx hb dX5_needWord_5 (by decide) ?_
  refine lv_icmp_ne (tgt := 21) hx hb dX5_needWord_6 (by decide) (fun c3 => ?_) (fun c3 => ?_)
  · skip
    refine lv_aload_n hx hb dX5_needWord_21 rfl (lv_at hl 0 rfl) ?_
    refine lv_aload_n hx hb dX5_needWord_22 rfl (lv_at hl 0 rfl) ?_
    refine k_get C0 fg_X5_18 hP 0 rfl rfl dX5_needWord_23 ?_
    refine k_jv hP hD hS hA [0, 1] [] (wr := []) rfl rfl (by decide) (by decide) (by decide) 0 0 (Nat.le_of_ble_eq_true rfl) (Nat.le_of_ble_eq_true rfl) (fun hPc hDc => k_runV (As := [.int x_this_behind]) (rest := []) C0 hZ hS hA (s_X5_moveTo l dC dI cy sq a_this a_this_text g_this_text x_this_length x_this_at x_this_behind x_this_sort x_this_allowed a_this_plan x_this_fault x_this_place x_this_behind hg_this_text (ib_w 0 1600 hx_this_length (by decide)) (ib_w 0 1600 hx_this_behind (by decide))) mV_X5_86 hPc hDc rfl rfl rfl hl rfl rfl (Nat.le_of_ble_eq_true rfl) ⟨(Nat.le_of_ble_eq_true rfl), (Nat.le_of_ble_eq_true rfl)⟩ ⟨(Nat.le_of_ble_eq_true rfl), (Nat.le_of_ble_eq_true rfl)⟩ dX5_needWord_26) (fun u5 H locs hw hP hD hS => ?_)
    obtain ⟨v6, v7, v8⟩ := u5
    try dsimp only at hP hD hw
    have hP : va_P (dC, dI) vwCl [(a_this, .inr (5, [.ref a_this_text, .int x_this_length, .int v6, .int v7, .int v8, .int x_this_allowed, .ref a_this_plan, .int x_this_fault, .int x_this_place])), (a_this_text, .inl (cy 0, 1600, .inl g_this_text))] H := hP
    have hD : va_D A [(a_this, .inr (5, [.ref a_this_text, .int x_this_length, .int v6, .int v7, .int v8, .int x_this_allowed, .ref a_this_plan, .int x_this_fault, .int x_this_place])), (a_this_text, .inl (cy 0, 1600, .inl g_this_text))] := hD
    obtain ⟨h9, h10, h11, h12⟩ := hw
    subst hQ; exact k_vret hx hb hr hlk ((v6, v7, v8, x_this_fault, x_this_place)) hS ⟨ib_w 0 1600 h9 (by decide), ib_w 0 1600 h10 (by decide), ib_w 0 4 h11 (by decide), fun hq9 => ib_w 0 1599 (h12 hq9) (by decide)⟩ hP hD (Nat.le_of_ble_eq_true rfl) (Nat.le_of_ble_eq_true rfl) dX5_needWord_29
  · have h13 := ib_eq (ib_any r1) (ib_c (-1) (-1) (-1) (by decide)) c3
    have h14 : ib r1 (-1) (-1) := ib_w (-1) (-1) h13.1 (by decide)
    refine lv_aload_n hx hb dX5_needWord_9 rfl (lv_at hl 0 rfl) ?_
    refine lv_iconst (v := 1) hx hb dX5_needWord_10 (by decide) ?_
    refine lv_aload_n hx hb dX5_needWord_11 rfl (lv_at hl 0 rfl) ?_
    refine k_get C0 fg_X5_15 hP 0 rfl rfl dX5_needWord_12 ?_
    refine k_jv hP hD hS hA [0] [1] (wr := [(a_this_text, .inl (cy 0, 1600, .inl g_this_text))]) rfl rfl (by decide) (by decide) (by decide) 0 0 (Nat.le_of_ble_eq_true rfl) (Nat.le_of_ble_eq_true rfl) (fun hPc hDc => k_runV (As := [.int 1, .int x_this_at]) (rest := []) C0 hZ hS hA (s_X5_fail l dC dI cy sq a_this a_this_text x_this_length x_this_at x_this_behind x_this_sort x_this_allowed a_this_plan x_this_fault x_this_place 1 x_this_at ) mV_X5_78 hPc hDc rfl rfl rfl hl rfl rfl (Nat.le_of_ble_eq_true rfl) ⟨(Nat.le_of_ble_eq_true rfl), (Nat.le_of_ble_eq_true rfl)⟩ ⟨(Nat.le_of_ble_eq_true rfl), (Nat.le_of_ble_eq_true rfl)⟩ dX5_needWord_15) (fun u16 H locs hw hP hD hS => ?_)
    obtain ⟨v17, v18⟩ := u16
    try dsimp only at hP hD hw
    have hP : va_P (dC, dI) vwCl [(a_this_text, .inl (cy 0, 1600, .inl g_this_text)), (a_this, .inr (5, [.ref a_this_text, .int x_this_length, .int x_this_length, .int x_this_length, .int 0, .int x_this_allowed, .ref a_this_plan, .int v17, .int v18]))] H := hP
    have hD : va_D A [(a_this_text, .inl (cy 0, 1600, .inl g_this_text)), (a_this, .inr (5, [.ref a_this_text, .int x_this_length, .int x_this_length, .int x_this_length, .int 0, .int x_this_allowed, .ref a_this_plan, .int v17, .int v18]))] := hD
    refine lv_goto (tgt := 29) hx hb dX5_needWord_18 (by decide) ?_
    subst hQ; exact k_vret hx hb hr hlk ((x_this_length, x_this_length, 0, v17, v18)) hS ⟨ib_w 0 1600 hx_this_length (by decide), ib_w 0 1600 hx_this_length (by decide), ib_w 0 4 (ib_c 0 0 0 (by decide)) (by decide), fun hq9 => absurd rfl hq9⟩ (hP.sub [1, 0] rfl) (hD.sub [1, 0] (by decide) rfl) (Nat.le_of_ble_eq_true rfl) (Nat.le_of_ble_eq_true rfl) dX5_needWord_29
set_option maxHeartbeats 4000000 in
set_option maxRecDepth 100000 in
theorem s_X5_number_a0_0_a1_99 (l : Launch) (dC : Nat → ClassId) (dI : Nat → Nat → Nat) (cy : Nat → ClassId) (sq : Nat → Nat) (a_this : Nat) (a_this_text : Nat) (g_this_text : Nat → Int32) (x_this_length : Int32) (x_this_at : Int32) (x_this_behind : Int32) (x_this_sort : Int32) (x_this_allowed : Int32) (a_this_plan : Nat) (x_this_fault : Int32) (x_this_place : Int32) (hg_this_text : ia g_this_text 1600 0 255) (hx_this_length : ib x_this_length 0 1600) (hx_this_at : ib x_this_at 0 1600) (hx_this_behind : ib x_this_behind 0 1600) (hx_this_sort : ib x_this_sort 0 4) (hc0_this : ¬ x_this_sort = 0 → ib x_this_at 0 1599) : k_Met l yX5_number cX5_number 5 (some .int) { frames := 2, cells := 0, slots := 0, locals := 43 } dC dI cy sq [.ref a_this, .int 0, .int 99] [(a_this, .inr (5, [.ref a_this_text, .int x_this_length, .int x_this_at, .int x_this_behind, .int x_this_sort, .int x_this_allowed, .ref a_this_plan, .int x_this_fault, .int x_this_place])), (a_this_text, .inl (cy 0, 1600, .inl g_this_text))] (k_Qi dC dI (fun (r : Int32) (u : Int32 × Int32 × Int32 × Int32 × Int32) => match u with | (n0, n1, n2, n3, n4) => ib r 0 99 ∧ ib n0 0 1600 ∧ ib n1 0 1600 ∧ ib n2 0 4 ∧ (¬ n2 = 0 → ib n0 0 1599)) (fun u : Int32 × Int32 × Int32 × Int32 × Int32 => match u with | (n0, n1, n2, n3, n4) => [(a_this, .inr (5, [.ref a_this_text, .int x_this_length, .int n0, .int n1, .int n2, .int x_this_allowed, .ref a_this_plan, .int n3, .int n4])), (a_this_text, .inl (cy 0, 1600, .inl g_this_text))])) := by
  refine k_ofW2 (by decide +kernel) (Nat.le_of_ble_eq_true rfl) ?_
  intro p e s m below meth c A ls H locs args Q hQ C0 hZ hr hlk hin hP hD hA hS hl
  have C0 : k_cx p s m args c cX5_number 5 RX5 dC dI cy sq := C0
  have hx := C0.1
  have hb := C0.2.1
  have hl : lv_has ls 5 [(0, .ref a_this), (1, .int 0), (2, .int 99)] := hl
  have jn94 : ∀ (J94_l3 : Int32) (J94_l4 : Int32) (H : Heap) (locs : List Loc) (ls : Array Slot), ib J94_l4 0 1600 → ib x_this_at 0 1599 → ib x_this_sort 2 2 → va_P (dC, dI) vwCl [(a_this, .inr (5, [.ref a_this_text, .int x_this_length, .int x_this_at, .int x_this_behind, .int x_this_sort, .int x_this_allowed, .ref a_this_plan, .int x_this_fault, .int x_this_place])), (a_this_text, .inl (cy 0, 1600, .inl g_this_text))] H → va_D A [(a_this, .inr (5, [.ref a_this_text, .int x_this_length, .int x_this_at, .int x_this_behind, .int x_this_sort, .int x_this_allowed, .ref a_this_plan, .int x_this_fault, .int x_this_place])), (a_this_text, .inl (cy 0, 1600, .inl g_this_text))] → va_S A s.heap H locs → lv_has ls 5 [(0, .ref a_this), (1, .int 0), (2, .int 99), (3, .int J94_l3), (4, .int J94_l4)] → W p l e { frames := 2, cells := 0, slots := 0, locals := 43 } s m args below meth c H locs 0 0 Q (F0 m 94 ls []) := by
    intro J94_l3 J94_l4 H locs ls hJ94_l4 hK94_x_this_at hK94_x_this_sort hP hD hS hl
    refine lv_aload_n hx hb dX5_number_94 rfl (lv_at hl 0 rfl) ?_
    refine lv_iconst (v := 2) hx hb dX5_number_95 (by decide) ?_
    refine lv_aload_n hx hb dX5_number_96 rfl (lv_at hl 0 rfl) ?_
    refine k_get C0 fg_X5_15 hP 0 rfl rfl dX5_number_97 ?_
    refine k_jv hP hD hS hA [0] [1] (wr := [(a_this_text, .inl (cy 0, 1600, .inl g_this_text))]) rfl rfl (by decide) (by decide) (by decide) 0 0 (Nat.le_of_ble_eq_true rfl) (Nat.le_of_ble_eq_true rfl) (fun hPc hDc => k_runV (As := [.int 2, .int x_this_at]) (rest := []) C0 hZ hS hA (s_X5_fail l dC dI cy sq a_this a_this_text x_this_length x_this_at x_this_behind x_this_sort x_this_allowed a_this_plan x_this_fault x_this_place 2 x_this_at ) mV_X5_78 hPc hDc rfl rfl rfl hl rfl rfl (Nat.le_of_ble_eq_true rfl) ⟨(Nat.le_of_ble_eq_true rfl), (Nat.le_of_ble_eq_true rfl)⟩ ⟨(Nat.le_of_ble_eq_true rfl), (Nat.le_of_ble_eq_true rfl)⟩ dX5_number_100) (fun u2 H locs hw hP hD hS => ?_)
    obtain ⟨v3, v4⟩ := u2
    try dsimp only at hP hD hw
    have hP : va_P (dC, dI) vwCl [(a_this_text, .inl (cy 0, 1600, .inl g_this_text)), (a_this, .inr (5, [.ref a_this_text, .int x_this_length, .int x_this_length, .int x_this_length, .int 0, .int x_this_allowed, .ref a_this_plan, .int v3, .int v4]))] H := hP
    have hD : va_D A [(a_this_text, .inl (cy 0, 1600, .inl g_this_text)), (a_this, .inr (5, [.ref a_this_text, .int x_this_length, .int x_this_length, .int x_this_length, .int 0, .int x_this_allowed, .ref a_this_plan, .int v3, .int v4]))] := hD
    refine lv_iload_n hx hb dX5_number_103 rfl (lv_at hl 1 rfl) ?_
    subst hQ; exact k_iret hx hb hr hlk rfl ((x_this_length, x_this_length, 0, v3, v4)) hS ⟨ib_w 0 99 (ib_c 0 0 0 (by decide)) (by decide), ib_w 0 1600 hx_this_length (by decide), ib_w 0 1600 hx_this_length (by decide), ib_w 0 4 (ib_c 0 0 0 (by decide)) (by decide), fun hq9 => absurd rfl hq9⟩ (hP.sub [1, 0] rfl) (hD.sub [1, 0] (by decide) rfl) (Nat.le_of_ble_eq_true rfl) (Nat.le_of_ble_eq_true rfl) dX5_number_104
  have jn53 : ∀ (n : Nat) (J53_l3 : Int32) (J53_l4 : Int32) (H : Heap) (locs : List Loc) (ls : Array Slot), ib x_this_at 0 1599 → ib x_this_sort 2 2 → ib J53_l4 0 1600 → 1601 ≤ J53_l4.toInt + (n : Int) → va_P (dC, dI) vwCl [(a_this, .inr (5, [.ref a_this_text, .int x_this_length, .int x_this_at, .int x_this_behind, .int x_this_sort, .int x_this_allowed, .ref a_this_plan, .int x_this_fault, .int x_this_place])), (a_this_text, .inl (cy 0, 1600, .inl g_this_text))] H → va_D A [(a_this, .inr (5, [.ref a_this_text, .int x_this_length, .int x_this_at, .int x_this_behind, .int x_this_sort, .int x_this_allowed, .ref a_this_plan, .int x_this_fault, .int x_this_place])), (a_this_text, .inl (cy 0, 1600, .inl g_this_text))] → va_S A s.heap H locs → lv_has ls 5 [(0, .ref a_this), (1, .int 0), (2, .int 99), (3, .int J53_l3), (4, .int J53_l4)] → W p l e { frames := 2, cells := 0, slots := 0, locals := 43 } s m args below meth c H locs 0 0 Q (F0 m 53 ls []) := by
    intro n
    induction n with
    | zero =>
      intro J53_l3 J53_l4 H locs ls hK53_x_this_at hK53_x_this_sort hJ53_l4 hm
      exact absurd hm (by have := hJ53_l4; unfold ib at this; omega)
    | succ n ih =>
      intro J53_l3 J53_l4 H locs ls hK53_x_this_at hK53_x_this_sort hJ53_l4 hm53 hP hD hS hl
      have ih53 := ih
      refine lv_iload hx hb dX5_number_53 (lv_at hl 4 rfl) ?_
      refine lv_aload_n hx hb dX5_number_55 rfl (lv_at hl 0 rfl) ?_
      refine k_get C0 fg_X5_18 hP 0 rfl rfl dX5_number_56 ?_
      refine lv_icmp_ge (tgt := 84) hx hb dX5_number_59 (by decide) (fun c5 => ?_) (fun c5 => ?_)
      · have h6 := ib_le hx_this_behind hJ53_l4 c5
        refine lv_iload_n hx hb dX5_number_84 rfl (lv_at hl 3 rfl) ?_
        refine lv_iload_n hx hb dX5_number_85 rfl (lv_at hl 1 rfl) ?_
        refine lv_icmp_lt (tgt := 94) hx hb dX5_number_86 (by decide) (fun c7 => ?_) (fun c7 => ?_)
        · have h8 := ib_lt (ib_any J53_l3) (ib_c 0 0 0 (by decide)) c7
          have h9 : ib J53_l3 (-2147483648) (-1) := ib_w (-2147483648) (-1) h8.1 (by decide)
          exact jn94 J53_l3 J53_l4 H locs ls (ib_w 0 1600 hJ53_l4 (by decide)) (ib_w 0 1599 hK53_x_this_at (by decide)) (ib_w 2 2 hK53_x_this_sort (by decide)) hP hD hS (lv_sub hl [0, 1, 2, 3, 4] rfl)
        · have h10 := ib_nlt (ib_any J53_l3) (ib_c 0 0 0 (by decide)) c7
          have h11 : ib J53_l3 0 2147483647 := ib_w 0 2147483647 h10.1 (by decide)
          refine lv_iload_n hx hb dX5_number_89 rfl (lv_at hl 3 rfl) ?_
          refine lv_iload_n hx hb dX5_number_90 rfl (lv_at hl 2 rfl) ?_
          refine lv_icmp_le (tgt := 105) hx hb dX5_number_91 (by decide) (fun c12 => ?_) (fun c12 => ?_)
          · have h13 := ib_le h11 (ib_c 99 99 99 (by decide)) c12
            have h14 : ib J53_l3 0 99 := ib_w 0 99 h13.1 (by decide)
            refine lv_aload_n hx hb dX5_number_105 rfl (lv_at hl 0 rfl) ?_
            refine lv_aload_n hx hb dX5_number_106 rfl (lv_at hl 0 rfl) ?_
            refine k_get C0 fg_X5_18 hP 0 rfl rfl dX5_number_107 ?_
            refine k_jv hP hD hS hA [0, 1] [] (wr := []) rfl rfl (by decide) (by decide) (by decide) 0 0 (Nat.le_of_ble_eq_true rfl) (Nat.le_of_ble_eq_true rfl) (fun hPc hDc => k_runV (As := [.int x_this_behind]) (rest := []) C0 hZ hS hA (s_X5_moveTo l dC dI cy sq a_this a_this_text g_this_text x_this_length x_this_at x_this_behind x_this_sort x_this_allowed a_this_plan x_this_fault x_this_place x_this_behind hg_this_text (ib_w 0 1600 hx_this_length (by decide)) (ib_w 0 1600 hx_this_behind (by decide))) mV_X5_86 hPc hDc rfl rfl rfl hl rfl rfl (Nat.le_of_ble_eq_true rfl) ⟨(Nat.le_of_ble_eq_true rfl), (Nat.le_of_ble_eq_true rfl)⟩ ⟨(Nat.le_of_ble_eq_true rfl), (Nat.le_of_ble_eq_true rfl)⟩ dX5_number_110) (fun u16 H locs hw hP hD hS => ?_)
            obtain ⟨v17, v18, v19⟩ := u16
            try dsimp only at hP hD hw
            have hP : va_P (dC, dI) vwCl [(a_this, .inr (5, [.ref a_this_text, .int x_this_length, .int v17, .int v18, .int v19, .int x_this_allowed, .ref a_this_plan, .int x_this_fault, .int x_this_place])), (a_this_text, .inl (cy 0, 1600, .inl g_this_text))] H := hP
            have hD : va_D A [(a_this, .inr (5, [.ref a_this_text, .int x_this_length, .int v17, .int v18, .int v19, .int x_this_allowed, .ref a_this_plan, .int x_this_fault, .int x_this_place])), (a_this_text, .inl (cy 0, 1600, .inl g_this_text))] := hD
            obtain ⟨h20, h21, h22, h23⟩ := hw
            refine lv_iload_n hx hb dX5_number_113 rfl (lv_at hl 3 rfl) ?_
            subst hQ; exact k_iret hx hb hr hlk rfl ((v17, v18, v19, x_this_fault, x_this_place)) hS ⟨ib_w 0 99 h14 (by decide), ib_w 0 1600 h20 (by decide), ib_w 0 1600 h21 (by decide), ib_w 0 4 h22 (by decide), fun hq9 => ib_w 0 1599 (h23 hq9) (by decide)⟩ hP hD (Nat.le_of_ble_eq_true rfl) (Nat.le_of_ble_eq_true rfl) dX5_number_114
          · have h24 := ib_nle h11 (ib_c 99 99 99 (by decide)) c12
            have h25 : ib J53_l3 100 2147483647 := ib_w 100 2147483647 h24.1 (by decide)
            exact jn94 J53_l3 J53_l4 H locs ls (ib_w 0 1600 hJ53_l4 (by decide)) (ib_w 0 1599 hK53_x_this_at (by decide)) (ib_w 2 2 hK53_x_this_sort (by decide)) hP hD hS (lv_sub hl [0, 1, 2, 3, 4] rfl)
      · have h26 := ib_nle hx_this_behind hJ53_l4 c5
        have h27 : ib x_this_behind 1 1600 := ib_w 1 1600 h26.1 (by decide)
        have h28 : ib J53_l4 0 1599 := ib_w 0 1599 h26.2 (by decide)
        refine lv_iload_n hx hb dX5_number_62 rfl (lv_at hl 3 rfl) ?_
        refine lv_bipush (v := 10) hx hb dX5_number_63 (by decide) ?_
        refine lv_imul hx hb dX5_number_65 ?_
        refine lv_topi (fun z29 ez29 => ?_)
        refine lv_aload_n hx hb dX5_number_66 rfl (lv_at hl 0 rfl) ?_
        refine k_get C0 fg_X5_33 hP 0 rfl rfl dX5_number_67 ?_
        refine lv_iload hx hb dX5_number_70 (lv_at hl 4 rfl) ?_
        refine va_iald hx hb C0.2.2.2.2.2.1 hP 1 0 rfl rfl (ib_in 1600 h28 (by decide)) dX5_number_72 ?_
        refine lv_topi (fun z30 ez30 => ?_)
        have h31 : ib z30 0 255 := by rw [ez30]; exact ia_at hg_this_text (ib_in 1600 h28 (by decide))
        refine lv_iadd hx hb dX5_number_73 ?_
        refine lv_topi (fun z32 ez32 => ?_)
        refine lv_bipush (v := 48) hx hb dX5_number_74 (by decide) ?_
        refine lv_isub hx hb dX5_number_76 ?_
        refine lv_topi (fun z33 ez33 => ?_)
        refine lv_istore_n (lv' := [(3, .int z33), (0, .ref a_this), (1, .int 0), (2, .int 99), (4, .int J53_l4)]) hx hb dX5_number_77 rfl hl (by decide) rfl (fun ls hl => ?_)
        obtain ⟨z34, ez34⟩ : ∃ y : Int32, y = J53_l4 + 1 := ⟨_, rfl⟩
        refine lv_iinc (v := z34) (lv' := [(4, .int z34), (3, .int z33), (0, .ref a_this), (1, .int 0), (2, .int 99)]) hx hb dX5_number_78 hl (k := 4) rfl (by rw [ez34]; rfl) (by decide) rfl (fun ls hl => ?_)
        have h35 := ib_add h28 (ib_c 1 1 1 (by decide)) (by decide)
        rw [← ez34] at h35
        have h36 : ib z34 1 1600 := ib_w 1 1600 h35.1 (by decide)
        refine lv_goto (tgt := 53) hx hb dX5_number_81 (by decide) ?_
        exact ih53 z33 z34 H locs ls (ib_w 0 1599 hK53_x_this_at (by decide)) (ib_w 2 2 hK53_x_this_sort (by decide)) (ib_w 0 1600 h36 (by decide)) (by have := h35.2; have : (1 : Int32).toInt = 1 := (by decide); omega) hP hD hS (lv_sub hl [2, 3, 4, 1, 0] rfl)
  refine lv_aload_n hx hb dX5_number_0 rfl (lv_at hl 0 rfl) ?_
  refine k_get C0 fg_X5_21 hP 0 rfl rfl dX5_number_1 ?_
  refine lv_iconst (v := 2) hx hb dX5_number_4 (by decide) ?_
  refine lv_icmp_eq (tgt := 19) hx hb dX5_number_5 (by decide) (fun c37 => ?_) (fun c37 => ?_)
  · have h38 := ib_eq hx_this_sort (ib_c 2 2 2 (by decide)) c37
    have h39 : ib x_this_sort 2 2 := ib_w 2 2 h38.1 (by decide)
    have h40 : ib x_this_at 0 1599 := ib_w 0 1599 (ib_two hx_this_at (hc0_this (ib_nz h39 (by decide)))) (by decide)
    refine lv_aload_n hx hb dX5_number_19 rfl (lv_at hl 0 rfl) ?_
    refine k_get C0 fg_X5_18 hP 0 rfl rfl dX5_number_20 ?_
    refine lv_aload_n hx hb dX5_number_23 rfl (lv_at hl 0 rfl) ?_
    refine k_get C0 fg_X5_15 hP 0 rfl rfl dX5_number_24 ?_
    refine lv_isub hx hb dX5_number_27 ?_
    refine lv_topi (fun z41 ez41 => ?_)
    have h42 := ib_sub hx_this_behind h40 (by decide)
    rw [← ez41] at h42
    have h43 : ib z41 (-1599) 1600 := ib_w (-1599) 1600 h42.1 (by decide)
    refine lv_iconst (v := 4) hx hb dX5_number_28 (by decide) ?_
    refine lv_icmp_le (tgt := 45) hx hb dX5_number_29 (by decide) (fun c44 => ?_) (fun c44 => ?_)
    · have h45 := ib_le h43 (ib_c 4 4 4 (by decide)) c44
      have h46 : ib z41 (-1599) 4 := ib_w (-1599) 4 h45.1 (by decide)
      refine lv_iconst (v := 0) hx hb dX5_number_45 (by decide) ?_
      refine lv_istore_n (lv' := [(3, .int 0), (0, .ref a_this), (1, .int 0), (2, .int 99)]) hx hb dX5_number_46 rfl hl (by decide) rfl (fun ls hl => ?_)
      refine lv_aload_n hx hb dX5_number_47 rfl (lv_at hl 1 rfl) ?_
      refine k_get C0 fg_X5_15 hP 0 rfl rfl dX5_number_48 ?_
      refine lv_istore (lv' := [(4, .int x_this_at), (3, .int 0), (0, .ref a_this), (1, .int 0), (2, .int 99)]) hx hb dX5_number_51 hl (by decide) rfl (fun ls hl => ?_)
      exact jn53 1602 0 x_this_at H locs ls (ib_w 0 1599 h40 (by decide)) (ib_w 2 2 h39 (by decide)) (ib_w 0 1600 h40 (by decide)) (by have := h40; unfold ib at this; omega) hP hD hS (lv_sub hl [2, 3, 4, 1, 0] rfl)
    · have h47 := ib_nle h43 (ib_c 4 4 4 (by decide)) c44
      have h48 : ib z41 5 1600 := ib_w 5 1600 h47.1 (by decide)
      refine lv_aload_n hx hb dX5_number_32 rfl (lv_at hl 0 rfl) ?_
      refine lv_iconst (v := 1) hx hb dX5_number_33 (by decide) ?_
      refine lv_aload_n hx hb dX5_number_34 rfl (lv_at hl 0 rfl) ?_
      refine k_get C0 fg_X5_15 hP 0 rfl rfl dX5_number_35 ?_
      refine lv_iconst (v := 4) hx hb dX5_number_38 (by decide) ?_
      refine lv_iadd hx hb dX5_number_39 ?_
      refine lv_topi (fun z49 ez49 => ?_)
      have h50 := ib_add h40 (ib_c 4 4 4 (by decide)) (by decide)
      rw [← ez49] at h50
      have h51 : ib z49 4 1603 := ib_w 4 1603 h50.1 (by decide)
      refine k_jv hP hD hS hA [0] [1] (wr := [(a_this_text, .inl (cy 0, 1600, .inl g_this_text))]) rfl rfl (by decide) (by decide) (by decide) 0 0 (Nat.le_of_ble_eq_true rfl) (Nat.le_of_ble_eq_true rfl) (fun hPc hDc => k_runV (As := [.int 1, .int z49]) (rest := []) C0 hZ hS hA (s_X5_fail l dC dI cy sq a_this a_this_text x_this_length x_this_at x_this_behind x_this_sort x_this_allowed a_this_plan x_this_fault x_this_place 1 z49 ) mV_X5_78 hPc hDc rfl rfl rfl hl rfl rfl (Nat.le_of_ble_eq_true rfl) ⟨(Nat.le_of_ble_eq_true rfl), (Nat.le_of_ble_eq_true rfl)⟩ ⟨(Nat.le_of_ble_eq_true rfl), (Nat.le_of_ble_eq_true rfl)⟩ dX5_number_40) (fun u53 H locs hw hP hD hS => ?_)
      obtain ⟨v54, v55⟩ := u53
      try dsimp only at hP hD hw
      have hP : va_P (dC, dI) vwCl [(a_this_text, .inl (cy 0, 1600, .inl g_this_text)), (a_this, .inr (5, [.ref a_this_text, .int x_this_length, .int x_this_length, .int x_this_length, .int 0, .int x_this_allowed, .ref a_this_plan, .int v54, .int v55]))] H := hP
      have hD : va_D A [(a_this_text, .inl (cy 0, 1600, .inl g_this_text)), (a_this, .inr (5, [.ref a_this_text, .int x_this_length, .int x_this_length, .int x_this_length, .int 0, .int x_this_allowed, .ref a_this_plan, .int v54, .int v55]))] := hD
      refine lv_iload_n hx hb dX5_number_43 rfl (lv_at hl 1 rfl) ?_
      subst hQ; exact k_iret hx hb hr hlk rfl ((x_this_length, x_this_length, 0, v54, v55)) hS ⟨ib_w 0 99 (ib_c 0 0 0 (by decide)) (by decide), ib_w 0 1600 hx_this_length (by decide), ib_w 0 1600 hx_this_length (by decide), ib_w 0 4 (ib_c 0 0 0 (by decide)) (by decide), fun hq9 => absurd rfl hq9⟩ (hP.sub [1, 0] rfl) (hD.sub [1, 0] (by decide) rfl) (Nat.le_of_ble_eq_true rfl) (Nat.le_of_ble_eq_true rfl) dX5_number_44
  · skip
    refine lv_aload_n hx hb dX5_number_8 rfl (lv_at hl 0 rfl) ?_
    refine lv_iconst (v := 1) hx hb dX5_number_9 (by decide) ?_
    refine lv_aload_n hx hb dX5_number_10 rfl (lv_at hl 0 rfl) ?_
    refine k_get C0 fg_X5_15 hP 0 rfl rfl dX5_number_11 ?_
    refine k_jv hP hD hS hA [0] [1] (wr := [(a_this_text, .inl (cy 0, 1600, .inl g_this_text))]) rfl rfl (by decide) (by decide) (by decide) 0 0 (Nat.le_of_ble_eq_true rfl) (Nat.le_of_ble_eq_true rfl) (fun hPc hDc => k_runV (As := [.int 1, .int x_this_at]) (rest := []) C0 hZ hS hA (s_X5_fail l dC dI cy sq a_this a_this_text x_this_length x_this_at x_this_behind x_this_sort x_this_allowed a_this_plan x_this_fault x_this_place 1 x_this_at ) mV_X5_78 hPc hDc rfl rfl rfl hl rfl rfl (Nat.le_of_ble_eq_true rfl) ⟨(Nat.le_of_ble_eq_true rfl), (Nat.le_of_ble_eq_true rfl)⟩ ⟨(Nat.le_of_ble_eq_true rfl), (Nat.le_of_ble_eq_true rfl)⟩ dX5_number_14) (fun u57 H locs hw hP hD hS => ?_)
    obtain ⟨v58, v59⟩ := u57
    try dsimp only at hP hD hw
    have hP : va_P (dC, dI) vwCl [(a_this_text, .inl (cy 0, 1600, .inl g_this_text)), (a_this, .inr (5, [.ref a_this_text, .int x_this_length, .int x_this_length, .int x_this_length, .int 0, .int x_this_allowed, .ref a_this_plan, .int v58, .int v59]))] H := hP
    have hD : va_D A [(a_this_text, .inl (cy 0, 1600, .inl g_this_text)), (a_this, .inr (5, [.ref a_this_text, .int x_this_length, .int x_this_length, .int x_this_length, .int 0, .int x_this_allowed, .ref a_this_plan, .int v58, .int v59]))] := hD
    refine lv_iload_n hx hb dX5_number_17 rfl (lv_at hl 1 rfl) ?_
    subst hQ; exact k_iret hx hb hr hlk rfl ((x_this_length, x_this_length, 0, v58, v59)) hS ⟨ib_w 0 99 (ib_c 0 0 0 (by decide)) (by decide), ib_w 0 1600 hx_this_length (by decide), ib_w 0 1600 hx_this_length (by decide), ib_w 0 4 (ib_c 0 0 0 (by decide)) (by decide), fun hq9 => absurd rfl hq9⟩ (hP.sub [1, 0] rfl) (hD.sub [1, 0] (by decide) rfl) (Nat.le_of_ble_eq_true rfl) (Nat.le_of_ble_eq_true rfl) dX5_number_18
set_option maxHeartbeats 4000000 in
set_option maxRecDepth 100000 in
theorem s_X5_numberBehind_a1_0_a2_99_s6 (l : Launch) (dC : Nat → ClassId) (dI : Nat → Nat → Nat) (cy : Nat → ClassId) (sq : Nat → Nat) (a_this : Nat) (a_this_text : Nat) (g_this_text : Nat → Int32) (x_this_length : Int32) (x_this_at : Int32) (x_this_behind : Int32) (x_this_sort : Int32) (x_this_allowed : Int32) (a_this_plan : Nat) (x_this_fault : Int32) (x_this_place : Int32) (hg_this_text : ia g_this_text 1600 0 255) (hx_this_length : ib x_this_length 0 1600) (hx_this_at : ib x_this_at 0 1600) (hx_this_behind : ib x_this_behind 0 1600) (hx_this_sort : ib x_this_sort 0 4) (hc0_this : ¬ x_this_sort = 0 → ib x_this_at 0 1599) : k_Met l yX5_numberBehind cX5_numberBehind 4 (some .int) { frames := 6, cells := 0, slots := 0, locals := 187 } dC dI cy sq [.ref a_this, .ref (sq 6), .int 0, .int 99] [(a_this, .inr (5, [.ref a_this_text, .int x_this_length, .int x_this_at, .int x_this_behind, .int x_this_sort, .int x_this_allowed, .ref a_this_plan, .int x_this_fault, .int x_this_place])), (a_this_text, .inl (cy 0, 1600, .inl g_this_text))] (k_Qi dC dI (fun (r : Int32) (u : Int32 × Int32 × Int32 × Int32 × Int32) => match u with | (n0, n1, n2, n3, n4) => ib r 0 99 ∧ ib n0 0 1600 ∧ ib n1 0 1600 ∧ ib n2 0 4 ∧ (¬ n2 = 0 → ib n0 0 1599)) (fun u : Int32 × Int32 × Int32 × Int32 × Int32 => match u with | (n0, n1, n2, n3, n4) => [(a_this, .inr (5, [.ref a_this_text, .int x_this_length, .int n0, .int n1, .int n2, .int x_this_allowed, .ref a_this_plan, .int n3, .int n4])), (a_this_text, .inl (cy 0, 1600, .inl g_this_text))])) := by
  refine k_ofW2 (by decide +kernel) (Nat.le_of_ble_eq_true rfl) ?_
  intro p e s m below meth c A ls H locs args Q hQ C0 hZ hr hlk hin hP hD hA hS hl
  have C0 : k_cx p s m args c cX5_numberBehind 4 RX5 dC dI cy sq := C0
  have hx := C0.1
  have hb := C0.2.1
  have hl : lv_has ls 4 [(0, .ref a_this), (1, .ref (sq 6)), (2, .int 0), (3, .int 99)] := hl
  refine lv_aload_n hx hb dX5_numberBehind_0 rfl (lv_at hl 0 rfl) ?_
  refine lv_aload_n hx hb dX5_numberBehind_1 rfl (lv_at hl 1 rfl) ?_
  refine k_jv hP hD hS hA [0, 1] [] (wr := []) rfl rfl (by decide) (by decide) (by decide) 0 0 (Nat.le_of_ble_eq_true rfl) (Nat.le_of_ble_eq_true rfl) (fun hPc hDc => k_runV (As := [.ref (sq 6)]) (rest := []) C0 hZ hS hA (s_X5_needWord_s6 l dC dI cy sq a_this a_this_text g_this_text x_this_length x_this_at x_this_behind x_this_sort x_this_allowed a_this_plan x_this_fault x_this_place hg_this_text (ib_w 0 1600 hx_this_length (by decide)) (ib_w 0 1600 hx_this_at (by decide)) (ib_w 0 1600 hx_this_behind (by decide)) (ib_w 0 4 hx_this_sort (by decide)) (fun hq9 => ib_w 0 1599 (hc0_this hq9) (by decide))) mV_X5_144 hPc hDc rfl rfl rfl hl rfl rfl (Nat.le_of_ble_eq_true rfl) ⟨(Nat.le_of_ble_eq_true rfl), (Nat.le_of_ble_eq_true rfl)⟩ ⟨(Nat.le_of_ble_eq_true rfl), (Nat.le_of_ble_eq_true rfl)⟩ dX5_numberBehind_2) (fun u2 H locs hw hP hD hS => ?_)
  obtain ⟨v3, v4, v5, v6, v7⟩ := u2
  try dsimp only at hP hD hw
  have hP : va_P (dC, dI) vwCl [(a_this, .inr (5, [.ref a_this_text, .int x_this_length, .int v3, .int v4, .int v5, .int x_this_allowed, .ref a_this_plan, .int v6, .int v7])), (a_this_text, .inl (cy 0, 1600, .inl g_this_text))] H := hP
  have hD : va_D A [(a_this, .inr (5, [.ref a_this_text, .int x_this_length, .int v3, .int v4, .int v5, .int x_this_allowed, .ref a_this_plan, .int v6, .int v7])), (a_this_text, .inl (cy 0, 1600, .inl g_this_text))] := hD
  obtain ⟨h8, h9, h10, h11⟩ := hw
  refine lv_aload_n hx hb dX5_numberBehind_5 rfl (lv_at hl 0 rfl) ?_
  refine lv_iload_n hx hb dX5_numberBehind_6 rfl (lv_at hl 2 rfl) ?_
  refine lv_iload_n hx hb dX5_numberBehind_7 rfl (lv_at hl 3 rfl) ?_
  refine k_ji hP hD hS hA [0, 1] [] (wr := []) rfl rfl (by decide) (by decide) (by decide) 0 0 (Nat.le_of_ble_eq_true rfl) (Nat.le_of_ble_eq_true rfl) (fun hPc hDc => k_runV (As := [.int 0, .int 99]) (rest := []) C0 hZ hS hA (s_X5_number_a0_0_a1_99 l dC dI cy sq a_this a_this_text g_this_text x_this_length v3 v4 v5 x_this_allowed a_this_plan v6 v7 hg_this_text (ib_w 0 1600 hx_this_length (by decide)) (ib_w 0 1600 h8 (by decide)) (ib_w 0 1600 h9 (by decide)) (ib_w 0 4 h10 (by decide)) (fun hq9 => ib_w 0 1599 (h11 hq9) (by decide))) mV_X5_168 hPc hDc rfl rfl rfl hl rfl rfl (Nat.le_of_ble_eq_true rfl) ⟨(Nat.le_of_ble_eq_true rfl), (Nat.le_of_ble_eq_true rfl)⟩ ⟨(Nat.le_of_ble_eq_true rfl), (Nat.le_of_ble_eq_true rfl)⟩ dX5_numberBehind_8) (fun r12 u13 H locs hw hP hD hS => ?_)
  obtain ⟨v14, v15, v16, v17, v18⟩ := u13
  try dsimp only at hP hD hw
  have hP : va_P (dC, dI) vwCl [(a_this, .inr (5, [.ref a_this_text, .int x_this_length, .int v14, .int v15, .int v16, .int x_this_allowed, .ref a_this_plan, .int v17, .int v18])), (a_this_text, .inl (cy 0, 1600, .inl g_this_text))] H := hP
  have hD : va_D A [(a_this, .inr (5, [.ref a_this_text, .int x_this_length, .int v14, .int v15, .int v16, .int x_this_allowed, .ref a_this_plan, .int v17, .int v18])), (a_this_text, .inl (cy 0, 1600, .inl g_this_text))] := hD
  obtain ⟨h19, h20, h21, h22, h23⟩ := hw
  subst hQ; exact k_iret hx hb hr hlk rfl ((v14, v15, v16, v17, v18)) hS ⟨ib_w 0 99 h19 (by decide), ib_w 0 1600 h20 (by decide), ib_w 0 1600 h21 (by decide), ib_w 0 4 h22 (by decide), fun hq9 => ib_w 0 1599 (h23 hq9) (by decide)⟩ hP hD (Nat.le_of_ble_eq_true rfl) (Nat.le_of_ble_eq_true rfl) dX5_numberBehind_11
set_option maxHeartbeats 4000000 in
set_option maxRecDepth 100000 in
theorem s_X5_firstStatement (l : Launch) (dC : Nat → ClassId) (dI : Nat → Nat → Nat) (cy : Nat → ClassId) (sq : Nat → Nat) (a_this : Nat) (a_this_text : Nat) (g_this_text : Nat → Int32) (x_this_length : Int32) (x_this_at : Int32) (x_this_behind : Int32) (x_this_sort : Int32) (x_this_allowed : Int32) (a_this_plan : Nat) (x_this_plan_cycle : Int32) (x_this_plan_green : Int32) (x_this_plan_rule : Int32) (x_this_plan_least : Int32) (x_this_plan_away : Int32) (x_this_plan_statements : Int32) (x_this_plan_kinds : Int32) (a_this_plan_calm : Nat) (a_this_plan_pace : Nat) (a_this_plan_trusts : Nat) (x_this_plan_walkers : Int32) (a_this_plan_kindOf : Nat) (a_this_plan_comesAt : Nat) (a_this_plan_comers : Nat) (a_this_plan_names : Nat) (a_this_plan_code : Nat) (x_this_plan_size : Int32) (a_this_plan_spans : Nat) (x_this_fault : Int32) (x_this_place : Int32) (hg_this_text : ia g_this_text 1600 0 255) (hx_this_length : ib x_this_length 0 1600) (hx_this_at : ib x_this_at 0 1600) (hx_this_behind : ib x_this_behind 0 1600) (hx_this_sort : ib x_this_sort 0 4) (hc0_this : ¬ x_this_sort = 0 → ib x_this_at 0 1599) : k_Met l yX5_firstStatement cX5_firstStatement 1 none { frames := 7, cells := 0, slots := 0, locals := 210 } dC dI cy sq [.ref a_this] [(a_this, .inr (5, [.ref a_this_text, .int x_this_length, .int x_this_at, .int x_this_behind, .int x_this_sort, .int x_this_allowed, .ref a_this_plan, .int x_this_fault, .int x_this_place])), (a_this_text, .inl (cy 0, 1600, .inl g_this_text)), (a_this_plan, .inr (4, [.int x_this_plan_cycle, .int x_this_plan_green, .int x_this_plan_rule, .int x_this_plan_least, .int x_this_plan_away, .int x_this_plan_statements, .int x_this_plan_kinds, .ref a_this_plan_calm, .ref a_this_plan_pace, .ref a_this_plan_trusts, .int x_this_plan_walkers, .ref a_this_plan_kindOf, .ref a_this_plan_comesAt, .ref a_this_plan_comers, .ref a_this_plan_names, .ref a_this_plan_code, .int x_this_plan_size, .ref a_this_plan_spans]))] (k_Qv dC dI (fun (u : Int32 × Int32 × Int32 × Int32 × Int32 × Int32 × Int32 × Int32 × Int32) => match u with | (n0, n1, n2, n3, n4, n5, n6, n7, n8) => ib n0 0 1600 ∧ ib n1 0 1600 ∧ ib n2 0 4 ∧ ib n5 10 120 ∧ ib n6 1 2147483647 ∧ ib n7 0 2 ∧ ib n8 0 99 ∧ (¬ n2 = 0 → ib n0 0 1599)) (fun u : Int32 × Int32 × Int32 × Int32 × Int32 × Int32 × Int32 × Int32 × Int32 => match u with | (n0, n1, n2, n3, n4, n5, n6, n7, n8) => [(a_this, .inr (5, [.ref a_this_text, .int x_this_length, .int n0, .int n1, .int n2, .int x_this_allowed, .ref a_this_plan, .int n3, .int n4])), (a_this_text, .inl (cy 0, 1600, .inl g_this_text)), (a_this_plan, .inr (4, [.int n5, .int n6, .int n7, .int n8, .int x_this_plan_away, .int x_this_plan_statements, .int x_this_plan_kinds, .ref a_this_plan_calm, .ref a_this_plan_pace, .ref a_this_plan_trusts, .int x_this_plan_walkers, .ref a_this_plan_kindOf, .ref a_this_plan_comesAt, .ref a_this_plan_comers, .ref a_this_plan_names, .ref a_this_plan_code, .int x_this_plan_size, .ref a_this_plan_spans]))])) := by
  refine k_ofW2 (by decide +kernel) (Nat.le_of_ble_eq_true rfl) ?_
  intro p e s m below meth c A ls H locs args Q hQ C0 hZ hr hlk hin hP hD hA hS hl
  have C0 : k_cx p s m args c cX5_firstStatement 1 RX5 dC dI cy sq := C0
  have hx := C0.1
  have hb := C0.2.1
  have hl : lv_has ls 1 [(0, .ref a_this)] := hl
  refine lv_aload_n hx hb dX5_firstStatement_0 rfl (lv_at hl 0 rfl) ?_
  refine k_get C0 fg_X5_37 hP 0 rfl rfl dX5_firstStatement_1 ?_
  refine lv_aload_n hx hb dX5_firstStatement_4 rfl (lv_at hl 0 rfl) ?_
  refine va_ldcS hx hb C0.2.2.2.1 (C0.2.2.2.2.2.2.2.2.2.2.2.2 3 (by decide)) dX5_firstStatement_5 ?_
  refine lv_bipush (v := 10) hx hb dX5_firstStatement_7 (by decide) ?_
  refine lv_bipush (v := 120) hx hb dX5_firstStatement_9 (by decide) ?_
  refine k_ji hP hD hS hA [0, 1] [2] (wr := [(a_this_plan, .inr (4, [.int x_this_plan_cycle, .int x_this_plan_green, .int x_this_plan_rule, .int x_this_plan_least, .int x_this_plan_away, .int x_this_plan_statements, .int x_this_plan_kinds, .ref a_this_plan_calm, .ref a_this_plan_pace, .ref a_this_plan_trusts, .int x_this_plan_walkers, .ref a_this_plan_kindOf, .ref a_this_plan_comesAt, .ref a_this_plan_comers, .ref a_this_plan_names, .ref a_this_plan_code, .int x_this_plan_size, .ref a_this_plan_spans]))]) rfl rfl (by decide) (by decide) (by decide) 0 0 (Nat.le_of_ble_eq_true rfl) (Nat.le_of_ble_eq_true rfl) (fun hPc hDc => k_runV (As := [.ref (sq 3), .int 10, .int 120]) (rest := [.ref a_this_plan]) C0 hZ hS hA (s_X5_numberBehind_a1_10_a2_120_s3 l dC dI cy sq a_this a_this_text g_this_text x_this_length x_this_at x_this_behind x_this_sort x_this_allowed a_this_plan x_this_fault x_this_place hg_this_text (ib_w 0 1600 hx_this_length (by decide)) (ib_w 0 1600 hx_this_at (by decide)) (ib_w 0 1600 hx_this_behind (by decide)) (ib_w 0 4 hx_this_sort (by decide)) (fun hq9 => ib_w 0 1599 (hc0_this hq9) (by decide))) mV_X5_70 hPc hDc rfl rfl rfl hl rfl rfl (Nat.le_of_ble_eq_true rfl) ⟨(Nat.le_of_ble_eq_true rfl), (Nat.le_of_ble_eq_true rfl)⟩ ⟨(Nat.le_of_ble_eq_true rfl), (Nat.le_of_ble_eq_true rfl)⟩ dX5_firstStatement_11) (fun r1 u2 H locs hw hP hD hS => ?_)
  obtain ⟨v3, v4, v5, v6, v7⟩ := u2
  try dsimp only at hP hD hw
  have hP : va_P (dC, dI) vwCl [(a_this_plan, .inr (4, [.int x_this_plan_cycle, .int x_this_plan_green, .int x_this_plan_rule, .int x_this_plan_least, .int x_this_plan_away, .int x_this_plan_statements, .int x_this_plan_kinds, .ref a_this_plan_calm, .ref a_this_plan_pace, .ref a_this_plan_trusts, .int x_this_plan_walkers, .ref a_this_plan_kindOf, .ref a_this_plan_comesAt, .ref a_this_plan_comers, .ref a_this_plan_names, .ref a_this_plan_code, .int x_this_plan_size, .ref a_this_plan_spans])), (a_this, .inr (5, [.ref a_this_text, .int x_this_length, .int v3, .int v4, .int v5, .int x_this_allowed, .ref a_this_plan, .int v6, .int v7])), (a_this_text, .inl (cy 0, 1600, .inl g_this_text))] H := hP
  have hD : va_D A [(a_this_plan, .inr (4, [.int x_this_plan_cycle, .int x_this_plan_green, .int x_this_plan_rule, .int x_this_plan_least, .int x_this_plan_away, .int x_this_plan_statements, .int x_this_plan_kinds, .ref a_this_plan_calm, .ref a_this_plan_pace, .ref a_this_plan_trusts, .int x_this_plan_walkers, .ref a_this_plan_kindOf, .ref a_this_plan_comesAt, .ref a_this_plan_comers, .ref a_this_plan_names, .ref a_this_plan_code, .int x_this_plan_size, .ref a_this_plan_spans])), (a_this, .inr (5, [.ref a_this_text, .int x_this_length, .int v3, .int v4, .int v5, .int x_this_allowed, .ref a_this_plan, .int v6, .int v7])), (a_this_text, .inl (cy 0, 1600, .inl g_this_text))] := hD
  obtain ⟨h8, h9, h10, h11, h12⟩ := hw
  refine k_put C0 fp_X5_107 hP hD hS 0 rfl rfl rfl (Nat.le_of_ble_eq_true rfl) dX5_firstStatement_14 (fun H locs hP hD hS => ?_)
  have hP : va_P (dC, dI) vwCl [(a_this_plan, .inr (4, [.int r1, .int x_this_plan_green, .int x_this_plan_rule, .int x_this_plan_least, .int x_this_plan_away, .int x_this_plan_statements, .int x_this_plan_kinds, .ref a_this_plan_calm, .ref a_this_plan_pace, .ref a_this_plan_trusts, .int x_this_plan_walkers, .ref a_this_plan_kindOf, .ref a_this_plan_comesAt, .ref a_this_plan_comers, .ref a_this_plan_names, .ref a_this_plan_code, .int x_this_plan_size, .ref a_this_plan_spans])), (a_this, .inr (5, [.ref a_this_text, .int x_this_length, .int v3, .int v4, .int v5, .int x_this_allowed, .ref a_this_plan, .int v6, .int v7])), (a_this_text, .inl (cy 0, 1600, .inl g_this_text))] H := hP
  have hD : va_D A [(a_this_plan, .inr (4, [.int r1, .int x_this_plan_green, .int x_this_plan_rule, .int x_this_plan_least, .int x_this_plan_away, .int x_this_plan_statements, .int x_this_plan_kinds, .ref a_this_plan_calm, .ref a_this_plan_pace, .ref a_this_plan_trusts, .int x_this_plan_walkers, .ref a_this_plan_kindOf, .ref a_this_plan_comesAt, .ref a_this_plan_comers, .ref a_this_plan_names, .ref a_this_plan_code, .int x_this_plan_size, .ref a_this_plan_spans])), (a_this, .inr (5, [.ref a_this_text, .int x_this_length, .int v3, .int v4, .int v5, .int x_this_allowed, .ref a_this_plan, .int v6, .int v7])), (a_this_text, .inl (cy 0, 1600, .inl g_this_text))] := hD
  refine lv_aload_n hx hb dX5_firstStatement_17 rfl (lv_at hl 0 rfl) ?_
  refine k_get C0 fg_X5_37 hP 1 rfl rfl dX5_firstStatement_18 ?_
  refine lv_aload_n hx hb dX5_firstStatement_21 rfl (lv_at hl 0 rfl) ?_
  refine va_ldcS hx hb C0.2.2.2.1 (C0.2.2.2.2.2.2.2.2.2.2.2.2 4 (by decide)) dX5_firstStatement_22 ?_
  refine lv_iconst (v := 1) hx hb dX5_firstStatement_24 (by decide) ?_
  refine lv_bipush (v := 60) hx hb dX5_firstStatement_25 (by decide) ?_
  refine lv_aload_n hx hb dX5_firstStatement_27 rfl (lv_at hl 0 rfl) ?_
  refine k_get C0 fg_X5_37 hP 1 rfl rfl dX5_firstStatement_28 ?_
  refine k_get C0 fg_X5_107 hP 0 rfl rfl dX5_firstStatement_31 ?_
  refine lv_iconst (v := 1) hx hb dX5_firstStatement_34 (by decide) ?_
  refine lv_isub hx hb dX5_firstStatement_35 ?_
  refine lv_topi (fun z13 ez13 => ?_)
  have h14 := ib_sub h8 (ib_c 1 1 1 (by decide)) (by decide)
  rw [← ez13] at h14
  have h15 : ib z13 9 119 := ib_w 9 119 h14.1 (by decide)
  refine va_mmin hx hb (by rw [C0.2.2.1]; exact hl.1.symm) C0.2.2.2.1 (C0.2.2.2.2.1 _ wd297) (C0.2.2.2.2.1 _ wd298) (C0.2.2.2.2.1 _ wd299) (C0.2.2.2.2.1 _ wd300) (Nat.le_of_ble_eq_true rfl) (Nat.le_of_ble_eq_true rfl) (Nat.le_of_ble_eq_true rfl) (Nat.le_of_ble_eq_true rfl) dX5_firstStatement_36 ?_
  refine lv_topi (fun z16 ez16 => ?_)
  have h17 : ib z16 9 60 := by rw [ez16]; exact ib_w 9 60 (ib_min (ib_c 60 60 60 (by decide)) h15) (by decide)
  refine k_ji hP hD hS hA [1, 2] [0] (wr := [(a_this_plan, .inr (4, [.int r1, .int x_this_plan_green, .int x_this_plan_rule, .int x_this_plan_least, .int x_this_plan_away, .int x_this_plan_statements, .int x_this_plan_kinds, .ref a_this_plan_calm, .ref a_this_plan_pace, .ref a_this_plan_trusts, .int x_this_plan_walkers, .ref a_this_plan_kindOf, .ref a_this_plan_comesAt, .ref a_this_plan_comers, .ref a_this_plan_names, .ref a_this_plan_code, .int x_this_plan_size, .ref a_this_plan_spans]))]) rfl rfl (by decide) (by decide) (by decide) 0 0 (Nat.le_of_ble_eq_true rfl) (Nat.le_of_ble_eq_true rfl) (fun hPc hDc => k_runV (As := [.ref (sq 4), .int 1, .int z16]) (rest := [.ref a_this_plan]) C0 hZ hS hA (s_X5_numberBehind_a1_1_s4 l dC dI cy sq a_this a_this_text g_this_text x_this_length v3 v4 v5 x_this_allowed a_this_plan v6 v7 z16 hg_this_text (ib_w 0 1600 hx_this_length (by decide)) (ib_w 0 1600 h9 (by decide)) (ib_w 0 1600 h10 (by decide)) (ib_w 0 4 h11 (by decide)) (fun hq9 => ib_w 0 1599 (h12 hq9) (by decide))) mV_X5_70 hPc hDc rfl rfl rfl hl rfl rfl (Nat.le_of_ble_eq_true rfl) ⟨(Nat.le_of_ble_eq_true rfl), (Nat.le_of_ble_eq_true rfl)⟩ ⟨(Nat.le_of_ble_eq_true rfl), (Nat.le_of_ble_eq_true rfl)⟩ dX5_firstStatement_39) (fun r18 u19 H locs hw hP hD hS => ?_)
  obtain ⟨v20, v21, v22, v23, v24⟩ := u19
  try dsimp only at hP hD hw
  have hP : va_P (dC, dI) vwCl [(a_this_plan, .inr (4, [.int r1, .int x_this_plan_green, .int x_this_plan_rule, .int x_this_plan_least, .int x_this_plan_away, .int x_this_plan_statements, .int x_this_plan_kinds, .ref a_this_plan_calm, .ref a_this_plan_pace, .ref a_this_plan_trusts, .int x_this_plan_walkers, .ref a_this_plan_kindOf, .ref a_this_plan_comesAt, .ref a_this_plan_comers, .ref a_this_plan_names, .ref a_this_plan_code, .int x_this_plan_size, .ref a_this_plan_spans])), (a_this, .inr (5, [.ref a_this_text, .int x_this_length, .int v20, .int v21, .int v22, .int x_this_allowed, .ref a_this_plan, .int v23, .int v24])), (a_this_text, .inl (cy 0, 1600, .inl g_this_text))] H := hP
  have hD : va_D A [(a_this_plan, .inr (4, [.int r1, .int x_this_plan_green, .int x_this_plan_rule, .int x_this_plan_least, .int x_this_plan_away, .int x_this_plan_statements, .int x_this_plan_kinds, .ref a_this_plan_calm, .ref a_this_plan_pace, .ref a_this_plan_trusts, .int x_this_plan_walkers, .ref a_this_plan_kindOf, .ref a_this_plan_comesAt, .ref a_this_plan_comers, .ref a_this_plan_names, .ref a_this_plan_code, .int x_this_plan_size, .ref a_this_plan_spans])), (a_this, .inr (5, [.ref a_this_text, .int x_this_length, .int v20, .int v21, .int v22, .int x_this_allowed, .ref a_this_plan, .int v23, .int v24])), (a_this_text, .inl (cy 0, 1600, .inl g_this_text))] := hD
  obtain ⟨h25, h26, h27, h28, h29⟩ := hw
  refine k_put C0 fp_X5_111 hP hD hS 0 rfl rfl rfl (Nat.le_of_ble_eq_true rfl) dX5_firstStatement_42 (fun H locs hP hD hS => ?_)
  have hP : va_P (dC, dI) vwCl [(a_this_plan, .inr (4, [.int r1, .int r18, .int x_this_plan_rule, .int x_this_plan_least, .int x_this_plan_away, .int x_this_plan_statements, .int x_this_plan_kinds, .ref a_this_plan_calm, .ref a_this_plan_pace, .ref a_this_plan_trusts, .int x_this_plan_walkers, .ref a_this_plan_kindOf, .ref a_this_plan_comesAt, .ref a_this_plan_comers, .ref a_this_plan_names, .ref a_this_plan_code, .int x_this_plan_size, .ref a_this_plan_spans])), (a_this, .inr (5, [.ref a_this_text, .int x_this_length, .int v20, .int v21, .int v22, .int x_this_allowed, .ref a_this_plan, .int v23, .int v24])), (a_this_text, .inl (cy 0, 1600, .inl g_this_text))] H := hP
  have hD : va_D A [(a_this_plan, .inr (4, [.int r1, .int r18, .int x_this_plan_rule, .int x_this_plan_least, .int x_this_plan_away, .int x_this_plan_statements, .int x_this_plan_kinds, .ref a_this_plan_calm, .ref a_this_plan_pace, .ref a_this_plan_trusts, .int x_this_plan_walkers, .ref a_this_plan_kindOf, .ref a_this_plan_comesAt, .ref a_this_plan_comers, .ref a_this_plan_names, .ref a_this_plan_code, .int x_this_plan_size, .ref a_this_plan_spans])), (a_this, .inr (5, [.ref a_this_text, .int x_this_length, .int v20, .int v21, .int v22, .int x_this_allowed, .ref a_this_plan, .int v23, .int v24])), (a_this_text, .inl (cy 0, 1600, .inl g_this_text))] := hD
  refine lv_aload_n hx hb dX5_firstStatement_45 rfl (lv_at hl 0 rfl) ?_
  refine k_get C0 fg_X5_37 hP 1 rfl rfl dX5_firstStatement_46 ?_
  refine lv_aload_n hx hb dX5_firstStatement_49 rfl (lv_at hl 0 rfl) ?_
  refine va_ldcS hx hb C0.2.2.2.1 (C0.2.2.2.2.2.2.2.2.2.2.2.2 5 (by decide)) dX5_firstStatement_50 ?_
  refine lv_iconst (v := 0) hx hb dX5_firstStatement_52 (by decide) ?_
  refine lv_iconst (v := 2) hx hb dX5_firstStatement_53 (by decide) ?_
  refine k_ji hP hD hS hA [1, 2] [0] (wr := [(a_this_plan, .inr (4, [.int r1, .int r18, .int x_this_plan_rule, .int x_this_plan_least, .int x_this_plan_away, .int x_this_plan_statements, .int x_this_plan_kinds, .ref a_this_plan_calm, .ref a_this_plan_pace, .ref a_this_plan_trusts, .int x_this_plan_walkers, .ref a_this_plan_kindOf, .ref a_this_plan_comesAt, .ref a_this_plan_comers, .ref a_this_plan_names, .ref a_this_plan_code, .int x_this_plan_size, .ref a_this_plan_spans]))]) rfl rfl (by decide) (by decide) (by decide) 0 0 (Nat.le_of_ble_eq_true rfl) (Nat.le_of_ble_eq_true rfl) (fun hPc hDc => k_runV (As := [.ref (sq 5), .int 0, .int 2]) (rest := [.ref a_this_plan]) C0 hZ hS hA (s_X5_numberBehind_a1_0_a2_2_s5 l dC dI cy sq a_this a_this_text g_this_text x_this_length v20 v21 v22 x_this_allowed a_this_plan v23 v24 hg_this_text (ib_w 0 1600 hx_this_length (by decide)) (ib_w 0 1600 h26 (by decide)) (ib_w 0 1600 h27 (by decide)) (ib_w 0 4 h28 (by decide)) (fun hq9 => ib_w 0 1599 (h29 hq9) (by decide))) mV_X5_70 hPc hDc rfl rfl rfl hl rfl rfl (Nat.le_of_ble_eq_true rfl) ⟨(Nat.le_of_ble_eq_true rfl), (Nat.le_of_ble_eq_true rfl)⟩ ⟨(Nat.le_of_ble_eq_true rfl), (Nat.le_of_ble_eq_true rfl)⟩ dX5_firstStatement_54) (fun r30 u31 H locs hw hP hD hS => ?_)
  obtain ⟨v32, v33, v34, v35, v36⟩ := u31
  try dsimp only at hP hD hw
  have hP : va_P (dC, dI) vwCl [(a_this_plan, .inr (4, [.int r1, .int r18, .int x_this_plan_rule, .int x_this_plan_least, .int x_this_plan_away, .int x_this_plan_statements, .int x_this_plan_kinds, .ref a_this_plan_calm, .ref a_this_plan_pace, .ref a_this_plan_trusts, .int x_this_plan_walkers, .ref a_this_plan_kindOf, .ref a_this_plan_comesAt, .ref a_this_plan_comers, .ref a_this_plan_names, .ref a_this_plan_code, .int x_this_plan_size, .ref a_this_plan_spans])), (a_this, .inr (5, [.ref a_this_text, .int x_this_length, .int v32, .int v33, .int v34, .int x_this_allowed, .ref a_this_plan, .int v35, .int v36])), (a_this_text, .inl (cy 0, 1600, .inl g_this_text))] H := hP
  have hD : va_D A [(a_this_plan, .inr (4, [.int r1, .int r18, .int x_this_plan_rule, .int x_this_plan_least, .int x_this_plan_away, .int x_this_plan_statements, .int x_this_plan_kinds, .ref a_this_plan_calm, .ref a_this_plan_pace, .ref a_this_plan_trusts, .int x_this_plan_walkers, .ref a_this_plan_kindOf, .ref a_this_plan_comesAt, .ref a_this_plan_comers, .ref a_this_plan_names, .ref a_this_plan_code, .int x_this_plan_size, .ref a_this_plan_spans])), (a_this, .inr (5, [.ref a_this_text, .int x_this_length, .int v32, .int v33, .int v34, .int x_this_allowed, .ref a_this_plan, .int v35, .int v36])), (a_this_text, .inl (cy 0, 1600, .inl g_this_text))] := hD
  obtain ⟨h37, h38, h39, h40, h41⟩ := hw
  refine k_put C0 fp_X5_115 hP hD hS 0 rfl rfl rfl (Nat.le_of_ble_eq_true rfl) dX5_firstStatement_57 (fun H locs hP hD hS => ?_)
  have hP : va_P (dC, dI) vwCl [(a_this_plan, .inr (4, [.int r1, .int r18, .int r30, .int x_this_plan_least, .int x_this_plan_away, .int x_this_plan_statements, .int x_this_plan_kinds, .ref a_this_plan_calm, .ref a_this_plan_pace, .ref a_this_plan_trusts, .int x_this_plan_walkers, .ref a_this_plan_kindOf, .ref a_this_plan_comesAt, .ref a_this_plan_comers, .ref a_this_plan_names, .ref a_this_plan_code, .int x_this_plan_size, .ref a_this_plan_spans])), (a_this, .inr (5, [.ref a_this_text, .int x_this_length, .int v32, .int v33, .int v34, .int x_this_allowed, .ref a_this_plan, .int v35, .int v36])), (a_this_text, .inl (cy 0, 1600, .inl g_this_text))] H := hP
  have hD : va_D A [(a_this_plan, .inr (4, [.int r1, .int r18, .int r30, .int x_this_plan_least, .int x_this_plan_away, .int x_this_plan_statements, .int x_this_plan_kinds, .ref a_this_plan_calm, .ref a_this_plan_pace, .ref a_this_plan_trusts, .int x_this_plan_walkers, .ref a_this_plan_kindOf, .ref a_this_plan_comesAt, .ref a_this_plan_comers, .ref a_this_plan_names, .ref a_this_plan_code, .int x_this_plan_size, .ref a_this_plan_spans])), (a_this, .inr (5, [.ref a_this_text, .int x_this_length, .int v32, .int v33, .int v34, .int x_this_allowed, .ref a_this_plan, .int v35, .int v36])), (a_this_text, .inl (cy 0, 1600, .inl g_this_text))] := hD
  refine lv_aload_n hx hb dX5_firstStatement_60 rfl (lv_at hl 0 rfl) ?_
  refine k_get C0 fg_X5_37 hP 1 rfl rfl dX5_firstStatement_61 ?_
  refine lv_aload_n hx hb dX5_firstStatement_64 rfl (lv_at hl 0 rfl) ?_
  refine va_ldcS hx hb C0.2.2.2.1 (C0.2.2.2.2.2.2.2.2.2.2.2.2 6 (by decide)) dX5_firstStatement_65 ?_
  refine lv_iconst (v := 0) hx hb dX5_firstStatement_67 (by decide) ?_
  refine lv_bipush (v := 99) hx hb dX5_firstStatement_68 (by decide) ?_
  refine k_ji hP hD hS hA [1, 2] [0] (wr := [(a_this_plan, .inr (4, [.int r1, .int r18, .int r30, .int x_this_plan_least, .int x_this_plan_away, .int x_this_plan_statements, .int x_this_plan_kinds, .ref a_this_plan_calm, .ref a_this_plan_pace, .ref a_this_plan_trusts, .int x_this_plan_walkers, .ref a_this_plan_kindOf, .ref a_this_plan_comesAt, .ref a_this_plan_comers, .ref a_this_plan_names, .ref a_this_plan_code, .int x_this_plan_size, .ref a_this_plan_spans]))]) rfl rfl (by decide) (by decide) (by decide) 0 0 (Nat.le_of_ble_eq_true rfl) (Nat.le_of_ble_eq_true rfl) (fun hPc hDc => k_runV (As := [.ref (sq 6), .int 0, .int 99]) (rest := [.ref a_this_plan]) C0 hZ hS hA (s_X5_numberBehind_a1_0_a2_99_s6 l dC dI cy sq a_this a_this_text g_this_text x_this_length v32 v33 v34 x_this_allowed a_this_plan v35 v36 hg_this_text (ib_w 0 1600 hx_this_length (by decide)) (ib_w 0 1600 h38 (by decide)) (ib_w 0 1600 h39 (by decide)) (ib_w 0 4 h40 (by decide)) (fun hq9 => ib_w 0 1599 (h41 hq9) (by decide))) mV_X5_70 hPc hDc rfl rfl rfl hl rfl rfl (Nat.le_of_ble_eq_true rfl) ⟨(Nat.le_of_ble_eq_true rfl), (Nat.le_of_ble_eq_true rfl)⟩ ⟨(Nat.le_of_ble_eq_true rfl), (Nat.le_of_ble_eq_true rfl)⟩ dX5_firstStatement_70) (fun r42 u43 H locs hw hP hD hS => ?_)
  obtain ⟨v44, v45, v46, v47, v48⟩ := u43
  try dsimp only at hP hD hw
  have hP : va_P (dC, dI) vwCl [(a_this_plan, .inr (4, [.int r1, .int r18, .int r30, .int x_this_plan_least, .int x_this_plan_away, .int x_this_plan_statements, .int x_this_plan_kinds, .ref a_this_plan_calm, .ref a_this_plan_pace, .ref a_this_plan_trusts, .int x_this_plan_walkers, .ref a_this_plan_kindOf, .ref a_this_plan_comesAt, .ref a_this_plan_comers, .ref a_this_plan_names, .ref a_this_plan_code, .int x_this_plan_size, .ref a_this_plan_spans])), (a_this, .inr (5, [.ref a_this_text, .int x_this_length, .int v44, .int v45, .int v46, .int x_this_allowed, .ref a_this_plan, .int v47, .int v48])), (a_this_text, .inl (cy 0, 1600, .inl g_this_text))] H := hP
  have hD : va_D A [(a_this_plan, .inr (4, [.int r1, .int r18, .int r30, .int x_this_plan_least, .int x_this_plan_away, .int x_this_plan_statements, .int x_this_plan_kinds, .ref a_this_plan_calm, .ref a_this_plan_pace, .ref a_this_plan_trusts, .int x_this_plan_walkers, .ref a_this_plan_kindOf, .ref a_this_plan_comesAt, .ref a_this_plan_comers, .ref a_this_plan_names, .ref a_this_plan_code, .int x_this_plan_size, .ref a_this_plan_spans])), (a_this, .inr (5, [.ref a_this_text, .int x_this_length, .int v44, .int v45, .int v46, .int x_this_allowed, .ref a_this_plan, .int v47, .int v48])), (a_this_text, .inl (cy 0, 1600, .inl g_this_text))] := hD
  obtain ⟨h49, h50, h51, h52, h53⟩ := hw
  refine k_put C0 fp_X5_119 hP hD hS 0 rfl rfl rfl (Nat.le_of_ble_eq_true rfl) dX5_firstStatement_73 (fun H locs hP hD hS => ?_)
  have hP : va_P (dC, dI) vwCl [(a_this_plan, .inr (4, [.int r1, .int r18, .int r30, .int r42, .int x_this_plan_away, .int x_this_plan_statements, .int x_this_plan_kinds, .ref a_this_plan_calm, .ref a_this_plan_pace, .ref a_this_plan_trusts, .int x_this_plan_walkers, .ref a_this_plan_kindOf, .ref a_this_plan_comesAt, .ref a_this_plan_comers, .ref a_this_plan_names, .ref a_this_plan_code, .int x_this_plan_size, .ref a_this_plan_spans])), (a_this, .inr (5, [.ref a_this_text, .int x_this_length, .int v44, .int v45, .int v46, .int x_this_allowed, .ref a_this_plan, .int v47, .int v48])), (a_this_text, .inl (cy 0, 1600, .inl g_this_text))] H := hP
  have hD : va_D A [(a_this_plan, .inr (4, [.int r1, .int r18, .int r30, .int r42, .int x_this_plan_away, .int x_this_plan_statements, .int x_this_plan_kinds, .ref a_this_plan_calm, .ref a_this_plan_pace, .ref a_this_plan_trusts, .int x_this_plan_walkers, .ref a_this_plan_kindOf, .ref a_this_plan_comesAt, .ref a_this_plan_comers, .ref a_this_plan_names, .ref a_this_plan_code, .int x_this_plan_size, .ref a_this_plan_spans])), (a_this, .inr (5, [.ref a_this_text, .int x_this_length, .int v44, .int v45, .int v46, .int x_this_allowed, .ref a_this_plan, .int v47, .int v48])), (a_this_text, .inl (cy 0, 1600, .inl g_this_text))] := hD
  subst hQ; exact k_vret hx hb hr hlk ((v44, v45, v46, v47, v48, r1, r18, r30, r42)) hS ⟨ib_w 0 1600 h50 (by decide), ib_w 0 1600 h51 (by decide), ib_w 0 4 h52 (by decide), ib_w 10 120 h8 (by decide), ib_w 1 2147483647 h25 (by decide), ib_w 0 2 h37 (by decide), ib_w 0 99 h49 (by decide), fun hq9 => ib_w 0 1599 (h53 hq9) (by decide)⟩ (hP.sub [1, 2, 0] rfl) (hD.sub [1, 2, 0] (by decide) rfl) (Nat.le_of_ble_eq_true rfl) (Nat.le_of_ble_eq_true rfl) dX5_firstStatement_76
set_option maxHeartbeats 4000000 in
set_option maxRecDepth 100000 in
theorem s_X5_wordIn_s7 (l : Launch) (dC : Nat → ClassId) (dI : Nat → Nat → Nat) (cy : Nat → ClassId) (sq : Nat → Nat) (a_this : Nat) (a_this_text : Nat) (g_this_text : Nat → Int32) (x_this_length : Int32) (x_this_at : Int32) (x_this_behind : Int32) (x_this_sort : Int32) (x_this_allowed : Int32) (a_this_plan : Nat) (x_this_fault : Int32) (x_this_place : Int32) (hg_this_text : ia g_this_text 1600 0 255) (hx_this_at : ib x_this_at 0 1600) (hx_this_behind : ib x_this_behind 0 1600) (hx_this_sort : ib x_this_sort 0 4) (hc0_this : ¬ x_this_sort = 0 → ib x_this_at 0 1599) : k_Met l yX5_wordIn cX5_wordIn 6 (some .int) { frames := 4, cells := 0, slots := 0, locals := 141 } dC dI cy sq [.ref a_this, .ref (sq 7)] [(a_this, .inr (5, [.ref a_this_text, .int x_this_length, .int x_this_at, .int x_this_behind, .int x_this_sort, .int x_this_allowed, .ref a_this_plan, .int x_this_fault, .int x_this_place])), (a_this_text, .inl (cy 0, 1600, .inl g_this_text))] (k_Qi dC dI (fun (r : Int32) (_ : Unit) => True) (fun _ : Unit => [(a_this, .inr (5, [.ref a_this_text, .int x_this_length, .int x_this_at, .int x_this_behind, .int x_this_sort, .int x_this_allowed, .ref a_this_plan, .int x_this_fault, .int x_this_place])), (a_this_text, .inl (cy 0, 1600, .inl g_this_text))])) := by
  refine k_ofW2 (by decide +kernel) (Nat.le_of_ble_eq_true rfl) ?_
  intro p e s m below meth c A ls H locs args Q hQ C0 hZ hr hlk hin hP hD hA hS hl
  have C0 : k_cx p s m args c cX5_wordIn 6 RX5 dC dI cy sq := C0
  have hx := C0.1
  have hb := C0.2.1
  have hl : lv_has ls 6 [(0, .ref a_this), (1, .ref (sq 7))] := hl
  have jn23 : ∀ (n : Nat) (J23_l2 : Int32) (J23_l3 : Int32) (J23_l4 : Int32) (J23_l5 : Int32) (H : Heap) (locs : List Loc) (ls : Array Slot), ib x_this_at 0 1599 → ib x_this_sort 1 1 → ib J23_l3 0 1604 → ib J23_l4 0 1 → ib J23_l5 0 5 → (1 * J23_l3.toInt + (-1) * J23_l5.toInt ≤ 1600) → 6 ≤ J23_l5.toInt + (n : Int) → va_P (dC, dI) vwCl [(a_this, .inr (5, [.ref a_this_text, .int x_this_length, .int x_this_at, .int x_this_behind, .int x_this_sort, .int x_this_allowed, .ref a_this_plan, .int x_this_fault, .int x_this_place])), (a_this_text, .inl (cy 0, 1600, .inl g_this_text))] H → va_D A [(a_this, .inr (5, [.ref a_this_text, .int x_this_length, .int x_this_at, .int x_this_behind, .int x_this_sort, .int x_this_allowed, .ref a_this_plan, .int x_this_fault, .int x_this_place])), (a_this_text, .inl (cy 0, 1600, .inl g_this_text))] → va_S A s.heap H locs → lv_has ls 6 [(0, .ref a_this), (1, .ref (sq 7)), (2, .int J23_l2), (3, .int J23_l3), (4, .int J23_l4), (5, .int J23_l5)] → W p l e { frames := 4, cells := 0, slots := 0, locals := 141 } s m args below meth c H locs 0 0 Q (F0 m 23 ls []) := by
    intro n
    induction n with
    | zero =>
      intro J23_l2 J23_l3 J23_l4 J23_l5 H locs ls hK23_x_this_at hK23_x_this_sort hJ23_l3 hJ23_l4 hJ23_l5 hJ23_lin0 hm
      exact absurd hm (by have := hJ23_l5; unfold ib at this; omega)
    | succ n ih =>
      intro J23_l2 J23_l3 J23_l4 J23_l5 H locs ls hK23_x_this_at hK23_x_this_sort hJ23_l3 hJ23_l4 hJ23_l5 hJ23_lin0 hm23 hP hD hS hl
      have ih23 := ih
      have jn119 : ∀ (J119_l2 : Int32) (J119_l3 : Int32) (J119_l4 : Int32) (H : Heap) (locs : List Loc) (ls : Array Slot), ib x_this_at 0 1599 → ib J23_l5 0 4 → ib x_this_sort 1 1 → ib J119_l3 0 1604 → ib J119_l4 0 1 → (1 * J119_l3.toInt + (-1) * J23_l5.toInt ≤ 1601) → va_P (dC, dI) vwCl [(a_this, .inr (5, [.ref a_this_text, .int x_this_length, .int x_this_at, .int x_this_behind, .int x_this_sort, .int x_this_allowed, .ref a_this_plan, .int x_this_fault, .int x_this_place])), (a_this_text, .inl (cy 0, 1600, .inl g_this_text))] H → va_D A [(a_this, .inr (5, [.ref a_this_text, .int x_this_length, .int x_this_at, .int x_this_behind, .int x_this_sort, .int x_this_allowed, .ref a_this_plan, .int x_this_fault, .int x_this_place])), (a_this_text, .inl (cy 0, 1600, .inl g_this_text))] → va_S A s.heap H locs → lv_has ls 6 [(0, .ref a_this), (1, .ref (sq 7)), (2, .int J119_l2), (3, .int J119_l3), (4, .int J119_l4), (5, .int J23_l5)] → W p l e { frames := 4, cells := 0, slots := 0, locals := 141 } s m args below meth c H locs 0 0 Q (F0 m 119 ls []) := by
        intro J119_l2 J119_l3 J119_l4 H locs ls hK119_x_this_at hK119_J23_l5 hK119_x_this_sort hJ119_l3 hJ119_l4 hJ119_lin0 hP hD hS hl
        obtain ⟨z1, ez1⟩ : ∃ y : Int32, y = J23_l5 + 1 := ⟨_, rfl⟩
        refine lv_iinc (v := z1) (lv' := [(5, .int z1), (0, .ref a_this), (1, .ref (sq 7)), (2, .int J119_l2), (3, .int J119_l3), (4, .int J119_l4)]) hx hb dX5_wordIn_119 hl (k := 5) rfl (by rw [ez1]; rfl) (by decide) rfl (fun ls hl => ?_)
        have h2 := ib_add hK119_J23_l5 (ib_c 1 1 1 (by decide)) (by decide)
        rw [← ez1] at h2
        have h3 : ib z1 1 5 := ib_w 1 5 h2.1 (by decide)
        refine lv_goto (tgt := 23) hx hb dX5_wordIn_122 (by decide) ?_
        exact ih23 J119_l2 J119_l3 J119_l4 z1 H locs ls (ib_w 0 1599 hK119_x_this_at (by decide)) (ib_w 1 1 hK119_x_this_sort (by decide)) (ib_w 0 1604 hJ119_l3 (by decide)) (ib_w 0 1 hJ119_l4 (by decide)) (ib_w 0 5 h3 (by decide)) (by have := (h3).1; have := (h3).2; have := h2.2; have : (1 : Int32).toInt = 1 := (by decide); have := (hK119_J23_l5).1; have := (hK119_J23_l5).2; have := hJ23_lin0; have := hJ119_lin0; have := (hJ119_l3).1; have := (hJ119_l3).2; have := (hJ23_l3).1; have := (hJ23_l3).2; omega) (by have := h2.2; have : (1 : Int32).toInt = 1 := (by decide); omega) hP hD hS (lv_sub hl [1, 2, 3, 4, 5, 0] rfl)
      have jn114 : ∀ (J114_s0 : Int32) (H : Heap) (locs : List Loc) (ls : Array Slot), ib J23_l3 0 1603 → ib J23_l4 0 1 → ib J23_l5 0 3 → ib x_this_at 0 1599 → ib x_this_sort 1 1 → ib J114_s0 0 1 → (1 * J23_l3.toInt + (-1) * J23_l5.toInt ≤ 1600) → va_P (dC, dI) vwCl [(a_this, .inr (5, [.ref a_this_text, .int x_this_length, .int x_this_at, .int x_this_behind, .int x_this_sort, .int x_this_allowed, .ref a_this_plan, .int x_this_fault, .int x_this_place])), (a_this_text, .inl (cy 0, 1600, .inl g_this_text))] H → va_D A [(a_this, .inr (5, [.ref a_this_text, .int x_this_length, .int x_this_at, .int x_this_behind, .int x_this_sort, .int x_this_allowed, .ref a_this_plan, .int x_this_fault, .int x_this_place])), (a_this_text, .inl (cy 0, 1600, .inl g_this_text))] → va_S A s.heap H locs → lv_has ls 6 [(0, .ref a_this), (1, .ref (sq 7)), (2, .int J23_l2), (3, .int J23_l3), (4, .int J23_l4), (5, .int J23_l5)] → W p l e { frames := 4, cells := 0, slots := 0, locals := 141 } s m args below meth c H locs 0 0 Q (F0 m 114 ls [.int J114_s0]) := by
        intro J114_s0 H locs ls hK114_J23_l3 hK114_J23_l4 hK114_J23_l5 hK114_x_this_at hK114_x_this_sort hJ114_s0 hJ114_lin0 hP hD hS hl
        refine lv_istore (lv' := [(4, .int J114_s0), (0, .ref a_this), (1, .ref (sq 7)), (2, .int J23_l2), (3, .int J23_l3), (5, .int J23_l5)]) hx hb dX5_wordIn_114 hl (by decide) rfl (fun ls hl => ?_)
        obtain ⟨z4, ez4⟩ : ∃ y : Int32, y = J23_l3 + 1 := ⟨_, rfl⟩
        refine lv_iinc (v := z4) (lv' := [(3, .int z4), (4, .int J114_s0), (0, .ref a_this), (1, .ref (sq 7)), (2, .int J23_l2), (5, .int J23_l5)]) hx hb dX5_wordIn_116 hl (k := 4) rfl (by rw [ez4]; rfl) (by decide) rfl (fun ls hl => ?_)
        have h5 := ib_add hK114_J23_l3 (ib_c 1 1 1 (by decide)) (by decide)
        rw [← ez4] at h5
        have h6 : ib z4 1 1604 := ib_w 1 1604 h5.1 (by decide)
        exact jn119 J23_l2 z4 J114_s0 H locs ls (ib_w 0 1599 hK114_x_this_at (by decide)) (ib_w 0 4 hK114_J23_l5 (by decide)) (ib_w 1 1 hK114_x_this_sort (by decide)) (ib_w 0 1604 h6 (by decide)) (ib_w 0 1 hJ114_s0 (by decide)) (by have := (hK114_J23_l5).1; have := (hK114_J23_l5).2; have := hJ23_lin0; have := hJ114_lin0; have := (hK114_J23_l3).1; have := (hK114_J23_l3).2; have := (h6).1; have := (h6).2; have := h5.2; have : (1 : Int32).toInt = 1 := (by decide); omega) hP hD hS (lv_sub hl [2, 3, 4, 0, 1, 5] rfl)
      have jn113 : ∀  (H : Heap) (locs : List Loc) (ls : Array Slot), ib J23_l3 0 1603 → ib J23_l4 0 1 → ib J23_l5 0 3 → ib x_this_at 0 1599 → ib x_this_sort 1 1 → (1 * J23_l3.toInt + (-1) * J23_l5.toInt ≤ 1600) → va_P (dC, dI) vwCl [(a_this, .inr (5, [.ref a_this_text, .int x_this_length, .int x_this_at, .int x_this_behind, .int x_this_sort, .int x_this_allowed, .ref a_this_plan, .int x_this_fault, .int x_this_place])), (a_this_text, .inl (cy 0, 1600, .inl g_this_text))] H → va_D A [(a_this, .inr (5, [.ref a_this_text, .int x_this_length, .int x_this_at, .int x_this_behind, .int x_this_sort, .int x_this_allowed, .ref a_this_plan, .int x_this_fault, .int x_this_place])), (a_this_text, .inl (cy 0, 1600, .inl g_this_text))] → va_S A s.heap H locs → lv_has ls 6 [(0, .ref a_this), (1, .ref (sq 7)), (2, .int J23_l2), (3, .int J23_l3), (4, .int J23_l4), (5, .int J23_l5)] → W p l e { frames := 4, cells := 0, slots := 0, locals := 141 } s m args below meth c H locs 0 0 Q (F0 m 113 ls []) := by
        intro H locs ls hK113_J23_l3 hK113_J23_l4 hK113_J23_l5 hK113_x_this_at hK113_x_this_sort hJ113_lin0 hP hD hS hl
        refine lv_iconst (v := 0) hx hb dX5_wordIn_113 (by decide) ?_
        exact jn114 0 H locs ls (ib_w 0 1603 hK113_J23_l3 (by decide)) (ib_w 0 1 hK113_J23_l4 (by decide)) (ib_w 0 3 hK113_J23_l5 (by decide)) (ib_w 0 1599 hK113_x_this_at (by decide)) (ib_w 1 1 hK113_x_this_sort (by decide)) (ib_w 0 1 (ib_c 0 0 0 (by decide)) (by decide)) (by have := (hK113_J23_l5).1; have := (hK113_J23_l5).2; have := hJ23_lin0; have := hJ113_lin0; have := (hK113_J23_l3).1; have := (hK113_J23_l3).2; omega) hP hD hS (lv_sub hl [0, 1, 2, 3, 4, 5] rfl)
      have jn67 : ∀  (H : Heap) (locs : List Loc) (ls : Array Slot), ib J23_l3 0 1604 → ib J23_l4 0 1 → ib J23_l5 0 4 → ib x_this_at 0 1599 → ib x_this_sort 1 1 → va_P (dC, dI) vwCl [(a_this, .inr (5, [.ref a_this_text, .int x_this_length, .int x_this_at, .int x_this_behind, .int x_this_sort, .int x_this_allowed, .ref a_this_plan, .int x_this_fault, .int x_this_place])), (a_this_text, .inl (cy 0, 1600, .inl g_this_text))] H → va_D A [(a_this, .inr (5, [.ref a_this_text, .int x_this_length, .int x_this_at, .int x_this_behind, .int x_this_sort, .int x_this_allowed, .ref a_this_plan, .int x_this_fault, .int x_this_place])), (a_this_text, .inl (cy 0, 1600, .inl g_this_text))] → va_S A s.heap H locs → lv_has ls 6 [(0, .ref a_this), (1, .ref (sq 7)), (2, .int J23_l2), (3, .int J23_l3), (4, .int J23_l4), (5, .int J23_l5)] → W p l e { frames := 4, cells := 0, slots := 0, locals := 141 } s m args below meth c H locs 0 0 Q (F0 m 67 ls []) := by
        intro H locs ls hK67_J23_l3 hK67_J23_l4 hK67_J23_l5 hK67_x_this_at hK67_x_this_sort hP hD hS hl
        obtain ⟨z7, ez7⟩ : ∃ y : Int32, y = J23_l2 + 1 := ⟨_, rfl⟩
        refine lv_iinc (v := z7) (lv' := [(2, .int z7), (0, .ref a_this), (1, .ref (sq 7)), (3, .int J23_l3), (4, .int J23_l4), (5, .int J23_l5)]) hx hb dX5_wordIn_67 hl (k := 2) rfl (by rw [ez7]; rfl) (by decide) rfl (fun ls hl => ?_)
        refine lv_aload_n hx hb dX5_wordIn_70 rfl (lv_at hl 1 rfl) ?_
        refine k_get C0 fg_X5_15 hP 0 rfl rfl dX5_wordIn_71 ?_
        refine lv_istore_n (lv' := [(3, .int x_this_at), (2, .int z7), (0, .ref a_this), (1, .ref (sq 7)), (4, .int J23_l4), (5, .int J23_l5)]) hx hb dX5_wordIn_74 rfl hl (by decide) rfl (fun ls hl => ?_)
        refine lv_iconst (v := 1) hx hb dX5_wordIn_75 (by decide) ?_
        refine lv_istore (lv' := [(4, .int 1), (3, .int x_this_at), (2, .int z7), (0, .ref a_this), (1, .ref (sq 7)), (5, .int J23_l5)]) hx hb dX5_wordIn_76 hl (by decide) rfl (fun ls hl => ?_)
        refine lv_goto (tgt := 119) hx hb dX5_wordIn_78 (by decide) ?_
        exact jn119 z7 x_this_at 1 H locs ls (ib_w 0 1599 hK67_x_this_at (by decide)) (ib_w 0 4 hK67_J23_l5 (by decide)) (ib_w 1 1 hK67_x_this_sort (by decide)) (ib_w 0 1604 hK67_x_this_at (by decide)) (ib_w 0 1 (ib_c 1 1 1 (by decide)) (by decide)) (by have := (hK67_J23_l5).1; have := (hK67_J23_l5).2; have := hJ23_lin0; have := (hK67_J23_l3).1; have := (hK67_J23_l3).2; have := (hK67_x_this_at).1; have := (hK67_x_this_at).2; omega) hP hD hS (lv_sub hl [3, 4, 2, 1, 0, 5] rfl)
      have jn52 : ∀  (H : Heap) (locs : List Loc) (ls : Array Slot), ib J23_l3 0 1604 → ib J23_l4 0 1 → ib J23_l5 0 4 → ib x_this_at 0 1599 → ib x_this_sort 1 1 → va_P (dC, dI) vwCl [(a_this, .inr (5, [.ref a_this_text, .int x_this_length, .int x_this_at, .int x_this_behind, .int x_this_sort, .int x_this_allowed, .ref a_this_plan, .int x_this_fault, .int x_this_place])), (a_this_text, .inl (cy 0, 1600, .inl g_this_text))] H → va_D A [(a_this, .inr (5, [.ref a_this_text, .int x_this_length, .int x_this_at, .int x_this_behind, .int x_this_sort, .int x_this_allowed, .ref a_this_plan, .int x_this_fault, .int x_this_place])), (a_this_text, .inl (cy 0, 1600, .inl g_this_text))] → va_S A s.heap H locs → lv_has ls 6 [(0, .ref a_this), (1, .ref (sq 7)), (2, .int J23_l2), (3, .int J23_l3), (4, .int J23_l4), (5, .int J23_l5)] → W p l e { frames := 4, cells := 0, slots := 0, locals := 141 } s m args below meth c H locs 0 0 Q (F0 m 52 ls []) := by
        intro H locs ls hK52_J23_l3 hK52_J23_l4 hK52_J23_l5 hK52_x_this_at hK52_x_this_sort hP hD hS hl
        refine lv_iload hx hb dX5_wordIn_52 (lv_at hl 4 rfl) ?_
        refine lv_if_eq (tgt := 67) hx hb dX5_wordIn_54 (by decide) (fun c8 => ?_) (fun c8 => ?_)
        · have h9 := ib_eq hK52_J23_l4 (ib_c 0 0 0 (by decide)) c8
          have h10 : ib J23_l4 0 0 := ib_w 0 0 h9.1 (by decide)
          exact jn67  H locs ls (ib_w 0 1604 hK52_J23_l3 (by decide)) (ib_w 0 1 h10 (by decide)) (ib_w 0 4 hK52_J23_l5 (by decide)) (ib_w 0 1599 hK52_x_this_at (by decide)) (ib_w 1 1 hK52_x_this_sort (by decide)) hP hD hS (lv_sub hl [0, 1, 2, 3, 4, 5] rfl)
        · have h11 : ib J23_l4 1 1 := ib_w 1 1 (ib_ne_lo 0 hK52_J23_l4 (by decide) c8) (by decide)
          refine lv_iload_n hx hb dX5_wordIn_57 rfl (lv_at hl 3 rfl) ?_
          refine lv_aload_n hx hb dX5_wordIn_58 rfl (lv_at hl 0 rfl) ?_
          refine k_get C0 fg_X5_18 hP 0 rfl rfl dX5_wordIn_59 ?_
          refine lv_icmp_ne (tgt := 67) hx hb dX5_wordIn_62 (by decide) (fun c12 => ?_) (fun c12 => ?_)
          · skip
            exact jn67  H locs ls (ib_w 0 1604 hK52_J23_l3 (by decide)) (ib_w 0 1 h11 (by decide)) (ib_w 0 4 hK52_J23_l5 (by decide)) (ib_w 0 1599 hK52_x_this_at (by decide)) (ib_w 1 1 hK52_x_this_sort (by decide)) hP hD hS (lv_sub hl [0, 1, 2, 3, 4, 5] rfl)
          · have h13 := ib_eq hK52_J23_l3 hx_this_behind c12
            have h14 : ib J23_l3 0 1600 := ib_w 0 1600 h13.1 (by decide)
            refine lv_iload_n hx hb dX5_wordIn_65 rfl (lv_at hl 2 rfl) ?_
            subst hQ; exact k_iret hx hb hr hlk rfl () hS True.intro hP hD (Nat.le_of_ble_eq_true rfl) (Nat.le_of_ble_eq_true rfl) dX5_wordIn_66
      refine lv_iload hx hb dX5_wordIn_23 (lv_at hl 5 rfl) ?_
      refine lv_aload_n hx hb dX5_wordIn_25 rfl (lv_at hl 1 rfl) ?_
      refine k_ji hP hD hS hA [] [0, 1] (wr := [(a_this, .inr (5, [.ref a_this_text, .int x_this_length, .int x_this_at, .int x_this_behind, .int x_this_sort, .int x_this_allowed, .ref a_this_plan, .int x_this_fault, .int x_this_place])), (a_this_text, .inl (cy 0, 1600, .inl g_this_text))]) rfl rfl (by decide) (by decide) (by decide) 0 0 (Nat.le_of_ble_eq_true rfl) (Nat.le_of_ble_eq_true rfl) (fun hPc hDc => k_runVO (As := []) (rest := [.int J23_l5]) C0 hZ hS hA (c_length l dC dI cy sq 7 (by decide)) mV_X5_244 hPc hDc (vk_recv hZ.1 (by decide) hS) hl rfl rfl (Nat.le_of_ble_eq_true rfl) ⟨(Nat.le_of_ble_eq_true rfl), (Nat.le_of_ble_eq_true rfl)⟩ ⟨(Nat.le_of_ble_eq_true rfl), (Nat.le_of_ble_eq_true rfl)⟩ dX5_wordIn_26) (fun r15 u16 H locs hw hP hD hS => ?_)
      have hP : va_P (dC, dI) vwCl [(a_this, .inr (5, [.ref a_this_text, .int x_this_length, .int x_this_at, .int x_this_behind, .int x_this_sort, .int x_this_allowed, .ref a_this_plan, .int x_this_fault, .int x_this_place])), (a_this_text, .inl (cy 0, 1600, .inl g_this_text))] H := hP
      have hD : va_D A [(a_this, .inr (5, [.ref a_this_text, .int x_this_length, .int x_this_at, .int x_this_behind, .int x_this_sort, .int x_this_allowed, .ref a_this_plan, .int x_this_fault, .int x_this_place])), (a_this_text, .inl (cy 0, 1600, .inl g_this_text))] := hD
      obtain rfl : r15 = 4 := hw.trans (by decide)
      refine lv_icmp_gt (tgt := 125) hx hb dX5_wordIn_29 (by decide) (fun c17 => ?_) (fun c17 => ?_)
      · have h18 := ib_lt (ib_c 4 4 4 (by decide)) hJ23_l5 c17
        have h19 : ib J23_l5 5 5 := ib_w 5 5 h18.2 (by decide)
        refine lv_iconst (v := (-1)) hx hb dX5_wordIn_125 (by decide) ?_
        subst hQ; exact k_iret hx hb hr hlk rfl () hS True.intro hP hD (Nat.le_of_ble_eq_true rfl) (Nat.le_of_ble_eq_true rfl) dX5_wordIn_126
      · have h20 := ib_nlt (ib_c 4 4 4 (by decide)) hJ23_l5 c17
        have h21 : ib J23_l5 0 4 := ib_w 0 4 h20.2 (by decide)
        refine lv_iload hx hb dX5_wordIn_32 (lv_at hl 5 rfl) ?_
        refine lv_aload_n hx hb dX5_wordIn_34 rfl (lv_at hl 1 rfl) ?_
        refine k_ji hP hD hS hA [] [0, 1] (wr := [(a_this, .inr (5, [.ref a_this_text, .int x_this_length, .int x_this_at, .int x_this_behind, .int x_this_sort, .int x_this_allowed, .ref a_this_plan, .int x_this_fault, .int x_this_place])), (a_this_text, .inl (cy 0, 1600, .inl g_this_text))]) rfl rfl (by decide) (by decide) (by decide) 0 0 (Nat.le_of_ble_eq_true rfl) (Nat.le_of_ble_eq_true rfl) (fun hPc hDc => k_runVO (As := []) (rest := [.int J23_l5]) C0 hZ hS hA (c_length l dC dI cy sq 7 (by decide)) mV_X5_244 hPc hDc (vk_recv hZ.1 (by decide) hS) hl rfl rfl (Nat.le_of_ble_eq_true rfl) ⟨(Nat.le_of_ble_eq_true rfl), (Nat.le_of_ble_eq_true rfl)⟩ ⟨(Nat.le_of_ble_eq_true rfl), (Nat.le_of_ble_eq_true rfl)⟩ dX5_wordIn_35) (fun r22 u23 H locs hw hP hD hS => ?_)
        have hP : va_P (dC, dI) vwCl [(a_this, .inr (5, [.ref a_this_text, .int x_this_length, .int x_this_at, .int x_this_behind, .int x_this_sort, .int x_this_allowed, .ref a_this_plan, .int x_this_fault, .int x_this_place])), (a_this_text, .inl (cy 0, 1600, .inl g_this_text))] H := hP
        have hD : va_D A [(a_this, .inr (5, [.ref a_this_text, .int x_this_length, .int x_this_at, .int x_this_behind, .int x_this_sort, .int x_this_allowed, .ref a_this_plan, .int x_this_fault, .int x_this_place])), (a_this_text, .inl (cy 0, 1600, .inl g_this_text))] := hD
        obtain rfl : r22 = 4 := hw.trans (by decide)
        refine lv_icmp_eq (tgt := 52) hx hb dX5_wordIn_38 (by decide) (fun c24 => ?_) (fun c24 => ?_)
        · have h25 := ib_eq h21 (ib_c 4 4 4 (by decide)) c24
          have h26 : ib J23_l5 4 4 := ib_w 4 4 h25.1 (by decide)
          exact jn52  H locs ls (ib_w 0 1604 hJ23_l3 (by decide)) (ib_w 0 1 hJ23_l4 (by decide)) (ib_w 0 4 h26 (by decide)) (ib_w 0 1599 hK23_x_this_at (by decide)) (ib_w 1 1 hK23_x_this_sort (by decide)) hP hD hS (lv_sub hl [0, 1, 2, 3, 4, 5] rfl)
        · have h27 : ib J23_l5 0 3 := ib_w 0 3 (ib_ne_hi 4 h21 (by decide) c24) (by decide)
          refine lv_aload_n hx hb dX5_wordIn_41 rfl (lv_at hl 1 rfl) ?_
          refine lv_iload hx hb dX5_wordIn_42 (lv_at hl 5 rfl) ?_
          refine k_ji hP hD hS hA [] [0, 1] (wr := [(a_this, .inr (5, [.ref a_this_text, .int x_this_length, .int x_this_at, .int x_this_behind, .int x_this_sort, .int x_this_allowed, .ref a_this_plan, .int x_this_fault, .int x_this_place])), (a_this_text, .inl (cy 0, 1600, .inl g_this_text))]) rfl rfl (by decide) (by decide) (by decide) 0 0 (Nat.le_of_ble_eq_true rfl) (Nat.le_of_ble_eq_true rfl) (fun hPc hDc => k_runVO (As := [.int J23_l5]) (rest := []) C0 hZ hS hA (c_charAt l dC dI cy sq 7 (by decide) J23_l5 (ib_ch 7 4 h27 rfl (by decide)).1 (ib_ch 7 4 h27 rfl (by decide)).2.1 (ib_ch 7 4 h27 rfl (by decide)).2.2) mV_X5_248 hPc hDc (vk_recv hZ.1 (by decide) hS) hl rfl rfl (Nat.le_of_ble_eq_true rfl) ⟨(Nat.le_of_ble_eq_true rfl), (Nat.le_of_ble_eq_true rfl)⟩ ⟨(Nat.le_of_ble_eq_true rfl), (Nat.le_of_ble_eq_true rfl)⟩ dX5_wordIn_44) (fun r28 u29 H locs hw hP hD hS => ?_)
          have hP : va_P (dC, dI) vwCl [(a_this, .inr (5, [.ref a_this_text, .int x_this_length, .int x_this_at, .int x_this_behind, .int x_this_sort, .int x_this_allowed, .ref a_this_plan, .int x_this_fault, .int x_this_place])), (a_this_text, .inl (cy 0, 1600, .inl g_this_text))] H := hP
          have hD : va_D A [(a_this, .inr (5, [.ref a_this_text, .int x_this_length, .int x_this_at, .int x_this_behind, .int x_this_sort, .int x_this_allowed, .ref a_this_plan, .int x_this_fault, .int x_this_place])), (a_this_text, .inl (cy 0, 1600, .inl g_this_text))] := hD
          refine lv_bipush (v := 32) hx hb dX5_wordIn_47 (by decide) ?_
          refine lv_icmp_ne (tgt := 81) hx hb dX5_wordIn_49 (by decide) (fun c30 => ?_) (fun c30 => ?_)
          · skip
            refine lv_iload hx hb dX5_wordIn_81 (lv_at hl 4 rfl) ?_
            refine lv_if_eq (tgt := 113) hx hb dX5_wordIn_83 (by decide) (fun c31 => ?_) (fun c31 => ?_)
            · have h32 := ib_eq hJ23_l4 (ib_c 0 0 0 (by decide)) c31
              have h33 : ib J23_l4 0 0 := ib_w 0 0 h32.1 (by decide)
              have h34 : ib J23_l3 0 1603 := ⟨(hJ23_l3).1, by have := (hJ23_l3).1; have := (hJ23_l3).2; have := hJ23_lin0; have := (h27).1; have := (h27).2; omega⟩
              exact jn113  H locs ls (ib_w 0 1603 h34 (by decide)) (ib_w 0 1 h33 (by decide)) (ib_w 0 3 h27 (by decide)) (ib_w 0 1599 hK23_x_this_at (by decide)) (ib_w 1 1 hK23_x_this_sort (by decide)) (by have := (h27).1; have := (h27).2; have := hJ23_lin0; have := (h34).1; have := (h34).2; omega) hP hD hS (lv_sub hl [0, 1, 2, 3, 4, 5] rfl)
            · have h35 : ib J23_l4 1 1 := ib_w 1 1 (ib_ne_lo 0 hJ23_l4 (by decide) c31) (by decide)
              refine lv_iload_n hx hb dX5_wordIn_86 rfl (lv_at hl 3 rfl) ?_
              refine lv_aload_n hx hb dX5_wordIn_87 rfl (lv_at hl 0 rfl) ?_
              refine k_get C0 fg_X5_18 hP 0 rfl rfl dX5_wordIn_88 ?_
              refine lv_icmp_ge (tgt := 113) hx hb dX5_wordIn_91 (by decide) (fun c36 => ?_) (fun c36 => ?_)
              · have h37 := ib_le hx_this_behind hJ23_l3 c36
                have h38 : ib J23_l3 0 1603 := ⟨(hJ23_l3).1, by have := (hJ23_l3).1; have := (hJ23_l3).2; have := hJ23_lin0; have := (h27).1; have := (h27).2; omega⟩
                exact jn113  H locs ls (ib_w 0 1603 h38 (by decide)) (ib_w 0 1 h35 (by decide)) (ib_w 0 3 h27 (by decide)) (ib_w 0 1599 hK23_x_this_at (by decide)) (ib_w 1 1 hK23_x_this_sort (by decide)) (by have := (h27).1; have := (h27).2; have := hJ23_lin0; have := (h38).1; have := (h38).2; omega) hP hD hS (lv_sub hl [0, 1, 2, 3, 4, 5] rfl)
              · have h39 := ib_nle hx_this_behind hJ23_l3 c36
                have h40 : ib x_this_behind 1 1600 := ib_w 1 1600 h39.1 (by decide)
                have h41 : ib J23_l3 0 1599 := ib_w 0 1599 h39.2 (by decide)
                refine lv_aload_n hx hb dX5_wordIn_94 rfl (lv_at hl 0 rfl) ?_
                refine k_get C0 fg_X5_33 hP 0 rfl rfl dX5_wordIn_95 ?_
                refine lv_iload_n hx hb dX5_wordIn_98 rfl (lv_at hl 3 rfl) ?_
                refine va_iald hx hb C0.2.2.2.2.2.1 hP 1 0 rfl rfl (ib_in 1600 h41 (by decide)) dX5_wordIn_99 ?_
                refine lv_topi (fun z42 ez42 => ?_)
                have h43 : ib z42 0 255 := by rw [ez42]; exact ia_at hg_this_text (ib_in 1600 h41 (by decide))
                refine lv_aload_n hx hb dX5_wordIn_100 rfl (lv_at hl 1 rfl) ?_
                refine lv_iload hx hb dX5_wordIn_101 (lv_at hl 5 rfl) ?_
                refine k_ji hP hD hS hA [] [0, 1] (wr := [(a_this, .inr (5, [.ref a_this_text, .int x_this_length, .int x_this_at, .int x_this_behind, .int x_this_sort, .int x_this_allowed, .ref a_this_plan, .int x_this_fault, .int x_this_place])), (a_this_text, .inl (cy 0, 1600, .inl g_this_text))]) rfl rfl (by decide) (by decide) (by decide) 0 0 (Nat.le_of_ble_eq_true rfl) (Nat.le_of_ble_eq_true rfl) (fun hPc hDc => k_runVO (As := [.int J23_l5]) (rest := [.int z42]) C0 hZ hS hA (c_charAt l dC dI cy sq 7 (by decide) J23_l5 (ib_ch 7 4 h27 rfl (by decide)).1 (ib_ch 7 4 h27 rfl (by decide)).2.1 (ib_ch 7 4 h27 rfl (by decide)).2.2) mV_X5_248 hPc hDc (vk_recv hZ.1 (by decide) hS) hl rfl rfl (Nat.le_of_ble_eq_true rfl) ⟨(Nat.le_of_ble_eq_true rfl), (Nat.le_of_ble_eq_true rfl)⟩ ⟨(Nat.le_of_ble_eq_true rfl), (Nat.le_of_ble_eq_true rfl)⟩ dX5_wordIn_103) (fun r44 u45 H locs hw hP hD hS => ?_)
                have hP : va_P (dC, dI) vwCl [(a_this, .inr (5, [.ref a_this_text, .int x_this_length, .int x_this_at, .int x_this_behind, .int x_this_sort, .int x_this_allowed, .ref a_this_plan, .int x_this_fault, .int x_this_place])), (a_this_text, .inl (cy 0, 1600, .inl g_this_text))] H := hP
                have hD : va_D A [(a_this, .inr (5, [.ref a_this_text, .int x_this_length, .int x_this_at, .int x_this_behind, .int x_this_sort, .int x_this_allowed, .ref a_this_plan, .int x_this_fault, .int x_this_place])), (a_this_text, .inl (cy 0, 1600, .inl g_this_text))] := hD
                refine lv_icmp_ne (tgt := 113) hx hb dX5_wordIn_106 (by decide) (fun c46 => ?_) (fun c46 => ?_)
                · skip
                  exact jn113  H locs ls (ib_w 0 1603 h41 (by decide)) (ib_w 0 1 h35 (by decide)) (ib_w 0 3 h27 (by decide)) (ib_w 0 1599 hK23_x_this_at (by decide)) (ib_w 1 1 hK23_x_this_sort (by decide)) (by have := (h27).1; have := (h27).2; have := hJ23_lin0; have := (h41).1; have := (h41).2; omega) hP hD hS (lv_sub hl [0, 1, 2, 3, 4, 5] rfl)
                · have h47 := ib_eq h43 (ib_any r44) c46
                  have h48 : ib r44 0 255 := ib_w 0 255 h47.2 (by decide)
                  refine lv_iconst (v := 1) hx hb dX5_wordIn_109 (by decide) ?_
                  refine lv_goto (tgt := 114) hx hb dX5_wordIn_110 (by decide) ?_
                  exact jn114 1 H locs ls (ib_w 0 1603 h41 (by decide)) (ib_w 0 1 h35 (by decide)) (ib_w 0 3 h27 (by decide)) (ib_w 0 1599 hK23_x_this_at (by decide)) (ib_w 1 1 hK23_x_this_sort (by decide)) (ib_w 0 1 (ib_c 1 1 1 (by decide)) (by decide)) (by have := (h27).1; have := (h27).2; have := hJ23_lin0; have := (h41).1; have := (h41).2; omega) hP hD hS (lv_sub hl [0, 1, 2, 3, 4, 5] rfl)
          · have h49 := ib_eq (ib_any r28) (ib_c 32 32 32 (by decide)) c30
            have h50 : ib r28 32 32 := ib_w 32 32 h49.1 (by decide)
            have h51 : ib J23_l3 0 1603 := ⟨(hJ23_l3).1, by have := (hJ23_l3).1; have := (hJ23_l3).2; have := hJ23_lin0; have := (h27).1; have := (h27).2; omega⟩
            exact jn52  H locs ls (ib_w 0 1604 h51 (by decide)) (ib_w 0 1 hJ23_l4 (by decide)) (ib_w 0 4 h27 (by decide)) (ib_w 0 1599 hK23_x_this_at (by decide)) (ib_w 1 1 hK23_x_this_sort (by decide)) hP hD hS (lv_sub hl [0, 1, 2, 3, 4, 5] rfl)
  refine lv_aload_n hx hb dX5_wordIn_0 rfl (lv_at hl 0 rfl) ?_
  refine k_get C0 fg_X5_21 hP 0 rfl rfl dX5_wordIn_1 ?_
  refine lv_iconst (v := 1) hx hb dX5_wordIn_4 (by decide) ?_
  refine lv_icmp_eq (tgt := 10) hx hb dX5_wordIn_5 (by decide) (fun c52 => ?_) (fun c52 => ?_)
  · have h53 := ib_eq hx_this_sort (ib_c 1 1 1 (by decide)) c52
    have h54 : ib x_this_sort 1 1 := ib_w 1 1 h53.1 (by decide)
    have h55 : ib x_this_at 0 1599 := ib_w 0 1599 (ib_two hx_this_at (hc0_this (ib_nz h54 (by decide)))) (by decide)
    refine lv_iconst (v := 0) hx hb dX5_wordIn_10 (by decide) ?_
    refine lv_istore_n (lv' := [(2, .int 0), (0, .ref a_this), (1, .ref (sq 7))]) hx hb dX5_wordIn_11 rfl hl (by decide) rfl (fun ls hl => ?_)
    refine lv_aload_n hx hb dX5_wordIn_12 rfl (lv_at hl 1 rfl) ?_
    refine k_get C0 fg_X5_15 hP 0 rfl rfl dX5_wordIn_13 ?_
    refine lv_istore_n (lv' := [(3, .int x_this_at), (2, .int 0), (0, .ref a_this), (1, .ref (sq 7))]) hx hb dX5_wordIn_16 rfl hl (by decide) rfl (fun ls hl => ?_)
    refine lv_iconst (v := 1) hx hb dX5_wordIn_17 (by decide) ?_
    refine lv_istore (lv' := [(4, .int 1), (3, .int x_this_at), (2, .int 0), (0, .ref a_this), (1, .ref (sq 7))]) hx hb dX5_wordIn_18 hl (by decide) rfl (fun ls hl => ?_)
    refine lv_iconst (v := 0) hx hb dX5_wordIn_20 (by decide) ?_
    refine lv_istore (lv' := [(5, .int 0), (4, .int 1), (3, .int x_this_at), (2, .int 0), (0, .ref a_this), (1, .ref (sq 7))]) hx hb dX5_wordIn_21 hl (by decide) rfl (fun ls hl => ?_)
    exact jn23 7 0 x_this_at 1 0 H locs ls (ib_w 0 1599 h55 (by decide)) (ib_w 1 1 h54 (by decide)) (ib_w 0 1604 h55 (by decide)) (ib_w 0 1 (ib_c 1 1 1 (by decide)) (by decide)) (ib_w 0 5 (ib_c 0 0 0 (by decide)) (by decide)) (by have : (0 : Int32).toInt = 0 := (by decide); have := (h55).1; have := (h55).2; omega) (by have := (ib_c 0 0 0 (by decide)); unfold ib at this; omega) hP hD hS (lv_sub hl [4, 5, 3, 2, 1, 0] rfl)
  · skip
    refine lv_iconst (v := (-1)) hx hb dX5_wordIn_8 (by decide) ?_
    subst hQ; exact k_iret hx hb hr hlk rfl () hS True.intro hP hD (Nat.le_of_ble_eq_true rfl) (Nat.le_of_ble_eq_true rfl) dX5_wordIn_9
set_option maxHeartbeats 4000000 in
set_option maxRecDepth 100000 in
theorem s_X5_needWord_s7 (l : Launch) (dC : Nat → ClassId) (dI : Nat → Nat → Nat) (cy : Nat → ClassId) (sq : Nat → Nat) (a_this : Nat) (a_this_text : Nat) (g_this_text : Nat → Int32) (x_this_length : Int32) (x_this_at : Int32) (x_this_behind : Int32) (x_this_sort : Int32) (x_this_allowed : Int32) (a_this_plan : Nat) (x_this_fault : Int32) (x_this_place : Int32) (hg_this_text : ia g_this_text 1600 0 255) (hx_this_length : ib x_this_length 0 1600) (hx_this_at : ib x_this_at 0 1600) (hx_this_behind : ib x_this_behind 0 1600) (hx_this_sort : ib x_this_sort 0 4) (hc0_this : ¬ x_this_sort = 0 → ib x_this_at 0 1599) : k_Met l yX5_needWord cX5_needWord 2 none { frames := 5, cells := 0, slots := 0, locals := 166 } dC dI cy sq [.ref a_this, .ref (sq 7)] [(a_this, .inr (5, [.ref a_this_text, .int x_this_length, .int x_this_at, .int x_this_behind, .int x_this_sort, .int x_this_allowed, .ref a_this_plan, .int x_this_fault, .int x_this_place])), (a_this_text, .inl (cy 0, 1600, .inl g_this_text))] (k_Qv dC dI (fun (u : Int32 × Int32 × Int32 × Int32 × Int32) => match u with | (n0, n1, n2, n3, n4) => ib n0 0 1600 ∧ ib n1 0 1600 ∧ ib n2 0 4 ∧ (¬ n2 = 0 → ib n0 0 1599)) (fun u : Int32 × Int32 × Int32 × Int32 × Int32 => match u with | (n0, n1, n2, n3, n4) => [(a_this, .inr (5, [.ref a_this_text, .int x_this_length, .int n0, .int n1, .int n2, .int x_this_allowed, .ref a_this_plan, .int n3, .int n4])), (a_this_text, .inl (cy 0, 1600, .inl g_this_text))])) := by
  refine k_ofW2 (by decide +kernel) (Nat.le_of_ble_eq_true rfl) ?_
  intro p e s m below meth c A ls H locs args Q hQ C0 hZ hr hlk hin hP hD hA hS hl
  have C0 : k_cx p s m args c cX5_needWord 2 RX5 dC dI cy sq := C0
  have hx := C0.1
  have hb := C0.2.1
  have hl : lv_has ls 2 [(0, .ref a_this), (1, .ref (sq 7))] := hl
  refine lv_aload_n hx hb dX5_needWord_0 rfl (lv_at hl 0 rfl) ?_
  refine lv_aload_n hx hb dX5_needWord_1 rfl (lv_at hl 1 rfl) ?_
  refine k_ji hP hD hS hA [0, 1] [] (wr := []) rfl rfl (by decide) (by decide) (by decide) 0 0 (Nat.le_of_ble_eq_true rfl) (Nat.le_of_ble_eq_true rfl) (fun hPc hDc => k_runV (As := [.ref (sq 7)]) (rest := []) C0 hZ hS hA (s_X5_wordIn_s7 l dC dI cy sq a_this a_this_text g_this_text x_this_length x_this_at x_this_behind x_this_sort x_this_allowed a_this_plan x_this_fault x_this_place hg_this_text (ib_w 0 1600 hx_this_at (by decide)) (ib_w 0 1600 hx_this_behind (by decide)) (ib_w 0 4 hx_this_sort (by decide)) (fun hq9 => ib_w 0 1599 (hc0_this hq9) (by decide))) mV_X5_54 hPc hDc rfl rfl rfl hl rfl rfl (Nat.le_of_ble_eq_true rfl) ⟨(Nat.le_of_ble_eq_true rfl), (Nat.le_of_ble_eq_true rfl)⟩ ⟨(Nat.le_of_ble_eq_true rfl), (Nat.le_of_ble_eq_true rfl)⟩ dX5_needWord_2) (fun r1 u2 H locs hw hP hD hS => ?_)
  try dsimp only at hP hD hw
  have hP : va_P (dC, dI) vwCl [(a_this, .inr (5, [.ref a_this_text, .int x_this_length, .int x_this_at, .int x_this_behind, .int x_this_sort, .int x_this_allowed, .ref a_this_plan, .int x_this_fault, .int x_this_place])), (a_this_text, .inl (cy 0, 1600, .inl g_this_text))] H := hP
  have hD : va_D A [(a_this, .inr (5, [.ref a_this_text, .int x_this_length, .int x_this_at, .int x_this_behind, .int x_this_sort, .int x_this_allowed, .ref a_this_plan, .int x_this_fault, .int x_this_place])), (a_this_text, .inl (cy 0, 1600, .inl g_this_text))] := hD
  refine lv_iconst (v := (-1)) hx hb dX5_needWord_5 (by decide) ?_
  refine lv_icmp_ne (tgt := 21) hx hb dX5_needWord_6 (by decide) (fun c3 => ?_) (fun c3 => ?_)
  · skip
    refine lv_aload_n hx hb dX5_needWord_21 rfl (lv_at hl 0 rfl) ?_
    refine lv_aload_n hx hb dX5_needWord_22 rfl (lv_at hl 0 rfl) ?_
    refine k_get C0 fg_X5_18 hP 0 rfl rfl dX5_needWord_23 ?_
    refine k_jv hP hD hS hA [0, 1] [] (wr := []) rfl rfl (by decide) (by decide) (by decide) 0 0 (Nat.le_of_ble_eq_true rfl) (Nat.le_of_ble_eq_true rfl) (fun hPc hDc => k_runV (As := [.int x_this_behind]) (rest := []) C0 hZ hS hA (s_X5_moveTo l dC dI cy sq a_this a_this_text g_this_text x_this_length x_this_at x_this_behind x_this_sort x_this_allowed a_this_plan x_this_fault x_this_place x_this_behind hg_this_text (ib_w 0 1600 hx_this_length (by decide)) (ib_w 0 1600 hx_this_behind (by decide))) mV_X5_86 hPc hDc rfl rfl rfl hl rfl rfl (Nat.le_of_ble_eq_true rfl) ⟨(Nat.le_of_ble_eq_true rfl), (Nat.le_of_ble_eq_true rfl)⟩ ⟨(Nat.le_of_ble_eq_true rfl), (Nat.le_of_ble_eq_true rfl)⟩ dX5_needWord_26) (fun u5 H locs hw hP hD hS => ?_)
    obtain ⟨v6, v7, v8⟩ := u5
    try dsimp only at hP hD hw
    have hP : va_P (dC, dI) vwCl [(a_this, .inr (5, [.ref a_this_text, .int x_this_length, .int v6, .int v7, .int v8, .int x_this_allowed, .ref a_this_plan, .int x_this_fault, .int x_this_place])), (a_this_text, .inl (cy 0, 1600, .inl g_this_text))] H := hP
    have hD : va_D A [(a_this, .inr (5, [.ref a_this_text, .int x_this_length, .int v6, .int v7, .int v8, .int x_this_allowed, .ref a_this_plan, .int x_this_fault, .int x_this_place])), (a_this_text, .inl (cy 0, 1600, .inl g_this_text))] := hD
    obtain ⟨h9, h10, h11, h12⟩ := hw
    subst hQ; exact k_vret hx hb hr hlk ((v6, v7, v8, x_this_fault, x_this_place)) hS ⟨ib_w 0 1600 h9 (by decide), ib_w 0 1600 h10 (by decide), ib_w 0 4 h11 (by decide), fun hq9 => ib_w 0 1599 (h12 hq9) (by decide)⟩ hP hD (Nat.le_of_ble_eq_true rfl) (Nat.le_of_ble_eq_true rfl) dX5_needWord_29
  · have h13 := ib_eq (ib_any r1) (ib_c (-1) (-1) (-1) (by decide)) c3
    have h14 : ib r1 (-1) (-1) := ib_w (-1) (-1) h13.1 (by decide)
    refine lv_aload_n hx hb dX5_needWord_9 rfl (lv_at hl 0 rfl) ?_
    refine lv_iconst (v := 1) hx hb dX5_needWord_10 (by decide) ?_
    refine lv_aload_n hx hb dX5_needWord_11 rfl (lv_at hl 0 rfl) ?_
    refine k_get C0 fg_X5_15 hP 0 rfl rfl dX5_needWord_12 ?_
    refine k_jv hP hD hS hA [0] [1] (wr := [(a_this_text, .inl (cy 0, 1600, .inl g_this_text))]) rfl rfl (by decide) (by decide) (by decide) 0 0 (Nat.le_of_ble_eq_true rfl) (Nat.le_of_ble_eq_true rfl) (fun hPc hDc => k_runV (As := [.int 1, .int x_this_at]) (rest := []) C0 hZ hS hA (s_X5_fail l dC dI cy sq a_this a_this_text x_this_length x_this_at x_this_behind x_this_sort x_this_allowed a_this_plan x_this_fault x_this_place 1 x_this_at ) mV_X5_78 hPc hDc rfl rfl rfl hl rfl rfl (Nat.le_of_ble_eq_true rfl) ⟨(Nat.le_of_ble_eq_true rfl), (Nat.le_of_ble_eq_true rfl)⟩ ⟨(Nat.le_of_ble_eq_true rfl), (Nat.le_of_ble_eq_true rfl)⟩ dX5_needWord_15) (fun u16 H locs hw hP hD hS => ?_)
    obtain ⟨v17, v18⟩ := u16
    try dsimp only at hP hD hw
    have hP : va_P (dC, dI) vwCl [(a_this_text, .inl (cy 0, 1600, .inl g_this_text)), (a_this, .inr (5, [.ref a_this_text, .int x_this_length, .int x_this_length, .int x_this_length, .int 0, .int x_this_allowed, .ref a_this_plan, .int v17, .int v18]))] H := hP
    have hD : va_D A [(a_this_text, .inl (cy 0, 1600, .inl g_this_text)), (a_this, .inr (5, [.ref a_this_text, .int x_this_length, .int x_this_length, .int x_this_length, .int 0, .int x_this_allowed, .ref a_this_plan, .int v17, .int v18]))] := hD
    refine lv_goto (tgt := 29) hx hb dX5_needWord_18 (by decide) ?_
    subst hQ; exact k_vret hx hb hr hlk ((x_this_length, x_this_length, 0, v17, v18)) hS ⟨ib_w 0 1600 hx_this_length (by decide), ib_w 0 1600 hx_this_length (by decide), ib_w 0 4 (ib_c 0 0 0 (by decide)) (by decide), fun hq9 => absurd rfl hq9⟩ (hP.sub [1, 0] rfl) (hD.sub [1, 0] (by decide) rfl) (Nat.le_of_ble_eq_true rfl) (Nat.le_of_ble_eq_true rfl) dX5_needWord_29
set_option maxHeartbeats 4000000 in
set_option maxRecDepth 100000 in
theorem s_X5_numberBehind_a1_0_a2_99_s7 (l : Launch) (dC : Nat → ClassId) (dI : Nat → Nat → Nat) (cy : Nat → ClassId) (sq : Nat → Nat) (a_this : Nat) (a_this_text : Nat) (g_this_text : Nat → Int32) (x_this_length : Int32) (x_this_at : Int32) (x_this_behind : Int32) (x_this_sort : Int32) (x_this_allowed : Int32) (a_this_plan : Nat) (x_this_fault : Int32) (x_this_place : Int32) (hg_this_text : ia g_this_text 1600 0 255) (hx_this_length : ib x_this_length 0 1600) (hx_this_at : ib x_this_at 0 1600) (hx_this_behind : ib x_this_behind 0 1600) (hx_this_sort : ib x_this_sort 0 4) (hc0_this : ¬ x_this_sort = 0 → ib x_this_at 0 1599) : k_Met l yX5_numberBehind cX5_numberBehind 4 (some .int) { frames := 6, cells := 0, slots := 0, locals := 187 } dC dI cy sq [.ref a_this, .ref (sq 7), .int 0, .int 99] [(a_this, .inr (5, [.ref a_this_text, .int x_this_length, .int x_this_at, .int x_this_behind, .int x_this_sort, .int x_this_allowed, .ref a_this_plan, .int x_this_fault, .int x_this_place])), (a_this_text, .inl (cy 0, 1600, .inl g_this_text))] (k_Qi dC dI (fun (r : Int32) (u : Int32 × Int32 × Int32 × Int32 × Int32) => match u with | (n0, n1, n2, n3, n4) => ib r 0 99 ∧ ib n0 0 1600 ∧ ib n1 0 1600 ∧ ib n2 0 4 ∧ (¬ n2 = 0 → ib n0 0 1599)) (fun u : Int32 × Int32 × Int32 × Int32 × Int32 => match u with | (n0, n1, n2, n3, n4) => [(a_this, .inr (5, [.ref a_this_text, .int x_this_length, .int n0, .int n1, .int n2, .int x_this_allowed, .ref a_this_plan, .int n3, .int n4])), (a_this_text, .inl (cy 0, 1600, .inl g_this_text))])) := by
  refine k_ofW2 (by decide +kernel) (Nat.le_of_ble_eq_true rfl) ?_
  intro p e s m below meth c A ls H locs args Q hQ C0 hZ hr hlk hin hP hD hA hS hl
  have C0 : k_cx p s m args c cX5_numberBehind 4 RX5 dC dI cy sq := C0
  have hx := C0.1
  have hb := C0.2.1
  have hl : lv_has ls 4 [(0, .ref a_this), (1, .ref (sq 7)), (2, .int 0), (3, .int 99)] := hl
  refine lv_aload_n hx hb dX5_numberBehind_0 rfl (lv_at hl 0 rfl) ?_
  refine lv_aload_n hx hb dX5_numberBehind_1 rfl (lv_at hl 1 rfl) ?_
  refine k_jv hP hD hS hA [0, 1] [] (wr := []) rfl rfl (by decide) (by decide) (by decide) 0 0 (Nat.le_of_ble_eq_true rfl) (Nat.le_of_ble_eq_true rfl) (fun hPc hDc => k_runV (As := [.ref (sq 7)]) (rest := []) C0 hZ hS hA (s_X5_needWord_s7 l dC dI cy sq a_this a_this_text g_this_text x_this_length x_this_at x_this_behind x_this_sort x_this_allowed a_this_plan x_this_fault x_this_place hg_this_text (ib_w 0 1600 hx_this_length (by decide)) (ib_w 0 1600 hx_this_at (by decide)) (ib_w 0 1600 hx_this_behind (by decide)) (ib_w 0 4 hx_this_sort (by decide)) (fun hq9 => ib_w 0 1599 (hc0_this hq9) (by decide))) mV_X5_144 hPc hDc rfl rfl rfl hl rfl rfl (Nat.le_of_ble_eq_true rfl) ⟨(Nat.le_of_ble_eq_true rfl), (Nat.le_of_ble_eq_true rfl)⟩ ⟨(Nat.le_of_ble_eq_true rfl), (Nat.le_of_ble_eq_true rfl)⟩ dX5_numberBehind_2) (fun u2 H locs hw hP hD hS => ?_)
  obtain ⟨v3, v4, v5, v6, v7⟩ := u2
  try dsimp only at hP hD hw
  have hP : va_P (dC, dI) vwCl [(a_this, .inr (5, [.ref a_this_text, .int x_this_length, .int v3, .int v4, .int v5, .int x_this_allowed, .ref a_this_plan, .int v6, .int v7])), (a_this_text, .inl (cy 0, 1600, .inl g_this_text))] H := hP
  have hD : va_D A [(a_this, .inr (5, [.ref a_this_text, .int x_this_length, .int v3, .int v4, .int v5, .int x_this_allowed, .ref a_this_plan, .int v6, .int v7])), (a_this_text, .inl (cy 0, 1600, .inl g_this_text))] := hD
  obtain ⟨h8, h9, h10, h11⟩ := hw
  refine lv_aload_n hx hb dX5_numberBehind_5 rfl (lv_at hl 0 rfl) ?_
  refine lv_iload_n hx hb dX5_numberBehind_6 rfl (lv_at hl 2 rfl) ?_
  refine lv_iload_n hx hb dX5_numberBehind_7 rfl (lv_at hl 3 rfl) ?_
  refine k_ji hP hD hS hA [0, 1] [] (wr := []) rfl rfl (by decide) (by decide) (by decide) 0 0 (Nat.le_of_ble_eq_true rfl) (Nat.le_of_ble_eq_true rfl) (fun hPc hDc => k_runV (As := [.int 0, .int 99]) (rest := []) C0 hZ hS hA (s_X5_number_a0_0_a1_99 l dC dI cy sq a_this a_this_text g_this_text x_this_length v3 v4 v5 x_this_allowed a_this_plan v6 v7 hg_this_text (ib_w 0 1600 hx_this_length (by decide)) (ib_w 0 1600 h8 (by decide)) (ib_w 0 1600 h9 (by decide)) (ib_w 0 4 h10 (by decide)) (fun hq9 => ib_w 0 1599 (h11 hq9) (by decide))) mV_X5_168 hPc hDc rfl rfl rfl hl rfl rfl (Nat.le_of_ble_eq_true rfl) ⟨(Nat.le_of_ble_eq_true rfl), (Nat.le_of_ble_eq_true rfl)⟩ ⟨(Nat.le_of_ble_eq_true rfl), (Nat.le_of_ble_eq_true rfl)⟩ dX5_numberBehind_8) (fun r12 u13 H locs hw hP hD hS => ?_)
  obtain ⟨v14, v15, v16, v17, v18⟩ := u13
  try dsimp only at hP hD hw
  have hP : va_P (dC, dI) vwCl [(a_this, .inr (5, [.ref a_this_text, .int x_this_length, .int v14, .int v15, .int v16, .int x_this_allowed, .ref a_this_plan, .int v17, .int v18])), (a_this_text, .inl (cy 0, 1600, .inl g_this_text))] H := hP
  have hD : va_D A [(a_this, .inr (5, [.ref a_this_text, .int x_this_length, .int v14, .int v15, .int v16, .int x_this_allowed, .ref a_this_plan, .int v17, .int v18])), (a_this_text, .inl (cy 0, 1600, .inl g_this_text))] := hD
  obtain ⟨h19, h20, h21, h22, h23⟩ := hw
  subst hQ; exact k_iret hx hb hr hlk rfl ((v14, v15, v16, v17, v18)) hS ⟨ib_w 0 99 h19 (by decide), ib_w 0 1600 h20 (by decide), ib_w 0 1600 h21 (by decide), ib_w 0 4 h22 (by decide), fun hq9 => ib_w 0 1599 (h23 hq9) (by decide)⟩ hP hD (Nat.le_of_ble_eq_true rfl) (Nat.le_of_ble_eq_true rfl) dX5_numberBehind_11
set_option maxHeartbeats 4000000 in
set_option maxRecDepth 100000 in
theorem s_X5_wordIn_s8 (l : Launch) (dC : Nat → ClassId) (dI : Nat → Nat → Nat) (cy : Nat → ClassId) (sq : Nat → Nat) (a_this : Nat) (a_this_text : Nat) (g_this_text : Nat → Int32) (x_this_length : Int32) (x_this_at : Int32) (x_this_behind : Int32) (x_this_sort : Int32) (x_this_allowed : Int32) (a_this_plan : Nat) (x_this_fault : Int32) (x_this_place : Int32) (hg_this_text : ia g_this_text 1600 0 255) (hx_this_at : ib x_this_at 0 1600) (hx_this_behind : ib x_this_behind 0 1600) (hx_this_sort : ib x_this_sort 0 4) (hc0_this : ¬ x_this_sort = 0 → ib x_this_at 0 1599) : k_Met l yX5_wordIn cX5_wordIn 6 (some .int) { frames := 4, cells := 0, slots := 0, locals := 141 } dC dI cy sq [.ref a_this, .ref (sq 8)] [(a_this, .inr (5, [.ref a_this_text, .int x_this_length, .int x_this_at, .int x_this_behind, .int x_this_sort, .int x_this_allowed, .ref a_this_plan, .int x_this_fault, .int x_this_place])), (a_this_text, .inl (cy 0, 1600, .inl g_this_text))] (k_Qi dC dI (fun (r : Int32) (_ : Unit) => True) (fun _ : Unit => [(a_this, .inr (5, [.ref a_this_text, .int x_this_length, .int x_this_at, .int x_this_behind, .int x_this_sort, .int x_this_allowed, .ref a_this_plan, .int x_this_fault, .int x_this_place])), (a_this_text, .inl (cy 0, 1600, .inl g_this_text))])) := by
  refine k_ofW2 (by decide +kernel) (Nat.le_of_ble_eq_true rfl) ?_
  intro p e s m below meth c A ls H locs args Q hQ C0 hZ hr hlk hin hP hD hA hS hl
  have C0 : k_cx p s m args c cX5_wordIn 6 RX5 dC dI cy sq := C0
  have hx := C0.1
  have hb := C0.2.1
  have hl : lv_has ls 6 [(0, .ref a_this), (1, .ref (sq 8))] := hl
  have jn23 : ∀ (n : Nat) (J23_l2 : Int32) (J23_l3 : Int32) (J23_l4 : Int32) (J23_l5 : Int32) (H : Heap) (locs : List Loc) (ls : Array Slot), ib x_this_at 0 1599 → ib x_this_sort 1 1 → ib J23_l3 0 1604 → ib J23_l4 0 1 → ib J23_l5 0 5 → (1 * J23_l3.toInt + (-1) * J23_l5.toInt ≤ 1600) → 6 ≤ J23_l5.toInt + (n : Int) → va_P (dC, dI) vwCl [(a_this, .inr (5, [.ref a_this_text, .int x_this_length, .int x_this_at, .int x_this_behind, .int x_this_sort, .int x_this_allowed, .ref a_this_plan, .int x_this_fault, .int x_this_place])), (a_this_text, .inl (cy 0, 1600, .inl g_this_text))] H → va_D A [(a_this, .inr (5, [.ref a_this_text, .int x_this_length, .int x_this_at, .int x_this_behind, .int x_this_sort, .int x_this_allowed, .ref a_this_plan, .int x_this_fault, .int x_this_place])), (a_this_text, .inl (cy 0, 1600, .inl g_this_text))] → va_S A s.heap H locs → lv_has ls 6 [(0, .ref a_this), (1, .ref (sq 8)), (2, .int J23_l2), (3, .int J23_l3), (4, .int J23_l4), (5, .int J23_l5)] → W p l e { frames := 4, cells := 0, slots := 0, locals := 141 } s m args below meth c H locs 0 0 Q (F0 m 23 ls []) := by
    intro n
    induction n with
    | zero =>
      intro J23_l2 J23_l3 J23_l4 J23_l5 H locs ls hK23_x_this_at hK23_x_this_sort hJ23_l3 hJ23_l4 hJ23_l5 hJ23_lin0 hm
      exact absurd hm (by have := hJ23_l5; unfold ib at this; omega)
    | succ n ih =>
      intro J23_l2 J23_l3 J23_l4 J23_l5 H locs ls hK23_x_this_at hK23_x_this_sort hJ23_l3 hJ23_l4 hJ23_l5 hJ23_lin0 hm23 hP hD hS hl
      have ih23 := ih
      have jn119 : ∀ (J119_l2 : Int32) (J119_l3 : Int32) (J119_l4 : Int32) (H : Heap) (locs : List Loc) (ls : Array Slot), ib x_this_at 0 1599 → ib J23_l5 0 4 → ib x_this_sort 1 1 → ib J119_l3 0 1604 → ib J119_l4 0 1 → (1 * J119_l3.toInt + (-1) * J23_l5.toInt ≤ 1601) → va_P (dC, dI) vwCl [(a_this, .inr (5, [.ref a_this_text, .int x_this_length, .int x_this_at, .int x_this_behind, .int x_this_sort, .int x_this_allowed, .ref a_this_plan, .int x_this_fault, .int x_this_place])), (a_this_text, .inl (cy 0, 1600, .inl g_this_text))] H → va_D A [(a_this, .inr (5, [.ref a_this_text, .int x_this_length, .int x_this_at, .int x_this_behind, .int x_this_sort, .int x_this_allowed, .ref a_this_plan, .int x_this_fault, .int x_this_place])), (a_this_text, .inl (cy 0, 1600, .inl g_this_text))] → va_S A s.heap H locs → lv_has ls 6 [(0, .ref a_this), (1, .ref (sq 8)), (2, .int J119_l2), (3, .int J119_l3), (4, .int J119_l4), (5, .int J23_l5)] → W p l e { frames := 4, cells := 0, slots := 0, locals := 141 } s m args below meth c H locs 0 0 Q (F0 m 119 ls []) := by
        intro J119_l2 J119_l3 J119_l4 H locs ls hK119_x_this_at hK119_J23_l5 hK119_x_this_sort hJ119_l3 hJ119_l4 hJ119_lin0 hP hD hS hl
        obtain ⟨z1, ez1⟩ : ∃ y : Int32, y = J23_l5 + 1 := ⟨_, rfl⟩
        refine lv_iinc (v := z1) (lv' := [(5, .int z1), (0, .ref a_this), (1, .ref (sq 8)), (2, .int J119_l2), (3, .int J119_l3), (4, .int J119_l4)]) hx hb dX5_wordIn_119 hl (k := 5) rfl (by rw [ez1]; rfl) (by decide) rfl (fun ls hl => ?_)
        have h2 := ib_add hK119_J23_l5 (ib_c 1 1 1 (by decide)) (by decide)
        rw [← ez1] at h2
        have h3 : ib z1 1 5 := ib_w 1 5 h2.1 (by decide)
        refine lv_goto (tgt := 23) hx hb dX5_wordIn_122 (by decide) ?_
        exact ih23 J119_l2 J119_l3 J119_l4 z1 H locs ls (ib_w 0 1599 hK119_x_this_at (by decide)) (ib_w 1 1 hK119_x_this_sort (by decide)) (ib_w 0 1604 hJ119_l3 (by decide)) (ib_w 0 1 hJ119_l4 (by decide)) (ib_w 0 5 h3 (by decide)) (by have := (h3).1; have := (h3).2; have := h2.2; have : (1 : Int32).toInt = 1 := (by decide); have := (hK119_J23_l5).1; have := (hK119_J23_l5).2; have := hJ23_lin0; have := hJ119_lin0; have := (hJ119_l3).1; have := (hJ119_l3).2; have := (hJ23_l3).1; have := (hJ23_l3).2; omega) (by have := h2.2; have : (1 : Int32).toInt = 1 := (by decide); omega) hP hD hS (lv_sub hl [1, 2, 3, 4, 5, 0] rfl)
      have jn114 : ∀ (J114_s0 : Int32) (H : Heap) (locs : List Loc) (ls : Array Slot), ib J23_l3 0 1603 → ib J23_l4 0 1 → ib J23_l5 0 3 → ib x_this_at 0 1599 → ib x_this_sort 1 1 → ib J114_s0 0 1 → (1 * J23_l3.toInt + (-1) * J23_l5.toInt ≤ 1600) → va_P (dC, dI) vwCl [(a_this, .inr (5, [.ref a_this_text, .int x_this_length, .int x_this_at, .int x_this_behind, .int x_this_sort, .int x_this_allowed, .ref a_this_plan, .int x_this_fault, .int x_this_place])), (a_this_text, .inl (cy 0, 1600, .inl g_this_text))] H → va_D A [(a_this, .inr (5, [.ref a_this_text, .int x_this_length, .int x_this_at, .int x_this_behind, .int x_this_sort, .int x_this_allowed, .ref a_this_plan, .int x_this_fault, .int x_this_place])), (a_this_text, .inl (cy 0, 1600, .inl g_this_text))] → va_S A s.heap H locs → lv_has ls 6 [(0, .ref a_this), (1, .ref (sq 8)), (2, .int J23_l2), (3, .int J23_l3), (4, .int J23_l4), (5, .int J23_l5)] → W p l e { frames := 4, cells := 0, slots := 0, locals := 141 } s m args below meth c H locs 0 0 Q (F0 m 114 ls [.int J114_s0]) := by
        intro J114_s0 H locs ls hK114_J23_l3 hK114_J23_l4 hK114_J23_l5 hK114_x_this_at hK114_x_this_sort hJ114_s0 hJ114_lin0 hP hD hS hl
        refine lv_istore (lv' := [(4, .int J114_s0), (0, .ref a_this), (1, .ref (sq 8)), (2, .int J23_l2), (3, .int J23_l3), (5, .int J23_l5)]) hx hb dX5_wordIn_114 hl (by decide) rfl (fun ls hl => ?_)
        obtain ⟨z4, ez4⟩ : ∃ y : Int32, y = J23_l3 + 1 := ⟨_, rfl⟩
        refine lv_iinc (v := z4) (lv' := [(3, .int z4), (4, .int J114_s0), (0, .ref a_this), (1, .ref (sq 8)), (2, .int J23_l2), (5, .int J23_l5)]) hx hb dX5_wordIn_116 hl (k := 4) rfl (by rw [ez4]; rfl) (by decide) rfl (fun ls hl => ?_)
        have h5 := ib_add hK114_J23_l3 (ib_c 1 1 1 (by decide)) (by decide)
        rw [← ez4] at h5
        have h6 : ib z4 1 1604 := ib_w 1 1604 h5.1 (by decide)
        exact jn119 J23_l2 z4 J114_s0 H locs ls (ib_w 0 1599 hK114_x_this_at (by decide)) (ib_w 0 4 hK114_J23_l5 (by decide)) (ib_w 1 1 hK114_x_this_sort (by decide)) (ib_w 0 1604 h6 (by decide)) (ib_w 0 1 hJ114_s0 (by decide)) (by have := (hK114_J23_l5).1; have := (hK114_J23_l5).2; have := hJ23_lin0; have := hJ114_lin0; have := (hK114_J23_l3).1; have := (hK114_J23_l3).2; have := (h6).1; have := (h6).2; have := h5.2; have : (1 : Int32).toInt = 1 := (by decide); omega) hP hD hS (lv_sub hl [2, 3, 4, 0, 1, 5] rfl)
      have jn113 : ∀  (H : Heap) (locs : List Loc) (ls : Array Slot), ib J23_l3 0 1603 → ib J23_l4 0 1 → ib J23_l5 0 3 → ib x_this_at 0 1599 → ib x_this_sort 1 1 → (1 * J23_l3.toInt + (-1) * J23_l5.toInt ≤ 1600) → va_P (dC, dI) vwCl [(a_this, .inr (5, [.ref a_this_text, .int x_this_length, .int x_this_at, .int x_this_behind, .int x_this_sort, .int x_this_allowed, .ref a_this_plan, .int x_this_fault, .int x_this_place])), (a_this_text, .inl (cy 0, 1600, .inl g_this_text))] H → va_D A [(a_this, .inr (5, [.ref a_this_text, .int x_this_length, .int x_this_at, .int x_this_behind, .int x_this_sort, .int x_this_allowed, .ref a_this_plan, .int x_this_fault, .int x_this_place])), (a_this_text, .inl (cy 0, 1600, .inl g_this_text))] → va_S A s.heap H locs → lv_has ls 6 [(0, .ref a_this), (1, .ref (sq 8)), (2, .int J23_l2), (3, .int J23_l3), (4, .int J23_l4), (5, .int J23_l5)] → W p l e { frames := 4, cells := 0, slots := 0, locals := 141 } s m args below meth c H locs 0 0 Q (F0 m 113 ls []) := by
        intro H locs ls hK113_J23_l3 hK113_J23_l4 hK113_J23_l5 hK113_x_this_at hK113_x_this_sort hJ113_lin0 hP hD hS hl
        refine lv_iconst (v := 0) hx hb dX5_wordIn_113 (by decide) ?_
        exact jn114 0 H locs ls (ib_w 0 1603 hK113_J23_l3 (by decide)) (ib_w 0 1 hK113_J23_l4 (by decide)) (ib_w 0 3 hK113_J23_l5 (by decide)) (ib_w 0 1599 hK113_x_this_at (by decide)) (ib_w 1 1 hK113_x_this_sort (by decide)) (ib_w 0 1 (ib_c 0 0 0 (by decide)) (by decide)) (by have := (hK113_J23_l5).1; have := (hK113_J23_l5).2; have := hJ23_lin0; have := hJ113_lin0; have := (hK113_J23_l3).1; have := (hK113_J23_l3).2; omega) hP hD hS (lv_sub hl [0, 1, 2, 3, 4, 5] rfl)
      have jn67 : ∀  (H : Heap) (locs : List Loc) (ls : Array Slot), ib J23_l3 0 1604 → ib J23_l4 0 1 → ib J23_l5 0 4 → ib x_this_at 0 1599 → ib x_this_sort 1 1 → va_P (dC, dI) vwCl [(a_this, .inr (5, [.ref a_this_text, .int x_this_length, .int x_this_at, .int x_this_behind, .int x_this_sort, .int x_this_allowed, .ref a_this_plan, .int x_this_fault, .int x_this_place])), (a_this_text, .inl (cy 0, 1600, .inl g_this_text))] H → va_D A [(a_this, .inr (5, [.ref a_this_text, .int x_this_length, .int x_this_at, .int x_this_behind, .int x_this_sort, .int x_this_allowed, .ref a_this_plan, .int x_this_fault, .int x_this_place])), (a_this_text, .inl (cy 0, 1600, .inl g_this_text))] → va_S A s.heap H locs → lv_has ls 6 [(0, .ref a_this), (1, .ref (sq 8)), (2, .int J23_l2), (3, .int J23_l3), (4, .int J23_l4), (5, .int J23_l5)] → W p l e { frames := 4, cells := 0, slots := 0, locals := 141 } s m args below meth c H locs 0 0 Q (F0 m 67 ls []) := by
        intro H locs ls hK67_J23_l3 hK67_J23_l4 hK67_J23_l5 hK67_x_this_at hK67_x_this_sort hP hD hS hl
        obtain ⟨z7, ez7⟩ : ∃ y : Int32, y = J23_l2 + 1 := ⟨_, rfl⟩
        refine lv_iinc (v := z7) (lv' := [(2, .int z7), (0, .ref a_this), (1, .ref (sq 8)), (3, .int J23_l3), (4, .int J23_l4), (5, .int J23_l5)]) hx hb dX5_wordIn_67 hl (k := 2) rfl (by rw [ez7]; rfl) (by decide) rfl (fun ls hl => ?_)
        refine lv_aload_n hx hb dX5_wordIn_70 rfl (lv_at hl 1 rfl) ?_
        refine k_get C0 fg_X5_15 hP 0 rfl rfl dX5_wordIn_71 ?_
        refine lv_istore_n (lv' := [(3, .int x_this_at), (2, .int z7), (0, .ref a_this), (1, .ref (sq 8)), (4, .int J23_l4), (5, .int J23_l5)]) hx hb dX5_wordIn_74 rfl hl (by decide) rfl (fun ls hl => ?_)
        refine lv_iconst (v := 1) hx hb dX5_wordIn_75 (by decide) ?_
        refine lv_istore (lv' := [(4, .int 1), (3, .int x_this_at), (2, .int z7), (0, .ref a_this), (1, .ref (sq 8)), (5, .int J23_l5)]) hx hb dX5_wordIn_76 hl (by decide) rfl (fun ls hl => ?_)
        refine lv_goto (tgt := 119) hx hb dX5_wordIn_78 (by decide) ?_
        exact jn119 z7 x_this_at 1 H locs ls (ib_w 0 1599 hK67_x_this_at (by decide)) (ib_w 0 4 hK67_J23_l5 (by decide)) (ib_w 1 1 hK67_x_this_sort (by decide)) (ib_w 0 1604 hK67_x_this_at (by decide)) (ib_w 0 1 (ib_c 1 1 1 (by decide)) (by decide)) (by have := (hK67_J23_l5).1; have := (hK67_J23_l5).2; have := hJ23_lin0; have := (hK67_J23_l3).1; have := (hK67_J23_l3).2; have := (hK67_x_this_at).1; have := (hK67_x_this_at).2; omega) hP hD hS (lv_sub hl [3, 4, 2, 1, 0, 5] rfl)
      have jn52 : ∀  (H : Heap) (locs : List Loc) (ls : Array Slot), ib J23_l3 0 1604 → ib J23_l4 0 1 → ib J23_l5 0 4 → ib x_this_at 0 1599 → ib x_this_sort 1 1 → va_P (dC, dI) vwCl [(a_this, .inr (5, [.ref a_this_text, .int x_this_length, .int x_this_at, .int x_this_behind, .int x_this_sort, .int x_this_allowed, .ref a_this_plan, .int x_this_fault, .int x_this_place])), (a_this_text, .inl (cy 0, 1600, .inl g_this_text))] H → va_D A [(a_this, .inr (5, [.ref a_this_text, .int x_this_length, .int x_this_at, .int x_this_behind, .int x_this_sort, .int x_this_allowed, .ref a_this_plan, .int x_this_fault, .int x_this_place])), (a_this_text, .inl (cy 0, 1600, .inl g_this_text))] → va_S A s.heap H locs → lv_has ls 6 [(0, .ref a_this), (1, .ref (sq 8)), (2, .int J23_l2), (3, .int J23_l3), (4, .int J23_l4), (5, .int J23_l5)] → W p l e { frames := 4, cells := 0, slots := 0, locals := 141 } s m args below meth c H locs 0 0 Q (F0 m 52 ls []) := by
        intro H locs ls hK52_J23_l3 hK52_J23_l4 hK52_J23_l5 hK52_x_this_at hK52_x_this_sort hP hD hS hl
        refine lv_iload hx hb dX5_wordIn_52 (lv_at hl 4 rfl) ?_
        refine lv_if_eq (tgt := 67) hx hb dX5_wordIn_54 (by decide) (fun c8 => ?_) (fun c8 => ?_)
        · have h9 := ib_eq hK52_J23_l4 (ib_c 0 0 0 (by decide)) c8
          have h10 : ib J23_l4 0 0 := ib_w 0 0 h9.1 (by decide)
          exact jn67  H locs ls (ib_w 0 1604 hK52_J23_l3 (by decide)) (ib_w 0 1 h10 (by decide)) (ib_w 0 4 hK52_J23_l5 (by decide)) (ib_w 0 1599 hK52_x_this_at (by decide)) (ib_w 1 1 hK52_x_this_sort (by decide)) hP hD hS (lv_sub hl [0, 1, 2, 3, 4, 5] rfl)
        · have h11 : ib J23_l4 1 1 := ib_w 1 1 (ib_ne_lo 0 hK52_J23_l4 (by decide) c8) (by decide)
          refine lv_iload_n hx hb dX5_wordIn_57 rfl (lv_at hl 3 rfl) ?_
          refine lv_aload_n hx hb dX5_wordIn_58 rfl (lv_at hl 0 rfl) ?_
          refine k_get C0 fg_X5_18 hP 0 rfl rfl dX5_wordIn_59 ?_
          refine lv_icmp_ne (tgt := 67) hx hb dX5_wordIn_62 (by decide) (fun c12 => ?_) (fun c12 => ?_)
          · skip
            exact jn67  H locs ls (ib_w 0 1604 hK52_J23_l3 (by decide)) (ib_w 0 1 h11 (by decide)) (ib_w 0 4 hK52_J23_l5 (by decide)) (ib_w 0 1599 hK52_x_this_at (by decide)) (ib_w 1 1 hK52_x_this_sort (by decide)) hP hD hS (lv_sub hl [0, 1, 2, 3, 4, 5] rfl)
          · have h13 := ib_eq hK52_J23_l3 hx_this_behind c12
            have h14 : ib J23_l3 0 1600 := ib_w 0 1600 h13.1 (by decide)
            refine lv_iload_n hx hb dX5_wordIn_65 rfl (lv_at hl 2 rfl) ?_
            subst hQ; exact k_iret hx hb hr hlk rfl () hS True.intro hP hD (Nat.le_of_ble_eq_true rfl) (Nat.le_of_ble_eq_true rfl) dX5_wordIn_66
      refine lv_iload hx hb dX5_wordIn_23 (lv_at hl 5 rfl) ?_
      refine lv_aload_n hx hb dX5_wordIn_25 rfl (lv_at hl 1 rfl) ?_
      refine k_ji hP hD hS hA [] [0, 1] (wr := [(a_this, .inr (5, [.ref a_this_text, .int x_this_length, .int x_this_at, .int x_this_behind, .int x_this_sort, .int x_this_allowed, .ref a_this_plan, .int x_this_fault, .int x_this_place])), (a_this_text, .inl (cy 0, 1600, .inl g_this_text))]) rfl rfl (by decide) (by decide) (by decide) 0 0 (Nat.le_of_ble_eq_true rfl) (Nat.le_of_ble_eq_true rfl) (fun hPc hDc => k_runVO (As := []) (rest := [.int J23_l5]) C0 hZ hS hA (c_length l dC dI cy sq 8 (by decide)) mV_X5_244 hPc hDc (vk_recv hZ.1 (by decide) hS) hl rfl rfl (Nat.le_of_ble_eq_true rfl) ⟨(Nat.le_of_ble_eq_true rfl), (Nat.le_of_ble_eq_true rfl)⟩ ⟨(Nat.le_of_ble_eq_true rfl), (Nat.le_of_ble_eq_true rfl)⟩ dX5_wordIn_26) (fun r15 u16 H locs hw hP hD hS => ?_)
      have hP : va_P (dC, dI) vwCl [(a_this, .inr (5, [.ref a_this_text, .int x_this_length, .int x_this_at, .int x_this_behind, .int x_this_sort, .int x_this_allowed, .ref a_this_plan, .int x_this_fault, .int x_this_place])), (a_this_text, .inl (cy 0, 1600, .inl g_this_text))] H := hP
      have hD : va_D A [(a_this, .inr (5, [.ref a_this_text, .int x_this_length, .int x_this_at, .int x_this_behind, .int x_this_sort, .int x_this_allowed, .ref a_this_plan, .int x_this_fault, .int x_this_place])), (a_this_text, .inl (cy 0, 1600, .inl g_this_text))] := hD
      obtain rfl : r15 = 4 := hw.trans (by decide)
      refine lv_icmp_gt (tgt := 125) hx hb dX5_wordIn_29 (by decide) (fun c17 => ?_) (fun c17 => ?_)
      · have h18 := ib_lt (ib_c 4 4 4 (by decide)) hJ23_l5 c17
        have h19 : ib J23_l5 5 5 := ib_w 5 5 h18.2 (by decide)
        refine lv_iconst (v := (-1)) hx hb dX5_wordIn_125 (by decide) ?_
        subst hQ; exact k_iret hx hb hr hlk rfl () hS True.intro hP hD (Nat.le_of_ble_eq_true rfl) (Nat.le_of_ble_eq_true rfl) dX5_wordIn_126
      · have h20 := ib_nlt (ib_c 4 4 4 (by decide)) hJ23_l5 c17
        have h21 : ib J23_l5 0 4 := ib_w 0 4 h20.2 (by decide)
        refine lv_iload hx hb dX5_wordIn_32 (lv_at hl 5 rfl) ?_
        refine lv_aload_n hx hb dX5_wordIn_34 rfl (lv_at hl 1 rfl) ?_
        refine k_ji hP hD hS hA [] [0, 1] (wr := [(a_this, .inr (5, [.ref a_this_text, .int x_this_length, .int x_this_at, .int x_this_behind, .int x_this_sort, .int x_this_allowed, .ref a_this_plan, .int x_this_fault, .int x_this_place])), (a_this_text, .inl (cy 0, 1600, .inl g_this_text))]) rfl rfl (by decide) (by decide) (by decide) 0 0 (Nat.le_of_ble_eq_true rfl) (Nat.le_of_ble_eq_true rfl) (fun hPc hDc => k_runVO (As := []) (rest := [.int J23_l5]) C0 hZ hS hA (c_length l dC dI cy sq 8 (by decide)) mV_X5_244 hPc hDc (vk_recv hZ.1 (by decide) hS) hl rfl rfl (Nat.le_of_ble_eq_true rfl) ⟨(Nat.le_of_ble_eq_true rfl), (Nat.le_of_ble_eq_true rfl)⟩ ⟨(Nat.le_of_ble_eq_true rfl), (Nat.le_of_ble_eq_true rfl)⟩ dX5_wordIn_35) (fun r22 u23 H locs hw hP hD hS => ?_)
        have hP : va_P (dC, dI) vwCl [(a_this, .inr (5, [.ref a_this_text, .int x_this_length, .int x_this_at, .int x_this_behind, .int x_this_sort, .int x_this_allowed, .ref a_this_plan, .int x_this_fault, .int x_this_place])), (a_this_text, .inl (cy 0, 1600, .inl g_this_text))] H := hP
        have hD : va_D A [(a_this, .inr (5, [.ref a_this_text, .int x_this_length, .int x_this_at, .int x_this_behind, .int x_this_sort, .int x_this_allowed, .ref a_this_plan, .int x_this_fault, .int x_this_place])), (a_this_text, .inl (cy 0, 1600, .inl g_this_text))] := hD
        obtain rfl : r22 = 4 := hw.trans (by decide)
        refine lv_icmp_eq (tgt := 52) hx hb dX5_wordIn_38 (by decide) (fun c24 => ?_) (fun c24 => ?_)
        · have h25 := ib_eq h21 (ib_c 4 4 4 (by decide)) c24
          have h26 : ib J23_l5 4 4 := ib_w 4 4 h25.1 (by decide)
          exact jn52  H locs ls (ib_w 0 1604 hJ23_l3 (by decide)) (ib_w 0 1 hJ23_l4 (by decide)) (ib_w 0 4 h26 (by decide)) (ib_w 0 1599 hK23_x_this_at (by decide)) (ib_w 1 1 hK23_x_this_sort (by decide)) hP hD hS (lv_sub hl [0, 1, 2, 3, 4, 5] rfl)
        · have h27 : ib J23_l5 0 3 := ib_w 0 3 (ib_ne_hi 4 h21 (by decide) c24) (by decide)
          refine lv_aload_n hx hb dX5_wordIn_41 rfl (lv_at hl 1 rfl) ?_
          refine lv_iload hx hb dX5_wordIn_42 (lv_at hl 5 rfl) ?_
          refine k_ji hP hD hS hA [] [0, 1] (wr := [(a_this, .inr (5, [.ref a_this_text, .int x_this_length, .int x_this_at, .int x_this_behind, .int x_this_sort, .int x_this_allowed, .ref a_this_plan, .int x_this_fault, .int x_this_place])), (a_this_text, .inl (cy 0, 1600, .inl g_this_text))]) rfl rfl (by decide) (by decide) (by decide) 0 0 (Nat.le_of_ble_eq_true rfl) (Nat.le_of_ble_eq_true rfl) (fun hPc hDc => k_runVO (As := [.int J23_l5]) (rest := []) C0 hZ hS hA (c_charAt l dC dI cy sq 8 (by decide) J23_l5 (ib_ch 8 4 h27 rfl (by decide)).1 (ib_ch 8 4 h27 rfl (by decide)).2.1 (ib_ch 8 4 h27 rfl (by decide)).2.2) mV_X5_248 hPc hDc (vk_recv hZ.1 (by decide) hS) hl rfl rfl (Nat.le_of_ble_eq_true rfl) ⟨(Nat.le_of_ble_eq_true rfl), (Nat.le_of_ble_eq_true rfl)⟩ ⟨(Nat.le_of_ble_eq_true rfl), (Nat.le_of_ble_eq_true rfl)⟩ dX5_wordIn_44) (fun r28 u29 H locs hw hP hD hS => ?_)
          have hP : va_P (dC, dI) vwCl [(a_this, .inr (5, [.ref a_this_text, .int x_this_length, .int x_this_at, .int x_this_behind, .int x_this_sort, .int x_this_allowed, .ref a_this_plan, .int x_this_fault, .int x_this_place])), (a_this_text, .inl (cy 0, 1600, .inl g_this_text))] H := hP
          have hD : va_D A [(a_this, .inr (5, [.ref a_this_text, .int x_this_length, .int x_this_at, .int x_this_behind, .int x_this_sort, .int x_this_allowed, .ref a_this_plan, .int x_this_fault, .int x_this_place])), (a_this_text, .inl (cy 0, 1600, .inl g_this_text))] := hD
          refine lv_bipush (v := 32) hx hb dX5_wordIn_47 (by decide) ?_
          refine lv_icmp_ne (tgt := 81) hx hb dX5_wordIn_49 (by decide) (fun c30 => ?_) (fun c30 => ?_)
          · skip
            refine lv_iload hx hb dX5_wordIn_81 (lv_at hl 4 rfl) ?_
            refine lv_if_eq (tgt := 113) hx hb dX5_wordIn_83 (by decide) (fun c31 => ?_) (fun c31 => ?_)
            · have h32 := ib_eq hJ23_l4 (ib_c 0 0 0 (by decide)) c31
              have h33 : ib J23_l4 0 0 := ib_w 0 0 h32.1 (by decide)
              have h34 : ib J23_l3 0 1603 := ⟨(hJ23_l3).1, by have := (hJ23_l3).1; have := (hJ23_l3).2; have := hJ23_lin0; have := (h27).1; have := (h27).2; omega⟩
              exact jn113  H locs ls (ib_w 0 1603 h34 (by decide)) (ib_w 0 1 h33 (by decide)) (ib_w 0 3 h27 (by decide)) (ib_w 0 1599 hK23_x_this_at (by decide)) (ib_w 1 1 hK23_x_this_sort (by decide)) (by have := (h27).1; have := (h27).2; have := hJ23_lin0; have := (h34).1; have := (h34).2; omega) hP hD hS (lv_sub hl [0, 1, 2, 3, 4, 5] rfl)
            · have h35 : ib J23_l4 1 1 := ib_w 1 1 (ib_ne_lo 0 hJ23_l4 (by decide) c31) (by decide)
              refine lv_iload_n hx hb dX5_wordIn_86 rfl (lv_at hl 3 rfl) ?_
              refine lv_aload_n hx hb dX5_wordIn_87 rfl (lv_at hl 0 rfl) ?_
              refine k_get C0 fg_X5_18 hP 0 rfl rfl dX5_wordIn_88 ?_
              refine lv_icmp_ge (tgt := 113) hx hb dX5_wordIn_91 (by decide) (fun c36 => ?_) (fun c36 => ?_)
              · have h37 := ib_le hx_this_behind hJ23_l3 c36
                have h38 : ib J23_l3 0 1603 := ⟨(hJ23_l3).1, by have := (hJ23_l3).1; have := (hJ23_l3).2; have := hJ23_lin0; have := (h27).1; have := (h27).2; omega⟩
                exact jn113  H locs ls (ib_w 0 1603 h38 (by decide)) (ib_w 0 1 h35 (by decide)) (ib_w 0 3 h27 (by decide)) (ib_w 0 1599 hK23_x_this_at (by decide)) (ib_w 1 1 hK23_x_this_sort (by decide)) (by have := (h27).1; have := (h27).2; have := hJ23_lin0; have := (h38).1; have := (h38).2; omega) hP hD hS (lv_sub hl [0, 1, 2, 3, 4, 5] rfl)
              · have h39 := ib_nle hx_this_behind hJ23_l3 c36
                have h40 : ib x_this_behind 1 1600 := ib_w 1 1600 h39.1 (by decide)
                have h41 : ib J23_l3 0 1599 := ib_w 0 1599 h39.2 (by decide)
                refine lv_aload_n hx hb dX5_wordIn_94 rfl (lv_at hl 0 rfl) ?_
                refine k_get C0 fg_X5_33 hP 0 rfl rfl dX5_wordIn_95 ?_
                refine lv_iload_n hx hb dX5_wordIn_98 rfl (lv_at hl 3 rfl) ?_
                refine va_iald hx hb C0.2.2.2.2.2.1 hP 1 0 rfl rfl (ib_in 1600 h41 (by decide)) dX5_wordIn_99 ?_
                refine lv_topi (fun z42 ez42 => ?_)
                have h43 : ib z42 0 255 := by rw [ez42]; exact ia_at hg_this_text (ib_in 1600 h41 (by decide))
                refine lv_aload_n hx hb dX5_wordIn_100 rfl (lv_at hl 1 rfl) ?_
                refine lv_iload hx hb dX5_wordIn_101 (lv_at hl 5 rfl) ?_
                refine k_ji hP hD hS hA [] [0, 1] (wr := [(a_this, .inr (5, [.ref a_this_text, .int x_this_length, .int x_this_at, .int x_this_behind, .int x_this_sort, .int x_this_allowed, .ref a_this_plan, .int x_this_fault, .int x_this_place])), (a_this_text, .inl (cy 0, 1600, .inl g_this_text))]) rfl rfl (by decide) (by decide) (by decide) 0 0 (Nat.le_of_ble_eq_true rfl) (Nat.le_of_ble_eq_true rfl) (fun hPc hDc => k_runVO (As := [.int J23_l5]) (rest := [.int z42]) C0 hZ hS hA (c_charAt l dC dI cy sq 8 (by decide) J23_l5 (ib_ch 8 4 h27 rfl (by decide)).1 (ib_ch 8 4 h27 rfl (by decide)).2.1 (ib_ch 8 4 h27 rfl (by decide)).2.2) mV_X5_248 hPc hDc (vk_recv hZ.1 (by decide) hS) hl rfl rfl (Nat.le_of_ble_eq_true rfl) ⟨(Nat.le_of_ble_eq_true rfl), (Nat.le_of_ble_eq_true rfl)⟩ ⟨(Nat.le_of_ble_eq_true rfl), (Nat.le_of_ble_eq_true rfl)⟩ dX5_wordIn_103) (fun r44 u45 H locs hw hP hD hS => ?_)
                have hP : va_P (dC, dI) vwCl [(a_this, .inr (5, [.ref a_this_text, .int x_this_length, .int x_this_at, .int x_this_behind, .int x_this_sort, .int x_this_allowed, .ref a_this_plan, .int x_this_fault, .int x_this_place])), (a_this_text, .inl (cy 0, 1600, .inl g_this_text))] H := hP
                have hD : va_D A [(a_this, .inr (5, [.ref a_this_text, .int x_this_length, .int x_this_at, .int x_this_behind, .int x_this_sort, .int x_this_allowed, .ref a_this_plan, .int x_this_fault, .int x_this_place])), (a_this_text, .inl (cy 0, 1600, .inl g_this_text))] := hD
                refine lv_icmp_ne (tgt := 113) hx hb dX5_wordIn_106 (by decide) (fun c46 => ?_) (fun c46 => ?_)
                · skip
                  exact jn113  H locs ls (ib_w 0 1603 h41 (by decide)) (ib_w 0 1 h35 (by decide)) (ib_w 0 3 h27 (by decide)) (ib_w 0 1599 hK23_x_this_at (by decide)) (ib_w 1 1 hK23_x_this_sort (by decide)) (by have := (h27).1; have := (h27).2; have := hJ23_lin0; have := (h41).1; have := (h41).2; omega) hP hD hS (lv_sub hl [0, 1, 2, 3, 4, 5] rfl)
                · have h47 := ib_eq h43 (ib_any r44) c46
                  have h48 : ib r44 0 255 := ib_w 0 255 h47.2 (by decide)
                  refine lv_iconst (v := 1) hx hb dX5_wordIn_109 (by decide) ?_
                  refine lv_goto (tgt := 114) hx hb dX5_wordIn_110 (by decide) ?_
                  exact jn114 1 H locs ls (ib_w 0 1603 h41 (by decide)) (ib_w 0 1 h35 (by decide)) (ib_w 0 3 h27 (by decide)) (ib_w 0 1599 hK23_x_this_at (by decide)) (ib_w 1 1 hK23_x_this_sort (by decide)) (ib_w 0 1 (ib_c 1 1 1 (by decide)) (by decide)) (by have := (h27).1; have := (h27).2; have := hJ23_lin0; have := (h41).1; have := (h41).2; omega) hP hD hS (lv_sub hl [0, 1, 2, 3, 4, 5] rfl)
          · have h49 := ib_eq (ib_any r28) (ib_c 32 32 32 (by decide)) c30
            have h50 : ib r28 32 32 := ib_w 32 32 h49.1 (by decide)
            have h51 : ib J23_l3 0 1603 := ⟨(hJ23_l3).1, by have := (hJ23_l3).1; have := (hJ23_l3).2; have := hJ23_lin0; have := (h27).1; have := (h27).2; omega⟩
            exact jn52  H locs ls (ib_w 0 1604 h51 (by decide)) (ib_w 0 1 hJ23_l4 (by decide)) (ib_w 0 4 h27 (by decide)) (ib_w 0 1599 hK23_x_this_at (by decide)) (ib_w 1 1 hK23_x_this_sort (by decide)) hP hD hS (lv_sub hl [0, 1, 2, 3, 4, 5] rfl)
  refine lv_aload_n hx hb dX5_wordIn_0 rfl (lv_at hl 0 rfl) ?_
  refine k_get C0 fg_X5_21 hP 0 rfl rfl dX5_wordIn_1 ?_
  refine lv_iconst (v := 1) hx hb dX5_wordIn_4 (by decide) ?_
  refine lv_icmp_eq (tgt := 10) hx hb dX5_wordIn_5 (by decide) (fun c52 => ?_) (fun c52 => ?_)
  · have h53 := ib_eq hx_this_sort (ib_c 1 1 1 (by decide)) c52
    have h54 : ib x_this_sort 1 1 := ib_w 1 1 h53.1 (by decide)
    have h55 : ib x_this_at 0 1599 := ib_w 0 1599 (ib_two hx_this_at (hc0_this (ib_nz h54 (by decide)))) (by decide)
    refine lv_iconst (v := 0) hx hb dX5_wordIn_10 (by decide) ?_
    refine lv_istore_n (lv' := [(2, .int 0), (0, .ref a_this), (1, .ref (sq 8))]) hx hb dX5_wordIn_11 rfl hl (by decide) rfl (fun ls hl => ?_)
    refine lv_aload_n hx hb dX5_wordIn_12 rfl (lv_at hl 1 rfl) ?_
    refine k_get C0 fg_X5_15 hP 0 rfl rfl dX5_wordIn_13 ?_
    refine lv_istore_n (lv' := [(3, .int x_this_at), (2, .int 0), (0, .ref a_this), (1, .ref (sq 8))]) hx hb dX5_wordIn_16 rfl hl (by decide) rfl (fun ls hl => ?_)
    refine lv_iconst (v := 1) hx hb dX5_wordIn_17 (by decide) ?_
    refine lv_istore (lv' := [(4, .int 1), (3, .int x_this_at), (2, .int 0), (0, .ref a_this), (1, .ref (sq 8))]) hx hb dX5_wordIn_18 hl (by decide) rfl (fun ls hl => ?_)
    refine lv_iconst (v := 0) hx hb dX5_wordIn_20 (by decide) ?_
    refine lv_istore (lv' := [(5, .int 0), (4, .int 1), (3, .int x_this_at), (2, .int 0), (0, .ref a_this), (1, .ref (sq 8))]) hx hb dX5_wordIn_21 hl (by decide) rfl (fun ls hl => ?_)
    exact jn23 7 0 x_this_at 1 0 H locs ls (ib_w 0 1599 h55 (by decide)) (ib_w 1 1 h54 (by decide)) (ib_w 0 1604 h55 (by decide)) (ib_w 0 1 (ib_c 1 1 1 (by decide)) (by decide)) (ib_w 0 5 (ib_c 0 0 0 (by decide)) (by decide)) (by have : (0 : Int32).toInt = 0 := (by decide); have := (h55).1; have := (h55).2; omega) (by have := (ib_c 0 0 0 (by decide)); unfold ib at this; omega) hP hD hS (lv_sub hl [4, 5, 3, 2, 1, 0] rfl)
  · skip
    refine lv_iconst (v := (-1)) hx hb dX5_wordIn_8 (by decide) ?_
    subst hQ; exact k_iret hx hb hr hlk rfl () hS True.intro hP hD (Nat.le_of_ble_eq_true rfl) (Nat.le_of_ble_eq_true rfl) dX5_wordIn_9
set_option maxHeartbeats 4000000 in
set_option maxRecDepth 100000 in
theorem s_X5_needWord_s8 (l : Launch) (dC : Nat → ClassId) (dI : Nat → Nat → Nat) (cy : Nat → ClassId) (sq : Nat → Nat) (a_this : Nat) (a_this_text : Nat) (g_this_text : Nat → Int32) (x_this_length : Int32) (x_this_at : Int32) (x_this_behind : Int32) (x_this_sort : Int32) (x_this_allowed : Int32) (a_this_plan : Nat) (x_this_fault : Int32) (x_this_place : Int32) (hg_this_text : ia g_this_text 1600 0 255) (hx_this_length : ib x_this_length 0 1600) (hx_this_at : ib x_this_at 0 1600) (hx_this_behind : ib x_this_behind 0 1600) (hx_this_sort : ib x_this_sort 0 4) (hc0_this : ¬ x_this_sort = 0 → ib x_this_at 0 1599) : k_Met l yX5_needWord cX5_needWord 2 none { frames := 5, cells := 0, slots := 0, locals := 166 } dC dI cy sq [.ref a_this, .ref (sq 8)] [(a_this, .inr (5, [.ref a_this_text, .int x_this_length, .int x_this_at, .int x_this_behind, .int x_this_sort, .int x_this_allowed, .ref a_this_plan, .int x_this_fault, .int x_this_place])), (a_this_text, .inl (cy 0, 1600, .inl g_this_text))] (k_Qv dC dI (fun (u : Int32 × Int32 × Int32 × Int32 × Int32) => match u with | (n0, n1, n2, n3, n4) => ib n0 0 1600 ∧ ib n1 0 1600 ∧ ib n2 0 4 ∧ (¬ n2 = 0 → ib n0 0 1599)) (fun u : Int32 × Int32 × Int32 × Int32 × Int32 => match u with | (n0, n1, n2, n3, n4) => [(a_this, .inr (5, [.ref a_this_text, .int x_this_length, .int n0, .int n1, .int n2, .int x_this_allowed, .ref a_this_plan, .int n3, .int n4])), (a_this_text, .inl (cy 0, 1600, .inl g_this_text))])) := by
  refine k_ofW2 (by decide +kernel) (Nat.le_of_ble_eq_true rfl) ?_
  intro p e s m below meth c A ls H locs args Q hQ C0 hZ hr hlk hin hP hD hA hS hl
  have C0 : k_cx p s m args c cX5_needWord 2 RX5 dC dI cy sq := C0
  have hx := C0.1
  have hb := C0.2.1
  have hl : lv_has ls 2 [(0, .ref a_this), (1, .ref (sq 8))] := hl
  refine lv_aload_n hx hb dX5_needWord_0 rfl (lv_at hl 0 rfl) ?_
  refine lv_aload_n hx hb dX5_needWord_1 rfl (lv_at hl 1 rfl) ?_
  refine k_ji hP hD hS hA [0, 1] [] (wr := []) rfl rfl (by decide) (by decide) (by decide) 0 0 (Nat.le_of_ble_eq_true rfl) (Nat.le_of_ble_eq_true rfl) (fun hPc hDc => k_runV (As := [.ref (sq 8)]) (rest := []) C0 hZ hS hA (s_X5_wordIn_s8 l dC dI cy sq a_this a_this_text g_this_text x_this_length x_this_at x_this_behind x_this_sort x_this_allowed a_this_plan x_this_fault x_this_place hg_this_text (ib_w 0 1600 hx_this_at (by decide)) (ib_w 0 1600 hx_this_behind (by decide)) (ib_w 0 4 hx_this_sort (by decide)) (fun hq9 => ib_w 0 1599 (hc0_this hq9) (by decide))) mV_X5_54 hPc hDc rfl rfl rfl hl rfl rfl (Nat.le_of_ble_eq_true rfl) ⟨(Nat.le_of_ble_eq_true rfl), (Nat.le_of_ble_eq_true rfl)⟩ ⟨(Nat.le_of_ble_eq_true rfl), (Nat.le_of_ble_eq_true rfl)⟩ dX5_needWord_2) (fun r1 u2 H locs hw hP hD hS => ?_)
  try dsimp only at hP hD hw
  have hP : va_P (dC, dI) vwCl [(a_this, .inr (5, [.ref a_this_text, .int x_this_length, .int x_this_at, .int x_this_behind, .int x_this_sort, .int x_this_allowed, .ref a_this_plan, .int x_this_fault, .int x_this_place])), (a_this_text, .inl (cy 0, 1600, .inl g_this_text))] H := hP
  have hD : va_D A [(a_this, .inr (5, [.ref a_this_text, .int x_this_length, .int x_this_at, .int x_this_behind, .int x_this_sort, .int x_this_allowed, .ref a_this_plan, .int x_this_fault, .int x_this_place])), (a_this_text, .inl (cy 0, 1600, .inl g_this_text))] := hD
  refine lv_iconst (v := (-1)) hx hb dX5_needWord_5 (by decide) ?_
  refine lv_icmp_ne (tgt := 21) hx hb dX5_needWord_6 (by decide) (fun c3 => ?_) (fun c3 => ?_)
  · skip
    refine lv_aload_n hx hb dX5_needWord_21 rfl (lv_at hl 0 rfl) ?_
    refine lv_aload_n hx hb dX5_needWord_22 rfl (lv_at hl 0 rfl) ?_
    refine k_get C0 fg_X5_18 hP 0 rfl rfl dX5_needWord_23 ?_
    refine k_jv hP hD hS hA [0, 1] [] (wr := []) rfl rfl (by decide) (by decide) (by decide) 0 0 (Nat.le_of_ble_eq_true rfl) (Nat.le_of_ble_eq_true rfl) (fun hPc hDc => k_runV (As := [.int x_this_behind]) (rest := []) C0 hZ hS hA (s_X5_moveTo l dC dI cy sq a_this a_this_text g_this_text x_this_length x_this_at x_this_behind x_this_sort x_this_allowed a_this_plan x_this_fault x_this_place x_this_behind hg_this_text (ib_w 0 1600 hx_this_length (by decide)) (ib_w 0 1600 hx_this_behind (by decide))) mV_X5_86 hPc hDc rfl rfl rfl hl rfl rfl (Nat.le_of_ble_eq_true rfl) ⟨(Nat.le_of_ble_eq_true rfl), (Nat.le_of_ble_eq_true rfl)⟩ ⟨(Nat.le_of_ble_eq_true rfl), (Nat.le_of_ble_eq_true rfl)⟩ dX5_needWord_26) (fun u5 H locs hw hP hD hS => ?_)
    obtain ⟨v6, v7, v8⟩ := u5
    try dsimp only at hP hD hw
    have hP : va_P (dC, dI) vwCl [(a_this, .inr (5, [.ref a_this_text, .int x_this_length, .int v6, .int v7, .int v8, .int x_this_allowed, .ref a_this_plan, .int x_this_fault, .int x_this_place])), (a_this_text, .inl (cy 0, 1600, .inl g_this_text))] H := hP
    have hD : va_D A [(a_this, .inr (5, [.ref a_this_text, .int x_this_length, .int v6, .int v7, .int v8, .int x_this_allowed, .ref a_this_plan, .int x_this_fault, .int x_this_place])), (a_this_text, .inl (cy 0, 1600, .inl g_this_text))] := hD
    obtain ⟨h9, h10, h11, h12⟩ := hw
    subst hQ; exact k_vret hx hb hr hlk ((v6, v7, v8, x_this_fault, x_this_place)) hS ⟨ib_w 0 1600 h9 (by decide), ib_w 0 1600 h10 (by decide), ib_w 0 4 h11 (by decide), fun hq9 => ib_w 0 1599 (h12 hq9) (by decide)⟩ hP hD (Nat.le_of_ble_eq_true rfl) (Nat.le_of_ble_eq_true rfl) dX5_needWord_29
  · have h13 := ib_eq (ib_any r1) (ib_c (-1) (-1) (-1) (by decide)) c3
    have h14 : ib r1 (-1) (-1) := ib_w (-1) (-1) h13.1 (by decide)
    refine lv_aload_n hx hb dX5_needWord_9 rfl (lv_at hl 0 rfl) ?_
    refine lv_iconst (v := 1) hx hb dX5_needWord_10 (by decide) ?_
    refine lv_aload_n hx hb dX5_needWord_11 rfl (lv_at hl 0 rfl) ?_
    refine k_get C0 fg_X5_15 hP 0 rfl rfl dX5_needWord_12 ?_
    refine k_jv hP hD hS hA [0] [1] (wr := [(a_this_text, .inl (cy 0, 1600, .inl g_this_text))]) rfl rfl (by decide) (by decide) (by decide) 0 0 (Nat.le_of_ble_eq_true rfl) (Nat.le_of_ble_eq_true rfl) (fun hPc hDc => k_runV (As := [.int 1, .int x_this_at]) (rest := []) C0 hZ hS hA (s_X5_fail l dC dI cy sq a_this a_this_text x_this_length x_this_at x_this_behind x_this_sort x_this_allowed a_this_plan x_this_fault x_this_place 1 x_this_at ) mV_X5_78 hPc hDc rfl rfl rfl hl rfl rfl (Nat.le_of_ble_eq_true rfl) ⟨(Nat.le_of_ble_eq_true rfl), (Nat.le_of_ble_eq_true rfl)⟩ ⟨(Nat.le_of_ble_eq_true rfl), (Nat.le_of_ble_eq_true rfl)⟩ dX5_needWord_15) (fun u16 H locs hw hP hD hS => ?_)
    obtain ⟨v17, v18⟩ := u16
    try dsimp only at hP hD hw
    have hP : va_P (dC, dI) vwCl [(a_this_text, .inl (cy 0, 1600, .inl g_this_text)), (a_this, .inr (5, [.ref a_this_text, .int x_this_length, .int x_this_length, .int x_this_length, .int 0, .int x_this_allowed, .ref a_this_plan, .int v17, .int v18]))] H := hP
    have hD : va_D A [(a_this_text, .inl (cy 0, 1600, .inl g_this_text)), (a_this, .inr (5, [.ref a_this_text, .int x_this_length, .int x_this_length, .int x_this_length, .int 0, .int x_this_allowed, .ref a_this_plan, .int v17, .int v18]))] := hD
    refine lv_goto (tgt := 29) hx hb dX5_needWord_18 (by decide) ?_
    subst hQ; exact k_vret hx hb hr hlk ((x_this_length, x_this_length, 0, v17, v18)) hS ⟨ib_w 0 1600 hx_this_length (by decide), ib_w 0 1600 hx_this_length (by decide), ib_w 0 4 (ib_c 0 0 0 (by decide)) (by decide), fun hq9 => absurd rfl hq9⟩ (hP.sub [1, 0] rfl) (hD.sub [1, 0] (by decide) rfl) (Nat.le_of_ble_eq_true rfl) (Nat.le_of_ble_eq_true rfl) dX5_needWord_29
set_option maxHeartbeats 4000000 in
set_option maxRecDepth 100000 in
theorem s_X5_number_a0_1_a1_20 (l : Launch) (dC : Nat → ClassId) (dI : Nat → Nat → Nat) (cy : Nat → ClassId) (sq : Nat → Nat) (a_this : Nat) (a_this_text : Nat) (g_this_text : Nat → Int32) (x_this_length : Int32) (x_this_at : Int32) (x_this_behind : Int32) (x_this_sort : Int32) (x_this_allowed : Int32) (a_this_plan : Nat) (x_this_fault : Int32) (x_this_place : Int32) (hg_this_text : ia g_this_text 1600 0 255) (hx_this_length : ib x_this_length 0 1600) (hx_this_at : ib x_this_at 0 1600) (hx_this_behind : ib x_this_behind 0 1600) (hx_this_sort : ib x_this_sort 0 4) (hc0_this : ¬ x_this_sort = 0 → ib x_this_at 0 1599) : k_Met l yX5_number cX5_number 5 (some .int) { frames := 2, cells := 0, slots := 0, locals := 43 } dC dI cy sq [.ref a_this, .int 1, .int 20] [(a_this, .inr (5, [.ref a_this_text, .int x_this_length, .int x_this_at, .int x_this_behind, .int x_this_sort, .int x_this_allowed, .ref a_this_plan, .int x_this_fault, .int x_this_place])), (a_this_text, .inl (cy 0, 1600, .inl g_this_text))] (k_Qi dC dI (fun (r : Int32) (u : Int32 × Int32 × Int32 × Int32 × Int32) => match u with | (n0, n1, n2, n3, n4) => ib r 1 20 ∧ ib n0 0 1600 ∧ ib n1 0 1600 ∧ ib n2 0 4 ∧ (¬ n2 = 0 → ib n0 0 1599)) (fun u : Int32 × Int32 × Int32 × Int32 × Int32 => match u with | (n0, n1, n2, n3, n4) => [(a_this, .inr (5, [.ref a_this_text, .int x_this_length, .int n0, .int n1, .int n2, .int x_this_allowed, .ref a_this_plan, .int n3, .int n4])), (a_this_text, .inl (cy 0, 1600, .inl g_this_text))])) := by
  refine k_ofW2 (by decide +kernel) (Nat.le_of_ble_eq_true rfl) ?_
  intro p e s m below meth c A ls H locs args Q hQ C0 hZ hr hlk hin hP hD hA hS hl
  have C0 : k_cx p s m args c cX5_number 5 RX5 dC dI cy sq := C0
  have hx := C0.1
  have hb := C0.2.1
  have hl : lv_has ls 5 [(0, .ref a_this), (1, .int 1), (2, .int 20)] := hl
  have jn94 : ∀ (J94_l3 : Int32) (J94_l4 : Int32) (H : Heap) (locs : List Loc) (ls : Array Slot), ib x_this_at 0 1599 → ib x_this_sort 2 2 → ib J94_l4 0 1600 → va_P (dC, dI) vwCl [(a_this, .inr (5, [.ref a_this_text, .int x_this_length, .int x_this_at, .int x_this_behind, .int x_this_sort, .int x_this_allowed, .ref a_this_plan, .int x_this_fault, .int x_this_place])), (a_this_text, .inl (cy 0, 1600, .inl g_this_text))] H → va_D A [(a_this, .inr (5, [.ref a_this_text, .int x_this_length, .int x_this_at, .int x_this_behind, .int x_this_sort, .int x_this_allowed, .ref a_this_plan, .int x_this_fault, .int x_this_place])), (a_this_text, .inl (cy 0, 1600, .inl g_this_text))] → va_S A s.heap H locs → lv_has ls 5 [(0, .ref a_this), (1, .int 1), (2, .int 20), (3, .int J94_l3), (4, .int J94_l4)] → W p l e { frames := 2, cells := 0, slots := 0, locals := 43 } s m args below meth c H locs 0 0 Q (F0 m 94 ls []) := by
    intro J94_l3 J94_l4 H locs ls hK94_x_this_at hK94_x_this_sort hJ94_l4 hP hD hS hl
    refine lv_aload_n hx hb dX5_number_94 rfl (lv_at hl 0 rfl) ?_
    refine lv_iconst (v := 2) hx hb dX5_number_95 (by decide) ?_
    refine lv_aload_n hx hb dX5_number_96 rfl (lv_at hl 0 rfl) ?_
    refine k_get C0 fg_X5_15 hP 0 rfl rfl dX5_number_97 ?_
    refine k_jv hP hD hS hA [0] [1] (wr := [(a_this_text, .inl (cy 0, 1600, .inl g_this_text))]) rfl rfl (by decide) (by decide) (by decide) 0 0 (Nat.le_of_ble_eq_true rfl) (Nat.le_of_ble_eq_true rfl) (fun hPc hDc => k_runV (As := [.int 2, .int x_this_at]) (rest := []) C0 hZ hS hA (s_X5_fail l dC dI cy sq a_this a_this_text x_this_length x_this_at x_this_behind x_this_sort x_this_allowed a_this_plan x_this_fault x_this_place 2 x_this_at ) mV_X5_78 hPc hDc rfl rfl rfl hl rfl rfl (Nat.le_of_ble_eq_true rfl) ⟨(Nat.le_of_ble_eq_true rfl), (Nat.le_of_ble_eq_true rfl)⟩ ⟨(Nat.le_of_ble_eq_true rfl), (Nat.le_of_ble_eq_true rfl)⟩ dX5_number_100) (fun u2 H locs hw hP hD hS => ?_)
    obtain ⟨v3, v4⟩ := u2
    try dsimp only at hP hD hw
    have hP : va_P (dC, dI) vwCl [(a_this_text, .inl (cy 0, 1600, .inl g_this_text)), (a_this, .inr (5, [.ref a_this_text, .int x_this_length, .int x_this_length, .int x_this_length, .int 0, .int x_this_allowed, .ref a_this_plan, .int v3, .int v4]))] H := hP
    have hD : va_D A [(a_this_text, .inl (cy 0, 1600, .inl g_this_text)), (a_this, .inr (5, [.ref a_this_text, .int x_this_length, .int x_this_length, .int x_this_length, .int 0, .int x_this_allowed, .ref a_this_plan, .int v3, .int v4]))] := hD
    refine lv_iload_n hx hb dX5_number_103 rfl (lv_at hl 1 rfl) ?_
    subst hQ; exact k_iret hx hb hr hlk rfl ((x_this_length, x_this_length, 0, v3, v4)) hS ⟨ib_w 1 20 (ib_c 1 1 1 (by decide)) (by decide), ib_w 0 1600 hx_this_length (by decide), ib_w 0 1600 hx_this_length (by decide), ib_w 0 4 (ib_c 0 0 0 (by decide)) (by decide), fun hq9 => absurd rfl hq9⟩ (hP.sub [1, 0] rfl) (hD.sub [1, 0] (by decide) rfl) (Nat.le_of_ble_eq_true rfl) (Nat.le_of_ble_eq_true rfl) dX5_number_104
  have jn53 : ∀ (n : Nat) (J53_l3 : Int32) (J53_l4 : Int32) (H : Heap) (locs : List Loc) (ls : Array Slot), ib x_this_at 0 1599 → ib x_this_sort 2 2 → ib J53_l4 0 1600 → 1601 ≤ J53_l4.toInt + (n : Int) → va_P (dC, dI) vwCl [(a_this, .inr (5, [.ref a_this_text, .int x_this_length, .int x_this_at, .int x_this_behind, .int x_this_sort, .int x_this_allowed, .ref a_this_plan, .int x_this_fault, .int x_this_place])), (a_this_text, .inl (cy 0, 1600, .inl g_this_text))] H → va_D A [(a_this, .inr (5, [.ref a_this_text, .int x_this_length, .int x_this_at, .int x_this_behind, .int x_this_sort, .int x_this_allowed, .ref a_this_plan, .int x_this_fault, .int x_this_place])), (a_this_text, .inl (cy 0, 1600, .inl g_this_text))] → va_S A s.heap H locs → lv_has ls 5 [(0, .ref a_this), (1, .int 1), (2, .int 20), (3, .int J53_l3), (4, .int J53_l4)] → W p l e { frames := 2, cells := 0, slots := 0, locals := 43 } s m args below meth c H locs 0 0 Q (F0 m 53 ls []) := by
    intro n
    induction n with
    | zero =>
      intro J53_l3 J53_l4 H locs ls hK53_x_this_at hK53_x_this_sort hJ53_l4 hm
      exact absurd hm (by have := hJ53_l4; unfold ib at this; omega)
    | succ n ih =>
      intro J53_l3 J53_l4 H locs ls hK53_x_this_at hK53_x_this_sort hJ53_l4 hm53 hP hD hS hl
      have ih53 := ih
      refine lv_iload hx hb dX5_number_53 (lv_at hl 4 rfl) ?_
      refine lv_aload_n hx hb dX5_number_55 rfl (lv_at hl 0 rfl) ?_
      refine k_get C0 fg_X5_18 hP 0 rfl rfl dX5_number_56 ?_
      refine lv_icmp_ge (tgt := 84) hx hb dX5_number_59 (by decide) (fun c5 => ?_) (fun c5 => ?_)
      · have h6 := ib_le hx_this_behind hJ53_l4 c5
        refine lv_iload_n hx hb dX5_number_84 rfl (lv_at hl 3 rfl) ?_
        refine lv_iload_n hx hb dX5_number_85 rfl (lv_at hl 1 rfl) ?_
        refine lv_icmp_lt (tgt := 94) hx hb dX5_number_86 (by decide) (fun c7 => ?_) (fun c7 => ?_)
        · have h8 := ib_lt (ib_any J53_l3) (ib_c 1 1 1 (by decide)) c7
          have h9 : ib J53_l3 (-2147483648) 0 := ib_w (-2147483648) 0 h8.1 (by decide)
          exact jn94 J53_l3 J53_l4 H locs ls (ib_w 0 1599 hK53_x_this_at (by decide)) (ib_w 2 2 hK53_x_this_sort (by decide)) (ib_w 0 1600 hJ53_l4 (by decide)) hP hD hS (lv_sub hl [0, 1, 2, 3, 4] rfl)
        · have h10 := ib_nlt (ib_any J53_l3) (ib_c 1 1 1 (by decide)) c7
          have h11 : ib J53_l3 1 2147483647 := ib_w 1 2147483647 h10.1 (by decide)
          refine lv_iload_n hx hb dX5_number_89 rfl (lv_at hl 3 rfl) ?_
          refine lv_iload_n hx hb dX5_number_90 rfl (lv_at hl 2 rfl) ?_
          refine lv_icmp_le (tgt := 105) hx hb dX5_number_91 (by decide) (fun c12 => ?_) (fun c12 => ?_)
          · have h13 := ib_le h11 (ib_c 20 20 20 (by decide)) c12
            have h14 : ib J53_l3 1 20 := ib_w 1 20 h13.1 (by decide)
            refine lv_aload_n hx hb dX5_number_105 rfl (lv_at hl 0 rfl) ?_
            refine lv_aload_n hx hb dX5_number_106 rfl (lv_at hl 0 rfl) ?_
            refine k_get C0 fg_X5_18 hP 0 rfl rfl dX5_number_107 ?_
            refine k_jv hP hD hS hA [0, 1] [] (wr := []) rfl rfl (by decide) (by decide) (by decide) 0 0 (Nat.le_of_ble_eq_true rfl) (Nat.le_of_ble_eq_true rfl) (fun hPc hDc => k_runV (As := [.int x_this_behind]) (rest := []) C0 hZ hS hA (s_X5_moveTo l dC dI cy sq a_this a_this_text g_this_text x_this_length x_this_at x_this_behind x_this_sort x_this_allowed a_this_plan x_this_fault x_this_place x_this_behind hg_this_text (ib_w 0 1600 hx_this_length (by decide)) (ib_w 0 1600 hx_this_behind (by decide))) mV_X5_86 hPc hDc rfl rfl rfl hl rfl rfl (Nat.le_of_ble_eq_true rfl) ⟨(Nat.le_of_ble_eq_true rfl), (Nat.le_of_ble_eq_true rfl)⟩ ⟨(Nat.le_of_ble_eq_true rfl), (Nat.le_of_ble_eq_true rfl)⟩ dX5_number_110) (fun u16 H locs hw hP hD hS => ?_)
            obtain ⟨v17, v18, v19⟩ := u16
            try dsimp only at hP hD hw
            have hP : va_P (dC, dI) vwCl [(a_this, .inr (5, [.ref a_this_text, .int x_this_length, .int v17, .int v18, .int v19, .int x_this_allowed, .ref a_this_plan, .int x_this_fault, .int x_this_place])), (a_this_text, .inl (cy 0, 1600, .inl g_this_text))] H := hP
            have hD : va_D A [(a_this, .inr (5, [.ref a_this_text, .int x_this_length, .int v17, .int v18, .int v19, .int x_this_allowed, .ref a_this_plan, .int x_this_fault, .int x_this_place])), (a_this_text, .inl (cy 0, 1600, .inl g_this_text))] := hD
            obtain ⟨h20, h21, h22, h23⟩ := hw
            refine lv_iload_n hx hb dX5_number_113 rfl (lv_at hl 3 rfl) ?_
            subst hQ; exact k_iret hx hb hr hlk rfl ((v17, v18, v19, x_this_fault, x_this_place)) hS ⟨ib_w 1 20 h14 (by decide), ib_w 0 1600 h20 (by decide), ib_w 0 1600 h21 (by decide), ib_w 0 4 h22 (by decide), fun hq9 => ib_w 0 1599 (h23 hq9) (by decide)⟩ hP hD (Nat.le_of_ble_eq_true rfl) (Nat.le_of_ble_eq_true rfl) dX5_number_114
          · have h24 := ib_nle h11 (ib_c 20 20 20 (by decide)) c12
            have h25 : ib J53_l3 21 2147483647 := ib_w 21 2147483647 h24.1 (by decide)
            exact jn94 J53_l3 J53_l4 H locs ls (ib_w 0 1599 hK53_x_this_at (by decide)) (ib_w 2 2 hK53_x_this_sort (by decide)) (ib_w 0 1600 hJ53_l4 (by decide)) hP hD hS (lv_sub hl [0, 1, 2, 3, 4] rfl)
      · have h26 := ib_nle hx_this_behind hJ53_l4 c5
        have h27 : ib x_this_behind 1 1600 := ib_w 1 1600 h26.1 (by decide)
        have h28 : ib J53_l4 0 1599 := ib_w 0 1599 h26.2 (by decide)
        refine lv_iload_n hx hb dX5_number_62 rfl (lv_at hl 3 rfl) ?_
        refine lv_bipush (v := 10) hx hb dX5_number_63 (by decide) ?_
        refine lv_imul hx hb dX5_number_65 ?_
        refine lv_topi (fun z29 ez29 => ?_)
        refine lv_aload_n hx hb dX5_number_66 rfl (lv_at hl 0 rfl) ?_
        refine k_get C0 fg_X5_33 hP 0 rfl rfl dX5_number_67 ?_
        refine lv_iload hx hb dX5_number_70 (lv_at hl 4 rfl) ?_
        refine va_iald hx hb C0.2.2.2.2.2.1 hP 1 0 rfl rfl (ib_in 1600 h28 (by decide)) dX5_number_72 ?_
        refine lv_topi (fun z30 ez30 => ?_)
        have h31 : ib z30 0 255 := by rw [ez30]; exact ia_at hg_this_text (ib_in 1600 h28 (by decide))
        refine lv_iadd hx hb dX5_number_73 ?_
        refine lv_topi (fun z32 ez32 => ?_)
        refine lv_bipush (v := 48) hx hb dX5_number_74 (by decide) ?_
        refine lv_isub hx hb dX5_number_76 ?_
        refine lv_topi (fun z33 ez33 => ?_)
        refine lv_istore_n (lv' := [(3, .int z33), (0, .ref a_this), (1, .int 1), (2, .int 20), (4, .int J53_l4)]) hx hb dX5_number_77 rfl hl (by decide) rfl (fun ls hl => ?_)
        obtain ⟨z34, ez34⟩ : ∃ y : Int32, y = J53_l4 + 1 := ⟨_, rfl⟩
        refine lv_iinc (v := z34) (lv' := [(4, .int z34), (3, .int z33), (0, .ref a_this), (1, .int 1), (2, .int 20)]) hx hb dX5_number_78 hl (k := 4) rfl (by rw [ez34]; rfl) (by decide) rfl (fun ls hl => ?_)
        have h35 := ib_add h28 (ib_c 1 1 1 (by decide)) (by decide)
        rw [← ez34] at h35
        have h36 : ib z34 1 1600 := ib_w 1 1600 h35.1 (by decide)
        refine lv_goto (tgt := 53) hx hb dX5_number_81 (by decide) ?_
        exact ih53 z33 z34 H locs ls (ib_w 0 1599 hK53_x_this_at (by decide)) (ib_w 2 2 hK53_x_this_sort (by decide)) (ib_w 0 1600 h36 (by decide)) (by have := h35.2; have : (1 : Int32).toInt = 1 := (by decide); omega) hP hD hS (lv_sub hl [2, 3, 4, 1, 0] rfl)
  refine lv_aload_n hx hb dX5_number_0 rfl (lv_at hl 0 rfl) ?_
  refine k_get C0 fg_X5_21 hP 0 rfl rfl dX5_number_1 ?_
  refine lv_iconst (v := 2) hx hb dX5_number_4 (by decide) ?_
  refine lv_icmp_eq (tgt := 19) hx hb dX5_number_5 (by decide) (fun c37 => ?_) (fun c37 => ?_)
  · have h38 := ib_eq hx_this_sort (ib_c 2 2 2 (by decide)) c37
    have h39 : ib x_this_sort 2 2 := ib_w 2 2 h38.1 (by decide)
    have h40 : ib x_this_at 0 1599 := ib_w 0 1599 (ib_two hx_this_at (hc0_this (ib_nz h39 (by decide)))) (by decide)
    refine lv_aload_n hx hb dX5_number_19 rfl (lv_at hl 0 rfl) ?_
    refine k_get C0 fg_X5_18 hP 0 rfl rfl dX5_number_20 ?_
    refine lv_aload_n hx hb dX5_number_23 rfl (lv_at hl 0 rfl) ?_
    refine k_get C0 fg_X5_15 hP 0 rfl rfl dX5_number_24 ?_
    refine lv_isub hx hb dX5_number_27 ?_
    refine lv_topi (fun z41 ez41 => ?_)
    have h42 := ib_sub hx_this_behind h40 (by decide)
    rw [← ez41] at h42
    have h43 : ib z41 (-1599) 1600 := ib_w (-1599) 1600 h42.1 (by decide)
    refine lv_iconst (v := 4) hx hb dX5_number_28 (by decide) ?_
    refine lv_icmp_le (tgt := 45) hx hb dX5_number_29 (by decide) (fun c44 => ?_) (fun c44 => ?_)
    · have h45 := ib_le h43 (ib_c 4 4 4 (by decide)) c44
      have h46 : ib z41 (-1599) 4 := ib_w (-1599) 4 h45.1 (by decide)
      refine lv_iconst (v := 0) hx hb dX5_number_45 (by decide) ?_
      refine lv_istore_n (lv' := [(3, .int 0), (0, .ref a_this), (1, .int 1), (2, .int 20)]) hx hb dX5_number_46 rfl hl (by decide) rfl (fun ls hl => ?_)
      refine lv_aload_n hx hb dX5_number_47 rfl (lv_at hl 1 rfl) ?_
      refine k_get C0 fg_X5_15 hP 0 rfl rfl dX5_number_48 ?_
      refine lv_istore (lv' := [(4, .int x_this_at), (3, .int 0), (0, .ref a_this), (1, .int 1), (2, .int 20)]) hx hb dX5_number_51 hl (by decide) rfl (fun ls hl => ?_)
      exact jn53 1602 0 x_this_at H locs ls (ib_w 0 1599 h40 (by decide)) (ib_w 2 2 h39 (by decide)) (ib_w 0 1600 h40 (by decide)) (by have := h40; unfold ib at this; omega) hP hD hS (lv_sub hl [2, 3, 4, 1, 0] rfl)
    · have h47 := ib_nle h43 (ib_c 4 4 4 (by decide)) c44
      have h48 : ib z41 5 1600 := ib_w 5 1600 h47.1 (by decide)
      refine lv_aload_n hx hb dX5_number_32 rfl (lv_at hl 0 rfl) ?_
      refine lv_iconst (v := 1) hx hb dX5_number_33 (by decide) ?_
      refine lv_aload_n hx hb dX5_number_34 rfl (lv_at hl 0 rfl) ?_
      refine k_get C0 fg_X5_15 hP 0 rfl rfl dX5_number_35 ?_
      refine lv_iconst (v := 4) hx hb dX5_number_38 (by decide) ?_
      refine lv_iadd hx hb dX5_number_39 ?_
      refine lv_topi (fun z49 ez49 => ?_)
      have h50 := ib_add h40 (ib_c 4 4 4 (by decide)) (by decide)
      rw [← ez49] at h50
      have h51 : ib z49 4 1603 := ib_w 4 1603 h50.1 (by decide)
      refine k_jv hP hD hS hA [0] [1] (wr := [(a_this_text, .inl (cy 0, 1600, .inl g_this_text))]) rfl rfl (by decide) (by decide) (by decide) 0 0 (Nat.le_of_ble_eq_true rfl) (Nat.le_of_ble_eq_true rfl) (fun hPc hDc => k_runV (As := [.int 1, .int z49]) (rest := []) C0 hZ hS hA (s_X5_fail l dC dI cy sq a_this a_this_text x_this_length x_this_at x_this_behind x_this_sort x_this_allowed a_this_plan x_this_fault x_this_place 1 z49 ) mV_X5_78 hPc hDc rfl rfl rfl hl rfl rfl (Nat.le_of_ble_eq_true rfl) ⟨(Nat.le_of_ble_eq_true rfl), (Nat.le_of_ble_eq_true rfl)⟩ ⟨(Nat.le_of_ble_eq_true rfl), (Nat.le_of_ble_eq_true rfl)⟩ dX5_number_40) (fun u53 H locs hw hP hD hS => ?_)
      obtain ⟨v54, v55⟩ := u53
      try dsimp only at hP hD hw
      have hP : va_P (dC, dI) vwCl [(a_this_text, .inl (cy 0, 1600, .inl g_this_text)), (a_this, .inr (5, [.ref a_this_text, .int x_this_length, .int x_this_length, .int x_this_length, .int 0, .int x_this_allowed, .ref a_this_plan, .int v54, .int v55]))] H := hP
      have hD : va_D A [(a_this_text, .inl (cy 0, 1600, .inl g_this_text)), (a_this, .inr (5, [.ref a_this_text, .int x_this_length, .int x_this_length, .int x_this_length, .int 0, .int x_this_allowed, .ref a_this_plan, .int v54, .int v55]))] := hD
      refine lv_iload_n hx hb dX5_number_43 rfl (lv_at hl 1 rfl) ?_
      subst hQ; exact k_iret hx hb hr hlk rfl ((x_this_length, x_this_length, 0, v54, v55)) hS ⟨ib_w 1 20 (ib_c 1 1 1 (by decide)) (by decide), ib_w 0 1600 hx_this_length (by decide), ib_w 0 1600 hx_this_length (by decide), ib_w 0 4 (ib_c 0 0 0 (by decide)) (by decide), fun hq9 => absurd rfl hq9⟩ (hP.sub [1, 0] rfl) (hD.sub [1, 0] (by decide) rfl) (Nat.le_of_ble_eq_true rfl) (Nat.le_of_ble_eq_true rfl) dX5_number_44
  · skip
    refine lv_aload_n hx hb dX5_number_8 rfl (lv_at hl 0 rfl) ?_
    refine lv_iconst (v := 1) hx hb dX5_number_9 (by decide) ?_
    refine lv_aload_n hx hb dX5_number_10 rfl (lv_at hl 0 rfl) ?_
    refine k_get C0 fg_X5_15 hP 0 rfl rfl dX5_number_11 ?_
    refine k_jv hP hD hS hA [0] [1] (wr := [(a_this_text, .inl (cy 0, 1600, .inl g_this_text))]) rfl rfl (by decide) (by decide) (by decide) 0 0 (Nat.le_of_ble_eq_true rfl) (Nat.le_of_ble_eq_true rfl) (fun hPc hDc => k_runV (As := [.int 1, .int x_this_at]) (rest := []) C0 hZ hS hA (s_X5_fail l dC dI cy sq a_this a_this_text x_this_length x_this_at x_this_behind x_this_sort x_this_allowed a_this_plan x_this_fault x_this_place 1 x_this_at ) mV_X5_78 hPc hDc rfl rfl rfl hl rfl rfl (Nat.le_of_ble_eq_true rfl) ⟨(Nat.le_of_ble_eq_true rfl), (Nat.le_of_ble_eq_true rfl)⟩ ⟨(Nat.le_of_ble_eq_true rfl), (Nat.le_of_ble_eq_true rfl)⟩ dX5_number_14) (fun u57 H locs hw hP hD hS => ?_)
    obtain ⟨v58, v59⟩ := u57
    try dsimp only at hP hD hw
    have hP : va_P (dC, dI) vwCl [(a_this_text, .inl (cy 0, 1600, .inl g_this_text)), (a_this, .inr (5, [.ref a_this_text, .int x_this_length, .int x_this_length, .int x_this_length, .int 0, .int x_this_allowed, .ref a_this_plan, .int v58, .int v59]))] H := hP
    have hD : va_D A [(a_this_text, .inl (cy 0, 1600, .inl g_this_text)), (a_this, .inr (5, [.ref a_this_text, .int x_this_length, .int x_this_length, .int x_this_length, .int 0, .int x_this_allowed, .ref a_this_plan, .int v58, .int v59]))] := hD
    refine lv_iload_n hx hb dX5_number_17 rfl (lv_at hl 1 rfl) ?_
    subst hQ; exact k_iret hx hb hr hlk rfl ((x_this_length, x_this_length, 0, v58, v59)) hS ⟨ib_w 1 20 (ib_c 1 1 1 (by decide)) (by decide), ib_w 0 1600 hx_this_length (by decide), ib_w 0 1600 hx_this_length (by decide), ib_w 0 4 (ib_c 0 0 0 (by decide)) (by decide), fun hq9 => absurd rfl hq9⟩ (hP.sub [1, 0] rfl) (hD.sub [1, 0] (by decide) rfl) (Nat.le_of_ble_eq_true rfl) (Nat.le_of_ble_eq_true rfl) dX5_number_18
set_option maxHeartbeats 4000000 in
set_option maxRecDepth 100000 in
theorem s_X5_numberBehind_a1_1_a2_20_s8 (l : Launch) (dC : Nat → ClassId) (dI : Nat → Nat → Nat) (cy : Nat → ClassId) (sq : Nat → Nat) (a_this : Nat) (a_this_text : Nat) (g_this_text : Nat → Int32) (x_this_length : Int32) (x_this_at : Int32) (x_this_behind : Int32) (x_this_sort : Int32) (x_this_allowed : Int32) (a_this_plan : Nat) (x_this_fault : Int32) (x_this_place : Int32) (hg_this_text : ia g_this_text 1600 0 255) (hx_this_length : ib x_this_length 0 1600) (hx_this_at : ib x_this_at 0 1600) (hx_this_behind : ib x_this_behind 0 1600) (hx_this_sort : ib x_this_sort 0 4) (hc0_this : ¬ x_this_sort = 0 → ib x_this_at 0 1599) : k_Met l yX5_numberBehind cX5_numberBehind 4 (some .int) { frames := 6, cells := 0, slots := 0, locals := 187 } dC dI cy sq [.ref a_this, .ref (sq 8), .int 1, .int 20] [(a_this, .inr (5, [.ref a_this_text, .int x_this_length, .int x_this_at, .int x_this_behind, .int x_this_sort, .int x_this_allowed, .ref a_this_plan, .int x_this_fault, .int x_this_place])), (a_this_text, .inl (cy 0, 1600, .inl g_this_text))] (k_Qi dC dI (fun (r : Int32) (u : Int32 × Int32 × Int32 × Int32 × Int32) => match u with | (n0, n1, n2, n3, n4) => ib r 1 20 ∧ ib n0 0 1600 ∧ ib n1 0 1600 ∧ ib n2 0 4 ∧ (¬ n2 = 0 → ib n0 0 1599)) (fun u : Int32 × Int32 × Int32 × Int32 × Int32 => match u with | (n0, n1, n2, n3, n4) => [(a_this, .inr (5, [.ref a_this_text, .int x_this_length, .int n0, .int n1, .int n2, .int x_this_allowed, .ref a_this_plan, .int n3, .int n4])), (a_this_text, .inl (cy 0, 1600, .inl g_this_text))])) := by
  refine k_ofW2 (by decide +kernel) (Nat.le_of_ble_eq_true rfl) ?_
  intro p e s m below meth c A ls H locs args Q hQ C0 hZ hr hlk hin hP hD hA hS hl
  have C0 : k_cx p s m args c cX5_numberBehind 4 RX5 dC dI cy sq := C0
  have hx := C0.1
  have hb := C0.2.1
  have hl : lv_has ls 4 [(0, .ref a_this), (1, .ref (sq 8)), (2, .int 1), (3, .int 20)] := hl
  refine lv_aload_n hx hb dX5_numberBehind_0 rfl (lv_at hl 0 rfl) ?_
  refine lv_aload_n hx hb dX5_numberBehind_1 rfl (lv_at hl 1 rfl) ?_
  refine k_jv hP hD hS hA [0, 1] [] (wr := []) rfl rfl (by decide) (by decide) (by decide) 0 0 (Nat.le_of_ble_eq_true rfl) (Nat.le_of_ble_eq_true rfl) (fun hPc hDc => k_runV (As := [.ref (sq 8)]) (rest := []) C0 hZ hS hA (s_X5_needWord_s8 l dC dI cy sq a_this a_this_text g_this_text x_this_length x_this_at x_this_behind x_this_sort x_this_allowed a_this_plan x_this_fault x_this_place hg_this_text (ib_w 0 1600 hx_this_length (by decide)) (ib_w 0 1600 hx_this_at (by decide)) (ib_w 0 1600 hx_this_behind (by decide)) (ib_w 0 4 hx_this_sort (by decide)) (fun hq9 => ib_w 0 1599 (hc0_this hq9) (by decide))) mV_X5_144 hPc hDc rfl rfl rfl hl rfl rfl (Nat.le_of_ble_eq_true rfl) ⟨(Nat.le_of_ble_eq_true rfl), (Nat.le_of_ble_eq_true rfl)⟩ ⟨(Nat.le_of_ble_eq_true rfl), (Nat.le_of_ble_eq_true rfl)⟩ dX5_numberBehind_2) (fun u2 H locs hw hP hD hS => ?_)
  obtain ⟨v3, v4, v5, v6, v7⟩ := u2
  try dsimp only at hP hD hw
  have hP : va_P (dC, dI) vwCl [(a_this, .inr (5, [.ref a_this_text, .int x_this_length, .int v3, .int v4, .int v5, .int x_this_allowed, .ref a_this_plan, .int v6, .int v7])), (a_this_text, .inl (cy 0, 1600, .inl g_this_text))] H := hP
  have hD : va_D A [(a_this, .inr (5, [.ref a_this_text, .int x_this_length, .int v3, .int v4, .int v5, .int x_this_allowed, .ref a_this_plan, .int v6, .int v7])), (a_this_text, .inl (cy 0, 1600, .inl g_this_text))] := hD
  obtain ⟨h8, h9, h10, h11⟩ := hw
  refine lv_aload_n hx hb dX5_numberBehind_5 rfl (lv_at hl 0 rfl) ?_
  refine lv_iload_n hx hb dX5_numberBehind_6 rfl (lv_at hl 2 rfl) ?_
  refine lv_iload_n hx hb dX5_numberBehind_7 rfl (lv_at hl 3 rfl) ?_
  refine k_ji hP hD hS hA [0, 1] [] (wr := []) rfl rfl (by decide) (by decide) (by decide) 0 0 (Nat.le_of_ble_eq_true rfl) (Nat.le_of_ble_eq_true rfl) (fun hPc hDc => k_runV (As := [.int 1, .int 20]) (rest := []) C0 hZ hS hA (s_X5_number_a0_1_a1_20 l dC dI cy sq a_this a_this_text g_this_text x_this_length v3 v4 v5 x_this_allowed a_this_plan v6 v7 hg_this_text (ib_w 0 1600 hx_this_length (by decide)) (ib_w 0 1600 h8 (by decide)) (ib_w 0 1600 h9 (by decide)) (ib_w 0 4 h10 (by decide)) (fun hq9 => ib_w 0 1599 (h11 hq9) (by decide))) mV_X5_168 hPc hDc rfl rfl rfl hl rfl rfl (Nat.le_of_ble_eq_true rfl) ⟨(Nat.le_of_ble_eq_true rfl), (Nat.le_of_ble_eq_true rfl)⟩ ⟨(Nat.le_of_ble_eq_true rfl), (Nat.le_of_ble_eq_true rfl)⟩ dX5_numberBehind_8) (fun r12 u13 H locs hw hP hD hS => ?_)
  obtain ⟨v14, v15, v16, v17, v18⟩ := u13
  try dsimp only at hP hD hw
  have hP : va_P (dC, dI) vwCl [(a_this, .inr (5, [.ref a_this_text, .int x_this_length, .int v14, .int v15, .int v16, .int x_this_allowed, .ref a_this_plan, .int v17, .int v18])), (a_this_text, .inl (cy 0, 1600, .inl g_this_text))] H := hP
  have hD : va_D A [(a_this, .inr (5, [.ref a_this_text, .int x_this_length, .int v14, .int v15, .int v16, .int x_this_allowed, .ref a_this_plan, .int v17, .int v18])), (a_this_text, .inl (cy 0, 1600, .inl g_this_text))] := hD
  obtain ⟨h19, h20, h21, h22, h23⟩ := hw
  subst hQ; exact k_iret hx hb hr hlk rfl ((v14, v15, v16, v17, v18)) hS ⟨ib_w 1 20 h19 (by decide), ib_w 0 1600 h20 (by decide), ib_w 0 1600 h21 (by decide), ib_w 0 4 h22 (by decide), fun hq9 => ib_w 0 1599 (h23 hq9) (by decide)⟩ hP hD (Nat.le_of_ble_eq_true rfl) (Nat.le_of_ble_eq_true rfl) dX5_numberBehind_11
set_option maxHeartbeats 4000000 in
set_option maxRecDepth 100000 in
theorem s_X5_wordIn_s9 (l : Launch) (dC : Nat → ClassId) (dI : Nat → Nat → Nat) (cy : Nat → ClassId) (sq : Nat → Nat) (a_this : Nat) (a_this_text : Nat) (g_this_text : Nat → Int32) (x_this_length : Int32) (x_this_at : Int32) (x_this_behind : Int32) (x_this_sort : Int32) (x_this_allowed : Int32) (a_this_plan : Nat) (x_this_fault : Int32) (x_this_place : Int32) (hg_this_text : ia g_this_text 1600 0 255) (hx_this_at : ib x_this_at 0 1600) (hx_this_behind : ib x_this_behind 0 1600) (hx_this_sort : ib x_this_sort 0 4) (hc0_this : ¬ x_this_sort = 0 → ib x_this_at 0 1599) : k_Met l yX5_wordIn cX5_wordIn 6 (some .int) { frames := 4, cells := 0, slots := 0, locals := 141 } dC dI cy sq [.ref a_this, .ref (sq 9)] [(a_this, .inr (5, [.ref a_this_text, .int x_this_length, .int x_this_at, .int x_this_behind, .int x_this_sort, .int x_this_allowed, .ref a_this_plan, .int x_this_fault, .int x_this_place])), (a_this_text, .inl (cy 0, 1600, .inl g_this_text))] (k_Qi dC dI (fun (r : Int32) (_ : Unit) => True) (fun _ : Unit => [(a_this, .inr (5, [.ref a_this_text, .int x_this_length, .int x_this_at, .int x_this_behind, .int x_this_sort, .int x_this_allowed, .ref a_this_plan, .int x_this_fault, .int x_this_place])), (a_this_text, .inl (cy 0, 1600, .inl g_this_text))])) := by
  refine k_ofW2 (by decide +kernel) (Nat.le_of_ble_eq_true rfl) ?_
  intro p e s m below meth c A ls H locs args Q hQ C0 hZ hr hlk hin hP hD hA hS hl
  have C0 : k_cx p s m args c cX5_wordIn 6 RX5 dC dI cy sq := C0
  have hx := C0.1
  have hb := C0.2.1
  have hl : lv_has ls 6 [(0, .ref a_this), (1, .ref (sq 9))] := hl
  have jn23 : ∀ (n : Nat) (J23_l2 : Int32) (J23_l3 : Int32) (J23_l4 : Int32) (J23_l5 : Int32) (H : Heap) (locs : List Loc) (ls : Array Slot), ib x_this_at 0 1599 → ib x_this_sort 1 1 → ib J23_l3 0 1606 → ib J23_l4 0 1 → ib J23_l5 0 7 → (1 * J23_l3.toInt + (-1) * J23_l5.toInt ≤ 1600) → 8 ≤ J23_l5.toInt + (n : Int) → va_P (dC, dI) vwCl [(a_this, .inr (5, [.ref a_this_text, .int x_this_length, .int x_this_at, .int x_this_behind, .int x_this_sort, .int x_this_allowed, .ref a_this_plan, .int x_this_fault, .int x_this_place])), (a_this_text, .inl (cy 0, 1600, .inl g_this_text))] H → va_D A [(a_this, .inr (5, [.ref a_this_text, .int x_this_length, .int x_this_at, .int x_this_behind, .int x_this_sort, .int x_this_allowed, .ref a_this_plan, .int x_this_fault, .int x_this_place])), (a_this_text, .inl (cy 0, 1600, .inl g_this_text))] → va_S A s.heap H locs → lv_has ls 6 [(0, .ref a_this), (1, .ref (sq 9)), (2, .int J23_l2), (3, .int J23_l3), (4, .int J23_l4), (5, .int J23_l5)] → W p l e { frames := 4, cells := 0, slots := 0, locals := 141 } s m args below meth c H locs 0 0 Q (F0 m 23 ls []) := by
    intro n
    induction n with
    | zero =>
      intro J23_l2 J23_l3 J23_l4 J23_l5 H locs ls hK23_x_this_at hK23_x_this_sort hJ23_l3 hJ23_l4 hJ23_l5 hJ23_lin0 hm
      exact absurd hm (by have := hJ23_l5; unfold ib at this; omega)
    | succ n ih =>
      intro J23_l2 J23_l3 J23_l4 J23_l5 H locs ls hK23_x_this_at hK23_x_this_sort hJ23_l3 hJ23_l4 hJ23_l5 hJ23_lin0 hm23 hP hD hS hl
      have ih23 := ih
      have jn119 : ∀ (J119_l2 : Int32) (J119_l3 : Int32) (J119_l4 : Int32) (H : Heap) (locs : List Loc) (ls : Array Slot), ib x_this_at 0 1599 → ib J23_l5 0 6 → ib x_this_sort 1 1 → ib J119_l3 0 1606 → ib J119_l4 0 1 → (1 * J119_l3.toInt + (-1) * J23_l5.toInt ≤ 1601) → va_P (dC, dI) vwCl [(a_this, .inr (5, [.ref a_this_text, .int x_this_length, .int x_this_at, .int x_this_behind, .int x_this_sort, .int x_this_allowed, .ref a_this_plan, .int x_this_fault, .int x_this_place])), (a_this_text, .inl (cy 0, 1600, .inl g_this_text))] H → va_D A [(a_this, .inr (5, [.ref a_this_text, .int x_this_length, .int x_this_at, .int x_this_behind, .int x_this_sort, .int x_this_allowed, .ref a_this_plan, .int x_this_fault, .int x_this_place])), (a_this_text, .inl (cy 0, 1600, .inl g_this_text))] → va_S A s.heap H locs → lv_has ls 6 [(0, .ref a_this), (1, .ref (sq 9)), (2, .int J119_l2), (3, .int J119_l3), (4, .int J119_l4), (5, .int J23_l5)] → W p l e { frames := 4, cells := 0, slots := 0, locals := 141 } s m args below meth c H locs 0 0 Q (F0 m 119 ls []) := by
        intro J119_l2 J119_l3 J119_l4 H locs ls hK119_x_this_at hK119_J23_l5 hK119_x_this_sort hJ119_l3 hJ119_l4 hJ119_lin0 hP hD hS hl
        obtain ⟨z1, ez1⟩ : ∃ y : Int32, y = J23_l5 + 1 := ⟨_, rfl⟩
        refine lv_iinc (v := z1) (lv' := [(5, .int z1), (0, .ref a_this), (1, .ref (sq 9)), (2, .int J119_l2), (3, .int J119_l3), (4, .int J119_l4)]) hx hb dX5_wordIn_119 hl (k := 5) rfl (by rw [ez1]; rfl) (by decide) rfl (fun ls hl => ?_)
        have h2 := ib_add hK119_J23_l5 (ib_c 1 1 1 (by decide)) (by decide)
        rw [← ez1] at h2
        have h3 : ib z1 1 7 := ib_w 1 7 h2.1 (by decide)
        refine lv_goto (tgt := 23) hx hb dX5_wordIn_122 (by decide) ?_
        exact ih23 J119_l2 J119_l3 J119_l4 z1 H locs ls (ib_w 0 1599 hK119_x_this_at (by decide)) (ib_w 1 1 hK119_x_this_sort (by decide)) (ib_w 0 1606 hJ119_l3 (by decide)) (ib_w 0 1 hJ119_l4 (by decide)) (ib_w 0 7 h3 (by decide)) (by have := (h3).1; have := (h3).2; have := h2.2; have : (1 : Int32).toInt = 1 := (by decide); have := (hK119_J23_l5).1; have := (hK119_J23_l5).2; have := hJ23_lin0; have := hJ119_lin0; have := (hJ119_l3).1; have := (hJ119_l3).2; have := (hJ23_l3).1; have := (hJ23_l3).2; omega) (by have := h2.2; have : (1 : Int32).toInt = 1 := (by decide); omega) hP hD hS (lv_sub hl [1, 2, 3, 4, 5, 0] rfl)
      have jn114 : ∀ (J114_s0 : Int32) (H : Heap) (locs : List Loc) (ls : Array Slot), ib J23_l3 0 1605 → ib J23_l4 0 1 → ib J23_l5 0 5 → ib x_this_at 0 1599 → ib x_this_sort 1 1 → ib J114_s0 0 1 → (1 * J23_l3.toInt + (-1) * J23_l5.toInt ≤ 1600) → va_P (dC, dI) vwCl [(a_this, .inr (5, [.ref a_this_text, .int x_this_length, .int x_this_at, .int x_this_behind, .int x_this_sort, .int x_this_allowed, .ref a_this_plan, .int x_this_fault, .int x_this_place])), (a_this_text, .inl (cy 0, 1600, .inl g_this_text))] H → va_D A [(a_this, .inr (5, [.ref a_this_text, .int x_this_length, .int x_this_at, .int x_this_behind, .int x_this_sort, .int x_this_allowed, .ref a_this_plan, .int x_this_fault, .int x_this_place])), (a_this_text, .inl (cy 0, 1600, .inl g_this_text))] → va_S A s.heap H locs → lv_has ls 6 [(0, .ref a_this), (1, .ref (sq 9)), (2, .int J23_l2), (3, .int J23_l3), (4, .int J23_l4), (5, .int J23_l5)] → W p l e { frames := 4, cells := 0, slots := 0, locals := 141 } s m args below meth c H locs 0 0 Q (F0 m 114 ls [.int J114_s0]) := by
        intro J114_s0 H locs ls hK114_J23_l3 hK114_J23_l4 hK114_J23_l5 hK114_x_this_at hK114_x_this_sort hJ114_s0 hJ114_lin0 hP hD hS hl
        refine lv_istore (lv' := [(4, .int J114_s0), (0, .ref a_this), (1, .ref (sq 9)), (2, .int J23_l2), (3, .int J23_l3), (5, .int J23_l5)]) hx hb dX5_wordIn_114 hl (by decide) rfl (fun ls hl => ?_)
        obtain ⟨z4, ez4⟩ : ∃ y : Int32, y = J23_l3 + 1 := ⟨_, rfl⟩
        refine lv_iinc (v := z4) (lv' := [(3, .int z4), (4, .int J114_s0), (0, .ref a_this), (1, .ref (sq 9)), (2, .int J23_l2), (5, .int J23_l5)]) hx hb dX5_wordIn_116 hl (k := 4) rfl (by rw [ez4]; rfl) (by decide) rfl (fun ls hl => ?_)
        have h5 := ib_add hK114_J23_l3 (ib_c 1 1 1 (by decide)) (by decide)
        rw [← ez4] at h5
        have h6 : ib z4 1 1606 := ib_w 1 1606 h5.1 (by decide)
        exact jn119 J23_l2 z4 J114_s0 H locs ls (ib_w 0 1599 hK114_x_this_at (by decide)) (ib_w 0 6 hK114_J23_l5 (by decide)) (ib_w 1 1 hK114_x_this_sort (by decide)) (ib_w 0 1606 h6 (by decide)) (ib_w 0 1 hJ114_s0 (by decide)) (by have := (hK114_J23_l5).1; have := (hK114_J23_l5).2; have := hJ23_lin0; have := hJ114_lin0; have := (hK114_J23_l3).1; have := (hK114_J23_l3).2; have := (h6).1; have := (h6).2; have := h5.2; have : (1 : Int32).toInt = 1 := (by decide); omega) hP hD hS (lv_sub hl [2, 3, 4, 0, 1, 5] rfl)
      have jn113 : ∀  (H : Heap) (locs : List Loc) (ls : Array Slot), ib J23_l3 0 1605 → ib J23_l4 0 1 → ib J23_l5 0 5 → ib x_this_at 0 1599 → ib x_this_sort 1 1 → (1 * J23_l3.toInt + (-1) * J23_l5.toInt ≤ 1600) → va_P (dC, dI) vwCl [(a_this, .inr (5, [.ref a_this_text, .int x_this_length, .int x_this_at, .int x_this_behind, .int x_this_sort, .int x_this_allowed, .ref a_this_plan, .int x_this_fault, .int x_this_place])), (a_this_text, .inl (cy 0, 1600, .inl g_this_text))] H → va_D A [(a_this, .inr (5, [.ref a_this_text, .int x_this_length, .int x_this_at, .int x_this_behind, .int x_this_sort, .int x_this_allowed, .ref a_this_plan, .int x_this_fault, .int x_this_place])), (a_this_text, .inl (cy 0, 1600, .inl g_this_text))] → va_S A s.heap H locs → lv_has ls 6 [(0, .ref a_this), (1, .ref (sq 9)), (2, .int J23_l2), (3, .int J23_l3), (4, .int J23_l4), (5, .int J23_l5)] → W p l e { frames := 4, cells := 0, slots := 0, locals := 141 } s m args below meth c H locs 0 0 Q (F0 m 113 ls []) := by
        intro H locs ls hK113_J23_l3 hK113_J23_l4 hK113_J23_l5 hK113_x_this_at hK113_x_this_sort hJ113_lin0 hP hD hS hl
        refine lv_iconst (v := 0) hx hb dX5_wordIn_113 (by decide) ?_
        exact jn114 0 H locs ls (ib_w 0 1605 hK113_J23_l3 (by decide)) (ib_w 0 1 hK113_J23_l4 (by decide)) (ib_w 0 5 hK113_J23_l5 (by decide)) (ib_w 0 1599 hK113_x_this_at (by decide)) (ib_w 1 1 hK113_x_this_sort (by decide)) (ib_w 0 1 (ib_c 0 0 0 (by decide)) (by decide)) (by have := (hK113_J23_l5).1; have := (hK113_J23_l5).2; have := hJ23_lin0; have := hJ113_lin0; have := (hK113_J23_l3).1; have := (hK113_J23_l3).2; omega) hP hD hS (lv_sub hl [0, 1, 2, 3, 4, 5] rfl)
      have jn67 : ∀  (H : Heap) (locs : List Loc) (ls : Array Slot), ib J23_l3 0 1606 → ib J23_l4 0 1 → ib J23_l5 0 6 → ib x_this_at 0 1599 → ib x_this_sort 1 1 → va_P (dC, dI) vwCl [(a_this, .inr (5, [.ref a_this_text, .int x_this_length, .int x_this_at, .int x_this_behind, .int x_this_sort, .int x_this_allowed, .ref a_this_plan, .int x_this_fault, .int x_this_place])), (a_this_text, .inl (cy 0, 1600, .inl g_this_text))] H → va_D A [(a_this, .inr (5, [.ref a_this_text, .int x_this_length, .int x_this_at, .int x_this_behind, .int x_this_sort, .int x_this_allowed, .ref a_this_plan, .int x_this_fault, .int x_this_place])), (a_this_text, .inl (cy 0, 1600, .inl g_this_text))] → va_S A s.heap H locs → lv_has ls 6 [(0, .ref a_this), (1, .ref (sq 9)), (2, .int J23_l2), (3, .int J23_l3), (4, .int J23_l4), (5, .int J23_l5)] → W p l e { frames := 4, cells := 0, slots := 0, locals := 141 } s m args below meth c H locs 0 0 Q (F0 m 67 ls []) := by
        intro H locs ls hK67_J23_l3 hK67_J23_l4 hK67_J23_l5 hK67_x_this_at hK67_x_this_sort hP hD hS hl
        obtain ⟨z7, ez7⟩ : ∃ y : Int32, y = J23_l2 + 1 := ⟨_, rfl⟩
        refine lv_iinc (v := z7) (lv' := [(2, .int z7), (0, .ref a_this), (1, .ref (sq 9)), (3, .int J23_l3), (4, .int J23_l4), (5, .int J23_l5)]) hx hb dX5_wordIn_67 hl (k := 2) rfl (by rw [ez7]; rfl) (by decide) rfl (fun ls hl => ?_)
        refine lv_aload_n hx hb dX5_wordIn_70 rfl (lv_at hl 1 rfl) ?_
        refine k_get C0 fg_X5_15 hP 0 rfl rfl dX5_wordIn_71 ?_
        refine lv_istore_n (lv' := [(3, .int x_this_at), (2, .int z7), (0, .ref a_this), (1, .ref (sq 9)), (4, .int J23_l4), (5, .int J23_l5)]) hx hb dX5_wordIn_74 rfl hl (by decide) rfl (fun ls hl => ?_)
        refine lv_iconst (v := 1) hx hb dX5_wordIn_75 (by decide) ?_
        refine lv_istore (lv' := [(4, .int 1), (3, .int x_this_at), (2, .int z7), (0, .ref a_this), (1, .ref (sq 9)), (5, .int J23_l5)]) hx hb dX5_wordIn_76 hl (by decide) rfl (fun ls hl => ?_)
        refine lv_goto (tgt := 119) hx hb dX5_wordIn_78 (by decide) ?_
        exact jn119 z7 x_this_at 1 H locs ls (ib_w 0 1599 hK67_x_this_at (by decide)) (ib_w 0 6 hK67_J23_l5 (by decide)) (ib_w 1 1 hK67_x_this_sort (by decide)) (ib_w 0 1606 hK67_x_this_at (by decide)) (ib_w 0 1 (ib_c 1 1 1 (by decide)) (by decide)) (by have := (hK67_J23_l5).1; have := (hK67_J23_l5).2; have := hJ23_lin0; have := (hK67_J23_l3).1; have := (hK67_J23_l3).2; have := (hK67_x_this_at).1; have := (hK67_x_this_at).2; omega) hP hD hS (lv_sub hl [3, 4, 2, 1, 0, 5] rfl)
      have jn52 : ∀  (H : Heap) (locs : List Loc) (ls : Array Slot), ib J23_l3 0 1606 → ib J23_l4 0 1 → ib J23_l5 0 6 → ib x_this_at 0 1599 → ib x_this_sort 1 1 → va_P (dC, dI) vwCl [(a_this, .inr (5, [.ref a_this_text, .int x_this_length, .int x_this_at, .int x_this_behind, .int x_this_sort, .int x_this_allowed, .ref a_this_plan, .int x_this_fault, .int x_this_place])), (a_this_text, .inl (cy 0, 1600, .inl g_this_text))] H → va_D A [(a_this, .inr (5, [.ref a_this_text, .int x_this_length, .int x_this_at, .int x_this_behind, .int x_this_sort, .int x_this_allowed, .ref a_this_plan, .int x_this_fault, .int x_this_place])), (a_this_text, .inl (cy 0, 1600, .inl g_this_text))] → va_S A s.heap H locs → lv_has ls 6 [(0, .ref a_this), (1, .ref (sq 9)), (2, .int J23_l2), (3, .int J23_l3), (4, .int J23_l4), (5, .int J23_l5)] → W p l e { frames := 4, cells := 0, slots := 0, locals := 141 } s m args below meth c H locs 0 0 Q (F0 m 52 ls []) := by
        intro H locs ls hK52_J23_l3 hK52_J23_l4 hK52_J23_l5 hK52_x_this_at hK52_x_this_sort hP hD hS hl
        refine lv_iload hx hb dX5_wordIn_52 (lv_at hl 4 rfl) ?_
        refine lv_if_eq (tgt := 67) hx hb dX5_wordIn_54 (by decide) (fun c8 => ?_) (fun c8 => ?_)
        · have h9 := ib_eq hK52_J23_l4 (ib_c 0 0 0 (by decide)) c8
          have h10 : ib J23_l4 0 0 := ib_w 0 0 h9.1 (by decide)
          exact jn67  H locs ls (ib_w 0 1606 hK52_J23_l3 (by decide)) (ib_w 0 1 h10 (by decide)) (ib_w 0 6 hK52_J23_l5 (by decide)) (ib_w 0 1599 hK52_x_this_at (by decide)) (ib_w 1 1 hK52_x_this_sort (by decide)) hP hD hS (lv_sub hl [0, 1, 2, 3, 4, 5] rfl)
        · have h11 : ib J23_l4 1 1 := ib_w 1 1 (ib_ne_lo 0 hK52_J23_l4 (by decide) c8) (by decide)
          refine lv_iload_n hx hb dX5_wordIn_57 rfl (lv_at hl 3 rfl) ?_
          refine lv_aload_n hx hb dX5_wordIn_58 rfl (lv_at hl 0 rfl) ?_
          refine k_get C0 fg_X5_18 hP 0 rfl rfl dX5_wordIn_59 ?_
          refine lv_icmp_ne (tgt := 67) hx hb dX5_wordIn_62 (by decide) (fun c12 => ?_) (fun c12 => ?_)
          · skip
            exact jn67  H locs ls (ib_w 0 1606 hK52_J23_l3 (by decide)) (ib_w 0 1 h11 (by decide)) (ib_w 0 6 hK52_J23_l5 (by decide)) (ib_w 0 1599 hK52_x_this_at (by decide)) (ib_w 1 1 hK52_x_this_sort (by decide)) hP hD hS (lv_sub hl [0, 1, 2, 3, 4, 5] rfl)
          · have h13 := ib_eq hK52_J23_l3 hx_this_behind c12
            have h14 : ib J23_l3 0 1600 := ib_w 0 1600 h13.1 (by decide)
            refine lv_iload_n hx hb dX5_wordIn_65 rfl (lv_at hl 2 rfl) ?_
            subst hQ; exact k_iret hx hb hr hlk rfl () hS True.intro hP hD (Nat.le_of_ble_eq_true rfl) (Nat.le_of_ble_eq_true rfl) dX5_wordIn_66
      refine lv_iload hx hb dX5_wordIn_23 (lv_at hl 5 rfl) ?_
      refine lv_aload_n hx hb dX5_wordIn_25 rfl (lv_at hl 1 rfl) ?_
      refine k_ji hP hD hS hA [] [0, 1] (wr := [(a_this, .inr (5, [.ref a_this_text, .int x_this_length, .int x_this_at, .int x_this_behind, .int x_this_sort, .int x_this_allowed, .ref a_this_plan, .int x_this_fault, .int x_this_place])), (a_this_text, .inl (cy 0, 1600, .inl g_this_text))]) rfl rfl (by decide) (by decide) (by decide) 0 0 (Nat.le_of_ble_eq_true rfl) (Nat.le_of_ble_eq_true rfl) (fun hPc hDc => k_runVO (As := []) (rest := [.int J23_l5]) C0 hZ hS hA (c_length l dC dI cy sq 9 (by decide)) mV_X5_244 hPc hDc (vk_recv hZ.1 (by decide) hS) hl rfl rfl (Nat.le_of_ble_eq_true rfl) ⟨(Nat.le_of_ble_eq_true rfl), (Nat.le_of_ble_eq_true rfl)⟩ ⟨(Nat.le_of_ble_eq_true rfl), (Nat.le_of_ble_eq_true rfl)⟩ dX5_wordIn_26) (fun r15 u16 H locs hw hP hD hS => ?_)
      have hP : va_P (dC, dI) vwCl [(a_this, .inr (5, [.ref a_this_text, .int x_this_length, .int x_this_at, .int x_this_behind, .int x_this_sort, .int x_this_allowed, .ref a_this_plan, .int x_this_fault, .int x_this_place])), (a_this_text, .inl (cy 0, 1600, .inl g_this_text))] H := hP
      have hD : va_D A [(a_this, .inr (5, [.ref a_this_text, .int x_this_length, .int x_this_at, .int x_this_behind, .int x_this_sort, .int x_this_allowed, .ref a_this_plan, .int x_this_fault, .int x_this_place])), (a_this_text, .inl (cy 0, 1600, .inl g_this_text))] := hD
      obtain rfl : r15 = 6 := hw.trans (by decide)
      refine lv_icmp_gt (tgt := 125) hx hb dX5_wordIn_29 (by decide) (fun c17 => ?_) (fun c17 => ?_)
      · have h18 := ib_lt (ib_c 6 6 6 (by decide)) hJ23_l5 c17
        have h19 : ib J23_l5 7 7 := ib_w 7 7 h18.2 (by decide)
        refine lv_iconst (v := (-1)) hx hb dX5_wordIn_125 (by decide) ?_
        subst hQ; exact k_iret hx hb hr hlk rfl () hS True.intro hP hD (Nat.le_of_ble_eq_true rfl) (Nat.le_of_ble_eq_true rfl) dX5_wordIn_126
      · have h20 := ib_nlt (ib_c 6 6 6 (by decide)) hJ23_l5 c17
        have h21 : ib J23_l5 0 6 := ib_w 0 6 h20.2 (by decide)
        refine lv_iload hx hb dX5_wordIn_32 (lv_at hl 5 rfl) ?_
        refine lv_aload_n hx hb dX5_wordIn_34 rfl (lv_at hl 1 rfl) ?_
        refine k_ji hP hD hS hA [] [0, 1] (wr := [(a_this, .inr (5, [.ref a_this_text, .int x_this_length, .int x_this_at, .int x_this_behind, .int x_this_sort, .int x_this_allowed, .ref a_this_plan, .int x_this_fault, .int x_this_place])), (a_this_text, .inl (cy 0, 1600, .inl g_this_text))]) rfl rfl (by decide) (by decide) (by decide) 0 0 (Nat.le_of_ble_eq_true rfl) (Nat.le_of_ble_eq_true rfl) (fun hPc hDc => k_runVO (As := []) (rest := [.int J23_l5]) C0 hZ hS hA (c_length l dC dI cy sq 9 (by decide)) mV_X5_244 hPc hDc (vk_recv hZ.1 (by decide) hS) hl rfl rfl (Nat.le_of_ble_eq_true rfl) ⟨(Nat.le_of_ble_eq_true rfl), (Nat.le_of_ble_eq_true rfl)⟩ ⟨(Nat.le_of_ble_eq_true rfl), (Nat.le_of_ble_eq_true rfl)⟩ dX5_wordIn_35) (fun r22 u23 H locs hw hP hD hS => ?_)
        have hP : va_P (dC, dI) vwCl [(a_this, .inr (5, [.ref a_this_text, .int x_this_length, .int x_this_at, .int x_this_behind, .int x_this_sort, .int x_this_allowed, .ref a_this_plan, .int x_this_fault, .int x_this_place])), (a_this_text, .inl (cy 0, 1600, .inl g_this_text))] H := hP
        have hD : va_D A [(a_this, .inr (5, [.ref a_this_text, .int x_this_length, .int x_this_at, .int x_this_behind, .int x_this_sort, .int x_this_allowed, .ref a_this_plan, .int x_this_fault, .int x_this_place])), (a_this_text, .inl (cy 0, 1600, .inl g_this_text))] := hD
        obtain rfl : r22 = 6 := hw.trans (by decide)
        refine lv_icmp_eq (tgt := 52) hx hb dX5_wordIn_38 (by decide) (fun c24 => ?_) (fun c24 => ?_)
        · have h25 := ib_eq h21 (ib_c 6 6 6 (by decide)) c24
          have h26 : ib J23_l5 6 6 := ib_w 6 6 h25.1 (by decide)
          exact jn52  H locs ls (ib_w 0 1606 hJ23_l3 (by decide)) (ib_w 0 1 hJ23_l4 (by decide)) (ib_w 0 6 h26 (by decide)) (ib_w 0 1599 hK23_x_this_at (by decide)) (ib_w 1 1 hK23_x_this_sort (by decide)) hP hD hS (lv_sub hl [0, 1, 2, 3, 4, 5] rfl)
        · have h27 : ib J23_l5 0 5 := ib_w 0 5 (ib_ne_hi 6 h21 (by decide) c24) (by decide)
          refine lv_aload_n hx hb dX5_wordIn_41 rfl (lv_at hl 1 rfl) ?_
          refine lv_iload hx hb dX5_wordIn_42 (lv_at hl 5 rfl) ?_
          refine k_ji hP hD hS hA [] [0, 1] (wr := [(a_this, .inr (5, [.ref a_this_text, .int x_this_length, .int x_this_at, .int x_this_behind, .int x_this_sort, .int x_this_allowed, .ref a_this_plan, .int x_this_fault, .int x_this_place])), (a_this_text, .inl (cy 0, 1600, .inl g_this_text))]) rfl rfl (by decide) (by decide) (by decide) 0 0 (Nat.le_of_ble_eq_true rfl) (Nat.le_of_ble_eq_true rfl) (fun hPc hDc => k_runVO (As := [.int J23_l5]) (rest := []) C0 hZ hS hA (c_charAt l dC dI cy sq 9 (by decide) J23_l5 (ib_ch 9 6 h27 rfl (by decide)).1 (ib_ch 9 6 h27 rfl (by decide)).2.1 (ib_ch 9 6 h27 rfl (by decide)).2.2) mV_X5_248 hPc hDc (vk_recv hZ.1 (by decide) hS) hl rfl rfl (Nat.le_of_ble_eq_true rfl) ⟨(Nat.le_of_ble_eq_true rfl), (Nat.le_of_ble_eq_true rfl)⟩ ⟨(Nat.le_of_ble_eq_true rfl), (Nat.le_of_ble_eq_true rfl)⟩ dX5_wordIn_44) (fun r28 u29 H locs hw hP hD hS => ?_)
          have hP : va_P (dC, dI) vwCl [(a_this, .inr (5, [.ref a_this_text, .int x_this_length, .int x_this_at, .int x_this_behind, .int x_this_sort, .int x_this_allowed, .ref a_this_plan, .int x_this_fault, .int x_this_place])), (a_this_text, .inl (cy 0, 1600, .inl g_this_text))] H := hP
          have hD : va_D A [(a_this, .inr (5, [.ref a_this_text, .int x_this_length, .int x_this_at, .int x_this_behind, .int x_this_sort, .int x_this_allowed, .ref a_this_plan, .int x_this_fault, .int x_this_place])), (a_this_text, .inl (cy 0, 1600, .inl g_this_text))] := hD
          refine lv_bipush (v := 32) hx hb dX5_wordIn_47 (by decide) ?_
          refine lv_icmp_ne (tgt := 81) hx hb dX5_wordIn_49 (by decide) (fun c30 => ?_) (fun c30 => ?_)
          · skip
            refine lv_iload hx hb dX5_wordIn_81 (lv_at hl 4 rfl) ?_
            refine lv_if_eq (tgt := 113) hx hb dX5_wordIn_83 (by decide) (fun c31 => ?_) (fun c31 => ?_)
            · have h32 := ib_eq hJ23_l4 (ib_c 0 0 0 (by decide)) c31
              have h33 : ib J23_l4 0 0 := ib_w 0 0 h32.1 (by decide)
              have h34 : ib J23_l3 0 1605 := ⟨(hJ23_l3).1, by have := (hJ23_l3).1; have := (hJ23_l3).2; have := hJ23_lin0; have := (h27).1; have := (h27).2; omega⟩
              exact jn113  H locs ls (ib_w 0 1605 h34 (by decide)) (ib_w 0 1 h33 (by decide)) (ib_w 0 5 h27 (by decide)) (ib_w 0 1599 hK23_x_this_at (by decide)) (ib_w 1 1 hK23_x_this_sort (by decide)) (by have := (h27).1; have := (h27).2; have := hJ23_lin0; have := (h34).1; have := (h34).2; omega) hP hD hS (lv_sub hl [0, 1, 2, 3, 4, 5] rfl)
            · have h35 : ib J23_l4 1 1 := ib_w 1 1 (ib_ne_lo 0 hJ23_l4 (by decide) c31) (by decide)
              refine lv_iload_n hx hb dX5_wordIn_86 rfl (lv_at hl 3 rfl) ?_
              refine lv_aload_n hx hb dX5_wordIn_87 rfl (lv_at hl 0 rfl) ?_
              refine k_get C0 fg_X5_18 hP 0 rfl rfl dX5_wordIn_88 ?_
              refine lv_icmp_ge (tgt := 113) hx hb dX5_wordIn_91 (by decide) (fun c36 => ?_) (fun c36 => ?_)
              · have h37 := ib_le hx_this_behind hJ23_l3 c36
                have h38 : ib J23_l3 0 1605 := ⟨(hJ23_l3).1, by have := (hJ23_l3).1; have := (hJ23_l3).2; have := hJ23_lin0; have := (h27).1; have := (h27).2; omega⟩
                exact jn113  H locs ls (ib_w 0 1605 h38 (by decide)) (ib_w 0 1 h35 (by decide)) (ib_w 0 5 h27 (by decide)) (ib_w 0 1599 hK23_x_this_at (by decide)) (ib_w 1 1 hK23_x_this_sort (by decide)) (by have := (h27).1; have := (h27).2; have := hJ23_lin0; have := (h38).1; have := (h38).2; omega) hP hD hS (lv_sub hl [0, 1, 2, 3, 4, 5] rfl)
              · have h39 := ib_nle hx_this_behind hJ23_l3 c36
                have h40 : ib x_this_behind 1 1600 := ib_w 1 1600 h39.1 (by decide)
                have h41 : ib J23_l3 0 1599 := ib_w 0 1599 h39.2 (by decide)
                refine lv_aload_n hx hb dX5_wordIn_94 rfl (lv_at hl 0 rfl) ?_
                refine k_get C0 fg_X5_33 hP 0 rfl rfl dX5_wordIn_95 ?_
                refine lv_iload_n hx hb dX5_wordIn_98 rfl (lv_at hl 3 rfl) ?_
                refine va_iald hx hb C0.2.2.2.2.2.1 hP 1 0 rfl rfl (ib_in 1600 h41 (by decide)) dX5_wordIn_99 ?_
                refine lv_topi (fun z42 ez42 => ?_)
                have h43 : ib z42 0 255 := by rw [ez42]; exact ia_at hg_this_text (ib_in 1600 h41 (by decide))
                refine lv_aload_n hx hb dX5_wordIn_100 rfl (lv_at hl 1 rfl) ?_
                refine lv_iload hx hb dX5_wordIn_101 (lv_at hl 5 rfl) ?_
                refine k_ji hP hD hS hA [] [0, 1] (wr := [(a_this, .inr (5, [.ref a_this_text, .int x_this_length, .int x_this_at, .int x_this_behind, .int x_this_sort, .int x_this_allowed, .ref a_this_plan, .int x_this_fault, .int x_this_place])), (a_this_text, .inl (cy 0, 1600, .inl g_this_text))]) rfl rfl (by decide) (by decide) (by decide) 0 0 (Nat.le_of_ble_eq_true rfl) (Nat.le_of_ble_eq_true rfl) (fun hPc hDc => k_runVO (As := [.int J23_l5]) (rest := [.int z42]) C0 hZ hS hA (c_charAt l dC dI cy sq 9 (by decide) J23_l5 (ib_ch 9 6 h27 rfl (by decide)).1 (ib_ch 9 6 h27 rfl (by decide)).2.1 (ib_ch 9 6 h27 rfl (by decide)).2.2) mV_X5_248 hPc hDc (vk_recv hZ.1 (by decide) hS) hl rfl rfl (Nat.le_of_ble_eq_true rfl) ⟨(Nat.le_of_ble_eq_true rfl), (Nat.le_of_ble_eq_true rfl)⟩ ⟨(Nat.le_of_ble_eq_true rfl), (Nat.le_of_ble_eq_true rfl)⟩ dX5_wordIn_103) (fun r44 u45 H locs hw hP hD hS => ?_)
                have hP : va_P (dC, dI) vwCl [(a_this, .inr (5, [.ref a_this_text, .int x_this_length, .int x_this_at, .int x_this_behind, .int x_this_sort, .int x_this_allowed, .ref a_this_plan, .int x_this_fault, .int x_this_place])), (a_this_text, .inl (cy 0, 1600, .inl g_this_text))] H := hP
                have hD : va_D A [(a_this, .inr (5, [.ref a_this_text, .int x_this_length, .int x_this_at, .int x_this_behind, .int x_this_sort, .int x_this_allowed, .ref a_this_plan, .int x_this_fault, .int x_this_place])), (a_this_text, .inl (cy 0, 1600, .inl g_this_text))] := hD
                refine lv_icmp_ne (tgt := 113) hx hb dX5_wordIn_106 (by decide) (fun c46 => ?_) (fun c46 => ?_)
                · skip
                  exact jn113  H locs ls (ib_w 0 1605 h41 (by decide)) (ib_w 0 1 h35 (by decide)) (ib_w 0 5 h27 (by decide)) (ib_w 0 1599 hK23_x_this_at (by decide)) (ib_w 1 1 hK23_x_this_sort (by decide)) (by have := (h27).1; have := (h27).2; have := hJ23_lin0; have := (h41).1; have := (h41).2; omega) hP hD hS (lv_sub hl [0, 1, 2, 3, 4, 5] rfl)
                · have h47 := ib_eq h43 (ib_any r44) c46
                  have h48 : ib r44 0 255 := ib_w 0 255 h47.2 (by decide)
                  refine lv_iconst (v := 1) hx hb dX5_wordIn_109 (by decide) ?_
                  refine lv_goto (tgt := 114) hx hb dX5_wordIn_110 (by decide) ?_
                  exact jn114 1 H locs ls (ib_w 0 1605 h41 (by decide)) (ib_w 0 1 h35 (by decide)) (ib_w 0 5 h27 (by decide)) (ib_w 0 1599 hK23_x_this_at (by decide)) (ib_w 1 1 hK23_x_this_sort (by decide)) (ib_w 0 1 (ib_c 1 1 1 (by decide)) (by decide)) (by have := (h27).1; have := (h27).2; have := hJ23_lin0; have := (h41).1; have := (h41).2; omega) hP hD hS (lv_sub hl [0, 1, 2, 3, 4, 5] rfl)
          · have h49 := ib_eq (ib_any r28) (ib_c 32 32 32 (by decide)) c30
            have h50 : ib r28 32 32 := ib_w 32 32 h49.1 (by decide)
            have h51 : ib J23_l3 0 1605 := ⟨(hJ23_l3).1, by have := (hJ23_l3).1; have := (hJ23_l3).2; have := hJ23_lin0; have := (h27).1; have := (h27).2; omega⟩
            exact jn52  H locs ls (ib_w 0 1606 h51 (by decide)) (ib_w 0 1 hJ23_l4 (by decide)) (ib_w 0 6 h27 (by decide)) (ib_w 0 1599 hK23_x_this_at (by decide)) (ib_w 1 1 hK23_x_this_sort (by decide)) hP hD hS (lv_sub hl [0, 1, 2, 3, 4, 5] rfl)
  refine lv_aload_n hx hb dX5_wordIn_0 rfl (lv_at hl 0 rfl) ?_
  refine k_get C0 fg_X5_21 hP 0 rfl rfl dX5_wordIn_1 ?_
  refine lv_iconst (v := 1) hx hb dX5_wordIn_4 (by decide) ?_
  refine lv_icmp_eq (tgt := 10) hx hb dX5_wordIn_5 (by decide) (fun c52 => ?_) (fun c52 => ?_)
  · have h53 := ib_eq hx_this_sort (ib_c 1 1 1 (by decide)) c52
    have h54 : ib x_this_sort 1 1 := ib_w 1 1 h53.1 (by decide)
    have h55 : ib x_this_at 0 1599 := ib_w 0 1599 (ib_two hx_this_at (hc0_this (ib_nz h54 (by decide)))) (by decide)
    refine lv_iconst (v := 0) hx hb dX5_wordIn_10 (by decide) ?_
    refine lv_istore_n (lv' := [(2, .int 0), (0, .ref a_this), (1, .ref (sq 9))]) hx hb dX5_wordIn_11 rfl hl (by decide) rfl (fun ls hl => ?_)
    refine lv_aload_n hx hb dX5_wordIn_12 rfl (lv_at hl 1 rfl) ?_
    refine k_get C0 fg_X5_15 hP 0 rfl rfl dX5_wordIn_13 ?_
    refine lv_istore_n (lv' := [(3, .int x_this_at), (2, .int 0), (0, .ref a_this), (1, .ref (sq 9))]) hx hb dX5_wordIn_16 rfl hl (by decide) rfl (fun ls hl => ?_)
    refine lv_iconst (v := 1) hx hb dX5_wordIn_17 (by decide) ?_
    refine lv_istore (lv' := [(4, .int 1), (3, .int x_this_at), (2, .int 0), (0, .ref a_this), (1, .ref (sq 9))]) hx hb dX5_wordIn_18 hl (by decide) rfl (fun ls hl => ?_)
    refine lv_iconst (v := 0) hx hb dX5_wordIn_20 (by decide) ?_
    refine lv_istore (lv' := [(5, .int 0), (4, .int 1), (3, .int x_this_at), (2, .int 0), (0, .ref a_this), (1, .ref (sq 9))]) hx hb dX5_wordIn_21 hl (by decide) rfl (fun ls hl => ?_)
    exact jn23 9 0 x_this_at 1 0 H locs ls (ib_w 0 1599 h55 (by decide)) (ib_w 1 1 h54 (by decide)) (ib_w 0 1606 h55 (by decide)) (ib_w 0 1 (ib_c 1 1 1 (by decide)) (by decide)) (ib_w 0 7 (ib_c 0 0 0 (by decide)) (by decide)) (by have : (0 : Int32).toInt = 0 := (by decide); have := (h55).1; have := (h55).2; omega) (by have := (ib_c 0 0 0 (by decide)); unfold ib at this; omega) hP hD hS (lv_sub hl [4, 5, 3, 2, 1, 0] rfl)
  · skip
    refine lv_iconst (v := (-1)) hx hb dX5_wordIn_8 (by decide) ?_
    subst hQ; exact k_iret hx hb hr hlk rfl () hS True.intro hP hD (Nat.le_of_ble_eq_true rfl) (Nat.le_of_ble_eq_true rfl) dX5_wordIn_9
set_option maxHeartbeats 4000000 in
set_option maxRecDepth 100000 in
theorem s_X5_needWord_s9 (l : Launch) (dC : Nat → ClassId) (dI : Nat → Nat → Nat) (cy : Nat → ClassId) (sq : Nat → Nat) (a_this : Nat) (a_this_text : Nat) (g_this_text : Nat → Int32) (x_this_length : Int32) (x_this_at : Int32) (x_this_behind : Int32) (x_this_sort : Int32) (x_this_allowed : Int32) (a_this_plan : Nat) (x_this_fault : Int32) (x_this_place : Int32) (hg_this_text : ia g_this_text 1600 0 255) (hx_this_length : ib x_this_length 0 1600) (hx_this_at : ib x_this_at 0 1600) (hx_this_behind : ib x_this_behind 0 1600) (hx_this_sort : ib x_this_sort 0 4) (hc0_this : ¬ x_this_sort = 0 → ib x_this_at 0 1599) : k_Met l yX5_needWord cX5_needWord 2 none { frames := 5, cells := 0, slots := 0, locals := 166 } dC dI cy sq [.ref a_this, .ref (sq 9)] [(a_this, .inr (5, [.ref a_this_text, .int x_this_length, .int x_this_at, .int x_this_behind, .int x_this_sort, .int x_this_allowed, .ref a_this_plan, .int x_this_fault, .int x_this_place])), (a_this_text, .inl (cy 0, 1600, .inl g_this_text))] (k_Qv dC dI (fun (u : Int32 × Int32 × Int32 × Int32 × Int32) => match u with | (n0, n1, n2, n3, n4) => ib n0 0 1600 ∧ ib n1 0 1600 ∧ ib n2 0 4 ∧ (¬ n2 = 0 → ib n0 0 1599)) (fun u : Int32 × Int32 × Int32 × Int32 × Int32 => match u with | (n0, n1, n2, n3, n4) => [(a_this, .inr (5, [.ref a_this_text, .int x_this_length, .int n0, .int n1, .int n2, .int x_this_allowed, .ref a_this_plan, .int n3, .int n4])), (a_this_text, .inl (cy 0, 1600, .inl g_this_text))])) := by
  refine k_ofW2 (by decide +kernel) (Nat.le_of_ble_eq_true rfl) ?_
  intro p e s m below meth c A ls H locs args Q hQ C0 hZ hr hlk hin hP hD hA hS hl
  have C0 : k_cx p s m args c cX5_needWord 2 RX5 dC dI cy sq := C0
  have hx := C0.1
  have hb := C0.2.1
  have hl : lv_has ls 2 [(0, .ref a_this), (1, .ref (sq 9))] := hl
  refine lv_aload_n hx hb dX5_needWord_0 rfl (lv_at hl 0 rfl) ?_
  refine lv_aload_n hx hb dX5_needWord_1 rfl (lv_at hl 1 rfl) ?_
  refine k_ji hP hD hS hA [0, 1] [] (wr := []) rfl rfl (by decide) (by decide) (by decide) 0 0 (Nat.le_of_ble_eq_true rfl) (Nat.le_of_ble_eq_true rfl) (fun hPc hDc => k_runV (As := [.ref (sq 9)]) (rest := []) C0 hZ hS hA (s_X5_wordIn_s9 l dC dI cy sq a_this a_this_text g_this_text x_this_length x_this_at x_this_behind x_this_sort x_this_allowed a_this_plan x_this_fault x_this_place hg_this_text (ib_w 0 1600 hx_this_at (by decide)) (ib_w 0 1600 hx_this_behind (by decide)) (ib_w 0 4 hx_this_sort (by decide)) (fun hq9 => ib_w 0 1599 (hc0_this hq9) (by decide))) mV_X5_54 hPc hDc rfl rfl rfl hl rfl rfl (Nat.le_of_ble_eq_true rfl) ⟨(Nat.le_of_ble_eq_true rfl), (Nat.le_of_ble_eq_true rfl)⟩ ⟨(Nat.le_of_ble_eq_true rfl), (Nat.le_of_ble_eq_true rfl)⟩ dX5_needWord_2) (fun r1 u2 H locs hw hP hD hS => ?_)
  try dsimp only at hP hD hw
  have hP : va_P (dC, dI) vwCl [(a_this, .inr (5, [.ref a_this_text, .int x_this_length, .int x_this_at, .int x_this_behind, .int x_this_sort, .int x_this_allowed, .ref a_this_plan, .int x_this_fault, .int x_this_place])), (a_this_text, .inl (cy 0, 1600, .inl g_this_text))] H := hP
  have hD : va_D A [(a_this, .inr (5, [.ref a_this_text, .int x_this_length, .int x_this_at, .int x_this_behind, .int x_this_sort, .int x_this_allowed, .ref a_this_plan, .int x_this_fault, .int x_this_place])), (a_this_text, .inl (cy 0, 1600, .inl g_this_text))] := hD
  refine lv_iconst (v := (-1)) hx hb dX5_needWord_5 (by decide) ?_
  refine lv_icmp_ne (tgt := 21) hx hb dX5_needWord_6 (by decide) (fun c3 => ?_) (fun c3 => ?_)
  · skip
    refine lv_aload_n hx hb dX5_needWord_21 rfl (lv_at hl 0 rfl) ?_
    refine lv_aload_n hx hb dX5_needWord_22 rfl (lv_at hl 0 rfl) ?_
    refine k_get C0 fg_X5_18 hP 0 rfl rfl dX5_needWord_23 ?_
    refine k_jv hP hD hS hA [0, 1] [] (wr := []) rfl rfl (by decide) (by decide) (by decide) 0 0 (Nat.le_of_ble_eq_true rfl) (Nat.le_of_ble_eq_true rfl) (fun hPc hDc => k_runV (As := [.int x_this_behind]) (rest := []) C0 hZ hS hA (s_X5_moveTo l dC dI cy sq a_this a_this_text g_this_text x_this_length x_this_at x_this_behind x_this_sort x_this_allowed a_this_plan x_this_fault x_this_place x_this_behind hg_this_text (ib_w 0 1600 hx_this_length (by decide)) (ib_w 0 1600 hx_this_behind (by decide))) mV_X5_86 hPc hDc rfl rfl rfl hl rfl rfl (Nat.le_of_ble_eq_true rfl) ⟨(Nat.le_of_ble_eq_true rfl), (Nat.le_of_ble_eq_true rfl)⟩ ⟨(Nat.le_of_ble_eq_true rfl), (Nat.le_of_ble_eq_true rfl)⟩ dX5_needWord_26) (fun u5 H locs hw hP hD hS => ?_)
    obtain ⟨v6, v7, v8⟩ := u5
    try dsimp only at hP hD hw
    have hP : va_P (dC, dI) vwCl [(a_this, .inr (5, [.ref a_this_text, .int x_this_length, .int v6, .int v7, .int v8, .int x_this_allowed, .ref a_this_plan, .int x_this_fault, .int x_this_place])), (a_this_text, .inl (cy 0, 1600, .inl g_this_text))] H := hP
    have hD : va_D A [(a_this, .inr (5, [.ref a_this_text, .int x_this_length, .int v6, .int v7, .int v8, .int x_this_allowed, .ref a_this_plan, .int x_this_fault, .int x_this_place])), (a_this_text, .inl (cy 0, 1600, .inl g_this_text))] := hD
    obtain ⟨h9, h10, h11, h12⟩ := hw
    subst hQ; exact k_vret hx hb hr hlk ((v6, v7, v8, x_this_fault, x_this_place)) hS ⟨ib_w 0 1600 h9 (by decide), ib_w 0 1600 h10 (by decide), ib_w 0 4 h11 (by decide), fun hq9 => ib_w 0 1599 (h12 hq9) (by decide)⟩ hP hD (Nat.le_of_ble_eq_true rfl) (Nat.le_of_ble_eq_true rfl) dX5_needWord_29
  · have h13 := ib_eq (ib_any r1) (ib_c (-1) (-1) (-1) (by decide)) c3
    have h14 : ib r1 (-1) (-1) := ib_w (-1) (-1) h13.1 (by decide)
    refine lv_aload_n hx hb dX5_needWord_9 rfl (lv_at hl 0 rfl) ?_
    refine lv_iconst (v := 1) hx hb dX5_needWord_10 (by decide) ?_
    refine lv_aload_n hx hb dX5_needWord_11 rfl (lv_at hl 0 rfl) ?_
    refine k_get C0 fg_X5_15 hP 0 rfl rfl dX5_needWord_12 ?_
    refine k_jv hP hD hS hA [0] [1] (wr := [(a_this_text, .inl (cy 0, 1600, .inl g_this_text))]) rfl rfl (by decide) (by decide) (by decide) 0 0 (Nat.le_of_ble_eq_true rfl) (Nat.le_of_ble_eq_true rfl) (fun hPc hDc => k_runV (As := [.int 1, .int x_this_at]) (rest := []) C0 hZ hS hA (s_X5_fail l dC dI cy sq a_this a_this_text x_this_length x_this_at x_this_behind x_this_sort x_this_allowed a_this_plan x_this_fault x_this_place 1 x_this_at ) mV_X5_78 hPc hDc rfl rfl rfl hl rfl rfl (Nat.le_of_ble_eq_true rfl) ⟨(Nat.le_of_ble_eq_true rfl), (Nat.le_of_ble_eq_true rfl)⟩ ⟨(Nat.le_of_ble_eq_true rfl), (Nat.le_of_ble_eq_true rfl)⟩ dX5_needWord_15) (fun u16 H locs hw hP hD hS => ?_)
    obtain ⟨v17, v18⟩ := u16
    try dsimp only at hP hD hw
    have hP : va_P (dC, dI) vwCl [(a_this_text, .inl (cy 0, 1600, .inl g_this_text)), (a_this, .inr (5, [.ref a_this_text, .int x_this_length, .int x_this_length, .int x_this_length, .int 0, .int x_this_allowed, .ref a_this_plan, .int v17, .int v18]))] H := hP
    have hD : va_D A [(a_this_text, .inl (cy 0, 1600, .inl g_this_text)), (a_this, .inr (5, [.ref a_this_text, .int x_this_length, .int x_this_length, .int x_this_length, .int 0, .int x_this_allowed, .ref a_this_plan, .int v17, .int v18]))] := hD
    refine lv_goto (tgt := 29) hx hb dX5_needWord_18 (by decide) ?_
    subst hQ; exact k_vret hx hb hr hlk ((x_this_length, x_this_length, 0, v17, v18)) hS ⟨ib_w 0 1600 hx_this_length (by decide), ib_w 0 1600 hx_this_length (by decide), ib_w 0 4 (ib_c 0 0 0 (by decide)) (by decide), fun hq9 => absurd rfl hq9⟩ (hP.sub [1, 0] rfl) (hD.sub [1, 0] (by decide) rfl) (Nat.le_of_ble_eq_true rfl) (Nat.le_of_ble_eq_true rfl) dX5_needWord_29
set_option maxHeartbeats 4000000 in
set_option maxRecDepth 100000 in
theorem s_X5_number_a0_0_a1_9 (l : Launch) (dC : Nat → ClassId) (dI : Nat → Nat → Nat) (cy : Nat → ClassId) (sq : Nat → Nat) (a_this : Nat) (a_this_text : Nat) (g_this_text : Nat → Int32) (x_this_length : Int32) (x_this_at : Int32) (x_this_behind : Int32) (x_this_sort : Int32) (x_this_allowed : Int32) (a_this_plan : Nat) (x_this_fault : Int32) (x_this_place : Int32) (hg_this_text : ia g_this_text 1600 0 255) (hx_this_length : ib x_this_length 0 1600) (hx_this_at : ib x_this_at 0 1600) (hx_this_behind : ib x_this_behind 0 1600) (hx_this_sort : ib x_this_sort 0 4) (hc0_this : ¬ x_this_sort = 0 → ib x_this_at 0 1599) : k_Met l yX5_number cX5_number 5 (some .int) { frames := 2, cells := 0, slots := 0, locals := 43 } dC dI cy sq [.ref a_this, .int 0, .int 9] [(a_this, .inr (5, [.ref a_this_text, .int x_this_length, .int x_this_at, .int x_this_behind, .int x_this_sort, .int x_this_allowed, .ref a_this_plan, .int x_this_fault, .int x_this_place])), (a_this_text, .inl (cy 0, 1600, .inl g_this_text))] (k_Qi dC dI (fun (r : Int32) (u : Int32 × Int32 × Int32 × Int32 × Int32) => match u with | (n0, n1, n2, n3, n4) => ib r 0 9 ∧ ib n0 0 1600 ∧ ib n1 0 1600 ∧ ib n2 0 4 ∧ (¬ n2 = 0 → ib n0 0 1599)) (fun u : Int32 × Int32 × Int32 × Int32 × Int32 => match u with | (n0, n1, n2, n3, n4) => [(a_this, .inr (5, [.ref a_this_text, .int x_this_length, .int n0, .int n1, .int n2, .int x_this_allowed, .ref a_this_plan, .int n3, .int n4])), (a_this_text, .inl (cy 0, 1600, .inl g_this_text))])) := by
  refine k_ofW2 (by decide +kernel) (Nat.le_of_ble_eq_true rfl) ?_
  intro p e s m below meth c A ls H locs args Q hQ C0 hZ hr hlk hin hP hD hA hS hl
  have C0 : k_cx p s m args c cX5_number 5 RX5 dC dI cy sq := C0
  have hx := C0.1
  have hb := C0.2.1
  have hl : lv_has ls 5 [(0, .ref a_this), (1, .int 0), (2, .int 9)] := hl
  have jn94 : ∀ (J94_l3 : Int32) (J94_l4 : Int32) (H : Heap) (locs : List Loc) (ls : Array Slot), ib J94_l4 0 1600 → ib x_this_at 0 1599 → ib x_this_sort 2 2 → va_P (dC, dI) vwCl [(a_this, .inr (5, [.ref a_this_text, .int x_this_length, .int x_this_at, .int x_this_behind, .int x_this_sort, .int x_this_allowed, .ref a_this_plan, .int x_this_fault, .int x_this_place])), (a_this_text, .inl (cy 0, 1600, .inl g_this_text))] H → va_D A [(a_this, .inr (5, [.ref a_this_text, .int x_this_length, .int x_this_at, .int x_this_behind, .int x_this_sort, .int x_this_allowed, .ref a_this_plan, .int x_this_fault, .int x_this_place])), (a_this_text, .inl (cy 0, 1600, .inl g_this_text))] → va_S A s.heap H locs → lv_has ls 5 [(0, .ref a_this), (1, .int 0), (2, .int 9), (3, .int J94_l3), (4, .int J94_l4)] → W p l e { frames := 2, cells := 0, slots := 0, locals := 43 } s m args below meth c H locs 0 0 Q (F0 m 94 ls []) := by
    intro J94_l3 J94_l4 H locs ls hJ94_l4 hK94_x_this_at hK94_x_this_sort hP hD hS hl
    refine lv_aload_n hx hb dX5_number_94 rfl (lv_at hl 0 rfl) ?_
    refine lv_iconst (v := 2) hx hb dX5_number_95 (by decide) ?_
    refine lv_aload_n hx hb dX5_number_96 rfl (lv_at hl 0 rfl) ?_
    refine k_get C0 fg_X5_15 hP 0 rfl rfl dX5_number_97 ?_
    refine k_jv hP hD hS hA [0] [1] (wr := [(a_this_text, .inl (cy 0, 1600, .inl g_this_text))]) rfl rfl (by decide) (by decide) (by decide) 0 0 (Nat.le_of_ble_eq_true rfl) (Nat.le_of_ble_eq_true rfl) (fun hPc hDc => k_runV (As := [.int 2, .int x_this_at]) (rest := []) C0 hZ hS hA (s_X5_fail l dC dI cy sq a_this a_this_text x_this_length x_this_at x_this_behind x_this_sort x_this_allowed a_this_plan x_this_fault x_this_place 2 x_this_at ) mV_X5_78 hPc hDc rfl rfl rfl hl rfl rfl (Nat.le_of_ble_eq_true rfl) ⟨(Nat.le_of_ble_eq_true rfl), (Nat.le_of_ble_eq_true rfl)⟩ ⟨(Nat.le_of_ble_eq_true rfl), (Nat.le_of_ble_eq_true rfl)⟩ dX5_number_100) (fun u2 H locs hw hP hD hS => ?_)
    obtain ⟨v3, v4⟩ := u2
    try dsimp only at hP hD hw
    have hP : va_P (dC, dI) vwCl [(a_this_text, .inl (cy 0, 1600, .inl g_this_text)), (a_this, .inr (5, [.ref a_this_text, .int x_this_length, .int x_this_length, .int x_this_length, .int 0, .int x_this_allowed, .ref a_this_plan, .int v3, .int v4]))] H := hP
    have hD : va_D A [(a_this_text, .inl (cy 0, 1600, .inl g_this_text)), (a_this, .inr (5, [.ref a_this_text, .int x_this_length, .int x_this_length, .int x_this_length, .int 0, .int x_this_allowed, .ref a_this_plan, .int v3, .int v4]))] := hD
    refine lv_iload_n hx hb dX5_number_103 rfl (lv_at hl 1 rfl) ?_
    subst hQ; exact k_iret hx hb hr hlk rfl ((x_this_length, x_this_length, 0, v3, v4)) hS ⟨ib_w 0 9 (ib_c 0 0 0 (by decide)) (by decide), ib_w 0 1600 hx_this_length (by decide), ib_w 0 1600 hx_this_length (by decide), ib_w 0 4 (ib_c 0 0 0 (by decide)) (by decide), fun hq9 => absurd rfl hq9⟩ (hP.sub [1, 0] rfl) (hD.sub [1, 0] (by decide) rfl) (Nat.le_of_ble_eq_true rfl) (Nat.le_of_ble_eq_true rfl) dX5_number_104
  have jn53 : ∀ (n : Nat) (J53_l3 : Int32) (J53_l4 : Int32) (H : Heap) (locs : List Loc) (ls : Array Slot), ib x_this_at 0 1599 → ib x_this_sort 2 2 → ib J53_l4 0 1600 → 1601 ≤ J53_l4.toInt + (n : Int) → va_P (dC, dI) vwCl [(a_this, .inr (5, [.ref a_this_text, .int x_this_length, .int x_this_at, .int x_this_behind, .int x_this_sort, .int x_this_allowed, .ref a_this_plan, .int x_this_fault, .int x_this_place])), (a_this_text, .inl (cy 0, 1600, .inl g_this_text))] H → va_D A [(a_this, .inr (5, [.ref a_this_text, .int x_this_length, .int x_this_at, .int x_this_behind, .int x_this_sort, .int x_this_allowed, .ref a_this_plan, .int x_this_fault, .int x_this_place])), (a_this_text, .inl (cy 0, 1600, .inl g_this_text))] → va_S A s.heap H locs → lv_has ls 5 [(0, .ref a_this), (1, .int 0), (2, .int 9), (3, .int J53_l3), (4, .int J53_l4)] → W p l e { frames := 2, cells := 0, slots := 0, locals := 43 } s m args below meth c H locs 0 0 Q (F0 m 53 ls []) := by
    intro n
    induction n with
    | zero =>
      intro J53_l3 J53_l4 H locs ls hK53_x_this_at hK53_x_this_sort hJ53_l4 hm
      exact absurd hm (by have := hJ53_l4; unfold ib at this; omega)
    | succ n ih =>
      intro J53_l3 J53_l4 H locs ls hK53_x_this_at hK53_x_this_sort hJ53_l4 hm53 hP hD hS hl
      have ih53 := ih
      refine lv_iload hx hb dX5_number_53 (lv_at hl 4 rfl) ?_
      refine lv_aload_n hx hb dX5_number_55 rfl (lv_at hl 0 rfl) ?_
      refine k_get C0 fg_X5_18 hP 0 rfl rfl dX5_number_56 ?_
      refine lv_icmp_ge (tgt := 84) hx hb dX5_number_59 (by decide) (fun c5 => ?_) (fun c5 => ?_)
      · have h6 := ib_le hx_this_behind hJ53_l4 c5
        refine lv_iload_n hx hb dX5_number_84 rfl (lv_at hl 3 rfl) ?_
        refine lv_iload_n hx hb dX5_number_85 rfl (lv_at hl 1 rfl) ?_
        refine lv_icmp_lt (tgt := 94) hx hb dX5_number_86 (by decide) (fun c7 => ?_) (fun c7 => ?_)
        · have h8 := ib_lt (ib_any J53_l3) (ib_c 0 0 0 (by decide)) c7
          have h9 : ib J53_l3 (-2147483648) (-1) := ib_w (-2147483648) (-1) h8.1 (by decide)
          exact jn94 J53_l3 J53_l4 H locs ls (ib_w 0 1600 hJ53_l4 (by decide)) (ib_w 0 1599 hK53_x_this_at (by decide)) (ib_w 2 2 hK53_x_this_sort (by decide)) hP hD hS (lv_sub hl [0, 1, 2, 3, 4] rfl)
        · have h10 := ib_nlt (ib_any J53_l3) (ib_c 0 0 0 (by decide)) c7
          have h11 : ib J53_l3 0 2147483647 := ib_w 0 2147483647 h10.1 (by decide)
          refine lv_iload_n hx hb dX5_number_89 rfl (lv_at hl 3 rfl) ?_
          refine lv_iload_n hx hb dX5_number_90 rfl (lv_at hl 2 rfl) ?_
          refine lv_icmp_le (tgt := 105) hx hb dX5_number_91 (by decide) (fun c12 => ?_) (fun c12 => ?_)
          · have h13 := ib_le h11 (ib_c 9 9 9 (by decide)) c12
            have h14 : ib J53_l3 0 9 := ib_w 0 9 h13.1 (by decide)
            refine lv_aload_n hx hb dX5_number_105 rfl (lv_at hl 0 rfl) ?_
            refine lv_aload_n hx hb dX5_number_106 rfl (lv_at hl 0 rfl) ?_
            refine k_get C0 fg_X5_18 hP 0 rfl rfl dX5_number_107 ?_
            refine k_jv hP hD hS hA [0, 1] [] (wr := []) rfl rfl (by decide) (by decide) (by decide) 0 0 (Nat.le_of_ble_eq_true rfl) (Nat.le_of_ble_eq_true rfl) (fun hPc hDc => k_runV (As := [.int x_this_behind]) (rest := []) C0 hZ hS hA (s_X5_moveTo l dC dI cy sq a_this a_this_text g_this_text x_this_length x_this_at x_this_behind x_this_sort x_this_allowed a_this_plan x_this_fault x_this_place x_this_behind hg_this_text (ib_w 0 1600 hx_this_length (by decide)) (ib_w 0 1600 hx_this_behind (by decide))) mV_X5_86 hPc hDc rfl rfl rfl hl rfl rfl (Nat.le_of_ble_eq_true rfl) ⟨(Nat.le_of_ble_eq_true rfl), (Nat.le_of_ble_eq_true rfl)⟩ ⟨(Nat.le_of_ble_eq_true rfl), (Nat.le_of_ble_eq_true rfl)⟩ dX5_number_110) (fun u16 H locs hw hP hD hS => ?_)
            obtain ⟨v17, v18, v19⟩ := u16
            try dsimp only at hP hD hw
            have hP : va_P (dC, dI) vwCl [(a_this, .inr (5, [.ref a_this_text, .int x_this_length, .int v17, .int v18, .int v19, .int x_this_allowed, .ref a_this_plan, .int x_this_fault, .int x_this_place])), (a_this_text, .inl (cy 0, 1600, .inl g_this_text))] H := hP
            have hD : va_D A [(a_this, .inr (5, [.ref a_this_text, .int x_this_length, .int v17, .int v18, .int v19, .int x_this_allowed, .ref a_this_plan, .int x_this_fault, .int x_this_place])), (a_this_text, .inl (cy 0, 1600, .inl g_this_text))] := hD
            obtain ⟨h20, h21, h22, h23⟩ := hw
            refine lv_iload_n hx hb dX5_number_113 rfl (lv_at hl 3 rfl) ?_
            subst hQ; exact k_iret hx hb hr hlk rfl ((v17, v18, v19, x_this_fault, x_this_place)) hS ⟨ib_w 0 9 h14 (by decide), ib_w 0 1600 h20 (by decide), ib_w 0 1600 h21 (by decide), ib_w 0 4 h22 (by decide), fun hq9 => ib_w 0 1599 (h23 hq9) (by decide)⟩ hP hD (Nat.le_of_ble_eq_true rfl) (Nat.le_of_ble_eq_true rfl) dX5_number_114
          · have h24 := ib_nle h11 (ib_c 9 9 9 (by decide)) c12
            have h25 : ib J53_l3 10 2147483647 := ib_w 10 2147483647 h24.1 (by decide)
            exact jn94 J53_l3 J53_l4 H locs ls (ib_w 0 1600 hJ53_l4 (by decide)) (ib_w 0 1599 hK53_x_this_at (by decide)) (ib_w 2 2 hK53_x_this_sort (by decide)) hP hD hS (lv_sub hl [0, 1, 2, 3, 4] rfl)
      · have h26 := ib_nle hx_this_behind hJ53_l4 c5
        have h27 : ib x_this_behind 1 1600 := ib_w 1 1600 h26.1 (by decide)
        have h28 : ib J53_l4 0 1599 := ib_w 0 1599 h26.2 (by decide)
        refine lv_iload_n hx hb dX5_number_62 rfl (lv_at hl 3 rfl) ?_
        refine lv_bipush (v := 10) hx hb dX5_number_63 (by decide) ?_
        refine lv_imul hx hb dX5_number_65 ?_
        refine lv_topi (fun z29 ez29 => ?_)
        refine lv_aload_n hx hb dX5_number_66 rfl (lv_at hl 0 rfl) ?_
        refine k_get C0 fg_X5_33 hP 0 rfl rfl dX5_number_67 ?_
        refine lv_iload hx hb dX5_number_70 (lv_at hl 4 rfl) ?_
        refine va_iald hx hb C0.2.2.2.2.2.1 hP 1 0 rfl rfl (ib_in 1600 h28 (by decide)) dX5_number_72 ?_
        refine lv_topi (fun z30 ez30 => ?_)
        have h31 : ib z30 0 255 := by rw [ez30]; exact ia_at hg_this_text (ib_in 1600 h28 (by decide))
        refine lv_iadd hx hb dX5_number_73 ?_
        refine lv_topi (fun z32 ez32 => ?_)
        refine lv_bipush (v := 48) hx hb dX5_number_74 (by decide) ?_
        refine lv_isub hx hb dX5_number_76 ?_
        refine lv_topi (fun z33 ez33 => ?_)
        refine lv_istore_n (lv' := [(3, .int z33), (0, .ref a_this), (1, .int 0), (2, .int 9), (4, .int J53_l4)]) hx hb dX5_number_77 rfl hl (by decide) rfl (fun ls hl => ?_)
        obtain ⟨z34, ez34⟩ : ∃ y : Int32, y = J53_l4 + 1 := ⟨_, rfl⟩
        refine lv_iinc (v := z34) (lv' := [(4, .int z34), (3, .int z33), (0, .ref a_this), (1, .int 0), (2, .int 9)]) hx hb dX5_number_78 hl (k := 4) rfl (by rw [ez34]; rfl) (by decide) rfl (fun ls hl => ?_)
        have h35 := ib_add h28 (ib_c 1 1 1 (by decide)) (by decide)
        rw [← ez34] at h35
        have h36 : ib z34 1 1600 := ib_w 1 1600 h35.1 (by decide)
        refine lv_goto (tgt := 53) hx hb dX5_number_81 (by decide) ?_
        exact ih53 z33 z34 H locs ls (ib_w 0 1599 hK53_x_this_at (by decide)) (ib_w 2 2 hK53_x_this_sort (by decide)) (ib_w 0 1600 h36 (by decide)) (by have := h35.2; have : (1 : Int32).toInt = 1 := (by decide); omega) hP hD hS (lv_sub hl [2, 3, 4, 1, 0] rfl)
  refine lv_aload_n hx hb dX5_number_0 rfl (lv_at hl 0 rfl) ?_
  refine k_get C0 fg_X5_21 hP 0 rfl rfl dX5_number_1 ?_
  refine lv_iconst (v := 2) hx hb dX5_number_4 (by decide) ?_
  refine lv_icmp_eq (tgt := 19) hx hb dX5_number_5 (by decide) (fun c37 => ?_) (fun c37 => ?_)
  · have h38 := ib_eq hx_this_sort (ib_c 2 2 2 (by decide)) c37
    have h39 : ib x_this_sort 2 2 := ib_w 2 2 h38.1 (by decide)
    have h40 : ib x_this_at 0 1599 := ib_w 0 1599 (ib_two hx_this_at (hc0_this (ib_nz h39 (by decide)))) (by decide)
    refine lv_aload_n hx hb dX5_number_19 rfl (lv_at hl 0 rfl) ?_
    refine k_get C0 fg_X5_18 hP 0 rfl rfl dX5_number_20 ?_
    refine lv_aload_n hx hb dX5_number_23 rfl (lv_at hl 0 rfl) ?_
    refine k_get C0 fg_X5_15 hP 0 rfl rfl dX5_number_24 ?_
    refine lv_isub hx hb dX5_number_27 ?_
    refine lv_topi (fun z41 ez41 => ?_)
    have h42 := ib_sub hx_this_behind h40 (by decide)
    rw [← ez41] at h42
    have h43 : ib z41 (-1599) 1600 := ib_w (-1599) 1600 h42.1 (by decide)
    refine lv_iconst (v := 4) hx hb dX5_number_28 (by decide) ?_
    refine lv_icmp_le (tgt := 45) hx hb dX5_number_29 (by decide) (fun c44 => ?_) (fun c44 => ?_)
    · have h45 := ib_le h43 (ib_c 4 4 4 (by decide)) c44
      have h46 : ib z41 (-1599) 4 := ib_w (-1599) 4 h45.1 (by decide)
      refine lv_iconst (v := 0) hx hb dX5_number_45 (by decide) ?_
      refine lv_istore_n (lv' := [(3, .int 0), (0, .ref a_this), (1, .int 0), (2, .int 9)]) hx hb dX5_number_46 rfl hl (by decide) rfl (fun ls hl => ?_)
      refine lv_aload_n hx hb dX5_number_47 rfl (lv_at hl 1 rfl) ?_
      refine k_get C0 fg_X5_15 hP 0 rfl rfl dX5_number_48 ?_
      refine lv_istore (lv' := [(4, .int x_this_at), (3, .int 0), (0, .ref a_this), (1, .int 0), (2, .int 9)]) hx hb dX5_number_51 hl (by decide) rfl (fun ls hl => ?_)
      exact jn53 1602 0 x_this_at H locs ls (ib_w 0 1599 h40 (by decide)) (ib_w 2 2 h39 (by decide)) (ib_w 0 1600 h40 (by decide)) (by have := h40; unfold ib at this; omega) hP hD hS (lv_sub hl [2, 3, 4, 1, 0] rfl)
    · have h47 := ib_nle h43 (ib_c 4 4 4 (by decide)) c44
      have h48 : ib z41 5 1600 := ib_w 5 1600 h47.1 (by decide)
      refine lv_aload_n hx hb dX5_number_32 rfl (lv_at hl 0 rfl) ?_
      refine lv_iconst (v := 1) hx hb dX5_number_33 (by decide) ?_
      refine lv_aload_n hx hb dX5_number_34 rfl (lv_at hl 0 rfl) ?_
      refine k_get C0 fg_X5_15 hP 0 rfl rfl dX5_number_35 ?_
      refine lv_iconst (v := 4) hx hb dX5_number_38 (by decide) ?_
      refine lv_iadd hx hb dX5_number_39 ?_
      refine lv_topi (fun z49 ez49 => ?_)
      have h50 := ib_add h40 (ib_c 4 4 4 (by decide)) (by decide)
      rw [← ez49] at h50
      have h51 : ib z49 4 1603 := ib_w 4 1603 h50.1 (by decide)
      refine k_jv hP hD hS hA [0] [1] (wr := [(a_this_text, .inl (cy 0, 1600, .inl g_this_text))]) rfl rfl (by decide) (by decide) (by decide) 0 0 (Nat.le_of_ble_eq_true rfl) (Nat.le_of_ble_eq_true rfl) (fun hPc hDc => k_runV (As := [.int 1, .int z49]) (rest := []) C0 hZ hS hA (s_X5_fail l dC dI cy sq a_this a_this_text x_this_length x_this_at x_this_behind x_this_sort x_this_allowed a_this_plan x_this_fault x_this_place 1 z49 ) mV_X5_78 hPc hDc rfl rfl rfl hl rfl rfl (Nat.le_of_ble_eq_true rfl) ⟨(Nat.le_of_ble_eq_true rfl), (Nat.le_of_ble_eq_true rfl)⟩ ⟨(Nat.le_of_ble_eq_true rfl), (Nat.le_of_ble_eq_true rfl)⟩ dX5_number_40) (fun u53 H locs hw hP hD hS => ?_)
      obtain ⟨v54, v55⟩ := u53
      try dsimp only at hP hD hw
      have hP : va_P (dC, dI) vwCl [(a_this_text, .inl (cy 0, 1600, .inl g_this_text)), (a_this, .inr (5, [.ref a_this_text, .int x_this_length, .int x_this_length, .int x_this_length, .int 0, .int x_this_allowed, .ref a_this_plan, .int v54, .int v55]))] H := hP
      have hD : va_D A [(a_this_text, .inl (cy 0, 1600, .inl g_this_text)), (a_this, .inr (5, [.ref a_this_text, .int x_this_length, .int x_this_length, .int x_this_length, .int 0, .int x_this_allowed, .ref a_this_plan, .int v54, .int v55]))] := hD
      refine lv_iload_n hx hb dX5_number_43 rfl (lv_at hl 1 rfl) ?_
      subst hQ; exact k_iret hx hb hr hlk rfl ((x_this_length, x_this_length, 0, v54, v55)) hS ⟨ib_w 0 9 (ib_c 0 0 0 (by decide)) (by decide), ib_w 0 1600 hx_this_length (by decide), ib_w 0 1600 hx_this_length (by decide), ib_w 0 4 (ib_c 0 0 0 (by decide)) (by decide), fun hq9 => absurd rfl hq9⟩ (hP.sub [1, 0] rfl) (hD.sub [1, 0] (by decide) rfl) (Nat.le_of_ble_eq_true rfl) (Nat.le_of_ble_eq_true rfl) dX5_number_44
  · skip
    refine lv_aload_n hx hb dX5_number_8 rfl (lv_at hl 0 rfl) ?_
    refine lv_iconst (v := 1) hx hb dX5_number_9 (by decide) ?_
    refine lv_aload_n hx hb dX5_number_10 rfl (lv_at hl 0 rfl) ?_
    refine k_get C0 fg_X5_15 hP 0 rfl rfl dX5_number_11 ?_
    refine k_jv hP hD hS hA [0] [1] (wr := [(a_this_text, .inl (cy 0, 1600, .inl g_this_text))]) rfl rfl (by decide) (by decide) (by decide) 0 0 (Nat.le_of_ble_eq_true rfl) (Nat.le_of_ble_eq_true rfl) (fun hPc hDc => k_runV (As := [.int 1, .int x_this_at]) (rest := []) C0 hZ hS hA (s_X5_fail l dC dI cy sq a_this a_this_text x_this_length x_this_at x_this_behind x_this_sort x_this_allowed a_this_plan x_this_fault x_this_place 1 x_this_at ) mV_X5_78 hPc hDc rfl rfl rfl hl rfl rfl (Nat.le_of_ble_eq_true rfl) ⟨(Nat.le_of_ble_eq_true rfl), (Nat.le_of_ble_eq_true rfl)⟩ ⟨(Nat.le_of_ble_eq_true rfl), (Nat.le_of_ble_eq_true rfl)⟩ dX5_number_14) (fun u57 H locs hw hP hD hS => ?_)
    obtain ⟨v58, v59⟩ := u57
    try dsimp only at hP hD hw
    have hP : va_P (dC, dI) vwCl [(a_this_text, .inl (cy 0, 1600, .inl g_this_text)), (a_this, .inr (5, [.ref a_this_text, .int x_this_length, .int x_this_length, .int x_this_length, .int 0, .int x_this_allowed, .ref a_this_plan, .int v58, .int v59]))] H := hP
    have hD : va_D A [(a_this_text, .inl (cy 0, 1600, .inl g_this_text)), (a_this, .inr (5, [.ref a_this_text, .int x_this_length, .int x_this_length, .int x_this_length, .int 0, .int x_this_allowed, .ref a_this_plan, .int v58, .int v59]))] := hD
    refine lv_iload_n hx hb dX5_number_17 rfl (lv_at hl 1 rfl) ?_
    subst hQ; exact k_iret hx hb hr hlk rfl ((x_this_length, x_this_length, 0, v58, v59)) hS ⟨ib_w 0 9 (ib_c 0 0 0 (by decide)) (by decide), ib_w 0 1600 hx_this_length (by decide), ib_w 0 1600 hx_this_length (by decide), ib_w 0 4 (ib_c 0 0 0 (by decide)) (by decide), fun hq9 => absurd rfl hq9⟩ (hP.sub [1, 0] rfl) (hD.sub [1, 0] (by decide) rfl) (Nat.le_of_ble_eq_true rfl) (Nat.le_of_ble_eq_true rfl) dX5_number_18
set_option maxHeartbeats 4000000 in
set_option maxRecDepth 100000 in
theorem s_X5_numberBehind_a1_0_a2_9_s9 (l : Launch) (dC : Nat → ClassId) (dI : Nat → Nat → Nat) (cy : Nat → ClassId) (sq : Nat → Nat) (a_this : Nat) (a_this_text : Nat) (g_this_text : Nat → Int32) (x_this_length : Int32) (x_this_at : Int32) (x_this_behind : Int32) (x_this_sort : Int32) (x_this_allowed : Int32) (a_this_plan : Nat) (x_this_fault : Int32) (x_this_place : Int32) (hg_this_text : ia g_this_text 1600 0 255) (hx_this_length : ib x_this_length 0 1600) (hx_this_at : ib x_this_at 0 1600) (hx_this_behind : ib x_this_behind 0 1600) (hx_this_sort : ib x_this_sort 0 4) (hc0_this : ¬ x_this_sort = 0 → ib x_this_at 0 1599) : k_Met l yX5_numberBehind cX5_numberBehind 4 (some .int) { frames := 6, cells := 0, slots := 0, locals := 187 } dC dI cy sq [.ref a_this, .ref (sq 9), .int 0, .int 9] [(a_this, .inr (5, [.ref a_this_text, .int x_this_length, .int x_this_at, .int x_this_behind, .int x_this_sort, .int x_this_allowed, .ref a_this_plan, .int x_this_fault, .int x_this_place])), (a_this_text, .inl (cy 0, 1600, .inl g_this_text))] (k_Qi dC dI (fun (r : Int32) (u : Int32 × Int32 × Int32 × Int32 × Int32) => match u with | (n0, n1, n2, n3, n4) => ib r 0 9 ∧ ib n0 0 1600 ∧ ib n1 0 1600 ∧ ib n2 0 4 ∧ (¬ n2 = 0 → ib n0 0 1599)) (fun u : Int32 × Int32 × Int32 × Int32 × Int32 => match u with | (n0, n1, n2, n3, n4) => [(a_this, .inr (5, [.ref a_this_text, .int x_this_length, .int n0, .int n1, .int n2, .int x_this_allowed, .ref a_this_plan, .int n3, .int n4])), (a_this_text, .inl (cy 0, 1600, .inl g_this_text))])) := by
  refine k_ofW2 (by decide +kernel) (Nat.le_of_ble_eq_true rfl) ?_
  intro p e s m below meth c A ls H locs args Q hQ C0 hZ hr hlk hin hP hD hA hS hl
  have C0 : k_cx p s m args c cX5_numberBehind 4 RX5 dC dI cy sq := C0
  have hx := C0.1
  have hb := C0.2.1
  have hl : lv_has ls 4 [(0, .ref a_this), (1, .ref (sq 9)), (2, .int 0), (3, .int 9)] := hl
  refine lv_aload_n hx hb dX5_numberBehind_0 rfl (lv_at hl 0 rfl) ?_
  refine lv_aload_n hx hb dX5_numberBehind_1 rfl (lv_at hl 1 rfl) ?_
  refine k_jv hP hD hS hA [0, 1] [] (wr := []) rfl rfl (by decide) (by decide) (by decide) 0 0 (Nat.le_of_ble_eq_true rfl) (Nat.le_of_ble_eq_true rfl) (fun hPc hDc => k_runV (As := [.ref (sq 9)]) (rest := []) C0 hZ hS hA (s_X5_needWord_s9 l dC dI cy sq a_this a_this_text g_this_text x_this_length x_this_at x_this_behind x_this_sort x_this_allowed a_this_plan x_this_fault x_this_place hg_this_text (ib_w 0 1600 hx_this_length (by decide)) (ib_w 0 1600 hx_this_at (by decide)) (ib_w 0 1600 hx_this_behind (by decide)) (ib_w 0 4 hx_this_sort (by decide)) (fun hq9 => ib_w 0 1599 (hc0_this hq9) (by decide))) mV_X5_144 hPc hDc rfl rfl rfl hl rfl rfl (Nat.le_of_ble_eq_true rfl) ⟨(Nat.le_of_ble_eq_true rfl), (Nat.le_of_ble_eq_true rfl)⟩ ⟨(Nat.le_of_ble_eq_true rfl), (Nat.le_of_ble_eq_true rfl)⟩ dX5_numberBehind_2) (fun u2 H locs hw hP hD hS => ?_)
  obtain ⟨v3, v4, v5, v6, v7⟩ := u2
  try dsimp only at hP hD hw
  have hP : va_P (dC, dI) vwCl [(a_this, .inr (5, [.ref a_this_text, .int x_this_length, .int v3, .int v4, .int v5, .int x_this_allowed, .ref a_this_plan, .int v6, .int v7])), (a_this_text, .inl (cy 0, 1600, .inl g_this_text))] H := hP
  have hD : va_D A [(a_this, .inr (5, [.ref a_this_text, .int x_this_length, .int v3, .int v4, .int v5, .int x_this_allowed, .ref a_this_plan, .int v6, .int v7])), (a_this_text, .inl (cy 0, 1600, .inl g_this_text))] := hD
  obtain ⟨h8, h9, h10, h11⟩ := hw
  refine lv_aload_n hx hb dX5_numberBehind_5 rfl (lv_at hl 0 rfl) ?_
  refine lv_iload_n hx hb dX5_numberBehind_6 rfl (lv_at hl 2 rfl) ?_
  refine lv_iload_n hx hb dX5_numberBehind_7 rfl (lv_at hl 3 rfl) ?_
  refine k_ji hP hD hS hA [0, 1] [] (wr := []) rfl rfl (by decide) (by decide) (by decide) 0 0 (Nat.le_of_ble_eq_true rfl) (Nat.le_of_ble_eq_true rfl) (fun hPc hDc => k_runV (As := [.int 0, .int 9]) (rest := []) C0 hZ hS hA (s_X5_number_a0_0_a1_9 l dC dI cy sq a_this a_this_text g_this_text x_this_length v3 v4 v5 x_this_allowed a_this_plan v6 v7 hg_this_text (ib_w 0 1600 hx_this_length (by decide)) (ib_w 0 1600 h8 (by decide)) (ib_w 0 1600 h9 (by decide)) (ib_w 0 4 h10 (by decide)) (fun hq9 => ib_w 0 1599 (h11 hq9) (by decide))) mV_X5_168 hPc hDc rfl rfl rfl hl rfl rfl (Nat.le_of_ble_eq_true rfl) ⟨(Nat.le_of_ble_eq_true rfl), (Nat.le_of_ble_eq_true rfl)⟩ ⟨(Nat.le_of_ble_eq_true rfl), (Nat.le_of_ble_eq_true rfl)⟩ dX5_numberBehind_8) (fun r12 u13 H locs hw hP hD hS => ?_)
  obtain ⟨v14, v15, v16, v17, v18⟩ := u13
  try dsimp only at hP hD hw
  have hP : va_P (dC, dI) vwCl [(a_this, .inr (5, [.ref a_this_text, .int x_this_length, .int v14, .int v15, .int v16, .int x_this_allowed, .ref a_this_plan, .int v17, .int v18])), (a_this_text, .inl (cy 0, 1600, .inl g_this_text))] H := hP
  have hD : va_D A [(a_this, .inr (5, [.ref a_this_text, .int x_this_length, .int v14, .int v15, .int v16, .int x_this_allowed, .ref a_this_plan, .int v17, .int v18])), (a_this_text, .inl (cy 0, 1600, .inl g_this_text))] := hD
  obtain ⟨h19, h20, h21, h22, h23⟩ := hw
  subst hQ; exact k_iret hx hb hr hlk rfl ((v14, v15, v16, v17, v18)) hS ⟨ib_w 0 9 h19 (by decide), ib_w 0 1600 h20 (by decide), ib_w 0 1600 h21 (by decide), ib_w 0 4 h22 (by decide), fun hq9 => ib_w 0 1599 (h23 hq9) (by decide)⟩ hP hD (Nat.le_of_ble_eq_true rfl) (Nat.le_of_ble_eq_true rfl) dX5_numberBehind_11
set_option maxHeartbeats 4000000 in
set_option maxRecDepth 100000 in
theorem s_X5_kindStatement (l : Launch) (dC : Nat → ClassId) (dI : Nat → Nat → Nat) (cy : Nat → ClassId) (sq : Nat → Nat) (a_this : Nat) (a_this_text : Nat) (g_this_text : Nat → Int32) (x_this_length : Int32) (x_this_at : Int32) (x_this_behind : Int32) (x_this_sort : Int32) (x_this_allowed : Int32) (a_this_plan : Nat) (x_this_plan_cycle : Int32) (x_this_plan_green : Int32) (x_this_plan_rule : Int32) (x_this_plan_least : Int32) (x_this_plan_away : Int32) (x_this_plan_statements : Int32) (x_this_plan_kinds : Int32) (a_this_plan_calm : Nat) (g_this_plan_calm : Nat → Int32) (a_this_plan_pace : Nat) (g_this_plan_pace : Nat → Int32) (a_this_plan_trusts : Nat) (g_this_plan_trusts : Nat → Int32) (x_this_plan_walkers : Int32) (a_this_plan_kindOf : Nat) (a_this_plan_comesAt : Nat) (a_this_plan_comers : Nat) (a_this_plan_names : Nat) (g_this_plan_names : Nat → Int32) (a_this_plan_code : Nat) (x_this_plan_size : Int32) (a_this_plan_spans : Nat) (x_this_fault : Int32) (x_this_place : Int32) (hg_this_text : ia g_this_text 1600 0 255) (hx_this_length : ib x_this_length 0 1600) (hx_this_behind : ib x_this_behind 0 1600) (hx_this_plan_kinds : ib x_this_plan_kinds 0 6) (hx_this_plan_walkers : ib x_this_plan_walkers 0 12) : k_Met l yX5_kindStatement cX5_kindStatement 2 none { frames := 7, cells := 0, slots := 0, locals := 210 } dC dI cy sq [.ref a_this] [(a_this, .inr (5, [.ref a_this_text, .int x_this_length, .int x_this_at, .int x_this_behind, .int x_this_sort, .int x_this_allowed, .ref a_this_plan, .int x_this_fault, .int x_this_place])), (a_this_plan, .inr (4, [.int x_this_plan_cycle, .int x_this_plan_green, .int x_this_plan_rule, .int x_this_plan_least, .int x_this_plan_away, .int x_this_plan_statements, .int x_this_plan_kinds, .ref a_this_plan_calm, .ref a_this_plan_pace, .ref a_this_plan_trusts, .int x_this_plan_walkers, .ref a_this_plan_kindOf, .ref a_this_plan_comesAt, .ref a_this_plan_comers, .ref a_this_plan_names, .ref a_this_plan_code, .int x_this_plan_size, .ref a_this_plan_spans])), (a_this_text, .inl (cy 0, 1600, .inl g_this_text)), (a_this_plan_names, .inl (cy 0, 108, .inl g_this_plan_names)), (a_this_plan_calm, .inl (cy 0, 6, .inl g_this_plan_calm)), (a_this_plan_pace, .inl (cy 0, 6, .inl g_this_plan_pace)), (a_this_plan_trusts, .inl (cy 0, 6, .inl g_this_plan_trusts))] (k_Qv dC dI (fun (u : Int32 × Int32 × Int32 × Int32 × Int32 × Int32 × (Nat → Int32) × (Nat → Int32) × (Nat → Int32) × (Nat → Int32)) => match u with | (n0, n1, n2, n3, n4, n5, n6, n7, n8, n9) => ib n0 0 1600 ∧ ib n1 0 1600 ∧ ib n2 0 4 ∧ ib n5 1 6 ∧ (¬ n2 = 0 → ib n0 0 1599)) (fun u : Int32 × Int32 × Int32 × Int32 × Int32 × Int32 × (Nat → Int32) × (Nat → Int32) × (Nat → Int32) × (Nat → Int32) => match u with | (n0, n1, n2, n3, n4, n5, n6, n7, n8, n9) => [(a_this, .inr (5, [.ref a_this_text, .int x_this_length, .int n0, .int n1, .int n2, .int x_this_allowed, .ref a_this_plan, .int n3, .int n4])), (a_this_plan, .inr (4, [.int x_this_plan_cycle, .int x_this_plan_green, .int x_this_plan_rule, .int x_this_plan_least, .int x_this_plan_away, .int x_this_plan_statements, .int n5, .ref a_this_plan_calm, .ref a_this_plan_pace, .ref a_this_plan_trusts, .int x_this_plan_walkers, .ref a_this_plan_kindOf, .ref a_this_plan_comesAt, .ref a_this_plan_comers, .ref a_this_plan_names, .ref a_this_plan_code, .int x_this_plan_size, .ref a_this_plan_spans])), (a_this_text, .inl (cy 0, 1600, .inl g_this_text)), (a_this_plan_names, .inl (cy 0, 108, .inl n6)), (a_this_plan_calm, .inl (cy 0, 6, .inl n7)), (a_this_plan_pace, .inl (cy 0, 6, .inl n8)), (a_this_plan_trusts, .inl (cy 0, 6, .inl n9))])) := by
  refine k_ofW2 (by decide +kernel) (Nat.le_of_ble_eq_true rfl) ?_
  intro p e s m below meth c A ls H locs args Q hQ C0 hZ hr hlk hin hP hD hA hS hl
  have C0 : k_cx p s m args c cX5_kindStatement 2 RX5 dC dI cy sq := C0
  have hx := C0.1
  have hb := C0.2.1
  have hl : lv_has ls 2 [(0, .ref a_this)] := hl
  refine lv_aload_n hx hb dX5_kindStatement_0 rfl (lv_at hl 0 rfl) ?_
  refine k_get C0 fg_X5_37 hP 0 rfl rfl dX5_kindStatement_1 ?_
  refine k_get C0 fg_X5_121 hP 1 rfl rfl dX5_kindStatement_4 ?_
  refine lv_istore_n (lv' := [(1, .int x_this_plan_kinds), (0, .ref a_this)]) hx hb dX5_kindStatement_7 rfl hl (by decide) rfl (fun ls hl => ?_)
  refine lv_iload_n hx hb dX5_kindStatement_8 rfl (lv_at hl 0 rfl) ?_
  refine lv_bipush (v := 6) hx hb dX5_kindStatement_9 (by decide) ?_
  refine lv_icmp_lt (tgt := 24) hx hb dX5_kindStatement_11 (by decide) (fun c1 => ?_) (fun c1 => ?_)
  · have h2 := ib_lt hx_this_plan_kinds (ib_c 6 6 6 (by decide)) c1
    have h3 : ib x_this_plan_kinds 0 5 := ib_w 0 5 h2.1 (by decide)
    refine lv_aload_n hx hb dX5_kindStatement_24 rfl (lv_at hl 1 rfl) ?_
    refine lv_aload_n hx hb dX5_kindStatement_25 rfl (lv_at hl 1 rfl) ?_
    refine k_get C0 fg_X5_18 hP 0 rfl rfl dX5_kindStatement_26 ?_
    refine k_jv hP hD hS hA [0, 2] [1, 3, 4, 5, 6] (wr := [(a_this_plan, .inr (4, [.int x_this_plan_cycle, .int x_this_plan_green, .int x_this_plan_rule, .int x_this_plan_least, .int x_this_plan_away, .int x_this_plan_statements, .int x_this_plan_kinds, .ref a_this_plan_calm, .ref a_this_plan_pace, .ref a_this_plan_trusts, .int x_this_plan_walkers, .ref a_this_plan_kindOf, .ref a_this_plan_comesAt, .ref a_this_plan_comers, .ref a_this_plan_names, .ref a_this_plan_code, .int x_this_plan_size, .ref a_this_plan_spans])), (a_this_plan_names, .inl (cy 0, 108, .inl g_this_plan_names)), (a_this_plan_calm, .inl (cy 0, 6, .inl g_this_plan_calm)), (a_this_plan_pace, .inl (cy 0, 6, .inl g_this_plan_pace)), (a_this_plan_trusts, .inl (cy 0, 6, .inl g_this_plan_trusts))]) rfl rfl (by decide) (by decide) (by decide) 0 0 (Nat.le_of_ble_eq_true rfl) (Nat.le_of_ble_eq_true rfl) (fun hPc hDc => k_runV (As := [.int x_this_behind]) (rest := []) C0 hZ hS hA (s_X5_moveTo l dC dI cy sq a_this a_this_text g_this_text x_this_length x_this_at x_this_behind x_this_sort x_this_allowed a_this_plan x_this_fault x_this_place x_this_behind hg_this_text (ib_w 0 1600 hx_this_length (by decide)) (ib_w 0 1600 hx_this_behind (by decide))) mV_X5_86 hPc hDc rfl rfl rfl hl rfl rfl (Nat.le_of_ble_eq_true rfl) ⟨(Nat.le_of_ble_eq_true rfl), (Nat.le_of_ble_eq_true rfl)⟩ ⟨(Nat.le_of_ble_eq_true rfl), (Nat.le_of_ble_eq_true rfl)⟩ dX5_kindStatement_29) (fun u5 H locs hw hP hD hS => ?_)
    obtain ⟨v6, v7, v8⟩ := u5
    try dsimp only at hP hD hw
    have hP : va_P (dC, dI) vwCl [(a_this_plan, .inr (4, [.int x_this_plan_cycle, .int x_this_plan_green, .int x_this_plan_rule, .int x_this_plan_least, .int x_this_plan_away, .int x_this_plan_statements, .int x_this_plan_kinds, .ref a_this_plan_calm, .ref a_this_plan_pace, .ref a_this_plan_trusts, .int x_this_plan_walkers, .ref a_this_plan_kindOf, .ref a_this_plan_comesAt, .ref a_this_plan_comers, .ref a_this_plan_names, .ref a_this_plan_code, .int x_this_plan_size, .ref a_this_plan_spans])), (a_this_plan_names, .inl (cy 0, 108, .inl g_this_plan_names)), (a_this_plan_calm, .inl (cy 0, 6, .inl g_this_plan_calm)), (a_this_plan_pace, .inl (cy 0, 6, .inl g_this_plan_pace)), (a_this_plan_trusts, .inl (cy 0, 6, .inl g_this_plan_trusts)), (a_this, .inr (5, [.ref a_this_text, .int x_this_length, .int v6, .int v7, .int v8, .int x_this_allowed, .ref a_this_plan, .int x_this_fault, .int x_this_place])), (a_this_text, .inl (cy 0, 1600, .inl g_this_text))] H := hP
    have hD : va_D A [(a_this_plan, .inr (4, [.int x_this_plan_cycle, .int x_this_plan_green, .int x_this_plan_rule, .int x_this_plan_least, .int x_this_plan_away, .int x_this_plan_statements, .int x_this_plan_kinds, .ref a_this_plan_calm, .ref a_this_plan_pace, .ref a_this_plan_trusts, .int x_this_plan_walkers, .ref a_this_plan_kindOf, .ref a_this_plan_comesAt, .ref a_this_plan_comers, .ref a_this_plan_names, .ref a_this_plan_code, .int x_this_plan_size, .ref a_this_plan_spans])), (a_this_plan_names, .inl (cy 0, 108, .inl g_this_plan_names)), (a_this_plan_calm, .inl (cy 0, 6, .inl g_this_plan_calm)), (a_this_plan_pace, .inl (cy 0, 6, .inl g_this_plan_pace)), (a_this_plan_trusts, .inl (cy 0, 6, .inl g_this_plan_trusts)), (a_this, .inr (5, [.ref a_this_text, .int x_this_length, .int v6, .int v7, .int v8, .int x_this_allowed, .ref a_this_plan, .int x_this_fault, .int x_this_place])), (a_this_text, .inl (cy 0, 1600, .inl g_this_text))] := hD
    obtain ⟨h9, h10, h11, h12⟩ := hw
    refine lv_aload_n hx hb dX5_kindStatement_32 rfl (lv_at hl 1 rfl) ?_
    refine lv_iload_n hx hb dX5_kindStatement_33 rfl (lv_at hl 0 rfl) ?_
    refine k_jv hP hD hS hA [5, 6, 0, 1] [2, 3, 4] (wr := [(a_this_plan_calm, .inl (cy 0, 6, .inl g_this_plan_calm)), (a_this_plan_pace, .inl (cy 0, 6, .inl g_this_plan_pace)), (a_this_plan_trusts, .inl (cy 0, 6, .inl g_this_plan_trusts))]) rfl rfl (by decide) (by decide) (by decide) 0 0 (Nat.le_of_ble_eq_true rfl) (Nat.le_of_ble_eq_true rfl) (fun hPc hDc => k_runV (As := [.int x_this_plan_kinds]) (rest := []) C0 hZ hS hA (s_X5_newName l dC dI cy sq a_this a_this_text g_this_text x_this_length v6 v7 v8 x_this_allowed a_this_plan x_this_plan_cycle x_this_plan_green x_this_plan_rule x_this_plan_least x_this_plan_away x_this_plan_statements x_this_plan_kinds a_this_plan_calm a_this_plan_pace a_this_plan_trusts x_this_plan_walkers a_this_plan_kindOf a_this_plan_comesAt a_this_plan_comers a_this_plan_names g_this_plan_names a_this_plan_code x_this_plan_size a_this_plan_spans x_this_fault x_this_place x_this_plan_kinds hg_this_text (ib_w 0 1600 hx_this_length (by decide)) (ib_w 0 1600 h9 (by decide)) (ib_w 0 1600 h10 (by decide)) (ib_w 0 4 h11 (by decide)) (ib_w 0 6 h3 (by decide)) (ib_w 0 12 hx_this_plan_walkers (by decide)) (fun hq9 => ib_w 0 1599 (h12 hq9) (by decide)) (ib_w 0 17 h3 (by decide))) mV_X5_124 hPc hDc rfl rfl rfl hl rfl rfl (Nat.le_of_ble_eq_true rfl) ⟨(Nat.le_of_ble_eq_true rfl), (Nat.le_of_ble_eq_true rfl)⟩ ⟨(Nat.le_of_ble_eq_true rfl), (Nat.le_of_ble_eq_true rfl)⟩ dX5_kindStatement_34) (fun u14 H locs hw hP hD hS => ?_)
    obtain ⟨v15, v16, v17, v18, v19, f20⟩ := u14
    try dsimp only at hP hD hw
    have hP : va_P (dC, dI) vwCl [(a_this_plan_calm, .inl (cy 0, 6, .inl g_this_plan_calm)), (a_this_plan_pace, .inl (cy 0, 6, .inl g_this_plan_pace)), (a_this_plan_trusts, .inl (cy 0, 6, .inl g_this_plan_trusts)), (a_this, .inr (5, [.ref a_this_text, .int x_this_length, .int v15, .int v16, .int v17, .int x_this_allowed, .ref a_this_plan, .int v18, .int v19])), (a_this_text, .inl (cy 0, 1600, .inl g_this_text)), (a_this_plan, .inr (4, [.int x_this_plan_cycle, .int x_this_plan_green, .int x_this_plan_rule, .int x_this_plan_least, .int x_this_plan_away, .int x_this_plan_statements, .int x_this_plan_kinds, .ref a_this_plan_calm, .ref a_this_plan_pace, .ref a_this_plan_trusts, .int x_this_plan_walkers, .ref a_this_plan_kindOf, .ref a_this_plan_comesAt, .ref a_this_plan_comers, .ref a_this_plan_names, .ref a_this_plan_code, .int x_this_plan_size, .ref a_this_plan_spans])), (a_this_plan_names, .inl (cy 0, 108, .inl f20))] H := hP
    have hD : va_D A [(a_this_plan_calm, .inl (cy 0, 6, .inl g_this_plan_calm)), (a_this_plan_pace, .inl (cy 0, 6, .inl g_this_plan_pace)), (a_this_plan_trusts, .inl (cy 0, 6, .inl g_this_plan_trusts)), (a_this, .inr (5, [.ref a_this_text, .int x_this_length, .int v15, .int v16, .int v17, .int x_this_allowed, .ref a_this_plan, .int v18, .int v19])), (a_this_text, .inl (cy 0, 1600, .inl g_this_text)), (a_this_plan, .inr (4, [.int x_this_plan_cycle, .int x_this_plan_green, .int x_this_plan_rule, .int x_this_plan_least, .int x_this_plan_away, .int x_this_plan_statements, .int x_this_plan_kinds, .ref a_this_plan_calm, .ref a_this_plan_pace, .ref a_this_plan_trusts, .int x_this_plan_walkers, .ref a_this_plan_kindOf, .ref a_this_plan_comesAt, .ref a_this_plan_comers, .ref a_this_plan_names, .ref a_this_plan_code, .int x_this_plan_size, .ref a_this_plan_spans])), (a_this_plan_names, .inl (cy 0, 108, .inl f20))] := hD
    obtain ⟨h21, h22, h23, h24⟩ := hw
    refine lv_aload_n hx hb dX5_kindStatement_37 rfl (lv_at hl 1 rfl) ?_
    refine k_get C0 fg_X5_37 hP 3 rfl rfl dX5_kindStatement_38 ?_
    refine k_get C0 fg_X5_127 hP 5 rfl rfl dX5_kindStatement_41 ?_
    refine lv_iload_n hx hb dX5_kindStatement_44 rfl (lv_at hl 0 rfl) ?_
    refine lv_aload_n hx hb dX5_kindStatement_45 rfl (lv_at hl 1 rfl) ?_
    refine va_ldcS hx hb C0.2.2.2.1 (C0.2.2.2.2.2.2.2.2.2.2.2.2 7 (by decide)) dX5_kindStatement_46 ?_
    refine lv_iconst (v := 0) hx hb dX5_kindStatement_48 (by decide) ?_
    refine lv_bipush (v := 99) hx hb dX5_kindStatement_49 (by decide) ?_
    refine k_ji hP hD hS hA [3, 4] [0, 1, 2, 5, 6] (wr := [(a_this_plan_calm, .inl (cy 0, 6, .inl g_this_plan_calm)), (a_this_plan_pace, .inl (cy 0, 6, .inl g_this_plan_pace)), (a_this_plan_trusts, .inl (cy 0, 6, .inl g_this_plan_trusts)), (a_this_plan, .inr (4, [.int x_this_plan_cycle, .int x_this_plan_green, .int x_this_plan_rule, .int x_this_plan_least, .int x_this_plan_away, .int x_this_plan_statements, .int x_this_plan_kinds, .ref a_this_plan_calm, .ref a_this_plan_pace, .ref a_this_plan_trusts, .int x_this_plan_walkers, .ref a_this_plan_kindOf, .ref a_this_plan_comesAt, .ref a_this_plan_comers, .ref a_this_plan_names, .ref a_this_plan_code, .int x_this_plan_size, .ref a_this_plan_spans])), (a_this_plan_names, .inl (cy 0, 108, .inl f20))]) rfl rfl (by decide) (by decide) (by decide) 0 0 (Nat.le_of_ble_eq_true rfl) (Nat.le_of_ble_eq_true rfl) (fun hPc hDc => k_runV (As := [.ref (sq 7), .int 0, .int 99]) (rest := [.int x_this_plan_kinds, .ref a_this_plan_calm]) C0 hZ hS hA (s_X5_numberBehind_a1_0_a2_99_s7 l dC dI cy sq a_this a_this_text g_this_text x_this_length v15 v16 v17 x_this_allowed a_this_plan v18 v19 hg_this_text (ib_w 0 1600 hx_this_length (by decide)) (ib_w 0 1600 h21 (by decide)) (ib_w 0 1600 h22 (by decide)) (ib_w 0 4 h23 (by decide)) (fun hq9 => ib_w 0 1599 (h24 hq9) (by decide))) mV_X5_70 hPc hDc rfl rfl rfl hl rfl rfl (Nat.le_of_ble_eq_true rfl) ⟨(Nat.le_of_ble_eq_true rfl), (Nat.le_of_ble_eq_true rfl)⟩ ⟨(Nat.le_of_ble_eq_true rfl), (Nat.le_of_ble_eq_true rfl)⟩ dX5_kindStatement_51) (fun r25 u26 H locs hw hP hD hS => ?_)
    obtain ⟨v27, v28, v29, v30, v31⟩ := u26
    try dsimp only at hP hD hw
    have hP : va_P (dC, dI) vwCl [(a_this_plan_calm, .inl (cy 0, 6, .inl g_this_plan_calm)), (a_this_plan_pace, .inl (cy 0, 6, .inl g_this_plan_pace)), (a_this_plan_trusts, .inl (cy 0, 6, .inl g_this_plan_trusts)), (a_this_plan, .inr (4, [.int x_this_plan_cycle, .int x_this_plan_green, .int x_this_plan_rule, .int x_this_plan_least, .int x_this_plan_away, .int x_this_plan_statements, .int x_this_plan_kinds, .ref a_this_plan_calm, .ref a_this_plan_pace, .ref a_this_plan_trusts, .int x_this_plan_walkers, .ref a_this_plan_kindOf, .ref a_this_plan_comesAt, .ref a_this_plan_comers, .ref a_this_plan_names, .ref a_this_plan_code, .int x_this_plan_size, .ref a_this_plan_spans])), (a_this_plan_names, .inl (cy 0, 108, .inl f20)), (a_this, .inr (5, [.ref a_this_text, .int x_this_length, .int v27, .int v28, .int v29, .int x_this_allowed, .ref a_this_plan, .int v30, .int v31])), (a_this_text, .inl (cy 0, 1600, .inl g_this_text))] H := hP
    have hD : va_D A [(a_this_plan_calm, .inl (cy 0, 6, .inl g_this_plan_calm)), (a_this_plan_pace, .inl (cy 0, 6, .inl g_this_plan_pace)), (a_this_plan_trusts, .inl (cy 0, 6, .inl g_this_plan_trusts)), (a_this_plan, .inr (4, [.int x_this_plan_cycle, .int x_this_plan_green, .int x_this_plan_rule, .int x_this_plan_least, .int x_this_plan_away, .int x_this_plan_statements, .int x_this_plan_kinds, .ref a_this_plan_calm, .ref a_this_plan_pace, .ref a_this_plan_trusts, .int x_this_plan_walkers, .ref a_this_plan_kindOf, .ref a_this_plan_comesAt, .ref a_this_plan_comers, .ref a_this_plan_names, .ref a_this_plan_code, .int x_this_plan_size, .ref a_this_plan_spans])), (a_this_plan_names, .inl (cy 0, 108, .inl f20)), (a_this, .inr (5, [.ref a_this_text, .int x_this_length, .int v27, .int v28, .int v29, .int x_this_allowed, .ref a_this_plan, .int v30, .int v31])), (a_this_text, .inl (cy 0, 1600, .inl g_this_text))] := hD
    obtain ⟨h32, h33, h34, h35, h36⟩ := hw
    refine va_iast hx hb C0.2.2.2.2.2.1 hP hD hS 0 0 rfl rfl (ib_in 6 h3 (by decide)) dX5_kindStatement_54 (fun H locs hP hD hS => ?_)
    have hP : va_P (dC, dI) vwCl [(a_this_plan_calm, .inl (cy 0, 6, .inl (upd g_this_plan_calm (Int32.toNatClampNeg x_this_plan_kinds) r25))), (a_this_plan_pace, .inl (cy 0, 6, .inl g_this_plan_pace)), (a_this_plan_trusts, .inl (cy 0, 6, .inl g_this_plan_trusts)), (a_this_plan, .inr (4, [.int x_this_plan_cycle, .int x_this_plan_green, .int x_this_plan_rule, .int x_this_plan_least, .int x_this_plan_away, .int x_this_plan_statements, .int x_this_plan_kinds, .ref a_this_plan_calm, .ref a_this_plan_pace, .ref a_this_plan_trusts, .int x_this_plan_walkers, .ref a_this_plan_kindOf, .ref a_this_plan_comesAt, .ref a_this_plan_comers, .ref a_this_plan_names, .ref a_this_plan_code, .int x_this_plan_size, .ref a_this_plan_spans])), (a_this_plan_names, .inl (cy 0, 108, .inl f20)), (a_this, .inr (5, [.ref a_this_text, .int x_this_length, .int v27, .int v28, .int v29, .int x_this_allowed, .ref a_this_plan, .int v30, .int v31])), (a_this_text, .inl (cy 0, 1600, .inl g_this_text))] H := hP
    have hD : va_D A [(a_this_plan_calm, .inl (cy 0, 6, .inl (upd g_this_plan_calm (Int32.toNatClampNeg x_this_plan_kinds) r25))), (a_this_plan_pace, .inl (cy 0, 6, .inl g_this_plan_pace)), (a_this_plan_trusts, .inl (cy 0, 6, .inl g_this_plan_trusts)), (a_this_plan, .inr (4, [.int x_this_plan_cycle, .int x_this_plan_green, .int x_this_plan_rule, .int x_this_plan_least, .int x_this_plan_away, .int x_this_plan_statements, .int x_this_plan_kinds, .ref a_this_plan_calm, .ref a_this_plan_pace, .ref a_this_plan_trusts, .int x_this_plan_walkers, .ref a_this_plan_kindOf, .ref a_this_plan_comesAt, .ref a_this_plan_comers, .ref a_this_plan_names, .ref a_this_plan_code, .int x_this_plan_size, .ref a_this_plan_spans])), (a_this_plan_names, .inl (cy 0, 108, .inl f20)), (a_this, .inr (5, [.ref a_this_text, .int x_this_length, .int v27, .int v28, .int v29, .int x_this_allowed, .ref a_this_plan, .int v30, .int v31])), (a_this_text, .inl (cy 0, 1600, .inl g_this_text))] := hD
    generalize upd g_this_plan_calm (Int32.toNatClampNeg x_this_plan_kinds) r25 = f37 at hP hD
    refine lv_aload_n hx hb dX5_kindStatement_55 rfl (lv_at hl 1 rfl) ?_
    refine k_get C0 fg_X5_37 hP 5 rfl rfl dX5_kindStatement_56 ?_
    refine k_get C0 fg_X5_131 hP 3 rfl rfl dX5_kindStatement_59 ?_
    refine lv_iload_n hx hb dX5_kindStatement_62 rfl (lv_at hl 0 rfl) ?_
    refine lv_aload_n hx hb dX5_kindStatement_63 rfl (lv_at hl 1 rfl) ?_
    refine va_ldcS hx hb C0.2.2.2.1 (C0.2.2.2.2.2.2.2.2.2.2.2.2 8 (by decide)) dX5_kindStatement_64 ?_
    refine lv_iconst (v := 1) hx hb dX5_kindStatement_66 (by decide) ?_
    refine lv_bipush (v := 20) hx hb dX5_kindStatement_67 (by decide) ?_
    refine k_ji hP hD hS hA [5, 6] [0, 1, 2, 3, 4] (wr := [(a_this_plan_calm, .inl (cy 0, 6, .inl f37)), (a_this_plan_pace, .inl (cy 0, 6, .inl g_this_plan_pace)), (a_this_plan_trusts, .inl (cy 0, 6, .inl g_this_plan_trusts)), (a_this_plan, .inr (4, [.int x_this_plan_cycle, .int x_this_plan_green, .int x_this_plan_rule, .int x_this_plan_least, .int x_this_plan_away, .int x_this_plan_statements, .int x_this_plan_kinds, .ref a_this_plan_calm, .ref a_this_plan_pace, .ref a_this_plan_trusts, .int x_this_plan_walkers, .ref a_this_plan_kindOf, .ref a_this_plan_comesAt, .ref a_this_plan_comers, .ref a_this_plan_names, .ref a_this_plan_code, .int x_this_plan_size, .ref a_this_plan_spans])), (a_this_plan_names, .inl (cy 0, 108, .inl f20))]) rfl rfl (by decide) (by decide) (by decide) 0 0 (Nat.le_of_ble_eq_true rfl) (Nat.le_of_ble_eq_true rfl) (fun hPc hDc => k_runV (As := [.ref (sq 8), .int 1, .int 20]) (rest := [.int x_this_plan_kinds, .ref a_this_plan_pace]) C0 hZ hS hA (s_X5_numberBehind_a1_1_a2_20_s8 l dC dI cy sq a_this a_this_text g_this_text x_this_length v27 v28 v29 x_this_allowed a_this_plan v30 v31 hg_this_text (ib_w 0 1600 hx_this_length (by decide)) (ib_w 0 1600 h33 (by decide)) (ib_w 0 1600 h34 (by decide)) (ib_w 0 4 h35 (by decide)) (fun hq9 => ib_w 0 1599 (h36 hq9) (by decide))) mV_X5_70 hPc hDc rfl rfl rfl hl rfl rfl (Nat.le_of_ble_eq_true rfl) ⟨(Nat.le_of_ble_eq_true rfl), (Nat.le_of_ble_eq_true rfl)⟩ ⟨(Nat.le_of_ble_eq_true rfl), (Nat.le_of_ble_eq_true rfl)⟩ dX5_kindStatement_69) (fun r38 u39 H locs hw hP hD hS => ?_)
    obtain ⟨v40, v41, v42, v43, v44⟩ := u39
    try dsimp only at hP hD hw
    have hP : va_P (dC, dI) vwCl [(a_this_plan_calm, .inl (cy 0, 6, .inl f37)), (a_this_plan_pace, .inl (cy 0, 6, .inl g_this_plan_pace)), (a_this_plan_trusts, .inl (cy 0, 6, .inl g_this_plan_trusts)), (a_this_plan, .inr (4, [.int x_this_plan_cycle, .int x_this_plan_green, .int x_this_plan_rule, .int x_this_plan_least, .int x_this_plan_away, .int x_this_plan_statements, .int x_this_plan_kinds, .ref a_this_plan_calm, .ref a_this_plan_pace, .ref a_this_plan_trusts, .int x_this_plan_walkers, .ref a_this_plan_kindOf, .ref a_this_plan_comesAt, .ref a_this_plan_comers, .ref a_this_plan_names, .ref a_this_plan_code, .int x_this_plan_size, .ref a_this_plan_spans])), (a_this_plan_names, .inl (cy 0, 108, .inl f20)), (a_this, .inr (5, [.ref a_this_text, .int x_this_length, .int v40, .int v41, .int v42, .int x_this_allowed, .ref a_this_plan, .int v43, .int v44])), (a_this_text, .inl (cy 0, 1600, .inl g_this_text))] H := hP
    have hD : va_D A [(a_this_plan_calm, .inl (cy 0, 6, .inl f37)), (a_this_plan_pace, .inl (cy 0, 6, .inl g_this_plan_pace)), (a_this_plan_trusts, .inl (cy 0, 6, .inl g_this_plan_trusts)), (a_this_plan, .inr (4, [.int x_this_plan_cycle, .int x_this_plan_green, .int x_this_plan_rule, .int x_this_plan_least, .int x_this_plan_away, .int x_this_plan_statements, .int x_this_plan_kinds, .ref a_this_plan_calm, .ref a_this_plan_pace, .ref a_this_plan_trusts, .int x_this_plan_walkers, .ref a_this_plan_kindOf, .ref a_this_plan_comesAt, .ref a_this_plan_comers, .ref a_this_plan_names, .ref a_this_plan_code, .int x_this_plan_size, .ref a_this_plan_spans])), (a_this_plan_names, .inl (cy 0, 108, .inl f20)), (a_this, .inr (5, [.ref a_this_text, .int x_this_length, .int v40, .int v41, .int v42, .int x_this_allowed, .ref a_this_plan, .int v43, .int v44])), (a_this_text, .inl (cy 0, 1600, .inl g_this_text))] := hD
    obtain ⟨h45, h46, h47, h48, h49⟩ := hw
    refine va_iast hx hb C0.2.2.2.2.2.1 hP hD hS 1 0 rfl rfl (ib_in 6 h3 (by decide)) dX5_kindStatement_72 (fun H locs hP hD hS => ?_)
    have hP : va_P (dC, dI) vwCl [(a_this_plan_calm, .inl (cy 0, 6, .inl f37)), (a_this_plan_pace, .inl (cy 0, 6, .inl (upd g_this_plan_pace (Int32.toNatClampNeg x_this_plan_kinds) r38))), (a_this_plan_trusts, .inl (cy 0, 6, .inl g_this_plan_trusts)), (a_this_plan, .inr (4, [.int x_this_plan_cycle, .int x_this_plan_green, .int x_this_plan_rule, .int x_this_plan_least, .int x_this_plan_away, .int x_this_plan_statements, .int x_this_plan_kinds, .ref a_this_plan_calm, .ref a_this_plan_pace, .ref a_this_plan_trusts, .int x_this_plan_walkers, .ref a_this_plan_kindOf, .ref a_this_plan_comesAt, .ref a_this_plan_comers, .ref a_this_plan_names, .ref a_this_plan_code, .int x_this_plan_size, .ref a_this_plan_spans])), (a_this_plan_names, .inl (cy 0, 108, .inl f20)), (a_this, .inr (5, [.ref a_this_text, .int x_this_length, .int v40, .int v41, .int v42, .int x_this_allowed, .ref a_this_plan, .int v43, .int v44])), (a_this_text, .inl (cy 0, 1600, .inl g_this_text))] H := hP
    have hD : va_D A [(a_this_plan_calm, .inl (cy 0, 6, .inl f37)), (a_this_plan_pace, .inl (cy 0, 6, .inl (upd g_this_plan_pace (Int32.toNatClampNeg x_this_plan_kinds) r38))), (a_this_plan_trusts, .inl (cy 0, 6, .inl g_this_plan_trusts)), (a_this_plan, .inr (4, [.int x_this_plan_cycle, .int x_this_plan_green, .int x_this_plan_rule, .int x_this_plan_least, .int x_this_plan_away, .int x_this_plan_statements, .int x_this_plan_kinds, .ref a_this_plan_calm, .ref a_this_plan_pace, .ref a_this_plan_trusts, .int x_this_plan_walkers, .ref a_this_plan_kindOf, .ref a_this_plan_comesAt, .ref a_this_plan_comers, .ref a_this_plan_names, .ref a_this_plan_code, .int x_this_plan_size, .ref a_this_plan_spans])), (a_this_plan_names, .inl (cy 0, 108, .inl f20)), (a_this, .inr (5, [.ref a_this_text, .int x_this_length, .int v40, .int v41, .int v42, .int x_this_allowed, .ref a_this_plan, .int v43, .int v44])), (a_this_text, .inl (cy 0, 1600, .inl g_this_text))] := hD
    generalize upd g_this_plan_pace (Int32.toNatClampNeg x_this_plan_kinds) r38 = f50 at hP hD
    refine lv_aload_n hx hb dX5_kindStatement_73 rfl (lv_at hl 1 rfl) ?_
    refine k_get C0 fg_X5_37 hP 5 rfl rfl dX5_kindStatement_74 ?_
    refine k_get C0 fg_X5_135 hP 3 rfl rfl dX5_kindStatement_77 ?_
    refine lv_iload_n hx hb dX5_kindStatement_80 rfl (lv_at hl 0 rfl) ?_
    refine lv_aload_n hx hb dX5_kindStatement_81 rfl (lv_at hl 1 rfl) ?_
    refine va_ldcS hx hb C0.2.2.2.1 (C0.2.2.2.2.2.2.2.2.2.2.2.2 9 (by decide)) dX5_kindStatement_82 ?_
    refine lv_iconst (v := 0) hx hb dX5_kindStatement_84 (by decide) ?_
    refine lv_bipush (v := 9) hx hb dX5_kindStatement_85 (by decide) ?_
    refine k_ji hP hD hS hA [5, 6] [0, 1, 2, 3, 4] (wr := [(a_this_plan_calm, .inl (cy 0, 6, .inl f37)), (a_this_plan_pace, .inl (cy 0, 6, .inl f50)), (a_this_plan_trusts, .inl (cy 0, 6, .inl g_this_plan_trusts)), (a_this_plan, .inr (4, [.int x_this_plan_cycle, .int x_this_plan_green, .int x_this_plan_rule, .int x_this_plan_least, .int x_this_plan_away, .int x_this_plan_statements, .int x_this_plan_kinds, .ref a_this_plan_calm, .ref a_this_plan_pace, .ref a_this_plan_trusts, .int x_this_plan_walkers, .ref a_this_plan_kindOf, .ref a_this_plan_comesAt, .ref a_this_plan_comers, .ref a_this_plan_names, .ref a_this_plan_code, .int x_this_plan_size, .ref a_this_plan_spans])), (a_this_plan_names, .inl (cy 0, 108, .inl f20))]) rfl rfl (by decide) (by decide) (by decide) 0 0 (Nat.le_of_ble_eq_true rfl) (Nat.le_of_ble_eq_true rfl) (fun hPc hDc => k_runV (As := [.ref (sq 9), .int 0, .int 9]) (rest := [.int x_this_plan_kinds, .ref a_this_plan_trusts]) C0 hZ hS hA (s_X5_numberBehind_a1_0_a2_9_s9 l dC dI cy sq a_this a_this_text g_this_text x_this_length v40 v41 v42 x_this_allowed a_this_plan v43 v44 hg_this_text (ib_w 0 1600 hx_this_length (by decide)) (ib_w 0 1600 h46 (by decide)) (ib_w 0 1600 h47 (by decide)) (ib_w 0 4 h48 (by decide)) (fun hq9 => ib_w 0 1599 (h49 hq9) (by decide))) mV_X5_70 hPc hDc rfl rfl rfl hl rfl rfl (Nat.le_of_ble_eq_true rfl) ⟨(Nat.le_of_ble_eq_true rfl), (Nat.le_of_ble_eq_true rfl)⟩ ⟨(Nat.le_of_ble_eq_true rfl), (Nat.le_of_ble_eq_true rfl)⟩ dX5_kindStatement_87) (fun r51 u52 H locs hw hP hD hS => ?_)
    obtain ⟨v53, v54, v55, v56, v57⟩ := u52
    try dsimp only at hP hD hw
    have hP : va_P (dC, dI) vwCl [(a_this_plan_calm, .inl (cy 0, 6, .inl f37)), (a_this_plan_pace, .inl (cy 0, 6, .inl f50)), (a_this_plan_trusts, .inl (cy 0, 6, .inl g_this_plan_trusts)), (a_this_plan, .inr (4, [.int x_this_plan_cycle, .int x_this_plan_green, .int x_this_plan_rule, .int x_this_plan_least, .int x_this_plan_away, .int x_this_plan_statements, .int x_this_plan_kinds, .ref a_this_plan_calm, .ref a_this_plan_pace, .ref a_this_plan_trusts, .int x_this_plan_walkers, .ref a_this_plan_kindOf, .ref a_this_plan_comesAt, .ref a_this_plan_comers, .ref a_this_plan_names, .ref a_this_plan_code, .int x_this_plan_size, .ref a_this_plan_spans])), (a_this_plan_names, .inl (cy 0, 108, .inl f20)), (a_this, .inr (5, [.ref a_this_text, .int x_this_length, .int v53, .int v54, .int v55, .int x_this_allowed, .ref a_this_plan, .int v56, .int v57])), (a_this_text, .inl (cy 0, 1600, .inl g_this_text))] H := hP
    have hD : va_D A [(a_this_plan_calm, .inl (cy 0, 6, .inl f37)), (a_this_plan_pace, .inl (cy 0, 6, .inl f50)), (a_this_plan_trusts, .inl (cy 0, 6, .inl g_this_plan_trusts)), (a_this_plan, .inr (4, [.int x_this_plan_cycle, .int x_this_plan_green, .int x_this_plan_rule, .int x_this_plan_least, .int x_this_plan_away, .int x_this_plan_statements, .int x_this_plan_kinds, .ref a_this_plan_calm, .ref a_this_plan_pace, .ref a_this_plan_trusts, .int x_this_plan_walkers, .ref a_this_plan_kindOf, .ref a_this_plan_comesAt, .ref a_this_plan_comers, .ref a_this_plan_names, .ref a_this_plan_code, .int x_this_plan_size, .ref a_this_plan_spans])), (a_this_plan_names, .inl (cy 0, 108, .inl f20)), (a_this, .inr (5, [.ref a_this_text, .int x_this_length, .int v53, .int v54, .int v55, .int x_this_allowed, .ref a_this_plan, .int v56, .int v57])), (a_this_text, .inl (cy 0, 1600, .inl g_this_text))] := hD
    obtain ⟨h58, h59, h60, h61, h62⟩ := hw
    refine va_iast hx hb C0.2.2.2.2.2.1 hP hD hS 2 0 rfl rfl (ib_in 6 h3 (by decide)) dX5_kindStatement_90 (fun H locs hP hD hS => ?_)
    have hP : va_P (dC, dI) vwCl [(a_this_plan_calm, .inl (cy 0, 6, .inl f37)), (a_this_plan_pace, .inl (cy 0, 6, .inl f50)), (a_this_plan_trusts, .inl (cy 0, 6, .inl (upd g_this_plan_trusts (Int32.toNatClampNeg x_this_plan_kinds) r51))), (a_this_plan, .inr (4, [.int x_this_plan_cycle, .int x_this_plan_green, .int x_this_plan_rule, .int x_this_plan_least, .int x_this_plan_away, .int x_this_plan_statements, .int x_this_plan_kinds, .ref a_this_plan_calm, .ref a_this_plan_pace, .ref a_this_plan_trusts, .int x_this_plan_walkers, .ref a_this_plan_kindOf, .ref a_this_plan_comesAt, .ref a_this_plan_comers, .ref a_this_plan_names, .ref a_this_plan_code, .int x_this_plan_size, .ref a_this_plan_spans])), (a_this_plan_names, .inl (cy 0, 108, .inl f20)), (a_this, .inr (5, [.ref a_this_text, .int x_this_length, .int v53, .int v54, .int v55, .int x_this_allowed, .ref a_this_plan, .int v56, .int v57])), (a_this_text, .inl (cy 0, 1600, .inl g_this_text))] H := hP
    have hD : va_D A [(a_this_plan_calm, .inl (cy 0, 6, .inl f37)), (a_this_plan_pace, .inl (cy 0, 6, .inl f50)), (a_this_plan_trusts, .inl (cy 0, 6, .inl (upd g_this_plan_trusts (Int32.toNatClampNeg x_this_plan_kinds) r51))), (a_this_plan, .inr (4, [.int x_this_plan_cycle, .int x_this_plan_green, .int x_this_plan_rule, .int x_this_plan_least, .int x_this_plan_away, .int x_this_plan_statements, .int x_this_plan_kinds, .ref a_this_plan_calm, .ref a_this_plan_pace, .ref a_this_plan_trusts, .int x_this_plan_walkers, .ref a_this_plan_kindOf, .ref a_this_plan_comesAt, .ref a_this_plan_comers, .ref a_this_plan_names, .ref a_this_plan_code, .int x_this_plan_size, .ref a_this_plan_spans])), (a_this_plan_names, .inl (cy 0, 108, .inl f20)), (a_this, .inr (5, [.ref a_this_text, .int x_this_length, .int v53, .int v54, .int v55, .int x_this_allowed, .ref a_this_plan, .int v56, .int v57])), (a_this_text, .inl (cy 0, 1600, .inl g_this_text))] := hD
    generalize upd g_this_plan_trusts (Int32.toNatClampNeg x_this_plan_kinds) r51 = f63 at hP hD
    refine lv_aload_n hx hb dX5_kindStatement_91 rfl (lv_at hl 1 rfl) ?_
    refine k_get C0 fg_X5_37 hP 5 rfl rfl dX5_kindStatement_92 ?_
    refine lv_dup hx hb dX5_kindStatement_95 rfl ?_
    refine k_get C0 fg_X5_121 hP 3 rfl rfl dX5_kindStatement_96 ?_
    refine lv_iconst (v := 1) hx hb dX5_kindStatement_99 (by decide) ?_
    refine lv_iadd hx hb dX5_kindStatement_100 ?_
    refine lv_topi (fun z64 ez64 => ?_)
    have h65 := ib_add h3 (ib_c 1 1 1 (by decide)) (by decide)
    rw [← ez64] at h65
    have h66 : ib z64 1 6 := ib_w 1 6 h65.1 (by decide)
    refine k_put C0 fp_X5_121 hP hD hS 3 rfl rfl rfl (Nat.le_of_ble_eq_true rfl) dX5_kindStatement_101 (fun H locs hP hD hS => ?_)
    have hP : va_P (dC, dI) vwCl [(a_this_plan_calm, .inl (cy 0, 6, .inl f37)), (a_this_plan_pace, .inl (cy 0, 6, .inl f50)), (a_this_plan_trusts, .inl (cy 0, 6, .inl f63)), (a_this_plan, .inr (4, [.int x_this_plan_cycle, .int x_this_plan_green, .int x_this_plan_rule, .int x_this_plan_least, .int x_this_plan_away, .int x_this_plan_statements, .int z64, .ref a_this_plan_calm, .ref a_this_plan_pace, .ref a_this_plan_trusts, .int x_this_plan_walkers, .ref a_this_plan_kindOf, .ref a_this_plan_comesAt, .ref a_this_plan_comers, .ref a_this_plan_names, .ref a_this_plan_code, .int x_this_plan_size, .ref a_this_plan_spans])), (a_this_plan_names, .inl (cy 0, 108, .inl f20)), (a_this, .inr (5, [.ref a_this_text, .int x_this_length, .int v53, .int v54, .int v55, .int x_this_allowed, .ref a_this_plan, .int v56, .int v57])), (a_this_text, .inl (cy 0, 1600, .inl g_this_text))] H := hP
    have hD : va_D A [(a_this_plan_calm, .inl (cy 0, 6, .inl f37)), (a_this_plan_pace, .inl (cy 0, 6, .inl f50)), (a_this_plan_trusts, .inl (cy 0, 6, .inl f63)), (a_this_plan, .inr (4, [.int x_this_plan_cycle, .int x_this_plan_green, .int x_this_plan_rule, .int x_this_plan_least, .int x_this_plan_away, .int x_this_plan_statements, .int z64, .ref a_this_plan_calm, .ref a_this_plan_pace, .ref a_this_plan_trusts, .int x_this_plan_walkers, .ref a_this_plan_kindOf, .ref a_this_plan_comesAt, .ref a_this_plan_comers, .ref a_this_plan_names, .ref a_this_plan_code, .int x_this_plan_size, .ref a_this_plan_spans])), (a_this_plan_names, .inl (cy 0, 108, .inl f20)), (a_this, .inr (5, [.ref a_this_text, .int x_this_length, .int v53, .int v54, .int v55, .int x_this_allowed, .ref a_this_plan, .int v56, .int v57])), (a_this_text, .inl (cy 0, 1600, .inl g_this_text))] := hD
    subst hQ; exact k_vret hx hb hr hlk ((v53, v54, v55, v56, v57, z64, f20, f37, f50, f63)) hS ⟨ib_w 0 1600 h59 (by decide), ib_w 0 1600 h60 (by decide), ib_w 0 4 h61 (by decide), ib_w 1 6 h66 (by decide), fun hq9 => ib_w 0 1599 (h62 hq9) (by decide)⟩ (hP.sub [5, 3, 6, 4, 0, 1, 2] rfl) (hD.sub [5, 3, 6, 4, 0, 1, 2] (by decide) rfl) (Nat.le_of_ble_eq_true rfl) (Nat.le_of_ble_eq_true rfl) dX5_kindStatement_104
  · have h67 := ib_nlt hx_this_plan_kinds (ib_c 6 6 6 (by decide)) c1
    have h68 : ib x_this_plan_kinds 6 6 := ib_w 6 6 h67.1 (by decide)
    refine lv_aload_n hx hb dX5_kindStatement_14 rfl (lv_at hl 1 rfl) ?_
    refine lv_iconst (v := 5) hx hb dX5_kindStatement_15 (by decide) ?_
    refine lv_aload_n hx hb dX5_kindStatement_16 rfl (lv_at hl 1 rfl) ?_
    refine k_get C0 fg_X5_15 hP 0 rfl rfl dX5_kindStatement_17 ?_
    refine k_jv hP hD hS hA [0] [1, 2, 3, 4, 5, 6] (wr := [(a_this_plan, .inr (4, [.int x_this_plan_cycle, .int x_this_plan_green, .int x_this_plan_rule, .int x_this_plan_least, .int x_this_plan_away, .int x_this_plan_statements, .int x_this_plan_kinds, .ref a_this_plan_calm, .ref a_this_plan_pace, .ref a_this_plan_trusts, .int x_this_plan_walkers, .ref a_this_plan_kindOf, .ref a_this_plan_comesAt, .ref a_this_plan_comers, .ref a_this_plan_names, .ref a_this_plan_code, .int x_this_plan_size, .ref a_this_plan_spans])), (a_this_text, .inl (cy 0, 1600, .inl g_this_text)), (a_this_plan_names, .inl (cy 0, 108, .inl g_this_plan_names)), (a_this_plan_calm, .inl (cy 0, 6, .inl g_this_plan_calm)), (a_this_plan_pace, .inl (cy 0, 6, .inl g_this_plan_pace)), (a_this_plan_trusts, .inl (cy 0, 6, .inl g_this_plan_trusts))]) rfl rfl (by decide) (by decide) (by decide) 0 0 (Nat.le_of_ble_eq_true rfl) (Nat.le_of_ble_eq_true rfl) (fun hPc hDc => k_runV (As := [.int 5, .int x_this_at]) (rest := []) C0 hZ hS hA (s_X5_fail l dC dI cy sq a_this a_this_text x_this_length x_this_at x_this_behind x_this_sort x_this_allowed a_this_plan x_this_fault x_this_place 5 x_this_at ) mV_X5_78 hPc hDc rfl rfl rfl hl rfl rfl (Nat.le_of_ble_eq_true rfl) ⟨(Nat.le_of_ble_eq_true rfl), (Nat.le_of_ble_eq_true rfl)⟩ ⟨(Nat.le_of_ble_eq_true rfl), (Nat.le_of_ble_eq_true rfl)⟩ dX5_kindStatement_20) (fun u70 H locs hw hP hD hS => ?_)
    obtain ⟨v71, v72⟩ := u70
    try dsimp only at hP hD hw
    have hP : va_P (dC, dI) vwCl [(a_this_plan, .inr (4, [.int x_this_plan_cycle, .int x_this_plan_green, .int x_this_plan_rule, .int x_this_plan_least, .int x_this_plan_away, .int x_this_plan_statements, .int x_this_plan_kinds, .ref a_this_plan_calm, .ref a_this_plan_pace, .ref a_this_plan_trusts, .int x_this_plan_walkers, .ref a_this_plan_kindOf, .ref a_this_plan_comesAt, .ref a_this_plan_comers, .ref a_this_plan_names, .ref a_this_plan_code, .int x_this_plan_size, .ref a_this_plan_spans])), (a_this_text, .inl (cy 0, 1600, .inl g_this_text)), (a_this_plan_names, .inl (cy 0, 108, .inl g_this_plan_names)), (a_this_plan_calm, .inl (cy 0, 6, .inl g_this_plan_calm)), (a_this_plan_pace, .inl (cy 0, 6, .inl g_this_plan_pace)), (a_this_plan_trusts, .inl (cy 0, 6, .inl g_this_plan_trusts)), (a_this, .inr (5, [.ref a_this_text, .int x_this_length, .int x_this_length, .int x_this_length, .int 0, .int x_this_allowed, .ref a_this_plan, .int v71, .int v72]))] H := hP
    have hD : va_D A [(a_this_plan, .inr (4, [.int x_this_plan_cycle, .int x_this_plan_green, .int x_this_plan_rule, .int x_this_plan_least, .int x_this_plan_away, .int x_this_plan_statements, .int x_this_plan_kinds, .ref a_this_plan_calm, .ref a_this_plan_pace, .ref a_this_plan_trusts, .int x_this_plan_walkers, .ref a_this_plan_kindOf, .ref a_this_plan_comesAt, .ref a_this_plan_comers, .ref a_this_plan_names, .ref a_this_plan_code, .int x_this_plan_size, .ref a_this_plan_spans])), (a_this_text, .inl (cy 0, 1600, .inl g_this_text)), (a_this_plan_names, .inl (cy 0, 108, .inl g_this_plan_names)), (a_this_plan_calm, .inl (cy 0, 6, .inl g_this_plan_calm)), (a_this_plan_pace, .inl (cy 0, 6, .inl g_this_plan_pace)), (a_this_plan_trusts, .inl (cy 0, 6, .inl g_this_plan_trusts)), (a_this, .inr (5, [.ref a_this_text, .int x_this_length, .int x_this_length, .int x_this_length, .int 0, .int x_this_allowed, .ref a_this_plan, .int v71, .int v72]))] := hD
    subst hQ; exact k_vret hx hb hr hlk ((x_this_length, x_this_length, 0, v71, v72, x_this_plan_kinds, g_this_plan_names, g_this_plan_calm, g_this_plan_pace, g_this_plan_trusts)) hS ⟨ib_w 0 1600 hx_this_length (by decide), ib_w 0 1600 hx_this_length (by decide), ib_w 0 4 (ib_c 0 0 0 (by decide)) (by decide), ib_w 1 6 h68 (by decide), fun hq9 => absurd rfl hq9⟩ (hP.sub [6, 0, 1, 2, 3, 4, 5] rfl) (hD.sub [6, 0, 1, 2, 3, 4, 5] (by decide) rfl) (Nat.le_of_ble_eq_true rfl) (Nat.le_of_ble_eq_true rfl) dX5_kindStatement_23
set_option maxHeartbeats 4000000 in
set_option maxRecDepth 100000 in
theorem s_X5_number (l : Launch) (dC : Nat → ClassId) (dI : Nat → Nat → Nat) (cy : Nat → ClassId) (sq : Nat → Nat) (a_this : Nat) (a_this_text : Nat) (g_this_text : Nat → Int32) (x_this_length : Int32) (x_this_at : Int32) (x_this_behind : Int32) (x_this_sort : Int32) (x_this_allowed : Int32) (a_this_plan : Nat) (x_this_fault : Int32) (x_this_place : Int32) (p0 : Int32) (p1 : Int32) (hg_this_text : ia g_this_text 1600 0 255) (hx_this_length : ib x_this_length 0 1600) (hx_this_at : ib x_this_at 0 1600) (hx_this_behind : ib x_this_behind 0 1600) (hx_this_sort : ib x_this_sort 0 4) (hc0_this : ¬ x_this_sort = 0 → ib x_this_at 0 1599) : k_Met l yX5_number cX5_number 5 (some .int) { frames := 2, cells := 0, slots := 0, locals := 43 } dC dI cy sq [.ref a_this, .int p0, .int p1] [(a_this, .inr (5, [.ref a_this_text, .int x_this_length, .int x_this_at, .int x_this_behind, .int x_this_sort, .int x_this_allowed, .ref a_this_plan, .int x_this_fault, .int x_this_place])), (a_this_text, .inl (cy 0, 1600, .inl g_this_text))] (k_Qi dC dI (fun (r : Int32) (u : Int32 × Int32 × Int32 × Int32 × Int32) => match u with | (n0, n1, n2, n3, n4) => ib n0 0 1600 ∧ ib n1 0 1600 ∧ ib n2 0 4 ∧ (¬ n2 = 0 → ib n0 0 1599)) (fun u : Int32 × Int32 × Int32 × Int32 × Int32 => match u with | (n0, n1, n2, n3, n4) => [(a_this, .inr (5, [.ref a_this_text, .int x_this_length, .int n0, .int n1, .int n2, .int x_this_allowed, .ref a_this_plan, .int n3, .int n4])), (a_this_text, .inl (cy 0, 1600, .inl g_this_text))])) := by
  refine k_ofW2 (by decide +kernel) (Nat.le_of_ble_eq_true rfl) ?_
  intro p e s m below meth c A ls H locs args Q hQ C0 hZ hr hlk hin hP hD hA hS hl
  have C0 : k_cx p s m args c cX5_number 5 RX5 dC dI cy sq := C0
  have hx := C0.1
  have hb := C0.2.1
  have hl : lv_has ls 5 [(0, .ref a_this), (1, .int p0), (2, .int p1)] := hl
  have jn94 : ∀ (J94_l3 : Int32) (J94_l4 : Int32) (H : Heap) (locs : List Loc) (ls : Array Slot), ib x_this_at 0 1599 → ib x_this_sort 2 2 → ib J94_l4 0 1600 → va_P (dC, dI) vwCl [(a_this, .inr (5, [.ref a_this_text, .int x_this_length, .int x_this_at, .int x_this_behind, .int x_this_sort, .int x_this_allowed, .ref a_this_plan, .int x_this_fault, .int x_this_place])), (a_this_text, .inl (cy 0, 1600, .inl g_this_text))] H → va_D A [(a_this, .inr (5, [.ref a_this_text, .int x_this_length, .int x_this_at, .int x_this_behind, .int x_this_sort, .int x_this_allowed, .ref a_this_plan, .int x_this_fault, .int x_this_place])), (a_this_text, .inl (cy 0, 1600, .inl g_this_text))] → va_S A s.heap H locs → lv_has ls 5 [(0, .ref a_this), (1, .int p0), (2, .int p1), (3, .int J94_l3), (4, .int J94_l4)] → W p l e { frames := 2, cells := 0, slots := 0, locals := 43 } s m args below meth c H locs 0 0 Q (F0 m 94 ls []) := by
    intro J94_l3 J94_l4 H locs ls hK94_x_this_at hK94_x_this_sort hJ94_l4 hP hD hS hl
    refine lv_aload_n hx hb dX5_number_94 rfl (lv_at hl 0 rfl) ?_
    refine lv_iconst (v := 2) hx hb dX5_number_95 (by decide) ?_
    refine lv_aload_n hx hb dX5_number_96 rfl (lv_at hl 0 rfl) ?_
    refine k_get C0 fg_X5_15 hP 0 rfl rfl dX5_number_97 ?_
    refine k_jv hP hD hS hA [0] [1] (wr := [(a_this_text, .inl (cy 0, 1600, .inl g_this_text))]) rfl rfl (by decide) (by decide) (by decide) 0 0 (Nat.le_of_ble_eq_true rfl) (Nat.le_of_ble_eq_true rfl) (fun hPc hDc => k_runV (As := [.int 2, .int x_this_at]) (rest := []) C0 hZ hS hA (s_X5_fail l dC dI cy sq a_this a_this_text x_this_length x_this_at x_this_behind x_this_sort x_this_allowed a_this_plan x_this_fault x_this_place 2 x_this_at ) mV_X5_78 hPc hDc rfl rfl rfl hl rfl rfl (Nat.le_of_ble_eq_true rfl) ⟨(Nat.le_of_ble_eq_true rfl), (Nat.le_of_ble_eq_true rfl)⟩ ⟨(Nat.le_of_ble_eq_true rfl), (Nat.le_of_ble_eq_true rfl)⟩ dX5_number_100) (fun u2 H locs hw hP hD hS => ?_)
    obtain ⟨v3, v4⟩ := u2
    try dsimp only at hP hD hw
    have hP : va_P (dC, dI) vwCl [(a_this_text, .inl (cy 0, 1600, .inl g_this_text)), (a_this, .inr (5, [.ref a_this_text, .int x_this_length, .int x_this_length, .int x_this_length, .int 0, .int x_this_allowed, .ref a_this_plan, .int v3, .int v4]))] H := hP
    have hD : va_D A [(a_this_text, .inl (cy 0, 1600, .inl g_this_text)), (a_this, .inr (5, [.ref a_this_text, .int x_this_length, .int x_this_length, .int x_this_length, .int 0, .int x_this_allowed, .ref a_this_plan, .int v3, .int v4]))] := hD
    refine lv_iload_n hx hb dX5_number_103 rfl (lv_at hl 1 rfl) ?_
    subst hQ; exact k_iret hx hb hr hlk rfl ((x_this_length, x_this_length, 0, v3, v4)) hS ⟨ib_w 0 1600 hx_this_length (by decide), ib_w 0 1600 hx_this_length (by decide), ib_w 0 4 (ib_c 0 0 0 (by decide)) (by decide), fun hq9 => absurd rfl hq9⟩ (hP.sub [1, 0] rfl) (hD.sub [1, 0] (by decide) rfl) (Nat.le_of_ble_eq_true rfl) (Nat.le_of_ble_eq_true rfl) dX5_number_104
  have jn53 : ∀ (n : Nat) (J53_l3 : Int32) (J53_l4 : Int32) (H : Heap) (locs : List Loc) (ls : Array Slot), ib x_this_at 0 1599 → ib x_this_sort 2 2 → ib J53_l4 0 1600 → 1601 ≤ J53_l4.toInt + (n : Int) → va_P (dC, dI) vwCl [(a_this, .inr (5, [.ref a_this_text, .int x_this_length, .int x_this_at, .int x_this_behind, .int x_this_sort, .int x_this_allowed, .ref a_this_plan, .int x_this_fault, .int x_this_place])), (a_this_text, .inl (cy 0, 1600, .inl g_this_text))] H → va_D A [(a_this, .inr (5, [.ref a_this_text, .int x_this_length, .int x_this_at, .int x_this_behind, .int x_this_sort, .int x_this_allowed, .ref a_this_plan, .int x_this_fault, .int x_this_place])), (a_this_text, .inl (cy 0, 1600, .inl g_this_text))] → va_S A s.heap H locs → lv_has ls 5 [(0, .ref a_this), (1, .int p0), (2, .int p1), (3, .int J53_l3), (4, .int J53_l4)] → W p l e { frames := 2, cells := 0, slots := 0, locals := 43 } s m args below meth c H locs 0 0 Q (F0 m 53 ls []) := by
    intro n
    induction n with
    | zero =>
      intro J53_l3 J53_l4 H locs ls hK53_x_this_at hK53_x_this_sort hJ53_l4 hm
      exact absurd hm (by have := hJ53_l4; unfold ib at this; omega)
    | succ n ih =>
      intro J53_l3 J53_l4 H locs ls hK53_x_this_at hK53_x_this_sort hJ53_l4 hm53 hP hD hS hl
      have ih53 := ih
      refine lv_iload hx hb dX5_number_53 (lv_at hl 4 rfl) ?_
      refine lv_aload_n hx hb dX5_number_55 rfl (lv_at hl 0 rfl) ?_
      refine k_get C0 fg_X5_18 hP 0 rfl rfl dX5_number_56 ?_
      refine lv_icmp_ge (tgt := 84) hx hb dX5_number_59 (by decide) (fun c5 => ?_) (fun c5 => ?_)
      · have h6 := ib_le hx_this_behind hJ53_l4 c5
        refine lv_iload_n hx hb dX5_number_84 rfl (lv_at hl 3 rfl) ?_
        refine lv_iload_n hx hb dX5_number_85 rfl (lv_at hl 1 rfl) ?_
        refine lv_icmp_lt (tgt := 94) hx hb dX5_number_86 (by decide) (fun c7 => ?_) (fun c7 => ?_)
        · have h8 := ib_lt (ib_any J53_l3) (ib_any p0) c7
          have h9 : ib J53_l3 (-2147483648) 2147483646 := ib_w (-2147483648) 2147483646 h8.1 (by decide)
          have h10 : ib p0 (-2147483647) 2147483647 := ib_w (-2147483647) 2147483647 h8.2 (by decide)
          exact jn94 J53_l3 J53_l4 H locs ls (ib_w 0 1599 hK53_x_this_at (by decide)) (ib_w 2 2 hK53_x_this_sort (by decide)) (ib_w 0 1600 hJ53_l4 (by decide)) hP hD hS (lv_sub hl [0, 1, 2, 3, 4] rfl)
        · have h11 := ib_nlt (ib_any J53_l3) (ib_any p0) c7
          refine lv_iload_n hx hb dX5_number_89 rfl (lv_at hl 3 rfl) ?_
          refine lv_iload_n hx hb dX5_number_90 rfl (lv_at hl 2 rfl) ?_
          refine lv_icmp_le (tgt := 105) hx hb dX5_number_91 (by decide) (fun c12 => ?_) (fun c12 => ?_)
          · have h13 := ib_le (ib_any J53_l3) (ib_any p1) c12
            refine lv_aload_n hx hb dX5_number_105 rfl (lv_at hl 0 rfl) ?_
            refine lv_aload_n hx hb dX5_number_106 rfl (lv_at hl 0 rfl) ?_
            refine k_get C0 fg_X5_18 hP 0 rfl rfl dX5_number_107 ?_
            refine k_jv hP hD hS hA [0, 1] [] (wr := []) rfl rfl (by decide) (by decide) (by decide) 0 0 (Nat.le_of_ble_eq_true rfl) (Nat.le_of_ble_eq_true rfl) (fun hPc hDc => k_runV (As := [.int x_this_behind]) (rest := []) C0 hZ hS hA (s_X5_moveTo l dC dI cy sq a_this a_this_text g_this_text x_this_length x_this_at x_this_behind x_this_sort x_this_allowed a_this_plan x_this_fault x_this_place x_this_behind hg_this_text (ib_w 0 1600 hx_this_length (by decide)) (ib_w 0 1600 hx_this_behind (by decide))) mV_X5_86 hPc hDc rfl rfl rfl hl rfl rfl (Nat.le_of_ble_eq_true rfl) ⟨(Nat.le_of_ble_eq_true rfl), (Nat.le_of_ble_eq_true rfl)⟩ ⟨(Nat.le_of_ble_eq_true rfl), (Nat.le_of_ble_eq_true rfl)⟩ dX5_number_110) (fun u15 H locs hw hP hD hS => ?_)
            obtain ⟨v16, v17, v18⟩ := u15
            try dsimp only at hP hD hw
            have hP : va_P (dC, dI) vwCl [(a_this, .inr (5, [.ref a_this_text, .int x_this_length, .int v16, .int v17, .int v18, .int x_this_allowed, .ref a_this_plan, .int x_this_fault, .int x_this_place])), (a_this_text, .inl (cy 0, 1600, .inl g_this_text))] H := hP
            have hD : va_D A [(a_this, .inr (5, [.ref a_this_text, .int x_this_length, .int v16, .int v17, .int v18, .int x_this_allowed, .ref a_this_plan, .int x_this_fault, .int x_this_place])), (a_this_text, .inl (cy 0, 1600, .inl g_this_text))] := hD
            obtain ⟨h19, h20, h21, h22⟩ := hw
            refine lv_iload_n hx hb dX5_number_113 rfl (lv_at hl 3 rfl) ?_
            subst hQ; exact k_iret hx hb hr hlk rfl ((v16, v17, v18, x_this_fault, x_this_place)) hS ⟨ib_w 0 1600 h19 (by decide), ib_w 0 1600 h20 (by decide), ib_w 0 4 h21 (by decide), fun hq9 => ib_w 0 1599 (h22 hq9) (by decide)⟩ hP hD (Nat.le_of_ble_eq_true rfl) (Nat.le_of_ble_eq_true rfl) dX5_number_114
          · have h23 := ib_nle (ib_any J53_l3) (ib_any p1) c12
            have h24 : ib J53_l3 (-2147483647) 2147483647 := ib_w (-2147483647) 2147483647 h23.1 (by decide)
            have h25 : ib p1 (-2147483648) 2147483646 := ib_w (-2147483648) 2147483646 h23.2 (by decide)
            exact jn94 J53_l3 J53_l4 H locs ls (ib_w 0 1599 hK53_x_this_at (by decide)) (ib_w 2 2 hK53_x_this_sort (by decide)) (ib_w 0 1600 hJ53_l4 (by decide)) hP hD hS (lv_sub hl [0, 1, 2, 3, 4] rfl)
      · have h26 := ib_nle hx_this_behind hJ53_l4 c5
        have h27 : ib x_this_behind 1 1600 := ib_w 1 1600 h26.1 (by decide)
        have h28 : ib J53_l4 0 1599 := ib_w 0 1599 h26.2 (by decide)
        refine lv_iload_n hx hb dX5_number_62 rfl (lv_at hl 3 rfl) ?_
        refine lv_bipush (v := 10) hx hb dX5_number_63 (by decide) ?_
        refine lv_imul hx hb dX5_number_65 ?_
        refine lv_topi (fun z29 ez29 => ?_)
        refine lv_aload_n hx hb dX5_number_66 rfl (lv_at hl 0 rfl) ?_
        refine k_get C0 fg_X5_33 hP 0 rfl rfl dX5_number_67 ?_
        refine lv_iload hx hb dX5_number_70 (lv_at hl 4 rfl) ?_
        refine va_iald hx hb C0.2.2.2.2.2.1 hP 1 0 rfl rfl (ib_in 1600 h28 (by decide)) dX5_number_72 ?_
        refine lv_topi (fun z30 ez30 => ?_)
        have h31 : ib z30 0 255 := by rw [ez30]; exact ia_at hg_this_text (ib_in 1600 h28 (by decide))
        refine lv_iadd hx hb dX5_number_73 ?_
        refine lv_topi (fun z32 ez32 => ?_)
        refine lv_bipush (v := 48) hx hb dX5_number_74 (by decide) ?_
        refine lv_isub hx hb dX5_number_76 ?_
        refine lv_topi (fun z33 ez33 => ?_)
        refine lv_istore_n (lv' := [(3, .int z33), (0, .ref a_this), (1, .int p0), (2, .int p1), (4, .int J53_l4)]) hx hb dX5_number_77 rfl hl (by decide) rfl (fun ls hl => ?_)
        obtain ⟨z34, ez34⟩ : ∃ y : Int32, y = J53_l4 + 1 := ⟨_, rfl⟩
        refine lv_iinc (v := z34) (lv' := [(4, .int z34), (3, .int z33), (0, .ref a_this), (1, .int p0), (2, .int p1)]) hx hb dX5_number_78 hl (k := 4) rfl (by rw [ez34]; rfl) (by decide) rfl (fun ls hl => ?_)
        have h35 := ib_add h28 (ib_c 1 1 1 (by decide)) (by decide)
        rw [← ez34] at h35
        have h36 : ib z34 1 1600 := ib_w 1 1600 h35.1 (by decide)
        refine lv_goto (tgt := 53) hx hb dX5_number_81 (by decide) ?_
        exact ih53 z33 z34 H locs ls (ib_w 0 1599 hK53_x_this_at (by decide)) (ib_w 2 2 hK53_x_this_sort (by decide)) (ib_w 0 1600 h36 (by decide)) (by have := h35.2; have : (1 : Int32).toInt = 1 := (by decide); omega) hP hD hS (lv_sub hl [2, 3, 4, 1, 0] rfl)
  refine lv_aload_n hx hb dX5_number_0 rfl (lv_at hl 0 rfl) ?_
  refine k_get C0 fg_X5_21 hP 0 rfl rfl dX5_number_1 ?_
  refine lv_iconst (v := 2) hx hb dX5_number_4 (by decide) ?_
  refine lv_icmp_eq (tgt := 19) hx hb dX5_number_5 (by decide) (fun c37 => ?_) (fun c37 => ?_)
  · have h38 := ib_eq hx_this_sort (ib_c 2 2 2 (by decide)) c37
    have h39 : ib x_this_sort 2 2 := ib_w 2 2 h38.1 (by decide)
    have h40 : ib x_this_at 0 1599 := ib_w 0 1599 (ib_two hx_this_at (hc0_this (ib_nz h39 (by decide)))) (by decide)
    refine lv_aload_n hx hb dX5_number_19 rfl (lv_at hl 0 rfl) ?_
    refine k_get C0 fg_X5_18 hP 0 rfl rfl dX5_number_20 ?_
    refine lv_aload_n hx hb dX5_number_23 rfl (lv_at hl 0 rfl) ?_
    refine k_get C0 fg_X5_15 hP 0 rfl rfl dX5_number_24 ?_
    refine lv_isub hx hb dX5_number_27 ?_
    refine lv_topi (fun z41 ez41 => ?_)
    have h42 := ib_sub hx_this_behind h40 (by decide)
    rw [← ez41] at h42
    have h43 : ib z41 (-1599) 1600 := ib_w (-1599) 1600 h42.1 (by decide)
    refine lv_iconst (v := 4) hx hb dX5_number_28 (by decide) ?_
    refine lv_icmp_le (tgt := 45) hx hb dX5_number_29 (by decide) (fun c44 => ?_) (fun c44 => ?_)
    · have h45 := ib_le h43 (ib_c 4 4 4 (by decide)) c44
      have h46 : ib z41 (-1599) 4 := ib_w (-1599) 4 h45.1 (by decide)
      refine lv_iconst (v := 0) hx hb dX5_number_45 (by decide) ?_
      refine lv_istore_n (lv' := [(3, .int 0), (0, .ref a_this), (1, .int p0), (2, .int p1)]) hx hb dX5_number_46 rfl hl (by decide) rfl (fun ls hl => ?_)
      refine lv_aload_n hx hb dX5_number_47 rfl (lv_at hl 1 rfl) ?_
      refine k_get C0 fg_X5_15 hP 0 rfl rfl dX5_number_48 ?_
      refine lv_istore (lv' := [(4, .int x_this_at), (3, .int 0), (0, .ref a_this), (1, .int p0), (2, .int p1)]) hx hb dX5_number_51 hl (by decide) rfl (fun ls hl => ?_)
      exact jn53 1602 0 x_this_at H locs ls (ib_w 0 1599 h40 (by decide)) (ib_w 2 2 h39 (by decide)) (ib_w 0 1600 h40 (by decide)) (by have := h40; unfold ib at this; omega) hP hD hS (lv_sub hl [2, 3, 4, 1, 0] rfl)
    · have h47 := ib_nle h43 (ib_c 4 4 4 (by decide)) c44
      have h48 : ib z41 5 1600 := ib_w 5 1600 h47.1 (by decide)
      refine lv_aload_n hx hb dX5_number_32 rfl (lv_at hl 0 rfl) ?_
      refine lv_iconst (v := 1) hx hb dX5_number_33 (by decide) ?_
      refine lv_aload_n hx hb dX5_number_34 rfl (lv_at hl 0 rfl) ?_
      refine k_get C0 fg_X5_15 hP 0 rfl rfl dX5_number_35 ?_
      refine lv_iconst (v := 4) hx hb dX5_number_38 (by decide) ?_
      refine lv_iadd hx hb dX5_number_39 ?_
      refine lv_topi (fun z49 ez49 => ?_)
      have h50 := ib_add h40 (ib_c 4 4 4 (by decide)) (by decide)
      rw [← ez49] at h50
      have h51 : ib z49 4 1603 := ib_w 4 1603 h50.1 (by decide)
      refine k_jv hP hD hS hA [0] [1] (wr := [(a_this_text, .inl (cy 0, 1600, .inl g_this_text))]) rfl rfl (by decide) (by decide) (by decide) 0 0 (Nat.le_of_ble_eq_true rfl) (Nat.le_of_ble_eq_true rfl) (fun hPc hDc => k_runV (As := [.int 1, .int z49]) (rest := []) C0 hZ hS hA (s_X5_fail l dC dI cy sq a_this a_this_text x_this_length x_this_at x_this_behind x_this_sort x_this_allowed a_this_plan x_this_fault x_this_place 1 z49 ) mV_X5_78 hPc hDc rfl rfl rfl hl rfl rfl (Nat.le_of_ble_eq_true rfl) ⟨(Nat.le_of_ble_eq_true rfl), (Nat.le_of_ble_eq_true rfl)⟩ ⟨(Nat.le_of_ble_eq_true rfl), (Nat.le_of_ble_eq_true rfl)⟩ dX5_number_40) (fun u53 H locs hw hP hD hS => ?_)
      obtain ⟨v54, v55⟩ := u53
      try dsimp only at hP hD hw
      have hP : va_P (dC, dI) vwCl [(a_this_text, .inl (cy 0, 1600, .inl g_this_text)), (a_this, .inr (5, [.ref a_this_text, .int x_this_length, .int x_this_length, .int x_this_length, .int 0, .int x_this_allowed, .ref a_this_plan, .int v54, .int v55]))] H := hP
      have hD : va_D A [(a_this_text, .inl (cy 0, 1600, .inl g_this_text)), (a_this, .inr (5, [.ref a_this_text, .int x_this_length, .int x_this_length, .int x_this_length, .int 0, .int x_this_allowed, .ref a_this_plan, .int v54, .int v55]))] := hD
      refine lv_iload_n hx hb dX5_number_43 rfl (lv_at hl 1 rfl) ?_
      subst hQ; exact k_iret hx hb hr hlk rfl ((x_this_length, x_this_length, 0, v54, v55)) hS ⟨ib_w 0 1600 hx_this_length (by decide), ib_w 0 1600 hx_this_length (by decide), ib_w 0 4 (ib_c 0 0 0 (by decide)) (by decide), fun hq9 => absurd rfl hq9⟩ (hP.sub [1, 0] rfl) (hD.sub [1, 0] (by decide) rfl) (Nat.le_of_ble_eq_true rfl) (Nat.le_of_ble_eq_true rfl) dX5_number_44
  · skip
    refine lv_aload_n hx hb dX5_number_8 rfl (lv_at hl 0 rfl) ?_
    refine lv_iconst (v := 1) hx hb dX5_number_9 (by decide) ?_
    refine lv_aload_n hx hb dX5_number_10 rfl (lv_at hl 0 rfl) ?_
    refine k_get C0 fg_X5_15 hP 0 rfl rfl dX5_number_11 ?_
    refine k_jv hP hD hS hA [0] [1] (wr := [(a_this_text, .inl (cy 0, 1600, .inl g_this_text))]) rfl rfl (by decide) (by decide) (by decide) 0 0 (Nat.le_of_ble_eq_true rfl) (Nat.le_of_ble_eq_true rfl) (fun hPc hDc => k_runV (As := [.int 1, .int x_this_at]) (rest := []) C0 hZ hS hA (s_X5_fail l dC dI cy sq a_this a_this_text x_this_length x_this_at x_this_behind x_this_sort x_this_allowed a_this_plan x_this_fault x_this_place 1 x_this_at ) mV_X5_78 hPc hDc rfl rfl rfl hl rfl rfl (Nat.le_of_ble_eq_true rfl) ⟨(Nat.le_of_ble_eq_true rfl), (Nat.le_of_ble_eq_true rfl)⟩ ⟨(Nat.le_of_ble_eq_true rfl), (Nat.le_of_ble_eq_true rfl)⟩ dX5_number_14) (fun u57 H locs hw hP hD hS => ?_)
    obtain ⟨v58, v59⟩ := u57
    try dsimp only at hP hD hw
    have hP : va_P (dC, dI) vwCl [(a_this_text, .inl (cy 0, 1600, .inl g_this_text)), (a_this, .inr (5, [.ref a_this_text, .int x_this_length, .int x_this_length, .int x_this_length, .int 0, .int x_this_allowed, .ref a_this_plan, .int v58, .int v59]))] H := hP
    have hD : va_D A [(a_this_text, .inl (cy 0, 1600, .inl g_this_text)), (a_this, .inr (5, [.ref a_this_text, .int x_this_length, .int x_this_length, .int x_this_length, .int 0, .int x_this_allowed, .ref a_this_plan, .int v58, .int v59]))] := hD
    refine lv_iload_n hx hb dX5_number_17 rfl (lv_at hl 1 rfl) ?_
    subst hQ; exact k_iret hx hb hr hlk rfl ((x_this_length, x_this_length, 0, v58, v59)) hS ⟨ib_w 0 1600 hx_this_length (by decide), ib_w 0 1600 hx_this_length (by decide), ib_w 0 4 (ib_c 0 0 0 (by decide)) (by decide), fun hq9 => absurd rfl hq9⟩ (hP.sub [1, 0] rfl) (hD.sub [1, 0] (by decide) rfl) (Nat.le_of_ble_eq_true rfl) (Nat.le_of_ble_eq_true rfl) dX5_number_18
set_option maxHeartbeats 4000000 in
set_option maxRecDepth 100000 in
theorem s_X5_wordIn_s0 (l : Launch) (dC : Nat → ClassId) (dI : Nat → Nat → Nat) (cy : Nat → ClassId) (sq : Nat → Nat) (a_this : Nat) (a_this_text : Nat) (g_this_text : Nat → Int32) (x_this_length : Int32) (x_this_at : Int32) (x_this_behind : Int32) (x_this_sort : Int32) (x_this_allowed : Int32) (a_this_plan : Nat) (x_this_fault : Int32) (x_this_place : Int32) (hg_this_text : ia g_this_text 1600 0 255) (hx_this_at : ib x_this_at 0 1600) (hx_this_behind : ib x_this_behind 0 1600) (hx_this_sort : ib x_this_sort 0 4) (hc0_this : ¬ x_this_sort = 0 → ib x_this_at 0 1599) : k_Met l yX5_wordIn cX5_wordIn 6 (some .int) { frames := 4, cells := 0, slots := 0, locals := 141 } dC dI cy sq [.ref a_this, .ref (sq 0)] [(a_this, .inr (5, [.ref a_this_text, .int x_this_length, .int x_this_at, .int x_this_behind, .int x_this_sort, .int x_this_allowed, .ref a_this_plan, .int x_this_fault, .int x_this_place])), (a_this_text, .inl (cy 0, 1600, .inl g_this_text))] (k_Qi dC dI (fun (r : Int32) (_ : Unit) => True) (fun _ : Unit => [(a_this, .inr (5, [.ref a_this_text, .int x_this_length, .int x_this_at, .int x_this_behind, .int x_this_sort, .int x_this_allowed, .ref a_this_plan, .int x_this_fault, .int x_this_place])), (a_this_text, .inl (cy 0, 1600, .inl g_this_text))])) := by
  refine k_ofW2 (by decide +kernel) (Nat.le_of_ble_eq_true rfl) ?_
  intro p e s m below meth c A ls H locs args Q hQ C0 hZ hr hlk hin hP hD hA hS hl
  have C0 : k_cx p s m args c cX5_wordIn 6 RX5 dC dI cy sq := C0
  have hx := C0.1
  have hb := C0.2.1
  have hl : lv_has ls 6 [(0, .ref a_this), (1, .ref (sq 0))] := hl
  have jn23 : ∀ (n : Nat) (J23_l2 : Int32) (J23_l3 : Int32) (J23_l4 : Int32) (J23_l5 : Int32) (H : Heap) (locs : List Loc) (ls : Array Slot), ib x_this_at 0 1599 → ib x_this_sort 1 1 → ib J23_l3 0 1630 → ib J23_l4 0 1 → ib J23_l5 0 31 → (1 * J23_l3.toInt + (-1) * J23_l5.toInt ≤ 1600) → 32 ≤ J23_l5.toInt + (n : Int) → va_P (dC, dI) vwCl [(a_this, .inr (5, [.ref a_this_text, .int x_this_length, .int x_this_at, .int x_this_behind, .int x_this_sort, .int x_this_allowed, .ref a_this_plan, .int x_this_fault, .int x_this_place])), (a_this_text, .inl (cy 0, 1600, .inl g_this_text))] H → va_D A [(a_this, .inr (5, [.ref a_this_text, .int x_this_length, .int x_this_at, .int x_this_behind, .int x_this_sort, .int x_this_allowed, .ref a_this_plan, .int x_this_fault, .int x_this_place])), (a_this_text, .inl (cy 0, 1600, .inl g_this_text))] → va_S A s.heap H locs → lv_has ls 6 [(0, .ref a_this), (1, .ref (sq 0)), (2, .int J23_l2), (3, .int J23_l3), (4, .int J23_l4), (5, .int J23_l5)] → W p l e { frames := 4, cells := 0, slots := 0, locals := 141 } s m args below meth c H locs 0 0 Q (F0 m 23 ls []) := by
    intro n
    induction n with
    | zero =>
      intro J23_l2 J23_l3 J23_l4 J23_l5 H locs ls hK23_x_this_at hK23_x_this_sort hJ23_l3 hJ23_l4 hJ23_l5 hJ23_lin0 hm
      exact absurd hm (by have := hJ23_l5; unfold ib at this; omega)
    | succ n ih =>
      intro J23_l2 J23_l3 J23_l4 J23_l5 H locs ls hK23_x_this_at hK23_x_this_sort hJ23_l3 hJ23_l4 hJ23_l5 hJ23_lin0 hm23 hP hD hS hl
      have ih23 := ih
      have jn119 : ∀ (J119_l2 : Int32) (J119_l3 : Int32) (J119_l4 : Int32) (H : Heap) (locs : List Loc) (ls : Array Slot), ib x_this_at 0 1599 → ib J23_l5 0 30 → ib x_this_sort 1 1 → ib J119_l3 0 1630 → ib J119_l4 0 1 → (1 * J119_l3.toInt + (-1) * J23_l5.toInt ≤ 1601) → va_P (dC, dI) vwCl [(a_this, .inr (5, [.ref a_this_text, .int x_this_length, .int x_this_at, .int x_this_behind, .int x_this_sort, .int x_this_allowed, .ref a_this_plan, .int x_this_fault, .int x_this_place])), (a_this_text, .inl (cy 0, 1600, .inl g_this_text))] H → va_D A [(a_this, .inr (5, [.ref a_this_text, .int x_this_length, .int x_this_at, .int x_this_behind, .int x_this_sort, .int x_this_allowed, .ref a_this_plan, .int x_this_fault, .int x_this_place])), (a_this_text, .inl (cy 0, 1600, .inl g_this_text))] → va_S A s.heap H locs → lv_has ls 6 [(0, .ref a_this), (1, .ref (sq 0)), (2, .int J119_l2), (3, .int J119_l3), (4, .int J119_l4), (5, .int J23_l5)] → W p l e { frames := 4, cells := 0, slots := 0, locals := 141 } s m args below meth c H locs 0 0 Q (F0 m 119 ls []) := by
        intro J119_l2 J119_l3 J119_l4 H locs ls hK119_x_this_at hK119_J23_l5 hK119_x_this_sort hJ119_l3 hJ119_l4 hJ119_lin0 hP hD hS hl
        obtain ⟨z1, ez1⟩ : ∃ y : Int32, y = J23_l5 + 1 := ⟨_, rfl⟩
        refine lv_iinc (v := z1) (lv' := [(5, .int z1), (0, .ref a_this), (1, .ref (sq 0)), (2, .int J119_l2), (3, .int J119_l3), (4, .int J119_l4)]) hx hb dX5_wordIn_119 hl (k := 5) rfl (by rw [ez1]; rfl) (by decide) rfl (fun ls hl => ?_)
        have h2 := ib_add hK119_J23_l5 (ib_c 1 1 1 (by decide)) (by decide)
        rw [← ez1] at h2
        have h3 : ib z1 1 31 := ib_w 1 31 h2.1 (by decide)
        refine lv_goto (tgt := 23) hx hb dX5_wordIn_122 (by decide) ?_
        exact ih23 J119_l2 J119_l3 J119_l4 z1 H locs ls (ib_w 0 1599 hK119_x_this_at (by decide)) (ib_w 1 1 hK119_x_this_sort (by decide)) (ib_w 0 1630 hJ119_l3 (by decide)) (ib_w 0 1 hJ119_l4 (by decide)) (ib_w 0 31 h3 (by decide)) (by have := (h3).1; have := (h3).2; have := h2.2; have : (1 : Int32).toInt = 1 := (by decide); have := (hK119_J23_l5).1; have := (hK119_J23_l5).2; have := hJ23_lin0; have := hJ119_lin0; have := (hJ119_l3).1; have := (hJ119_l3).2; have := (hJ23_l3).1; have := (hJ23_l3).2; omega) (by have := h2.2; have : (1 : Int32).toInt = 1 := (by decide); omega) hP hD hS (lv_sub hl [1, 2, 3, 4, 5, 0] rfl)
      have jn114 : ∀ (J114_s0 : Int32) (H : Heap) (locs : List Loc) (ls : Array Slot), ib J23_l3 0 1629 → ib J23_l4 0 1 → ib J23_l5 0 29 → ib x_this_at 0 1599 → ib x_this_sort 1 1 → ib J114_s0 0 1 → (1 * J23_l3.toInt + (-1) * J23_l5.toInt ≤ 1600) → va_P (dC, dI) vwCl [(a_this, .inr (5, [.ref a_this_text, .int x_this_length, .int x_this_at, .int x_this_behind, .int x_this_sort, .int x_this_allowed, .ref a_this_plan, .int x_this_fault, .int x_this_place])), (a_this_text, .inl (cy 0, 1600, .inl g_this_text))] H → va_D A [(a_this, .inr (5, [.ref a_this_text, .int x_this_length, .int x_this_at, .int x_this_behind, .int x_this_sort, .int x_this_allowed, .ref a_this_plan, .int x_this_fault, .int x_this_place])), (a_this_text, .inl (cy 0, 1600, .inl g_this_text))] → va_S A s.heap H locs → lv_has ls 6 [(0, .ref a_this), (1, .ref (sq 0)), (2, .int J23_l2), (3, .int J23_l3), (4, .int J23_l4), (5, .int J23_l5)] → W p l e { frames := 4, cells := 0, slots := 0, locals := 141 } s m args below meth c H locs 0 0 Q (F0 m 114 ls [.int J114_s0]) := by
        intro J114_s0 H locs ls hK114_J23_l3 hK114_J23_l4 hK114_J23_l5 hK114_x_this_at hK114_x_this_sort hJ114_s0 hJ114_lin0 hP hD hS hl
        refine lv_istore (lv' := [(4, .int J114_s0), (0, .ref a_this), (1, .ref (sq 0)), (2, .int J23_l2), (3, .int J23_l3), (5, .int J23_l5)]) hx hb dX5_wordIn_114 hl (by decide) rfl (fun ls hl => ?_)
        obtain ⟨z4, ez4⟩ : ∃ y : Int32, y = J23_l3 + 1 := ⟨_, rfl⟩
        refine lv_iinc (v := z4) (lv' := [(3, .int z4), (4, .int J114_s0), (0, .ref a_this), (1, .ref (sq 0)), (2, .int J23_l2), (5, .int J23_l5)]) hx hb dX5_wordIn_116 hl (k := 4) rfl (by rw [ez4]; rfl) (by decide) rfl (fun ls hl => ?_)
        have h5 := ib_add hK114_J23_l3 (ib_c 1 1 1 (by decide)) (by decide)
        rw [← ez4] at h5
        have h6 : ib z4 1 1630 := ib_w 1 1630 h5.1 (by decide)
        exact jn119 J23_l2 z4 J114_s0 H locs ls (ib_w 0 1599 hK114_x_this_at (by decide)) (ib_w 0 30 hK114_J23_l5 (by decide)) (ib_w 1 1 hK114_x_this_sort (by decide)) (ib_w 0 1630 h6 (by decide)) (ib_w 0 1 hJ114_s0 (by decide)) (by have := (hK114_J23_l5).1; have := (hK114_J23_l5).2; have := hJ23_lin0; have := hJ114_lin0; have := (hK114_J23_l3).1; have := (hK114_J23_l3).2; have := (h6).1; have := (h6).2; have := h5.2; have : (1 : Int32).toInt = 1 := (by decide); omega) hP hD hS (lv_sub hl [2, 3, 4, 0, 1, 5] rfl)
      have jn113 : ∀  (H : Heap) (locs : List Loc) (ls : Array Slot), ib J23_l3 0 1629 → ib J23_l4 0 1 → ib J23_l5 0 29 → ib x_this_at 0 1599 → ib x_this_sort 1 1 → (1 * J23_l3.toInt + (-1) * J23_l5.toInt ≤ 1600) → va_P (dC, dI) vwCl [(a_this, .inr (5, [.ref a_this_text, .int x_this_length, .int x_this_at, .int x_this_behind, .int x_this_sort, .int x_this_allowed, .ref a_this_plan, .int x_this_fault, .int x_this_place])), (a_this_text, .inl (cy 0, 1600, .inl g_this_text))] H → va_D A [(a_this, .inr (5, [.ref a_this_text, .int x_this_length, .int x_this_at, .int x_this_behind, .int x_this_sort, .int x_this_allowed, .ref a_this_plan, .int x_this_fault, .int x_this_place])), (a_this_text, .inl (cy 0, 1600, .inl g_this_text))] → va_S A s.heap H locs → lv_has ls 6 [(0, .ref a_this), (1, .ref (sq 0)), (2, .int J23_l2), (3, .int J23_l3), (4, .int J23_l4), (5, .int J23_l5)] → W p l e { frames := 4, cells := 0, slots := 0, locals := 141 } s m args below meth c H locs 0 0 Q (F0 m 113 ls []) := by
        intro H locs ls hK113_J23_l3 hK113_J23_l4 hK113_J23_l5 hK113_x_this_at hK113_x_this_sort hJ113_lin0 hP hD hS hl
        refine lv_iconst (v := 0) hx hb dX5_wordIn_113 (by decide) ?_
        exact jn114 0 H locs ls (ib_w 0 1629 hK113_J23_l3 (by decide)) (ib_w 0 1 hK113_J23_l4 (by decide)) (ib_w 0 29 hK113_J23_l5 (by decide)) (ib_w 0 1599 hK113_x_this_at (by decide)) (ib_w 1 1 hK113_x_this_sort (by decide)) (ib_w 0 1 (ib_c 0 0 0 (by decide)) (by decide)) (by have := (hK113_J23_l5).1; have := (hK113_J23_l5).2; have := hJ23_lin0; have := hJ113_lin0; have := (hK113_J23_l3).1; have := (hK113_J23_l3).2; omega) hP hD hS (lv_sub hl [0, 1, 2, 3, 4, 5] rfl)
      have jn67 : ∀  (H : Heap) (locs : List Loc) (ls : Array Slot), ib J23_l3 0 1630 → ib J23_l4 0 1 → ib J23_l5 0 30 → ib x_this_at 0 1599 → ib x_this_sort 1 1 → va_P (dC, dI) vwCl [(a_this, .inr (5, [.ref a_this_text, .int x_this_length, .int x_this_at, .int x_this_behind, .int x_this_sort, .int x_this_allowed, .ref a_this_plan, .int x_this_fault, .int x_this_place])), (a_this_text, .inl (cy 0, 1600, .inl g_this_text))] H → va_D A [(a_this, .inr (5, [.ref a_this_text, .int x_this_length, .int x_this_at, .int x_this_behind, .int x_this_sort, .int x_this_allowed, .ref a_this_plan, .int x_this_fault, .int x_this_place])), (a_this_text, .inl (cy 0, 1600, .inl g_this_text))] → va_S A s.heap H locs → lv_has ls 6 [(0, .ref a_this), (1, .ref (sq 0)), (2, .int J23_l2), (3, .int J23_l3), (4, .int J23_l4), (5, .int J23_l5)] → W p l e { frames := 4, cells := 0, slots := 0, locals := 141 } s m args below meth c H locs 0 0 Q (F0 m 67 ls []) := by
        intro H locs ls hK67_J23_l3 hK67_J23_l4 hK67_J23_l5 hK67_x_this_at hK67_x_this_sort hP hD hS hl
        obtain ⟨z7, ez7⟩ : ∃ y : Int32, y = J23_l2 + 1 := ⟨_, rfl⟩
        refine lv_iinc (v := z7) (lv' := [(2, .int z7), (0, .ref a_this), (1, .ref (sq 0)), (3, .int J23_l3), (4, .int J23_l4), (5, .int J23_l5)]) hx hb dX5_wordIn_67 hl (k := 2) rfl (by rw [ez7]; rfl) (by decide) rfl (fun ls hl => ?_)
        refine lv_aload_n hx hb dX5_wordIn_70 rfl (lv_at hl 1 rfl) ?_
        refine k_get C0 fg_X5_15 hP 0 rfl rfl dX5_wordIn_71 ?_
        refine lv_istore_n (lv' := [(3, .int x_this_at), (2, .int z7), (0, .ref a_this), (1, .ref (sq 0)), (4, .int J23_l4), (5, .int J23_l5)]) hx hb dX5_wordIn_74 rfl hl (by decide) rfl (fun ls hl => ?_)
        refine lv_iconst (v := 1) hx hb dX5_wordIn_75 (by decide) ?_
        refine lv_istore (lv' := [(4, .int 1), (3, .int x_this_at), (2, .int z7), (0, .ref a_this), (1, .ref (sq 0)), (5, .int J23_l5)]) hx hb dX5_wordIn_76 hl (by decide) rfl (fun ls hl => ?_)
        refine lv_goto (tgt := 119) hx hb dX5_wordIn_78 (by decide) ?_
        exact jn119 z7 x_this_at 1 H locs ls (ib_w 0 1599 hK67_x_this_at (by decide)) (ib_w 0 30 hK67_J23_l5 (by decide)) (ib_w 1 1 hK67_x_this_sort (by decide)) (ib_w 0 1630 hK67_x_this_at (by decide)) (ib_w 0 1 (ib_c 1 1 1 (by decide)) (by decide)) (by have := (hK67_J23_l5).1; have := (hK67_J23_l5).2; have := hJ23_lin0; have := (hK67_J23_l3).1; have := (hK67_J23_l3).2; have := (hK67_x_this_at).1; have := (hK67_x_this_at).2; omega) hP hD hS (lv_sub hl [3, 4, 2, 1, 0, 5] rfl)
      have jn52 : ∀  (H : Heap) (locs : List Loc) (ls : Array Slot), ib J23_l3 0 1630 → ib J23_l4 0 1 → ib J23_l5 0 30 → ib x_this_at 0 1599 → ib x_this_sort 1 1 → va_P (dC, dI) vwCl [(a_this, .inr (5, [.ref a_this_text, .int x_this_length, .int x_this_at, .int x_this_behind, .int x_this_sort, .int x_this_allowed, .ref a_this_plan, .int x_this_fault, .int x_this_place])), (a_this_text, .inl (cy 0, 1600, .inl g_this_text))] H → va_D A [(a_this, .inr (5, [.ref a_this_text, .int x_this_length, .int x_this_at, .int x_this_behind, .int x_this_sort, .int x_this_allowed, .ref a_this_plan, .int x_this_fault, .int x_this_place])), (a_this_text, .inl (cy 0, 1600, .inl g_this_text))] → va_S A s.heap H locs → lv_has ls 6 [(0, .ref a_this), (1, .ref (sq 0)), (2, .int J23_l2), (3, .int J23_l3), (4, .int J23_l4), (5, .int J23_l5)] → W p l e { frames := 4, cells := 0, slots := 0, locals := 141 } s m args below meth c H locs 0 0 Q (F0 m 52 ls []) := by
        intro H locs ls hK52_J23_l3 hK52_J23_l4 hK52_J23_l5 hK52_x_this_at hK52_x_this_sort hP hD hS hl
        refine lv_iload hx hb dX5_wordIn_52 (lv_at hl 4 rfl) ?_
        refine lv_if_eq (tgt := 67) hx hb dX5_wordIn_54 (by decide) (fun c8 => ?_) (fun c8 => ?_)
        · have h9 := ib_eq hK52_J23_l4 (ib_c 0 0 0 (by decide)) c8
          have h10 : ib J23_l4 0 0 := ib_w 0 0 h9.1 (by decide)
          exact jn67  H locs ls (ib_w 0 1630 hK52_J23_l3 (by decide)) (ib_w 0 1 h10 (by decide)) (ib_w 0 30 hK52_J23_l5 (by decide)) (ib_w 0 1599 hK52_x_this_at (by decide)) (ib_w 1 1 hK52_x_this_sort (by decide)) hP hD hS (lv_sub hl [0, 1, 2, 3, 4, 5] rfl)
        · have h11 : ib J23_l4 1 1 := ib_w 1 1 (ib_ne_lo 0 hK52_J23_l4 (by decide) c8) (by decide)
          refine lv_iload_n hx hb dX5_wordIn_57 rfl (lv_at hl 3 rfl) ?_
          refine lv_aload_n hx hb dX5_wordIn_58 rfl (lv_at hl 0 rfl) ?_
          refine k_get C0 fg_X5_18 hP 0 rfl rfl dX5_wordIn_59 ?_
          refine lv_icmp_ne (tgt := 67) hx hb dX5_wordIn_62 (by decide) (fun c12 => ?_) (fun c12 => ?_)
          · skip
            exact jn67  H locs ls (ib_w 0 1630 hK52_J23_l3 (by decide)) (ib_w 0 1 h11 (by decide)) (ib_w 0 30 hK52_J23_l5 (by decide)) (ib_w 0 1599 hK52_x_this_at (by decide)) (ib_w 1 1 hK52_x_this_sort (by decide)) hP hD hS (lv_sub hl [0, 1, 2, 3, 4, 5] rfl)
          · have h13 := ib_eq hK52_J23_l3 hx_this_behind c12
            have h14 : ib J23_l3 0 1600 := ib_w 0 1600 h13.1 (by decide)
            refine lv_iload_n hx hb dX5_wordIn_65 rfl (lv_at hl 2 rfl) ?_
            subst hQ; exact k_iret hx hb hr hlk rfl () hS True.intro hP hD (Nat.le_of_ble_eq_true rfl) (Nat.le_of_ble_eq_true rfl) dX5_wordIn_66
      refine lv_iload hx hb dX5_wordIn_23 (lv_at hl 5 rfl) ?_
      refine lv_aload_n hx hb dX5_wordIn_25 rfl (lv_at hl 1 rfl) ?_
      refine k_ji hP hD hS hA [] [0, 1] (wr := [(a_this, .inr (5, [.ref a_this_text, .int x_this_length, .int x_this_at, .int x_this_behind, .int x_this_sort, .int x_this_allowed, .ref a_this_plan, .int x_this_fault, .int x_this_place])), (a_this_text, .inl (cy 0, 1600, .inl g_this_text))]) rfl rfl (by decide) (by decide) (by decide) 0 0 (Nat.le_of_ble_eq_true rfl) (Nat.le_of_ble_eq_true rfl) (fun hPc hDc => k_runVO (As := []) (rest := [.int J23_l5]) C0 hZ hS hA (c_length l dC dI cy sq 0 (by decide)) mV_X5_244 hPc hDc (vk_recv hZ.1 (by decide) hS) hl rfl rfl (Nat.le_of_ble_eq_true rfl) ⟨(Nat.le_of_ble_eq_true rfl), (Nat.le_of_ble_eq_true rfl)⟩ ⟨(Nat.le_of_ble_eq_true rfl), (Nat.le_of_ble_eq_true rfl)⟩ dX5_wordIn_26) (fun r15 u16 H locs hw hP hD hS => ?_)
      have hP : va_P (dC, dI) vwCl [(a_this, .inr (5, [.ref a_this_text, .int x_this_length, .int x_this_at, .int x_this_behind, .int x_this_sort, .int x_this_allowed, .ref a_this_plan, .int x_this_fault, .int x_this_place])), (a_this_text, .inl (cy 0, 1600, .inl g_this_text))] H := hP
      have hD : va_D A [(a_this, .inr (5, [.ref a_this_text, .int x_this_length, .int x_this_at, .int x_this_behind, .int x_this_sort, .int x_this_allowed, .ref a_this_plan, .int x_this_fault, .int x_this_place])), (a_this_text, .inl (cy 0, 1600, .inl g_this_text))] := hD
      obtain rfl : r15 = 30 := hw.trans (by decide)
      refine lv_icmp_gt (tgt := 125) hx hb dX5_wordIn_29 (by decide) (fun c17 => ?_) (fun c17 => ?_)
      · have h18 := ib_lt (ib_c 30 30 30 (by decide)) hJ23_l5 c17
        have h19 : ib J23_l5 31 31 := ib_w 31 31 h18.2 (by decide)
        refine lv_iconst (v := (-1)) hx hb dX5_wordIn_125 (by decide) ?_
        subst hQ; exact k_iret hx hb hr hlk rfl () hS True.intro hP hD (Nat.le_of_ble_eq_true rfl) (Nat.le_of_ble_eq_true rfl) dX5_wordIn_126
      · have h20 := ib_nlt (ib_c 30 30 30 (by decide)) hJ23_l5 c17
        have h21 : ib J23_l5 0 30 := ib_w 0 30 h20.2 (by decide)
        refine lv_iload hx hb dX5_wordIn_32 (lv_at hl 5 rfl) ?_
        refine lv_aload_n hx hb dX5_wordIn_34 rfl (lv_at hl 1 rfl) ?_
        refine k_ji hP hD hS hA [] [0, 1] (wr := [(a_this, .inr (5, [.ref a_this_text, .int x_this_length, .int x_this_at, .int x_this_behind, .int x_this_sort, .int x_this_allowed, .ref a_this_plan, .int x_this_fault, .int x_this_place])), (a_this_text, .inl (cy 0, 1600, .inl g_this_text))]) rfl rfl (by decide) (by decide) (by decide) 0 0 (Nat.le_of_ble_eq_true rfl) (Nat.le_of_ble_eq_true rfl) (fun hPc hDc => k_runVO (As := []) (rest := [.int J23_l5]) C0 hZ hS hA (c_length l dC dI cy sq 0 (by decide)) mV_X5_244 hPc hDc (vk_recv hZ.1 (by decide) hS) hl rfl rfl (Nat.le_of_ble_eq_true rfl) ⟨(Nat.le_of_ble_eq_true rfl), (Nat.le_of_ble_eq_true rfl)⟩ ⟨(Nat.le_of_ble_eq_true rfl), (Nat.le_of_ble_eq_true rfl)⟩ dX5_wordIn_35) (fun r22 u23 H locs hw hP hD hS => ?_)
        have hP : va_P (dC, dI) vwCl [(a_this, .inr (5, [.ref a_this_text, .int x_this_length, .int x_this_at, .int x_this_behind, .int x_this_sort, .int x_this_allowed, .ref a_this_plan, .int x_this_fault, .int x_this_place])), (a_this_text, .inl (cy 0, 1600, .inl g_this_text))] H := hP
        have hD : va_D A [(a_this, .inr (5, [.ref a_this_text, .int x_this_length, .int x_this_at, .int x_this_behind, .int x_this_sort, .int x_this_allowed, .ref a_this_plan, .int x_this_fault, .int x_this_place])), (a_this_text, .inl (cy 0, 1600, .inl g_this_text))] := hD
        obtain rfl : r22 = 30 := hw.trans (by decide)
        refine lv_icmp_eq (tgt := 52) hx hb dX5_wordIn_38 (by decide) (fun c24 => ?_) (fun c24 => ?_)
        · have h25 := ib_eq h21 (ib_c 30 30 30 (by decide)) c24
          have h26 : ib J23_l5 30 30 := ib_w 30 30 h25.1 (by decide)
          exact jn52  H locs ls (ib_w 0 1630 hJ23_l3 (by decide)) (ib_w 0 1 hJ23_l4 (by decide)) (ib_w 0 30 h26 (by decide)) (ib_w 0 1599 hK23_x_this_at (by decide)) (ib_w 1 1 hK23_x_this_sort (by decide)) hP hD hS (lv_sub hl [0, 1, 2, 3, 4, 5] rfl)
        · have h27 : ib J23_l5 0 29 := ib_w 0 29 (ib_ne_hi 30 h21 (by decide) c24) (by decide)
          refine lv_aload_n hx hb dX5_wordIn_41 rfl (lv_at hl 1 rfl) ?_
          refine lv_iload hx hb dX5_wordIn_42 (lv_at hl 5 rfl) ?_
          refine k_ji hP hD hS hA [] [0, 1] (wr := [(a_this, .inr (5, [.ref a_this_text, .int x_this_length, .int x_this_at, .int x_this_behind, .int x_this_sort, .int x_this_allowed, .ref a_this_plan, .int x_this_fault, .int x_this_place])), (a_this_text, .inl (cy 0, 1600, .inl g_this_text))]) rfl rfl (by decide) (by decide) (by decide) 0 0 (Nat.le_of_ble_eq_true rfl) (Nat.le_of_ble_eq_true rfl) (fun hPc hDc => k_runVO (As := [.int J23_l5]) (rest := []) C0 hZ hS hA (c_charAt l dC dI cy sq 0 (by decide) J23_l5 (ib_ch 0 30 h27 rfl (by decide)).1 (ib_ch 0 30 h27 rfl (by decide)).2.1 (ib_ch 0 30 h27 rfl (by decide)).2.2) mV_X5_248 hPc hDc (vk_recv hZ.1 (by decide) hS) hl rfl rfl (Nat.le_of_ble_eq_true rfl) ⟨(Nat.le_of_ble_eq_true rfl), (Nat.le_of_ble_eq_true rfl)⟩ ⟨(Nat.le_of_ble_eq_true rfl), (Nat.le_of_ble_eq_true rfl)⟩ dX5_wordIn_44) (fun r28 u29 H locs hw hP hD hS => ?_)
          have hP : va_P (dC, dI) vwCl [(a_this, .inr (5, [.ref a_this_text, .int x_this_length, .int x_this_at, .int x_this_behind, .int x_this_sort, .int x_this_allowed, .ref a_this_plan, .int x_this_fault, .int x_this_place])), (a_this_text, .inl (cy 0, 1600, .inl g_this_text))] H := hP
          have hD : va_D A [(a_this, .inr (5, [.ref a_this_text, .int x_this_length, .int x_this_at, .int x_this_behind, .int x_this_sort, .int x_this_allowed, .ref a_this_plan, .int x_this_fault, .int x_this_place])), (a_this_text, .inl (cy 0, 1600, .inl g_this_text))] := hD
          refine lv_bipush (v := 32) hx hb dX5_wordIn_47 (by decide) ?_
          refine lv_icmp_ne (tgt := 81) hx hb dX5_wordIn_49 (by decide) (fun c30 => ?_) (fun c30 => ?_)
          · skip
            refine lv_iload hx hb dX5_wordIn_81 (lv_at hl 4 rfl) ?_
            refine lv_if_eq (tgt := 113) hx hb dX5_wordIn_83 (by decide) (fun c31 => ?_) (fun c31 => ?_)
            · have h32 := ib_eq hJ23_l4 (ib_c 0 0 0 (by decide)) c31
              have h33 : ib J23_l4 0 0 := ib_w 0 0 h32.1 (by decide)
              have h34 : ib J23_l3 0 1629 := ⟨(hJ23_l3).1, by have := (hJ23_l3).1; have := (hJ23_l3).2; have := hJ23_lin0; have := (h27).1; have := (h27).2; omega⟩
              exact jn113  H locs ls (ib_w 0 1629 h34 (by decide)) (ib_w 0 1 h33 (by decide)) (ib_w 0 29 h27 (by decide)) (ib_w 0 1599 hK23_x_this_at (by decide)) (ib_w 1 1 hK23_x_this_sort (by decide)) (by have := (h27).1; have := (h27).2; have := hJ23_lin0; have := (h34).1; have := (h34).2; omega) hP hD hS (lv_sub hl [0, 1, 2, 3, 4, 5] rfl)
            · have h35 : ib J23_l4 1 1 := ib_w 1 1 (ib_ne_lo 0 hJ23_l4 (by decide) c31) (by decide)
              refine lv_iload_n hx hb dX5_wordIn_86 rfl (lv_at hl 3 rfl) ?_
              refine lv_aload_n hx hb dX5_wordIn_87 rfl (lv_at hl 0 rfl) ?_
              refine k_get C0 fg_X5_18 hP 0 rfl rfl dX5_wordIn_88 ?_
              refine lv_icmp_ge (tgt := 113) hx hb dX5_wordIn_91 (by decide) (fun c36 => ?_) (fun c36 => ?_)
              · have h37 := ib_le hx_this_behind hJ23_l3 c36
                have h38 : ib J23_l3 0 1629 := ⟨(hJ23_l3).1, by have := (hJ23_l3).1; have := (hJ23_l3).2; have := hJ23_lin0; have := (h27).1; have := (h27).2; omega⟩
                exact jn113  H locs ls (ib_w 0 1629 h38 (by decide)) (ib_w 0 1 h35 (by decide)) (ib_w 0 29 h27 (by decide)) (ib_w 0 1599 hK23_x_this_at (by decide)) (ib_w 1 1 hK23_x_this_sort (by decide)) (by have := (h27).1; have := (h27).2; have := hJ23_lin0; have := (h38).1; have := (h38).2; omega) hP hD hS (lv_sub hl [0, 1, 2, 3, 4, 5] rfl)
              · have h39 := ib_nle hx_this_behind hJ23_l3 c36
                have h40 : ib x_this_behind 1 1600 := ib_w 1 1600 h39.1 (by decide)
                have h41 : ib J23_l3 0 1599 := ib_w 0 1599 h39.2 (by decide)
                refine lv_aload_n hx hb dX5_wordIn_94 rfl (lv_at hl 0 rfl) ?_
                refine k_get C0 fg_X5_33 hP 0 rfl rfl dX5_wordIn_95 ?_
                refine lv_iload_n hx hb dX5_wordIn_98 rfl (lv_at hl 3 rfl) ?_
                refine va_iald hx hb C0.2.2.2.2.2.1 hP 1 0 rfl rfl (ib_in 1600 h41 (by decide)) dX5_wordIn_99 ?_
                refine lv_topi (fun z42 ez42 => ?_)
                have h43 : ib z42 0 255 := by rw [ez42]; exact ia_at hg_this_text (ib_in 1600 h41 (by decide))
                refine lv_aload_n hx hb dX5_wordIn_100 rfl (lv_at hl 1 rfl) ?_
                refine lv_iload hx hb dX5_wordIn_101 (lv_at hl 5 rfl) ?_
                refine k_ji hP hD hS hA [] [0, 1] (wr := [(a_this, .inr (5, [.ref a_this_text, .int x_this_length, .int x_this_at, .int x_this_behind, .int x_this_sort, .int x_this_allowed, .ref a_this_plan, .int x_this_fault, .int x_this_place])), (a_this_text, .inl (cy 0, 1600, .inl g_this_text))]) rfl rfl (by decide) (by decide) (by decide) 0 0 (Nat.le_of_ble_eq_true rfl) (Nat.le_of_ble_eq_true rfl) (fun hPc hDc => k_runVO (As := [.int J23_l5]) (rest := [.int z42]) C0 hZ hS hA (c_charAt l dC dI cy sq 0 (by decide) J23_l5 (ib_ch 0 30 h27 rfl (by decide)).1 (ib_ch 0 30 h27 rfl (by decide)).2.1 (ib_ch 0 30 h27 rfl (by decide)).2.2) mV_X5_248 hPc hDc (vk_recv hZ.1 (by decide) hS) hl rfl rfl (Nat.le_of_ble_eq_true rfl) ⟨(Nat.le_of_ble_eq_true rfl), (Nat.le_of_ble_eq_true rfl)⟩ ⟨(Nat.le_of_ble_eq_true rfl), (Nat.le_of_ble_eq_true rfl)⟩ dX5_wordIn_103) (fun r44 u45 H locs hw hP hD hS => ?_)
                have hP : va_P (dC, dI) vwCl [(a_this, .inr (5, [.ref a_this_text, .int x_this_length, .int x_this_at, .int x_this_behind, .int x_this_sort, .int x_this_allowed, .ref a_this_plan, .int x_this_fault, .int x_this_place])), (a_this_text, .inl (cy 0, 1600, .inl g_this_text))] H := hP
                have hD : va_D A [(a_this, .inr (5, [.ref a_this_text, .int x_this_length, .int x_this_at, .int x_this_behind, .int x_this_sort, .int x_this_allowed, .ref a_this_plan, .int x_this_fault, .int x_this_place])), (a_this_text, .inl (cy 0, 1600, .inl g_this_text))] := hD
                refine lv_icmp_ne (tgt := 113) hx hb dX5_wordIn_106 (by decide) (fun c46 => ?_) (fun c46 => ?_)
                · skip
                  exact jn113  H locs ls (ib_w 0 1629 h41 (by decide)) (ib_w 0 1 h35 (by decide)) (ib_w 0 29 h27 (by decide)) (ib_w 0 1599 hK23_x_this_at (by decide)) (ib_w 1 1 hK23_x_this_sort (by decide)) (by have := (h27).1; have := (h27).2; have := hJ23_lin0; have := (h41).1; have := (h41).2; omega) hP hD hS (lv_sub hl [0, 1, 2, 3, 4, 5] rfl)
                · have h47 := ib_eq h43 (ib_any r44) c46
                  have h48 : ib r44 0 255 := ib_w 0 255 h47.2 (by decide)
                  refine lv_iconst (v := 1) hx hb dX5_wordIn_109 (by decide) ?_
                  refine lv_goto (tgt := 114) hx hb dX5_wordIn_110 (by decide) ?_
                  exact jn114 1 H locs ls (ib_w 0 1629 h41 (by decide)) (ib_w 0 1 h35 (by decide)) (ib_w 0 29 h27 (by decide)) (ib_w 0 1599 hK23_x_this_at (by decide)) (ib_w 1 1 hK23_x_this_sort (by decide)) (ib_w 0 1 (ib_c 1 1 1 (by decide)) (by decide)) (by have := (h27).1; have := (h27).2; have := hJ23_lin0; have := (h41).1; have := (h41).2; omega) hP hD hS (lv_sub hl [0, 1, 2, 3, 4, 5] rfl)
          · have h49 := ib_eq (ib_any r28) (ib_c 32 32 32 (by decide)) c30
            have h50 : ib r28 32 32 := ib_w 32 32 h49.1 (by decide)
            have h51 : ib J23_l3 0 1629 := ⟨(hJ23_l3).1, by have := (hJ23_l3).1; have := (hJ23_l3).2; have := hJ23_lin0; have := (h27).1; have := (h27).2; omega⟩
            exact jn52  H locs ls (ib_w 0 1630 h51 (by decide)) (ib_w 0 1 hJ23_l4 (by decide)) (ib_w 0 30 h27 (by decide)) (ib_w 0 1599 hK23_x_this_at (by decide)) (ib_w 1 1 hK23_x_this_sort (by decide)) hP hD hS (lv_sub hl [0, 1, 2, 3, 4, 5] rfl)
  refine lv_aload_n hx hb dX5_wordIn_0 rfl (lv_at hl 0 rfl) ?_
  refine k_get C0 fg_X5_21 hP 0 rfl rfl dX5_wordIn_1 ?_
  refine lv_iconst (v := 1) hx hb dX5_wordIn_4 (by decide) ?_
  refine lv_icmp_eq (tgt := 10) hx hb dX5_wordIn_5 (by decide) (fun c52 => ?_) (fun c52 => ?_)
  · have h53 := ib_eq hx_this_sort (ib_c 1 1 1 (by decide)) c52
    have h54 : ib x_this_sort 1 1 := ib_w 1 1 h53.1 (by decide)
    have h55 : ib x_this_at 0 1599 := ib_w 0 1599 (ib_two hx_this_at (hc0_this (ib_nz h54 (by decide)))) (by decide)
    refine lv_iconst (v := 0) hx hb dX5_wordIn_10 (by decide) ?_
    refine lv_istore_n (lv' := [(2, .int 0), (0, .ref a_this), (1, .ref (sq 0))]) hx hb dX5_wordIn_11 rfl hl (by decide) rfl (fun ls hl => ?_)
    refine lv_aload_n hx hb dX5_wordIn_12 rfl (lv_at hl 1 rfl) ?_
    refine k_get C0 fg_X5_15 hP 0 rfl rfl dX5_wordIn_13 ?_
    refine lv_istore_n (lv' := [(3, .int x_this_at), (2, .int 0), (0, .ref a_this), (1, .ref (sq 0))]) hx hb dX5_wordIn_16 rfl hl (by decide) rfl (fun ls hl => ?_)
    refine lv_iconst (v := 1) hx hb dX5_wordIn_17 (by decide) ?_
    refine lv_istore (lv' := [(4, .int 1), (3, .int x_this_at), (2, .int 0), (0, .ref a_this), (1, .ref (sq 0))]) hx hb dX5_wordIn_18 hl (by decide) rfl (fun ls hl => ?_)
    refine lv_iconst (v := 0) hx hb dX5_wordIn_20 (by decide) ?_
    refine lv_istore (lv' := [(5, .int 0), (4, .int 1), (3, .int x_this_at), (2, .int 0), (0, .ref a_this), (1, .ref (sq 0))]) hx hb dX5_wordIn_21 hl (by decide) rfl (fun ls hl => ?_)
    exact jn23 33 0 x_this_at 1 0 H locs ls (ib_w 0 1599 h55 (by decide)) (ib_w 1 1 h54 (by decide)) (ib_w 0 1630 h55 (by decide)) (ib_w 0 1 (ib_c 1 1 1 (by decide)) (by decide)) (ib_w 0 31 (ib_c 0 0 0 (by decide)) (by decide)) (by have : (0 : Int32).toInt = 0 := (by decide); have := (h55).1; have := (h55).2; omega) (by have := (ib_c 0 0 0 (by decide)); unfold ib at this; omega) hP hD hS (lv_sub hl [4, 5, 3, 2, 1, 0] rfl)
  · skip
    refine lv_iconst (v := (-1)) hx hb dX5_wordIn_8 (by decide) ?_
    subst hQ; exact k_iret hx hb hr hlk rfl () hS True.intro hP hD (Nat.le_of_ble_eq_true rfl) (Nat.le_of_ble_eq_true rfl) dX5_wordIn_9
set_option maxHeartbeats 4000000 in
set_option maxRecDepth 100000 in
theorem s_X5_wordIn_s1 (l : Launch) (dC : Nat → ClassId) (dI : Nat → Nat → Nat) (cy : Nat → ClassId) (sq : Nat → Nat) (a_this : Nat) (a_this_text : Nat) (g_this_text : Nat → Int32) (x_this_length : Int32) (x_this_at : Int32) (x_this_behind : Int32) (x_this_sort : Int32) (x_this_allowed : Int32) (a_this_plan : Nat) (x_this_fault : Int32) (x_this_place : Int32) (hg_this_text : ia g_this_text 1600 0 255) (hx_this_at : ib x_this_at 0 1600) (hx_this_behind : ib x_this_behind 0 1600) (hx_this_sort : ib x_this_sort 0 4) (hc0_this : ¬ x_this_sort = 0 → ib x_this_at 0 1599) : k_Met l yX5_wordIn cX5_wordIn 6 (some .int) { frames := 4, cells := 0, slots := 0, locals := 141 } dC dI cy sq [.ref a_this, .ref (sq 1)] [(a_this, .inr (5, [.ref a_this_text, .int x_this_length, .int x_this_at, .int x_this_behind, .int x_this_sort, .int x_this_allowed, .ref a_this_plan, .int x_this_fault, .int x_this_place])), (a_this_text, .inl (cy 0, 1600, .inl g_this_text))] (k_Qi dC dI (fun (r : Int32) (_ : Unit) => True) (fun _ : Unit => [(a_this, .inr (5, [.ref a_this_text, .int x_this_length, .int x_this_at, .int x_this_behind, .int x_this_sort, .int x_this_allowed, .ref a_this_plan, .int x_this_fault, .int x_this_place])), (a_this_text, .inl (cy 0, 1600, .inl g_this_text))])) := by
  refine k_ofW2 (by decide +kernel) (Nat.le_of_ble_eq_true rfl) ?_
  intro p e s m below meth c A ls H locs args Q hQ C0 hZ hr hlk hin hP hD hA hS hl
  have C0 : k_cx p s m args c cX5_wordIn 6 RX5 dC dI cy sq := C0
  have hx := C0.1
  have hb := C0.2.1
  have hl : lv_has ls 6 [(0, .ref a_this), (1, .ref (sq 1))] := hl
  have jn23 : ∀ (n : Nat) (J23_l2 : Int32) (J23_l3 : Int32) (J23_l4 : Int32) (J23_l5 : Int32) (H : Heap) (locs : List Loc) (ls : Array Slot), ib x_this_at 0 1599 → ib x_this_sort 1 1 → ib J23_l3 0 1604 → ib J23_l4 0 1 → ib J23_l5 0 5 → (1 * J23_l3.toInt + (-1) * J23_l5.toInt ≤ 1600) → 6 ≤ J23_l5.toInt + (n : Int) → va_P (dC, dI) vwCl [(a_this, .inr (5, [.ref a_this_text, .int x_this_length, .int x_this_at, .int x_this_behind, .int x_this_sort, .int x_this_allowed, .ref a_this_plan, .int x_this_fault, .int x_this_place])), (a_this_text, .inl (cy 0, 1600, .inl g_this_text))] H → va_D A [(a_this, .inr (5, [.ref a_this_text, .int x_this_length, .int x_this_at, .int x_this_behind, .int x_this_sort, .int x_this_allowed, .ref a_this_plan, .int x_this_fault, .int x_this_place])), (a_this_text, .inl (cy 0, 1600, .inl g_this_text))] → va_S A s.heap H locs → lv_has ls 6 [(0, .ref a_this), (1, .ref (sq 1)), (2, .int J23_l2), (3, .int J23_l3), (4, .int J23_l4), (5, .int J23_l5)] → W p l e { frames := 4, cells := 0, slots := 0, locals := 141 } s m args below meth c H locs 0 0 Q (F0 m 23 ls []) := by
    intro n
    induction n with
    | zero =>
      intro J23_l2 J23_l3 J23_l4 J23_l5 H locs ls hK23_x_this_at hK23_x_this_sort hJ23_l3 hJ23_l4 hJ23_l5 hJ23_lin0 hm
      exact absurd hm (by have := hJ23_l5; unfold ib at this; omega)
    | succ n ih =>
      intro J23_l2 J23_l3 J23_l4 J23_l5 H locs ls hK23_x_this_at hK23_x_this_sort hJ23_l3 hJ23_l4 hJ23_l5 hJ23_lin0 hm23 hP hD hS hl
      have ih23 := ih
      have jn119 : ∀ (J119_l2 : Int32) (J119_l3 : Int32) (J119_l4 : Int32) (H : Heap) (locs : List Loc) (ls : Array Slot), ib x_this_at 0 1599 → ib J23_l5 0 4 → ib x_this_sort 1 1 → ib J119_l3 0 1604 → ib J119_l4 0 1 → (1 * J119_l3.toInt + (-1) * J23_l5.toInt ≤ 1601) → va_P (dC, dI) vwCl [(a_this, .inr (5, [.ref a_this_text, .int x_this_length, .int x_this_at, .int x_this_behind, .int x_this_sort, .int x_this_allowed, .ref a_this_plan, .int x_this_fault, .int x_this_place])), (a_this_text, .inl (cy 0, 1600, .inl g_this_text))] H → va_D A [(a_this, .inr (5, [.ref a_this_text, .int x_this_length, .int x_this_at, .int x_this_behind, .int x_this_sort, .int x_this_allowed, .ref a_this_plan, .int x_this_fault, .int x_this_place])), (a_this_text, .inl (cy 0, 1600, .inl g_this_text))] → va_S A s.heap H locs → lv_has ls 6 [(0, .ref a_this), (1, .ref (sq 1)), (2, .int J119_l2), (3, .int J119_l3), (4, .int J119_l4), (5, .int J23_l5)] → W p l e { frames := 4, cells := 0, slots := 0, locals := 141 } s m args below meth c H locs 0 0 Q (F0 m 119 ls []) := by
        intro J119_l2 J119_l3 J119_l4 H locs ls hK119_x_this_at hK119_J23_l5 hK119_x_this_sort hJ119_l3 hJ119_l4 hJ119_lin0 hP hD hS hl
        obtain ⟨z1, ez1⟩ : ∃ y : Int32, y = J23_l5 + 1 := ⟨_, rfl⟩
        refine lv_iinc (v := z1) (lv' := [(5, .int z1), (0, .ref a_this), (1, .ref (sq 1)), (2, .int J119_l2), (3, .int J119_l3), (4, .int J119_l4)]) hx hb dX5_wordIn_119 hl (k := 5) rfl (by rw [ez1]; rfl) (by decide) rfl (fun ls hl => ?_)
        have h2 := ib_add hK119_J23_l5 (ib_c 1 1 1 (by decide)) (by decide)
        rw [← ez1] at h2
        have h3 : ib z1 1 5 := ib_w 1 5 h2.1 (by decide)
        refine lv_goto (tgt := 23) hx hb dX5_wordIn_122 (by decide) ?_
        exact ih23 J119_l2 J119_l3 J119_l4 z1 H locs ls (ib_w 0 1599 hK119_x_this_at (by decide)) (ib_w 1 1 hK119_x_this_sort (by decide)) (ib_w 0 1604 hJ119_l3 (by decide)) (ib_w 0 1 hJ119_l4 (by decide)) (ib_w 0 5 h3 (by decide)) (by have := (h3).1; have := (h3).2; have := h2.2; have : (1 : Int32).toInt = 1 := (by decide); have := (hK119_J23_l5).1; have := (hK119_J23_l5).2; have := hJ23_lin0; have := hJ119_lin0; have := (hJ119_l3).1; have := (hJ119_l3).2; have := (hJ23_l3).1; have := (hJ23_l3).2; omega) (by have := h2.2; have : (1 : Int32).toInt = 1 := (by decide); omega) hP hD hS (lv_sub hl [1, 2, 3, 4, 5, 0] rfl)
      have jn114 : ∀ (J114_s0 : Int32) (H : Heap) (locs : List Loc) (ls : Array Slot), ib J23_l3 0 1603 → ib J23_l4 0 1 → ib J23_l5 0 3 → ib x_this_at 0 1599 → ib x_this_sort 1 1 → ib J114_s0 0 1 → (1 * J23_l3.toInt + (-1) * J23_l5.toInt ≤ 1600) → va_P (dC, dI) vwCl [(a_this, .inr (5, [.ref a_this_text, .int x_this_length, .int x_this_at, .int x_this_behind, .int x_this_sort, .int x_this_allowed, .ref a_this_plan, .int x_this_fault, .int x_this_place])), (a_this_text, .inl (cy 0, 1600, .inl g_this_text))] H → va_D A [(a_this, .inr (5, [.ref a_this_text, .int x_this_length, .int x_this_at, .int x_this_behind, .int x_this_sort, .int x_this_allowed, .ref a_this_plan, .int x_this_fault, .int x_this_place])), (a_this_text, .inl (cy 0, 1600, .inl g_this_text))] → va_S A s.heap H locs → lv_has ls 6 [(0, .ref a_this), (1, .ref (sq 1)), (2, .int J23_l2), (3, .int J23_l3), (4, .int J23_l4), (5, .int J23_l5)] → W p l e { frames := 4, cells := 0, slots := 0, locals := 141 } s m args below meth c H locs 0 0 Q (F0 m 114 ls [.int J114_s0]) := by
        intro J114_s0 H locs ls hK114_J23_l3 hK114_J23_l4 hK114_J23_l5 hK114_x_this_at hK114_x_this_sort hJ114_s0 hJ114_lin0 hP hD hS hl
        refine lv_istore (lv' := [(4, .int J114_s0), (0, .ref a_this), (1, .ref (sq 1)), (2, .int J23_l2), (3, .int J23_l3), (5, .int J23_l5)]) hx hb dX5_wordIn_114 hl (by decide) rfl (fun ls hl => ?_)
        obtain ⟨z4, ez4⟩ : ∃ y : Int32, y = J23_l3 + 1 := ⟨_, rfl⟩
        refine lv_iinc (v := z4) (lv' := [(3, .int z4), (4, .int J114_s0), (0, .ref a_this), (1, .ref (sq 1)), (2, .int J23_l2), (5, .int J23_l5)]) hx hb dX5_wordIn_116 hl (k := 4) rfl (by rw [ez4]; rfl) (by decide) rfl (fun ls hl => ?_)
        have h5 := ib_add hK114_J23_l3 (ib_c 1 1 1 (by decide)) (by decide)
        rw [← ez4] at h5
        have h6 : ib z4 1 1604 := ib_w 1 1604 h5.1 (by decide)
        exact jn119 J23_l2 z4 J114_s0 H locs ls (ib_w 0 1599 hK114_x_this_at (by decide)) (ib_w 0 4 hK114_J23_l5 (by decide)) (ib_w 1 1 hK114_x_this_sort (by decide)) (ib_w 0 1604 h6 (by decide)) (ib_w 0 1 hJ114_s0 (by decide)) (by have := (hK114_J23_l5).1; have := (hK114_J23_l5).2; have := hJ23_lin0; have := hJ114_lin0; have := (hK114_J23_l3).1; have := (hK114_J23_l3).2; have := (h6).1; have := (h6).2; have := h5.2; have : (1 : Int32).toInt = 1 := (by decide); omega) hP hD hS (lv_sub hl [2, 3, 4, 0, 1, 5] rfl)
      have jn113 : ∀  (H : Heap) (locs : List Loc) (ls : Array Slot), ib J23_l3 0 1603 → ib J23_l4 0 1 → ib J23_l5 0 3 → ib x_this_at 0 1599 → ib x_this_sort 1 1 → (1 * J23_l3.toInt + (-1) * J23_l5.toInt ≤ 1600) → va_P (dC, dI) vwCl [(a_this, .inr (5, [.ref a_this_text, .int x_this_length, .int x_this_at, .int x_this_behind, .int x_this_sort, .int x_this_allowed, .ref a_this_plan, .int x_this_fault, .int x_this_place])), (a_this_text, .inl (cy 0, 1600, .inl g_this_text))] H → va_D A [(a_this, .inr (5, [.ref a_this_text, .int x_this_length, .int x_this_at, .int x_this_behind, .int x_this_sort, .int x_this_allowed, .ref a_this_plan, .int x_this_fault, .int x_this_place])), (a_this_text, .inl (cy 0, 1600, .inl g_this_text))] → va_S A s.heap H locs → lv_has ls 6 [(0, .ref a_this), (1, .ref (sq 1)), (2, .int J23_l2), (3, .int J23_l3), (4, .int J23_l4), (5, .int J23_l5)] → W p l e { frames := 4, cells := 0, slots := 0, locals := 141 } s m args below meth c H locs 0 0 Q (F0 m 113 ls []) := by
        intro H locs ls hK113_J23_l3 hK113_J23_l4 hK113_J23_l5 hK113_x_this_at hK113_x_this_sort hJ113_lin0 hP hD hS hl
        refine lv_iconst (v := 0) hx hb dX5_wordIn_113 (by decide) ?_
        exact jn114 0 H locs ls (ib_w 0 1603 hK113_J23_l3 (by decide)) (ib_w 0 1 hK113_J23_l4 (by decide)) (ib_w 0 3 hK113_J23_l5 (by decide)) (ib_w 0 1599 hK113_x_this_at (by decide)) (ib_w 1 1 hK113_x_this_sort (by decide)) (ib_w 0 1 (ib_c 0 0 0 (by decide)) (by decide)) (by have := (hK113_J23_l5).1; have := (hK113_J23_l5).2; have := hJ23_lin0; have := hJ113_lin0; have := (hK113_J23_l3).1; have := (hK113_J23_l3).2; omega) hP hD hS (lv_sub hl [0, 1, 2, 3, 4, 5] rfl)
      have jn67 : ∀  (H : Heap) (locs : List Loc) (ls : Array Slot), ib J23_l3 0 1604 → ib J23_l4 0 1 → ib J23_l5 0 4 → ib x_this_at 0 1599 → ib x_this_sort 1 1 → va_P (dC, dI) vwCl [(a_this, .inr (5, [.ref a_this_text, .int x_this_length, .int x_this_at, .int x_this_behind, .int x_this_sort, .int x_this_allowed, .ref a_this_plan, .int x_this_fault, .int x_this_place])), (a_this_text, .inl (cy 0, 1600, .inl g_this_text))] H → va_D A [(a_this, .inr (5, [.ref a_this_text, .int x_this_length, .int x_this_at, .int x_this_behind, .int x_this_sort, .int x_this_allowed, .ref a_this_plan, .int x_this_fault, .int x_this_place])), (a_this_text, .inl (cy 0, 1600, .inl g_this_text))] → va_S A s.heap H locs → lv_has ls 6 [(0, .ref a_this), (1, .ref (sq 1)), (2, .int J23_l2), (3, .int J23_l3), (4, .int J23_l4), (5, .int J23_l5)] → W p l e { frames := 4, cells := 0, slots := 0, locals := 141 } s m args below meth c H locs 0 0 Q (F0 m 67 ls []) := by
        intro H locs ls hK67_J23_l3 hK67_J23_l4 hK67_J23_l5 hK67_x_this_at hK67_x_this_sort hP hD hS hl
        obtain ⟨z7, ez7⟩ : ∃ y : Int32, y = J23_l2 + 1 := ⟨_, rfl⟩
        refine lv_iinc (v := z7) (lv' := [(2, .int z7), (0, .ref a_this), (1, .ref (sq 1)), (3, .int J23_l3), (4, .int J23_l4), (5, .int J23_l5)]) hx hb dX5_wordIn_67 hl (k := 2) rfl (by rw [ez7]; rfl) (by decide) rfl (fun ls hl => ?_)
        refine lv_aload_n hx hb dX5_wordIn_70 rfl (lv_at hl 1 rfl) ?_
        refine k_get C0 fg_X5_15 hP 0 rfl rfl dX5_wordIn_71 ?_
        refine lv_istore_n (lv' := [(3, .int x_this_at), (2, .int z7), (0, .ref a_this), (1, .ref (sq 1)), (4, .int J23_l4), (5, .int J23_l5)]) hx hb dX5_wordIn_74 rfl hl (by decide) rfl (fun ls hl => ?_)
        refine lv_iconst (v := 1) hx hb dX5_wordIn_75 (by decide) ?_
        refine lv_istore (lv' := [(4, .int 1), (3, .int x_this_at), (2, .int z7), (0, .ref a_this), (1, .ref (sq 1)), (5, .int J23_l5)]) hx hb dX5_wordIn_76 hl (by decide) rfl (fun ls hl => ?_)
        refine lv_goto (tgt := 119) hx hb dX5_wordIn_78 (by decide) ?_
        exact jn119 z7 x_this_at 1 H locs ls (ib_w 0 1599 hK67_x_this_at (by decide)) (ib_w 0 4 hK67_J23_l5 (by decide)) (ib_w 1 1 hK67_x_this_sort (by decide)) (ib_w 0 1604 hK67_x_this_at (by decide)) (ib_w 0 1 (ib_c 1 1 1 (by decide)) (by decide)) (by have := (hK67_J23_l5).1; have := (hK67_J23_l5).2; have := hJ23_lin0; have := (hK67_J23_l3).1; have := (hK67_J23_l3).2; have := (hK67_x_this_at).1; have := (hK67_x_this_at).2; omega) hP hD hS (lv_sub hl [3, 4, 2, 1, 0, 5] rfl)
      have jn52 : ∀  (H : Heap) (locs : List Loc) (ls : Array Slot), ib J23_l3 0 1604 → ib J23_l4 0 1 → ib J23_l5 0 4 → ib x_this_at 0 1599 → ib x_this_sort 1 1 → va_P (dC, dI) vwCl [(a_this, .inr (5, [.ref a_this_text, .int x_this_length, .int x_this_at, .int x_this_behind, .int x_this_sort, .int x_this_allowed, .ref a_this_plan, .int x_this_fault, .int x_this_place])), (a_this_text, .inl (cy 0, 1600, .inl g_this_text))] H → va_D A [(a_this, .inr (5, [.ref a_this_text, .int x_this_length, .int x_this_at, .int x_this_behind, .int x_this_sort, .int x_this_allowed, .ref a_this_plan, .int x_this_fault, .int x_this_place])), (a_this_text, .inl (cy 0, 1600, .inl g_this_text))] → va_S A s.heap H locs → lv_has ls 6 [(0, .ref a_this), (1, .ref (sq 1)), (2, .int J23_l2), (3, .int J23_l3), (4, .int J23_l4), (5, .int J23_l5)] → W p l e { frames := 4, cells := 0, slots := 0, locals := 141 } s m args below meth c H locs 0 0 Q (F0 m 52 ls []) := by
        intro H locs ls hK52_J23_l3 hK52_J23_l4 hK52_J23_l5 hK52_x_this_at hK52_x_this_sort hP hD hS hl
        refine lv_iload hx hb dX5_wordIn_52 (lv_at hl 4 rfl) ?_
        refine lv_if_eq (tgt := 67) hx hb dX5_wordIn_54 (by decide) (fun c8 => ?_) (fun c8 => ?_)
        · have h9 := ib_eq hK52_J23_l4 (ib_c 0 0 0 (by decide)) c8
          have h10 : ib J23_l4 0 0 := ib_w 0 0 h9.1 (by decide)
          exact jn67  H locs ls (ib_w 0 1604 hK52_J23_l3 (by decide)) (ib_w 0 1 h10 (by decide)) (ib_w 0 4 hK52_J23_l5 (by decide)) (ib_w 0 1599 hK52_x_this_at (by decide)) (ib_w 1 1 hK52_x_this_sort (by decide)) hP hD hS (lv_sub hl [0, 1, 2, 3, 4, 5] rfl)
        · have h11 : ib J23_l4 1 1 := ib_w 1 1 (ib_ne_lo 0 hK52_J23_l4 (by decide) c8) (by decide)
          refine lv_iload_n hx hb dX5_wordIn_57 rfl (lv_at hl 3 rfl) ?_
          refine lv_aload_n hx hb dX5_wordIn_58 rfl (lv_at hl 0 rfl) ?_
          refine k_get C0 fg_X5_18 hP 0 rfl rfl dX5_wordIn_59 ?_
          refine lv_icmp_ne (tgt := 67) hx hb dX5_wordIn_62 (by decide) (fun c12 => ?_) (fun c12 => ?_)
          · skip
            exact jn67  H locs ls (ib_w 0 1604 hK52_J23_l3 (by decide)) (ib_w 0 1 h11 (by decide)) (ib_w 0 4 hK52_J23_l5 (by decide)) (ib_w 0 1599 hK52_x_this_at (by decide)) (ib_w 1 1 hK52_x_this_sort (by decide)) hP hD hS (lv_sub hl [0, 1, 2, 3, 4, 5] rfl)
          · have h13 := ib_eq hK52_J23_l3 hx_this_behind c12
            have h14 : ib J23_l3 0 1600 := ib_w 0 1600 h13.1 (by decide)
            refine lv_iload_n hx hb dX5_wordIn_65 rfl (lv_at hl 2 rfl) ?_
            subst hQ; exact k_iret hx hb hr hlk rfl () hS True.intro hP hD (Nat.le_of_ble_eq_true rfl) (Nat.le_of_ble_eq_true rfl) dX5_wordIn_66
      refine lv_iload hx hb dX5_wordIn_23 (lv_at hl 5 rfl) ?_
      refine lv_aload_n hx hb dX5_wordIn_25 rfl (lv_at hl 1 rfl) ?_
      refine k_ji hP hD hS hA [] [0, 1] (wr := [(a_this, .inr (5, [.ref a_this_text, .int x_this_length, .int x_this_at, .int x_this_behind, .int x_this_sort, .int x_this_allowed, .ref a_this_plan, .int x_this_fault, .int x_this_place])), (a_this_text, .inl (cy 0, 1600, .inl g_this_text))]) rfl rfl (by decide) (by decide) (by decide) 0 0 (Nat.le_of_ble_eq_true rfl) (Nat.le_of_ble_eq_true rfl) (fun hPc hDc => k_runVO (As := []) (rest := [.int J23_l5]) C0 hZ hS hA (c_length l dC dI cy sq 1 (by decide)) mV_X5_244 hPc hDc (vk_recv hZ.1 (by decide) hS) hl rfl rfl (Nat.le_of_ble_eq_true rfl) ⟨(Nat.le_of_ble_eq_true rfl), (Nat.le_of_ble_eq_true rfl)⟩ ⟨(Nat.le_of_ble_eq_true rfl), (Nat.le_of_ble_eq_true rfl)⟩ dX5_wordIn_26) (fun r15 u16 H locs hw hP hD hS => ?_)
      have hP : va_P (dC, dI) vwCl [(a_this, .inr (5, [.ref a_this_text, .int x_this_length, .int x_this_at, .int x_this_behind, .int x_this_sort, .int x_this_allowed, .ref a_this_plan, .int x_this_fault, .int x_this_place])), (a_this_text, .inl (cy 0, 1600, .inl g_this_text))] H := hP
      have hD : va_D A [(a_this, .inr (5, [.ref a_this_text, .int x_this_length, .int x_this_at, .int x_this_behind, .int x_this_sort, .int x_this_allowed, .ref a_this_plan, .int x_this_fault, .int x_this_place])), (a_this_text, .inl (cy 0, 1600, .inl g_this_text))] := hD
      obtain rfl : r15 = 4 := hw.trans (by decide)
      refine lv_icmp_gt (tgt := 125) hx hb dX5_wordIn_29 (by decide) (fun c17 => ?_) (fun c17 => ?_)
      · have h18 := ib_lt (ib_c 4 4 4 (by decide)) hJ23_l5 c17
        have h19 : ib J23_l5 5 5 := ib_w 5 5 h18.2 (by decide)
        refine lv_iconst (v := (-1)) hx hb dX5_wordIn_125 (by decide) ?_
        subst hQ; exact k_iret hx hb hr hlk rfl () hS True.intro hP hD (Nat.le_of_ble_eq_true rfl) (Nat.le_of_ble_eq_true rfl) dX5_wordIn_126
      · have h20 := ib_nlt (ib_c 4 4 4 (by decide)) hJ23_l5 c17
        have h21 : ib J23_l5 0 4 := ib_w 0 4 h20.2 (by decide)
        refine lv_iload hx hb dX5_wordIn_32 (lv_at hl 5 rfl) ?_
        refine lv_aload_n hx hb dX5_wordIn_34 rfl (lv_at hl 1 rfl) ?_
        refine k_ji hP hD hS hA [] [0, 1] (wr := [(a_this, .inr (5, [.ref a_this_text, .int x_this_length, .int x_this_at, .int x_this_behind, .int x_this_sort, .int x_this_allowed, .ref a_this_plan, .int x_this_fault, .int x_this_place])), (a_this_text, .inl (cy 0, 1600, .inl g_this_text))]) rfl rfl (by decide) (by decide) (by decide) 0 0 (Nat.le_of_ble_eq_true rfl) (Nat.le_of_ble_eq_true rfl) (fun hPc hDc => k_runVO (As := []) (rest := [.int J23_l5]) C0 hZ hS hA (c_length l dC dI cy sq 1 (by decide)) mV_X5_244 hPc hDc (vk_recv hZ.1 (by decide) hS) hl rfl rfl (Nat.le_of_ble_eq_true rfl) ⟨(Nat.le_of_ble_eq_true rfl), (Nat.le_of_ble_eq_true rfl)⟩ ⟨(Nat.le_of_ble_eq_true rfl), (Nat.le_of_ble_eq_true rfl)⟩ dX5_wordIn_35) (fun r22 u23 H locs hw hP hD hS => ?_)
        have hP : va_P (dC, dI) vwCl [(a_this, .inr (5, [.ref a_this_text, .int x_this_length, .int x_this_at, .int x_this_behind, .int x_this_sort, .int x_this_allowed, .ref a_this_plan, .int x_this_fault, .int x_this_place])), (a_this_text, .inl (cy 0, 1600, .inl g_this_text))] H := hP
        have hD : va_D A [(a_this, .inr (5, [.ref a_this_text, .int x_this_length, .int x_this_at, .int x_this_behind, .int x_this_sort, .int x_this_allowed, .ref a_this_plan, .int x_this_fault, .int x_this_place])), (a_this_text, .inl (cy 0, 1600, .inl g_this_text))] := hD
        obtain rfl : r22 = 4 := hw.trans (by decide)
        refine lv_icmp_eq (tgt := 52) hx hb dX5_wordIn_38 (by decide) (fun c24 => ?_) (fun c24 => ?_)
        · have h25 := ib_eq h21 (ib_c 4 4 4 (by decide)) c24
          have h26 : ib J23_l5 4 4 := ib_w 4 4 h25.1 (by decide)
          exact jn52  H locs ls (ib_w 0 1604 hJ23_l3 (by decide)) (ib_w 0 1 hJ23_l4 (by decide)) (ib_w 0 4 h26 (by decide)) (ib_w 0 1599 hK23_x_this_at (by decide)) (ib_w 1 1 hK23_x_this_sort (by decide)) hP hD hS (lv_sub hl [0, 1, 2, 3, 4, 5] rfl)
        · have h27 : ib J23_l5 0 3 := ib_w 0 3 (ib_ne_hi 4 h21 (by decide) c24) (by decide)
          refine lv_aload_n hx hb dX5_wordIn_41 rfl (lv_at hl 1 rfl) ?_
          refine lv_iload hx hb dX5_wordIn_42 (lv_at hl 5 rfl) ?_
          refine k_ji hP hD hS hA [] [0, 1] (wr := [(a_this, .inr (5, [.ref a_this_text, .int x_this_length, .int x_this_at, .int x_this_behind, .int x_this_sort, .int x_this_allowed, .ref a_this_plan, .int x_this_fault, .int x_this_place])), (a_this_text, .inl (cy 0, 1600, .inl g_this_text))]) rfl rfl (by decide) (by decide) (by decide) 0 0 (Nat.le_of_ble_eq_true rfl) (Nat.le_of_ble_eq_true rfl) (fun hPc hDc => k_runVO (As := [.int J23_l5]) (rest := []) C0 hZ hS hA (c_charAt l dC dI cy sq 1 (by decide) J23_l5 (ib_ch 1 4 h27 rfl (by decide)).1 (ib_ch 1 4 h27 rfl (by decide)).2.1 (ib_ch 1 4 h27 rfl (by decide)).2.2) mV_X5_248 hPc hDc (vk_recv hZ.1 (by decide) hS) hl rfl rfl (Nat.le_of_ble_eq_true rfl) ⟨(Nat.le_of_ble_eq_true rfl), (Nat.le_of_ble_eq_true rfl)⟩ ⟨(Nat.le_of_ble_eq_true rfl), (Nat.le_of_ble_eq_true rfl)⟩ dX5_wordIn_44) (fun r28 u29 H locs hw hP hD hS => ?_)
          have hP : va_P (dC, dI) vwCl [(a_this, .inr (5, [.ref a_this_text, .int x_this_length, .int x_this_at, .int x_this_behind, .int x_this_sort, .int x_this_allowed, .ref a_this_plan, .int x_this_fault, .int x_this_place])), (a_this_text, .inl (cy 0, 1600, .inl g_this_text))] H := hP
          have hD : va_D A [(a_this, .inr (5, [.ref a_this_text, .int x_this_length, .int x_this_at, .int x_this_behind, .int x_this_sort, .int x_this_allowed, .ref a_this_plan, .int x_this_fault, .int x_this_place])), (a_this_text, .inl (cy 0, 1600, .inl g_this_text))] := hD
          refine lv_bipush (v := 32) hx hb dX5_wordIn_47 (by decide) ?_
          refine lv_icmp_ne (tgt := 81) hx hb dX5_wordIn_49 (by decide) (fun c30 => ?_) (fun c30 => ?_)
          · skip
            refine lv_iload hx hb dX5_wordIn_81 (lv_at hl 4 rfl) ?_
            refine lv_if_eq (tgt := 113) hx hb dX5_wordIn_83 (by decide) (fun c31 => ?_) (fun c31 => ?_)
            · have h32 := ib_eq hJ23_l4 (ib_c 0 0 0 (by decide)) c31
              have h33 : ib J23_l4 0 0 := ib_w 0 0 h32.1 (by decide)
              have h34 : ib J23_l3 0 1603 := ⟨(hJ23_l3).1, by have := (hJ23_l3).1; have := (hJ23_l3).2; have := hJ23_lin0; have := (h27).1; have := (h27).2; omega⟩
              exact jn113  H locs ls (ib_w 0 1603 h34 (by decide)) (ib_w 0 1 h33 (by decide)) (ib_w 0 3 h27 (by decide)) (ib_w 0 1599 hK23_x_this_at (by decide)) (ib_w 1 1 hK23_x_this_sort (by decide)) (by have := (h27).1; have := (h27).2; have := hJ23_lin0; have := (h34).1; have := (h34).2; omega) hP hD hS (lv_sub hl [0, 1, 2, 3, 4, 5] rfl)
            · have h35 : ib J23_l4 1 1 := ib_w 1 1 (ib_ne_lo 0 hJ23_l4 (by decide) c31) (by decide)
              refine lv_iload_n hx hb dX5_wordIn_86 rfl (lv_at hl 3 rfl) ?_
              refine lv_aload_n hx hb dX5_wordIn_87 rfl (lv_at hl 0 rfl) ?_
              refine k_get C0 fg_X5_18 hP 0 rfl rfl dX5_wordIn_88 ?_
              refine lv_icmp_ge (tgt := 113) hx hb dX5_wordIn_91 (by decide) (fun c36 => ?_) (fun c36 => ?_)
              · have h37 := ib_le hx_this_behind hJ23_l3 c36
                have h38 : ib J23_l3 0 1603 := ⟨(hJ23_l3).1, by have := (hJ23_l3).1; have := (hJ23_l3).2; have := hJ23_lin0; have := (h27).1; have := (h27).2; omega⟩
                exact jn113  H locs ls (ib_w 0 1603 h38 (by decide)) (ib_w 0 1 h35 (by decide)) (ib_w 0 3 h27 (by decide)) (ib_w 0 1599 hK23_x_this_at (by decide)) (ib_w 1 1 hK23_x_this_sort (by decide)) (by have := (h27).1; have := (h27).2; have := hJ23_lin0; have := (h38).1; have := (h38).2; omega) hP hD hS (lv_sub hl [0, 1, 2, 3, 4, 5] rfl)
              · have h39 := ib_nle hx_this_behind hJ23_l3 c36
                have h40 : ib x_this_behind 1 1600 := ib_w 1 1600 h39.1 (by decide)
                have h41 : ib J23_l3 0 1599 := ib_w 0 1599 h39.2 (by decide)
                refine lv_aload_n hx hb dX5_wordIn_94 rfl (lv_at hl 0 rfl) ?_
                refine k_get C0 fg_X5_33 hP 0 rfl rfl dX5_wordIn_95 ?_
                refine lv_iload_n hx hb dX5_wordIn_98 rfl (lv_at hl 3 rfl) ?_
                refine va_iald hx hb C0.2.2.2.2.2.1 hP 1 0 rfl rfl (ib_in 1600 h41 (by decide)) dX5_wordIn_99 ?_
                refine lv_topi (fun z42 ez42 => ?_)
                have h43 : ib z42 0 255 := by rw [ez42]; exact ia_at hg_this_text (ib_in 1600 h41 (by decide))
                refine lv_aload_n hx hb dX5_wordIn_100 rfl (lv_at hl 1 rfl) ?_
                refine lv_iload hx hb dX5_wordIn_101 (lv_at hl 5 rfl) ?_
                refine k_ji hP hD hS hA [] [0, 1] (wr := [(a_this, .inr (5, [.ref a_this_text, .int x_this_length, .int x_this_at, .int x_this_behind, .int x_this_sort, .int x_this_allowed, .ref a_this_plan, .int x_this_fault, .int x_this_place])), (a_this_text, .inl (cy 0, 1600, .inl g_this_text))]) rfl rfl (by decide) (by decide) (by decide) 0 0 (Nat.le_of_ble_eq_true rfl) (Nat.le_of_ble_eq_true rfl) (fun hPc hDc => k_runVO (As := [.int J23_l5]) (rest := [.int z42]) C0 hZ hS hA (c_charAt l dC dI cy sq 1 (by decide) J23_l5 (ib_ch 1 4 h27 rfl (by decide)).1 (ib_ch 1 4 h27 rfl (by decide)).2.1 (ib_ch 1 4 h27 rfl (by decide)).2.2) mV_X5_248 hPc hDc (vk_recv hZ.1 (by decide) hS) hl rfl rfl (Nat.le_of_ble_eq_true rfl) ⟨(Nat.le_of_ble_eq_true rfl), (Nat.le_of_ble_eq_true rfl)⟩ ⟨(Nat.le_of_ble_eq_true rfl), (Nat.le_of_ble_eq_true rfl)⟩ dX5_wordIn_103) (fun r44 u45 H locs hw hP hD hS => ?_)
                have hP : va_P (dC, dI) vwCl [(a_this, .inr (5, [.ref a_this_text, .int x_this_length, .int x_this_at, .int x_this_behind, .int x_this_sort, .int x_this_allowed, .ref a_this_plan, .int x_this_fault, .int x_this_place])), (a_this_text, .inl (cy 0, 1600, .inl g_this_text))] H := hP
                have hD : va_D A [(a_this, .inr (5, [.ref a_this_text, .int x_this_length, .int x_this_at, .int x_this_behind, .int x_this_sort, .int x_this_allowed, .ref a_this_plan, .int x_this_fault, .int x_this_place])), (a_this_text, .inl (cy 0, 1600, .inl g_this_text))] := hD
                refine lv_icmp_ne (tgt := 113) hx hb dX5_wordIn_106 (by decide) (fun c46 => ?_) (fun c46 => ?_)
                · skip
                  exact jn113  H locs ls (ib_w 0 1603 h41 (by decide)) (ib_w 0 1 h35 (by decide)) (ib_w 0 3 h27 (by decide)) (ib_w 0 1599 hK23_x_this_at (by decide)) (ib_w 1 1 hK23_x_this_sort (by decide)) (by have := (h27).1; have := (h27).2; have := hJ23_lin0; have := (h41).1; have := (h41).2; omega) hP hD hS (lv_sub hl [0, 1, 2, 3, 4, 5] rfl)
                · have h47 := ib_eq h43 (ib_any r44) c46
                  have h48 : ib r44 0 255 := ib_w 0 255 h47.2 (by decide)
                  refine lv_iconst (v := 1) hx hb dX5_wordIn_109 (by decide) ?_
                  refine lv_goto (tgt := 114) hx hb dX5_wordIn_110 (by decide) ?_
                  exact jn114 1 H locs ls (ib_w 0 1603 h41 (by decide)) (ib_w 0 1 h35 (by decide)) (ib_w 0 3 h27 (by decide)) (ib_w 0 1599 hK23_x_this_at (by decide)) (ib_w 1 1 hK23_x_this_sort (by decide)) (ib_w 0 1 (ib_c 1 1 1 (by decide)) (by decide)) (by have := (h27).1; have := (h27).2; have := hJ23_lin0; have := (h41).1; have := (h41).2; omega) hP hD hS (lv_sub hl [0, 1, 2, 3, 4, 5] rfl)
          · have h49 := ib_eq (ib_any r28) (ib_c 32 32 32 (by decide)) c30
            have h50 : ib r28 32 32 := ib_w 32 32 h49.1 (by decide)
            have h51 : ib J23_l3 0 1603 := ⟨(hJ23_l3).1, by have := (hJ23_l3).1; have := (hJ23_l3).2; have := hJ23_lin0; have := (h27).1; have := (h27).2; omega⟩
            exact jn52  H locs ls (ib_w 0 1604 h51 (by decide)) (ib_w 0 1 hJ23_l4 (by decide)) (ib_w 0 4 h27 (by decide)) (ib_w 0 1599 hK23_x_this_at (by decide)) (ib_w 1 1 hK23_x_this_sort (by decide)) hP hD hS (lv_sub hl [0, 1, 2, 3, 4, 5] rfl)
  refine lv_aload_n hx hb dX5_wordIn_0 rfl (lv_at hl 0 rfl) ?_
  refine k_get C0 fg_X5_21 hP 0 rfl rfl dX5_wordIn_1 ?_
  refine lv_iconst (v := 1) hx hb dX5_wordIn_4 (by decide) ?_
  refine lv_icmp_eq (tgt := 10) hx hb dX5_wordIn_5 (by decide) (fun c52 => ?_) (fun c52 => ?_)
  · have h53 := ib_eq hx_this_sort (ib_c 1 1 1 (by decide)) c52
    have h54 : ib x_this_sort 1 1 := ib_w 1 1 h53.1 (by decide)
    have h55 : ib x_this_at 0 1599 := ib_w 0 1599 (ib_two hx_this_at (hc0_this (ib_nz h54 (by decide)))) (by decide)
    refine lv_iconst (v := 0) hx hb dX5_wordIn_10 (by decide) ?_
    refine lv_istore_n (lv' := [(2, .int 0), (0, .ref a_this), (1, .ref (sq 1))]) hx hb dX5_wordIn_11 rfl hl (by decide) rfl (fun ls hl => ?_)
    refine lv_aload_n hx hb dX5_wordIn_12 rfl (lv_at hl 1 rfl) ?_
    refine k_get C0 fg_X5_15 hP 0 rfl rfl dX5_wordIn_13 ?_
    refine lv_istore_n (lv' := [(3, .int x_this_at), (2, .int 0), (0, .ref a_this), (1, .ref (sq 1))]) hx hb dX5_wordIn_16 rfl hl (by decide) rfl (fun ls hl => ?_)
    refine lv_iconst (v := 1) hx hb dX5_wordIn_17 (by decide) ?_
    refine lv_istore (lv' := [(4, .int 1), (3, .int x_this_at), (2, .int 0), (0, .ref a_this), (1, .ref (sq 1))]) hx hb dX5_wordIn_18 hl (by decide) rfl (fun ls hl => ?_)
    refine lv_iconst (v := 0) hx hb dX5_wordIn_20 (by decide) ?_
    refine lv_istore (lv' := [(5, .int 0), (4, .int 1), (3, .int x_this_at), (2, .int 0), (0, .ref a_this), (1, .ref (sq 1))]) hx hb dX5_wordIn_21 hl (by decide) rfl (fun ls hl => ?_)
    exact jn23 7 0 x_this_at 1 0 H locs ls (ib_w 0 1599 h55 (by decide)) (ib_w 1 1 h54 (by decide)) (ib_w 0 1604 h55 (by decide)) (ib_w 0 1 (ib_c 1 1 1 (by decide)) (by decide)) (ib_w 0 5 (ib_c 0 0 0 (by decide)) (by decide)) (by have : (0 : Int32).toInt = 0 := (by decide); have := (h55).1; have := (h55).2; omega) (by have := (ib_c 0 0 0 (by decide)); unfold ib at this; omega) hP hD hS (lv_sub hl [4, 5, 3, 2, 1, 0] rfl)
  · skip
    refine lv_iconst (v := (-1)) hx hb dX5_wordIn_8 (by decide) ?_
    subst hQ; exact k_iret hx hb hr hlk rfl () hS True.intro hP hD (Nat.le_of_ble_eq_true rfl) (Nat.le_of_ble_eq_true rfl) dX5_wordIn_9
set_option maxHeartbeats 4000000 in
set_option maxRecDepth 100000 in
theorem s_X5_needWord_s1 (l : Launch) (dC : Nat → ClassId) (dI : Nat → Nat → Nat) (cy : Nat → ClassId) (sq : Nat → Nat) (a_this : Nat) (a_this_text : Nat) (g_this_text : Nat → Int32) (x_this_length : Int32) (x_this_at : Int32) (x_this_behind : Int32) (x_this_sort : Int32) (x_this_allowed : Int32) (a_this_plan : Nat) (x_this_fault : Int32) (x_this_place : Int32) (hg_this_text : ia g_this_text 1600 0 255) (hx_this_length : ib x_this_length 0 1600) (hx_this_at : ib x_this_at 0 1600) (hx_this_behind : ib x_this_behind 0 1600) (hx_this_sort : ib x_this_sort 0 4) (hc0_this : ¬ x_this_sort = 0 → ib x_this_at 0 1599) : k_Met l yX5_needWord cX5_needWord 2 none { frames := 5, cells := 0, slots := 0, locals := 166 } dC dI cy sq [.ref a_this, .ref (sq 1)] [(a_this, .inr (5, [.ref a_this_text, .int x_this_length, .int x_this_at, .int x_this_behind, .int x_this_sort, .int x_this_allowed, .ref a_this_plan, .int x_this_fault, .int x_this_place])), (a_this_text, .inl (cy 0, 1600, .inl g_this_text))] (k_Qv dC dI (fun (u : Int32 × Int32 × Int32 × Int32 × Int32) => match u with | (n0, n1, n2, n3, n4) => ib n0 0 1600 ∧ ib n1 0 1600 ∧ ib n2 0 4 ∧ (¬ n2 = 0 → ib n0 0 1599)) (fun u : Int32 × Int32 × Int32 × Int32 × Int32 => match u with | (n0, n1, n2, n3, n4) => [(a_this, .inr (5, [.ref a_this_text, .int x_this_length, .int n0, .int n1, .int n2, .int x_this_allowed, .ref a_this_plan, .int n3, .int n4])), (a_this_text, .inl (cy 0, 1600, .inl g_this_text))])) := by
  refine k_ofW2 (by decide +kernel) (Nat.le_of_ble_eq_true rfl) ?_
  intro p e s m below meth c A ls H locs args Q hQ C0 hZ hr hlk hin hP hD hA hS hl
  have C0 : k_cx p s m args c cX5_needWord 2 RX5 dC dI cy sq := C0
  have hx := C0.1
  have hb := C0.2.1
  have hl : lv_has ls 2 [(0, .ref a_this), (1, .ref (sq 1))] := hl
  refine lv_aload_n hx hb dX5_needWord_0 rfl (lv_at hl 0 rfl) ?_
  refine lv_aload_n hx hb dX5_needWord_1 rfl (lv_at hl 1 rfl) ?_
  refine k_ji hP hD hS hA [0, 1] [] (wr := []) rfl rfl (by decide) (by decide) (by decide) 0 0 (Nat.le_of_ble_eq_true rfl) (Nat.le_of_ble_eq_true rfl) (fun hPc hDc => k_runV (As := [.ref (sq 1)]) (rest := []) C0 hZ hS hA (s_X5_wordIn_s1 l dC dI cy sq a_this a_this_text g_this_text x_this_length x_this_at x_this_behind x_this_sort x_this_allowed a_this_plan x_this_fault x_this_place hg_this_text (ib_w 0 1600 hx_this_at (by decide)) (ib_w 0 1600 hx_this_behind (by decide)) (ib_w 0 4 hx_this_sort (by decide)) (fun hq9 => ib_w 0 1599 (hc0_this hq9) (by decide))) mV_X5_54 hPc hDc rfl rfl rfl hl rfl rfl (Nat.le_of_ble_eq_true rfl) ⟨(Nat.le_of_ble_eq_true rfl), (Nat.le_of_ble_eq_true rfl)⟩ ⟨(Nat.le_of_ble_eq_true rfl), (Nat.le_of_ble_eq_true rfl)⟩ dX5_needWord_2) (fun r1 u2 H locs hw hP hD hS => ?_)
  try dsimp only at hP hD hw
  have hP : va_P (dC, dI) vwCl [(a_this, .inr (5, [.ref a_this_text, .int x_this_length, .int x_this_at, .int x_this_behind, .int x_this_sort, .int x_this_allowed, .ref a_this_plan, .int x_this_fault, .int x_this_place])), (a_this_text, .inl (cy 0, 1600, .inl g_this_text))] H := hP
  have hD : va_D A [(a_this, .inr (5, [.ref a_this_text, .int x_this_length, .int x_this_at, .int x_this_behind, .int x_this_sort, .int x_this_allowed, .ref a_this_plan, .int x_this_fault, .int x_this_place])), (a_this_text, .inl (cy 0, 1600, .inl g_this_text))] := hD
  refine lv_iconst (v := (-1)) hx hb dX5_needWord_5 (by decide) ?_
  refine lv_icmp_ne (tgt := 21) hx hb dX5_needWord_6 (by decide) (fun c3 => ?_) (fun c3 => ?_)
  · skip
    refine lv_aload_n hx hb dX5_needWord_21 rfl (lv_at hl 0 rfl) ?_
    refine lv_aload_n hx hb dX5_needWord_22 rfl (lv_at hl 0 rfl) ?_
    refine k_get C0 fg_X5_18 hP 0 rfl rfl dX5_needWord_23 ?_
    refine k_jv hP hD hS hA [0, 1] [] (wr := []) rfl rfl (by decide) (by decide) (by decide) 0 0 (Nat.le_of_ble_eq_true rfl) (Nat.le_of_ble_eq_true rfl) (fun hPc hDc => k_runV (As := [.int x_this_behind]) (rest := []) C0 hZ hS hA (s_X5_moveTo l dC dI cy sq a_this a_this_text g_this_text x_this_length x_this_at x_this_behind x_this_sort x_this_allowed a_this_plan x_this_fault x_this_place x_this_behind hg_this_text (ib_w 0 1600 hx_this_length (by decide)) (ib_w 0 1600 hx_this_behind (by decide))) mV_X5_86 hPc hDc rfl rfl rfl hl rfl rfl (Nat.le_of_ble_eq_true rfl) ⟨(Nat.le_of_ble_eq_true rfl), (Nat.le_of_ble_eq_true rfl)⟩ ⟨(Nat.le_of_ble_eq_true rfl), (Nat.le_of_ble_eq_true rfl)⟩ dX5_needWord_26) (fun u5 H locs hw hP hD hS => ?_)
    obtain ⟨v6, v7, v8⟩ := u5
    try dsimp only at hP hD hw
    have hP : va_P (dC, dI) vwCl [(a_this, .inr (5, [.ref a_this_text, .int x_this_length, .int v6, .int v7, .int v8, .int x_this_allowed, .ref a_this_plan, .int x_this_fault, .int x_this_place])), (a_this_text, .inl (cy 0, 1600, .inl g_this_text))] H := hP
    have hD : va_D A [(a_this, .inr (5, [.ref a_this_text, .int x_this_length, .int v6, .int v7, .int v8, .int x_this_allowed, .ref a_this_plan, .int x_this_fault, .int x_this_place])), (a_this_text, .inl (cy 0, 1600, .inl g_this_text))] := hD
    obtain ⟨h9, h10, h11, h12⟩ := hw
    subst hQ; exact k_vret hx hb hr hlk ((v6, v7, v8, x_this_fault, x_this_place)) hS ⟨ib_w 0 1600 h9 (by decide), ib_w 0 1600 h10 (by decide), ib_w 0 4 h11 (by decide), fun hq9 => ib_w 0 1599 (h12 hq9) (by decide)⟩ hP hD (Nat.le_of_ble_eq_true rfl) (Nat.le_of_ble_eq_true rfl) dX5_needWord_29
  · have h13 := ib_eq (ib_any r1) (ib_c (-1) (-1) (-1) (by decide)) c3
    have h14 : ib r1 (-1) (-1) := ib_w (-1) (-1) h13.1 (by decide)
    refine lv_aload_n hx hb dX5_needWord_9 rfl (lv_at hl 0 rfl) ?_
    refine lv_iconst (v := 1) hx hb dX5_needWord_10 (by decide) ?_
    refine lv_aload_n hx hb dX5_needWord_11 rfl (lv_at hl 0 rfl) ?_
    refine k_get C0 fg_X5_15 hP 0 rfl rfl dX5_needWord_12 ?_
    refine k_jv hP hD hS hA [0] [1] (wr := [(a_this_text, .inl (cy 0, 1600, .inl g_this_text))]) rfl rfl (by decide) (by decide) (by decide) 0 0 (Nat.le_of_ble_eq_true rfl) (Nat.le_of_ble_eq_true rfl) (fun hPc hDc => k_runV (As := [.int 1, .int x_this_at]) (rest := []) C0 hZ hS hA (s_X5_fail l dC dI cy sq a_this a_this_text x_this_length x_this_at x_this_behind x_this_sort x_this_allowed a_this_plan x_this_fault x_this_place 1 x_this_at ) mV_X5_78 hPc hDc rfl rfl rfl hl rfl rfl (Nat.le_of_ble_eq_true rfl) ⟨(Nat.le_of_ble_eq_true rfl), (Nat.le_of_ble_eq_true rfl)⟩ ⟨(Nat.le_of_ble_eq_true rfl), (Nat.le_of_ble_eq_true rfl)⟩ dX5_needWord_15) (fun u16 H locs hw hP hD hS => ?_)
    obtain ⟨v17, v18⟩ := u16
    try dsimp only at hP hD hw
    have hP : va_P (dC, dI) vwCl [(a_this_text, .inl (cy 0, 1600, .inl g_this_text)), (a_this, .inr (5, [.ref a_this_text, .int x_this_length, .int x_this_length, .int x_this_length, .int 0, .int x_this_allowed, .ref a_this_plan, .int v17, .int v18]))] H := hP
    have hD : va_D A [(a_this_text, .inl (cy 0, 1600, .inl g_this_text)), (a_this, .inr (5, [.ref a_this_text, .int x_this_length, .int x_this_length, .int x_this_length, .int 0, .int x_this_allowed, .ref a_this_plan, .int v17, .int v18]))] := hD
    refine lv_goto (tgt := 29) hx hb dX5_needWord_18 (by decide) ?_
    subst hQ; exact k_vret hx hb hr hlk ((x_this_length, x_this_length, 0, v17, v18)) hS ⟨ib_w 0 1600 hx_this_length (by decide), ib_w 0 1600 hx_this_length (by decide), ib_w 0 4 (ib_c 0 0 0 (by decide)) (by decide), fun hq9 => absurd rfl hq9⟩ (hP.sub [1, 0] rfl) (hD.sub [1, 0] (by decide) rfl) (Nat.le_of_ble_eq_true rfl) (Nat.le_of_ble_eq_true rfl) dX5_needWord_29
set_option maxHeartbeats 4000000 in
set_option maxRecDepth 100000 in
theorem s_X5_number_a0_0_a1_100 (l : Launch) (dC : Nat → ClassId) (dI : Nat → Nat → Nat) (cy : Nat → ClassId) (sq : Nat → Nat) (a_this : Nat) (a_this_text : Nat) (g_this_text : Nat → Int32) (x_this_length : Int32) (x_this_at : Int32) (x_this_behind : Int32) (x_this_sort : Int32) (x_this_allowed : Int32) (a_this_plan : Nat) (x_this_fault : Int32) (x_this_place : Int32) (hg_this_text : ia g_this_text 1600 0 255) (hx_this_length : ib x_this_length 0 1600) (hx_this_at : ib x_this_at 0 1600) (hx_this_behind : ib x_this_behind 0 1600) (hx_this_sort : ib x_this_sort 0 4) (hc0_this : ¬ x_this_sort = 0 → ib x_this_at 0 1599) : k_Met l yX5_number cX5_number 5 (some .int) { frames := 2, cells := 0, slots := 0, locals := 43 } dC dI cy sq [.ref a_this, .int 0, .int 100] [(a_this, .inr (5, [.ref a_this_text, .int x_this_length, .int x_this_at, .int x_this_behind, .int x_this_sort, .int x_this_allowed, .ref a_this_plan, .int x_this_fault, .int x_this_place])), (a_this_text, .inl (cy 0, 1600, .inl g_this_text))] (k_Qi dC dI (fun (r : Int32) (u : Int32 × Int32 × Int32 × Int32 × Int32) => match u with | (n0, n1, n2, n3, n4) => ib r 0 100 ∧ ib n0 0 1600 ∧ ib n1 0 1600 ∧ ib n2 0 4 ∧ (¬ n2 = 0 → ib n0 0 1599)) (fun u : Int32 × Int32 × Int32 × Int32 × Int32 => match u with | (n0, n1, n2, n3, n4) => [(a_this, .inr (5, [.ref a_this_text, .int x_this_length, .int n0, .int n1, .int n2, .int x_this_allowed, .ref a_this_plan, .int n3, .int n4])), (a_this_text, .inl (cy 0, 1600, .inl g_this_text))])) := by
  refine k_ofW2 (by decide +kernel) (Nat.le_of_ble_eq_true rfl) ?_
  intro p e s m below meth c A ls H locs args Q hQ C0 hZ hr hlk hin hP hD hA hS hl
  have C0 : k_cx p s m args c cX5_number 5 RX5 dC dI cy sq := C0
  have hx := C0.1
  have hb := C0.2.1
  have hl : lv_has ls 5 [(0, .ref a_this), (1, .int 0), (2, .int 100)] := hl
  have jn94 : ∀ (J94_l3 : Int32) (J94_l4 : Int32) (H : Heap) (locs : List Loc) (ls : Array Slot), ib J94_l4 0 1600 → ib x_this_at 0 1599 → ib x_this_sort 2 2 → va_P (dC, dI) vwCl [(a_this, .inr (5, [.ref a_this_text, .int x_this_length, .int x_this_at, .int x_this_behind, .int x_this_sort, .int x_this_allowed, .ref a_this_plan, .int x_this_fault, .int x_this_place])), (a_this_text, .inl (cy 0, 1600, .inl g_this_text))] H → va_D A [(a_this, .inr (5, [.ref a_this_text, .int x_this_length, .int x_this_at, .int x_this_behind, .int x_this_sort, .int x_this_allowed, .ref a_this_plan, .int x_this_fault, .int x_this_place])), (a_this_text, .inl (cy 0, 1600, .inl g_this_text))] → va_S A s.heap H locs → lv_has ls 5 [(0, .ref a_this), (1, .int 0), (2, .int 100), (3, .int J94_l3), (4, .int J94_l4)] → W p l e { frames := 2, cells := 0, slots := 0, locals := 43 } s m args below meth c H locs 0 0 Q (F0 m 94 ls []) := by
    intro J94_l3 J94_l4 H locs ls hJ94_l4 hK94_x_this_at hK94_x_this_sort hP hD hS hl
    refine lv_aload_n hx hb dX5_number_94 rfl (lv_at hl 0 rfl) ?_
    refine lv_iconst (v := 2) hx hb dX5_number_95 (by decide) ?_
    refine lv_aload_n hx hb dX5_number_96 rfl (lv_at hl 0 rfl) ?_
    refine k_get C0 fg_X5_15 hP 0 rfl rfl dX5_number_97 ?_
    refine k_jv hP hD hS hA [0] [1] (wr := [(a_this_text, .inl (cy 0, 1600, .inl g_this_text))]) rfl rfl (by decide) (by decide) (by decide) 0 0 (Nat.le_of_ble_eq_true rfl) (Nat.le_of_ble_eq_true rfl) (fun hPc hDc => k_runV (As := [.int 2, .int x_this_at]) (rest := []) C0 hZ hS hA (s_X5_fail l dC dI cy sq a_this a_this_text x_this_length x_this_at x_this_behind x_this_sort x_this_allowed a_this_plan x_this_fault x_this_place 2 x_this_at ) mV_X5_78 hPc hDc rfl rfl rfl hl rfl rfl (Nat.le_of_ble_eq_true rfl) ⟨(Nat.le_of_ble_eq_true rfl), (Nat.le_of_ble_eq_true rfl)⟩ ⟨(Nat.le_of_ble_eq_true rfl), (Nat.le_of_ble_eq_true rfl)⟩ dX5_number_100) (fun u2 H locs hw hP hD hS => ?_)
    obtain ⟨v3, v4⟩ := u2
    try dsimp only at hP hD hw
    have hP : va_P (dC, dI) vwCl [(a_this_text, .inl (cy 0, 1600, .inl g_this_text)), (a_this, .inr (5, [.ref a_this_text, .int x_this_length, .int x_this_length, .int x_this_length, .int 0, .int x_this_allowed, .ref a_this_plan, .int v3, .int v4]))] H := hP
    have hD : va_D A [(a_this_text, .inl (cy 0, 1600, .inl g_this_text)), (a_this, .inr (5, [.ref a_this_text, .int x_this_length, .int x_this_length, .int x_this_length, .int 0, .int x_this_allowed, .ref a_this_plan, .int v3, .int v4]))] := hD
    refine lv_iload_n hx hb dX5_number_103 rfl (lv_at hl 1 rfl) ?_
    subst hQ; exact k_iret hx hb hr hlk rfl ((x_this_length, x_this_length, 0, v3, v4)) hS ⟨ib_w 0 100 (ib_c 0 0 0 (by decide)) (by decide), ib_w 0 1600 hx_this_length (by decide), ib_w 0 1600 hx_this_length (by decide), ib_w 0 4 (ib_c 0 0 0 (by decide)) (by decide), fun hq9 => absurd rfl hq9⟩ (hP.sub [1, 0] rfl) (hD.sub [1, 0] (by decide) rfl) (Nat.le_of_ble_eq_true rfl) (Nat.le_of_ble_eq_true rfl) dX5_number_104
  have jn53 : ∀ (n : Nat) (J53_l3 : Int32) (J53_l4 : Int32) (H : Heap) (locs : List Loc) (ls : Array Slot), ib x_this_at 0 1599 → ib x_this_sort 2 2 → ib J53_l4 0 1600 → 1601 ≤ J53_l4.toInt + (n : Int) → va_P (dC, dI) vwCl [(a_this, .inr (5, [.ref a_this_text, .int x_this_length, .int x_this_at, .int x_this_behind, .int x_this_sort, .int x_this_allowed, .ref a_this_plan, .int x_this_fault, .int x_this_place])), (a_this_text, .inl (cy 0, 1600, .inl g_this_text))] H → va_D A [(a_this, .inr (5, [.ref a_this_text, .int x_this_length, .int x_this_at, .int x_this_behind, .int x_this_sort, .int x_this_allowed, .ref a_this_plan, .int x_this_fault, .int x_this_place])), (a_this_text, .inl (cy 0, 1600, .inl g_this_text))] → va_S A s.heap H locs → lv_has ls 5 [(0, .ref a_this), (1, .int 0), (2, .int 100), (3, .int J53_l3), (4, .int J53_l4)] → W p l e { frames := 2, cells := 0, slots := 0, locals := 43 } s m args below meth c H locs 0 0 Q (F0 m 53 ls []) := by
    intro n
    induction n with
    | zero =>
      intro J53_l3 J53_l4 H locs ls hK53_x_this_at hK53_x_this_sort hJ53_l4 hm
      exact absurd hm (by have := hJ53_l4; unfold ib at this; omega)
    | succ n ih =>
      intro J53_l3 J53_l4 H locs ls hK53_x_this_at hK53_x_this_sort hJ53_l4 hm53 hP hD hS hl
      have ih53 := ih
      refine lv_iload hx hb dX5_number_53 (lv_at hl 4 rfl) ?_
      refine lv_aload_n hx hb dX5_number_55 rfl (lv_at hl 0 rfl) ?_
      refine k_get C0 fg_X5_18 hP 0 rfl rfl dX5_number_56 ?_
      refine lv_icmp_ge (tgt := 84) hx hb dX5_number_59 (by decide) (fun c5 => ?_) (fun c5 => ?_)
      · have h6 := ib_le hx_this_behind hJ53_l4 c5
        refine lv_iload_n hx hb dX5_number_84 rfl (lv_at hl 3 rfl) ?_
        refine lv_iload_n hx hb dX5_number_85 rfl (lv_at hl 1 rfl) ?_
        refine lv_icmp_lt (tgt := 94) hx hb dX5_number_86 (by decide) (fun c7 => ?_) (fun c7 => ?_)
        · have h8 := ib_lt (ib_any J53_l3) (ib_c 0 0 0 (by decide)) c7
          have h9 : ib J53_l3 (-2147483648) (-1) := ib_w (-2147483648) (-1) h8.1 (by decide)
          exact jn94 J53_l3 J53_l4 H locs ls (ib_w 0 1600 hJ53_l4 (by decide)) (ib_w 0 1599 hK53_x_this_at (by decide)) (ib_w 2 2 hK53_x_this_sort (by decide)) hP hD hS (lv_sub hl [0, 1, 2, 3, 4] rfl)
        · have h10 := ib_nlt (ib_any J53_l3) (ib_c 0 0 0 (by decide)) c7
          have h11 : ib J53_l3 0 2147483647 := ib_w 0 2147483647 h10.1 (by decide)
          refine lv_iload_n hx hb dX5_number_89 rfl (lv_at hl 3 rfl) ?_
          refine lv_iload_n hx hb dX5_number_90 rfl (lv_at hl 2 rfl) ?_
          refine lv_icmp_le (tgt := 105) hx hb dX5_number_91 (by decide) (fun c12 => ?_) (fun c12 => ?_)
          · have h13 := ib_le h11 (ib_c 100 100 100 (by decide)) c12
            have h14 : ib J53_l3 0 100 := ib_w 0 100 h13.1 (by decide)
            refine lv_aload_n hx hb dX5_number_105 rfl (lv_at hl 0 rfl) ?_
            refine lv_aload_n hx hb dX5_number_106 rfl (lv_at hl 0 rfl) ?_
            refine k_get C0 fg_X5_18 hP 0 rfl rfl dX5_number_107 ?_
            refine k_jv hP hD hS hA [0, 1] [] (wr := []) rfl rfl (by decide) (by decide) (by decide) 0 0 (Nat.le_of_ble_eq_true rfl) (Nat.le_of_ble_eq_true rfl) (fun hPc hDc => k_runV (As := [.int x_this_behind]) (rest := []) C0 hZ hS hA (s_X5_moveTo l dC dI cy sq a_this a_this_text g_this_text x_this_length x_this_at x_this_behind x_this_sort x_this_allowed a_this_plan x_this_fault x_this_place x_this_behind hg_this_text (ib_w 0 1600 hx_this_length (by decide)) (ib_w 0 1600 hx_this_behind (by decide))) mV_X5_86 hPc hDc rfl rfl rfl hl rfl rfl (Nat.le_of_ble_eq_true rfl) ⟨(Nat.le_of_ble_eq_true rfl), (Nat.le_of_ble_eq_true rfl)⟩ ⟨(Nat.le_of_ble_eq_true rfl), (Nat.le_of_ble_eq_true rfl)⟩ dX5_number_110) (fun u16 H locs hw hP hD hS => ?_)
            obtain ⟨v17, v18, v19⟩ := u16
            try dsimp only at hP hD hw
            have hP : va_P (dC, dI) vwCl [(a_this, .inr (5, [.ref a_this_text, .int x_this_length, .int v17, .int v18, .int v19, .int x_this_allowed, .ref a_this_plan, .int x_this_fault, .int x_this_place])), (a_this_text, .inl (cy 0, 1600, .inl g_this_text))] H := hP
            have hD : va_D A [(a_this, .inr (5, [.ref a_this_text, .int x_this_length, .int v17, .int v18, .int v19, .int x_this_allowed, .ref a_this_plan, .int x_this_fault, .int x_this_place])), (a_this_text, .inl (cy 0, 1600, .inl g_this_text))] := hD
            obtain ⟨h20, h21, h22, h23⟩ := hw
            refine lv_iload_n hx hb dX5_number_113 rfl (lv_at hl 3 rfl) ?_
            subst hQ; exact k_iret hx hb hr hlk rfl ((v17, v18, v19, x_this_fault, x_this_place)) hS ⟨ib_w 0 100 h14 (by decide), ib_w 0 1600 h20 (by decide), ib_w 0 1600 h21 (by decide), ib_w 0 4 h22 (by decide), fun hq9 => ib_w 0 1599 (h23 hq9) (by decide)⟩ hP hD (Nat.le_of_ble_eq_true rfl) (Nat.le_of_ble_eq_true rfl) dX5_number_114
          · have h24 := ib_nle h11 (ib_c 100 100 100 (by decide)) c12
            have h25 : ib J53_l3 101 2147483647 := ib_w 101 2147483647 h24.1 (by decide)
            exact jn94 J53_l3 J53_l4 H locs ls (ib_w 0 1600 hJ53_l4 (by decide)) (ib_w 0 1599 hK53_x_this_at (by decide)) (ib_w 2 2 hK53_x_this_sort (by decide)) hP hD hS (lv_sub hl [0, 1, 2, 3, 4] rfl)
      · have h26 := ib_nle hx_this_behind hJ53_l4 c5
        have h27 : ib x_this_behind 1 1600 := ib_w 1 1600 h26.1 (by decide)
        have h28 : ib J53_l4 0 1599 := ib_w 0 1599 h26.2 (by decide)
        refine lv_iload_n hx hb dX5_number_62 rfl (lv_at hl 3 rfl) ?_
        refine lv_bipush (v := 10) hx hb dX5_number_63 (by decide) ?_
        refine lv_imul hx hb dX5_number_65 ?_
        refine lv_topi (fun z29 ez29 => ?_)
        refine lv_aload_n hx hb dX5_number_66 rfl (lv_at hl 0 rfl) ?_
        refine k_get C0 fg_X5_33 hP 0 rfl rfl dX5_number_67 ?_
        refine lv_iload hx hb dX5_number_70 (lv_at hl 4 rfl) ?_
        refine va_iald hx hb C0.2.2.2.2.2.1 hP 1 0 rfl rfl (ib_in 1600 h28 (by decide)) dX5_number_72 ?_
        refine lv_topi (fun z30 ez30 => ?_)
        have h31 : ib z30 0 255 := by rw [ez30]; exact ia_at hg_this_text (ib_in 1600 h28 (by decide))
        refine lv_iadd hx hb dX5_number_73 ?_
        refine lv_topi (fun z32 ez32 => ?_)
        refine lv_bipush (v := 48) hx hb dX5_number_74 (by decide) ?_
        refine lv_isub hx hb dX5_number_76 ?_
        refine lv_topi (fun z33 ez33 => ?_)
        refine lv_istore_n (lv' := [(3, .int z33), (0, .ref a_this), (1, .int 0), (2, .int 100), (4, .int J53_l4)]) hx hb dX5_number_77 rfl hl (by decide) rfl (fun ls hl => ?_)
        obtain ⟨z34, ez34⟩ : ∃ y : Int32, y = J53_l4 + 1 := ⟨_, rfl⟩
        refine lv_iinc (v := z34) (lv' := [(4, .int z34), (3, .int z33), (0, .ref a_this), (1, .int 0), (2, .int 100)]) hx hb dX5_number_78 hl (k := 4) rfl (by rw [ez34]; rfl) (by decide) rfl (fun ls hl => ?_)
        have h35 := ib_add h28 (ib_c 1 1 1 (by decide)) (by decide)
        rw [← ez34] at h35
        have h36 : ib z34 1 1600 := ib_w 1 1600 h35.1 (by decide)
        refine lv_goto (tgt := 53) hx hb dX5_number_81 (by decide) ?_
        exact ih53 z33 z34 H locs ls (ib_w 0 1599 hK53_x_this_at (by decide)) (ib_w 2 2 hK53_x_this_sort (by decide)) (ib_w 0 1600 h36 (by decide)) (by have := h35.2; have : (1 : Int32).toInt = 1 := (by decide); omega) hP hD hS (lv_sub hl [2, 3, 4, 1, 0] rfl)
  refine lv_aload_n hx hb dX5_number_0 rfl (lv_at hl 0 rfl) ?_
  refine k_get C0 fg_X5_21 hP 0 rfl rfl dX5_number_1 ?_
  refine lv_iconst (v := 2) hx hb dX5_number_4 (by decide) ?_
  refine lv_icmp_eq (tgt := 19) hx hb dX5_number_5 (by decide) (fun c37 => ?_) (fun c37 => ?_)
  · have h38 := ib_eq hx_this_sort (ib_c 2 2 2 (by decide)) c37
    have h39 : ib x_this_sort 2 2 := ib_w 2 2 h38.1 (by decide)
    have h40 : ib x_this_at 0 1599 := ib_w 0 1599 (ib_two hx_this_at (hc0_this (ib_nz h39 (by decide)))) (by decide)
    refine lv_aload_n hx hb dX5_number_19 rfl (lv_at hl 0 rfl) ?_
    refine k_get C0 fg_X5_18 hP 0 rfl rfl dX5_number_20 ?_
    refine lv_aload_n hx hb dX5_number_23 rfl (lv_at hl 0 rfl) ?_
    refine k_get C0 fg_X5_15 hP 0 rfl rfl dX5_number_24 ?_
    refine lv_isub hx hb dX5_number_27 ?_
    refine lv_topi (fun z41 ez41 => ?_)
    have h42 := ib_sub hx_this_behind h40 (by decide)
    rw [← ez41] at h42
    have h43 : ib z41 (-1599) 1600 := ib_w (-1599) 1600 h42.1 (by decide)
    refine lv_iconst (v := 4) hx hb dX5_number_28 (by decide) ?_
    refine lv_icmp_le (tgt := 45) hx hb dX5_number_29 (by decide) (fun c44 => ?_) (fun c44 => ?_)
    · have h45 := ib_le h43 (ib_c 4 4 4 (by decide)) c44
      have h46 : ib z41 (-1599) 4 := ib_w (-1599) 4 h45.1 (by decide)
      refine lv_iconst (v := 0) hx hb dX5_number_45 (by decide) ?_
      refine lv_istore_n (lv' := [(3, .int 0), (0, .ref a_this), (1, .int 0), (2, .int 100)]) hx hb dX5_number_46 rfl hl (by decide) rfl (fun ls hl => ?_)
      refine lv_aload_n hx hb dX5_number_47 rfl (lv_at hl 1 rfl) ?_
      refine k_get C0 fg_X5_15 hP 0 rfl rfl dX5_number_48 ?_
      refine lv_istore (lv' := [(4, .int x_this_at), (3, .int 0), (0, .ref a_this), (1, .int 0), (2, .int 100)]) hx hb dX5_number_51 hl (by decide) rfl (fun ls hl => ?_)
      exact jn53 1602 0 x_this_at H locs ls (ib_w 0 1599 h40 (by decide)) (ib_w 2 2 h39 (by decide)) (ib_w 0 1600 h40 (by decide)) (by have := h40; unfold ib at this; omega) hP hD hS (lv_sub hl [2, 3, 4, 1, 0] rfl)
    · have h47 := ib_nle h43 (ib_c 4 4 4 (by decide)) c44
      have h48 : ib z41 5 1600 := ib_w 5 1600 h47.1 (by decide)
      refine lv_aload_n hx hb dX5_number_32 rfl (lv_at hl 0 rfl) ?_
      refine lv_iconst (v := 1) hx hb dX5_number_33 (by decide) ?_
      refine lv_aload_n hx hb dX5_number_34 rfl (lv_at hl 0 rfl) ?_
      refine k_get C0 fg_X5_15 hP 0 rfl rfl dX5_number_35 ?_
      refine lv_iconst (v := 4) hx hb dX5_number_38 (by decide) ?_
      refine lv_iadd hx hb dX5_number_39 ?_
      refine lv_topi (fun z49 ez49 => ?_)
      have h50 := ib_add h40 (ib_c 4 4 4 (by decide)) (by decide)
      rw [← ez49] at h50
      have h51 : ib z49 4 1603 := ib_w 4 1603 h50.1 (by decide)
      refine k_jv hP hD hS hA [0] [1] (wr := [(a_this_text, .inl (cy 0, 1600, .inl g_this_text))]) rfl rfl (by decide) (by decide) (by decide) 0 0 (Nat.le_of_ble_eq_true rfl) (Nat.le_of_ble_eq_true rfl) (fun hPc hDc => k_runV (As := [.int 1, .int z49]) (rest := []) C0 hZ hS hA (s_X5_fail l dC dI cy sq a_this a_this_text x_this_length x_this_at x_this_behind x_this_sort x_this_allowed a_this_plan x_this_fault x_this_place 1 z49 ) mV_X5_78 hPc hDc rfl rfl rfl hl rfl rfl (Nat.le_of_ble_eq_true rfl) ⟨(Nat.le_of_ble_eq_true rfl), (Nat.le_of_ble_eq_true rfl)⟩ ⟨(Nat.le_of_ble_eq_true rfl), (Nat.le_of_ble_eq_true rfl)⟩ dX5_number_40) (fun u53 H locs hw hP hD hS => ?_)
      obtain ⟨v54, v55⟩ := u53
      try dsimp only at hP hD hw
      have hP : va_P (dC, dI) vwCl [(a_this_text, .inl (cy 0, 1600, .inl g_this_text)), (a_this, .inr (5, [.ref a_this_text, .int x_this_length, .int x_this_length, .int x_this_length, .int 0, .int x_this_allowed, .ref a_this_plan, .int v54, .int v55]))] H := hP
      have hD : va_D A [(a_this_text, .inl (cy 0, 1600, .inl g_this_text)), (a_this, .inr (5, [.ref a_this_text, .int x_this_length, .int x_this_length, .int x_this_length, .int 0, .int x_this_allowed, .ref a_this_plan, .int v54, .int v55]))] := hD
      refine lv_iload_n hx hb dX5_number_43 rfl (lv_at hl 1 rfl) ?_
      subst hQ; exact k_iret hx hb hr hlk rfl ((x_this_length, x_this_length, 0, v54, v55)) hS ⟨ib_w 0 100 (ib_c 0 0 0 (by decide)) (by decide), ib_w 0 1600 hx_this_length (by decide), ib_w 0 1600 hx_this_length (by decide), ib_w 0 4 (ib_c 0 0 0 (by decide)) (by decide), fun hq9 => absurd rfl hq9⟩ (hP.sub [1, 0] rfl) (hD.sub [1, 0] (by decide) rfl) (Nat.le_of_ble_eq_true rfl) (Nat.le_of_ble_eq_true rfl) dX5_number_44
  · skip
    refine lv_aload_n hx hb dX5_number_8 rfl (lv_at hl 0 rfl) ?_
    refine lv_iconst (v := 1) hx hb dX5_number_9 (by decide) ?_
    refine lv_aload_n hx hb dX5_number_10 rfl (lv_at hl 0 rfl) ?_
    refine k_get C0 fg_X5_15 hP 0 rfl rfl dX5_number_11 ?_
    refine k_jv hP hD hS hA [0] [1] (wr := [(a_this_text, .inl (cy 0, 1600, .inl g_this_text))]) rfl rfl (by decide) (by decide) (by decide) 0 0 (Nat.le_of_ble_eq_true rfl) (Nat.le_of_ble_eq_true rfl) (fun hPc hDc => k_runV (As := [.int 1, .int x_this_at]) (rest := []) C0 hZ hS hA (s_X5_fail l dC dI cy sq a_this a_this_text x_this_length x_this_at x_this_behind x_this_sort x_this_allowed a_this_plan x_this_fault x_this_place 1 x_this_at ) mV_X5_78 hPc hDc rfl rfl rfl hl rfl rfl (Nat.le_of_ble_eq_true rfl) ⟨(Nat.le_of_ble_eq_true rfl), (Nat.le_of_ble_eq_true rfl)⟩ ⟨(Nat.le_of_ble_eq_true rfl), (Nat.le_of_ble_eq_true rfl)⟩ dX5_number_14) (fun u57 H locs hw hP hD hS => ?_)
    obtain ⟨v58, v59⟩ := u57
    try dsimp only at hP hD hw
    have hP : va_P (dC, dI) vwCl [(a_this_text, .inl (cy 0, 1600, .inl g_this_text)), (a_this, .inr (5, [.ref a_this_text, .int x_this_length, .int x_this_length, .int x_this_length, .int 0, .int x_this_allowed, .ref a_this_plan, .int v58, .int v59]))] H := hP
    have hD : va_D A [(a_this_text, .inl (cy 0, 1600, .inl g_this_text)), (a_this, .inr (5, [.ref a_this_text, .int x_this_length, .int x_this_length, .int x_this_length, .int 0, .int x_this_allowed, .ref a_this_plan, .int v58, .int v59]))] := hD
    refine lv_iload_n hx hb dX5_number_17 rfl (lv_at hl 1 rfl) ?_
    subst hQ; exact k_iret hx hb hr hlk rfl ((x_this_length, x_this_length, 0, v58, v59)) hS ⟨ib_w 0 100 (ib_c 0 0 0 (by decide)) (by decide), ib_w 0 1600 hx_this_length (by decide), ib_w 0 1600 hx_this_length (by decide), ib_w 0 4 (ib_c 0 0 0 (by decide)) (by decide), fun hq9 => absurd rfl hq9⟩ (hP.sub [1, 0] rfl) (hD.sub [1, 0] (by decide) rfl) (Nat.le_of_ble_eq_true rfl) (Nat.le_of_ble_eq_true rfl) dX5_number_18
set_option maxHeartbeats 4000000 in
set_option maxRecDepth 100000 in
theorem s_X5_numberBehind_a1_0_a2_100_s1 (l : Launch) (dC : Nat → ClassId) (dI : Nat → Nat → Nat) (cy : Nat → ClassId) (sq : Nat → Nat) (a_this : Nat) (a_this_text : Nat) (g_this_text : Nat → Int32) (x_this_length : Int32) (x_this_at : Int32) (x_this_behind : Int32) (x_this_sort : Int32) (x_this_allowed : Int32) (a_this_plan : Nat) (x_this_fault : Int32) (x_this_place : Int32) (hg_this_text : ia g_this_text 1600 0 255) (hx_this_length : ib x_this_length 0 1600) (hx_this_at : ib x_this_at 0 1600) (hx_this_behind : ib x_this_behind 0 1600) (hx_this_sort : ib x_this_sort 0 4) (hc0_this : ¬ x_this_sort = 0 → ib x_this_at 0 1599) : k_Met l yX5_numberBehind cX5_numberBehind 4 (some .int) { frames := 6, cells := 0, slots := 0, locals := 187 } dC dI cy sq [.ref a_this, .ref (sq 1), .int 0, .int 100] [(a_this, .inr (5, [.ref a_this_text, .int x_this_length, .int x_this_at, .int x_this_behind, .int x_this_sort, .int x_this_allowed, .ref a_this_plan, .int x_this_fault, .int x_this_place])), (a_this_text, .inl (cy 0, 1600, .inl g_this_text))] (k_Qi dC dI (fun (r : Int32) (u : Int32 × Int32 × Int32 × Int32 × Int32) => match u with | (n0, n1, n2, n3, n4) => ib r 0 100 ∧ ib n0 0 1600 ∧ ib n1 0 1600 ∧ ib n2 0 4 ∧ (¬ n2 = 0 → ib n0 0 1599)) (fun u : Int32 × Int32 × Int32 × Int32 × Int32 => match u with | (n0, n1, n2, n3, n4) => [(a_this, .inr (5, [.ref a_this_text, .int x_this_length, .int n0, .int n1, .int n2, .int x_this_allowed, .ref a_this_plan, .int n3, .int n4])), (a_this_text, .inl (cy 0, 1600, .inl g_this_text))])) := by
  refine k_ofW2 (by decide +kernel) (Nat.le_of_ble_eq_true rfl) ?_
  intro p e s m below meth c A ls H locs args Q hQ C0 hZ hr hlk hin hP hD hA hS hl
  have C0 : k_cx p s m args c cX5_numberBehind 4 RX5 dC dI cy sq := C0
  have hx := C0.1
  have hb := C0.2.1
  have hl : lv_has ls 4 [(0, .ref a_this), (1, .ref (sq 1)), (2, .int 0), (3, .int 100)] := hl
  refine lv_aload_n hx hb dX5_numberBehind_0 rfl (lv_at hl 0 rfl) ?_
  refine lv_aload_n hx hb dX5_numberBehind_1 rfl (lv_at hl 1 rfl) ?_
  refine k_jv hP hD hS hA [0, 1] [] (wr := []) rfl rfl (by decide) (by decide) (by decide) 0 0 (Nat.le_of_ble_eq_true rfl) (Nat.le_of_ble_eq_true rfl) (fun hPc hDc => k_runV (As := [.ref (sq 1)]) (rest := []) C0 hZ hS hA (s_X5_needWord_s1 l dC dI cy sq a_this a_this_text g_this_text x_this_length x_this_at x_this_behind x_this_sort x_this_allowed a_this_plan x_this_fault x_this_place hg_this_text (ib_w 0 1600 hx_this_length (by decide)) (ib_w 0 1600 hx_this_at (by decide)) (ib_w 0 1600 hx_this_behind (by decide)) (ib_w 0 4 hx_this_sort (by decide)) (fun hq9 => ib_w 0 1599 (hc0_this hq9) (by decide))) mV_X5_144 hPc hDc rfl rfl rfl hl rfl rfl (Nat.le_of_ble_eq_true rfl) ⟨(Nat.le_of_ble_eq_true rfl), (Nat.le_of_ble_eq_true rfl)⟩ ⟨(Nat.le_of_ble_eq_true rfl), (Nat.le_of_ble_eq_true rfl)⟩ dX5_numberBehind_2) (fun u2 H locs hw hP hD hS => ?_)
  obtain ⟨v3, v4, v5, v6, v7⟩ := u2
  try dsimp only at hP hD hw
  have hP : va_P (dC, dI) vwCl [(a_this, .inr (5, [.ref a_this_text, .int x_this_length, .int v3, .int v4, .int v5, .int x_this_allowed, .ref a_this_plan, .int v6, .int v7])), (a_this_text, .inl (cy 0, 1600, .inl g_this_text))] H := hP
  have hD : va_D A [(a_this, .inr (5, [.ref a_this_text, .int x_this_length, .int v3, .int v4, .int v5, .int x_this_allowed, .ref a_this_plan, .int v6, .int v7])), (a_this_text, .inl (cy 0, 1600, .inl g_this_text))] := hD
  obtain ⟨h8, h9, h10, h11⟩ := hw
  refine lv_aload_n hx hb dX5_numberBehind_5 rfl (lv_at hl 0 rfl) ?_
  refine lv_iload_n hx hb dX5_numberBehind_6 rfl (lv_at hl 2 rfl) ?_
  refine lv_iload_n hx hb dX5_numberBehind_7 rfl (lv_at hl 3 rfl) ?_
  refine k_ji hP hD hS hA [0, 1] [] (wr := []) rfl rfl (by decide) (by decide) (by decide) 0 0 (Nat.le_of_ble_eq_true rfl) (Nat.le_of_ble_eq_true rfl) (fun hPc hDc => k_runV (As := [.int 0, .int 100]) (rest := []) C0 hZ hS hA (s_X5_number_a0_0_a1_100 l dC dI cy sq a_this a_this_text g_this_text x_this_length v3 v4 v5 x_this_allowed a_this_plan v6 v7 hg_this_text (ib_w 0 1600 hx_this_length (by decide)) (ib_w 0 1600 h8 (by decide)) (ib_w 0 1600 h9 (by decide)) (ib_w 0 4 h10 (by decide)) (fun hq9 => ib_w 0 1599 (h11 hq9) (by decide))) mV_X5_168 hPc hDc rfl rfl rfl hl rfl rfl (Nat.le_of_ble_eq_true rfl) ⟨(Nat.le_of_ble_eq_true rfl), (Nat.le_of_ble_eq_true rfl)⟩ ⟨(Nat.le_of_ble_eq_true rfl), (Nat.le_of_ble_eq_true rfl)⟩ dX5_numberBehind_8) (fun r12 u13 H locs hw hP hD hS => ?_)
  obtain ⟨v14, v15, v16, v17, v18⟩ := u13
  try dsimp only at hP hD hw
  have hP : va_P (dC, dI) vwCl [(a_this, .inr (5, [.ref a_this_text, .int x_this_length, .int v14, .int v15, .int v16, .int x_this_allowed, .ref a_this_plan, .int v17, .int v18])), (a_this_text, .inl (cy 0, 1600, .inl g_this_text))] H := hP
  have hD : va_D A [(a_this, .inr (5, [.ref a_this_text, .int x_this_length, .int v14, .int v15, .int v16, .int x_this_allowed, .ref a_this_plan, .int v17, .int v18])), (a_this_text, .inl (cy 0, 1600, .inl g_this_text))] := hD
  obtain ⟨h19, h20, h21, h22, h23⟩ := hw
  subst hQ; exact k_iret hx hb hr hlk rfl ((v14, v15, v16, v17, v18)) hS ⟨ib_w 0 100 h19 (by decide), ib_w 0 1600 h20 (by decide), ib_w 0 1600 h21 (by decide), ib_w 0 4 h22 (by decide), fun hq9 => ib_w 0 1599 (h23 hq9) (by decide)⟩ hP hD (Nat.le_of_ble_eq_true rfl) (Nat.le_of_ble_eq_true rfl) dX5_numberBehind_11
set_option maxHeartbeats 4000000 in
set_option maxRecDepth 100000 in
theorem s_X5_readCrossing (l : Launch) (dC : Nat → ClassId) (dI : Nat → Nat → Nat) (cy : Nat → ClassId) (sq : Nat → Nat) (a_this : Nat) (a_this_text : Nat) (g_this_text : Nat → Int32) (x_this_length : Int32) (x_this_at : Int32) (x_this_behind : Int32) (x_this_sort : Int32) (x_this_allowed : Int32) (a_this_plan : Nat) (x_this_fault : Int32) (x_this_place : Int32) (a_arg0 : Nat) (x_arg0_cycle : Int32) (x_arg0_green : Int32) (x_arg0_rule : Int32) (x_arg0_least : Int32) (x_arg0_away : Int32) (x_arg0_statements : Int32) (x_arg0_kinds : Int32) (a_arg0_calm : Nat) (g_arg0_calm : Nat → Int32) (a_arg0_pace : Nat) (g_arg0_pace : Nat → Int32) (a_arg0_trusts : Nat) (g_arg0_trusts : Nat → Int32) (x_arg0_walkers : Int32) (a_arg0_kindOf : Nat) (g_arg0_kindOf : Nat → Int32) (a_arg0_comesAt : Nat) (g_arg0_comesAt : Nat → Int32) (a_arg0_comers : Nat) (g_arg0_comers : Nat → Int32) (a_arg0_names : Nat) (g_arg0_names : Nat → Int32) (a_arg0_code : Nat) (g_arg0_code : Nat → Int32) (x_arg0_size : Int32) (a_arg0_spans : Nat) (g_arg0_spans : Nat → Int32) (p1 : Int32) (hg_this_text : ia g_this_text 1600 0 255) (hg_arg0_kindOf : ia g_arg0_kindOf 12 0 5) (hg_arg0_comesAt : ia g_arg0_comesAt 12 0 199) (hg_arg0_spans : ia g_arg0_spans 6 0 1600) (hp1 : ib p1 0 1600) : k_Met l yX5_readCrossing cX5_readCrossing 4 none { frames := 37, cells := 0, slots := 0, locals := 877 } dC dI cy sq [.ref a_this, .ref a_arg0, .int p1] [(a_this, .inr (5, [.ref a_this_text, .int x_this_length, .int x_this_at, .int x_this_behind, .int x_this_sort, .int x_this_allowed, .ref a_this_plan, .int x_this_fault, .int x_this_place])), (a_arg0, .inr (4, [.int x_arg0_cycle, .int x_arg0_green, .int x_arg0_rule, .int x_arg0_least, .int x_arg0_away, .int x_arg0_statements, .int x_arg0_kinds, .ref a_arg0_calm, .ref a_arg0_pace, .ref a_arg0_trusts, .int x_arg0_walkers, .ref a_arg0_kindOf, .ref a_arg0_comesAt, .ref a_arg0_comers, .ref a_arg0_names, .ref a_arg0_code, .int x_arg0_size, .ref a_arg0_spans])), (a_arg0_comers, .inl (cy 0, 200, .inl g_arg0_comers)), (a_arg0_spans, .inl (cy 0, 6, .inl g_arg0_spans)), (a_this_text, .inl (cy 0, 1600, .inl g_this_text)), (a_arg0_names, .inl (cy 0, 108, .inl g_arg0_names)), (a_arg0_calm, .inl (cy 0, 6, .inl g_arg0_calm)), (a_arg0_pace, .inl (cy 0, 6, .inl g_arg0_pace)), (a_arg0_trusts, .inl (cy 0, 6, .inl g_arg0_trusts)), (a_arg0_kindOf, .inl (cy 0, 12, .inl g_arg0_kindOf)), (a_arg0_comesAt, .inl (cy 0, 12, .inl g_arg0_comesAt)), (a_arg0_code, .inl (cy 0, 1600, .inl g_arg0_code))] (k_Qv dC dI (fun (u : Int32 × Int32 × Int32 × Int32 × Int32 × Int32 × Int32 × Int32 × Int32 × Int32 × Int32 × Int32 × Int32 × Int32 × Int32 × Int32 × (Nat → Int32) × (Nat → Int32) × (Nat → Int32) × (Nat → Int32) × (Nat → Int32) × (Nat → Int32) × (Nat → Int32) × (Nat → Int32) × (Nat → Int32)) => match u with | (n0, n1, n2, n3, n4, n5, n6, n7, n8, n9, n10, n11, n12, n13, n14, n15, n16, n17, n18, n19, n20, n21, n22, n23, n24) => ib n0 0 1600 ∧ ib n1 0 1600 ∧ ib n2 0 1600 ∧ ib n3 0 0 ∧ ib n7 10 120 ∧ ib n8 1 2147483647 ∧ ib n9 0 2 ∧ ib n10 0 99 ∧ ib n11 0 100 ∧ ib n12 1 80 ∧ ib n13 0 6 ∧ ib n14 0 12 ∧ ib n15 0 1600 ∧ ia n17 6 0 1600 ∧ ia n22 12 0 5 ∧ ia n23 12 0 199 ∧ (¬ n3 = 0 → ib n1 0 1599)) (fun u : Int32 × Int32 × Int32 × Int32 × Int32 × Int32 × Int32 × Int32 × Int32 × Int32 × Int32 × Int32 × Int32 × Int32 × Int32 × Int32 × (Nat → Int32) × (Nat → Int32) × (Nat → Int32) × (Nat → Int32) × (Nat → Int32) × (Nat → Int32) × (Nat → Int32) × (Nat → Int32) × (Nat → Int32) => match u with | (n0, n1, n2, n3, n4, n5, n6, n7, n8, n9, n10, n11, n12, n13, n14, n15, n16, n17, n18, n19, n20, n21, n22, n23, n24) => [(a_this, .inr (5, [.ref a_this_text, .int n0, .int n1, .int n2, .int n3, .int n4, .ref a_arg0, .int n5, .int n6])), (a_arg0, .inr (4, [.int n7, .int n8, .int n9, .int n10, .int n11, .int n12, .int n13, .ref a_arg0_calm, .ref a_arg0_pace, .ref a_arg0_trusts, .int n14, .ref a_arg0_kindOf, .ref a_arg0_comesAt, .ref a_arg0_comers, .ref a_arg0_names, .ref a_arg0_code, .int n15, .ref a_arg0_spans])), (a_arg0_comers, .inl (cy 0, 200, .inl n16)), (a_arg0_spans, .inl (cy 0, 6, .inl n17)), (a_this_text, .inl (cy 0, 1600, .inl g_this_text)), (a_arg0_names, .inl (cy 0, 108, .inl n18)), (a_arg0_calm, .inl (cy 0, 6, .inl n19)), (a_arg0_pace, .inl (cy 0, 6, .inl n20)), (a_arg0_trusts, .inl (cy 0, 6, .inl n21)), (a_arg0_kindOf, .inl (cy 0, 12, .inl n22)), (a_arg0_comesAt, .inl (cy 0, 12, .inl n23)), (a_arg0_code, .inl (cy 0, 1600, .inl n24))])) := by
  refine k_ofW2 (by decide +kernel) (Nat.le_of_ble_eq_true rfl) ?_
  intro p e s m below meth c A ls H locs args Q hQ C0 hZ hr hlk hin hP hD hA hS hl
  have C0 : k_cx p s m args c cX5_readCrossing 4 RX5 dC dI cy sq := C0
  have hx := C0.1
  have hb := C0.2.1
  have hl : lv_has ls 4 [(0, .ref a_this), (1, .ref a_arg0), (2, .int p1)] := hl
  have jn174 : ∀ (J174_l3 : Int32) (J174_c0_1 : Int32) (J174_c0_2 : Int32) (J174_c0_3 : Int32) (J174_c0_4 : Int32) (J174_c0_5 : Int32) (J174_c0_7 : Int32) (J174_c0_8 : Int32) (J174_c1_0 : Int32) (J174_c1_1 : Int32) (J174_c1_2 : Int32) (J174_c1_3 : Int32) (J174_c1_4 : Int32) (J174_c1_6 : Int32) (J174_c1_10 : Int32) (J174_c1_16 : Int32) (J174_a2 : Nat → Int32) (J174_a3 : Nat → Int32) (J174_a5 : Nat → Int32) (J174_a6 : Nat → Int32) (J174_a7 : Nat → Int32) (J174_a8 : Nat → Int32) (J174_a9 : Nat → Int32) (J174_a10 : Nat → Int32) (J174_a11 : Nat → Int32) (H : Heap) (locs : List Loc) (ls : Array Slot), ib J174_l3 1 80 → ib J174_c0_1 0 1600 → ib J174_c0_2 0 1600 → ib J174_c0_3 0 1600 → ib J174_c0_4 0 0 → ib J174_c1_0 10 120 → ib J174_c1_1 1 2147483647 → ib J174_c1_2 0 2 → ib J174_c1_3 0 99 → ib J174_c1_4 0 100 → ib J174_c1_6 0 6 → ib J174_c1_10 0 12 → ib J174_c1_16 0 1600 → ia J174_a3 6 0 1600 → ia J174_a9 12 0 5 → ia J174_a10 12 0 199 → (¬ J174_c0_4 = 0 → ib J174_c0_2 0 1599) → va_P (dC, dI) vwCl [(a_this, .inr (5, [.ref a_this_text, .int J174_c0_1, .int J174_c0_2, .int J174_c0_3, .int J174_c0_4, .int J174_c0_5, .ref a_arg0, .int J174_c0_7, .int J174_c0_8])), (a_arg0, .inr (4, [.int J174_c1_0, .int J174_c1_1, .int J174_c1_2, .int J174_c1_3, .int J174_c1_4, .int 0, .int J174_c1_6, .ref a_arg0_calm, .ref a_arg0_pace, .ref a_arg0_trusts, .int J174_c1_10, .ref a_arg0_kindOf, .ref a_arg0_comesAt, .ref a_arg0_comers, .ref a_arg0_names, .ref a_arg0_code, .int J174_c1_16, .ref a_arg0_spans])), (a_arg0_comers, .inl (cy 0, 200, .inl J174_a2)), (a_arg0_spans, .inl (cy 0, 6, .inl J174_a3)), (a_this_text, .inl (cy 0, 1600, .inl g_this_text)), (a_arg0_names, .inl (cy 0, 108, .inl J174_a5)), (a_arg0_calm, .inl (cy 0, 6, .inl J174_a6)), (a_arg0_pace, .inl (cy 0, 6, .inl J174_a7)), (a_arg0_trusts, .inl (cy 0, 6, .inl J174_a8)), (a_arg0_kindOf, .inl (cy 0, 12, .inl J174_a9)), (a_arg0_comesAt, .inl (cy 0, 12, .inl J174_a10)), (a_arg0_code, .inl (cy 0, 1600, .inl J174_a11))] H → va_D A [(a_this, .inr (5, [.ref a_this_text, .int J174_c0_1, .int J174_c0_2, .int J174_c0_3, .int J174_c0_4, .int J174_c0_5, .ref a_arg0, .int J174_c0_7, .int J174_c0_8])), (a_arg0, .inr (4, [.int J174_c1_0, .int J174_c1_1, .int J174_c1_2, .int J174_c1_3, .int J174_c1_4, .int 0, .int J174_c1_6, .ref a_arg0_calm, .ref a_arg0_pace, .ref a_arg0_trusts, .int J174_c1_10, .ref a_arg0_kindOf, .ref a_arg0_comesAt, .ref a_arg0_comers, .ref a_arg0_names, .ref a_arg0_code, .int J174_c1_16, .ref a_arg0_spans])), (a_arg0_comers, .inl (cy 0, 200, .inl J174_a2)), (a_arg0_spans, .inl (cy 0, 6, .inl J174_a3)), (a_this_text, .inl (cy 0, 1600, .inl g_this_text)), (a_arg0_names, .inl (cy 0, 108, .inl J174_a5)), (a_arg0_calm, .inl (cy 0, 6, .inl J174_a6)), (a_arg0_pace, .inl (cy 0, 6, .inl J174_a7)), (a_arg0_trusts, .inl (cy 0, 6, .inl J174_a8)), (a_arg0_kindOf, .inl (cy 0, 12, .inl J174_a9)), (a_arg0_comesAt, .inl (cy 0, 12, .inl J174_a10)), (a_arg0_code, .inl (cy 0, 1600, .inl J174_a11))] → va_S A s.heap H locs → lv_has ls 4 [(0, .ref a_this), (1, .ref a_arg0), (2, .int p1), (3, .int J174_l3)] → W p l e { frames := 37, cells := 0, slots := 0, locals := 877 } s m args below meth c H locs 0 0 Q (F0 m 174 ls []) := by
    intro J174_l3 J174_c0_1 J174_c0_2 J174_c0_3 J174_c0_4 J174_c0_5 J174_c0_7 J174_c0_8 J174_c1_0 J174_c1_1 J174_c1_2 J174_c1_3 J174_c1_4 J174_c1_6 J174_c1_10 J174_c1_16 J174_a2 J174_a3 J174_a5 J174_a6 J174_a7 J174_a8 J174_a9 J174_a10 J174_a11 H locs ls hJ174_l3 hJ174_c0_1 hJ174_c0_2 hJ174_c0_3 hJ174_c0_4 hJ174_c1_0 hJ174_c1_1 hJ174_c1_2 hJ174_c1_3 hJ174_c1_4 hJ174_c1_6 hJ174_c1_10 hJ174_c1_16 hJ174_a3 hJ174_a9 hJ174_a10 hJ174_ic0_0 hP hD hS hl
    refine lv_aload_n hx hb dX5_readCrossing_174 rfl (lv_at hl 1 rfl) ?_
    refine lv_iload_n hx hb dX5_readCrossing_175 rfl (lv_at hl 3 rfl) ?_
    refine k_put C0 fp_X5_81 hP hD hS 1 rfl rfl rfl (Nat.le_of_ble_eq_true rfl) dX5_readCrossing_176 (fun H locs hP hD hS => ?_)
    have hP : va_P (dC, dI) vwCl [(a_this, .inr (5, [.ref a_this_text, .int J174_c0_1, .int J174_c0_2, .int J174_c0_3, .int J174_c0_4, .int J174_c0_5, .ref a_arg0, .int J174_c0_7, .int J174_c0_8])), (a_arg0, .inr (4, [.int J174_c1_0, .int J174_c1_1, .int J174_c1_2, .int J174_c1_3, .int J174_c1_4, .int J174_l3, .int J174_c1_6, .ref a_arg0_calm, .ref a_arg0_pace, .ref a_arg0_trusts, .int J174_c1_10, .ref a_arg0_kindOf, .ref a_arg0_comesAt, .ref a_arg0_comers, .ref a_arg0_names, .ref a_arg0_code, .int J174_c1_16, .ref a_arg0_spans])), (a_arg0_comers, .inl (cy 0, 200, .inl J174_a2)), (a_arg0_spans, .inl (cy 0, 6, .inl J174_a3)), (a_this_text, .inl (cy 0, 1600, .inl g_this_text)), (a_arg0_names, .inl (cy 0, 108, .inl J174_a5)), (a_arg0_calm, .inl (cy 0, 6, .inl J174_a6)), (a_arg0_pace, .inl (cy 0, 6, .inl J174_a7)), (a_arg0_trusts, .inl (cy 0, 6, .inl J174_a8)), (a_arg0_kindOf, .inl (cy 0, 12, .inl J174_a9)), (a_arg0_comesAt, .inl (cy 0, 12, .inl J174_a10)), (a_arg0_code, .inl (cy 0, 1600, .inl J174_a11))] H := hP
    have hD : va_D A [(a_this, .inr (5, [.ref a_this_text, .int J174_c0_1, .int J174_c0_2, .int J174_c0_3, .int J174_c0_4, .int J174_c0_5, .ref a_arg0, .int J174_c0_7, .int J174_c0_8])), (a_arg0, .inr (4, [.int J174_c1_0, .int J174_c1_1, .int J174_c1_2, .int J174_c1_3, .int J174_c1_4, .int J174_l3, .int J174_c1_6, .ref a_arg0_calm, .ref a_arg0_pace, .ref a_arg0_trusts, .int J174_c1_10, .ref a_arg0_kindOf, .ref a_arg0_comesAt, .ref a_arg0_comers, .ref a_arg0_names, .ref a_arg0_code, .int J174_c1_16, .ref a_arg0_spans])), (a_arg0_comers, .inl (cy 0, 200, .inl J174_a2)), (a_arg0_spans, .inl (cy 0, 6, .inl J174_a3)), (a_this_text, .inl (cy 0, 1600, .inl g_this_text)), (a_arg0_names, .inl (cy 0, 108, .inl J174_a5)), (a_arg0_calm, .inl (cy 0, 6, .inl J174_a6)), (a_arg0_pace, .inl (cy 0, 6, .inl J174_a7)), (a_arg0_trusts, .inl (cy 0, 6, .inl J174_a8)), (a_arg0_kindOf, .inl (cy 0, 12, .inl J174_a9)), (a_arg0_comesAt, .inl (cy 0, 12, .inl J174_a10)), (a_arg0_code, .inl (cy 0, 1600, .inl J174_a11))] := hD
    subst hQ; exact k_vret hx hb hr hlk ((J174_c0_1, J174_c0_2, J174_c0_3, J174_c0_4, J174_c0_5, J174_c0_7, J174_c0_8, J174_c1_0, J174_c1_1, J174_c1_2, J174_c1_3, J174_c1_4, J174_l3, J174_c1_6, J174_c1_10, J174_c1_16, J174_a2, J174_a3, J174_a5, J174_a6, J174_a7, J174_a8, J174_a9, J174_a10, J174_a11)) hS ⟨ib_w 0 1600 hJ174_c0_1 (by decide), ib_w 0 1600 hJ174_c0_2 (by decide), ib_w 0 1600 hJ174_c0_3 (by decide), ib_w 0 0 hJ174_c0_4 (by decide), ib_w 10 120 hJ174_c1_0 (by decide), ib_w 1 2147483647 hJ174_c1_1 (by decide), ib_w 0 2 hJ174_c1_2 (by decide), ib_w 0 99 hJ174_c1_3 (by decide), ib_w 0 100 hJ174_c1_4 (by decide), ib_w 1 80 hJ174_l3 (by decide), ib_w 0 6 hJ174_c1_6 (by decide), ib_w 0 12 hJ174_c1_10 (by decide), ib_w 0 1600 hJ174_c1_16 (by decide), hJ174_a3, hJ174_a9, hJ174_a10, fun hq9 => ib_w 0 1599 (hJ174_ic0_0 hq9) (by decide)⟩ hP hD (Nat.le_of_ble_eq_true rfl) (Nat.le_of_ble_eq_true rfl) dX5_readCrossing_179
  have jn158 : ∀ (J158_c0_1 : Int32) (J158_c0_2 : Int32) (J158_c0_3 : Int32) (J158_c0_4 : Int32) (J158_c0_7 : Int32) (J158_c0_8 : Int32) (J158_c1_0 : Int32) (J158_c1_1 : Int32) (J158_c1_2 : Int32) (J158_c1_3 : Int32) (J158_a2 : Nat → Int32) (J158_a3 : Nat → Int32) (J158_l3 : Int32) (J158_c0_5 : Int32) (J158_c1_4 : Int32) (J158_c1_6 : Int32) (J158_c1_10 : Int32) (J158_c1_16 : Int32) (J158_a5 : Nat → Int32) (J158_a6 : Nat → Int32) (J158_a7 : Nat → Int32) (J158_a8 : Nat → Int32) (J158_a9 : Nat → Int32) (J158_a10 : Nat → Int32) (J158_a11 : Nat → Int32) (H : Heap) (locs : List Loc) (ls : Array Slot), ib J158_c0_1 0 1600 → ib J158_c0_2 0 1600 → ib J158_c0_3 0 1600 → ib J158_c0_4 0 4 → ib J158_c1_0 10 120 → ib J158_c1_1 1 2147483647 → ib J158_c1_2 0 2 → ib J158_c1_3 0 99 → ib J158_l3 1 80 → ib J158_c1_4 0 100 → ib J158_c1_6 0 6 → ib J158_c1_10 0 12 → ib J158_c1_16 0 1600 → ia J158_a3 6 0 1600 → ia J158_a9 12 0 5 → ia J158_a10 12 0 199 → (¬ J158_c0_4 = 0 → ib J158_c0_2 0 1599) → va_P (dC, dI) vwCl [(a_this, .inr (5, [.ref a_this_text, .int J158_c0_1, .int J158_c0_2, .int J158_c0_3, .int J158_c0_4, .int J158_c0_5, .ref a_arg0, .int J158_c0_7, .int J158_c0_8])), (a_arg0, .inr (4, [.int J158_c1_0, .int J158_c1_1, .int J158_c1_2, .int J158_c1_3, .int J158_c1_4, .int 0, .int J158_c1_6, .ref a_arg0_calm, .ref a_arg0_pace, .ref a_arg0_trusts, .int J158_c1_10, .ref a_arg0_kindOf, .ref a_arg0_comesAt, .ref a_arg0_comers, .ref a_arg0_names, .ref a_arg0_code, .int J158_c1_16, .ref a_arg0_spans])), (a_arg0_comers, .inl (cy 0, 200, .inl J158_a2)), (a_arg0_spans, .inl (cy 0, 6, .inl J158_a3)), (a_this_text, .inl (cy 0, 1600, .inl g_this_text)), (a_arg0_names, .inl (cy 0, 108, .inl J158_a5)), (a_arg0_calm, .inl (cy 0, 6, .inl J158_a6)), (a_arg0_pace, .inl (cy 0, 6, .inl J158_a7)), (a_arg0_trusts, .inl (cy 0, 6, .inl J158_a8)), (a_arg0_kindOf, .inl (cy 0, 12, .inl J158_a9)), (a_arg0_comesAt, .inl (cy 0, 12, .inl J158_a10)), (a_arg0_code, .inl (cy 0, 1600, .inl J158_a11))] H → va_D A [(a_this, .inr (5, [.ref a_this_text, .int J158_c0_1, .int J158_c0_2, .int J158_c0_3, .int J158_c0_4, .int J158_c0_5, .ref a_arg0, .int J158_c0_7, .int J158_c0_8])), (a_arg0, .inr (4, [.int J158_c1_0, .int J158_c1_1, .int J158_c1_2, .int J158_c1_3, .int J158_c1_4, .int 0, .int J158_c1_6, .ref a_arg0_calm, .ref a_arg0_pace, .ref a_arg0_trusts, .int J158_c1_10, .ref a_arg0_kindOf, .ref a_arg0_comesAt, .ref a_arg0_comers, .ref a_arg0_names, .ref a_arg0_code, .int J158_c1_16, .ref a_arg0_spans])), (a_arg0_comers, .inl (cy 0, 200, .inl J158_a2)), (a_arg0_spans, .inl (cy 0, 6, .inl J158_a3)), (a_this_text, .inl (cy 0, 1600, .inl g_this_text)), (a_arg0_names, .inl (cy 0, 108, .inl J158_a5)), (a_arg0_calm, .inl (cy 0, 6, .inl J158_a6)), (a_arg0_pace, .inl (cy 0, 6, .inl J158_a7)), (a_arg0_trusts, .inl (cy 0, 6, .inl J158_a8)), (a_arg0_kindOf, .inl (cy 0, 12, .inl J158_a9)), (a_arg0_comesAt, .inl (cy 0, 12, .inl J158_a10)), (a_arg0_code, .inl (cy 0, 1600, .inl J158_a11))] → va_S A s.heap H locs → lv_has ls 4 [(0, .ref a_this), (1, .ref a_arg0), (2, .int p1), (3, .int J158_l3)] → W p l e { frames := 37, cells := 0, slots := 0, locals := 877 } s m args below meth c H locs 0 0 Q (F0 m 158 ls []) := by
    intro J158_c0_1 J158_c0_2 J158_c0_3 J158_c0_4 J158_c0_7 J158_c0_8 J158_c1_0 J158_c1_1 J158_c1_2 J158_c1_3 J158_a2 J158_a3 J158_l3 J158_c0_5 J158_c1_4 J158_c1_6 J158_c1_10 J158_c1_16 J158_a5 J158_a6 J158_a7 J158_a8 J158_a9 J158_a10 J158_a11 H locs ls hJ158_c0_1 hJ158_c0_2 hJ158_c0_3 hJ158_c0_4 hJ158_c1_0 hJ158_c1_1 hJ158_c1_2 hJ158_c1_3 hJ158_l3 hJ158_c1_4 hJ158_c1_6 hJ158_c1_10 hJ158_c1_16 hJ158_a3 hJ158_a9 hJ158_a10 hJ158_ic0_0 hP hD hS hl
    refine lv_aload_n hx hb dX5_readCrossing_158 rfl (lv_at hl 0 rfl) ?_
    refine k_get C0 fg_X5_21 hP 0 rfl rfl dX5_readCrossing_159 ?_
    refine lv_if_eq (tgt := 174) hx hb dX5_readCrossing_162 (by decide) (fun c1 => ?_) (fun c1 => ?_)
    · have h2 := ib_eq hJ158_c0_4 (ib_c 0 0 0 (by decide)) c1
      have h3 : ib J158_c0_4 0 0 := ib_w 0 0 h2.1 (by decide)
      exact jn174 J158_l3 J158_c0_1 J158_c0_2 J158_c0_3 J158_c0_4 J158_c0_5 J158_c0_7 J158_c0_8 J158_c1_0 J158_c1_1 J158_c1_2 J158_c1_3 J158_c1_4 J158_c1_6 J158_c1_10 J158_c1_16 J158_a2 J158_a3 J158_a5 J158_a6 J158_a7 J158_a8 J158_a9 J158_a10 J158_a11 H locs ls (ib_w 1 80 hJ158_l3 (by decide)) (ib_w 0 1600 hJ158_c0_1 (by decide)) (ib_w 0 1600 hJ158_c0_2 (by decide)) (ib_w 0 1600 hJ158_c0_3 (by decide)) (ib_w 0 0 h3 (by decide)) (ib_w 10 120 hJ158_c1_0 (by decide)) (ib_w 1 2147483647 hJ158_c1_1 (by decide)) (ib_w 0 2 hJ158_c1_2 (by decide)) (ib_w 0 99 hJ158_c1_3 (by decide)) (ib_w 0 100 hJ158_c1_4 (by decide)) (ib_w 0 6 hJ158_c1_6 (by decide)) (ib_w 0 12 hJ158_c1_10 (by decide)) (ib_w 0 1600 hJ158_c1_16 (by decide)) hJ158_a3 hJ158_a9 hJ158_a10 (fun hq9 => ib_w 0 1599 (hJ158_ic0_0 hq9) (by decide)) hP hD hS (lv_sub hl [0, 1, 2, 3] rfl)
    · have h4 : ib J158_c0_4 1 4 := ib_w 1 4 (ib_ne_lo 0 hJ158_c0_4 (by decide) c1) (by decide)
      have h5 : ib J158_c0_2 0 1599 := ib_w 0 1599 (ib_two hJ158_c0_2 (hJ158_ic0_0 c1)) (by decide)
      refine lv_aload_n hx hb dX5_readCrossing_165 rfl (lv_at hl 0 rfl) ?_
      refine lv_iconst (v := 5) hx hb dX5_readCrossing_166 (by decide) ?_
      refine lv_aload_n hx hb dX5_readCrossing_167 rfl (lv_at hl 0 rfl) ?_
      refine k_get C0 fg_X5_15 hP 0 rfl rfl dX5_readCrossing_168 ?_
      refine k_jv hP hD hS hA [0] [1, 2, 3, 4, 5, 6, 7, 8, 9, 10, 11] (wr := [(a_arg0, .inr (4, [.int J158_c1_0, .int J158_c1_1, .int J158_c1_2, .int J158_c1_3, .int J158_c1_4, .int 0, .int J158_c1_6, .ref a_arg0_calm, .ref a_arg0_pace, .ref a_arg0_trusts, .int J158_c1_10, .ref a_arg0_kindOf, .ref a_arg0_comesAt, .ref a_arg0_comers, .ref a_arg0_names, .ref a_arg0_code, .int J158_c1_16, .ref a_arg0_spans])), (a_arg0_comers, .inl (cy 0, 200, .inl J158_a2)), (a_arg0_spans, .inl (cy 0, 6, .inl J158_a3)), (a_this_text, .inl (cy 0, 1600, .inl g_this_text)), (a_arg0_names, .inl (cy 0, 108, .inl J158_a5)), (a_arg0_calm, .inl (cy 0, 6, .inl J158_a6)), (a_arg0_pace, .inl (cy 0, 6, .inl J158_a7)), (a_arg0_trusts, .inl (cy 0, 6, .inl J158_a8)), (a_arg0_kindOf, .inl (cy 0, 12, .inl J158_a9)), (a_arg0_comesAt, .inl (cy 0, 12, .inl J158_a10)), (a_arg0_code, .inl (cy 0, 1600, .inl J158_a11))]) rfl rfl (by decide) (by decide) (by decide) 0 0 (Nat.le_of_ble_eq_true rfl) (Nat.le_of_ble_eq_true rfl) (fun hPc hDc => k_runV (As := [.int 5, .int J158_c0_2]) (rest := []) C0 hZ hS hA (s_X5_fail l dC dI cy sq a_this a_this_text J158_c0_1 J158_c0_2 J158_c0_3 J158_c0_4 J158_c0_5 a_arg0 J158_c0_7 J158_c0_8 5 J158_c0_2 ) mV_X5_78 hPc hDc rfl rfl rfl hl rfl rfl (Nat.le_of_ble_eq_true rfl) ⟨(Nat.le_of_ble_eq_true rfl), (Nat.le_of_ble_eq_true rfl)⟩ ⟨(Nat.le_of_ble_eq_true rfl), (Nat.le_of_ble_eq_true rfl)⟩ dX5_readCrossing_171) (fun u7 H locs hw hP hD hS => ?_)
      obtain ⟨v8, v9⟩ := u7
      try dsimp only at hP hD hw
      have hP : va_P (dC, dI) vwCl [(a_arg0, .inr (4, [.int J158_c1_0, .int J158_c1_1, .int J158_c1_2, .int J158_c1_3, .int J158_c1_4, .int 0, .int J158_c1_6, .ref a_arg0_calm, .ref a_arg0_pace, .ref a_arg0_trusts, .int J158_c1_10, .ref a_arg0_kindOf, .ref a_arg0_comesAt, .ref a_arg0_comers, .ref a_arg0_names, .ref a_arg0_code, .int J158_c1_16, .ref a_arg0_spans])), (a_arg0_comers, .inl (cy 0, 200, .inl J158_a2)), (a_arg0_spans, .inl (cy 0, 6, .inl J158_a3)), (a_this_text, .inl (cy 0, 1600, .inl g_this_text)), (a_arg0_names, .inl (cy 0, 108, .inl J158_a5)), (a_arg0_calm, .inl (cy 0, 6, .inl J158_a6)), (a_arg0_pace, .inl (cy 0, 6, .inl J158_a7)), (a_arg0_trusts, .inl (cy 0, 6, .inl J158_a8)), (a_arg0_kindOf, .inl (cy 0, 12, .inl J158_a9)), (a_arg0_comesAt, .inl (cy 0, 12, .inl J158_a10)), (a_arg0_code, .inl (cy 0, 1600, .inl J158_a11)), (a_this, .inr (5, [.ref a_this_text, .int J158_c0_1, .int J158_c0_1, .int J158_c0_1, .int 0, .int J158_c0_5, .ref a_arg0, .int v8, .int v9]))] H := hP
      have hD : va_D A [(a_arg0, .inr (4, [.int J158_c1_0, .int J158_c1_1, .int J158_c1_2, .int J158_c1_3, .int J158_c1_4, .int 0, .int J158_c1_6, .ref a_arg0_calm, .ref a_arg0_pace, .ref a_arg0_trusts, .int J158_c1_10, .ref a_arg0_kindOf, .ref a_arg0_comesAt, .ref a_arg0_comers, .ref a_arg0_names, .ref a_arg0_code, .int J158_c1_16, .ref a_arg0_spans])), (a_arg0_comers, .inl (cy 0, 200, .inl J158_a2)), (a_arg0_spans, .inl (cy 0, 6, .inl J158_a3)), (a_this_text, .inl (cy 0, 1600, .inl g_this_text)), (a_arg0_names, .inl (cy 0, 108, .inl J158_a5)), (a_arg0_calm, .inl (cy 0, 6, .inl J158_a6)), (a_arg0_pace, .inl (cy 0, 6, .inl J158_a7)), (a_arg0_trusts, .inl (cy 0, 6, .inl J158_a8)), (a_arg0_kindOf, .inl (cy 0, 12, .inl J158_a9)), (a_arg0_comesAt, .inl (cy 0, 12, .inl J158_a10)), (a_arg0_code, .inl (cy 0, 1600, .inl J158_a11)), (a_this, .inr (5, [.ref a_this_text, .int J158_c0_1, .int J158_c0_1, .int J158_c0_1, .int 0, .int J158_c0_5, .ref a_arg0, .int v8, .int v9]))] := hD
      exact jn174 J158_l3 J158_c0_1 J158_c0_1 J158_c0_1 0 J158_c0_5 v8 v9 J158_c1_0 J158_c1_1 J158_c1_2 J158_c1_3 J158_c1_4 J158_c1_6 J158_c1_10 J158_c1_16 J158_a2 J158_a3 J158_a5 J158_a6 J158_a7 J158_a8 J158_a9 J158_a10 J158_a11 H locs ls (ib_w 1 80 hJ158_l3 (by decide)) (ib_w 0 1600 hJ158_c0_1 (by decide)) (ib_w 0 1600 hJ158_c0_1 (by decide)) (ib_w 0 1600 hJ158_c0_1 (by decide)) (ib_w 0 0 (ib_c 0 0 0 (by decide)) (by decide)) (ib_w 10 120 hJ158_c1_0 (by decide)) (ib_w 1 2147483647 hJ158_c1_1 (by decide)) (ib_w 0 2 hJ158_c1_2 (by decide)) (ib_w 0 99 hJ158_c1_3 (by decide)) (ib_w 0 100 hJ158_c1_4 (by decide)) (ib_w 0 6 hJ158_c1_6 (by decide)) (ib_w 0 12 hJ158_c1_10 (by decide)) (ib_w 0 1600 hJ158_c1_16 (by decide)) hJ158_a3 hJ158_a9 hJ158_a10 (fun hq9 => absurd rfl hq9) (hP.sub [11, 0, 1, 2, 3, 4, 5, 6, 7, 8, 9, 10] rfl) (hD.sub [11, 0, 1, 2, 3, 4, 5, 6, 7, 8, 9, 10] (by decide) rfl) hS (lv_sub hl [0, 1, 2, 3] rfl)
  have jn18 : ∀ (n : Nat) (J18_c0_1 : Int32) (J18_c0_2 : Int32) (J18_c0_3 : Int32) (J18_c0_4 : Int32) (J18_c0_7 : Int32) (J18_c0_8 : Int32) (J18_c1_0 : Int32) (J18_c1_1 : Int32) (J18_c1_2 : Int32) (J18_c1_3 : Int32) (J18_a2 : Nat → Int32) (J18_a3 : Nat → Int32) (J18_l3 : Int32) (J18_c0_5 : Int32) (J18_c1_4 : Int32) (J18_c1_6 : Int32) (J18_c1_10 : Int32) (J18_c1_16 : Int32) (J18_a5 : Nat → Int32) (J18_a6 : Nat → Int32) (J18_a7 : Nat → Int32) (J18_a8 : Nat → Int32) (J18_a9 : Nat → Int32) (J18_a10 : Nat → Int32) (J18_a11 : Nat → Int32) (H : Heap) (locs : List Loc) (ls : Array Slot), ib J18_c0_1 0 1600 → ib J18_c0_2 0 1600 → ib J18_c0_3 0 1600 → ib J18_c0_4 0 4 → ib J18_c1_0 10 120 → ib J18_c1_1 1 2147483647 → ib J18_c1_2 0 2 → ib J18_c1_3 0 99 → ib J18_l3 1 80 → ib J18_c1_4 0 100 → ib J18_c1_6 0 6 → ib J18_c1_10 0 12 → ib J18_c1_16 0 1600 → ia J18_a3 6 0 1600 → ia J18_a9 12 0 5 → ia J18_a10 12 0 199 → (¬ J18_c0_4 = 0 → ib J18_c0_2 0 1599) → 81 ≤ J18_l3.toInt + (n : Int) → va_P (dC, dI) vwCl [(a_this, .inr (5, [.ref a_this_text, .int J18_c0_1, .int J18_c0_2, .int J18_c0_3, .int J18_c0_4, .int J18_c0_5, .ref a_arg0, .int J18_c0_7, .int J18_c0_8])), (a_arg0, .inr (4, [.int J18_c1_0, .int J18_c1_1, .int J18_c1_2, .int J18_c1_3, .int J18_c1_4, .int 0, .int J18_c1_6, .ref a_arg0_calm, .ref a_arg0_pace, .ref a_arg0_trusts, .int J18_c1_10, .ref a_arg0_kindOf, .ref a_arg0_comesAt, .ref a_arg0_comers, .ref a_arg0_names, .ref a_arg0_code, .int J18_c1_16, .ref a_arg0_spans])), (a_arg0_comers, .inl (cy 0, 200, .inl J18_a2)), (a_arg0_spans, .inl (cy 0, 6, .inl J18_a3)), (a_this_text, .inl (cy 0, 1600, .inl g_this_text)), (a_arg0_names, .inl (cy 0, 108, .inl J18_a5)), (a_arg0_calm, .inl (cy 0, 6, .inl J18_a6)), (a_arg0_pace, .inl (cy 0, 6, .inl J18_a7)), (a_arg0_trusts, .inl (cy 0, 6, .inl J18_a8)), (a_arg0_kindOf, .inl (cy 0, 12, .inl J18_a9)), (a_arg0_comesAt, .inl (cy 0, 12, .inl J18_a10)), (a_arg0_code, .inl (cy 0, 1600, .inl J18_a11))] H → va_D A [(a_this, .inr (5, [.ref a_this_text, .int J18_c0_1, .int J18_c0_2, .int J18_c0_3, .int J18_c0_4, .int J18_c0_5, .ref a_arg0, .int J18_c0_7, .int J18_c0_8])), (a_arg0, .inr (4, [.int J18_c1_0, .int J18_c1_1, .int J18_c1_2, .int J18_c1_3, .int J18_c1_4, .int 0, .int J18_c1_6, .ref a_arg0_calm, .ref a_arg0_pace, .ref a_arg0_trusts, .int J18_c1_10, .ref a_arg0_kindOf, .ref a_arg0_comesAt, .ref a_arg0_comers, .ref a_arg0_names, .ref a_arg0_code, .int J18_c1_16, .ref a_arg0_spans])), (a_arg0_comers, .inl (cy 0, 200, .inl J18_a2)), (a_arg0_spans, .inl (cy 0, 6, .inl J18_a3)), (a_this_text, .inl (cy 0, 1600, .inl g_this_text)), (a_arg0_names, .inl (cy 0, 108, .inl J18_a5)), (a_arg0_calm, .inl (cy 0, 6, .inl J18_a6)), (a_arg0_pace, .inl (cy 0, 6, .inl J18_a7)), (a_arg0_trusts, .inl (cy 0, 6, .inl J18_a8)), (a_arg0_kindOf, .inl (cy 0, 12, .inl J18_a9)), (a_arg0_comesAt, .inl (cy 0, 12, .inl J18_a10)), (a_arg0_code, .inl (cy 0, 1600, .inl J18_a11))] → va_S A s.heap H locs → lv_has ls 4 [(0, .ref a_this), (1, .ref a_arg0), (2, .int p1), (3, .int J18_l3)] → W p l e { frames := 37, cells := 0, slots := 0, locals := 877 } s m args below meth c H locs 0 0 Q (F0 m 18 ls []) := by
    intro n
    induction n with
    | zero =>
      intro J18_c0_1 J18_c0_2 J18_c0_3 J18_c0_4 J18_c0_7 J18_c0_8 J18_c1_0 J18_c1_1 J18_c1_2 J18_c1_3 J18_a2 J18_a3 J18_l3 J18_c0_5 J18_c1_4 J18_c1_6 J18_c1_10 J18_c1_16 J18_a5 J18_a6 J18_a7 J18_a8 J18_a9 J18_a10 J18_a11 H locs ls hJ18_c0_1 hJ18_c0_2 hJ18_c0_3 hJ18_c0_4 hJ18_c1_0 hJ18_c1_1 hJ18_c1_2 hJ18_c1_3 hJ18_l3 hJ18_c1_4 hJ18_c1_6 hJ18_c1_10 hJ18_c1_16 hJ18_a3 hJ18_a9 hJ18_a10 hJ18_ic0_0 hm
      exact absurd hm (by have := hJ18_l3; unfold ib at this; omega)
    | succ n ih =>
      intro J18_c0_1 J18_c0_2 J18_c0_3 J18_c0_4 J18_c0_7 J18_c0_8 J18_c1_0 J18_c1_1 J18_c1_2 J18_c1_3 J18_a2 J18_a3 J18_l3 J18_c0_5 J18_c1_4 J18_c1_6 J18_c1_10 J18_c1_16 J18_a5 J18_a6 J18_a7 J18_a8 J18_a9 J18_a10 J18_a11 H locs ls hJ18_c0_1 hJ18_c0_2 hJ18_c0_3 hJ18_c0_4 hJ18_c1_0 hJ18_c1_1 hJ18_c1_2 hJ18_c1_3 hJ18_l3 hJ18_c1_4 hJ18_c1_6 hJ18_c1_10 hJ18_c1_16 hJ18_a3 hJ18_a9 hJ18_a10 hJ18_ic0_0 hm18 hP hD hS hl
      have ih18 := ih
      have jn146 : ∀ (J146_c0_2 : Int32) (J146_c0_3 : Int32) (J146_c0_4 : Int32) (J146_c0_7 : Int32) (J146_c0_8 : Int32) (J146_c1_6 : Int32) (J146_a5 : Nat → Int32) (J146_a6 : Nat → Int32) (J146_a7 : Nat → Int32) (J146_a8 : Nat → Int32) (J146_c1_10 : Int32) (J146_a2 : Nat → Int32) (J146_a9 : Nat → Int32) (J146_a10 : Nat → Int32) (J146_c0_5 : Int32) (J146_c1_16 : Int32) (J146_a3 : Nat → Int32) (J146_a11 : Nat → Int32) (J146_c1_4 : Int32) (H : Heap) (locs : List Loc) (ls : Array Slot), ib J18_l3 1 79 → ib J18_c0_1 0 1600 → ib J146_c0_2 0 1600 → ib J146_c0_3 0 1600 → ib J146_c0_4 0 4 → ib J18_c1_0 10 120 → ib J18_c1_1 1 2147483647 → ib J18_c1_2 0 2 → ib J18_c1_3 0 99 → ib J146_c1_6 0 6 → ib J146_c1_10 0 12 → ib J146_c1_16 0 1600 → ib J146_c1_4 0 100 → ia J146_a9 12 0 5 → ia J146_a10 12 0 199 → ia J146_a3 6 0 1600 → (¬ J146_c0_4 = 0 → ib J146_c0_2 0 1599) → va_P (dC, dI) vwCl [(a_this, .inr (5, [.ref a_this_text, .int J18_c0_1, .int J146_c0_2, .int J146_c0_3, .int J146_c0_4, .int J146_c0_5, .ref a_arg0, .int J146_c0_7, .int J146_c0_8])), (a_arg0, .inr (4, [.int J18_c1_0, .int J18_c1_1, .int J18_c1_2, .int J18_c1_3, .int J146_c1_4, .int 0, .int J146_c1_6, .ref a_arg0_calm, .ref a_arg0_pace, .ref a_arg0_trusts, .int J146_c1_10, .ref a_arg0_kindOf, .ref a_arg0_comesAt, .ref a_arg0_comers, .ref a_arg0_names, .ref a_arg0_code, .int J146_c1_16, .ref a_arg0_spans])), (a_arg0_comers, .inl (cy 0, 200, .inl J146_a2)), (a_arg0_spans, .inl (cy 0, 6, .inl J146_a3)), (a_this_text, .inl (cy 0, 1600, .inl g_this_text)), (a_arg0_names, .inl (cy 0, 108, .inl J146_a5)), (a_arg0_calm, .inl (cy 0, 6, .inl J146_a6)), (a_arg0_pace, .inl (cy 0, 6, .inl J146_a7)), (a_arg0_trusts, .inl (cy 0, 6, .inl J146_a8)), (a_arg0_kindOf, .inl (cy 0, 12, .inl J146_a9)), (a_arg0_comesAt, .inl (cy 0, 12, .inl J146_a10)), (a_arg0_code, .inl (cy 0, 1600, .inl J146_a11))] H → va_D A [(a_this, .inr (5, [.ref a_this_text, .int J18_c0_1, .int J146_c0_2, .int J146_c0_3, .int J146_c0_4, .int J146_c0_5, .ref a_arg0, .int J146_c0_7, .int J146_c0_8])), (a_arg0, .inr (4, [.int J18_c1_0, .int J18_c1_1, .int J18_c1_2, .int J18_c1_3, .int J146_c1_4, .int 0, .int J146_c1_6, .ref a_arg0_calm, .ref a_arg0_pace, .ref a_arg0_trusts, .int J146_c1_10, .ref a_arg0_kindOf, .ref a_arg0_comesAt, .ref a_arg0_comers, .ref a_arg0_names, .ref a_arg0_code, .int J146_c1_16, .ref a_arg0_spans])), (a_arg0_comers, .inl (cy 0, 200, .inl J146_a2)), (a_arg0_spans, .inl (cy 0, 6, .inl J146_a3)), (a_this_text, .inl (cy 0, 1600, .inl g_this_text)), (a_arg0_names, .inl (cy 0, 108, .inl J146_a5)), (a_arg0_calm, .inl (cy 0, 6, .inl J146_a6)), (a_arg0_pace, .inl (cy 0, 6, .inl J146_a7)), (a_arg0_trusts, .inl (cy 0, 6, .inl J146_a8)), (a_arg0_kindOf, .inl (cy 0, 12, .inl J146_a9)), (a_arg0_comesAt, .inl (cy 0, 12, .inl J146_a10)), (a_arg0_code, .inl (cy 0, 1600, .inl J146_a11))] → va_S A s.heap H locs → lv_has ls 4 [(0, .ref a_this), (1, .ref a_arg0), (2, .int p1), (3, .int J18_l3)] → W p l e { frames := 37, cells := 0, slots := 0, locals := 877 } s m args below meth c H locs 0 0 Q (F0 m 146 ls []) := by
        intro J146_c0_2 J146_c0_3 J146_c0_4 J146_c0_7 J146_c0_8 J146_c1_6 J146_a5 J146_a6 J146_a7 J146_a8 J146_c1_10 J146_a2 J146_a9 J146_a10 J146_c0_5 J146_c1_16 J146_a3 J146_a11 J146_c1_4 H locs ls hK146_J18_l3 hK146_J18_c0_1 hJ146_c0_2 hJ146_c0_3 hJ146_c0_4 hK146_J18_c1_0 hK146_J18_c1_1 hK146_J18_c1_2 hK146_J18_c1_3 hJ146_c1_6 hJ146_c1_10 hJ146_c1_16 hJ146_c1_4 hJ146_a9 hJ146_a10 hJ146_a3 hJ146_ic0_0 hP hD hS hl
        refine lv_aload_n hx hb dX5_readCrossing_146 rfl (lv_at hl 0 rfl) ?_
        refine lv_bipush (v := 59) hx hb dX5_readCrossing_147 (by decide) ?_
        refine k_jv hP hD hS hA [0, 4] [1, 2, 3, 5, 6, 7, 8, 9, 10, 11] (wr := [(a_arg0, .inr (4, [.int J18_c1_0, .int J18_c1_1, .int J18_c1_2, .int J18_c1_3, .int J146_c1_4, .int 0, .int J146_c1_6, .ref a_arg0_calm, .ref a_arg0_pace, .ref a_arg0_trusts, .int J146_c1_10, .ref a_arg0_kindOf, .ref a_arg0_comesAt, .ref a_arg0_comers, .ref a_arg0_names, .ref a_arg0_code, .int J146_c1_16, .ref a_arg0_spans])), (a_arg0_comers, .inl (cy 0, 200, .inl J146_a2)), (a_arg0_spans, .inl (cy 0, 6, .inl J146_a3)), (a_arg0_names, .inl (cy 0, 108, .inl J146_a5)), (a_arg0_calm, .inl (cy 0, 6, .inl J146_a6)), (a_arg0_pace, .inl (cy 0, 6, .inl J146_a7)), (a_arg0_trusts, .inl (cy 0, 6, .inl J146_a8)), (a_arg0_kindOf, .inl (cy 0, 12, .inl J146_a9)), (a_arg0_comesAt, .inl (cy 0, 12, .inl J146_a10)), (a_arg0_code, .inl (cy 0, 1600, .inl J146_a11))]) rfl rfl (by decide) (by decide) (by decide) 0 0 (Nat.le_of_ble_eq_true rfl) (Nat.le_of_ble_eq_true rfl) (fun hPc hDc => k_runV (As := [.int 59]) (rest := []) C0 hZ hS hA (s_X5_need l dC dI cy sq a_this a_this_text g_this_text J18_c0_1 J146_c0_2 J146_c0_3 J146_c0_4 J146_c0_5 a_arg0 J146_c0_7 J146_c0_8 59 hg_this_text (ib_w 0 1600 hK146_J18_c0_1 (by decide)) (ib_w 0 1600 hJ146_c0_2 (by decide)) (ib_w 0 1600 hJ146_c0_3 (by decide)) (ib_w 0 4 hJ146_c0_4 (by decide)) (fun hq9 => ib_w 0 1599 (hJ146_ic0_0 hq9) (by decide))) mV_X5_48 hPc hDc rfl rfl rfl hl rfl rfl (Nat.le_of_ble_eq_true rfl) ⟨(Nat.le_of_ble_eq_true rfl), (Nat.le_of_ble_eq_true rfl)⟩ ⟨(Nat.le_of_ble_eq_true rfl), (Nat.le_of_ble_eq_true rfl)⟩ dX5_readCrossing_149) (fun u11 H locs hw hP hD hS => ?_)
        obtain ⟨v12, v13, v14, v15, v16⟩ := u11
        try dsimp only at hP hD hw
        have hP : va_P (dC, dI) vwCl [(a_arg0, .inr (4, [.int J18_c1_0, .int J18_c1_1, .int J18_c1_2, .int J18_c1_3, .int J146_c1_4, .int 0, .int J146_c1_6, .ref a_arg0_calm, .ref a_arg0_pace, .ref a_arg0_trusts, .int J146_c1_10, .ref a_arg0_kindOf, .ref a_arg0_comesAt, .ref a_arg0_comers, .ref a_arg0_names, .ref a_arg0_code, .int J146_c1_16, .ref a_arg0_spans])), (a_arg0_comers, .inl (cy 0, 200, .inl J146_a2)), (a_arg0_spans, .inl (cy 0, 6, .inl J146_a3)), (a_arg0_names, .inl (cy 0, 108, .inl J146_a5)), (a_arg0_calm, .inl (cy 0, 6, .inl J146_a6)), (a_arg0_pace, .inl (cy 0, 6, .inl J146_a7)), (a_arg0_trusts, .inl (cy 0, 6, .inl J146_a8)), (a_arg0_kindOf, .inl (cy 0, 12, .inl J146_a9)), (a_arg0_comesAt, .inl (cy 0, 12, .inl J146_a10)), (a_arg0_code, .inl (cy 0, 1600, .inl J146_a11)), (a_this, .inr (5, [.ref a_this_text, .int J18_c0_1, .int v12, .int v13, .int v14, .int J146_c0_5, .ref a_arg0, .int v15, .int v16])), (a_this_text, .inl (cy 0, 1600, .inl g_this_text))] H := hP
        have hD : va_D A [(a_arg0, .inr (4, [.int J18_c1_0, .int J18_c1_1, .int J18_c1_2, .int J18_c1_3, .int J146_c1_4, .int 0, .int J146_c1_6, .ref a_arg0_calm, .ref a_arg0_pace, .ref a_arg0_trusts, .int J146_c1_10, .ref a_arg0_kindOf, .ref a_arg0_comesAt, .ref a_arg0_comers, .ref a_arg0_names, .ref a_arg0_code, .int J146_c1_16, .ref a_arg0_spans])), (a_arg0_comers, .inl (cy 0, 200, .inl J146_a2)), (a_arg0_spans, .inl (cy 0, 6, .inl J146_a3)), (a_arg0_names, .inl (cy 0, 108, .inl J146_a5)), (a_arg0_calm, .inl (cy 0, 6, .inl J146_a6)), (a_arg0_pace, .inl (cy 0, 6, .inl J146_a7)), (a_arg0_trusts, .inl (cy 0, 6, .inl J146_a8)), (a_arg0_kindOf, .inl (cy 0, 12, .inl J146_a9)), (a_arg0_comesAt, .inl (cy 0, 12, .inl J146_a10)), (a_arg0_code, .inl (cy 0, 1600, .inl J146_a11)), (a_this, .inr (5, [.ref a_this_text, .int J18_c0_1, .int v12, .int v13, .int v14, .int J146_c0_5, .ref a_arg0, .int v15, .int v16])), (a_this_text, .inl (cy 0, 1600, .inl g_this_text))] := hD
        obtain ⟨h17, h18, h19, h20⟩ := hw
        obtain ⟨z21, ez21⟩ : ∃ y : Int32, y = J18_l3 + 1 := ⟨_, rfl⟩
        refine lv_iinc (v := z21) (lv' := [(3, .int z21), (0, .ref a_this), (1, .ref a_arg0), (2, .int p1)]) hx hb dX5_readCrossing_152 hl (k := 3) rfl (by rw [ez21]; rfl) (by decide) rfl (fun ls hl => ?_)
        have h22 := ib_add hK146_J18_l3 (ib_c 1 1 1 (by decide)) (by decide)
        rw [← ez21] at h22
        have h23 : ib z21 2 80 := ib_w 2 80 h22.1 (by decide)
        refine lv_goto (tgt := 18) hx hb dX5_readCrossing_155 (by decide) ?_
        exact ih18 J18_c0_1 v12 v13 v14 v15 v16 J18_c1_0 J18_c1_1 J18_c1_2 J18_c1_3 J146_a2 J146_a3 z21 J146_c0_5 J146_c1_4 J146_c1_6 J146_c1_10 J146_c1_16 J146_a5 J146_a6 J146_a7 J146_a8 J146_a9 J146_a10 J146_a11 H locs ls (ib_w 0 1600 hK146_J18_c0_1 (by decide)) (ib_w 0 1600 h17 (by decide)) (ib_w 0 1600 h18 (by decide)) (ib_w 0 4 h19 (by decide)) (ib_w 10 120 hK146_J18_c1_0 (by decide)) (ib_w 1 2147483647 hK146_J18_c1_1 (by decide)) (ib_w 0 2 hK146_J18_c1_2 (by decide)) (ib_w 0 99 hK146_J18_c1_3 (by decide)) (ib_w 1 80 h23 (by decide)) (ib_w 0 100 hJ146_c1_4 (by decide)) (ib_w 0 6 hJ146_c1_6 (by decide)) (ib_w 0 12 hJ146_c1_10 (by decide)) (ib_w 0 1600 hJ146_c1_16 (by decide)) hJ146_a3 hJ146_a9 hJ146_a10 (fun hq9 => ib_w 0 1599 (h20 hq9) (by decide)) (by have := h22.2; have : (1 : Int32).toInt = 1 := (by decide); omega) (hP.sub [10, 0, 1, 2, 11, 3, 4, 5, 6, 7, 8, 9] rfl) (hD.sub [10, 0, 1, 2, 11, 3, 4, 5, 6, 7, 8, 9] (by decide) rfl) hS (lv_sub hl [1, 2, 3, 0] rfl)
      refine lv_aload_n hx hb dX5_readCrossing_18 rfl (lv_at hl 0 rfl) ?_
      refine k_get C0 fg_X5_21 hP 0 rfl rfl dX5_readCrossing_19 ?_
      refine lv_if_eq (tgt := 158) hx hb dX5_readCrossing_22 (by decide) (fun c24 => ?_) (fun c24 => ?_)
      · have h25 := ib_eq hJ18_c0_4 (ib_c 0 0 0 (by decide)) c24
        have h26 : ib J18_c0_4 0 0 := ib_w 0 0 h25.1 (by decide)
        exact jn158 J18_c0_1 J18_c0_2 J18_c0_3 J18_c0_4 J18_c0_7 J18_c0_8 J18_c1_0 J18_c1_1 J18_c1_2 J18_c1_3 J18_a2 J18_a3 J18_l3 J18_c0_5 J18_c1_4 J18_c1_6 J18_c1_10 J18_c1_16 J18_a5 J18_a6 J18_a7 J18_a8 J18_a9 J18_a10 J18_a11 H locs ls (ib_w 0 1600 hJ18_c0_1 (by decide)) (ib_w 0 1600 hJ18_c0_2 (by decide)) (ib_w 0 1600 hJ18_c0_3 (by decide)) (ib_w 0 4 h26 (by decide)) (ib_w 10 120 hJ18_c1_0 (by decide)) (ib_w 1 2147483647 hJ18_c1_1 (by decide)) (ib_w 0 2 hJ18_c1_2 (by decide)) (ib_w 0 99 hJ18_c1_3 (by decide)) (ib_w 1 80 hJ18_l3 (by decide)) (ib_w 0 100 hJ18_c1_4 (by decide)) (ib_w 0 6 hJ18_c1_6 (by decide)) (ib_w 0 12 hJ18_c1_10 (by decide)) (ib_w 0 1600 hJ18_c1_16 (by decide)) hJ18_a3 hJ18_a9 hJ18_a10 (fun hq9 => ib_w 0 1599 (hJ18_ic0_0 hq9) (by decide)) hP hD hS (lv_sub hl [0, 1, 2, 3] rfl)
      · have h27 : ib J18_c0_4 1 4 := ib_w 1 4 (ib_ne_lo 0 hJ18_c0_4 (by decide) c24) (by decide)
        have h28 : ib J18_c0_2 0 1599 := ib_w 0 1599 (ib_two hJ18_c0_2 (hJ18_ic0_0 c24)) (by decide)
        refine lv_iload_n hx hb dX5_readCrossing_25 rfl (lv_at hl 3 rfl) ?_
        refine lv_bipush (v := 80) hx hb dX5_readCrossing_26 (by decide) ?_
        refine lv_icmp_ge (tgt := 158) hx hb dX5_readCrossing_28 (by decide) (fun c29 => ?_) (fun c29 => ?_)
        · have h30 := ib_le (ib_c 80 80 80 (by decide)) hJ18_l3 c29
          have h31 : ib J18_l3 80 80 := ib_w 80 80 h30.2 (by decide)
          exact jn158 J18_c0_1 J18_c0_2 J18_c0_3 J18_c0_4 J18_c0_7 J18_c0_8 J18_c1_0 J18_c1_1 J18_c1_2 J18_c1_3 J18_a2 J18_a3 J18_l3 J18_c0_5 J18_c1_4 J18_c1_6 J18_c1_10 J18_c1_16 J18_a5 J18_a6 J18_a7 J18_a8 J18_a9 J18_a10 J18_a11 H locs ls (ib_w 0 1600 hJ18_c0_1 (by decide)) (ib_w 0 1600 h28 (by decide)) (ib_w 0 1600 hJ18_c0_3 (by decide)) (ib_w 0 4 h27 (by decide)) (ib_w 10 120 hJ18_c1_0 (by decide)) (ib_w 1 2147483647 hJ18_c1_1 (by decide)) (ib_w 0 2 hJ18_c1_2 (by decide)) (ib_w 0 99 hJ18_c1_3 (by decide)) (ib_w 1 80 h31 (by decide)) (ib_w 0 100 hJ18_c1_4 (by decide)) (ib_w 0 6 hJ18_c1_6 (by decide)) (ib_w 0 12 hJ18_c1_10 (by decide)) (ib_w 0 1600 hJ18_c1_16 (by decide)) hJ18_a3 hJ18_a9 hJ18_a10 (fun _ => ib_w 0 1599 h28 (by decide)) hP hD hS (lv_sub hl [0, 1, 2, 3] rfl)
        · have h32 := ib_nle (ib_c 80 80 80 (by decide)) hJ18_l3 c29
          have h33 : ib J18_l3 1 79 := ib_w 1 79 h32.2 (by decide)
          refine lv_aload_n hx hb dX5_readCrossing_31 rfl (lv_at hl 0 rfl) ?_
          refine va_ldcS hx hb C0.2.2.2.1 (C0.2.2.2.2.2.2.2.2.2.2.2.2 0 (by decide)) dX5_readCrossing_32 ?_
          refine k_ji hP hD hS hA [0, 4] [1, 2, 3, 5, 6, 7, 8, 9, 10, 11] (wr := [(a_arg0, .inr (4, [.int J18_c1_0, .int J18_c1_1, .int J18_c1_2, .int J18_c1_3, .int J18_c1_4, .int 0, .int J18_c1_6, .ref a_arg0_calm, .ref a_arg0_pace, .ref a_arg0_trusts, .int J18_c1_10, .ref a_arg0_kindOf, .ref a_arg0_comesAt, .ref a_arg0_comers, .ref a_arg0_names, .ref a_arg0_code, .int J18_c1_16, .ref a_arg0_spans])), (a_arg0_comers, .inl (cy 0, 200, .inl J18_a2)), (a_arg0_spans, .inl (cy 0, 6, .inl J18_a3)), (a_arg0_names, .inl (cy 0, 108, .inl J18_a5)), (a_arg0_calm, .inl (cy 0, 6, .inl J18_a6)), (a_arg0_pace, .inl (cy 0, 6, .inl J18_a7)), (a_arg0_trusts, .inl (cy 0, 6, .inl J18_a8)), (a_arg0_kindOf, .inl (cy 0, 12, .inl J18_a9)), (a_arg0_comesAt, .inl (cy 0, 12, .inl J18_a10)), (a_arg0_code, .inl (cy 0, 1600, .inl J18_a11))]) rfl rfl (by decide) (by decide) (by decide) 0 0 (Nat.le_of_ble_eq_true rfl) (Nat.le_of_ble_eq_true rfl) (fun hPc hDc => k_runV (As := [.ref (sq 0)]) (rest := []) C0 hZ hS hA (s_X5_wordIn_s0 l dC dI cy sq a_this a_this_text g_this_text J18_c0_1 J18_c0_2 J18_c0_3 J18_c0_4 J18_c0_5 a_arg0 J18_c0_7 J18_c0_8 hg_this_text (ib_w 0 1600 h28 (by decide)) (ib_w 0 1600 hJ18_c0_3 (by decide)) (ib_w 0 4 h27 (by decide)) (fun _ => ib_w 0 1599 h28 (by decide))) mV_X5_54 hPc hDc rfl rfl rfl hl rfl rfl (Nat.le_of_ble_eq_true rfl) ⟨(Nat.le_of_ble_eq_true rfl), (Nat.le_of_ble_eq_true rfl)⟩ ⟨(Nat.le_of_ble_eq_true rfl), (Nat.le_of_ble_eq_true rfl)⟩ dX5_readCrossing_34) (fun r34 u35 H locs hw hP hD hS => ?_)
          try dsimp only at hP hD hw
          have hP : va_P (dC, dI) vwCl [(a_arg0, .inr (4, [.int J18_c1_0, .int J18_c1_1, .int J18_c1_2, .int J18_c1_3, .int J18_c1_4, .int 0, .int J18_c1_6, .ref a_arg0_calm, .ref a_arg0_pace, .ref a_arg0_trusts, .int J18_c1_10, .ref a_arg0_kindOf, .ref a_arg0_comesAt, .ref a_arg0_comers, .ref a_arg0_names, .ref a_arg0_code, .int J18_c1_16, .ref a_arg0_spans])), (a_arg0_comers, .inl (cy 0, 200, .inl J18_a2)), (a_arg0_spans, .inl (cy 0, 6, .inl J18_a3)), (a_arg0_names, .inl (cy 0, 108, .inl J18_a5)), (a_arg0_calm, .inl (cy 0, 6, .inl J18_a6)), (a_arg0_pace, .inl (cy 0, 6, .inl J18_a7)), (a_arg0_trusts, .inl (cy 0, 6, .inl J18_a8)), (a_arg0_kindOf, .inl (cy 0, 12, .inl J18_a9)), (a_arg0_comesAt, .inl (cy 0, 12, .inl J18_a10)), (a_arg0_code, .inl (cy 0, 1600, .inl J18_a11)), (a_this, .inr (5, [.ref a_this_text, .int J18_c0_1, .int J18_c0_2, .int J18_c0_3, .int J18_c0_4, .int J18_c0_5, .ref a_arg0, .int J18_c0_7, .int J18_c0_8])), (a_this_text, .inl (cy 0, 1600, .inl g_this_text))] H := hP
          have hD : va_D A [(a_arg0, .inr (4, [.int J18_c1_0, .int J18_c1_1, .int J18_c1_2, .int J18_c1_3, .int J18_c1_4, .int 0, .int J18_c1_6, .ref a_arg0_calm, .ref a_arg0_pace, .ref a_arg0_trusts, .int J18_c1_10, .ref a_arg0_kindOf, .ref a_arg0_comesAt, .ref a_arg0_comers, .ref a_arg0_names, .ref a_arg0_code, .int J18_c1_16, .ref a_arg0_spans])), (a_arg0_comers, .inl (cy 0, 200, .inl J18_a2)), (a_arg0_spans, .inl (cy 0, 6, .inl J18_a3)), (a_arg0_names, .inl (cy 0, 108, .inl J18_a5)), (a_arg0_calm, .inl (cy 0, 6, .inl J18_a6)), (a_arg0_pace, .inl (cy 0, 6, .inl J18_a7)), (a_arg0_trusts, .inl (cy 0, 6, .inl J18_a8)), (a_arg0_kindOf, .inl (cy 0, 12, .inl J18_a9)), (a_arg0_comesAt, .inl (cy 0, 12, .inl J18_a10)), (a_arg0_code, .inl (cy 0, 1600, .inl J18_a11)), (a_this, .inr (5, [.ref a_this_text, .int J18_c0_1, .int J18_c0_2, .int J18_c0_3, .int J18_c0_4, .int J18_c0_5, .ref a_arg0, .int J18_c0_7, .int J18_c0_8])), (a_this_text, .inl (cy 0, 1600, .inl g_this_text))] := hD
          rcases Decidable.em (r34 = 0) with s36_0 | s36_0
          · skip
            have h37 : ib r34 0 0 := by rw [s36_0]; exact ib_c 0 0 0 (by decide)
            refine lv_tableIn (off := 39) (tgt := 76) hx hb dX5_readCrossing_37 (by rw [s36_0]; decide) (by rw [s36_0]; decide) (by rw [s36_0]; decide) (by decide) ?_
            refine lv_aload_n hx hb dX5_readCrossing_76 rfl (lv_at hl 0 rfl) ?_
            refine k_jv hP hD hS hA [10, 0, 11, 3, 4, 5, 6] [1, 2, 7, 8, 9] (wr := [(a_arg0_comers, .inl (cy 0, 200, .inl J18_a2)), (a_arg0_spans, .inl (cy 0, 6, .inl J18_a3)), (a_arg0_kindOf, .inl (cy 0, 12, .inl J18_a9)), (a_arg0_comesAt, .inl (cy 0, 12, .inl J18_a10)), (a_arg0_code, .inl (cy 0, 1600, .inl J18_a11))]) rfl rfl (by decide) (by decide) (by decide) 0 0 (Nat.le_of_ble_eq_true rfl) (Nat.le_of_ble_eq_true rfl) (fun hPc hDc => k_runV (As := []) (rest := []) C0 hZ hS hA (s_X5_kindStatement l dC dI cy sq a_this a_this_text g_this_text J18_c0_1 J18_c0_2 J18_c0_3 J18_c0_4 J18_c0_5 a_arg0 J18_c1_0 J18_c1_1 J18_c1_2 J18_c1_3 J18_c1_4 0 J18_c1_6 a_arg0_calm J18_a6 a_arg0_pace J18_a7 a_arg0_trusts J18_a8 J18_c1_10 a_arg0_kindOf a_arg0_comesAt a_arg0_comers a_arg0_names J18_a5 a_arg0_code J18_c1_16 a_arg0_spans J18_c0_7 J18_c0_8 hg_this_text (ib_w 0 1600 hJ18_c0_1 (by decide)) (ib_w 0 1600 hJ18_c0_3 (by decide)) (ib_w 0 6 hJ18_c1_6 (by decide)) (ib_w 0 12 hJ18_c1_10 (by decide))) mV_X5_58 hPc hDc rfl rfl rfl hl rfl rfl (Nat.le_of_ble_eq_true rfl) ⟨(Nat.le_of_ble_eq_true rfl), (Nat.le_of_ble_eq_true rfl)⟩ ⟨(Nat.le_of_ble_eq_true rfl), (Nat.le_of_ble_eq_true rfl)⟩ dX5_readCrossing_77) (fun u39 H locs hw hP hD hS => ?_)
            obtain ⟨v40, v41, v42, v43, v44, v45, f46, f47, f48, f49⟩ := u39
            try dsimp only at hP hD hw
            have hP : va_P (dC, dI) vwCl [(a_arg0_comers, .inl (cy 0, 200, .inl J18_a2)), (a_arg0_spans, .inl (cy 0, 6, .inl J18_a3)), (a_arg0_kindOf, .inl (cy 0, 12, .inl J18_a9)), (a_arg0_comesAt, .inl (cy 0, 12, .inl J18_a10)), (a_arg0_code, .inl (cy 0, 1600, .inl J18_a11)), (a_this, .inr (5, [.ref a_this_text, .int J18_c0_1, .int v40, .int v41, .int v42, .int J18_c0_5, .ref a_arg0, .int v43, .int v44])), (a_arg0, .inr (4, [.int J18_c1_0, .int J18_c1_1, .int J18_c1_2, .int J18_c1_3, .int J18_c1_4, .int 0, .int v45, .ref a_arg0_calm, .ref a_arg0_pace, .ref a_arg0_trusts, .int J18_c1_10, .ref a_arg0_kindOf, .ref a_arg0_comesAt, .ref a_arg0_comers, .ref a_arg0_names, .ref a_arg0_code, .int J18_c1_16, .ref a_arg0_spans])), (a_this_text, .inl (cy 0, 1600, .inl g_this_text)), (a_arg0_names, .inl (cy 0, 108, .inl f46)), (a_arg0_calm, .inl (cy 0, 6, .inl f47)), (a_arg0_pace, .inl (cy 0, 6, .inl f48)), (a_arg0_trusts, .inl (cy 0, 6, .inl f49))] H := hP
            have hD : va_D A [(a_arg0_comers, .inl (cy 0, 200, .inl J18_a2)), (a_arg0_spans, .inl (cy 0, 6, .inl J18_a3)), (a_arg0_kindOf, .inl (cy 0, 12, .inl J18_a9)), (a_arg0_comesAt, .inl (cy 0, 12, .inl J18_a10)), (a_arg0_code, .inl (cy 0, 1600, .inl J18_a11)), (a_this, .inr (5, [.ref a_this_text, .int J18_c0_1, .int v40, .int v41, .int v42, .int J18_c0_5, .ref a_arg0, .int v43, .int v44])), (a_arg0, .inr (4, [.int J18_c1_0, .int J18_c1_1, .int J18_c1_2, .int J18_c1_3, .int J18_c1_4, .int 0, .int v45, .ref a_arg0_calm, .ref a_arg0_pace, .ref a_arg0_trusts, .int J18_c1_10, .ref a_arg0_kindOf, .ref a_arg0_comesAt, .ref a_arg0_comers, .ref a_arg0_names, .ref a_arg0_code, .int J18_c1_16, .ref a_arg0_spans])), (a_this_text, .inl (cy 0, 1600, .inl g_this_text)), (a_arg0_names, .inl (cy 0, 108, .inl f46)), (a_arg0_calm, .inl (cy 0, 6, .inl f47)), (a_arg0_pace, .inl (cy 0, 6, .inl f48)), (a_arg0_trusts, .inl (cy 0, 6, .inl f49))] := hD
            obtain ⟨h50, h51, h52, h53, h54⟩ := hw
            refine lv_goto (tgt := 146) hx hb dX5_readCrossing_80 (by decide) ?_
            exact jn146 v40 v41 v42 v43 v44 v45 f46 f47 f48 f49 J18_c1_10 J18_a2 J18_a9 J18_a10 J18_c0_5 J18_c1_16 J18_a3 J18_a11 J18_c1_4 H locs ls (ib_w 1 79 h33 (by decide)) (ib_w 0 1600 hJ18_c0_1 (by decide)) (ib_w 0 1600 h50 (by decide)) (ib_w 0 1600 h51 (by decide)) (ib_w 0 4 h52 (by decide)) (ib_w 10 120 hJ18_c1_0 (by decide)) (ib_w 1 2147483647 hJ18_c1_1 (by decide)) (ib_w 0 2 hJ18_c1_2 (by decide)) (ib_w 0 99 hJ18_c1_3 (by decide)) (ib_w 0 6 h53 (by decide)) (ib_w 0 12 hJ18_c1_10 (by decide)) (ib_w 0 1600 hJ18_c1_16 (by decide)) (ib_w 0 100 hJ18_c1_4 (by decide)) hJ18_a9 hJ18_a10 hJ18_a3 (fun hq9 => ib_w 0 1599 (h54 hq9) (by decide)) (hP.sub [5, 6, 0, 1, 7, 8, 9, 10, 11, 2, 3, 4] rfl) (hD.sub [5, 6, 0, 1, 7, 8, 9, 10, 11, 2, 3, 4] (by decide) rfl) hS (lv_sub hl [0, 1, 2, 3] rfl)
          rcases Decidable.em (r34 = 1) with s36_1 | s36_1
          · skip
            have h55 : ib r34 1 1 := by rw [s36_1]; exact ib_c 1 1 1 (by decide)
            refine lv_tableIn (off := 46) (tgt := 83) hx hb dX5_readCrossing_37 (by rw [s36_1]; decide) (by rw [s36_1]; decide) (by rw [s36_1]; decide) (by decide) ?_
            refine lv_aload_n hx hb dX5_readCrossing_83 rfl (lv_at hl 0 rfl) ?_
            refine k_jv hP hD hS hA [10, 0, 11, 3, 7, 8, 1] [2, 4, 5, 6, 9] (wr := [(a_arg0_spans, .inl (cy 0, 6, .inl J18_a3)), (a_arg0_calm, .inl (cy 0, 6, .inl J18_a6)), (a_arg0_pace, .inl (cy 0, 6, .inl J18_a7)), (a_arg0_trusts, .inl (cy 0, 6, .inl J18_a8)), (a_arg0_code, .inl (cy 0, 1600, .inl J18_a11))]) rfl rfl (by decide) (by decide) (by decide) 0 0 (Nat.le_of_ble_eq_true rfl) (Nat.le_of_ble_eq_true rfl) (fun hPc hDc => k_runV (As := []) (rest := []) C0 hZ hS hA (s_X5_comesStatement l dC dI cy sq a_this a_this_text g_this_text J18_c0_1 J18_c0_2 J18_c0_3 J18_c0_4 J18_c0_5 a_arg0 J18_c1_0 J18_c1_1 J18_c1_2 J18_c1_3 J18_c1_4 0 J18_c1_6 a_arg0_calm a_arg0_pace a_arg0_trusts J18_c1_10 a_arg0_kindOf J18_a9 a_arg0_comesAt J18_a10 a_arg0_comers J18_a2 a_arg0_names J18_a5 a_arg0_code J18_c1_16 a_arg0_spans J18_c0_7 J18_c0_8 hg_this_text (ib_w 0 1600 hJ18_c0_1 (by decide)) (ib_w 0 1600 hJ18_c0_3 (by decide)) (ib_w 0 6 hJ18_c1_6 (by decide)) (ib_w 0 12 hJ18_c1_10 (by decide)) hJ18_a9 hJ18_a10) mV_X5_61 hPc hDc rfl rfl rfl hl rfl rfl (Nat.le_of_ble_eq_true rfl) ⟨(Nat.le_of_ble_eq_true rfl), (Nat.le_of_ble_eq_true rfl)⟩ ⟨(Nat.le_of_ble_eq_true rfl), (Nat.le_of_ble_eq_true rfl)⟩ dX5_readCrossing_84) (fun u57 H locs hw hP hD hS => ?_)
            obtain ⟨v58, v59, v60, v61, v62, v63, f64, f65, f66, f67⟩ := u57
            try dsimp only at hP hD hw
            have hP : va_P (dC, dI) vwCl [(a_arg0_spans, .inl (cy 0, 6, .inl J18_a3)), (a_arg0_calm, .inl (cy 0, 6, .inl J18_a6)), (a_arg0_pace, .inl (cy 0, 6, .inl J18_a7)), (a_arg0_trusts, .inl (cy 0, 6, .inl J18_a8)), (a_arg0_code, .inl (cy 0, 1600, .inl J18_a11)), (a_this, .inr (5, [.ref a_this_text, .int J18_c0_1, .int v58, .int v59, .int v60, .int J18_c0_5, .ref a_arg0, .int v61, .int v62])), (a_arg0, .inr (4, [.int J18_c1_0, .int J18_c1_1, .int J18_c1_2, .int J18_c1_3, .int J18_c1_4, .int 0, .int J18_c1_6, .ref a_arg0_calm, .ref a_arg0_pace, .ref a_arg0_trusts, .int v63, .ref a_arg0_kindOf, .ref a_arg0_comesAt, .ref a_arg0_comers, .ref a_arg0_names, .ref a_arg0_code, .int J18_c1_16, .ref a_arg0_spans])), (a_this_text, .inl (cy 0, 1600, .inl g_this_text)), (a_arg0_names, .inl (cy 0, 108, .inl f64)), (a_arg0_kindOf, .inl (cy 0, 12, .inl f65)), (a_arg0_comesAt, .inl (cy 0, 12, .inl f66)), (a_arg0_comers, .inl (cy 0, 200, .inl f67))] H := hP
            have hD : va_D A [(a_arg0_spans, .inl (cy 0, 6, .inl J18_a3)), (a_arg0_calm, .inl (cy 0, 6, .inl J18_a6)), (a_arg0_pace, .inl (cy 0, 6, .inl J18_a7)), (a_arg0_trusts, .inl (cy 0, 6, .inl J18_a8)), (a_arg0_code, .inl (cy 0, 1600, .inl J18_a11)), (a_this, .inr (5, [.ref a_this_text, .int J18_c0_1, .int v58, .int v59, .int v60, .int J18_c0_5, .ref a_arg0, .int v61, .int v62])), (a_arg0, .inr (4, [.int J18_c1_0, .int J18_c1_1, .int J18_c1_2, .int J18_c1_3, .int J18_c1_4, .int 0, .int J18_c1_6, .ref a_arg0_calm, .ref a_arg0_pace, .ref a_arg0_trusts, .int v63, .ref a_arg0_kindOf, .ref a_arg0_comesAt, .ref a_arg0_comers, .ref a_arg0_names, .ref a_arg0_code, .int J18_c1_16, .ref a_arg0_spans])), (a_this_text, .inl (cy 0, 1600, .inl g_this_text)), (a_arg0_names, .inl (cy 0, 108, .inl f64)), (a_arg0_kindOf, .inl (cy 0, 12, .inl f65)), (a_arg0_comesAt, .inl (cy 0, 12, .inl f66)), (a_arg0_comers, .inl (cy 0, 200, .inl f67))] := hD
            obtain ⟨h68, h69, h70, h71, h72, h73, h74⟩ := hw
            refine lv_goto (tgt := 146) hx hb dX5_readCrossing_87 (by decide) ?_
            exact jn146 v58 v59 v60 v61 v62 J18_c1_6 f64 J18_a6 J18_a7 J18_a8 v63 f67 f65 f66 J18_c0_5 J18_c1_16 J18_a3 J18_a11 J18_c1_4 H locs ls (ib_w 1 79 h33 (by decide)) (ib_w 0 1600 hJ18_c0_1 (by decide)) (ib_w 0 1600 h68 (by decide)) (ib_w 0 1600 h69 (by decide)) (ib_w 0 4 h70 (by decide)) (ib_w 10 120 hJ18_c1_0 (by decide)) (ib_w 1 2147483647 hJ18_c1_1 (by decide)) (ib_w 0 2 hJ18_c1_2 (by decide)) (ib_w 0 99 hJ18_c1_3 (by decide)) (ib_w 0 6 hJ18_c1_6 (by decide)) (ib_w 0 12 h71 (by decide)) (ib_w 0 1600 hJ18_c1_16 (by decide)) (ib_w 0 100 hJ18_c1_4 (by decide)) h72 h73 hJ18_a3 (fun hq9 => ib_w 0 1599 (h74 hq9) (by decide)) (hP.sub [5, 6, 11, 0, 7, 8, 1, 2, 3, 9, 10, 4] rfl) (hD.sub [5, 6, 11, 0, 7, 8, 1, 2, 3, 9, 10, 4] (by decide) rfl) hS (lv_sub hl [0, 1, 2, 3] rfl)
          rcases Decidable.em (r34 = 2) with s36_2 | s36_2
          · skip
            have h75 : ib r34 2 2 := by rw [s36_2]; exact ib_c 2 2 2 (by decide)
            refine lv_tableIn (off := 53) (tgt := 90) hx hb dX5_readCrossing_37 (by rw [s36_2]; decide) (by rw [s36_2]; decide) (by rw [s36_2]; decide) (by decide) ?_
            refine lv_aload_n hx hb dX5_readCrossing_90 rfl (lv_at hl 0 rfl) ?_
            refine lv_iconst (v := 0) hx hb dX5_readCrossing_91 (by decide) ?_
            refine lv_bipush (v := 7) hx hb dX5_readCrossing_92 (by decide) ?_
            refine k_jv hP hD hS hA [10, 0, 2, 11, 9] [1, 3, 4, 5, 6, 7, 8] (wr := [(a_arg0_comers, .inl (cy 0, 200, .inl J18_a2)), (a_arg0_names, .inl (cy 0, 108, .inl J18_a5)), (a_arg0_calm, .inl (cy 0, 6, .inl J18_a6)), (a_arg0_pace, .inl (cy 0, 6, .inl J18_a7)), (a_arg0_trusts, .inl (cy 0, 6, .inl J18_a8)), (a_arg0_kindOf, .inl (cy 0, 12, .inl J18_a9)), (a_arg0_comesAt, .inl (cy 0, 12, .inl J18_a10))]) rfl rfl (by decide) (by decide) (by decide) 0 0 (Nat.le_of_ble_eq_true rfl) (Nat.le_of_ble_eq_true rfl) (fun hPc hDc => k_runV (As := [.int 0, .int 7]) (rest := []) C0 hZ hS hA (s_X5_codeStatement l dC dI cy sq a_this a_this_text g_this_text J18_c0_1 J18_c0_2 J18_c0_3 J18_c0_4 J18_c0_5 a_arg0 J18_c1_0 J18_c1_1 J18_c1_2 J18_c1_3 J18_c1_4 0 J18_c1_6 a_arg0_calm a_arg0_pace a_arg0_trusts J18_c1_10 a_arg0_kindOf a_arg0_comesAt a_arg0_comers a_arg0_names a_arg0_code J18_a11 J18_c1_16 a_arg0_spans J18_a3 J18_c0_7 J18_c0_8 0 7 hg_this_text (ib_w 0 1600 hJ18_c0_1 (by decide)) (ib_w 0 1600 hJ18_c0_3 (by decide)) (ib_w 0 1600 hJ18_c1_16 (by decide)) hJ18_a3 (ib_w 0 4 (ib_c 0 0 0 (by decide)) (by decide))) mV_X5_64 hPc hDc rfl rfl rfl hl rfl rfl (Nat.le_of_ble_eq_true rfl) ⟨(Nat.le_of_ble_eq_true rfl), (Nat.le_of_ble_eq_true rfl)⟩ ⟨(Nat.le_of_ble_eq_true rfl), (Nat.le_of_ble_eq_true rfl)⟩ dX5_readCrossing_94) (fun u77 H locs hw hP hD hS => ?_)
            obtain ⟨v78, v79, v80, v81, v82, v83, v84, f85, f86⟩ := u77
            try dsimp only at hP hD hw
            have hP : va_P (dC, dI) vwCl [(a_arg0_comers, .inl (cy 0, 200, .inl J18_a2)), (a_arg0_names, .inl (cy 0, 108, .inl J18_a5)), (a_arg0_calm, .inl (cy 0, 6, .inl J18_a6)), (a_arg0_pace, .inl (cy 0, 6, .inl J18_a7)), (a_arg0_trusts, .inl (cy 0, 6, .inl J18_a8)), (a_arg0_kindOf, .inl (cy 0, 12, .inl J18_a9)), (a_arg0_comesAt, .inl (cy 0, 12, .inl J18_a10)), (a_this, .inr (5, [.ref a_this_text, .int J18_c0_1, .int v78, .int v79, .int v80, .int v81, .ref a_arg0, .int v82, .int v83])), (a_arg0, .inr (4, [.int J18_c1_0, .int J18_c1_1, .int J18_c1_2, .int J18_c1_3, .int J18_c1_4, .int 0, .int J18_c1_6, .ref a_arg0_calm, .ref a_arg0_pace, .ref a_arg0_trusts, .int J18_c1_10, .ref a_arg0_kindOf, .ref a_arg0_comesAt, .ref a_arg0_comers, .ref a_arg0_names, .ref a_arg0_code, .int v84, .ref a_arg0_spans])), (a_arg0_spans, .inl (cy 0, 6, .inl f85)), (a_this_text, .inl (cy 0, 1600, .inl g_this_text)), (a_arg0_code, .inl (cy 0, 1600, .inl f86))] H := hP
            have hD : va_D A [(a_arg0_comers, .inl (cy 0, 200, .inl J18_a2)), (a_arg0_names, .inl (cy 0, 108, .inl J18_a5)), (a_arg0_calm, .inl (cy 0, 6, .inl J18_a6)), (a_arg0_pace, .inl (cy 0, 6, .inl J18_a7)), (a_arg0_trusts, .inl (cy 0, 6, .inl J18_a8)), (a_arg0_kindOf, .inl (cy 0, 12, .inl J18_a9)), (a_arg0_comesAt, .inl (cy 0, 12, .inl J18_a10)), (a_this, .inr (5, [.ref a_this_text, .int J18_c0_1, .int v78, .int v79, .int v80, .int v81, .ref a_arg0, .int v82, .int v83])), (a_arg0, .inr (4, [.int J18_c1_0, .int J18_c1_1, .int J18_c1_2, .int J18_c1_3, .int J18_c1_4, .int 0, .int J18_c1_6, .ref a_arg0_calm, .ref a_arg0_pace, .ref a_arg0_trusts, .int J18_c1_10, .ref a_arg0_kindOf, .ref a_arg0_comesAt, .ref a_arg0_comers, .ref a_arg0_names, .ref a_arg0_code, .int v84, .ref a_arg0_spans])), (a_arg0_spans, .inl (cy 0, 6, .inl f85)), (a_this_text, .inl (cy 0, 1600, .inl g_this_text)), (a_arg0_code, .inl (cy 0, 1600, .inl f86))] := hD
            obtain ⟨h87, h88, h89, h90, h91, h92⟩ := hw
            refine lv_goto (tgt := 146) hx hb dX5_readCrossing_97 (by decide) ?_
            exact jn146 v78 v79 v80 v82 v83 J18_c1_6 J18_a5 J18_a6 J18_a7 J18_a8 J18_c1_10 J18_a2 J18_a9 J18_a10 v81 v84 f85 f86 J18_c1_4 H locs ls (ib_w 1 79 h33 (by decide)) (ib_w 0 1600 hJ18_c0_1 (by decide)) (ib_w 0 1600 h87 (by decide)) (ib_w 0 1600 h88 (by decide)) (ib_w 0 4 h89 (by decide)) (ib_w 10 120 hJ18_c1_0 (by decide)) (ib_w 1 2147483647 hJ18_c1_1 (by decide)) (ib_w 0 2 hJ18_c1_2 (by decide)) (ib_w 0 99 hJ18_c1_3 (by decide)) (ib_w 0 6 hJ18_c1_6 (by decide)) (ib_w 0 12 hJ18_c1_10 (by decide)) (ib_w 0 1600 h90 (by decide)) (ib_w 0 100 hJ18_c1_4 (by decide)) hJ18_a9 hJ18_a10 h91 (fun hq9 => ib_w 0 1599 (h92 hq9) (by decide)) (hP.sub [7, 8, 0, 9, 10, 1, 2, 3, 4, 5, 6, 11] rfl) (hD.sub [7, 8, 0, 9, 10, 1, 2, 3, 4, 5, 6, 11] (by decide) rfl) hS (lv_sub hl [0, 1, 2, 3] rfl)
          rcases Decidable.em (r34 = 3) with s36_3 | s36_3
          · skip
            have h93 : ib r34 3 3 := by rw [s36_3]; exact ib_c 3 3 3 (by decide)
            refine lv_tableIn (off := 63) (tgt := 100) hx hb dX5_readCrossing_37 (by rw [s36_3]; decide) (by rw [s36_3]; decide) (by rw [s36_3]; decide) (by decide) ?_
            refine lv_aload_n hx hb dX5_readCrossing_100 rfl (lv_at hl 0 rfl) ?_
            refine lv_iconst (v := 2) hx hb dX5_readCrossing_101 (by decide) ?_
            refine lv_sipush (v := 507) hx hb dX5_readCrossing_102 (by decide) ?_
            refine k_jv hP hD hS hA [10, 0, 2, 11, 9] [1, 3, 4, 5, 6, 7, 8] (wr := [(a_arg0_comers, .inl (cy 0, 200, .inl J18_a2)), (a_arg0_names, .inl (cy 0, 108, .inl J18_a5)), (a_arg0_calm, .inl (cy 0, 6, .inl J18_a6)), (a_arg0_pace, .inl (cy 0, 6, .inl J18_a7)), (a_arg0_trusts, .inl (cy 0, 6, .inl J18_a8)), (a_arg0_kindOf, .inl (cy 0, 12, .inl J18_a9)), (a_arg0_comesAt, .inl (cy 0, 12, .inl J18_a10))]) rfl rfl (by decide) (by decide) (by decide) 0 0 (Nat.le_of_ble_eq_true rfl) (Nat.le_of_ble_eq_true rfl) (fun hPc hDc => k_runV (As := [.int 2, .int 507]) (rest := []) C0 hZ hS hA (s_X5_codeStatement l dC dI cy sq a_this a_this_text g_this_text J18_c0_1 J18_c0_2 J18_c0_3 J18_c0_4 J18_c0_5 a_arg0 J18_c1_0 J18_c1_1 J18_c1_2 J18_c1_3 J18_c1_4 0 J18_c1_6 a_arg0_calm a_arg0_pace a_arg0_trusts J18_c1_10 a_arg0_kindOf a_arg0_comesAt a_arg0_comers a_arg0_names a_arg0_code J18_a11 J18_c1_16 a_arg0_spans J18_a3 J18_c0_7 J18_c0_8 2 507 hg_this_text (ib_w 0 1600 hJ18_c0_1 (by decide)) (ib_w 0 1600 hJ18_c0_3 (by decide)) (ib_w 0 1600 hJ18_c1_16 (by decide)) hJ18_a3 (ib_w 0 4 (ib_c 2 2 2 (by decide)) (by decide))) mV_X5_64 hPc hDc rfl rfl rfl hl rfl rfl (Nat.le_of_ble_eq_true rfl) ⟨(Nat.le_of_ble_eq_true rfl), (Nat.le_of_ble_eq_true rfl)⟩ ⟨(Nat.le_of_ble_eq_true rfl), (Nat.le_of_ble_eq_true rfl)⟩ dX5_readCrossing_105) (fun u95 H locs hw hP hD hS => ?_)
            obtain ⟨v96, v97, v98, v99, v100, v101, v102, f103, f104⟩ := u95
            try dsimp only at hP hD hw
            have hP : va_P (dC, dI) vwCl [(a_arg0_comers, .inl (cy 0, 200, .inl J18_a2)), (a_arg0_names, .inl (cy 0, 108, .inl J18_a5)), (a_arg0_calm, .inl (cy 0, 6, .inl J18_a6)), (a_arg0_pace, .inl (cy 0, 6, .inl J18_a7)), (a_arg0_trusts, .inl (cy 0, 6, .inl J18_a8)), (a_arg0_kindOf, .inl (cy 0, 12, .inl J18_a9)), (a_arg0_comesAt, .inl (cy 0, 12, .inl J18_a10)), (a_this, .inr (5, [.ref a_this_text, .int J18_c0_1, .int v96, .int v97, .int v98, .int v99, .ref a_arg0, .int v100, .int v101])), (a_arg0, .inr (4, [.int J18_c1_0, .int J18_c1_1, .int J18_c1_2, .int J18_c1_3, .int J18_c1_4, .int 0, .int J18_c1_6, .ref a_arg0_calm, .ref a_arg0_pace, .ref a_arg0_trusts, .int J18_c1_10, .ref a_arg0_kindOf, .ref a_arg0_comesAt, .ref a_arg0_comers, .ref a_arg0_names, .ref a_arg0_code, .int v102, .ref a_arg0_spans])), (a_arg0_spans, .inl (cy 0, 6, .inl f103)), (a_this_text, .inl (cy 0, 1600, .inl g_this_text)), (a_arg0_code, .inl (cy 0, 1600, .inl f104))] H := hP
            have hD : va_D A [(a_arg0_comers, .inl (cy 0, 200, .inl J18_a2)), (a_arg0_names, .inl (cy 0, 108, .inl J18_a5)), (a_arg0_calm, .inl (cy 0, 6, .inl J18_a6)), (a_arg0_pace, .inl (cy 0, 6, .inl J18_a7)), (a_arg0_trusts, .inl (cy 0, 6, .inl J18_a8)), (a_arg0_kindOf, .inl (cy 0, 12, .inl J18_a9)), (a_arg0_comesAt, .inl (cy 0, 12, .inl J18_a10)), (a_this, .inr (5, [.ref a_this_text, .int J18_c0_1, .int v96, .int v97, .int v98, .int v99, .ref a_arg0, .int v100, .int v101])), (a_arg0, .inr (4, [.int J18_c1_0, .int J18_c1_1, .int J18_c1_2, .int J18_c1_3, .int J18_c1_4, .int 0, .int J18_c1_6, .ref a_arg0_calm, .ref a_arg0_pace, .ref a_arg0_trusts, .int J18_c1_10, .ref a_arg0_kindOf, .ref a_arg0_comesAt, .ref a_arg0_comers, .ref a_arg0_names, .ref a_arg0_code, .int v102, .ref a_arg0_spans])), (a_arg0_spans, .inl (cy 0, 6, .inl f103)), (a_this_text, .inl (cy 0, 1600, .inl g_this_text)), (a_arg0_code, .inl (cy 0, 1600, .inl f104))] := hD
            obtain ⟨h105, h106, h107, h108, h109, h110⟩ := hw
            refine lv_goto (tgt := 146) hx hb dX5_readCrossing_108 (by decide) ?_
            exact jn146 v96 v97 v98 v100 v101 J18_c1_6 J18_a5 J18_a6 J18_a7 J18_a8 J18_c1_10 J18_a2 J18_a9 J18_a10 v99 v102 f103 f104 J18_c1_4 H locs ls (ib_w 1 79 h33 (by decide)) (ib_w 0 1600 hJ18_c0_1 (by decide)) (ib_w 0 1600 h105 (by decide)) (ib_w 0 1600 h106 (by decide)) (ib_w 0 4 h107 (by decide)) (ib_w 10 120 hJ18_c1_0 (by decide)) (ib_w 1 2147483647 hJ18_c1_1 (by decide)) (ib_w 0 2 hJ18_c1_2 (by decide)) (ib_w 0 99 hJ18_c1_3 (by decide)) (ib_w 0 6 hJ18_c1_6 (by decide)) (ib_w 0 12 hJ18_c1_10 (by decide)) (ib_w 0 1600 h108 (by decide)) (ib_w 0 100 hJ18_c1_4 (by decide)) hJ18_a9 hJ18_a10 h109 (fun hq9 => ib_w 0 1599 (h110 hq9) (by decide)) (hP.sub [7, 8, 0, 9, 10, 1, 2, 3, 4, 5, 6, 11] rfl) (hD.sub [7, 8, 0, 9, 10, 1, 2, 3, 4, 5, 6, 11] (by decide) rfl) hS (lv_sub hl [0, 1, 2, 3] rfl)
          rcases Decidable.em (r34 = 4) with s36_4 | s36_4
          · skip
            have h111 : ib r34 4 4 := by rw [s36_4]; exact ib_c 4 4 4 (by decide)
            refine lv_tableIn (off := 74) (tgt := 111) hx hb dX5_readCrossing_37 (by rw [s36_4]; decide) (by rw [s36_4]; decide) (by rw [s36_4]; decide) (by decide) ?_
            refine lv_aload_n hx hb dX5_readCrossing_111 rfl (lv_at hl 0 rfl) ?_
            refine lv_iconst (v := 4) hx hb dX5_readCrossing_112 (by decide) ?_
            refine lv_bipush (v := 123) hx hb dX5_readCrossing_113 (by decide) ?_
            refine k_jv hP hD hS hA [10, 0, 2, 11, 9] [1, 3, 4, 5, 6, 7, 8] (wr := [(a_arg0_comers, .inl (cy 0, 200, .inl J18_a2)), (a_arg0_names, .inl (cy 0, 108, .inl J18_a5)), (a_arg0_calm, .inl (cy 0, 6, .inl J18_a6)), (a_arg0_pace, .inl (cy 0, 6, .inl J18_a7)), (a_arg0_trusts, .inl (cy 0, 6, .inl J18_a8)), (a_arg0_kindOf, .inl (cy 0, 12, .inl J18_a9)), (a_arg0_comesAt, .inl (cy 0, 12, .inl J18_a10))]) rfl rfl (by decide) (by decide) (by decide) 0 0 (Nat.le_of_ble_eq_true rfl) (Nat.le_of_ble_eq_true rfl) (fun hPc hDc => k_runV (As := [.int 4, .int 123]) (rest := []) C0 hZ hS hA (s_X5_codeStatement l dC dI cy sq a_this a_this_text g_this_text J18_c0_1 J18_c0_2 J18_c0_3 J18_c0_4 J18_c0_5 a_arg0 J18_c1_0 J18_c1_1 J18_c1_2 J18_c1_3 J18_c1_4 0 J18_c1_6 a_arg0_calm a_arg0_pace a_arg0_trusts J18_c1_10 a_arg0_kindOf a_arg0_comesAt a_arg0_comers a_arg0_names a_arg0_code J18_a11 J18_c1_16 a_arg0_spans J18_a3 J18_c0_7 J18_c0_8 4 123 hg_this_text (ib_w 0 1600 hJ18_c0_1 (by decide)) (ib_w 0 1600 hJ18_c0_3 (by decide)) (ib_w 0 1600 hJ18_c1_16 (by decide)) hJ18_a3 (ib_w 0 4 (ib_c 4 4 4 (by decide)) (by decide))) mV_X5_64 hPc hDc rfl rfl rfl hl rfl rfl (Nat.le_of_ble_eq_true rfl) ⟨(Nat.le_of_ble_eq_true rfl), (Nat.le_of_ble_eq_true rfl)⟩ ⟨(Nat.le_of_ble_eq_true rfl), (Nat.le_of_ble_eq_true rfl)⟩ dX5_readCrossing_115) (fun u113 H locs hw hP hD hS => ?_)
            obtain ⟨v114, v115, v116, v117, v118, v119, v120, f121, f122⟩ := u113
            try dsimp only at hP hD hw
            have hP : va_P (dC, dI) vwCl [(a_arg0_comers, .inl (cy 0, 200, .inl J18_a2)), (a_arg0_names, .inl (cy 0, 108, .inl J18_a5)), (a_arg0_calm, .inl (cy 0, 6, .inl J18_a6)), (a_arg0_pace, .inl (cy 0, 6, .inl J18_a7)), (a_arg0_trusts, .inl (cy 0, 6, .inl J18_a8)), (a_arg0_kindOf, .inl (cy 0, 12, .inl J18_a9)), (a_arg0_comesAt, .inl (cy 0, 12, .inl J18_a10)), (a_this, .inr (5, [.ref a_this_text, .int J18_c0_1, .int v114, .int v115, .int v116, .int v117, .ref a_arg0, .int v118, .int v119])), (a_arg0, .inr (4, [.int J18_c1_0, .int J18_c1_1, .int J18_c1_2, .int J18_c1_3, .int J18_c1_4, .int 0, .int J18_c1_6, .ref a_arg0_calm, .ref a_arg0_pace, .ref a_arg0_trusts, .int J18_c1_10, .ref a_arg0_kindOf, .ref a_arg0_comesAt, .ref a_arg0_comers, .ref a_arg0_names, .ref a_arg0_code, .int v120, .ref a_arg0_spans])), (a_arg0_spans, .inl (cy 0, 6, .inl f121)), (a_this_text, .inl (cy 0, 1600, .inl g_this_text)), (a_arg0_code, .inl (cy 0, 1600, .inl f122))] H := hP
            have hD : va_D A [(a_arg0_comers, .inl (cy 0, 200, .inl J18_a2)), (a_arg0_names, .inl (cy 0, 108, .inl J18_a5)), (a_arg0_calm, .inl (cy 0, 6, .inl J18_a6)), (a_arg0_pace, .inl (cy 0, 6, .inl J18_a7)), (a_arg0_trusts, .inl (cy 0, 6, .inl J18_a8)), (a_arg0_kindOf, .inl (cy 0, 12, .inl J18_a9)), (a_arg0_comesAt, .inl (cy 0, 12, .inl J18_a10)), (a_this, .inr (5, [.ref a_this_text, .int J18_c0_1, .int v114, .int v115, .int v116, .int v117, .ref a_arg0, .int v118, .int v119])), (a_arg0, .inr (4, [.int J18_c1_0, .int J18_c1_1, .int J18_c1_2, .int J18_c1_3, .int J18_c1_4, .int 0, .int J18_c1_6, .ref a_arg0_calm, .ref a_arg0_pace, .ref a_arg0_trusts, .int J18_c1_10, .ref a_arg0_kindOf, .ref a_arg0_comesAt, .ref a_arg0_comers, .ref a_arg0_names, .ref a_arg0_code, .int v120, .ref a_arg0_spans])), (a_arg0_spans, .inl (cy 0, 6, .inl f121)), (a_this_text, .inl (cy 0, 1600, .inl g_this_text)), (a_arg0_code, .inl (cy 0, 1600, .inl f122))] := hD
            obtain ⟨h123, h124, h125, h126, h127, h128⟩ := hw
            refine lv_goto (tgt := 146) hx hb dX5_readCrossing_118 (by decide) ?_
            exact jn146 v114 v115 v116 v118 v119 J18_c1_6 J18_a5 J18_a6 J18_a7 J18_a8 J18_c1_10 J18_a2 J18_a9 J18_a10 v117 v120 f121 f122 J18_c1_4 H locs ls (ib_w 1 79 h33 (by decide)) (ib_w 0 1600 hJ18_c0_1 (by decide)) (ib_w 0 1600 h123 (by decide)) (ib_w 0 1600 h124 (by decide)) (ib_w 0 4 h125 (by decide)) (ib_w 10 120 hJ18_c1_0 (by decide)) (ib_w 1 2147483647 hJ18_c1_1 (by decide)) (ib_w 0 2 hJ18_c1_2 (by decide)) (ib_w 0 99 hJ18_c1_3 (by decide)) (ib_w 0 6 hJ18_c1_6 (by decide)) (ib_w 0 12 hJ18_c1_10 (by decide)) (ib_w 0 1600 h126 (by decide)) (ib_w 0 100 hJ18_c1_4 (by decide)) hJ18_a9 hJ18_a10 h127 (fun hq9 => ib_w 0 1599 (h128 hq9) (by decide)) (hP.sub [7, 8, 0, 9, 10, 1, 2, 3, 4, 5, 6, 11] rfl) (hD.sub [7, 8, 0, 9, 10, 1, 2, 3, 4, 5, 6, 11] (by decide) rfl) hS (lv_sub hl [0, 1, 2, 3] rfl)
          rcases Decidable.em (r34 = 5) with s36_5 | s36_5
          · skip
            have h129 : ib r34 5 5 := by rw [s36_5]; exact ib_c 5 5 5 (by decide)
            refine lv_tableIn (off := 84) (tgt := 121) hx hb dX5_readCrossing_37 (by rw [s36_5]; decide) (by rw [s36_5]; decide) (by rw [s36_5]; decide) (by decide) ?_
            refine lv_aload_n hx hb dX5_readCrossing_121 rfl (lv_at hl 1 rfl) ?_
            refine lv_aload_n hx hb dX5_readCrossing_122 rfl (lv_at hl 0 rfl) ?_
            refine va_ldcS hx hb C0.2.2.2.1 (C0.2.2.2.2.2.2.2.2.2.2.2.2 1 (by decide)) dX5_readCrossing_123 ?_
            refine lv_iconst (v := 0) hx hb dX5_readCrossing_125 (by decide) ?_
            refine lv_bipush (v := 100) hx hb dX5_readCrossing_126 (by decide) ?_
            refine k_ji hP hD hS hA [10, 11] [0, 1, 2, 3, 4, 5, 6, 7, 8, 9] (wr := [(a_arg0, .inr (4, [.int J18_c1_0, .int J18_c1_1, .int J18_c1_2, .int J18_c1_3, .int J18_c1_4, .int 0, .int J18_c1_6, .ref a_arg0_calm, .ref a_arg0_pace, .ref a_arg0_trusts, .int J18_c1_10, .ref a_arg0_kindOf, .ref a_arg0_comesAt, .ref a_arg0_comers, .ref a_arg0_names, .ref a_arg0_code, .int J18_c1_16, .ref a_arg0_spans])), (a_arg0_comers, .inl (cy 0, 200, .inl J18_a2)), (a_arg0_spans, .inl (cy 0, 6, .inl J18_a3)), (a_arg0_names, .inl (cy 0, 108, .inl J18_a5)), (a_arg0_calm, .inl (cy 0, 6, .inl J18_a6)), (a_arg0_pace, .inl (cy 0, 6, .inl J18_a7)), (a_arg0_trusts, .inl (cy 0, 6, .inl J18_a8)), (a_arg0_kindOf, .inl (cy 0, 12, .inl J18_a9)), (a_arg0_comesAt, .inl (cy 0, 12, .inl J18_a10)), (a_arg0_code, .inl (cy 0, 1600, .inl J18_a11))]) rfl rfl (by decide) (by decide) (by decide) 0 0 (Nat.le_of_ble_eq_true rfl) (Nat.le_of_ble_eq_true rfl) (fun hPc hDc => k_runV (As := [.ref (sq 1), .int 0, .int 100]) (rest := [.ref a_arg0]) C0 hZ hS hA (s_X5_numberBehind_a1_0_a2_100_s1 l dC dI cy sq a_this a_this_text g_this_text J18_c0_1 J18_c0_2 J18_c0_3 J18_c0_4 J18_c0_5 a_arg0 J18_c0_7 J18_c0_8 hg_this_text (ib_w 0 1600 hJ18_c0_1 (by decide)) (ib_w 0 1600 h28 (by decide)) (ib_w 0 1600 hJ18_c0_3 (by decide)) (ib_w 0 4 h27 (by decide)) (fun _ => ib_w 0 1599 h28 (by decide))) mV_X5_70 hPc hDc rfl rfl rfl hl rfl rfl (Nat.le_of_ble_eq_true rfl) ⟨(Nat.le_of_ble_eq_true rfl), (Nat.le_of_ble_eq_true rfl)⟩ ⟨(Nat.le_of_ble_eq_true rfl), (Nat.le_of_ble_eq_true rfl)⟩ dX5_readCrossing_128) (fun r130 u131 H locs hw hP hD hS => ?_)
            obtain ⟨v132, v133, v134, v135, v136⟩ := u131
            try dsimp only at hP hD hw
            have hP : va_P (dC, dI) vwCl [(a_arg0, .inr (4, [.int J18_c1_0, .int J18_c1_1, .int J18_c1_2, .int J18_c1_3, .int J18_c1_4, .int 0, .int J18_c1_6, .ref a_arg0_calm, .ref a_arg0_pace, .ref a_arg0_trusts, .int J18_c1_10, .ref a_arg0_kindOf, .ref a_arg0_comesAt, .ref a_arg0_comers, .ref a_arg0_names, .ref a_arg0_code, .int J18_c1_16, .ref a_arg0_spans])), (a_arg0_comers, .inl (cy 0, 200, .inl J18_a2)), (a_arg0_spans, .inl (cy 0, 6, .inl J18_a3)), (a_arg0_names, .inl (cy 0, 108, .inl J18_a5)), (a_arg0_calm, .inl (cy 0, 6, .inl J18_a6)), (a_arg0_pace, .inl (cy 0, 6, .inl J18_a7)), (a_arg0_trusts, .inl (cy 0, 6, .inl J18_a8)), (a_arg0_kindOf, .inl (cy 0, 12, .inl J18_a9)), (a_arg0_comesAt, .inl (cy 0, 12, .inl J18_a10)), (a_arg0_code, .inl (cy 0, 1600, .inl J18_a11)), (a_this, .inr (5, [.ref a_this_text, .int J18_c0_1, .int v132, .int v133, .int v134, .int J18_c0_5, .ref a_arg0, .int v135, .int v136])), (a_this_text, .inl (cy 0, 1600, .inl g_this_text))] H := hP
            have hD : va_D A [(a_arg0, .inr (4, [.int J18_c1_0, .int J18_c1_1, .int J18_c1_2, .int J18_c1_3, .int J18_c1_4, .int 0, .int J18_c1_6, .ref a_arg0_calm, .ref a_arg0_pace, .ref a_arg0_trusts, .int J18_c1_10, .ref a_arg0_kindOf, .ref a_arg0_comesAt, .ref a_arg0_comers, .ref a_arg0_names, .ref a_arg0_code, .int J18_c1_16, .ref a_arg0_spans])), (a_arg0_comers, .inl (cy 0, 200, .inl J18_a2)), (a_arg0_spans, .inl (cy 0, 6, .inl J18_a3)), (a_arg0_names, .inl (cy 0, 108, .inl J18_a5)), (a_arg0_calm, .inl (cy 0, 6, .inl J18_a6)), (a_arg0_pace, .inl (cy 0, 6, .inl J18_a7)), (a_arg0_trusts, .inl (cy 0, 6, .inl J18_a8)), (a_arg0_kindOf, .inl (cy 0, 12, .inl J18_a9)), (a_arg0_comesAt, .inl (cy 0, 12, .inl J18_a10)), (a_arg0_code, .inl (cy 0, 1600, .inl J18_a11)), (a_this, .inr (5, [.ref a_this_text, .int J18_c0_1, .int v132, .int v133, .int v134, .int J18_c0_5, .ref a_arg0, .int v135, .int v136])), (a_this_text, .inl (cy 0, 1600, .inl g_this_text))] := hD
            obtain ⟨h137, h138, h139, h140, h141⟩ := hw
            refine k_put C0 fp_X5_74 hP hD hS 0 rfl rfl rfl (Nat.le_of_ble_eq_true rfl) dX5_readCrossing_131 (fun H locs hP hD hS => ?_)
            have hP : va_P (dC, dI) vwCl [(a_arg0, .inr (4, [.int J18_c1_0, .int J18_c1_1, .int J18_c1_2, .int J18_c1_3, .int r130, .int 0, .int J18_c1_6, .ref a_arg0_calm, .ref a_arg0_pace, .ref a_arg0_trusts, .int J18_c1_10, .ref a_arg0_kindOf, .ref a_arg0_comesAt, .ref a_arg0_comers, .ref a_arg0_names, .ref a_arg0_code, .int J18_c1_16, .ref a_arg0_spans])), (a_arg0_comers, .inl (cy 0, 200, .inl J18_a2)), (a_arg0_spans, .inl (cy 0, 6, .inl J18_a3)), (a_arg0_names, .inl (cy 0, 108, .inl J18_a5)), (a_arg0_calm, .inl (cy 0, 6, .inl J18_a6)), (a_arg0_pace, .inl (cy 0, 6, .inl J18_a7)), (a_arg0_trusts, .inl (cy 0, 6, .inl J18_a8)), (a_arg0_kindOf, .inl (cy 0, 12, .inl J18_a9)), (a_arg0_comesAt, .inl (cy 0, 12, .inl J18_a10)), (a_arg0_code, .inl (cy 0, 1600, .inl J18_a11)), (a_this, .inr (5, [.ref a_this_text, .int J18_c0_1, .int v132, .int v133, .int v134, .int J18_c0_5, .ref a_arg0, .int v135, .int v136])), (a_this_text, .inl (cy 0, 1600, .inl g_this_text))] H := hP
            have hD : va_D A [(a_arg0, .inr (4, [.int J18_c1_0, .int J18_c1_1, .int J18_c1_2, .int J18_c1_3, .int r130, .int 0, .int J18_c1_6, .ref a_arg0_calm, .ref a_arg0_pace, .ref a_arg0_trusts, .int J18_c1_10, .ref a_arg0_kindOf, .ref a_arg0_comesAt, .ref a_arg0_comers, .ref a_arg0_names, .ref a_arg0_code, .int J18_c1_16, .ref a_arg0_spans])), (a_arg0_comers, .inl (cy 0, 200, .inl J18_a2)), (a_arg0_spans, .inl (cy 0, 6, .inl J18_a3)), (a_arg0_names, .inl (cy 0, 108, .inl J18_a5)), (a_arg0_calm, .inl (cy 0, 6, .inl J18_a6)), (a_arg0_pace, .inl (cy 0, 6, .inl J18_a7)), (a_arg0_trusts, .inl (cy 0, 6, .inl J18_a8)), (a_arg0_kindOf, .inl (cy 0, 12, .inl J18_a9)), (a_arg0_comesAt, .inl (cy 0, 12, .inl J18_a10)), (a_arg0_code, .inl (cy 0, 1600, .inl J18_a11)), (a_this, .inr (5, [.ref a_this_text, .int J18_c0_1, .int v132, .int v133, .int v134, .int J18_c0_5, .ref a_arg0, .int v135, .int v136])), (a_this_text, .inl (cy 0, 1600, .inl g_this_text))] := hD
            refine lv_goto (tgt := 146) hx hb dX5_readCrossing_134 (by decide) ?_
            exact jn146 v132 v133 v134 v135 v136 J18_c1_6 J18_a5 J18_a6 J18_a7 J18_a8 J18_c1_10 J18_a2 J18_a9 J18_a10 J18_c0_5 J18_c1_16 J18_a3 J18_a11 r130 H locs ls (ib_w 1 79 h33 (by decide)) (ib_w 0 1600 hJ18_c0_1 (by decide)) (ib_w 0 1600 h138 (by decide)) (ib_w 0 1600 h139 (by decide)) (ib_w 0 4 h140 (by decide)) (ib_w 10 120 hJ18_c1_0 (by decide)) (ib_w 1 2147483647 hJ18_c1_1 (by decide)) (ib_w 0 2 hJ18_c1_2 (by decide)) (ib_w 0 99 hJ18_c1_3 (by decide)) (ib_w 0 6 hJ18_c1_6 (by decide)) (ib_w 0 12 hJ18_c1_10 (by decide)) (ib_w 0 1600 hJ18_c1_16 (by decide)) (ib_w 0 100 h137 (by decide)) hJ18_a9 hJ18_a10 hJ18_a3 (fun hq9 => ib_w 0 1599 (h141 hq9) (by decide)) (hP.sub [10, 0, 1, 2, 11, 3, 4, 5, 6, 7, 8, 9] rfl) (hD.sub [10, 0, 1, 2, 11, 3, 4, 5, 6, 7, 8, 9] (by decide) rfl) hS (lv_sub hl [0, 1, 2, 3] rfl)
          refine lv_tableOut (tgt := 137) hx hb dX5_readCrossing_37 (by have q0 := ib_nei 0 0 (by decide) s36_0; have q1 := ib_nei 1 1 (by decide) s36_1; have q2 := ib_nei 2 2 (by decide) s36_2; have q3 := ib_nei 3 3 (by decide) s36_3; have q4 := ib_nei 4 4 (by decide) s36_4; have q5 := ib_nei 5 5 (by decide) s36_5; omega) (by decide) ?_
          refine lv_aload_n hx hb dX5_readCrossing_137 rfl (lv_at hl 0 rfl) ?_
          refine lv_iconst (v := 1) hx hb dX5_readCrossing_138 (by decide) ?_
          refine lv_aload_n hx hb dX5_readCrossing_139 rfl (lv_at hl 0 rfl) ?_
          refine k_get C0 fg_X5_15 hP 10 rfl rfl dX5_readCrossing_140 ?_
          refine k_jv hP hD hS hA [10] [0, 1, 2, 3, 4, 5, 6, 7, 8, 9, 11] (wr := [(a_arg0, .inr (4, [.int J18_c1_0, .int J18_c1_1, .int J18_c1_2, .int J18_c1_3, .int J18_c1_4, .int 0, .int J18_c1_6, .ref a_arg0_calm, .ref a_arg0_pace, .ref a_arg0_trusts, .int J18_c1_10, .ref a_arg0_kindOf, .ref a_arg0_comesAt, .ref a_arg0_comers, .ref a_arg0_names, .ref a_arg0_code, .int J18_c1_16, .ref a_arg0_spans])), (a_arg0_comers, .inl (cy 0, 200, .inl J18_a2)), (a_arg0_spans, .inl (cy 0, 6, .inl J18_a3)), (a_arg0_names, .inl (cy 0, 108, .inl J18_a5)), (a_arg0_calm, .inl (cy 0, 6, .inl J18_a6)), (a_arg0_pace, .inl (cy 0, 6, .inl J18_a7)), (a_arg0_trusts, .inl (cy 0, 6, .inl J18_a8)), (a_arg0_kindOf, .inl (cy 0, 12, .inl J18_a9)), (a_arg0_comesAt, .inl (cy 0, 12, .inl J18_a10)), (a_arg0_code, .inl (cy 0, 1600, .inl J18_a11)), (a_this_text, .inl (cy 0, 1600, .inl g_this_text))]) rfl rfl (by decide) (by decide) (by decide) 0 0 (Nat.le_of_ble_eq_true rfl) (Nat.le_of_ble_eq_true rfl) (fun hPc hDc => k_runV (As := [.int 1, .int J18_c0_2]) (rest := []) C0 hZ hS hA (s_X5_fail l dC dI cy sq a_this a_this_text J18_c0_1 J18_c0_2 J18_c0_3 J18_c0_4 J18_c0_5 a_arg0 J18_c0_7 J18_c0_8 1 J18_c0_2 ) mV_X5_78 hPc hDc rfl rfl rfl hl rfl rfl (Nat.le_of_ble_eq_true rfl) ⟨(Nat.le_of_ble_eq_true rfl), (Nat.le_of_ble_eq_true rfl)⟩ ⟨(Nat.le_of_ble_eq_true rfl), (Nat.le_of_ble_eq_true rfl)⟩ dX5_readCrossing_143) (fun u143 H locs hw hP hD hS => ?_)
          obtain ⟨v144, v145⟩ := u143
          try dsimp only at hP hD hw
          have hP : va_P (dC, dI) vwCl [(a_arg0, .inr (4, [.int J18_c1_0, .int J18_c1_1, .int J18_c1_2, .int J18_c1_3, .int J18_c1_4, .int 0, .int J18_c1_6, .ref a_arg0_calm, .ref a_arg0_pace, .ref a_arg0_trusts, .int J18_c1_10, .ref a_arg0_kindOf, .ref a_arg0_comesAt, .ref a_arg0_comers, .ref a_arg0_names, .ref a_arg0_code, .int J18_c1_16, .ref a_arg0_spans])), (a_arg0_comers, .inl (cy 0, 200, .inl J18_a2)), (a_arg0_spans, .inl (cy 0, 6, .inl J18_a3)), (a_arg0_names, .inl (cy 0, 108, .inl J18_a5)), (a_arg0_calm, .inl (cy 0, 6, .inl J18_a6)), (a_arg0_pace, .inl (cy 0, 6, .inl J18_a7)), (a_arg0_trusts, .inl (cy 0, 6, .inl J18_a8)), (a_arg0_kindOf, .inl (cy 0, 12, .inl J18_a9)), (a_arg0_comesAt, .inl (cy 0, 12, .inl J18_a10)), (a_arg0_code, .inl (cy 0, 1600, .inl J18_a11)), (a_this_text, .inl (cy 0, 1600, .inl g_this_text)), (a_this, .inr (5, [.ref a_this_text, .int J18_c0_1, .int J18_c0_1, .int J18_c0_1, .int 0, .int J18_c0_5, .ref a_arg0, .int v144, .int v145]))] H := hP
          have hD : va_D A [(a_arg0, .inr (4, [.int J18_c1_0, .int J18_c1_1, .int J18_c1_2, .int J18_c1_3, .int J18_c1_4, .int 0, .int J18_c1_6, .ref a_arg0_calm, .ref a_arg0_pace, .ref a_arg0_trusts, .int J18_c1_10, .ref a_arg0_kindOf, .ref a_arg0_comesAt, .ref a_arg0_comers, .ref a_arg0_names, .ref a_arg0_code, .int J18_c1_16, .ref a_arg0_spans])), (a_arg0_comers, .inl (cy 0, 200, .inl J18_a2)), (a_arg0_spans, .inl (cy 0, 6, .inl J18_a3)), (a_arg0_names, .inl (cy 0, 108, .inl J18_a5)), (a_arg0_calm, .inl (cy 0, 6, .inl J18_a6)), (a_arg0_pace, .inl (cy 0, 6, .inl J18_a7)), (a_arg0_trusts, .inl (cy 0, 6, .inl J18_a8)), (a_arg0_kindOf, .inl (cy 0, 12, .inl J18_a9)), (a_arg0_comesAt, .inl (cy 0, 12, .inl J18_a10)), (a_arg0_code, .inl (cy 0, 1600, .inl J18_a11)), (a_this_text, .inl (cy 0, 1600, .inl g_this_text)), (a_this, .inr (5, [.ref a_this_text, .int J18_c0_1, .int J18_c0_1, .int J18_c0_1, .int 0, .int J18_c0_5, .ref a_arg0, .int v144, .int v145]))] := hD
          exact jn146 J18_c0_1 J18_c0_1 0 v144 v145 J18_c1_6 J18_a5 J18_a6 J18_a7 J18_a8 J18_c1_10 J18_a2 J18_a9 J18_a10 J18_c0_5 J18_c1_16 J18_a3 J18_a11 J18_c1_4 H locs ls (ib_w 1 79 h33 (by decide)) (ib_w 0 1600 hJ18_c0_1 (by decide)) (ib_w 0 1600 hJ18_c0_1 (by decide)) (ib_w 0 1600 hJ18_c0_1 (by decide)) (ib_w 0 4 (ib_c 0 0 0 (by decide)) (by decide)) (ib_w 10 120 hJ18_c1_0 (by decide)) (ib_w 1 2147483647 hJ18_c1_1 (by decide)) (ib_w 0 2 hJ18_c1_2 (by decide)) (ib_w 0 99 hJ18_c1_3 (by decide)) (ib_w 0 6 hJ18_c1_6 (by decide)) (ib_w 0 12 hJ18_c1_10 (by decide)) (ib_w 0 1600 hJ18_c1_16 (by decide)) (ib_w 0 100 hJ18_c1_4 (by decide)) hJ18_a9 hJ18_a10 hJ18_a3 (fun hq9 => absurd rfl hq9) (hP.sub [11, 0, 1, 2, 10, 3, 4, 5, 6, 7, 8, 9] rfl) (hD.sub [11, 0, 1, 2, 10, 3, 4, 5, 6, 7, 8, 9] (by decide) rfl) hS (lv_sub hl [0, 1, 2, 3] rfl)
  refine lv_aload_n hx hb dX5_readCrossing_0 rfl (lv_at hl 0 rfl) ?_
  refine lv_aload_n hx hb dX5_readCrossing_1 rfl (lv_at hl 1 rfl) ?_
  refine lv_iload_n hx hb dX5_readCrossing_2 rfl (lv_at hl 2 rfl) ?_
  refine k_jv hP hD hS hA [0, 1, 2, 3, 4] [5, 6, 7, 8, 9, 10, 11] (wr := [(a_arg0_names, .inl (cy 0, 108, .inl g_arg0_names)), (a_arg0_calm, .inl (cy 0, 6, .inl g_arg0_calm)), (a_arg0_pace, .inl (cy 0, 6, .inl g_arg0_pace)), (a_arg0_trusts, .inl (cy 0, 6, .inl g_arg0_trusts)), (a_arg0_kindOf, .inl (cy 0, 12, .inl g_arg0_kindOf)), (a_arg0_comesAt, .inl (cy 0, 12, .inl g_arg0_comesAt)), (a_arg0_code, .inl (cy 0, 1600, .inl g_arg0_code))]) rfl rfl (by decide) (by decide) (by decide) 0 0 (Nat.le_of_ble_eq_true rfl) (Nat.le_of_ble_eq_true rfl) (fun hPc hDc => k_runV (As := [.ref a_arg0, .int p1]) (rest := []) C0 hZ hS hA (s_X5_begin l dC dI cy sq a_this a_this_text g_this_text x_this_length x_this_at x_this_behind x_this_sort x_this_allowed a_this_plan x_this_fault x_this_place a_arg0 x_arg0_cycle x_arg0_green x_arg0_rule x_arg0_least x_arg0_away x_arg0_statements x_arg0_kinds a_arg0_calm a_arg0_pace a_arg0_trusts x_arg0_walkers a_arg0_kindOf a_arg0_comesAt a_arg0_comers g_arg0_comers a_arg0_names a_arg0_code x_arg0_size a_arg0_spans g_arg0_spans p1 hg_this_text hg_arg0_spans (ib_w 0 1600 hp1 (by decide))) mV_X5_41 hPc hDc rfl rfl rfl hl rfl rfl (Nat.le_of_ble_eq_true rfl) ⟨(Nat.le_of_ble_eq_true rfl), (Nat.le_of_ble_eq_true rfl)⟩ ⟨(Nat.le_of_ble_eq_true rfl), (Nat.le_of_ble_eq_true rfl)⟩ dX5_readCrossing_3) (fun u147 H locs hw hP hD hS => ?_)
  obtain ⟨v148, v149, v150, v151, f152, f153⟩ := u147
  try dsimp only at hP hD hw
  have hP : va_P (dC, dI) vwCl [(a_arg0_names, .inl (cy 0, 108, .inl g_arg0_names)), (a_arg0_calm, .inl (cy 0, 6, .inl g_arg0_calm)), (a_arg0_pace, .inl (cy 0, 6, .inl g_arg0_pace)), (a_arg0_trusts, .inl (cy 0, 6, .inl g_arg0_trusts)), (a_arg0_kindOf, .inl (cy 0, 12, .inl g_arg0_kindOf)), (a_arg0_comesAt, .inl (cy 0, 12, .inl g_arg0_comesAt)), (a_arg0_code, .inl (cy 0, 1600, .inl g_arg0_code)), (a_this, .inr (5, [.ref a_this_text, .int v148, .int v149, .int v150, .int v151, .int x_this_allowed, .ref a_arg0, .int 0, .int (-1)])), (a_arg0, .inr (4, [.int 0, .int x_arg0_green, .int x_arg0_rule, .int x_arg0_least, .int 0, .int 0, .int 0, .ref a_arg0_calm, .ref a_arg0_pace, .ref a_arg0_trusts, .int 0, .ref a_arg0_kindOf, .ref a_arg0_comesAt, .ref a_arg0_comers, .ref a_arg0_names, .ref a_arg0_code, .int 0, .ref a_arg0_spans])), (a_arg0_comers, .inl (cy 0, 200, .inl f152)), (a_arg0_spans, .inl (cy 0, 6, .inl f153)), (a_this_text, .inl (cy 0, 1600, .inl g_this_text))] H := hP
  have hD : va_D A [(a_arg0_names, .inl (cy 0, 108, .inl g_arg0_names)), (a_arg0_calm, .inl (cy 0, 6, .inl g_arg0_calm)), (a_arg0_pace, .inl (cy 0, 6, .inl g_arg0_pace)), (a_arg0_trusts, .inl (cy 0, 6, .inl g_arg0_trusts)), (a_arg0_kindOf, .inl (cy 0, 12, .inl g_arg0_kindOf)), (a_arg0_comesAt, .inl (cy 0, 12, .inl g_arg0_comesAt)), (a_arg0_code, .inl (cy 0, 1600, .inl g_arg0_code)), (a_this, .inr (5, [.ref a_this_text, .int v148, .int v149, .int v150, .int v151, .int x_this_allowed, .ref a_arg0, .int 0, .int (-1)])), (a_arg0, .inr (4, [.int 0, .int x_arg0_green, .int x_arg0_rule, .int x_arg0_least, .int 0, .int 0, .int 0, .ref a_arg0_calm, .ref a_arg0_pace, .ref a_arg0_trusts, .int 0, .ref a_arg0_kindOf, .ref a_arg0_comesAt, .ref a_arg0_comers, .ref a_arg0_names, .ref a_arg0_code, .int 0, .ref a_arg0_spans])), (a_arg0_comers, .inl (cy 0, 200, .inl f152)), (a_arg0_spans, .inl (cy 0, 6, .inl f153)), (a_this_text, .inl (cy 0, 1600, .inl g_this_text))] := hD
  obtain ⟨h154, h155, h156, h157, h158, h159⟩ := hw
  refine lv_aload_n hx hb dX5_readCrossing_6 rfl (lv_at hl 0 rfl) ?_
  refine k_jv hP hD hS hA [7, 11, 8] [0, 1, 2, 3, 4, 5, 6, 9, 10] (wr := [(a_arg0_names, .inl (cy 0, 108, .inl g_arg0_names)), (a_arg0_calm, .inl (cy 0, 6, .inl g_arg0_calm)), (a_arg0_pace, .inl (cy 0, 6, .inl g_arg0_pace)), (a_arg0_trusts, .inl (cy 0, 6, .inl g_arg0_trusts)), (a_arg0_kindOf, .inl (cy 0, 12, .inl g_arg0_kindOf)), (a_arg0_comesAt, .inl (cy 0, 12, .inl g_arg0_comesAt)), (a_arg0_code, .inl (cy 0, 1600, .inl g_arg0_code)), (a_arg0_comers, .inl (cy 0, 200, .inl f152)), (a_arg0_spans, .inl (cy 0, 6, .inl f153))]) rfl rfl (by decide) (by decide) (by decide) 0 0 (Nat.le_of_ble_eq_true rfl) (Nat.le_of_ble_eq_true rfl) (fun hPc hDc => k_runV (As := []) (rest := []) C0 hZ hS hA (s_X5_firstStatement l dC dI cy sq a_this a_this_text g_this_text v148 v149 v150 v151 x_this_allowed a_arg0 0 x_arg0_green x_arg0_rule x_arg0_least 0 0 0 a_arg0_calm a_arg0_pace a_arg0_trusts 0 a_arg0_kindOf a_arg0_comesAt a_arg0_comers a_arg0_names a_arg0_code 0 a_arg0_spans 0 (-1) hg_this_text (ib_w 0 1600 h154 (by decide)) (ib_w 0 1600 h155 (by decide)) (ib_w 0 1600 h156 (by decide)) (ib_w 0 4 h157 (by decide)) (fun hq9 => ib_w 0 1599 (h159 hq9) (by decide))) mV_X5_45 hPc hDc rfl rfl rfl hl rfl rfl (Nat.le_of_ble_eq_true rfl) ⟨(Nat.le_of_ble_eq_true rfl), (Nat.le_of_ble_eq_true rfl)⟩ ⟨(Nat.le_of_ble_eq_true rfl), (Nat.le_of_ble_eq_true rfl)⟩ dX5_readCrossing_7) (fun u161 H locs hw hP hD hS => ?_)
  obtain ⟨v162, v163, v164, v165, v166, v167, v168, v169, v170⟩ := u161
  try dsimp only at hP hD hw
  have hP : va_P (dC, dI) vwCl [(a_arg0_names, .inl (cy 0, 108, .inl g_arg0_names)), (a_arg0_calm, .inl (cy 0, 6, .inl g_arg0_calm)), (a_arg0_pace, .inl (cy 0, 6, .inl g_arg0_pace)), (a_arg0_trusts, .inl (cy 0, 6, .inl g_arg0_trusts)), (a_arg0_kindOf, .inl (cy 0, 12, .inl g_arg0_kindOf)), (a_arg0_comesAt, .inl (cy 0, 12, .inl g_arg0_comesAt)), (a_arg0_code, .inl (cy 0, 1600, .inl g_arg0_code)), (a_arg0_comers, .inl (cy 0, 200, .inl f152)), (a_arg0_spans, .inl (cy 0, 6, .inl f153)), (a_this, .inr (5, [.ref a_this_text, .int v148, .int v162, .int v163, .int v164, .int x_this_allowed, .ref a_arg0, .int v165, .int v166])), (a_this_text, .inl (cy 0, 1600, .inl g_this_text)), (a_arg0, .inr (4, [.int v167, .int v168, .int v169, .int v170, .int 0, .int 0, .int 0, .ref a_arg0_calm, .ref a_arg0_pace, .ref a_arg0_trusts, .int 0, .ref a_arg0_kindOf, .ref a_arg0_comesAt, .ref a_arg0_comers, .ref a_arg0_names, .ref a_arg0_code, .int 0, .ref a_arg0_spans]))] H := hP
  have hD : va_D A [(a_arg0_names, .inl (cy 0, 108, .inl g_arg0_names)), (a_arg0_calm, .inl (cy 0, 6, .inl g_arg0_calm)), (a_arg0_pace, .inl (cy 0, 6, .inl g_arg0_pace)), (a_arg0_trusts, .inl (cy 0, 6, .inl g_arg0_trusts)), (a_arg0_kindOf, .inl (cy 0, 12, .inl g_arg0_kindOf)), (a_arg0_comesAt, .inl (cy 0, 12, .inl g_arg0_comesAt)), (a_arg0_code, .inl (cy 0, 1600, .inl g_arg0_code)), (a_arg0_comers, .inl (cy 0, 200, .inl f152)), (a_arg0_spans, .inl (cy 0, 6, .inl f153)), (a_this, .inr (5, [.ref a_this_text, .int v148, .int v162, .int v163, .int v164, .int x_this_allowed, .ref a_arg0, .int v165, .int v166])), (a_this_text, .inl (cy 0, 1600, .inl g_this_text)), (a_arg0, .inr (4, [.int v167, .int v168, .int v169, .int v170, .int 0, .int 0, .int 0, .ref a_arg0_calm, .ref a_arg0_pace, .ref a_arg0_trusts, .int 0, .ref a_arg0_kindOf, .ref a_arg0_comesAt, .ref a_arg0_comers, .ref a_arg0_names, .ref a_arg0_code, .int 0, .ref a_arg0_spans]))] := hD
  obtain ⟨h171, h172, h173, h174, h175, h176, h177, h178⟩ := hw
  refine lv_aload_n hx hb dX5_readCrossing_10 rfl (lv_at hl 0 rfl) ?_
  refine lv_bipush (v := 59) hx hb dX5_readCrossing_11 (by decide) ?_
  refine k_jv hP hD hS hA [9, 10] [0, 1, 2, 3, 4, 5, 6, 7, 8, 11] (wr := [(a_arg0_names, .inl (cy 0, 108, .inl g_arg0_names)), (a_arg0_calm, .inl (cy 0, 6, .inl g_arg0_calm)), (a_arg0_pace, .inl (cy 0, 6, .inl g_arg0_pace)), (a_arg0_trusts, .inl (cy 0, 6, .inl g_arg0_trusts)), (a_arg0_kindOf, .inl (cy 0, 12, .inl g_arg0_kindOf)), (a_arg0_comesAt, .inl (cy 0, 12, .inl g_arg0_comesAt)), (a_arg0_code, .inl (cy 0, 1600, .inl g_arg0_code)), (a_arg0_comers, .inl (cy 0, 200, .inl f152)), (a_arg0_spans, .inl (cy 0, 6, .inl f153)), (a_arg0, .inr (4, [.int v167, .int v168, .int v169, .int v170, .int 0, .int 0, .int 0, .ref a_arg0_calm, .ref a_arg0_pace, .ref a_arg0_trusts, .int 0, .ref a_arg0_kindOf, .ref a_arg0_comesAt, .ref a_arg0_comers, .ref a_arg0_names, .ref a_arg0_code, .int 0, .ref a_arg0_spans]))]) rfl rfl (by decide) (by decide) (by decide) 0 0 (Nat.le_of_ble_eq_true rfl) (Nat.le_of_ble_eq_true rfl) (fun hPc hDc => k_runV (As := [.int 59]) (rest := []) C0 hZ hS hA (s_X5_need l dC dI cy sq a_this a_this_text g_this_text v148 v162 v163 v164 x_this_allowed a_arg0 v165 v166 59 hg_this_text (ib_w 0 1600 h154 (by decide)) (ib_w 0 1600 h171 (by decide)) (ib_w 0 1600 h172 (by decide)) (ib_w 0 4 h173 (by decide)) (fun hq9 => ib_w 0 1599 (h178 hq9) (by decide))) mV_X5_48 hPc hDc rfl rfl rfl hl rfl rfl (Nat.le_of_ble_eq_true rfl) ⟨(Nat.le_of_ble_eq_true rfl), (Nat.le_of_ble_eq_true rfl)⟩ ⟨(Nat.le_of_ble_eq_true rfl), (Nat.le_of_ble_eq_true rfl)⟩ dX5_readCrossing_13) (fun u180 H locs hw hP hD hS => ?_)
  obtain ⟨v181, v182, v183, v184, v185⟩ := u180
  try dsimp only at hP hD hw
  have hP : va_P (dC, dI) vwCl [(a_arg0_names, .inl (cy 0, 108, .inl g_arg0_names)), (a_arg0_calm, .inl (cy 0, 6, .inl g_arg0_calm)), (a_arg0_pace, .inl (cy 0, 6, .inl g_arg0_pace)), (a_arg0_trusts, .inl (cy 0, 6, .inl g_arg0_trusts)), (a_arg0_kindOf, .inl (cy 0, 12, .inl g_arg0_kindOf)), (a_arg0_comesAt, .inl (cy 0, 12, .inl g_arg0_comesAt)), (a_arg0_code, .inl (cy 0, 1600, .inl g_arg0_code)), (a_arg0_comers, .inl (cy 0, 200, .inl f152)), (a_arg0_spans, .inl (cy 0, 6, .inl f153)), (a_arg0, .inr (4, [.int v167, .int v168, .int v169, .int v170, .int 0, .int 0, .int 0, .ref a_arg0_calm, .ref a_arg0_pace, .ref a_arg0_trusts, .int 0, .ref a_arg0_kindOf, .ref a_arg0_comesAt, .ref a_arg0_comers, .ref a_arg0_names, .ref a_arg0_code, .int 0, .ref a_arg0_spans])), (a_this, .inr (5, [.ref a_this_text, .int v148, .int v181, .int v182, .int v183, .int x_this_allowed, .ref a_arg0, .int v184, .int v185])), (a_this_text, .inl (cy 0, 1600, .inl g_this_text))] H := hP
  have hD : va_D A [(a_arg0_names, .inl (cy 0, 108, .inl g_arg0_names)), (a_arg0_calm, .inl (cy 0, 6, .inl g_arg0_calm)), (a_arg0_pace, .inl (cy 0, 6, .inl g_arg0_pace)), (a_arg0_trusts, .inl (cy 0, 6, .inl g_arg0_trusts)), (a_arg0_kindOf, .inl (cy 0, 12, .inl g_arg0_kindOf)), (a_arg0_comesAt, .inl (cy 0, 12, .inl g_arg0_comesAt)), (a_arg0_code, .inl (cy 0, 1600, .inl g_arg0_code)), (a_arg0_comers, .inl (cy 0, 200, .inl f152)), (a_arg0_spans, .inl (cy 0, 6, .inl f153)), (a_arg0, .inr (4, [.int v167, .int v168, .int v169, .int v170, .int 0, .int 0, .int 0, .ref a_arg0_calm, .ref a_arg0_pace, .ref a_arg0_trusts, .int 0, .ref a_arg0_kindOf, .ref a_arg0_comesAt, .ref a_arg0_comers, .ref a_arg0_names, .ref a_arg0_code, .int 0, .ref a_arg0_spans])), (a_this, .inr (5, [.ref a_this_text, .int v148, .int v181, .int v182, .int v183, .int x_this_allowed, .ref a_arg0, .int v184, .int v185])), (a_this_text, .inl (cy 0, 1600, .inl g_this_text))] := hD
  obtain ⟨h186, h187, h188, h189⟩ := hw
  refine lv_iconst (v := 1) hx hb dX5_readCrossing_16 (by decide) ?_
  refine lv_istore_n (lv' := [(3, .int 1), (0, .ref a_this), (1, .ref a_arg0), (2, .int p1)]) hx hb dX5_readCrossing_17 rfl hl (by decide) rfl (fun ls hl => ?_)
  exact jn18 81 v148 v181 v182 v183 v184 v185 v167 v168 v169 v170 f152 f153 1 x_this_allowed 0 0 0 0 g_arg0_names g_arg0_calm g_arg0_pace g_arg0_trusts g_arg0_kindOf g_arg0_comesAt g_arg0_code H locs ls (ib_w 0 1600 h154 (by decide)) (ib_w 0 1600 h186 (by decide)) (ib_w 0 1600 h187 (by decide)) (ib_w 0 4 h188 (by decide)) (ib_w 10 120 h174 (by decide)) (ib_w 1 2147483647 h175 (by decide)) (ib_w 0 2 h176 (by decide)) (ib_w 0 99 h177 (by decide)) (ib_w 1 80 (ib_c 1 1 1 (by decide)) (by decide)) (ib_w 0 100 (ib_c 0 0 0 (by decide)) (by decide)) (ib_w 0 6 (ib_c 0 0 0 (by decide)) (by decide)) (ib_w 0 12 (ib_c 0 0 0 (by decide)) (by decide)) (ib_w 0 1600 (ib_c 0 0 0 (by decide)) (by decide)) h158 hg_arg0_kindOf hg_arg0_comesAt (fun hq9 => ib_w 0 1599 (h189 hq9) (by decide)) (by have := (ib_c 1 1 1 (by decide)); unfold ib at this; omega) (hP.sub [10, 9, 7, 8, 11, 0, 1, 2, 3, 4, 5, 6] rfl) (hD.sub [10, 9, 7, 8, 11, 0, 1, 2, 3, 4, 5, 6] (by decide) rfl) hS (lv_sub hl [1, 2, 3, 0] rfl)
